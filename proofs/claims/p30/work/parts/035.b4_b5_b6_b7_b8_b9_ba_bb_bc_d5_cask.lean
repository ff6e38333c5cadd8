set_option maxRecDepth 16384
/-! a purchase, a meeting -/
def tmB (x : Int32) : Int32 := if x ≤ 6 then 0 else x - 6
def tkB (s : Nat → Int32) (n : Nat) : Nat → Int32 := upd (upd (upd (upd s 11 (s 11 - s (56 + n))) (12 + 4 * n) (tmB (s (12 + 4 * n)))) (13 + 4 * n) (s (13 + 4 * n) + s (56 + n))) (15 + 4 * n) (s 10)
def mtB (s : Nat → Int32) (n : Nat) : Nat → Int32 := upd (upd s (14 + 4 * n) (s (14 + 4 * n) + 1)) (15 + 4 * n) (s 10)
theorem tk_no {s : Nat → Int32} {n k : Nat} (h1 : k ≠ 11) (h2 : k ≠ 12 + 4 * n) (h3 : k ≠ 13 + 4 * n) (h4 : k ≠ 15 + 4 * n) : tkB s n k = s k := by
  unfold tkB
  rw [upd_ne h4, upd_ne h3, upd_ne h2, upd_ne h1]
theorem tk_11 {s : Nat → Int32} {n : Nat} : tkB s n 11 = s 11 - s (56 + n) := by
  unfold tkB
  rw [upd_ne (by omega), upd_ne (by omega), upd_ne (by omega), upd_at]
theorem tk_12 {s : Nat → Int32} {n : Nat} : tkB s n (12 + 4 * n) = tmB (s (12 + 4 * n)) := by
  unfold tkB
  rw [upd_ne (by omega), upd_ne (by omega), upd_at]
theorem tk_13 {s : Nat → Int32} {n : Nat} : tkB s n (13 + 4 * n) = s (13 + 4 * n) + s (56 + n) := by
  unfold tkB
  rw [upd_ne (by omega), upd_at]
theorem tk_15 {s : Nat → Int32} {n : Nat} : tkB s n (15 + 4 * n) = s 10 := by
  unfold tkB
  rw [upd_at]
theorem mt_no {s : Nat → Int32} {n k : Nat} (h1 : k ≠ 14 + 4 * n) (h2 : k ≠ 15 + 4 * n) : mtB s n k = s k := by
  unfold mtB
  rw [upd_ne h2, upd_ne h1]
theorem mt_14 {s : Nat → Int32} {n : Nat} : mtB s n (14 + 4 * n) = s (14 + 4 * n) + 1 := by
  unfold mtB
  rw [upd_ne (by omega), upd_at]
theorem mt_15 {s : Nat → Int32} {n : Nat} : mtB s n (15 + 4 * n) = s 10 := by
  unfold mtB
  rw [upd_at]
theorem takes_eq {s : Nat → Int32} {b : Int32} (h6 : 0 ≤ b.toInt ∧ b.toInt < 6) (hn : b.toInt.toNat < 6) : dX12_takes s b = tkB s b.toInt.toNat := by
  unfold dX12_takes
  rw [c12 h6, c13 h6, c15 h6, c56 h6, cl_l11, cl_l10]
  generalize b.toInt.toNat = n at hn
  have e1 : ∀ X, upd s 11 X (12 + 4 * n) = s (12 + 4 * n) := fun X => upd_ne (by omega)
  have e2 : ∀ X Y, upd (upd s 11 X) (12 + 4 * n) Y (13 + 4 * n) = s (13 + 4 * n) := fun X Y => by rw [upd_ne (by omega), upd_ne (by omega)]
  have e3 : ∀ X Y, upd (upd s 11 X) (12 + 4 * n) Y (56 + n) = s (56 + n) := fun X Y => by rw [upd_ne (by omega), upd_ne (by omega)]
  have e4 : ∀ X Y Z, upd (upd (upd s 11 X) (12 + 4 * n) Y) (13 + 4 * n) Z 10 = s 10 := fun X Y Z => by rw [upd_ne (by omega), upd_ne (by omega), upd_ne (by omega)]
  simp only [e1, e2, e3, e4]
  unfold tkB tmB
  by_cases z : s (12 + 4 * n) ≤ 6
  · rw [if_pos z, if_pos z]
  · rw [if_neg z, if_neg z]
theorem comes_eq {s : Nat → Int32} {g b : Int32} (h6 : 0 ≤ b.toInt ∧ b.toInt < 6) (hn : b.toInt.toNat < 6) : dX12_comes s g b = if dX12_isMet s g b = 0 then (1, tkB s b.toInt.toNat) else (0, mtB s b.toInt.toNat) := by
  unfold dX12_comes
  rw [takes_eq h6 hn, c14 h6, c15 h6, cl_l10]
  unfold mtB
  rw [upd_ne (f := s) (show (10 : Nat) ≠ 14 + 4 * b.toInt.toNat by omega)]
theorem sumB_tk {s : Nat → Int32} {n : Nat} (hn : n < 6) : ∀ m, sumB (tkB s n) m = if n < m then sumB s m + s (56 + n) else sumB s m
  | 0 => by rw [if_neg (by omega)]; rfl
  | m + 1 => by
    show sumB (tkB s n) m + tkB s n (13 + 4 * m) = if n < m + 1 then sumB s m + s (13 + 4 * m) + s (56 + n) else sumB s m + s (13 + 4 * m)
    rw [sumB_tk hn m]
    by_cases z : m = n
    · rw [z, tk_13, if_neg (by omega), if_pos (by omega), Int32.add_assoc]
    · rw [tk_no (by omega) (by omega) (by omega) (by omega)]
      by_cases y : n < m
      · rw [if_pos y, if_pos (by omega), Int32.add_assoc, Int32.add_comm (s (56 + n)), ← Int32.add_assoc]
      · rw [if_neg y, if_neg (by omega)]
theorem sumB_mt {s : Nat → Int32} {n : Nat} : ∀ m, sumB (mtB s n) m = sumB s m
  | 0 => rfl
  | m + 1 => by
    show sumB (mtB s n) m + mtB s n (13 + 4 * m) = sumB s m + s (13 + 4 * m)
    rw [sumB_mt m, mt_no (by omega) (by omega)]
/-- what stays while buyers come -/
def StL (s t : Nat → Int32) : Prop := ∀ k : Nat, (k < 11 ∨ 36 ≤ k) → t k = s k
theorem StL.rf {s : Nat → Int32} : StL s s := fun _ _ => rfl
theorem StL.tr {s t u : Nat → Int32} (h : StL s t) (h2 : StL t u) : StL s u := fun k hk => (h2 k hk).trans (h k hk)
theorem StL.tk {s : Nat → Int32} {n : Nat} (hn : n < 6) : StL s (tkB s n) := fun k hk => tk_no (by omega) (by omega) (by omega) (by omega)
theorem StL.mt {s : Nat → Int32} {n : Nat} (hn : n < 6) : StL s (mtB s n) := fun k hk => mt_no (by omega) (by omega)
theorem StL.clock {s t : Nat → Int32} (h : StL s t) : dX12_clock t = dX12_clock s := by
  unfold dX12_clock dX12_isBook
  rw [cl_l0, cl_l10, cl_l2, h 0 (by omega), h 10 (by omega), h 2 (by omega)]
section STEP
variable {v0 v1 v2 v3 v4 v5 : Int32} {f1 f2 f3 f4 f5 f6 f7 f8 s : Nat → Int32}
theorem ShR.takes (h : ShR v0 v1 v2 v3 v4 v5 f1 f2 f3 f4 f5 f6 f7 f8 s) (g : Gs s) {b : Int32} (hb : 0 ≤ b.toInt ∧ b.toInt < (s 3).toInt) : dX9_handOver f3 f4 f6 f8 v0 v3 v4 v5 b = (s 11 - s (56 + b.toInt.toNat), v5 + s (56 + b.toInt.toNat), upd f3 b.toInt.toNat (tmB (s (12 + 4 * b.toInt.toNat))), upd f6 b.toInt.toNat (s (13 + 4 * b.toInt.toNat) + s (56 + b.toInt.toNat)), upd f8 b.toInt.toNat (s 10)) ∧ ShR (s 11 - s (56 + b.toInt.toNat)) v1 v2 v3 v4 (v5 + s (56 + b.toInt.toNat)) f1 f2 (upd f3 b.toInt.toNat (tmB (s (12 + 4 * b.toInt.toNat)))) f4 f5 (upd f6 b.toInt.toNat (s (13 + 4 * b.toInt.toNat) + s (56 + b.toInt.toNat))) f7 (upd f8 b.toInt.toNat (s 10)) (tkB s b.toInt.toNat) := by
  have hn : b.toInt.toNat < 6 := by have := g.1.2.2.1; omega
  obtain ⟨a3, a4, a5, a6, a7, a8⟩ := h.2.2 _ hn
  have ht := (g.2 _ hn).1
  have hh : dX9_hasBuyer v3 b = 1 := by rw [h.1.2.2.2.1]; exact hasB hb g.1.2.2.1.2
  refine ⟨?_, ?_, ?_, ?_⟩
  · unfold dX9_handOver
    rw [hh, if_neg one_ne, cl_b (b := b), a3, a4, a6, h.1.1, h.1.2.2.2.2.1]
    have e6 : (s (12 + 4 * b.toInt.toNat) - 6).toInt = (s (12 + 4 * b.toInt.toNat)).toInt - 6 := by rw [sub_toInt (by rw [t_6]; omega) (by rw [t_6]; omega), t_6]
    have e : (if (0 : Int32) < s (12 + 4 * b.toInt.toNat) - 6 then s (12 + 4 * b.toInt.toNat) - 6 else 0) = tmB (s (12 + 4 * b.toInt.toNat)) := by
      unfold tmB
      by_cases z : s (12 + 4 * b.toInt.toNat) ≤ 6
      · rw [if_pos z, if_neg (by rw [i32_lt, t_0, e6]; rw [i32_leq, t_6] at z; omega)]
      · rw [if_neg z, if_pos (by rw [i32_lt, t_0, e6]; rw [i32_leq, t_6] at z; omega)]
    rw [e]
  · refine ⟨tk_11.symm, ?_, ?_, ?_, ?_, ?_⟩
    · rw [tk_no (by omega) (by omega) (by omega) (by omega)]; exact h.1.2.1
    · rw [tk_no (by omega) (by omega) (by omega) (by omega)]; exact h.1.2.2.1
    · rw [tk_no (by omega) (by omega) (by omega) (by omega)]; exact h.1.2.2.2.1
    · rw [tk_no (by omega) (by omega) (by omega) (by omega)]; exact h.1.2.2.2.2.1
    · rw [tk_no (k := 3) (by omega) (by omega) (by omega) (by omega), sumB_tk hn, if_pos (by omega), h.1.2.2.2.2.2]
  · intro k hk
    rw [tk_no (by omega) (by omega) (by omega) (by omega), tk_no (by omega) (by omega) (by omega) (by omega)]
    exact h.2.1 k hk
  · intro k hk
    obtain ⟨c3, c4, c5, c6, c7, c8⟩ := h.2.2 k hk
    by_cases z : k = b.toInt.toNat
    · subst z
      refine ⟨by rw [upd_at, tk_12], ?_, ?_, by rw [upd_at, tk_13], ?_, by rw [upd_at, tk_15]⟩
      · rw [tk_no (by omega) (by omega) (by omega) (by omega)]; exact c4
      · rw [tk_no (by omega) (by omega) (by omega) (by omega)]; exact c5
      · rw [tk_no (by omega) (by omega) (by omega) (by omega)]; exact c7
    · rw [upd_ne z, upd_ne z, upd_ne z, tk_no (k := 12 + 4 * k) (by omega) (by omega) (by omega) (by omega), tk_no (k := 56 + k) (by omega) (by omega) (by omega) (by omega), tk_no (k := 62 + k) (by omega) (by omega) (by omega) (by omega), tk_no (k := 13 + 4 * k) (by omega) (by omega) (by omega) (by omega), tk_no (k := 14 + 4 * k) (by omega) (by omega) (by omega) (by omega), tk_no (k := 15 + 4 * k) (by omega) (by omega) (by omega) (by omega)]
      exact ⟨c3, c4, c5, c6, c7, c8⟩
theorem ShR.meets (h : ShR v0 v1 v2 v3 v4 v5 f1 f2 f3 f4 f5 f6 f7 f8 s) {n : Nat} (hn : n < 6) : ShR v0 v1 v2 v3 v4 v5 f1 f2 f3 f4 f5 f6 (upd f7 n (s (14 + 4 * n) + 1)) (upd f8 n (s 10)) (mtB s n) := by
  refine ⟨⟨?_, ?_, ?_, ?_, ?_, ?_⟩, ?_, ?_⟩
  · rw [mt_no (by omega) (by omega)]; exact h.1.1
  · rw [mt_no (by omega) (by omega)]; exact h.1.2.1
  · rw [mt_no (by omega) (by omega)]; exact h.1.2.2.1
  · rw [mt_no (by omega) (by omega)]; exact h.1.2.2.2.1
  · rw [mt_no (by omega) (by omega)]; exact h.1.2.2.2.2.1
  · rw [mt_no (k := 3) (by omega) (by omega), sumB_mt]; exact h.1.2.2.2.2.2
  · intro k hk
    rw [mt_no (by omega) (by omega), mt_no (by omega) (by omega)]
    exact h.2.1 k hk
  · intro k hk
    obtain ⟨c3, c4, c5, c6, c7, c8⟩ := h.2.2 k hk
    by_cases z : k = n
    · subst z
      rw [mt_no (k := 12 + 4 * k) (by omega) (by omega), mt_no (k := 56 + k) (by omega) (by omega), mt_no (k := 62 + k) (by omega) (by omega), mt_no (k := 13 + 4 * k) (by omega) (by omega)]
      exact ⟨c3, c4, c5, c6, by rw [upd_at, mt_14], by rw [upd_at, mt_15]⟩
    · rw [upd_ne z, upd_ne z, mt_no (k := 12 + 4 * k) (by omega) (by omega), mt_no (k := 56 + k) (by omega) (by omega), mt_no (k := 62 + k) (by omega) (by omega), mt_no (k := 13 + 4 * k) (by omega) (by omega), mt_no (k := 14 + 4 * k) (by omega) (by omega), mt_no (k := 15 + 4 * k) (by omega) (by omega)]
      exact ⟨c3, c4, c5, c6, c7, c8⟩
end STEP
theorem tm_rg {x : Int32} (h : 0 ≤ x.toInt ∧ x.toInt ≤ 20) : 0 ≤ (tmB x).toInt ∧ (tmB x).toInt ≤ 20 := by
  unfold tmB
  by_cases z : x ≤ 6
  · rw [if_pos z, t_0]; omega
  · rw [if_neg z, sub_toInt (by rw [t_6]; omega) (by rw [t_6]; omega), t_6]
    rw [i32_leq, t_6] at z
    omega
theorem Gs.takes {s : Nat → Int32} (g : Gs s) {n : Nat} (hn : n < 6) (hc : s (56 + n) ≤ s 11) : Gs (tkB s n) := by
  have hg := (g.2 n hn).2.2
  have hs := g.1.2.2.2.2.1
  rw [i32_leq] at hc
  have e : (s 11 - s (56 + n)).toInt = (s 11).toInt - (s (56 + n)).toInt := sub_toInt (by omega) (by omega)
  refine ⟨?_, ?_⟩
  · rw [tk_11, tk_no (k := 0) (by omega) (by omega) (by omega) (by omega), tk_no (k := 2) (by omega) (by omega) (by omega) (by omega), tk_no (k := 3) (by omega) (by omega) (by omega) (by omega), tk_no (k := 1) (by omega) (by omega) (by omega) (by omega), tk_no (k := 10) (by omega) (by omega) (by omega) (by omega), e]
    exact ⟨g.1.1, g.1.2.1, g.1.2.2.1, g.1.2.2.2.1, by omega, g.1.2.2.2.2.2⟩
  · intro k hk
    obtain ⟨c1, c2, c3⟩ := g.2 k hk
    rw [tk_no (k := 10) (by omega) (by omega) (by omega) (by omega), tk_no (k := 56 + k) (by omega) (by omega) (by omega) (by omega)]
    by_cases z : k = n
    · subst z
      rw [tk_12, tk_15]
      have := g.1.2.2.2.2.2
      exact ⟨tm_rg c1, by omega, c3⟩
    · rw [tk_no (k := 12 + 4 * k) (by omega) (by omega) (by omega) (by omega), tk_no (k := 15 + 4 * k) (by omega) (by omega) (by omega) (by omega)]
      exact ⟨c1, c2, c3⟩
theorem Gs.meets {s : Nat → Int32} (g : Gs s) {n : Nat} (hn : n < 6) : Gs (mtB s n) := by
  refine ⟨?_, ?_⟩
  · rw [mt_no (k := 0) (by omega) (by omega), mt_no (k := 2) (by omega) (by omega), mt_no (k := 3) (by omega) (by omega), mt_no (k := 1) (by omega) (by omega), mt_no (k := 10) (by omega) (by omega), mt_no (k := 11) (by omega) (by omega)]
    exact g.1
  · intro k hk
    obtain ⟨c1, c2, c3⟩ := g.2 k hk
    rw [mt_no (k := 10) (by omega) (by omega), mt_no (k := 56 + k) (by omega) (by omega), mt_no (k := 12 + 4 * k) (by omega) (by omega)]
    by_cases z : k = n
    · subst z
      rw [mt_15]
      have := g.1.2.2.2.2.2
      exact ⟨c1, by omega, c3⟩
    · rw [mt_no (k := 15 + 4 * k) (by omega) (by omega)]
      exact ⟨c1, c2, c3⟩
/-- by the reference's own word one can buy: enough is there -/
theorem can_le {s : Nat → Int32} {b : Int32} (h6 : 0 ≤ b.toInt ∧ b.toInt < 6) (h : ¬ dX12_canBuy s b = 0) : s (56 + b.toInt.toNat) ≤ s 11 := by
  unfold dX12_canBuy at h
  rw [c56 h6, cl_l11] at h
  by_cases z : s 11 < s (56 + b.toInt.toNat)
  · exact absurd (if_pos z) h
  · exact Int32.not_lt.mp z
theorem and1 (x : Int32) : (x &&& 1) = 0 ∨ (x &&& 1) = 1 := by
  have h := Jvm.Kit.i32_mask x 1 (k := 1) (by decide) (by decide)
  have e : (2 : Int) ^ 1 = 2 := by decide
  rw [e] at h
  have : (x &&& 1).toInt = 0 ∨ (x &&& 1).toInt = 1 := by omega
  rcases this with z | z
  · exact Or.inl (Int32.toInt_inj.mp (by rw [z]; decide))
  · exact Or.inr (Int32.toInt_inj.mp (by rw [z]; decide))
theorem isOf_0 {k : Int32} : dX12_isOf 0 k = 0 := by
  unfold dX12_isOf
  rw [Int32.zero_shiftRight, Int32.zero_and, if_neg (by decide)]
theorem met_eq {s : Nat → Int32} (g : Gs s) {b : Int32} : dX12_isMet s 0 b = 0 ↔ ((s (46 + (dX12_clock s).toInt.toNat) >>> (b &&& 31)) &&& 1) = 0 := by
  obtain ⟨-, -, h0, -, h10⟩ := clk g
  unfold dX12_isMet
  rw [isOf_0, if_pos rfl, c46 ⟨h0, h10⟩]
  unfold dX12_isOf
  rcases and1 (s (46 + (dX12_clock s).toInt.toNat) >>> (b &&& 31)) with z | z
  · rw [z, if_neg (show ¬ (0 : Int32) = 1 by decide), if_pos rfl]
  · rw [z, if_pos rfl, if_neg one_ne]
theorem will_n {g2 g4 g5 s : Nat → Int32} {g8 g9 : Nat → Int64} {top fo b : Int32} (hf : fo.toInt < 0) : dX12_isWilling g2 g4 g5 s g8 g9 top fo b = (if (dX12_temperOf s b + s ((36 : Int32) + dX12_clock s).toNatClampNeg) < 12 then 0 else 1, top, g8, g9) := by
  unfold dX12_isWilling
  rw [if_neg (by rw [i32_leq, t_0]; omega)]
  by_cases z : dX12_temperOf s b + s ((36 : Int32) + dX12_clock s).toNatClampNeg < 12
  · rw [if_pos z, if_pos z]
  · rw [if_neg z, if_neg z]
abbrev PsT := Int32 × Int32 × (Nat → Int64) × (Nat → Int64) × (Nat → Int32) × Int32
def PsE (v1 v2 v3 v4 : Int32) (f1 f2 f4 f5 s0 : Nat → Int32) (who v0 v5 : Int32) (f3 f6 f8 f7 : Nat → Int32) (P : PsT) : Prop := ShR v0 v1 v2 v3 v4 v5 f1 f2 f3 f4 f5 f6 f7 f8 P.2.2.2.2.1 ∧ Gs P.2.2.2.2.1 ∧ who = P.2.2.2.2.2 ∧ StL s0 P.2.2.2.2.1
theorem day_n {v1 v2 v3 v4 st po fo : Int32} {f1 f2 f4 f5 g2 g4 g5 s0 : Nat → Int32} (hf : fo.toInt < 0) : ∀ (n : Nat) (b who v0 v5 top : Int32) (f3 f6 f8 f7 s : Nat → Int32) (g8 g9 : Nat → Int64), ShR v0 v1 v2 v3 v4 v5 f1 f2 f3 f4 f5 f6 f7 f8 s → Gs s → StL s0 s → st = s0 (36 + (dX12_clock s0).toInt.toNat) → po = s0 (46 + (dX12_clock s0).toInt.toNat) → 0 ≤ b.toInt → b.toInt ≤ (s 3).toInt → (s 3).toInt - b.toInt < (n : Int) →
    (∃ w a0 a5 a3 a6 a8 a7 z, dX9_goThroughDay_n_l44 f4 f5 v3 v4 st po n b who v0 v5 f3 f6 f8 f7 = (z, w, a0, a5, a3, a6, a8, a7) ∧ PsE v1 v2 v3 v4 f1 f2 f4 f5 s0 w a0 a5 a3 a6 a8 a7 (dX12_passes_l4 g2 g4 g5 fo 0 n b top g8 g9 s who))
  | 0, b, who, v0, v5, top, f3, f6, f8, f7, s, g8, g9, h, g, hst, es, ep, h0, h1, hn => by omega
  | n + 1, b, who, v0, v5, top, f3, f6, f8, f7, s, g8, g9, h, g, hst, es, ep, h0, h1, hn => by
    have g3 := g.1.2.2.1
    have ec := hst.clock
    obtain ⟨-, -, k0, -, k10⟩ := clk g
    rw [dX9_goThroughDay_n_l44_s, dX12_passes_l4_s, cl_l3]
    by_cases z : s 3 ≤ b
    · rw [if_pos (show v3 ≤ b by rw [h.1.2.2.2.1]; exact z), if_pos z]
      exact ⟨_, _, _, _, _, _, _, _, rfl, h, g, rfl, hst⟩
    · have hb : b.toInt < (s 3).toInt := by rw [i32_leq] at z; omega
      have h6 : 0 ≤ b.toInt ∧ b.toInt < 6 := by omega
      have hn6 : b.toInt.toNat < 6 := by omega
      have e1 : (b + 1).toInt = b.toInt + 1 := by rw [ix_k rfl t_1 (by omega)]
      obtain ⟨a3, -, -, -, a7, -⟩ := h.2.2 _ hn6
      rw [if_neg (show ¬ v3 ≤ b by rw [h.1.2.2.2.1]; exact z), if_neg (show ¬ (6 : Int32) ≤ b by rw [i32_leq, t_6]; omega), if_neg z, h.can g ⟨h0, hb⟩, will_n hf, rd_temper h6, c36 ⟨k0, k10⟩, cl_b (b := b), a3]
      have es2 : st = s (36 + (dX12_clock s).toInt.toNat) := by rw [es, ec, hst _ (by omega)]
      have ep2 : po = s (46 + (dX12_clock s).toInt.toNat) := by rw [ep, ec, hst _ (by omega)]
      rw [← es2]
      by_cases zc : dX12_canBuy s b = 0
      · rw [if_pos zc, if_pos zc]
        exact day_n hf n (b + 1) who v0 v5 _ f3 f6 f8 f7 s _ _ h g hst es ep (by omega) (by omega) (by omega)
      · rw [if_neg zc, if_neg zc]
        by_cases zw : s (12 + 4 * b.toInt.toNat) + st < 12
        · rw [if_pos zw, if_pos zw, if_pos rfl]
          exact day_n hf n (b + 1) who v0 v5 _ f3 f6 f8 f7 s _ _ h g hst es ep (by omega) (by omega) (by omega)
        · rw [if_neg zw, if_neg zw, if_neg one_ne, comes_eq h6 hn6]
          by_cases zm : dX12_isMet s 0 b = 0
          · have zp : ((po >>> (b &&& 31)) &&& 1) = 0 := by rw [ep2]; exact (met_eq g).mp zm
            obtain ⟨t1, t2⟩ := h.takes g ⟨h0, hb⟩
            rw [if_pos zm, if_pos zp, if_neg one_ne, t1]
            have hs3 : tkB s b.toInt.toNat 3 = s 3 := tk_no (by omega) (by omega) (by omega) (by omega)
            exact day_n hf n (b + 1) _ _ _ _ _ _ _ f7 (tkB s b.toInt.toNat) _ _ t2 (g.takes hn6 (can_le h6 zc)) (hst.tr (StL.tk hn6)) es ep (by omega) (by rw [hs3]; omega) (by rw [hs3]; omega)
          · have zp : ¬ ((po >>> (b &&& 31)) &&& 1) = 0 := by rw [ep2]; exact fun y => zm ((met_eq g).mpr y)
            rw [if_neg zm, if_neg zp, if_pos rfl, a7]
            have hs3 : mtB s b.toInt.toNat 3 = s 3 := mt_no (by omega) (by omega)
            have h' := h.meets hn6
            rw [← h.1.2.2.2.2.1] at h'
            exact day_n hf n (b + 1) who v0 v5 _ f3 f6 _ _ (mtB s b.toInt.toNat) _ _ h' (g.meets hn6) (hst.tr (StL.mt hn6)) es ep (by omega) (by rw [hs3]; omega) (by rw [hs3]; omega)
def wtB (st x : Int32) : Int32 := if st < 5 then (if 2 < st then x else if x ≤ 0 then x - 0 else x - 1) else if 20 ≤ x then x + 0 else x + 1
def mrB (st : Int32) : Int32 := if st < 5 then (if 2 < st then 0 else -1) else 1
def ctB (m x : Int32) : Int32 := if (0 : Int32) < (if (x + m) < (20 : Int32) then (x + m) else (20 : Int32)) then (if (x + m) < (20 : Int32) then (x + m) else (20 : Int32)) else (0 : Int32)
theorem t_20 : (20 : Int32).toInt = 20 := by decide
theorem wt_eq {st x : Int32} (h : 0 ≤ x.toInt ∧ x.toInt ≤ 20) : ctB (mrB st) x = wtB st x ∧ 0 ≤ (wtB st x).toInt ∧ (wtB st x).toInt ≤ 20 := by
  have e0 : (x + 0).toInt = x.toInt := by rw [ix_k rfl t_0 (by omega)]; omega
  have e1 : (x + 1).toInt = x.toInt + 1 := by rw [ix_k rfl t_1 (by omega)]
  have em : (x + -1).toInt = x.toInt - 1 := by rw [ix_k rfl t_m1 (by omega)]; omega
  have s0 : (x - 0).toInt = x.toInt := by rw [sub_toInt (by rw [t_0]; omega) (by rw [t_0]; omega), t_0]; omega
  have s1 : (x - 1).toInt = x.toInt - 1 := by rw [sub_toInt (by rw [t_1]; omega) (by rw [t_1]; omega), t_1]
  unfold ctB wtB mrB
  by_cases a : st < 5
  · rw [if_pos a, if_pos a]
    by_cases b : 2 < st
    · rw [if_pos b, if_pos b]
      refine ⟨?_, h⟩
      by_cases c : x + 0 < (20 : Int32)
      · rw [if_pos c]
        by_cases d : (0 : Int32) < x + 0
        · rw [if_pos d]; exact Int32.toInt_inj.mp e0
        · rw [if_neg d]
          rw [i32_lt, t_0, e0] at d
          exact Int32.toInt_inj.mp (by rw [t_0]; omega)
      · rw [if_neg c, if_pos (by decide)]
        rw [i32_lt, t_20, e0] at c
        exact Int32.toInt_inj.mp (by rw [t_20]; omega)
    · rw [if_neg b, if_neg b]
      have c : x + -1 < (20 : Int32) := by rw [i32_lt, t_20, em]; omega
      rw [if_pos c]
      by_cases d : x ≤ 0
      · rw [if_pos d, if_neg (by rw [i32_lt, t_0, em]; rw [i32_leq, t_0] at d; omega)]
        rw [i32_leq, t_0] at d
        exact ⟨Int32.toInt_inj.mp (by rw [s0, t_0]; omega), by rw [s0]; omega⟩
      · rw [if_neg d]
        rw [i32_leq, t_0] at d
        refine ⟨?_, by rw [s1]; omega⟩
        by_cases e : (0 : Int32) < x + -1
        · rw [if_pos e]; exact Int32.toInt_inj.mp (by rw [em, s1])
        · rw [if_neg e]
          rw [i32_lt, t_0, em] at e
          exact Int32.toInt_inj.mp (by rw [t_0, s1]; omega)
  · rw [if_neg a, if_neg a]
    by_cases d : (20 : Int32) ≤ x
    · rw [if_pos d, if_neg (show ¬ x + 1 < (20 : Int32) by rw [i32_lt, t_20, e1]; rw [i32_leq, t_20] at d; omega), if_pos (show (0 : Int32) < 20 by decide)]
      rw [i32_leq, t_20] at d
      exact ⟨Int32.toInt_inj.mp (by rw [t_20, e0]; omega), by rw [e0]; omega⟩
    · rw [if_neg d]
      rw [i32_leq, t_20] at d
      refine ⟨?_, by rw [e1]; omega⟩
      by_cases c : x + 1 < (20 : Int32)
      · rw [if_pos c, if_pos (by rw [i32_lt, t_0, e1]; omega)]
      · rw [if_neg c, if_pos (by decide)]
        rw [i32_lt, t_20, e1] at c
        exact Int32.toInt_inj.mp (by rw [t_20, e1]; omega)
def WtE (s : Nat → Int32) (f3 t : Nat → Int32) : Prop := (∀ k : Nat, k < 6 → f3 k = t (12 + 4 * k)) ∧ (∀ k : Nat, (∀ j : Nat, j < 6 → k ≠ 12 + 4 * j) → t k = s k) ∧ ∀ k : Nat, k < 6 → 0 ≤ (t (12 + 4 * k)).toInt ∧ (t (12 + 4 * k)).toInt ≤ 20
theorem weath {st : Int32} {v3 : Int32} {s : Nat → Int32} (h3 : v3 = s 3) (h36 : 0 ≤ (s 3).toInt ∧ (s 3).toInt ≤ 6) : ∀ (n : Nat) (b : Int32) (f3 t : Nat → Int32), WtE s f3 t → 0 ≤ b.toInt → b.toInt ≤ (s 3).toInt → (s 3).toInt - b.toInt < (n : Int) → WtE s (dX9_changeTempers_l22 v3 (mrB st) n b f3).2 (dX12_weathers_l15 st n b t).2
  | 0, b, f3, t, h, h0, h1, hn => by omega
  | n + 1, b, f3, t, h, h0, h1, hn => by
    have et3 : t 3 = s 3 := h.2.1 3 (fun j hj => by omega)
    rw [dX9_changeTempers_l22_s, dX12_weathers_l15_s, cl_l3, et3, h3]
    by_cases z : s 3 ≤ b
    · rw [if_pos z, if_pos z]
      exact h
    · have hb : b.toInt < (s 3).toInt := by rw [i32_leq] at z; omega
      have h6 : 0 ≤ b.toInt ∧ b.toInt < 6 := by omega
      have hn6 : b.toInt.toNat < 6 := by omega
      have e1 : (b + 1).toInt = b.toInt + 1 := by rw [ix_k rfl t_1 (by omega)]
      rw [if_neg z, if_neg z, if_neg (show ¬ (6 : Int32) ≤ b by rw [i32_leq, t_6]; omega), c12 h6, cl_b (b := b)]
      have ea := h.1 _ hn6
      obtain ⟨w1, w2⟩ := wt_eq (st := st) (h.2.2 _ hn6)
      have key : WtE s (upd f3 b.toInt.toNat (ctB (mrB st) (f3 b.toInt.toNat))) (upd t (12 + 4 * b.toInt.toNat) (wtB st (t (12 + 4 * b.toInt.toNat)))) := by
        refine ⟨fun k hk => ?_, fun k hk => ?_, fun k hk => ?_⟩
        · by_cases y : k = b.toInt.toNat
          · rw [y, upd_at, upd_at, ea, w1]
          · rw [upd_ne y, upd_ne (by omega)]; exact h.1 k hk
        · rw [upd_ne (hk _ hn6)]; exact h.2.1 k hk
        · by_cases y : k = b.toInt.toNat
          · rw [y, upd_at]; exact w2
          · rw [upd_ne (by omega)]; exact h.2.2 k hk
      have hm : ∀ t', t' = upd t (12 + 4 * b.toInt.toNat) (wtB st (t (12 + 4 * b.toInt.toNat))) → WtE s (dX9_changeTempers_l22 (s 3) (mrB st) n (b + 1) (upd f3 b.toInt.toNat (ctB (mrB st) (f3 b.toInt.toNat)))).2 (dX12_weathers_l15 st n (b + 1) t').2 := fun t' et => by
        rw [et]
        exact weath rfl h36 n (b + 1) _ _ key (by omega) (by omega) (by omega)
      have hk0 : wtB st (t (12 + 4 * b.toInt.toNat)) = t (12 + 4 * b.toInt.toNat) → t = upd t (12 + 4 * b.toInt.toNat) (wtB st (t (12 + 4 * b.toInt.toNat))) := fun e => by
        rw [e]
        funext k
        by_cases y : k = 12 + 4 * b.toInt.toNat
        · rw [y, upd_at]
        · rw [upd_ne y]
      show WtE s (dX9_changeTempers_l22 (s 3) (mrB st) n (b + 1) (upd f3 b.toInt.toNat (ctB (mrB st) (f3 b.toInt.toNat)))).2 _
      by_cases a : st < 5
      · rw [if_pos a]
        by_cases c : 2 < st
        · rw [if_pos c]
          exact hm t (hk0 (by unfold wtB; rw [if_pos a, if_pos c]))
        · rw [if_neg c]
          by_cases d : t (12 + 4 * b.toInt.toNat) ≤ 0
          · rw [if_pos d]; exact hm _ (by unfold wtB; rw [if_pos a, if_neg c, if_pos d])
          · rw [if_neg d]; exact hm _ (by unfold wtB; rw [if_pos a, if_neg c, if_neg d])
      · rw [if_neg a]
        by_cases d : (20 : Int32) ≤ t (12 + 4 * b.toInt.toNat)
        · rw [if_pos d]; exact hm _ (by unfold wtB; rw [if_neg a, if_pos d])
        · rw [if_neg d]; exact hm _ (by unfold wtB; rw [if_neg a, if_neg d])
theorem change_eq {f3 : Nat → Int32} {v3 st : Int32} : dX9_changeTempers f3 v3 st = (dX9_changeTempers_l22 v3 (mrB st) ((6 - (0 : Int32).toInt).toNat + 1) 0 f3).2 := by
  unfold dX9_changeTempers mrB
  by_cases a : st < 5
  · rw [if_pos a, if_pos a]
    by_cases c : 2 < st
    · rw [if_pos c, if_pos c]
    · rw [if_neg c, if_neg c]
  · rw [if_neg a, if_neg a]
theorem weath_all {f3 s : Nat → Int32} {v3 : Int32} (g : Gs s) (h3 : v3 = s 3) (hf : ∀ k : Nat, k < 6 → f3 k = s (12 + 4 * k)) : WtE s (dX9_changeTempers f3 v3 (s (36 + (dX12_clock s).toInt.toNat))) (dX12_weathers s) := by
  obtain ⟨-, -, k0, -, k10⟩ := clk g
  have g3 := g.1.2.2.1
  rw [change_eq]
  unfold dX12_weathers
  rw [c36 ⟨k0, k10⟩]
  refine weath h3 g3 _ 0 f3 s ⟨hf, fun _ _ => rfl, fun k hk => (g.2 k hk).1⟩ (by decide) (by rw [t_0]; omega) ?_
  rw [t_0]
  show (s 3).toInt - 0 < (((6 - 0 : Int).toNat + 1 : Nat) : Int)
  omega
theorem cmp0 {b : Int64} : (lg_cmp b 0 = 0) ↔ b = 0 := lg_cmp_eq b 0
theorem joined_eq {x : Int32} {a b : Int64} : dX6_joined x a b = ev_j x.toInt a b := by
  by_cases h16 : x = -16
  · subst h16
    unfold dX6_joined
    rw [if_pos (show ((-16) : Int32) = (-16) from rfl), show ((-16) : Int32).toInt = -16 by decide]
    unfold ev_j
    rw [if_neg (show ¬ ((-16) : Int) = (-12) by decide), if_neg (show ¬ ((-16) : Int) = (-13) by decide), if_neg (show ¬ ((-16) : Int) = (-14) by decide), if_neg (show ¬ ((-16) : Int) = (-15) by decide), if_pos (show ((-16) : Int) = (-16) from rfl)]
    by_cases z : b = 0
    · rw [if_pos z, if_pos (cmp0.mpr z)]
    · rw [if_neg z, if_neg (fun y => z (cmp0.mp y))]
  by_cases h15 : x = -15
  · subst h15
    unfold dX6_joined
    rw [if_neg (show ¬ ((-15) : Int32) = (-16) by decide), if_pos (show ((-15) : Int32) = (-15) from rfl), show ((-15) : Int32).toInt = -15 by decide]
    unfold ev_j
    rw [if_neg (show ¬ ((-15) : Int) = (-12) by decide), if_neg (show ¬ ((-15) : Int) = (-13) by decide), if_neg (show ¬ ((-15) : Int) = (-14) by decide), if_pos (show ((-15) : Int) = (-15) from rfl)]
    by_cases z : b = 0
    · rw [if_pos z, if_pos (cmp0.mpr z)]
    · rw [if_neg z, if_neg (fun y => z (cmp0.mp y))]
  by_cases h14 : x = -14
  · subst h14
    unfold dX6_joined
    rw [if_neg (show ¬ ((-14) : Int32) = (-16) by decide), if_neg (show ¬ ((-14) : Int32) = (-15) by decide), if_pos (show ((-14) : Int32) = (-14) from rfl), show ((-14) : Int32).toInt = -14 by decide]
    unfold ev_j
    rw [if_neg (show ¬ ((-14) : Int) = (-12) by decide), if_neg (show ¬ ((-14) : Int) = (-13) by decide), if_pos (show ((-14) : Int) = (-14) from rfl)]
  by_cases h13 : x = -13
  · subst h13
    unfold dX6_joined
    rw [if_neg (show ¬ ((-13) : Int32) = (-16) by decide), if_neg (show ¬ ((-13) : Int32) = (-15) by decide), if_neg (show ¬ ((-13) : Int32) = (-14) by decide), if_pos (show ((-13) : Int32) = (-13) from rfl), show ((-13) : Int32).toInt = -13 by decide]
    unfold ev_j
    rw [if_neg (show ¬ ((-13) : Int) = (-12) by decide), if_pos (show ((-13) : Int) = (-13) from rfl)]
  by_cases h12 : x = -12
  · subst h12
    unfold dX6_joined
    rw [if_neg (show ¬ ((-12) : Int32) = (-16) by decide), if_neg (show ¬ ((-12) : Int32) = (-15) by decide), if_neg (show ¬ ((-12) : Int32) = (-14) by decide), if_neg (show ¬ ((-12) : Int32) = (-13) by decide), if_pos (show ((-12) : Int32) = (-12) from rfl), show ((-12) : Int32).toInt = -12 by decide]
    unfold ev_j
    rw [if_pos (show ((-12) : Int) = (-12) from rfl)]
  have hj : dX6_joined x a b = if dX6_holds x a b = 0 then 0 else 1 := by
    unfold dX6_joined
    rw [if_neg h16, if_neg h15, if_neg h14, if_neg h13, if_neg h12]
  rw [hj]
  by_cases h11 : x = -11
  · subst h11
    unfold dX6_holds
    rw [if_pos (show ((-11) : Int32) = (-11) from rfl), show ((-11) : Int32).toInt = -11 by decide]
    unfold ev_j
    rw [if_neg (show ¬ ((-11) : Int) = (-12) by decide), if_neg (show ¬ ((-11) : Int) = (-13) by decide), if_neg (show ¬ ((-11) : Int) = (-14) by decide), if_neg (show ¬ ((-11) : Int) = (-15) by decide), if_neg (show ¬ ((-11) : Int) = (-16) by decide), if_neg (show ¬ ((-11) : Int) = (-5) by decide), if_neg (show ¬ ((-11) : Int) = (-6) by decide), if_neg (show ¬ ((-11) : Int) = (-7) by decide), if_neg (show ¬ ((-11) : Int) = (-8) by decide), if_neg (show ¬ ((-11) : Int) = (-9) by decide), if_neg (show ¬ ((-11) : Int) = (-10) by decide), if_pos (show ((-11) : Int) = (-11) from rfl)]
    by_cases z : b < a
    · rw [if_pos z, if_neg (fun y => absurd ((lg_cmp_le a b).mp y) (Int64.not_le.mpr z)), if_neg one_ne]
    · rw [if_neg z, if_pos ((lg_cmp_le a b).mpr (Int64.not_lt.mp z)), if_pos rfl]
  by_cases h10 : x = -10
  · subst h10
    unfold dX6_holds
    rw [if_neg (show ¬ ((-10) : Int32) = (-11) by decide), if_pos (show ((-10) : Int32) = (-10) from rfl), show ((-10) : Int32).toInt = -10 by decide]
    unfold ev_j
    rw [if_neg (show ¬ ((-10) : Int) = (-12) by decide), if_neg (show ¬ ((-10) : Int) = (-13) by decide), if_neg (show ¬ ((-10) : Int) = (-14) by decide), if_neg (show ¬ ((-10) : Int) = (-15) by decide), if_neg (show ¬ ((-10) : Int) = (-16) by decide), if_neg (show ¬ ((-10) : Int) = (-5) by decide), if_neg (show ¬ ((-10) : Int) = (-6) by decide), if_neg (show ¬ ((-10) : Int) = (-7) by decide), if_neg (show ¬ ((-10) : Int) = (-8) by decide), if_neg (show ¬ ((-10) : Int) = (-9) by decide), if_pos (show ((-10) : Int) = (-10) from rfl)]
    by_cases z : b ≤ a
    · rw [if_pos z, if_neg (fun y => absurd ((lg_cmp_lt a b).mp y) (Int64.not_lt.mpr z)), if_neg one_ne]
    · rw [if_neg z, if_pos ((lg_cmp_lt a b).mpr (Int64.not_le.mp z)), if_pos rfl]
  by_cases h9 : x = -9
  · subst h9
    unfold dX6_holds
    rw [if_neg (show ¬ ((-9) : Int32) = (-11) by decide), if_neg (show ¬ ((-9) : Int32) = (-10) by decide), if_pos (show ((-9) : Int32) = (-9) from rfl), show ((-9) : Int32).toInt = -9 by decide]
    unfold ev_j
    rw [if_neg (show ¬ ((-9) : Int) = (-12) by decide), if_neg (show ¬ ((-9) : Int) = (-13) by decide), if_neg (show ¬ ((-9) : Int) = (-14) by decide), if_neg (show ¬ ((-9) : Int) = (-15) by decide), if_neg (show ¬ ((-9) : Int) = (-16) by decide), if_neg (show ¬ ((-9) : Int) = (-5) by decide), if_neg (show ¬ ((-9) : Int) = (-6) by decide), if_neg (show ¬ ((-9) : Int) = (-7) by decide), if_neg (show ¬ ((-9) : Int) = (-8) by decide), if_pos (show ((-9) : Int) = (-9) from rfl)]
    by_cases z : a = b
    · rw [if_pos z, if_pos ((lg_cmp_eq a b).mpr z), if_neg one_ne]
    · rw [if_neg z, if_neg (fun y => z ((lg_cmp_eq a b).mp y)), if_pos rfl]
  by_cases h8 : x = -8
  · subst h8
    unfold dX6_holds
    rw [if_neg (show ¬ ((-8) : Int32) = (-11) by decide), if_neg (show ¬ ((-8) : Int32) = (-10) by decide), if_neg (show ¬ ((-8) : Int32) = (-9) by decide), if_pos (show ((-8) : Int32) = (-8) from rfl), show ((-8) : Int32).toInt = -8 by decide]
    unfold ev_j
    rw [if_neg (show ¬ ((-8) : Int) = (-12) by decide), if_neg (show ¬ ((-8) : Int) = (-13) by decide), if_neg (show ¬ ((-8) : Int) = (-14) by decide), if_neg (show ¬ ((-8) : Int) = (-15) by decide), if_neg (show ¬ ((-8) : Int) = (-16) by decide), if_neg (show ¬ ((-8) : Int) = (-5) by decide), if_neg (show ¬ ((-8) : Int) = (-6) by decide), if_neg (show ¬ ((-8) : Int) = (-7) by decide), if_pos (show ((-8) : Int) = (-8) from rfl)]
    by_cases z : a ≤ b
    · rw [if_pos z, if_neg (fun y => absurd ((lg_cmp_gt a b).mp y) (Int64.not_lt.mpr z)), if_neg one_ne]
    · rw [if_neg z, if_pos ((lg_cmp_gt a b).mpr (Int64.not_le.mp z)), if_pos rfl]
  by_cases h7 : x = -7
  · subst h7
    unfold dX6_holds
    rw [if_neg (show ¬ ((-7) : Int32) = (-11) by decide), if_neg (show ¬ ((-7) : Int32) = (-10) by decide), if_neg (show ¬ ((-7) : Int32) = (-9) by decide), if_neg (show ¬ ((-7) : Int32) = (-8) by decide), if_pos (show ((-7) : Int32) = (-7) from rfl), show ((-7) : Int32).toInt = -7 by decide]
    unfold ev_j
    rw [if_neg (show ¬ ((-7) : Int) = (-12) by decide), if_neg (show ¬ ((-7) : Int) = (-13) by decide), if_neg (show ¬ ((-7) : Int) = (-14) by decide), if_neg (show ¬ ((-7) : Int) = (-15) by decide), if_neg (show ¬ ((-7) : Int) = (-16) by decide), if_neg (show ¬ ((-7) : Int) = (-5) by decide), if_neg (show ¬ ((-7) : Int) = (-6) by decide), if_pos (show ((-7) : Int) = (-7) from rfl)]
    by_cases z : a < b
    · rw [if_pos z, if_neg (fun y => absurd ((lg_cmp_ge a b).mp y) (Int64.not_le.mpr z)), if_neg one_ne]
    · rw [if_neg z, if_pos ((lg_cmp_ge a b).mpr (Int64.not_lt.mp z)), if_pos rfl]
  by_cases h6 : x = -6
  · subst h6
    unfold dX6_holds
    rw [if_neg (show ¬ ((-6) : Int32) = (-11) by decide), if_neg (show ¬ ((-6) : Int32) = (-10) by decide), if_neg (show ¬ ((-6) : Int32) = (-9) by decide), if_neg (show ¬ ((-6) : Int32) = (-8) by decide), if_neg (show ¬ ((-6) : Int32) = (-7) by decide), if_pos (show ((-6) : Int32) = (-6) from rfl), show ((-6) : Int32).toInt = -6 by decide]
    unfold ev_j
    rw [if_neg (show ¬ ((-6) : Int) = (-12) by decide), if_neg (show ¬ ((-6) : Int) = (-13) by decide), if_neg (show ¬ ((-6) : Int) = (-14) by decide), if_neg (show ¬ ((-6) : Int) = (-15) by decide), if_neg (show ¬ ((-6) : Int) = (-16) by decide), if_neg (show ¬ ((-6) : Int) = (-5) by decide), if_pos (show ((-6) : Int) = (-6) from rfl)]
    by_cases za : a = 0
    · rw [if_pos (cmp0.mpr za)]
      by_cases zb : b = 0
      · rw [if_pos (cmp0.mpr zb), if_pos rfl, if_neg (show ¬ (a ≠ 0 ∨ b ≠ 0) from fun y => y.elim (fun q => q za) (fun q => q zb))]
      · rw [if_neg (fun y => zb (cmp0.mp y)), if_neg one_ne, if_pos (show a ≠ 0 ∨ b ≠ 0 from Or.inr zb)]
    · rw [if_neg (fun y => za (cmp0.mp y)), if_neg one_ne, if_pos (show a ≠ 0 ∨ b ≠ 0 from Or.inl za)]
  by_cases h5 : x = -5
  · subst h5
    unfold dX6_holds
    rw [if_neg (show ¬ ((-5) : Int32) = (-11) by decide), if_neg (show ¬ ((-5) : Int32) = (-10) by decide), if_neg (show ¬ ((-5) : Int32) = (-9) by decide), if_neg (show ¬ ((-5) : Int32) = (-8) by decide), if_neg (show ¬ ((-5) : Int32) = (-7) by decide), if_neg (show ¬ ((-5) : Int32) = (-6) by decide), if_pos (show ((-5) : Int32) = (-5) from rfl), show ((-5) : Int32).toInt = -5 by decide]
    unfold ev_j
    rw [if_neg (show ¬ ((-5) : Int) = (-12) by decide), if_neg (show ¬ ((-5) : Int) = (-13) by decide), if_neg (show ¬ ((-5) : Int) = (-14) by decide), if_neg (show ¬ ((-5) : Int) = (-15) by decide), if_neg (show ¬ ((-5) : Int) = (-16) by decide), if_pos (show ((-5) : Int) = (-5) from rfl)]
    by_cases za : a = 0
    · rw [if_pos (cmp0.mpr za), if_pos rfl, if_neg (show ¬ (a ≠ 0 ∧ b ≠ 0) from fun y => y.1 za)]
    · rw [if_neg (fun y => za (cmp0.mp y))]
      by_cases zb : b = 0
      · rw [if_pos (cmp0.mpr zb), if_pos rfl, if_neg (show ¬ (a ≠ 0 ∧ b ≠ 0) from fun y => y.2 zb)]
      · rw [if_neg (fun y => zb (cmp0.mp y)), if_neg one_ne, if_pos (show a ≠ 0 ∧ b ≠ 0 from ⟨za, zb⟩)]
  unfold dX6_holds
  rw [if_neg h11, if_neg h10, if_neg h9, if_neg h8, if_neg h7, if_neg h6, if_neg h5, if_pos rfl]
  have nn : ∀ (v : Int32) (w : Int), v.toInt = w → ¬ x = v → ¬ x.toInt = w := fun v w hv hx z => hx (Int32.toInt_inj.mp (z.trans hv.symm))
  unfold ev_j
  rw [if_neg (nn (-12) (-12) (by decide) h12), if_neg (nn (-13) (-13) (by decide) h13), if_neg (nn (-14) (-14) (by decide) h14), if_neg (nn (-15) (-15) (by decide) h15), if_neg (nn (-16) (-16) (by decide) h16), if_neg (nn (-5) (-5) (by decide) h5), if_neg (nn (-6) (-6) (by decide) h6), if_neg (nn (-7) (-7) (by decide) h7), if_neg (nn (-8) (-8) (by decide) h8), if_neg (nn (-9) (-9) (by decide) h9), if_neg (nn (-10) (-10) (by decide) h10), if_neg (nn (-11) (-11) (by decide) h11)]
theorem one_eq {x : Int32} {o : Int} {a b : Int64} (ho : -16 ≤ o ∧ o ≤ -5) (hx : x.toInt = rC o) : dX12_one x a b = ev_r o a b := by
  have lit : ∀ v : Int32, x.toInt = v.toInt → x = v := fun v z => Int32.toInt_inj.mp z
  have hv : o = -16 ∨ o = -15 ∨ o = -14 ∨ o = -13 ∨ o = -12 ∨ o = -11 ∨ o = -10 ∨ o = -9 ∨ o = -8 ∨ o = -7 ∨ o = -6 ∨ o = -5 := by omega
  rcases hv with rfl | rfl | rfl | rfl | rfl | rfl | rfl | rfl | rfl | rfl | rfl | rfl
  · skip
    have hx : x = 14 := lit 14 (by rw [hx]; decide)
    subst hx
    unfold dX12_one
    rw [if_neg (show ¬ ((14) : Int32) = (2) by decide), if_neg (show ¬ ((14) : Int32) = (3) by decide), if_neg (show ¬ ((14) : Int32) = (4) by decide), if_neg (show ¬ ((14) : Int32) = (5) by decide), if_neg (show ¬ ((14) : Int32) = (6) by decide), if_neg (show ¬ ((14) : Int32) = (7) by decide), if_neg (show ¬ ((14) : Int32) = (8) by decide), if_neg (show ¬ ((14) : Int32) = (9) by decide), if_neg (show ¬ ((14) : Int32) = (10) by decide), if_neg (show ¬ ((14) : Int32) = (11) by decide), if_neg (show ¬ ((14) : Int32) = (12) by decide), if_neg (show ¬ ((14) : Int32) = (13) by decide), if_pos (show ((14) : Int32) = (14) from rfl)]
    unfold ev_r
    rw [if_neg (show ¬ ((-16) : Int) = (-5) by decide), if_neg (show ¬ ((-16) : Int) = (-6) by decide)]
    unfold ev_j
    rw [if_neg (show ¬ ((-16) : Int) = (-12) by decide), if_neg (show ¬ ((-16) : Int) = (-13) by decide), if_neg (show ¬ ((-16) : Int) = (-14) by decide), if_neg (show ¬ ((-16) : Int) = (-15) by decide), if_pos (show ((-16) : Int) = (-16) from rfl)]
    by_cases z : b = 0
    · rw [if_pos z, if_pos (cmp0.mpr z)]
    · rw [if_neg z, if_neg (fun y => z (cmp0.mp y))]
  · skip
    have hx : x = 5 := lit 5 (by rw [hx]; decide)
    subst hx
    unfold dX12_one
    rw [if_neg (show ¬ ((5) : Int32) = (2) by decide), if_neg (show ¬ ((5) : Int32) = (3) by decide), if_neg (show ¬ ((5) : Int32) = (4) by decide), if_pos (show ((5) : Int32) = (5) from rfl)]
    unfold ev_r
    rw [if_neg (show ¬ ((-15) : Int) = (-5) by decide), if_neg (show ¬ ((-15) : Int) = (-6) by decide)]
    unfold ev_j
    rw [if_neg (show ¬ ((-15) : Int) = (-12) by decide), if_neg (show ¬ ((-15) : Int) = (-13) by decide), if_neg (show ¬ ((-15) : Int) = (-14) by decide), if_pos (show ((-15) : Int) = (-15) from rfl)]
    by_cases z : b = 0
    · rw [if_pos z, if_pos (cmp0.mpr z)]
    · rw [if_neg z, if_neg (fun y => z (cmp0.mp y))]
  · skip
    have hx : x = 4 := lit 4 (by rw [hx]; decide)
    subst hx
    unfold dX12_one
    rw [if_neg (show ¬ ((4) : Int32) = (2) by decide), if_neg (show ¬ ((4) : Int32) = (3) by decide), if_pos (show ((4) : Int32) = (4) from rfl)]
    unfold ev_r
    rw [if_neg (show ¬ ((-14) : Int) = (-5) by decide), if_neg (show ¬ ((-14) : Int) = (-6) by decide)]
    unfold ev_j
    rw [if_neg (show ¬ ((-14) : Int) = (-12) by decide), if_neg (show ¬ ((-14) : Int) = (-13) by decide), if_pos (show ((-14) : Int) = (-14) from rfl)]
  · skip
    have hx : x = 3 := lit 3 (by rw [hx]; decide)
    subst hx
    unfold dX12_one
    rw [if_neg (show ¬ ((3) : Int32) = (2) by decide), if_pos (show ((3) : Int32) = (3) from rfl)]
    unfold ev_r
    rw [if_neg (show ¬ ((-13) : Int) = (-5) by decide), if_neg (show ¬ ((-13) : Int) = (-6) by decide)]
    unfold ev_j
    rw [if_neg (show ¬ ((-13) : Int) = (-12) by decide), if_pos (show ((-13) : Int) = (-13) from rfl)]
  · skip
    have hx : x = 2 := lit 2 (by rw [hx]; decide)
    subst hx
    unfold dX12_one
    rw [if_pos (show ((2) : Int32) = (2) from rfl)]
    unfold ev_r
    rw [if_neg (show ¬ ((-12) : Int) = (-5) by decide), if_neg (show ¬ ((-12) : Int) = (-6) by decide)]
    unfold ev_j
    rw [if_pos (show ((-12) : Int) = (-12) from rfl)]
  · skip
    have hx : x = 10 := lit 10 (by rw [hx]; decide)
    subst hx
    unfold dX12_one
    rw [if_neg (show ¬ ((10) : Int32) = (2) by decide), if_neg (show ¬ ((10) : Int32) = (3) by decide), if_neg (show ¬ ((10) : Int32) = (4) by decide), if_neg (show ¬ ((10) : Int32) = (5) by decide), if_neg (show ¬ ((10) : Int32) = (6) by decide), if_neg (show ¬ ((10) : Int32) = (7) by decide), if_neg (show ¬ ((10) : Int32) = (8) by decide), if_neg (show ¬ ((10) : Int32) = (9) by decide), if_pos (show ((10) : Int32) = (10) from rfl)]
    unfold ev_r
    rw [if_neg (show ¬ ((-11) : Int) = (-5) by decide), if_neg (show ¬ ((-11) : Int) = (-6) by decide)]
    unfold ev_j
    rw [if_neg (show ¬ ((-11) : Int) = (-12) by decide), if_neg (show ¬ ((-11) : Int) = (-13) by decide), if_neg (show ¬ ((-11) : Int) = (-14) by decide), if_neg (show ¬ ((-11) : Int) = (-15) by decide), if_neg (show ¬ ((-11) : Int) = (-16) by decide), if_neg (show ¬ ((-11) : Int) = (-5) by decide), if_neg (show ¬ ((-11) : Int) = (-6) by decide), if_neg (show ¬ ((-11) : Int) = (-7) by decide), if_neg (show ¬ ((-11) : Int) = (-8) by decide), if_neg (show ¬ ((-11) : Int) = (-9) by decide), if_neg (show ¬ ((-11) : Int) = (-10) by decide), if_pos (show ((-11) : Int) = (-11) from rfl)]
    by_cases z : b < a
    · rw [if_pos z, if_neg (fun y => absurd ((lg_cmp_le a b).mp y) (Int64.not_le.mpr z))]
    · rw [if_neg z, if_pos ((lg_cmp_le a b).mpr (Int64.not_lt.mp z))]
  · skip
    have hx : x = 9 := lit 9 (by rw [hx]; decide)
    subst hx
    unfold dX12_one
    rw [if_neg (show ¬ ((9) : Int32) = (2) by decide), if_neg (show ¬ ((9) : Int32) = (3) by decide), if_neg (show ¬ ((9) : Int32) = (4) by decide), if_neg (show ¬ ((9) : Int32) = (5) by decide), if_neg (show ¬ ((9) : Int32) = (6) by decide), if_neg (show ¬ ((9) : Int32) = (7) by decide), if_neg (show ¬ ((9) : Int32) = (8) by decide), if_pos (show ((9) : Int32) = (9) from rfl)]
    unfold ev_r
    rw [if_neg (show ¬ ((-10) : Int) = (-5) by decide), if_neg (show ¬ ((-10) : Int) = (-6) by decide)]
    unfold ev_j
    rw [if_neg (show ¬ ((-10) : Int) = (-12) by decide), if_neg (show ¬ ((-10) : Int) = (-13) by decide), if_neg (show ¬ ((-10) : Int) = (-14) by decide), if_neg (show ¬ ((-10) : Int) = (-15) by decide), if_neg (show ¬ ((-10) : Int) = (-16) by decide), if_neg (show ¬ ((-10) : Int) = (-5) by decide), if_neg (show ¬ ((-10) : Int) = (-6) by decide), if_neg (show ¬ ((-10) : Int) = (-7) by decide), if_neg (show ¬ ((-10) : Int) = (-8) by decide), if_neg (show ¬ ((-10) : Int) = (-9) by decide), if_pos (show ((-10) : Int) = (-10) from rfl)]
    by_cases z : b ≤ a
    · rw [if_pos z, if_neg (fun y => absurd ((lg_cmp_lt a b).mp y) (Int64.not_lt.mpr z))]
    · rw [if_neg z, if_pos ((lg_cmp_lt a b).mpr (Int64.not_le.mp z))]
  · skip
    have hx : x = 8 := lit 8 (by rw [hx]; decide)
    subst hx
    unfold dX12_one
    rw [if_neg (show ¬ ((8) : Int32) = (2) by decide), if_neg (show ¬ ((8) : Int32) = (3) by decide), if_neg (show ¬ ((8) : Int32) = (4) by decide), if_neg (show ¬ ((8) : Int32) = (5) by decide), if_neg (show ¬ ((8) : Int32) = (6) by decide), if_neg (show ¬ ((8) : Int32) = (7) by decide), if_pos (show ((8) : Int32) = (8) from rfl)]
    unfold ev_r
    rw [if_neg (show ¬ ((-9) : Int) = (-5) by decide), if_neg (show ¬ ((-9) : Int) = (-6) by decide)]
    unfold ev_j
    rw [if_neg (show ¬ ((-9) : Int) = (-12) by decide), if_neg (show ¬ ((-9) : Int) = (-13) by decide), if_neg (show ¬ ((-9) : Int) = (-14) by decide), if_neg (show ¬ ((-9) : Int) = (-15) by decide), if_neg (show ¬ ((-9) : Int) = (-16) by decide), if_neg (show ¬ ((-9) : Int) = (-5) by decide), if_neg (show ¬ ((-9) : Int) = (-6) by decide), if_neg (show ¬ ((-9) : Int) = (-7) by decide), if_neg (show ¬ ((-9) : Int) = (-8) by decide), if_pos (show ((-9) : Int) = (-9) from rfl)]
    by_cases z : a = b
    · rw [if_pos z, if_pos ((lg_cmp_eq a b).mpr z)]
    · rw [if_neg z, if_neg (fun y => z ((lg_cmp_eq a b).mp y))]
  · skip
    have hx : x = 7 := lit 7 (by rw [hx]; decide)
    subst hx
    unfold dX12_one
    rw [if_neg (show ¬ ((7) : Int32) = (2) by decide), if_neg (show ¬ ((7) : Int32) = (3) by decide), if_neg (show ¬ ((7) : Int32) = (4) by decide), if_neg (show ¬ ((7) : Int32) = (5) by decide), if_neg (show ¬ ((7) : Int32) = (6) by decide), if_pos (show ((7) : Int32) = (7) from rfl)]
    unfold ev_r
    rw [if_neg (show ¬ ((-8) : Int) = (-5) by decide), if_neg (show ¬ ((-8) : Int) = (-6) by decide)]
    unfold ev_j
    rw [if_neg (show ¬ ((-8) : Int) = (-12) by decide), if_neg (show ¬ ((-8) : Int) = (-13) by decide), if_neg (show ¬ ((-8) : Int) = (-14) by decide), if_neg (show ¬ ((-8) : Int) = (-15) by decide), if_neg (show ¬ ((-8) : Int) = (-16) by decide), if_neg (show ¬ ((-8) : Int) = (-5) by decide), if_neg (show ¬ ((-8) : Int) = (-6) by decide), if_neg (show ¬ ((-8) : Int) = (-7) by decide), if_pos (show ((-8) : Int) = (-8) from rfl)]
    by_cases z : a ≤ b
    · rw [if_pos z, if_neg (fun y => absurd ((lg_cmp_gt a b).mp y) (Int64.not_lt.mpr z))]
    · rw [if_neg z, if_pos ((lg_cmp_gt a b).mpr (Int64.not_le.mp z))]
  · skip
    have hx : x = 6 := lit 6 (by rw [hx]; decide)
    subst hx
    unfold dX12_one
    rw [if_neg (show ¬ ((6) : Int32) = (2) by decide), if_neg (show ¬ ((6) : Int32) = (3) by decide), if_neg (show ¬ ((6) : Int32) = (4) by decide), if_neg (show ¬ ((6) : Int32) = (5) by decide), if_pos (show ((6) : Int32) = (6) from rfl)]
    unfold ev_r
    rw [if_neg (show ¬ ((-7) : Int) = (-5) by decide), if_neg (show ¬ ((-7) : Int) = (-6) by decide)]
    unfold ev_j
    rw [if_neg (show ¬ ((-7) : Int) = (-12) by decide), if_neg (show ¬ ((-7) : Int) = (-13) by decide), if_neg (show ¬ ((-7) : Int) = (-14) by decide), if_neg (show ¬ ((-7) : Int) = (-15) by decide), if_neg (show ¬ ((-7) : Int) = (-16) by decide), if_neg (show ¬ ((-7) : Int) = (-5) by decide), if_neg (show ¬ ((-7) : Int) = (-6) by decide), if_pos (show ((-7) : Int) = (-7) from rfl)]
    by_cases z : a < b
    · rw [if_pos z, if_neg (fun y => absurd ((lg_cmp_ge a b).mp y) (Int64.not_le.mpr z))]
    · rw [if_neg z, if_pos ((lg_cmp_ge a b).mpr (Int64.not_lt.mp z))]
  · skip
    have hx : x = 13 := lit 13 (by rw [hx]; decide)
    subst hx
    unfold dX12_one
    rw [if_neg (show ¬ ((13) : Int32) = (2) by decide), if_neg (show ¬ ((13) : Int32) = (3) by decide), if_neg (show ¬ ((13) : Int32) = (4) by decide), if_neg (show ¬ ((13) : Int32) = (5) by decide), if_neg (show ¬ ((13) : Int32) = (6) by decide), if_neg (show ¬ ((13) : Int32) = (7) by decide), if_neg (show ¬ ((13) : Int32) = (8) by decide), if_neg (show ¬ ((13) : Int32) = (9) by decide), if_neg (show ¬ ((13) : Int32) = (10) by decide), if_neg (show ¬ ((13) : Int32) = (11) by decide), if_neg (show ¬ ((13) : Int32) = (12) by decide), if_pos (show ((13) : Int32) = (13) from rfl)]
    unfold ev_r
    rw [if_neg (show ¬ ((-6) : Int) = (-5) by decide), if_pos (show ((-6) : Int) = (-6) from rfl)]
  · skip
    have hx : x = 12 := lit 12 (by rw [hx]; decide)
    subst hx
    unfold dX12_one
    rw [if_neg (show ¬ ((12) : Int32) = (2) by decide), if_neg (show ¬ ((12) : Int32) = (3) by decide), if_neg (show ¬ ((12) : Int32) = (4) by decide), if_neg (show ¬ ((12) : Int32) = (5) by decide), if_neg (show ¬ ((12) : Int32) = (6) by decide), if_neg (show ¬ ((12) : Int32) = (7) by decide), if_neg (show ¬ ((12) : Int32) = (8) by decide), if_neg (show ¬ ((12) : Int32) = (9) by decide), if_neg (show ¬ ((12) : Int32) = (10) by decide), if_neg (show ¬ ((12) : Int32) = (11) by decide), if_pos (show ((12) : Int32) = (12) from rfl)]
    unfold ev_r
    rw [if_pos (show ((-5) : Int) = (-5) from rfl)]
set_option maxRecDepth 16384
/-! the class's sum is ev_c of its code -/
theorem drop_on {L : List Int} {i : Nat} (h : i < L.length) : L.drop i = L.getD i 0 :: L.drop (i + 1) := by
  rw [List.drop_eq_getElem_cons h, List.getD_eq_getElem?_getD, List.getElem?_eq_getElem h]
  rfl
theorem to64 {x : Int32} : x.toInt64 = Int64.ofInt x.toInt := by
  rw [← i32_64 x, Int64.ofInt_toInt]
theorem t_2 : (2 : Int32).toInt = 2 := by decide
theorem t_m2 : (-2 : Int32).toInt = -2 := by decide
theorem t_64 : (64 : Int32).toInt = 64 := by decide
theorem t_lak : (100000 : Int32).toInt = 100000 := by decide
theorem tp1n {t : Int32} (h : 0 ≤ t.toInt ∧ t.toInt < 64) : 0 ≤ (t + 1).toInt ∧ (t + 1).toInt ≤ 64 ∧ (t + 1).toInt.toNat = t.toInt.toNat + 1 := by
  rw [ix_k (x := t) rfl t_1 (by omega)]
  omega
theorem tm1n {t : Int32} {m : Nat} (h : 0 ≤ t.toInt ∧ t.toInt ≤ 64) (hm : t.toInt.toNat = m + 2) : 0 ≤ (t + -1).toInt ∧ (t + -1).toInt ≤ 64 ∧ (t + -1).toInt.toNat = m + 1 := by
  rw [ix_k (x := t) rfl t_m1 (by omega)]
  omega
theorem tm2n {t : Int32} {m : Nat} (h : 0 ≤ t.toInt ∧ t.toInt ≤ 64) (hm : t.toInt.toNat = m + 2) : 0 ≤ (t + -2).toInt ∧ (t + -2).toInt ≤ 64 ∧ (t + -2).toInt.toNat = m := by
  rw [ix_k (x := t) rfl t_m2 (by omega)]
  omega
theorem ts1n {t : Int32} {m : Nat} (h : 0 ≤ t.toInt ∧ t.toInt ≤ 64) (hm : t.toInt.toNat = m + 1) : (t - 1).toNatClampNeg = m := by
  show (t - 1).toInt.toNat = m
  rw [sub_toInt (by rw [t_1]; omega) (by rw [t_1]; omega), t_1]
  omega
theorem ts2n {t : Int32} {m : Nat} (h : 0 ≤ t.toInt ∧ t.toInt ≤ 64) (hm : t.toInt.toNat = m + 2) : (t - 2).toNatClampNeg = m := by
  show (t - 2).toInt.toNat = m
  rw [sub_toInt (by rw [t_2]; omega) (by rw [t_2]; omega), t_2]
  omega
theorem lit_ne {x v : Int32} {o w : Int} (e : x.toInt = o) (hv : v.toInt = w) (h : ¬ x = v) : ¬ o = w := fun q => h (Int32.toInt_inj.mp (by rw [e, hv, q]))
theorem lit_eq {x v : Int32} {o w : Int} (e : x.toInt = o) (hv : v.toInt = w) (h : x = v) : o = w := by rw [← e, h, hv]
theorem t_m3 : (-3 : Int32).toInt = -3 := by decide
theorem t_m4 : (-4 : Int32).toInt = -4 := by decide
theorem fin1 {B : Type} {x : Int64} {y : B} : (if ((1 : Int32), x, y).1 = 1 then ((1 : Int32), x, y).2.1 else 0) = x := if_pos rfl
theorem fin0 {B : Type} {x : Int64} {y : B} : (if ((0 : Int32), x, y).1 = 1 then ((0 : Int32), x, y).2.1 else 0) = 0 := if_neg (show ¬ (0 : Int32) = 1 by decide)
theorem wk_eq {op : Int32} {o : Int} (eo : op.toInt = o) (q : 100000 ≤ o) : op - 100000 = nI (o - 100000).toNat := by
  have hmx := i32_le op
  refine Int32.toInt_inj.mp ?_
  rw [nI_toInt (by omega), sub_toInt (by rw [t_lak]; omega) (by rw [t_lak]; omega), t_lak]
  omega
section SUM
variable {f1 f3 f4 f5 f6 f7 f8 rf : Nat → Int32} {v0 v2 v3 v4 v5 b : Int32} {rn : Nat} {L : List Int}
theorem sumL (hL : CdE rf L) (hn : L.length = rn) (h4 : rn ≤ 400) : ∀ (n : Nat) (i top : Int32) (g : Nat → Int64), 0 ≤ i.toInt → i.toInt ≤ (rn : Int) → (rn : Int) - i.toInt < (n : Int) → 0 ≤ top.toInt → top.toInt ≤ 64 →
    (if (dX6_sumFor_l5 f1 f3 f4 f5 f6 f7 f8 v0 v2 v3 v4 v5 rf rn b n i top g).1 = 1 then (dX6_sumFor_l5 f1 f3 f4 f5 f6 f7 f8 v0 v2 v3 v4 v5 rf rn b n i top g).2.1 else 0) = ev_c (fun k => dX9_wordOf f1 f3 f4 f5 f6 f7 f8 v0 v2 v3 v4 v5 (nI k) b) (L.drop i.toInt.toNat) (hst g top.toInt.toNat)
  | 0, i, top, g, h0, h1, hk, ht, ht2 => by omega
  | n + 1, i, top, g, h0, h1, hk, ht, ht2 => by
    have hnI : (nI rn).toInt = (rn : Int) := nI_toInt (by omega)
    rw [dX6_sumFor_l5_s]
    by_cases z : nI rn ≤ i
    · rw [if_pos z]
      rw [i32_leq, hnI] at z
      rw [List.drop_eq_nil_of_le (by omega), ev_c_nil]
      exact fin0
    · rw [if_neg z]
      rw [i32_leq, hnI] at z
      have hi : i.toInt.toNat < L.length := by omega
      have e1 : (i + 1).toInt = i.toInt + 1 := by rw [ix_k rfl t_1 (by omega)]
      have eN : (i + 1).toInt.toNat = i.toInt.toNat + 1 := by omega
      have eo := hL _ hi
      rw [drop_on hi, cl_b (b := i)]
      generalize eop : rf i.toInt.toNat = op at eo
      generalize L.getD i.toInt.toNat 0 = o at eo
      have IH := fun (top' : Int32) (g' : Nat → Int64) (a1 : 0 ≤ top'.toInt) (a2 : top'.toInt ≤ 64) => sumL hL hn h4 n (i + 1) top' g' (by omega) (by omega) (by omega) a1 a2
      rw [eN] at IH
      clear e1 eN hk hnI z h0 h1 hi
      have hT : 0 ≤ top.toInt ∧ top.toInt ≤ 64 := ⟨ht, ht2⟩
      by_cases c0 : op < 0
      · have o0 : o < 0 := by rw [i32_lt, t_0, eo] at c0; exact c0
        rw [if_pos c0]
        by_cases c2 : op = -2
        · have o2 := lit_eq eo t_m2 c2
          rw [if_pos c2, o2, ev_c_ans]
          by_cases d : top < 1
          · rw [if_pos d]
            rw [i32_lt, t_1] at d
            have q : top.toInt.toNat = 0 := by omega
            rw [q]
            exact fin1
          · have d6 : ¬ (64 : Int32) < top := by rw [i32_lt, t_64]; omega
            rw [if_neg d, if_neg d6]
            rw [i32_lt, t_1] at d
            obtain ⟨m, hm⟩ : ∃ m : Nat, top.toInt.toNat = m + 1 := ⟨top.toInt.toNat - 1, by omega⟩
            rw [ts1n hT hm, hm]
            exact fin1
        · have o2 := lit_ne eo t_m2 c2
          rw [if_neg c2]
          by_cases c4 : op = -4
          · have o4 := lit_eq eo t_m4 c4
            rw [if_pos c4, o4, ev_c_not]
            by_cases d : top < 1
            · rw [if_pos d]
              rw [i32_lt, t_1] at d
              have q : top.toInt.toNat = 0 := by omega
              rw [IH top g ht ht2, q]
              rfl
            · have d6 : ¬ (64 : Int32) < top := by rw [i32_lt, t_64]; omega
              rw [if_neg d, if_neg d6]
              rw [i32_lt, t_1] at d
              obtain ⟨m, hm⟩ : ∃ m : Nat, top.toInt.toNat = m + 1 := ⟨top.toInt.toNat - 1, by omega⟩
              rw [ts1n hT hm]
              have en : ev_nt (hst g top.toInt.toNat) = (if g m = 0 then 1 else 0) :: hst g m := by rw [hm]; rfl
              rw [en]
              by_cases q : g m = 0
              · rw [if_pos (cmp0.mpr q), if_pos q, IH top _ ht ht2, hm, hst_at rfl]
              · rw [if_neg (fun y => q (cmp0.mp y)), if_neg q, IH top _ ht ht2, hm, hst_at rfl]
          · have o4 := lit_ne eo t_m4 c4
            rw [if_neg c4]
            by_cases d : top < 2
            · rw [if_pos d]
              rw [i32_lt, t_2] at d
              rw [ev_c_few o0 o2 o4 (by rw [hst_len]; omega)]
              exact fin1
            · have d6 : top ≤ (64 : Int32) := by rw [i32_leq, t_64]; exact ht2
              rw [if_neg d]
              rw [i32_lt, t_2] at d
              obtain ⟨m, hm⟩ : ∃ m : Nat, top.toInt.toNat = m + 2 := ⟨top.toInt.toNat - 2, by omega⟩
              have en : hst g top.toInt.toNat = g (m + 1) :: g m :: hst g m := by rw [hm]; rfl
              rw [if_pos d6, ts1n (m := m + 1) hT hm, ts2n hT hm, en]
              by_cases c3 : op = -3
              · have o3 := lit_eq eo t_m3 c3
                rw [if_pos c3, o3, ev_c_if]
                by_cases q : g (m + 1) = 0
                · obtain ⟨q1, q2, q3⟩ := tm2n hT hm
                  rw [if_pos (cmp0.mpr q), if_pos q, IH (top + -2) g q1 q2, q3]
                · rw [if_neg (fun y => q (cmp0.mp y)), if_neg q]
                  exact fin1
              · have o3 := lit_ne eo t_m3 c3
                obtain ⟨q1, q2, q3⟩ := tm1n hT hm
                rw [if_neg c3, ev_c_two o0 o2 o3 o4, IH (top + -1) _ q1 q2, q3, hst_at rfl, joined_eq, eo]
      · rw [if_neg c0]
        have o0 : 0 ≤ o := by rw [i32_lt, t_0, eo] at c0; omega
        rw [if_neg (show ¬ top < 0 by rw [i32_lt, t_0]; omega)]
        by_cases d : top < 64
        · rw [if_pos d]
          rw [i32_lt, t_64] at d
          obtain ⟨q1, q2, q3⟩ := tp1n ⟨ht, d⟩
          rw [ev_c_psh o0 (by rw [hst_len]; omega), cl_b (b := top)]
          by_cases q : (100000 : Int32) ≤ op
          · rw [if_pos q]
            rw [i32_leq, t_lak, eo] at q
            rw [IH (top + 1) _ q1 q2, q3, hst_at rfl, wk_eq eo q]
            unfold ev_v
            rw [if_neg (show ¬ o < 100000 by omega)]
          · rw [if_neg q]
            rw [i32_leq, t_lak, eo] at q
            rw [IH (top + 1) _ q1 q2, q3, hst_at rfl, to64, eo]
            unfold ev_v
            rw [if_pos (show o < 100000 by omega)]
        · rw [if_neg d]
          rw [i32_lt, t_64] at d
          rw [ev_c_full o0 (by rw [hst_len]; omega)]
          exact fin1
theorem sum_is (hL : CdE rf L) (hn : L.length = rn) (h4 : rn ≤ 400) {g : Nat → Int64} : (dX6_sumFor f1 f3 f4 f5 f6 f7 f8 v0 v2 v3 v4 v5 rf g b rn).1 = ev_c (fun k => dX9_wordOf f1 f3 f4 f5 f6 f7 f8 v0 v2 v3 v4 v5 (nI k) b) L [] := by
  have h := sumL (f1 := f1) (f3 := f3) (f4 := f4) (f5 := f5) (f6 := f6) (f7 := f7) (f8 := f8) (v0 := v0) (v2 := v2) (v3 := v3) (v4 := v4) (v5 := v5) (b := b) hL hn h4 ((400 - (0 : Int32).toInt).toNat + 1) 0 0 g (by decide) (by rw [t_0]; omega) (by rw [t_0]; omega) (by decide) (by decide)
  have e : L.drop (0 : Int32).toInt.toNat = L := rfl
  have e2 : hst g (0 : Int32).toInt.toNat = [] := rfl
  rw [e, e2] at h
  rw [← h]
  unfold dX6_sumFor
  by_cases z : (dX6_sumFor_l5 f1 f3 f4 f5 f6 f7 f8 v0 v2 v3 v4 v5 rf rn b ((400 - (0 : Int32).toInt).toNat + 1) 0 0 g).1 = 1
  · rw [if_pos z, if_pos z]
  · rw [if_neg z, if_neg z]
end SUM
theorem m15 (x : Int32) : (x &&& 15).toInt = x.toInt % 16 := by
  have h := Jvm.Kit.i32_mask x 15 (k := 4) (by decide) (by decide)
  rw [h]
  have e : (2 : Int) ^ 4 = 16 := by decide
  rw [e]
theorem s4 (x : Int32) : (x >>> ((4 : Int32) &&& 31)).toInt = x.toInt / 16 := by
  have h := Jvm.Kit.i32_shr x ((4 : Int32) &&& 31) (k := 4) (by decide)
  rw [h]
  have e : (2 : Int) ^ 4 = 16 := by decide
  rw [e]
theorem opdrop {c : List Int} {i : Nat} (h : i < c.length) : c.drop i = c.getD i 0 :: c.drop (i + 1) := drop_on h
theorem i400 {t i : Int32} (ht : 0 ≤ t.toInt ∧ t.toInt < 6) (hi : 0 ≤ i.toInt ∧ i.toInt ≤ 400) : ((400 : Int32) * t + i).toNatClampNeg = 400 * t.toInt.toNat + i.toInt.toNat := by
  have h4 : (400 : Int32).toInt = 400 := by decide
  have e1 : ((400 : Int32) * t).toInt = 400 * t.toInt := by rw [mul_toInt (by rw [h4]; omega) (by rw [h4]; omega), h4]
  exact cl_eq (by rw [ix_k e1 rfl (by omega)]; omega)
theorem ev_k_need {o : Int} {k k' : List Bool} (h : ev_k o k = some k') (ho : o < 0) : (o = -4 ∧ ∃ t, k = true :: t) ∨ (o ≠ -4 ∧ -16 ≤ o ∧ o ≤ -5 ∧ ∃ a b t, k = a :: b :: t) := by
  unfold ev_k at h
  rw [if_neg (by omega)] at h
  by_cases h4 : o = -4
  · rw [if_pos h4] at h
    match k, h with
    | true :: t, _ => exact Or.inl ⟨h4, t, rfl⟩
    | false :: _, h => cases (show none = some k' from h)
    | [], h => cases (show none = some k' from h)
  · rw [if_neg h4] at h
    refine Or.inr ⟨h4, ?_⟩
    by_cases h5 : o = -5 ∨ o = -6
    · rw [if_pos h5] at h
      match k, h with
      | true :: true :: t, _ => exact ⟨by omega, by omega, _, _, _, rfl⟩
      | [], h => cases (show none = some k' from h)
      | [true], h => cases (show none = some k' from h)
      | false :: _, h => cases (show none = some k' from h)
      | true :: false :: _, h => cases (show none = some k' from h)
    · rw [if_neg h5] at h
      by_cases h7 : -11 ≤ o ∧ o ≤ -7
      · rw [if_pos h7] at h
        match k, h with
        | false :: false :: t, _ => exact ⟨by omega, by omega, _, _, _, rfl⟩
        | [], h => cases (show none = some k' from h)
        | [false], h => cases (show none = some k' from h)
        | true :: _, h => cases (show none = some k' from h)
        | false :: true :: _, h => cases (show none = some k' from h)
      · rw [if_neg h7] at h
        by_cases h12 : -16 ≤ o ∧ o ≤ -12
        · rw [if_pos h12] at h
          match k, h with
          | false :: false :: t, _ => exact ⟨by omega, by omega, _, _, _, rfl⟩
          | [], h => cases (show none = some k' from h)
          | [false], h => cases (show none = some k' from h)
          | true :: _, h => cases (show none = some k' from h)
          | false :: true :: _, h => cases (show none = some k' from h)
        · rw [if_neg h12] at h; cases h
theorem rC_rg {o : Int} (h : -16 ≤ o ∧ o ≤ -4) : 2 ≤ rC o ∧ rC o ≤ 14 ∧ (rC o = 11 ↔ o = -4) := by
  have hv : o = -16 ∨ o = -15 ∨ o = -14 ∨ o = -13 ∨ o = -12 ∨ o = -11 ∨ o = -10 ∨ o = -9 ∨ o = -8 ∨ o = -7 ∨ o = -6 ∨ o = -5 ∨ o = -4 := by omega
  rcases hv with rfl | rfl | rfl | rfl | rfl | rfl | rfl | rfl | rfl | rfl | rfl | rfl | rfl <;> decide
theorem recL {sg : Nat → Int32} {wd : Nat → Int64} {e t : Int32} {p : Nat} {c : List Int} (ht : 0 ≤ t.toInt ∧ t.toInt < 6) (hc : RwE sg t.toInt.toNat p c) (he : e.toInt = (p : Int) + (c.length : Int)) (h4 : e.toInt ≤ 400) : ∀ (n : Nat) (i top : Int32) (g : Nat → Int64) (k k' : List Bool), (p : Int) ≤ i.toInt → i.toInt ≤ e.toInt → e.toInt - i.toInt < (n : Int) → 0 ≤ top.toInt → k.length = top.toInt.toNat → ev_t (c.drop (i.toInt.toNat - p)) k = some k' → top.toInt + (ev_n (c.drop (i.toInt.toNat - p)) : Int) ≤ 64 →
    ∃ g' top' i', dX12_reckons_l8 sg wd e t n i top g = (i', top', g') ∧ hst g' top'.toInt.toNat = ev_s wd (c.drop (i.toInt.toNat - p)) (hst g top.toInt.toNat) ∧ 0 ≤ top'.toInt ∧ top'.toInt ≤ 64 ∧ k'.length = top'.toInt.toNat
  | 0, i, top, g, k, k', h0, h1, hn, _, _, _, _ => by omega
  | n + 1, i, top, g, k, k', h0, h1, hn, ht0, hk, hty, hb => by
    rw [dX12_reckons_l8_s]
    by_cases z : e ≤ i
    · rw [if_pos z]
      rw [i32_leq] at z
      have e0 : c.drop (i.toInt.toNat - p) = [] := List.drop_eq_nil_of_le (by omega)
      rw [e0] at hty hb ⊢
      cases hty
      exact ⟨g, top, i, rfl, rfl, ht0, by have : ev_n [] = 0 := rfl; omega, hk⟩
    · rw [if_neg z]
      rw [i32_leq] at z
      have hj : i.toInt.toNat - p < c.length := by omega
      have e1 : (i + 1).toInt = i.toInt + 1 := by rw [ix_k rfl t_1 (by omega)]
      have eN : (i + 1).toInt.toNat - p = i.toInt.toNat - p + 1 := by omega
      have eo := hc _ hj
      rw [show 400 * t.toInt.toNat + p + (i.toInt.toNat - p) = 400 * t.toInt.toNat + i.toInt.toNat by omega] at eo
      rw [opdrop hj] at hty hb ⊢
      rw [i400 ht (by omega)]
      generalize c.getD (i.toInt.toNat - p) 0 = o at eo hty hb ⊢
      generalize sg (400 * t.toInt.toNat + i.toInt.toNat) = x at eo ⊢
      have hty : (match ev_k o k with | none => none | some k1 => ev_t (c.drop (i.toInt.toNat - p + 1)) k1) = some k' := hty
      have hb : top.toInt + ((ev_p o + ev_n (c.drop (i.toInt.toNat - p + 1)) : Nat) : Int) ≤ 64 := hb
      have hx15 := m15 x
      have hx4 := s4 x
      have p1 : top.toInt < 64 → (top + 1).toInt = top.toInt + 1 := fun q => by rw [ix_k rfl t_1 (by omega)]
      have s1 : 1 ≤ top.toInt → (top - 1).toInt = top.toInt - 1 := fun q => by rw [sub_toInt (by rw [t_1]; omega) (by rw [t_1]; omega), t_1]
      have IH := fun (top' : Int32) (g' : Nat → Int64) (k1 : List Bool) (a1 : 0 ≤ top'.toInt) (a2 : k1.length = top'.toInt.toNat) (a3 : ev_t (c.drop (i.toInt.toNat - p + 1)) k1 = some k') (a4 : top'.toInt + (ev_n (c.drop (i.toInt.toNat - p + 1)) : Int) ≤ 64) => recL (wd := wd) ht hc he h4 n (i + 1) top' g' k1 k' (by omega) (by omega) (by omega) a1 a2 (by rw [eN]; exact a3) (by rw [eN]; exact a4)
      rw [eN] at IH
      cases ek : ev_k o k with
      | none => rw [ek] at hty; cases hty
      | some k1 =>
        rw [ek] at hty
        have hty : ev_t (c.drop (i.toInt.toNat - p + 1)) k1 = some k' := hty
        by_cases o0 : 0 ≤ o
        · have hk1 : k1 = false :: k := (ev_k_push ek o0).1
          have hp1 : ev_p o = 1 := if_pos o0
          have q1 := p1 (by omega)
          have hl1 : k1.length = (top + 1).toInt.toNat := by rw [hk1, List.length_cons]; omega
          rw [ev_s_cons, ev_u_psh o0]
          unfold ev_v
          by_cases ol : o < 100000
          · have ex : x.toInt = 16 * o := by rw [eo]; unfold rE; rw [if_neg (by omega), if_pos o0]
            rw [if_pos (show (x &&& 15) = 0 from Int32.toInt_inj.mp (by rw [hx15, t_0]; omega)), if_pos ol]
            show ∃ g' top' i', dX12_reckons_l8 sg wd e t n (i + 1) (top + 1) (vp_updL g top.toNatClampNeg (x >>> ((4 : Int32) &&& 31)).toInt64) = _ ∧ _
            obtain ⟨g', t', i', r1, r2, r3, r4, r5⟩ := IH (top + 1) (vp_updL g top.toNatClampNeg (x >>> ((4 : Int32) &&& 31)).toInt64) k1 (by omega) hl1 hty (by omega)
            refine ⟨g', t', i', r1, ?_, r3, r4, r5⟩
            rw [r2, show (top + 1).toInt.toNat = top.toInt.toNat + 1 by omega, cl_b (b := top), hst_at rfl, to64, hx4, show x.toInt / 16 = o by omega]
          · have ex : x.toInt = 1 + 16 * (o - 100000) := by rw [eo]; unfold rE; rw [if_pos (by omega)]
            rw [if_neg (show ¬ (x &&& 15) = 0 from fun y => by rw [i32_eq, hx15, t_0] at y; omega), if_pos (show (x &&& 15) = 1 from Int32.toInt_inj.mp (by rw [hx15, t_1]; omega)), if_neg ol]
            have ew : (x >>> ((4 : Int32) &&& 31)).toNatClampNeg = (o - 100000).toNat := cl_eq (by rw [hx4]; omega)
            rw [ew]
            show ∃ g' top' i', dX12_reckons_l8 sg wd e t n (i + 1) (top + 1) (vp_updL g top.toNatClampNeg (wd (o - 100000).toNat)) = _ ∧ _
            obtain ⟨g', t', i', r1, r2, r3, r4, r5⟩ := IH (top + 1) (vp_updL g top.toNatClampNeg (wd (o - 100000).toNat)) k1 (by omega) hl1 hty (by omega)
            refine ⟨g', t', i', r1, ?_, r3, r4, r5⟩
            rw [r2, show (top + 1).toInt.toNat = top.toInt.toNat + 1 by omega, cl_b (b := top), hst_at rfl]
        · have hp0 : ev_p o = 0 := if_neg o0
          rcases ev_k_need ek (by omega) with ⟨o4, tl, ekl⟩ | ⟨o4, o16, o5, a, b, tl, ekl⟩
          · have ex : x.toInt = 11 := by rw [eo, o4]; decide
            have hk1 : k1 = true :: tl := by rw [o4, ekl, ev_k_n] at ek; cases ek; rfl
            have hl : 1 ≤ top.toInt := by rw [ekl, List.length_cons] at hk; omega
            have q1 := s1 hl
            obtain ⟨m, hm⟩ : ∃ m : Nat, top.toInt.toNat = m + 1 := ⟨top.toInt.toNat - 1, by omega⟩
            have ec : (top - 1).toNatClampNeg = m := cl_eq (by rw [q1]; omega)
            have q2 : (top - 1 + 1).toInt = top.toInt := by rw [ix_k q1 t_1 (by omega)]; omega
            rw [if_neg (show ¬ (x &&& 15) = 0 from fun y => by rw [i32_eq, hx15, t_0] at y; omega), if_neg (show ¬ (x &&& 15) = 1 from fun y => by rw [i32_eq, hx15, t_1] at y; omega), if_pos (show (x &&& 15) = 11 from Int32.toInt_inj.mp (by rw [hx15, show (11 : Int32).toInt = 11 by decide]; omega))]
            show ∃ g' top' i', dX12_reckons_l8 sg wd e t n (i + 1) (top - 1 + 1) (vp_updL g (top - 1).toNatClampNeg (1 - g (top - 1).toNatClampNeg)) = _ ∧ _
            rw [ec, hm, o4, ev_s_cons]
            obtain ⟨g', t', i', r1, r2, r3, r4, r5⟩ := IH (top - 1 + 1) (vp_updL g m (1 - g m)) k1 (by omega) (by rw [hk1, List.length_cons]; rw [ekl, List.length_cons] at hk; omega) hty (by omega)
            refine ⟨g', t', i', r1, ?_, r3, r4, r5⟩
            rw [r2, show (top - 1 + 1).toInt.toNat = m + 1 by omega, hst_at rfl]
            rfl
          · have ex : x.toInt = rC o := by rw [eo]; unfold rE; rw [if_neg (by omega), if_neg o0]
            have hrg := rC_rg (o := o) (by omega)
            have hne : ¬ rC o = 11 := fun y => o4 (hrg.2.2.mp y)
            have hl : 2 ≤ top.toInt := by rw [ekl, List.length_cons, List.length_cons] at hk; omega
            have q1 := s1 (by omega)
            have q2 : (top - 1 - 1).toInt = top.toInt - 2 := by rw [sub_toInt (by rw [t_1]; omega) (by rw [t_1]; omega), t_1]; omega
            have q3 : (top - 1 - 1 + 1).toInt = top.toInt - 1 := by rw [ix_k q2 t_1 (by omega)]; omega
            obtain ⟨m, hm⟩ : ∃ m : Nat, top.toInt.toNat = m + 2 := ⟨top.toInt.toNat - 2, by omega⟩
            have ec1 : (top - 1).toNatClampNeg = m + 1 := cl_eq (by rw [q1]; omega)
            have ec2 : (top - 1 - 1).toNatClampNeg = m := cl_eq (by rw [q2]; omega)
            have hk1 : k1.length + 1 = k.length := by
              have h2 : ∃ r, k1 = r :: tl := by
                rw [ekl] at ek
                unfold ev_k at ek
                rw [if_neg o0, if_neg o4] at ek
                split at ek
                · cases a <;> cases b <;> first | (cases ek; exact ⟨_, rfl⟩) | (cases (show none = some k1 from ek))
                · split at ek
                  · cases a <;> cases b <;> first | (cases ek; exact ⟨_, rfl⟩) | (cases (show none = some k1 from ek))
                  · split at ek
                    · cases a <;> cases b <;> first | (cases ek; exact ⟨_, rfl⟩) | (cases (show none = some k1 from ek))
                    · cases ek
              obtain ⟨r, h2⟩ := h2
              rw [h2, ekl]; rfl
            rw [if_neg (show ¬ (x &&& 15) = 0 from fun y => by rw [i32_eq, hx15, t_0] at y; omega), if_neg (show ¬ (x &&& 15) = 1 from fun y => by rw [i32_eq, hx15, t_1] at y; omega), if_neg (show ¬ (x &&& 15) = 11 from fun y => by rw [i32_eq, hx15, show (11 : Int32).toInt = 11 by decide] at y; omega)]
            show ∃ g' top' i', dX12_reckons_l8 sg wd e t n (i + 1) (top - 1 - 1 + 1) (vp_updL g (top - 1 - 1).toNatClampNeg (dX12_one (x &&& 15) (g (top - 1 - 1).toNatClampNeg) (g (top - 1).toNatClampNeg))) = _ ∧ _
            rw [ec1, ec2, hm, one_eq (o := o) ⟨o16, o5⟩ (by rw [hx15]; omega), ev_s_cons]
            obtain ⟨g', t', i', r1, r2, r3, r4, r5⟩ := IH (top - 1 - 1 + 1) (vp_updL g m (ev_r o (g m) (g (m + 1)))) k1 (by omega) (by omega) hty (by omega)
            refine ⟨g', t', i', r1, ?_, r3, r4, r5⟩
            rw [r2, show (top - 1 - 1 + 1).toInt.toNat = m + 1 by omega, hst_at rfl]
            show _ = ev_s wd _ (ev_u wd o (g (m + 1) :: g m :: hst g m))
            rw [ev_u_two (by omega) o4]
theorem reck_is {sg : Nat → Int32} {wd g8 : Nat → Int64} {x2 x3 t : Int32} {p : Nat} {c : List Int} {b : Bool} (ht : 0 ≤ t.toInt ∧ t.toInt < 6) (hc : RwE sg t.toInt.toNat p c) (h2 : x2.toInt = (p : Int)) (h3 : x3.toInt = (p : Int) + (c.length : Int)) (h4 : x3.toInt ≤ 400) (hty : ev_t c [] = some [b]) (hn : ev_n c ≤ 60) : (dX12_reckons sg g8 wd t x2 x3).1 = (ev_s wd c []).headD 0 := by
  have e0 : c.drop (x2.toInt.toNat - p) = c := by rw [show x2.toInt.toNat - p = 0 by omega]; rfl
  obtain ⟨g', t', i', r1, r2, r3, r4, r5⟩ := recL (wd := wd) ht hc h3 h4 ((x3.toInt - (x2 : Int32).toInt).toNat + 1) x2 0 g8 [] [b] (by omega) (by omega) (by omega) (by decide) (by decide) (by rw [e0]; exact hty) (by rw [e0, t_0]; omega)
  unfold dX12_reckons
  rw [r1]
  rw [e0] at r2
  have r5 : 1 = t'.toInt.toNat := r5
  rw [← r5] at r2
  have e2 : hst g8 (0 : Int32).toInt.toNat = [] := rfl
  rw [e2] at r2
  have r2 : [g' 0] = ev_s wd c [] := r2
  rw [← r2]
  show g' (t' - 1).toNatClampNeg = g' 0
  rw [cl_eq (n := 0) (by rw [sub_toInt (by rw [t_1]; omega) (by rw [t_1]; omega), t_1]; omega)]
theorem i48 {t c : Int32} (ht : 0 ≤ t.toInt ∧ t.toInt < 6) (hc : 0 ≤ c.toInt ∧ c.toInt < 12) : ((48 : Int32) * t + (4 : Int32) * c).toInt = 48 * t.toInt + 4 * c.toInt := by
  have h4 : (4 : Int32).toInt = 4 := by decide
  have h48 : (48 : Int32).toInt = 48 := by decide
  have e1 : ((48 : Int32) * t).toInt = 48 * t.toInt := by rw [mul_toInt (by rw [h48]; omega) (by rw [h48]; omega), h48]
  have e2 : ((4 : Int32) * c).toInt = 4 * c.toInt := by rw [mul_toInt (by rw [h4]; omega) (by rw [h4]; omega), h4]
  rw [ix_k e1 e2 (by omega)]
theorem rdrop {R : RuA} {i : Nat} (h : i < R.length) : R.drop i = R.getD i ([], none) :: R.drop (i + 1) := by
  rw [List.drop_eq_getElem_cons h, List.getD_eq_getElem?_getD, List.getElem?_eq_getElem h]
  rfl
theorem ru_ok_tail : ∀ {R : RuA} {x : List Int × Option (List Int)}, ru_ok (x :: R) → ru_ok R
  | _, (_, none), h => h.2.2
  | _, (_, some _), h => h.2.2.2
theorem sumsL {sg cl cs : Nat → Int32} {wd : Nat → Int64} {t : Int32} {R : RuA} (ht : 0 ≤ t.toInt ∧ t.toInt < 6) (hR : RwR sg cl cs t.toInt.toNat R) : ∀ (n : Nat) (c top : Int32) (g : Nat → Int64), 0 ≤ c.toInt → c.toInt ≤ (R.length : Int) → (R.length : Int) - c.toInt < (n : Int) → ru_ok (R.drop c.toInt.toNat) →
    (if (dX12_summedBy_l2 sg cl cs wd t n c top g).1 = 1 then (dX12_summedBy_l2 sg cl cs wd t n c top g).2.1 else 0) = ru_sum wd (R.drop c.toInt.toNat)
  | 0, c, top, g, h0, h1, hn, hk => by omega
  | n + 1, c, top, g, h0, h1, hn, hk => by
    have h12 := hR.2.1
    rw [dX12_summedBy_l2_s, cl_b (b := t)]
    by_cases z : cs t.toInt.toNat ≤ c
    · rw [if_pos z]
      rw [i32_leq, hR.1] at z
      rw [List.drop_eq_nil_of_le (by omega)]
      exact fin0
    · rw [if_neg z]
      rw [i32_leq, hR.1] at z
      have hj : c.toInt.toNat < R.length := by omega
      have e1 : (c + 1).toInt = c.toInt + 1 := by rw [ix_k rfl t_1 (by omega)]
      have eN : (c + 1).toInt.toNat = c.toInt.toNat + 1 := by omega
      have hb := i48 ht (c := c) (by omega)
      have c0 : ((48 : Int32) * t + (4 : Int32) * c).toNatClampNeg = 48 * t.toInt.toNat + 4 * c.toInt.toNat := cl_eq (by rw [hb]; omega)
      have c1 : ((48 : Int32) * t + (4 : Int32) * c + 1).toNatClampNeg = 48 * t.toInt.toNat + 4 * c.toInt.toNat + 1 := cl_eq (by rw [ix_k hb t_1 (by omega)]; omega)
      have c2 : ((48 : Int32) * t + (4 : Int32) * c + 2).toNatClampNeg = 48 * t.toInt.toNat + 4 * c.toInt.toNat + 2 := cl_eq (by rw [ix_k hb t_2 (by omega)]; omega)
      have c3 : ((48 : Int32) * t + (4 : Int32) * c + 3).toNatClampNeg = 48 * t.toInt.toNat + 4 * c.toInt.toNat + 3 := cl_eq (by rw [ix_k hb (show (3 : Int32).toInt = 3 by decide) (by omega)]; omega)
      rw [c0, c1, c2, c3]
      have hrow := hR.2.2 _ hj
      rw [rdrop hj] at hk ⊢
      have IH := fun (top' : Int32) (g' : Nat → Int64) => sumsL (wd := wd) ht hR n (c + 1) top' g' (by omega) (by omega) (by omega) (by rw [eN]; exact ru_ok_tail hk)
      rw [eN] at IH
      generalize R.getD c.toInt.toNat ([], none) = x at hrow hk ⊢
      obtain ⟨⟨p, p1, p2, p3, p4⟩, hrow2⟩ := hrow
      match x, hrow2, hk, p2, p4 with
      | (s, none), hrow2, hk, p2, p4 =>
        have hneg : cl (48 * t.toInt.toNat + 4 * c.toInt.toNat + 2) < 0 := by rw [i32_lt, t_0]; exact hrow2
        rw [if_pos hneg]
        show (if (1 : Int32) = 1 then (dX12_reckons sg g wd t (cl (48 * t.toInt.toNat + 4 * c.toInt.toNat)) (cl (48 * t.toInt.toNat + 4 * c.toInt.toNat + 1))).1 else 0) = (ev_s wd s []).headD 0
        rw [if_pos rfl]
        exact reck_is ht p4 p1 p2 p3 hk.1 hk.2.1
      | (s, some u), hrow2, hk, p2, p4 =>
        obtain ⟨q, q1, q2, q3, q4⟩ := hrow2
        have hneg : ¬ cl (48 * t.toInt.toNat + 4 * c.toInt.toNat + 2) < 0 := by rw [i32_lt, t_0, q1]; omega
        rw [if_neg hneg, reck_is ht q4 q1 q2 q3 hk.2.1 (by have := hk.2.2.1; omega)]
        show _ = if (ev_s wd u []).headD 0 = 1 then (ev_s wd s []).headD 0 else ru_sum wd (R.drop (c.toInt.toNat + 1))
        by_cases y : (ev_s wd u []).headD 0 = 1
        · rw [if_pos ((lg_cmp_eq _ _).mpr y), if_pos y]
          show (if (1 : Int32) = 1 then (dX12_reckons sg _ wd t (cl (48 * t.toInt.toNat + 4 * c.toInt.toNat)) (cl (48 * t.toInt.toNat + 4 * c.toInt.toNat + 1))).1 else 0) = _
          rw [if_pos rfl]
          exact reck_is ht p4 p1 p2 p3 hk.1 (by have := hk.2.2.1; omega)
        · rw [if_neg (fun w => y ((lg_cmp_eq _ _).mp w)), if_neg y]
          exact IH _ _
theorem sums_is {sg cl cs : Nat → Int32} {wd g : Nat → Int64} {t top : Int32} {R : RuA} (ht : 0 ≤ t.toInt ∧ t.toInt < 6) (hR : RwR sg cl cs t.toInt.toNat R) (hk : ru_ok R) : (dX12_summedBy sg cl cs g wd top t).1 = ru_sum wd R := by
  have h12 := hR.2.1
  have h := sumsL (wd := wd) ht hR ((12 - (0 : Int32).toInt).toNat + 1) 0 top g (by decide) (by rw [t_0]; omega) (by rw [t_0]; omega) hk
  have e : R.drop (0 : Int32).toInt.toNat = R := rfl
  rw [e] at h
  rw [← h]
  unfold dX12_summedBy
  by_cases z : (dX12_summedBy_l2 sg cl cs wd t ((12 - (0 : Int32).toInt).toNat + 1) 0 top g).1 = 1
  · rw [if_pos z, if_pos z]
  · rw [if_neg z, if_neg z]
set_option maxRecDepth 16384
/-! a day by a rule -/
theorem cl_l4 : (4 : Int32).toNatClampNeg = 4 := by decide
theorem cl_l5 : (5 : Int32).toNatClampNeg = 5 := by decide
theorem cl_l6 : (6 : Int32).toNatClampNeg = 6 := by decide
theorem cl_l7 : (7 : Int32).toNatClampNeg = 7 := by decide
theorem cl_l8 : (8 : Int32).toNatClampNeg = 8 := by decide
theorem cl_l9 : (9 : Int32).toNatClampNeg = 9 := by decide
theorem cl_l12 : (12 : Int32).toNatClampNeg = 12 := by decide
theorem will_r {g2 g4 g5 s : Nat → Int32} {g8 g9 : Nat → Int64} {top fo b : Int32} (g : Gs s) (h6 : 0 ≤ b.toInt ∧ b.toInt < 6) (hf : 0 ≤ fo.toInt) : ∃ W : Nat → Int64, (∀ k : Nat, k < 13 → W k = (wdI s b k).toInt64) ∧ dX12_isWilling g2 g4 g5 s g8 g9 top fo b = (if lg_cmp (dX12_summedBy g2 g4 g5 g8 W top fo).1 0 ≤ 0 then ((0 : Int32), (dX12_summedBy g2 g4 g5 g8 W top fo).2.1, (dX12_summedBy g2 g4 g5 g8 W top fo).2.2, W) else ((1 : Int32), (dX12_summedBy g2 g4 g5 g8 W top fo).2.1, (dX12_summedBy g2 g4 g5 g8 W top fo).2.2, W)) := by
  unfold dX12_isWilling
  rw [if_pos (show (0 : Int32) ≤ fo by rw [i32_leq, t_0]; exact hf)]
  refine ⟨_, ?_, rfl⟩
  intro k hk
  obtain ⟨-, -, k0, -, k10⟩ := clk g
  have hd := g.1.2.2.2.2.2
  have h2 := g.1.2.1
  have e1 : (s 10 + 1).toInt = (s 10).toInt + 1 := by rw [ix_k rfl t_1 (by omega)]
  have hs1 := still_at (s := s) (f1 := fun j => s (36 + j)) (d := s 10 + 1) (fun _ _ => rfl) h2 (by omega)
  simp only [cl_l0, cl_l1, cl_l2, cl_l3, cl_l4, cl_l5, cl_l6, cl_l7, cl_l8, cl_l9, cl_l10, cl_l11, cl_l12, rd_temper h6, rd_bought h6, rd_met h6, c56 h6, c62 h6, c36 ⟨k0, k10⟩, c36 ⟨hs1.2.1, hs1.2.2⟩]
  have hv : k = 0 ∨ k = 1 ∨ k = 2 ∨ k = 3 ∨ k = 4 ∨ k = 5 ∨ k = 6 ∨ k = 7 ∨ k = 8 ∨ k = 9 ∨ k = 10 ∨ k = 11 ∨ k = 12 := by omega
  rcases hv with rfl | rfl | rfl | rfl | rfl | rfl | rfl | rfl | rfl | rfl | rfl | rfl | rfl <;> rfl
section RDAY
variable {v0 v1 v2 v3 v4 v5 : Int32} {f1 f2 f3 f4 f5 f6 f7 f8 s : Nat → Int32}
theorem ShR.sums (h : ShR v0 v1 v2 v3 v4 v5 f1 f2 f3 f4 f5 f6 f7 f8 s) (g : Gs s) {b fo top : Int32} (hb : 0 ≤ b.toInt ∧ b.toInt < (s 3).toInt) {rf sg cl cs : Nat → Int32} {rn : Nat} {R : RuA} (hL : CdE rf (ru_fl R)) (hn : (ru_fl R).length = rn) (h4 : rn ≤ 400) (hf : 0 ≤ fo.toInt ∧ fo.toInt < 6) (hR : RwR sg cl cs fo.toInt.toNat R) (hk : ru_ok R) {W g8 hd : Nat → Int64} (hW : ∀ k : Nat, k < 13 → W k = (wdI s b k).toInt64) : (dX6_sumFor f1 f3 f4 f5 f6 f7 f8 v0 v2 v3 v4 v5 rf hd b rn).1 = (dX12_summedBy sg cl cs g8 W top fo).1 := by
  rw [sum_is hL hn h4, ru_eq R hk, sums_is hf hR hk]
  refine ru_sum_wd (fun k hk => ?_) R hk
  show dX9_wordOf f1 f3 f4 f5 f6 f7 f8 v0 v2 v3 v4 v5 (nI k) b = W k
  have hi : (nI k).toInt = (k : Int) := nI_toInt (by omega)
  rw [h.word g hb (by omega), hW k hk, show (nI k).toInt.toNat = k by omega]
end RDAY
theorem day_r {v1 v2 v3 v4 po fo : Int32} {f1 f2 f4 f5 rf sg cl cs s0 : Nat → Int32} {rn : Nat} {R : RuA} (hL : CdE rf (ru_fl R)) (hn : (ru_fl R).length = rn) (h4 : rn ≤ 400) (hf : 0 ≤ fo.toInt ∧ fo.toInt < 6) (hR : RwR sg cl cs fo.toInt.toNat R) (hk : ru_ok R) : ∀ (n : Nat) (b who v0 v5 top : Int32) (f3 f6 f8 f7 s : Nat → Int32) (hd g8 g9 : Nat → Int64), ShR v0 v1 v2 v3 v4 v5 f1 f2 f3 f4 f5 f6 f7 f8 s → Gs s → StL s0 s → po = s0 (46 + (dX12_clock s0).toInt.toNat) → 0 ≤ b.toInt → b.toInt ≤ (s 3).toInt → (s 3).toInt - b.toInt < (n : Int) →
    (∃ w a0 a5 a3 a6 a8 a7 z hd', dX9_goThroughDay_r_l44 f1 f4 f5 v2 v3 v4 rf rn po n b hd who v0 v5 f3 f6 f8 f7 = (z, hd', w, a0, a5, a3, a6, a8, a7) ∧ PsE v1 v2 v3 v4 f1 f2 f4 f5 s0 w a0 a5 a3 a6 a8 a7 (dX12_passes_l4 sg cl cs fo 0 n b top g8 g9 s who))
  | 0, b, who, v0, v5, top, f3, f6, f8, f7, s, hd, g8, g9, h, g, hst, ep, h0, h1, hm => by omega
  | n + 1, b, who, v0, v5, top, f3, f6, f8, f7, s, hd, g8, g9, h, g, hst, ep, h0, h1, hm => by
    have g3 := g.1.2.2.1
    have ec := hst.clock
    rw [dX9_goThroughDay_r_l44_s, dX12_passes_l4_s, cl_l3]
    by_cases z : s 3 ≤ b
    · rw [if_pos (show v3 ≤ b by rw [h.1.2.2.2.1]; exact z), if_pos z]
      exact ⟨_, _, _, _, _, _, _, _, _, rfl, h, g, rfl, hst⟩
    · have hb : b.toInt < (s 3).toInt := by rw [i32_leq] at z; omega
      have h6 : 0 ≤ b.toInt ∧ b.toInt < 6 := by omega
      have hn6 : b.toInt.toNat < 6 := by omega
      have e1 : (b + 1).toInt = b.toInt + 1 := by rw [ix_k rfl t_1 (by omega)]
      obtain ⟨a3, -, -, -, a7, -⟩ := h.2.2 _ hn6
      obtain ⟨W, hW, ew⟩ := will_r (g2 := sg) (g4 := cl) (g5 := cs) (g8 := g8) (g9 := g9) (top := top) (fo := fo) g h6 hf.1
      have es := h.sums (top := top) (g8 := g8) (hd := hd) g ⟨h0, hb⟩ hL hn h4 hf hR hk hW
      rw [if_neg (show ¬ v3 ≤ b by rw [h.1.2.2.2.1]; exact z), if_neg (show ¬ (6 : Int32) ≤ b by rw [i32_leq, t_6]; omega), if_neg z, h.can g ⟨h0, hb⟩, ew, es]
      have ep2 : po = s (46 + (dX12_clock s).toInt.toNat) := by rw [ep, ec, hst _ (by omega)]
      by_cases zc : dX12_canBuy s b = 0
      · rw [if_pos zc, if_pos zc]
        exact day_r hL hn h4 hf hR hk n (b + 1) who v0 v5 _ f3 f6 f8 f7 s _ _ _ h g hst ep (by omega) (by omega) (by omega)
      · rw [if_neg zc, if_neg zc]
        by_cases zw : lg_cmp (dX12_summedBy sg cl cs g8 W top fo).1 0 ≤ 0
        · rw [if_pos zw, if_pos zw, if_pos rfl]
          exact day_r hL hn h4 hf hR hk n (b + 1) who v0 v5 _ f3 f6 f8 f7 s _ _ _ h g hst ep (by omega) (by omega) (by omega)
        · rw [if_neg zw, if_neg zw, if_neg one_ne, comes_eq h6 hn6]
          by_cases zm : dX12_isMet s 0 b = 0
          · have zp : ((po >>> (b &&& 31)) &&& 1) = 0 := by rw [ep2]; exact (met_eq g).mp zm
            obtain ⟨t1, t2⟩ := h.takes g ⟨h0, hb⟩
            rw [if_pos zm, if_pos zp, if_neg one_ne, t1]
            have hs3 : tkB s b.toInt.toNat 3 = s 3 := tk_no (by omega) (by omega) (by omega) (by omega)
            exact day_r hL hn h4 hf hR hk n (b + 1) _ _ _ _ _ _ _ f7 (tkB s b.toInt.toNat) _ _ _ t2 (g.takes hn6 (can_le h6 zc)) (hst.tr (StL.tk hn6)) ep (by omega) (by rw [hs3]; omega) (by rw [hs3]; omega)
          · have zp : ¬ ((po >>> (b &&& 31)) &&& 1) = 0 := by rw [ep2]; exact fun y => zm ((met_eq g).mpr y)
            rw [if_neg zm, if_neg zp, if_pos rfl, cl_b (b := b), a7]
            have hs3 : mtB s b.toInt.toNat 3 = s 3 := mt_no (by omega) (by omega)
            have h' := h.meets hn6
            rw [← h.1.2.2.2.2.1] at h'
            exact day_r hL hn h4 hf hR hk n (b + 1) who v0 v5 _ f3 f6 _ _ (mtB s b.toInt.toNat) _ _ _ h' (g.meets hn6) (hst.tr (StL.mt hn6)) ep (by omega) (by rw [hs3]; omega) (by rw [hs3]; omega)
set_option maxRecDepth 16384
/-! a day as a whole -/
theorem sumB_eq {s t : Nat → Int32} : ∀ m : Nat, m ≤ 6 → (∀ j : Nat, j < 6 → s (13 + 4 * j) = t (13 + 4 * j)) → sumB s m = sumB t m
  | 0, _, _ => rfl
  | m + 1, hm, h => by
    show sumB s m + s (13 + 4 * m) = sumB t m + t (13 + 4 * m)
    rw [sumB_eq m (by omega) h, h m (by omega)]
/-- how the cells stand behind a day -/
def FnE (t W s' : Nat → Int32) (sh : Int32) : Prop := s' 11 = sh ∧ s' 10 = t 10 + 1 ∧ ∀ k : Nat, k ≠ 10 → k ≠ 11 → s' k = W k
section FIN
variable {v1 v2 v3 v4 a0 a5 sh : Int32} {f1 f2 f4 f5 a3 a6 a7 a8 c3 t W s' : Nat → Int32}
theorem FnE.ot (hf : FnE t W s' sh) (hw : WtE t c3 W) {k : Nat} (h1 : k ≠ 10) (h2 : k ≠ 11) (h3 : ∀ j : Nat, j < 6 → k ≠ 12 + 4 * j) : s' k = t k := (hf.2.2 k h1 h2).trans (hw.2.1 k h3)
theorem ShR.fin (h : ShR a0 v1 v2 v3 v4 a5 f1 f2 a3 f4 f5 a6 a7 a8 t) (g : Gs t) (hw : WtE t c3 W) (hf : FnE t W s' sh) : ShR sh v1 v2 v3 (v4 + 1) a5 f1 f2 c3 f4 f5 a6 a7 a8 s' := by
  have g3 := g.1.2.2.1
  have e3 : s' 3 = t 3 := hf.ot hw (by omega) (by omega) (fun j _ => by omega)
  refine ⟨⟨hf.1.symm, ?_, ?_, ?_, ?_, ?_⟩, fun k hk => ?_, fun k hk => ?_⟩
  · rw [hf.ot hw (k := 1) (by omega) (by omega) (fun j _ => by omega)]; exact h.1.2.1
  · rw [hf.ot hw (k := 2) (by omega) (by omega) (fun j _ => by omega)]; exact h.1.2.2.1
  · rw [e3]; exact h.1.2.2.2.1
  · rw [hf.2.1, h.1.2.2.2.2.1]
  · rw [e3, h.1.2.2.2.2.2]
    exact (sumB_eq _ (by omega) (fun j hj => hf.ot hw (by omega) (by omega) (fun i _ => by omega))).symm
  · rw [hf.ot hw (k := 36 + k) (by omega) (by omega) (fun j _ => by omega), hf.ot hw (k := 46 + k) (by omega) (by omega) (fun j _ => by omega)]
    exact h.2.1 k hk
  · obtain ⟨c3', c4, c5, c6, c7, c8⟩ := h.2.2 k hk
    rw [hf.2.2 (12 + 4 * k) (by omega) (by omega), hf.ot hw (k := 56 + k) (by omega) (by omega) (fun j _ => by omega), hf.ot hw (k := 62 + k) (by omega) (by omega) (fun j _ => by omega), hf.ot hw (k := 13 + 4 * k) (by omega) (by omega) (fun j _ => by omega), hf.ot hw (k := 14 + 4 * k) (by omega) (by omega) (fun j _ => by omega), hf.ot hw (k := 15 + 4 * k) (by omega) (by omega) (fun j _ => by omega)]
    exact ⟨hw.1 k hk, c4, c5, c6, c7, c8⟩
theorem Gs.fin (g : Gs t) (hd : (t 10).toInt ≤ 60) (hw : WtE t c3 W) (hf : FnE t W s' sh) (hs : 0 ≤ sh.toInt ∧ sh.toInt ≤ 99) : Gs s' ∧ (s' 10).toInt = (t 10).toInt + 1 := by
  have gd := g.1.2.2.2.2.2
  have e10 : (s' 10).toInt = (t 10).toInt + 1 := by rw [hf.2.1, ix_k rfl t_1 (by omega)]
  refine ⟨⟨?_, fun k hk => ?_⟩, e10⟩
  · rw [hf.ot hw (k := 0) (by omega) (by omega) (fun j _ => by omega), hf.ot hw (k := 2) (by omega) (by omega) (fun j _ => by omega), hf.ot hw (k := 3) (by omega) (by omega) (fun j _ => by omega), hf.ot hw (k := 1) (by omega) (by omega) (fun j _ => by omega), hf.1, e10]
    exact ⟨g.1.1, g.1.2.1, g.1.2.2.1, g.1.2.2.2.1, hs, by omega⟩
  · obtain ⟨c1, c2, c3'⟩ := g.2 k hk
    rw [hf.2.2 (12 + 4 * k) (by omega) (by omega), hf.ot hw (k := 15 + 4 * k) (by omega) (by omega) (fun j _ => by omega), hf.ot hw (k := 56 + k) (by omega) (by omega) (fun j _ => by omega), e10]
    exact ⟨hw.2.2 k hk, by omega, c3'⟩
end FIN
/-- what the text told stays by a day -/
def TlS (s t : Nat → Int32) : Prop := ∀ k : Nat, (k < 10 ∨ 36 ≤ k) → t k = s k
theorem StL.tl {s t W s' c3 : Nat → Int32} {sh : Int32} (h : StL s t) (hw : WtE t c3 W) (hf : FnE t W s' sh) : TlS s s' := fun k hk => by
  rw [hf.ot hw (by omega) (by omega) (fun j hj => by omega)]
  exact h k (by omega)
theorem hasC {n c : Int32} (h : 0 ≤ c.toInt ∧ c.toInt < n.toInt) (h10 : c.toInt < 10) : dX9_hasClock n c = 1 := by
  unfold dX9_hasClock
  rw [if_neg (by rw [i32_lt, t_0]; omega), if_neg (by rw [i32_leq]; omega), if_neg (by rw [i32_leq, t_10]; omega)]
/-- fill and day, as the reference does them -/
def fnR (W : Nat → Int32) : Nat → Int32 := if (W 10 - W 10 / 7 * 7) = 6 then (if (upd W 11 (W 11 + W 1)) 11 ≤ 99 then (upd (upd W 11 (W 11 + W 1)) 10 ((upd W 11 (W 11 + W 1)) 10 + 1)) else (upd (upd (upd W 11 (W 11 + W 1)) 11 99) 10 ((upd (upd W 11 (W 11 + W 1)) 11 99) 10 + 1))) else (upd W 10 (W 10 + 1))
def fnC (t : Nat → Int32) : Int32 := if (t 10 - t 10 / 7 * 7) = 6 then (if t 11 + t 1 < 99 then t 11 + t 1 else 99) else t 11
theorem fin_r {t W c3 : Nat → Int32} (g : Gs t) (hw : WtE t c3 W) : ∃ s' sh, fnR W = s' ∧ fnC t = sh ∧ FnE t W s' sh ∧ 0 ≤ sh.toInt ∧ sh.toInt ≤ 99 := by
  have e10 : W 10 = t 10 := hw.2.1 10 (fun j _ => by omega)
  have e11 : W 11 = t 11 := hw.2.1 11 (fun j _ => by omega)
  have e1 : W 1 = t 1 := hw.2.1 1 (fun j _ => by omega)
  have gs := g.1.2.2.2.2.1
  have gf := g.1.2.2.2.1
  have ea : (t 11 + t 1).toInt = (t 11).toInt + (t 1).toInt := by rw [ix_k rfl rfl (by omega)]
  unfold fnR fnC
  rw [e10, e11, e1, upd_at, upd_ne (f := W) (show (10 : Nat) ≠ 11 by omega), upd_ne (f := upd W 11 (t 11 + t 1)) (show (10 : Nat) ≠ 11 by omega), upd_ne (f := W) (show (10 : Nat) ≠ 11 by omega), e10]
  by_cases z : (t 10 - t 10 / 7 * 7) = 6
  · rw [if_pos z, if_pos z]
    by_cases y : t 11 + t 1 ≤ 99
    · rw [if_pos y]
      by_cases q : t 11 + t 1 < 99
      · rw [if_pos q]
        rw [i32_lt, t_99] at q
        refine ⟨_, _, rfl, rfl, ⟨?_, ?_, fun k h1 h2 => ?_⟩, by omega, by omega⟩
        · rw [upd_ne (by omega), upd_at]
        · rw [upd_at]
        · rw [upd_ne h1, upd_ne h2]
      · rw [if_neg q]
        rw [i32_lt, t_99] at q
        rw [i32_leq, t_99] at y
        refine ⟨_, _, rfl, rfl, ⟨?_, ?_, fun k h1 h2 => ?_⟩, by rw [t_99]; omega, by rw [t_99]; omega⟩
        · rw [upd_ne (by omega), upd_at]
          exact Int32.toInt_inj.mp (by rw [t_99]; omega)
        · rw [upd_at]
        · rw [upd_ne h1, upd_ne h2]
    · rw [if_neg y]
      rw [i32_leq, t_99] at y
      rw [if_neg (by rw [i32_lt, t_99]; omega)]
      refine ⟨_, _, rfl, rfl, ⟨?_, ?_, fun k h1 h2 => ?_⟩, by rw [t_99]; omega, by rw [t_99]; omega⟩
      · rw [upd_ne (by omega), upd_at]
      · rw [upd_at]
      · rw [upd_ne h1, upd_ne h2, upd_ne h2]
  · rw [if_neg z, if_neg z]
    refine ⟨_, _, rfl, rfl, ⟨?_, ?_, fun k h1 h2 => ?_⟩, gs.1, gs.2⟩
    · rw [upd_ne (by omega)]; exact e11
    · rw [upd_at]
    · rw [upd_ne h1]
theorem passes_is {g2 g4 g5 s : Nat → Int32} {g8 g9 : Nat → Int64} {top fo gd : Int32} {P : PsT} (e : dX12_passes_l4 g2 g4 g5 fo gd ((6 - (0 : Int32).toInt).toNat + 1) 0 top g8 g9 s 0 = P) : dX12_passes g2 g4 g5 s g8 g9 top fo gd = (P.2.2.2.2.2, P.2.1, P.2.2.1, P.2.2.2.1, fnR (dX12_weathers P.2.2.2.2.1)) := by
  unfold dX12_passes fnR
  rw [e, cl_l10, cl_l11, cl_l1]
  by_cases z : (dX12_weathers P.2.2.2.2.1 10 - dX12_weathers P.2.2.2.2.1 10 / 7 * 7) = 6
  · rw [if_pos z, if_pos z]
    by_cases y : upd (dX12_weathers P.2.2.2.2.1) 11 (dX12_weathers P.2.2.2.2.1 11 + dX12_weathers P.2.2.2.2.1 1) 11 ≤ 99
    · rw [if_pos y, if_pos y]
    · rw [if_neg y, if_neg y]
  · rw [if_neg z, if_neg z]
/-- the two days, by none -/
theorem full_n {v0 v1 v2 v3 v4 v5 fo top : Int32} {f1 f2 f3 f4 f5 f6 f7 f8 s g2 g4 g5 : Nat → Int32} {g8 g9 : Nat → Int64} (h : ShR v0 v1 v2 v3 v4 v5 f1 f2 f3 f4 f5 f6 f7 f8 s) (g : Gs s) (hd : (s 10).toInt ≤ 60) (hf : fo.toInt < 0) : ∃ who sh so c3 a6 a7 a8 top' h8 h9 s', dX9_goThroughDay_n f1 f2 f3 f4 f5 f6 f7 f8 v0 v1 v2 v3 v4 v5 = (who, sh, v4 + 1, so, c3, a6, a7, a8) ∧ dX12_passes g2 g4 g5 s g8 g9 top fo 0 = (who, top', h8, h9, s') ∧ ShR sh v1 v2 v3 (v4 + 1) so f1 f2 c3 f4 f5 a6 a7 a8 s' ∧ Gs s' ∧ (s' 10).toInt = (s 10).toInt + 1 ∧ TlS s s' := by
  obtain ⟨ec, ek, k0, k2, k10⟩ := clk g
  have g3 := g.1.2.2.1
  have hst := h.still g
  have hck : dX9_clockOn v2 v4 = dX12_clock s := by rw [h.1.2.2.1, h.1.2.2.2.2.1]; exact ek
  have hpo : f2 (dX9_clockOn v2 v4).toNatClampNeg = s (46 + (dX12_clock s).toInt.toNat) := by
    rw [hck]
    exact (h.2.1 (dX12_clock s).toInt.toNat (by omega)).2
  obtain ⟨w, a0, a5, a3, a6, a8, a7, z, eC, hS, gS, ew, hl⟩ := day_n (g2 := g2) (g4 := g4) (g5 := g5) hf ((6 - (0 : Int32).toInt).toNat + 1) 0 0 v0 v5 top f3 f6 f8 f7 s g8 g9 h g StL.rf rfl rfl (by decide) (by rw [t_0]; omega) (by rw [t_0]; omega)
  generalize eP : dX12_passes_l4 g2 g4 g5 fo 0 ((6 - (0 : Int32).toInt).toNat + 1) 0 top g8 g9 s 0 = P at hS gS ew hl
  have hw := weath_all gS hS.1.2.2.2.1 (fun k hk => (hS.2.2 k hk).1)
  obtain ⟨s', sh, e1, e2, hF, hs0, hs99⟩ := fin_r gS hw
  have e10 : P.2.2.2.2.1 10 = s 10 := hl 10 (by omega)
  have hg := gS.fin (by rw [e10]; exact hd) hw hF ⟨hs0, hs99⟩
  refine ⟨w, sh, a5, _, a6, a7, a8, P.2.1, P.2.2.1, P.2.2.2.1, s', ?_, ?_, hS.fin gS hw hF, hg.1, by rw [hg.2, e10], hl.tl hw hF⟩
  · unfold dX9_goThroughDay_n
    rw [hpo, hck, hasC (n := v2) ⟨k0, by rw [h.1.2.2.1]; exact k2⟩ k10, if_neg one_ne, hst, eC]
    have es : s (36 + (dX12_clock s).toInt.toNat) = P.2.2.2.2.1 (36 + (dX12_clock P.2.2.2.2.1).toInt.toNat) := by rw [hl.clock, hl _ (by omega)]
    rw [es, show v4 = P.2.2.2.2.1 10 by rw [e10]; exact h.1.2.2.2.2.1]
    by_cases q : (P.2.2.2.2.1 10 - P.2.2.2.2.1 10 / 7 * 7) = 6
    · rw [if_pos q, ← e2]
      unfold fnC
      rw [if_pos q, ← hS.1.1, ← hS.1.2.1]
    · rw [if_neg q, ← e2]
      unfold fnC
      rw [if_neg q, ← hS.1.1]
  · rw [passes_is eP, e1, ew]
theorem full_r {v0 v1 v2 v3 v4 v5 fo top : Int32} {f1 f2 f3 f4 f5 f6 f7 f8 s rf sg cl cs : Nat → Int32} {g8 g9 hd0 : Nat → Int64} {rn : Nat} {R : RuA} (hL : CdE rf (ru_fl R)) (hn : (ru_fl R).length = rn) (h4 : rn ≤ 400) (hfo : 0 ≤ fo.toInt ∧ fo.toInt < 6) (hR : RwR sg cl cs fo.toInt.toNat R) (hk : ru_ok R) (h : ShR v0 v1 v2 v3 v4 v5 f1 f2 f3 f4 f5 f6 f7 f8 s) (g : Gs s) (hd : (s 10).toInt ≤ 60) : ∃ who sh so c3 a6 a7 a8 hd1 top' h8 h9 s', dX9_goThroughDay_r f1 f2 f3 f4 f5 f6 f7 f8 v0 v1 v2 v3 v4 v5 rf hd0 rn = (who, sh, v4 + 1, so, c3, a6, a7, a8, hd1) ∧ dX12_passes sg cl cs s g8 g9 top fo 0 = (who, top', h8, h9, s') ∧ ShR sh v1 v2 v3 (v4 + 1) so f1 f2 c3 f4 f5 a6 a7 a8 s' ∧ Gs s' ∧ (s' 10).toInt = (s 10).toInt + 1 ∧ TlS s s' := by
  obtain ⟨ec, ek, k0, k2, k10⟩ := clk g
  have g3 := g.1.2.2.1
  have hst := h.still g
  have hck : dX9_clockOn v2 v4 = dX12_clock s := by rw [h.1.2.2.1, h.1.2.2.2.2.1]; exact ek
  have hpo : f2 (dX9_clockOn v2 v4).toNatClampNeg = s (46 + (dX12_clock s).toInt.toNat) := by
    rw [hck]
    exact (h.2.1 (dX12_clock s).toInt.toNat (by omega)).2
  obtain ⟨w, a0, a5, a3, a6, a8, a7, z, hd1, eC, hS, gS, ew, hl⟩ := day_r hL hn h4 hfo hR hk ((6 - (0 : Int32).toInt).toNat + 1) 0 0 v0 v5 top f3 f6 f8 f7 s hd0 g8 g9 h g StL.rf rfl (by decide) (by rw [t_0]; omega) (by rw [t_0]; omega)
  generalize eP : dX12_passes_l4 sg cl cs fo 0 ((6 - (0 : Int32).toInt).toNat + 1) 0 top g8 g9 s 0 = P at hS gS ew hl
  have hw := weath_all gS hS.1.2.2.2.1 (fun k hk => (hS.2.2 k hk).1)
  obtain ⟨s', sh, e1, e2, hF, hs0, hs99⟩ := fin_r gS hw
  have e10 : P.2.2.2.2.1 10 = s 10 := hl 10 (by omega)
  have hg := gS.fin (by rw [e10]; exact hd) hw hF ⟨hs0, hs99⟩
  refine ⟨w, sh, a5, _, a6, a7, a8, hd1, P.2.1, P.2.2.1, P.2.2.2.1, s', ?_, ?_, hS.fin gS hw hF, hg.1, by rw [hg.2, e10], hl.tl hw hF⟩
  · unfold dX9_goThroughDay_r
    rw [hpo, hck, hasC (n := v2) ⟨k0, by rw [h.1.2.2.1]; exact k2⟩ k10, if_neg one_ne, hst, eC]
    have es : s (36 + (dX12_clock s).toInt.toNat) = P.2.2.2.2.1 (36 + (dX12_clock P.2.2.2.2.1).toInt.toNat) := by rw [hl.clock, hl _ (by omega)]
    rw [es, show v4 = P.2.2.2.2.1 10 by rw [e10]; exact h.1.2.2.2.2.1]
    by_cases q : (P.2.2.2.2.1 10 - P.2.2.2.2.1 10 / 7 * 7) = 6
    · rw [if_pos q, ← e2]
      unfold fnC
      rw [if_pos q, ← hS.1.1, ← hS.1.2.1]
    · rw [if_neg q, ← e2]
      unfold fnC
      rw [if_neg q, ← hS.1.1]
  · rw [passes_is eP, e1, ew]
def dX2_whoOn (Yf_2 : Nat → Int32) (x1 : Int32) (x2 : Int32) : Int32 := (if ((x1 * (61 : Int32)) + x2) < (0 : Int32) then (0 : Int32) else (if (427 : Int32) ≤ ((x1 * (61 : Int32)) + x2) then (0 : Int32) else (Yf_2 (((x1 * (61 : Int32)) + x2)).toNatClampNeg)))
set_option maxHeartbeats 4000000 in
set_option maxRecDepth 100000 in
theorem ct_dX2_whoOn (l : Launch) (D : va_G) (tc : Nat → ClassId) (sk : (Nat → Nat) × (Nat → Nat)) (Ya : Nat → Nat) (Yv : Nat → Int32) (Yf : Nat → Nat → Int32) (Wa : Nat → Nat) (Wv : Nat → Int32) (Wf : Nat → Nat → Int32) (x1 : Int32) (x2 : Int32)  : Ct l yX2_whoOn cX2_whoOn 4 (some .int) { frames := 0, cells := 0, slots := 0, locals := 0 } D tc sk [.ref (Ya 0), .int x1, .int x2] [((Ya 0), .inr (2, [.ref (Wa 0), .ref (Ya 2), .ref (Ya 3), .int (Yv 0)])), ((Ya 2), .inl (tc 0, 427, .inl (Yf 2))), ((Ya 3), .inl (tc 3, 7, .inl (Yf 3))), ((Wa 0), .inr (9, [.int (Wv 0), .int (Wv 1), .int (Wv 2), .int (Wv 3), .int (Wv 4), .int (Wv 5), .ref (Wa 1), .ref (Wa 2), .ref (Wa 3), .ref (Wa 4), .ref (Wa 5), .ref (Wa 6), .ref (Wa 7), .ref (Wa 8)])), ((Wa 1), .inl (tc 0, 10, .inl (Wf 1))), ((Wa 2), .inl (tc 0, 10, .inl (Wf 2))), ((Wa 3), .inl (tc 0, 6, .inl (Wf 3))), ((Wa 4), .inl (tc 0, 6, .inl (Wf 4))), ((Wa 5), .inl (tc 0, 6, .inl (Wf 5))), ((Wa 6), .inl (tc 0, 6, .inl (Wf 6))), ((Wa 7), .inl (tc 0, 6, .inl (Wf 7))), ((Wa 8), .inl (tc 0, 6, .inl (Wf 8)))] (fun (v : Option Value) (_ : Unit) => ∃ r : Int32, v = some (.int r) ∧ ((True) ∧ r = (dX2_whoOn (Yf 2) x1 x2))) (fun (_ : Unit) => [((Ya 0), .inr (2, [.ref (Wa 0), .ref (Ya 2), .ref (Ya 3), .int (Yv 0)])), ((Ya 2), .inl (tc 0, 427, .inl (Yf 2))), ((Ya 3), .inl (tc 3, 7, .inl (Yf 3))), ((Wa 0), .inr (9, [.int (Wv 0), .int (Wv 1), .int (Wv 2), .int (Wv 3), .int (Wv 4), .int (Wv 5), .ref (Wa 1), .ref (Wa 2), .ref (Wa 3), .ref (Wa 4), .ref (Wa 5), .ref (Wa 6), .ref (Wa 7), .ref (Wa 8)])), ((Wa 1), .inl (tc 0, 10, .inl (Wf 1))), ((Wa 2), .inl (tc 0, 10, .inl (Wf 2))), ((Wa 3), .inl (tc 0, 6, .inl (Wf 3))), ((Wa 4), .inl (tc 0, 6, .inl (Wf 4))), ((Wa 5), .inl (tc 0, 6, .inl (Wf 5))), ((Wa 6), .inl (tc 0, 6, .inl (Wf 6))), ((Wa 7), .inl (tc 0, 6, .inl (Wf 7))), ((Wa 8), .inl (tc 0, 6, .inl (Wf 8)))]) 0 0 := by
  refine Ct.start (by decide) (Nat.le_of_ble_eq_true rfl) (fun p e s m below meth c A ls hx hb hr hlk hin hml hown hts hK hX hP hD hA hl hS => ?_)
  have hl : lv_has ls 4 [(0, .ref (Ya 0)), (1, .int x1), (2, .int x2)] := hl
  refine lv_iload_n hx hb dX2_whoOn_0 rfl (lv_at hl 1 rfl) ?_
  refine lv_bipush (v := 61) hx hb dX2_whoOn_1 (by decide) ?_
  refine lv_imul hx hb dX2_whoOn_3 ?_
  refine lv_topi (fun x_1 ex_1 => ?_)
  refine lv_iload_n hx hb dX2_whoOn_4 rfl (lv_at hl 2 rfl) ?_
  refine lv_iadd hx hb dX2_whoOn_5 ?_
  refine lv_topi (fun x_2 ex_2 => ?_)
  refine lv_istore_n (lv' := [(3, .int x_2), (0, .ref (Ya 0)), (1, .int x1), (2, .int x2)]) hx hb dX2_whoOn_6 rfl hl (by decide) rfl (fun ls hl₀ => ?_)
  replace hl := hl₀
  clear hl₀
  refine lv_iload_n hx hb dX2_whoOn_7 rfl (lv_at hl 0 rfl) ?_
  refine lv_if_lt (tgt := 29) hx hb dX2_whoOn_8 (by decide) (fun c_3 => ?_) (fun c_3 => ?_)
  · skip
    refine lv_iconst (v := 0) hx hb dX2_whoOn_29 (by decide) ?_
    have hF_4 : (0 : Int32) = (dX2_whoOn (Yf 2) x1 x2) := by
      clear hP hD hS hl
      replace ex_1 := ex_1.symm; subst ex_1
      replace ex_2 := ex_2.symm; subst ex_2
      unfold dX2_whoOn
      rw [if_pos c_3]
      try rfl
    exact retI (v := 0) hx hb hr hlk (rfl) hP hD hS () ⟨_, rfl, ⟨trivial, hF_4⟩⟩ [0, 1, 2, 3, 4, 5, 6, 7, 8, 9, 10, 11] rfl rfl dX2_whoOn_30 (Nat.le_of_ble_eq_true rfl) (Nat.le_of_ble_eq_true rfl) rfl
  · skip
    refine lv_iload_n hx hb dX2_whoOn_11 rfl (lv_at hl 0 rfl) ?_
    refine lv_aload_n hx hb dX2_whoOn_12 rfl (lv_at hl 1 rfl) ?_
    refine gf_X2_18 hx hb hts hown hK hP 0 rfl rfl dX2_whoOn_13 ?_
    refine va_alen hx hb hK hP 1 0 rfl rfl (v := 427) rfl dX2_whoOn_16 ?_
    refine lv_icmp_ge (tgt := 29) hx hb dX2_whoOn_17 (by decide) (fun c_5 => ?_) (fun c_5 => ?_)
    · skip
      refine lv_iconst (v := 0) hx hb dX2_whoOn_29 (by decide) ?_
      have hF_6 : (0 : Int32) = (dX2_whoOn (Yf 2) x1 x2) := by
        clear hP hD hS hl
        replace ex_1 := ex_1.symm; subst ex_1
        replace ex_2 := ex_2.symm; subst ex_2
        unfold dX2_whoOn
        rw [if_neg c_3, if_pos c_5]
        try rfl
      exact retI (v := 0) hx hb hr hlk (rfl) hP hD hS () ⟨_, rfl, ⟨trivial, hF_6⟩⟩ [0, 1, 2, 3, 4, 5, 6, 7, 8, 9, 10, 11] rfl rfl dX2_whoOn_30 (Nat.le_of_ble_eq_true rfl) (Nat.le_of_ble_eq_true rfl) rfl
    · skip
      refine lv_aload_n hx hb dX2_whoOn_20 rfl (lv_at hl 1 rfl) ?_
      refine gf_X2_18 hx hb hts hown hK hP 0 rfl rfl dX2_whoOn_21 ?_
      refine lv_iload_n hx hb dX2_whoOn_24 rfl (lv_at hl 0 rfl) ?_
      have hi_7 : vp_in x_2 427 := by
        have z_1 := Int32.le_iff_toInt_le.mp (Int32.not_lt.mp c_3)
        have z_2 := Int32.lt_iff_toInt_lt.mp (Int32.not_le.mp c_5)
        have y_0 : (0 : Int32).toInt = 0 := by decide
        have y_427 : (427 : Int32).toInt = 427 := by decide
        refine vp_in_iff.mpr ⟨?_, ?_⟩ <;> omega
      refine va_iald hx hb hK hP 1 0 rfl rfl hi_7 dX2_whoOn_25 ?_
      refine lv_topi (fun x_8 ex_8 => ?_)
      refine lv_goto (tgt := 30) hx hb dX2_whoOn_26 (by decide) ?_
      have hF_9 : x_8 = (dX2_whoOn (Yf 2) x1 x2) := by
        clear hP hD hS hl
        replace ex_1 := ex_1.symm; subst ex_1
        replace ex_2 := ex_2.symm; subst ex_2
        replace ex_8 := ex_8.symm; subst ex_8
        unfold dX2_whoOn
        rw [if_neg c_3, if_neg c_5]
        try rfl
      exact retI (v := x_8) hx hb hr hlk (rfl) hP hD hS () ⟨_, rfl, ⟨trivial, hF_9⟩⟩ [0, 1, 2, 3, 4, 5, 6, 7, 8, 9, 10, 11] rfl rfl dX2_whoOn_30 (Nat.le_of_ble_eq_true rfl) (Nat.le_of_ble_eq_true rfl) rfl
set_option maxRecDepth 100000 in
theorem cu_dX2_whoOn (l : Launch) (D : va_G) (tc : Nat → ClassId) (sk : (Nat → Nat) × (Nat → Nat)) (Ya_0 : Nat) (Ya_2 : Nat) (Ya_3 : Nat) (Yv_0 : Int32) (Yf_2 : Nat → Int32) (Yf_3 : Nat → Int32) (Wa_0 : Nat) (Wa_1 : Nat) (Wa_2 : Nat) (Wa_3 : Nat) (Wa_4 : Nat) (Wa_5 : Nat) (Wa_6 : Nat) (Wa_7 : Nat) (Wa_8 : Nat) (Wv_0 : Int32) (Wv_1 : Int32) (Wv_2 : Int32) (Wv_3 : Int32) (Wv_4 : Int32) (Wv_5 : Int32) (Wf_1 : Nat → Int32) (Wf_2 : Nat → Int32) (Wf_3 : Nat → Int32) (Wf_4 : Nat → Int32) (Wf_5 : Nat → Int32) (Wf_6 : Nat → Int32) (Wf_7 : Nat → Int32) (Wf_8 : Nat → Int32) (x1 : Int32) (x2 : Int32)  : Ct l yX2_whoOn cX2_whoOn 4 (some .int) { frames := 0, cells := 0, slots := 0, locals := 0 } D tc sk [.ref Ya_0, .int x1, .int x2] [(Ya_0, .inr (2, [.ref Wa_0, .ref Ya_2, .ref Ya_3, .int Yv_0])), (Ya_2, .inl (tc 0, 427, .inl Yf_2)), (Ya_3, .inl (tc 3, 7, .inl Yf_3)), (Wa_0, .inr (9, [.int Wv_0, .int Wv_1, .int Wv_2, .int Wv_3, .int Wv_4, .int Wv_5, .ref Wa_1, .ref Wa_2, .ref Wa_3, .ref Wa_4, .ref Wa_5, .ref Wa_6, .ref Wa_7, .ref Wa_8])), (Wa_1, .inl (tc 0, 10, .inl Wf_1)), (Wa_2, .inl (tc 0, 10, .inl Wf_2)), (Wa_3, .inl (tc 0, 6, .inl Wf_3)), (Wa_4, .inl (tc 0, 6, .inl Wf_4)), (Wa_5, .inl (tc 0, 6, .inl Wf_5)), (Wa_6, .inl (tc 0, 6, .inl Wf_6)), (Wa_7, .inl (tc 0, 6, .inl Wf_7)), (Wa_8, .inl (tc 0, 6, .inl Wf_8))] (fun (v : Option Value) (_ : Unit) => ∃ r : Int32, v = some (.int r) ∧ ((True) ∧ r = (dX2_whoOn Yf_2 x1 x2))) (fun (_ : Unit) => [(Ya_0, .inr (2, [.ref Wa_0, .ref Ya_2, .ref Ya_3, .int Yv_0])), (Ya_2, .inl (tc 0, 427, .inl Yf_2)), (Ya_3, .inl (tc 3, 7, .inl Yf_3)), (Wa_0, .inr (9, [.int Wv_0, .int Wv_1, .int Wv_2, .int Wv_3, .int Wv_4, .int Wv_5, .ref Wa_1, .ref Wa_2, .ref Wa_3, .ref Wa_4, .ref Wa_5, .ref Wa_6, .ref Wa_7, .ref Wa_8])), (Wa_1, .inl (tc 0, 10, .inl Wf_1)), (Wa_2, .inl (tc 0, 10, .inl Wf_2)), (Wa_3, .inl (tc 0, 6, .inl Wf_3)), (Wa_4, .inl (tc 0, 6, .inl Wf_4)), (Wa_5, .inl (tc 0, 6, .inl Wf_5)), (Wa_6, .inl (tc 0, 6, .inl Wf_6)), (Wa_7, .inl (tc 0, 6, .inl Wf_7)), (Wa_8, .inl (tc 0, 6, .inl Wf_8))]) 0 0 :=
  ct_dX2_whoOn l D tc sk (fun k => ([Ya_0, 0, Ya_2, Ya_3] : List (Nat)).getD k 0) (fun k => ([Yv_0] : List (Int32)).getD k 0) (fun k => ([(fun _ => 0), (fun _ => 0), Yf_2, Yf_3] : List (Nat → Int32)).getD k (fun _ => 0)) (fun k => ([Wa_0, Wa_1, Wa_2, Wa_3, Wa_4, Wa_5, Wa_6, Wa_7, Wa_8] : List (Nat)).getD k 0) (fun k => ([Wv_0, Wv_1, Wv_2, Wv_3, Wv_4, Wv_5] : List (Int32)).getD k 0) (fun k => ([(fun _ => 0), Wf_1, Wf_2, Wf_3, Wf_4, Wf_5, Wf_6, Wf_7, Wf_8] : List (Nat → Int32)).getD k (fun _ => 0)) x1 x2 
def dX2_agrees_l2 (Nf_1 : Nat → Int32) (Nf_2 : Nat → Int32) (Nf_3 : Nat → Int32) (Nv_0 : Int32) (Yf_2 : Nat → Int32) (zz_301 : Int32) : Nat → Int32 → Int32 × Int32 × Int32
  | 0, _ => (0, 0, 0)
  | n + 1, yy_300 => (if Nv_0 ≤ yy_300 then ((0 : Int32), (0 : Int32), yy_300) else (if (10 : Int32) ≤ yy_300 then ((0 : Int32), (0 : Int32), yy_300) else (if (((dX2_whoOn Yf_2 zz_301 (Nf_1 (yy_300).toNatClampNeg)) >>> ((Nf_2 (yy_300).toNatClampNeg) &&& 31)) &&& (1 : Int32)) = (Nf_3 (yy_300).toNatClampNeg) then dX2_agrees_l2 Nf_1 Nf_2 Nf_3 Nv_0 Yf_2 zz_301 n (yy_300 + 1) else ((1 : Int32), (0 : Int32), yy_300))))
theorem dX2_agrees_l2_s {Nf_1 : Nat → Int32} {Nf_2 : Nat → Int32} {Nf_3 : Nat → Int32} {Nv_0 : Int32} {Yf_2 : Nat → Int32} {zz_301 : Int32} {n : Nat} {yy_300 : Int32} : dX2_agrees_l2 Nf_1 Nf_2 Nf_3 Nv_0 Yf_2 zz_301 (n + 1) yy_300 = (if Nv_0 ≤ yy_300 then ((0 : Int32), (0 : Int32), yy_300) else (if (10 : Int32) ≤ yy_300 then ((0 : Int32), (0 : Int32), yy_300) else (if (((dX2_whoOn Yf_2 zz_301 (Nf_1 (yy_300).toNatClampNeg)) >>> ((Nf_2 (yy_300).toNatClampNeg) &&& 31)) &&& (1 : Int32)) = (Nf_3 (yy_300).toNatClampNeg) then dX2_agrees_l2 Nf_1 Nf_2 Nf_3 Nv_0 Yf_2 zz_301 n (yy_300 + 1) else ((1 : Int32), (0 : Int32), yy_300)))) := rfl
def dX2_agrees (Nf_1 : Nat → Int32) (Nf_2 : Nat → Int32) (Nf_3 : Nat → Int32) (Nv_0 : Int32) (Yf_2 : Nat → Int32) (x1 : Int32) : Int32 := (if (dX2_agrees_l2 Nf_1 Nf_2 Nf_3 Nv_0 Yf_2 x1 ((10 - (0 : Int32).toInt).toNat + 1) (0 : Int32)).1 = (1 : Int32) then (dX2_agrees_l2 Nf_1 Nf_2 Nf_3 Nv_0 Yf_2 x1 ((10 - (0 : Int32).toInt).toNat + 1) (0 : Int32)).2.1 else (1 : Int32))
set_option maxHeartbeats 4000000 in
set_option maxRecDepth 100000 in
theorem ct_dX2_agrees (l : Launch) (D : va_G) (tc : Nat → ClassId) (sk : (Nat → Nat) × (Nat → Nat)) (Ya : Nat → Nat) (Yv : Nat → Int32) (Yf : Nat → Nat → Int32) (Wa : Nat → Nat) (Wv : Nat → Int32) (Wf : Nat → Nat → Int32) (Na : Nat → Nat) (Nv : Nat → Int32) (Nf : Nat → Nat → Int32) (x1 : Int32)  : Ct l yX2_agrees cX2_agrees 4 (some .boolean) { frames := 1, cells := 0, slots := 0, locals := 23 } D tc sk [.ref (Ya 0), .int x1, .ref (Na 0)] [((Ya 0), .inr (2, [.ref (Wa 0), .ref (Ya 2), .ref (Ya 3), .int (Yv 0)])), ((Ya 2), .inl (tc 0, 427, .inl (Yf 2))), ((Ya 3), .inl (tc 3, 7, .inl (Yf 3))), ((Wa 0), .inr (9, [.int (Wv 0), .int (Wv 1), .int (Wv 2), .int (Wv 3), .int (Wv 4), .int (Wv 5), .ref (Wa 1), .ref (Wa 2), .ref (Wa 3), .ref (Wa 4), .ref (Wa 5), .ref (Wa 6), .ref (Wa 7), .ref (Wa 8)])), ((Wa 1), .inl (tc 0, 10, .inl (Wf 1))), ((Wa 2), .inl (tc 0, 10, .inl (Wf 2))), ((Wa 3), .inl (tc 0, 6, .inl (Wf 3))), ((Wa 4), .inl (tc 0, 6, .inl (Wf 4))), ((Wa 5), .inl (tc 0, 6, .inl (Wf 5))), ((Wa 6), .inl (tc 0, 6, .inl (Wf 6))), ((Wa 7), .inl (tc 0, 6, .inl (Wf 7))), ((Wa 8), .inl (tc 0, 6, .inl (Wf 8))), ((Na 0), .inr (3, [.ref (Na 1), .ref (Na 2), .ref (Na 3), .int (Nv 0)])), ((Na 1), .inl (tc 0, 10, .inl (Nf 1))), ((Na 2), .inl (tc 0, 10, .inl (Nf 2))), ((Na 3), .inl (tc 0, 10, .inl (Nf 3)))] (fun (v : Option Value) (_ : Unit) => ∃ r : Int32, v = some (.int r) ∧ (((r.toInt = 0 ∨ r.toInt = 1)) ∧ r = (dX2_agrees (Nf 1) (Nf 2) (Nf 3) (Nv 0) (Yf 2) x1))) (fun (_ : Unit) => [((Ya 0), .inr (2, [.ref (Wa 0), .ref (Ya 2), .ref (Ya 3), .int (Yv 0)])), ((Ya 2), .inl (tc 0, 427, .inl (Yf 2))), ((Ya 3), .inl (tc 3, 7, .inl (Yf 3))), ((Wa 0), .inr (9, [.int (Wv 0), .int (Wv 1), .int (Wv 2), .int (Wv 3), .int (Wv 4), .int (Wv 5), .ref (Wa 1), .ref (Wa 2), .ref (Wa 3), .ref (Wa 4), .ref (Wa 5), .ref (Wa 6), .ref (Wa 7), .ref (Wa 8)])), ((Wa 1), .inl (tc 0, 10, .inl (Wf 1))), ((Wa 2), .inl (tc 0, 10, .inl (Wf 2))), ((Wa 3), .inl (tc 0, 6, .inl (Wf 3))), ((Wa 4), .inl (tc 0, 6, .inl (Wf 4))), ((Wa 5), .inl (tc 0, 6, .inl (Wf 5))), ((Wa 6), .inl (tc 0, 6, .inl (Wf 6))), ((Wa 7), .inl (tc 0, 6, .inl (Wf 7))), ((Wa 8), .inl (tc 0, 6, .inl (Wf 8))), ((Na 0), .inr (3, [.ref (Na 1), .ref (Na 2), .ref (Na 3), .int (Nv 0)])), ((Na 1), .inl (tc 0, 10, .inl (Nf 1))), ((Na 2), .inl (tc 0, 10, .inl (Nf 2))), ((Na 3), .inl (tc 0, 10, .inl (Nf 3)))]) 0 0 := by
  refine Ct.start (by decide) (Nat.le_of_ble_eq_true rfl) (fun p e s m below meth c A ls hx hb hr hlk hin hml hown hts hK hX hP hD hA hl hS => ?_)
  have hl : lv_has ls 4 [(0, .ref (Ya 0)), (1, .int x1), (2, .ref (Na 0))] := hl
  refine lv_iconst (v := 0) hx hb dX2_agrees_0 (by decide) ?_
  refine lv_istore_n (lv' := [(3, .int 0), (0, .ref (Ya 0)), (1, .int x1), (2, .ref (Na 0))]) hx hb dX2_agrees_1 rfl hl (by decide) rfl (fun ls hl₀ => ?_)
  replace hl := hl₀
  clear hl₀
  have loop_3 : ∀ (n_1 : Nat) (yy_300 : Int32) (H : Heap) (locs : List Loc) (ls : Array Slot), (10 - (yy_300 : Int32).toInt).toNat < n_1 → (dX2_agrees_l2 (Nf 1) (Nf 2) (Nf 3) (Nv 0) (Yf 2) x1 ((10 - (0 : Int32).toInt).toNat + 1) (0 : Int32)) = dX2_agrees_l2 (Nf 1) (Nf 2) (Nf 3) (Nv 0) (Yf 2) x1 ((10 - (yy_300 : Int32).toInt).toNat + 1) yy_300 → (0 ≤ (yy_300 : Int32).toInt) → va_P D classes [((Ya 0), .inr (2, [.ref (Wa 0), .ref (Ya 2), .ref (Ya 3), .int (Yv 0)])), ((Ya 2), .inl (tc 0, 427, .inl (Yf 2))), ((Ya 3), .inl (tc 3, 7, .inl (Yf 3))), ((Wa 0), .inr (9, [.int (Wv 0), .int (Wv 1), .int (Wv 2), .int (Wv 3), .int (Wv 4), .int (Wv 5), .ref (Wa 1), .ref (Wa 2), .ref (Wa 3), .ref (Wa 4), .ref (Wa 5), .ref (Wa 6), .ref (Wa 7), .ref (Wa 8)])), ((Wa 1), .inl (tc 0, 10, .inl (Wf 1))), ((Wa 2), .inl (tc 0, 10, .inl (Wf 2))), ((Wa 3), .inl (tc 0, 6, .inl (Wf 3))), ((Wa 4), .inl (tc 0, 6, .inl (Wf 4))), ((Wa 5), .inl (tc 0, 6, .inl (Wf 5))), ((Wa 6), .inl (tc 0, 6, .inl (Wf 6))), ((Wa 7), .inl (tc 0, 6, .inl (Wf 7))), ((Wa 8), .inl (tc 0, 6, .inl (Wf 8))), ((Na 0), .inr (3, [.ref (Na 1), .ref (Na 2), .ref (Na 3), .int (Nv 0)])), ((Na 1), .inl (tc 0, 10, .inl (Nf 1))), ((Na 2), .inl (tc 0, 10, .inl (Nf 2))), ((Na 3), .inl (tc 0, 10, .inl (Nf 3)))] H → va_D A [((Ya 0), .inr (2, [.ref (Wa 0), .ref (Ya 2), .ref (Ya 3), .int (Yv 0)])), ((Ya 2), .inl (tc 0, 427, .inl (Yf 2))), ((Ya 3), .inl (tc 3, 7, .inl (Yf 3))), ((Wa 0), .inr (9, [.int (Wv 0), .int (Wv 1), .int (Wv 2), .int (Wv 3), .int (Wv 4), .int (Wv 5), .ref (Wa 1), .ref (Wa 2), .ref (Wa 3), .ref (Wa 4), .ref (Wa 5), .ref (Wa 6), .ref (Wa 7), .ref (Wa 8)])), ((Wa 1), .inl (tc 0, 10, .inl (Wf 1))), ((Wa 2), .inl (tc 0, 10, .inl (Wf 2))), ((Wa 3), .inl (tc 0, 6, .inl (Wf 3))), ((Wa 4), .inl (tc 0, 6, .inl (Wf 4))), ((Wa 5), .inl (tc 0, 6, .inl (Wf 5))), ((Wa 6), .inl (tc 0, 6, .inl (Wf 6))), ((Wa 7), .inl (tc 0, 6, .inl (Wf 7))), ((Wa 8), .inl (tc 0, 6, .inl (Wf 8))), ((Na 0), .inr (3, [.ref (Na 1), .ref (Na 2), .ref (Na 3), .int (Nv 0)])), ((Na 1), .inl (tc 0, 10, .inl (Nf 1))), ((Na 2), .inl (tc 0, 10, .inl (Nf 2))), ((Na 3), .inl (tc 0, 10, .inl (Nf 3)))] → va_S A s.heap H locs → lv_has ls 4 [(3, .int yy_300), (0, .ref (Ya 0)), (1, .int x1), (2, .ref (Na 0))] → W p l e ({ frames := 1, cells := 0, slots := 0, locals := 23 }) s m ([.ref (Ya 0), .int x1, .ref (Na 0)].toArray) below meth c H locs 0 0 (MQ below (QW (fun (v : Option Value) (_ : Unit) => ∃ r : Int32, v = some (.int r) ∧ (((r.toInt = 0 ∨ r.toInt = 1)) ∧ r = (dX2_agrees (Nf 1) (Nf 2) (Nf 3) (Nv 0) (Yf 2) x1))) (BW D (fun (_ : Unit) => [((Ya 0), .inr (2, [.ref (Wa 0), .ref (Ya 2), .ref (Ya 3), .int (Yv 0)])), ((Ya 2), .inl (tc 0, 427, .inl (Yf 2))), ((Ya 3), .inl (tc 3, 7, .inl (Yf 3))), ((Wa 0), .inr (9, [.int (Wv 0), .int (Wv 1), .int (Wv 2), .int (Wv 3), .int (Wv 4), .int (Wv 5), .ref (Wa 1), .ref (Wa 2), .ref (Wa 3), .ref (Wa 4), .ref (Wa 5), .ref (Wa 6), .ref (Wa 7), .ref (Wa 8)])), ((Wa 1), .inl (tc 0, 10, .inl (Wf 1))), ((Wa 2), .inl (tc 0, 10, .inl (Wf 2))), ((Wa 3), .inl (tc 0, 6, .inl (Wf 3))), ((Wa 4), .inl (tc 0, 6, .inl (Wf 4))), ((Wa 5), .inl (tc 0, 6, .inl (Wf 5))), ((Wa 6), .inl (tc 0, 6, .inl (Wf 6))), ((Wa 7), .inl (tc 0, 6, .inl (Wf 7))), ((Wa 8), .inl (tc 0, 6, .inl (Wf 8))), ((Na 0), .inr (3, [.ref (Na 1), .ref (Na 2), .ref (Na 3), .int (Nv 0)])), ((Na 1), .inl (tc 0, 10, .inl (Nf 1))), ((Na 2), .inl (tc 0, 10, .inl (Nf 2))), ((Na 3), .inl (tc 0, 10, .inl (Nf 3)))]) A) A) ([.ref (Ya 0), .int x1, .ref (Na 0)].toArray) s 0 0 A) (F0 m 2 ls []) := by
    clear hP hD hS hl
    intro n_1
    induction n_1 with
    | zero =>
      intro yy_300 H locs ls h1
      exact absurd h1 (Nat.not_lt_zero _)
    | succ n_1 ih_2 =>
      intro yy_300 H locs ls hn_6 hL_5 pf_4 hP hD hS hl
      refine lv_iload_n hx hb dX2_agrees_2 rfl (lv_at hl 0 rfl) ?_
      refine lv_aload_n hx hb dX2_agrees_3 rfl (lv_at hl 3 rfl) ?_
      refine gf_X2_51 hx hb hts hown hK hP 12 rfl rfl dX2_agrees_4 ?_
      refine lv_icmp_ge (tgt := 53) hx hb dX2_agrees_7 (by decide) (fun c_7 => ?_) (fun c_7 => ?_)
      · skip
        have hb_9 : dX2_agrees_l2 (Nf 1) (Nf 2) (Nf 3) (Nv 0) (Yf 2) x1 ((10 - (yy_300 : Int32).toInt).toNat + 1) yy_300 = ((0 : Int32), (0 : Int32), yy_300) := by
          clear hP hD hS hl ih_2
          rw [dX2_agrees_l2_s]
          rw [if_pos c_7]
          try rfl
        have hX_8 : (dX2_agrees_l2 (Nf 1) (Nf 2) (Nf 3) (Nv 0) (Yf 2) x1 ((10 - (0 : Int32).toInt).toNat + 1) (0 : Int32)) = ((0 : Int32), (0 : Int32), yy_300) := hL_5.trans hb_9
        have hX_8_0 : (dX2_agrees_l2 (Nf 1) (Nf 2) (Nf 3) (Nv 0) (Yf 2) x1 ((10 - (0 : Int32).toInt).toNat + 1) (0 : Int32)).1 = (0 : Int32) := congrArg (fun z => z.1) hX_8
        have hX_8_1 : (dX2_agrees_l2 (Nf 1) (Nf 2) (Nf 3) (Nv 0) (Yf 2) x1 ((10 - (0 : Int32).toInt).toNat + 1) (0 : Int32)).2.1 = (0 : Int32) := congrArg (fun z => z.2.1) hX_8
        have hX_8_2 : (dX2_agrees_l2 (Nf 1) (Nf 2) (Nf 3) (Nv 0) (Yf 2) x1 ((10 - (0 : Int32).toInt).toNat + 1) (0 : Int32)).2.2 = yy_300 := congrArg (fun z => z.2.2) hX_8
        refine lv_iconst (v := 1) hx hb dX2_agrees_53 (by decide) ?_
        have hp_10 : ((1 : Int32).toInt = 0 ∨ (1 : Int32).toInt = 1) := by
          have z_1 := Int32.le_iff_toInt_le.mp c_7
          have y_1 : (1 : Int32).toInt = 1 := by decide
          have yr : (1 : Int32).toInt = 1 := by decide
          omega
        have hF_11 : (1 : Int32) = (dX2_agrees (Nf 1) (Nf 2) (Nf 3) (Nv 0) (Yf 2) x1) := by
          clear hP hD hS hl ih_2
          unfold dX2_agrees
          try rw [hX_8_0]
          try rw [hX_8_1]
          try rw [hX_8_2]
          rw [if_neg (show ¬ (0 : Int32) = (1 : Int32) by decide)]
          try rfl
        exact retI (v := 1) hx hb hr hlk (rfl) hP hD hS () ⟨_, rfl, ⟨hp_10, hF_11⟩⟩ [0, 1, 2, 3, 4, 5, 6, 7, 8, 9, 10, 11, 12, 13, 14, 15] rfl rfl dX2_agrees_54 (Nat.le_of_ble_eq_true rfl) (Nat.le_of_ble_eq_true rfl) rfl
      · skip
        refine lv_iload_n hx hb dX2_agrees_10 rfl (lv_at hl 0 rfl) ?_
        refine lv_bipush (v := 10) hx hb dX2_agrees_11 (by decide) ?_
        refine lv_icmp_ge (tgt := 53) hx hb dX2_agrees_13 (by decide) (fun c_12 => ?_) (fun c_12 => ?_)
        · skip
          have hb_14 : dX2_agrees_l2 (Nf 1) (Nf 2) (Nf 3) (Nv 0) (Yf 2) x1 ((10 - (yy_300 : Int32).toInt).toNat + 1) yy_300 = ((0 : Int32), (0 : Int32), yy_300) := by
            clear hP hD hS hl ih_2
            rw [dX2_agrees_l2_s]
            rw [if_neg c_7, if_pos c_12]
            try rfl
          have hX_13 : (dX2_agrees_l2 (Nf 1) (Nf 2) (Nf 3) (Nv 0) (Yf 2) x1 ((10 - (0 : Int32).toInt).toNat + 1) (0 : Int32)) = ((0 : Int32), (0 : Int32), yy_300) := hL_5.trans hb_14
          have hX_13_0 : (dX2_agrees_l2 (Nf 1) (Nf 2) (Nf 3) (Nv 0) (Yf 2) x1 ((10 - (0 : Int32).toInt).toNat + 1) (0 : Int32)).1 = (0 : Int32) := congrArg (fun z => z.1) hX_13
          have hX_13_1 : (dX2_agrees_l2 (Nf 1) (Nf 2) (Nf 3) (Nv 0) (Yf 2) x1 ((10 - (0 : Int32).toInt).toNat + 1) (0 : Int32)).2.1 = (0 : Int32) := congrArg (fun z => z.2.1) hX_13
          have hX_13_2 : (dX2_agrees_l2 (Nf 1) (Nf 2) (Nf 3) (Nv 0) (Yf 2) x1 ((10 - (0 : Int32).toInt).toNat + 1) (0 : Int32)).2.2 = yy_300 := congrArg (fun z => z.2.2) hX_13
          refine lv_iconst (v := 1) hx hb dX2_agrees_53 (by decide) ?_
          have hp_15 : ((1 : Int32).toInt = 0 ∨ (1 : Int32).toInt = 1) := by
            have z_1 := Int32.lt_iff_toInt_lt.mp (Int32.not_le.mp c_7)
            have z_2 := Int32.le_iff_toInt_le.mp c_12
            have y_10 : (10 : Int32).toInt = 10 := by decide
            have y_1 : (1 : Int32).toInt = 1 := by decide
            have yr : (1 : Int32).toInt = 1 := by decide
            omega
          have hF_16 : (1 : Int32) = (dX2_agrees (Nf 1) (Nf 2) (Nf 3) (Nv 0) (Yf 2) x1) := by
            clear hP hD hS hl ih_2
            unfold dX2_agrees
            try rw [hX_13_0]
            try rw [hX_13_1]
            try rw [hX_13_2]
            rw [if_neg (show ¬ (0 : Int32) = (1 : Int32) by decide)]
            try rfl
          exact retI (v := 1) hx hb hr hlk (rfl) hP hD hS () ⟨_, rfl, ⟨hp_15, hF_16⟩⟩ [0, 1, 2, 3, 4, 5, 6, 7, 8, 9, 10, 11, 12, 13, 14, 15] rfl rfl dX2_agrees_54 (Nat.le_of_ble_eq_true rfl) (Nat.le_of_ble_eq_true rfl) rfl
        · skip
          refine lv_aload_n hx hb dX2_agrees_16 rfl (lv_at hl 1 rfl) ?_
          refine lv_iload_n hx hb dX2_agrees_17 rfl (lv_at hl 2 rfl) ?_
          refine lv_aload_n hx hb dX2_agrees_18 rfl (lv_at hl 3 rfl) ?_
          refine gf_X2_56 hx hb hts hown hK hP 12 rfl rfl dX2_agrees_19 ?_
          refine lv_iload_n hx hb dX2_agrees_22 rfl (lv_at hl 0 rfl) ?_
          have hi_17 : vp_in yy_300 10 := by
            have z_1 := Int32.lt_iff_toInt_lt.mp (Int32.not_le.mp c_7)
            have z_2 := Int32.lt_iff_toInt_lt.mp (Int32.not_le.mp c_12)
            have y_10 : (10 : Int32).toInt = 10 := by decide
            refine vp_in_iff.mpr ⟨?_, ?_⟩ <;> omega
          refine va_iald hx hb hK hP 13 0 rfl rfl hi_17 dX2_agrees_23 ?_
          refine lv_topi (fun x_18 ex_18 => ?_)
          refine cV (a := (Ya 0)) (As := [.int x1, .int x_18]) (rest := []) (wr := [((Na 0), .inr (3, [.ref (Na 1), .ref (Na 2), .ref (Na 3), .int (Nv 0)])), ((Na 1), .inl (tc 0, 10, .inl (Nf 1))), ((Na 2), .inl (tc 0, 10, .inl (Nf 2))), ((Na 3), .inl (tc 0, 10, .inl (Nf 3)))]) ⟨hx, hb, hml, hown, hts⟩ hK hX hA (cu_dX2_whoOn l D tc sk (Ya 0) (Ya 2) (Ya 3) (Yv 0) (Yf 2) (Yf 3) (Wa 0) (Wa 1) (Wa 2) (Wa 3) (Wa 4) (Wa 5) (Wa 6) (Wa 7) (Wa 8) (Wv 0) (Wv 1) (Wv 2) (Wv 3) (Wv 4) (Wv 5) (Wf 1) (Wf 2) (Wf 3) (Wf 4) (Wf 5) (Wf 6) (Wf 7) (Wf 8) x1 x_18) k_991 k_988 k_990 k_20 k_105 pl_X2_whoOn ⟨Nat.le_of_ble_eq_true rfl, Nat.le_of_ble_eq_true rfl⟩ rfl rfl (va_recv hK hP (ci := 2) (q0 := 0) rfl rfl) hP hD hS [0, 1, 2, 3, 4, 5, 6, 7, 8, 9, 10, 11] [12, 13, 14, 15] rfl rfl rfl rfl rfl (by decide) rfl hl.1 rfl (Nat.le_of_ble_eq_true rfl) dX2_agrees_24 ⟨Nat.le_of_ble_eq_true rfl, Nat.le_of_ble_eq_true rfl⟩ (fun v_19 u_20 H locs hv_21 hP₀ hD₀ hS₀ => ?_)
          obtain ⟨r_22, rfl, he_23⟩ := hv_21
          have he_23 : (True) ∧ r_22 = (dX2_whoOn (Yf 2) x1 x_18) := he_23
          refine W.eq (g2 := F0 m 27 ls [.int r_22]) rfl ?_
          replace hP : va_P D classes [((Na 0), .inr (3, [.ref (Na 1), .ref (Na 2), .ref (Na 3), .int (Nv 0)])), ((Na 1), .inl (tc 0, 10, .inl (Nf 1))), ((Na 2), .inl (tc 0, 10, .inl (Nf 2))), ((Na 3), .inl (tc 0, 10, .inl (Nf 3))), ((Ya 0), .inr (2, [.ref (Wa 0), .ref (Ya 2), .ref (Ya 3), .int (Yv 0)])), ((Ya 2), .inl (tc 0, 427, .inl (Yf 2))), ((Ya 3), .inl (tc 3, 7, .inl (Yf 3))), ((Wa 0), .inr (9, [.int (Wv 0), .int (Wv 1), .int (Wv 2), .int (Wv 3), .int (Wv 4), .int (Wv 5), .ref (Wa 1), .ref (Wa 2), .ref (Wa 3), .ref (Wa 4), .ref (Wa 5), .ref (Wa 6), .ref (Wa 7), .ref (Wa 8)])), ((Wa 1), .inl (tc 0, 10, .inl (Wf 1))), ((Wa 2), .inl (tc 0, 10, .inl (Wf 2))), ((Wa 3), .inl (tc 0, 6, .inl (Wf 3))), ((Wa 4), .inl (tc 0, 6, .inl (Wf 4))), ((Wa 5), .inl (tc 0, 6, .inl (Wf 5))), ((Wa 6), .inl (tc 0, 6, .inl (Wf 6))), ((Wa 7), .inl (tc 0, 6, .inl (Wf 7))), ((Wa 8), .inl (tc 0, 6, .inl (Wf 8)))] H := hP₀
          replace hD : va_D A [((Na 0), .inr (3, [.ref (Na 1), .ref (Na 2), .ref (Na 3), .int (Nv 0)])), ((Na 1), .inl (tc 0, 10, .inl (Nf 1))), ((Na 2), .inl (tc 0, 10, .inl (Nf 2))), ((Na 3), .inl (tc 0, 10, .inl (Nf 3))), ((Ya 0), .inr (2, [.ref (Wa 0), .ref (Ya 2), .ref (Ya 3), .int (Yv 0)])), ((Ya 2), .inl (tc 0, 427, .inl (Yf 2))), ((Ya 3), .inl (tc 3, 7, .inl (Yf 3))), ((Wa 0), .inr (9, [.int (Wv 0), .int (Wv 1), .int (Wv 2), .int (Wv 3), .int (Wv 4), .int (Wv 5), .ref (Wa 1), .ref (Wa 2), .ref (Wa 3), .ref (Wa 4), .ref (Wa 5), .ref (Wa 6), .ref (Wa 7), .ref (Wa 8)])), ((Wa 1), .inl (tc 0, 10, .inl (Wf 1))), ((Wa 2), .inl (tc 0, 10, .inl (Wf 2))), ((Wa 3), .inl (tc 0, 6, .inl (Wf 3))), ((Wa 4), .inl (tc 0, 6, .inl (Wf 4))), ((Wa 5), .inl (tc 0, 6, .inl (Wf 5))), ((Wa 6), .inl (tc 0, 6, .inl (Wf 6))), ((Wa 7), .inl (tc 0, 6, .inl (Wf 7))), ((Wa 8), .inl (tc 0, 6, .inl (Wf 8)))] := hD₀
          replace hS := hS₀
          clear hP₀ hD₀ hS₀
          obtain ⟨he_23, hq_25⟩ := he_23
          have er_22 : r_22 = (dX2_whoOn (Yf 2) x1 x_18) := hq_25
          refine lv_aload_n hx hb dX2_agrees_27 rfl (lv_at hl 3 rfl) ?_
          refine gf_X2_63 hx hb hts hown hK hP 0 rfl rfl dX2_agrees_28 ?_
          refine lv_iload_n hx hb dX2_agrees_31 rfl (lv_at hl 0 rfl) ?_
          have hi_26 : vp_in yy_300 10 := by
            have z_1 := Int32.lt_iff_toInt_lt.mp (Int32.not_le.mp c_7)
            have z_2 := Int32.lt_iff_toInt_lt.mp (Int32.not_le.mp c_12)
            have y_10 : (10 : Int32).toInt = 10 := by decide
            refine vp_in_iff.mpr ⟨?_, ?_⟩ <;> omega
          refine va_iald hx hb hK hP 2 0 rfl rfl hi_26 dX2_agrees_32 ?_
          refine lv_topi (fun x_27 ex_27 => ?_)
          refine lv_ishr hx hb dX2_agrees_33 ?_
          refine lv_topi (fun x_28 ex_28 => ?_)
          refine lv_iconst (v := 1) hx hb dX2_agrees_34 (by decide) ?_
          refine lv_iand hx hb dX2_agrees_35 ?_
          refine lv_topi (fun x_29 ex_29 => ?_)
          refine lv_aload_n hx hb dX2_agrees_36 rfl (lv_at hl 3 rfl) ?_
          refine gf_X2_66 hx hb hts hown hK hP 0 rfl rfl dX2_agrees_37 ?_
          refine lv_iload_n hx hb dX2_agrees_40 rfl (lv_at hl 0 rfl) ?_
          have hi_30 : vp_in yy_300 10 := by
            have z_1 := Int32.lt_iff_toInt_lt.mp (Int32.not_le.mp c_7)
            have z_2 := Int32.lt_iff_toInt_lt.mp (Int32.not_le.mp c_12)
            have y_10 : (10 : Int32).toInt = 10 := by decide
            refine vp_in_iff.mpr ⟨?_, ?_⟩ <;> omega
          refine va_iald hx hb hK hP 3 0 rfl rfl hi_30 dX2_agrees_41 ?_
          refine lv_topi (fun x_31 ex_31 => ?_)
          refine lv_icmp_eq (tgt := 47) hx hb dX2_agrees_42 (by decide) (fun c_32 => ?_) (fun c_32 => ?_)
          · skip
            obtain ⟨x_33, ex_33⟩ : ∃ y : Int32, y = yy_300 + 1 := ⟨_, rfl⟩
            refine lv_iinc (v := x_33) (lv' := [(3, .int x_33), (0, .ref (Ya 0)), (1, .int x1), (2, .ref (Na 0))]) hx hb dX2_agrees_47 hl (k := 0) rfl (by rw [ex_33]; rfl) (by decide) rfl (fun ls hl₀ => ?_)
            replace hl := hl₀
            clear hl₀
            refine lv_goto (tgt := 2) hx hb dX2_agrees_50 (by decide) ?_
            have hb_34 : 10 - (x_33 : Int32).toInt < 10 - (yy_300 : Int32).toInt ∧ 1 ≤ 10 - (yy_300 : Int32).toInt := by
              have z_1 := Int32.lt_iff_toInt_lt.mp (Int32.not_le.mp c_7)
              have z_2 := Int32.lt_iff_toInt_lt.mp (Int32.not_le.mp c_12)
              have z_3 := congrArg Int32.toInt c_32
              have y_10 : (10 : Int32).toInt = 10 := by decide
              have y_1 : (1 : Int32).toInt = 1 := by decide
              have t_x_33 : x_33.toInt = (yy_300 : Int32).toInt + (1 : Int32).toInt := by rw [ex_33]; exact add_toInt (by omega) (by omega)
              omega
            have hm_35 : (10 - (yy_300 : Int32).toInt).toNat = (10 - (x_33 : Int32).toInt).toNat + 1 := by
              have z_1 := Int32.lt_iff_toInt_lt.mp (Int32.not_le.mp c_7)
              have z_2 := Int32.lt_iff_toInt_lt.mp (Int32.not_le.mp c_12)
              have z_3 := congrArg Int32.toInt c_32
              have y_10 : (10 : Int32).toInt = 10 := by decide
              have y_1 : (1 : Int32).toInt = 1 := by decide
              have t_x_33 : x_33.toInt = (yy_300 : Int32).toInt + (1 : Int32).toInt := by rw [ex_33]; exact add_toInt (by omega) (by omega)
              omega
            have hb_36 : dX2_agrees_l2 (Nf 1) (Nf 2) (Nf 3) (Nv 0) (Yf 2) x1 ((10 - (yy_300 : Int32).toInt).toNat + 1) yy_300 = dX2_agrees_l2 (Nf 1) (Nf 2) (Nf 3) (Nv 0) (Yf 2) x1 ((10 - (yy_300 : Int32).toInt).toNat) x_33 := by
              clear hP hD hS hl ih_2
              replace ex_18 := ex_18.symm; subst ex_18
              replace er_22 := er_22.symm; subst er_22
              replace ex_27 := ex_27.symm; subst ex_27
              replace ex_28 := ex_28.symm; subst ex_28
              replace ex_29 := ex_29.symm; subst ex_29
              replace ex_31 := ex_31.symm; subst ex_31
              replace ex_33 := ex_33.symm; subst ex_33
              rw [dX2_agrees_l2_s]
              rw [if_neg c_7, if_neg c_12, if_pos c_32]
              try rfl
            have hL_37 : (dX2_agrees_l2 (Nf 1) (Nf 2) (Nf 3) (Nv 0) (Yf 2) x1 ((10 - (0 : Int32).toInt).toNat + 1) (0 : Int32)) = dX2_agrees_l2 (Nf 1) (Nf 2) (Nf 3) (Nv 0) (Yf 2) x1 ((10 - (x_33 : Int32).toInt).toNat + 1) x_33 := by
              rw [hL_5, hb_36, hm_35]
            have ha_38 : 0 ≤ (x_33 : Int32).toInt := by
              have z_1 := Int32.lt_iff_toInt_lt.mp (Int32.not_le.mp c_7)
              have z_2 := Int32.lt_iff_toInt_lt.mp (Int32.not_le.mp c_12)
              have z_3 := congrArg Int32.toInt c_32
              have y_10 : (10 : Int32).toInt = 10 := by decide
              have y_1 : (1 : Int32).toInt = 1 := by decide
              have t_x_33 : x_33.toInt = (yy_300 : Int32).toInt + (1 : Int32).toInt := by rw [ex_33]; exact add_toInt (by omega) (by omega)
              omega
            exact ih_2 x_33 _ _ _ (by omega) hL_37 ha_38 (hP.sub [4, 5, 6, 7, 8, 9, 10, 11, 12, 13, 14, 15, 0, 1, 2, 3] rfl) (hD.sub [4, 5, 6, 7, 8, 9, 10, 11, 12, 13, 14, 15, 0, 1, 2, 3] rfl rfl) hS (lv_sub hl [0, 1, 2, 3] rfl)
          · skip
            refine lv_iconst (v := 0) hx hb dX2_agrees_45 (by decide) ?_
            have hb_40 : dX2_agrees_l2 (Nf 1) (Nf 2) (Nf 3) (Nv 0) (Yf 2) x1 ((10 - (yy_300 : Int32).toInt).toNat + 1) yy_300 = ((1 : Int32), (0 : Int32), yy_300) := by
              clear hP hD hS hl ih_2
              replace ex_18 := ex_18.symm; subst ex_18
              replace er_22 := er_22.symm; subst er_22
              replace ex_27 := ex_27.symm; subst ex_27
              replace ex_28 := ex_28.symm; subst ex_28
              replace ex_29 := ex_29.symm; subst ex_29
              replace ex_31 := ex_31.symm; subst ex_31
              rw [dX2_agrees_l2_s]
              rw [if_neg c_7, if_neg c_12, if_neg c_32]
              try rfl
            have hX_39 : (dX2_agrees_l2 (Nf 1) (Nf 2) (Nf 3) (Nv 0) (Yf 2) x1 ((10 - (0 : Int32).toInt).toNat + 1) (0 : Int32)) = ((1 : Int32), (0 : Int32), yy_300) := hL_5.trans hb_40
            have hX_39_0 : (dX2_agrees_l2 (Nf 1) (Nf 2) (Nf 3) (Nv 0) (Yf 2) x1 ((10 - (0 : Int32).toInt).toNat + 1) (0 : Int32)).1 = (1 : Int32) := congrArg (fun z => z.1) hX_39
            have hX_39_1 : (dX2_agrees_l2 (Nf 1) (Nf 2) (Nf 3) (Nv 0) (Yf 2) x1 ((10 - (0 : Int32).toInt).toNat + 1) (0 : Int32)).2.1 = (0 : Int32) := congrArg (fun z => z.2.1) hX_39
            have hX_39_2 : (dX2_agrees_l2 (Nf 1) (Nf 2) (Nf 3) (Nv 0) (Yf 2) x1 ((10 - (0 : Int32).toInt).toNat + 1) (0 : Int32)).2.2 = yy_300 := congrArg (fun z => z.2.2) hX_39
            have hp_41 : ((0 : Int32).toInt = 0 ∨ (0 : Int32).toInt = 1) := by
              have z_1 := Int32.lt_iff_toInt_lt.mp (Int32.not_le.mp c_7)
              have z_2 := Int32.lt_iff_toInt_lt.mp (Int32.not_le.mp c_12)
              have z_3 : ¬ (x_29 : Int32).toInt = (x_31 : Int32).toInt := fun z => c_32 (Int32.toInt_inj.mp z)
              have y_10 : (10 : Int32).toInt = 10 := by decide
              have y_0 : (0 : Int32).toInt = 0 := by decide
              have yr : (0 : Int32).toInt = 0 := by decide
              omega
            have hF_42 : (0 : Int32) = (dX2_agrees (Nf 1) (Nf 2) (Nf 3) (Nv 0) (Yf 2) x1) := by
              clear hP hD hS hl ih_2
              replace ex_18 := ex_18.symm; subst ex_18
              replace er_22 := er_22.symm; subst er_22
              replace ex_27 := ex_27.symm; subst ex_27
              replace ex_28 := ex_28.symm; subst ex_28
              replace ex_29 := ex_29.symm; subst ex_29
              replace ex_31 := ex_31.symm; subst ex_31
              unfold dX2_agrees
              try rw [hX_39_0]
              try rw [hX_39_1]
              try rw [hX_39_2]
              rw [if_pos (show (1 : Int32) = (1 : Int32) from rfl)]
              try rfl
            exact retI (v := 0) hx hb hr hlk (rfl) hP hD hS () ⟨_, rfl, ⟨hp_41, hF_42⟩⟩ [4, 5, 6, 7, 8, 9, 10, 11, 12, 13, 14, 15, 0, 1, 2, 3] rfl rfl dX2_agrees_46 (Nat.le_of_ble_eq_true rfl) (Nat.le_of_ble_eq_true rfl) rfl
  have ha_43 : 0 ≤ (0 : Int32).toInt := by
    have y_0 : (0 : Int32).toInt = 0 := by decide
    omega
  exact loop_3 _ 0 _ _ _ (Nat.lt_succ_self _) rfl ha_43 hP hD hS hl
set_option maxRecDepth 100000 in
theorem cu_dX2_agrees (l : Launch) (D : va_G) (tc : Nat → ClassId) (sk : (Nat → Nat) × (Nat → Nat)) (Ya_0 : Nat) (Ya_2 : Nat) (Ya_3 : Nat) (Yv_0 : Int32) (Yf_2 : Nat → Int32) (Yf_3 : Nat → Int32) (Wa_0 : Nat) (Wa_1 : Nat) (Wa_2 : Nat) (Wa_3 : Nat) (Wa_4 : Nat) (Wa_5 : Nat) (Wa_6 : Nat) (Wa_7 : Nat) (Wa_8 : Nat) (Wv_0 : Int32) (Wv_1 : Int32) (Wv_2 : Int32) (Wv_3 : Int32) (Wv_4 : Int32) (Wv_5 : Int32) (Wf_1 : Nat → Int32) (Wf_2 : Nat → Int32) (Wf_3 : Nat → Int32) (Wf_4 : Nat → Int32) (Wf_5 : Nat → Int32) (Wf_6 : Nat → Int32) (Wf_7 : Nat → Int32) (Wf_8 : Nat → Int32) (Na_0 : Nat) (Na_1 : Nat) (Na_2 : Nat) (Na_3 : Nat) (Nv_0 : Int32) (Nf_1 : Nat → Int32) (Nf_2 : Nat → Int32) (Nf_3 : Nat → Int32) (x1 : Int32)  : Ct l yX2_agrees cX2_agrees 4 (some .boolean) { frames := 1, cells := 0, slots := 0, locals := 23 } D tc sk [.ref Ya_0, .int x1, .ref Na_0] [(Ya_0, .inr (2, [.ref Wa_0, .ref Ya_2, .ref Ya_3, .int Yv_0])), (Ya_2, .inl (tc 0, 427, .inl Yf_2)), (Ya_3, .inl (tc 3, 7, .inl Yf_3)), (Wa_0, .inr (9, [.int Wv_0, .int Wv_1, .int Wv_2, .int Wv_3, .int Wv_4, .int Wv_5, .ref Wa_1, .ref Wa_2, .ref Wa_3, .ref Wa_4, .ref Wa_5, .ref Wa_6, .ref Wa_7, .ref Wa_8])), (Wa_1, .inl (tc 0, 10, .inl Wf_1)), (Wa_2, .inl (tc 0, 10, .inl Wf_2)), (Wa_3, .inl (tc 0, 6, .inl Wf_3)), (Wa_4, .inl (tc 0, 6, .inl Wf_4)), (Wa_5, .inl (tc 0, 6, .inl Wf_5)), (Wa_6, .inl (tc 0, 6, .inl Wf_6)), (Wa_7, .inl (tc 0, 6, .inl Wf_7)), (Wa_8, .inl (tc 0, 6, .inl Wf_8)), (Na_0, .inr (3, [.ref Na_1, .ref Na_2, .ref Na_3, .int Nv_0])), (Na_1, .inl (tc 0, 10, .inl Nf_1)), (Na_2, .inl (tc 0, 10, .inl Nf_2)), (Na_3, .inl (tc 0, 10, .inl Nf_3))] (fun (v : Option Value) (_ : Unit) => ∃ r : Int32, v = some (.int r) ∧ (((r.toInt = 0 ∨ r.toInt = 1)) ∧ r = (dX2_agrees Nf_1 Nf_2 Nf_3 Nv_0 Yf_2 x1))) (fun (_ : Unit) => [(Ya_0, .inr (2, [.ref Wa_0, .ref Ya_2, .ref Ya_3, .int Yv_0])), (Ya_2, .inl (tc 0, 427, .inl Yf_2)), (Ya_3, .inl (tc 3, 7, .inl Yf_3)), (Wa_0, .inr (9, [.int Wv_0, .int Wv_1, .int Wv_2, .int Wv_3, .int Wv_4, .int Wv_5, .ref Wa_1, .ref Wa_2, .ref Wa_3, .ref Wa_4, .ref Wa_5, .ref Wa_6, .ref Wa_7, .ref Wa_8])), (Wa_1, .inl (tc 0, 10, .inl Wf_1)), (Wa_2, .inl (tc 0, 10, .inl Wf_2)), (Wa_3, .inl (tc 0, 6, .inl Wf_3)), (Wa_4, .inl (tc 0, 6, .inl Wf_4)), (Wa_5, .inl (tc 0, 6, .inl Wf_5)), (Wa_6, .inl (tc 0, 6, .inl Wf_6)), (Wa_7, .inl (tc 0, 6, .inl Wf_7)), (Wa_8, .inl (tc 0, 6, .inl Wf_8)), (Na_0, .inr (3, [.ref Na_1, .ref Na_2, .ref Na_3, .int Nv_0])), (Na_1, .inl (tc 0, 10, .inl Nf_1)), (Na_2, .inl (tc 0, 10, .inl Nf_2)), (Na_3, .inl (tc 0, 10, .inl Nf_3))]) 0 0 :=
  ct_dX2_agrees l D tc sk (fun k => ([Ya_0, 0, Ya_2, Ya_3] : List (Nat)).getD k 0) (fun k => ([Yv_0] : List (Int32)).getD k 0) (fun k => ([(fun _ => 0), (fun _ => 0), Yf_2, Yf_3] : List (Nat → Int32)).getD k (fun _ => 0)) (fun k => ([Wa_0, Wa_1, Wa_2, Wa_3, Wa_4, Wa_5, Wa_6, Wa_7, Wa_8] : List (Nat)).getD k 0) (fun k => ([Wv_0, Wv_1, Wv_2, Wv_3, Wv_4, Wv_5] : List (Int32)).getD k 0) (fun k => ([(fun _ => 0), Wf_1, Wf_2, Wf_3, Wf_4, Wf_5, Wf_6, Wf_7, Wf_8] : List (Nat → Int32)).getD k (fun _ => 0)) (fun k => ([Na_0, Na_1, Na_2, Na_3] : List (Nat)).getD k 0) (fun k => ([Nv_0] : List (Int32)).getD k 0) (fun k => ([(fun _ => 0), Nf_1, Nf_2, Nf_3] : List (Nat → Int32)).getD k (fun _ => 0)) x1 
def dX2_firstFitting_l2 (Yf_3 : Nat → Int32) : Nat → Int32 → Int32 × Int32 × Int32
  | 0, _ => (0, 0, 0)
  | n + 1, yy_300 => (if (7 : Int32) ≤ yy_300 then ((0 : Int32), (0 : Int32), yy_300) else (if (Yf_3 (yy_300).toNatClampNeg) = (0 : Int32) then dX2_firstFitting_l2 Yf_3 n (yy_300 + 1) else ((1 : Int32), (yy_300 - (1 : Int32)), yy_300)))
theorem dX2_firstFitting_l2_s {Yf_3 : Nat → Int32} {n : Nat} {yy_300 : Int32} : dX2_firstFitting_l2 Yf_3 (n + 1) yy_300 = (if (7 : Int32) ≤ yy_300 then ((0 : Int32), (0 : Int32), yy_300) else (if (Yf_3 (yy_300).toNatClampNeg) = (0 : Int32) then dX2_firstFitting_l2 Yf_3 n (yy_300 + 1) else ((1 : Int32), (yy_300 - (1 : Int32)), yy_300))) := rfl
def dX2_firstFitting (Yf_3 : Nat → Int32) : Int32 := (if (dX2_firstFitting_l2 Yf_3 ((7 - (0 : Int32).toInt).toNat + 1) (0 : Int32)).1 = (1 : Int32) then (dX2_firstFitting_l2 Yf_3 ((7 - (0 : Int32).toInt).toNat + 1) (0 : Int32)).2.1 else (-2 : Int32))
set_option maxHeartbeats 4000000 in
set_option maxRecDepth 100000 in
theorem ct_dX2_firstFitting (l : Launch) (D : va_G) (tc : Nat → ClassId) (sk : (Nat → Nat) × (Nat → Nat)) (Ya : Nat → Nat) (Yv : Nat → Int32) (Yf : Nat → Nat → Int32) (Wa : Nat → Nat) (Wv : Nat → Int32) (Wf : Nat → Nat → Int32)  : Ct l yX2_firstFitting cX2_firstFitting 2 (some .int) { frames := 0, cells := 0, slots := 0, locals := 0 } D tc sk [.ref (Ya 0)] [((Ya 0), .inr (2, [.ref (Wa 0), .ref (Ya 2), .ref (Ya 3), .int (Yv 0)])), ((Ya 2), .inl (tc 0, 427, .inl (Yf 2))), ((Ya 3), .inl (tc 3, 7, .inl (Yf 3))), ((Wa 0), .inr (9, [.int (Wv 0), .int (Wv 1), .int (Wv 2), .int (Wv 3), .int (Wv 4), .int (Wv 5), .ref (Wa 1), .ref (Wa 2), .ref (Wa 3), .ref (Wa 4), .ref (Wa 5), .ref (Wa 6), .ref (Wa 7), .ref (Wa 8)])), ((Wa 1), .inl (tc 0, 10, .inl (Wf 1))), ((Wa 2), .inl (tc 0, 10, .inl (Wf 2))), ((Wa 3), .inl (tc 0, 6, .inl (Wf 3))), ((Wa 4), .inl (tc 0, 6, .inl (Wf 4))), ((Wa 5), .inl (tc 0, 6, .inl (Wf 5))), ((Wa 6), .inl (tc 0, 6, .inl (Wf 6))), ((Wa 7), .inl (tc 0, 6, .inl (Wf 7))), ((Wa 8), .inl (tc 0, 6, .inl (Wf 8)))] (fun (v : Option Value) (_ : Unit) => ∃ r : Int32, v = some (.int r) ∧ ((True) ∧ r = (dX2_firstFitting (Yf 3)))) (fun (_ : Unit) => [((Ya 0), .inr (2, [.ref (Wa 0), .ref (Ya 2), .ref (Ya 3), .int (Yv 0)])), ((Ya 2), .inl (tc 0, 427, .inl (Yf 2))), ((Ya 3), .inl (tc 3, 7, .inl (Yf 3))), ((Wa 0), .inr (9, [.int (Wv 0), .int (Wv 1), .int (Wv 2), .int (Wv 3), .int (Wv 4), .int (Wv 5), .ref (Wa 1), .ref (Wa 2), .ref (Wa 3), .ref (Wa 4), .ref (Wa 5), .ref (Wa 6), .ref (Wa 7), .ref (Wa 8)])), ((Wa 1), .inl (tc 0, 10, .inl (Wf 1))), ((Wa 2), .inl (tc 0, 10, .inl (Wf 2))), ((Wa 3), .inl (tc 0, 6, .inl (Wf 3))), ((Wa 4), .inl (tc 0, 6, .inl (Wf 4))), ((Wa 5), .inl (tc 0, 6, .inl (Wf 5))), ((Wa 6), .inl (tc 0, 6, .inl (Wf 6))), ((Wa 7), .inl (tc 0, 6, .inl (Wf 7))), ((Wa 8), .inl (tc 0, 6, .inl (Wf 8)))]) 0 0 := by
  refine Ct.start (by decide) (Nat.le_of_ble_eq_true rfl) (fun p e s m below meth c A ls hx hb hr hlk hin hml hown hts hK hX hP hD hA hl hS => ?_)
  have hl : lv_has ls 2 [(0, .ref (Ya 0))] := hl
  refine lv_iconst (v := 0) hx hb dX2_firstFitting_0 (by decide) ?_
  refine lv_istore_n (lv' := [(1, .int 0), (0, .ref (Ya 0))]) hx hb dX2_firstFitting_1 rfl hl (by decide) rfl (fun ls hl₀ => ?_)
  replace hl := hl₀
  clear hl₀
  have loop_3 : ∀ (n_1 : Nat) (yy_300 : Int32) (H : Heap) (locs : List Loc) (ls : Array Slot), (7 - (yy_300 : Int32).toInt).toNat < n_1 → (dX2_firstFitting_l2 (Yf 3) ((7 - (0 : Int32).toInt).toNat + 1) (0 : Int32)) = dX2_firstFitting_l2 (Yf 3) ((7 - (yy_300 : Int32).toInt).toNat + 1) yy_300 → (0 ≤ (yy_300 : Int32).toInt) → va_P D classes [((Ya 0), .inr (2, [.ref (Wa 0), .ref (Ya 2), .ref (Ya 3), .int (Yv 0)])), ((Ya 2), .inl (tc 0, 427, .inl (Yf 2))), ((Ya 3), .inl (tc 3, 7, .inl (Yf 3))), ((Wa 0), .inr (9, [.int (Wv 0), .int (Wv 1), .int (Wv 2), .int (Wv 3), .int (Wv 4), .int (Wv 5), .ref (Wa 1), .ref (Wa 2), .ref (Wa 3), .ref (Wa 4), .ref (Wa 5), .ref (Wa 6), .ref (Wa 7), .ref (Wa 8)])), ((Wa 1), .inl (tc 0, 10, .inl (Wf 1))), ((Wa 2), .inl (tc 0, 10, .inl (Wf 2))), ((Wa 3), .inl (tc 0, 6, .inl (Wf 3))), ((Wa 4), .inl (tc 0, 6, .inl (Wf 4))), ((Wa 5), .inl (tc 0, 6, .inl (Wf 5))), ((Wa 6), .inl (tc 0, 6, .inl (Wf 6))), ((Wa 7), .inl (tc 0, 6, .inl (Wf 7))), ((Wa 8), .inl (tc 0, 6, .inl (Wf 8)))] H → va_D A [((Ya 0), .inr (2, [.ref (Wa 0), .ref (Ya 2), .ref (Ya 3), .int (Yv 0)])), ((Ya 2), .inl (tc 0, 427, .inl (Yf 2))), ((Ya 3), .inl (tc 3, 7, .inl (Yf 3))), ((Wa 0), .inr (9, [.int (Wv 0), .int (Wv 1), .int (Wv 2), .int (Wv 3), .int (Wv 4), .int (Wv 5), .ref (Wa 1), .ref (Wa 2), .ref (Wa 3), .ref (Wa 4), .ref (Wa 5), .ref (Wa 6), .ref (Wa 7), .ref (Wa 8)])), ((Wa 1), .inl (tc 0, 10, .inl (Wf 1))), ((Wa 2), .inl (tc 0, 10, .inl (Wf 2))), ((Wa 3), .inl (tc 0, 6, .inl (Wf 3))), ((Wa 4), .inl (tc 0, 6, .inl (Wf 4))), ((Wa 5), .inl (tc 0, 6, .inl (Wf 5))), ((Wa 6), .inl (tc 0, 6, .inl (Wf 6))), ((Wa 7), .inl (tc 0, 6, .inl (Wf 7))), ((Wa 8), .inl (tc 0, 6, .inl (Wf 8)))] → va_S A s.heap H locs → lv_has ls 2 [(1, .int yy_300), (0, .ref (Ya 0))] → W p l e ({ frames := 0, cells := 0, slots := 0, locals := 0 }) s m ([.ref (Ya 0)].toArray) below meth c H locs 0 0 (MQ below (QW (fun (v : Option Value) (_ : Unit) => ∃ r : Int32, v = some (.int r) ∧ ((True) ∧ r = (dX2_firstFitting (Yf 3)))) (BW D (fun (_ : Unit) => [((Ya 0), .inr (2, [.ref (Wa 0), .ref (Ya 2), .ref (Ya 3), .int (Yv 0)])), ((Ya 2), .inl (tc 0, 427, .inl (Yf 2))), ((Ya 3), .inl (tc 3, 7, .inl (Yf 3))), ((Wa 0), .inr (9, [.int (Wv 0), .int (Wv 1), .int (Wv 2), .int (Wv 3), .int (Wv 4), .int (Wv 5), .ref (Wa 1), .ref (Wa 2), .ref (Wa 3), .ref (Wa 4), .ref (Wa 5), .ref (Wa 6), .ref (Wa 7), .ref (Wa 8)])), ((Wa 1), .inl (tc 0, 10, .inl (Wf 1))), ((Wa 2), .inl (tc 0, 10, .inl (Wf 2))), ((Wa 3), .inl (tc 0, 6, .inl (Wf 3))), ((Wa 4), .inl (tc 0, 6, .inl (Wf 4))), ((Wa 5), .inl (tc 0, 6, .inl (Wf 5))), ((Wa 6), .inl (tc 0, 6, .inl (Wf 6))), ((Wa 7), .inl (tc 0, 6, .inl (Wf 7))), ((Wa 8), .inl (tc 0, 6, .inl (Wf 8)))]) A) A) ([.ref (Ya 0)].toArray) s 0 0 A) (F0 m 2 ls []) := by
    clear hP hD hS hl
    intro n_1
    induction n_1 with
    | zero =>
      intro yy_300 H locs ls h1
      exact absurd h1 (Nat.not_lt_zero _)
    | succ n_1 ih_2 =>
      intro yy_300 H locs ls hn_6 hL_5 pf_4 hP hD hS hl
      refine lv_iload_n hx hb dX2_firstFitting_2 rfl (lv_at hl 0 rfl) ?_
      refine lv_bipush (v := 7) hx hb dX2_firstFitting_3 (by decide) ?_
      refine lv_icmp_ge (tgt := 27) hx hb dX2_firstFitting_5 (by decide) (fun c_7 => ?_) (fun c_7 => ?_)
      · skip
        have hb_9 : dX2_firstFitting_l2 (Yf 3) ((7 - (yy_300 : Int32).toInt).toNat + 1) yy_300 = ((0 : Int32), (0 : Int32), yy_300) := by
          clear hP hD hS hl ih_2
          rw [dX2_firstFitting_l2_s]
          rw [if_pos c_7]
          try rfl
        have hX_8 : (dX2_firstFitting_l2 (Yf 3) ((7 - (0 : Int32).toInt).toNat + 1) (0 : Int32)) = ((0 : Int32), (0 : Int32), yy_300) := hL_5.trans hb_9
        have hX_8_0 : (dX2_firstFitting_l2 (Yf 3) ((7 - (0 : Int32).toInt).toNat + 1) (0 : Int32)).1 = (0 : Int32) := congrArg (fun z => z.1) hX_8
        have hX_8_1 : (dX2_firstFitting_l2 (Yf 3) ((7 - (0 : Int32).toInt).toNat + 1) (0 : Int32)).2.1 = (0 : Int32) := congrArg (fun z => z.2.1) hX_8
        have hX_8_2 : (dX2_firstFitting_l2 (Yf 3) ((7 - (0 : Int32).toInt).toNat + 1) (0 : Int32)).2.2 = yy_300 := congrArg (fun z => z.2.2) hX_8
        refine lv_bipush (v := (-2)) hx hb dX2_firstFitting_27 (by decide) ?_
        have hF_10 : (-2 : Int32) = (dX2_firstFitting (Yf 3)) := by
          clear hP hD hS hl ih_2
          unfold dX2_firstFitting
          try rw [hX_8_0]
          try rw [hX_8_1]
          try rw [hX_8_2]
          rw [if_neg (show ¬ (0 : Int32) = (1 : Int32) by decide)]
          try rfl
        exact retI (v := (-2)) hx hb hr hlk (rfl) hP hD hS () ⟨_, rfl, ⟨trivial, hF_10⟩⟩ [0, 1, 2, 3, 4, 5, 6, 7, 8, 9, 10, 11] rfl rfl dX2_firstFitting_29 (Nat.le_of_ble_eq_true rfl) (Nat.le_of_ble_eq_true rfl) rfl
      · skip
        refine lv_aload_n hx hb dX2_firstFitting_8 rfl (lv_at hl 1 rfl) ?_
        refine gf_X2_22 hx hb hts hown hK hP 0 rfl rfl dX2_firstFitting_9 ?_
        refine lv_iload_n hx hb dX2_firstFitting_12 rfl (lv_at hl 0 rfl) ?_
        have hi_11 : vp_in yy_300 7 := by
          have z_1 := Int32.lt_iff_toInt_lt.mp (Int32.not_le.mp c_7)
          have y_7 : (7 : Int32).toInt = 7 := by decide
          refine vp_in_iff.mpr ⟨?_, ?_⟩ <;> omega
        refine va_zald hx hb hK hP 2 3 rfl rfl hi_11 dX2_firstFitting_13 ?_
        refine lv_topi (fun x_12 ex_12 => ?_)
        refine lv_if_eq (tgt := 21) hx hb dX2_firstFitting_14 (by decide) (fun c_13 => ?_) (fun c_13 => ?_)
        · skip
          obtain ⟨x_14, ex_14⟩ : ∃ y : Int32, y = yy_300 + 1 := ⟨_, rfl⟩
          refine lv_iinc (v := x_14) (lv' := [(1, .int x_14), (0, .ref (Ya 0))]) hx hb dX2_firstFitting_21 hl (k := 0) rfl (by rw [ex_14]; rfl) (by decide) rfl (fun ls hl₀ => ?_)
          replace hl := hl₀
          clear hl₀
          refine lv_goto (tgt := 2) hx hb dX2_firstFitting_24 (by decide) ?_
          have hb_15 : 7 - (x_14 : Int32).toInt < 7 - (yy_300 : Int32).toInt ∧ 1 ≤ 7 - (yy_300 : Int32).toInt := by
            have z_1 := Int32.lt_iff_toInt_lt.mp (Int32.not_le.mp c_7)
            have z_2 := congrArg Int32.toInt c_13
            have y_0 : (0 : Int32).toInt = 0 := by decide
            have y_7 : (7 : Int32).toInt = 7 := by decide
            have y_1 : (1 : Int32).toInt = 1 := by decide
            have t_x_14 : x_14.toInt = (yy_300 : Int32).toInt + (1 : Int32).toInt := by rw [ex_14]; exact add_toInt (by omega) (by omega)
            omega
          have hm_16 : (7 - (yy_300 : Int32).toInt).toNat = (7 - (x_14 : Int32).toInt).toNat + 1 := by
            have z_1 := Int32.lt_iff_toInt_lt.mp (Int32.not_le.mp c_7)
            have z_2 := congrArg Int32.toInt c_13
            have y_0 : (0 : Int32).toInt = 0 := by decide
            have y_7 : (7 : Int32).toInt = 7 := by decide
            have y_1 : (1 : Int32).toInt = 1 := by decide
            have t_x_14 : x_14.toInt = (yy_300 : Int32).toInt + (1 : Int32).toInt := by rw [ex_14]; exact add_toInt (by omega) (by omega)
            omega
          have hb_17 : dX2_firstFitting_l2 (Yf 3) ((7 - (yy_300 : Int32).toInt).toNat + 1) yy_300 = dX2_firstFitting_l2 (Yf 3) ((7 - (yy_300 : Int32).toInt).toNat) x_14 := by
            clear hP hD hS hl ih_2
            replace ex_12 := ex_12.symm; subst ex_12
            replace ex_14 := ex_14.symm; subst ex_14
            rw [dX2_firstFitting_l2_s]
            rw [if_neg c_7, if_pos c_13]
            try rfl
          have hL_18 : (dX2_firstFitting_l2 (Yf 3) ((7 - (0 : Int32).toInt).toNat + 1) (0 : Int32)) = dX2_firstFitting_l2 (Yf 3) ((7 - (x_14 : Int32).toInt).toNat + 1) x_14 := by
            rw [hL_5, hb_17, hm_16]
          have ha_19 : 0 ≤ (x_14 : Int32).toInt := by
            have z_1 := Int32.lt_iff_toInt_lt.mp (Int32.not_le.mp c_7)
            have z_2 := congrArg Int32.toInt c_13
            have y_0 : (0 : Int32).toInt = 0 := by decide
            have y_7 : (7 : Int32).toInt = 7 := by decide
            have y_1 : (1 : Int32).toInt = 1 := by decide
            have t_x_14 : x_14.toInt = (yy_300 : Int32).toInt + (1 : Int32).toInt := by rw [ex_14]; exact add_toInt (by omega) (by omega)
            omega
          exact ih_2 x_14 _ _ _ (by omega) hL_18 ha_19 (hP.sub [0, 1, 2, 3, 4, 5, 6, 7, 8, 9, 10, 11] rfl) (hD.sub [0, 1, 2, 3, 4, 5, 6, 7, 8, 9, 10, 11] rfl rfl) hS (lv_sub hl [0, 1] rfl)
        · skip
          refine lv_iload_n hx hb dX2_firstFitting_17 rfl (lv_at hl 0 rfl) ?_
          refine lv_iconst (v := 1) hx hb dX2_firstFitting_18 (by decide) ?_
          refine lv_isub hx hb dX2_firstFitting_19 ?_
          refine lv_topi (fun x_20 ex_20 => ?_)
          have hb_22 : dX2_firstFitting_l2 (Yf 3) ((7 - (yy_300 : Int32).toInt).toNat + 1) yy_300 = ((1 : Int32), x_20, yy_300) := by
            clear hP hD hS hl ih_2
            replace ex_12 := ex_12.symm; subst ex_12
            replace ex_20 := ex_20.symm; subst ex_20
            rw [dX2_firstFitting_l2_s]
            rw [if_neg c_7, if_neg c_13]
            try rfl
          have hX_21 : (dX2_firstFitting_l2 (Yf 3) ((7 - (0 : Int32).toInt).toNat + 1) (0 : Int32)) = ((1 : Int32), x_20, yy_300) := hL_5.trans hb_22
          have hX_21_0 : (dX2_firstFitting_l2 (Yf 3) ((7 - (0 : Int32).toInt).toNat + 1) (0 : Int32)).1 = (1 : Int32) := congrArg (fun z => z.1) hX_21
          have hX_21_1 : (dX2_firstFitting_l2 (Yf 3) ((7 - (0 : Int32).toInt).toNat + 1) (0 : Int32)).2.1 = x_20 := congrArg (fun z => z.2.1) hX_21
          have hX_21_2 : (dX2_firstFitting_l2 (Yf 3) ((7 - (0 : Int32).toInt).toNat + 1) (0 : Int32)).2.2 = yy_300 := congrArg (fun z => z.2.2) hX_21
          have hF_23 : x_20 = (dX2_firstFitting (Yf 3)) := by
            clear hP hD hS hl ih_2
            replace ex_12 := ex_12.symm; subst ex_12
            replace ex_20 := ex_20.symm; subst ex_20
            unfold dX2_firstFitting
            try rw [hX_21_0]
            try rw [hX_21_1]
            try rw [hX_21_2]
            rw [if_pos (show (1 : Int32) = (1 : Int32) from rfl)]
            try rfl
          exact retI (v := x_20) hx hb hr hlk (rfl) hP hD hS () ⟨_, rfl, ⟨trivial, hF_23⟩⟩ [0, 1, 2, 3, 4, 5, 6, 7, 8, 9, 10, 11] rfl rfl dX2_firstFitting_20 (Nat.le_of_ble_eq_true rfl) (Nat.le_of_ble_eq_true rfl) rfl
  have ha_24 : 0 ≤ (0 : Int32).toInt := by
    have y_0 : (0 : Int32).toInt = 0 := by decide
    omega
  exact loop_3 _ 0 _ _ _ (Nat.lt_succ_self _) rfl ha_24 hP hD hS hl
set_option maxRecDepth 100000 in
theorem cu_dX2_firstFitting (l : Launch) (D : va_G) (tc : Nat → ClassId) (sk : (Nat → Nat) × (Nat → Nat)) (Ya_0 : Nat) (Ya_2 : Nat) (Ya_3 : Nat) (Yv_0 : Int32) (Yf_2 : Nat → Int32) (Yf_3 : Nat → Int32) (Wa_0 : Nat) (Wa_1 : Nat) (Wa_2 : Nat) (Wa_3 : Nat) (Wa_4 : Nat) (Wa_5 : Nat) (Wa_6 : Nat) (Wa_7 : Nat) (Wa_8 : Nat) (Wv_0 : Int32) (Wv_1 : Int32) (Wv_2 : Int32) (Wv_3 : Int32) (Wv_4 : Int32) (Wv_5 : Int32) (Wf_1 : Nat → Int32) (Wf_2 : Nat → Int32) (Wf_3 : Nat → Int32) (Wf_4 : Nat → Int32) (Wf_5 : Nat → Int32) (Wf_6 : Nat → Int32) (Wf_7 : Nat → Int32) (Wf_8 : Nat → Int32)  : Ct l yX2_firstFitting cX2_firstFitting 2 (some .int) { frames := 0, cells := 0, slots := 0, locals := 0 } D tc sk [.ref Ya_0] [(Ya_0, .inr (2, [.ref Wa_0, .ref Ya_2, .ref Ya_3, .int Yv_0])), (Ya_2, .inl (tc 0, 427, .inl Yf_2)), (Ya_3, .inl (tc 3, 7, .inl Yf_3)), (Wa_0, .inr (9, [.int Wv_0, .int Wv_1, .int Wv_2, .int Wv_3, .int Wv_4, .int Wv_5, .ref Wa_1, .ref Wa_2, .ref Wa_3, .ref Wa_4, .ref Wa_5, .ref Wa_6, .ref Wa_7, .ref Wa_8])), (Wa_1, .inl (tc 0, 10, .inl Wf_1)), (Wa_2, .inl (tc 0, 10, .inl Wf_2)), (Wa_3, .inl (tc 0, 6, .inl Wf_3)), (Wa_4, .inl (tc 0, 6, .inl Wf_4)), (Wa_5, .inl (tc 0, 6, .inl Wf_5)), (Wa_6, .inl (tc 0, 6, .inl Wf_6)), (Wa_7, .inl (tc 0, 6, .inl Wf_7)), (Wa_8, .inl (tc 0, 6, .inl Wf_8))] (fun (v : Option Value) (_ : Unit) => ∃ r : Int32, v = some (.int r) ∧ ((True) ∧ r = (dX2_firstFitting Yf_3))) (fun (_ : Unit) => [(Ya_0, .inr (2, [.ref Wa_0, .ref Ya_2, .ref Ya_3, .int Yv_0])), (Ya_2, .inl (tc 0, 427, .inl Yf_2)), (Ya_3, .inl (tc 3, 7, .inl Yf_3)), (Wa_0, .inr (9, [.int Wv_0, .int Wv_1, .int Wv_2, .int Wv_3, .int Wv_4, .int Wv_5, .ref Wa_1, .ref Wa_2, .ref Wa_3, .ref Wa_4, .ref Wa_5, .ref Wa_6, .ref Wa_7, .ref Wa_8])), (Wa_1, .inl (tc 0, 10, .inl Wf_1)), (Wa_2, .inl (tc 0, 10, .inl Wf_2)), (Wa_3, .inl (tc 0, 6, .inl Wf_3)), (Wa_4, .inl (tc 0, 6, .inl Wf_4)), (Wa_5, .inl (tc 0, 6, .inl Wf_5)), (Wa_6, .inl (tc 0, 6, .inl Wf_6)), (Wa_7, .inl (tc 0, 6, .inl Wf_7)), (Wa_8, .inl (tc 0, 6, .inl Wf_8))]) 0 0 :=
  ct_dX2_firstFitting l D tc sk (fun k => ([Ya_0, 0, Ya_2, Ya_3] : List (Nat)).getD k 0) (fun k => ([Yv_0] : List (Int32)).getD k 0) (fun k => ([(fun _ => 0), (fun _ => 0), Yf_2, Yf_3] : List (Nat → Int32)).getD k (fun _ => 0)) (fun k => ([Wa_0, Wa_1, Wa_2, Wa_3, Wa_4, Wa_5, Wa_6, Wa_7, Wa_8] : List (Nat)).getD k 0) (fun k => ([Wv_0, Wv_1, Wv_2, Wv_3, Wv_4, Wv_5] : List (Int32)).getD k 0) (fun k => ([(fun _ => 0), Wf_1, Wf_2, Wf_3, Wf_4, Wf_5, Wf_6, Wf_7, Wf_8] : List (Nat → Int32)).getD k (fun _ => 0)) 
def dX2_mostAlike_l16 (Yf_2 : Nat → Int32) (Yf_3 : Nat → Int32) (zz_1703 : Int32) (zz_1701 : Int32) : Nat → Int32 → Int32 → Int32 × Int32
  | 0, _, _ => (0, 0)
  | n + 1, yy_1700, yy_1701 => (if (7 : Int32) ≤ yy_1700 then (yy_1700, yy_1701) else (if (Yf_3 (zz_1703).toNatClampNeg) = (0 : Int32) then dX2_mostAlike_l16 Yf_2 Yf_3 zz_1703 zz_1701 n (yy_1700 + 1) yy_1701 else (if (Yf_3 (yy_1700).toNatClampNeg) = (0 : Int32) then dX2_mostAlike_l16 Yf_2 Yf_3 zz_1703 zz_1701 n (yy_1700 + 1) yy_1701 else (if (dX2_whoOn Yf_2 zz_1703 zz_1701) = (dX2_whoOn Yf_2 yy_1700 zz_1701) then dX2_mostAlike_l16 Yf_2 Yf_3 zz_1703 zz_1701 n (yy_1700 + 1) (yy_1701 + 1) else dX2_mostAlike_l16 Yf_2 Yf_3 zz_1703 zz_1701 n (yy_1700 + 1) yy_1701))))
theorem dX2_mostAlike_l16_s {Yf_2 : Nat → Int32} {Yf_3 : Nat → Int32} {zz_1703 : Int32} {zz_1701 : Int32} {n : Nat} {yy_1700 : Int32} {yy_1701 : Int32} : dX2_mostAlike_l16 Yf_2 Yf_3 zz_1703 zz_1701 (n + 1) yy_1700 yy_1701 = (if (7 : Int32) ≤ yy_1700 then (yy_1700, yy_1701) else (if (Yf_3 (zz_1703).toNatClampNeg) = (0 : Int32) then dX2_mostAlike_l16 Yf_2 Yf_3 zz_1703 zz_1701 n (yy_1700 + 1) yy_1701 else (if (Yf_3 (yy_1700).toNatClampNeg) = (0 : Int32) then dX2_mostAlike_l16 Yf_2 Yf_3 zz_1703 zz_1701 n (yy_1700 + 1) yy_1701 else (if (dX2_whoOn Yf_2 zz_1703 zz_1701) = (dX2_whoOn Yf_2 yy_1700 zz_1701) then dX2_mostAlike_l16 Yf_2 Yf_3 zz_1703 zz_1701 n (yy_1700 + 1) (yy_1701 + 1) else dX2_mostAlike_l16 Yf_2 Yf_3 zz_1703 zz_1701 n (yy_1700 + 1) yy_1701)))) := rfl
def dX2_mostAlike_l4 (Yf_2 : Nat → Int32) (Yf_3 : Nat → Int32) (zz_501 : Int32) : Nat → Int32 → Int32 → Int32 × Int32
  | 0, _, _ => (0, 0)
  | n + 1, yy_500, yy_501 => (if (7 : Int32) ≤ yy_500 then (yy_500, yy_501) else dX2_mostAlike_l4 Yf_2 Yf_3 zz_501 n (yy_500 + 1) (if yy_501 < (dX2_mostAlike_l16 Yf_2 Yf_3 yy_500 zz_501 ((7 - (0 : Int32).toInt).toNat + 1) (0 : Int32) (0 : Int32)).2 then (dX2_mostAlike_l16 Yf_2 Yf_3 yy_500 zz_501 ((7 - (0 : Int32).toInt).toNat + 1) (0 : Int32) (0 : Int32)).2 else yy_501))
theorem dX2_mostAlike_l4_s {Yf_2 : Nat → Int32} {Yf_3 : Nat → Int32} {zz_501 : Int32} {n : Nat} {yy_500 : Int32} {yy_501 : Int32} : dX2_mostAlike_l4 Yf_2 Yf_3 zz_501 (n + 1) yy_500 yy_501 = (if (7 : Int32) ≤ yy_500 then (yy_500, yy_501) else dX2_mostAlike_l4 Yf_2 Yf_3 zz_501 n (yy_500 + 1) (if yy_501 < (dX2_mostAlike_l16 Yf_2 Yf_3 yy_500 zz_501 ((7 - (0 : Int32).toInt).toNat + 1) (0 : Int32) (0 : Int32)).2 then (dX2_mostAlike_l16 Yf_2 Yf_3 yy_500 zz_501 ((7 - (0 : Int32).toInt).toNat + 1) (0 : Int32) (0 : Int32)).2 else yy_501)) := rfl
def dX2_mostAlike (Yf_2 : Nat → Int32) (Yf_3 : Nat → Int32) (x1 : Int32) : Int32 := (dX2_mostAlike_l4 Yf_2 Yf_3 x1 ((7 - (0 : Int32).toInt).toNat + 1) (0 : Int32) (0 : Int32)).2
set_option maxHeartbeats 4000000 in
set_option maxRecDepth 100000 in
theorem ct_dX2_mostAlike (l : Launch) (D : va_G) (tc : Nat → ClassId) (sk : (Nat → Nat) × (Nat → Nat)) (Ya : Nat → Nat) (Yv : Nat → Int32) (Yf : Nat → Nat → Int32) (Wa : Nat → Nat) (Wv : Nat → Int32) (Wf : Nat → Nat → Int32) (x1 : Int32)  : Ct l yX2_mostAlike cX2_mostAlike 6 (some .int) { frames := 1, cells := 0, slots := 0, locals := 23 } D tc sk [.ref (Ya 0), .int x1] [((Ya 0), .inr (2, [.ref (Wa 0), .ref (Ya 2), .ref (Ya 3), .int (Yv 0)])), ((Ya 2), .inl (tc 0, 427, .inl (Yf 2))), ((Ya 3), .inl (tc 3, 7, .inl (Yf 3))), ((Wa 0), .inr (9, [.int (Wv 0), .int (Wv 1), .int (Wv 2), .int (Wv 3), .int (Wv 4), .int (Wv 5), .ref (Wa 1), .ref (Wa 2), .ref (Wa 3), .ref (Wa 4), .ref (Wa 5), .ref (Wa 6), .ref (Wa 7), .ref (Wa 8)])), ((Wa 1), .inl (tc 0, 10, .inl (Wf 1))), ((Wa 2), .inl (tc 0, 10, .inl (Wf 2))), ((Wa 3), .inl (tc 0, 6, .inl (Wf 3))), ((Wa 4), .inl (tc 0, 6, .inl (Wf 4))), ((Wa 5), .inl (tc 0, 6, .inl (Wf 5))), ((Wa 6), .inl (tc 0, 6, .inl (Wf 6))), ((Wa 7), .inl (tc 0, 6, .inl (Wf 7))), ((Wa 8), .inl (tc 0, 6, .inl (Wf 8)))] (fun (v : Option Value) (_ : Unit) => ∃ r : Int32, v = some (.int r) ∧ ((True) ∧ r = (dX2_mostAlike (Yf 2) (Yf 3) x1))) (fun (_ : Unit) => [((Ya 0), .inr (2, [.ref (Wa 0), .ref (Ya 2), .ref (Ya 3), .int (Yv 0)])), ((Ya 2), .inl (tc 0, 427, .inl (Yf 2))), ((Ya 3), .inl (tc 3, 7, .inl (Yf 3))), ((Wa 0), .inr (9, [.int (Wv 0), .int (Wv 1), .int (Wv 2), .int (Wv 3), .int (Wv 4), .int (Wv 5), .ref (Wa 1), .ref (Wa 2), .ref (Wa 3), .ref (Wa 4), .ref (Wa 5), .ref (Wa 6), .ref (Wa 7), .ref (Wa 8)])), ((Wa 1), .inl (tc 0, 10, .inl (Wf 1))), ((Wa 2), .inl (tc 0, 10, .inl (Wf 2))), ((Wa 3), .inl (tc 0, 6, .inl (Wf 3))), ((Wa 4), .inl (tc 0, 6, .inl (Wf 4))), ((Wa 5), .inl (tc 0, 6, .inl (Wf 5))), ((Wa 6), .inl (tc 0, 6, .inl (Wf 6))), ((Wa 7), .inl (tc 0, 6, .inl (Wf 7))), ((Wa 8), .inl (tc 0, 6, .inl (Wf 8)))]) 0 0 := by
  refine Ct.start (by decide) (Nat.le_of_ble_eq_true rfl) (fun p e s m below meth c A ls hx hb hr hlk hin hml hown hts hK hX hP hD hA hl hS => ?_)
  have hl : lv_has ls 6 [(0, .ref (Ya 0)), (1, .int x1)] := hl
  refine lv_iconst (v := 0) hx hb dX2_mostAlike_0 (by decide) ?_
  refine lv_istore_n (lv' := [(2, .int 0), (0, .ref (Ya 0)), (1, .int x1)]) hx hb dX2_mostAlike_1 rfl hl (by decide) rfl (fun ls hl₀ => ?_)
  replace hl := hl₀
  clear hl₀
  refine lv_iconst (v := 0) hx hb dX2_mostAlike_2 (by decide) ?_
  refine lv_istore_n (lv' := [(3, .int 0), (2, .int 0), (0, .ref (Ya 0)), (1, .int x1)]) hx hb dX2_mostAlike_3 rfl hl (by decide) rfl (fun ls hl₀ => ?_)
  replace hl := hl₀
  clear hl₀
  have loop_3 : ∀ (n_1 : Nat) (yy_500 : Int32) (yy_501 : Int32) (H : Heap) (locs : List Loc) (ls : Array Slot), (7 - (yy_500 : Int32).toInt).toNat < n_1 → (dX2_mostAlike_l4 (Yf 2) (Yf 3) x1 ((7 - (0 : Int32).toInt).toNat + 1) (0 : Int32) (0 : Int32)) = dX2_mostAlike_l4 (Yf 2) (Yf 3) x1 ((7 - (yy_500 : Int32).toInt).toNat + 1) yy_500 yy_501 → (0 ≤ (yy_500 : Int32).toInt) → va_P D classes [((Ya 0), .inr (2, [.ref (Wa 0), .ref (Ya 2), .ref (Ya 3), .int (Yv 0)])), ((Ya 2), .inl (tc 0, 427, .inl (Yf 2))), ((Ya 3), .inl (tc 3, 7, .inl (Yf 3))), ((Wa 0), .inr (9, [.int (Wv 0), .int (Wv 1), .int (Wv 2), .int (Wv 3), .int (Wv 4), .int (Wv 5), .ref (Wa 1), .ref (Wa 2), .ref (Wa 3), .ref (Wa 4), .ref (Wa 5), .ref (Wa 6), .ref (Wa 7), .ref (Wa 8)])), ((Wa 1), .inl (tc 0, 10, .inl (Wf 1))), ((Wa 2), .inl (tc 0, 10, .inl (Wf 2))), ((Wa 3), .inl (tc 0, 6, .inl (Wf 3))), ((Wa 4), .inl (tc 0, 6, .inl (Wf 4))), ((Wa 5), .inl (tc 0, 6, .inl (Wf 5))), ((Wa 6), .inl (tc 0, 6, .inl (Wf 6))), ((Wa 7), .inl (tc 0, 6, .inl (Wf 7))), ((Wa 8), .inl (tc 0, 6, .inl (Wf 8)))] H → va_D A [((Ya 0), .inr (2, [.ref (Wa 0), .ref (Ya 2), .ref (Ya 3), .int (Yv 0)])), ((Ya 2), .inl (tc 0, 427, .inl (Yf 2))), ((Ya 3), .inl (tc 3, 7, .inl (Yf 3))), ((Wa 0), .inr (9, [.int (Wv 0), .int (Wv 1), .int (Wv 2), .int (Wv 3), .int (Wv 4), .int (Wv 5), .ref (Wa 1), .ref (Wa 2), .ref (Wa 3), .ref (Wa 4), .ref (Wa 5), .ref (Wa 6), .ref (Wa 7), .ref (Wa 8)])), ((Wa 1), .inl (tc 0, 10, .inl (Wf 1))), ((Wa 2), .inl (tc 0, 10, .inl (Wf 2))), ((Wa 3), .inl (tc 0, 6, .inl (Wf 3))), ((Wa 4), .inl (tc 0, 6, .inl (Wf 4))), ((Wa 5), .inl (tc 0, 6, .inl (Wf 5))), ((Wa 6), .inl (tc 0, 6, .inl (Wf 6))), ((Wa 7), .inl (tc 0, 6, .inl (Wf 7))), ((Wa 8), .inl (tc 0, 6, .inl (Wf 8)))] → va_S A s.heap H locs → lv_has ls 6 [(3, .int yy_500), (2, .int yy_501), (0, .ref (Ya 0)), (1, .int x1)] → W p l e ({ frames := 1, cells := 0, slots := 0, locals := 23 }) s m ([.ref (Ya 0), .int x1].toArray) below meth c H locs 0 0 (MQ below (QW (fun (v : Option Value) (_ : Unit) => ∃ r : Int32, v = some (.int r) ∧ ((True) ∧ r = (dX2_mostAlike (Yf 2) (Yf 3) x1))) (BW D (fun (_ : Unit) => [((Ya 0), .inr (2, [.ref (Wa 0), .ref (Ya 2), .ref (Ya 3), .int (Yv 0)])), ((Ya 2), .inl (tc 0, 427, .inl (Yf 2))), ((Ya 3), .inl (tc 3, 7, .inl (Yf 3))), ((Wa 0), .inr (9, [.int (Wv 0), .int (Wv 1), .int (Wv 2), .int (Wv 3), .int (Wv 4), .int (Wv 5), .ref (Wa 1), .ref (Wa 2), .ref (Wa 3), .ref (Wa 4), .ref (Wa 5), .ref (Wa 6), .ref (Wa 7), .ref (Wa 8)])), ((Wa 1), .inl (tc 0, 10, .inl (Wf 1))), ((Wa 2), .inl (tc 0, 10, .inl (Wf 2))), ((Wa 3), .inl (tc 0, 6, .inl (Wf 3))), ((Wa 4), .inl (tc 0, 6, .inl (Wf 4))), ((Wa 5), .inl (tc 0, 6, .inl (Wf 5))), ((Wa 6), .inl (tc 0, 6, .inl (Wf 6))), ((Wa 7), .inl (tc 0, 6, .inl (Wf 7))), ((Wa 8), .inl (tc 0, 6, .inl (Wf 8)))]) A) A) ([.ref (Ya 0), .int x1].toArray) s 0 0 A) (F0 m 4 ls []) := by
    clear hP hD hS hl
    intro n_1
    induction n_1 with
    | zero =>
      intro yy_500 yy_501 H locs ls h1
      exact absurd h1 (Nat.not_lt_zero _)
    | succ n_1 ih_2 =>
      intro yy_500 yy_501 H locs ls hn_6 hL_5 pf_4 hP hD hS hl
      refine lv_iload_n hx hb dX2_mostAlike_4 rfl (lv_at hl 0 rfl) ?_
      refine lv_bipush (v := 7) hx hb dX2_mostAlike_5 (by decide) ?_
      refine lv_icmp_ge (tgt := 80) hx hb dX2_mostAlike_7 (by decide) (fun c_7 => ?_) (fun c_7 => ?_)
      · skip
        have hb_9 : dX2_mostAlike_l4 (Yf 2) (Yf 3) x1 ((7 - (yy_500 : Int32).toInt).toNat + 1) yy_500 yy_501 = (yy_500, yy_501) := by
          clear hP hD hS hl ih_2
          rw [dX2_mostAlike_l4_s]
          rw [if_pos c_7]
          try rfl
        have hX_8 : (dX2_mostAlike_l4 (Yf 2) (Yf 3) x1 ((7 - (0 : Int32).toInt).toNat + 1) (0 : Int32) (0 : Int32)) = (yy_500, yy_501) := hL_5.trans hb_9
        have hX_8_0 : (dX2_mostAlike_l4 (Yf 2) (Yf 3) x1 ((7 - (0 : Int32).toInt).toNat + 1) (0 : Int32) (0 : Int32)).1 = yy_500 := congrArg (fun z => z.1) hX_8
        have hX_8_1 : (dX2_mostAlike_l4 (Yf 2) (Yf 3) x1 ((7 - (0 : Int32).toInt).toNat + 1) (0 : Int32) (0 : Int32)).2 = yy_501 := congrArg (fun z => z.2) hX_8
        refine lv_iload_n hx hb dX2_mostAlike_80 rfl (lv_at hl 1 rfl) ?_
        have hF_10 : yy_501 = (dX2_mostAlike (Yf 2) (Yf 3) x1) := by
          clear hP hD hS hl ih_2
          unfold dX2_mostAlike
          try rw [hX_8_0]
          try rw [hX_8_1]
          try rfl
        exact retI (v := yy_501) hx hb hr hlk (rfl) hP hD hS () ⟨_, rfl, ⟨trivial, hF_10⟩⟩ [0, 1, 2, 3, 4, 5, 6, 7, 8, 9, 10, 11] rfl rfl dX2_mostAlike_81 (Nat.le_of_ble_eq_true rfl) (Nat.le_of_ble_eq_true rfl) rfl
      · skip
        refine lv_iconst (v := 0) hx hb dX2_mostAlike_10 (by decide) ?_
        refine lv_istore (lv' := [(4, .int 0), (3, .int yy_500), (2, .int yy_501), (0, .ref (Ya 0)), (1, .int x1)]) hx hb dX2_mostAlike_11 hl (by decide) rfl (fun ls hl₀ => ?_)
        replace hl := hl₀
        clear hl₀
        refine lv_iconst (v := 0) hx hb dX2_mostAlike_13 (by decide) ?_
        refine lv_istore (lv' := [(5, .int 0), (4, .int 0), (3, .int yy_500), (2, .int yy_501), (0, .ref (Ya 0)), (1, .int x1)]) hx hb dX2_mostAlike_14 hl (by decide) rfl (fun ls hl₀ => ?_)
        replace hl := hl₀
        clear hl₀
        have loop_13 : ∀ (n_11 : Nat) (yy_1700 : Int32) (yy_1701 : Int32) (H : Heap) (locs : List Loc) (ls : Array Slot), (7 - (yy_1700 : Int32).toInt).toNat < n_11 → (dX2_mostAlike_l16 (Yf 2) (Yf 3) yy_500 x1 ((7 - (0 : Int32).toInt).toNat + 1) (0 : Int32) (0 : Int32)) = dX2_mostAlike_l16 (Yf 2) (Yf 3) yy_500 x1 ((7 - (yy_1700 : Int32).toInt).toNat + 1) yy_1700 yy_1701 → (0 ≤ (yy_1700 : Int32).toInt) → va_P D classes [((Ya 0), .inr (2, [.ref (Wa 0), .ref (Ya 2), .ref (Ya 3), .int (Yv 0)])), ((Ya 2), .inl (tc 0, 427, .inl (Yf 2))), ((Ya 3), .inl (tc 3, 7, .inl (Yf 3))), ((Wa 0), .inr (9, [.int (Wv 0), .int (Wv 1), .int (Wv 2), .int (Wv 3), .int (Wv 4), .int (Wv 5), .ref (Wa 1), .ref (Wa 2), .ref (Wa 3), .ref (Wa 4), .ref (Wa 5), .ref (Wa 6), .ref (Wa 7), .ref (Wa 8)])), ((Wa 1), .inl (tc 0, 10, .inl (Wf 1))), ((Wa 2), .inl (tc 0, 10, .inl (Wf 2))), ((Wa 3), .inl (tc 0, 6, .inl (Wf 3))), ((Wa 4), .inl (tc 0, 6, .inl (Wf 4))), ((Wa 5), .inl (tc 0, 6, .inl (Wf 5))), ((Wa 6), .inl (tc 0, 6, .inl (Wf 6))), ((Wa 7), .inl (tc 0, 6, .inl (Wf 7))), ((Wa 8), .inl (tc 0, 6, .inl (Wf 8)))] H → va_D A [((Ya 0), .inr (2, [.ref (Wa 0), .ref (Ya 2), .ref (Ya 3), .int (Yv 0)])), ((Ya 2), .inl (tc 0, 427, .inl (Yf 2))), ((Ya 3), .inl (tc 3, 7, .inl (Yf 3))), ((Wa 0), .inr (9, [.int (Wv 0), .int (Wv 1), .int (Wv 2), .int (Wv 3), .int (Wv 4), .int (Wv 5), .ref (Wa 1), .ref (Wa 2), .ref (Wa 3), .ref (Wa 4), .ref (Wa 5), .ref (Wa 6), .ref (Wa 7), .ref (Wa 8)])), ((Wa 1), .inl (tc 0, 10, .inl (Wf 1))), ((Wa 2), .inl (tc 0, 10, .inl (Wf 2))), ((Wa 3), .inl (tc 0, 6, .inl (Wf 3))), ((Wa 4), .inl (tc 0, 6, .inl (Wf 4))), ((Wa 5), .inl (tc 0, 6, .inl (Wf 5))), ((Wa 6), .inl (tc 0, 6, .inl (Wf 6))), ((Wa 7), .inl (tc 0, 6, .inl (Wf 7))), ((Wa 8), .inl (tc 0, 6, .inl (Wf 8)))] → va_S A s.heap H locs → lv_has ls 6 [(5, .int yy_1700), (4, .int yy_1701), (3, .int yy_500), (2, .int yy_501), (0, .ref (Ya 0)), (1, .int x1)] → W p l e ({ frames := 1, cells := 0, slots := 0, locals := 23 }) s m ([.ref (Ya 0), .int x1].toArray) below meth c H locs 0 0 (MQ below (QW (fun (v : Option Value) (_ : Unit) => ∃ r : Int32, v = some (.int r) ∧ ((True) ∧ r = (dX2_mostAlike (Yf 2) (Yf 3) x1))) (BW D (fun (_ : Unit) => [((Ya 0), .inr (2, [.ref (Wa 0), .ref (Ya 2), .ref (Ya 3), .int (Yv 0)])), ((Ya 2), .inl (tc 0, 427, .inl (Yf 2))), ((Ya 3), .inl (tc 3, 7, .inl (Yf 3))), ((Wa 0), .inr (9, [.int (Wv 0), .int (Wv 1), .int (Wv 2), .int (Wv 3), .int (Wv 4), .int (Wv 5), .ref (Wa 1), .ref (Wa 2), .ref (Wa 3), .ref (Wa 4), .ref (Wa 5), .ref (Wa 6), .ref (Wa 7), .ref (Wa 8)])), ((Wa 1), .inl (tc 0, 10, .inl (Wf 1))), ((Wa 2), .inl (tc 0, 10, .inl (Wf 2))), ((Wa 3), .inl (tc 0, 6, .inl (Wf 3))), ((Wa 4), .inl (tc 0, 6, .inl (Wf 4))), ((Wa 5), .inl (tc 0, 6, .inl (Wf 5))), ((Wa 6), .inl (tc 0, 6, .inl (Wf 6))), ((Wa 7), .inl (tc 0, 6, .inl (Wf 7))), ((Wa 8), .inl (tc 0, 6, .inl (Wf 8)))]) A) A) ([.ref (Ya 0), .int x1].toArray) s 0 0 A) (F0 m 16 ls []) := by
          clear hP hD hS hl
          intro n_11
          induction n_11 with
          | zero =>
            intro yy_1700 yy_1701 H locs ls h1
            exact absurd h1 (Nat.not_lt_zero _)
          | succ n_11 ih_12 =>
            intro yy_1700 yy_1701 H locs ls hn_16 hL_15 pf_14 hP hD hS hl
            refine lv_iload hx hb dX2_mostAlike_16 (lv_at hl 0 rfl) ?_
            refine lv_bipush (v := 7) hx hb dX2_mostAlike_18 (by decide) ?_
            refine lv_icmp_ge (tgt := 67) hx hb dX2_mostAlike_20 (by decide) (fun c_17 => ?_) (fun c_17 => ?_)
            · skip
              have hb_19 : dX2_mostAlike_l16 (Yf 2) (Yf 3) yy_500 x1 ((7 - (yy_1700 : Int32).toInt).toNat + 1) yy_1700 yy_1701 = (yy_1700, yy_1701) := by
                clear hP hD hS hl ih_12 ih_2
                rw [dX2_mostAlike_l16_s]
                rw [if_pos c_17]
                try rfl
              have hX_18 : (dX2_mostAlike_l16 (Yf 2) (Yf 3) yy_500 x1 ((7 - (0 : Int32).toInt).toNat + 1) (0 : Int32) (0 : Int32)) = (yy_1700, yy_1701) := hL_15.trans hb_19
              have hX_18_0 : (dX2_mostAlike_l16 (Yf 2) (Yf 3) yy_500 x1 ((7 - (0 : Int32).toInt).toNat + 1) (0 : Int32) (0 : Int32)).1 = yy_1700 := congrArg (fun z => z.1) hX_18
              have hX_18_1 : (dX2_mostAlike_l16 (Yf 2) (Yf 3) yy_500 x1 ((7 - (0 : Int32).toInt).toNat + 1) (0 : Int32) (0 : Int32)).2 = yy_1701 := congrArg (fun z => z.2) hX_18
              refine lv_iload_n hx hb dX2_mostAlike_67 rfl (lv_at hl 3 rfl) ?_
              refine lv_iload hx hb dX2_mostAlike_68 (lv_at hl 1 rfl) ?_
              refine va_mmax hx hb (hml.trans hl.1.symm) hown (hts _ k_1008) (hts _ k_774) (hts _ k_114) (hts _ k_775) (Nat.le_of_ble_eq_true rfl) (Nat.le_of_ble_eq_true rfl) (Nat.le_of_ble_eq_true rfl) (Nat.le_of_ble_eq_true rfl) dX2_mostAlike_70 ?_
              refine lv_topi (fun x_20 ex_20 => ?_)
              have mx_20 := imax_f ex_20
              refine lv_istore_n (lv' := [(2, .int x_20), (5, .int yy_1700), (4, .int yy_1701), (3, .int yy_500), (0, .ref (Ya 0)), (1, .int x1)]) hx hb dX2_mostAlike_73 rfl hl (by decide) rfl (fun ls hl₀ => ?_)
              replace hl := hl₀
              clear hl₀
              obtain ⟨x_21, ex_21⟩ : ∃ y : Int32, y = yy_500 + 1 := ⟨_, rfl⟩
              refine lv_iinc (v := x_21) (lv' := [(3, .int x_21), (2, .int x_20), (5, .int yy_1700), (4, .int yy_1701), (0, .ref (Ya 0)), (1, .int x1)]) hx hb dX2_mostAlike_74 hl (k := 3) rfl (by rw [ex_21]; rfl) (by decide) rfl (fun ls hl₀ => ?_)
              replace hl := hl₀
              clear hl₀
              refine lv_goto (tgt := 4) hx hb dX2_mostAlike_77 (by decide) ?_
              have hb_22 : 7 - (x_21 : Int32).toInt < 7 - (yy_500 : Int32).toInt ∧ 1 ≤ 7 - (yy_500 : Int32).toInt := by
                have z_1 := Int32.lt_iff_toInt_lt.mp (Int32.not_le.mp c_7)
                have z_2 := Int32.le_iff_toInt_le.mp c_17
                have y_7 : (7 : Int32).toInt = 7 := by decide
                have y_1 : (1 : Int32).toInt = 1 := by decide
                have t_x_21 : x_21.toInt = (yy_500 : Int32).toInt + (1 : Int32).toInt := by rw [ex_21]; exact add_toInt (by omega) (by omega)
                omega
              have hm_23 : (7 - (yy_500 : Int32).toInt).toNat = (7 - (x_21 : Int32).toInt).toNat + 1 := by
                have z_1 := Int32.lt_iff_toInt_lt.mp (Int32.not_le.mp c_7)
                have z_2 := Int32.le_iff_toInt_le.mp c_17
                have y_7 : (7 : Int32).toInt = 7 := by decide
                have y_1 : (1 : Int32).toInt = 1 := by decide
                have t_x_21 : x_21.toInt = (yy_500 : Int32).toInt + (1 : Int32).toInt := by rw [ex_21]; exact add_toInt (by omega) (by omega)
                omega
              have hb_24 : dX2_mostAlike_l4 (Yf 2) (Yf 3) x1 ((7 - (yy_500 : Int32).toInt).toNat + 1) yy_500 yy_501 = dX2_mostAlike_l4 (Yf 2) (Yf 3) x1 ((7 - (yy_500 : Int32).toInt).toNat) x_21 x_20 := by
                clear hP hD hS hl ih_12 ih_2
                replace ex_20 := ex_20.symm; subst ex_20
                replace ex_21 := ex_21.symm; subst ex_21
                rw [dX2_mostAlike_l4_s]
                try rw [hX_18_0]
                try rw [hX_18_1]
                rw [if_neg c_7]
                try rfl
              have hL_25 : (dX2_mostAlike_l4 (Yf 2) (Yf 3) x1 ((7 - (0 : Int32).toInt).toNat + 1) (0 : Int32) (0 : Int32)) = dX2_mostAlike_l4 (Yf 2) (Yf 3) x1 ((7 - (x_21 : Int32).toInt).toNat + 1) x_21 x_20 := by
                rw [hL_5, hb_24, hm_23]
              have ha_26 : 0 ≤ (x_21 : Int32).toInt := by
                have z_1 := Int32.lt_iff_toInt_lt.mp (Int32.not_le.mp c_7)
                have z_2 := Int32.le_iff_toInt_le.mp c_17
                have y_7 : (7 : Int32).toInt = 7 := by decide
                have y_1 : (1 : Int32).toInt = 1 := by decide
                have t_x_21 : x_21.toInt = (yy_500 : Int32).toInt + (1 : Int32).toInt := by rw [ex_21]; exact add_toInt (by omega) (by omega)
                omega
              exact ih_2 x_21 x_20 _ _ _ (by omega) hL_25 ha_26 (hP.sub [0, 1, 2, 3, 4, 5, 6, 7, 8, 9, 10, 11] rfl) (hD.sub [0, 1, 2, 3, 4, 5, 6, 7, 8, 9, 10, 11] rfl rfl) hS (lv_sub hl [0, 1, 4, 5] rfl)
            · skip
              refine lv_aload_n hx hb dX2_mostAlike_23 rfl (lv_at hl 4 rfl) ?_
              refine gf_X2_22 hx hb hts hown hK hP 0 rfl rfl dX2_mostAlike_24 ?_
              refine lv_iload_n hx hb dX2_mostAlike_27 rfl (lv_at hl 2 rfl) ?_
              have hi_27 : vp_in yy_500 7 := by
                have z_1 := Int32.lt_iff_toInt_lt.mp (Int32.not_le.mp c_7)
                have z_2 := Int32.lt_iff_toInt_lt.mp (Int32.not_le.mp c_17)
                have y_7 : (7 : Int32).toInt = 7 := by decide
                refine vp_in_iff.mpr ⟨?_, ?_⟩ <;> omega
              refine va_zald hx hb hK hP 2 3 rfl rfl hi_27 dX2_mostAlike_28 ?_
              refine lv_topi (fun x_28 ex_28 => ?_)
              refine lv_if_eq (tgt := 61) hx hb dX2_mostAlike_29 (by decide) (fun c_29 => ?_) (fun c_29 => ?_)
              · skip
                obtain ⟨x_30, ex_30⟩ : ∃ y : Int32, y = yy_1700 + 1 := ⟨_, rfl⟩
                refine lv_iinc (v := x_30) (lv' := [(5, .int x_30), (4, .int yy_1701), (3, .int yy_500), (2, .int yy_501), (0, .ref (Ya 0)), (1, .int x1)]) hx hb dX2_mostAlike_61 hl (k := 0) rfl (by rw [ex_30]; rfl) (by decide) rfl (fun ls hl₀ => ?_)
                replace hl := hl₀
                clear hl₀
                refine lv_goto (tgt := 16) hx hb dX2_mostAlike_64 (by decide) ?_
                have hb_31 : 7 - (x_30 : Int32).toInt < 7 - (yy_1700 : Int32).toInt ∧ 1 ≤ 7 - (yy_1700 : Int32).toInt := by
                  have z_1 := Int32.lt_iff_toInt_lt.mp (Int32.not_le.mp c_7)
                  have z_2 := Int32.lt_iff_toInt_lt.mp (Int32.not_le.mp c_17)
                  have z_3 := congrArg Int32.toInt c_29
                  have y_0 : (0 : Int32).toInt = 0 := by decide
                  have y_7 : (7 : Int32).toInt = 7 := by decide
                  have y_1 : (1 : Int32).toInt = 1 := by decide
                  have t_x_30 : x_30.toInt = (yy_1700 : Int32).toInt + (1 : Int32).toInt := by rw [ex_30]; exact add_toInt (by omega) (by omega)
                  omega
                have hm_32 : (7 - (yy_1700 : Int32).toInt).toNat = (7 - (x_30 : Int32).toInt).toNat + 1 := by
                  have z_1 := Int32.lt_iff_toInt_lt.mp (Int32.not_le.mp c_7)
                  have z_2 := Int32.lt_iff_toInt_lt.mp (Int32.not_le.mp c_17)
                  have z_3 := congrArg Int32.toInt c_29
                  have y_0 : (0 : Int32).toInt = 0 := by decide
                  have y_7 : (7 : Int32).toInt = 7 := by decide
                  have y_1 : (1 : Int32).toInt = 1 := by decide
                  have t_x_30 : x_30.toInt = (yy_1700 : Int32).toInt + (1 : Int32).toInt := by rw [ex_30]; exact add_toInt (by omega) (by omega)
                  omega
                have hb_33 : dX2_mostAlike_l16 (Yf 2) (Yf 3) yy_500 x1 ((7 - (yy_1700 : Int32).toInt).toNat + 1) yy_1700 yy_1701 = dX2_mostAlike_l16 (Yf 2) (Yf 3) yy_500 x1 ((7 - (yy_1700 : Int32).toInt).toNat) x_30 yy_1701 := by
                  clear hP hD hS hl ih_12 ih_2
                  replace ex_28 := ex_28.symm; subst ex_28
                  replace ex_30 := ex_30.symm; subst ex_30
                  rw [dX2_mostAlike_l16_s]
                  rw [if_neg c_17, if_pos c_29]
                  try rfl
                have hL_34 : (dX2_mostAlike_l16 (Yf 2) (Yf 3) yy_500 x1 ((7 - (0 : Int32).toInt).toNat + 1) (0 : Int32) (0 : Int32)) = dX2_mostAlike_l16 (Yf 2) (Yf 3) yy_500 x1 ((7 - (x_30 : Int32).toInt).toNat + 1) x_30 yy_1701 := by
                  rw [hL_15, hb_33, hm_32]
                have ha_35 : 0 ≤ (x_30 : Int32).toInt := by
                  have z_1 := Int32.lt_iff_toInt_lt.mp (Int32.not_le.mp c_7)
                  have z_2 := Int32.lt_iff_toInt_lt.mp (Int32.not_le.mp c_17)
                  have z_3 := congrArg Int32.toInt c_29
                  have y_0 : (0 : Int32).toInt = 0 := by decide
                  have y_7 : (7 : Int32).toInt = 7 := by decide
                  have y_1 : (1 : Int32).toInt = 1 := by decide
                  have t_x_30 : x_30.toInt = (yy_1700 : Int32).toInt + (1 : Int32).toInt := by rw [ex_30]; exact add_toInt (by omega) (by omega)
                  omega
                exact ih_12 x_30 yy_1701 _ _ _ (by omega) hL_34 ha_35 (hP.sub [0, 1, 2, 3, 4, 5, 6, 7, 8, 9, 10, 11] rfl) (hD.sub [0, 1, 2, 3, 4, 5, 6, 7, 8, 9, 10, 11] rfl rfl) hS (lv_sub hl [0, 1, 2, 3, 4, 5] rfl)
              · skip
                refine lv_aload_n hx hb dX2_mostAlike_32 rfl (lv_at hl 4 rfl) ?_
                refine gf_X2_22 hx hb hts hown hK hP 0 rfl rfl dX2_mostAlike_33 ?_
                refine lv_iload hx hb dX2_mostAlike_36 (lv_at hl 0 rfl) ?_
                have hi_36 : vp_in yy_1700 7 := by
                  have z_1 := Int32.lt_iff_toInt_lt.mp (Int32.not_le.mp c_7)
                  have z_2 := Int32.lt_iff_toInt_lt.mp (Int32.not_le.mp c_17)
                  have z_3 : ¬ (x_28 : Int32).toInt = (0 : Int32).toInt := fun z => c_29 (Int32.toInt_inj.mp z)
                  have y_0 : (0 : Int32).toInt = 0 := by decide
                  have y_7 : (7 : Int32).toInt = 7 := by decide
                  refine vp_in_iff.mpr ⟨?_, ?_⟩ <;> omega
                refine va_zald hx hb hK hP 2 3 rfl rfl hi_36 dX2_mostAlike_38 ?_
                refine lv_topi (fun x_37 ex_37 => ?_)
                refine lv_if_eq (tgt := 61) hx hb dX2_mostAlike_39 (by decide) (fun c_38 => ?_) (fun c_38 => ?_)
                · skip
                  obtain ⟨x_39, ex_39⟩ : ∃ y : Int32, y = yy_1700 + 1 := ⟨_, rfl⟩
                  refine lv_iinc (v := x_39) (lv' := [(5, .int x_39), (4, .int yy_1701), (3, .int yy_500), (2, .int yy_501), (0, .ref (Ya 0)), (1, .int x1)]) hx hb dX2_mostAlike_61 hl (k := 0) rfl (by rw [ex_39]; rfl) (by decide) rfl (fun ls hl₀ => ?_)
                  replace hl := hl₀
                  clear hl₀
                  refine lv_goto (tgt := 16) hx hb dX2_mostAlike_64 (by decide) ?_
                  have hb_40 : 7 - (x_39 : Int32).toInt < 7 - (yy_1700 : Int32).toInt ∧ 1 ≤ 7 - (yy_1700 : Int32).toInt := by
                    have z_1 := Int32.lt_iff_toInt_lt.mp (Int32.not_le.mp c_7)
                    have z_2 := Int32.lt_iff_toInt_lt.mp (Int32.not_le.mp c_17)
                    have z_3 : ¬ (x_28 : Int32).toInt = (0 : Int32).toInt := fun z => c_29 (Int32.toInt_inj.mp z)
                    have z_4 := congrArg Int32.toInt c_38
                    have y_0 : (0 : Int32).toInt = 0 := by decide
                    have y_7 : (7 : Int32).toInt = 7 := by decide
                    have y_1 : (1 : Int32).toInt = 1 := by decide
                    have t_x_39 : x_39.toInt = (yy_1700 : Int32).toInt + (1 : Int32).toInt := by rw [ex_39]; exact add_toInt (by omega) (by omega)
                    omega
                  have hm_41 : (7 - (yy_1700 : Int32).toInt).toNat = (7 - (x_39 : Int32).toInt).toNat + 1 := by
                    have z_1 := Int32.lt_iff_toInt_lt.mp (Int32.not_le.mp c_7)
                    have z_2 := Int32.lt_iff_toInt_lt.mp (Int32.not_le.mp c_17)
                    have z_3 : ¬ (x_28 : Int32).toInt = (0 : Int32).toInt := fun z => c_29 (Int32.toInt_inj.mp z)
                    have z_4 := congrArg Int32.toInt c_38
                    have y_0 : (0 : Int32).toInt = 0 := by decide
                    have y_7 : (7 : Int32).toInt = 7 := by decide
                    have y_1 : (1 : Int32).toInt = 1 := by decide
                    have t_x_39 : x_39.toInt = (yy_1700 : Int32).toInt + (1 : Int32).toInt := by rw [ex_39]; exact add_toInt (by omega) (by omega)
                    omega
                  have hb_42 : dX2_mostAlike_l16 (Yf 2) (Yf 3) yy_500 x1 ((7 - (yy_1700 : Int32).toInt).toNat + 1) yy_1700 yy_1701 = dX2_mostAlike_l16 (Yf 2) (Yf 3) yy_500 x1 ((7 - (yy_1700 : Int32).toInt).toNat) x_39 yy_1701 := by
                    clear hP hD hS hl ih_12 ih_2
                    replace ex_28 := ex_28.symm; subst ex_28
                    replace ex_37 := ex_37.symm; subst ex_37
                    replace ex_39 := ex_39.symm; subst ex_39
                    rw [dX2_mostAlike_l16_s]
                    rw [if_neg c_17, if_neg c_29, if_pos c_38]
                    try rfl
                  have hL_43 : (dX2_mostAlike_l16 (Yf 2) (Yf 3) yy_500 x1 ((7 - (0 : Int32).toInt).toNat + 1) (0 : Int32) (0 : Int32)) = dX2_mostAlike_l16 (Yf 2) (Yf 3) yy_500 x1 ((7 - (x_39 : Int32).toInt).toNat + 1) x_39 yy_1701 := by
                    rw [hL_15, hb_42, hm_41]
                  have ha_44 : 0 ≤ (x_39 : Int32).toInt := by
                    have z_1 := Int32.lt_iff_toInt_lt.mp (Int32.not_le.mp c_7)
                    have z_2 := Int32.lt_iff_toInt_lt.mp (Int32.not_le.mp c_17)
                    have z_3 : ¬ (x_28 : Int32).toInt = (0 : Int32).toInt := fun z => c_29 (Int32.toInt_inj.mp z)
                    have z_4 := congrArg Int32.toInt c_38
                    have y_0 : (0 : Int32).toInt = 0 := by decide
                    have y_7 : (7 : Int32).toInt = 7 := by decide
                    have y_1 : (1 : Int32).toInt = 1 := by decide
                    have t_x_39 : x_39.toInt = (yy_1700 : Int32).toInt + (1 : Int32).toInt := by rw [ex_39]; exact add_toInt (by omega) (by omega)
                    omega
                  exact ih_12 x_39 yy_1701 _ _ _ (by omega) hL_43 ha_44 (hP.sub [0, 1, 2, 3, 4, 5, 6, 7, 8, 9, 10, 11] rfl) (hD.sub [0, 1, 2, 3, 4, 5, 6, 7, 8, 9, 10, 11] rfl rfl) hS (lv_sub hl [0, 1, 2, 3, 4, 5] rfl)
                · skip
                  refine lv_aload_n hx hb dX2_mostAlike_42 rfl (lv_at hl 4 rfl) ?_
                  refine lv_iload_n hx hb dX2_mostAlike_43 rfl (lv_at hl 2 rfl) ?_
                  refine lv_iload_n hx hb dX2_mostAlike_44 rfl (lv_at hl 5 rfl) ?_
                  refine cV (a := (Ya 0)) (As := [.int yy_500, .int x1]) (rest := []) (wr := []) ⟨hx, hb, hml, hown, hts⟩ hK hX hA (cu_dX2_whoOn l D tc sk (Ya 0) (Ya 2) (Ya 3) (Yv 0) (Yf 2) (Yf 3) (Wa 0) (Wa 1) (Wa 2) (Wa 3) (Wa 4) (Wa 5) (Wa 6) (Wa 7) (Wa 8) (Wv 0) (Wv 1) (Wv 2) (Wv 3) (Wv 4) (Wv 5) (Wf 1) (Wf 2) (Wf 3) (Wf 4) (Wf 5) (Wf 6) (Wf 7) (Wf 8) yy_500 x1) k_991 k_988 k_990 k_20 k_105 pl_X2_whoOn ⟨Nat.le_of_ble_eq_true rfl, Nat.le_of_ble_eq_true rfl⟩ rfl rfl (va_recv hK hP (ci := 2) (q0 := 0) rfl rfl) hP hD hS [0, 1, 2, 3, 4, 5, 6, 7, 8, 9, 10, 11] [] rfl rfl rfl rfl rfl (by decide) rfl hl.1 rfl (Nat.le_of_ble_eq_true rfl) dX2_mostAlike_45 ⟨Nat.le_of_ble_eq_true rfl, Nat.le_of_ble_eq_true rfl⟩ (fun v_45 u_46 H locs hv_47 hP₀ hD₀ hS₀ => ?_)
                  obtain ⟨r_48, rfl, he_49⟩ := hv_47
                  have he_49 : (True) ∧ r_48 = (dX2_whoOn (Yf 2) yy_500 x1) := he_49
                  refine W.eq (g2 := F0 m 48 ls [.int r_48]) rfl ?_
                  replace hP : va_P D classes [((Ya 0), .inr (2, [.ref (Wa 0), .ref (Ya 2), .ref (Ya 3), .int (Yv 0)])), ((Ya 2), .inl (tc 0, 427, .inl (Yf 2))), ((Ya 3), .inl (tc 3, 7, .inl (Yf 3))), ((Wa 0), .inr (9, [.int (Wv 0), .int (Wv 1), .int (Wv 2), .int (Wv 3), .int (Wv 4), .int (Wv 5), .ref (Wa 1), .ref (Wa 2), .ref (Wa 3), .ref (Wa 4), .ref (Wa 5), .ref (Wa 6), .ref (Wa 7), .ref (Wa 8)])), ((Wa 1), .inl (tc 0, 10, .inl (Wf 1))), ((Wa 2), .inl (tc 0, 10, .inl (Wf 2))), ((Wa 3), .inl (tc 0, 6, .inl (Wf 3))), ((Wa 4), .inl (tc 0, 6, .inl (Wf 4))), ((Wa 5), .inl (tc 0, 6, .inl (Wf 5))), ((Wa 6), .inl (tc 0, 6, .inl (Wf 6))), ((Wa 7), .inl (tc 0, 6, .inl (Wf 7))), ((Wa 8), .inl (tc 0, 6, .inl (Wf 8)))] H := hP₀
                  replace hD : va_D A [((Ya 0), .inr (2, [.ref (Wa 0), .ref (Ya 2), .ref (Ya 3), .int (Yv 0)])), ((Ya 2), .inl (tc 0, 427, .inl (Yf 2))), ((Ya 3), .inl (tc 3, 7, .inl (Yf 3))), ((Wa 0), .inr (9, [.int (Wv 0), .int (Wv 1), .int (Wv 2), .int (Wv 3), .int (Wv 4), .int (Wv 5), .ref (Wa 1), .ref (Wa 2), .ref (Wa 3), .ref (Wa 4), .ref (Wa 5), .ref (Wa 6), .ref (Wa 7), .ref (Wa 8)])), ((Wa 1), .inl (tc 0, 10, .inl (Wf 1))), ((Wa 2), .inl (tc 0, 10, .inl (Wf 2))), ((Wa 3), .inl (tc 0, 6, .inl (Wf 3))), ((Wa 4), .inl (tc 0, 6, .inl (Wf 4))), ((Wa 5), .inl (tc 0, 6, .inl (Wf 5))), ((Wa 6), .inl (tc 0, 6, .inl (Wf 6))), ((Wa 7), .inl (tc 0, 6, .inl (Wf 7))), ((Wa 8), .inl (tc 0, 6, .inl (Wf 8)))] := hD₀
                  replace hS := hS₀
                  clear hP₀ hD₀ hS₀
                  obtain ⟨he_49, hq_51⟩ := he_49
                  have er_48 : r_48 = (dX2_whoOn (Yf 2) yy_500 x1) := hq_51
                  refine lv_aload_n hx hb dX2_mostAlike_48 rfl (lv_at hl 4 rfl) ?_
                  refine lv_iload hx hb dX2_mostAlike_49 (lv_at hl 0 rfl) ?_
                  refine lv_iload_n hx hb dX2_mostAlike_51 rfl (lv_at hl 5 rfl) ?_
                  refine cV (a := (Ya 0)) (As := [.int yy_1700, .int x1]) (rest := [.int r_48]) (wr := []) ⟨hx, hb, hml, hown, hts⟩ hK hX hA (cu_dX2_whoOn l D tc sk (Ya 0) (Ya 2) (Ya 3) (Yv 0) (Yf 2) (Yf 3) (Wa 0) (Wa 1) (Wa 2) (Wa 3) (Wa 4) (Wa 5) (Wa 6) (Wa 7) (Wa 8) (Wv 0) (Wv 1) (Wv 2) (Wv 3) (Wv 4) (Wv 5) (Wf 1) (Wf 2) (Wf 3) (Wf 4) (Wf 5) (Wf 6) (Wf 7) (Wf 8) yy_1700 x1) k_991 k_988 k_990 k_20 k_105 pl_X2_whoOn ⟨Nat.le_of_ble_eq_true rfl, Nat.le_of_ble_eq_true rfl⟩ rfl rfl (va_recv hK hP (ci := 2) (q0 := 0) rfl rfl) hP hD hS [0, 1, 2, 3, 4, 5, 6, 7, 8, 9, 10, 11] [] rfl rfl rfl rfl rfl (by decide) rfl hl.1 rfl (Nat.le_of_ble_eq_true rfl) dX2_mostAlike_52 ⟨Nat.le_of_ble_eq_true rfl, Nat.le_of_ble_eq_true rfl⟩ (fun v_52 u_53 H locs hv_54 hP₀ hD₀ hS₀ => ?_)
                  obtain ⟨r_55, rfl, he_56⟩ := hv_54
                  have he_56 : (True) ∧ r_55 = (dX2_whoOn (Yf 2) yy_1700 x1) := he_56
                  refine W.eq (g2 := F0 m 55 ls [.int r_55, .int r_48]) rfl ?_
                  replace hP : va_P D classes [((Ya 0), .inr (2, [.ref (Wa 0), .ref (Ya 2), .ref (Ya 3), .int (Yv 0)])), ((Ya 2), .inl (tc 0, 427, .inl (Yf 2))), ((Ya 3), .inl (tc 3, 7, .inl (Yf 3))), ((Wa 0), .inr (9, [.int (Wv 0), .int (Wv 1), .int (Wv 2), .int (Wv 3), .int (Wv 4), .int (Wv 5), .ref (Wa 1), .ref (Wa 2), .ref (Wa 3), .ref (Wa 4), .ref (Wa 5), .ref (Wa 6), .ref (Wa 7), .ref (Wa 8)])), ((Wa 1), .inl (tc 0, 10, .inl (Wf 1))), ((Wa 2), .inl (tc 0, 10, .inl (Wf 2))), ((Wa 3), .inl (tc 0, 6, .inl (Wf 3))), ((Wa 4), .inl (tc 0, 6, .inl (Wf 4))), ((Wa 5), .inl (tc 0, 6, .inl (Wf 5))), ((Wa 6), .inl (tc 0, 6, .inl (Wf 6))), ((Wa 7), .inl (tc 0, 6, .inl (Wf 7))), ((Wa 8), .inl (tc 0, 6, .inl (Wf 8)))] H := hP₀
                  replace hD : va_D A [((Ya 0), .inr (2, [.ref (Wa 0), .ref (Ya 2), .ref (Ya 3), .int (Yv 0)])), ((Ya 2), .inl (tc 0, 427, .inl (Yf 2))), ((Ya 3), .inl (tc 3, 7, .inl (Yf 3))), ((Wa 0), .inr (9, [.int (Wv 0), .int (Wv 1), .int (Wv 2), .int (Wv 3), .int (Wv 4), .int (Wv 5), .ref (Wa 1), .ref (Wa 2), .ref (Wa 3), .ref (Wa 4), .ref (Wa 5), .ref (Wa 6), .ref (Wa 7), .ref (Wa 8)])), ((Wa 1), .inl (tc 0, 10, .inl (Wf 1))), ((Wa 2), .inl (tc 0, 10, .inl (Wf 2))), ((Wa 3), .inl (tc 0, 6, .inl (Wf 3))), ((Wa 4), .inl (tc 0, 6, .inl (Wf 4))), ((Wa 5), .inl (tc 0, 6, .inl (Wf 5))), ((Wa 6), .inl (tc 0, 6, .inl (Wf 6))), ((Wa 7), .inl (tc 0, 6, .inl (Wf 7))), ((Wa 8), .inl (tc 0, 6, .inl (Wf 8)))] := hD₀
                  replace hS := hS₀
                  clear hP₀ hD₀ hS₀
                  obtain ⟨he_56, hq_58⟩ := he_56
                  have er_55 : r_55 = (dX2_whoOn (Yf 2) yy_1700 x1) := hq_58
                  refine lv_icmp_ne (tgt := 61) hx hb dX2_mostAlike_55 (by decide) (fun c_59 => ?_) (fun c_59 => ?_)
                  · skip
                    obtain ⟨x_60, ex_60⟩ : ∃ y : Int32, y = yy_1700 + 1 := ⟨_, rfl⟩
                    refine lv_iinc (v := x_60) (lv' := [(5, .int x_60), (4, .int yy_1701), (3, .int yy_500), (2, .int yy_501), (0, .ref (Ya 0)), (1, .int x1)]) hx hb dX2_mostAlike_61 hl (k := 0) rfl (by rw [ex_60]; rfl) (by decide) rfl (fun ls hl₀ => ?_)
                    replace hl := hl₀
                    clear hl₀
                    refine lv_goto (tgt := 16) hx hb dX2_mostAlike_64 (by decide) ?_
                    have hb_61 : 7 - (x_60 : Int32).toInt < 7 - (yy_1700 : Int32).toInt ∧ 1 ≤ 7 - (yy_1700 : Int32).toInt := by
                      have z_1 := Int32.lt_iff_toInt_lt.mp (Int32.not_le.mp c_7)
                      have z_2 := Int32.lt_iff_toInt_lt.mp (Int32.not_le.mp c_17)
                      have z_3 : ¬ (x_28 : Int32).toInt = (0 : Int32).toInt := fun z => c_29 (Int32.toInt_inj.mp z)
                      have z_4 : ¬ (x_37 : Int32).toInt = (0 : Int32).toInt := fun z => c_38 (Int32.toInt_inj.mp z)
                      have z_5 : ¬ (r_48 : Int32).toInt = (r_55 : Int32).toInt := fun z => c_59 (Int32.toInt_inj.mp z)
                      have y_0 : (0 : Int32).toInt = 0 := by decide
                      have y_7 : (7 : Int32).toInt = 7 := by decide
                      have y_1 : (1 : Int32).toInt = 1 := by decide
                      have t_x_60 : x_60.toInt = (yy_1700 : Int32).toInt + (1 : Int32).toInt := by rw [ex_60]; exact add_toInt (by omega) (by omega)
                      omega
                    have hm_62 : (7 - (yy_1700 : Int32).toInt).toNat = (7 - (x_60 : Int32).toInt).toNat + 1 := by
                      have z_1 := Int32.lt_iff_toInt_lt.mp (Int32.not_le.mp c_7)
                      have z_2 := Int32.lt_iff_toInt_lt.mp (Int32.not_le.mp c_17)
                      have z_3 : ¬ (x_28 : Int32).toInt = (0 : Int32).toInt := fun z => c_29 (Int32.toInt_inj.mp z)
                      have z_4 : ¬ (x_37 : Int32).toInt = (0 : Int32).toInt := fun z => c_38 (Int32.toInt_inj.mp z)
                      have z_5 : ¬ (r_48 : Int32).toInt = (r_55 : Int32).toInt := fun z => c_59 (Int32.toInt_inj.mp z)
                      have y_0 : (0 : Int32).toInt = 0 := by decide
                      have y_7 : (7 : Int32).toInt = 7 := by decide
                      have y_1 : (1 : Int32).toInt = 1 := by decide
                      have t_x_60 : x_60.toInt = (yy_1700 : Int32).toInt + (1 : Int32).toInt := by rw [ex_60]; exact add_toInt (by omega) (by omega)
                      omega
                    have hb_63 : dX2_mostAlike_l16 (Yf 2) (Yf 3) yy_500 x1 ((7 - (yy_1700 : Int32).toInt).toNat + 1) yy_1700 yy_1701 = dX2_mostAlike_l16 (Yf 2) (Yf 3) yy_500 x1 ((7 - (yy_1700 : Int32).toInt).toNat) x_60 yy_1701 := by
                      clear hP hD hS hl ih_12 ih_2
                      replace ex_28 := ex_28.symm; subst ex_28
                      replace ex_37 := ex_37.symm; subst ex_37
                      replace er_48 := er_48.symm; subst er_48
                      replace er_55 := er_55.symm; subst er_55
                      replace ex_60 := ex_60.symm; subst ex_60
                      rw [dX2_mostAlike_l16_s]
                      rw [if_neg c_17, if_neg c_29, if_neg c_38, if_neg c_59]
                      try rfl
                    have hL_64 : (dX2_mostAlike_l16 (Yf 2) (Yf 3) yy_500 x1 ((7 - (0 : Int32).toInt).toNat + 1) (0 : Int32) (0 : Int32)) = dX2_mostAlike_l16 (Yf 2) (Yf 3) yy_500 x1 ((7 - (x_60 : Int32).toInt).toNat + 1) x_60 yy_1701 := by
                      rw [hL_15, hb_63, hm_62]
                    have ha_65 : 0 ≤ (x_60 : Int32).toInt := by
                      have z_1 := Int32.lt_iff_toInt_lt.mp (Int32.not_le.mp c_7)
                      have z_2 := Int32.lt_iff_toInt_lt.mp (Int32.not_le.mp c_17)
                      have z_3 : ¬ (x_28 : Int32).toInt = (0 : Int32).toInt := fun z => c_29 (Int32.toInt_inj.mp z)
                      have z_4 : ¬ (x_37 : Int32).toInt = (0 : Int32).toInt := fun z => c_38 (Int32.toInt_inj.mp z)
                      have z_5 : ¬ (r_48 : Int32).toInt = (r_55 : Int32).toInt := fun z => c_59 (Int32.toInt_inj.mp z)
                      have y_0 : (0 : Int32).toInt = 0 := by decide
                      have y_7 : (7 : Int32).toInt = 7 := by decide
                      have y_1 : (1 : Int32).toInt = 1 := by decide
                      have t_x_60 : x_60.toInt = (yy_1700 : Int32).toInt + (1 : Int32).toInt := by rw [ex_60]; exact add_toInt (by omega) (by omega)
                      omega
                    exact ih_12 x_60 yy_1701 _ _ _ (by omega) hL_64 ha_65 (hP.sub [0, 1, 2, 3, 4, 5, 6, 7, 8, 9, 10, 11] rfl) (hD.sub [0, 1, 2, 3, 4, 5, 6, 7, 8, 9, 10, 11] rfl rfl) hS (lv_sub hl [0, 1, 2, 3, 4, 5] rfl)
                  · skip
                    obtain ⟨x_66, ex_66⟩ : ∃ y : Int32, y = yy_1701 + 1 := ⟨_, rfl⟩
                    refine lv_iinc (v := x_66) (lv' := [(4, .int x_66), (5, .int yy_1700), (3, .int yy_500), (2, .int yy_501), (0, .ref (Ya 0)), (1, .int x1)]) hx hb dX2_mostAlike_58 hl (k := 1) rfl (by rw [ex_66]; rfl) (by decide) rfl (fun ls hl₀ => ?_)
                    replace hl := hl₀
                    clear hl₀
                    obtain ⟨x_67, ex_67⟩ : ∃ y : Int32, y = yy_1700 + 1 := ⟨_, rfl⟩
                    refine lv_iinc (v := x_67) (lv' := [(5, .int x_67), (4, .int x_66), (3, .int yy_500), (2, .int yy_501), (0, .ref (Ya 0)), (1, .int x1)]) hx hb dX2_mostAlike_61 hl (k := 1) rfl (by rw [ex_67]; rfl) (by decide) rfl (fun ls hl₀ => ?_)
                    replace hl := hl₀
                    clear hl₀
                    refine lv_goto (tgt := 16) hx hb dX2_mostAlike_64 (by decide) ?_
                    have hb_68 : 7 - (x_67 : Int32).toInt < 7 - (yy_1700 : Int32).toInt ∧ 1 ≤ 7 - (yy_1700 : Int32).toInt := by
                      have z_1 := Int32.lt_iff_toInt_lt.mp (Int32.not_le.mp c_7)
                      have z_2 := Int32.lt_iff_toInt_lt.mp (Int32.not_le.mp c_17)
                      have z_3 : ¬ (x_28 : Int32).toInt = (0 : Int32).toInt := fun z => c_29 (Int32.toInt_inj.mp z)
                      have z_4 : ¬ (x_37 : Int32).toInt = (0 : Int32).toInt := fun z => c_38 (Int32.toInt_inj.mp z)
                      have z_5 := congrArg Int32.toInt c_59
                      have y_0 : (0 : Int32).toInt = 0 := by decide
                      have y_7 : (7 : Int32).toInt = 7 := by decide
                      have y_1 : (1 : Int32).toInt = 1 := by decide
                      have t_x_67 : x_67.toInt = (yy_1700 : Int32).toInt + (1 : Int32).toInt := by rw [ex_67]; exact add_toInt (by omega) (by omega)
                      omega
                    have hm_69 : (7 - (yy_1700 : Int32).toInt).toNat = (7 - (x_67 : Int32).toInt).toNat + 1 := by
                      have z_1 := Int32.lt_iff_toInt_lt.mp (Int32.not_le.mp c_7)
                      have z_2 := Int32.lt_iff_toInt_lt.mp (Int32.not_le.mp c_17)
                      have z_3 : ¬ (x_28 : Int32).toInt = (0 : Int32).toInt := fun z => c_29 (Int32.toInt_inj.mp z)
                      have z_4 : ¬ (x_37 : Int32).toInt = (0 : Int32).toInt := fun z => c_38 (Int32.toInt_inj.mp z)
                      have z_5 := congrArg Int32.toInt c_59
                      have y_0 : (0 : Int32).toInt = 0 := by decide
                      have y_7 : (7 : Int32).toInt = 7 := by decide
                      have y_1 : (1 : Int32).toInt = 1 := by decide
                      have t_x_67 : x_67.toInt = (yy_1700 : Int32).toInt + (1 : Int32).toInt := by rw [ex_67]; exact add_toInt (by omega) (by omega)
                      omega
                    have hb_70 : dX2_mostAlike_l16 (Yf 2) (Yf 3) yy_500 x1 ((7 - (yy_1700 : Int32).toInt).toNat + 1) yy_1700 yy_1701 = dX2_mostAlike_l16 (Yf 2) (Yf 3) yy_500 x1 ((7 - (yy_1700 : Int32).toInt).toNat) x_67 x_66 := by
                      clear hP hD hS hl ih_12 ih_2
                      replace ex_28 := ex_28.symm; subst ex_28
                      replace ex_37 := ex_37.symm; subst ex_37
                      replace er_48 := er_48.symm; subst er_48
                      replace er_55 := er_55.symm; subst er_55
                      replace ex_66 := ex_66.symm; subst ex_66
                      replace ex_67 := ex_67.symm; subst ex_67
                      rw [dX2_mostAlike_l16_s]
                      rw [if_neg c_17, if_neg c_29, if_neg c_38, if_pos c_59]
                      try rfl
                    have hL_71 : (dX2_mostAlike_l16 (Yf 2) (Yf 3) yy_500 x1 ((7 - (0 : Int32).toInt).toNat + 1) (0 : Int32) (0 : Int32)) = dX2_mostAlike_l16 (Yf 2) (Yf 3) yy_500 x1 ((7 - (x_67 : Int32).toInt).toNat + 1) x_67 x_66 := by
                      rw [hL_15, hb_70, hm_69]
                    have ha_72 : 0 ≤ (x_67 : Int32).toInt := by
                      have z_1 := Int32.lt_iff_toInt_lt.mp (Int32.not_le.mp c_7)
                      have z_2 := Int32.lt_iff_toInt_lt.mp (Int32.not_le.mp c_17)
                      have z_3 : ¬ (x_28 : Int32).toInt = (0 : Int32).toInt := fun z => c_29 (Int32.toInt_inj.mp z)
                      have z_4 : ¬ (x_37 : Int32).toInt = (0 : Int32).toInt := fun z => c_38 (Int32.toInt_inj.mp z)
                      have z_5 := congrArg Int32.toInt c_59
                      have y_0 : (0 : Int32).toInt = 0 := by decide
                      have y_7 : (7 : Int32).toInt = 7 := by decide
                      have y_1 : (1 : Int32).toInt = 1 := by decide
                      have t_x_67 : x_67.toInt = (yy_1700 : Int32).toInt + (1 : Int32).toInt := by rw [ex_67]; exact add_toInt (by omega) (by omega)
                      omega
                    exact ih_12 x_67 x_66 _ _ _ (by omega) hL_71 ha_72 (hP.sub [0, 1, 2, 3, 4, 5, 6, 7, 8, 9, 10, 11] rfl) (hD.sub [0, 1, 2, 3, 4, 5, 6, 7, 8, 9, 10, 11] rfl rfl) hS (lv_sub hl [0, 1, 2, 3, 4, 5] rfl)
        have ha_73 : 0 ≤ (0 : Int32).toInt := by
          have z_1 := Int32.lt_iff_toInt_lt.mp (Int32.not_le.mp c_7)
          have y_7 : (7 : Int32).toInt = 7 := by decide
          have y_0 : (0 : Int32).toInt = 0 := by decide
          omega
        exact loop_13 _ 0 0 _ _ _ (Nat.lt_succ_self _) rfl ha_73 hP hD hS hl
  have ha_74 : 0 ≤ (0 : Int32).toInt := by
    have y_0 : (0 : Int32).toInt = 0 := by decide
    omega
  exact loop_3 _ 0 0 _ _ _ (Nat.lt_succ_self _) rfl ha_74 hP hD hS hl
set_option maxRecDepth 100000 in
theorem cu_dX2_mostAlike (l : Launch) (D : va_G) (tc : Nat → ClassId) (sk : (Nat → Nat) × (Nat → Nat)) (Ya_0 : Nat) (Ya_2 : Nat) (Ya_3 : Nat) (Yv_0 : Int32) (Yf_2 : Nat → Int32) (Yf_3 : Nat → Int32) (Wa_0 : Nat) (Wa_1 : Nat) (Wa_2 : Nat) (Wa_3 : Nat) (Wa_4 : Nat) (Wa_5 : Nat) (Wa_6 : Nat) (Wa_7 : Nat) (Wa_8 : Nat) (Wv_0 : Int32) (Wv_1 : Int32) (Wv_2 : Int32) (Wv_3 : Int32) (Wv_4 : Int32) (Wv_5 : Int32) (Wf_1 : Nat → Int32) (Wf_2 : Nat → Int32) (Wf_3 : Nat → Int32) (Wf_4 : Nat → Int32) (Wf_5 : Nat → Int32) (Wf_6 : Nat → Int32) (Wf_7 : Nat → Int32) (Wf_8 : Nat → Int32) (x1 : Int32)  : Ct l yX2_mostAlike cX2_mostAlike 6 (some .int) { frames := 1, cells := 0, slots := 0, locals := 23 } D tc sk [.ref Ya_0, .int x1] [(Ya_0, .inr (2, [.ref Wa_0, .ref Ya_2, .ref Ya_3, .int Yv_0])), (Ya_2, .inl (tc 0, 427, .inl Yf_2)), (Ya_3, .inl (tc 3, 7, .inl Yf_3)), (Wa_0, .inr (9, [.int Wv_0, .int Wv_1, .int Wv_2, .int Wv_3, .int Wv_4, .int Wv_5, .ref Wa_1, .ref Wa_2, .ref Wa_3, .ref Wa_4, .ref Wa_5, .ref Wa_6, .ref Wa_7, .ref Wa_8])), (Wa_1, .inl (tc 0, 10, .inl Wf_1)), (Wa_2, .inl (tc 0, 10, .inl Wf_2)), (Wa_3, .inl (tc 0, 6, .inl Wf_3)), (Wa_4, .inl (tc 0, 6, .inl Wf_4)), (Wa_5, .inl (tc 0, 6, .inl Wf_5)), (Wa_6, .inl (tc 0, 6, .inl Wf_6)), (Wa_7, .inl (tc 0, 6, .inl Wf_7)), (Wa_8, .inl (tc 0, 6, .inl Wf_8))] (fun (v : Option Value) (_ : Unit) => ∃ r : Int32, v = some (.int r) ∧ ((True) ∧ r = (dX2_mostAlike Yf_2 Yf_3 x1))) (fun (_ : Unit) => [(Ya_0, .inr (2, [.ref Wa_0, .ref Ya_2, .ref Ya_3, .int Yv_0])), (Ya_2, .inl (tc 0, 427, .inl Yf_2)), (Ya_3, .inl (tc 3, 7, .inl Yf_3)), (Wa_0, .inr (9, [.int Wv_0, .int Wv_1, .int Wv_2, .int Wv_3, .int Wv_4, .int Wv_5, .ref Wa_1, .ref Wa_2, .ref Wa_3, .ref Wa_4, .ref Wa_5, .ref Wa_6, .ref Wa_7, .ref Wa_8])), (Wa_1, .inl (tc 0, 10, .inl Wf_1)), (Wa_2, .inl (tc 0, 10, .inl Wf_2)), (Wa_3, .inl (tc 0, 6, .inl Wf_3)), (Wa_4, .inl (tc 0, 6, .inl Wf_4)), (Wa_5, .inl (tc 0, 6, .inl Wf_5)), (Wa_6, .inl (tc 0, 6, .inl Wf_6)), (Wa_7, .inl (tc 0, 6, .inl Wf_7)), (Wa_8, .inl (tc 0, 6, .inl Wf_8))]) 0 0 :=
  ct_dX2_mostAlike l D tc sk (fun k => ([Ya_0, 0, Ya_2, Ya_3] : List (Nat)).getD k 0) (fun k => ([Yv_0] : List (Int32)).getD k 0) (fun k => ([(fun _ => 0), (fun _ => 0), Yf_2, Yf_3] : List (Nat → Int32)).getD k (fun _ => 0)) (fun k => ([Wa_0, Wa_1, Wa_2, Wa_3, Wa_4, Wa_5, Wa_6, Wa_7, Wa_8] : List (Nat)).getD k 0) (fun k => ([Wv_0, Wv_1, Wv_2, Wv_3, Wv_4, Wv_5] : List (Int32)).getD k 0) (fun k => ([(fun _ => 0), Wf_1, Wf_2, Wf_3, Wf_4, Wf_5, Wf_6, Wf_7, Wf_8] : List (Nat → Int32)).getD k (fun _ => 0)) x1 
def dX2_dayToLook_l18 (Yf_2 : Nat → Int32) (Yf_3 : Nat → Int32) : Nat → Int32 → Int32 → Int32 → Int32 × Int32 × Int32
  | 0, _, _, _ => (0, 0, 0)
  | n + 1, yy_1900, yy_1901, yy_1902 => (if (61 : Int32) ≤ yy_1900 then (yy_1900, yy_1901, yy_1902) else (if yy_1901 ≤ (dX2_mostAlike Yf_2 Yf_3 yy_1900) then dX2_dayToLook_l18 Yf_2 Yf_3 n (yy_1900 + 1) yy_1901 yy_1902 else dX2_dayToLook_l18 Yf_2 Yf_3 n (yy_1900 + 1) (dX2_mostAlike Yf_2 Yf_3 yy_1900) yy_1900))
theorem dX2_dayToLook_l18_s {Yf_2 : Nat → Int32} {Yf_3 : Nat → Int32} {n : Nat} {yy_1900 : Int32} {yy_1901 : Int32} {yy_1902 : Int32} : dX2_dayToLook_l18 Yf_2 Yf_3 (n + 1) yy_1900 yy_1901 yy_1902 = (if (61 : Int32) ≤ yy_1900 then (yy_1900, yy_1901, yy_1902) else (if yy_1901 ≤ (dX2_mostAlike Yf_2 Yf_3 yy_1900) then dX2_dayToLook_l18 Yf_2 Yf_3 n (yy_1900 + 1) yy_1901 yy_1902 else dX2_dayToLook_l18 Yf_2 Yf_3 n (yy_1900 + 1) (dX2_mostAlike Yf_2 Yf_3 yy_1900) yy_1900)) := rfl
def dX2_dayToLook (Yf_2 : Nat → Int32) (Yf_3 : Nat → Int32) (Yv_0 : Int32) (x1 : Int32) : Int32 := (if Yv_0 = (0 : Int32) then (-2 : Int32) else (if x1 = (0 : Int32) then (dX2_dayToLook_l18 Yf_2 Yf_3 ((61 - (0 : Int32).toInt).toNat + 1) (0 : Int32) (8 : Int32) (0 : Int32)).2.2 else (dX2_dayToLook_l18 Yf_2 Yf_3 ((61 - (0 : Int32).toInt).toNat + 1) (0 : Int32) (8 : Int32) (0 : Int32)).2.1))
set_option maxHeartbeats 4000000 in
set_option maxRecDepth 100000 in
theorem ct_dX2_dayToLook (l : Launch) (D : va_G) (tc : Nat → ClassId) (sk : (Nat → Nat) × (Nat → Nat)) (Ya : Nat → Nat) (Yv : Nat → Int32) (Yf : Nat → Nat → Int32) (Wa : Nat → Nat) (Wv : Nat → Int32) (Wf : Nat → Nat → Int32) (x1 : Int32)  : Ct l yX2_dayToLook cX2_dayToLook 6 (some .int) { frames := 2, cells := 0, slots := 0, locals := 48 } D tc sk [.ref (Ya 0), .int x1] [((Ya 0), .inr (2, [.ref (Wa 0), .ref (Ya 2), .ref (Ya 3), .int (Yv 0)])), ((Ya 2), .inl (tc 0, 427, .inl (Yf 2))), ((Ya 3), .inl (tc 3, 7, .inl (Yf 3))), ((Wa 0), .inr (9, [.int (Wv 0), .int (Wv 1), .int (Wv 2), .int (Wv 3), .int (Wv 4), .int (Wv 5), .ref (Wa 1), .ref (Wa 2), .ref (Wa 3), .ref (Wa 4), .ref (Wa 5), .ref (Wa 6), .ref (Wa 7), .ref (Wa 8)])), ((Wa 1), .inl (tc 0, 10, .inl (Wf 1))), ((Wa 2), .inl (tc 0, 10, .inl (Wf 2))), ((Wa 3), .inl (tc 0, 6, .inl (Wf 3))), ((Wa 4), .inl (tc 0, 6, .inl (Wf 4))), ((Wa 5), .inl (tc 0, 6, .inl (Wf 5))), ((Wa 6), .inl (tc 0, 6, .inl (Wf 6))), ((Wa 7), .inl (tc 0, 6, .inl (Wf 7))), ((Wa 8), .inl (tc 0, 6, .inl (Wf 8)))] (fun (v : Option Value) (_ : Unit) => ∃ r : Int32, v = some (.int r) ∧ ((True) ∧ r = (dX2_dayToLook (Yf 2) (Yf 3) (Yv 0) x1))) (fun (_ : Unit) => [((Ya 0), .inr (2, [.ref (Wa 0), .ref (Ya 2), .ref (Ya 3), .int (Yv 0)])), ((Ya 2), .inl (tc 0, 427, .inl (Yf 2))), ((Ya 3), .inl (tc 3, 7, .inl (Yf 3))), ((Wa 0), .inr (9, [.int (Wv 0), .int (Wv 1), .int (Wv 2), .int (Wv 3), .int (Wv 4), .int (Wv 5), .ref (Wa 1), .ref (Wa 2), .ref (Wa 3), .ref (Wa 4), .ref (Wa 5), .ref (Wa 6), .ref (Wa 7), .ref (Wa 8)])), ((Wa 1), .inl (tc 0, 10, .inl (Wf 1))), ((Wa 2), .inl (tc 0, 10, .inl (Wf 2))), ((Wa 3), .inl (tc 0, 6, .inl (Wf 3))), ((Wa 4), .inl (tc 0, 6, .inl (Wf 4))), ((Wa 5), .inl (tc 0, 6, .inl (Wf 5))), ((Wa 6), .inl (tc 0, 6, .inl (Wf 6))), ((Wa 7), .inl (tc 0, 6, .inl (Wf 7))), ((Wa 8), .inl (tc 0, 6, .inl (Wf 8)))]) 0 0 := by
  refine Ct.start (by decide) (Nat.le_of_ble_eq_true rfl) (fun p e s m below meth c A ls hx hb hr hlk hin hml hown hts hK hX hP hD hA hl hS => ?_)
  have hl : lv_has ls 6 [(0, .ref (Ya 0)), (1, .int x1)] := hl
  refine lv_aload_n hx hb dX2_dayToLook_0 rfl (lv_at hl 0 rfl) ?_
  refine gf_X2_26 hx hb hts hown hK hP 0 rfl rfl dX2_dayToLook_1 ?_
  refine lv_if_ne (tgt := 10) hx hb dX2_dayToLook_4 (by decide) (fun c_1 => ?_) (fun c_1 => ?_)
  · skip
    refine lv_iconst (v := 0) hx hb dX2_dayToLook_10 (by decide) ?_
    refine lv_istore_n (lv' := [(2, .int 0), (0, .ref (Ya 0)), (1, .int x1)]) hx hb dX2_dayToLook_11 rfl hl (by decide) rfl (fun ls hl₀ => ?_)
    replace hl := hl₀
    clear hl₀
    refine lv_bipush (v := 8) hx hb dX2_dayToLook_12 (by decide) ?_
    refine lv_istore_n (lv' := [(3, .int 8), (2, .int 0), (0, .ref (Ya 0)), (1, .int x1)]) hx hb dX2_dayToLook_14 rfl hl (by decide) rfl (fun ls hl₀ => ?_)
    replace hl := hl₀
    clear hl₀
    refine lv_iconst (v := 0) hx hb dX2_dayToLook_15 (by decide) ?_
    refine lv_istore (lv' := [(4, .int 0), (3, .int 8), (2, .int 0), (0, .ref (Ya 0)), (1, .int x1)]) hx hb dX2_dayToLook_16 hl (by decide) rfl (fun ls hl₀ => ?_)
    replace hl := hl₀
    clear hl₀
    have loop_4 : ∀ (n_2 : Nat) (yy_1900 : Int32) (yy_1901 : Int32) (yy_1902 : Int32) (H : Heap) (locs : List Loc) (ls : Array Slot), (61 - (yy_1900 : Int32).toInt).toNat < n_2 → (dX2_dayToLook_l18 (Yf 2) (Yf 3) ((61 - (0 : Int32).toInt).toNat + 1) (0 : Int32) (8 : Int32) (0 : Int32)) = dX2_dayToLook_l18 (Yf 2) (Yf 3) ((61 - (yy_1900 : Int32).toInt).toNat + 1) yy_1900 yy_1901 yy_1902 → (0 ≤ (yy_1900 : Int32).toInt) → va_P D classes [((Ya 0), .inr (2, [.ref (Wa 0), .ref (Ya 2), .ref (Ya 3), .int (Yv 0)])), ((Ya 2), .inl (tc 0, 427, .inl (Yf 2))), ((Ya 3), .inl (tc 3, 7, .inl (Yf 3))), ((Wa 0), .inr (9, [.int (Wv 0), .int (Wv 1), .int (Wv 2), .int (Wv 3), .int (Wv 4), .int (Wv 5), .ref (Wa 1), .ref (Wa 2), .ref (Wa 3), .ref (Wa 4), .ref (Wa 5), .ref (Wa 6), .ref (Wa 7), .ref (Wa 8)])), ((Wa 1), .inl (tc 0, 10, .inl (Wf 1))), ((Wa 2), .inl (tc 0, 10, .inl (Wf 2))), ((Wa 3), .inl (tc 0, 6, .inl (Wf 3))), ((Wa 4), .inl (tc 0, 6, .inl (Wf 4))), ((Wa 5), .inl (tc 0, 6, .inl (Wf 5))), ((Wa 6), .inl (tc 0, 6, .inl (Wf 6))), ((Wa 7), .inl (tc 0, 6, .inl (Wf 7))), ((Wa 8), .inl (tc 0, 6, .inl (Wf 8)))] H → va_D A [((Ya 0), .inr (2, [.ref (Wa 0), .ref (Ya 2), .ref (Ya 3), .int (Yv 0)])), ((Ya 2), .inl (tc 0, 427, .inl (Yf 2))), ((Ya 3), .inl (tc 3, 7, .inl (Yf 3))), ((Wa 0), .inr (9, [.int (Wv 0), .int (Wv 1), .int (Wv 2), .int (Wv 3), .int (Wv 4), .int (Wv 5), .ref (Wa 1), .ref (Wa 2), .ref (Wa 3), .ref (Wa 4), .ref (Wa 5), .ref (Wa 6), .ref (Wa 7), .ref (Wa 8)])), ((Wa 1), .inl (tc 0, 10, .inl (Wf 1))), ((Wa 2), .inl (tc 0, 10, .inl (Wf 2))), ((Wa 3), .inl (tc 0, 6, .inl (Wf 3))), ((Wa 4), .inl (tc 0, 6, .inl (Wf 4))), ((Wa 5), .inl (tc 0, 6, .inl (Wf 5))), ((Wa 6), .inl (tc 0, 6, .inl (Wf 6))), ((Wa 7), .inl (tc 0, 6, .inl (Wf 7))), ((Wa 8), .inl (tc 0, 6, .inl (Wf 8)))] → va_S A s.heap H locs → lv_has ls 6 [(4, .int yy_1900), (3, .int yy_1901), (2, .int yy_1902), (0, .ref (Ya 0)), (1, .int x1)] → W p l e ({ frames := 2, cells := 0, slots := 0, locals := 48 }) s m ([.ref (Ya 0), .int x1].toArray) below meth c H locs 0 0 (MQ below (QW (fun (v : Option Value) (_ : Unit) => ∃ r : Int32, v = some (.int r) ∧ ((True) ∧ r = (dX2_dayToLook (Yf 2) (Yf 3) (Yv 0) x1))) (BW D (fun (_ : Unit) => [((Ya 0), .inr (2, [.ref (Wa 0), .ref (Ya 2), .ref (Ya 3), .int (Yv 0)])), ((Ya 2), .inl (tc 0, 427, .inl (Yf 2))), ((Ya 3), .inl (tc 3, 7, .inl (Yf 3))), ((Wa 0), .inr (9, [.int (Wv 0), .int (Wv 1), .int (Wv 2), .int (Wv 3), .int (Wv 4), .int (Wv 5), .ref (Wa 1), .ref (Wa 2), .ref (Wa 3), .ref (Wa 4), .ref (Wa 5), .ref (Wa 6), .ref (Wa 7), .ref (Wa 8)])), ((Wa 1), .inl (tc 0, 10, .inl (Wf 1))), ((Wa 2), .inl (tc 0, 10, .inl (Wf 2))), ((Wa 3), .inl (tc 0, 6, .inl (Wf 3))), ((Wa 4), .inl (tc 0, 6, .inl (Wf 4))), ((Wa 5), .inl (tc 0, 6, .inl (Wf 5))), ((Wa 6), .inl (tc 0, 6, .inl (Wf 6))), ((Wa 7), .inl (tc 0, 6, .inl (Wf 7))), ((Wa 8), .inl (tc 0, 6, .inl (Wf 8)))]) A) A) ([.ref (Ya 0), .int x1].toArray) s 0 0 A) (F0 m 18 ls []) := by
      clear hP hD hS hl
      intro n_2
      induction n_2 with
      | zero =>
        intro yy_1900 yy_1901 yy_1902 H locs ls h1
        exact absurd h1 (Nat.not_lt_zero _)
      | succ n_2 ih_3 =>
        intro yy_1900 yy_1901 yy_1902 H locs ls hn_7 hL_6 pf_5 hP hD hS hl
        refine lv_iload hx hb dX2_dayToLook_18 (lv_at hl 0 rfl) ?_
        refine lv_bipush (v := 61) hx hb dX2_dayToLook_20 (by decide) ?_
        refine lv_icmp_ge (tgt := 51) hx hb dX2_dayToLook_22 (by decide) (fun c_8 => ?_) (fun c_8 => ?_)
        · skip
          have hb_10 : dX2_dayToLook_l18 (Yf 2) (Yf 3) ((61 - (yy_1900 : Int32).toInt).toNat + 1) yy_1900 yy_1901 yy_1902 = (yy_1900, yy_1901, yy_1902) := by
            clear hP hD hS hl ih_3
            rw [dX2_dayToLook_l18_s]
            rw [if_pos c_8]
            try rfl
          have hX_9 : (dX2_dayToLook_l18 (Yf 2) (Yf 3) ((61 - (0 : Int32).toInt).toNat + 1) (0 : Int32) (8 : Int32) (0 : Int32)) = (yy_1900, yy_1901, yy_1902) := hL_6.trans hb_10
          have hX_9_0 : (dX2_dayToLook_l18 (Yf 2) (Yf 3) ((61 - (0 : Int32).toInt).toNat + 1) (0 : Int32) (8 : Int32) (0 : Int32)).1 = yy_1900 := congrArg (fun z => z.1) hX_9
          have hX_9_1 : (dX2_dayToLook_l18 (Yf 2) (Yf 3) ((61 - (0 : Int32).toInt).toNat + 1) (0 : Int32) (8 : Int32) (0 : Int32)).2.1 = yy_1901 := congrArg (fun z => z.2.1) hX_9
          have hX_9_2 : (dX2_dayToLook_l18 (Yf 2) (Yf 3) ((61 - (0 : Int32).toInt).toNat + 1) (0 : Int32) (8 : Int32) (0 : Int32)).2.2 = yy_1902 := congrArg (fun z => z.2.2) hX_9
          refine lv_iload_n hx hb dX2_dayToLook_51 rfl (lv_at hl 4 rfl) ?_
          refine lv_if_ne (tgt := 59) hx hb dX2_dayToLook_52 (by decide) (fun c_11 => ?_) (fun c_11 => ?_)
          · skip
            refine lv_iload_n hx hb dX2_dayToLook_59 rfl (lv_at hl 1 rfl) ?_
            have hF_12 : yy_1901 = (dX2_dayToLook (Yf 2) (Yf 3) (Yv 0) x1) := by
              clear hP hD hS hl ih_3
              unfold dX2_dayToLook
              try rw [hX_9_0]
              try rw [hX_9_1]
              try rw [hX_9_2]
              rw [if_neg c_1, if_neg c_11]
              try rfl
            exact retI (v := yy_1901) hx hb hr hlk (rfl) hP hD hS () ⟨_, rfl, ⟨trivial, hF_12⟩⟩ [0, 1, 2, 3, 4, 5, 6, 7, 8, 9, 10, 11] rfl rfl dX2_dayToLook_60 (Nat.le_of_ble_eq_true rfl) (Nat.le_of_ble_eq_true rfl) rfl
          · skip
            refine lv_iload_n hx hb dX2_dayToLook_55 rfl (lv_at hl 2 rfl) ?_
            refine lv_goto (tgt := 60) hx hb dX2_dayToLook_56 (by decide) ?_
            have hF_13 : yy_1902 = (dX2_dayToLook (Yf 2) (Yf 3) (Yv 0) x1) := by
              clear hP hD hS hl ih_3
              unfold dX2_dayToLook
              try rw [hX_9_0]
              try rw [hX_9_1]
              try rw [hX_9_2]
              rw [if_neg c_1, if_pos c_11]
              try rfl
            exact retI (v := yy_1902) hx hb hr hlk (rfl) hP hD hS () ⟨_, rfl, ⟨trivial, hF_13⟩⟩ [0, 1, 2, 3, 4, 5, 6, 7, 8, 9, 10, 11] rfl rfl dX2_dayToLook_60 (Nat.le_of_ble_eq_true rfl) (Nat.le_of_ble_eq_true rfl) rfl
        · skip
          refine lv_aload_n hx hb dX2_dayToLook_25 rfl (lv_at hl 3 rfl) ?_
          refine lv_iload hx hb dX2_dayToLook_26 (lv_at hl 0 rfl) ?_
          refine cV (a := (Ya 0)) (As := [.int yy_1900]) (rest := []) (wr := []) ⟨hx, hb, hml, hown, hts⟩ hK hX hA (cu_dX2_mostAlike l D tc sk (Ya 0) (Ya 2) (Ya 3) (Yv 0) (Yf 2) (Yf 3) (Wa 0) (Wa 1) (Wa 2) (Wa 3) (Wa 4) (Wa 5) (Wa 6) (Wa 7) (Wa 8) (Wv 0) (Wv 1) (Wv 2) (Wv 3) (Wv 4) (Wv 5) (Wf 1) (Wf 2) (Wf 3) (Wf 4) (Wf 5) (Wf 6) (Wf 7) (Wf 8) yy_1900) k_1007 k_1004 k_1006 k_21 k_105 pl_X2_mostAlike ⟨Nat.le_of_ble_eq_true rfl, Nat.le_of_ble_eq_true rfl⟩ rfl rfl (va_recv hK hP (ci := 2) (q0 := 0) rfl rfl) hP hD hS [0, 1, 2, 3, 4, 5, 6, 7, 8, 9, 10, 11] [] rfl rfl rfl rfl rfl (by decide) rfl hl.1 rfl (Nat.le_of_ble_eq_true rfl) dX2_dayToLook_28 ⟨Nat.le_of_ble_eq_true rfl, Nat.le_of_ble_eq_true rfl⟩ (fun v_14 u_15 H locs hv_16 hP₀ hD₀ hS₀ => ?_)
          obtain ⟨r_17, rfl, he_18⟩ := hv_16
          have he_18 : (True) ∧ r_17 = (dX2_mostAlike (Yf 2) (Yf 3) yy_1900) := he_18
          refine W.eq (g2 := F0 m 31 ls [.int r_17]) rfl ?_
          replace hP : va_P D classes [((Ya 0), .inr (2, [.ref (Wa 0), .ref (Ya 2), .ref (Ya 3), .int (Yv 0)])), ((Ya 2), .inl (tc 0, 427, .inl (Yf 2))), ((Ya 3), .inl (tc 3, 7, .inl (Yf 3))), ((Wa 0), .inr (9, [.int (Wv 0), .int (Wv 1), .int (Wv 2), .int (Wv 3), .int (Wv 4), .int (Wv 5), .ref (Wa 1), .ref (Wa 2), .ref (Wa 3), .ref (Wa 4), .ref (Wa 5), .ref (Wa 6), .ref (Wa 7), .ref (Wa 8)])), ((Wa 1), .inl (tc 0, 10, .inl (Wf 1))), ((Wa 2), .inl (tc 0, 10, .inl (Wf 2))), ((Wa 3), .inl (tc 0, 6, .inl (Wf 3))), ((Wa 4), .inl (tc 0, 6, .inl (Wf 4))), ((Wa 5), .inl (tc 0, 6, .inl (Wf 5))), ((Wa 6), .inl (tc 0, 6, .inl (Wf 6))), ((Wa 7), .inl (tc 0, 6, .inl (Wf 7))), ((Wa 8), .inl (tc 0, 6, .inl (Wf 8)))] H := hP₀
          replace hD : va_D A [((Ya 0), .inr (2, [.ref (Wa 0), .ref (Ya 2), .ref (Ya 3), .int (Yv 0)])), ((Ya 2), .inl (tc 0, 427, .inl (Yf 2))), ((Ya 3), .inl (tc 3, 7, .inl (Yf 3))), ((Wa 0), .inr (9, [.int (Wv 0), .int (Wv 1), .int (Wv 2), .int (Wv 3), .int (Wv 4), .int (Wv 5), .ref (Wa 1), .ref (Wa 2), .ref (Wa 3), .ref (Wa 4), .ref (Wa 5), .ref (Wa 6), .ref (Wa 7), .ref (Wa 8)])), ((Wa 1), .inl (tc 0, 10, .inl (Wf 1))), ((Wa 2), .inl (tc 0, 10, .inl (Wf 2))), ((Wa 3), .inl (tc 0, 6, .inl (Wf 3))), ((Wa 4), .inl (tc 0, 6, .inl (Wf 4))), ((Wa 5), .inl (tc 0, 6, .inl (Wf 5))), ((Wa 6), .inl (tc 0, 6, .inl (Wf 6))), ((Wa 7), .inl (tc 0, 6, .inl (Wf 7))), ((Wa 8), .inl (tc 0, 6, .inl (Wf 8)))] := hD₀
          replace hS := hS₀
          clear hP₀ hD₀ hS₀
          obtain ⟨he_18, hq_20⟩ := he_18
          have er_17 : r_17 = (dX2_mostAlike (Yf 2) (Yf 3) yy_1900) := hq_20
          refine lv_istore (lv' := [(5, .int r_17), (4, .int yy_1900), (3, .int yy_1901), (2, .int yy_1902), (0, .ref (Ya 0)), (1, .int x1)]) hx hb dX2_dayToLook_31 hl (by decide) rfl (fun ls hl₀ => ?_)
          replace hl := hl₀
          clear hl₀
          refine lv_iload hx hb dX2_dayToLook_33 (lv_at hl 0 rfl) ?_
          refine lv_iload_n hx hb dX2_dayToLook_35 rfl (lv_at hl 2 rfl) ?_
          refine lv_icmp_ge (tgt := 45) hx hb dX2_dayToLook_36 (by decide) (fun c_21 => ?_) (fun c_21 => ?_)
          · skip
            obtain ⟨x_22, ex_22⟩ : ∃ y : Int32, y = yy_1900 + 1 := ⟨_, rfl⟩
            refine lv_iinc (v := x_22) (lv' := [(4, .int x_22), (5, .int r_17), (3, .int yy_1901), (2, .int yy_1902), (0, .ref (Ya 0)), (1, .int x1)]) hx hb dX2_dayToLook_45 hl (k := 1) rfl (by rw [ex_22]; rfl) (by decide) rfl (fun ls hl₀ => ?_)
            replace hl := hl₀
            clear hl₀
            refine lv_goto (tgt := 18) hx hb dX2_dayToLook_48 (by decide) ?_
            have hb_23 : 61 - (x_22 : Int32).toInt < 61 - (yy_1900 : Int32).toInt ∧ 1 ≤ 61 - (yy_1900 : Int32).toInt := by
              have z_1 : ¬ ((Yv 0) : Int32).toInt = (0 : Int32).toInt := fun z => c_1 (Int32.toInt_inj.mp z)
              have z_2 := Int32.lt_iff_toInt_lt.mp (Int32.not_le.mp c_8)
              have z_3 := Int32.le_iff_toInt_le.mp c_21
              have y_0 : (0 : Int32).toInt = 0 := by decide
              have y_61 : (61 : Int32).toInt = 61 := by decide
              have y_1 : (1 : Int32).toInt = 1 := by decide
              have t_x_22 : x_22.toInt = (yy_1900 : Int32).toInt + (1 : Int32).toInt := by rw [ex_22]; exact add_toInt (by omega) (by omega)
              omega
            have hm_24 : (61 - (yy_1900 : Int32).toInt).toNat = (61 - (x_22 : Int32).toInt).toNat + 1 := by
              have z_1 : ¬ ((Yv 0) : Int32).toInt = (0 : Int32).toInt := fun z => c_1 (Int32.toInt_inj.mp z)
              have z_2 := Int32.lt_iff_toInt_lt.mp (Int32.not_le.mp c_8)
              have z_3 := Int32.le_iff_toInt_le.mp c_21
              have y_0 : (0 : Int32).toInt = 0 := by decide
              have y_61 : (61 : Int32).toInt = 61 := by decide
              have y_1 : (1 : Int32).toInt = 1 := by decide
              have t_x_22 : x_22.toInt = (yy_1900 : Int32).toInt + (1 : Int32).toInt := by rw [ex_22]; exact add_toInt (by omega) (by omega)
              omega
            have hb_25 : dX2_dayToLook_l18 (Yf 2) (Yf 3) ((61 - (yy_1900 : Int32).toInt).toNat + 1) yy_1900 yy_1901 yy_1902 = dX2_dayToLook_l18 (Yf 2) (Yf 3) ((61 - (yy_1900 : Int32).toInt).toNat) x_22 yy_1901 yy_1902 := by
              clear hP hD hS hl ih_3
              replace er_17 := er_17.symm; subst er_17
              replace ex_22 := ex_22.symm; subst ex_22
              rw [dX2_dayToLook_l18_s]
              rw [if_neg c_8, if_pos c_21]
              try rfl
            have hL_26 : (dX2_dayToLook_l18 (Yf 2) (Yf 3) ((61 - (0 : Int32).toInt).toNat + 1) (0 : Int32) (8 : Int32) (0 : Int32)) = dX2_dayToLook_l18 (Yf 2) (Yf 3) ((61 - (x_22 : Int32).toInt).toNat + 1) x_22 yy_1901 yy_1902 := by
              rw [hL_6, hb_25, hm_24]
            have ha_27 : 0 ≤ (x_22 : Int32).toInt := by
              have z_1 : ¬ ((Yv 0) : Int32).toInt = (0 : Int32).toInt := fun z => c_1 (Int32.toInt_inj.mp z)
              have z_2 := Int32.lt_iff_toInt_lt.mp (Int32.not_le.mp c_8)
              have z_3 := Int32.le_iff_toInt_le.mp c_21
              have y_0 : (0 : Int32).toInt = 0 := by decide
              have y_61 : (61 : Int32).toInt = 61 := by decide
              have y_1 : (1 : Int32).toInt = 1 := by decide
              have t_x_22 : x_22.toInt = (yy_1900 : Int32).toInt + (1 : Int32).toInt := by rw [ex_22]; exact add_toInt (by omega) (by omega)
              omega
            exact ih_3 x_22 yy_1901 yy_1902 _ _ _ (by omega) hL_26 ha_27 (hP.sub [0, 1, 2, 3, 4, 5, 6, 7, 8, 9, 10, 11] rfl) (hD.sub [0, 1, 2, 3, 4, 5, 6, 7, 8, 9, 10, 11] rfl rfl) hS (lv_sub hl [0, 2, 3, 4, 5] rfl)
          · skip
            refine lv_iload hx hb dX2_dayToLook_39 (lv_at hl 0 rfl) ?_
            refine lv_istore_n (lv' := [(3, .int r_17), (5, .int r_17), (4, .int yy_1900), (2, .int yy_1902), (0, .ref (Ya 0)), (1, .int x1)]) hx hb dX2_dayToLook_41 rfl hl (by decide) rfl (fun ls hl₀ => ?_)
            replace hl := hl₀
            clear hl₀
            refine lv_iload hx hb dX2_dayToLook_42 (lv_at hl 2 rfl) ?_
            refine lv_istore_n (lv' := [(2, .int yy_1900), (3, .int r_17), (5, .int r_17), (4, .int yy_1900), (0, .ref (Ya 0)), (1, .int x1)]) hx hb dX2_dayToLook_44 rfl hl (by decide) rfl (fun ls hl₀ => ?_)
            replace hl := hl₀
            clear hl₀
            obtain ⟨x_28, ex_28⟩ : ∃ y : Int32, y = yy_1900 + 1 := ⟨_, rfl⟩
            refine lv_iinc (v := x_28) (lv' := [(4, .int x_28), (2, .int yy_1900), (3, .int r_17), (5, .int r_17), (0, .ref (Ya 0)), (1, .int x1)]) hx hb dX2_dayToLook_45 hl (k := 3) rfl (by rw [ex_28]; rfl) (by decide) rfl (fun ls hl₀ => ?_)
            replace hl := hl₀
            clear hl₀
            refine lv_goto (tgt := 18) hx hb dX2_dayToLook_48 (by decide) ?_
            have hb_29 : 61 - (x_28 : Int32).toInt < 61 - (yy_1900 : Int32).toInt ∧ 1 ≤ 61 - (yy_1900 : Int32).toInt := by
              have z_1 : ¬ ((Yv 0) : Int32).toInt = (0 : Int32).toInt := fun z => c_1 (Int32.toInt_inj.mp z)
              have z_2 := Int32.lt_iff_toInt_lt.mp (Int32.not_le.mp c_8)
              have z_3 := Int32.lt_iff_toInt_lt.mp (Int32.not_le.mp c_21)
              have y_0 : (0 : Int32).toInt = 0 := by decide
              have y_61 : (61 : Int32).toInt = 61 := by decide
              have y_1 : (1 : Int32).toInt = 1 := by decide
              have t_x_28 : x_28.toInt = (yy_1900 : Int32).toInt + (1 : Int32).toInt := by rw [ex_28]; exact add_toInt (by omega) (by omega)
              omega
            have hm_30 : (61 - (yy_1900 : Int32).toInt).toNat = (61 - (x_28 : Int32).toInt).toNat + 1 := by
              have z_1 : ¬ ((Yv 0) : Int32).toInt = (0 : Int32).toInt := fun z => c_1 (Int32.toInt_inj.mp z)
              have z_2 := Int32.lt_iff_toInt_lt.mp (Int32.not_le.mp c_8)
              have z_3 := Int32.lt_iff_toInt_lt.mp (Int32.not_le.mp c_21)
              have y_0 : (0 : Int32).toInt = 0 := by decide
              have y_61 : (61 : Int32).toInt = 61 := by decide
              have y_1 : (1 : Int32).toInt = 1 := by decide
              have t_x_28 : x_28.toInt = (yy_1900 : Int32).toInt + (1 : Int32).toInt := by rw [ex_28]; exact add_toInt (by omega) (by omega)
              omega
            have hb_31 : dX2_dayToLook_l18 (Yf 2) (Yf 3) ((61 - (yy_1900 : Int32).toInt).toNat + 1) yy_1900 yy_1901 yy_1902 = dX2_dayToLook_l18 (Yf 2) (Yf 3) ((61 - (yy_1900 : Int32).toInt).toNat) x_28 r_17 yy_1900 := by
              clear hP hD hS hl ih_3
              replace er_17 := er_17.symm; subst er_17
              replace ex_28 := ex_28.symm; subst ex_28
              rw [dX2_dayToLook_l18_s]
              rw [if_neg c_8, if_neg c_21]
              try rfl
            have hL_32 : (dX2_dayToLook_l18 (Yf 2) (Yf 3) ((61 - (0 : Int32).toInt).toNat + 1) (0 : Int32) (8 : Int32) (0 : Int32)) = dX2_dayToLook_l18 (Yf 2) (Yf 3) ((61 - (x_28 : Int32).toInt).toNat + 1) x_28 r_17 yy_1900 := by
              rw [hL_6, hb_31, hm_30]
            have ha_33 : 0 ≤ (x_28 : Int32).toInt := by
              have z_1 : ¬ ((Yv 0) : Int32).toInt = (0 : Int32).toInt := fun z => c_1 (Int32.toInt_inj.mp z)
              have z_2 := Int32.lt_iff_toInt_lt.mp (Int32.not_le.mp c_8)
              have z_3 := Int32.lt_iff_toInt_lt.mp (Int32.not_le.mp c_21)
              have y_0 : (0 : Int32).toInt = 0 := by decide
              have y_61 : (61 : Int32).toInt = 61 := by decide
              have y_1 : (1 : Int32).toInt = 1 := by decide
              have t_x_28 : x_28.toInt = (yy_1900 : Int32).toInt + (1 : Int32).toInt := by rw [ex_28]; exact add_toInt (by omega) (by omega)
              omega
            exact ih_3 x_28 r_17 yy_1900 _ _ _ (by omega) hL_32 ha_33 (hP.sub [0, 1, 2, 3, 4, 5, 6, 7, 8, 9, 10, 11] rfl) (hD.sub [0, 1, 2, 3, 4, 5, 6, 7, 8, 9, 10, 11] rfl rfl) hS (lv_sub hl [0, 2, 1, 4, 5] rfl)
    have ha_34 : 0 ≤ (0 : Int32).toInt := by
      have z_1 : ¬ ((Yv 0) : Int32).toInt = (0 : Int32).toInt := fun z => c_1 (Int32.toInt_inj.mp z)
      have y_0 : (0 : Int32).toInt = 0 := by decide
      omega
    exact loop_4 _ 0 8 0 _ _ _ (Nat.lt_succ_self _) rfl ha_34 hP hD hS hl
  · skip
    refine lv_bipush (v := (-2)) hx hb dX2_dayToLook_7 (by decide) ?_
    have hF_35 : (-2 : Int32) = (dX2_dayToLook (Yf 2) (Yf 3) (Yv 0) x1) := by
      clear hP hD hS hl
      unfold dX2_dayToLook
      rw [if_pos c_1]
      try rfl
    exact retI (v := (-2)) hx hb hr hlk (rfl) hP hD hS () ⟨_, rfl, ⟨trivial, hF_35⟩⟩ [0, 1, 2, 3, 4, 5, 6, 7, 8, 9, 10, 11] rfl rfl dX2_dayToLook_9 (Nat.le_of_ble_eq_true rfl) (Nat.le_of_ble_eq_true rfl) rfl
set_option maxRecDepth 100000 in
theorem cu_dX2_dayToLook (l : Launch) (D : va_G) (tc : Nat → ClassId) (sk : (Nat → Nat) × (Nat → Nat)) (Ya_0 : Nat) (Ya_2 : Nat) (Ya_3 : Nat) (Yv_0 : Int32) (Yf_2 : Nat → Int32) (Yf_3 : Nat → Int32) (Wa_0 : Nat) (Wa_1 : Nat) (Wa_2 : Nat) (Wa_3 : Nat) (Wa_4 : Nat) (Wa_5 : Nat) (Wa_6 : Nat) (Wa_7 : Nat) (Wa_8 : Nat) (Wv_0 : Int32) (Wv_1 : Int32) (Wv_2 : Int32) (Wv_3 : Int32) (Wv_4 : Int32) (Wv_5 : Int32) (Wf_1 : Nat → Int32) (Wf_2 : Nat → Int32) (Wf_3 : Nat → Int32) (Wf_4 : Nat → Int32) (Wf_5 : Nat → Int32) (Wf_6 : Nat → Int32) (Wf_7 : Nat → Int32) (Wf_8 : Nat → Int32) (x1 : Int32)  : Ct l yX2_dayToLook cX2_dayToLook 6 (some .int) { frames := 2, cells := 0, slots := 0, locals := 48 } D tc sk [.ref Ya_0, .int x1] [(Ya_0, .inr (2, [.ref Wa_0, .ref Ya_2, .ref Ya_3, .int Yv_0])), (Ya_2, .inl (tc 0, 427, .inl Yf_2)), (Ya_3, .inl (tc 3, 7, .inl Yf_3)), (Wa_0, .inr (9, [.int Wv_0, .int Wv_1, .int Wv_2, .int Wv_3, .int Wv_4, .int Wv_5, .ref Wa_1, .ref Wa_2, .ref Wa_3, .ref Wa_4, .ref Wa_5, .ref Wa_6, .ref Wa_7, .ref Wa_8])), (Wa_1, .inl (tc 0, 10, .inl Wf_1)), (Wa_2, .inl (tc 0, 10, .inl Wf_2)), (Wa_3, .inl (tc 0, 6, .inl Wf_3)), (Wa_4, .inl (tc 0, 6, .inl Wf_4)), (Wa_5, .inl (tc 0, 6, .inl Wf_5)), (Wa_6, .inl (tc 0, 6, .inl Wf_6)), (Wa_7, .inl (tc 0, 6, .inl Wf_7)), (Wa_8, .inl (tc 0, 6, .inl Wf_8))] (fun (v : Option Value) (_ : Unit) => ∃ r : Int32, v = some (.int r) ∧ ((True) ∧ r = (dX2_dayToLook Yf_2 Yf_3 Yv_0 x1))) (fun (_ : Unit) => [(Ya_0, .inr (2, [.ref Wa_0, .ref Ya_2, .ref Ya_3, .int Yv_0])), (Ya_2, .inl (tc 0, 427, .inl Yf_2)), (Ya_3, .inl (tc 3, 7, .inl Yf_3)), (Wa_0, .inr (9, [.int Wv_0, .int Wv_1, .int Wv_2, .int Wv_3, .int Wv_4, .int Wv_5, .ref Wa_1, .ref Wa_2, .ref Wa_3, .ref Wa_4, .ref Wa_5, .ref Wa_6, .ref Wa_7, .ref Wa_8])), (Wa_1, .inl (tc 0, 10, .inl Wf_1)), (Wa_2, .inl (tc 0, 10, .inl Wf_2)), (Wa_3, .inl (tc 0, 6, .inl Wf_3)), (Wa_4, .inl (tc 0, 6, .inl Wf_4)), (Wa_5, .inl (tc 0, 6, .inl Wf_5)), (Wa_6, .inl (tc 0, 6, .inl Wf_6)), (Wa_7, .inl (tc 0, 6, .inl Wf_7)), (Wa_8, .inl (tc 0, 6, .inl Wf_8))]) 0 0 :=
  ct_dX2_dayToLook l D tc sk (fun k => ([Ya_0, 0, Ya_2, Ya_3] : List (Nat)).getD k 0) (fun k => ([Yv_0] : List (Int32)).getD k 0) (fun k => ([(fun _ => 0), (fun _ => 0), Yf_2, Yf_3] : List (Nat → Int32)).getD k (fun _ => 0)) (fun k => ([Wa_0, Wa_1, Wa_2, Wa_3, Wa_4, Wa_5, Wa_6, Wa_7, Wa_8] : List (Nat)).getD k 0) (fun k => ([Wv_0, Wv_1, Wv_2, Wv_3, Wv_4, Wv_5] : List (Int32)).getD k 0) (fun k => ([(fun _ => 0), Wf_1, Wf_2, Wf_3, Wf_4, Wf_5, Wf_6, Wf_7, Wf_8] : List (Nat → Int32)).getD k (fun _ => 0)) x1 
