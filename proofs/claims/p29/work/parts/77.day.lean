set_option maxRecDepth 16384
/-! the days: the class's shop and the reference's cells, by the functions of their methods -/
def sumB (s : Nat → Int32) : Nat → Int32
  | 0 => 0
  | n + 1 => sumB s n + s (13 + 4 * n)
def ShR (v0 v1 v2 v3 v4 v5 : Int32) (f1 f2 f3 f4 f5 f6 f7 f8 s : Nat → Int32) : Prop := (v0 = s 11 ∧ v1 = s 1 ∧ v2 = s 2 ∧ v3 = s 3 ∧ v4 = s 10 ∧ v5 = sumB s (s 3).toInt.toNat) ∧ (∀ k : Nat, k < 10 → f1 k = s (36 + k) ∧ f2 k = s (46 + k)) ∧ ∀ b : Nat, b < 6 → f3 b = s (12 + 4 * b) ∧ f4 b = s (56 + b) ∧ f5 b = s (62 + b) ∧ f6 b = s (13 + 4 * b) ∧ f7 b = s (14 + 4 * b) ∧ f8 b = s (15 + 4 * b)
/-- what holds of the cells on the first 61 days -/
def Gs (s : Nat → Int32) : Prop := (s 0 = 1 ∧ (1 ≤ (s 2).toInt ∧ (s 2).toInt ≤ 10) ∧ (0 ≤ (s 3).toInt ∧ (s 3).toInt ≤ 6) ∧ (0 ≤ (s 1).toInt ∧ (s 1).toInt ≤ 9) ∧ (0 ≤ (s 11).toInt ∧ (s 11).toInt ≤ 99) ∧ (0 ≤ (s 10).toInt ∧ (s 10).toInt ≤ 61)) ∧ ∀ b : Nat, b < 6 → (0 ≤ (s (12 + 4 * b)).toInt ∧ (s (12 + 4 * b)).toInt ≤ 20) ∧ (-1 ≤ (s (15 + 4 * b)).toInt ∧ (s (15 + 4 * b)).toInt ≤ (s 10).toInt) ∧ (0 ≤ (s (56 + b)).toInt ∧ (s (56 + b)).toInt ≤ 9)
theorem cl_eq {x : Int32} {n : Nat} (h : x.toInt = (n : Int)) : x.toNatClampNeg = n := by
  show x.toInt.toNat = n
  omega
theorem cl_l0 : (0 : Int32).toNatClampNeg = 0 := by decide
theorem cl_l1 : (1 : Int32).toNatClampNeg = 1 := by decide
theorem cl_l2 : (2 : Int32).toNatClampNeg = 2 := by decide
theorem cl_l3 : (3 : Int32).toNatClampNeg = 3 := by decide
theorem cl_l10 : (10 : Int32).toNatClampNeg = 10 := by decide
theorem cl_l11 : (11 : Int32).toNatClampNeg = 11 := by decide
theorem ix_12 {b : Int32} (h : 0 ≤ b.toInt ∧ b.toInt < 6) : ((12 : Int32) + (4 : Int32) * b).toInt = 12 + 4 * b.toInt := by
  have h4 : (4 : Int32).toInt = 4 := by decide
  have h12 : (12 : Int32).toInt = 12 := by decide
  have e1 : ((4 : Int32) * b).toInt = 4 * b.toInt := by rw [mul_toInt (by rw [h4]; omega) (by rw [h4]; omega), h4]
  rw [add_toInt (by rw [h12, e1]; omega) (by rw [h12, e1]; omega), h12, e1]
theorem ix_k {x k : Int32} {n m : Int} (hx : x.toInt = n) (hk : k.toInt = m) (h : -2147483648 ≤ n + m ∧ n + m ≤ 2147483647) : (x + k).toInt = n + m := by
  rw [add_toInt (by rw [hx, hk]; exact h.1) (by rw [hx, hk]; exact h.2), hx, hk]
theorem c12 {b : Int32} (h : 0 ≤ b.toInt ∧ b.toInt < 6) : ((12 : Int32) + (4 : Int32) * b).toNatClampNeg = 12 + 4 * b.toInt.toNat := cl_eq (by rw [ix_12 h]; omega)
theorem c13 {b : Int32} (h : 0 ≤ b.toInt ∧ b.toInt < 6) : ((12 : Int32) + (4 : Int32) * b + (1 : Int32)).toNatClampNeg = 13 + 4 * b.toInt.toNat := cl_eq (by rw [ix_k (ix_12 h) (show (1 : Int32).toInt = 1 by decide) (by omega)]; omega)
theorem c14 {b : Int32} (h : 0 ≤ b.toInt ∧ b.toInt < 6) : ((12 : Int32) + (4 : Int32) * b + (2 : Int32)).toNatClampNeg = 14 + 4 * b.toInt.toNat := cl_eq (by rw [ix_k (ix_12 h) (show (2 : Int32).toInt = 2 by decide) (by omega)]; omega)
theorem c15 {b : Int32} (h : 0 ≤ b.toInt ∧ b.toInt < 6) : ((12 : Int32) + (4 : Int32) * b + (3 : Int32)).toNatClampNeg = 15 + 4 * b.toInt.toNat := cl_eq (by rw [ix_k (ix_12 h) (show (3 : Int32).toInt = 3 by decide) (by omega)]; omega)
theorem c56 {b : Int32} (h : 0 ≤ b.toInt ∧ b.toInt < 6) : ((56 : Int32) + b).toNatClampNeg = 56 + b.toInt.toNat := cl_eq (by rw [ix_k (show (56 : Int32).toInt = 56 by decide) rfl (by omega)]; omega)
theorem c62 {b : Int32} (h : 0 ≤ b.toInt ∧ b.toInt < 6) : ((62 : Int32) + b).toNatClampNeg = 62 + b.toInt.toNat := cl_eq (by rw [ix_k (show (62 : Int32).toInt = 62 by decide) rfl (by omega)]; omega)
theorem c36 {b : Int32} (h : 0 ≤ b.toInt ∧ b.toInt < 10) : ((36 : Int32) + b).toNatClampNeg = 36 + b.toInt.toNat := cl_eq (by rw [ix_k (show (36 : Int32).toInt = 36 by decide) rfl (by omega)]; omega)
theorem c46 {b : Int32} (h : 0 ≤ b.toInt ∧ b.toInt < 10) : ((46 : Int32) + b).toNatClampNeg = 46 + b.toInt.toNat := cl_eq (by rw [ix_k (show (46 : Int32).toInt = 46 by decide) rfl (by omega)]; omega)
theorem cl_b {b : Int32} : b.toNatClampNeg = b.toInt.toNat := rfl
/-! reading the reference's cells -/
theorem rd_temper {s : Nat → Int32} {b : Int32} (h : 0 ≤ b.toInt ∧ b.toInt < 6) : dX12_temperOf s b = s (12 + 4 * b.toInt.toNat) := by unfold dX12_temperOf; rw [c12 h]
theorem rd_bought {s : Nat → Int32} {b : Int32} (h : 0 ≤ b.toInt ∧ b.toInt < 6) : dX12_boughtBy s b = s (13 + 4 * b.toInt.toNat) := by unfold dX12_boughtBy; rw [c13 h]
theorem rd_met {s : Nat → Int32} {b : Int32} (h : 0 ≤ b.toInt ∧ b.toInt < 6) : dX12_metOf s b = s (14 + 4 * b.toInt.toNat) := by unfold dX12_metOf; rw [c14 h]
theorem rd_last {s : Nat → Int32} {b : Int32} (h : 0 ≤ b.toInt ∧ b.toInt < 6) : dX12_lastOf s b = s (15 + 4 * b.toInt.toNat) := by unfold dX12_lastOf; rw [c15 h]
theorem i32_lt {x y : Int32} : x < y ↔ x.toInt < y.toInt := Int32.lt_iff_toInt_lt
theorem i32_leq {x y : Int32} : x ≤ y ↔ x.toInt ≤ y.toInt := Int32.le_iff_toInt_le
theorem i32_eq {x y : Int32} : x = y ↔ x.toInt = y.toInt := Int32.toInt_inj.symm
theorem t_0 : (0 : Int32).toInt = 0 := by decide
theorem t_1 : (1 : Int32).toInt = 1 := by decide
theorem t_m1 : (-1 : Int32).toInt = -1 := by decide
theorem t_6 : (6 : Int32).toInt = 6 := by decide
theorem t_10 : (10 : Int32).toInt = 10 := by decide
theorem t_99 : (99 : Int32).toInt = 99 := by decide
theorem hasB {n b : Int32} (h : 0 ≤ b.toInt ∧ b.toInt < n.toInt) (hn : n.toInt ≤ 6) : dX9_hasBuyer n b = 1 := by
  unfold dX9_hasBuyer
  rw [if_neg (by rw [i32_lt, t_0]; omega), if_neg (by rw [i32_leq]; omega), if_neg (by rw [i32_leq, t_6]; omega)]
theorem one_ne : ¬ (1 : Int32) = (0 : Int32) := by decide
theorem isBk {s : Nat → Int32} (g : Gs s) : dX12_isBook s = 1 := by
  unfold dX12_isBook
  rw [cl_l0, if_pos g.1.1]
/-- the day of the round -/
theorem clk {s : Nat → Int32} (g : Gs s) : dX12_clock s = s 10 - s 10 / s 2 * s 2 ∧ dX9_clockOn (s 2) (s 10) = dX12_clock s ∧ 0 ≤ (dX12_clock s).toInt ∧ (dX12_clock s).toInt < (s 2).toInt ∧ (dX12_clock s).toInt < 10 := by
  have h2 := g.1.2.1
  have h10 := g.1.2.2.2.2.2
  have e : dX12_clock s = s 10 - s 10 / s 2 * s 2 := by
    unfold dX12_clock
    rw [isBk g, if_neg one_ne, cl_l10, cl_l2]
  have hr := rem_bounds (x := s 10) (y := s 2) (by omega)
  rw [← e] at hr
  have h0 := hr.1 h10.1
  refine ⟨e, ?_, h0, hr.2, by omega⟩
  unfold dX9_clockOn
  rw [if_neg (by rw [i32_leq, t_0]; omega), if_neg (by rw [i32_lt, t_0]; omega), e]
theorem still_at {s f1 : Nat → Int32} {d : Int32} (h1 : ∀ k : Nat, k < 10 → f1 k = s (36 + k)) (h2 : 1 ≤ (s 2).toInt ∧ (s 2).toInt ≤ 10) (hd : 0 ≤ d.toInt) : dX9_stillOn f1 (s 2) d = s (36 + (d - d / s 2 * s 2).toInt.toNat) ∧ 0 ≤ (d - d / s 2 * s 2).toInt ∧ (d - d / s 2 * s 2).toInt < 10 := by
  have hr := rem_bounds (x := d) (y := s 2) (by omega)
  have h0 := hr.1 hd
  refine ⟨?_, h0, by omega⟩
  unfold dX9_stillOn
  rw [if_neg (by rw [i32_leq, t_0]; omega), if_pos (by rw [i32_leq, t_0]; omega), if_neg (by rw [i32_leq, t_10]; omega)]
  exact h1 _ (show (d - d / s 2 * s 2).toInt.toNat < 10 by omega)
section DAY
variable {v0 v1 v2 v3 v4 v5 : Int32} {f1 f2 f3 f4 f5 f6 f7 f8 s : Nat → Int32}
theorem ShR.still (h : ShR v0 v1 v2 v3 v4 v5 f1 f2 f3 f4 f5 f6 f7 f8 s) (g : Gs s) : dX9_stillOn f1 v2 v4 = s (36 + (dX12_clock s).toInt.toNat) := by
  have h10 := g.1.2.2.2.2.2
  rw [h.1.2.2.1, h.1.2.2.2.2.1, (clk g).1]
  exact (still_at (fun k hk => (h.2.1 k hk).1) g.1.2.1 h10.1).1
theorem ShR.can (h : ShR v0 v1 v2 v3 v4 v5 f1 f2 f3 f4 f5 f6 f7 f8 s) (g : Gs s) {b : Int32} (hb : 0 ≤ b.toInt ∧ b.toInt < (s 3).toInt) : dX9_canBuy f4 f5 f8 v0 v3 v4 b = dX12_canBuy s b := by
  have h6 : 0 ≤ b.toInt ∧ b.toInt < 6 := by have := g.1.2.2.1; omega
  have hn : b.toInt.toNat < 6 := by omega
  obtain ⟨-, a4, a5, -, -, a8⟩ := h.2.2 _ hn
  have hl := (g.2 _ hn).2.1
  unfold dX9_canBuy dX12_canBuy
  rw [h.1.2.2.2.1, hasB hb g.1.2.2.1.2, if_neg one_ne, cl_b (b := b), a4, a5, a8, h.1.1, h.1.2.2.2.2.1, rd_last h6, c56 h6, c62 h6, cl_l11, cl_l10]
  by_cases z : s (56 + b.toInt.toNat) ≤ s 11
  · rw [if_pos z, if_neg (show ¬ s 11 < s (56 + b.toInt.toNat) by rw [i32_lt]; rw [i32_leq] at z; omega)]
    by_cases y : s (15 + 4 * b.toInt.toNat) = -1
    · rw [if_pos y, if_pos (show s (15 + 4 * b.toInt.toNat) < 0 by rw [y]; decide)]
    · rw [if_neg y, if_neg (show ¬ s (15 + 4 * b.toInt.toNat) < 0 by rw [i32_lt, t_0]; rw [i32_eq, t_m1] at y; omega)]
  · rw [if_neg z, if_pos (by rw [i32_lt]; rw [i32_leq] at z; omega)]
end DAY
/-! the words of a buyer -/
def wdI (s : Nat → Int32) (b : Int32) (k : Nat) : Int32 := if k = 0 then b else if k = 1 then s (12 + 4 * b.toInt.toNat) else if k = 2 then s (56 + b.toInt.toNat) else if k = 3 then s (62 + b.toInt.toNat) else if k = 4 then s (36 + (dX12_clock s).toInt.toNat) else if k = 5 then s (36 + ((s 10 + 1) - (s 10 + 1) / s 2 * s 2).toInt.toNat) else if k = 6 then s 11 else if k = 7 then s (13 + 4 * b.toInt.toNat) else if k = 8 then s (14 + 4 * b.toInt.toNat) else if k = 9 then dX12_sinceOf s b else if k = 10 then dX12_soldAll s else if k = 11 then dX12_clock s else s 10
theorem soldL {s : Nat → Int32} (h3 : 0 ≤ (s 3).toInt ∧ (s 3).toInt ≤ 6) : ∀ (n : Nat) (b a : Int32), 0 ≤ b.toInt → b.toInt ≤ (s 3).toInt → (s 3).toInt - b.toInt < (n : Int) → a = sumB s b.toInt.toNat → (dX12_soldAll_l4 s n b a).2 = sumB s (s 3).toInt.toNat
  | 0, b, a, h0, h1, hn, ha => by omega
  | n + 1, b, a, h0, h1, hn, ha => by
    rw [dX12_soldAll_l4_s, cl_l3]
    by_cases z : s 3 ≤ b
    · rw [if_pos z]
      have e : b.toInt = (s 3).toInt := by rw [i32_leq] at z; omega
      show a = _
      rw [ha, e]
    · rw [if_neg z]
      have hb : b.toInt < (s 3).toInt := by rw [i32_leq] at z; omega
      have e1 : (b + 1).toInt = b.toInt + 1 := by rw [ix_k rfl t_1 (by omega)]
      refine soldL h3 n (b + 1) _ (by omega) (by omega) (by omega) ?_
      rw [rd_bought (by omega), ha, show (b + 1).toInt.toNat = b.toInt.toNat + 1 by omega]
      rfl
theorem sold_eq {s : Nat → Int32} (g : Gs s) : dX12_soldAll s = sumB s (s 3).toInt.toNat := by
  unfold dX12_soldAll
  have h3 := g.1.2.2.1
  refine soldL h3 _ 0 0 (by decide) (by rw [t_0]; omega) ?_ ?_
  · rw [t_0]
    show (s 3).toInt - 0 < (((6 - 0 : Int).toNat + 1 : Nat) : Int)
    omega
  · rw [t_0]; rfl
section DAYW
variable {v0 v1 v2 v3 v4 v5 : Int32} {f1 f2 f3 f4 f5 f6 f7 f8 s : Nat → Int32}
theorem ShR.since (h : ShR v0 v1 v2 v3 v4 v5 f1 f2 f3 f4 f5 f6 f7 f8 s) (g : Gs s) {b : Int32} (hb : 0 ≤ b.toInt ∧ b.toInt < (s 3).toInt) : dX9_daysSince f8 v3 v4 b = dX12_sinceOf s b := by
  have h6 : 0 ≤ b.toInt ∧ b.toInt < 6 := by have := g.1.2.2.1; omega
  have hn : b.toInt.toNat < 6 := by omega
  obtain ⟨-, -, -, -, -, a8⟩ := h.2.2 _ hn
  have hl := (g.2 _ hn).2.1
  have hd := g.1.2.2.2.2.2
  unfold dX9_daysSince dX12_sinceOf
  rw [h.1.2.2.2.1, hasB hb g.1.2.2.1.2, if_neg one_ne, cl_b (b := b), a8, h.1.2.2.2.2.1, rd_last h6, cl_l10]
  by_cases y : s (15 + 4 * b.toInt.toNat) = -1
  · rw [if_pos y, if_pos (by rw [y]; decide)]
  · have hy : 0 ≤ (s (15 + 4 * b.toInt.toNat)).toInt := by rw [i32_eq, t_m1] at y; omega
    have e : (s 10 - s (15 + 4 * b.toInt.toNat)).toInt = (s 10).toInt - (s (15 + 4 * b.toInt.toNat)).toInt := sub_toInt (by omega) (by omega)
    rw [if_neg y, if_neg (by rw [i32_lt, t_0]; omega), if_pos (by rw [i32_leq, t_99, e]; omega)]
theorem ShR.word (h : ShR v0 v1 v2 v3 v4 v5 f1 f2 f3 f4 f5 f6 f7 f8 s) (g : Gs s) {b k : Int32} (hb : 0 ≤ b.toInt ∧ b.toInt < (s 3).toInt) (hk : 0 ≤ k.toInt ∧ k.toInt ≤ 12) : dX9_wordOf f1 f3 f4 f5 f6 f7 f8 v0 v2 v3 v4 v5 k b = (wdI s b k.toInt.toNat).toInt64 := by
  have h6 : 0 ≤ b.toInt ∧ b.toInt < 6 := by have := g.1.2.2.1; omega
  have hn : b.toInt.toNat < 6 := by omega
  obtain ⟨a3, a4, a5, a6, a7, -⟩ := h.2.2 _ hn
  have hd := g.1.2.2.2.2.2
  have e1 : (s 10 + 1).toInt = (s 10).toInt + 1 := by rw [ix_k rfl t_1 (by omega)]
  have hs := h.still g
  have hs1 : dX9_stillOn f1 v2 (v4 + 1) = s (36 + ((s 10 + 1) - (s 10 + 1) / s 2 * s 2).toInt.toNat) := by
    rw [h.1.2.2.1, h.1.2.2.2.2.1]
    exact (still_at (fun k hk => (h.2.1 k hk).1) g.1.2.1 (by omega)).1
  have hc : dX9_clockOn v2 v4 = dX12_clock s := by rw [h.1.2.2.1, h.1.2.2.2.2.1]; exact (clk g).2.1
  have hsi := h.since g hb
  have hso : v5 = dX12_soldAll s := by rw [h.1.2.2.2.2.2, sold_eq g]
  unfold dX9_wordOf
  rw [show dX9_hasBuyer v3 b = 1 by rw [h.1.2.2.2.1]; exact hasB hb g.1.2.2.1.2, if_neg one_ne, cl_b (b := b), a3, a4, a5, a6, a7, hs, hs1, hc, hsi, hso, h.1.1, h.1.2.2.2.2.1]
  have hv : k = 0 ∨ k = 1 ∨ k = 2 ∨ k = 3 ∨ k = 4 ∨ k = 5 ∨ k = 6 ∨ k = 7 ∨ k = 8 ∨ k = 9 ∨ k = 10 ∨ k = 11 ∨ k = 12 := by
    have e : ∀ j : Int32, k.toInt = j.toInt → k = j := fun j z => Int32.toInt_inj.mp z
    have : k.toInt = 0 ∨ k.toInt = 1 ∨ k.toInt = 2 ∨ k.toInt = 3 ∨ k.toInt = 4 ∨ k.toInt = 5 ∨ k.toInt = 6 ∨ k.toInt = 7 ∨ k.toInt = 8 ∨ k.toInt = 9 ∨ k.toInt = 10 ∨ k.toInt = 11 ∨ k.toInt = 12 := by omega
    rcases this with z | z | z | z | z | z | z | z | z | z | z | z | z
    · exact Or.inl (e 0 (by rw [z]; decide))
    · exact Or.inr (Or.inl (e 1 (by rw [z]; decide)))
    · exact Or.inr (Or.inr (Or.inl (e 2 (by rw [z]; decide))))
    · exact Or.inr (Or.inr (Or.inr (Or.inl (e 3 (by rw [z]; decide)))))
    · exact Or.inr (Or.inr (Or.inr (Or.inr (Or.inl (e 4 (by rw [z]; decide))))))
    · exact Or.inr (Or.inr (Or.inr (Or.inr (Or.inr (Or.inl (e 5 (by rw [z]; decide)))))))
    · exact Or.inr (Or.inr (Or.inr (Or.inr (Or.inr (Or.inr (Or.inl (e 6 (by rw [z]; decide))))))))
    · exact Or.inr (Or.inr (Or.inr (Or.inr (Or.inr (Or.inr (Or.inr (Or.inl (e 7 (by rw [z]; decide)))))))))
    · exact Or.inr (Or.inr (Or.inr (Or.inr (Or.inr (Or.inr (Or.inr (Or.inr (Or.inl (e 8 (by rw [z]; decide))))))))))
    · exact Or.inr (Or.inr (Or.inr (Or.inr (Or.inr (Or.inr (Or.inr (Or.inr (Or.inr (Or.inl (e 9 (by rw [z]; decide)))))))))))
    · exact Or.inr (Or.inr (Or.inr (Or.inr (Or.inr (Or.inr (Or.inr (Or.inr (Or.inr (Or.inr (Or.inl (e 10 (by rw [z]; decide))))))))))))
    · exact Or.inr (Or.inr (Or.inr (Or.inr (Or.inr (Or.inr (Or.inr (Or.inr (Or.inr (Or.inr (Or.inr (Or.inl (e 11 (by rw [z]; decide)))))))))))))
    · exact Or.inr (Or.inr (Or.inr (Or.inr (Or.inr (Or.inr (Or.inr (Or.inr (Or.inr (Or.inr (Or.inr (Or.inr (e 12 (by rw [z]; decide)))))))))))))
  rcases hv with rfl | rfl | rfl | rfl | rfl | rfl | rfl | rfl | rfl | rfl | rfl | rfl | rfl <;> rfl
end DAYW
