set_option maxRecDepth 16384
/-! the days: the class's shop and the reference's cells, by the functions of their methods -/
def sumB (s : Nat → Int32) : Nat → Int32
  | 0 => 0
  | n + 1 => sumB s n + s (13 + 4 * n)
def ShR (v0 v1 v2 v3 v4 v5 : Int32) (f1 f2 f3 f4 f5 f6 f7 f8 s : Nat → Int32) : Prop := (v0 = s 11 ∧ v1 = s 1 ∧ v2 = s 2 ∧ v3 = s 3 ∧ v4 = s 10 ∧ v5 = sumB s (s 3).toInt.toNat) ∧ (∀ k : Nat, k < 10 → f1 k = s (36 + k) ∧ f2 k = s (46 + k)) ∧ ∀ b : Nat, b < 6 → f3 b = s (12 + 4 * b) ∧ f4 b = s (56 + b) ∧ f5 b = s (62 + b) ∧ f6 b = s (13 + 4 * b) ∧ f7 b = s (14 + 4 * b) ∧ f8 b = s (15 + 4 * b)
/-- what holds of the cells on the first 61 days -/
def Gs (s : Nat → Int32) : Prop := (s 0 = 1 ∧ (1 ≤ (s 2).toInt ∧ (s 2).toInt ≤ 10) ∧ (0 ≤ (s 3).toInt ∧ (s 3).toInt ≤ 6) ∧ (0 ≤ (s 1).toInt ∧ (s 1).toInt ≤ 9) ∧ (0 ≤ (s 11).toInt ∧ (s 11).toInt ≤ 99) ∧ (0 ≤ (s 10).toInt ∧ (s 10).toInt ≤ 61)) ∧ ∀ b : Nat, b < 6 → (0 ≤ (s (12 + 4 * b)).toInt ∧ (s (12 + 4 * b)).toInt ≤ 20) ∧ (-1 ≤ (s (15 + 4 * b)).toInt ∧ (s (15 + 4 * b)).toInt ≤ (s 10).toInt) ∧ (0 ≤ (s (56 + b)).toInt ∧ (s (56 + b)).toInt ≤ 9)
theorem cl_eq {x : Int32} {n : Nat} (h : x.toInt = (n : Int)) : x.toNatClampNeg = n := by
  show x.toInt.toNat = n
  omega
theorem cl_l0 : (0 : Int32).toNatClampNeg = 0 := by decide
theorem cl_l1 : (1 : Int32).toNatClampNeg = 1 := by decide
theorem cl_l2 : (2 : Int32).toNatClampNeg = 2 := by decide
theorem cl_l3 : (3 : Int32).toNatClampNeg = 3 := by decide
theorem cl_l10 : (10 : Int32).toNatClampNeg = 10 := by decide
theorem cl_l11 : (11 : Int32).toNatClampNeg = 11 := by decide
theorem ix_12 {b : Int32} (h : 0 ≤ b.toInt ∧ b.toInt < 6) : ((12 : Int32) + (4 : Int32) * b).toInt = 12 + 4 * b.toInt := by
  have h4 : (4 : Int32).toInt = 4 := by decide
  have h12 : (12 : Int32).toInt = 12 := by decide
  have e1 : ((4 : Int32) * b).toInt = 4 * b.toInt := by rw [mul_toInt (by rw [h4]; omega) (by rw [h4]; omega), h4]
  rw [add_toInt (by rw [h12, e1]; omega) (by rw [h12, e1]; omega), h12, e1]
theorem ix_k {x k : Int32} {n m : Int} (hx : x.toInt = n) (hk : k.toInt = m) (h : -2147483648 ≤ n + m ∧ n + m ≤ 2147483647) : (x + k).toInt = n + m := by
  rw [add_toInt (by rw [hx, hk]; exact h.1) (by rw [hx, hk]; exact h.2), hx, hk]
theorem c12 {b : Int32} (h : 0 ≤ b.toInt ∧ b.toInt < 6) : ((12 : Int32) + (4 : Int32) * b).toNatClampNeg = 12 + 4 * b.toInt.toNat := cl_eq (by rw [ix_12 h]; omega)
theorem c13 {b : Int32} (h : 0 ≤ b.toInt ∧ b.toInt < 6) : ((12 : Int32) + (4 : Int32) * b + (1 : Int32)).toNatClampNeg = 13 + 4 * b.toInt.toNat := cl_eq (by rw [ix_k (ix_12 h) (show (1 : Int32).toInt = 1 by decide) (by omega)]; omega)
theorem c14 {b : Int32} (h : 0 ≤ b.toInt ∧ b.toInt < 6) : ((12 : Int32) + (4 : Int32) * b + (2 : Int32)).toNatClampNeg = 14 + 4 * b.toInt.toNat := cl_eq (by rw [ix_k (ix_12 h) (show (2 : Int32).toInt = 2 by decide) (by omega)]; omega)
theorem c15 {b : Int32} (h : 0 ≤ b.toInt ∧ b.toInt < 6) : ((12 : Int32) + (4 : Int32) * b + (3 : Int32)).toNatClampNeg = 15 + 4 * b.toInt.toNat := cl_eq (by rw [ix_k (ix_12 h) (show (3 : Int32).toInt = 3 by decide) (by omega)]; omega)
theorem c56 {b : Int32} (h : 0 ≤ b.toInt ∧ b.toInt < 6) : ((56 : Int32) + b).toNatClampNeg = 56 + b.toInt.toNat := cl_eq (by rw [ix_k (show (56 : Int32).toInt = 56 by decide) rfl (by omega)]; omega)
theorem c62 {b : Int32} (h : 0 ≤ b.toInt ∧ b.toInt < 6) : ((62 : Int32) + b).toNatClampNeg = 62 + b.toInt.toNat := cl_eq (by rw [ix_k (show (62 : Int32).toInt = 62 by decide) rfl (by omega)]; omega)
theorem c36 {b : Int32} (h : 0 ≤ b.toInt ∧ b.toInt < 10) : ((36 : Int32) + b).toNatClampNeg = 36 + b.toInt.toNat := cl_eq (by rw [ix_k (show (36 : Int32).toInt = 36 by decide) rfl (by omega)]; omega)
theorem c46 {b : Int32} (h : 0 ≤ b.toInt ∧ b.toInt < 10) : ((46 : Int32) + b).toNatClampNeg = 46 + b.toInt.toNat := cl_eq (by rw [ix_k (show (46 : Int32).toInt = 46 by decide) rfl (by omega)]; omega)
theorem cl_b {b : Int32} : b.toNatClampNeg = b.toInt.toNat := rfl
/-! reading the reference's cells -/
theorem rd_temper {s : Nat → Int32} {b : Int32} (h : 0 ≤ b.toInt ∧ b.toInt < 6) : dX12_temperOf s b = s (12 + 4 * b.toInt.toNat) := by unfold dX12_temperOf; rw [c12 h]
theorem rd_bought {s : Nat → Int32} {b : Int32} (h : 0 ≤ b.toInt ∧ b.toInt < 6) : dX12_boughtBy s b = s (13 + 4 * b.toInt.toNat) := by unfold dX12_boughtBy; rw [c13 h]
theorem rd_met {s : Nat → Int32} {b : Int32} (h : 0 ≤ b.toInt ∧ b.toInt < 6) : dX12_metOf s b = s (14 + 4 * b.toInt.toNat) := by unfold dX12_metOf; rw [c14 h]
theorem rd_last {s : Nat → Int32} {b : Int32} (h : 0 ≤ b.toInt ∧ b.toInt < 6) : dX12_lastOf s b = s (15 + 4 * b.toInt.toNat) := by unfold dX12_lastOf; rw [c15 h]
theorem i32_lt {x y : Int32} : x < y ↔ x.toInt < y.toInt := Int32.lt_iff_toInt_lt
theorem i32_leq {x y : Int32} : x ≤ y ↔ x.toInt ≤ y.toInt := Int32.le_iff_toInt_le
theorem i32_eq {x y : Int32} : x = y ↔ x.toInt = y.toInt := Int32.toInt_inj.symm
theorem t_0 : (0 : Int32).toInt = 0 := by decide
theorem t_1 : (1 : Int32).toInt = 1 := by decide
theorem t_m1 : (-1 : Int32).toInt = -1 := by decide
theorem t_6 : (6 : Int32).toInt = 6 := by decide
theorem t_10 : (10 : Int32).toInt = 10 := by decide
theorem t_99 : (99 : Int32).toInt = 99 := by decide
theorem hasB {n b : Int32} (h : 0 ≤ b.toInt ∧ b.toInt < n.toInt) (hn : n.toInt ≤ 6) : dX9_hasBuyer n b = 1 := by
  unfold dX9_hasBuyer
  rw [if_neg (by rw [i32_lt, t_0]; omega), if_neg (by rw [i32_leq]; omega), if_neg (by rw [i32_leq, t_6]; omega)]
theorem one_ne : ¬ (1 : Int32) = (0 : Int32) := by decide
theorem isBk {s : Nat → Int32} (g : Gs s) : dX12_isBook s = 1 := by
  unfold dX12_isBook
  rw [cl_l0, if_pos g.1.1]
/-- the day of the round -/
theorem clk {s : Nat → Int32} (g : Gs s) : dX12_clock s = s 10 - s 10 / s 2 * s 2 ∧ dX9_clockOn (s 2) (s 10) = dX12_clock s ∧ 0 ≤ (dX12_clock s).toInt ∧ (dX12_clock s).toInt < (s 2).toInt ∧ (dX12_clock s).toInt < 10 := by
  have h2 := g.1.2.1
  have h10 := g.1.2.2.2.2.2
  have e : dX12_clock s = s 10 - s 10 / s 2 * s 2 := by
    unfold dX12_clock
    rw [isBk g, if_neg one_ne, cl_l10, cl_l2]
  have hr := rem_bounds (x := s 10) (y := s 2) (by omega)
  rw [← e] at hr
  have h0 := hr.1 h10.1
  refine ⟨e, ?_, h0, hr.2, by omega⟩
  unfold dX9_clockOn
  rw [if_neg (by rw [i32_leq, t_0]; omega), if_neg (by rw [i32_lt, t_0]; omega), e]
theorem still_at {s f1 : Nat → Int32} {d : Int32} (h1 : ∀ k : Nat, k < 10 → f1 k = s (36 + k)) (h2 : 1 ≤ (s 2).toInt ∧ (s 2).toInt ≤ 10) (hd : 0 ≤ d.toInt) : dX9_stillOn f1 (s 2) d = s (36 + (d - d / s 2 * s 2).toInt.toNat) ∧ 0 ≤ (d - d / s 2 * s 2).toInt ∧ (d - d / s 2 * s 2).toInt < 10 := by
  have hr := rem_bounds (x := d) (y := s 2) (by omega)
  have h0 := hr.1 hd
  refine ⟨?_, h0, by omega⟩
  unfold dX9_stillOn
  rw [if_neg (by rw [i32_leq, t_0]; omega), if_pos (by rw [i32_leq, t_0]; omega), if_neg (by rw [i32_leq, t_10]; omega)]
  exact h1 _ (show (d - d / s 2 * s 2).toInt.toNat < 10 by omega)
section DAY
variable {v0 v1 v2 v3 v4 v5 : Int32} {f1 f2 f3 f4 f5 f6 f7 f8 s : Nat → Int32}
theorem ShR.still (h : ShR v0 v1 v2 v3 v4 v5 f1 f2 f3 f4 f5 f6 f7 f8 s) (g : Gs s) : dX9_stillOn f1 v2 v4 = s (36 + (dX12_clock s).toInt.toNat) := by
  have h10 := g.1.2.2.2.2.2
  rw [h.1.2.2.1, h.1.2.2.2.2.1, (clk g).1]
  exact (still_at (fun k hk => (h.2.1 k hk).1) g.1.2.1 h10.1).1
theorem ShR.can (h : ShR v0 v1 v2 v3 v4 v5 f1 f2 f3 f4 f5 f6 f7 f8 s) (g : Gs s) {b : Int32} (hb : 0 ≤ b.toInt ∧ b.toInt < (s 3).toInt) : dX9_canBuy f4 f5 f8 v0 v3 v4 b = dX12_canBuy s b := by
  have h6 : 0 ≤ b.toInt ∧ b.toInt < 6 := by have := g.1.2.2.1; omega
  have hn : b.toInt.toNat < 6 := by omega
  obtain ⟨-, a4, a5, -, -, a8⟩ := h.2.2 _ hn
  have hl := (g.2 _ hn).2.1
  unfold dX9_canBuy dX12_canBuy
  rw [h.1.2.2.2.1, hasB hb g.1.2.2.1.2, if_neg one_ne, cl_b (b := b), a4, a5, a8, h.1.1, h.1.2.2.2.2.1, rd_last h6, c56 h6, c62 h6, cl_l11, cl_l10]
  by_cases z : s (56 + b.toInt.toNat) ≤ s 11
  · rw [if_pos z, if_neg (show ¬ s 11 < s (56 + b.toInt.toNat) by rw [i32_lt]; rw [i32_leq] at z; omega)]
    by_cases y : s (15 + 4 * b.toInt.toNat) = -1
    · rw [if_pos y, if_pos (show s (15 + 4 * b.toInt.toNat) < 0 by rw [y]; decide)]
    · rw [if_neg y, if_neg (show ¬ s (15 + 4 * b.toInt.toNat) < 0 by rw [i32_lt, t_0]; rw [i32_eq, t_m1] at y; omega)]
  · rw [if_neg z, if_pos (by rw [i32_lt]; rw [i32_leq] at z; omega)]
end DAY
/-! the words of a buyer -/
def wdI (s : Nat → Int32) (b : Int32) (k : Nat) : Int32 := if k = 0 then b else if k = 1 then s (12 + 4 * b.toInt.toNat) else if k = 2 then s (56 + b.toInt.toNat) else if k = 3 then s (62 + b.toInt.toNat) else if k = 4 then s (36 + (dX12_clock s).toInt.toNat) else if k = 5 then s (36 + ((s 10 + 1) - (s 10 + 1) / s 2 * s 2).toInt.toNat) else if k = 6 then s 11 else if k = 7 then s (13 + 4 * b.toInt.toNat) else if k = 8 then s (14 + 4 * b.toInt.toNat) else if k = 9 then dX12_sinceOf s b else if k = 10 then dX12_soldAll s else if k = 11 then dX12_clock s else s 10
theorem soldL {s : Nat → Int32} (h3 : 0 ≤ (s 3).toInt ∧ (s 3).toInt ≤ 6) : ∀ (n : Nat) (b a : Int32), 0 ≤ b.toInt → b.toInt ≤ (s 3).toInt → (s 3).toInt - b.toInt < (n : Int) → a = sumB s b.toInt.toNat → (dX12_soldAll_l4 s n b a).2 = sumB s (s 3).toInt.toNat
  | 0, b, a, h0, h1, hn, ha => by omega
  | n + 1, b, a, h0, h1, hn, ha => by
    rw [dX12_soldAll_l4_s, cl_l3]
    by_cases z : s 3 ≤ b
    · rw [if_pos z]
      have e : b.toInt = (s 3).toInt := by rw [i32_leq] at z; omega
      show a = _
      rw [ha, e]
    · rw [if_neg z]
      have hb : b.toInt < (s 3).toInt := by rw [i32_leq] at z; omega
      have e1 : (b + 1).toInt = b.toInt + 1 := by rw [ix_k rfl t_1 (by omega)]
      refine soldL h3 n (b + 1) _ (by omega) (by omega) (by omega) ?_
      rw [rd_bought (by omega), ha, show (b + 1).toInt.toNat = b.toInt.toNat + 1 by omega]
      rfl
theorem sold_eq {s : Nat → Int32} (g : Gs s) : dX12_soldAll s = sumB s (s 3).toInt.toNat := by
  unfold dX12_soldAll
  have h3 := g.1.2.2.1
  refine soldL h3 _ 0 0 (by decide) (by rw [t_0]; omega) ?_ ?_
  · rw [t_0]
    show (s 3).toInt - 0 < (((6 - 0 : Int).toNat + 1 : Nat) : Int)
    omega
  · rw [t_0]; rfl
section DAYW
variable {v0 v1 v2 v3 v4 v5 : Int32} {f1 f2 f3 f4 f5 f6 f7 f8 s : Nat → Int32}
theorem ShR.since (h : ShR v0 v1 v2 v3 v4 v5 f1 f2 f3 f4 f5 f6 f7 f8 s) (g : Gs s) {b : Int32} (hb : 0 ≤ b.toInt ∧ b.toInt < (s 3).toInt) : dX9_daysSince f8 v3 v4 b = dX12_sinceOf s b := by
  have h6 : 0 ≤ b.toInt ∧ b.toInt < 6 := by have := g.1.2.2.1; omega
  have hn : b.toInt.toNat < 6 := by omega
  obtain ⟨-, -, -, -, -, a8⟩ := h.2.2 _ hn
  have hl := (g.2 _ hn).2.1
  have hd := g.1.2.2.2.2.2
  unfold dX9_daysSince dX12_sinceOf
  rw [h.1.2.2.2.1, hasB hb g.1.2.2.1.2, if_neg one_ne, cl_b (b := b), a8, h.1.2.2.2.2.1, rd_last h6, cl_l10]
  by_cases y : s (15 + 4 * b.toInt.toNat) = -1
  · rw [if_pos y, if_pos (by rw [y]; decide)]
  · have hy : 0 ≤ (s (15 + 4 * b.toInt.toNat)).toInt := by rw [i32_eq, t_m1] at y; omega
    have e : (s 10 - s (15 + 4 * b.toInt.toNat)).toInt = (s 10).toInt - (s (15 + 4 * b.toInt.toNat)).toInt := sub_toInt (by omega) (by omega)
    rw [if_neg y, if_neg (by rw [i32_lt, t_0]; omega), if_pos (by rw [i32_leq, t_99, e]; omega)]
theorem ShR.word (h : ShR v0 v1 v2 v3 v4 v5 f1 f2 f3 f4 f5 f6 f7 f8 s) (g : Gs s) {b k : Int32} (hb : 0 ≤ b.toInt ∧ b.toInt < (s 3).toInt) (hk : 0 ≤ k.toInt ∧ k.toInt ≤ 12) : dX9_wordOf f1 f3 f4 f5 f6 f7 f8 v0 v2 v3 v4 v5 k b = (wdI s b k.toInt.toNat).toInt64 := by
  have h6 : 0 ≤ b.toInt ∧ b.toInt < 6 := by have := g.1.2.2.1; omega
  have hn : b.toInt.toNat < 6 := by omega
  obtain ⟨a3, a4, a5, a6, a7, -⟩ := h.2.2 _ hn
  have hd := g.1.2.2.2.2.2
  have e1 : (s 10 + 1).toInt = (s 10).toInt + 1 := by rw [ix_k rfl t_1 (by omega)]
  have hs := h.still g
  have hs1 : dX9_stillOn f1 v2 (v4 + 1) = s (36 + ((s 10 + 1) - (s 10 + 1) / s 2 * s 2).toInt.toNat) := by
    rw [h.1.2.2.1, h.1.2.2.2.2.1]
    exact (still_at (fun k hk => (h.2.1 k hk).1) g.1.2.1 (by omega)).1
  have hc : dX9_clockOn v2 v4 = dX12_clock s := by rw [h.1.2.2.1, h.1.2.2.2.2.1]; exact (clk g).2.1
  have hsi := h.since g hb
  have hso : v5 = dX12_soldAll s := by rw [h.1.2.2.2.2.2, sold_eq g]
  unfold dX9_wordOf
  rw [show dX9_hasBuyer v3 b = 1 by rw [h.1.2.2.2.1]; exact hasB hb g.1.2.2.1.2, if_neg one_ne, cl_b (b := b), a3, a4, a5, a6, a7, hs, hs1, hc, hsi, hso, h.1.1, h.1.2.2.2.2.1]
  have hv : k = 0 ∨ k = 1 ∨ k = 2 ∨ k = 3 ∨ k = 4 ∨ k = 5 ∨ k = 6 ∨ k = 7 ∨ k = 8 ∨ k = 9 ∨ k = 10 ∨ k = 11 ∨ k = 12 := by
    have e : ∀ j : Int32, k.toInt = j.toInt → k = j := fun j z => Int32.toInt_inj.mp z
    have : k.toInt = 0 ∨ k.toInt = 1 ∨ k.toInt = 2 ∨ k.toInt = 3 ∨ k.toInt = 4 ∨ k.toInt = 5 ∨ k.toInt = 6 ∨ k.toInt = 7 ∨ k.toInt = 8 ∨ k.toInt = 9 ∨ k.toInt = 10 ∨ k.toInt = 11 ∨ k.toInt = 12 := by omega
    rcases this with z | z | z | z | z | z | z | z | z | z | z | z | z
    · exact Or.inl (e 0 (by rw [z]; decide))
    · exact Or.inr (Or.inl (e 1 (by rw [z]; decide)))
    · exact Or.inr (Or.inr (Or.inl (e 2 (by rw [z]; decide))))
    · exact Or.inr (Or.inr (Or.inr (Or.inl (e 3 (by rw [z]; decide)))))
    · exact Or.inr (Or.inr (Or.inr (Or.inr (Or.inl (e 4 (by rw [z]; decide))))))
    · exact Or.inr (Or.inr (Or.inr (Or.inr (Or.inr (Or.inl (e 5 (by rw [z]; decide)))))))
    · exact Or.inr (Or.inr (Or.inr (Or.inr (Or.inr (Or.inr (Or.inl (e 6 (by rw [z]; decide))))))))
    · exact Or.inr (Or.inr (Or.inr (Or.inr (Or.inr (Or.inr (Or.inr (Or.inl (e 7 (by rw [z]; decide)))))))))
    · exact Or.inr (Or.inr (Or.inr (Or.inr (Or.inr (Or.inr (Or.inr (Or.inr (Or.inl (e 8 (by rw [z]; decide))))))))))
    · exact Or.inr (Or.inr (Or.inr (Or.inr (Or.inr (Or.inr (Or.inr (Or.inr (Or.inr (Or.inl (e 9 (by rw [z]; decide)))))))))))
    · exact Or.inr (Or.inr (Or.inr (Or.inr (Or.inr (Or.inr (Or.inr (Or.inr (Or.inr (Or.inr (Or.inl (e 10 (by rw [z]; decide))))))))))))
    · exact Or.inr (Or.inr (Or.inr (Or.inr (Or.inr (Or.inr (Or.inr (Or.inr (Or.inr (Or.inr (Or.inr (Or.inl (e 11 (by rw [z]; decide)))))))))))))
    · exact Or.inr (Or.inr (Or.inr (Or.inr (Or.inr (Or.inr (Or.inr (Or.inr (Or.inr (Or.inr (Or.inr (Or.inr (e 12 (by rw [z]; decide)))))))))))))
  rcases hv with rfl | rfl | rfl | rfl | rfl | rfl | rfl | rfl | rfl | rfl | rfl | rfl | rfl <;> rfl
end DAYW
def dX6_holds (x1 : Int32) (w1 : Int64) (w2 : Int64) : Int32 := (if x1 = (-11 : Int32) then (if (lg_cmp w1 w2) ≤ (0 : Int32) then (0 : Int32) else (1 : Int32)) else (if x1 = (-10 : Int32) then (if (lg_cmp w1 w2) < (0 : Int32) then (0 : Int32) else (1 : Int32)) else (if x1 = (-9 : Int32) then (if (lg_cmp w1 w2) = (0 : Int32) then (1 : Int32) else (0 : Int32)) else (if x1 = (-8 : Int32) then (if (0 : Int32) < (lg_cmp w1 w2) then (0 : Int32) else (1 : Int32)) else (if x1 = (-7 : Int32) then (if (0 : Int32) ≤ (lg_cmp w1 w2) then (0 : Int32) else (1 : Int32)) else (if x1 = (-6 : Int32) then (if (lg_cmp w1 (0 : Int64)) = (0 : Int32) then (if (lg_cmp w2 (0 : Int64)) = (0 : Int32) then (0 : Int32) else (1 : Int32)) else (1 : Int32)) else (if x1 = (-5 : Int32) then (if (lg_cmp w1 (0 : Int64)) = (0 : Int32) then (0 : Int32) else (if (lg_cmp w2 (0 : Int64)) = (0 : Int32) then (0 : Int32) else (1 : Int32))) else (0 : Int32))))))))
set_option maxHeartbeats 4000000 in
set_option maxRecDepth 100000 in
theorem ct_dX6_holds (l : Launch) (D : va_G) (tc : Nat → ClassId) (sk : (Nat → Nat) × (Nat → Nat)) (x1 : Int32) (w1 : Int64) (w2 : Int64)  : Ct l yX6_holds cX6_holds 5 (some .boolean) { frames := 0, cells := 0, slots := 0, locals := 0 } D tc sk [.int x1, .long w1, .long w2] [] (fun (v : Option Value) (_ : Unit) => ∃ r : Int32, v = some (.int r) ∧ (((r.toInt = 0 ∨ r.toInt = 1)) ∧ r = (dX6_holds x1 w1 w2))) (fun (_ : Unit) => []) 0 0 := by
  refine Ct.start (by decide) (Nat.le_of_ble_eq_true rfl) (fun p e s m below meth c A ls hx hb hr hlk hin hml hown hts hK hX hP hD hA hl hS => ?_)
  have hl : lv_has ls 5 [(0, .int x1), (1, .long w1), (3, .long w2)] := hl
  refine lv_iload_n hx hb dX6_holds_0 rfl (lv_at hl 0 rfl) ?_
  refine lv_topi (fun x_1 ex_1 => ?_)
  by_cases c_2 : x_1 = -11
  · skip
    subst c_2
    refine lv_tableIn (off := 127) (tgt := 128) hx hb dX6_holds_1 (by decide) (by decide) (by decide) (by decide) ?_
    refine lv_lload_n hx hb dX6_holds_128 rfl (lv_at hl 1 rfl) ?_
    refine lv_lload_n hx hb dX6_holds_129 rfl (lv_at hl 2 rfl) ?_
    refine W.lcmp hx hb dX6_holds_130 ?_
    refine lv_topi (fun x_3 ex_3 => ?_)
    refine lv_if_le (tgt := 138) hx hb dX6_holds_131 (by decide) (fun c_4 => ?_) (fun c_4 => ?_)
    · skip
      have lz_5 : (w1 : Int64).toInt ≤ (w2 : Int64).toInt := by have hc := c_4; rw [ex_3] at hc; exact Int64.le_iff_toInt_le.mp ((lg_cmp_le _ _).mp hc)
      refine lv_iconst (v := 0) hx hb dX6_holds_138 (by decide) ?_
      have hp_6 : ((0 : Int32).toInt = 0 ∨ (0 : Int32).toInt = 1) := by
        have z_1 := Int32.le_iff_toInt_le.mp c_4
        have y_0 : (0 : Int32).toInt = 0 := by decide
        omega
      have hF_7 : (0 : Int32) = (dX6_holds x1 w1 w2) := by
        clear hP hD hS hl
        replace ex_3 := ex_3.symm; subst ex_3
        unfold dX6_holds
        rw [if_pos ex_1.symm, if_pos c_4]
        try rfl
      exact retI (v := 0) hx hb hr hlk (rfl) hP hD hS () ⟨_, rfl, ⟨hp_6, hF_7⟩⟩ [] rfl rfl dX6_holds_139 (Nat.le_of_ble_eq_true rfl) (Nat.le_of_ble_eq_true rfl) rfl
    · skip
      have lz_8 : (w2 : Int64).toInt < (w1 : Int64).toInt := by have hc := c_4; rw [ex_3] at hc; exact Int64.lt_iff_toInt_lt.mp (Int64.not_le.mp (fun z => hc ((lg_cmp_le _ _).mpr z)))
      refine lv_iconst (v := 1) hx hb dX6_holds_134 (by decide) ?_
      refine lv_goto (tgt := 139) hx hb dX6_holds_135 (by decide) ?_
      have hp_9 : ((1 : Int32).toInt = 0 ∨ (1 : Int32).toInt = 1) := by
        have z_1 := Int32.lt_iff_toInt_lt.mp (Int32.not_le.mp c_4)
        have y_0 : (0 : Int32).toInt = 0 := by decide
        have y_1 : (1 : Int32).toInt = 1 := by decide
        have yr : (1 : Int32).toInt = 1 := by decide
        omega
      have hF_10 : (1 : Int32) = (dX6_holds x1 w1 w2) := by
        clear hP hD hS hl
        replace ex_3 := ex_3.symm; subst ex_3
        unfold dX6_holds
        rw [if_pos ex_1.symm, if_neg c_4]
        try rfl
      exact retI (v := 1) hx hb hr hlk (rfl) hP hD hS () ⟨_, rfl, ⟨hp_9, hF_10⟩⟩ [] rfl rfl dX6_holds_139 (Nat.le_of_ble_eq_true rfl) (Nat.le_of_ble_eq_true rfl) rfl
  · skip
    by_cases c_11 : x_1 = -10
    · skip
      subst c_11
      refine lv_tableIn (off := 115) (tgt := 116) hx hb dX6_holds_1 (by decide) (by decide) (by decide) (by decide) ?_
      refine lv_lload_n hx hb dX6_holds_116 rfl (lv_at hl 1 rfl) ?_
      refine lv_lload_n hx hb dX6_holds_117 rfl (lv_at hl 2 rfl) ?_
      refine W.lcmp hx hb dX6_holds_118 ?_
      refine lv_topi (fun x_12 ex_12 => ?_)
      refine lv_if_lt (tgt := 126) hx hb dX6_holds_119 (by decide) (fun c_13 => ?_) (fun c_13 => ?_)
      · skip
        have lz_14 : (w1 : Int64).toInt < (w2 : Int64).toInt := by have hc := c_13; rw [ex_12] at hc; exact Int64.lt_iff_toInt_lt.mp ((lg_cmp_lt _ _).mp hc)
        refine lv_iconst (v := 0) hx hb dX6_holds_126 (by decide) ?_
        have hp_15 : ((0 : Int32).toInt = 0 ∨ (0 : Int32).toInt = 1) := by
          have z_1 := Int32.lt_iff_toInt_lt.mp c_13
          have y_0 : (0 : Int32).toInt = 0 := by decide
          omega
        have hF_16 : (0 : Int32) = (dX6_holds x1 w1 w2) := by
          clear hP hD hS hl
          replace ex_12 := ex_12.symm; subst ex_12
          unfold dX6_holds
          rw [if_neg (fun z => c_2 (ex_1.trans z)), if_pos ex_1.symm, if_pos c_13]
          try rfl
        exact retI (v := 0) hx hb hr hlk (rfl) hP hD hS () ⟨_, rfl, ⟨hp_15, hF_16⟩⟩ [] rfl rfl dX6_holds_127 (Nat.le_of_ble_eq_true rfl) (Nat.le_of_ble_eq_true rfl) rfl
      · skip
        have lz_17 : (w2 : Int64).toInt ≤ (w1 : Int64).toInt := by have hc := c_13; rw [ex_12] at hc; exact Int64.le_iff_toInt_le.mp (Int64.not_lt.mp (fun z => hc ((lg_cmp_lt _ _).mpr z)))
        refine lv_iconst (v := 1) hx hb dX6_holds_122 (by decide) ?_
        refine lv_goto (tgt := 127) hx hb dX6_holds_123 (by decide) ?_
        have hp_18 : ((1 : Int32).toInt = 0 ∨ (1 : Int32).toInt = 1) := by
          have z_1 := Int32.le_iff_toInt_le.mp (Int32.not_lt.mp c_13)
          have y_0 : (0 : Int32).toInt = 0 := by decide
          have y_1 : (1 : Int32).toInt = 1 := by decide
          have yr : (1 : Int32).toInt = 1 := by decide
          omega
        have hF_19 : (1 : Int32) = (dX6_holds x1 w1 w2) := by
          clear hP hD hS hl
          replace ex_12 := ex_12.symm; subst ex_12
          unfold dX6_holds
          rw [if_neg (fun z => c_2 (ex_1.trans z)), if_pos ex_1.symm, if_neg c_13]
          try rfl
        exact retI (v := 1) hx hb hr hlk (rfl) hP hD hS () ⟨_, rfl, ⟨hp_18, hF_19⟩⟩ [] rfl rfl dX6_holds_127 (Nat.le_of_ble_eq_true rfl) (Nat.le_of_ble_eq_true rfl) rfl
    · skip
      by_cases c_20 : x_1 = -9
      · skip
        subst c_20
        refine lv_tableIn (off := 103) (tgt := 104) hx hb dX6_holds_1 (by decide) (by decide) (by decide) (by decide) ?_
        refine lv_lload_n hx hb dX6_holds_104 rfl (lv_at hl 1 rfl) ?_
        refine lv_lload_n hx hb dX6_holds_105 rfl (lv_at hl 2 rfl) ?_
        refine W.lcmp hx hb dX6_holds_106 ?_
        refine lv_topi (fun x_21 ex_21 => ?_)
        refine lv_if_ne (tgt := 114) hx hb dX6_holds_107 (by decide) (fun c_22 => ?_) (fun c_22 => ?_)
        · skip
          refine lv_iconst (v := 0) hx hb dX6_holds_114 (by decide) ?_
          have hp_24 : ((0 : Int32).toInt = 0 ∨ (0 : Int32).toInt = 1) := by
            have z_1 : ¬ (x_21 : Int32).toInt = (0 : Int32).toInt := fun z => c_22 (Int32.toInt_inj.mp z)
            have y_0 : (0 : Int32).toInt = 0 := by decide
            omega
          have hF_25 : (0 : Int32) = (dX6_holds x1 w1 w2) := by
            clear hP hD hS hl
            replace ex_21 := ex_21.symm; subst ex_21
            unfold dX6_holds
            rw [if_neg (fun z => c_2 (ex_1.trans z)), if_neg (fun z => c_11 (ex_1.trans z)), if_pos ex_1.symm, if_neg c_22]
            try rfl
          exact retI (v := 0) hx hb hr hlk (rfl) hP hD hS () ⟨_, rfl, ⟨hp_24, hF_25⟩⟩ [] rfl rfl dX6_holds_115 (Nat.le_of_ble_eq_true rfl) (Nat.le_of_ble_eq_true rfl) rfl
        · skip
          have lz_26 : (w1 : Int64).toInt = (w2 : Int64).toInt := by have hc := c_22; rw [ex_21] at hc; exact congrArg Int64.toInt ((lg_cmp_eq _ _).mp hc)
          refine lv_iconst (v := 1) hx hb dX6_holds_110 (by decide) ?_
          refine lv_goto (tgt := 115) hx hb dX6_holds_111 (by decide) ?_
          have hp_27 : ((1 : Int32).toInt = 0 ∨ (1 : Int32).toInt = 1) := by
            have z_1 := congrArg Int32.toInt c_22
            have y_0 : (0 : Int32).toInt = 0 := by decide
            have y_1 : (1 : Int32).toInt = 1 := by decide
            have yr : (1 : Int32).toInt = 1 := by decide
            omega
          have hF_28 : (1 : Int32) = (dX6_holds x1 w1 w2) := by
            clear hP hD hS hl
            replace ex_21 := ex_21.symm; subst ex_21
            unfold dX6_holds
            rw [if_neg (fun z => c_2 (ex_1.trans z)), if_neg (fun z => c_11 (ex_1.trans z)), if_pos ex_1.symm, if_pos c_22]
            try rfl
          exact retI (v := 1) hx hb hr hlk (rfl) hP hD hS () ⟨_, rfl, ⟨hp_27, hF_28⟩⟩ [] rfl rfl dX6_holds_115 (Nat.le_of_ble_eq_true rfl) (Nat.le_of_ble_eq_true rfl) rfl
      · skip
        by_cases c_29 : x_1 = -8
        · skip
          subst c_29
          refine lv_tableIn (off := 91) (tgt := 92) hx hb dX6_holds_1 (by decide) (by decide) (by decide) (by decide) ?_
          refine lv_lload_n hx hb dX6_holds_92 rfl (lv_at hl 1 rfl) ?_
          refine lv_lload_n hx hb dX6_holds_93 rfl (lv_at hl 2 rfl) ?_
          refine W.lcmp hx hb dX6_holds_94 ?_
          refine lv_topi (fun x_30 ex_30 => ?_)
          refine lv_if_gt (tgt := 102) hx hb dX6_holds_95 (by decide) (fun c_31 => ?_) (fun c_31 => ?_)
          · skip
            have lz_32 : (w2 : Int64).toInt < (w1 : Int64).toInt := by have hc := c_31; rw [ex_30] at hc; exact Int64.lt_iff_toInt_lt.mp ((lg_cmp_gt _ _).mp hc)
            refine lv_iconst (v := 0) hx hb dX6_holds_102 (by decide) ?_
            have hp_33 : ((0 : Int32).toInt = 0 ∨ (0 : Int32).toInt = 1) := by
              have z_1 := Int32.lt_iff_toInt_lt.mp c_31
              have y_0 : (0 : Int32).toInt = 0 := by decide
              omega
            have hF_34 : (0 : Int32) = (dX6_holds x1 w1 w2) := by
              clear hP hD hS hl
              replace ex_30 := ex_30.symm; subst ex_30
              unfold dX6_holds
              rw [if_neg (fun z => c_2 (ex_1.trans z)), if_neg (fun z => c_11 (ex_1.trans z)), if_neg (fun z => c_20 (ex_1.trans z)), if_pos ex_1.symm, if_pos c_31]
              try rfl
            exact retI (v := 0) hx hb hr hlk (rfl) hP hD hS () ⟨_, rfl, ⟨hp_33, hF_34⟩⟩ [] rfl rfl dX6_holds_103 (Nat.le_of_ble_eq_true rfl) (Nat.le_of_ble_eq_true rfl) rfl
          · skip
            have lz_35 : (w1 : Int64).toInt ≤ (w2 : Int64).toInt := by have hc := c_31; rw [ex_30] at hc; exact Int64.le_iff_toInt_le.mp (Int64.not_lt.mp (fun z => hc ((lg_cmp_gt _ _).mpr z)))
            refine lv_iconst (v := 1) hx hb dX6_holds_98 (by decide) ?_
            refine lv_goto (tgt := 103) hx hb dX6_holds_99 (by decide) ?_
            have hp_36 : ((1 : Int32).toInt = 0 ∨ (1 : Int32).toInt = 1) := by
              have z_1 := Int32.le_iff_toInt_le.mp (Int32.not_lt.mp c_31)
              have y_0 : (0 : Int32).toInt = 0 := by decide
              have y_1 : (1 : Int32).toInt = 1 := by decide
              have yr : (1 : Int32).toInt = 1 := by decide
              omega
            have hF_37 : (1 : Int32) = (dX6_holds x1 w1 w2) := by
              clear hP hD hS hl
              replace ex_30 := ex_30.symm; subst ex_30
              unfold dX6_holds
              rw [if_neg (fun z => c_2 (ex_1.trans z)), if_neg (fun z => c_11 (ex_1.trans z)), if_neg (fun z => c_20 (ex_1.trans z)), if_pos ex_1.symm, if_neg c_31]
              try rfl
            exact retI (v := 1) hx hb hr hlk (rfl) hP hD hS () ⟨_, rfl, ⟨hp_36, hF_37⟩⟩ [] rfl rfl dX6_holds_103 (Nat.le_of_ble_eq_true rfl) (Nat.le_of_ble_eq_true rfl) rfl
        · skip
          by_cases c_38 : x_1 = -7
          · skip
            subst c_38
            refine lv_tableIn (off := 79) (tgt := 80) hx hb dX6_holds_1 (by decide) (by decide) (by decide) (by decide) ?_
            refine lv_lload_n hx hb dX6_holds_80 rfl (lv_at hl 1 rfl) ?_
            refine lv_lload_n hx hb dX6_holds_81 rfl (lv_at hl 2 rfl) ?_
            refine W.lcmp hx hb dX6_holds_82 ?_
            refine lv_topi (fun x_39 ex_39 => ?_)
            refine lv_if_ge (tgt := 90) hx hb dX6_holds_83 (by decide) (fun c_40 => ?_) (fun c_40 => ?_)
            · skip
              have lz_41 : (w2 : Int64).toInt ≤ (w1 : Int64).toInt := by have hc := c_40; rw [ex_39] at hc; exact Int64.le_iff_toInt_le.mp ((lg_cmp_ge _ _).mp hc)
              refine lv_iconst (v := 0) hx hb dX6_holds_90 (by decide) ?_
              have hp_42 : ((0 : Int32).toInt = 0 ∨ (0 : Int32).toInt = 1) := by
                have z_1 := Int32.le_iff_toInt_le.mp c_40
                have y_0 : (0 : Int32).toInt = 0 := by decide
                omega
              have hF_43 : (0 : Int32) = (dX6_holds x1 w1 w2) := by
                clear hP hD hS hl
                replace ex_39 := ex_39.symm; subst ex_39
                unfold dX6_holds
                rw [if_neg (fun z => c_2 (ex_1.trans z)), if_neg (fun z => c_11 (ex_1.trans z)), if_neg (fun z => c_20 (ex_1.trans z)), if_neg (fun z => c_29 (ex_1.trans z)), if_pos ex_1.symm, if_pos c_40]
                try rfl
              exact retI (v := 0) hx hb hr hlk (rfl) hP hD hS () ⟨_, rfl, ⟨hp_42, hF_43⟩⟩ [] rfl rfl dX6_holds_91 (Nat.le_of_ble_eq_true rfl) (Nat.le_of_ble_eq_true rfl) rfl
            · skip
              have lz_44 : (w1 : Int64).toInt < (w2 : Int64).toInt := by have hc := c_40; rw [ex_39] at hc; exact Int64.lt_iff_toInt_lt.mp (Int64.not_le.mp (fun z => hc ((lg_cmp_ge _ _).mpr z)))
              refine lv_iconst (v := 1) hx hb dX6_holds_86 (by decide) ?_
              refine lv_goto (tgt := 91) hx hb dX6_holds_87 (by decide) ?_
              have hp_45 : ((1 : Int32).toInt = 0 ∨ (1 : Int32).toInt = 1) := by
                have z_1 := Int32.lt_iff_toInt_lt.mp (Int32.not_le.mp c_40)
                have y_0 : (0 : Int32).toInt = 0 := by decide
                have y_1 : (1 : Int32).toInt = 1 := by decide
                have yr : (1 : Int32).toInt = 1 := by decide
                omega
              have hF_46 : (1 : Int32) = (dX6_holds x1 w1 w2) := by
                clear hP hD hS hl
                replace ex_39 := ex_39.symm; subst ex_39
                unfold dX6_holds
                rw [if_neg (fun z => c_2 (ex_1.trans z)), if_neg (fun z => c_11 (ex_1.trans z)), if_neg (fun z => c_20 (ex_1.trans z)), if_neg (fun z => c_29 (ex_1.trans z)), if_pos ex_1.symm, if_neg c_40]
                try rfl
              exact retI (v := 1) hx hb hr hlk (rfl) hP hD hS () ⟨_, rfl, ⟨hp_45, hF_46⟩⟩ [] rfl rfl dX6_holds_91 (Nat.le_of_ble_eq_true rfl) (Nat.le_of_ble_eq_true rfl) rfl
          · skip
            by_cases c_47 : x_1 = -6
            · skip
              subst c_47
              refine lv_tableIn (off := 61) (tgt := 62) hx hb dX6_holds_1 (by decide) (by decide) (by decide) (by decide) ?_
              refine lv_lload_n hx hb dX6_holds_62 rfl (lv_at hl 1 rfl) ?_
              refine lv_lconst (v := 0) hx hb dX6_holds_63 (by decide) ?_
              refine W.lcmp hx hb dX6_holds_64 ?_
              refine lv_topi (fun x_48 ex_48 => ?_)
              refine lv_if_ne (tgt := 74) hx hb dX6_holds_65 (by decide) (fun c_49 => ?_) (fun c_49 => ?_)
              · skip
                refine lv_iconst (v := 1) hx hb dX6_holds_74 (by decide) ?_
                refine lv_goto (tgt := 79) hx hb dX6_holds_75 (by decide) ?_
                have hp_51 : ((1 : Int32).toInt = 0 ∨ (1 : Int32).toInt = 1) := by
                  have z_1 : ¬ (x_48 : Int32).toInt = (0 : Int32).toInt := fun z => c_49 (Int32.toInt_inj.mp z)
                  have y_0 : (0 : Int32).toInt = 0 := by decide
                  have y_1 : (1 : Int32).toInt = 1 := by decide
                  have yr : (1 : Int32).toInt = 1 := by decide
                  omega
                have hF_52 : (1 : Int32) = (dX6_holds x1 w1 w2) := by
                  clear hP hD hS hl
                  replace ex_48 := ex_48.symm; subst ex_48
                  unfold dX6_holds
                  rw [if_neg (fun z => c_2 (ex_1.trans z)), if_neg (fun z => c_11 (ex_1.trans z)), if_neg (fun z => c_20 (ex_1.trans z)), if_neg (fun z => c_29 (ex_1.trans z)), if_neg (fun z => c_38 (ex_1.trans z)), if_pos ex_1.symm, if_neg c_49]
                  try rfl
                exact retI (v := 1) hx hb hr hlk (rfl) hP hD hS () ⟨_, rfl, ⟨hp_51, hF_52⟩⟩ [] rfl rfl dX6_holds_79 (Nat.le_of_ble_eq_true rfl) (Nat.le_of_ble_eq_true rfl) rfl
              · skip
                have lz_53 : (w1 : Int64).toInt = (0 : Int64).toInt := by have hc := c_49; rw [ex_48] at hc; exact congrArg Int64.toInt ((lg_cmp_eq _ _).mp hc)
                refine lv_lload_n hx hb dX6_holds_68 rfl (lv_at hl 2 rfl) ?_
                refine lv_lconst (v := 0) hx hb dX6_holds_69 (by decide) ?_
                refine W.lcmp hx hb dX6_holds_70 ?_
                refine lv_topi (fun x_54 ex_54 => ?_)
                refine lv_if_eq (tgt := 78) hx hb dX6_holds_71 (by decide) (fun c_55 => ?_) (fun c_55 => ?_)
                · skip
                  have lz_56 : (w2 : Int64).toInt = (0 : Int64).toInt := by have hc := c_55; rw [ex_54] at hc; exact congrArg Int64.toInt ((lg_cmp_eq _ _).mp hc)
                  refine lv_iconst (v := 0) hx hb dX6_holds_78 (by decide) ?_
                  have hp_57 : ((0 : Int32).toInt = 0 ∨ (0 : Int32).toInt = 1) := by
                    have z_1 := congrArg Int32.toInt c_49
                    have z_2 := congrArg Int32.toInt c_55
                    have y_0 : (0 : Int32).toInt = 0 := by decide
                    omega
                  have hF_58 : (0 : Int32) = (dX6_holds x1 w1 w2) := by
                    clear hP hD hS hl
                    replace ex_48 := ex_48.symm; subst ex_48
                    replace ex_54 := ex_54.symm; subst ex_54
                    unfold dX6_holds
                    rw [if_neg (fun z => c_2 (ex_1.trans z)), if_neg (fun z => c_11 (ex_1.trans z)), if_neg (fun z => c_20 (ex_1.trans z)), if_neg (fun z => c_29 (ex_1.trans z)), if_neg (fun z => c_38 (ex_1.trans z)), if_pos ex_1.symm, if_pos c_49, if_pos c_55]
                    try rfl
                  exact retI (v := 0) hx hb hr hlk (rfl) hP hD hS () ⟨_, rfl, ⟨hp_57, hF_58⟩⟩ [] rfl rfl dX6_holds_79 (Nat.le_of_ble_eq_true rfl) (Nat.le_of_ble_eq_true rfl) rfl
                · skip
                  refine lv_iconst (v := 1) hx hb dX6_holds_74 (by decide) ?_
                  refine lv_goto (tgt := 79) hx hb dX6_holds_75 (by decide) ?_
                  have hp_60 : ((1 : Int32).toInt = 0 ∨ (1 : Int32).toInt = 1) := by
                    have z_1 := congrArg Int32.toInt c_49
                    have z_2 : ¬ (x_54 : Int32).toInt = (0 : Int32).toInt := fun z => c_55 (Int32.toInt_inj.mp z)
                    have y_0 : (0 : Int32).toInt = 0 := by decide
                    have y_1 : (1 : Int32).toInt = 1 := by decide
                    have yr : (1 : Int32).toInt = 1 := by decide
                    omega
                  have hF_61 : (1 : Int32) = (dX6_holds x1 w1 w2) := by
                    clear hP hD hS hl
                    replace ex_48 := ex_48.symm; subst ex_48
                    replace ex_54 := ex_54.symm; subst ex_54
                    unfold dX6_holds
                    rw [if_neg (fun z => c_2 (ex_1.trans z)), if_neg (fun z => c_11 (ex_1.trans z)), if_neg (fun z => c_20 (ex_1.trans z)), if_neg (fun z => c_29 (ex_1.trans z)), if_neg (fun z => c_38 (ex_1.trans z)), if_pos ex_1.symm, if_pos c_49, if_neg c_55]
                    try rfl
                  exact retI (v := 1) hx hb hr hlk (rfl) hP hD hS () ⟨_, rfl, ⟨hp_60, hF_61⟩⟩ [] rfl rfl dX6_holds_79 (Nat.le_of_ble_eq_true rfl) (Nat.le_of_ble_eq_true rfl) rfl
            · skip
              by_cases c_62 : x_1 = -5
              · skip
                subst c_62
                refine lv_tableIn (off := 43) (tgt := 44) hx hb dX6_holds_1 (by decide) (by decide) (by decide) (by decide) ?_
                refine lv_lload_n hx hb dX6_holds_44 rfl (lv_at hl 1 rfl) ?_
                refine lv_lconst (v := 0) hx hb dX6_holds_45 (by decide) ?_
                refine W.lcmp hx hb dX6_holds_46 ?_
                refine lv_topi (fun x_63 ex_63 => ?_)
                refine lv_if_eq (tgt := 60) hx hb dX6_holds_47 (by decide) (fun c_64 => ?_) (fun c_64 => ?_)
                · skip
                  have lz_65 : (w1 : Int64).toInt = (0 : Int64).toInt := by have hc := c_64; rw [ex_63] at hc; exact congrArg Int64.toInt ((lg_cmp_eq _ _).mp hc)
                  refine lv_iconst (v := 0) hx hb dX6_holds_60 (by decide) ?_
                  have hp_66 : ((0 : Int32).toInt = 0 ∨ (0 : Int32).toInt = 1) := by
                    have z_1 := congrArg Int32.toInt c_64
                    have y_0 : (0 : Int32).toInt = 0 := by decide
                    omega
                  have hF_67 : (0 : Int32) = (dX6_holds x1 w1 w2) := by
                    clear hP hD hS hl
                    replace ex_63 := ex_63.symm; subst ex_63
                    unfold dX6_holds
                    rw [if_neg (fun z => c_2 (ex_1.trans z)), if_neg (fun z => c_11 (ex_1.trans z)), if_neg (fun z => c_20 (ex_1.trans z)), if_neg (fun z => c_29 (ex_1.trans z)), if_neg (fun z => c_38 (ex_1.trans z)), if_neg (fun z => c_47 (ex_1.trans z)), if_pos ex_1.symm, if_pos c_64]
                    try rfl
                  exact retI (v := 0) hx hb hr hlk (rfl) hP hD hS () ⟨_, rfl, ⟨hp_66, hF_67⟩⟩ [] rfl rfl dX6_holds_61 (Nat.le_of_ble_eq_true rfl) (Nat.le_of_ble_eq_true rfl) rfl
                · skip
                  refine lv_lload_n hx hb dX6_holds_50 rfl (lv_at hl 2 rfl) ?_
                  refine lv_lconst (v := 0) hx hb dX6_holds_51 (by decide) ?_
                  refine W.lcmp hx hb dX6_holds_52 ?_
                  refine lv_topi (fun x_69 ex_69 => ?_)
                  refine lv_if_eq (tgt := 60) hx hb dX6_holds_53 (by decide) (fun c_70 => ?_) (fun c_70 => ?_)
                  · skip
                    have lz_71 : (w2 : Int64).toInt = (0 : Int64).toInt := by have hc := c_70; rw [ex_69] at hc; exact congrArg Int64.toInt ((lg_cmp_eq _ _).mp hc)
                    refine lv_iconst (v := 0) hx hb dX6_holds_60 (by decide) ?_
                    have hp_72 : ((0 : Int32).toInt = 0 ∨ (0 : Int32).toInt = 1) := by
                      have z_1 : ¬ (x_63 : Int32).toInt = (0 : Int32).toInt := fun z => c_64 (Int32.toInt_inj.mp z)
                      have z_2 := congrArg Int32.toInt c_70
                      have y_0 : (0 : Int32).toInt = 0 := by decide
                      omega
                    have hF_73 : (0 : Int32) = (dX6_holds x1 w1 w2) := by
                      clear hP hD hS hl
                      replace ex_63 := ex_63.symm; subst ex_63
                      replace ex_69 := ex_69.symm; subst ex_69
                      unfold dX6_holds
                      rw [if_neg (fun z => c_2 (ex_1.trans z)), if_neg (fun z => c_11 (ex_1.trans z)), if_neg (fun z => c_20 (ex_1.trans z)), if_neg (fun z => c_29 (ex_1.trans z)), if_neg (fun z => c_38 (ex_1.trans z)), if_neg (fun z => c_47 (ex_1.trans z)), if_pos ex_1.symm, if_neg c_64, if_pos c_70]
                      try rfl
                    exact retI (v := 0) hx hb hr hlk (rfl) hP hD hS () ⟨_, rfl, ⟨hp_72, hF_73⟩⟩ [] rfl rfl dX6_holds_61 (Nat.le_of_ble_eq_true rfl) (Nat.le_of_ble_eq_true rfl) rfl
                  · skip
                    refine lv_iconst (v := 1) hx hb dX6_holds_56 (by decide) ?_
                    refine lv_goto (tgt := 61) hx hb dX6_holds_57 (by decide) ?_
                    have hp_75 : ((1 : Int32).toInt = 0 ∨ (1 : Int32).toInt = 1) := by
                      have z_1 : ¬ (x_63 : Int32).toInt = (0 : Int32).toInt := fun z => c_64 (Int32.toInt_inj.mp z)
                      have z_2 : ¬ (x_69 : Int32).toInt = (0 : Int32).toInt := fun z => c_70 (Int32.toInt_inj.mp z)
                      have y_0 : (0 : Int32).toInt = 0 := by decide
                      have y_1 : (1 : Int32).toInt = 1 := by decide
                      have yr : (1 : Int32).toInt = 1 := by decide
                      omega
                    have hF_76 : (1 : Int32) = (dX6_holds x1 w1 w2) := by
                      clear hP hD hS hl
                      replace ex_63 := ex_63.symm; subst ex_63
                      replace ex_69 := ex_69.symm; subst ex_69
                      unfold dX6_holds
                      rw [if_neg (fun z => c_2 (ex_1.trans z)), if_neg (fun z => c_11 (ex_1.trans z)), if_neg (fun z => c_20 (ex_1.trans z)), if_neg (fun z => c_29 (ex_1.trans z)), if_neg (fun z => c_38 (ex_1.trans z)), if_neg (fun z => c_47 (ex_1.trans z)), if_pos ex_1.symm, if_neg c_64, if_neg c_70]
                      try rfl
                    exact retI (v := 1) hx hb hr hlk (rfl) hP hD hS () ⟨_, rfl, ⟨hp_75, hF_76⟩⟩ [] rfl rfl dX6_holds_61 (Nat.le_of_ble_eq_true rfl) (Nat.le_of_ble_eq_true rfl) rfl
              · skip
                have ho_77 : (x_1 : Int32).toInt < -11 ∨ -5 < (x_1 : Int32).toInt := by
                  have z_1 : ¬ (x_1 : Int32).toInt = ((-11) : Int32).toInt := fun z => c_2 (Int32.toInt_inj.mp z)
                  have z_2 : ¬ (x_1 : Int32).toInt = ((-10) : Int32).toInt := fun z => c_11 (Int32.toInt_inj.mp z)
                  have z_3 : ¬ (x_1 : Int32).toInt = ((-9) : Int32).toInt := fun z => c_20 (Int32.toInt_inj.mp z)
                  have z_4 : ¬ (x_1 : Int32).toInt = ((-8) : Int32).toInt := fun z => c_29 (Int32.toInt_inj.mp z)
                  have z_5 : ¬ (x_1 : Int32).toInt = ((-7) : Int32).toInt := fun z => c_38 (Int32.toInt_inj.mp z)
                  have z_6 : ¬ (x_1 : Int32).toInt = ((-6) : Int32).toInt := fun z => c_47 (Int32.toInt_inj.mp z)
                  have z_7 : ¬ (x_1 : Int32).toInt = ((-5) : Int32).toInt := fun z => c_62 (Int32.toInt_inj.mp z)
                  have y_m11 : (-11 : Int32).toInt = -11 := by decide
                  have y_m10 : (-10 : Int32).toInt = -10 := by decide
                  have y_m9 : (-9 : Int32).toInt = -9 := by decide
                  have y_m8 : (-8 : Int32).toInt = -8 := by decide
                  have y_m7 : (-7 : Int32).toInt = -7 := by decide
                  have y_m6 : (-6 : Int32).toInt = -6 := by decide
                  have y_m5 : (-5 : Int32).toInt = -5 := by decide
                  omega
                refine lv_tableOut (tgt := 140) hx hb dX6_holds_1 ho_77 (by decide) ?_
                refine lv_iconst (v := 0) hx hb dX6_holds_140 (by decide) ?_
                have hp_78 : ((0 : Int32).toInt = 0 ∨ (0 : Int32).toInt = 1) := by
                  have z_1 : ¬ (x_1 : Int32).toInt = ((-11) : Int32).toInt := fun z => c_2 (Int32.toInt_inj.mp z)
                  have z_2 : ¬ (x_1 : Int32).toInt = ((-10) : Int32).toInt := fun z => c_11 (Int32.toInt_inj.mp z)
                  have z_3 : ¬ (x_1 : Int32).toInt = ((-9) : Int32).toInt := fun z => c_20 (Int32.toInt_inj.mp z)
                  have z_4 : ¬ (x_1 : Int32).toInt = ((-8) : Int32).toInt := fun z => c_29 (Int32.toInt_inj.mp z)
                  have z_5 : ¬ (x_1 : Int32).toInt = ((-7) : Int32).toInt := fun z => c_38 (Int32.toInt_inj.mp z)
                  have z_6 : ¬ (x_1 : Int32).toInt = ((-6) : Int32).toInt := fun z => c_47 (Int32.toInt_inj.mp z)
                  have z_7 : ¬ (x_1 : Int32).toInt = ((-5) : Int32).toInt := fun z => c_62 (Int32.toInt_inj.mp z)
                  have y_m11 : (-11 : Int32).toInt = -11 := by decide
                  have y_m10 : (-10 : Int32).toInt = -10 := by decide
                  have y_m9 : (-9 : Int32).toInt = -9 := by decide
                  have y_m8 : (-8 : Int32).toInt = -8 := by decide
                  have y_m7 : (-7 : Int32).toInt = -7 := by decide
                  have y_m6 : (-6 : Int32).toInt = -6 := by decide
                  have y_m5 : (-5 : Int32).toInt = -5 := by decide
                  have y_0 : (0 : Int32).toInt = 0 := by decide
                  have yr : (0 : Int32).toInt = 0 := by decide
                  omega
                have hF_79 : (0 : Int32) = (dX6_holds x1 w1 w2) := by
                  clear hP hD hS hl
                  replace ex_1 := ex_1.symm; subst ex_1
                  unfold dX6_holds
                  rw [if_neg c_2, if_neg c_11, if_neg c_20, if_neg c_29, if_neg c_38, if_neg c_47, if_neg c_62]
                  try rfl
                exact retI (v := 0) hx hb hr hlk (rfl) hP hD hS () ⟨_, rfl, ⟨hp_78, hF_79⟩⟩ [] rfl rfl dX6_holds_141 (Nat.le_of_ble_eq_true rfl) (Nat.le_of_ble_eq_true rfl) rfl
def dX6_joined (x1 : Int32) (w1 : Int64) (w2 : Int64) : Int64 := (if x1 = (-16 : Int32) then (if (lg_cmp w2 (0 : Int64)) = (0 : Int32) then (0 : Int64) else (w1 - w1 / w2 * w2)) else (if x1 = (-15 : Int32) then (if (lg_cmp w2 (0 : Int64)) = (0 : Int32) then (0 : Int64) else (w1 / w2)) else (if x1 = (-14 : Int32) then (w1 * w2) else (if x1 = (-13 : Int32) then (w1 - w2) else (if x1 = (-12 : Int32) then (w1 + w2) else (if (dX6_holds x1 w1 w2) = (0 : Int32) then (0 : Int64) else (1 : Int64)))))))
set_option maxHeartbeats 4000000 in
set_option maxRecDepth 100000 in
theorem ct_dX6_joined (l : Launch) (D : va_G) (tc : Nat → ClassId) (sk : (Nat → Nat) × (Nat → Nat)) (x1 : Int32) (w1 : Int64) (w2 : Int64)  : Ct l yX6_joined cX6_joined 5 (some .long) { frames := 1, cells := 0, slots := 0, locals := 24 } D tc sk [.int x1, .long w1, .long w2] [] (fun (v : Option Value) (_ : Unit) => ∃ r : Int64, v = some (.long r) ∧ ((True) ∧ r = (dX6_joined x1 w1 w2))) (fun (_ : Unit) => []) 0 0 := by
  refine Ct.start (by decide) (Nat.le_of_ble_eq_true rfl) (fun p e s m below meth c A ls hx hb hr hlk hin hml hown hts hK hX hP hD hA hl hS => ?_)
  have hl : lv_has ls 5 [(0, .int x1), (1, .long w1), (3, .long w2)] := hl
  refine lv_iload_n hx hb dX6_joined_0 rfl (lv_at hl 0 rfl) ?_
  refine lv_topi (fun x_1 ex_1 => ?_)
  by_cases c_2 : x_1 = -16
  · skip
    subst c_2
    refine lv_tableIn (off := 61) (tgt := 62) hx hb dX6_joined_1 (by decide) (by decide) (by decide) (by decide) ?_
    refine lv_lload_n hx hb dX6_joined_62 rfl (lv_at hl 2 rfl) ?_
    refine lv_lconst (v := 0) hx hb dX6_joined_63 (by decide) ?_
    refine W.lcmp hx hb dX6_joined_64 ?_
    refine lv_topi (fun x_3 ex_3 => ?_)
    refine lv_if_ne (tgt := 72) hx hb dX6_joined_65 (by decide) (fun c_4 => ?_) (fun c_4 => ?_)
    · skip
      refine lv_lload_n hx hb dX6_joined_72 rfl (lv_at hl 1 rfl) ?_
      refine lv_lload_n hx hb dX6_joined_73 rfl (lv_at hl 2 rfl) ?_
      have hz_6 : ¬ w2 = 0 := fun z => c_4 (ex_3.trans ((lg_cmp_eq _ _).mpr z))
      refine lv_lrem hx hb dX6_joined_74 hz_6 ?_
      refine lv_topl (fun x_7 ex_7 => ?_)
      have hF_8 : x_7 = (dX6_joined x1 w1 w2) := by
        clear hP hD hS hl
        replace ex_3 := ex_3.symm; subst ex_3
        replace ex_7 := ex_7.symm; subst ex_7
        unfold dX6_joined
        rw [if_pos ex_1.symm, if_neg c_4]
        try rfl
      exact retL (v := x_7) hx hb hr hlk hP hD hS () ⟨_, rfl, ⟨trivial, hF_8⟩⟩ [] rfl rfl dX6_joined_75 (Nat.le_of_ble_eq_true rfl) (Nat.le_of_ble_eq_true rfl) rfl
    · skip
      have lz_9 : (w2 : Int64).toInt = (0 : Int64).toInt := by have hc := c_4; rw [ex_3] at hc; exact congrArg Int64.toInt ((lg_cmp_eq _ _).mp hc)
      refine lv_lconst (v := 0) hx hb dX6_joined_68 (by decide) ?_
      refine lv_goto (tgt := 75) hx hb dX6_joined_69 (by decide) ?_
      have hF_10 : (0 : Int64) = (dX6_joined x1 w1 w2) := by
        clear hP hD hS hl
        replace ex_3 := ex_3.symm; subst ex_3
        unfold dX6_joined
        rw [if_pos ex_1.symm, if_pos c_4]
        try rfl
      exact retL (v := 0) hx hb hr hlk hP hD hS () ⟨_, rfl, ⟨trivial, hF_10⟩⟩ [] rfl rfl dX6_joined_75 (Nat.le_of_ble_eq_true rfl) (Nat.le_of_ble_eq_true rfl) rfl
  · skip
    by_cases c_11 : x_1 = -15
    · skip
      subst c_11
      refine lv_tableIn (off := 47) (tgt := 48) hx hb dX6_joined_1 (by decide) (by decide) (by decide) (by decide) ?_
      refine lv_lload_n hx hb dX6_joined_48 rfl (lv_at hl 2 rfl) ?_
      refine lv_lconst (v := 0) hx hb dX6_joined_49 (by decide) ?_
      refine W.lcmp hx hb dX6_joined_50 ?_
      refine lv_topi (fun x_12 ex_12 => ?_)
      refine lv_if_ne (tgt := 58) hx hb dX6_joined_51 (by decide) (fun c_13 => ?_) (fun c_13 => ?_)
      · skip
        refine lv_lload_n hx hb dX6_joined_58 rfl (lv_at hl 1 rfl) ?_
        refine lv_lload_n hx hb dX6_joined_59 rfl (lv_at hl 2 rfl) ?_
        have hz_15 : ¬ w2 = 0 := fun z => c_13 (ex_12.trans ((lg_cmp_eq _ _).mpr z))
        refine lv_ldiv hx hb dX6_joined_60 hz_15 ?_
        refine lv_topl (fun x_16 ex_16 => ?_)
        have hF_17 : x_16 = (dX6_joined x1 w1 w2) := by
          clear hP hD hS hl
          replace ex_12 := ex_12.symm; subst ex_12
          replace ex_16 := ex_16.symm; subst ex_16
          unfold dX6_joined
          rw [if_neg (fun z => c_2 (ex_1.trans z)), if_pos ex_1.symm, if_neg c_13]
          try rfl
        exact retL (v := x_16) hx hb hr hlk hP hD hS () ⟨_, rfl, ⟨trivial, hF_17⟩⟩ [] rfl rfl dX6_joined_61 (Nat.le_of_ble_eq_true rfl) (Nat.le_of_ble_eq_true rfl) rfl
      · skip
        have lz_18 : (w2 : Int64).toInt = (0 : Int64).toInt := by have hc := c_13; rw [ex_12] at hc; exact congrArg Int64.toInt ((lg_cmp_eq _ _).mp hc)
        refine lv_lconst (v := 0) hx hb dX6_joined_54 (by decide) ?_
        refine lv_goto (tgt := 61) hx hb dX6_joined_55 (by decide) ?_
        have hF_19 : (0 : Int64) = (dX6_joined x1 w1 w2) := by
          clear hP hD hS hl
          replace ex_12 := ex_12.symm; subst ex_12
          unfold dX6_joined
          rw [if_neg (fun z => c_2 (ex_1.trans z)), if_pos ex_1.symm, if_pos c_13]
          try rfl
        exact retL (v := 0) hx hb hr hlk hP hD hS () ⟨_, rfl, ⟨trivial, hF_19⟩⟩ [] rfl rfl dX6_joined_61 (Nat.le_of_ble_eq_true rfl) (Nat.le_of_ble_eq_true rfl) rfl
    · skip
      by_cases c_20 : x_1 = -14
      · skip
        subst c_20
        refine lv_tableIn (off := 43) (tgt := 44) hx hb dX6_joined_1 (by decide) (by decide) (by decide) (by decide) ?_
        refine lv_lload_n hx hb dX6_joined_44 rfl (lv_at hl 1 rfl) ?_
        refine lv_lload_n hx hb dX6_joined_45 rfl (lv_at hl 2 rfl) ?_
        refine lv_lmul hx hb dX6_joined_46 ?_
        refine lv_topl (fun x_21 ex_21 => ?_)
        have hF_22 : x_21 = (dX6_joined x1 w1 w2) := by
          clear hP hD hS hl
          replace ex_21 := ex_21.symm; subst ex_21
          unfold dX6_joined
          rw [if_neg (fun z => c_2 (ex_1.trans z)), if_neg (fun z => c_11 (ex_1.trans z)), if_pos ex_1.symm]
          try rfl
        exact retL (v := x_21) hx hb hr hlk hP hD hS () ⟨_, rfl, ⟨trivial, hF_22⟩⟩ [] rfl rfl dX6_joined_47 (Nat.le_of_ble_eq_true rfl) (Nat.le_of_ble_eq_true rfl) rfl
      · skip
        by_cases c_23 : x_1 = -13
        · skip
          subst c_23
          refine lv_tableIn (off := 39) (tgt := 40) hx hb dX6_joined_1 (by decide) (by decide) (by decide) (by decide) ?_
          refine lv_lload_n hx hb dX6_joined_40 rfl (lv_at hl 1 rfl) ?_
          refine lv_lload_n hx hb dX6_joined_41 rfl (lv_at hl 2 rfl) ?_
          refine lv_lsub hx hb dX6_joined_42 ?_
          refine lv_topl (fun x_24 ex_24 => ?_)
          have hF_25 : x_24 = (dX6_joined x1 w1 w2) := by
            clear hP hD hS hl
            replace ex_24 := ex_24.symm; subst ex_24
            unfold dX6_joined
            rw [if_neg (fun z => c_2 (ex_1.trans z)), if_neg (fun z => c_11 (ex_1.trans z)), if_neg (fun z => c_20 (ex_1.trans z)), if_pos ex_1.symm]
            try rfl
          exact retL (v := x_24) hx hb hr hlk hP hD hS () ⟨_, rfl, ⟨trivial, hF_25⟩⟩ [] rfl rfl dX6_joined_43 (Nat.le_of_ble_eq_true rfl) (Nat.le_of_ble_eq_true rfl) rfl
        · skip
          by_cases c_26 : x_1 = -12
          · skip
            subst c_26
            refine lv_tableIn (off := 35) (tgt := 36) hx hb dX6_joined_1 (by decide) (by decide) (by decide) (by decide) ?_
            refine lv_lload_n hx hb dX6_joined_36 rfl (lv_at hl 1 rfl) ?_
            refine lv_lload_n hx hb dX6_joined_37 rfl (lv_at hl 2 rfl) ?_
            refine lv_ladd hx hb dX6_joined_38 ?_
            refine lv_topl (fun x_27 ex_27 => ?_)
            have hF_28 : x_27 = (dX6_joined x1 w1 w2) := by
              clear hP hD hS hl
              replace ex_27 := ex_27.symm; subst ex_27
              unfold dX6_joined
              rw [if_neg (fun z => c_2 (ex_1.trans z)), if_neg (fun z => c_11 (ex_1.trans z)), if_neg (fun z => c_20 (ex_1.trans z)), if_neg (fun z => c_23 (ex_1.trans z)), if_pos ex_1.symm]
              try rfl
            exact retL (v := x_27) hx hb hr hlk hP hD hS () ⟨_, rfl, ⟨trivial, hF_28⟩⟩ [] rfl rfl dX6_joined_39 (Nat.le_of_ble_eq_true rfl) (Nat.le_of_ble_eq_true rfl) rfl
          · skip
            have ho_29 : (x_1 : Int32).toInt < -16 ∨ -12 < (x_1 : Int32).toInt := by
              have z_1 : ¬ (x_1 : Int32).toInt = ((-16) : Int32).toInt := fun z => c_2 (Int32.toInt_inj.mp z)
              have z_2 : ¬ (x_1 : Int32).toInt = ((-15) : Int32).toInt := fun z => c_11 (Int32.toInt_inj.mp z)
              have z_3 : ¬ (x_1 : Int32).toInt = ((-14) : Int32).toInt := fun z => c_20 (Int32.toInt_inj.mp z)
              have z_4 : ¬ (x_1 : Int32).toInt = ((-13) : Int32).toInt := fun z => c_23 (Int32.toInt_inj.mp z)
              have z_5 : ¬ (x_1 : Int32).toInt = ((-12) : Int32).toInt := fun z => c_26 (Int32.toInt_inj.mp z)
              have y_m16 : (-16 : Int32).toInt = -16 := by decide
              have y_m15 : (-15 : Int32).toInt = -15 := by decide
              have y_m14 : (-14 : Int32).toInt = -14 := by decide
              have y_m13 : (-13 : Int32).toInt = -13 := by decide
              have y_m12 : (-12 : Int32).toInt = -12 := by decide
              omega
            refine lv_tableOut (tgt := 76) hx hb dX6_joined_1 ho_29 (by decide) ?_
            refine lv_iload_n hx hb dX6_joined_76 rfl (lv_at hl 0 rfl) ?_
            refine lv_lload_n hx hb dX6_joined_77 rfl (lv_at hl 1 rfl) ?_
            refine lv_lload_n hx hb dX6_joined_78 rfl (lv_at hl 2 rfl) ?_
            refine cS (As := [.int x1, .long w1, .long w2]) (rest := []) (wr := []) ⟨hx, hb, hml, hown, hts⟩ hK hX hA (ct_dX6_holds l D tc sk x1 w1 w2) k_768 k_766 k_767 k_112 pl_X6_holds ⟨Nat.le_of_ble_eq_true rfl, Nat.le_of_ble_eq_true rfl⟩ rfl rfl  hP hD hS [] [] rfl rfl rfl rfl rfl (by decide) rfl hl.1 rfl (Nat.le_of_ble_eq_true rfl) dX6_joined_79 ⟨Nat.le_of_ble_eq_true rfl, Nat.le_of_ble_eq_true rfl⟩ (fun v_30 u_31 H locs hv_32 hP₀ hD₀ hS₀ => ?_)
            obtain ⟨r_33, rfl, he_34⟩ := hv_32
            have he_34 : ((r_33.toInt = 0 ∨ r_33.toInt = 1)) ∧ r_33 = (dX6_holds x1 w1 w2) := he_34
            refine W.eq (g2 := F0 m 82 ls [.int r_33]) rfl ?_
            replace hP : va_P D classes [] H := hP₀
            replace hD : va_D A [] := hD₀
            replace hS := hS₀
            clear hP₀ hD₀ hS₀
            obtain ⟨he_34, hq_36⟩ := he_34
            have er_33 : r_33 = (dX6_holds x1 w1 w2) := hq_36
            refine lv_if_eq (tgt := 89) hx hb dX6_joined_82 (by decide) (fun c_37 => ?_) (fun c_37 => ?_)
            · skip
              refine lv_lconst (v := 0) hx hb dX6_joined_89 (by decide) ?_
              have hF_38 : (0 : Int64) = (dX6_joined x1 w1 w2) := by
                clear hP hD hS hl
                replace ex_1 := ex_1.symm; subst ex_1
                replace er_33 := er_33.symm; subst er_33
                unfold dX6_joined
                rw [if_neg c_2, if_neg c_11, if_neg c_20, if_neg c_23, if_neg c_26, if_pos c_37]
                try rfl
              exact retL (v := 0) hx hb hr hlk hP hD hS () ⟨_, rfl, ⟨trivial, hF_38⟩⟩ [] rfl rfl dX6_joined_90 (Nat.le_of_ble_eq_true rfl) (Nat.le_of_ble_eq_true rfl) rfl
            · skip
              refine lv_lconst (v := 1) hx hb dX6_joined_85 (by decide) ?_
              refine lv_goto (tgt := 90) hx hb dX6_joined_86 (by decide) ?_
              have hF_39 : (1 : Int64) = (dX6_joined x1 w1 w2) := by
                clear hP hD hS hl
                replace ex_1 := ex_1.symm; subst ex_1
                replace er_33 := er_33.symm; subst er_33
                unfold dX6_joined
                rw [if_neg c_2, if_neg c_11, if_neg c_20, if_neg c_23, if_neg c_26, if_neg c_37]
                try rfl
              exact retL (v := 1) hx hb hr hlk hP hD hS () ⟨_, rfl, ⟨trivial, hF_39⟩⟩ [] rfl rfl dX6_joined_90 (Nat.le_of_ble_eq_true rfl) (Nat.le_of_ble_eq_true rfl) rfl
def dX6_sumFor_l5 (Af_1 : Nat → Int32) (Af_3 : Nat → Int32) (Af_4 : Nat → Int32) (Af_5 : Nat → Int32) (Af_6 : Nat → Int32) (Af_7 : Nat → Int32) (Af_8 : Nat → Int32) (Av_0 : Int32) (Av_2 : Int32) (Av_3 : Int32) (Av_4 : Int32) (Av_5 : Int32) (Rf_1 : Nat → Int32) (Rn : Nat) (zz_602 : Int32) : Nat → Int32 → Int32 → (Nat → Int64) → Int32 × Int64 × Int32 × Int32 × (Nat → Int64)
  | 0, _, _, _ => (0, 0, 0, 0, (fun _ => 0))
  | n + 1, yy_600, yy_601, yy_602 => (if (nI Rn) ≤ yy_600 then ((0 : Int32), (0 : Int64), yy_600, yy_601, yy_602) else (if (Rf_1 (yy_600).toNatClampNeg) < (0 : Int32) then (if (Rf_1 (yy_600).toNatClampNeg) = (-2 : Int32) then (if yy_601 < (1 : Int32) then ((1 : Int32), (0 : Int64), yy_600, yy_601, yy_602) else (if (64 : Int32) < yy_601 then ((1 : Int32), (0 : Int64), yy_600, yy_601, yy_602) else ((1 : Int32), (yy_602 ((yy_601 - (1 : Int32))).toNatClampNeg), yy_600, yy_601, yy_602))) else (if (Rf_1 (yy_600).toNatClampNeg) = (-4 : Int32) then (if yy_601 < (1 : Int32) then dX6_sumFor_l5 Af_1 Af_3 Af_4 Af_5 Af_6 Af_7 Af_8 Av_0 Av_2 Av_3 Av_4 Av_5 Rf_1 Rn zz_602 n (yy_600 + 1) yy_601 yy_602 else (if (64 : Int32) < yy_601 then dX6_sumFor_l5 Af_1 Af_3 Af_4 Af_5 Af_6 Af_7 Af_8 Av_0 Av_2 Av_3 Av_4 Av_5 Rf_1 Rn zz_602 n (yy_600 + 1) yy_601 yy_602 else (if (lg_cmp (yy_602 ((yy_601 - (1 : Int32))).toNatClampNeg) (0 : Int64)) = (0 : Int32) then dX6_sumFor_l5 Af_1 Af_3 Af_4 Af_5 Af_6 Af_7 Af_8 Av_0 Av_2 Av_3 Av_4 Av_5 Rf_1 Rn zz_602 n (yy_600 + 1) yy_601 (vp_updL yy_602 ((yy_601 - (1 : Int32))).toNatClampNeg (1 : Int64)) else dX6_sumFor_l5 Af_1 Af_3 Af_4 Af_5 Af_6 Af_7 Af_8 Av_0 Av_2 Av_3 Av_4 Av_5 Rf_1 Rn zz_602 n (yy_600 + 1) yy_601 (vp_updL yy_602 ((yy_601 - (1 : Int32))).toNatClampNeg (0 : Int64))))) else (if yy_601 < (2 : Int32) then ((1 : Int32), (0 : Int64), yy_600, yy_601, yy_602) else (if yy_601 ≤ (64 : Int32) then (if (Rf_1 (yy_600).toNatClampNeg) = (-3 : Int32) then (if (lg_cmp (yy_602 ((yy_601 - (1 : Int32))).toNatClampNeg) (0 : Int64)) = (0 : Int32) then dX6_sumFor_l5 Af_1 Af_3 Af_4 Af_5 Af_6 Af_7 Af_8 Av_0 Av_2 Av_3 Av_4 Av_5 Rf_1 Rn zz_602 n (yy_600 + 1) (yy_601 + (-2)) yy_602 else ((1 : Int32), (yy_602 ((yy_601 - (2 : Int32))).toNatClampNeg), yy_600, yy_601, yy_602)) else dX6_sumFor_l5 Af_1 Af_3 Af_4 Af_5 Af_6 Af_7 Af_8 Av_0 Av_2 Av_3 Av_4 Av_5 Rf_1 Rn zz_602 n (yy_600 + 1) (yy_601 + (-1)) (vp_updL yy_602 ((yy_601 - (2 : Int32))).toNatClampNeg (dX6_joined (Rf_1 (yy_600).toNatClampNeg) (yy_602 ((yy_601 - (2 : Int32))).toNatClampNeg) (yy_602 ((yy_601 - (1 : Int32))).toNatClampNeg)))) else ((1 : Int32), (0 : Int64), yy_600, yy_601, yy_602))))) else (if yy_601 < (0 : Int32) then ((1 : Int32), (0 : Int64), yy_600, yy_601, yy_602) else (if yy_601 < (64 : Int32) then (if (100000 : Int32) ≤ (Rf_1 (yy_600).toNatClampNeg) then dX6_sumFor_l5 Af_1 Af_3 Af_4 Af_5 Af_6 Af_7 Af_8 Av_0 Av_2 Av_3 Av_4 Av_5 Rf_1 Rn zz_602 n (yy_600 + 1) (yy_601 + 1) (vp_updL yy_602 (yy_601).toNatClampNeg (dX9_wordOf Af_1 Af_3 Af_4 Af_5 Af_6 Af_7 Af_8 Av_0 Av_2 Av_3 Av_4 Av_5 ((Rf_1 (yy_600).toNatClampNeg) - (100000 : Int32)) zz_602)) else dX6_sumFor_l5 Af_1 Af_3 Af_4 Af_5 Af_6 Af_7 Af_8 Av_0 Av_2 Av_3 Av_4 Av_5 Rf_1 Rn zz_602 n (yy_600 + 1) (yy_601 + 1) (vp_updL yy_602 (yy_601).toNatClampNeg ((Rf_1 (yy_600).toNatClampNeg)).toInt64)) else ((1 : Int32), (0 : Int64), yy_600, yy_601, yy_602)))))
theorem dX6_sumFor_l5_s {Af_1 : Nat → Int32} {Af_3 : Nat → Int32} {Af_4 : Nat → Int32} {Af_5 : Nat → Int32} {Af_6 : Nat → Int32} {Af_7 : Nat → Int32} {Af_8 : Nat → Int32} {Av_0 : Int32} {Av_2 : Int32} {Av_3 : Int32} {Av_4 : Int32} {Av_5 : Int32} {Rf_1 : Nat → Int32} {Rn : Nat} {zz_602 : Int32} {n : Nat} {yy_600 : Int32} {yy_601 : Int32} {yy_602 : Nat → Int64} : dX6_sumFor_l5 Af_1 Af_3 Af_4 Af_5 Af_6 Af_7 Af_8 Av_0 Av_2 Av_3 Av_4 Av_5 Rf_1 Rn zz_602 (n + 1) yy_600 yy_601 yy_602 = (if (nI Rn) ≤ yy_600 then ((0 : Int32), (0 : Int64), yy_600, yy_601, yy_602) else (if (Rf_1 (yy_600).toNatClampNeg) < (0 : Int32) then (if (Rf_1 (yy_600).toNatClampNeg) = (-2 : Int32) then (if yy_601 < (1 : Int32) then ((1 : Int32), (0 : Int64), yy_600, yy_601, yy_602) else (if (64 : Int32) < yy_601 then ((1 : Int32), (0 : Int64), yy_600, yy_601, yy_602) else ((1 : Int32), (yy_602 ((yy_601 - (1 : Int32))).toNatClampNeg), yy_600, yy_601, yy_602))) else (if (Rf_1 (yy_600).toNatClampNeg) = (-4 : Int32) then (if yy_601 < (1 : Int32) then dX6_sumFor_l5 Af_1 Af_3 Af_4 Af_5 Af_6 Af_7 Af_8 Av_0 Av_2 Av_3 Av_4 Av_5 Rf_1 Rn zz_602 n (yy_600 + 1) yy_601 yy_602 else (if (64 : Int32) < yy_601 then dX6_sumFor_l5 Af_1 Af_3 Af_4 Af_5 Af_6 Af_7 Af_8 Av_0 Av_2 Av_3 Av_4 Av_5 Rf_1 Rn zz_602 n (yy_600 + 1) yy_601 yy_602 else (if (lg_cmp (yy_602 ((yy_601 - (1 : Int32))).toNatClampNeg) (0 : Int64)) = (0 : Int32) then dX6_sumFor_l5 Af_1 Af_3 Af_4 Af_5 Af_6 Af_7 Af_8 Av_0 Av_2 Av_3 Av_4 Av_5 Rf_1 Rn zz_602 n (yy_600 + 1) yy_601 (vp_updL yy_602 ((yy_601 - (1 : Int32))).toNatClampNeg (1 : Int64)) else dX6_sumFor_l5 Af_1 Af_3 Af_4 Af_5 Af_6 Af_7 Af_8 Av_0 Av_2 Av_3 Av_4 Av_5 Rf_1 Rn zz_602 n (yy_600 + 1) yy_601 (vp_updL yy_602 ((yy_601 - (1 : Int32))).toNatClampNeg (0 : Int64))))) else (if yy_601 < (2 : Int32) then ((1 : Int32), (0 : Int64), yy_600, yy_601, yy_602) else (if yy_601 ≤ (64 : Int32) then (if (Rf_1 (yy_600).toNatClampNeg) = (-3 : Int32) then (if (lg_cmp (yy_602 ((yy_601 - (1 : Int32))).toNatClampNeg) (0 : Int64)) = (0 : Int32) then dX6_sumFor_l5 Af_1 Af_3 Af_4 Af_5 Af_6 Af_7 Af_8 Av_0 Av_2 Av_3 Av_4 Av_5 Rf_1 Rn zz_602 n (yy_600 + 1) (yy_601 + (-2)) yy_602 else ((1 : Int32), (yy_602 ((yy_601 - (2 : Int32))).toNatClampNeg), yy_600, yy_601, yy_602)) else dX6_sumFor_l5 Af_1 Af_3 Af_4 Af_5 Af_6 Af_7 Af_8 Av_0 Av_2 Av_3 Av_4 Av_5 Rf_1 Rn zz_602 n (yy_600 + 1) (yy_601 + (-1)) (vp_updL yy_602 ((yy_601 - (2 : Int32))).toNatClampNeg (dX6_joined (Rf_1 (yy_600).toNatClampNeg) (yy_602 ((yy_601 - (2 : Int32))).toNatClampNeg) (yy_602 ((yy_601 - (1 : Int32))).toNatClampNeg)))) else ((1 : Int32), (0 : Int64), yy_600, yy_601, yy_602))))) else (if yy_601 < (0 : Int32) then ((1 : Int32), (0 : Int64), yy_600, yy_601, yy_602) else (if yy_601 < (64 : Int32) then (if (100000 : Int32) ≤ (Rf_1 (yy_600).toNatClampNeg) then dX6_sumFor_l5 Af_1 Af_3 Af_4 Af_5 Af_6 Af_7 Af_8 Av_0 Av_2 Av_3 Av_4 Av_5 Rf_1 Rn zz_602 n (yy_600 + 1) (yy_601 + 1) (vp_updL yy_602 (yy_601).toNatClampNeg (dX9_wordOf Af_1 Af_3 Af_4 Af_5 Af_6 Af_7 Af_8 Av_0 Av_2 Av_3 Av_4 Av_5 ((Rf_1 (yy_600).toNatClampNeg) - (100000 : Int32)) zz_602)) else dX6_sumFor_l5 Af_1 Af_3 Af_4 Af_5 Af_6 Af_7 Af_8 Av_0 Av_2 Av_3 Av_4 Av_5 Rf_1 Rn zz_602 n (yy_600 + 1) (yy_601 + 1) (vp_updL yy_602 (yy_601).toNatClampNeg ((Rf_1 (yy_600).toNatClampNeg)).toInt64)) else ((1 : Int32), (0 : Int64), yy_600, yy_601, yy_602))))) := rfl
def dX6_sumFor (Af_1 : Nat → Int32) (Af_3 : Nat → Int32) (Af_4 : Nat → Int32) (Af_5 : Nat → Int32) (Af_6 : Nat → Int32) (Af_7 : Nat → Int32) (Af_8 : Nat → Int32) (Av_0 : Int32) (Av_2 : Int32) (Av_3 : Int32) (Av_4 : Int32) (Av_5 : Int32) (Rf_1 : Nat → Int32) (Rg_2 : Nat → Int64) (x1 : Int32) (Rn : Nat) : Int64 × (Nat → Int64) := (if (dX6_sumFor_l5 Af_1 Af_3 Af_4 Af_5 Af_6 Af_7 Af_8 Av_0 Av_2 Av_3 Av_4 Av_5 Rf_1 Rn x1 ((400 - (0 : Int32).toInt).toNat + 1) (0 : Int32) (0 : Int32) Rg_2).1 = (1 : Int32) then ((dX6_sumFor_l5 Af_1 Af_3 Af_4 Af_5 Af_6 Af_7 Af_8 Av_0 Av_2 Av_3 Av_4 Av_5 Rf_1 Rn x1 ((400 - (0 : Int32).toInt).toNat + 1) (0 : Int32) (0 : Int32) Rg_2).2.1, ((dX6_sumFor_l5 Af_1 Af_3 Af_4 Af_5 Af_6 Af_7 Af_8 Av_0 Av_2 Av_3 Av_4 Av_5 Rf_1 Rn x1 ((400 - (0 : Int32).toInt).toNat + 1) (0 : Int32) (0 : Int32) Rg_2).2.2.2.2)) else ((0 : Int64), ((dX6_sumFor_l5 Af_1 Af_3 Af_4 Af_5 Af_6 Af_7 Af_8 Av_0 Av_2 Av_3 Av_4 Av_5 Rf_1 Rn x1 ((400 - (0 : Int32).toInt).toNat + 1) (0 : Int32) (0 : Int32) Rg_2).2.2.2.2)))
set_option maxHeartbeats 4000000 in
set_option maxRecDepth 100000 in
theorem ct_dX6_sumFor (l : Launch) (D : va_G) (tc : Nat → ClassId) (sk : (Nat → Nat) × (Nat → Nat)) (Ra : Nat → Nat) (Rf : Nat → Nat → Int32) (Rg : Nat → Nat → Int64) (Rn : Nat) (Aa : Nat → Nat) (Av : Nat → Int32) (Af : Nat → Nat → Int32) (x1 : Int32) (hRn : Rn ≤ 400) : Ct l yX6_sumFor cX6_sumFor 6 (some .long) { frames := 3, cells := 0, slots := 0, locals := 64 } D tc sk [.ref (Ra 0), .ref (Aa 0), .int x1] [((Ra 0), .inr (6, [.ref (Ra 1), .ref (Ra 2)])), ((Ra 1), .inl (tc 0, Rn, .inl (Rf 1))), ((Ra 2), .inl (tc 1, 64, .inr (.inl (Rg 2)))), ((Aa 0), .inr (9, [.int (Av 0), .int (Av 1), .int (Av 2), .int (Av 3), .int (Av 4), .int (Av 5), .ref (Aa 1), .ref (Aa 2), .ref (Aa 3), .ref (Aa 4), .ref (Aa 5), .ref (Aa 6), .ref (Aa 7), .ref (Aa 8)])), ((Aa 1), .inl (tc 0, 10, .inl (Af 1))), ((Aa 2), .inl (tc 0, 10, .inl (Af 2))), ((Aa 3), .inl (tc 0, 6, .inl (Af 3))), ((Aa 4), .inl (tc 0, 6, .inl (Af 4))), ((Aa 5), .inl (tc 0, 6, .inl (Af 5))), ((Aa 6), .inl (tc 0, 6, .inl (Af 6))), ((Aa 7), .inl (tc 0, 6, .inl (Af 7))), ((Aa 8), .inl (tc 0, 6, .inl (Af 8)))] (fun (v : Option Value) (oo0x1 : Nat → Int64) => ∃ r : Int64, v = some (.long r) ∧ ((True) ∧ (r, oo0x1) = (dX6_sumFor (Af 1) (Af 3) (Af 4) (Af 5) (Af 6) (Af 7) (Af 8) (Av 0) (Av 2) (Av 3) (Av 4) (Av 5) (Rf 1) (Rg 2) x1 Rn))) (fun (oo0x1 : Nat → Int64) => [((Ra 0), .inr (6, [.ref (Ra 1), .ref (Ra 2)])), ((Ra 1), .inl (tc 0, Rn, .inl (Rf 1))), ((Ra 2), .inl (tc 1, 64, .inr (.inl oo0x1))), ((Aa 0), .inr (9, [.int (Av 0), .int (Av 1), .int (Av 2), .int (Av 3), .int (Av 4), .int (Av 5), .ref (Aa 1), .ref (Aa 2), .ref (Aa 3), .ref (Aa 4), .ref (Aa 5), .ref (Aa 6), .ref (Aa 7), .ref (Aa 8)])), ((Aa 1), .inl (tc 0, 10, .inl (Af 1))), ((Aa 2), .inl (tc 0, 10, .inl (Af 2))), ((Aa 3), .inl (tc 0, 6, .inl (Af 3))), ((Aa 4), .inl (tc 0, 6, .inl (Af 4))), ((Aa 5), .inl (tc 0, 6, .inl (Af 5))), ((Aa 6), .inl (tc 0, 6, .inl (Af 6))), ((Aa 7), .inl (tc 0, 6, .inl (Af 7))), ((Aa 8), .inl (tc 0, 6, .inl (Af 8)))]) 0 0 := by
  refine Ct.start (by decide) (Nat.le_of_ble_eq_true rfl) (fun p e s m below meth c A ls hx hb hr hlk hin hml hown hts hK hX hP hD hA hl hS => ?_)
  have hl : lv_has ls 6 [(0, .ref (Ra 0)), (1, .ref (Aa 0)), (2, .int x1)] := hl
  refine lv_iconst (v := 0) hx hb dX6_sumFor_0 (by decide) ?_
  refine lv_istore_n (lv' := [(3, .int 0), (0, .ref (Ra 0)), (1, .ref (Aa 0)), (2, .int x1)]) hx hb dX6_sumFor_1 rfl hl (by decide) rfl (fun ls hl₀ => ?_)
  replace hl := hl₀
  clear hl₀
  refine lv_iconst (v := 0) hx hb dX6_sumFor_2 (by decide) ?_
  refine lv_istore (lv' := [(4, .int 0), (3, .int 0), (0, .ref (Ra 0)), (1, .ref (Aa 0)), (2, .int x1)]) hx hb dX6_sumFor_3 hl (by decide) rfl (fun ls hl₀ => ?_)
  replace hl := hl₀
  clear hl₀
  have loop_3 : ∀ (n_1 : Nat) (yy_600 : Int32) (yy_601 : Int32) (yy_602 : Nat → Int64) (H : Heap) (locs : List Loc) (ls : Array Slot), (400 - (yy_600 : Int32).toInt).toNat < n_1 → (dX6_sumFor_l5 (Af 1) (Af 3) (Af 4) (Af 5) (Af 6) (Af 7) (Af 8) (Av 0) (Av 2) (Av 3) (Av 4) (Av 5) (Rf 1) Rn x1 ((400 - (0 : Int32).toInt).toNat + 1) (0 : Int32) (0 : Int32) (Rg 2)) = dX6_sumFor_l5 (Af 1) (Af 3) (Af 4) (Af 5) (Af 6) (Af 7) (Af 8) (Av 0) (Av 2) (Av 3) (Av 4) (Av 5) (Rf 1) Rn x1 ((400 - (yy_600 : Int32).toInt).toNat + 1) yy_600 yy_601 yy_602 → (0 ≤ (yy_600 : Int32).toInt) → va_P D classes [((Ra 0), .inr (6, [.ref (Ra 1), .ref (Ra 2)])), ((Ra 1), .inl (tc 0, Rn, .inl (Rf 1))), ((Ra 2), .inl (tc 1, 64, .inr (.inl yy_602))), ((Aa 0), .inr (9, [.int (Av 0), .int (Av 1), .int (Av 2), .int (Av 3), .int (Av 4), .int (Av 5), .ref (Aa 1), .ref (Aa 2), .ref (Aa 3), .ref (Aa 4), .ref (Aa 5), .ref (Aa 6), .ref (Aa 7), .ref (Aa 8)])), ((Aa 1), .inl (tc 0, 10, .inl (Af 1))), ((Aa 2), .inl (tc 0, 10, .inl (Af 2))), ((Aa 3), .inl (tc 0, 6, .inl (Af 3))), ((Aa 4), .inl (tc 0, 6, .inl (Af 4))), ((Aa 5), .inl (tc 0, 6, .inl (Af 5))), ((Aa 6), .inl (tc 0, 6, .inl (Af 6))), ((Aa 7), .inl (tc 0, 6, .inl (Af 7))), ((Aa 8), .inl (tc 0, 6, .inl (Af 8)))] H → va_D A [((Ra 0), .inr (6, [.ref (Ra 1), .ref (Ra 2)])), ((Ra 1), .inl (tc 0, Rn, .inl (Rf 1))), ((Ra 2), .inl (tc 1, 64, .inr (.inl yy_602))), ((Aa 0), .inr (9, [.int (Av 0), .int (Av 1), .int (Av 2), .int (Av 3), .int (Av 4), .int (Av 5), .ref (Aa 1), .ref (Aa 2), .ref (Aa 3), .ref (Aa 4), .ref (Aa 5), .ref (Aa 6), .ref (Aa 7), .ref (Aa 8)])), ((Aa 1), .inl (tc 0, 10, .inl (Af 1))), ((Aa 2), .inl (tc 0, 10, .inl (Af 2))), ((Aa 3), .inl (tc 0, 6, .inl (Af 3))), ((Aa 4), .inl (tc 0, 6, .inl (Af 4))), ((Aa 5), .inl (tc 0, 6, .inl (Af 5))), ((Aa 6), .inl (tc 0, 6, .inl (Af 6))), ((Aa 7), .inl (tc 0, 6, .inl (Af 7))), ((Aa 8), .inl (tc 0, 6, .inl (Af 8)))] → va_S A s.heap H locs → lv_has ls 6 [(4, .int yy_600), (3, .int yy_601), (0, .ref (Ra 0)), (1, .ref (Aa 0)), (2, .int x1)] → W p l e ({ frames := 3, cells := 0, slots := 0, locals := 64 }) s m ([.ref (Ra 0), .ref (Aa 0), .int x1].toArray) below meth c H locs 0 0 (MQ below (QW (fun (v : Option Value) (oo0x1 : Nat → Int64) => ∃ r : Int64, v = some (.long r) ∧ ((True) ∧ (r, oo0x1) = (dX6_sumFor (Af 1) (Af 3) (Af 4) (Af 5) (Af 6) (Af 7) (Af 8) (Av 0) (Av 2) (Av 3) (Av 4) (Av 5) (Rf 1) (Rg 2) x1 Rn))) (BW D (fun (oo0x1 : Nat → Int64) => [((Ra 0), .inr (6, [.ref (Ra 1), .ref (Ra 2)])), ((Ra 1), .inl (tc 0, Rn, .inl (Rf 1))), ((Ra 2), .inl (tc 1, 64, .inr (.inl oo0x1))), ((Aa 0), .inr (9, [.int (Av 0), .int (Av 1), .int (Av 2), .int (Av 3), .int (Av 4), .int (Av 5), .ref (Aa 1), .ref (Aa 2), .ref (Aa 3), .ref (Aa 4), .ref (Aa 5), .ref (Aa 6), .ref (Aa 7), .ref (Aa 8)])), ((Aa 1), .inl (tc 0, 10, .inl (Af 1))), ((Aa 2), .inl (tc 0, 10, .inl (Af 2))), ((Aa 3), .inl (tc 0, 6, .inl (Af 3))), ((Aa 4), .inl (tc 0, 6, .inl (Af 4))), ((Aa 5), .inl (tc 0, 6, .inl (Af 5))), ((Aa 6), .inl (tc 0, 6, .inl (Af 6))), ((Aa 7), .inl (tc 0, 6, .inl (Af 7))), ((Aa 8), .inl (tc 0, 6, .inl (Af 8)))]) A) A) ([.ref (Ra 0), .ref (Aa 0), .int x1].toArray) s 0 0 A) (F0 m 5 ls []) := by
    clear hP hD hS hl
    intro n_1
    induction n_1 with
    | zero =>
      intro yy_600 yy_601 yy_602 H locs ls h1
      exact absurd h1 (Nat.not_lt_zero _)
    | succ n_1 ih_2 =>
      intro yy_600 yy_601 yy_602 H locs ls hn_6 hL_5 pf_4 hP hD hS hl
      refine lv_iload hx hb dX6_sumFor_5 (lv_at hl 0 rfl) ?_
      refine lv_aload_n hx hb dX6_sumFor_7 rfl (lv_at hl 2 rfl) ?_
      refine gf_X6_13 hx hb hts hown hK hP 0 rfl rfl dX6_sumFor_8 ?_
      refine va_alen hx hb hK hP 1 0 rfl rfl (v := nI Rn) rfl dX6_sumFor_11 ?_
      refine lv_icmp_ge (tgt := 252) hx hb dX6_sumFor_12 (by decide) (fun c_7 => ?_) (fun c_7 => ?_)
      · skip
        have hb_9 : dX6_sumFor_l5 (Af 1) (Af 3) (Af 4) (Af 5) (Af 6) (Af 7) (Af 8) (Av 0) (Av 2) (Av 3) (Av 4) (Av 5) (Rf 1) Rn x1 ((400 - (yy_600 : Int32).toInt).toNat + 1) yy_600 yy_601 yy_602 = ((0 : Int32), (0 : Int64), yy_600, yy_601, yy_602) := by
          clear hP hD hS hl ih_2
          rw [dX6_sumFor_l5_s]
          rw [if_pos c_7]
          try rfl
        have hX_8 : (dX6_sumFor_l5 (Af 1) (Af 3) (Af 4) (Af 5) (Af 6) (Af 7) (Af 8) (Av 0) (Av 2) (Av 3) (Av 4) (Av 5) (Rf 1) Rn x1 ((400 - (0 : Int32).toInt).toNat + 1) (0 : Int32) (0 : Int32) (Rg 2)) = ((0 : Int32), (0 : Int64), yy_600, yy_601, yy_602) := hL_5.trans hb_9
        have hX_8_0 : (dX6_sumFor_l5 (Af 1) (Af 3) (Af 4) (Af 5) (Af 6) (Af 7) (Af 8) (Av 0) (Av 2) (Av 3) (Av 4) (Av 5) (Rf 1) Rn x1 ((400 - (0 : Int32).toInt).toNat + 1) (0 : Int32) (0 : Int32) (Rg 2)).1 = (0 : Int32) := congrArg (fun z => z.1) hX_8
        have hX_8_1 : (dX6_sumFor_l5 (Af 1) (Af 3) (Af 4) (Af 5) (Af 6) (Af 7) (Af 8) (Av 0) (Av 2) (Av 3) (Av 4) (Av 5) (Rf 1) Rn x1 ((400 - (0 : Int32).toInt).toNat + 1) (0 : Int32) (0 : Int32) (Rg 2)).2.1 = (0 : Int64) := congrArg (fun z => z.2.1) hX_8
        have hX_8_2 : (dX6_sumFor_l5 (Af 1) (Af 3) (Af 4) (Af 5) (Af 6) (Af 7) (Af 8) (Av 0) (Av 2) (Av 3) (Av 4) (Av 5) (Rf 1) Rn x1 ((400 - (0 : Int32).toInt).toNat + 1) (0 : Int32) (0 : Int32) (Rg 2)).2.2.1 = yy_600 := congrArg (fun z => z.2.2.1) hX_8
        have hX_8_3 : (dX6_sumFor_l5 (Af 1) (Af 3) (Af 4) (Af 5) (Af 6) (Af 7) (Af 8) (Av 0) (Av 2) (Av 3) (Av 4) (Av 5) (Rf 1) Rn x1 ((400 - (0 : Int32).toInt).toNat + 1) (0 : Int32) (0 : Int32) (Rg 2)).2.2.2.1 = yy_601 := congrArg (fun z => z.2.2.2.1) hX_8
        have hX_8_4 : (dX6_sumFor_l5 (Af 1) (Af 3) (Af 4) (Af 5) (Af 6) (Af 7) (Af 8) (Av 0) (Av 2) (Av 3) (Av 4) (Av 5) (Rf 1) Rn x1 ((400 - (0 : Int32).toInt).toNat + 1) (0 : Int32) (0 : Int32) (Rg 2)).2.2.2.2 = yy_602 := congrArg (fun z => z.2.2.2.2) hX_8
        refine lv_lconst (v := 0) hx hb dX6_sumFor_252 (by decide) ?_
        have hF_10 : ((0 : Int64), yy_602) = (dX6_sumFor (Af 1) (Af 3) (Af 4) (Af 5) (Af 6) (Af 7) (Af 8) (Av 0) (Av 2) (Av 3) (Av 4) (Av 5) (Rf 1) (Rg 2) x1 Rn) := by
          clear hP hD hS hl ih_2
          unfold dX6_sumFor
          try rw [hX_8_0]
          try rw [hX_8_1]
          try rw [hX_8_2]
          try rw [hX_8_3]
          try rw [hX_8_4]
          rw [if_neg (show ¬ (0 : Int32) = (1 : Int32) by decide)]
          try rfl
        exact retL (v := 0) hx hb hr hlk hP hD hS yy_602 ⟨_, rfl, ⟨trivial, hF_10⟩⟩ [0, 1, 2, 3, 4, 5, 6, 7, 8, 9, 10, 11] rfl rfl dX6_sumFor_253 (Nat.le_of_ble_eq_true rfl) (Nat.le_of_ble_eq_true rfl) rfl
      · skip
        refine lv_aload_n hx hb dX6_sumFor_15 rfl (lv_at hl 2 rfl) ?_
        refine gf_X6_13 hx hb hts hown hK hP 0 rfl rfl dX6_sumFor_16 ?_
        refine lv_iload hx hb dX6_sumFor_19 (lv_at hl 0 rfl) ?_
        have hi_11 : vp_in yy_600 Rn := by
          have z_1 := Int32.lt_iff_toInt_lt.mp (Int32.not_le.mp c_7)
          have n_0 : (nI Rn).toInt = ((Rn : Nat) : Int) := nI_toInt (by omega)
          refine vp_in_iff.mpr ⟨?_, ?_⟩ <;> omega
        refine va_iald hx hb hK hP 1 0 rfl rfl hi_11 dX6_sumFor_21 ?_
        refine lv_topi (fun x_12 ex_12 => ?_)
        refine lv_istore (lv' := [(5, .int x_12), (4, .int yy_600), (3, .int yy_601), (0, .ref (Ra 0)), (1, .ref (Aa 0)), (2, .int x1)]) hx hb dX6_sumFor_22 hl (by decide) rfl (fun ls hl₀ => ?_)
        replace hl := hl₀
        clear hl₀
        refine lv_iload hx hb dX6_sumFor_24 (lv_at hl 0 rfl) ?_
        refine lv_if_lt (tgt := 79) hx hb dX6_sumFor_26 (by decide) (fun c_13 => ?_) (fun c_13 => ?_)
        · skip
          refine lv_iload hx hb dX6_sumFor_79 (lv_at hl 0 rfl) ?_
          refine lv_bipush (v := (-2)) hx hb dX6_sumFor_81 (by decide) ?_
          refine lv_icmp_ne (tgt := 113) hx hb dX6_sumFor_83 (by decide) (fun c_14 => ?_) (fun c_14 => ?_)
          · skip
            refine lv_iload hx hb dX6_sumFor_113 (lv_at hl 0 rfl) ?_
            refine lv_bipush (v := (-4)) hx hb dX6_sumFor_115 (by decide) ?_
            refine lv_icmp_ne (tgt := 163) hx hb dX6_sumFor_117 (by decide) (fun c_15 => ?_) (fun c_15 => ?_)
            · skip
              refine lv_iload_n hx hb dX6_sumFor_163 rfl (lv_at hl 2 rfl) ?_
              refine lv_iconst (v := 2) hx hb dX6_sumFor_164 (by decide) ?_
              refine lv_icmp_lt (tgt := 177) hx hb dX6_sumFor_165 (by decide) (fun c_16 => ?_) (fun c_16 => ?_)
              · skip
                refine lv_lconst (v := 0) hx hb dX6_sumFor_177 (by decide) ?_
                have hb_18 : dX6_sumFor_l5 (Af 1) (Af 3) (Af 4) (Af 5) (Af 6) (Af 7) (Af 8) (Av 0) (Av 2) (Av 3) (Av 4) (Av 5) (Rf 1) Rn x1 ((400 - (yy_600 : Int32).toInt).toNat + 1) yy_600 yy_601 yy_602 = ((1 : Int32), (0 : Int64), yy_600, yy_601, yy_602) := by
                  clear hP hD hS hl ih_2
                  replace ex_12 := ex_12.symm; subst ex_12
                  rw [dX6_sumFor_l5_s]
                  rw [if_neg c_7, if_pos c_13, if_neg c_14, if_neg c_15, if_pos c_16]
                  try rfl
                have hX_17 : (dX6_sumFor_l5 (Af 1) (Af 3) (Af 4) (Af 5) (Af 6) (Af 7) (Af 8) (Av 0) (Av 2) (Av 3) (Av 4) (Av 5) (Rf 1) Rn x1 ((400 - (0 : Int32).toInt).toNat + 1) (0 : Int32) (0 : Int32) (Rg 2)) = ((1 : Int32), (0 : Int64), yy_600, yy_601, yy_602) := hL_5.trans hb_18
                have hX_17_0 : (dX6_sumFor_l5 (Af 1) (Af 3) (Af 4) (Af 5) (Af 6) (Af 7) (Af 8) (Av 0) (Av 2) (Av 3) (Av 4) (Av 5) (Rf 1) Rn x1 ((400 - (0 : Int32).toInt).toNat + 1) (0 : Int32) (0 : Int32) (Rg 2)).1 = (1 : Int32) := congrArg (fun z => z.1) hX_17
                have hX_17_1 : (dX6_sumFor_l5 (Af 1) (Af 3) (Af 4) (Af 5) (Af 6) (Af 7) (Af 8) (Av 0) (Av 2) (Av 3) (Av 4) (Av 5) (Rf 1) Rn x1 ((400 - (0 : Int32).toInt).toNat + 1) (0 : Int32) (0 : Int32) (Rg 2)).2.1 = (0 : Int64) := congrArg (fun z => z.2.1) hX_17
                have hX_17_2 : (dX6_sumFor_l5 (Af 1) (Af 3) (Af 4) (Af 5) (Af 6) (Af 7) (Af 8) (Av 0) (Av 2) (Av 3) (Av 4) (Av 5) (Rf 1) Rn x1 ((400 - (0 : Int32).toInt).toNat + 1) (0 : Int32) (0 : Int32) (Rg 2)).2.2.1 = yy_600 := congrArg (fun z => z.2.2.1) hX_17
                have hX_17_3 : (dX6_sumFor_l5 (Af 1) (Af 3) (Af 4) (Af 5) (Af 6) (Af 7) (Af 8) (Av 0) (Av 2) (Av 3) (Av 4) (Av 5) (Rf 1) Rn x1 ((400 - (0 : Int32).toInt).toNat + 1) (0 : Int32) (0 : Int32) (Rg 2)).2.2.2.1 = yy_601 := congrArg (fun z => z.2.2.2.1) hX_17
                have hX_17_4 : (dX6_sumFor_l5 (Af 1) (Af 3) (Af 4) (Af 5) (Af 6) (Af 7) (Af 8) (Av 0) (Av 2) (Av 3) (Av 4) (Av 5) (Rf 1) Rn x1 ((400 - (0 : Int32).toInt).toNat + 1) (0 : Int32) (0 : Int32) (Rg 2)).2.2.2.2 = yy_602 := congrArg (fun z => z.2.2.2.2) hX_17
                have hF_19 : ((0 : Int64), yy_602) = (dX6_sumFor (Af 1) (Af 3) (Af 4) (Af 5) (Af 6) (Af 7) (Af 8) (Av 0) (Av 2) (Av 3) (Av 4) (Av 5) (Rf 1) (Rg 2) x1 Rn) := by
                  clear hP hD hS hl ih_2
                  replace ex_12 := ex_12.symm; subst ex_12
                  unfold dX6_sumFor
                  try rw [hX_17_0]
                  try rw [hX_17_1]
                  try rw [hX_17_2]
                  try rw [hX_17_3]
                  try rw [hX_17_4]
                  rw [if_pos (show (1 : Int32) = (1 : Int32) from rfl)]
                  try rfl
                exact retL (v := 0) hx hb hr hlk hP hD hS yy_602 ⟨_, rfl, ⟨trivial, hF_19⟩⟩ [0, 1, 2, 3, 4, 5, 6, 7, 8, 9, 10, 11] rfl rfl dX6_sumFor_178 (Nat.le_of_ble_eq_true rfl) (Nat.le_of_ble_eq_true rfl) rfl
              · skip
                refine lv_iload_n hx hb dX6_sumFor_168 rfl (lv_at hl 2 rfl) ?_
                refine lv_aload_n hx hb dX6_sumFor_169 rfl (lv_at hl 3 rfl) ?_
                refine gf_X6_9 hx hb hts hown hK hP 0 rfl rfl dX6_sumFor_170 ?_
                refine va_alen hx hb hK hP 2 1 rfl rfl (v := 64) rfl dX6_sumFor_173 ?_
                refine lv_icmp_le (tgt := 179) hx hb dX6_sumFor_174 (by decide) (fun c_20 => ?_) (fun c_20 => ?_)
                · skip
                  refine lv_iload hx hb dX6_sumFor_179 (lv_at hl 0 rfl) ?_
                  refine lv_bipush (v := (-3)) hx hb dX6_sumFor_181 (by decide) ?_
                  refine lv_icmp_ne (tgt := 214) hx hb dX6_sumFor_183 (by decide) (fun c_21 => ?_) (fun c_21 => ?_)
                  · skip
                    refine lv_aload_n hx hb dX6_sumFor_214 rfl (lv_at hl 3 rfl) ?_
                    refine gf_X6_9 hx hb hts hown hK hP 0 rfl rfl dX6_sumFor_215 ?_
                    refine lv_iload_n hx hb dX6_sumFor_218 rfl (lv_at hl 2 rfl) ?_
                    refine lv_iconst (v := 2) hx hb dX6_sumFor_219 (by decide) ?_
                    refine lv_isub hx hb dX6_sumFor_220 ?_
                    refine lv_topi (fun x_22 ex_22 => ?_)
                    refine lv_iload hx hb dX6_sumFor_221 (lv_at hl 0 rfl) ?_
                    refine lv_aload_n hx hb dX6_sumFor_223 rfl (lv_at hl 3 rfl) ?_
                    refine gf_X6_9 hx hb hts hown hK hP 0 rfl rfl dX6_sumFor_224 ?_
                    refine lv_iload_n hx hb dX6_sumFor_227 rfl (lv_at hl 2 rfl) ?_
                    refine lv_iconst (v := 2) hx hb dX6_sumFor_228 (by decide) ?_
                    refine lv_isub hx hb dX6_sumFor_229 ?_
                    refine lv_topi (fun x_23 ex_23 => ?_)
                    have hi_24 : vp_in x_23 64 := by
                      have z_1 := Int32.lt_iff_toInt_lt.mp (Int32.not_le.mp c_7)
                      have z_2 := Int32.lt_iff_toInt_lt.mp c_13
                      have z_3 : ¬ (x_12 : Int32).toInt = ((-2) : Int32).toInt := fun z => c_14 (Int32.toInt_inj.mp z)
                      have z_4 : ¬ (x_12 : Int32).toInt = ((-4) : Int32).toInt := fun z => c_15 (Int32.toInt_inj.mp z)
                      have z_5 := Int32.le_iff_toInt_le.mp (Int32.not_lt.mp c_16)
                      have z_6 := Int32.le_iff_toInt_le.mp c_20
                      have z_7 : ¬ (x_12 : Int32).toInt = ((-3) : Int32).toInt := fun z => c_21 (Int32.toInt_inj.mp z)
                      have y_m4 : (-4 : Int32).toInt = -4 := by decide
                      have y_m3 : (-3 : Int32).toInt = -3 := by decide
                      have y_m2 : (-2 : Int32).toInt = -2 := by decide
                      have y_0 : (0 : Int32).toInt = 0 := by decide
                      have y_2 : (2 : Int32).toInt = 2 := by decide
                      have y_64 : (64 : Int32).toInt = 64 := by decide
                      have n_0 : (nI Rn).toInt = ((Rn : Nat) : Int) := nI_toInt (by omega)
                      have t_x_23 : x_23.toInt = (yy_601 : Int32).toInt - (2 : Int32).toInt := by rw [ex_23]; exact sub_toInt (by omega) (by omega)
                      refine vp_in_iff.mpr ⟨?_, ?_⟩ <;> omega
                    refine va_lald hx hb hK hP 2 1 rfl rfl hi_24 dX6_sumFor_230 ?_
                    refine lv_topl (fun x_25 ex_25 => ?_)
                    refine lv_aload_n hx hb dX6_sumFor_231 rfl (lv_at hl 3 rfl) ?_
                    refine gf_X6_9 hx hb hts hown hK hP 0 rfl rfl dX6_sumFor_232 ?_
                    refine lv_iload_n hx hb dX6_sumFor_235 rfl (lv_at hl 2 rfl) ?_
                    refine lv_iconst (v := 1) hx hb dX6_sumFor_236 (by decide) ?_
                    refine lv_isub hx hb dX6_sumFor_237 ?_
                    refine lv_topi (fun x_26 ex_26 => ?_)
                    have hi_27 : vp_in x_26 64 := by
                      have z_1 := Int32.lt_iff_toInt_lt.mp (Int32.not_le.mp c_7)
                      have z_2 := Int32.lt_iff_toInt_lt.mp c_13
                      have z_3 : ¬ (x_12 : Int32).toInt = ((-2) : Int32).toInt := fun z => c_14 (Int32.toInt_inj.mp z)
                      have z_4 : ¬ (x_12 : Int32).toInt = ((-4) : Int32).toInt := fun z => c_15 (Int32.toInt_inj.mp z)
                      have z_5 := Int32.le_iff_toInt_le.mp (Int32.not_lt.mp c_16)
                      have z_6 := Int32.le_iff_toInt_le.mp c_20
                      have z_7 : ¬ (x_12 : Int32).toInt = ((-3) : Int32).toInt := fun z => c_21 (Int32.toInt_inj.mp z)
                      have y_m4 : (-4 : Int32).toInt = -4 := by decide
                      have y_m3 : (-3 : Int32).toInt = -3 := by decide
                      have y_m2 : (-2 : Int32).toInt = -2 := by decide
                      have y_0 : (0 : Int32).toInt = 0 := by decide
                      have y_2 : (2 : Int32).toInt = 2 := by decide
                      have y_64 : (64 : Int32).toInt = 64 := by decide
                      have n_0 : (nI Rn).toInt = ((Rn : Nat) : Int) := nI_toInt (by omega)
                      have y_1 : (1 : Int32).toInt = 1 := by decide
                      have t_x_26 : x_26.toInt = (yy_601 : Int32).toInt - (1 : Int32).toInt := by rw [ex_26]; exact sub_toInt (by omega) (by omega)
                      refine vp_in_iff.mpr ⟨?_, ?_⟩ <;> omega
                    refine va_lald hx hb hK hP 2 1 rfl rfl hi_27 dX6_sumFor_238 ?_
                    refine lv_topl (fun x_28 ex_28 => ?_)
                    refine cS (As := [.int x_12, .long x_25, .long x_28]) (rest := [.int x_22, .ref (Ra 2)]) (wr := [((Ra 0), .inr (6, [.ref (Ra 1), .ref (Ra 2)])), ((Ra 1), .inl (tc 0, Rn, .inl (Rf 1))), ((Ra 2), .inl (tc 1, 64, .inr (.inl yy_602))), ((Aa 0), .inr (9, [.int (Av 0), .int (Av 1), .int (Av 2), .int (Av 3), .int (Av 4), .int (Av 5), .ref (Aa 1), .ref (Aa 2), .ref (Aa 3), .ref (Aa 4), .ref (Aa 5), .ref (Aa 6), .ref (Aa 7), .ref (Aa 8)])), ((Aa 1), .inl (tc 0, 10, .inl (Af 1))), ((Aa 2), .inl (tc 0, 10, .inl (Af 2))), ((Aa 3), .inl (tc 0, 6, .inl (Af 3))), ((Aa 4), .inl (tc 0, 6, .inl (Af 4))), ((Aa 5), .inl (tc 0, 6, .inl (Af 5))), ((Aa 6), .inl (tc 0, 6, .inl (Af 6))), ((Aa 7), .inl (tc 0, 6, .inl (Af 7))), ((Aa 8), .inl (tc 0, 6, .inl (Af 8)))]) ⟨hx, hb, hml, hown, hts⟩ hK hX hA (ct_dX6_joined l D tc sk x_12 x_25 x_28) k_765 k_763 k_764 k_112 pl_X6_joined ⟨Nat.le_of_ble_eq_true rfl, Nat.le_of_ble_eq_true rfl⟩ rfl rfl  hP hD hS [] [0, 1, 2, 3, 4, 5, 6, 7, 8, 9, 10, 11] rfl rfl rfl rfl rfl (by decide) rfl hl.1 rfl (Nat.le_of_ble_eq_true rfl) dX6_sumFor_239 ⟨Nat.le_of_ble_eq_true rfl, Nat.le_of_ble_eq_true rfl⟩ (fun v_29 u_30 H locs hv_31 hP₀ hD₀ hS₀ => ?_)
                    obtain ⟨r_32, rfl, he_33⟩ := hv_31
                    have he_33 : (True) ∧ r_32 = (dX6_joined x_12 x_25 x_28) := he_33
                    refine W.eq (g2 := F0 m 242 ls [.long r_32, .int x_22, .ref (Ra 2)]) rfl ?_
                    replace hP : va_P D classes [((Ra 0), .inr (6, [.ref (Ra 1), .ref (Ra 2)])), ((Ra 1), .inl (tc 0, Rn, .inl (Rf 1))), ((Ra 2), .inl (tc 1, 64, .inr (.inl yy_602))), ((Aa 0), .inr (9, [.int (Av 0), .int (Av 1), .int (Av 2), .int (Av 3), .int (Av 4), .int (Av 5), .ref (Aa 1), .ref (Aa 2), .ref (Aa 3), .ref (Aa 4), .ref (Aa 5), .ref (Aa 6), .ref (Aa 7), .ref (Aa 8)])), ((Aa 1), .inl (tc 0, 10, .inl (Af 1))), ((Aa 2), .inl (tc 0, 10, .inl (Af 2))), ((Aa 3), .inl (tc 0, 6, .inl (Af 3))), ((Aa 4), .inl (tc 0, 6, .inl (Af 4))), ((Aa 5), .inl (tc 0, 6, .inl (Af 5))), ((Aa 6), .inl (tc 0, 6, .inl (Af 6))), ((Aa 7), .inl (tc 0, 6, .inl (Af 7))), ((Aa 8), .inl (tc 0, 6, .inl (Af 8)))] H := hP₀
                    replace hD : va_D A [((Ra 0), .inr (6, [.ref (Ra 1), .ref (Ra 2)])), ((Ra 1), .inl (tc 0, Rn, .inl (Rf 1))), ((Ra 2), .inl (tc 1, 64, .inr (.inl yy_602))), ((Aa 0), .inr (9, [.int (Av 0), .int (Av 1), .int (Av 2), .int (Av 3), .int (Av 4), .int (Av 5), .ref (Aa 1), .ref (Aa 2), .ref (Aa 3), .ref (Aa 4), .ref (Aa 5), .ref (Aa 6), .ref (Aa 7), .ref (Aa 8)])), ((Aa 1), .inl (tc 0, 10, .inl (Af 1))), ((Aa 2), .inl (tc 0, 10, .inl (Af 2))), ((Aa 3), .inl (tc 0, 6, .inl (Af 3))), ((Aa 4), .inl (tc 0, 6, .inl (Af 4))), ((Aa 5), .inl (tc 0, 6, .inl (Af 5))), ((Aa 6), .inl (tc 0, 6, .inl (Af 6))), ((Aa 7), .inl (tc 0, 6, .inl (Af 7))), ((Aa 8), .inl (tc 0, 6, .inl (Af 8)))] := hD₀
                    replace hS := hS₀
                    clear hP₀ hD₀ hS₀
                    obtain ⟨he_33, hq_35⟩ := he_33
                    have er_32 : r_32 = (dX6_joined x_12 x_25 x_28) := hq_35
                    have hi_36 : vp_in x_22 64 := by
                      have z_1 := Int32.lt_iff_toInt_lt.mp (Int32.not_le.mp c_7)
                      have z_2 := Int32.lt_iff_toInt_lt.mp c_13
                      have z_3 : ¬ (x_12 : Int32).toInt = ((-2) : Int32).toInt := fun z => c_14 (Int32.toInt_inj.mp z)
                      have z_4 : ¬ (x_12 : Int32).toInt = ((-4) : Int32).toInt := fun z => c_15 (Int32.toInt_inj.mp z)
                      have z_5 := Int32.le_iff_toInt_le.mp (Int32.not_lt.mp c_16)
                      have z_6 := Int32.le_iff_toInt_le.mp c_20
                      have z_7 : ¬ (x_12 : Int32).toInt = ((-3) : Int32).toInt := fun z => c_21 (Int32.toInt_inj.mp z)
                      have y_m4 : (-4 : Int32).toInt = -4 := by decide
                      have y_m3 : (-3 : Int32).toInt = -3 := by decide
                      have y_m2 : (-2 : Int32).toInt = -2 := by decide
                      have y_0 : (0 : Int32).toInt = 0 := by decide
                      have y_2 : (2 : Int32).toInt = 2 := by decide
                      have y_64 : (64 : Int32).toInt = 64 := by decide
                      have n_0 : (nI Rn).toInt = ((Rn : Nat) : Int) := nI_toInt (by omega)
                      have t_x_22 : x_22.toInt = (yy_601 : Int32).toInt - (2 : Int32).toInt := by rw [ex_22]; exact sub_toInt (by omega) (by omega)
                      refine vp_in_iff.mpr ⟨?_, ?_⟩ <;> omega
                    refine st_long hx hb hK hP hD hS 2 1 rfl rfl hi_36 dX6_sumFor_242 (fun g_37 H locs eg_37 hP₀ hD₀ hS₀ => ?_)
                    replace hP : va_P D classes [((Ra 0), .inr (6, [.ref (Ra 1), .ref (Ra 2)])), ((Ra 1), .inl (tc 0, Rn, .inl (Rf 1))), ((Ra 2), .inl (tc 1, 64, .inr (.inl g_37))), ((Aa 0), .inr (9, [.int (Av 0), .int (Av 1), .int (Av 2), .int (Av 3), .int (Av 4), .int (Av 5), .ref (Aa 1), .ref (Aa 2), .ref (Aa 3), .ref (Aa 4), .ref (Aa 5), .ref (Aa 6), .ref (Aa 7), .ref (Aa 8)])), ((Aa 1), .inl (tc 0, 10, .inl (Af 1))), ((Aa 2), .inl (tc 0, 10, .inl (Af 2))), ((Aa 3), .inl (tc 0, 6, .inl (Af 3))), ((Aa 4), .inl (tc 0, 6, .inl (Af 4))), ((Aa 5), .inl (tc 0, 6, .inl (Af 5))), ((Aa 6), .inl (tc 0, 6, .inl (Af 6))), ((Aa 7), .inl (tc 0, 6, .inl (Af 7))), ((Aa 8), .inl (tc 0, 6, .inl (Af 8)))] H := hP₀
                    replace hD : va_D A [((Ra 0), .inr (6, [.ref (Ra 1), .ref (Ra 2)])), ((Ra 1), .inl (tc 0, Rn, .inl (Rf 1))), ((Ra 2), .inl (tc 1, 64, .inr (.inl g_37))), ((Aa 0), .inr (9, [.int (Av 0), .int (Av 1), .int (Av 2), .int (Av 3), .int (Av 4), .int (Av 5), .ref (Aa 1), .ref (Aa 2), .ref (Aa 3), .ref (Aa 4), .ref (Aa 5), .ref (Aa 6), .ref (Aa 7), .ref (Aa 8)])), ((Aa 1), .inl (tc 0, 10, .inl (Af 1))), ((Aa 2), .inl (tc 0, 10, .inl (Af 2))), ((Aa 3), .inl (tc 0, 6, .inl (Af 3))), ((Aa 4), .inl (tc 0, 6, .inl (Af 4))), ((Aa 5), .inl (tc 0, 6, .inl (Af 5))), ((Aa 6), .inl (tc 0, 6, .inl (Af 6))), ((Aa 7), .inl (tc 0, 6, .inl (Af 7))), ((Aa 8), .inl (tc 0, 6, .inl (Af 8)))] := hD₀
                    replace hS := hS₀
                    clear hP₀ hD₀ hS₀
                    obtain ⟨x_38, ex_38⟩ : ∃ y : Int32, y = yy_601 + (-1) := ⟨_, rfl⟩
                    refine lv_iinc (v := x_38) (lv' := [(3, .int x_38), (5, .int x_12), (4, .int yy_600), (0, .ref (Ra 0)), (1, .ref (Aa 0)), (2, .int x1)]) hx hb dX6_sumFor_243 hl (k := 2) rfl (by rw [ex_38]; rfl) (by decide) rfl (fun ls hl₀ => ?_)
                    replace hl := hl₀
                    clear hl₀
                    obtain ⟨x_39, ex_39⟩ : ∃ y : Int32, y = yy_600 + 1 := ⟨_, rfl⟩
                    refine lv_iinc (v := x_39) (lv' := [(4, .int x_39), (3, .int x_38), (5, .int x_12), (0, .ref (Ra 0)), (1, .ref (Aa 0)), (2, .int x1)]) hx hb dX6_sumFor_246 hl (k := 2) rfl (by rw [ex_39]; rfl) (by decide) rfl (fun ls hl₀ => ?_)
                    replace hl := hl₀
                    clear hl₀
                    refine lv_goto (tgt := 5) hx hb dX6_sumFor_249 (by decide) ?_
                    have hb_40 : 400 - (x_39 : Int32).toInt < 400 - (yy_600 : Int32).toInt ∧ 1 ≤ 400 - (yy_600 : Int32).toInt := by
                      have z_1 := Int32.lt_iff_toInt_lt.mp (Int32.not_le.mp c_7)
                      have z_2 := Int32.lt_iff_toInt_lt.mp c_13
                      have z_3 : ¬ (x_12 : Int32).toInt = ((-2) : Int32).toInt := fun z => c_14 (Int32.toInt_inj.mp z)
                      have z_4 : ¬ (x_12 : Int32).toInt = ((-4) : Int32).toInt := fun z => c_15 (Int32.toInt_inj.mp z)
                      have z_5 := Int32.le_iff_toInt_le.mp (Int32.not_lt.mp c_16)
                      have z_6 := Int32.le_iff_toInt_le.mp c_20
                      have z_7 : ¬ (x_12 : Int32).toInt = ((-3) : Int32).toInt := fun z => c_21 (Int32.toInt_inj.mp z)
                      have y_m4 : (-4 : Int32).toInt = -4 := by decide
                      have y_m3 : (-3 : Int32).toInt = -3 := by decide
                      have y_m2 : (-2 : Int32).toInt = -2 := by decide
                      have y_0 : (0 : Int32).toInt = 0 := by decide
                      have y_2 : (2 : Int32).toInt = 2 := by decide
                      have y_64 : (64 : Int32).toInt = 64 := by decide
                      have n_0 : (nI Rn).toInt = ((Rn : Nat) : Int) := nI_toInt (by omega)
                      have y_1 : (1 : Int32).toInt = 1 := by decide
                      have t_x_39 : x_39.toInt = (yy_600 : Int32).toInt + (1 : Int32).toInt := by rw [ex_39]; exact add_toInt (by omega) (by omega)
                      omega
                    have hm_41 : (400 - (yy_600 : Int32).toInt).toNat = (400 - (x_39 : Int32).toInt).toNat + 1 := by
                      have z_1 := Int32.lt_iff_toInt_lt.mp (Int32.not_le.mp c_7)
                      have z_2 := Int32.lt_iff_toInt_lt.mp c_13
                      have z_3 : ¬ (x_12 : Int32).toInt = ((-2) : Int32).toInt := fun z => c_14 (Int32.toInt_inj.mp z)
                      have z_4 : ¬ (x_12 : Int32).toInt = ((-4) : Int32).toInt := fun z => c_15 (Int32.toInt_inj.mp z)
                      have z_5 := Int32.le_iff_toInt_le.mp (Int32.not_lt.mp c_16)
                      have z_6 := Int32.le_iff_toInt_le.mp c_20
                      have z_7 : ¬ (x_12 : Int32).toInt = ((-3) : Int32).toInt := fun z => c_21 (Int32.toInt_inj.mp z)
                      have y_m4 : (-4 : Int32).toInt = -4 := by decide
                      have y_m3 : (-3 : Int32).toInt = -3 := by decide
                      have y_m2 : (-2 : Int32).toInt = -2 := by decide
                      have y_0 : (0 : Int32).toInt = 0 := by decide
                      have y_2 : (2 : Int32).toInt = 2 := by decide
                      have y_64 : (64 : Int32).toInt = 64 := by decide
                      have n_0 : (nI Rn).toInt = ((Rn : Nat) : Int) := nI_toInt (by omega)
                      have y_1 : (1 : Int32).toInt = 1 := by decide
                      have t_x_39 : x_39.toInt = (yy_600 : Int32).toInt + (1 : Int32).toInt := by rw [ex_39]; exact add_toInt (by omega) (by omega)
                      omega
                    have hb_42 : dX6_sumFor_l5 (Af 1) (Af 3) (Af 4) (Af 5) (Af 6) (Af 7) (Af 8) (Av 0) (Av 2) (Av 3) (Av 4) (Av 5) (Rf 1) Rn x1 ((400 - (yy_600 : Int32).toInt).toNat + 1) yy_600 yy_601 yy_602 = dX6_sumFor_l5 (Af 1) (Af 3) (Af 4) (Af 5) (Af 6) (Af 7) (Af 8) (Av 0) (Av 2) (Av 3) (Av 4) (Av 5) (Rf 1) Rn x1 ((400 - (yy_600 : Int32).toInt).toNat) x_39 x_38 g_37 := by
                      clear hP hD hS hl ih_2
                      replace ex_12 := ex_12.symm; subst ex_12
                      replace ex_22 := ex_22.symm; subst ex_22
                      replace ex_23 := ex_23.symm; subst ex_23
                      replace ex_25 := ex_25.symm; subst ex_25
                      replace ex_26 := ex_26.symm; subst ex_26
                      replace ex_28 := ex_28.symm; subst ex_28
                      replace er_32 := er_32.symm; subst er_32
                      replace eg_37 := eg_37.symm; subst eg_37
                      replace ex_38 := ex_38.symm; subst ex_38
                      replace ex_39 := ex_39.symm; subst ex_39
                      rw [dX6_sumFor_l5_s]
                      rw [if_neg c_7, if_pos c_13, if_neg c_14, if_neg c_15, if_neg c_16, if_pos c_20, if_neg c_21]
                      try rfl
                    have hL_43 : (dX6_sumFor_l5 (Af 1) (Af 3) (Af 4) (Af 5) (Af 6) (Af 7) (Af 8) (Av 0) (Av 2) (Av 3) (Av 4) (Av 5) (Rf 1) Rn x1 ((400 - (0 : Int32).toInt).toNat + 1) (0 : Int32) (0 : Int32) (Rg 2)) = dX6_sumFor_l5 (Af 1) (Af 3) (Af 4) (Af 5) (Af 6) (Af 7) (Af 8) (Av 0) (Av 2) (Av 3) (Av 4) (Av 5) (Rf 1) Rn x1 ((400 - (x_39 : Int32).toInt).toNat + 1) x_39 x_38 g_37 := by
                      rw [hL_5, hb_42, hm_41]
                    have ha_44 : 0 ≤ (x_39 : Int32).toInt := by
                      have z_1 := Int32.lt_iff_toInt_lt.mp (Int32.not_le.mp c_7)
                      have z_2 := Int32.lt_iff_toInt_lt.mp c_13
                      have z_3 : ¬ (x_12 : Int32).toInt = ((-2) : Int32).toInt := fun z => c_14 (Int32.toInt_inj.mp z)
                      have z_4 : ¬ (x_12 : Int32).toInt = ((-4) : Int32).toInt := fun z => c_15 (Int32.toInt_inj.mp z)
                      have z_5 := Int32.le_iff_toInt_le.mp (Int32.not_lt.mp c_16)
                      have z_6 := Int32.le_iff_toInt_le.mp c_20
                      have z_7 : ¬ (x_12 : Int32).toInt = ((-3) : Int32).toInt := fun z => c_21 (Int32.toInt_inj.mp z)
                      have y_m4 : (-4 : Int32).toInt = -4 := by decide
                      have y_m3 : (-3 : Int32).toInt = -3 := by decide
                      have y_m2 : (-2 : Int32).toInt = -2 := by decide
                      have y_0 : (0 : Int32).toInt = 0 := by decide
                      have y_2 : (2 : Int32).toInt = 2 := by decide
                      have y_64 : (64 : Int32).toInt = 64 := by decide
                      have n_0 : (nI Rn).toInt = ((Rn : Nat) : Int) := nI_toInt (by omega)
                      have y_1 : (1 : Int32).toInt = 1 := by decide
                      have t_x_39 : x_39.toInt = (yy_600 : Int32).toInt + (1 : Int32).toInt := by rw [ex_39]; exact add_toInt (by omega) (by omega)
                      omega
                    exact ih_2 x_39 x_38 g_37 _ _ _ (by omega) hL_43 ha_44 (hP.sub [0, 1, 2, 3, 4, 5, 6, 7, 8, 9, 10, 11] rfl) (hD.sub [0, 1, 2, 3, 4, 5, 6, 7, 8, 9, 10, 11] rfl rfl) hS (lv_sub hl [0, 1, 3, 4, 5] rfl)
                  · skip
                    refine lv_aload_n hx hb dX6_sumFor_186 rfl (lv_at hl 3 rfl) ?_
                    refine gf_X6_9 hx hb hts hown hK hP 0 rfl rfl dX6_sumFor_187 ?_
                    refine lv_iload_n hx hb dX6_sumFor_190 rfl (lv_at hl 2 rfl) ?_
                    refine lv_iconst (v := 1) hx hb dX6_sumFor_191 (by decide) ?_
                    refine lv_isub hx hb dX6_sumFor_192 ?_
                    refine lv_topi (fun x_45 ex_45 => ?_)
                    have hi_46 : vp_in x_45 64 := by
                      have z_1 := Int32.lt_iff_toInt_lt.mp (Int32.not_le.mp c_7)
                      have z_2 := Int32.lt_iff_toInt_lt.mp c_13
                      have z_3 : ¬ (x_12 : Int32).toInt = ((-2) : Int32).toInt := fun z => c_14 (Int32.toInt_inj.mp z)
                      have z_4 : ¬ (x_12 : Int32).toInt = ((-4) : Int32).toInt := fun z => c_15 (Int32.toInt_inj.mp z)
                      have z_5 := Int32.le_iff_toInt_le.mp (Int32.not_lt.mp c_16)
                      have z_6 := Int32.le_iff_toInt_le.mp c_20
                      have z_7 := congrArg Int32.toInt c_21
                      have y_m4 : (-4 : Int32).toInt = -4 := by decide
                      have y_m3 : (-3 : Int32).toInt = -3 := by decide
                      have y_m2 : (-2 : Int32).toInt = -2 := by decide
                      have y_0 : (0 : Int32).toInt = 0 := by decide
                      have y_2 : (2 : Int32).toInt = 2 := by decide
                      have y_64 : (64 : Int32).toInt = 64 := by decide
                      have n_0 : (nI Rn).toInt = ((Rn : Nat) : Int) := nI_toInt (by omega)
                      have y_1 : (1 : Int32).toInt = 1 := by decide
                      have t_x_45 : x_45.toInt = (yy_601 : Int32).toInt - (1 : Int32).toInt := by rw [ex_45]; exact sub_toInt (by omega) (by omega)
                      refine vp_in_iff.mpr ⟨?_, ?_⟩ <;> omega
                    refine va_lald hx hb hK hP 2 1 rfl rfl hi_46 dX6_sumFor_193 ?_
                    refine lv_topl (fun x_47 ex_47 => ?_)
                    refine lv_lconst (v := 0) hx hb dX6_sumFor_194 (by decide) ?_
                    refine W.lcmp hx hb dX6_sumFor_195 ?_
                    refine lv_topi (fun x_48 ex_48 => ?_)
                    refine lv_if_eq (tgt := 208) hx hb dX6_sumFor_196 (by decide) (fun c_49 => ?_) (fun c_49 => ?_)
                    · skip
                      have lz_50 : (x_47 : Int64).toInt = (0 : Int64).toInt := by have hc := c_49; rw [ex_48] at hc; exact congrArg Int64.toInt ((lg_cmp_eq _ _).mp hc)
                      obtain ⟨x_51, ex_51⟩ : ∃ y : Int32, y = yy_601 + (-2) := ⟨_, rfl⟩
                      refine lv_iinc (v := x_51) (lv' := [(3, .int x_51), (5, .int x_12), (4, .int yy_600), (0, .ref (Ra 0)), (1, .ref (Aa 0)), (2, .int x1)]) hx hb dX6_sumFor_208 hl (k := 2) rfl (by rw [ex_51]; rfl) (by decide) rfl (fun ls hl₀ => ?_)
                      replace hl := hl₀
                      clear hl₀
                      refine lv_goto (tgt := 246) hx hb dX6_sumFor_211 (by decide) ?_
                      obtain ⟨x_52, ex_52⟩ : ∃ y : Int32, y = yy_600 + 1 := ⟨_, rfl⟩
                      refine lv_iinc (v := x_52) (lv' := [(4, .int x_52), (3, .int x_51), (5, .int x_12), (0, .ref (Ra 0)), (1, .ref (Aa 0)), (2, .int x1)]) hx hb dX6_sumFor_246 hl (k := 2) rfl (by rw [ex_52]; rfl) (by decide) rfl (fun ls hl₀ => ?_)
                      replace hl := hl₀
                      clear hl₀
                      refine lv_goto (tgt := 5) hx hb dX6_sumFor_249 (by decide) ?_
                      have hb_53 : 400 - (x_52 : Int32).toInt < 400 - (yy_600 : Int32).toInt ∧ 1 ≤ 400 - (yy_600 : Int32).toInt := by
                        have z_1 := Int32.lt_iff_toInt_lt.mp (Int32.not_le.mp c_7)
                        have z_2 := Int32.lt_iff_toInt_lt.mp c_13
                        have z_3 : ¬ (x_12 : Int32).toInt = ((-2) : Int32).toInt := fun z => c_14 (Int32.toInt_inj.mp z)
                        have z_4 : ¬ (x_12 : Int32).toInt = ((-4) : Int32).toInt := fun z => c_15 (Int32.toInt_inj.mp z)
                        have z_5 := Int32.le_iff_toInt_le.mp (Int32.not_lt.mp c_16)
                        have z_6 := Int32.le_iff_toInt_le.mp c_20
                        have z_7 := congrArg Int32.toInt c_21
                        have z_8 := congrArg Int32.toInt c_49
                        have y_m4 : (-4 : Int32).toInt = -4 := by decide
                        have y_m3 : (-3 : Int32).toInt = -3 := by decide
                        have y_m2 : (-2 : Int32).toInt = -2 := by decide
                        have y_0 : (0 : Int32).toInt = 0 := by decide
                        have y_2 : (2 : Int32).toInt = 2 := by decide
                        have y_64 : (64 : Int32).toInt = 64 := by decide
                        have n_0 : (nI Rn).toInt = ((Rn : Nat) : Int) := nI_toInt (by omega)
                        have y_1 : (1 : Int32).toInt = 1 := by decide
                        have t_x_52 : x_52.toInt = (yy_600 : Int32).toInt + (1 : Int32).toInt := by rw [ex_52]; exact add_toInt (by omega) (by omega)
                        omega
                      have hm_54 : (400 - (yy_600 : Int32).toInt).toNat = (400 - (x_52 : Int32).toInt).toNat + 1 := by
                        have z_1 := Int32.lt_iff_toInt_lt.mp (Int32.not_le.mp c_7)
                        have z_2 := Int32.lt_iff_toInt_lt.mp c_13
                        have z_3 : ¬ (x_12 : Int32).toInt = ((-2) : Int32).toInt := fun z => c_14 (Int32.toInt_inj.mp z)
                        have z_4 : ¬ (x_12 : Int32).toInt = ((-4) : Int32).toInt := fun z => c_15 (Int32.toInt_inj.mp z)
                        have z_5 := Int32.le_iff_toInt_le.mp (Int32.not_lt.mp c_16)
                        have z_6 := Int32.le_iff_toInt_le.mp c_20
                        have z_7 := congrArg Int32.toInt c_21
                        have z_8 := congrArg Int32.toInt c_49
                        have y_m4 : (-4 : Int32).toInt = -4 := by decide
                        have y_m3 : (-3 : Int32).toInt = -3 := by decide
                        have y_m2 : (-2 : Int32).toInt = -2 := by decide
                        have y_0 : (0 : Int32).toInt = 0 := by decide
                        have y_2 : (2 : Int32).toInt = 2 := by decide
                        have y_64 : (64 : Int32).toInt = 64 := by decide
                        have n_0 : (nI Rn).toInt = ((Rn : Nat) : Int) := nI_toInt (by omega)
                        have y_1 : (1 : Int32).toInt = 1 := by decide
                        have t_x_52 : x_52.toInt = (yy_600 : Int32).toInt + (1 : Int32).toInt := by rw [ex_52]; exact add_toInt (by omega) (by omega)
                        omega
                      have hb_55 : dX6_sumFor_l5 (Af 1) (Af 3) (Af 4) (Af 5) (Af 6) (Af 7) (Af 8) (Av 0) (Av 2) (Av 3) (Av 4) (Av 5) (Rf 1) Rn x1 ((400 - (yy_600 : Int32).toInt).toNat + 1) yy_600 yy_601 yy_602 = dX6_sumFor_l5 (Af 1) (Af 3) (Af 4) (Af 5) (Af 6) (Af 7) (Af 8) (Av 0) (Av 2) (Av 3) (Av 4) (Av 5) (Rf 1) Rn x1 ((400 - (yy_600 : Int32).toInt).toNat) x_52 x_51 yy_602 := by
                        clear hP hD hS hl ih_2
                        replace ex_12 := ex_12.symm; subst ex_12
                        replace ex_45 := ex_45.symm; subst ex_45
                        replace ex_47 := ex_47.symm; subst ex_47
                        replace ex_48 := ex_48.symm; subst ex_48
                        replace ex_51 := ex_51.symm; subst ex_51
                        replace ex_52 := ex_52.symm; subst ex_52
                        rw [dX6_sumFor_l5_s]
                        rw [if_neg c_7, if_pos c_13, if_neg c_14, if_neg c_15, if_neg c_16, if_pos c_20, if_pos c_21, if_pos c_49]
                        try rfl
                      have hL_56 : (dX6_sumFor_l5 (Af 1) (Af 3) (Af 4) (Af 5) (Af 6) (Af 7) (Af 8) (Av 0) (Av 2) (Av 3) (Av 4) (Av 5) (Rf 1) Rn x1 ((400 - (0 : Int32).toInt).toNat + 1) (0 : Int32) (0 : Int32) (Rg 2)) = dX6_sumFor_l5 (Af 1) (Af 3) (Af 4) (Af 5) (Af 6) (Af 7) (Af 8) (Av 0) (Av 2) (Av 3) (Av 4) (Av 5) (Rf 1) Rn x1 ((400 - (x_52 : Int32).toInt).toNat + 1) x_52 x_51 yy_602 := by
                        rw [hL_5, hb_55, hm_54]
                      have ha_57 : 0 ≤ (x_52 : Int32).toInt := by
                        have z_1 := Int32.lt_iff_toInt_lt.mp (Int32.not_le.mp c_7)
                        have z_2 := Int32.lt_iff_toInt_lt.mp c_13
                        have z_3 : ¬ (x_12 : Int32).toInt = ((-2) : Int32).toInt := fun z => c_14 (Int32.toInt_inj.mp z)
                        have z_4 : ¬ (x_12 : Int32).toInt = ((-4) : Int32).toInt := fun z => c_15 (Int32.toInt_inj.mp z)
                        have z_5 := Int32.le_iff_toInt_le.mp (Int32.not_lt.mp c_16)
                        have z_6 := Int32.le_iff_toInt_le.mp c_20
                        have z_7 := congrArg Int32.toInt c_21
                        have z_8 := congrArg Int32.toInt c_49
                        have y_m4 : (-4 : Int32).toInt = -4 := by decide
                        have y_m3 : (-3 : Int32).toInt = -3 := by decide
                        have y_m2 : (-2 : Int32).toInt = -2 := by decide
                        have y_0 : (0 : Int32).toInt = 0 := by decide
                        have y_2 : (2 : Int32).toInt = 2 := by decide
                        have y_64 : (64 : Int32).toInt = 64 := by decide
                        have n_0 : (nI Rn).toInt = ((Rn : Nat) : Int) := nI_toInt (by omega)
                        have y_1 : (1 : Int32).toInt = 1 := by decide
                        have t_x_52 : x_52.toInt = (yy_600 : Int32).toInt + (1 : Int32).toInt := by rw [ex_52]; exact add_toInt (by omega) (by omega)
                        omega
                      exact ih_2 x_52 x_51 yy_602 _ _ _ (by omega) hL_56 ha_57 (hP.sub [0, 1, 2, 3, 4, 5, 6, 7, 8, 9, 10, 11] rfl) (hD.sub [0, 1, 2, 3, 4, 5, 6, 7, 8, 9, 10, 11] rfl rfl) hS (lv_sub hl [0, 1, 3, 4, 5] rfl)
                    · skip
                      refine lv_aload_n hx hb dX6_sumFor_199 rfl (lv_at hl 3 rfl) ?_
                      refine gf_X6_9 hx hb hts hown hK hP 0 rfl rfl dX6_sumFor_200 ?_
                      refine lv_iload_n hx hb dX6_sumFor_203 rfl (lv_at hl 2 rfl) ?_
                      refine lv_iconst (v := 2) hx hb dX6_sumFor_204 (by decide) ?_
                      refine lv_isub hx hb dX6_sumFor_205 ?_
                      refine lv_topi (fun x_59 ex_59 => ?_)
                      have hi_60 : vp_in x_59 64 := by
                        have z_1 := Int32.lt_iff_toInt_lt.mp (Int32.not_le.mp c_7)
                        have z_2 := Int32.lt_iff_toInt_lt.mp c_13
                        have z_3 : ¬ (x_12 : Int32).toInt = ((-2) : Int32).toInt := fun z => c_14 (Int32.toInt_inj.mp z)
                        have z_4 : ¬ (x_12 : Int32).toInt = ((-4) : Int32).toInt := fun z => c_15 (Int32.toInt_inj.mp z)
                        have z_5 := Int32.le_iff_toInt_le.mp (Int32.not_lt.mp c_16)
                        have z_6 := Int32.le_iff_toInt_le.mp c_20
                        have z_7 := congrArg Int32.toInt c_21
                        have z_8 : ¬ (x_48 : Int32).toInt = (0 : Int32).toInt := fun z => c_49 (Int32.toInt_inj.mp z)
                        have y_m4 : (-4 : Int32).toInt = -4 := by decide
                        have y_m3 : (-3 : Int32).toInt = -3 := by decide
                        have y_m2 : (-2 : Int32).toInt = -2 := by decide
                        have y_0 : (0 : Int32).toInt = 0 := by decide
                        have y_2 : (2 : Int32).toInt = 2 := by decide
                        have y_64 : (64 : Int32).toInt = 64 := by decide
                        have n_0 : (nI Rn).toInt = ((Rn : Nat) : Int) := nI_toInt (by omega)
                        have t_x_59 : x_59.toInt = (yy_601 : Int32).toInt - (2 : Int32).toInt := by rw [ex_59]; exact sub_toInt (by omega) (by omega)
                        refine vp_in_iff.mpr ⟨?_, ?_⟩ <;> omega
                      refine va_lald hx hb hK hP 2 1 rfl rfl hi_60 dX6_sumFor_206 ?_
                      refine lv_topl (fun x_61 ex_61 => ?_)
                      have hb_63 : dX6_sumFor_l5 (Af 1) (Af 3) (Af 4) (Af 5) (Af 6) (Af 7) (Af 8) (Av 0) (Av 2) (Av 3) (Av 4) (Av 5) (Rf 1) Rn x1 ((400 - (yy_600 : Int32).toInt).toNat + 1) yy_600 yy_601 yy_602 = ((1 : Int32), x_61, yy_600, yy_601, yy_602) := by
                        clear hP hD hS hl ih_2
                        replace ex_12 := ex_12.symm; subst ex_12
                        replace ex_45 := ex_45.symm; subst ex_45
                        replace ex_47 := ex_47.symm; subst ex_47
                        replace ex_48 := ex_48.symm; subst ex_48
                        replace ex_59 := ex_59.symm; subst ex_59
                        replace ex_61 := ex_61.symm; subst ex_61
                        rw [dX6_sumFor_l5_s]
                        rw [if_neg c_7, if_pos c_13, if_neg c_14, if_neg c_15, if_neg c_16, if_pos c_20, if_pos c_21, if_neg c_49]
                        try rfl
                      have hX_62 : (dX6_sumFor_l5 (Af 1) (Af 3) (Af 4) (Af 5) (Af 6) (Af 7) (Af 8) (Av 0) (Av 2) (Av 3) (Av 4) (Av 5) (Rf 1) Rn x1 ((400 - (0 : Int32).toInt).toNat + 1) (0 : Int32) (0 : Int32) (Rg 2)) = ((1 : Int32), x_61, yy_600, yy_601, yy_602) := hL_5.trans hb_63
                      have hX_62_0 : (dX6_sumFor_l5 (Af 1) (Af 3) (Af 4) (Af 5) (Af 6) (Af 7) (Af 8) (Av 0) (Av 2) (Av 3) (Av 4) (Av 5) (Rf 1) Rn x1 ((400 - (0 : Int32).toInt).toNat + 1) (0 : Int32) (0 : Int32) (Rg 2)).1 = (1 : Int32) := congrArg (fun z => z.1) hX_62
                      have hX_62_1 : (dX6_sumFor_l5 (Af 1) (Af 3) (Af 4) (Af 5) (Af 6) (Af 7) (Af 8) (Av 0) (Av 2) (Av 3) (Av 4) (Av 5) (Rf 1) Rn x1 ((400 - (0 : Int32).toInt).toNat + 1) (0 : Int32) (0 : Int32) (Rg 2)).2.1 = x_61 := congrArg (fun z => z.2.1) hX_62
                      have hX_62_2 : (dX6_sumFor_l5 (Af 1) (Af 3) (Af 4) (Af 5) (Af 6) (Af 7) (Af 8) (Av 0) (Av 2) (Av 3) (Av 4) (Av 5) (Rf 1) Rn x1 ((400 - (0 : Int32).toInt).toNat + 1) (0 : Int32) (0 : Int32) (Rg 2)).2.2.1 = yy_600 := congrArg (fun z => z.2.2.1) hX_62
                      have hX_62_3 : (dX6_sumFor_l5 (Af 1) (Af 3) (Af 4) (Af 5) (Af 6) (Af 7) (Af 8) (Av 0) (Av 2) (Av 3) (Av 4) (Av 5) (Rf 1) Rn x1 ((400 - (0 : Int32).toInt).toNat + 1) (0 : Int32) (0 : Int32) (Rg 2)).2.2.2.1 = yy_601 := congrArg (fun z => z.2.2.2.1) hX_62
                      have hX_62_4 : (dX6_sumFor_l5 (Af 1) (Af 3) (Af 4) (Af 5) (Af 6) (Af 7) (Af 8) (Av 0) (Av 2) (Av 3) (Av 4) (Av 5) (Rf 1) Rn x1 ((400 - (0 : Int32).toInt).toNat + 1) (0 : Int32) (0 : Int32) (Rg 2)).2.2.2.2 = yy_602 := congrArg (fun z => z.2.2.2.2) hX_62
                      have hF_64 : (x_61, yy_602) = (dX6_sumFor (Af 1) (Af 3) (Af 4) (Af 5) (Af 6) (Af 7) (Af 8) (Av 0) (Av 2) (Av 3) (Av 4) (Av 5) (Rf 1) (Rg 2) x1 Rn) := by
                        clear hP hD hS hl ih_2
                        replace ex_12 := ex_12.symm; subst ex_12
                        replace ex_45 := ex_45.symm; subst ex_45
                        replace ex_47 := ex_47.symm; subst ex_47
                        replace ex_48 := ex_48.symm; subst ex_48
                        replace ex_59 := ex_59.symm; subst ex_59
                        replace ex_61 := ex_61.symm; subst ex_61
                        unfold dX6_sumFor
                        try rw [hX_62_0]
                        try rw [hX_62_1]
                        try rw [hX_62_2]
                        try rw [hX_62_3]
                        try rw [hX_62_4]
                        rw [if_pos (show (1 : Int32) = (1 : Int32) from rfl)]
                        try rfl
                      exact retL (v := x_61) hx hb hr hlk hP hD hS yy_602 ⟨_, rfl, ⟨trivial, hF_64⟩⟩ [0, 1, 2, 3, 4, 5, 6, 7, 8, 9, 10, 11] rfl rfl dX6_sumFor_207 (Nat.le_of_ble_eq_true rfl) (Nat.le_of_ble_eq_true rfl) rfl
                · skip
                  refine lv_lconst (v := 0) hx hb dX6_sumFor_177 (by decide) ?_
                  have hb_66 : dX6_sumFor_l5 (Af 1) (Af 3) (Af 4) (Af 5) (Af 6) (Af 7) (Af 8) (Av 0) (Av 2) (Av 3) (Av 4) (Av 5) (Rf 1) Rn x1 ((400 - (yy_600 : Int32).toInt).toNat + 1) yy_600 yy_601 yy_602 = ((1 : Int32), (0 : Int64), yy_600, yy_601, yy_602) := by
                    clear hP hD hS hl ih_2
                    replace ex_12 := ex_12.symm; subst ex_12
                    rw [dX6_sumFor_l5_s]
                    rw [if_neg c_7, if_pos c_13, if_neg c_14, if_neg c_15, if_neg c_16, if_neg c_20]
                    try rfl
                  have hX_65 : (dX6_sumFor_l5 (Af 1) (Af 3) (Af 4) (Af 5) (Af 6) (Af 7) (Af 8) (Av 0) (Av 2) (Av 3) (Av 4) (Av 5) (Rf 1) Rn x1 ((400 - (0 : Int32).toInt).toNat + 1) (0 : Int32) (0 : Int32) (Rg 2)) = ((1 : Int32), (0 : Int64), yy_600, yy_601, yy_602) := hL_5.trans hb_66
                  have hX_65_0 : (dX6_sumFor_l5 (Af 1) (Af 3) (Af 4) (Af 5) (Af 6) (Af 7) (Af 8) (Av 0) (Av 2) (Av 3) (Av 4) (Av 5) (Rf 1) Rn x1 ((400 - (0 : Int32).toInt).toNat + 1) (0 : Int32) (0 : Int32) (Rg 2)).1 = (1 : Int32) := congrArg (fun z => z.1) hX_65
                  have hX_65_1 : (dX6_sumFor_l5 (Af 1) (Af 3) (Af 4) (Af 5) (Af 6) (Af 7) (Af 8) (Av 0) (Av 2) (Av 3) (Av 4) (Av 5) (Rf 1) Rn x1 ((400 - (0 : Int32).toInt).toNat + 1) (0 : Int32) (0 : Int32) (Rg 2)).2.1 = (0 : Int64) := congrArg (fun z => z.2.1) hX_65
                  have hX_65_2 : (dX6_sumFor_l5 (Af 1) (Af 3) (Af 4) (Af 5) (Af 6) (Af 7) (Af 8) (Av 0) (Av 2) (Av 3) (Av 4) (Av 5) (Rf 1) Rn x1 ((400 - (0 : Int32).toInt).toNat + 1) (0 : Int32) (0 : Int32) (Rg 2)).2.2.1 = yy_600 := congrArg (fun z => z.2.2.1) hX_65
                  have hX_65_3 : (dX6_sumFor_l5 (Af 1) (Af 3) (Af 4) (Af 5) (Af 6) (Af 7) (Af 8) (Av 0) (Av 2) (Av 3) (Av 4) (Av 5) (Rf 1) Rn x1 ((400 - (0 : Int32).toInt).toNat + 1) (0 : Int32) (0 : Int32) (Rg 2)).2.2.2.1 = yy_601 := congrArg (fun z => z.2.2.2.1) hX_65
                  have hX_65_4 : (dX6_sumFor_l5 (Af 1) (Af 3) (Af 4) (Af 5) (Af 6) (Af 7) (Af 8) (Av 0) (Av 2) (Av 3) (Av 4) (Av 5) (Rf 1) Rn x1 ((400 - (0 : Int32).toInt).toNat + 1) (0 : Int32) (0 : Int32) (Rg 2)).2.2.2.2 = yy_602 := congrArg (fun z => z.2.2.2.2) hX_65
                  have hF_67 : ((0 : Int64), yy_602) = (dX6_sumFor (Af 1) (Af 3) (Af 4) (Af 5) (Af 6) (Af 7) (Af 8) (Av 0) (Av 2) (Av 3) (Av 4) (Av 5) (Rf 1) (Rg 2) x1 Rn) := by
                    clear hP hD hS hl ih_2
                    replace ex_12 := ex_12.symm; subst ex_12
                    unfold dX6_sumFor
                    try rw [hX_65_0]
                    try rw [hX_65_1]
                    try rw [hX_65_2]
                    try rw [hX_65_3]
                    try rw [hX_65_4]
                    rw [if_pos (show (1 : Int32) = (1 : Int32) from rfl)]
                    try rfl
                  exact retL (v := 0) hx hb hr hlk hP hD hS yy_602 ⟨_, rfl, ⟨trivial, hF_67⟩⟩ [0, 1, 2, 3, 4, 5, 6, 7, 8, 9, 10, 11] rfl rfl dX6_sumFor_178 (Nat.le_of_ble_eq_true rfl) (Nat.le_of_ble_eq_true rfl) rfl
            · skip
              refine lv_iload_n hx hb dX6_sumFor_120 rfl (lv_at hl 2 rfl) ?_
              refine lv_iconst (v := 1) hx hb dX6_sumFor_121 (by decide) ?_
              refine lv_icmp_lt (tgt := 246) hx hb dX6_sumFor_122 (by decide) (fun c_68 => ?_) (fun c_68 => ?_)
              · skip
                obtain ⟨x_69, ex_69⟩ : ∃ y : Int32, y = yy_600 + 1 := ⟨_, rfl⟩
                refine lv_iinc (v := x_69) (lv' := [(4, .int x_69), (5, .int x_12), (3, .int yy_601), (0, .ref (Ra 0)), (1, .ref (Aa 0)), (2, .int x1)]) hx hb dX6_sumFor_246 hl (k := 1) rfl (by rw [ex_69]; rfl) (by decide) rfl (fun ls hl₀ => ?_)
                replace hl := hl₀
                clear hl₀
                refine lv_goto (tgt := 5) hx hb dX6_sumFor_249 (by decide) ?_
                have hb_70 : 400 - (x_69 : Int32).toInt < 400 - (yy_600 : Int32).toInt ∧ 1 ≤ 400 - (yy_600 : Int32).toInt := by
                  have z_1 := Int32.lt_iff_toInt_lt.mp (Int32.not_le.mp c_7)
                  have z_2 := Int32.lt_iff_toInt_lt.mp c_13
                  have z_3 : ¬ (x_12 : Int32).toInt = ((-2) : Int32).toInt := fun z => c_14 (Int32.toInt_inj.mp z)
                  have z_4 := congrArg Int32.toInt c_15
                  have z_5 := Int32.lt_iff_toInt_lt.mp c_68
                  have y_m4 : (-4 : Int32).toInt = -4 := by decide
                  have y_m2 : (-2 : Int32).toInt = -2 := by decide
                  have y_0 : (0 : Int32).toInt = 0 := by decide
                  have y_1 : (1 : Int32).toInt = 1 := by decide
                  have n_0 : (nI Rn).toInt = ((Rn : Nat) : Int) := nI_toInt (by omega)
                  have t_x_69 : x_69.toInt = (yy_600 : Int32).toInt + (1 : Int32).toInt := by rw [ex_69]; exact add_toInt (by omega) (by omega)
                  omega
                have hm_71 : (400 - (yy_600 : Int32).toInt).toNat = (400 - (x_69 : Int32).toInt).toNat + 1 := by
                  have z_1 := Int32.lt_iff_toInt_lt.mp (Int32.not_le.mp c_7)
                  have z_2 := Int32.lt_iff_toInt_lt.mp c_13
                  have z_3 : ¬ (x_12 : Int32).toInt = ((-2) : Int32).toInt := fun z => c_14 (Int32.toInt_inj.mp z)
                  have z_4 := congrArg Int32.toInt c_15
                  have z_5 := Int32.lt_iff_toInt_lt.mp c_68
                  have y_m4 : (-4 : Int32).toInt = -4 := by decide
                  have y_m2 : (-2 : Int32).toInt = -2 := by decide
                  have y_0 : (0 : Int32).toInt = 0 := by decide
                  have y_1 : (1 : Int32).toInt = 1 := by decide
                  have n_0 : (nI Rn).toInt = ((Rn : Nat) : Int) := nI_toInt (by omega)
                  have t_x_69 : x_69.toInt = (yy_600 : Int32).toInt + (1 : Int32).toInt := by rw [ex_69]; exact add_toInt (by omega) (by omega)
                  omega
                have hb_72 : dX6_sumFor_l5 (Af 1) (Af 3) (Af 4) (Af 5) (Af 6) (Af 7) (Af 8) (Av 0) (Av 2) (Av 3) (Av 4) (Av 5) (Rf 1) Rn x1 ((400 - (yy_600 : Int32).toInt).toNat + 1) yy_600 yy_601 yy_602 = dX6_sumFor_l5 (Af 1) (Af 3) (Af 4) (Af 5) (Af 6) (Af 7) (Af 8) (Av 0) (Av 2) (Av 3) (Av 4) (Av 5) (Rf 1) Rn x1 ((400 - (yy_600 : Int32).toInt).toNat) x_69 yy_601 yy_602 := by
                  clear hP hD hS hl ih_2
                  replace ex_12 := ex_12.symm; subst ex_12
                  replace ex_69 := ex_69.symm; subst ex_69
                  rw [dX6_sumFor_l5_s]
                  rw [if_neg c_7, if_pos c_13, if_neg c_14, if_pos c_15, if_pos c_68]
                  try rfl
                have hL_73 : (dX6_sumFor_l5 (Af 1) (Af 3) (Af 4) (Af 5) (Af 6) (Af 7) (Af 8) (Av 0) (Av 2) (Av 3) (Av 4) (Av 5) (Rf 1) Rn x1 ((400 - (0 : Int32).toInt).toNat + 1) (0 : Int32) (0 : Int32) (Rg 2)) = dX6_sumFor_l5 (Af 1) (Af 3) (Af 4) (Af 5) (Af 6) (Af 7) (Af 8) (Av 0) (Av 2) (Av 3) (Av 4) (Av 5) (Rf 1) Rn x1 ((400 - (x_69 : Int32).toInt).toNat + 1) x_69 yy_601 yy_602 := by
                  rw [hL_5, hb_72, hm_71]
                have ha_74 : 0 ≤ (x_69 : Int32).toInt := by
                  have z_1 := Int32.lt_iff_toInt_lt.mp (Int32.not_le.mp c_7)
                  have z_2 := Int32.lt_iff_toInt_lt.mp c_13
                  have z_3 : ¬ (x_12 : Int32).toInt = ((-2) : Int32).toInt := fun z => c_14 (Int32.toInt_inj.mp z)
                  have z_4 := congrArg Int32.toInt c_15
                  have z_5 := Int32.lt_iff_toInt_lt.mp c_68
                  have y_m4 : (-4 : Int32).toInt = -4 := by decide
                  have y_m2 : (-2 : Int32).toInt = -2 := by decide
                  have y_0 : (0 : Int32).toInt = 0 := by decide
                  have y_1 : (1 : Int32).toInt = 1 := by decide
                  have n_0 : (nI Rn).toInt = ((Rn : Nat) : Int) := nI_toInt (by omega)
                  have t_x_69 : x_69.toInt = (yy_600 : Int32).toInt + (1 : Int32).toInt := by rw [ex_69]; exact add_toInt (by omega) (by omega)
                  omega
                exact ih_2 x_69 yy_601 yy_602 _ _ _ (by omega) hL_73 ha_74 (hP.sub [0, 1, 2, 3, 4, 5, 6, 7, 8, 9, 10, 11] rfl) (hD.sub [0, 1, 2, 3, 4, 5, 6, 7, 8, 9, 10, 11] rfl rfl) hS (lv_sub hl [0, 2, 3, 4, 5] rfl)
              · skip
                refine lv_iload_n hx hb dX6_sumFor_125 rfl (lv_at hl 2 rfl) ?_
                refine lv_aload_n hx hb dX6_sumFor_126 rfl (lv_at hl 3 rfl) ?_
                refine gf_X6_9 hx hb hts hown hK hP 0 rfl rfl dX6_sumFor_127 ?_
                refine va_alen hx hb hK hP 2 1 rfl rfl (v := 64) rfl dX6_sumFor_130 ?_
                refine lv_icmp_gt (tgt := 246) hx hb dX6_sumFor_131 (by decide) (fun c_75 => ?_) (fun c_75 => ?_)
                · skip
                  obtain ⟨x_76, ex_76⟩ : ∃ y : Int32, y = yy_600 + 1 := ⟨_, rfl⟩
                  refine lv_iinc (v := x_76) (lv' := [(4, .int x_76), (5, .int x_12), (3, .int yy_601), (0, .ref (Ra 0)), (1, .ref (Aa 0)), (2, .int x1)]) hx hb dX6_sumFor_246 hl (k := 1) rfl (by rw [ex_76]; rfl) (by decide) rfl (fun ls hl₀ => ?_)
                  replace hl := hl₀
                  clear hl₀
                  refine lv_goto (tgt := 5) hx hb dX6_sumFor_249 (by decide) ?_
                  have hb_77 : 400 - (x_76 : Int32).toInt < 400 - (yy_600 : Int32).toInt ∧ 1 ≤ 400 - (yy_600 : Int32).toInt := by
                    have z_1 := Int32.lt_iff_toInt_lt.mp (Int32.not_le.mp c_7)
                    have z_2 := Int32.lt_iff_toInt_lt.mp c_13
                    have z_3 : ¬ (x_12 : Int32).toInt = ((-2) : Int32).toInt := fun z => c_14 (Int32.toInt_inj.mp z)
                    have z_4 := congrArg Int32.toInt c_15
                    have z_5 := Int32.le_iff_toInt_le.mp (Int32.not_lt.mp c_68)
                    have z_6 := Int32.lt_iff_toInt_lt.mp c_75
                    have y_m4 : (-4 : Int32).toInt = -4 := by decide
                    have y_m2 : (-2 : Int32).toInt = -2 := by decide
                    have y_0 : (0 : Int32).toInt = 0 := by decide
                    have y_1 : (1 : Int32).toInt = 1 := by decide
                    have y_64 : (64 : Int32).toInt = 64 := by decide
                    have n_0 : (nI Rn).toInt = ((Rn : Nat) : Int) := nI_toInt (by omega)
                    have t_x_76 : x_76.toInt = (yy_600 : Int32).toInt + (1 : Int32).toInt := by rw [ex_76]; exact add_toInt (by omega) (by omega)
                    omega
                  have hm_78 : (400 - (yy_600 : Int32).toInt).toNat = (400 - (x_76 : Int32).toInt).toNat + 1 := by
                    have z_1 := Int32.lt_iff_toInt_lt.mp (Int32.not_le.mp c_7)
                    have z_2 := Int32.lt_iff_toInt_lt.mp c_13
                    have z_3 : ¬ (x_12 : Int32).toInt = ((-2) : Int32).toInt := fun z => c_14 (Int32.toInt_inj.mp z)
                    have z_4 := congrArg Int32.toInt c_15
                    have z_5 := Int32.le_iff_toInt_le.mp (Int32.not_lt.mp c_68)
                    have z_6 := Int32.lt_iff_toInt_lt.mp c_75
                    have y_m4 : (-4 : Int32).toInt = -4 := by decide
                    have y_m2 : (-2 : Int32).toInt = -2 := by decide
                    have y_0 : (0 : Int32).toInt = 0 := by decide
                    have y_1 : (1 : Int32).toInt = 1 := by decide
                    have y_64 : (64 : Int32).toInt = 64 := by decide
                    have n_0 : (nI Rn).toInt = ((Rn : Nat) : Int) := nI_toInt (by omega)
                    have t_x_76 : x_76.toInt = (yy_600 : Int32).toInt + (1 : Int32).toInt := by rw [ex_76]; exact add_toInt (by omega) (by omega)
                    omega
                  have hb_79 : dX6_sumFor_l5 (Af 1) (Af 3) (Af 4) (Af 5) (Af 6) (Af 7) (Af 8) (Av 0) (Av 2) (Av 3) (Av 4) (Av 5) (Rf 1) Rn x1 ((400 - (yy_600 : Int32).toInt).toNat + 1) yy_600 yy_601 yy_602 = dX6_sumFor_l5 (Af 1) (Af 3) (Af 4) (Af 5) (Af 6) (Af 7) (Af 8) (Av 0) (Av 2) (Av 3) (Av 4) (Av 5) (Rf 1) Rn x1 ((400 - (yy_600 : Int32).toInt).toNat) x_76 yy_601 yy_602 := by
                    clear hP hD hS hl ih_2
                    replace ex_12 := ex_12.symm; subst ex_12
                    replace ex_76 := ex_76.symm; subst ex_76
                    rw [dX6_sumFor_l5_s]
                    rw [if_neg c_7, if_pos c_13, if_neg c_14, if_pos c_15, if_neg c_68, if_pos c_75]
                    try rfl
                  have hL_80 : (dX6_sumFor_l5 (Af 1) (Af 3) (Af 4) (Af 5) (Af 6) (Af 7) (Af 8) (Av 0) (Av 2) (Av 3) (Av 4) (Av 5) (Rf 1) Rn x1 ((400 - (0 : Int32).toInt).toNat + 1) (0 : Int32) (0 : Int32) (Rg 2)) = dX6_sumFor_l5 (Af 1) (Af 3) (Af 4) (Af 5) (Af 6) (Af 7) (Af 8) (Av 0) (Av 2) (Av 3) (Av 4) (Av 5) (Rf 1) Rn x1 ((400 - (x_76 : Int32).toInt).toNat + 1) x_76 yy_601 yy_602 := by
                    rw [hL_5, hb_79, hm_78]
                  have ha_81 : 0 ≤ (x_76 : Int32).toInt := by
                    have z_1 := Int32.lt_iff_toInt_lt.mp (Int32.not_le.mp c_7)
                    have z_2 := Int32.lt_iff_toInt_lt.mp c_13
                    have z_3 : ¬ (x_12 : Int32).toInt = ((-2) : Int32).toInt := fun z => c_14 (Int32.toInt_inj.mp z)
                    have z_4 := congrArg Int32.toInt c_15
                    have z_5 := Int32.le_iff_toInt_le.mp (Int32.not_lt.mp c_68)
                    have z_6 := Int32.lt_iff_toInt_lt.mp c_75
                    have y_m4 : (-4 : Int32).toInt = -4 := by decide
                    have y_m2 : (-2 : Int32).toInt = -2 := by decide
                    have y_0 : (0 : Int32).toInt = 0 := by decide
                    have y_1 : (1 : Int32).toInt = 1 := by decide
                    have y_64 : (64 : Int32).toInt = 64 := by decide
                    have n_0 : (nI Rn).toInt = ((Rn : Nat) : Int) := nI_toInt (by omega)
                    have t_x_76 : x_76.toInt = (yy_600 : Int32).toInt + (1 : Int32).toInt := by rw [ex_76]; exact add_toInt (by omega) (by omega)
                    omega
                  exact ih_2 x_76 yy_601 yy_602 _ _ _ (by omega) hL_80 ha_81 (hP.sub [0, 1, 2, 3, 4, 5, 6, 7, 8, 9, 10, 11] rfl) (hD.sub [0, 1, 2, 3, 4, 5, 6, 7, 8, 9, 10, 11] rfl rfl) hS (lv_sub hl [0, 2, 3, 4, 5] rfl)
                · skip
                  refine lv_aload_n hx hb dX6_sumFor_134 rfl (lv_at hl 3 rfl) ?_
                  refine gf_X6_9 hx hb hts hown hK hP 0 rfl rfl dX6_sumFor_135 ?_
                  refine lv_iload_n hx hb dX6_sumFor_138 rfl (lv_at hl 2 rfl) ?_
                  refine lv_iconst (v := 1) hx hb dX6_sumFor_139 (by decide) ?_
                  refine lv_isub hx hb dX6_sumFor_140 ?_
                  refine lv_topi (fun x_82 ex_82 => ?_)
                  refine lv_aload_n hx hb dX6_sumFor_141 rfl (lv_at hl 3 rfl) ?_
                  refine gf_X6_9 hx hb hts hown hK hP 0 rfl rfl dX6_sumFor_142 ?_
                  refine lv_iload_n hx hb dX6_sumFor_145 rfl (lv_at hl 2 rfl) ?_
                  refine lv_iconst (v := 1) hx hb dX6_sumFor_146 (by decide) ?_
                  refine lv_isub hx hb dX6_sumFor_147 ?_
                  refine lv_topi (fun x_83 ex_83 => ?_)
                  have hi_84 : vp_in x_83 64 := by
                    have z_1 := Int32.lt_iff_toInt_lt.mp (Int32.not_le.mp c_7)
                    have z_2 := Int32.lt_iff_toInt_lt.mp c_13
                    have z_3 : ¬ (x_12 : Int32).toInt = ((-2) : Int32).toInt := fun z => c_14 (Int32.toInt_inj.mp z)
                    have z_4 := congrArg Int32.toInt c_15
                    have z_5 := Int32.le_iff_toInt_le.mp (Int32.not_lt.mp c_68)
                    have z_6 := Int32.le_iff_toInt_le.mp (Int32.not_lt.mp c_75)
                    have y_m4 : (-4 : Int32).toInt = -4 := by decide
                    have y_m2 : (-2 : Int32).toInt = -2 := by decide
                    have y_0 : (0 : Int32).toInt = 0 := by decide
                    have y_1 : (1 : Int32).toInt = 1 := by decide
                    have y_64 : (64 : Int32).toInt = 64 := by decide
                    have n_0 : (nI Rn).toInt = ((Rn : Nat) : Int) := nI_toInt (by omega)
                    have t_x_83 : x_83.toInt = (yy_601 : Int32).toInt - (1 : Int32).toInt := by rw [ex_83]; exact sub_toInt (by omega) (by omega)
                    refine vp_in_iff.mpr ⟨?_, ?_⟩ <;> omega
                  refine va_lald hx hb hK hP 2 1 rfl rfl hi_84 dX6_sumFor_148 ?_
                  refine lv_topl (fun x_85 ex_85 => ?_)
                  refine lv_lconst (v := 0) hx hb dX6_sumFor_149 (by decide) ?_
                  refine W.lcmp hx hb dX6_sumFor_150 ?_
                  refine lv_topi (fun x_86 ex_86 => ?_)
                  refine lv_if_ne (tgt := 158) hx hb dX6_sumFor_151 (by decide) (fun c_87 => ?_) (fun c_87 => ?_)
                  · skip
                    refine lv_lconst (v := 0) hx hb dX6_sumFor_158 (by decide) ?_
                    have hi_89 : vp_in x_82 64 := by
                      have z_1 := Int32.lt_iff_toInt_lt.mp (Int32.not_le.mp c_7)
                      have z_2 := Int32.lt_iff_toInt_lt.mp c_13
                      have z_3 : ¬ (x_12 : Int32).toInt = ((-2) : Int32).toInt := fun z => c_14 (Int32.toInt_inj.mp z)
                      have z_4 := congrArg Int32.toInt c_15
                      have z_5 := Int32.le_iff_toInt_le.mp (Int32.not_lt.mp c_68)
                      have z_6 := Int32.le_iff_toInt_le.mp (Int32.not_lt.mp c_75)
                      have z_7 : ¬ (x_86 : Int32).toInt = (0 : Int32).toInt := fun z => c_87 (Int32.toInt_inj.mp z)
                      have y_m4 : (-4 : Int32).toInt = -4 := by decide
                      have y_m2 : (-2 : Int32).toInt = -2 := by decide
                      have y_0 : (0 : Int32).toInt = 0 := by decide
                      have y_1 : (1 : Int32).toInt = 1 := by decide
                      have y_64 : (64 : Int32).toInt = 64 := by decide
                      have n_0 : (nI Rn).toInt = ((Rn : Nat) : Int) := nI_toInt (by omega)
                      have t_x_82 : x_82.toInt = (yy_601 : Int32).toInt - (1 : Int32).toInt := by rw [ex_82]; exact sub_toInt (by omega) (by omega)
                      refine vp_in_iff.mpr ⟨?_, ?_⟩ <;> omega
                    refine st_long hx hb hK hP hD hS 2 1 rfl rfl hi_89 dX6_sumFor_159 (fun g_90 H locs eg_90 hP₀ hD₀ hS₀ => ?_)
                    replace hP : va_P D classes [((Ra 0), .inr (6, [.ref (Ra 1), .ref (Ra 2)])), ((Ra 1), .inl (tc 0, Rn, .inl (Rf 1))), ((Ra 2), .inl (tc 1, 64, .inr (.inl g_90))), ((Aa 0), .inr (9, [.int (Av 0), .int (Av 1), .int (Av 2), .int (Av 3), .int (Av 4), .int (Av 5), .ref (Aa 1), .ref (Aa 2), .ref (Aa 3), .ref (Aa 4), .ref (Aa 5), .ref (Aa 6), .ref (Aa 7), .ref (Aa 8)])), ((Aa 1), .inl (tc 0, 10, .inl (Af 1))), ((Aa 2), .inl (tc 0, 10, .inl (Af 2))), ((Aa 3), .inl (tc 0, 6, .inl (Af 3))), ((Aa 4), .inl (tc 0, 6, .inl (Af 4))), ((Aa 5), .inl (tc 0, 6, .inl (Af 5))), ((Aa 6), .inl (tc 0, 6, .inl (Af 6))), ((Aa 7), .inl (tc 0, 6, .inl (Af 7))), ((Aa 8), .inl (tc 0, 6, .inl (Af 8)))] H := hP₀
                    replace hD : va_D A [((Ra 0), .inr (6, [.ref (Ra 1), .ref (Ra 2)])), ((Ra 1), .inl (tc 0, Rn, .inl (Rf 1))), ((Ra 2), .inl (tc 1, 64, .inr (.inl g_90))), ((Aa 0), .inr (9, [.int (Av 0), .int (Av 1), .int (Av 2), .int (Av 3), .int (Av 4), .int (Av 5), .ref (Aa 1), .ref (Aa 2), .ref (Aa 3), .ref (Aa 4), .ref (Aa 5), .ref (Aa 6), .ref (Aa 7), .ref (Aa 8)])), ((Aa 1), .inl (tc 0, 10, .inl (Af 1))), ((Aa 2), .inl (tc 0, 10, .inl (Af 2))), ((Aa 3), .inl (tc 0, 6, .inl (Af 3))), ((Aa 4), .inl (tc 0, 6, .inl (Af 4))), ((Aa 5), .inl (tc 0, 6, .inl (Af 5))), ((Aa 6), .inl (tc 0, 6, .inl (Af 6))), ((Aa 7), .inl (tc 0, 6, .inl (Af 7))), ((Aa 8), .inl (tc 0, 6, .inl (Af 8)))] := hD₀
                    replace hS := hS₀
                    clear hP₀ hD₀ hS₀
                    refine lv_goto (tgt := 246) hx hb dX6_sumFor_160 (by decide) ?_
                    obtain ⟨x_91, ex_91⟩ : ∃ y : Int32, y = yy_600 + 1 := ⟨_, rfl⟩
                    refine lv_iinc (v := x_91) (lv' := [(4, .int x_91), (5, .int x_12), (3, .int yy_601), (0, .ref (Ra 0)), (1, .ref (Aa 0)), (2, .int x1)]) hx hb dX6_sumFor_246 hl (k := 1) rfl (by rw [ex_91]; rfl) (by decide) rfl (fun ls hl₀ => ?_)
                    replace hl := hl₀
                    clear hl₀
                    refine lv_goto (tgt := 5) hx hb dX6_sumFor_249 (by decide) ?_
                    have hb_92 : 400 - (x_91 : Int32).toInt < 400 - (yy_600 : Int32).toInt ∧ 1 ≤ 400 - (yy_600 : Int32).toInt := by
                      have z_1 := Int32.lt_iff_toInt_lt.mp (Int32.not_le.mp c_7)
                      have z_2 := Int32.lt_iff_toInt_lt.mp c_13
                      have z_3 : ¬ (x_12 : Int32).toInt = ((-2) : Int32).toInt := fun z => c_14 (Int32.toInt_inj.mp z)
                      have z_4 := congrArg Int32.toInt c_15
                      have z_5 := Int32.le_iff_toInt_le.mp (Int32.not_lt.mp c_68)
                      have z_6 := Int32.le_iff_toInt_le.mp (Int32.not_lt.mp c_75)
                      have z_7 : ¬ (x_86 : Int32).toInt = (0 : Int32).toInt := fun z => c_87 (Int32.toInt_inj.mp z)
                      have y_m4 : (-4 : Int32).toInt = -4 := by decide
                      have y_m2 : (-2 : Int32).toInt = -2 := by decide
                      have y_0 : (0 : Int32).toInt = 0 := by decide
                      have y_1 : (1 : Int32).toInt = 1 := by decide
                      have y_64 : (64 : Int32).toInt = 64 := by decide
                      have n_0 : (nI Rn).toInt = ((Rn : Nat) : Int) := nI_toInt (by omega)
                      have t_x_91 : x_91.toInt = (yy_600 : Int32).toInt + (1 : Int32).toInt := by rw [ex_91]; exact add_toInt (by omega) (by omega)
                      omega
                    have hm_93 : (400 - (yy_600 : Int32).toInt).toNat = (400 - (x_91 : Int32).toInt).toNat + 1 := by
                      have z_1 := Int32.lt_iff_toInt_lt.mp (Int32.not_le.mp c_7)
                      have z_2 := Int32.lt_iff_toInt_lt.mp c_13
                      have z_3 : ¬ (x_12 : Int32).toInt = ((-2) : Int32).toInt := fun z => c_14 (Int32.toInt_inj.mp z)
                      have z_4 := congrArg Int32.toInt c_15
                      have z_5 := Int32.le_iff_toInt_le.mp (Int32.not_lt.mp c_68)
                      have z_6 := Int32.le_iff_toInt_le.mp (Int32.not_lt.mp c_75)
                      have z_7 : ¬ (x_86 : Int32).toInt = (0 : Int32).toInt := fun z => c_87 (Int32.toInt_inj.mp z)
                      have y_m4 : (-4 : Int32).toInt = -4 := by decide
                      have y_m2 : (-2 : Int32).toInt = -2 := by decide
                      have y_0 : (0 : Int32).toInt = 0 := by decide
                      have y_1 : (1 : Int32).toInt = 1 := by decide
                      have y_64 : (64 : Int32).toInt = 64 := by decide
                      have n_0 : (nI Rn).toInt = ((Rn : Nat) : Int) := nI_toInt (by omega)
                      have t_x_91 : x_91.toInt = (yy_600 : Int32).toInt + (1 : Int32).toInt := by rw [ex_91]; exact add_toInt (by omega) (by omega)
                      omega
                    have hb_94 : dX6_sumFor_l5 (Af 1) (Af 3) (Af 4) (Af 5) (Af 6) (Af 7) (Af 8) (Av 0) (Av 2) (Av 3) (Av 4) (Av 5) (Rf 1) Rn x1 ((400 - (yy_600 : Int32).toInt).toNat + 1) yy_600 yy_601 yy_602 = dX6_sumFor_l5 (Af 1) (Af 3) (Af 4) (Af 5) (Af 6) (Af 7) (Af 8) (Av 0) (Av 2) (Av 3) (Av 4) (Av 5) (Rf 1) Rn x1 ((400 - (yy_600 : Int32).toInt).toNat) x_91 yy_601 g_90 := by
                      clear hP hD hS hl ih_2
                      replace ex_12 := ex_12.symm; subst ex_12
                      replace ex_82 := ex_82.symm; subst ex_82
                      replace ex_83 := ex_83.symm; subst ex_83
                      replace ex_85 := ex_85.symm; subst ex_85
                      replace ex_86 := ex_86.symm; subst ex_86
                      replace eg_90 := eg_90.symm; subst eg_90
                      replace ex_91 := ex_91.symm; subst ex_91
                      rw [dX6_sumFor_l5_s]
                      rw [if_neg c_7, if_pos c_13, if_neg c_14, if_pos c_15, if_neg c_68, if_neg c_75, if_neg c_87]
                      try rfl
                    have hL_95 : (dX6_sumFor_l5 (Af 1) (Af 3) (Af 4) (Af 5) (Af 6) (Af 7) (Af 8) (Av 0) (Av 2) (Av 3) (Av 4) (Av 5) (Rf 1) Rn x1 ((400 - (0 : Int32).toInt).toNat + 1) (0 : Int32) (0 : Int32) (Rg 2)) = dX6_sumFor_l5 (Af 1) (Af 3) (Af 4) (Af 5) (Af 6) (Af 7) (Af 8) (Av 0) (Av 2) (Av 3) (Av 4) (Av 5) (Rf 1) Rn x1 ((400 - (x_91 : Int32).toInt).toNat + 1) x_91 yy_601 g_90 := by
                      rw [hL_5, hb_94, hm_93]
                    have ha_96 : 0 ≤ (x_91 : Int32).toInt := by
                      have z_1 := Int32.lt_iff_toInt_lt.mp (Int32.not_le.mp c_7)
                      have z_2 := Int32.lt_iff_toInt_lt.mp c_13
                      have z_3 : ¬ (x_12 : Int32).toInt = ((-2) : Int32).toInt := fun z => c_14 (Int32.toInt_inj.mp z)
                      have z_4 := congrArg Int32.toInt c_15
                      have z_5 := Int32.le_iff_toInt_le.mp (Int32.not_lt.mp c_68)
                      have z_6 := Int32.le_iff_toInt_le.mp (Int32.not_lt.mp c_75)
                      have z_7 : ¬ (x_86 : Int32).toInt = (0 : Int32).toInt := fun z => c_87 (Int32.toInt_inj.mp z)
                      have y_m4 : (-4 : Int32).toInt = -4 := by decide
                      have y_m2 : (-2 : Int32).toInt = -2 := by decide
                      have y_0 : (0 : Int32).toInt = 0 := by decide
                      have y_1 : (1 : Int32).toInt = 1 := by decide
                      have y_64 : (64 : Int32).toInt = 64 := by decide
                      have n_0 : (nI Rn).toInt = ((Rn : Nat) : Int) := nI_toInt (by omega)
                      have t_x_91 : x_91.toInt = (yy_600 : Int32).toInt + (1 : Int32).toInt := by rw [ex_91]; exact add_toInt (by omega) (by omega)
                      omega
                    exact ih_2 x_91 yy_601 g_90 _ _ _ (by omega) hL_95 ha_96 (hP.sub [0, 1, 2, 3, 4, 5, 6, 7, 8, 9, 10, 11] rfl) (hD.sub [0, 1, 2, 3, 4, 5, 6, 7, 8, 9, 10, 11] rfl rfl) hS (lv_sub hl [0, 2, 3, 4, 5] rfl)
                  · skip
                    have lz_97 : (x_85 : Int64).toInt = (0 : Int64).toInt := by have hc := c_87; rw [ex_86] at hc; exact congrArg Int64.toInt ((lg_cmp_eq _ _).mp hc)
                    refine lv_lconst (v := 1) hx hb dX6_sumFor_154 (by decide) ?_
                    refine lv_goto (tgt := 159) hx hb dX6_sumFor_155 (by decide) ?_
                    have hi_98 : vp_in x_82 64 := by
                      have z_1 := Int32.lt_iff_toInt_lt.mp (Int32.not_le.mp c_7)
                      have z_2 := Int32.lt_iff_toInt_lt.mp c_13
                      have z_3 : ¬ (x_12 : Int32).toInt = ((-2) : Int32).toInt := fun z => c_14 (Int32.toInt_inj.mp z)
                      have z_4 := congrArg Int32.toInt c_15
                      have z_5 := Int32.le_iff_toInt_le.mp (Int32.not_lt.mp c_68)
                      have z_6 := Int32.le_iff_toInt_le.mp (Int32.not_lt.mp c_75)
                      have z_7 := congrArg Int32.toInt c_87
                      have y_m4 : (-4 : Int32).toInt = -4 := by decide
                      have y_m2 : (-2 : Int32).toInt = -2 := by decide
                      have y_0 : (0 : Int32).toInt = 0 := by decide
                      have y_1 : (1 : Int32).toInt = 1 := by decide
                      have y_64 : (64 : Int32).toInt = 64 := by decide
                      have n_0 : (nI Rn).toInt = ((Rn : Nat) : Int) := nI_toInt (by omega)
                      have t_x_82 : x_82.toInt = (yy_601 : Int32).toInt - (1 : Int32).toInt := by rw [ex_82]; exact sub_toInt (by omega) (by omega)
                      refine vp_in_iff.mpr ⟨?_, ?_⟩ <;> omega
                    refine st_long hx hb hK hP hD hS 2 1 rfl rfl hi_98 dX6_sumFor_159 (fun g_99 H locs eg_99 hP₀ hD₀ hS₀ => ?_)
                    replace hP : va_P D classes [((Ra 0), .inr (6, [.ref (Ra 1), .ref (Ra 2)])), ((Ra 1), .inl (tc 0, Rn, .inl (Rf 1))), ((Ra 2), .inl (tc 1, 64, .inr (.inl g_99))), ((Aa 0), .inr (9, [.int (Av 0), .int (Av 1), .int (Av 2), .int (Av 3), .int (Av 4), .int (Av 5), .ref (Aa 1), .ref (Aa 2), .ref (Aa 3), .ref (Aa 4), .ref (Aa 5), .ref (Aa 6), .ref (Aa 7), .ref (Aa 8)])), ((Aa 1), .inl (tc 0, 10, .inl (Af 1))), ((Aa 2), .inl (tc 0, 10, .inl (Af 2))), ((Aa 3), .inl (tc 0, 6, .inl (Af 3))), ((Aa 4), .inl (tc 0, 6, .inl (Af 4))), ((Aa 5), .inl (tc 0, 6, .inl (Af 5))), ((Aa 6), .inl (tc 0, 6, .inl (Af 6))), ((Aa 7), .inl (tc 0, 6, .inl (Af 7))), ((Aa 8), .inl (tc 0, 6, .inl (Af 8)))] H := hP₀
                    replace hD : va_D A [((Ra 0), .inr (6, [.ref (Ra 1), .ref (Ra 2)])), ((Ra 1), .inl (tc 0, Rn, .inl (Rf 1))), ((Ra 2), .inl (tc 1, 64, .inr (.inl g_99))), ((Aa 0), .inr (9, [.int (Av 0), .int (Av 1), .int (Av 2), .int (Av 3), .int (Av 4), .int (Av 5), .ref (Aa 1), .ref (Aa 2), .ref (Aa 3), .ref (Aa 4), .ref (Aa 5), .ref (Aa 6), .ref (Aa 7), .ref (Aa 8)])), ((Aa 1), .inl (tc 0, 10, .inl (Af 1))), ((Aa 2), .inl (tc 0, 10, .inl (Af 2))), ((Aa 3), .inl (tc 0, 6, .inl (Af 3))), ((Aa 4), .inl (tc 0, 6, .inl (Af 4))), ((Aa 5), .inl (tc 0, 6, .inl (Af 5))), ((Aa 6), .inl (tc 0, 6, .inl (Af 6))), ((Aa 7), .inl (tc 0, 6, .inl (Af 7))), ((Aa 8), .inl (tc 0, 6, .inl (Af 8)))] := hD₀
                    replace hS := hS₀
                    clear hP₀ hD₀ hS₀
                    refine lv_goto (tgt := 246) hx hb dX6_sumFor_160 (by decide) ?_
                    obtain ⟨x_100, ex_100⟩ : ∃ y : Int32, y = yy_600 + 1 := ⟨_, rfl⟩
                    refine lv_iinc (v := x_100) (lv' := [(4, .int x_100), (5, .int x_12), (3, .int yy_601), (0, .ref (Ra 0)), (1, .ref (Aa 0)), (2, .int x1)]) hx hb dX6_sumFor_246 hl (k := 1) rfl (by rw [ex_100]; rfl) (by decide) rfl (fun ls hl₀ => ?_)
                    replace hl := hl₀
                    clear hl₀
                    refine lv_goto (tgt := 5) hx hb dX6_sumFor_249 (by decide) ?_
                    have hb_101 : 400 - (x_100 : Int32).toInt < 400 - (yy_600 : Int32).toInt ∧ 1 ≤ 400 - (yy_600 : Int32).toInt := by
                      have z_1 := Int32.lt_iff_toInt_lt.mp (Int32.not_le.mp c_7)
                      have z_2 := Int32.lt_iff_toInt_lt.mp c_13
                      have z_3 : ¬ (x_12 : Int32).toInt = ((-2) : Int32).toInt := fun z => c_14 (Int32.toInt_inj.mp z)
                      have z_4 := congrArg Int32.toInt c_15
                      have z_5 := Int32.le_iff_toInt_le.mp (Int32.not_lt.mp c_68)
                      have z_6 := Int32.le_iff_toInt_le.mp (Int32.not_lt.mp c_75)
                      have z_7 := congrArg Int32.toInt c_87
                      have y_m4 : (-4 : Int32).toInt = -4 := by decide
                      have y_m2 : (-2 : Int32).toInt = -2 := by decide
                      have y_0 : (0 : Int32).toInt = 0 := by decide
                      have y_1 : (1 : Int32).toInt = 1 := by decide
                      have y_64 : (64 : Int32).toInt = 64 := by decide
                      have n_0 : (nI Rn).toInt = ((Rn : Nat) : Int) := nI_toInt (by omega)
                      have t_x_100 : x_100.toInt = (yy_600 : Int32).toInt + (1 : Int32).toInt := by rw [ex_100]; exact add_toInt (by omega) (by omega)
                      omega
                    have hm_102 : (400 - (yy_600 : Int32).toInt).toNat = (400 - (x_100 : Int32).toInt).toNat + 1 := by
                      have z_1 := Int32.lt_iff_toInt_lt.mp (Int32.not_le.mp c_7)
                      have z_2 := Int32.lt_iff_toInt_lt.mp c_13
                      have z_3 : ¬ (x_12 : Int32).toInt = ((-2) : Int32).toInt := fun z => c_14 (Int32.toInt_inj.mp z)
                      have z_4 := congrArg Int32.toInt c_15
                      have z_5 := Int32.le_iff_toInt_le.mp (Int32.not_lt.mp c_68)
                      have z_6 := Int32.le_iff_toInt_le.mp (Int32.not_lt.mp c_75)
                      have z_7 := congrArg Int32.toInt c_87
                      have y_m4 : (-4 : Int32).toInt = -4 := by decide
                      have y_m2 : (-2 : Int32).toInt = -2 := by decide
                      have y_0 : (0 : Int32).toInt = 0 := by decide
                      have y_1 : (1 : Int32).toInt = 1 := by decide
                      have y_64 : (64 : Int32).toInt = 64 := by decide
                      have n_0 : (nI Rn).toInt = ((Rn : Nat) : Int) := nI_toInt (by omega)
                      have t_x_100 : x_100.toInt = (yy_600 : Int32).toInt + (1 : Int32).toInt := by rw [ex_100]; exact add_toInt (by omega) (by omega)
                      omega
                    have hb_103 : dX6_sumFor_l5 (Af 1) (Af 3) (Af 4) (Af 5) (Af 6) (Af 7) (Af 8) (Av 0) (Av 2) (Av 3) (Av 4) (Av 5) (Rf 1) Rn x1 ((400 - (yy_600 : Int32).toInt).toNat + 1) yy_600 yy_601 yy_602 = dX6_sumFor_l5 (Af 1) (Af 3) (Af 4) (Af 5) (Af 6) (Af 7) (Af 8) (Av 0) (Av 2) (Av 3) (Av 4) (Av 5) (Rf 1) Rn x1 ((400 - (yy_600 : Int32).toInt).toNat) x_100 yy_601 g_99 := by
                      clear hP hD hS hl ih_2
                      replace ex_12 := ex_12.symm; subst ex_12
                      replace ex_82 := ex_82.symm; subst ex_82
                      replace ex_83 := ex_83.symm; subst ex_83
                      replace ex_85 := ex_85.symm; subst ex_85
                      replace ex_86 := ex_86.symm; subst ex_86
                      replace eg_99 := eg_99.symm; subst eg_99
                      replace ex_100 := ex_100.symm; subst ex_100
                      rw [dX6_sumFor_l5_s]
                      rw [if_neg c_7, if_pos c_13, if_neg c_14, if_pos c_15, if_neg c_68, if_neg c_75, if_pos c_87]
                      try rfl
                    have hL_104 : (dX6_sumFor_l5 (Af 1) (Af 3) (Af 4) (Af 5) (Af 6) (Af 7) (Af 8) (Av 0) (Av 2) (Av 3) (Av 4) (Av 5) (Rf 1) Rn x1 ((400 - (0 : Int32).toInt).toNat + 1) (0 : Int32) (0 : Int32) (Rg 2)) = dX6_sumFor_l5 (Af 1) (Af 3) (Af 4) (Af 5) (Af 6) (Af 7) (Af 8) (Av 0) (Av 2) (Av 3) (Av 4) (Av 5) (Rf 1) Rn x1 ((400 - (x_100 : Int32).toInt).toNat + 1) x_100 yy_601 g_99 := by
                      rw [hL_5, hb_103, hm_102]
                    have ha_105 : 0 ≤ (x_100 : Int32).toInt := by
                      have z_1 := Int32.lt_iff_toInt_lt.mp (Int32.not_le.mp c_7)
                      have z_2 := Int32.lt_iff_toInt_lt.mp c_13
                      have z_3 : ¬ (x_12 : Int32).toInt = ((-2) : Int32).toInt := fun z => c_14 (Int32.toInt_inj.mp z)
                      have z_4 := congrArg Int32.toInt c_15
                      have z_5 := Int32.le_iff_toInt_le.mp (Int32.not_lt.mp c_68)
                      have z_6 := Int32.le_iff_toInt_le.mp (Int32.not_lt.mp c_75)
                      have z_7 := congrArg Int32.toInt c_87
                      have y_m4 : (-4 : Int32).toInt = -4 := by decide
                      have y_m2 : (-2 : Int32).toInt = -2 := by decide
                      have y_0 : (0 : Int32).toInt = 0 := by decide
                      have y_1 : (1 : Int32).toInt = 1 := by decide
                      have y_64 : (64 : Int32).toInt = 64 := by decide
                      have n_0 : (nI Rn).toInt = ((Rn : Nat) : Int) := nI_toInt (by omega)
                      have t_x_100 : x_100.toInt = (yy_600 : Int32).toInt + (1 : Int32).toInt := by rw [ex_100]; exact add_toInt (by omega) (by omega)
                      omega
                    exact ih_2 x_100 yy_601 g_99 _ _ _ (by omega) hL_104 ha_105 (hP.sub [0, 1, 2, 3, 4, 5, 6, 7, 8, 9, 10, 11] rfl) (hD.sub [0, 1, 2, 3, 4, 5, 6, 7, 8, 9, 10, 11] rfl rfl) hS (lv_sub hl [0, 2, 3, 4, 5] rfl)
          · skip
            refine lv_iload_n hx hb dX6_sumFor_86 rfl (lv_at hl 2 rfl) ?_
            refine lv_iconst (v := 1) hx hb dX6_sumFor_87 (by decide) ?_
            refine lv_icmp_lt (tgt := 111) hx hb dX6_sumFor_88 (by decide) (fun c_106 => ?_) (fun c_106 => ?_)
            · skip
              refine lv_lconst (v := 0) hx hb dX6_sumFor_111 (by decide) ?_
              have hb_108 : dX6_sumFor_l5 (Af 1) (Af 3) (Af 4) (Af 5) (Af 6) (Af 7) (Af 8) (Av 0) (Av 2) (Av 3) (Av 4) (Av 5) (Rf 1) Rn x1 ((400 - (yy_600 : Int32).toInt).toNat + 1) yy_600 yy_601 yy_602 = ((1 : Int32), (0 : Int64), yy_600, yy_601, yy_602) := by
                clear hP hD hS hl ih_2
                replace ex_12 := ex_12.symm; subst ex_12
                rw [dX6_sumFor_l5_s]
                rw [if_neg c_7, if_pos c_13, if_pos c_14, if_pos c_106]
                try rfl
              have hX_107 : (dX6_sumFor_l5 (Af 1) (Af 3) (Af 4) (Af 5) (Af 6) (Af 7) (Af 8) (Av 0) (Av 2) (Av 3) (Av 4) (Av 5) (Rf 1) Rn x1 ((400 - (0 : Int32).toInt).toNat + 1) (0 : Int32) (0 : Int32) (Rg 2)) = ((1 : Int32), (0 : Int64), yy_600, yy_601, yy_602) := hL_5.trans hb_108
              have hX_107_0 : (dX6_sumFor_l5 (Af 1) (Af 3) (Af 4) (Af 5) (Af 6) (Af 7) (Af 8) (Av 0) (Av 2) (Av 3) (Av 4) (Av 5) (Rf 1) Rn x1 ((400 - (0 : Int32).toInt).toNat + 1) (0 : Int32) (0 : Int32) (Rg 2)).1 = (1 : Int32) := congrArg (fun z => z.1) hX_107
              have hX_107_1 : (dX6_sumFor_l5 (Af 1) (Af 3) (Af 4) (Af 5) (Af 6) (Af 7) (Af 8) (Av 0) (Av 2) (Av 3) (Av 4) (Av 5) (Rf 1) Rn x1 ((400 - (0 : Int32).toInt).toNat + 1) (0 : Int32) (0 : Int32) (Rg 2)).2.1 = (0 : Int64) := congrArg (fun z => z.2.1) hX_107
              have hX_107_2 : (dX6_sumFor_l5 (Af 1) (Af 3) (Af 4) (Af 5) (Af 6) (Af 7) (Af 8) (Av 0) (Av 2) (Av 3) (Av 4) (Av 5) (Rf 1) Rn x1 ((400 - (0 : Int32).toInt).toNat + 1) (0 : Int32) (0 : Int32) (Rg 2)).2.2.1 = yy_600 := congrArg (fun z => z.2.2.1) hX_107
              have hX_107_3 : (dX6_sumFor_l5 (Af 1) (Af 3) (Af 4) (Af 5) (Af 6) (Af 7) (Af 8) (Av 0) (Av 2) (Av 3) (Av 4) (Av 5) (Rf 1) Rn x1 ((400 - (0 : Int32).toInt).toNat + 1) (0 : Int32) (0 : Int32) (Rg 2)).2.2.2.1 = yy_601 := congrArg (fun z => z.2.2.2.1) hX_107
              have hX_107_4 : (dX6_sumFor_l5 (Af 1) (Af 3) (Af 4) (Af 5) (Af 6) (Af 7) (Af 8) (Av 0) (Av 2) (Av 3) (Av 4) (Av 5) (Rf 1) Rn x1 ((400 - (0 : Int32).toInt).toNat + 1) (0 : Int32) (0 : Int32) (Rg 2)).2.2.2.2 = yy_602 := congrArg (fun z => z.2.2.2.2) hX_107
              have hF_109 : ((0 : Int64), yy_602) = (dX6_sumFor (Af 1) (Af 3) (Af 4) (Af 5) (Af 6) (Af 7) (Af 8) (Av 0) (Av 2) (Av 3) (Av 4) (Av 5) (Rf 1) (Rg 2) x1 Rn) := by
                clear hP hD hS hl ih_2
                replace ex_12 := ex_12.symm; subst ex_12
                unfold dX6_sumFor
                try rw [hX_107_0]
                try rw [hX_107_1]
                try rw [hX_107_2]
                try rw [hX_107_3]
                try rw [hX_107_4]
                rw [if_pos (show (1 : Int32) = (1 : Int32) from rfl)]
                try rfl
              exact retL (v := 0) hx hb hr hlk hP hD hS yy_602 ⟨_, rfl, ⟨trivial, hF_109⟩⟩ [0, 1, 2, 3, 4, 5, 6, 7, 8, 9, 10, 11] rfl rfl dX6_sumFor_112 (Nat.le_of_ble_eq_true rfl) (Nat.le_of_ble_eq_true rfl) rfl
            · skip
              refine lv_iload_n hx hb dX6_sumFor_91 rfl (lv_at hl 2 rfl) ?_
              refine lv_aload_n hx hb dX6_sumFor_92 rfl (lv_at hl 3 rfl) ?_
              refine gf_X6_9 hx hb hts hown hK hP 0 rfl rfl dX6_sumFor_93 ?_
              refine va_alen hx hb hK hP 2 1 rfl rfl (v := 64) rfl dX6_sumFor_96 ?_
              refine lv_icmp_gt (tgt := 111) hx hb dX6_sumFor_97 (by decide) (fun c_110 => ?_) (fun c_110 => ?_)
              · skip
                refine lv_lconst (v := 0) hx hb dX6_sumFor_111 (by decide) ?_
                have hb_112 : dX6_sumFor_l5 (Af 1) (Af 3) (Af 4) (Af 5) (Af 6) (Af 7) (Af 8) (Av 0) (Av 2) (Av 3) (Av 4) (Av 5) (Rf 1) Rn x1 ((400 - (yy_600 : Int32).toInt).toNat + 1) yy_600 yy_601 yy_602 = ((1 : Int32), (0 : Int64), yy_600, yy_601, yy_602) := by
                  clear hP hD hS hl ih_2
                  replace ex_12 := ex_12.symm; subst ex_12
                  rw [dX6_sumFor_l5_s]
                  rw [if_neg c_7, if_pos c_13, if_pos c_14, if_neg c_106, if_pos c_110]
                  try rfl
                have hX_111 : (dX6_sumFor_l5 (Af 1) (Af 3) (Af 4) (Af 5) (Af 6) (Af 7) (Af 8) (Av 0) (Av 2) (Av 3) (Av 4) (Av 5) (Rf 1) Rn x1 ((400 - (0 : Int32).toInt).toNat + 1) (0 : Int32) (0 : Int32) (Rg 2)) = ((1 : Int32), (0 : Int64), yy_600, yy_601, yy_602) := hL_5.trans hb_112
                have hX_111_0 : (dX6_sumFor_l5 (Af 1) (Af 3) (Af 4) (Af 5) (Af 6) (Af 7) (Af 8) (Av 0) (Av 2) (Av 3) (Av 4) (Av 5) (Rf 1) Rn x1 ((400 - (0 : Int32).toInt).toNat + 1) (0 : Int32) (0 : Int32) (Rg 2)).1 = (1 : Int32) := congrArg (fun z => z.1) hX_111
                have hX_111_1 : (dX6_sumFor_l5 (Af 1) (Af 3) (Af 4) (Af 5) (Af 6) (Af 7) (Af 8) (Av 0) (Av 2) (Av 3) (Av 4) (Av 5) (Rf 1) Rn x1 ((400 - (0 : Int32).toInt).toNat + 1) (0 : Int32) (0 : Int32) (Rg 2)).2.1 = (0 : Int64) := congrArg (fun z => z.2.1) hX_111
                have hX_111_2 : (dX6_sumFor_l5 (Af 1) (Af 3) (Af 4) (Af 5) (Af 6) (Af 7) (Af 8) (Av 0) (Av 2) (Av 3) (Av 4) (Av 5) (Rf 1) Rn x1 ((400 - (0 : Int32).toInt).toNat + 1) (0 : Int32) (0 : Int32) (Rg 2)).2.2.1 = yy_600 := congrArg (fun z => z.2.2.1) hX_111
                have hX_111_3 : (dX6_sumFor_l5 (Af 1) (Af 3) (Af 4) (Af 5) (Af 6) (Af 7) (Af 8) (Av 0) (Av 2) (Av 3) (Av 4) (Av 5) (Rf 1) Rn x1 ((400 - (0 : Int32).toInt).toNat + 1) (0 : Int32) (0 : Int32) (Rg 2)).2.2.2.1 = yy_601 := congrArg (fun z => z.2.2.2.1) hX_111
                have hX_111_4 : (dX6_sumFor_l5 (Af 1) (Af 3) (Af 4) (Af 5) (Af 6) (Af 7) (Af 8) (Av 0) (Av 2) (Av 3) (Av 4) (Av 5) (Rf 1) Rn x1 ((400 - (0 : Int32).toInt).toNat + 1) (0 : Int32) (0 : Int32) (Rg 2)).2.2.2.2 = yy_602 := congrArg (fun z => z.2.2.2.2) hX_111
                have hF_113 : ((0 : Int64), yy_602) = (dX6_sumFor (Af 1) (Af 3) (Af 4) (Af 5) (Af 6) (Af 7) (Af 8) (Av 0) (Av 2) (Av 3) (Av 4) (Av 5) (Rf 1) (Rg 2) x1 Rn) := by
                  clear hP hD hS hl ih_2
                  replace ex_12 := ex_12.symm; subst ex_12
                  unfold dX6_sumFor
                  try rw [hX_111_0]
                  try rw [hX_111_1]
                  try rw [hX_111_2]
                  try rw [hX_111_3]
                  try rw [hX_111_4]
                  rw [if_pos (show (1 : Int32) = (1 : Int32) from rfl)]
                  try rfl
                exact retL (v := 0) hx hb hr hlk hP hD hS yy_602 ⟨_, rfl, ⟨trivial, hF_113⟩⟩ [0, 1, 2, 3, 4, 5, 6, 7, 8, 9, 10, 11] rfl rfl dX6_sumFor_112 (Nat.le_of_ble_eq_true rfl) (Nat.le_of_ble_eq_true rfl) rfl
              · skip
                refine lv_aload_n hx hb dX6_sumFor_100 rfl (lv_at hl 3 rfl) ?_
                refine gf_X6_9 hx hb hts hown hK hP 0 rfl rfl dX6_sumFor_101 ?_
                refine lv_iload_n hx hb dX6_sumFor_104 rfl (lv_at hl 2 rfl) ?_
                refine lv_iconst (v := 1) hx hb dX6_sumFor_105 (by decide) ?_
                refine lv_isub hx hb dX6_sumFor_106 ?_
                refine lv_topi (fun x_114 ex_114 => ?_)
                have hi_115 : vp_in x_114 64 := by
                  have z_1 := Int32.lt_iff_toInt_lt.mp (Int32.not_le.mp c_7)
                  have z_2 := Int32.lt_iff_toInt_lt.mp c_13
                  have z_3 := congrArg Int32.toInt c_14
                  have z_4 := Int32.le_iff_toInt_le.mp (Int32.not_lt.mp c_106)
                  have z_5 := Int32.le_iff_toInt_le.mp (Int32.not_lt.mp c_110)
                  have y_m2 : (-2 : Int32).toInt = -2 := by decide
                  have y_0 : (0 : Int32).toInt = 0 := by decide
                  have y_1 : (1 : Int32).toInt = 1 := by decide
                  have y_64 : (64 : Int32).toInt = 64 := by decide
                  have n_0 : (nI Rn).toInt = ((Rn : Nat) : Int) := nI_toInt (by omega)
                  have t_x_114 : x_114.toInt = (yy_601 : Int32).toInt - (1 : Int32).toInt := by rw [ex_114]; exact sub_toInt (by omega) (by omega)
                  refine vp_in_iff.mpr ⟨?_, ?_⟩ <;> omega
                refine va_lald hx hb hK hP 2 1 rfl rfl hi_115 dX6_sumFor_107 ?_
                refine lv_topl (fun x_116 ex_116 => ?_)
                refine lv_goto (tgt := 112) hx hb dX6_sumFor_108 (by decide) ?_
                have hb_118 : dX6_sumFor_l5 (Af 1) (Af 3) (Af 4) (Af 5) (Af 6) (Af 7) (Af 8) (Av 0) (Av 2) (Av 3) (Av 4) (Av 5) (Rf 1) Rn x1 ((400 - (yy_600 : Int32).toInt).toNat + 1) yy_600 yy_601 yy_602 = ((1 : Int32), x_116, yy_600, yy_601, yy_602) := by
                  clear hP hD hS hl ih_2
                  replace ex_12 := ex_12.symm; subst ex_12
                  replace ex_114 := ex_114.symm; subst ex_114
                  replace ex_116 := ex_116.symm; subst ex_116
                  rw [dX6_sumFor_l5_s]
                  rw [if_neg c_7, if_pos c_13, if_pos c_14, if_neg c_106, if_neg c_110]
                  try rfl
                have hX_117 : (dX6_sumFor_l5 (Af 1) (Af 3) (Af 4) (Af 5) (Af 6) (Af 7) (Af 8) (Av 0) (Av 2) (Av 3) (Av 4) (Av 5) (Rf 1) Rn x1 ((400 - (0 : Int32).toInt).toNat + 1) (0 : Int32) (0 : Int32) (Rg 2)) = ((1 : Int32), x_116, yy_600, yy_601, yy_602) := hL_5.trans hb_118
                have hX_117_0 : (dX6_sumFor_l5 (Af 1) (Af 3) (Af 4) (Af 5) (Af 6) (Af 7) (Af 8) (Av 0) (Av 2) (Av 3) (Av 4) (Av 5) (Rf 1) Rn x1 ((400 - (0 : Int32).toInt).toNat + 1) (0 : Int32) (0 : Int32) (Rg 2)).1 = (1 : Int32) := congrArg (fun z => z.1) hX_117
                have hX_117_1 : (dX6_sumFor_l5 (Af 1) (Af 3) (Af 4) (Af 5) (Af 6) (Af 7) (Af 8) (Av 0) (Av 2) (Av 3) (Av 4) (Av 5) (Rf 1) Rn x1 ((400 - (0 : Int32).toInt).toNat + 1) (0 : Int32) (0 : Int32) (Rg 2)).2.1 = x_116 := congrArg (fun z => z.2.1) hX_117
                have hX_117_2 : (dX6_sumFor_l5 (Af 1) (Af 3) (Af 4) (Af 5) (Af 6) (Af 7) (Af 8) (Av 0) (Av 2) (Av 3) (Av 4) (Av 5) (Rf 1) Rn x1 ((400 - (0 : Int32).toInt).toNat + 1) (0 : Int32) (0 : Int32) (Rg 2)).2.2.1 = yy_600 := congrArg (fun z => z.2.2.1) hX_117
                have hX_117_3 : (dX6_sumFor_l5 (Af 1) (Af 3) (Af 4) (Af 5) (Af 6) (Af 7) (Af 8) (Av 0) (Av 2) (Av 3) (Av 4) (Av 5) (Rf 1) Rn x1 ((400 - (0 : Int32).toInt).toNat + 1) (0 : Int32) (0 : Int32) (Rg 2)).2.2.2.1 = yy_601 := congrArg (fun z => z.2.2.2.1) hX_117
                have hX_117_4 : (dX6_sumFor_l5 (Af 1) (Af 3) (Af 4) (Af 5) (Af 6) (Af 7) (Af 8) (Av 0) (Av 2) (Av 3) (Av 4) (Av 5) (Rf 1) Rn x1 ((400 - (0 : Int32).toInt).toNat + 1) (0 : Int32) (0 : Int32) (Rg 2)).2.2.2.2 = yy_602 := congrArg (fun z => z.2.2.2.2) hX_117
                have hF_119 : (x_116, yy_602) = (dX6_sumFor (Af 1) (Af 3) (Af 4) (Af 5) (Af 6) (Af 7) (Af 8) (Av 0) (Av 2) (Av 3) (Av 4) (Av 5) (Rf 1) (Rg 2) x1 Rn) := by
                  clear hP hD hS hl ih_2
                  replace ex_12 := ex_12.symm; subst ex_12
                  replace ex_114 := ex_114.symm; subst ex_114
                  replace ex_116 := ex_116.symm; subst ex_116
                  unfold dX6_sumFor
                  try rw [hX_117_0]
                  try rw [hX_117_1]
                  try rw [hX_117_2]
                  try rw [hX_117_3]
                  try rw [hX_117_4]
                  rw [if_pos (show (1 : Int32) = (1 : Int32) from rfl)]
                  try rfl
                exact retL (v := x_116) hx hb hr hlk hP hD hS yy_602 ⟨_, rfl, ⟨trivial, hF_119⟩⟩ [0, 1, 2, 3, 4, 5, 6, 7, 8, 9, 10, 11] rfl rfl dX6_sumFor_112 (Nat.le_of_ble_eq_true rfl) (Nat.le_of_ble_eq_true rfl) rfl
        · skip
          refine lv_iload_n hx hb dX6_sumFor_29 rfl (lv_at hl 2 rfl) ?_
          refine lv_if_lt (tgt := 42) hx hb dX6_sumFor_30 (by decide) (fun c_120 => ?_) (fun c_120 => ?_)
          · skip
            refine lv_lconst (v := 0) hx hb dX6_sumFor_42 (by decide) ?_
            have hb_122 : dX6_sumFor_l5 (Af 1) (Af 3) (Af 4) (Af 5) (Af 6) (Af 7) (Af 8) (Av 0) (Av 2) (Av 3) (Av 4) (Av 5) (Rf 1) Rn x1 ((400 - (yy_600 : Int32).toInt).toNat + 1) yy_600 yy_601 yy_602 = ((1 : Int32), (0 : Int64), yy_600, yy_601, yy_602) := by
              clear hP hD hS hl ih_2
              replace ex_12 := ex_12.symm; subst ex_12
              rw [dX6_sumFor_l5_s]
              rw [if_neg c_7, if_neg c_13, if_pos c_120]
              try rfl
            have hX_121 : (dX6_sumFor_l5 (Af 1) (Af 3) (Af 4) (Af 5) (Af 6) (Af 7) (Af 8) (Av 0) (Av 2) (Av 3) (Av 4) (Av 5) (Rf 1) Rn x1 ((400 - (0 : Int32).toInt).toNat + 1) (0 : Int32) (0 : Int32) (Rg 2)) = ((1 : Int32), (0 : Int64), yy_600, yy_601, yy_602) := hL_5.trans hb_122
            have hX_121_0 : (dX6_sumFor_l5 (Af 1) (Af 3) (Af 4) (Af 5) (Af 6) (Af 7) (Af 8) (Av 0) (Av 2) (Av 3) (Av 4) (Av 5) (Rf 1) Rn x1 ((400 - (0 : Int32).toInt).toNat + 1) (0 : Int32) (0 : Int32) (Rg 2)).1 = (1 : Int32) := congrArg (fun z => z.1) hX_121
            have hX_121_1 : (dX6_sumFor_l5 (Af 1) (Af 3) (Af 4) (Af 5) (Af 6) (Af 7) (Af 8) (Av 0) (Av 2) (Av 3) (Av 4) (Av 5) (Rf 1) Rn x1 ((400 - (0 : Int32).toInt).toNat + 1) (0 : Int32) (0 : Int32) (Rg 2)).2.1 = (0 : Int64) := congrArg (fun z => z.2.1) hX_121
            have hX_121_2 : (dX6_sumFor_l5 (Af 1) (Af 3) (Af 4) (Af 5) (Af 6) (Af 7) (Af 8) (Av 0) (Av 2) (Av 3) (Av 4) (Av 5) (Rf 1) Rn x1 ((400 - (0 : Int32).toInt).toNat + 1) (0 : Int32) (0 : Int32) (Rg 2)).2.2.1 = yy_600 := congrArg (fun z => z.2.2.1) hX_121
            have hX_121_3 : (dX6_sumFor_l5 (Af 1) (Af 3) (Af 4) (Af 5) (Af 6) (Af 7) (Af 8) (Av 0) (Av 2) (Av 3) (Av 4) (Av 5) (Rf 1) Rn x1 ((400 - (0 : Int32).toInt).toNat + 1) (0 : Int32) (0 : Int32) (Rg 2)).2.2.2.1 = yy_601 := congrArg (fun z => z.2.2.2.1) hX_121
            have hX_121_4 : (dX6_sumFor_l5 (Af 1) (Af 3) (Af 4) (Af 5) (Af 6) (Af 7) (Af 8) (Av 0) (Av 2) (Av 3) (Av 4) (Av 5) (Rf 1) Rn x1 ((400 - (0 : Int32).toInt).toNat + 1) (0 : Int32) (0 : Int32) (Rg 2)).2.2.2.2 = yy_602 := congrArg (fun z => z.2.2.2.2) hX_121
            have hF_123 : ((0 : Int64), yy_602) = (dX6_sumFor (Af 1) (Af 3) (Af 4) (Af 5) (Af 6) (Af 7) (Af 8) (Av 0) (Av 2) (Av 3) (Av 4) (Av 5) (Rf 1) (Rg 2) x1 Rn) := by
              clear hP hD hS hl ih_2
              replace ex_12 := ex_12.symm; subst ex_12
              unfold dX6_sumFor
              try rw [hX_121_0]
              try rw [hX_121_1]
              try rw [hX_121_2]
              try rw [hX_121_3]
              try rw [hX_121_4]
              rw [if_pos (show (1 : Int32) = (1 : Int32) from rfl)]
              try rfl
            exact retL (v := 0) hx hb hr hlk hP hD hS yy_602 ⟨_, rfl, ⟨trivial, hF_123⟩⟩ [0, 1, 2, 3, 4, 5, 6, 7, 8, 9, 10, 11] rfl rfl dX6_sumFor_43 (Nat.le_of_ble_eq_true rfl) (Nat.le_of_ble_eq_true rfl) rfl
          · skip
            refine lv_iload_n hx hb dX6_sumFor_33 rfl (lv_at hl 2 rfl) ?_
            refine lv_aload_n hx hb dX6_sumFor_34 rfl (lv_at hl 3 rfl) ?_
            refine gf_X6_9 hx hb hts hown hK hP 0 rfl rfl dX6_sumFor_35 ?_
            refine va_alen hx hb hK hP 2 1 rfl rfl (v := 64) rfl dX6_sumFor_38 ?_
            refine lv_icmp_lt (tgt := 44) hx hb dX6_sumFor_39 (by decide) (fun c_124 => ?_) (fun c_124 => ?_)
            · skip
              refine lv_aload_n hx hb dX6_sumFor_44 rfl (lv_at hl 3 rfl) ?_
              refine gf_X6_9 hx hb hts hown hK hP 0 rfl rfl dX6_sumFor_45 ?_
              refine lv_iload_n hx hb dX6_sumFor_48 rfl (lv_at hl 2 rfl) ?_
              refine lv_iload hx hb dX6_sumFor_49 (lv_at hl 0 rfl) ?_
              refine lv_ldc hx hb hown (hts _ k_757) dX6_sumFor_51 ?_
              refine lv_icmp_ge (tgt := 62) hx hb dX6_sumFor_53 (by decide) (fun c_125 => ?_) (fun c_125 => ?_)
              · skip
                refine lv_aload_n hx hb dX6_sumFor_62 rfl (lv_at hl 4 rfl) ?_
                refine lv_iload hx hb dX6_sumFor_63 (lv_at hl 0 rfl) ?_
                refine lv_ldc hx hb hown (hts _ k_757) dX6_sumFor_65 ?_
                refine lv_isub hx hb dX6_sumFor_67 ?_
                refine lv_topi (fun x_126 ex_126 => ?_)
                refine lv_iload_n hx hb dX6_sumFor_68 rfl (lv_at hl 5 rfl) ?_
                refine cV (a := (Aa 0)) (As := [.int x_126, .int x1]) (rest := [.int yy_601, .ref (Ra 2)]) (wr := [((Ra 0), .inr (6, [.ref (Ra 1), .ref (Ra 2)])), ((Ra 1), .inl (tc 0, Rn, .inl (Rf 1))), ((Ra 2), .inl (tc 1, 64, .inr (.inl yy_602)))]) ⟨hx, hb, hml, hown, hts⟩ hK hX hA (cu_dX9_wordOf l D tc sk (Aa 0) (Aa 1) (Aa 2) (Aa 3) (Aa 4) (Aa 5) (Aa 6) (Aa 7) (Aa 8) (Av 0) (Av 1) (Av 2) (Av 3) (Av 4) (Av 5) (Af 1) (Af 2) (Af 3) (Af 4) (Af 5) (Af 6) (Af 7) (Af 8) x_126 x1) k_761 k_758 k_759 k_760 k_98 pl_X9_wordOf ⟨Nat.le_of_ble_eq_true rfl, Nat.le_of_ble_eq_true rfl⟩ rfl rfl (va_recv hK hP (ci := 9) (q0 := 3) rfl rfl) hP hD hS [3, 4, 5, 6, 7, 8, 9, 10, 11] [0, 1, 2] rfl rfl rfl rfl rfl (by decide) rfl hl.1 rfl (Nat.le_of_ble_eq_true rfl) dX6_sumFor_69 ⟨Nat.le_of_ble_eq_true rfl, Nat.le_of_ble_eq_true rfl⟩ (fun v_127 u_128 H locs hv_129 hP₀ hD₀ hS₀ => ?_)
                obtain ⟨r_130, rfl, he_131⟩ := hv_129
                have he_131 : (True) ∧ r_130 = (dX9_wordOf (Af 1) (Af 3) (Af 4) (Af 5) (Af 6) (Af 7) (Af 8) (Av 0) (Av 2) (Av 3) (Av 4) (Av 5) x_126 x1) := he_131
                refine W.eq (g2 := F0 m 72 ls [.long r_130, .int yy_601, .ref (Ra 2)]) rfl ?_
                replace hP : va_P D classes [((Ra 0), .inr (6, [.ref (Ra 1), .ref (Ra 2)])), ((Ra 1), .inl (tc 0, Rn, .inl (Rf 1))), ((Ra 2), .inl (tc 1, 64, .inr (.inl yy_602))), ((Aa 0), .inr (9, [.int (Av 0), .int (Av 1), .int (Av 2), .int (Av 3), .int (Av 4), .int (Av 5), .ref (Aa 1), .ref (Aa 2), .ref (Aa 3), .ref (Aa 4), .ref (Aa 5), .ref (Aa 6), .ref (Aa 7), .ref (Aa 8)])), ((Aa 1), .inl (tc 0, 10, .inl (Af 1))), ((Aa 2), .inl (tc 0, 10, .inl (Af 2))), ((Aa 3), .inl (tc 0, 6, .inl (Af 3))), ((Aa 4), .inl (tc 0, 6, .inl (Af 4))), ((Aa 5), .inl (tc 0, 6, .inl (Af 5))), ((Aa 6), .inl (tc 0, 6, .inl (Af 6))), ((Aa 7), .inl (tc 0, 6, .inl (Af 7))), ((Aa 8), .inl (tc 0, 6, .inl (Af 8)))] H := hP₀
                replace hD : va_D A [((Ra 0), .inr (6, [.ref (Ra 1), .ref (Ra 2)])), ((Ra 1), .inl (tc 0, Rn, .inl (Rf 1))), ((Ra 2), .inl (tc 1, 64, .inr (.inl yy_602))), ((Aa 0), .inr (9, [.int (Av 0), .int (Av 1), .int (Av 2), .int (Av 3), .int (Av 4), .int (Av 5), .ref (Aa 1), .ref (Aa 2), .ref (Aa 3), .ref (Aa 4), .ref (Aa 5), .ref (Aa 6), .ref (Aa 7), .ref (Aa 8)])), ((Aa 1), .inl (tc 0, 10, .inl (Af 1))), ((Aa 2), .inl (tc 0, 10, .inl (Af 2))), ((Aa 3), .inl (tc 0, 6, .inl (Af 3))), ((Aa 4), .inl (tc 0, 6, .inl (Af 4))), ((Aa 5), .inl (tc 0, 6, .inl (Af 5))), ((Aa 6), .inl (tc 0, 6, .inl (Af 6))), ((Aa 7), .inl (tc 0, 6, .inl (Af 7))), ((Aa 8), .inl (tc 0, 6, .inl (Af 8)))] := hD₀
                replace hS := hS₀
                clear hP₀ hD₀ hS₀
                obtain ⟨he_131, hq_133⟩ := he_131
                have er_130 : r_130 = (dX9_wordOf (Af 1) (Af 3) (Af 4) (Af 5) (Af 6) (Af 7) (Af 8) (Av 0) (Av 2) (Av 3) (Av 4) (Av 5) x_126 x1) := hq_133
                have hi_134 : vp_in yy_601 64 := by
                  have z_1 := Int32.lt_iff_toInt_lt.mp (Int32.not_le.mp c_7)
                  have z_2 := Int32.le_iff_toInt_le.mp (Int32.not_lt.mp c_13)
                  have z_3 := Int32.le_iff_toInt_le.mp (Int32.not_lt.mp c_120)
                  have z_4 := Int32.lt_iff_toInt_lt.mp c_124
                  have z_5 := Int32.le_iff_toInt_le.mp c_125
                  have y_0 : (0 : Int32).toInt = 0 := by decide
                  have y_64 : (64 : Int32).toInt = 64 := by decide
                  have y_100000 : (100000 : Int32).toInt = 100000 := by decide
                  have n_0 : (nI Rn).toInt = ((Rn : Nat) : Int) := nI_toInt (by omega)
                  refine vp_in_iff.mpr ⟨?_, ?_⟩ <;> omega
                refine st_long hx hb hK hP hD hS 2 1 rfl rfl hi_134 dX6_sumFor_72 (fun g_135 H locs eg_135 hP₀ hD₀ hS₀ => ?_)
                replace hP : va_P D classes [((Ra 0), .inr (6, [.ref (Ra 1), .ref (Ra 2)])), ((Ra 1), .inl (tc 0, Rn, .inl (Rf 1))), ((Ra 2), .inl (tc 1, 64, .inr (.inl g_135))), ((Aa 0), .inr (9, [.int (Av 0), .int (Av 1), .int (Av 2), .int (Av 3), .int (Av 4), .int (Av 5), .ref (Aa 1), .ref (Aa 2), .ref (Aa 3), .ref (Aa 4), .ref (Aa 5), .ref (Aa 6), .ref (Aa 7), .ref (Aa 8)])), ((Aa 1), .inl (tc 0, 10, .inl (Af 1))), ((Aa 2), .inl (tc 0, 10, .inl (Af 2))), ((Aa 3), .inl (tc 0, 6, .inl (Af 3))), ((Aa 4), .inl (tc 0, 6, .inl (Af 4))), ((Aa 5), .inl (tc 0, 6, .inl (Af 5))), ((Aa 6), .inl (tc 0, 6, .inl (Af 6))), ((Aa 7), .inl (tc 0, 6, .inl (Af 7))), ((Aa 8), .inl (tc 0, 6, .inl (Af 8)))] H := hP₀
                replace hD : va_D A [((Ra 0), .inr (6, [.ref (Ra 1), .ref (Ra 2)])), ((Ra 1), .inl (tc 0, Rn, .inl (Rf 1))), ((Ra 2), .inl (tc 1, 64, .inr (.inl g_135))), ((Aa 0), .inr (9, [.int (Av 0), .int (Av 1), .int (Av 2), .int (Av 3), .int (Av 4), .int (Av 5), .ref (Aa 1), .ref (Aa 2), .ref (Aa 3), .ref (Aa 4), .ref (Aa 5), .ref (Aa 6), .ref (Aa 7), .ref (Aa 8)])), ((Aa 1), .inl (tc 0, 10, .inl (Af 1))), ((Aa 2), .inl (tc 0, 10, .inl (Af 2))), ((Aa 3), .inl (tc 0, 6, .inl (Af 3))), ((Aa 4), .inl (tc 0, 6, .inl (Af 4))), ((Aa 5), .inl (tc 0, 6, .inl (Af 5))), ((Aa 6), .inl (tc 0, 6, .inl (Af 6))), ((Aa 7), .inl (tc 0, 6, .inl (Af 7))), ((Aa 8), .inl (tc 0, 6, .inl (Af 8)))] := hD₀
                replace hS := hS₀
                clear hP₀ hD₀ hS₀
                obtain ⟨x_136, ex_136⟩ : ∃ y : Int32, y = yy_601 + 1 := ⟨_, rfl⟩
                refine lv_iinc (v := x_136) (lv' := [(3, .int x_136), (5, .int x_12), (4, .int yy_600), (0, .ref (Ra 0)), (1, .ref (Aa 0)), (2, .int x1)]) hx hb dX6_sumFor_73 hl (k := 2) rfl (by rw [ex_136]; rfl) (by decide) rfl (fun ls hl₀ => ?_)
                replace hl := hl₀
                clear hl₀
                refine lv_goto (tgt := 246) hx hb dX6_sumFor_76 (by decide) ?_
                obtain ⟨x_137, ex_137⟩ : ∃ y : Int32, y = yy_600 + 1 := ⟨_, rfl⟩
                refine lv_iinc (v := x_137) (lv' := [(4, .int x_137), (3, .int x_136), (5, .int x_12), (0, .ref (Ra 0)), (1, .ref (Aa 0)), (2, .int x1)]) hx hb dX6_sumFor_246 hl (k := 2) rfl (by rw [ex_137]; rfl) (by decide) rfl (fun ls hl₀ => ?_)
                replace hl := hl₀
                clear hl₀
                refine lv_goto (tgt := 5) hx hb dX6_sumFor_249 (by decide) ?_
                have hb_138 : 400 - (x_137 : Int32).toInt < 400 - (yy_600 : Int32).toInt ∧ 1 ≤ 400 - (yy_600 : Int32).toInt := by
                  have z_1 := Int32.lt_iff_toInt_lt.mp (Int32.not_le.mp c_7)
                  have z_2 := Int32.le_iff_toInt_le.mp (Int32.not_lt.mp c_13)
                  have z_3 := Int32.le_iff_toInt_le.mp (Int32.not_lt.mp c_120)
                  have z_4 := Int32.lt_iff_toInt_lt.mp c_124
                  have z_5 := Int32.le_iff_toInt_le.mp c_125
                  have y_0 : (0 : Int32).toInt = 0 := by decide
                  have y_64 : (64 : Int32).toInt = 64 := by decide
                  have y_100000 : (100000 : Int32).toInt = 100000 := by decide
                  have n_0 : (nI Rn).toInt = ((Rn : Nat) : Int) := nI_toInt (by omega)
                  have y_1 : (1 : Int32).toInt = 1 := by decide
                  have t_x_137 : x_137.toInt = (yy_600 : Int32).toInt + (1 : Int32).toInt := by rw [ex_137]; exact add_toInt (by omega) (by omega)
                  omega
                have hm_139 : (400 - (yy_600 : Int32).toInt).toNat = (400 - (x_137 : Int32).toInt).toNat + 1 := by
                  have z_1 := Int32.lt_iff_toInt_lt.mp (Int32.not_le.mp c_7)
                  have z_2 := Int32.le_iff_toInt_le.mp (Int32.not_lt.mp c_13)
                  have z_3 := Int32.le_iff_toInt_le.mp (Int32.not_lt.mp c_120)
                  have z_4 := Int32.lt_iff_toInt_lt.mp c_124
                  have z_5 := Int32.le_iff_toInt_le.mp c_125
                  have y_0 : (0 : Int32).toInt = 0 := by decide
                  have y_64 : (64 : Int32).toInt = 64 := by decide
                  have y_100000 : (100000 : Int32).toInt = 100000 := by decide
                  have n_0 : (nI Rn).toInt = ((Rn : Nat) : Int) := nI_toInt (by omega)
                  have y_1 : (1 : Int32).toInt = 1 := by decide
                  have t_x_137 : x_137.toInt = (yy_600 : Int32).toInt + (1 : Int32).toInt := by rw [ex_137]; exact add_toInt (by omega) (by omega)
                  omega
                have hb_140 : dX6_sumFor_l5 (Af 1) (Af 3) (Af 4) (Af 5) (Af 6) (Af 7) (Af 8) (Av 0) (Av 2) (Av 3) (Av 4) (Av 5) (Rf 1) Rn x1 ((400 - (yy_600 : Int32).toInt).toNat + 1) yy_600 yy_601 yy_602 = dX6_sumFor_l5 (Af 1) (Af 3) (Af 4) (Af 5) (Af 6) (Af 7) (Af 8) (Av 0) (Av 2) (Av 3) (Av 4) (Av 5) (Rf 1) Rn x1 ((400 - (yy_600 : Int32).toInt).toNat) x_137 x_136 g_135 := by
                  clear hP hD hS hl ih_2
                  replace ex_12 := ex_12.symm; subst ex_12
                  replace ex_126 := ex_126.symm; subst ex_126
                  replace er_130 := er_130.symm; subst er_130
                  replace eg_135 := eg_135.symm; subst eg_135
                  replace ex_136 := ex_136.symm; subst ex_136
                  replace ex_137 := ex_137.symm; subst ex_137
                  rw [dX6_sumFor_l5_s]
                  rw [if_neg c_7, if_neg c_13, if_neg c_120, if_pos c_124, if_pos c_125]
                  try rfl
                have hL_141 : (dX6_sumFor_l5 (Af 1) (Af 3) (Af 4) (Af 5) (Af 6) (Af 7) (Af 8) (Av 0) (Av 2) (Av 3) (Av 4) (Av 5) (Rf 1) Rn x1 ((400 - (0 : Int32).toInt).toNat + 1) (0 : Int32) (0 : Int32) (Rg 2)) = dX6_sumFor_l5 (Af 1) (Af 3) (Af 4) (Af 5) (Af 6) (Af 7) (Af 8) (Av 0) (Av 2) (Av 3) (Av 4) (Av 5) (Rf 1) Rn x1 ((400 - (x_137 : Int32).toInt).toNat + 1) x_137 x_136 g_135 := by
                  rw [hL_5, hb_140, hm_139]
                have ha_142 : 0 ≤ (x_137 : Int32).toInt := by
                  have z_1 := Int32.lt_iff_toInt_lt.mp (Int32.not_le.mp c_7)
                  have z_2 := Int32.le_iff_toInt_le.mp (Int32.not_lt.mp c_13)
                  have z_3 := Int32.le_iff_toInt_le.mp (Int32.not_lt.mp c_120)
                  have z_4 := Int32.lt_iff_toInt_lt.mp c_124
                  have z_5 := Int32.le_iff_toInt_le.mp c_125
                  have y_0 : (0 : Int32).toInt = 0 := by decide
                  have y_64 : (64 : Int32).toInt = 64 := by decide
                  have y_100000 : (100000 : Int32).toInt = 100000 := by decide
                  have n_0 : (nI Rn).toInt = ((Rn : Nat) : Int) := nI_toInt (by omega)
                  have y_1 : (1 : Int32).toInt = 1 := by decide
                  have t_x_137 : x_137.toInt = (yy_600 : Int32).toInt + (1 : Int32).toInt := by rw [ex_137]; exact add_toInt (by omega) (by omega)
                  omega
                exact ih_2 x_137 x_136 g_135 _ _ _ (by omega) hL_141 ha_142 (hP.sub [0, 1, 2, 3, 4, 5, 6, 7, 8, 9, 10, 11] rfl) (hD.sub [0, 1, 2, 3, 4, 5, 6, 7, 8, 9, 10, 11] rfl rfl) hS (lv_sub hl [0, 1, 3, 4, 5] rfl)
              · skip
                refine lv_iload hx hb dX6_sumFor_56 (lv_at hl 0 rfl) ?_
                refine lv_i2l (v := (x_12).toInt64) hx hb dX6_sumFor_58 rfl ?_
                refine lv_goto (tgt := 72) hx hb dX6_sumFor_59 (by decide) ?_
                have hi_143 : vp_in yy_601 64 := by
                  have z_1 := Int32.lt_iff_toInt_lt.mp (Int32.not_le.mp c_7)
                  have z_2 := Int32.le_iff_toInt_le.mp (Int32.not_lt.mp c_13)
                  have z_3 := Int32.le_iff_toInt_le.mp (Int32.not_lt.mp c_120)
                  have z_4 := Int32.lt_iff_toInt_lt.mp c_124
                  have z_5 := Int32.lt_iff_toInt_lt.mp (Int32.not_le.mp c_125)
                  have y_0 : (0 : Int32).toInt = 0 := by decide
                  have y_64 : (64 : Int32).toInt = 64 := by decide
                  have y_100000 : (100000 : Int32).toInt = 100000 := by decide
                  have n_0 : (nI Rn).toInt = ((Rn : Nat) : Int) := nI_toInt (by omega)
                  refine vp_in_iff.mpr ⟨?_, ?_⟩ <;> omega
                refine st_long hx hb hK hP hD hS 2 1 rfl rfl hi_143 dX6_sumFor_72 (fun g_144 H locs eg_144 hP₀ hD₀ hS₀ => ?_)
                replace hP : va_P D classes [((Ra 0), .inr (6, [.ref (Ra 1), .ref (Ra 2)])), ((Ra 1), .inl (tc 0, Rn, .inl (Rf 1))), ((Ra 2), .inl (tc 1, 64, .inr (.inl g_144))), ((Aa 0), .inr (9, [.int (Av 0), .int (Av 1), .int (Av 2), .int (Av 3), .int (Av 4), .int (Av 5), .ref (Aa 1), .ref (Aa 2), .ref (Aa 3), .ref (Aa 4), .ref (Aa 5), .ref (Aa 6), .ref (Aa 7), .ref (Aa 8)])), ((Aa 1), .inl (tc 0, 10, .inl (Af 1))), ((Aa 2), .inl (tc 0, 10, .inl (Af 2))), ((Aa 3), .inl (tc 0, 6, .inl (Af 3))), ((Aa 4), .inl (tc 0, 6, .inl (Af 4))), ((Aa 5), .inl (tc 0, 6, .inl (Af 5))), ((Aa 6), .inl (tc 0, 6, .inl (Af 6))), ((Aa 7), .inl (tc 0, 6, .inl (Af 7))), ((Aa 8), .inl (tc 0, 6, .inl (Af 8)))] H := hP₀
                replace hD : va_D A [((Ra 0), .inr (6, [.ref (Ra 1), .ref (Ra 2)])), ((Ra 1), .inl (tc 0, Rn, .inl (Rf 1))), ((Ra 2), .inl (tc 1, 64, .inr (.inl g_144))), ((Aa 0), .inr (9, [.int (Av 0), .int (Av 1), .int (Av 2), .int (Av 3), .int (Av 4), .int (Av 5), .ref (Aa 1), .ref (Aa 2), .ref (Aa 3), .ref (Aa 4), .ref (Aa 5), .ref (Aa 6), .ref (Aa 7), .ref (Aa 8)])), ((Aa 1), .inl (tc 0, 10, .inl (Af 1))), ((Aa 2), .inl (tc 0, 10, .inl (Af 2))), ((Aa 3), .inl (tc 0, 6, .inl (Af 3))), ((Aa 4), .inl (tc 0, 6, .inl (Af 4))), ((Aa 5), .inl (tc 0, 6, .inl (Af 5))), ((Aa 6), .inl (tc 0, 6, .inl (Af 6))), ((Aa 7), .inl (tc 0, 6, .inl (Af 7))), ((Aa 8), .inl (tc 0, 6, .inl (Af 8)))] := hD₀
                replace hS := hS₀
                clear hP₀ hD₀ hS₀
                obtain ⟨x_145, ex_145⟩ : ∃ y : Int32, y = yy_601 + 1 := ⟨_, rfl⟩
                refine lv_iinc (v := x_145) (lv' := [(3, .int x_145), (5, .int x_12), (4, .int yy_600), (0, .ref (Ra 0)), (1, .ref (Aa 0)), (2, .int x1)]) hx hb dX6_sumFor_73 hl (k := 2) rfl (by rw [ex_145]; rfl) (by decide) rfl (fun ls hl₀ => ?_)
                replace hl := hl₀
                clear hl₀
                refine lv_goto (tgt := 246) hx hb dX6_sumFor_76 (by decide) ?_
                obtain ⟨x_146, ex_146⟩ : ∃ y : Int32, y = yy_600 + 1 := ⟨_, rfl⟩
                refine lv_iinc (v := x_146) (lv' := [(4, .int x_146), (3, .int x_145), (5, .int x_12), (0, .ref (Ra 0)), (1, .ref (Aa 0)), (2, .int x1)]) hx hb dX6_sumFor_246 hl (k := 2) rfl (by rw [ex_146]; rfl) (by decide) rfl (fun ls hl₀ => ?_)
                replace hl := hl₀
                clear hl₀
                refine lv_goto (tgt := 5) hx hb dX6_sumFor_249 (by decide) ?_
                have hb_147 : 400 - (x_146 : Int32).toInt < 400 - (yy_600 : Int32).toInt ∧ 1 ≤ 400 - (yy_600 : Int32).toInt := by
                  have z_1 := Int32.lt_iff_toInt_lt.mp (Int32.not_le.mp c_7)
                  have z_2 := Int32.le_iff_toInt_le.mp (Int32.not_lt.mp c_13)
                  have z_3 := Int32.le_iff_toInt_le.mp (Int32.not_lt.mp c_120)
                  have z_4 := Int32.lt_iff_toInt_lt.mp c_124
                  have z_5 := Int32.lt_iff_toInt_lt.mp (Int32.not_le.mp c_125)
                  have y_0 : (0 : Int32).toInt = 0 := by decide
                  have y_64 : (64 : Int32).toInt = 64 := by decide
                  have y_100000 : (100000 : Int32).toInt = 100000 := by decide
                  have n_0 : (nI Rn).toInt = ((Rn : Nat) : Int) := nI_toInt (by omega)
                  have y_1 : (1 : Int32).toInt = 1 := by decide
                  have t_x_146 : x_146.toInt = (yy_600 : Int32).toInt + (1 : Int32).toInt := by rw [ex_146]; exact add_toInt (by omega) (by omega)
                  omega
                have hm_148 : (400 - (yy_600 : Int32).toInt).toNat = (400 - (x_146 : Int32).toInt).toNat + 1 := by
                  have z_1 := Int32.lt_iff_toInt_lt.mp (Int32.not_le.mp c_7)
                  have z_2 := Int32.le_iff_toInt_le.mp (Int32.not_lt.mp c_13)
                  have z_3 := Int32.le_iff_toInt_le.mp (Int32.not_lt.mp c_120)
                  have z_4 := Int32.lt_iff_toInt_lt.mp c_124
                  have z_5 := Int32.lt_iff_toInt_lt.mp (Int32.not_le.mp c_125)
                  have y_0 : (0 : Int32).toInt = 0 := by decide
                  have y_64 : (64 : Int32).toInt = 64 := by decide
                  have y_100000 : (100000 : Int32).toInt = 100000 := by decide
                  have n_0 : (nI Rn).toInt = ((Rn : Nat) : Int) := nI_toInt (by omega)
                  have y_1 : (1 : Int32).toInt = 1 := by decide
                  have t_x_146 : x_146.toInt = (yy_600 : Int32).toInt + (1 : Int32).toInt := by rw [ex_146]; exact add_toInt (by omega) (by omega)
                  omega
                have hb_149 : dX6_sumFor_l5 (Af 1) (Af 3) (Af 4) (Af 5) (Af 6) (Af 7) (Af 8) (Av 0) (Av 2) (Av 3) (Av 4) (Av 5) (Rf 1) Rn x1 ((400 - (yy_600 : Int32).toInt).toNat + 1) yy_600 yy_601 yy_602 = dX6_sumFor_l5 (Af 1) (Af 3) (Af 4) (Af 5) (Af 6) (Af 7) (Af 8) (Av 0) (Av 2) (Av 3) (Av 4) (Av 5) (Rf 1) Rn x1 ((400 - (yy_600 : Int32).toInt).toNat) x_146 x_145 g_144 := by
                  clear hP hD hS hl ih_2
                  replace ex_12 := ex_12.symm; subst ex_12
                  replace eg_144 := eg_144.symm; subst eg_144
                  replace ex_145 := ex_145.symm; subst ex_145
                  replace ex_146 := ex_146.symm; subst ex_146
                  rw [dX6_sumFor_l5_s]
                  rw [if_neg c_7, if_neg c_13, if_neg c_120, if_pos c_124, if_neg c_125]
                  try rfl
                have hL_150 : (dX6_sumFor_l5 (Af 1) (Af 3) (Af 4) (Af 5) (Af 6) (Af 7) (Af 8) (Av 0) (Av 2) (Av 3) (Av 4) (Av 5) (Rf 1) Rn x1 ((400 - (0 : Int32).toInt).toNat + 1) (0 : Int32) (0 : Int32) (Rg 2)) = dX6_sumFor_l5 (Af 1) (Af 3) (Af 4) (Af 5) (Af 6) (Af 7) (Af 8) (Av 0) (Av 2) (Av 3) (Av 4) (Av 5) (Rf 1) Rn x1 ((400 - (x_146 : Int32).toInt).toNat + 1) x_146 x_145 g_144 := by
                  rw [hL_5, hb_149, hm_148]
                have ha_151 : 0 ≤ (x_146 : Int32).toInt := by
                  have z_1 := Int32.lt_iff_toInt_lt.mp (Int32.not_le.mp c_7)
                  have z_2 := Int32.le_iff_toInt_le.mp (Int32.not_lt.mp c_13)
                  have z_3 := Int32.le_iff_toInt_le.mp (Int32.not_lt.mp c_120)
                  have z_4 := Int32.lt_iff_toInt_lt.mp c_124
                  have z_5 := Int32.lt_iff_toInt_lt.mp (Int32.not_le.mp c_125)
                  have y_0 : (0 : Int32).toInt = 0 := by decide
                  have y_64 : (64 : Int32).toInt = 64 := by decide
                  have y_100000 : (100000 : Int32).toInt = 100000 := by decide
                  have n_0 : (nI Rn).toInt = ((Rn : Nat) : Int) := nI_toInt (by omega)
                  have y_1 : (1 : Int32).toInt = 1 := by decide
                  have t_x_146 : x_146.toInt = (yy_600 : Int32).toInt + (1 : Int32).toInt := by rw [ex_146]; exact add_toInt (by omega) (by omega)
                  omega
                exact ih_2 x_146 x_145 g_144 _ _ _ (by omega) hL_150 ha_151 (hP.sub [0, 1, 2, 3, 4, 5, 6, 7, 8, 9, 10, 11] rfl) (hD.sub [0, 1, 2, 3, 4, 5, 6, 7, 8, 9, 10, 11] rfl rfl) hS (lv_sub hl [0, 1, 3, 4, 5] rfl)
            · skip
              refine lv_lconst (v := 0) hx hb dX6_sumFor_42 (by decide) ?_
              have hb_153 : dX6_sumFor_l5 (Af 1) (Af 3) (Af 4) (Af 5) (Af 6) (Af 7) (Af 8) (Av 0) (Av 2) (Av 3) (Av 4) (Av 5) (Rf 1) Rn x1 ((400 - (yy_600 : Int32).toInt).toNat + 1) yy_600 yy_601 yy_602 = ((1 : Int32), (0 : Int64), yy_600, yy_601, yy_602) := by
                clear hP hD hS hl ih_2
                replace ex_12 := ex_12.symm; subst ex_12
                rw [dX6_sumFor_l5_s]
                rw [if_neg c_7, if_neg c_13, if_neg c_120, if_neg c_124]
                try rfl
              have hX_152 : (dX6_sumFor_l5 (Af 1) (Af 3) (Af 4) (Af 5) (Af 6) (Af 7) (Af 8) (Av 0) (Av 2) (Av 3) (Av 4) (Av 5) (Rf 1) Rn x1 ((400 - (0 : Int32).toInt).toNat + 1) (0 : Int32) (0 : Int32) (Rg 2)) = ((1 : Int32), (0 : Int64), yy_600, yy_601, yy_602) := hL_5.trans hb_153
              have hX_152_0 : (dX6_sumFor_l5 (Af 1) (Af 3) (Af 4) (Af 5) (Af 6) (Af 7) (Af 8) (Av 0) (Av 2) (Av 3) (Av 4) (Av 5) (Rf 1) Rn x1 ((400 - (0 : Int32).toInt).toNat + 1) (0 : Int32) (0 : Int32) (Rg 2)).1 = (1 : Int32) := congrArg (fun z => z.1) hX_152
              have hX_152_1 : (dX6_sumFor_l5 (Af 1) (Af 3) (Af 4) (Af 5) (Af 6) (Af 7) (Af 8) (Av 0) (Av 2) (Av 3) (Av 4) (Av 5) (Rf 1) Rn x1 ((400 - (0 : Int32).toInt).toNat + 1) (0 : Int32) (0 : Int32) (Rg 2)).2.1 = (0 : Int64) := congrArg (fun z => z.2.1) hX_152
              have hX_152_2 : (dX6_sumFor_l5 (Af 1) (Af 3) (Af 4) (Af 5) (Af 6) (Af 7) (Af 8) (Av 0) (Av 2) (Av 3) (Av 4) (Av 5) (Rf 1) Rn x1 ((400 - (0 : Int32).toInt).toNat + 1) (0 : Int32) (0 : Int32) (Rg 2)).2.2.1 = yy_600 := congrArg (fun z => z.2.2.1) hX_152
              have hX_152_3 : (dX6_sumFor_l5 (Af 1) (Af 3) (Af 4) (Af 5) (Af 6) (Af 7) (Af 8) (Av 0) (Av 2) (Av 3) (Av 4) (Av 5) (Rf 1) Rn x1 ((400 - (0 : Int32).toInt).toNat + 1) (0 : Int32) (0 : Int32) (Rg 2)).2.2.2.1 = yy_601 := congrArg (fun z => z.2.2.2.1) hX_152
              have hX_152_4 : (dX6_sumFor_l5 (Af 1) (Af 3) (Af 4) (Af 5) (Af 6) (Af 7) (Af 8) (Av 0) (Av 2) (Av 3) (Av 4) (Av 5) (Rf 1) Rn x1 ((400 - (0 : Int32).toInt).toNat + 1) (0 : Int32) (0 : Int32) (Rg 2)).2.2.2.2 = yy_602 := congrArg (fun z => z.2.2.2.2) hX_152
              have hF_154 : ((0 : Int64), yy_602) = (dX6_sumFor (Af 1) (Af 3) (Af 4) (Af 5) (Af 6) (Af 7) (Af 8) (Av 0) (Av 2) (Av 3) (Av 4) (Av 5) (Rf 1) (Rg 2) x1 Rn) := by
                clear hP hD hS hl ih_2
                replace ex_12 := ex_12.symm; subst ex_12
                unfold dX6_sumFor
                try rw [hX_152_0]
                try rw [hX_152_1]
                try rw [hX_152_2]
                try rw [hX_152_3]
                try rw [hX_152_4]
                rw [if_pos (show (1 : Int32) = (1 : Int32) from rfl)]
                try rfl
              exact retL (v := 0) hx hb hr hlk hP hD hS yy_602 ⟨_, rfl, ⟨trivial, hF_154⟩⟩ [0, 1, 2, 3, 4, 5, 6, 7, 8, 9, 10, 11] rfl rfl dX6_sumFor_43 (Nat.le_of_ble_eq_true rfl) (Nat.le_of_ble_eq_true rfl) rfl
  have ha_155 : 0 ≤ (0 : Int32).toInt := by
    have y_0 : (0 : Int32).toInt = 0 := by decide
    omega
  exact loop_3 _ 0 0 (Rg 2) _ _ _ (Nat.lt_succ_self _) rfl ha_155 hP hD hS hl
set_option maxRecDepth 100000 in
theorem cu_dX6_sumFor (l : Launch) (D : va_G) (tc : Nat → ClassId) (sk : (Nat → Nat) × (Nat → Nat)) (Ra_0 : Nat) (Ra_1 : Nat) (Ra_2 : Nat) (Rf_1 : Nat → Int32) (Rg_2 : Nat → Int64) (Rn : Nat) (Aa_0 : Nat) (Aa_1 : Nat) (Aa_2 : Nat) (Aa_3 : Nat) (Aa_4 : Nat) (Aa_5 : Nat) (Aa_6 : Nat) (Aa_7 : Nat) (Aa_8 : Nat) (Av_0 : Int32) (Av_1 : Int32) (Av_2 : Int32) (Av_3 : Int32) (Av_4 : Int32) (Av_5 : Int32) (Af_1 : Nat → Int32) (Af_2 : Nat → Int32) (Af_3 : Nat → Int32) (Af_4 : Nat → Int32) (Af_5 : Nat → Int32) (Af_6 : Nat → Int32) (Af_7 : Nat → Int32) (Af_8 : Nat → Int32) (x1 : Int32) (hRn : Rn ≤ 400) : Ct l yX6_sumFor cX6_sumFor 6 (some .long) { frames := 3, cells := 0, slots := 0, locals := 64 } D tc sk [.ref Ra_0, .ref Aa_0, .int x1] [(Ra_0, .inr (6, [.ref Ra_1, .ref Ra_2])), (Ra_1, .inl (tc 0, Rn, .inl Rf_1)), (Ra_2, .inl (tc 1, 64, .inr (.inl Rg_2))), (Aa_0, .inr (9, [.int Av_0, .int Av_1, .int Av_2, .int Av_3, .int Av_4, .int Av_5, .ref Aa_1, .ref Aa_2, .ref Aa_3, .ref Aa_4, .ref Aa_5, .ref Aa_6, .ref Aa_7, .ref Aa_8])), (Aa_1, .inl (tc 0, 10, .inl Af_1)), (Aa_2, .inl (tc 0, 10, .inl Af_2)), (Aa_3, .inl (tc 0, 6, .inl Af_3)), (Aa_4, .inl (tc 0, 6, .inl Af_4)), (Aa_5, .inl (tc 0, 6, .inl Af_5)), (Aa_6, .inl (tc 0, 6, .inl Af_6)), (Aa_7, .inl (tc 0, 6, .inl Af_7)), (Aa_8, .inl (tc 0, 6, .inl Af_8))] (fun (v : Option Value) (oo0x1 : Nat → Int64) => ∃ r : Int64, v = some (.long r) ∧ ((True) ∧ (r, oo0x1) = (dX6_sumFor Af_1 Af_3 Af_4 Af_5 Af_6 Af_7 Af_8 Av_0 Av_2 Av_3 Av_4 Av_5 Rf_1 Rg_2 x1 Rn))) (fun (oo0x1 : Nat → Int64) => [(Ra_0, .inr (6, [.ref Ra_1, .ref Ra_2])), (Ra_1, .inl (tc 0, Rn, .inl Rf_1)), (Ra_2, .inl (tc 1, 64, .inr (.inl oo0x1))), (Aa_0, .inr (9, [.int Av_0, .int Av_1, .int Av_2, .int Av_3, .int Av_4, .int Av_5, .ref Aa_1, .ref Aa_2, .ref Aa_3, .ref Aa_4, .ref Aa_5, .ref Aa_6, .ref Aa_7, .ref Aa_8])), (Aa_1, .inl (tc 0, 10, .inl Af_1)), (Aa_2, .inl (tc 0, 10, .inl Af_2)), (Aa_3, .inl (tc 0, 6, .inl Af_3)), (Aa_4, .inl (tc 0, 6, .inl Af_4)), (Aa_5, .inl (tc 0, 6, .inl Af_5)), (Aa_6, .inl (tc 0, 6, .inl Af_6)), (Aa_7, .inl (tc 0, 6, .inl Af_7)), (Aa_8, .inl (tc 0, 6, .inl Af_8))]) 0 0 :=
  ct_dX6_sumFor l D tc sk (fun k => ([Ra_0, Ra_1, Ra_2] : List (Nat)).getD k 0) (fun k => ([(fun _ => 0), Rf_1] : List (Nat → Int32)).getD k (fun _ => 0)) (fun k => ([(fun _ => 0), (fun _ => 0), Rg_2] : List (Nat → Int64)).getD k (fun _ => 0)) Rn (fun k => ([Aa_0, Aa_1, Aa_2, Aa_3, Aa_4, Aa_5, Aa_6, Aa_7, Aa_8] : List (Nat)).getD k 0) (fun k => ([Av_0, Av_1, Av_2, Av_3, Av_4, Av_5] : List (Int32)).getD k 0) (fun k => ([(fun _ => 0), Af_1, Af_2, Af_3, Af_4, Af_5, Af_6, Af_7, Af_8] : List (Nat → Int32)).getD k (fun _ => 0)) x1 hRn
def dX9_goThroughDay_n_l44 (Af_4 : Nat → Int32) (Af_5 : Nat → Int32) (Av_3 : Int32) (Av_4 : Int32) (zz_4502 : Int32) (zz_4504 : Int32) : Nat → Int32 → Int32 → Int32 → Int32 → (Nat → Int32) → (Nat → Int32) → (Nat → Int32) → (Nat → Int32) → Int32 × Int32 × Int32 × Int32 × (Nat → Int32) × (Nat → Int32) × (Nat → Int32) × (Nat → Int32)
  | 0, _, _, _, _, _, _, _, _ => (0, 0, 0, 0, (fun _ => 0), (fun _ => 0), (fun _ => 0), (fun _ => 0))
  | n + 1, yy_4500, yy_4501, yy_4502, yy_4503, yy_4504, yy_4505, yy_4506, yy_4507 => (if Av_3 ≤ yy_4500 then (yy_4500, yy_4501, yy_4502, yy_4503, yy_4504, yy_4505, yy_4506, yy_4507) else (if (6 : Int32) ≤ yy_4500 then (yy_4500, yy_4501, yy_4502, yy_4503, yy_4504, yy_4505, yy_4506, yy_4507) else (if (dX9_canBuy Af_4 Af_5 yy_4506 yy_4502 Av_3 Av_4 yy_4500) = (0 : Int32) then dX9_goThroughDay_n_l44 Af_4 Af_5 Av_3 Av_4 zz_4502 zz_4504 n (yy_4500 + 1) yy_4501 yy_4502 yy_4503 yy_4504 yy_4505 yy_4506 yy_4507 else (if ((yy_4504 (yy_4500).toNatClampNeg) + zz_4502) < (12 : Int32) then dX9_goThroughDay_n_l44 Af_4 Af_5 Av_3 Av_4 zz_4502 zz_4504 n (yy_4500 + 1) yy_4501 yy_4502 yy_4503 yy_4504 yy_4505 yy_4506 yy_4507 else (if ((zz_4504 >>> (yy_4500 &&& 31)) &&& (1 : Int32)) = (0 : Int32) then dX9_goThroughDay_n_l44 Af_4 Af_5 Av_3 Av_4 zz_4502 zz_4504 n (yy_4500 + 1) (yy_4501 ||| ((1 : Int32) <<< (yy_4500 &&& 31))) ((dX9_handOver yy_4504 Af_4 yy_4505 yy_4506 yy_4502 Av_3 Av_4 yy_4503 yy_4500).1) ((dX9_handOver yy_4504 Af_4 yy_4505 yy_4506 yy_4502 Av_3 Av_4 yy_4503 yy_4500).2.1) ((dX9_handOver yy_4504 Af_4 yy_4505 yy_4506 yy_4502 Av_3 Av_4 yy_4503 yy_4500).2.2.1) ((dX9_handOver yy_4504 Af_4 yy_4505 yy_4506 yy_4502 Av_3 Av_4 yy_4503 yy_4500).2.2.2.1) ((dX9_handOver yy_4504 Af_4 yy_4505 yy_4506 yy_4502 Av_3 Av_4 yy_4503 yy_4500).2.2.2.2) yy_4507 else dX9_goThroughDay_n_l44 Af_4 Af_5 Av_3 Av_4 zz_4502 zz_4504 n (yy_4500 + 1) yy_4501 yy_4502 yy_4503 yy_4504 yy_4505 (upd yy_4506 (yy_4500).toNatClampNeg Av_4) (upd yy_4507 (yy_4500).toNatClampNeg ((yy_4507 (yy_4500).toNatClampNeg) + (1 : Int32))))))))
theorem dX9_goThroughDay_n_l44_s {Af_4 : Nat → Int32} {Af_5 : Nat → Int32} {Av_3 : Int32} {Av_4 : Int32} {zz_4502 : Int32} {zz_4504 : Int32} {n : Nat} {yy_4500 : Int32} {yy_4501 : Int32} {yy_4502 : Int32} {yy_4503 : Int32} {yy_4504 : Nat → Int32} {yy_4505 : Nat → Int32} {yy_4506 : Nat → Int32} {yy_4507 : Nat → Int32} : dX9_goThroughDay_n_l44 Af_4 Af_5 Av_3 Av_4 zz_4502 zz_4504 (n + 1) yy_4500 yy_4501 yy_4502 yy_4503 yy_4504 yy_4505 yy_4506 yy_4507 = (if Av_3 ≤ yy_4500 then (yy_4500, yy_4501, yy_4502, yy_4503, yy_4504, yy_4505, yy_4506, yy_4507) else (if (6 : Int32) ≤ yy_4500 then (yy_4500, yy_4501, yy_4502, yy_4503, yy_4504, yy_4505, yy_4506, yy_4507) else (if (dX9_canBuy Af_4 Af_5 yy_4506 yy_4502 Av_3 Av_4 yy_4500) = (0 : Int32) then dX9_goThroughDay_n_l44 Af_4 Af_5 Av_3 Av_4 zz_4502 zz_4504 n (yy_4500 + 1) yy_4501 yy_4502 yy_4503 yy_4504 yy_4505 yy_4506 yy_4507 else (if ((yy_4504 (yy_4500).toNatClampNeg) + zz_4502) < (12 : Int32) then dX9_goThroughDay_n_l44 Af_4 Af_5 Av_3 Av_4 zz_4502 zz_4504 n (yy_4500 + 1) yy_4501 yy_4502 yy_4503 yy_4504 yy_4505 yy_4506 yy_4507 else (if ((zz_4504 >>> (yy_4500 &&& 31)) &&& (1 : Int32)) = (0 : Int32) then dX9_goThroughDay_n_l44 Af_4 Af_5 Av_3 Av_4 zz_4502 zz_4504 n (yy_4500 + 1) (yy_4501 ||| ((1 : Int32) <<< (yy_4500 &&& 31))) ((dX9_handOver yy_4504 Af_4 yy_4505 yy_4506 yy_4502 Av_3 Av_4 yy_4503 yy_4500).1) ((dX9_handOver yy_4504 Af_4 yy_4505 yy_4506 yy_4502 Av_3 Av_4 yy_4503 yy_4500).2.1) ((dX9_handOver yy_4504 Af_4 yy_4505 yy_4506 yy_4502 Av_3 Av_4 yy_4503 yy_4500).2.2.1) ((dX9_handOver yy_4504 Af_4 yy_4505 yy_4506 yy_4502 Av_3 Av_4 yy_4503 yy_4500).2.2.2.1) ((dX9_handOver yy_4504 Af_4 yy_4505 yy_4506 yy_4502 Av_3 Av_4 yy_4503 yy_4500).2.2.2.2) yy_4507 else dX9_goThroughDay_n_l44 Af_4 Af_5 Av_3 Av_4 zz_4502 zz_4504 n (yy_4500 + 1) yy_4501 yy_4502 yy_4503 yy_4504 yy_4505 (upd yy_4506 (yy_4500).toNatClampNeg Av_4) (upd yy_4507 (yy_4500).toNatClampNeg ((yy_4507 (yy_4500).toNatClampNeg) + (1 : Int32)))))))) := rfl
def dX9_goThroughDay_n (Af_1 : Nat → Int32) (Af_2 : Nat → Int32) (Af_3 : Nat → Int32) (Af_4 : Nat → Int32) (Af_5 : Nat → Int32) (Af_6 : Nat → Int32) (Af_7 : Nat → Int32) (Af_8 : Nat → Int32) (Av_0 : Int32) (Av_1 : Int32) (Av_2 : Int32) (Av_3 : Int32) (Av_4 : Int32) (Av_5 : Int32) : Int32 × Int32 × Int32 × Int32 × (Nat → Int32) × (Nat → Int32) × (Nat → Int32) × (Nat → Int32) := (if (dX9_hasClock Av_2 (dX9_clockOn Av_2 Av_4)) = (0 : Int32) then (if (Av_4 - Av_4 / (7 : Int32) * (7 : Int32)) = (6 : Int32) then ((dX9_goThroughDay_n_l44 Af_4 Af_5 Av_3 Av_4 (dX9_stillOn Af_1 Av_2 Av_4) (0 : Int32) ((6 - (0 : Int32).toInt).toNat + 1) (0 : Int32) (0 : Int32) Av_0 Av_5 Af_3 Af_6 Af_8 Af_7).2.1, (if ((dX9_goThroughDay_n_l44 Af_4 Af_5 Av_3 Av_4 (dX9_stillOn Af_1 Av_2 Av_4) (0 : Int32) ((6 - (0 : Int32).toInt).toNat + 1) (0 : Int32) (0 : Int32) Av_0 Av_5 Af_3 Af_6 Af_8 Af_7).2.2.1 + Av_1) < (99 : Int32) then ((dX9_goThroughDay_n_l44 Af_4 Af_5 Av_3 Av_4 (dX9_stillOn Af_1 Av_2 Av_4) (0 : Int32) ((6 - (0 : Int32).toInt).toNat + 1) (0 : Int32) (0 : Int32) Av_0 Av_5 Af_3 Af_6 Af_8 Af_7).2.2.1 + Av_1) else (99 : Int32)), (Av_4 + (1 : Int32)), (dX9_goThroughDay_n_l44 Af_4 Af_5 Av_3 Av_4 (dX9_stillOn Af_1 Av_2 Av_4) (0 : Int32) ((6 - (0 : Int32).toInt).toNat + 1) (0 : Int32) (0 : Int32) Av_0 Av_5 Af_3 Af_6 Af_8 Af_7).2.2.2.1, (dX9_changeTempers ((dX9_goThroughDay_n_l44 Af_4 Af_5 Av_3 Av_4 (dX9_stillOn Af_1 Av_2 Av_4) (0 : Int32) ((6 - (0 : Int32).toInt).toNat + 1) (0 : Int32) (0 : Int32) Av_0 Av_5 Af_3 Af_6 Af_8 Af_7).2.2.2.2.1) Av_3 (dX9_stillOn Af_1 Av_2 Av_4)), ((dX9_goThroughDay_n_l44 Af_4 Af_5 Av_3 Av_4 (dX9_stillOn Af_1 Av_2 Av_4) (0 : Int32) ((6 - (0 : Int32).toInt).toNat + 1) (0 : Int32) (0 : Int32) Av_0 Av_5 Af_3 Af_6 Af_8 Af_7).2.2.2.2.2.1), ((dX9_goThroughDay_n_l44 Af_4 Af_5 Av_3 Av_4 (dX9_stillOn Af_1 Av_2 Av_4) (0 : Int32) ((6 - (0 : Int32).toInt).toNat + 1) (0 : Int32) (0 : Int32) Av_0 Av_5 Af_3 Af_6 Af_8 Af_7).2.2.2.2.2.2.2), ((dX9_goThroughDay_n_l44 Af_4 Af_5 Av_3 Av_4 (dX9_stillOn Af_1 Av_2 Av_4) (0 : Int32) ((6 - (0 : Int32).toInt).toNat + 1) (0 : Int32) (0 : Int32) Av_0 Av_5 Af_3 Af_6 Af_8 Af_7).2.2.2.2.2.2.1)) else ((dX9_goThroughDay_n_l44 Af_4 Af_5 Av_3 Av_4 (dX9_stillOn Af_1 Av_2 Av_4) (0 : Int32) ((6 - (0 : Int32).toInt).toNat + 1) (0 : Int32) (0 : Int32) Av_0 Av_5 Af_3 Af_6 Af_8 Af_7).2.1, (dX9_goThroughDay_n_l44 Af_4 Af_5 Av_3 Av_4 (dX9_stillOn Af_1 Av_2 Av_4) (0 : Int32) ((6 - (0 : Int32).toInt).toNat + 1) (0 : Int32) (0 : Int32) Av_0 Av_5 Af_3 Af_6 Af_8 Af_7).2.2.1, (Av_4 + (1 : Int32)), (dX9_goThroughDay_n_l44 Af_4 Af_5 Av_3 Av_4 (dX9_stillOn Af_1 Av_2 Av_4) (0 : Int32) ((6 - (0 : Int32).toInt).toNat + 1) (0 : Int32) (0 : Int32) Av_0 Av_5 Af_3 Af_6 Af_8 Af_7).2.2.2.1, (dX9_changeTempers ((dX9_goThroughDay_n_l44 Af_4 Af_5 Av_3 Av_4 (dX9_stillOn Af_1 Av_2 Av_4) (0 : Int32) ((6 - (0 : Int32).toInt).toNat + 1) (0 : Int32) (0 : Int32) Av_0 Av_5 Af_3 Af_6 Af_8 Af_7).2.2.2.2.1) Av_3 (dX9_stillOn Af_1 Av_2 Av_4)), ((dX9_goThroughDay_n_l44 Af_4 Af_5 Av_3 Av_4 (dX9_stillOn Af_1 Av_2 Av_4) (0 : Int32) ((6 - (0 : Int32).toInt).toNat + 1) (0 : Int32) (0 : Int32) Av_0 Av_5 Af_3 Af_6 Af_8 Af_7).2.2.2.2.2.1), ((dX9_goThroughDay_n_l44 Af_4 Af_5 Av_3 Av_4 (dX9_stillOn Af_1 Av_2 Av_4) (0 : Int32) ((6 - (0 : Int32).toInt).toNat + 1) (0 : Int32) (0 : Int32) Av_0 Av_5 Af_3 Af_6 Af_8 Af_7).2.2.2.2.2.2.2), ((dX9_goThroughDay_n_l44 Af_4 Af_5 Av_3 Av_4 (dX9_stillOn Af_1 Av_2 Av_4) (0 : Int32) ((6 - (0 : Int32).toInt).toNat + 1) (0 : Int32) (0 : Int32) Av_0 Av_5 Af_3 Af_6 Af_8 Af_7).2.2.2.2.2.2.1))) else (if (Av_4 - Av_4 / (7 : Int32) * (7 : Int32)) = (6 : Int32) then ((dX9_goThroughDay_n_l44 Af_4 Af_5 Av_3 Av_4 (dX9_stillOn Af_1 Av_2 Av_4) (Af_2 ((dX9_clockOn Av_2 Av_4)).toNatClampNeg) ((6 - (0 : Int32).toInt).toNat + 1) (0 : Int32) (0 : Int32) Av_0 Av_5 Af_3 Af_6 Af_8 Af_7).2.1, (if ((dX9_goThroughDay_n_l44 Af_4 Af_5 Av_3 Av_4 (dX9_stillOn Af_1 Av_2 Av_4) (Af_2 ((dX9_clockOn Av_2 Av_4)).toNatClampNeg) ((6 - (0 : Int32).toInt).toNat + 1) (0 : Int32) (0 : Int32) Av_0 Av_5 Af_3 Af_6 Af_8 Af_7).2.2.1 + Av_1) < (99 : Int32) then ((dX9_goThroughDay_n_l44 Af_4 Af_5 Av_3 Av_4 (dX9_stillOn Af_1 Av_2 Av_4) (Af_2 ((dX9_clockOn Av_2 Av_4)).toNatClampNeg) ((6 - (0 : Int32).toInt).toNat + 1) (0 : Int32) (0 : Int32) Av_0 Av_5 Af_3 Af_6 Af_8 Af_7).2.2.1 + Av_1) else (99 : Int32)), (Av_4 + (1 : Int32)), (dX9_goThroughDay_n_l44 Af_4 Af_5 Av_3 Av_4 (dX9_stillOn Af_1 Av_2 Av_4) (Af_2 ((dX9_clockOn Av_2 Av_4)).toNatClampNeg) ((6 - (0 : Int32).toInt).toNat + 1) (0 : Int32) (0 : Int32) Av_0 Av_5 Af_3 Af_6 Af_8 Af_7).2.2.2.1, (dX9_changeTempers ((dX9_goThroughDay_n_l44 Af_4 Af_5 Av_3 Av_4 (dX9_stillOn Af_1 Av_2 Av_4) (Af_2 ((dX9_clockOn Av_2 Av_4)).toNatClampNeg) ((6 - (0 : Int32).toInt).toNat + 1) (0 : Int32) (0 : Int32) Av_0 Av_5 Af_3 Af_6 Af_8 Af_7).2.2.2.2.1) Av_3 (dX9_stillOn Af_1 Av_2 Av_4)), ((dX9_goThroughDay_n_l44 Af_4 Af_5 Av_3 Av_4 (dX9_stillOn Af_1 Av_2 Av_4) (Af_2 ((dX9_clockOn Av_2 Av_4)).toNatClampNeg) ((6 - (0 : Int32).toInt).toNat + 1) (0 : Int32) (0 : Int32) Av_0 Av_5 Af_3 Af_6 Af_8 Af_7).2.2.2.2.2.1), ((dX9_goThroughDay_n_l44 Af_4 Af_5 Av_3 Av_4 (dX9_stillOn Af_1 Av_2 Av_4) (Af_2 ((dX9_clockOn Av_2 Av_4)).toNatClampNeg) ((6 - (0 : Int32).toInt).toNat + 1) (0 : Int32) (0 : Int32) Av_0 Av_5 Af_3 Af_6 Af_8 Af_7).2.2.2.2.2.2.2), ((dX9_goThroughDay_n_l44 Af_4 Af_5 Av_3 Av_4 (dX9_stillOn Af_1 Av_2 Av_4) (Af_2 ((dX9_clockOn Av_2 Av_4)).toNatClampNeg) ((6 - (0 : Int32).toInt).toNat + 1) (0 : Int32) (0 : Int32) Av_0 Av_5 Af_3 Af_6 Af_8 Af_7).2.2.2.2.2.2.1)) else ((dX9_goThroughDay_n_l44 Af_4 Af_5 Av_3 Av_4 (dX9_stillOn Af_1 Av_2 Av_4) (Af_2 ((dX9_clockOn Av_2 Av_4)).toNatClampNeg) ((6 - (0 : Int32).toInt).toNat + 1) (0 : Int32) (0 : Int32) Av_0 Av_5 Af_3 Af_6 Af_8 Af_7).2.1, (dX9_goThroughDay_n_l44 Af_4 Af_5 Av_3 Av_4 (dX9_stillOn Af_1 Av_2 Av_4) (Af_2 ((dX9_clockOn Av_2 Av_4)).toNatClampNeg) ((6 - (0 : Int32).toInt).toNat + 1) (0 : Int32) (0 : Int32) Av_0 Av_5 Af_3 Af_6 Af_8 Af_7).2.2.1, (Av_4 + (1 : Int32)), (dX9_goThroughDay_n_l44 Af_4 Af_5 Av_3 Av_4 (dX9_stillOn Af_1 Av_2 Av_4) (Af_2 ((dX9_clockOn Av_2 Av_4)).toNatClampNeg) ((6 - (0 : Int32).toInt).toNat + 1) (0 : Int32) (0 : Int32) Av_0 Av_5 Af_3 Af_6 Af_8 Af_7).2.2.2.1, (dX9_changeTempers ((dX9_goThroughDay_n_l44 Af_4 Af_5 Av_3 Av_4 (dX9_stillOn Af_1 Av_2 Av_4) (Af_2 ((dX9_clockOn Av_2 Av_4)).toNatClampNeg) ((6 - (0 : Int32).toInt).toNat + 1) (0 : Int32) (0 : Int32) Av_0 Av_5 Af_3 Af_6 Af_8 Af_7).2.2.2.2.1) Av_3 (dX9_stillOn Af_1 Av_2 Av_4)), ((dX9_goThroughDay_n_l44 Af_4 Af_5 Av_3 Av_4 (dX9_stillOn Af_1 Av_2 Av_4) (Af_2 ((dX9_clockOn Av_2 Av_4)).toNatClampNeg) ((6 - (0 : Int32).toInt).toNat + 1) (0 : Int32) (0 : Int32) Av_0 Av_5 Af_3 Af_6 Af_8 Af_7).2.2.2.2.2.1), ((dX9_goThroughDay_n_l44 Af_4 Af_5 Av_3 Av_4 (dX9_stillOn Af_1 Av_2 Av_4) (Af_2 ((dX9_clockOn Av_2 Av_4)).toNatClampNeg) ((6 - (0 : Int32).toInt).toNat + 1) (0 : Int32) (0 : Int32) Av_0 Av_5 Af_3 Af_6 Af_8 Af_7).2.2.2.2.2.2.2), ((dX9_goThroughDay_n_l44 Af_4 Af_5 Av_3 Av_4 (dX9_stillOn Af_1 Av_2 Av_4) (Af_2 ((dX9_clockOn Av_2 Av_4)).toNatClampNeg) ((6 - (0 : Int32).toInt).toNat + 1) (0 : Int32) (0 : Int32) Av_0 Av_5 Af_3 Af_6 Af_8 Af_7).2.2.2.2.2.2.1))))
set_option maxHeartbeats 4000000 in
set_option maxRecDepth 100000 in
theorem ct_dX9_goThroughDay_n (l : Launch) (D : va_G) (tc : Nat → ClassId) (sk : (Nat → Nat) × (Nat → Nat)) (Aa : Nat → Nat) (Av : Nat → Int32) (Af : Nat → Nat → Int32)  : Ct l yX9_goThroughDay cX9_goThroughDay 8 (some .int) { frames := 2, cells := 0, slots := 0, locals := 42 } D tc sk [.ref (Aa 0), .null] [((Aa 0), .inr (9, [.int (Av 0), .int (Av 1), .int (Av 2), .int (Av 3), .int (Av 4), .int (Av 5), .ref (Aa 1), .ref (Aa 2), .ref (Aa 3), .ref (Aa 4), .ref (Aa 5), .ref (Aa 6), .ref (Aa 7), .ref (Aa 8)])), ((Aa 1), .inl (tc 0, 10, .inl (Af 1))), ((Aa 2), .inl (tc 0, 10, .inl (Af 2))), ((Aa 3), .inl (tc 0, 6, .inl (Af 3))), ((Aa 4), .inl (tc 0, 6, .inl (Af 4))), ((Aa 5), .inl (tc 0, 6, .inl (Af 5))), ((Aa 6), .inl (tc 0, 6, .inl (Af 6))), ((Aa 7), .inl (tc 0, 6, .inl (Af 7))), ((Aa 8), .inl (tc 0, 6, .inl (Af 8)))] (fun (v : Option Value) (u : (Int32) × (Int32) × (Int32) × (Nat → Int32) × (Nat → Int32) × (Nat → Int32) × (Nat → Int32)) => match u with | (oo0x1, oo0x2, oo0x3, oo0x4, oo0x5, oo0x6, oo0x7) => ∃ r : Int32, v = some (.int r) ∧ ((True) ∧ (r, oo0x1, oo0x2, oo0x3, oo0x4, oo0x5, oo0x6, oo0x7) = (dX9_goThroughDay_n (Af 1) (Af 2) (Af 3) (Af 4) (Af 5) (Af 6) (Af 7) (Af 8) (Av 0) (Av 1) (Av 2) (Av 3) (Av 4) (Av 5)))) (fun (u : (Int32) × (Int32) × (Int32) × (Nat → Int32) × (Nat → Int32) × (Nat → Int32) × (Nat → Int32)) => match u with | (oo0x1, oo0x2, oo0x3, oo0x4, oo0x5, oo0x6, oo0x7) => [((Aa 0), .inr (9, [.int oo0x1, .int (Av 1), .int (Av 2), .int (Av 3), .int oo0x2, .int oo0x3, .ref (Aa 1), .ref (Aa 2), .ref (Aa 3), .ref (Aa 4), .ref (Aa 5), .ref (Aa 6), .ref (Aa 7), .ref (Aa 8)])), ((Aa 1), .inl (tc 0, 10, .inl (Af 1))), ((Aa 2), .inl (tc 0, 10, .inl (Af 2))), ((Aa 3), .inl (tc 0, 6, .inl oo0x4)), ((Aa 4), .inl (tc 0, 6, .inl (Af 4))), ((Aa 5), .inl (tc 0, 6, .inl (Af 5))), ((Aa 6), .inl (tc 0, 6, .inl oo0x5)), ((Aa 7), .inl (tc 0, 6, .inl oo0x6)), ((Aa 8), .inl (tc 0, 6, .inl oo0x7))]) 0 0 := by
  refine Ct.start (by decide) (Nat.le_of_ble_eq_true rfl) (fun p e s m below meth c A ls hx hb hr hlk hin hml hown hts hK hX hP hD hA hl hS => ?_)
  have hl : lv_has ls 8 [(0, .ref (Aa 0)), (1, .null)] := hl
  refine lv_aload_n hx hb dX9_goThroughDay_0 rfl (lv_at hl 0 rfl) ?_
  refine lv_aload_n hx hb dX9_goThroughDay_1 rfl (lv_at hl 0 rfl) ?_
  refine gf_X9_24 hx hb hts hown hK hP 0 rfl rfl dX9_goThroughDay_2 ?_
  refine cV (a := (Aa 0)) (As := [.int (Av 4)]) (rest := []) (wr := []) ⟨hx, hb, hml, hown, hts⟩ hK hX hA (cu_dX9_stillOn l D tc sk (Aa 0) (Aa 1) (Aa 2) (Aa 3) (Aa 4) (Aa 5) (Aa 6) (Aa 7) (Aa 8) (Av 0) (Av 1) (Av 2) (Av 3) (Av 4) (Av 5) (Af 1) (Af 2) (Af 3) (Af 4) (Af 5) (Af 6) (Af 7) (Af 8) (Av 4)) k_743 k_740 k_741 k_742 k_98 pl_X9_stillOn ⟨Nat.le_of_ble_eq_true rfl, Nat.le_of_ble_eq_true rfl⟩ rfl rfl (va_recv hK hP (ci := 9) (q0 := 0) rfl rfl) hP hD hS [0, 1, 2, 3, 4, 5, 6, 7, 8] [] rfl rfl rfl rfl rfl (by decide) rfl hl.1 rfl (Nat.le_of_ble_eq_true rfl) dX9_goThroughDay_5 ⟨Nat.le_of_ble_eq_true rfl, Nat.le_of_ble_eq_true rfl⟩ (fun v_1 u_2 H locs hv_3 hP₀ hD₀ hS₀ => ?_)
  obtain ⟨r_4, rfl, he_5⟩ := hv_3
  have he_5 : (True) ∧ r_4 = (dX9_stillOn (Af 1) (Av 2) (Av 4)) := he_5
  refine W.eq (g2 := F0 m 8 ls [.int r_4]) rfl ?_
  replace hP : va_P D classes [((Aa 0), .inr (9, [.int (Av 0), .int (Av 1), .int (Av 2), .int (Av 3), .int (Av 4), .int (Av 5), .ref (Aa 1), .ref (Aa 2), .ref (Aa 3), .ref (Aa 4), .ref (Aa 5), .ref (Aa 6), .ref (Aa 7), .ref (Aa 8)])), ((Aa 1), .inl (tc 0, 10, .inl (Af 1))), ((Aa 2), .inl (tc 0, 10, .inl (Af 2))), ((Aa 3), .inl (tc 0, 6, .inl (Af 3))), ((Aa 4), .inl (tc 0, 6, .inl (Af 4))), ((Aa 5), .inl (tc 0, 6, .inl (Af 5))), ((Aa 6), .inl (tc 0, 6, .inl (Af 6))), ((Aa 7), .inl (tc 0, 6, .inl (Af 7))), ((Aa 8), .inl (tc 0, 6, .inl (Af 8)))] H := hP₀
  replace hD : va_D A [((Aa 0), .inr (9, [.int (Av 0), .int (Av 1), .int (Av 2), .int (Av 3), .int (Av 4), .int (Av 5), .ref (Aa 1), .ref (Aa 2), .ref (Aa 3), .ref (Aa 4), .ref (Aa 5), .ref (Aa 6), .ref (Aa 7), .ref (Aa 8)])), ((Aa 1), .inl (tc 0, 10, .inl (Af 1))), ((Aa 2), .inl (tc 0, 10, .inl (Af 2))), ((Aa 3), .inl (tc 0, 6, .inl (Af 3))), ((Aa 4), .inl (tc 0, 6, .inl (Af 4))), ((Aa 5), .inl (tc 0, 6, .inl (Af 5))), ((Aa 6), .inl (tc 0, 6, .inl (Af 6))), ((Aa 7), .inl (tc 0, 6, .inl (Af 7))), ((Aa 8), .inl (tc 0, 6, .inl (Af 8)))] := hD₀
  replace hS := hS₀
  clear hP₀ hD₀ hS₀
  obtain ⟨he_5, hq_7⟩ := he_5
  have er_4 : r_4 = (dX9_stillOn (Af 1) (Av 2) (Av 4)) := hq_7
  refine lv_istore_n (lv' := [(2, .int r_4), (0, .ref (Aa 0)), (1, .null)]) hx hb dX9_goThroughDay_8 rfl hl (by decide) rfl (fun ls hl₀ => ?_)
  replace hl := hl₀
  clear hl₀
  refine lv_aload_n hx hb dX9_goThroughDay_9 rfl (lv_at hl 1 rfl) ?_
  refine lv_aload_n hx hb dX9_goThroughDay_10 rfl (lv_at hl 1 rfl) ?_
  refine gf_X9_24 hx hb hts hown hK hP 0 rfl rfl dX9_goThroughDay_11 ?_
  refine cV (a := (Aa 0)) (As := [.int (Av 4)]) (rest := []) (wr := []) ⟨hx, hb, hml, hown, hts⟩ hK hX hA (cu_dX9_clockOn l D tc sk (Aa 0) (Aa 1) (Aa 2) (Aa 3) (Aa 4) (Aa 5) (Aa 6) (Aa 7) (Aa 8) (Av 0) (Av 1) (Av 2) (Av 3) (Av 4) (Av 5) (Af 1) (Af 2) (Af 3) (Af 4) (Af 5) (Af 6) (Af 7) (Af 8) (Av 4)) k_747 k_744 k_745 k_746 k_98 pl_X9_clockOn ⟨Nat.le_of_ble_eq_true rfl, Nat.le_of_ble_eq_true rfl⟩ rfl rfl (va_recv hK hP (ci := 9) (q0 := 0) rfl rfl) hP hD hS [0, 1, 2, 3, 4, 5, 6, 7, 8] [] rfl rfl rfl rfl rfl (by decide) rfl hl.1 rfl (Nat.le_of_ble_eq_true rfl) dX9_goThroughDay_14 ⟨Nat.le_of_ble_eq_true rfl, Nat.le_of_ble_eq_true rfl⟩ (fun v_8 u_9 H locs hv_10 hP₀ hD₀ hS₀ => ?_)
  obtain ⟨r_11, rfl, he_12⟩ := hv_10
  have he_12 : (True) ∧ r_11 = (dX9_clockOn (Av 2) (Av 4)) := he_12
  refine W.eq (g2 := F0 m 17 ls [.int r_11]) rfl ?_
  replace hP : va_P D classes [((Aa 0), .inr (9, [.int (Av 0), .int (Av 1), .int (Av 2), .int (Av 3), .int (Av 4), .int (Av 5), .ref (Aa 1), .ref (Aa 2), .ref (Aa 3), .ref (Aa 4), .ref (Aa 5), .ref (Aa 6), .ref (Aa 7), .ref (Aa 8)])), ((Aa 1), .inl (tc 0, 10, .inl (Af 1))), ((Aa 2), .inl (tc 0, 10, .inl (Af 2))), ((Aa 3), .inl (tc 0, 6, .inl (Af 3))), ((Aa 4), .inl (tc 0, 6, .inl (Af 4))), ((Aa 5), .inl (tc 0, 6, .inl (Af 5))), ((Aa 6), .inl (tc 0, 6, .inl (Af 6))), ((Aa 7), .inl (tc 0, 6, .inl (Af 7))), ((Aa 8), .inl (tc 0, 6, .inl (Af 8)))] H := hP₀
  replace hD : va_D A [((Aa 0), .inr (9, [.int (Av 0), .int (Av 1), .int (Av 2), .int (Av 3), .int (Av 4), .int (Av 5), .ref (Aa 1), .ref (Aa 2), .ref (Aa 3), .ref (Aa 4), .ref (Aa 5), .ref (Aa 6), .ref (Aa 7), .ref (Aa 8)])), ((Aa 1), .inl (tc 0, 10, .inl (Af 1))), ((Aa 2), .inl (tc 0, 10, .inl (Af 2))), ((Aa 3), .inl (tc 0, 6, .inl (Af 3))), ((Aa 4), .inl (tc 0, 6, .inl (Af 4))), ((Aa 5), .inl (tc 0, 6, .inl (Af 5))), ((Aa 6), .inl (tc 0, 6, .inl (Af 6))), ((Aa 7), .inl (tc 0, 6, .inl (Af 7))), ((Aa 8), .inl (tc 0, 6, .inl (Af 8)))] := hD₀
  replace hS := hS₀
  clear hP₀ hD₀ hS₀
  obtain ⟨he_12, hq_14⟩ := he_12
  have er_11 : r_11 = (dX9_clockOn (Av 2) (Av 4)) := hq_14
  refine lv_istore_n (lv' := [(3, .int r_11), (2, .int r_4), (0, .ref (Aa 0)), (1, .null)]) hx hb dX9_goThroughDay_17 rfl hl (by decide) rfl (fun ls hl₀ => ?_)
  replace hl := hl₀
  clear hl₀
  refine lv_aload_n hx hb dX9_goThroughDay_18 rfl (lv_at hl 2 rfl) ?_
  refine lv_iload_n hx hb dX9_goThroughDay_19 rfl (lv_at hl 0 rfl) ?_
  refine cV (a := (Aa 0)) (As := [.int r_11]) (rest := []) (wr := []) ⟨hx, hb, hml, hown, hts⟩ hK hX hA (cu_dX9_hasClock l D tc sk (Aa 0) (Aa 1) (Aa 2) (Aa 3) (Aa 4) (Aa 5) (Aa 6) (Aa 7) (Aa 8) (Av 0) (Av 1) (Av 2) (Av 3) (Av 4) (Av 5) (Af 1) (Af 2) (Af 3) (Af 4) (Af 5) (Af 6) (Af 7) (Af 8) r_11) k_579 k_748 k_577 k_578 k_98 pl_X9_hasClock ⟨Nat.le_of_ble_eq_true rfl, Nat.le_of_ble_eq_true rfl⟩ rfl rfl (va_recv hK hP (ci := 9) (q0 := 0) rfl rfl) hP hD hS [0, 1, 2, 3, 4, 5, 6, 7, 8] [] rfl rfl rfl rfl rfl (by decide) rfl hl.1 rfl (Nat.le_of_ble_eq_true rfl) dX9_goThroughDay_20 ⟨Nat.le_of_ble_eq_true rfl, Nat.le_of_ble_eq_true rfl⟩ (fun v_15 u_16 H locs hv_17 hP₀ hD₀ hS₀ => ?_)
  obtain ⟨r_18, rfl, he_19⟩ := hv_17
  have he_19 : ((r_18.toInt = 0 ∨ (r_18.toInt = 1 ∧ 0 ≤ r_11.toInt ∧ r_11.toInt < 10))) ∧ r_18 = (dX9_hasClock (Av 2) r_11) := he_19
  refine W.eq (g2 := F0 m 23 ls [.int r_18]) rfl ?_
  replace hP : va_P D classes [((Aa 0), .inr (9, [.int (Av 0), .int (Av 1), .int (Av 2), .int (Av 3), .int (Av 4), .int (Av 5), .ref (Aa 1), .ref (Aa 2), .ref (Aa 3), .ref (Aa 4), .ref (Aa 5), .ref (Aa 6), .ref (Aa 7), .ref (Aa 8)])), ((Aa 1), .inl (tc 0, 10, .inl (Af 1))), ((Aa 2), .inl (tc 0, 10, .inl (Af 2))), ((Aa 3), .inl (tc 0, 6, .inl (Af 3))), ((Aa 4), .inl (tc 0, 6, .inl (Af 4))), ((Aa 5), .inl (tc 0, 6, .inl (Af 5))), ((Aa 6), .inl (tc 0, 6, .inl (Af 6))), ((Aa 7), .inl (tc 0, 6, .inl (Af 7))), ((Aa 8), .inl (tc 0, 6, .inl (Af 8)))] H := hP₀
  replace hD : va_D A [((Aa 0), .inr (9, [.int (Av 0), .int (Av 1), .int (Av 2), .int (Av 3), .int (Av 4), .int (Av 5), .ref (Aa 1), .ref (Aa 2), .ref (Aa 3), .ref (Aa 4), .ref (Aa 5), .ref (Aa 6), .ref (Aa 7), .ref (Aa 8)])), ((Aa 1), .inl (tc 0, 10, .inl (Af 1))), ((Aa 2), .inl (tc 0, 10, .inl (Af 2))), ((Aa 3), .inl (tc 0, 6, .inl (Af 3))), ((Aa 4), .inl (tc 0, 6, .inl (Af 4))), ((Aa 5), .inl (tc 0, 6, .inl (Af 5))), ((Aa 6), .inl (tc 0, 6, .inl (Af 6))), ((Aa 7), .inl (tc 0, 6, .inl (Af 7))), ((Aa 8), .inl (tc 0, 6, .inl (Af 8)))] := hD₀
  replace hS := hS₀
  clear hP₀ hD₀ hS₀
  obtain ⟨he_19, hq_21⟩ := he_19
  have er_18 : r_18 = (dX9_hasClock (Av 2) r_11) := hq_21
  refine lv_if_eq (tgt := 35) hx hb dX9_goThroughDay_23 (by decide) (fun c_22 => ?_) (fun c_22 => ?_)
  · skip
    refine lv_iconst (v := 0) hx hb dX9_goThroughDay_35 (by decide) ?_
    refine lv_istore (lv' := [(4, .int 0), (3, .int r_11), (2, .int r_4), (0, .ref (Aa 0)), (1, .null)]) hx hb dX9_goThroughDay_36 hl (by decide) rfl (fun ls hl₀ => ?_)
    replace hl := hl₀
    clear hl₀
    refine lv_iconst (v := 0) hx hb dX9_goThroughDay_38 (by decide) ?_
    refine lv_istore (lv' := [(5, .int 0), (4, .int 0), (3, .int r_11), (2, .int r_4), (0, .ref (Aa 0)), (1, .null)]) hx hb dX9_goThroughDay_39 hl (by decide) rfl (fun ls hl₀ => ?_)
    replace hl := hl₀
    clear hl₀
    refine lv_iconst (v := 0) hx hb dX9_goThroughDay_41 (by decide) ?_
    refine lv_istore (lv' := [(6, .int 0), (5, .int 0), (4, .int 0), (3, .int r_11), (2, .int r_4), (0, .ref (Aa 0)), (1, .null)]) hx hb dX9_goThroughDay_42 hl (by decide) rfl (fun ls hl₀ => ?_)
    replace hl := hl₀
    clear hl₀
    have loop_25 : ∀ (n_23 : Nat) (yy_4500 : Int32) (yy_4501 : Int32) (yy_4502 : Int32) (yy_4503 : Int32) (yy_4504 : Nat → Int32) (yy_4505 : Nat → Int32) (yy_4506 : Nat → Int32) (yy_4507 : Nat → Int32) (H : Heap) (locs : List Loc) (ls : Array Slot), (6 - (yy_4500 : Int32).toInt).toNat < n_23 → (dX9_goThroughDay_n_l44 (Af 4) (Af 5) (Av 3) (Av 4) r_4 (0 : Int32) ((6 - (0 : Int32).toInt).toNat + 1) (0 : Int32) (0 : Int32) (Av 0) (Av 5) (Af 3) (Af 6) (Af 8) (Af 7)) = dX9_goThroughDay_n_l44 (Af 4) (Af 5) (Av 3) (Av 4) r_4 (0 : Int32) ((6 - (yy_4500 : Int32).toInt).toNat + 1) yy_4500 yy_4501 yy_4502 yy_4503 yy_4504 yy_4505 yy_4506 yy_4507 → (0 ≤ (yy_4500 : Int32).toInt) → va_P D classes [((Aa 0), .inr (9, [.int yy_4502, .int (Av 1), .int (Av 2), .int (Av 3), .int (Av 4), .int yy_4503, .ref (Aa 1), .ref (Aa 2), .ref (Aa 3), .ref (Aa 4), .ref (Aa 5), .ref (Aa 6), .ref (Aa 7), .ref (Aa 8)])), ((Aa 1), .inl (tc 0, 10, .inl (Af 1))), ((Aa 2), .inl (tc 0, 10, .inl (Af 2))), ((Aa 3), .inl (tc 0, 6, .inl yy_4504)), ((Aa 4), .inl (tc 0, 6, .inl (Af 4))), ((Aa 5), .inl (tc 0, 6, .inl (Af 5))), ((Aa 6), .inl (tc 0, 6, .inl yy_4505)), ((Aa 7), .inl (tc 0, 6, .inl yy_4507)), ((Aa 8), .inl (tc 0, 6, .inl yy_4506))] H → va_D A [((Aa 0), .inr (9, [.int yy_4502, .int (Av 1), .int (Av 2), .int (Av 3), .int (Av 4), .int yy_4503, .ref (Aa 1), .ref (Aa 2), .ref (Aa 3), .ref (Aa 4), .ref (Aa 5), .ref (Aa 6), .ref (Aa 7), .ref (Aa 8)])), ((Aa 1), .inl (tc 0, 10, .inl (Af 1))), ((Aa 2), .inl (tc 0, 10, .inl (Af 2))), ((Aa 3), .inl (tc 0, 6, .inl yy_4504)), ((Aa 4), .inl (tc 0, 6, .inl (Af 4))), ((Aa 5), .inl (tc 0, 6, .inl (Af 5))), ((Aa 6), .inl (tc 0, 6, .inl yy_4505)), ((Aa 7), .inl (tc 0, 6, .inl yy_4507)), ((Aa 8), .inl (tc 0, 6, .inl yy_4506))] → va_S A s.heap H locs → lv_has ls 8 [(6, .int yy_4500), (5, .int yy_4501), (4, .int 0), (3, .int r_11), (2, .int r_4), (0, .ref (Aa 0)), (1, .null)] → W p l e ({ frames := 2, cells := 0, slots := 0, locals := 42 }) s m ([.ref (Aa 0), .null].toArray) below meth c H locs 0 0 (MQ below (QW (fun (v : Option Value) (u : (Int32) × (Int32) × (Int32) × (Nat → Int32) × (Nat → Int32) × (Nat → Int32) × (Nat → Int32)) => match u with | (oo0x1, oo0x2, oo0x3, oo0x4, oo0x5, oo0x6, oo0x7) => ∃ r : Int32, v = some (.int r) ∧ ((True) ∧ (r, oo0x1, oo0x2, oo0x3, oo0x4, oo0x5, oo0x6, oo0x7) = (dX9_goThroughDay_n (Af 1) (Af 2) (Af 3) (Af 4) (Af 5) (Af 6) (Af 7) (Af 8) (Av 0) (Av 1) (Av 2) (Av 3) (Av 4) (Av 5)))) (BW D (fun (u : (Int32) × (Int32) × (Int32) × (Nat → Int32) × (Nat → Int32) × (Nat → Int32) × (Nat → Int32)) => match u with | (oo0x1, oo0x2, oo0x3, oo0x4, oo0x5, oo0x6, oo0x7) => [((Aa 0), .inr (9, [.int oo0x1, .int (Av 1), .int (Av 2), .int (Av 3), .int oo0x2, .int oo0x3, .ref (Aa 1), .ref (Aa 2), .ref (Aa 3), .ref (Aa 4), .ref (Aa 5), .ref (Aa 6), .ref (Aa 7), .ref (Aa 8)])), ((Aa 1), .inl (tc 0, 10, .inl (Af 1))), ((Aa 2), .inl (tc 0, 10, .inl (Af 2))), ((Aa 3), .inl (tc 0, 6, .inl oo0x4)), ((Aa 4), .inl (tc 0, 6, .inl (Af 4))), ((Aa 5), .inl (tc 0, 6, .inl (Af 5))), ((Aa 6), .inl (tc 0, 6, .inl oo0x5)), ((Aa 7), .inl (tc 0, 6, .inl oo0x6)), ((Aa 8), .inl (tc 0, 6, .inl oo0x7))]) A) A) ([.ref (Aa 0), .null].toArray) s 0 0 A) (F0 m 44 ls []) := by
      clear hP hD hS hl
      intro n_23
      induction n_23 with
      | zero =>
        intro yy_4500 yy_4501 yy_4502 yy_4503 yy_4504 yy_4505 yy_4506 yy_4507 H locs ls h1
        exact absurd h1 (Nat.not_lt_zero _)
      | succ n_23 ih_24 =>
        intro yy_4500 yy_4501 yy_4502 yy_4503 yy_4504 yy_4505 yy_4506 yy_4507 H locs ls hn_28 hL_27 pf_26 hP hD hS hl
        refine lv_iload hx hb dX9_goThroughDay_44 (lv_at hl 0 rfl) ?_
        refine lv_aload_n hx hb dX9_goThroughDay_46 rfl (lv_at hl 5 rfl) ?_
        refine gf_X9_21 hx hb hts hown hK hP 0 rfl rfl dX9_goThroughDay_47 ?_
        refine lv_icmp_ge (tgt := 183) hx hb dX9_goThroughDay_50 (by decide) (fun c_29 => ?_) (fun c_29 => ?_)
        · skip
          have hb_31 : dX9_goThroughDay_n_l44 (Af 4) (Af 5) (Av 3) (Av 4) r_4 (0 : Int32) ((6 - (yy_4500 : Int32).toInt).toNat + 1) yy_4500 yy_4501 yy_4502 yy_4503 yy_4504 yy_4505 yy_4506 yy_4507 = (yy_4500, yy_4501, yy_4502, yy_4503, yy_4504, yy_4505, yy_4506, yy_4507) := by
            clear hP hD hS hl ih_24
            replace er_4 := er_4.symm; subst er_4
            replace er_11 := er_11.symm; subst er_11
            replace er_18 := er_18.symm; subst er_18
            rw [dX9_goThroughDay_n_l44_s]
            rw [if_pos c_29]
            try rfl
          have hX_30 : (dX9_goThroughDay_n_l44 (Af 4) (Af 5) (Av 3) (Av 4) r_4 (0 : Int32) ((6 - (0 : Int32).toInt).toNat + 1) (0 : Int32) (0 : Int32) (Av 0) (Av 5) (Af 3) (Af 6) (Af 8) (Af 7)) = (yy_4500, yy_4501, yy_4502, yy_4503, yy_4504, yy_4505, yy_4506, yy_4507) := hL_27.trans hb_31
          have hX_30_0 : (dX9_goThroughDay_n_l44 (Af 4) (Af 5) (Av 3) (Av 4) r_4 (0 : Int32) ((6 - (0 : Int32).toInt).toNat + 1) (0 : Int32) (0 : Int32) (Av 0) (Av 5) (Af 3) (Af 6) (Af 8) (Af 7)).1 = yy_4500 := congrArg (fun z => z.1) hX_30
          have hX_30_1 : (dX9_goThroughDay_n_l44 (Af 4) (Af 5) (Av 3) (Av 4) r_4 (0 : Int32) ((6 - (0 : Int32).toInt).toNat + 1) (0 : Int32) (0 : Int32) (Av 0) (Av 5) (Af 3) (Af 6) (Af 8) (Af 7)).2.1 = yy_4501 := congrArg (fun z => z.2.1) hX_30
          have hX_30_2 : (dX9_goThroughDay_n_l44 (Af 4) (Af 5) (Av 3) (Av 4) r_4 (0 : Int32) ((6 - (0 : Int32).toInt).toNat + 1) (0 : Int32) (0 : Int32) (Av 0) (Av 5) (Af 3) (Af 6) (Af 8) (Af 7)).2.2.1 = yy_4502 := congrArg (fun z => z.2.2.1) hX_30
          have hX_30_3 : (dX9_goThroughDay_n_l44 (Af 4) (Af 5) (Av 3) (Av 4) r_4 (0 : Int32) ((6 - (0 : Int32).toInt).toNat + 1) (0 : Int32) (0 : Int32) (Av 0) (Av 5) (Af 3) (Af 6) (Af 8) (Af 7)).2.2.2.1 = yy_4503 := congrArg (fun z => z.2.2.2.1) hX_30
          have hX_30_4 : (dX9_goThroughDay_n_l44 (Af 4) (Af 5) (Av 3) (Av 4) r_4 (0 : Int32) ((6 - (0 : Int32).toInt).toNat + 1) (0 : Int32) (0 : Int32) (Av 0) (Av 5) (Af 3) (Af 6) (Af 8) (Af 7)).2.2.2.2.1 = yy_4504 := congrArg (fun z => z.2.2.2.2.1) hX_30
          have hX_30_5 : (dX9_goThroughDay_n_l44 (Af 4) (Af 5) (Av 3) (Av 4) r_4 (0 : Int32) ((6 - (0 : Int32).toInt).toNat + 1) (0 : Int32) (0 : Int32) (Av 0) (Av 5) (Af 3) (Af 6) (Af 8) (Af 7)).2.2.2.2.2.1 = yy_4505 := congrArg (fun z => z.2.2.2.2.2.1) hX_30
          have hX_30_6 : (dX9_goThroughDay_n_l44 (Af 4) (Af 5) (Av 3) (Av 4) r_4 (0 : Int32) ((6 - (0 : Int32).toInt).toNat + 1) (0 : Int32) (0 : Int32) (Av 0) (Av 5) (Af 3) (Af 6) (Af 8) (Af 7)).2.2.2.2.2.2.1 = yy_4506 := congrArg (fun z => z.2.2.2.2.2.2.1) hX_30
          have hX_30_7 : (dX9_goThroughDay_n_l44 (Af 4) (Af 5) (Av 3) (Av 4) r_4 (0 : Int32) ((6 - (0 : Int32).toInt).toNat + 1) (0 : Int32) (0 : Int32) (Av 0) (Av 5) (Af 3) (Af 6) (Af 8) (Af 7)).2.2.2.2.2.2.2 = yy_4507 := congrArg (fun z => z.2.2.2.2.2.2.2) hX_30
          refine lv_aload_n hx hb dX9_goThroughDay_183 rfl (lv_at hl 5 rfl) ?_
          refine lv_iload_n hx hb dX9_goThroughDay_184 rfl (lv_at hl 4 rfl) ?_
          refine cV (a := (Aa 0)) (As := [.int r_4]) (rest := []) (wr := []) ⟨hx, hb, hml, hown, hts⟩ hK hX hA (cu_dX9_changeTempers l D tc sk (Aa 0) (Aa 1) (Aa 2) (Aa 3) (Aa 4) (Aa 5) (Aa 6) (Aa 7) (Aa 8) yy_4502 (Av 1) (Av 2) (Av 3) (Av 4) yy_4503 (Af 1) (Af 2) yy_4504 (Af 4) (Af 5) yy_4505 yy_4507 yy_4506 r_4) k_779 k_776 k_778 k_15 k_98 pl_X9_changeTempers ⟨Nat.le_of_ble_eq_true rfl, Nat.le_of_ble_eq_true rfl⟩ rfl rfl (va_recv hK hP (ci := 9) (q0 := 0) rfl rfl) hP hD hS [0, 1, 2, 3, 4, 5, 6, 7, 8] [] rfl rfl rfl rfl rfl (by decide) rfl hl.1 rfl (Nat.le_of_ble_eq_true rfl) dX9_goThroughDay_185 ⟨Nat.le_of_ble_eq_true rfl, Nat.le_of_ble_eq_true rfl⟩ (fun v_32 u_33 H locs hv_34 hP₀ hD₀ hS₀ => ?_)
          obtain ⟨sv_35, rfl⟩ : ∃ z, z = u_33 := ⟨_, rfl⟩
          obtain ⟨rfl, pf_36⟩ := hv_34
          have pf_36 : DEq (sv_35) (dX9_changeTempers yy_4504 (Av 3) r_4) := pf_36
          refine W.eq (g2 := F0 m 188 ls []) rfl ?_
          replace hP : va_P D classes [((Aa 0), .inr (9, [.int yy_4502, .int (Av 1), .int (Av 2), .int (Av 3), .int (Av 4), .int yy_4503, .ref (Aa 1), .ref (Aa 2), .ref (Aa 3), .ref (Aa 4), .ref (Aa 5), .ref (Aa 6), .ref (Aa 7), .ref (Aa 8)])), ((Aa 1), .inl (tc 0, 10, .inl (Af 1))), ((Aa 2), .inl (tc 0, 10, .inl (Af 2))), ((Aa 3), .inl (tc 0, 6, .inl sv_35)), ((Aa 4), .inl (tc 0, 6, .inl (Af 4))), ((Aa 5), .inl (tc 0, 6, .inl (Af 5))), ((Aa 6), .inl (tc 0, 6, .inl yy_4505)), ((Aa 7), .inl (tc 0, 6, .inl yy_4507)), ((Aa 8), .inl (tc 0, 6, .inl yy_4506))] H := hP₀
          replace hD : va_D A [((Aa 0), .inr (9, [.int yy_4502, .int (Av 1), .int (Av 2), .int (Av 3), .int (Av 4), .int yy_4503, .ref (Aa 1), .ref (Aa 2), .ref (Aa 3), .ref (Aa 4), .ref (Aa 5), .ref (Aa 6), .ref (Aa 7), .ref (Aa 8)])), ((Aa 1), .inl (tc 0, 10, .inl (Af 1))), ((Aa 2), .inl (tc 0, 10, .inl (Af 2))), ((Aa 3), .inl (tc 0, 6, .inl sv_35)), ((Aa 4), .inl (tc 0, 6, .inl (Af 4))), ((Aa 5), .inl (tc 0, 6, .inl (Af 5))), ((Aa 6), .inl (tc 0, 6, .inl yy_4505)), ((Aa 7), .inl (tc 0, 6, .inl yy_4507)), ((Aa 8), .inl (tc 0, 6, .inl yy_4506))] := hD₀
          replace hS := hS₀
          clear hP₀ hD₀ hS₀
          have esv_35 : sv_35 = (dX9_changeTempers yy_4504 (Av 3) r_4) := pf_36
          refine lv_aload_n hx hb dX9_goThroughDay_188 rfl (lv_at hl 5 rfl) ?_
          refine gf_X9_24 hx hb hts hown hK hP 0 rfl rfl dX9_goThroughDay_189 ?_
          refine lv_bipush (v := 7) hx hb dX9_goThroughDay_192 (by decide) ?_
          refine lv_irem hx hb dX9_goThroughDay_194 (by decide) ?_
          refine lv_topi (fun x_37 ex_37 => ?_)
          refine lv_bipush (v := 6) hx hb dX9_goThroughDay_195 (by decide) ?_
          refine lv_icmp_ne (tgt := 218) hx hb dX9_goThroughDay_197 (by decide) (fun c_38 => ?_) (fun c_38 => ?_)
          · skip
            refine lv_aload_n hx hb dX9_goThroughDay_218 rfl (lv_at hl 5 rfl) ?_
            refine lv_dup hx hb dX9_goThroughDay_219 rfl ?_
            refine gf_X9_24 hx hb hts hown hK hP 0 rfl rfl dX9_goThroughDay_220 ?_
            refine lv_iconst (v := 1) hx hb dX9_goThroughDay_223 (by decide) ?_
            refine lv_iadd hx hb dX9_goThroughDay_224 ?_
            refine lv_topi (fun x_39 ex_39 => ?_)
            refine pf_X9_24 hx hb hts hown hK hP hD hS 0 rfl (Nat.le_of_ble_eq_true rfl) rfl rfl dX9_goThroughDay_225 (fun H locs hP₀ hD₀ hS₀ => ?_)
            replace hP : va_P D classes [((Aa 0), .inr (9, [.int yy_4502, .int (Av 1), .int (Av 2), .int (Av 3), .int x_39, .int yy_4503, .ref (Aa 1), .ref (Aa 2), .ref (Aa 3), .ref (Aa 4), .ref (Aa 5), .ref (Aa 6), .ref (Aa 7), .ref (Aa 8)])), ((Aa 1), .inl (tc 0, 10, .inl (Af 1))), ((Aa 2), .inl (tc 0, 10, .inl (Af 2))), ((Aa 3), .inl (tc 0, 6, .inl sv_35)), ((Aa 4), .inl (tc 0, 6, .inl (Af 4))), ((Aa 5), .inl (tc 0, 6, .inl (Af 5))), ((Aa 6), .inl (tc 0, 6, .inl yy_4505)), ((Aa 7), .inl (tc 0, 6, .inl yy_4507)), ((Aa 8), .inl (tc 0, 6, .inl yy_4506))] H := hP₀
            replace hD : va_D A [((Aa 0), .inr (9, [.int yy_4502, .int (Av 1), .int (Av 2), .int (Av 3), .int x_39, .int yy_4503, .ref (Aa 1), .ref (Aa 2), .ref (Aa 3), .ref (Aa 4), .ref (Aa 5), .ref (Aa 6), .ref (Aa 7), .ref (Aa 8)])), ((Aa 1), .inl (tc 0, 10, .inl (Af 1))), ((Aa 2), .inl (tc 0, 10, .inl (Af 2))), ((Aa 3), .inl (tc 0, 6, .inl sv_35)), ((Aa 4), .inl (tc 0, 6, .inl (Af 4))), ((Aa 5), .inl (tc 0, 6, .inl (Af 5))), ((Aa 6), .inl (tc 0, 6, .inl yy_4505)), ((Aa 7), .inl (tc 0, 6, .inl yy_4507)), ((Aa 8), .inl (tc 0, 6, .inl yy_4506))] := hD₀
            replace hS := hS₀
            clear hP₀ hD₀ hS₀
            refine lv_iload hx hb dX9_goThroughDay_228 (lv_at hl 1 rfl) ?_
            have hF_40 : (yy_4501, yy_4502, x_39, yy_4503, sv_35, yy_4505, yy_4507, yy_4506) = (dX9_goThroughDay_n (Af 1) (Af 2) (Af 3) (Af 4) (Af 5) (Af 6) (Af 7) (Af 8) (Av 0) (Av 1) (Av 2) (Av 3) (Av 4) (Av 5)) := by
              clear hP hD hS hl ih_24
              replace er_4 := er_4.symm; subst er_4
              replace er_11 := er_11.symm; subst er_11
              replace er_18 := er_18.symm; subst er_18
              replace esv_35 := esv_35.symm; subst esv_35
              replace ex_37 := ex_37.symm; subst ex_37
              replace ex_39 := ex_39.symm; subst ex_39
              unfold dX9_goThroughDay_n
              try rw [hX_30_0]
              try rw [hX_30_1]
              try rw [hX_30_2]
              try rw [hX_30_3]
              try rw [hX_30_4]
              try rw [hX_30_5]
              try rw [hX_30_6]
              try rw [hX_30_7]
              rw [if_pos c_22, if_neg c_38]
              try rfl
            exact retI (v := yy_4501) hx hb hr hlk (rfl) hP hD hS (yy_4502, x_39, yy_4503, sv_35, yy_4505, yy_4507, yy_4506) ⟨_, rfl, ⟨trivial, hF_40⟩⟩ [0, 1, 2, 3, 4, 5, 6, 7, 8] rfl rfl dX9_goThroughDay_230 (Nat.le_of_ble_eq_true rfl) (Nat.le_of_ble_eq_true rfl) rfl
          · skip
            refine lv_aload_n hx hb dX9_goThroughDay_200 rfl (lv_at hl 5 rfl) ?_
            refine lv_bipush (v := 99) hx hb dX9_goThroughDay_201 (by decide) ?_
            refine lv_aload_n hx hb dX9_goThroughDay_203 rfl (lv_at hl 5 rfl) ?_
            refine gf_X9_9 hx hb hts hown hK hP 0 rfl rfl dX9_goThroughDay_204 ?_
            refine lv_aload_n hx hb dX9_goThroughDay_207 rfl (lv_at hl 5 rfl) ?_
            refine gf_X9_15 hx hb hts hown hK hP 0 rfl rfl dX9_goThroughDay_208 ?_
            refine lv_iadd hx hb dX9_goThroughDay_211 ?_
            refine lv_topi (fun x_41 ex_41 => ?_)
            refine va_mmin hx hb (hml.trans hl.1.symm) hown (hts _ k_780) (hts _ k_680) (hts _ k_114) (hts _ k_681) (Nat.le_of_ble_eq_true rfl) (Nat.le_of_ble_eq_true rfl) (Nat.le_of_ble_eq_true rfl) (Nat.le_of_ble_eq_true rfl) dX9_goThroughDay_212 ?_
            refine lv_topi (fun x_42 ex_42 => ?_)
            have mx_42 := imin_f ex_42
            rw [show (99 : Int32).toInt = 99 by decide] at mx_42
            refine pf_X9_9 hx hb hts hown hK hP hD hS 0 rfl (Nat.le_of_ble_eq_true rfl) rfl rfl dX9_goThroughDay_215 (fun H locs hP₀ hD₀ hS₀ => ?_)
            replace hP : va_P D classes [((Aa 0), .inr (9, [.int x_42, .int (Av 1), .int (Av 2), .int (Av 3), .int (Av 4), .int yy_4503, .ref (Aa 1), .ref (Aa 2), .ref (Aa 3), .ref (Aa 4), .ref (Aa 5), .ref (Aa 6), .ref (Aa 7), .ref (Aa 8)])), ((Aa 1), .inl (tc 0, 10, .inl (Af 1))), ((Aa 2), .inl (tc 0, 10, .inl (Af 2))), ((Aa 3), .inl (tc 0, 6, .inl sv_35)), ((Aa 4), .inl (tc 0, 6, .inl (Af 4))), ((Aa 5), .inl (tc 0, 6, .inl (Af 5))), ((Aa 6), .inl (tc 0, 6, .inl yy_4505)), ((Aa 7), .inl (tc 0, 6, .inl yy_4507)), ((Aa 8), .inl (tc 0, 6, .inl yy_4506))] H := hP₀
            replace hD : va_D A [((Aa 0), .inr (9, [.int x_42, .int (Av 1), .int (Av 2), .int (Av 3), .int (Av 4), .int yy_4503, .ref (Aa 1), .ref (Aa 2), .ref (Aa 3), .ref (Aa 4), .ref (Aa 5), .ref (Aa 6), .ref (Aa 7), .ref (Aa 8)])), ((Aa 1), .inl (tc 0, 10, .inl (Af 1))), ((Aa 2), .inl (tc 0, 10, .inl (Af 2))), ((Aa 3), .inl (tc 0, 6, .inl sv_35)), ((Aa 4), .inl (tc 0, 6, .inl (Af 4))), ((Aa 5), .inl (tc 0, 6, .inl (Af 5))), ((Aa 6), .inl (tc 0, 6, .inl yy_4505)), ((Aa 7), .inl (tc 0, 6, .inl yy_4507)), ((Aa 8), .inl (tc 0, 6, .inl yy_4506))] := hD₀
            replace hS := hS₀
            clear hP₀ hD₀ hS₀
            refine lv_aload_n hx hb dX9_goThroughDay_218 rfl (lv_at hl 5 rfl) ?_
            refine lv_dup hx hb dX9_goThroughDay_219 rfl ?_
            refine gf_X9_24 hx hb hts hown hK hP 0 rfl rfl dX9_goThroughDay_220 ?_
            refine lv_iconst (v := 1) hx hb dX9_goThroughDay_223 (by decide) ?_
            refine lv_iadd hx hb dX9_goThroughDay_224 ?_
            refine lv_topi (fun x_43 ex_43 => ?_)
            refine pf_X9_24 hx hb hts hown hK hP hD hS 0 rfl (Nat.le_of_ble_eq_true rfl) rfl rfl dX9_goThroughDay_225 (fun H locs hP₀ hD₀ hS₀ => ?_)
            replace hP : va_P D classes [((Aa 0), .inr (9, [.int x_42, .int (Av 1), .int (Av 2), .int (Av 3), .int x_43, .int yy_4503, .ref (Aa 1), .ref (Aa 2), .ref (Aa 3), .ref (Aa 4), .ref (Aa 5), .ref (Aa 6), .ref (Aa 7), .ref (Aa 8)])), ((Aa 1), .inl (tc 0, 10, .inl (Af 1))), ((Aa 2), .inl (tc 0, 10, .inl (Af 2))), ((Aa 3), .inl (tc 0, 6, .inl sv_35)), ((Aa 4), .inl (tc 0, 6, .inl (Af 4))), ((Aa 5), .inl (tc 0, 6, .inl (Af 5))), ((Aa 6), .inl (tc 0, 6, .inl yy_4505)), ((Aa 7), .inl (tc 0, 6, .inl yy_4507)), ((Aa 8), .inl (tc 0, 6, .inl yy_4506))] H := hP₀
            replace hD : va_D A [((Aa 0), .inr (9, [.int x_42, .int (Av 1), .int (Av 2), .int (Av 3), .int x_43, .int yy_4503, .ref (Aa 1), .ref (Aa 2), .ref (Aa 3), .ref (Aa 4), .ref (Aa 5), .ref (Aa 6), .ref (Aa 7), .ref (Aa 8)])), ((Aa 1), .inl (tc 0, 10, .inl (Af 1))), ((Aa 2), .inl (tc 0, 10, .inl (Af 2))), ((Aa 3), .inl (tc 0, 6, .inl sv_35)), ((Aa 4), .inl (tc 0, 6, .inl (Af 4))), ((Aa 5), .inl (tc 0, 6, .inl (Af 5))), ((Aa 6), .inl (tc 0, 6, .inl yy_4505)), ((Aa 7), .inl (tc 0, 6, .inl yy_4507)), ((Aa 8), .inl (tc 0, 6, .inl yy_4506))] := hD₀
            replace hS := hS₀
            clear hP₀ hD₀ hS₀
            refine lv_iload hx hb dX9_goThroughDay_228 (lv_at hl 1 rfl) ?_
            have hF_44 : (yy_4501, x_42, x_43, yy_4503, sv_35, yy_4505, yy_4507, yy_4506) = (dX9_goThroughDay_n (Af 1) (Af 2) (Af 3) (Af 4) (Af 5) (Af 6) (Af 7) (Af 8) (Av 0) (Av 1) (Av 2) (Av 3) (Av 4) (Av 5)) := by
              clear hP hD hS hl ih_24
              replace er_4 := er_4.symm; subst er_4
              replace er_11 := er_11.symm; subst er_11
              replace er_18 := er_18.symm; subst er_18
              replace esv_35 := esv_35.symm; subst esv_35
              replace ex_37 := ex_37.symm; subst ex_37
              replace ex_41 := ex_41.symm; subst ex_41
              replace ex_42 := ex_42.symm; subst ex_42
              replace ex_43 := ex_43.symm; subst ex_43
              unfold dX9_goThroughDay_n
              try rw [hX_30_0]
              try rw [hX_30_1]
              try rw [hX_30_2]
              try rw [hX_30_3]
              try rw [hX_30_4]
              try rw [hX_30_5]
              try rw [hX_30_6]
              try rw [hX_30_7]
              rw [if_pos c_22, if_pos c_38]
              try rfl
            exact retI (v := yy_4501) hx hb hr hlk (rfl) hP hD hS (x_42, x_43, yy_4503, sv_35, yy_4505, yy_4507, yy_4506) ⟨_, rfl, ⟨trivial, hF_44⟩⟩ [0, 1, 2, 3, 4, 5, 6, 7, 8] rfl rfl dX9_goThroughDay_230 (Nat.le_of_ble_eq_true rfl) (Nat.le_of_ble_eq_true rfl) rfl
        · skip
          refine lv_iload hx hb dX9_goThroughDay_53 (lv_at hl 0 rfl) ?_
          refine lv_bipush (v := 6) hx hb dX9_goThroughDay_55 (by decide) ?_
          refine lv_icmp_ge (tgt := 183) hx hb dX9_goThroughDay_57 (by decide) (fun c_45 => ?_) (fun c_45 => ?_)
          · skip
            have hb_47 : dX9_goThroughDay_n_l44 (Af 4) (Af 5) (Av 3) (Av 4) r_4 (0 : Int32) ((6 - (yy_4500 : Int32).toInt).toNat + 1) yy_4500 yy_4501 yy_4502 yy_4503 yy_4504 yy_4505 yy_4506 yy_4507 = (yy_4500, yy_4501, yy_4502, yy_4503, yy_4504, yy_4505, yy_4506, yy_4507) := by
              clear hP hD hS hl ih_24
              replace er_4 := er_4.symm; subst er_4
              replace er_11 := er_11.symm; subst er_11
              replace er_18 := er_18.symm; subst er_18
              rw [dX9_goThroughDay_n_l44_s]
              rw [if_neg c_29, if_pos c_45]
              try rfl
            have hX_46 : (dX9_goThroughDay_n_l44 (Af 4) (Af 5) (Av 3) (Av 4) r_4 (0 : Int32) ((6 - (0 : Int32).toInt).toNat + 1) (0 : Int32) (0 : Int32) (Av 0) (Av 5) (Af 3) (Af 6) (Af 8) (Af 7)) = (yy_4500, yy_4501, yy_4502, yy_4503, yy_4504, yy_4505, yy_4506, yy_4507) := hL_27.trans hb_47
            have hX_46_0 : (dX9_goThroughDay_n_l44 (Af 4) (Af 5) (Av 3) (Av 4) r_4 (0 : Int32) ((6 - (0 : Int32).toInt).toNat + 1) (0 : Int32) (0 : Int32) (Av 0) (Av 5) (Af 3) (Af 6) (Af 8) (Af 7)).1 = yy_4500 := congrArg (fun z => z.1) hX_46
            have hX_46_1 : (dX9_goThroughDay_n_l44 (Af 4) (Af 5) (Av 3) (Av 4) r_4 (0 : Int32) ((6 - (0 : Int32).toInt).toNat + 1) (0 : Int32) (0 : Int32) (Av 0) (Av 5) (Af 3) (Af 6) (Af 8) (Af 7)).2.1 = yy_4501 := congrArg (fun z => z.2.1) hX_46
            have hX_46_2 : (dX9_goThroughDay_n_l44 (Af 4) (Af 5) (Av 3) (Av 4) r_4 (0 : Int32) ((6 - (0 : Int32).toInt).toNat + 1) (0 : Int32) (0 : Int32) (Av 0) (Av 5) (Af 3) (Af 6) (Af 8) (Af 7)).2.2.1 = yy_4502 := congrArg (fun z => z.2.2.1) hX_46
            have hX_46_3 : (dX9_goThroughDay_n_l44 (Af 4) (Af 5) (Av 3) (Av 4) r_4 (0 : Int32) ((6 - (0 : Int32).toInt).toNat + 1) (0 : Int32) (0 : Int32) (Av 0) (Av 5) (Af 3) (Af 6) (Af 8) (Af 7)).2.2.2.1 = yy_4503 := congrArg (fun z => z.2.2.2.1) hX_46
            have hX_46_4 : (dX9_goThroughDay_n_l44 (Af 4) (Af 5) (Av 3) (Av 4) r_4 (0 : Int32) ((6 - (0 : Int32).toInt).toNat + 1) (0 : Int32) (0 : Int32) (Av 0) (Av 5) (Af 3) (Af 6) (Af 8) (Af 7)).2.2.2.2.1 = yy_4504 := congrArg (fun z => z.2.2.2.2.1) hX_46
            have hX_46_5 : (dX9_goThroughDay_n_l44 (Af 4) (Af 5) (Av 3) (Av 4) r_4 (0 : Int32) ((6 - (0 : Int32).toInt).toNat + 1) (0 : Int32) (0 : Int32) (Av 0) (Av 5) (Af 3) (Af 6) (Af 8) (Af 7)).2.2.2.2.2.1 = yy_4505 := congrArg (fun z => z.2.2.2.2.2.1) hX_46
            have hX_46_6 : (dX9_goThroughDay_n_l44 (Af 4) (Af 5) (Av 3) (Av 4) r_4 (0 : Int32) ((6 - (0 : Int32).toInt).toNat + 1) (0 : Int32) (0 : Int32) (Av 0) (Av 5) (Af 3) (Af 6) (Af 8) (Af 7)).2.2.2.2.2.2.1 = yy_4506 := congrArg (fun z => z.2.2.2.2.2.2.1) hX_46
            have hX_46_7 : (dX9_goThroughDay_n_l44 (Af 4) (Af 5) (Av 3) (Av 4) r_4 (0 : Int32) ((6 - (0 : Int32).toInt).toNat + 1) (0 : Int32) (0 : Int32) (Av 0) (Av 5) (Af 3) (Af 6) (Af 8) (Af 7)).2.2.2.2.2.2.2 = yy_4507 := congrArg (fun z => z.2.2.2.2.2.2.2) hX_46
            refine lv_aload_n hx hb dX9_goThroughDay_183 rfl (lv_at hl 5 rfl) ?_
            refine lv_iload_n hx hb dX9_goThroughDay_184 rfl (lv_at hl 4 rfl) ?_
            refine cV (a := (Aa 0)) (As := [.int r_4]) (rest := []) (wr := []) ⟨hx, hb, hml, hown, hts⟩ hK hX hA (cu_dX9_changeTempers l D tc sk (Aa 0) (Aa 1) (Aa 2) (Aa 3) (Aa 4) (Aa 5) (Aa 6) (Aa 7) (Aa 8) yy_4502 (Av 1) (Av 2) (Av 3) (Av 4) yy_4503 (Af 1) (Af 2) yy_4504 (Af 4) (Af 5) yy_4505 yy_4507 yy_4506 r_4) k_779 k_776 k_778 k_15 k_98 pl_X9_changeTempers ⟨Nat.le_of_ble_eq_true rfl, Nat.le_of_ble_eq_true rfl⟩ rfl rfl (va_recv hK hP (ci := 9) (q0 := 0) rfl rfl) hP hD hS [0, 1, 2, 3, 4, 5, 6, 7, 8] [] rfl rfl rfl rfl rfl (by decide) rfl hl.1 rfl (Nat.le_of_ble_eq_true rfl) dX9_goThroughDay_185 ⟨Nat.le_of_ble_eq_true rfl, Nat.le_of_ble_eq_true rfl⟩ (fun v_48 u_49 H locs hv_50 hP₀ hD₀ hS₀ => ?_)
            obtain ⟨sv_51, rfl⟩ : ∃ z, z = u_49 := ⟨_, rfl⟩
            obtain ⟨rfl, pf_52⟩ := hv_50
            have pf_52 : DEq (sv_51) (dX9_changeTempers yy_4504 (Av 3) r_4) := pf_52
            refine W.eq (g2 := F0 m 188 ls []) rfl ?_
            replace hP : va_P D classes [((Aa 0), .inr (9, [.int yy_4502, .int (Av 1), .int (Av 2), .int (Av 3), .int (Av 4), .int yy_4503, .ref (Aa 1), .ref (Aa 2), .ref (Aa 3), .ref (Aa 4), .ref (Aa 5), .ref (Aa 6), .ref (Aa 7), .ref (Aa 8)])), ((Aa 1), .inl (tc 0, 10, .inl (Af 1))), ((Aa 2), .inl (tc 0, 10, .inl (Af 2))), ((Aa 3), .inl (tc 0, 6, .inl sv_51)), ((Aa 4), .inl (tc 0, 6, .inl (Af 4))), ((Aa 5), .inl (tc 0, 6, .inl (Af 5))), ((Aa 6), .inl (tc 0, 6, .inl yy_4505)), ((Aa 7), .inl (tc 0, 6, .inl yy_4507)), ((Aa 8), .inl (tc 0, 6, .inl yy_4506))] H := hP₀
            replace hD : va_D A [((Aa 0), .inr (9, [.int yy_4502, .int (Av 1), .int (Av 2), .int (Av 3), .int (Av 4), .int yy_4503, .ref (Aa 1), .ref (Aa 2), .ref (Aa 3), .ref (Aa 4), .ref (Aa 5), .ref (Aa 6), .ref (Aa 7), .ref (Aa 8)])), ((Aa 1), .inl (tc 0, 10, .inl (Af 1))), ((Aa 2), .inl (tc 0, 10, .inl (Af 2))), ((Aa 3), .inl (tc 0, 6, .inl sv_51)), ((Aa 4), .inl (tc 0, 6, .inl (Af 4))), ((Aa 5), .inl (tc 0, 6, .inl (Af 5))), ((Aa 6), .inl (tc 0, 6, .inl yy_4505)), ((Aa 7), .inl (tc 0, 6, .inl yy_4507)), ((Aa 8), .inl (tc 0, 6, .inl yy_4506))] := hD₀
            replace hS := hS₀
            clear hP₀ hD₀ hS₀
            have esv_51 : sv_51 = (dX9_changeTempers yy_4504 (Av 3) r_4) := pf_52
            refine lv_aload_n hx hb dX9_goThroughDay_188 rfl (lv_at hl 5 rfl) ?_
            refine gf_X9_24 hx hb hts hown hK hP 0 rfl rfl dX9_goThroughDay_189 ?_
            refine lv_bipush (v := 7) hx hb dX9_goThroughDay_192 (by decide) ?_
            refine lv_irem hx hb dX9_goThroughDay_194 (by decide) ?_
            refine lv_topi (fun x_53 ex_53 => ?_)
            refine lv_bipush (v := 6) hx hb dX9_goThroughDay_195 (by decide) ?_
            refine lv_icmp_ne (tgt := 218) hx hb dX9_goThroughDay_197 (by decide) (fun c_54 => ?_) (fun c_54 => ?_)
            · skip
              refine lv_aload_n hx hb dX9_goThroughDay_218 rfl (lv_at hl 5 rfl) ?_
              refine lv_dup hx hb dX9_goThroughDay_219 rfl ?_
              refine gf_X9_24 hx hb hts hown hK hP 0 rfl rfl dX9_goThroughDay_220 ?_
              refine lv_iconst (v := 1) hx hb dX9_goThroughDay_223 (by decide) ?_
              refine lv_iadd hx hb dX9_goThroughDay_224 ?_
              refine lv_topi (fun x_55 ex_55 => ?_)
              refine pf_X9_24 hx hb hts hown hK hP hD hS 0 rfl (Nat.le_of_ble_eq_true rfl) rfl rfl dX9_goThroughDay_225 (fun H locs hP₀ hD₀ hS₀ => ?_)
              replace hP : va_P D classes [((Aa 0), .inr (9, [.int yy_4502, .int (Av 1), .int (Av 2), .int (Av 3), .int x_55, .int yy_4503, .ref (Aa 1), .ref (Aa 2), .ref (Aa 3), .ref (Aa 4), .ref (Aa 5), .ref (Aa 6), .ref (Aa 7), .ref (Aa 8)])), ((Aa 1), .inl (tc 0, 10, .inl (Af 1))), ((Aa 2), .inl (tc 0, 10, .inl (Af 2))), ((Aa 3), .inl (tc 0, 6, .inl sv_51)), ((Aa 4), .inl (tc 0, 6, .inl (Af 4))), ((Aa 5), .inl (tc 0, 6, .inl (Af 5))), ((Aa 6), .inl (tc 0, 6, .inl yy_4505)), ((Aa 7), .inl (tc 0, 6, .inl yy_4507)), ((Aa 8), .inl (tc 0, 6, .inl yy_4506))] H := hP₀
              replace hD : va_D A [((Aa 0), .inr (9, [.int yy_4502, .int (Av 1), .int (Av 2), .int (Av 3), .int x_55, .int yy_4503, .ref (Aa 1), .ref (Aa 2), .ref (Aa 3), .ref (Aa 4), .ref (Aa 5), .ref (Aa 6), .ref (Aa 7), .ref (Aa 8)])), ((Aa 1), .inl (tc 0, 10, .inl (Af 1))), ((Aa 2), .inl (tc 0, 10, .inl (Af 2))), ((Aa 3), .inl (tc 0, 6, .inl sv_51)), ((Aa 4), .inl (tc 0, 6, .inl (Af 4))), ((Aa 5), .inl (tc 0, 6, .inl (Af 5))), ((Aa 6), .inl (tc 0, 6, .inl yy_4505)), ((Aa 7), .inl (tc 0, 6, .inl yy_4507)), ((Aa 8), .inl (tc 0, 6, .inl yy_4506))] := hD₀
              replace hS := hS₀
              clear hP₀ hD₀ hS₀
              refine lv_iload hx hb dX9_goThroughDay_228 (lv_at hl 1 rfl) ?_
              have hF_56 : (yy_4501, yy_4502, x_55, yy_4503, sv_51, yy_4505, yy_4507, yy_4506) = (dX9_goThroughDay_n (Af 1) (Af 2) (Af 3) (Af 4) (Af 5) (Af 6) (Af 7) (Af 8) (Av 0) (Av 1) (Av 2) (Av 3) (Av 4) (Av 5)) := by
                clear hP hD hS hl ih_24
                replace er_4 := er_4.symm; subst er_4
                replace er_11 := er_11.symm; subst er_11
                replace er_18 := er_18.symm; subst er_18
                replace esv_51 := esv_51.symm; subst esv_51
                replace ex_53 := ex_53.symm; subst ex_53
                replace ex_55 := ex_55.symm; subst ex_55
                unfold dX9_goThroughDay_n
                try rw [hX_46_0]
                try rw [hX_46_1]
                try rw [hX_46_2]
                try rw [hX_46_3]
                try rw [hX_46_4]
                try rw [hX_46_5]
                try rw [hX_46_6]
                try rw [hX_46_7]
                rw [if_pos c_22, if_neg c_54]
                try rfl
              exact retI (v := yy_4501) hx hb hr hlk (rfl) hP hD hS (yy_4502, x_55, yy_4503, sv_51, yy_4505, yy_4507, yy_4506) ⟨_, rfl, ⟨trivial, hF_56⟩⟩ [0, 1, 2, 3, 4, 5, 6, 7, 8] rfl rfl dX9_goThroughDay_230 (Nat.le_of_ble_eq_true rfl) (Nat.le_of_ble_eq_true rfl) rfl
            · skip
              refine lv_aload_n hx hb dX9_goThroughDay_200 rfl (lv_at hl 5 rfl) ?_
              refine lv_bipush (v := 99) hx hb dX9_goThroughDay_201 (by decide) ?_
              refine lv_aload_n hx hb dX9_goThroughDay_203 rfl (lv_at hl 5 rfl) ?_
              refine gf_X9_9 hx hb hts hown hK hP 0 rfl rfl dX9_goThroughDay_204 ?_
              refine lv_aload_n hx hb dX9_goThroughDay_207 rfl (lv_at hl 5 rfl) ?_
              refine gf_X9_15 hx hb hts hown hK hP 0 rfl rfl dX9_goThroughDay_208 ?_
              refine lv_iadd hx hb dX9_goThroughDay_211 ?_
              refine lv_topi (fun x_57 ex_57 => ?_)
              refine va_mmin hx hb (hml.trans hl.1.symm) hown (hts _ k_780) (hts _ k_680) (hts _ k_114) (hts _ k_681) (Nat.le_of_ble_eq_true rfl) (Nat.le_of_ble_eq_true rfl) (Nat.le_of_ble_eq_true rfl) (Nat.le_of_ble_eq_true rfl) dX9_goThroughDay_212 ?_
              refine lv_topi (fun x_58 ex_58 => ?_)
              have mx_58 := imin_f ex_58
              rw [show (99 : Int32).toInt = 99 by decide] at mx_58
              refine pf_X9_9 hx hb hts hown hK hP hD hS 0 rfl (Nat.le_of_ble_eq_true rfl) rfl rfl dX9_goThroughDay_215 (fun H locs hP₀ hD₀ hS₀ => ?_)
              replace hP : va_P D classes [((Aa 0), .inr (9, [.int x_58, .int (Av 1), .int (Av 2), .int (Av 3), .int (Av 4), .int yy_4503, .ref (Aa 1), .ref (Aa 2), .ref (Aa 3), .ref (Aa 4), .ref (Aa 5), .ref (Aa 6), .ref (Aa 7), .ref (Aa 8)])), ((Aa 1), .inl (tc 0, 10, .inl (Af 1))), ((Aa 2), .inl (tc 0, 10, .inl (Af 2))), ((Aa 3), .inl (tc 0, 6, .inl sv_51)), ((Aa 4), .inl (tc 0, 6, .inl (Af 4))), ((Aa 5), .inl (tc 0, 6, .inl (Af 5))), ((Aa 6), .inl (tc 0, 6, .inl yy_4505)), ((Aa 7), .inl (tc 0, 6, .inl yy_4507)), ((Aa 8), .inl (tc 0, 6, .inl yy_4506))] H := hP₀
              replace hD : va_D A [((Aa 0), .inr (9, [.int x_58, .int (Av 1), .int (Av 2), .int (Av 3), .int (Av 4), .int yy_4503, .ref (Aa 1), .ref (Aa 2), .ref (Aa 3), .ref (Aa 4), .ref (Aa 5), .ref (Aa 6), .ref (Aa 7), .ref (Aa 8)])), ((Aa 1), .inl (tc 0, 10, .inl (Af 1))), ((Aa 2), .inl (tc 0, 10, .inl (Af 2))), ((Aa 3), .inl (tc 0, 6, .inl sv_51)), ((Aa 4), .inl (tc 0, 6, .inl (Af 4))), ((Aa 5), .inl (tc 0, 6, .inl (Af 5))), ((Aa 6), .inl (tc 0, 6, .inl yy_4505)), ((Aa 7), .inl (tc 0, 6, .inl yy_4507)), ((Aa 8), .inl (tc 0, 6, .inl yy_4506))] := hD₀
              replace hS := hS₀
              clear hP₀ hD₀ hS₀
              refine lv_aload_n hx hb dX9_goThroughDay_218 rfl (lv_at hl 5 rfl) ?_
              refine lv_dup hx hb dX9_goThroughDay_219 rfl ?_
              refine gf_X9_24 hx hb hts hown hK hP 0 rfl rfl dX9_goThroughDay_220 ?_
              refine lv_iconst (v := 1) hx hb dX9_goThroughDay_223 (by decide) ?_
              refine lv_iadd hx hb dX9_goThroughDay_224 ?_
              refine lv_topi (fun x_59 ex_59 => ?_)
              refine pf_X9_24 hx hb hts hown hK hP hD hS 0 rfl (Nat.le_of_ble_eq_true rfl) rfl rfl dX9_goThroughDay_225 (fun H locs hP₀ hD₀ hS₀ => ?_)
              replace hP : va_P D classes [((Aa 0), .inr (9, [.int x_58, .int (Av 1), .int (Av 2), .int (Av 3), .int x_59, .int yy_4503, .ref (Aa 1), .ref (Aa 2), .ref (Aa 3), .ref (Aa 4), .ref (Aa 5), .ref (Aa 6), .ref (Aa 7), .ref (Aa 8)])), ((Aa 1), .inl (tc 0, 10, .inl (Af 1))), ((Aa 2), .inl (tc 0, 10, .inl (Af 2))), ((Aa 3), .inl (tc 0, 6, .inl sv_51)), ((Aa 4), .inl (tc 0, 6, .inl (Af 4))), ((Aa 5), .inl (tc 0, 6, .inl (Af 5))), ((Aa 6), .inl (tc 0, 6, .inl yy_4505)), ((Aa 7), .inl (tc 0, 6, .inl yy_4507)), ((Aa 8), .inl (tc 0, 6, .inl yy_4506))] H := hP₀
              replace hD : va_D A [((Aa 0), .inr (9, [.int x_58, .int (Av 1), .int (Av 2), .int (Av 3), .int x_59, .int yy_4503, .ref (Aa 1), .ref (Aa 2), .ref (Aa 3), .ref (Aa 4), .ref (Aa 5), .ref (Aa 6), .ref (Aa 7), .ref (Aa 8)])), ((Aa 1), .inl (tc 0, 10, .inl (Af 1))), ((Aa 2), .inl (tc 0, 10, .inl (Af 2))), ((Aa 3), .inl (tc 0, 6, .inl sv_51)), ((Aa 4), .inl (tc 0, 6, .inl (Af 4))), ((Aa 5), .inl (tc 0, 6, .inl (Af 5))), ((Aa 6), .inl (tc 0, 6, .inl yy_4505)), ((Aa 7), .inl (tc 0, 6, .inl yy_4507)), ((Aa 8), .inl (tc 0, 6, .inl yy_4506))] := hD₀
              replace hS := hS₀
              clear hP₀ hD₀ hS₀
              refine lv_iload hx hb dX9_goThroughDay_228 (lv_at hl 1 rfl) ?_
              have hF_60 : (yy_4501, x_58, x_59, yy_4503, sv_51, yy_4505, yy_4507, yy_4506) = (dX9_goThroughDay_n (Af 1) (Af 2) (Af 3) (Af 4) (Af 5) (Af 6) (Af 7) (Af 8) (Av 0) (Av 1) (Av 2) (Av 3) (Av 4) (Av 5)) := by
                clear hP hD hS hl ih_24
                replace er_4 := er_4.symm; subst er_4
                replace er_11 := er_11.symm; subst er_11
                replace er_18 := er_18.symm; subst er_18
                replace esv_51 := esv_51.symm; subst esv_51
                replace ex_53 := ex_53.symm; subst ex_53
                replace ex_57 := ex_57.symm; subst ex_57
                replace ex_58 := ex_58.symm; subst ex_58
                replace ex_59 := ex_59.symm; subst ex_59
                unfold dX9_goThroughDay_n
                try rw [hX_46_0]
                try rw [hX_46_1]
                try rw [hX_46_2]
                try rw [hX_46_3]
                try rw [hX_46_4]
                try rw [hX_46_5]
                try rw [hX_46_6]
                try rw [hX_46_7]
                rw [if_pos c_22, if_pos c_54]
                try rfl
              exact retI (v := yy_4501) hx hb hr hlk (rfl) hP hD hS (x_58, x_59, yy_4503, sv_51, yy_4505, yy_4507, yy_4506) ⟨_, rfl, ⟨trivial, hF_60⟩⟩ [0, 1, 2, 3, 4, 5, 6, 7, 8] rfl rfl dX9_goThroughDay_230 (Nat.le_of_ble_eq_true rfl) (Nat.le_of_ble_eq_true rfl) rfl
          · skip
            refine lv_aload_n hx hb dX9_goThroughDay_60 rfl (lv_at hl 5 rfl) ?_
            refine lv_iload hx hb dX9_goThroughDay_61 (lv_at hl 0 rfl) ?_
            refine cV (a := (Aa 0)) (As := [.int yy_4500]) (rest := []) (wr := []) ⟨hx, hb, hml, hown, hts⟩ hK hX hA (cu_dX9_canBuy l D tc sk (Aa 0) (Aa 1) (Aa 2) (Aa 3) (Aa 4) (Aa 5) (Aa 6) (Aa 7) (Aa 8) yy_4502 (Av 1) (Av 2) (Av 3) (Av 4) yy_4503 (Af 1) (Af 2) yy_4504 (Af 4) (Af 5) yy_4505 yy_4507 yy_4506 yy_4500) k_752 k_749 k_751 k_14 k_98 pl_X9_canBuy ⟨Nat.le_of_ble_eq_true rfl, Nat.le_of_ble_eq_true rfl⟩ rfl rfl (va_recv hK hP (ci := 9) (q0 := 0) rfl rfl) hP hD hS [0, 1, 2, 3, 4, 5, 6, 7, 8] [] rfl rfl rfl rfl rfl (by decide) rfl hl.1 rfl (Nat.le_of_ble_eq_true rfl) dX9_goThroughDay_63 ⟨Nat.le_of_ble_eq_true rfl, Nat.le_of_ble_eq_true rfl⟩ (fun v_61 u_62 H locs hv_63 hP₀ hD₀ hS₀ => ?_)
            obtain ⟨r_64, rfl, he_65⟩ := hv_63
            have he_65 : ((r_64.toInt = 0 ∨ r_64.toInt = 1)) ∧ r_64 = (dX9_canBuy (Af 4) (Af 5) yy_4506 yy_4502 (Av 3) (Av 4) yy_4500) := he_65
            refine W.eq (g2 := F0 m 66 ls [.int r_64]) rfl ?_
            replace hP : va_P D classes [((Aa 0), .inr (9, [.int yy_4502, .int (Av 1), .int (Av 2), .int (Av 3), .int (Av 4), .int yy_4503, .ref (Aa 1), .ref (Aa 2), .ref (Aa 3), .ref (Aa 4), .ref (Aa 5), .ref (Aa 6), .ref (Aa 7), .ref (Aa 8)])), ((Aa 1), .inl (tc 0, 10, .inl (Af 1))), ((Aa 2), .inl (tc 0, 10, .inl (Af 2))), ((Aa 3), .inl (tc 0, 6, .inl yy_4504)), ((Aa 4), .inl (tc 0, 6, .inl (Af 4))), ((Aa 5), .inl (tc 0, 6, .inl (Af 5))), ((Aa 6), .inl (tc 0, 6, .inl yy_4505)), ((Aa 7), .inl (tc 0, 6, .inl yy_4507)), ((Aa 8), .inl (tc 0, 6, .inl yy_4506))] H := hP₀
            replace hD : va_D A [((Aa 0), .inr (9, [.int yy_4502, .int (Av 1), .int (Av 2), .int (Av 3), .int (Av 4), .int yy_4503, .ref (Aa 1), .ref (Aa 2), .ref (Aa 3), .ref (Aa 4), .ref (Aa 5), .ref (Aa 6), .ref (Aa 7), .ref (Aa 8)])), ((Aa 1), .inl (tc 0, 10, .inl (Af 1))), ((Aa 2), .inl (tc 0, 10, .inl (Af 2))), ((Aa 3), .inl (tc 0, 6, .inl yy_4504)), ((Aa 4), .inl (tc 0, 6, .inl (Af 4))), ((Aa 5), .inl (tc 0, 6, .inl (Af 5))), ((Aa 6), .inl (tc 0, 6, .inl yy_4505)), ((Aa 7), .inl (tc 0, 6, .inl yy_4507)), ((Aa 8), .inl (tc 0, 6, .inl yy_4506))] := hD₀
            replace hS := hS₀
            clear hP₀ hD₀ hS₀
            obtain ⟨he_65, hq_67⟩ := he_65
            have er_64 : r_64 = (dX9_canBuy (Af 4) (Af 5) yy_4506 yy_4502 (Av 3) (Av 4) yy_4500) := hq_67
            refine lv_if_ne (tgt := 72) hx hb dX9_goThroughDay_66 (by decide) (fun c_68 => ?_) (fun c_68 => ?_)
            · skip
              refine lv_aload_nN hx hb dX9_goThroughDay_72 rfl (lv_at hl 6 rfl) ?_
              refine lv_ifnonnullN hx hb dX9_goThroughDay_73 ?_
              refine lv_aload_n hx hb dX9_goThroughDay_76 rfl (lv_at hl 5 rfl) ?_
              refine gf_X9_37 hx hb hts hown hK hP 0 rfl rfl dX9_goThroughDay_77 ?_
              refine lv_iload hx hb dX9_goThroughDay_80 (lv_at hl 0 rfl) ?_
              have hi_69 : vp_in yy_4500 6 := by
                have z_1 := congrArg Int32.toInt c_22
                have z_2 := Int32.lt_iff_toInt_lt.mp (Int32.not_le.mp c_29)
                have z_3 := Int32.lt_iff_toInt_lt.mp (Int32.not_le.mp c_45)
                have z_4 : ¬ (r_64 : Int32).toInt = (0 : Int32).toInt := fun z => c_68 (Int32.toInt_inj.mp z)
                have y_0 : (0 : Int32).toInt = 0 := by decide
                have y_6 : (6 : Int32).toInt = 6 := by decide
                refine vp_in_iff.mpr ⟨?_, ?_⟩ <;> omega
              refine va_iald hx hb hK hP 3 0 rfl rfl hi_69 dX9_goThroughDay_82 ?_
              refine lv_topi (fun x_70 ex_70 => ?_)
              refine lv_iload_n hx hb dX9_goThroughDay_83 rfl (lv_at hl 4 rfl) ?_
              refine lv_iadd hx hb dX9_goThroughDay_84 ?_
              refine lv_topi (fun x_71 ex_71 => ?_)
              refine lv_bipush (v := 12) hx hb dX9_goThroughDay_85 (by decide) ?_
              refine lv_icmp_lt (tgt := 94) hx hb dX9_goThroughDay_87 (by decide) (fun c_72 => ?_) (fun c_72 => ?_)
              · skip
                refine lv_iconst (v := 0) hx hb dX9_goThroughDay_94 (by decide) ?_
                refine lv_goto (tgt := 115) hx hb dX9_goThroughDay_95 (by decide) ?_
                refine lv_istore (lv' := [(7, .int 0), (6, .int yy_4500), (5, .int yy_4501), (4, .int 0), (3, .int r_11), (2, .int r_4), (0, .ref (Aa 0)), (1, .null)]) hx hb dX9_goThroughDay_115 hl (by decide) rfl (fun ls hl₀ => ?_)
                replace hl := hl₀
                clear hl₀
                refine lv_iload hx hb dX9_goThroughDay_117 (lv_at hl 0 rfl) ?_
                refine lv_if_eq (tgt := 157) hx hb dX9_goThroughDay_119 (by decide) (fun c_73 => ?_) (fun c_73 => absurd c_73 (by decide))
                refine lv_iload hx hb dX9_goThroughDay_157 (lv_at hl 0 rfl) ?_
                refine lv_if_eq (tgt := 177) hx hb dX9_goThroughDay_159 (by decide) (fun c_74 => ?_) (fun c_74 => absurd c_74 (by decide))
                obtain ⟨x_75, ex_75⟩ : ∃ y : Int32, y = yy_4500 + 1 := ⟨_, rfl⟩
                refine lv_iinc (v := x_75) (lv' := [(6, .int x_75), (7, .int 0), (5, .int yy_4501), (4, .int 0), (3, .int r_11), (2, .int r_4), (0, .ref (Aa 0)), (1, .null)]) hx hb dX9_goThroughDay_177 hl (k := 1) rfl (by rw [ex_75]; rfl) (by decide) rfl (fun ls hl₀ => ?_)
                replace hl := hl₀
                clear hl₀
                refine lv_goto (tgt := 44) hx hb dX9_goThroughDay_180 (by decide) ?_
                have hb_76 : 6 - (x_75 : Int32).toInt < 6 - (yy_4500 : Int32).toInt ∧ 1 ≤ 6 - (yy_4500 : Int32).toInt := by
                  have z_1 := congrArg Int32.toInt c_22
                  have z_2 := Int32.lt_iff_toInt_lt.mp (Int32.not_le.mp c_29)
                  have z_3 := Int32.lt_iff_toInt_lt.mp (Int32.not_le.mp c_45)
                  have z_4 : ¬ (r_64 : Int32).toInt = (0 : Int32).toInt := fun z => c_68 (Int32.toInt_inj.mp z)
                  have z_5 := Int32.lt_iff_toInt_lt.mp c_72
                  have y_0 : (0 : Int32).toInt = 0 := by decide
                  have y_6 : (6 : Int32).toInt = 6 := by decide
                  have y_12 : (12 : Int32).toInt = 12 := by decide
                  have y_1 : (1 : Int32).toInt = 1 := by decide
                  have t_x_75 : x_75.toInt = (yy_4500 : Int32).toInt + (1 : Int32).toInt := by rw [ex_75]; exact add_toInt (by omega) (by omega)
                  omega
                have hm_77 : (6 - (yy_4500 : Int32).toInt).toNat = (6 - (x_75 : Int32).toInt).toNat + 1 := by
                  have z_1 := congrArg Int32.toInt c_22
                  have z_2 := Int32.lt_iff_toInt_lt.mp (Int32.not_le.mp c_29)
                  have z_3 := Int32.lt_iff_toInt_lt.mp (Int32.not_le.mp c_45)
                  have z_4 : ¬ (r_64 : Int32).toInt = (0 : Int32).toInt := fun z => c_68 (Int32.toInt_inj.mp z)
                  have z_5 := Int32.lt_iff_toInt_lt.mp c_72
                  have y_0 : (0 : Int32).toInt = 0 := by decide
                  have y_6 : (6 : Int32).toInt = 6 := by decide
                  have y_12 : (12 : Int32).toInt = 12 := by decide
                  have y_1 : (1 : Int32).toInt = 1 := by decide
                  have t_x_75 : x_75.toInt = (yy_4500 : Int32).toInt + (1 : Int32).toInt := by rw [ex_75]; exact add_toInt (by omega) (by omega)
                  omega
                have hb_78 : dX9_goThroughDay_n_l44 (Af 4) (Af 5) (Av 3) (Av 4) r_4 (0 : Int32) ((6 - (yy_4500 : Int32).toInt).toNat + 1) yy_4500 yy_4501 yy_4502 yy_4503 yy_4504 yy_4505 yy_4506 yy_4507 = dX9_goThroughDay_n_l44 (Af 4) (Af 5) (Av 3) (Av 4) r_4 (0 : Int32) ((6 - (yy_4500 : Int32).toInt).toNat) x_75 yy_4501 yy_4502 yy_4503 yy_4504 yy_4505 yy_4506 yy_4507 := by
                  clear hP hD hS hl ih_24
                  replace er_4 := er_4.symm; subst er_4
                  replace er_11 := er_11.symm; subst er_11
                  replace er_18 := er_18.symm; subst er_18
                  replace er_64 := er_64.symm; subst er_64
                  replace ex_70 := ex_70.symm; subst ex_70
                  replace ex_71 := ex_71.symm; subst ex_71
                  replace ex_75 := ex_75.symm; subst ex_75
                  rw [dX9_goThroughDay_n_l44_s]
                  rw [if_neg c_29, if_neg c_45, if_neg c_68, if_pos c_72]
                  try rfl
                have hL_79 : (dX9_goThroughDay_n_l44 (Af 4) (Af 5) (Av 3) (Av 4) r_4 (0 : Int32) ((6 - (0 : Int32).toInt).toNat + 1) (0 : Int32) (0 : Int32) (Av 0) (Av 5) (Af 3) (Af 6) (Af 8) (Af 7)) = dX9_goThroughDay_n_l44 (Af 4) (Af 5) (Av 3) (Av 4) r_4 (0 : Int32) ((6 - (x_75 : Int32).toInt).toNat + 1) x_75 yy_4501 yy_4502 yy_4503 yy_4504 yy_4505 yy_4506 yy_4507 := by
                  rw [hL_27, hb_78, hm_77]
                have ha_80 : 0 ≤ (x_75 : Int32).toInt := by
                  have z_1 := congrArg Int32.toInt c_22
                  have z_2 := Int32.lt_iff_toInt_lt.mp (Int32.not_le.mp c_29)
                  have z_3 := Int32.lt_iff_toInt_lt.mp (Int32.not_le.mp c_45)
                  have z_4 : ¬ (r_64 : Int32).toInt = (0 : Int32).toInt := fun z => c_68 (Int32.toInt_inj.mp z)
                  have z_5 := Int32.lt_iff_toInt_lt.mp c_72
                  have y_0 : (0 : Int32).toInt = 0 := by decide
                  have y_6 : (6 : Int32).toInt = 6 := by decide
                  have y_12 : (12 : Int32).toInt = 12 := by decide
                  have y_1 : (1 : Int32).toInt = 1 := by decide
                  have t_x_75 : x_75.toInt = (yy_4500 : Int32).toInt + (1 : Int32).toInt := by rw [ex_75]; exact add_toInt (by omega) (by omega)
                  omega
                exact ih_24 x_75 yy_4501 yy_4502 yy_4503 yy_4504 yy_4505 yy_4506 yy_4507 _ _ _ (by omega) hL_79 ha_80 (hP.sub [0, 1, 2, 3, 4, 5, 6, 7, 8] rfl) (hD.sub [0, 1, 2, 3, 4, 5, 6, 7, 8] rfl rfl) hS (lv_sub hl [0, 2, 3, 4, 5, 6, 7] rfl)
              · skip
                refine lv_iconst (v := 1) hx hb dX9_goThroughDay_90 (by decide) ?_
                refine lv_goto (tgt := 115) hx hb dX9_goThroughDay_91 (by decide) ?_
                refine lv_istore (lv' := [(7, .int 1), (6, .int yy_4500), (5, .int yy_4501), (4, .int 0), (3, .int r_11), (2, .int r_4), (0, .ref (Aa 0)), (1, .null)]) hx hb dX9_goThroughDay_115 hl (by decide) rfl (fun ls hl₀ => ?_)
                replace hl := hl₀
                clear hl₀
                refine lv_iload hx hb dX9_goThroughDay_117 (lv_at hl 0 rfl) ?_
                refine lv_if_eq (tgt := 157) hx hb dX9_goThroughDay_119 (by decide) (fun c_81 => absurd c_81 (by decide)) (fun c_81 => ?_)
                refine lv_iload hx hb dX9_goThroughDay_122 (lv_at hl 3 rfl) ?_
                refine lv_iload hx hb dX9_goThroughDay_124 (lv_at hl 1 rfl) ?_
                refine lv_ishr hx hb dX9_goThroughDay_126 ?_
                refine lv_topi (fun x_82 ex_82 => ?_)
                refine lv_iconst (v := 1) hx hb dX9_goThroughDay_127 (by decide) ?_
                refine lv_iand hx hb dX9_goThroughDay_128 ?_
                refine lv_topi (fun x_83 ex_83 => ?_)
                refine lv_if_eq (tgt := 157) hx hb dX9_goThroughDay_129 (by decide) (fun c_84 => ?_) (fun c_84 => ?_)
                · skip
                  refine lv_iload hx hb dX9_goThroughDay_157 (lv_at hl 0 rfl) ?_
                  refine lv_if_eq (tgt := 177) hx hb dX9_goThroughDay_159 (by decide) (fun c_85 => absurd c_85 (by decide)) (fun c_85 => ?_)
                  refine lv_aload_n hx hb dX9_goThroughDay_162 rfl (lv_at hl 6 rfl) ?_
                  refine lv_iload hx hb dX9_goThroughDay_163 (lv_at hl 1 rfl) ?_
                  refine cV (a := (Aa 0)) (As := [.int yy_4500]) (rest := []) (wr := []) ⟨hx, hb, hml, hown, hts⟩ hK hX hA (cu_dX9_handOver l D tc sk (Aa 0) (Aa 1) (Aa 2) (Aa 3) (Aa 4) (Aa 5) (Aa 6) (Aa 7) (Aa 8) yy_4502 (Av 1) (Av 2) (Av 3) (Av 4) yy_4503 (Af 1) (Af 2) yy_4504 (Af 4) (Af 5) yy_4505 yy_4507 yy_4506 yy_4500) k_772 k_769 k_770 k_771 k_98 pl_X9_handOver ⟨Nat.le_of_ble_eq_true rfl, Nat.le_of_ble_eq_true rfl⟩ rfl rfl (va_recv hK hP (ci := 9) (q0 := 0) rfl rfl) hP hD hS [0, 1, 2, 3, 4, 5, 6, 7, 8] [] rfl rfl rfl rfl rfl (by decide) rfl hl.1 rfl (Nat.le_of_ble_eq_true rfl) dX9_goThroughDay_165 ⟨Nat.le_of_ble_eq_true rfl, Nat.le_of_ble_eq_true rfl⟩ (fun v_86 u_87 H locs hv_88 hP₀ hD₀ hS₀ => ?_)
                  obtain ⟨sv_89, sv_90, sv_91, sv_92, sv_93⟩ := u_87
                  obtain ⟨rfl, pf_94⟩ := hv_88
                  have pf_94 : DEq ((sv_89, sv_90, sv_91, sv_92, sv_93)) (dX9_handOver yy_4504 (Af 4) yy_4505 yy_4506 yy_4502 (Av 3) (Av 4) yy_4503 yy_4500) := pf_94
                  refine W.eq (g2 := F0 m 168 ls []) rfl ?_
                  replace hP : va_P D classes [((Aa 0), .inr (9, [.int sv_89, .int (Av 1), .int (Av 2), .int (Av 3), .int (Av 4), .int sv_90, .ref (Aa 1), .ref (Aa 2), .ref (Aa 3), .ref (Aa 4), .ref (Aa 5), .ref (Aa 6), .ref (Aa 7), .ref (Aa 8)])), ((Aa 1), .inl (tc 0, 10, .inl (Af 1))), ((Aa 2), .inl (tc 0, 10, .inl (Af 2))), ((Aa 3), .inl (tc 0, 6, .inl sv_91)), ((Aa 4), .inl (tc 0, 6, .inl (Af 4))), ((Aa 5), .inl (tc 0, 6, .inl (Af 5))), ((Aa 6), .inl (tc 0, 6, .inl sv_92)), ((Aa 7), .inl (tc 0, 6, .inl yy_4507)), ((Aa 8), .inl (tc 0, 6, .inl sv_93))] H := hP₀
                  replace hD : va_D A [((Aa 0), .inr (9, [.int sv_89, .int (Av 1), .int (Av 2), .int (Av 3), .int (Av 4), .int sv_90, .ref (Aa 1), .ref (Aa 2), .ref (Aa 3), .ref (Aa 4), .ref (Aa 5), .ref (Aa 6), .ref (Aa 7), .ref (Aa 8)])), ((Aa 1), .inl (tc 0, 10, .inl (Af 1))), ((Aa 2), .inl (tc 0, 10, .inl (Af 2))), ((Aa 3), .inl (tc 0, 6, .inl sv_91)), ((Aa 4), .inl (tc 0, 6, .inl (Af 4))), ((Aa 5), .inl (tc 0, 6, .inl (Af 5))), ((Aa 6), .inl (tc 0, 6, .inl sv_92)), ((Aa 7), .inl (tc 0, 6, .inl yy_4507)), ((Aa 8), .inl (tc 0, 6, .inl sv_93))] := hD₀
                  replace hS := hS₀
                  clear hP₀ hD₀ hS₀
                  have esv_89 : sv_89 = (dX9_handOver yy_4504 (Af 4) yy_4505 yy_4506 yy_4502 (Av 3) (Av 4) yy_4503 yy_4500).1 := congrArg (fun z => z.1) pf_94
                  have esv_90 : sv_90 = (dX9_handOver yy_4504 (Af 4) yy_4505 yy_4506 yy_4502 (Av 3) (Av 4) yy_4503 yy_4500).2.1 := congrArg (fun z => z.2.1) pf_94
                  have esv_91 : sv_91 = (dX9_handOver yy_4504 (Af 4) yy_4505 yy_4506 yy_4502 (Av 3) (Av 4) yy_4503 yy_4500).2.2.1 := congrArg (fun z => z.2.2.1) pf_94
                  have esv_92 : sv_92 = (dX9_handOver yy_4504 (Af 4) yy_4505 yy_4506 yy_4502 (Av 3) (Av 4) yy_4503 yy_4500).2.2.2.1 := congrArg (fun z => z.2.2.2.1) pf_94
                  have esv_93 : sv_93 = (dX9_handOver yy_4504 (Af 4) yy_4505 yy_4506 yy_4502 (Av 3) (Av 4) yy_4503 yy_4500).2.2.2.2 := congrArg (fun z => z.2.2.2.2) pf_94
                  refine lv_iload hx hb dX9_goThroughDay_168 (lv_at hl 2 rfl) ?_
                  refine lv_iconst (v := 1) hx hb dX9_goThroughDay_170 (by decide) ?_
                  refine lv_iload hx hb dX9_goThroughDay_171 (lv_at hl 1 rfl) ?_
                  refine lv_ishl hx hb dX9_goThroughDay_173 ?_
                  refine lv_topi (fun x_95 ex_95 => ?_)
                  refine lv_ior hx hb dX9_goThroughDay_174 ?_
                  refine lv_topi (fun x_96 ex_96 => ?_)
                  refine lv_istore (lv' := [(5, .int x_96), (7, .int 1), (6, .int yy_4500), (4, .int 0), (3, .int r_11), (2, .int r_4), (0, .ref (Aa 0)), (1, .null)]) hx hb dX9_goThroughDay_175 hl (by decide) rfl (fun ls hl₀ => ?_)
                  replace hl := hl₀
                  clear hl₀
                  obtain ⟨x_97, ex_97⟩ : ∃ y : Int32, y = yy_4500 + 1 := ⟨_, rfl⟩
                  refine lv_iinc (v := x_97) (lv' := [(6, .int x_97), (5, .int x_96), (7, .int 1), (4, .int 0), (3, .int r_11), (2, .int r_4), (0, .ref (Aa 0)), (1, .null)]) hx hb dX9_goThroughDay_177 hl (k := 2) rfl (by rw [ex_97]; rfl) (by decide) rfl (fun ls hl₀ => ?_)
                  replace hl := hl₀
                  clear hl₀
                  refine lv_goto (tgt := 44) hx hb dX9_goThroughDay_180 (by decide) ?_
                  have hb_98 : 6 - (x_97 : Int32).toInt < 6 - (yy_4500 : Int32).toInt ∧ 1 ≤ 6 - (yy_4500 : Int32).toInt := by
                    have z_1 := congrArg Int32.toInt c_22
                    have z_2 := Int32.lt_iff_toInt_lt.mp (Int32.not_le.mp c_29)
                    have z_3 := Int32.lt_iff_toInt_lt.mp (Int32.not_le.mp c_45)
                    have z_4 : ¬ (r_64 : Int32).toInt = (0 : Int32).toInt := fun z => c_68 (Int32.toInt_inj.mp z)
                    have z_5 := Int32.le_iff_toInt_le.mp (Int32.not_lt.mp c_72)
                    have z_6 := congrArg Int32.toInt c_84
                    have y_0 : (0 : Int32).toInt = 0 := by decide
                    have y_6 : (6 : Int32).toInt = 6 := by decide
                    have y_12 : (12 : Int32).toInt = 12 := by decide
                    have y_1 : (1 : Int32).toInt = 1 := by decide
                    have t_x_97 : x_97.toInt = (yy_4500 : Int32).toInt + (1 : Int32).toInt := by rw [ex_97]; exact add_toInt (by omega) (by omega)
                    omega
                  have hm_99 : (6 - (yy_4500 : Int32).toInt).toNat = (6 - (x_97 : Int32).toInt).toNat + 1 := by
                    have z_1 := congrArg Int32.toInt c_22
                    have z_2 := Int32.lt_iff_toInt_lt.mp (Int32.not_le.mp c_29)
                    have z_3 := Int32.lt_iff_toInt_lt.mp (Int32.not_le.mp c_45)
                    have z_4 : ¬ (r_64 : Int32).toInt = (0 : Int32).toInt := fun z => c_68 (Int32.toInt_inj.mp z)
                    have z_5 := Int32.le_iff_toInt_le.mp (Int32.not_lt.mp c_72)
                    have z_6 := congrArg Int32.toInt c_84
                    have y_0 : (0 : Int32).toInt = 0 := by decide
                    have y_6 : (6 : Int32).toInt = 6 := by decide
                    have y_12 : (12 : Int32).toInt = 12 := by decide
                    have y_1 : (1 : Int32).toInt = 1 := by decide
                    have t_x_97 : x_97.toInt = (yy_4500 : Int32).toInt + (1 : Int32).toInt := by rw [ex_97]; exact add_toInt (by omega) (by omega)
                    omega
                  have hb_100 : dX9_goThroughDay_n_l44 (Af 4) (Af 5) (Av 3) (Av 4) r_4 (0 : Int32) ((6 - (yy_4500 : Int32).toInt).toNat + 1) yy_4500 yy_4501 yy_4502 yy_4503 yy_4504 yy_4505 yy_4506 yy_4507 = dX9_goThroughDay_n_l44 (Af 4) (Af 5) (Av 3) (Av 4) r_4 (0 : Int32) ((6 - (yy_4500 : Int32).toInt).toNat) x_97 x_96 sv_89 sv_90 sv_91 sv_92 sv_93 yy_4507 := by
                    clear hP hD hS hl ih_24
                    replace er_4 := er_4.symm; subst er_4
                    replace er_11 := er_11.symm; subst er_11
                    replace er_18 := er_18.symm; subst er_18
                    replace er_64 := er_64.symm; subst er_64
                    replace ex_70 := ex_70.symm; subst ex_70
                    replace ex_71 := ex_71.symm; subst ex_71
                    replace ex_82 := ex_82.symm; subst ex_82
                    replace ex_83 := ex_83.symm; subst ex_83
                    replace esv_89 := esv_89.symm; subst esv_89
                    replace esv_90 := esv_90.symm; subst esv_90
                    replace esv_91 := esv_91.symm; subst esv_91
                    replace esv_92 := esv_92.symm; subst esv_92
                    replace esv_93 := esv_93.symm; subst esv_93
                    replace ex_95 := ex_95.symm; subst ex_95
                    replace ex_96 := ex_96.symm; subst ex_96
                    replace ex_97 := ex_97.symm; subst ex_97
                    rw [dX9_goThroughDay_n_l44_s]
                    rw [if_neg c_29, if_neg c_45, if_neg c_68, if_neg c_72, if_pos c_84]
                    try rfl
                  have hL_101 : (dX9_goThroughDay_n_l44 (Af 4) (Af 5) (Av 3) (Av 4) r_4 (0 : Int32) ((6 - (0 : Int32).toInt).toNat + 1) (0 : Int32) (0 : Int32) (Av 0) (Av 5) (Af 3) (Af 6) (Af 8) (Af 7)) = dX9_goThroughDay_n_l44 (Af 4) (Af 5) (Av 3) (Av 4) r_4 (0 : Int32) ((6 - (x_97 : Int32).toInt).toNat + 1) x_97 x_96 sv_89 sv_90 sv_91 sv_92 sv_93 yy_4507 := by
                    rw [hL_27, hb_100, hm_99]
                  have ha_102 : 0 ≤ (x_97 : Int32).toInt := by
                    have z_1 := congrArg Int32.toInt c_22
                    have z_2 := Int32.lt_iff_toInt_lt.mp (Int32.not_le.mp c_29)
                    have z_3 := Int32.lt_iff_toInt_lt.mp (Int32.not_le.mp c_45)
                    have z_4 : ¬ (r_64 : Int32).toInt = (0 : Int32).toInt := fun z => c_68 (Int32.toInt_inj.mp z)
                    have z_5 := Int32.le_iff_toInt_le.mp (Int32.not_lt.mp c_72)
                    have z_6 := congrArg Int32.toInt c_84
                    have y_0 : (0 : Int32).toInt = 0 := by decide
                    have y_6 : (6 : Int32).toInt = 6 := by decide
                    have y_12 : (12 : Int32).toInt = 12 := by decide
                    have y_1 : (1 : Int32).toInt = 1 := by decide
                    have t_x_97 : x_97.toInt = (yy_4500 : Int32).toInt + (1 : Int32).toInt := by rw [ex_97]; exact add_toInt (by omega) (by omega)
                    omega
                  exact ih_24 x_97 x_96 sv_89 sv_90 sv_91 sv_92 sv_93 yy_4507 _ _ _ (by omega) hL_101 ha_102 (hP.sub [0, 1, 2, 3, 4, 5, 6, 7, 8] rfl) (hD.sub [0, 1, 2, 3, 4, 5, 6, 7, 8] rfl rfl) hS (lv_sub hl [0, 1, 3, 4, 5, 6, 7] rfl)
                · skip
                  refine lv_aload_n hx hb dX9_goThroughDay_132 rfl (lv_at hl 6 rfl) ?_
                  refine gf_X9_49 hx hb hts hown hK hP 0 rfl rfl dX9_goThroughDay_133 ?_
                  refine lv_iload hx hb dX9_goThroughDay_136 (lv_at hl 1 rfl) ?_
                  refine lv_dup2_11 hx hb dX9_goThroughDay_138 rfl rfl ?_
                  have hi_103 : vp_in yy_4500 6 := by
                    have z_1 := congrArg Int32.toInt c_22
                    have z_2 := Int32.lt_iff_toInt_lt.mp (Int32.not_le.mp c_29)
                    have z_3 := Int32.lt_iff_toInt_lt.mp (Int32.not_le.mp c_45)
                    have z_4 : ¬ (r_64 : Int32).toInt = (0 : Int32).toInt := fun z => c_68 (Int32.toInt_inj.mp z)
                    have z_5 := Int32.le_iff_toInt_le.mp (Int32.not_lt.mp c_72)
                    have z_6 : ¬ (x_83 : Int32).toInt = (0 : Int32).toInt := fun z => c_84 (Int32.toInt_inj.mp z)
                    have y_0 : (0 : Int32).toInt = 0 := by decide
                    have y_6 : (6 : Int32).toInt = 6 := by decide
                    have y_12 : (12 : Int32).toInt = 12 := by decide
                    refine vp_in_iff.mpr ⟨?_, ?_⟩ <;> omega
                  refine va_iald hx hb hK hP 7 0 rfl rfl hi_103 dX9_goThroughDay_139 ?_
                  refine lv_topi (fun x_104 ex_104 => ?_)
                  refine lv_iconst (v := 1) hx hb dX9_goThroughDay_140 (by decide) ?_
                  refine lv_iadd hx hb dX9_goThroughDay_141 ?_
                  refine lv_topi (fun x_105 ex_105 => ?_)
                  have hi_106 : vp_in yy_4500 6 := by
                    have z_1 := congrArg Int32.toInt c_22
                    have z_2 := Int32.lt_iff_toInt_lt.mp (Int32.not_le.mp c_29)
                    have z_3 := Int32.lt_iff_toInt_lt.mp (Int32.not_le.mp c_45)
                    have z_4 : ¬ (r_64 : Int32).toInt = (0 : Int32).toInt := fun z => c_68 (Int32.toInt_inj.mp z)
                    have z_5 := Int32.le_iff_toInt_le.mp (Int32.not_lt.mp c_72)
                    have z_6 : ¬ (x_83 : Int32).toInt = (0 : Int32).toInt := fun z => c_84 (Int32.toInt_inj.mp z)
                    have y_0 : (0 : Int32).toInt = 0 := by decide
                    have y_6 : (6 : Int32).toInt = 6 := by decide
                    have y_12 : (12 : Int32).toInt = 12 := by decide
                    refine vp_in_iff.mpr ⟨?_, ?_⟩ <;> omega
                  refine st_int hx hb hK hP hD hS 7 0 rfl rfl hi_106 dX9_goThroughDay_142 (fun g_107 H locs eg_107 hP₀ hD₀ hS₀ => ?_)
                  replace hP : va_P D classes [((Aa 0), .inr (9, [.int yy_4502, .int (Av 1), .int (Av 2), .int (Av 3), .int (Av 4), .int yy_4503, .ref (Aa 1), .ref (Aa 2), .ref (Aa 3), .ref (Aa 4), .ref (Aa 5), .ref (Aa 6), .ref (Aa 7), .ref (Aa 8)])), ((Aa 1), .inl (tc 0, 10, .inl (Af 1))), ((Aa 2), .inl (tc 0, 10, .inl (Af 2))), ((Aa 3), .inl (tc 0, 6, .inl yy_4504)), ((Aa 4), .inl (tc 0, 6, .inl (Af 4))), ((Aa 5), .inl (tc 0, 6, .inl (Af 5))), ((Aa 6), .inl (tc 0, 6, .inl yy_4505)), ((Aa 7), .inl (tc 0, 6, .inl g_107)), ((Aa 8), .inl (tc 0, 6, .inl yy_4506))] H := hP₀
                  replace hD : va_D A [((Aa 0), .inr (9, [.int yy_4502, .int (Av 1), .int (Av 2), .int (Av 3), .int (Av 4), .int yy_4503, .ref (Aa 1), .ref (Aa 2), .ref (Aa 3), .ref (Aa 4), .ref (Aa 5), .ref (Aa 6), .ref (Aa 7), .ref (Aa 8)])), ((Aa 1), .inl (tc 0, 10, .inl (Af 1))), ((Aa 2), .inl (tc 0, 10, .inl (Af 2))), ((Aa 3), .inl (tc 0, 6, .inl yy_4504)), ((Aa 4), .inl (tc 0, 6, .inl (Af 4))), ((Aa 5), .inl (tc 0, 6, .inl (Af 5))), ((Aa 6), .inl (tc 0, 6, .inl yy_4505)), ((Aa 7), .inl (tc 0, 6, .inl g_107)), ((Aa 8), .inl (tc 0, 6, .inl yy_4506))] := hD₀
                  replace hS := hS₀
                  clear hP₀ hD₀ hS₀
                  refine lv_aload_n hx hb dX9_goThroughDay_143 rfl (lv_at hl 6 rfl) ?_
                  refine gf_X9_52 hx hb hts hown hK hP 0 rfl rfl dX9_goThroughDay_144 ?_
                  refine lv_iload hx hb dX9_goThroughDay_147 (lv_at hl 1 rfl) ?_
                  refine lv_aload_n hx hb dX9_goThroughDay_149 rfl (lv_at hl 6 rfl) ?_
                  refine gf_X9_24 hx hb hts hown hK hP 0 rfl rfl dX9_goThroughDay_150 ?_
                  have hi_108 : vp_in yy_4500 6 := by
                    have z_1 := congrArg Int32.toInt c_22
                    have z_2 := Int32.lt_iff_toInt_lt.mp (Int32.not_le.mp c_29)
                    have z_3 := Int32.lt_iff_toInt_lt.mp (Int32.not_le.mp c_45)
                    have z_4 : ¬ (r_64 : Int32).toInt = (0 : Int32).toInt := fun z => c_68 (Int32.toInt_inj.mp z)
                    have z_5 := Int32.le_iff_toInt_le.mp (Int32.not_lt.mp c_72)
                    have z_6 : ¬ (x_83 : Int32).toInt = (0 : Int32).toInt := fun z => c_84 (Int32.toInt_inj.mp z)
                    have y_0 : (0 : Int32).toInt = 0 := by decide
                    have y_6 : (6 : Int32).toInt = 6 := by decide
                    have y_12 : (12 : Int32).toInt = 12 := by decide
                    refine vp_in_iff.mpr ⟨?_, ?_⟩ <;> omega
                  refine st_int hx hb hK hP hD hS 8 0 rfl rfl hi_108 dX9_goThroughDay_153 (fun g_109 H locs eg_109 hP₀ hD₀ hS₀ => ?_)
                  replace hP : va_P D classes [((Aa 0), .inr (9, [.int yy_4502, .int (Av 1), .int (Av 2), .int (Av 3), .int (Av 4), .int yy_4503, .ref (Aa 1), .ref (Aa 2), .ref (Aa 3), .ref (Aa 4), .ref (Aa 5), .ref (Aa 6), .ref (Aa 7), .ref (Aa 8)])), ((Aa 1), .inl (tc 0, 10, .inl (Af 1))), ((Aa 2), .inl (tc 0, 10, .inl (Af 2))), ((Aa 3), .inl (tc 0, 6, .inl yy_4504)), ((Aa 4), .inl (tc 0, 6, .inl (Af 4))), ((Aa 5), .inl (tc 0, 6, .inl (Af 5))), ((Aa 6), .inl (tc 0, 6, .inl yy_4505)), ((Aa 7), .inl (tc 0, 6, .inl g_107)), ((Aa 8), .inl (tc 0, 6, .inl g_109))] H := hP₀
                  replace hD : va_D A [((Aa 0), .inr (9, [.int yy_4502, .int (Av 1), .int (Av 2), .int (Av 3), .int (Av 4), .int yy_4503, .ref (Aa 1), .ref (Aa 2), .ref (Aa 3), .ref (Aa 4), .ref (Aa 5), .ref (Aa 6), .ref (Aa 7), .ref (Aa 8)])), ((Aa 1), .inl (tc 0, 10, .inl (Af 1))), ((Aa 2), .inl (tc 0, 10, .inl (Af 2))), ((Aa 3), .inl (tc 0, 6, .inl yy_4504)), ((Aa 4), .inl (tc 0, 6, .inl (Af 4))), ((Aa 5), .inl (tc 0, 6, .inl (Af 5))), ((Aa 6), .inl (tc 0, 6, .inl yy_4505)), ((Aa 7), .inl (tc 0, 6, .inl g_107)), ((Aa 8), .inl (tc 0, 6, .inl g_109))] := hD₀
                  replace hS := hS₀
                  clear hP₀ hD₀ hS₀
                  refine lv_goto (tgt := 177) hx hb dX9_goThroughDay_154 (by decide) ?_
                  obtain ⟨x_110, ex_110⟩ : ∃ y : Int32, y = yy_4500 + 1 := ⟨_, rfl⟩
                  refine lv_iinc (v := x_110) (lv' := [(6, .int x_110), (7, .int 1), (5, .int yy_4501), (4, .int 0), (3, .int r_11), (2, .int r_4), (0, .ref (Aa 0)), (1, .null)]) hx hb dX9_goThroughDay_177 hl (k := 1) rfl (by rw [ex_110]; rfl) (by decide) rfl (fun ls hl₀ => ?_)
                  replace hl := hl₀
                  clear hl₀
                  refine lv_goto (tgt := 44) hx hb dX9_goThroughDay_180 (by decide) ?_
                  have hb_111 : 6 - (x_110 : Int32).toInt < 6 - (yy_4500 : Int32).toInt ∧ 1 ≤ 6 - (yy_4500 : Int32).toInt := by
                    have z_1 := congrArg Int32.toInt c_22
                    have z_2 := Int32.lt_iff_toInt_lt.mp (Int32.not_le.mp c_29)
                    have z_3 := Int32.lt_iff_toInt_lt.mp (Int32.not_le.mp c_45)
                    have z_4 : ¬ (r_64 : Int32).toInt = (0 : Int32).toInt := fun z => c_68 (Int32.toInt_inj.mp z)
                    have z_5 := Int32.le_iff_toInt_le.mp (Int32.not_lt.mp c_72)
                    have z_6 : ¬ (x_83 : Int32).toInt = (0 : Int32).toInt := fun z => c_84 (Int32.toInt_inj.mp z)
                    have y_0 : (0 : Int32).toInt = 0 := by decide
                    have y_6 : (6 : Int32).toInt = 6 := by decide
                    have y_12 : (12 : Int32).toInt = 12 := by decide
                    have y_1 : (1 : Int32).toInt = 1 := by decide
                    have t_x_110 : x_110.toInt = (yy_4500 : Int32).toInt + (1 : Int32).toInt := by rw [ex_110]; exact add_toInt (by omega) (by omega)
                    omega
                  have hm_112 : (6 - (yy_4500 : Int32).toInt).toNat = (6 - (x_110 : Int32).toInt).toNat + 1 := by
                    have z_1 := congrArg Int32.toInt c_22
                    have z_2 := Int32.lt_iff_toInt_lt.mp (Int32.not_le.mp c_29)
                    have z_3 := Int32.lt_iff_toInt_lt.mp (Int32.not_le.mp c_45)
                    have z_4 : ¬ (r_64 : Int32).toInt = (0 : Int32).toInt := fun z => c_68 (Int32.toInt_inj.mp z)
                    have z_5 := Int32.le_iff_toInt_le.mp (Int32.not_lt.mp c_72)
                    have z_6 : ¬ (x_83 : Int32).toInt = (0 : Int32).toInt := fun z => c_84 (Int32.toInt_inj.mp z)
                    have y_0 : (0 : Int32).toInt = 0 := by decide
                    have y_6 : (6 : Int32).toInt = 6 := by decide
                    have y_12 : (12 : Int32).toInt = 12 := by decide
                    have y_1 : (1 : Int32).toInt = 1 := by decide
                    have t_x_110 : x_110.toInt = (yy_4500 : Int32).toInt + (1 : Int32).toInt := by rw [ex_110]; exact add_toInt (by omega) (by omega)
                    omega
                  have hb_113 : dX9_goThroughDay_n_l44 (Af 4) (Af 5) (Av 3) (Av 4) r_4 (0 : Int32) ((6 - (yy_4500 : Int32).toInt).toNat + 1) yy_4500 yy_4501 yy_4502 yy_4503 yy_4504 yy_4505 yy_4506 yy_4507 = dX9_goThroughDay_n_l44 (Af 4) (Af 5) (Av 3) (Av 4) r_4 (0 : Int32) ((6 - (yy_4500 : Int32).toInt).toNat) x_110 yy_4501 yy_4502 yy_4503 yy_4504 yy_4505 g_109 g_107 := by
                    clear hP hD hS hl ih_24
                    replace er_4 := er_4.symm; subst er_4
                    replace er_11 := er_11.symm; subst er_11
                    replace er_18 := er_18.symm; subst er_18
                    replace er_64 := er_64.symm; subst er_64
                    replace ex_70 := ex_70.symm; subst ex_70
                    replace ex_71 := ex_71.symm; subst ex_71
                    replace ex_82 := ex_82.symm; subst ex_82
                    replace ex_83 := ex_83.symm; subst ex_83
                    replace ex_104 := ex_104.symm; subst ex_104
                    replace ex_105 := ex_105.symm; subst ex_105
                    replace eg_107 := eg_107.symm; subst eg_107
                    replace eg_109 := eg_109.symm; subst eg_109
                    replace ex_110 := ex_110.symm; subst ex_110
                    rw [dX9_goThroughDay_n_l44_s]
                    rw [if_neg c_29, if_neg c_45, if_neg c_68, if_neg c_72, if_neg c_84]
                    try rfl
                  have hL_114 : (dX9_goThroughDay_n_l44 (Af 4) (Af 5) (Av 3) (Av 4) r_4 (0 : Int32) ((6 - (0 : Int32).toInt).toNat + 1) (0 : Int32) (0 : Int32) (Av 0) (Av 5) (Af 3) (Af 6) (Af 8) (Af 7)) = dX9_goThroughDay_n_l44 (Af 4) (Af 5) (Av 3) (Av 4) r_4 (0 : Int32) ((6 - (x_110 : Int32).toInt).toNat + 1) x_110 yy_4501 yy_4502 yy_4503 yy_4504 yy_4505 g_109 g_107 := by
                    rw [hL_27, hb_113, hm_112]
                  have ha_115 : 0 ≤ (x_110 : Int32).toInt := by
                    have z_1 := congrArg Int32.toInt c_22
                    have z_2 := Int32.lt_iff_toInt_lt.mp (Int32.not_le.mp c_29)
                    have z_3 := Int32.lt_iff_toInt_lt.mp (Int32.not_le.mp c_45)
                    have z_4 : ¬ (r_64 : Int32).toInt = (0 : Int32).toInt := fun z => c_68 (Int32.toInt_inj.mp z)
                    have z_5 := Int32.le_iff_toInt_le.mp (Int32.not_lt.mp c_72)
                    have z_6 : ¬ (x_83 : Int32).toInt = (0 : Int32).toInt := fun z => c_84 (Int32.toInt_inj.mp z)
                    have y_0 : (0 : Int32).toInt = 0 := by decide
                    have y_6 : (6 : Int32).toInt = 6 := by decide
                    have y_12 : (12 : Int32).toInt = 12 := by decide
                    have y_1 : (1 : Int32).toInt = 1 := by decide
                    have t_x_110 : x_110.toInt = (yy_4500 : Int32).toInt + (1 : Int32).toInt := by rw [ex_110]; exact add_toInt (by omega) (by omega)
                    omega
                  exact ih_24 x_110 yy_4501 yy_4502 yy_4503 yy_4504 yy_4505 g_109 g_107 _ _ _ (by omega) hL_114 ha_115 (hP.sub [0, 1, 2, 3, 4, 5, 6, 7, 8] rfl) (hD.sub [0, 1, 2, 3, 4, 5, 6, 7, 8] rfl rfl) hS (lv_sub hl [0, 2, 3, 4, 5, 6, 7] rfl)
            · skip
              refine lv_goto (tgt := 177) hx hb dX9_goThroughDay_69 (by decide) ?_
              obtain ⟨x_116, ex_116⟩ : ∃ y : Int32, y = yy_4500 + 1 := ⟨_, rfl⟩
              refine lv_iinc (v := x_116) (lv' := [(6, .int x_116), (5, .int yy_4501), (4, .int 0), (3, .int r_11), (2, .int r_4), (0, .ref (Aa 0)), (1, .null)]) hx hb dX9_goThroughDay_177 hl (k := 0) rfl (by rw [ex_116]; rfl) (by decide) rfl (fun ls hl₀ => ?_)
              replace hl := hl₀
              clear hl₀
              refine lv_goto (tgt := 44) hx hb dX9_goThroughDay_180 (by decide) ?_
              have hb_117 : 6 - (x_116 : Int32).toInt < 6 - (yy_4500 : Int32).toInt ∧ 1 ≤ 6 - (yy_4500 : Int32).toInt := by
                have z_1 := congrArg Int32.toInt c_22
                have z_2 := Int32.lt_iff_toInt_lt.mp (Int32.not_le.mp c_29)
                have z_3 := Int32.lt_iff_toInt_lt.mp (Int32.not_le.mp c_45)
                have z_4 := congrArg Int32.toInt c_68
                have y_0 : (0 : Int32).toInt = 0 := by decide
                have y_6 : (6 : Int32).toInt = 6 := by decide
                have y_1 : (1 : Int32).toInt = 1 := by decide
                have t_x_116 : x_116.toInt = (yy_4500 : Int32).toInt + (1 : Int32).toInt := by rw [ex_116]; exact add_toInt (by omega) (by omega)
                omega
              have hm_118 : (6 - (yy_4500 : Int32).toInt).toNat = (6 - (x_116 : Int32).toInt).toNat + 1 := by
                have z_1 := congrArg Int32.toInt c_22
                have z_2 := Int32.lt_iff_toInt_lt.mp (Int32.not_le.mp c_29)
                have z_3 := Int32.lt_iff_toInt_lt.mp (Int32.not_le.mp c_45)
                have z_4 := congrArg Int32.toInt c_68
                have y_0 : (0 : Int32).toInt = 0 := by decide
                have y_6 : (6 : Int32).toInt = 6 := by decide
                have y_1 : (1 : Int32).toInt = 1 := by decide
                have t_x_116 : x_116.toInt = (yy_4500 : Int32).toInt + (1 : Int32).toInt := by rw [ex_116]; exact add_toInt (by omega) (by omega)
                omega
              have hb_119 : dX9_goThroughDay_n_l44 (Af 4) (Af 5) (Av 3) (Av 4) r_4 (0 : Int32) ((6 - (yy_4500 : Int32).toInt).toNat + 1) yy_4500 yy_4501 yy_4502 yy_4503 yy_4504 yy_4505 yy_4506 yy_4507 = dX9_goThroughDay_n_l44 (Af 4) (Af 5) (Av 3) (Av 4) r_4 (0 : Int32) ((6 - (yy_4500 : Int32).toInt).toNat) x_116 yy_4501 yy_4502 yy_4503 yy_4504 yy_4505 yy_4506 yy_4507 := by
                clear hP hD hS hl ih_24
                replace er_4 := er_4.symm; subst er_4
                replace er_11 := er_11.symm; subst er_11
                replace er_18 := er_18.symm; subst er_18
                replace er_64 := er_64.symm; subst er_64
                replace ex_116 := ex_116.symm; subst ex_116
                rw [dX9_goThroughDay_n_l44_s]
                rw [if_neg c_29, if_neg c_45, if_pos c_68]
                try rfl
              have hL_120 : (dX9_goThroughDay_n_l44 (Af 4) (Af 5) (Av 3) (Av 4) r_4 (0 : Int32) ((6 - (0 : Int32).toInt).toNat + 1) (0 : Int32) (0 : Int32) (Av 0) (Av 5) (Af 3) (Af 6) (Af 8) (Af 7)) = dX9_goThroughDay_n_l44 (Af 4) (Af 5) (Av 3) (Av 4) r_4 (0 : Int32) ((6 - (x_116 : Int32).toInt).toNat + 1) x_116 yy_4501 yy_4502 yy_4503 yy_4504 yy_4505 yy_4506 yy_4507 := by
                rw [hL_27, hb_119, hm_118]
              have ha_121 : 0 ≤ (x_116 : Int32).toInt := by
                have z_1 := congrArg Int32.toInt c_22
                have z_2 := Int32.lt_iff_toInt_lt.mp (Int32.not_le.mp c_29)
                have z_3 := Int32.lt_iff_toInt_lt.mp (Int32.not_le.mp c_45)
                have z_4 := congrArg Int32.toInt c_68
                have y_0 : (0 : Int32).toInt = 0 := by decide
                have y_6 : (6 : Int32).toInt = 6 := by decide
                have y_1 : (1 : Int32).toInt = 1 := by decide
                have t_x_116 : x_116.toInt = (yy_4500 : Int32).toInt + (1 : Int32).toInt := by rw [ex_116]; exact add_toInt (by omega) (by omega)
                omega
              exact ih_24 x_116 yy_4501 yy_4502 yy_4503 yy_4504 yy_4505 yy_4506 yy_4507 _ _ _ (by omega) hL_120 ha_121 (hP.sub [0, 1, 2, 3, 4, 5, 6, 7, 8] rfl) (hD.sub [0, 1, 2, 3, 4, 5, 6, 7, 8] rfl rfl) hS (lv_sub hl [0, 1, 2, 3, 4, 5, 6] rfl)
    have ha_122 : 0 ≤ (0 : Int32).toInt := by
      have z_1 := congrArg Int32.toInt c_22
      have y_0 : (0 : Int32).toInt = 0 := by decide
      omega
    exact loop_25 _ 0 0 (Av 0) (Av 5) (Af 3) (Af 6) (Af 8) (Af 7) _ _ _ (Nat.lt_succ_self _) rfl ha_122 hP hD hS hl
  · skip
    refine lv_aload_n hx hb dX9_goThroughDay_26 rfl (lv_at hl 2 rfl) ?_
    refine gf_X9_34 hx hb hts hown hK hP 0 rfl rfl dX9_goThroughDay_27 ?_
    refine lv_iload_n hx hb dX9_goThroughDay_30 rfl (lv_at hl 0 rfl) ?_
    have hi_123 : vp_in r_11 10 := by
      have z_1 : ¬ (r_18 : Int32).toInt = (0 : Int32).toInt := fun z => c_22 (Int32.toInt_inj.mp z)
      have y_0 : (0 : Int32).toInt = 0 := by decide
      refine vp_in_iff.mpr ⟨?_, ?_⟩ <;> omega
    refine va_iald hx hb hK hP 2 0 rfl rfl hi_123 dX9_goThroughDay_31 ?_
    refine lv_topi (fun x_124 ex_124 => ?_)
    refine lv_goto (tgt := 36) hx hb dX9_goThroughDay_32 (by decide) ?_
    refine lv_istore (lv' := [(4, .int x_124), (3, .int r_11), (2, .int r_4), (0, .ref (Aa 0)), (1, .null)]) hx hb dX9_goThroughDay_36 hl (by decide) rfl (fun ls hl₀ => ?_)
    replace hl := hl₀
    clear hl₀
    refine lv_iconst (v := 0) hx hb dX9_goThroughDay_38 (by decide) ?_
    refine lv_istore (lv' := [(5, .int 0), (4, .int x_124), (3, .int r_11), (2, .int r_4), (0, .ref (Aa 0)), (1, .null)]) hx hb dX9_goThroughDay_39 hl (by decide) rfl (fun ls hl₀ => ?_)
    replace hl := hl₀
    clear hl₀
    refine lv_iconst (v := 0) hx hb dX9_goThroughDay_41 (by decide) ?_
    refine lv_istore (lv' := [(6, .int 0), (5, .int 0), (4, .int x_124), (3, .int r_11), (2, .int r_4), (0, .ref (Aa 0)), (1, .null)]) hx hb dX9_goThroughDay_42 hl (by decide) rfl (fun ls hl₀ => ?_)
    replace hl := hl₀
    clear hl₀
    have loop_127 : ∀ (n_125 : Nat) (yy_4500 : Int32) (yy_4501 : Int32) (yy_4502 : Int32) (yy_4503 : Int32) (yy_4504 : Nat → Int32) (yy_4505 : Nat → Int32) (yy_4506 : Nat → Int32) (yy_4507 : Nat → Int32) (H : Heap) (locs : List Loc) (ls : Array Slot), (6 - (yy_4500 : Int32).toInt).toNat < n_125 → (dX9_goThroughDay_n_l44 (Af 4) (Af 5) (Av 3) (Av 4) r_4 x_124 ((6 - (0 : Int32).toInt).toNat + 1) (0 : Int32) (0 : Int32) (Av 0) (Av 5) (Af 3) (Af 6) (Af 8) (Af 7)) = dX9_goThroughDay_n_l44 (Af 4) (Af 5) (Av 3) (Av 4) r_4 x_124 ((6 - (yy_4500 : Int32).toInt).toNat + 1) yy_4500 yy_4501 yy_4502 yy_4503 yy_4504 yy_4505 yy_4506 yy_4507 → (0 ≤ (yy_4500 : Int32).toInt) → va_P D classes [((Aa 0), .inr (9, [.int yy_4502, .int (Av 1), .int (Av 2), .int (Av 3), .int (Av 4), .int yy_4503, .ref (Aa 1), .ref (Aa 2), .ref (Aa 3), .ref (Aa 4), .ref (Aa 5), .ref (Aa 6), .ref (Aa 7), .ref (Aa 8)])), ((Aa 1), .inl (tc 0, 10, .inl (Af 1))), ((Aa 2), .inl (tc 0, 10, .inl (Af 2))), ((Aa 3), .inl (tc 0, 6, .inl yy_4504)), ((Aa 4), .inl (tc 0, 6, .inl (Af 4))), ((Aa 5), .inl (tc 0, 6, .inl (Af 5))), ((Aa 6), .inl (tc 0, 6, .inl yy_4505)), ((Aa 7), .inl (tc 0, 6, .inl yy_4507)), ((Aa 8), .inl (tc 0, 6, .inl yy_4506))] H → va_D A [((Aa 0), .inr (9, [.int yy_4502, .int (Av 1), .int (Av 2), .int (Av 3), .int (Av 4), .int yy_4503, .ref (Aa 1), .ref (Aa 2), .ref (Aa 3), .ref (Aa 4), .ref (Aa 5), .ref (Aa 6), .ref (Aa 7), .ref (Aa 8)])), ((Aa 1), .inl (tc 0, 10, .inl (Af 1))), ((Aa 2), .inl (tc 0, 10, .inl (Af 2))), ((Aa 3), .inl (tc 0, 6, .inl yy_4504)), ((Aa 4), .inl (tc 0, 6, .inl (Af 4))), ((Aa 5), .inl (tc 0, 6, .inl (Af 5))), ((Aa 6), .inl (tc 0, 6, .inl yy_4505)), ((Aa 7), .inl (tc 0, 6, .inl yy_4507)), ((Aa 8), .inl (tc 0, 6, .inl yy_4506))] → va_S A s.heap H locs → lv_has ls 8 [(6, .int yy_4500), (5, .int yy_4501), (4, .int x_124), (3, .int r_11), (2, .int r_4), (0, .ref (Aa 0)), (1, .null)] → W p l e ({ frames := 2, cells := 0, slots := 0, locals := 42 }) s m ([.ref (Aa 0), .null].toArray) below meth c H locs 0 0 (MQ below (QW (fun (v : Option Value) (u : (Int32) × (Int32) × (Int32) × (Nat → Int32) × (Nat → Int32) × (Nat → Int32) × (Nat → Int32)) => match u with | (oo0x1, oo0x2, oo0x3, oo0x4, oo0x5, oo0x6, oo0x7) => ∃ r : Int32, v = some (.int r) ∧ ((True) ∧ (r, oo0x1, oo0x2, oo0x3, oo0x4, oo0x5, oo0x6, oo0x7) = (dX9_goThroughDay_n (Af 1) (Af 2) (Af 3) (Af 4) (Af 5) (Af 6) (Af 7) (Af 8) (Av 0) (Av 1) (Av 2) (Av 3) (Av 4) (Av 5)))) (BW D (fun (u : (Int32) × (Int32) × (Int32) × (Nat → Int32) × (Nat → Int32) × (Nat → Int32) × (Nat → Int32)) => match u with | (oo0x1, oo0x2, oo0x3, oo0x4, oo0x5, oo0x6, oo0x7) => [((Aa 0), .inr (9, [.int oo0x1, .int (Av 1), .int (Av 2), .int (Av 3), .int oo0x2, .int oo0x3, .ref (Aa 1), .ref (Aa 2), .ref (Aa 3), .ref (Aa 4), .ref (Aa 5), .ref (Aa 6), .ref (Aa 7), .ref (Aa 8)])), ((Aa 1), .inl (tc 0, 10, .inl (Af 1))), ((Aa 2), .inl (tc 0, 10, .inl (Af 2))), ((Aa 3), .inl (tc 0, 6, .inl oo0x4)), ((Aa 4), .inl (tc 0, 6, .inl (Af 4))), ((Aa 5), .inl (tc 0, 6, .inl (Af 5))), ((Aa 6), .inl (tc 0, 6, .inl oo0x5)), ((Aa 7), .inl (tc 0, 6, .inl oo0x6)), ((Aa 8), .inl (tc 0, 6, .inl oo0x7))]) A) A) ([.ref (Aa 0), .null].toArray) s 0 0 A) (F0 m 44 ls []) := by
      clear hP hD hS hl
      intro n_125
      induction n_125 with
      | zero =>
        intro yy_4500 yy_4501 yy_4502 yy_4503 yy_4504 yy_4505 yy_4506 yy_4507 H locs ls h1
        exact absurd h1 (Nat.not_lt_zero _)
      | succ n_125 ih_126 =>
        intro yy_4500 yy_4501 yy_4502 yy_4503 yy_4504 yy_4505 yy_4506 yy_4507 H locs ls hn_130 hL_129 pf_128 hP hD hS hl
        refine lv_iload hx hb dX9_goThroughDay_44 (lv_at hl 0 rfl) ?_
        refine lv_aload_n hx hb dX9_goThroughDay_46 rfl (lv_at hl 5 rfl) ?_
        refine gf_X9_21 hx hb hts hown hK hP 0 rfl rfl dX9_goThroughDay_47 ?_
        refine lv_icmp_ge (tgt := 183) hx hb dX9_goThroughDay_50 (by decide) (fun c_131 => ?_) (fun c_131 => ?_)
        · skip
          have hb_133 : dX9_goThroughDay_n_l44 (Af 4) (Af 5) (Av 3) (Av 4) r_4 x_124 ((6 - (yy_4500 : Int32).toInt).toNat + 1) yy_4500 yy_4501 yy_4502 yy_4503 yy_4504 yy_4505 yy_4506 yy_4507 = (yy_4500, yy_4501, yy_4502, yy_4503, yy_4504, yy_4505, yy_4506, yy_4507) := by
            clear hP hD hS hl ih_126
            replace er_4 := er_4.symm; subst er_4
            replace er_11 := er_11.symm; subst er_11
            replace er_18 := er_18.symm; subst er_18
            replace ex_124 := ex_124.symm; subst ex_124
            rw [dX9_goThroughDay_n_l44_s]
            rw [if_pos c_131]
            try rfl
          have hX_132 : (dX9_goThroughDay_n_l44 (Af 4) (Af 5) (Av 3) (Av 4) r_4 x_124 ((6 - (0 : Int32).toInt).toNat + 1) (0 : Int32) (0 : Int32) (Av 0) (Av 5) (Af 3) (Af 6) (Af 8) (Af 7)) = (yy_4500, yy_4501, yy_4502, yy_4503, yy_4504, yy_4505, yy_4506, yy_4507) := hL_129.trans hb_133
          have hX_132_0 : (dX9_goThroughDay_n_l44 (Af 4) (Af 5) (Av 3) (Av 4) r_4 x_124 ((6 - (0 : Int32).toInt).toNat + 1) (0 : Int32) (0 : Int32) (Av 0) (Av 5) (Af 3) (Af 6) (Af 8) (Af 7)).1 = yy_4500 := congrArg (fun z => z.1) hX_132
          have hX_132_1 : (dX9_goThroughDay_n_l44 (Af 4) (Af 5) (Av 3) (Av 4) r_4 x_124 ((6 - (0 : Int32).toInt).toNat + 1) (0 : Int32) (0 : Int32) (Av 0) (Av 5) (Af 3) (Af 6) (Af 8) (Af 7)).2.1 = yy_4501 := congrArg (fun z => z.2.1) hX_132
          have hX_132_2 : (dX9_goThroughDay_n_l44 (Af 4) (Af 5) (Av 3) (Av 4) r_4 x_124 ((6 - (0 : Int32).toInt).toNat + 1) (0 : Int32) (0 : Int32) (Av 0) (Av 5) (Af 3) (Af 6) (Af 8) (Af 7)).2.2.1 = yy_4502 := congrArg (fun z => z.2.2.1) hX_132
          have hX_132_3 : (dX9_goThroughDay_n_l44 (Af 4) (Af 5) (Av 3) (Av 4) r_4 x_124 ((6 - (0 : Int32).toInt).toNat + 1) (0 : Int32) (0 : Int32) (Av 0) (Av 5) (Af 3) (Af 6) (Af 8) (Af 7)).2.2.2.1 = yy_4503 := congrArg (fun z => z.2.2.2.1) hX_132
          have hX_132_4 : (dX9_goThroughDay_n_l44 (Af 4) (Af 5) (Av 3) (Av 4) r_4 x_124 ((6 - (0 : Int32).toInt).toNat + 1) (0 : Int32) (0 : Int32) (Av 0) (Av 5) (Af 3) (Af 6) (Af 8) (Af 7)).2.2.2.2.1 = yy_4504 := congrArg (fun z => z.2.2.2.2.1) hX_132
          have hX_132_5 : (dX9_goThroughDay_n_l44 (Af 4) (Af 5) (Av 3) (Av 4) r_4 x_124 ((6 - (0 : Int32).toInt).toNat + 1) (0 : Int32) (0 : Int32) (Av 0) (Av 5) (Af 3) (Af 6) (Af 8) (Af 7)).2.2.2.2.2.1 = yy_4505 := congrArg (fun z => z.2.2.2.2.2.1) hX_132
          have hX_132_6 : (dX9_goThroughDay_n_l44 (Af 4) (Af 5) (Av 3) (Av 4) r_4 x_124 ((6 - (0 : Int32).toInt).toNat + 1) (0 : Int32) (0 : Int32) (Av 0) (Av 5) (Af 3) (Af 6) (Af 8) (Af 7)).2.2.2.2.2.2.1 = yy_4506 := congrArg (fun z => z.2.2.2.2.2.2.1) hX_132
          have hX_132_7 : (dX9_goThroughDay_n_l44 (Af 4) (Af 5) (Av 3) (Av 4) r_4 x_124 ((6 - (0 : Int32).toInt).toNat + 1) (0 : Int32) (0 : Int32) (Av 0) (Av 5) (Af 3) (Af 6) (Af 8) (Af 7)).2.2.2.2.2.2.2 = yy_4507 := congrArg (fun z => z.2.2.2.2.2.2.2) hX_132
          refine lv_aload_n hx hb dX9_goThroughDay_183 rfl (lv_at hl 5 rfl) ?_
          refine lv_iload_n hx hb dX9_goThroughDay_184 rfl (lv_at hl 4 rfl) ?_
          refine cV (a := (Aa 0)) (As := [.int r_4]) (rest := []) (wr := []) ⟨hx, hb, hml, hown, hts⟩ hK hX hA (cu_dX9_changeTempers l D tc sk (Aa 0) (Aa 1) (Aa 2) (Aa 3) (Aa 4) (Aa 5) (Aa 6) (Aa 7) (Aa 8) yy_4502 (Av 1) (Av 2) (Av 3) (Av 4) yy_4503 (Af 1) (Af 2) yy_4504 (Af 4) (Af 5) yy_4505 yy_4507 yy_4506 r_4) k_779 k_776 k_778 k_15 k_98 pl_X9_changeTempers ⟨Nat.le_of_ble_eq_true rfl, Nat.le_of_ble_eq_true rfl⟩ rfl rfl (va_recv hK hP (ci := 9) (q0 := 0) rfl rfl) hP hD hS [0, 1, 2, 3, 4, 5, 6, 7, 8] [] rfl rfl rfl rfl rfl (by decide) rfl hl.1 rfl (Nat.le_of_ble_eq_true rfl) dX9_goThroughDay_185 ⟨Nat.le_of_ble_eq_true rfl, Nat.le_of_ble_eq_true rfl⟩ (fun v_134 u_135 H locs hv_136 hP₀ hD₀ hS₀ => ?_)
          obtain ⟨sv_137, rfl⟩ : ∃ z, z = u_135 := ⟨_, rfl⟩
          obtain ⟨rfl, pf_138⟩ := hv_136
          have pf_138 : DEq (sv_137) (dX9_changeTempers yy_4504 (Av 3) r_4) := pf_138
          refine W.eq (g2 := F0 m 188 ls []) rfl ?_
          replace hP : va_P D classes [((Aa 0), .inr (9, [.int yy_4502, .int (Av 1), .int (Av 2), .int (Av 3), .int (Av 4), .int yy_4503, .ref (Aa 1), .ref (Aa 2), .ref (Aa 3), .ref (Aa 4), .ref (Aa 5), .ref (Aa 6), .ref (Aa 7), .ref (Aa 8)])), ((Aa 1), .inl (tc 0, 10, .inl (Af 1))), ((Aa 2), .inl (tc 0, 10, .inl (Af 2))), ((Aa 3), .inl (tc 0, 6, .inl sv_137)), ((Aa 4), .inl (tc 0, 6, .inl (Af 4))), ((Aa 5), .inl (tc 0, 6, .inl (Af 5))), ((Aa 6), .inl (tc 0, 6, .inl yy_4505)), ((Aa 7), .inl (tc 0, 6, .inl yy_4507)), ((Aa 8), .inl (tc 0, 6, .inl yy_4506))] H := hP₀
          replace hD : va_D A [((Aa 0), .inr (9, [.int yy_4502, .int (Av 1), .int (Av 2), .int (Av 3), .int (Av 4), .int yy_4503, .ref (Aa 1), .ref (Aa 2), .ref (Aa 3), .ref (Aa 4), .ref (Aa 5), .ref (Aa 6), .ref (Aa 7), .ref (Aa 8)])), ((Aa 1), .inl (tc 0, 10, .inl (Af 1))), ((Aa 2), .inl (tc 0, 10, .inl (Af 2))), ((Aa 3), .inl (tc 0, 6, .inl sv_137)), ((Aa 4), .inl (tc 0, 6, .inl (Af 4))), ((Aa 5), .inl (tc 0, 6, .inl (Af 5))), ((Aa 6), .inl (tc 0, 6, .inl yy_4505)), ((Aa 7), .inl (tc 0, 6, .inl yy_4507)), ((Aa 8), .inl (tc 0, 6, .inl yy_4506))] := hD₀
          replace hS := hS₀
          clear hP₀ hD₀ hS₀
          have esv_137 : sv_137 = (dX9_changeTempers yy_4504 (Av 3) r_4) := pf_138
          refine lv_aload_n hx hb dX9_goThroughDay_188 rfl (lv_at hl 5 rfl) ?_
          refine gf_X9_24 hx hb hts hown hK hP 0 rfl rfl dX9_goThroughDay_189 ?_
          refine lv_bipush (v := 7) hx hb dX9_goThroughDay_192 (by decide) ?_
          refine lv_irem hx hb dX9_goThroughDay_194 (by decide) ?_
          refine lv_topi (fun x_139 ex_139 => ?_)
          refine lv_bipush (v := 6) hx hb dX9_goThroughDay_195 (by decide) ?_
          refine lv_icmp_ne (tgt := 218) hx hb dX9_goThroughDay_197 (by decide) (fun c_140 => ?_) (fun c_140 => ?_)
          · skip
            refine lv_aload_n hx hb dX9_goThroughDay_218 rfl (lv_at hl 5 rfl) ?_
            refine lv_dup hx hb dX9_goThroughDay_219 rfl ?_
            refine gf_X9_24 hx hb hts hown hK hP 0 rfl rfl dX9_goThroughDay_220 ?_
            refine lv_iconst (v := 1) hx hb dX9_goThroughDay_223 (by decide) ?_
            refine lv_iadd hx hb dX9_goThroughDay_224 ?_
            refine lv_topi (fun x_141 ex_141 => ?_)
            refine pf_X9_24 hx hb hts hown hK hP hD hS 0 rfl (Nat.le_of_ble_eq_true rfl) rfl rfl dX9_goThroughDay_225 (fun H locs hP₀ hD₀ hS₀ => ?_)
            replace hP : va_P D classes [((Aa 0), .inr (9, [.int yy_4502, .int (Av 1), .int (Av 2), .int (Av 3), .int x_141, .int yy_4503, .ref (Aa 1), .ref (Aa 2), .ref (Aa 3), .ref (Aa 4), .ref (Aa 5), .ref (Aa 6), .ref (Aa 7), .ref (Aa 8)])), ((Aa 1), .inl (tc 0, 10, .inl (Af 1))), ((Aa 2), .inl (tc 0, 10, .inl (Af 2))), ((Aa 3), .inl (tc 0, 6, .inl sv_137)), ((Aa 4), .inl (tc 0, 6, .inl (Af 4))), ((Aa 5), .inl (tc 0, 6, .inl (Af 5))), ((Aa 6), .inl (tc 0, 6, .inl yy_4505)), ((Aa 7), .inl (tc 0, 6, .inl yy_4507)), ((Aa 8), .inl (tc 0, 6, .inl yy_4506))] H := hP₀
            replace hD : va_D A [((Aa 0), .inr (9, [.int yy_4502, .int (Av 1), .int (Av 2), .int (Av 3), .int x_141, .int yy_4503, .ref (Aa 1), .ref (Aa 2), .ref (Aa 3), .ref (Aa 4), .ref (Aa 5), .ref (Aa 6), .ref (Aa 7), .ref (Aa 8)])), ((Aa 1), .inl (tc 0, 10, .inl (Af 1))), ((Aa 2), .inl (tc 0, 10, .inl (Af 2))), ((Aa 3), .inl (tc 0, 6, .inl sv_137)), ((Aa 4), .inl (tc 0, 6, .inl (Af 4))), ((Aa 5), .inl (tc 0, 6, .inl (Af 5))), ((Aa 6), .inl (tc 0, 6, .inl yy_4505)), ((Aa 7), .inl (tc 0, 6, .inl yy_4507)), ((Aa 8), .inl (tc 0, 6, .inl yy_4506))] := hD₀
            replace hS := hS₀
            clear hP₀ hD₀ hS₀
            refine lv_iload hx hb dX9_goThroughDay_228 (lv_at hl 1 rfl) ?_
            have hF_142 : (yy_4501, yy_4502, x_141, yy_4503, sv_137, yy_4505, yy_4507, yy_4506) = (dX9_goThroughDay_n (Af 1) (Af 2) (Af 3) (Af 4) (Af 5) (Af 6) (Af 7) (Af 8) (Av 0) (Av 1) (Av 2) (Av 3) (Av 4) (Av 5)) := by
              clear hP hD hS hl ih_126
              replace er_4 := er_4.symm; subst er_4
              replace er_11 := er_11.symm; subst er_11
              replace er_18 := er_18.symm; subst er_18
              replace ex_124 := ex_124.symm; subst ex_124
              replace esv_137 := esv_137.symm; subst esv_137
              replace ex_139 := ex_139.symm; subst ex_139
              replace ex_141 := ex_141.symm; subst ex_141
              unfold dX9_goThroughDay_n
              try rw [hX_132_0]
              try rw [hX_132_1]
              try rw [hX_132_2]
              try rw [hX_132_3]
              try rw [hX_132_4]
              try rw [hX_132_5]
              try rw [hX_132_6]
              try rw [hX_132_7]
              rw [if_neg c_22, if_neg c_140]
              try rfl
            exact retI (v := yy_4501) hx hb hr hlk (rfl) hP hD hS (yy_4502, x_141, yy_4503, sv_137, yy_4505, yy_4507, yy_4506) ⟨_, rfl, ⟨trivial, hF_142⟩⟩ [0, 1, 2, 3, 4, 5, 6, 7, 8] rfl rfl dX9_goThroughDay_230 (Nat.le_of_ble_eq_true rfl) (Nat.le_of_ble_eq_true rfl) rfl
          · skip
            refine lv_aload_n hx hb dX9_goThroughDay_200 rfl (lv_at hl 5 rfl) ?_
            refine lv_bipush (v := 99) hx hb dX9_goThroughDay_201 (by decide) ?_
            refine lv_aload_n hx hb dX9_goThroughDay_203 rfl (lv_at hl 5 rfl) ?_
            refine gf_X9_9 hx hb hts hown hK hP 0 rfl rfl dX9_goThroughDay_204 ?_
            refine lv_aload_n hx hb dX9_goThroughDay_207 rfl (lv_at hl 5 rfl) ?_
            refine gf_X9_15 hx hb hts hown hK hP 0 rfl rfl dX9_goThroughDay_208 ?_
            refine lv_iadd hx hb dX9_goThroughDay_211 ?_
            refine lv_topi (fun x_143 ex_143 => ?_)
            refine va_mmin hx hb (hml.trans hl.1.symm) hown (hts _ k_780) (hts _ k_680) (hts _ k_114) (hts _ k_681) (Nat.le_of_ble_eq_true rfl) (Nat.le_of_ble_eq_true rfl) (Nat.le_of_ble_eq_true rfl) (Nat.le_of_ble_eq_true rfl) dX9_goThroughDay_212 ?_
            refine lv_topi (fun x_144 ex_144 => ?_)
            have mx_144 := imin_f ex_144
            rw [show (99 : Int32).toInt = 99 by decide] at mx_144
            refine pf_X9_9 hx hb hts hown hK hP hD hS 0 rfl (Nat.le_of_ble_eq_true rfl) rfl rfl dX9_goThroughDay_215 (fun H locs hP₀ hD₀ hS₀ => ?_)
            replace hP : va_P D classes [((Aa 0), .inr (9, [.int x_144, .int (Av 1), .int (Av 2), .int (Av 3), .int (Av 4), .int yy_4503, .ref (Aa 1), .ref (Aa 2), .ref (Aa 3), .ref (Aa 4), .ref (Aa 5), .ref (Aa 6), .ref (Aa 7), .ref (Aa 8)])), ((Aa 1), .inl (tc 0, 10, .inl (Af 1))), ((Aa 2), .inl (tc 0, 10, .inl (Af 2))), ((Aa 3), .inl (tc 0, 6, .inl sv_137)), ((Aa 4), .inl (tc 0, 6, .inl (Af 4))), ((Aa 5), .inl (tc 0, 6, .inl (Af 5))), ((Aa 6), .inl (tc 0, 6, .inl yy_4505)), ((Aa 7), .inl (tc 0, 6, .inl yy_4507)), ((Aa 8), .inl (tc 0, 6, .inl yy_4506))] H := hP₀
            replace hD : va_D A [((Aa 0), .inr (9, [.int x_144, .int (Av 1), .int (Av 2), .int (Av 3), .int (Av 4), .int yy_4503, .ref (Aa 1), .ref (Aa 2), .ref (Aa 3), .ref (Aa 4), .ref (Aa 5), .ref (Aa 6), .ref (Aa 7), .ref (Aa 8)])), ((Aa 1), .inl (tc 0, 10, .inl (Af 1))), ((Aa 2), .inl (tc 0, 10, .inl (Af 2))), ((Aa 3), .inl (tc 0, 6, .inl sv_137)), ((Aa 4), .inl (tc 0, 6, .inl (Af 4))), ((Aa 5), .inl (tc 0, 6, .inl (Af 5))), ((Aa 6), .inl (tc 0, 6, .inl yy_4505)), ((Aa 7), .inl (tc 0, 6, .inl yy_4507)), ((Aa 8), .inl (tc 0, 6, .inl yy_4506))] := hD₀
            replace hS := hS₀
            clear hP₀ hD₀ hS₀
            refine lv_aload_n hx hb dX9_goThroughDay_218 rfl (lv_at hl 5 rfl) ?_
            refine lv_dup hx hb dX9_goThroughDay_219 rfl ?_
            refine gf_X9_24 hx hb hts hown hK hP 0 rfl rfl dX9_goThroughDay_220 ?_
            refine lv_iconst (v := 1) hx hb dX9_goThroughDay_223 (by decide) ?_
            refine lv_iadd hx hb dX9_goThroughDay_224 ?_
            refine lv_topi (fun x_145 ex_145 => ?_)
            refine pf_X9_24 hx hb hts hown hK hP hD hS 0 rfl (Nat.le_of_ble_eq_true rfl) rfl rfl dX9_goThroughDay_225 (fun H locs hP₀ hD₀ hS₀ => ?_)
            replace hP : va_P D classes [((Aa 0), .inr (9, [.int x_144, .int (Av 1), .int (Av 2), .int (Av 3), .int x_145, .int yy_4503, .ref (Aa 1), .ref (Aa 2), .ref (Aa 3), .ref (Aa 4), .ref (Aa 5), .ref (Aa 6), .ref (Aa 7), .ref (Aa 8)])), ((Aa 1), .inl (tc 0, 10, .inl (Af 1))), ((Aa 2), .inl (tc 0, 10, .inl (Af 2))), ((Aa 3), .inl (tc 0, 6, .inl sv_137)), ((Aa 4), .inl (tc 0, 6, .inl (Af 4))), ((Aa 5), .inl (tc 0, 6, .inl (Af 5))), ((Aa 6), .inl (tc 0, 6, .inl yy_4505)), ((Aa 7), .inl (tc 0, 6, .inl yy_4507)), ((Aa 8), .inl (tc 0, 6, .inl yy_4506))] H := hP₀
            replace hD : va_D A [((Aa 0), .inr (9, [.int x_144, .int (Av 1), .int (Av 2), .int (Av 3), .int x_145, .int yy_4503, .ref (Aa 1), .ref (Aa 2), .ref (Aa 3), .ref (Aa 4), .ref (Aa 5), .ref (Aa 6), .ref (Aa 7), .ref (Aa 8)])), ((Aa 1), .inl (tc 0, 10, .inl (Af 1))), ((Aa 2), .inl (tc 0, 10, .inl (Af 2))), ((Aa 3), .inl (tc 0, 6, .inl sv_137)), ((Aa 4), .inl (tc 0, 6, .inl (Af 4))), ((Aa 5), .inl (tc 0, 6, .inl (Af 5))), ((Aa 6), .inl (tc 0, 6, .inl yy_4505)), ((Aa 7), .inl (tc 0, 6, .inl yy_4507)), ((Aa 8), .inl (tc 0, 6, .inl yy_4506))] := hD₀
            replace hS := hS₀
            clear hP₀ hD₀ hS₀
            refine lv_iload hx hb dX9_goThroughDay_228 (lv_at hl 1 rfl) ?_
            have hF_146 : (yy_4501, x_144, x_145, yy_4503, sv_137, yy_4505, yy_4507, yy_4506) = (dX9_goThroughDay_n (Af 1) (Af 2) (Af 3) (Af 4) (Af 5) (Af 6) (Af 7) (Af 8) (Av 0) (Av 1) (Av 2) (Av 3) (Av 4) (Av 5)) := by
              clear hP hD hS hl ih_126
              replace er_4 := er_4.symm; subst er_4
              replace er_11 := er_11.symm; subst er_11
              replace er_18 := er_18.symm; subst er_18
              replace ex_124 := ex_124.symm; subst ex_124
              replace esv_137 := esv_137.symm; subst esv_137
              replace ex_139 := ex_139.symm; subst ex_139
              replace ex_143 := ex_143.symm; subst ex_143
              replace ex_144 := ex_144.symm; subst ex_144
              replace ex_145 := ex_145.symm; subst ex_145
              unfold dX9_goThroughDay_n
              try rw [hX_132_0]
              try rw [hX_132_1]
              try rw [hX_132_2]
              try rw [hX_132_3]
              try rw [hX_132_4]
              try rw [hX_132_5]
              try rw [hX_132_6]
              try rw [hX_132_7]
              rw [if_neg c_22, if_pos c_140]
              try rfl
            exact retI (v := yy_4501) hx hb hr hlk (rfl) hP hD hS (x_144, x_145, yy_4503, sv_137, yy_4505, yy_4507, yy_4506) ⟨_, rfl, ⟨trivial, hF_146⟩⟩ [0, 1, 2, 3, 4, 5, 6, 7, 8] rfl rfl dX9_goThroughDay_230 (Nat.le_of_ble_eq_true rfl) (Nat.le_of_ble_eq_true rfl) rfl
        · skip
          refine lv_iload hx hb dX9_goThroughDay_53 (lv_at hl 0 rfl) ?_
          refine lv_bipush (v := 6) hx hb dX9_goThroughDay_55 (by decide) ?_
          refine lv_icmp_ge (tgt := 183) hx hb dX9_goThroughDay_57 (by decide) (fun c_147 => ?_) (fun c_147 => ?_)
          · skip
            have hb_149 : dX9_goThroughDay_n_l44 (Af 4) (Af 5) (Av 3) (Av 4) r_4 x_124 ((6 - (yy_4500 : Int32).toInt).toNat + 1) yy_4500 yy_4501 yy_4502 yy_4503 yy_4504 yy_4505 yy_4506 yy_4507 = (yy_4500, yy_4501, yy_4502, yy_4503, yy_4504, yy_4505, yy_4506, yy_4507) := by
              clear hP hD hS hl ih_126
              replace er_4 := er_4.symm; subst er_4
              replace er_11 := er_11.symm; subst er_11
              replace er_18 := er_18.symm; subst er_18
              replace ex_124 := ex_124.symm; subst ex_124
              rw [dX9_goThroughDay_n_l44_s]
              rw [if_neg c_131, if_pos c_147]
              try rfl
            have hX_148 : (dX9_goThroughDay_n_l44 (Af 4) (Af 5) (Av 3) (Av 4) r_4 x_124 ((6 - (0 : Int32).toInt).toNat + 1) (0 : Int32) (0 : Int32) (Av 0) (Av 5) (Af 3) (Af 6) (Af 8) (Af 7)) = (yy_4500, yy_4501, yy_4502, yy_4503, yy_4504, yy_4505, yy_4506, yy_4507) := hL_129.trans hb_149
            have hX_148_0 : (dX9_goThroughDay_n_l44 (Af 4) (Af 5) (Av 3) (Av 4) r_4 x_124 ((6 - (0 : Int32).toInt).toNat + 1) (0 : Int32) (0 : Int32) (Av 0) (Av 5) (Af 3) (Af 6) (Af 8) (Af 7)).1 = yy_4500 := congrArg (fun z => z.1) hX_148
            have hX_148_1 : (dX9_goThroughDay_n_l44 (Af 4) (Af 5) (Av 3) (Av 4) r_4 x_124 ((6 - (0 : Int32).toInt).toNat + 1) (0 : Int32) (0 : Int32) (Av 0) (Av 5) (Af 3) (Af 6) (Af 8) (Af 7)).2.1 = yy_4501 := congrArg (fun z => z.2.1) hX_148
            have hX_148_2 : (dX9_goThroughDay_n_l44 (Af 4) (Af 5) (Av 3) (Av 4) r_4 x_124 ((6 - (0 : Int32).toInt).toNat + 1) (0 : Int32) (0 : Int32) (Av 0) (Av 5) (Af 3) (Af 6) (Af 8) (Af 7)).2.2.1 = yy_4502 := congrArg (fun z => z.2.2.1) hX_148
            have hX_148_3 : (dX9_goThroughDay_n_l44 (Af 4) (Af 5) (Av 3) (Av 4) r_4 x_124 ((6 - (0 : Int32).toInt).toNat + 1) (0 : Int32) (0 : Int32) (Av 0) (Av 5) (Af 3) (Af 6) (Af 8) (Af 7)).2.2.2.1 = yy_4503 := congrArg (fun z => z.2.2.2.1) hX_148
            have hX_148_4 : (dX9_goThroughDay_n_l44 (Af 4) (Af 5) (Av 3) (Av 4) r_4 x_124 ((6 - (0 : Int32).toInt).toNat + 1) (0 : Int32) (0 : Int32) (Av 0) (Av 5) (Af 3) (Af 6) (Af 8) (Af 7)).2.2.2.2.1 = yy_4504 := congrArg (fun z => z.2.2.2.2.1) hX_148
            have hX_148_5 : (dX9_goThroughDay_n_l44 (Af 4) (Af 5) (Av 3) (Av 4) r_4 x_124 ((6 - (0 : Int32).toInt).toNat + 1) (0 : Int32) (0 : Int32) (Av 0) (Av 5) (Af 3) (Af 6) (Af 8) (Af 7)).2.2.2.2.2.1 = yy_4505 := congrArg (fun z => z.2.2.2.2.2.1) hX_148
            have hX_148_6 : (dX9_goThroughDay_n_l44 (Af 4) (Af 5) (Av 3) (Av 4) r_4 x_124 ((6 - (0 : Int32).toInt).toNat + 1) (0 : Int32) (0 : Int32) (Av 0) (Av 5) (Af 3) (Af 6) (Af 8) (Af 7)).2.2.2.2.2.2.1 = yy_4506 := congrArg (fun z => z.2.2.2.2.2.2.1) hX_148
            have hX_148_7 : (dX9_goThroughDay_n_l44 (Af 4) (Af 5) (Av 3) (Av 4) r_4 x_124 ((6 - (0 : Int32).toInt).toNat + 1) (0 : Int32) (0 : Int32) (Av 0) (Av 5) (Af 3) (Af 6) (Af 8) (Af 7)).2.2.2.2.2.2.2 = yy_4507 := congrArg (fun z => z.2.2.2.2.2.2.2) hX_148
            refine lv_aload_n hx hb dX9_goThroughDay_183 rfl (lv_at hl 5 rfl) ?_
            refine lv_iload_n hx hb dX9_goThroughDay_184 rfl (lv_at hl 4 rfl) ?_
            refine cV (a := (Aa 0)) (As := [.int r_4]) (rest := []) (wr := []) ⟨hx, hb, hml, hown, hts⟩ hK hX hA (cu_dX9_changeTempers l D tc sk (Aa 0) (Aa 1) (Aa 2) (Aa 3) (Aa 4) (Aa 5) (Aa 6) (Aa 7) (Aa 8) yy_4502 (Av 1) (Av 2) (Av 3) (Av 4) yy_4503 (Af 1) (Af 2) yy_4504 (Af 4) (Af 5) yy_4505 yy_4507 yy_4506 r_4) k_779 k_776 k_778 k_15 k_98 pl_X9_changeTempers ⟨Nat.le_of_ble_eq_true rfl, Nat.le_of_ble_eq_true rfl⟩ rfl rfl (va_recv hK hP (ci := 9) (q0 := 0) rfl rfl) hP hD hS [0, 1, 2, 3, 4, 5, 6, 7, 8] [] rfl rfl rfl rfl rfl (by decide) rfl hl.1 rfl (Nat.le_of_ble_eq_true rfl) dX9_goThroughDay_185 ⟨Nat.le_of_ble_eq_true rfl, Nat.le_of_ble_eq_true rfl⟩ (fun v_150 u_151 H locs hv_152 hP₀ hD₀ hS₀ => ?_)
            obtain ⟨sv_153, rfl⟩ : ∃ z, z = u_151 := ⟨_, rfl⟩
            obtain ⟨rfl, pf_154⟩ := hv_152
            have pf_154 : DEq (sv_153) (dX9_changeTempers yy_4504 (Av 3) r_4) := pf_154
            refine W.eq (g2 := F0 m 188 ls []) rfl ?_
            replace hP : va_P D classes [((Aa 0), .inr (9, [.int yy_4502, .int (Av 1), .int (Av 2), .int (Av 3), .int (Av 4), .int yy_4503, .ref (Aa 1), .ref (Aa 2), .ref (Aa 3), .ref (Aa 4), .ref (Aa 5), .ref (Aa 6), .ref (Aa 7), .ref (Aa 8)])), ((Aa 1), .inl (tc 0, 10, .inl (Af 1))), ((Aa 2), .inl (tc 0, 10, .inl (Af 2))), ((Aa 3), .inl (tc 0, 6, .inl sv_153)), ((Aa 4), .inl (tc 0, 6, .inl (Af 4))), ((Aa 5), .inl (tc 0, 6, .inl (Af 5))), ((Aa 6), .inl (tc 0, 6, .inl yy_4505)), ((Aa 7), .inl (tc 0, 6, .inl yy_4507)), ((Aa 8), .inl (tc 0, 6, .inl yy_4506))] H := hP₀
            replace hD : va_D A [((Aa 0), .inr (9, [.int yy_4502, .int (Av 1), .int (Av 2), .int (Av 3), .int (Av 4), .int yy_4503, .ref (Aa 1), .ref (Aa 2), .ref (Aa 3), .ref (Aa 4), .ref (Aa 5), .ref (Aa 6), .ref (Aa 7), .ref (Aa 8)])), ((Aa 1), .inl (tc 0, 10, .inl (Af 1))), ((Aa 2), .inl (tc 0, 10, .inl (Af 2))), ((Aa 3), .inl (tc 0, 6, .inl sv_153)), ((Aa 4), .inl (tc 0, 6, .inl (Af 4))), ((Aa 5), .inl (tc 0, 6, .inl (Af 5))), ((Aa 6), .inl (tc 0, 6, .inl yy_4505)), ((Aa 7), .inl (tc 0, 6, .inl yy_4507)), ((Aa 8), .inl (tc 0, 6, .inl yy_4506))] := hD₀
            replace hS := hS₀
            clear hP₀ hD₀ hS₀
            have esv_153 : sv_153 = (dX9_changeTempers yy_4504 (Av 3) r_4) := pf_154
            refine lv_aload_n hx hb dX9_goThroughDay_188 rfl (lv_at hl 5 rfl) ?_
            refine gf_X9_24 hx hb hts hown hK hP 0 rfl rfl dX9_goThroughDay_189 ?_
            refine lv_bipush (v := 7) hx hb dX9_goThroughDay_192 (by decide) ?_
            refine lv_irem hx hb dX9_goThroughDay_194 (by decide) ?_
            refine lv_topi (fun x_155 ex_155 => ?_)
            refine lv_bipush (v := 6) hx hb dX9_goThroughDay_195 (by decide) ?_
            refine lv_icmp_ne (tgt := 218) hx hb dX9_goThroughDay_197 (by decide) (fun c_156 => ?_) (fun c_156 => ?_)
            · skip
              refine lv_aload_n hx hb dX9_goThroughDay_218 rfl (lv_at hl 5 rfl) ?_
              refine lv_dup hx hb dX9_goThroughDay_219 rfl ?_
              refine gf_X9_24 hx hb hts hown hK hP 0 rfl rfl dX9_goThroughDay_220 ?_
              refine lv_iconst (v := 1) hx hb dX9_goThroughDay_223 (by decide) ?_
              refine lv_iadd hx hb dX9_goThroughDay_224 ?_
              refine lv_topi (fun x_157 ex_157 => ?_)
              refine pf_X9_24 hx hb hts hown hK hP hD hS 0 rfl (Nat.le_of_ble_eq_true rfl) rfl rfl dX9_goThroughDay_225 (fun H locs hP₀ hD₀ hS₀ => ?_)
              replace hP : va_P D classes [((Aa 0), .inr (9, [.int yy_4502, .int (Av 1), .int (Av 2), .int (Av 3), .int x_157, .int yy_4503, .ref (Aa 1), .ref (Aa 2), .ref (Aa 3), .ref (Aa 4), .ref (Aa 5), .ref (Aa 6), .ref (Aa 7), .ref (Aa 8)])), ((Aa 1), .inl (tc 0, 10, .inl (Af 1))), ((Aa 2), .inl (tc 0, 10, .inl (Af 2))), ((Aa 3), .inl (tc 0, 6, .inl sv_153)), ((Aa 4), .inl (tc 0, 6, .inl (Af 4))), ((Aa 5), .inl (tc 0, 6, .inl (Af 5))), ((Aa 6), .inl (tc 0, 6, .inl yy_4505)), ((Aa 7), .inl (tc 0, 6, .inl yy_4507)), ((Aa 8), .inl (tc 0, 6, .inl yy_4506))] H := hP₀
              replace hD : va_D A [((Aa 0), .inr (9, [.int yy_4502, .int (Av 1), .int (Av 2), .int (Av 3), .int x_157, .int yy_4503, .ref (Aa 1), .ref (Aa 2), .ref (Aa 3), .ref (Aa 4), .ref (Aa 5), .ref (Aa 6), .ref (Aa 7), .ref (Aa 8)])), ((Aa 1), .inl (tc 0, 10, .inl (Af 1))), ((Aa 2), .inl (tc 0, 10, .inl (Af 2))), ((Aa 3), .inl (tc 0, 6, .inl sv_153)), ((Aa 4), .inl (tc 0, 6, .inl (Af 4))), ((Aa 5), .inl (tc 0, 6, .inl (Af 5))), ((Aa 6), .inl (tc 0, 6, .inl yy_4505)), ((Aa 7), .inl (tc 0, 6, .inl yy_4507)), ((Aa 8), .inl (tc 0, 6, .inl yy_4506))] := hD₀
              replace hS := hS₀
              clear hP₀ hD₀ hS₀
              refine lv_iload hx hb dX9_goThroughDay_228 (lv_at hl 1 rfl) ?_
              have hF_158 : (yy_4501, yy_4502, x_157, yy_4503, sv_153, yy_4505, yy_4507, yy_4506) = (dX9_goThroughDay_n (Af 1) (Af 2) (Af 3) (Af 4) (Af 5) (Af 6) (Af 7) (Af 8) (Av 0) (Av 1) (Av 2) (Av 3) (Av 4) (Av 5)) := by
                clear hP hD hS hl ih_126
                replace er_4 := er_4.symm; subst er_4
                replace er_11 := er_11.symm; subst er_11
                replace er_18 := er_18.symm; subst er_18
                replace ex_124 := ex_124.symm; subst ex_124
                replace esv_153 := esv_153.symm; subst esv_153
                replace ex_155 := ex_155.symm; subst ex_155
                replace ex_157 := ex_157.symm; subst ex_157
                unfold dX9_goThroughDay_n
                try rw [hX_148_0]
                try rw [hX_148_1]
                try rw [hX_148_2]
                try rw [hX_148_3]
                try rw [hX_148_4]
                try rw [hX_148_5]
                try rw [hX_148_6]
                try rw [hX_148_7]
                rw [if_neg c_22, if_neg c_156]
                try rfl
              exact retI (v := yy_4501) hx hb hr hlk (rfl) hP hD hS (yy_4502, x_157, yy_4503, sv_153, yy_4505, yy_4507, yy_4506) ⟨_, rfl, ⟨trivial, hF_158⟩⟩ [0, 1, 2, 3, 4, 5, 6, 7, 8] rfl rfl dX9_goThroughDay_230 (Nat.le_of_ble_eq_true rfl) (Nat.le_of_ble_eq_true rfl) rfl
            · skip
              refine lv_aload_n hx hb dX9_goThroughDay_200 rfl (lv_at hl 5 rfl) ?_
              refine lv_bipush (v := 99) hx hb dX9_goThroughDay_201 (by decide) ?_
              refine lv_aload_n hx hb dX9_goThroughDay_203 rfl (lv_at hl 5 rfl) ?_
              refine gf_X9_9 hx hb hts hown hK hP 0 rfl rfl dX9_goThroughDay_204 ?_
              refine lv_aload_n hx hb dX9_goThroughDay_207 rfl (lv_at hl 5 rfl) ?_
              refine gf_X9_15 hx hb hts hown hK hP 0 rfl rfl dX9_goThroughDay_208 ?_
              refine lv_iadd hx hb dX9_goThroughDay_211 ?_
              refine lv_topi (fun x_159 ex_159 => ?_)
              refine va_mmin hx hb (hml.trans hl.1.symm) hown (hts _ k_780) (hts _ k_680) (hts _ k_114) (hts _ k_681) (Nat.le_of_ble_eq_true rfl) (Nat.le_of_ble_eq_true rfl) (Nat.le_of_ble_eq_true rfl) (Nat.le_of_ble_eq_true rfl) dX9_goThroughDay_212 ?_
              refine lv_topi (fun x_160 ex_160 => ?_)
              have mx_160 := imin_f ex_160
              rw [show (99 : Int32).toInt = 99 by decide] at mx_160
              refine pf_X9_9 hx hb hts hown hK hP hD hS 0 rfl (Nat.le_of_ble_eq_true rfl) rfl rfl dX9_goThroughDay_215 (fun H locs hP₀ hD₀ hS₀ => ?_)
              replace hP : va_P D classes [((Aa 0), .inr (9, [.int x_160, .int (Av 1), .int (Av 2), .int (Av 3), .int (Av 4), .int yy_4503, .ref (Aa 1), .ref (Aa 2), .ref (Aa 3), .ref (Aa 4), .ref (Aa 5), .ref (Aa 6), .ref (Aa 7), .ref (Aa 8)])), ((Aa 1), .inl (tc 0, 10, .inl (Af 1))), ((Aa 2), .inl (tc 0, 10, .inl (Af 2))), ((Aa 3), .inl (tc 0, 6, .inl sv_153)), ((Aa 4), .inl (tc 0, 6, .inl (Af 4))), ((Aa 5), .inl (tc 0, 6, .inl (Af 5))), ((Aa 6), .inl (tc 0, 6, .inl yy_4505)), ((Aa 7), .inl (tc 0, 6, .inl yy_4507)), ((Aa 8), .inl (tc 0, 6, .inl yy_4506))] H := hP₀
              replace hD : va_D A [((Aa 0), .inr (9, [.int x_160, .int (Av 1), .int (Av 2), .int (Av 3), .int (Av 4), .int yy_4503, .ref (Aa 1), .ref (Aa 2), .ref (Aa 3), .ref (Aa 4), .ref (Aa 5), .ref (Aa 6), .ref (Aa 7), .ref (Aa 8)])), ((Aa 1), .inl (tc 0, 10, .inl (Af 1))), ((Aa 2), .inl (tc 0, 10, .inl (Af 2))), ((Aa 3), .inl (tc 0, 6, .inl sv_153)), ((Aa 4), .inl (tc 0, 6, .inl (Af 4))), ((Aa 5), .inl (tc 0, 6, .inl (Af 5))), ((Aa 6), .inl (tc 0, 6, .inl yy_4505)), ((Aa 7), .inl (tc 0, 6, .inl yy_4507)), ((Aa 8), .inl (tc 0, 6, .inl yy_4506))] := hD₀
              replace hS := hS₀
              clear hP₀ hD₀ hS₀
              refine lv_aload_n hx hb dX9_goThroughDay_218 rfl (lv_at hl 5 rfl) ?_
              refine lv_dup hx hb dX9_goThroughDay_219 rfl ?_
              refine gf_X9_24 hx hb hts hown hK hP 0 rfl rfl dX9_goThroughDay_220 ?_
              refine lv_iconst (v := 1) hx hb dX9_goThroughDay_223 (by decide) ?_
              refine lv_iadd hx hb dX9_goThroughDay_224 ?_
              refine lv_topi (fun x_161 ex_161 => ?_)
              refine pf_X9_24 hx hb hts hown hK hP hD hS 0 rfl (Nat.le_of_ble_eq_true rfl) rfl rfl dX9_goThroughDay_225 (fun H locs hP₀ hD₀ hS₀ => ?_)
              replace hP : va_P D classes [((Aa 0), .inr (9, [.int x_160, .int (Av 1), .int (Av 2), .int (Av 3), .int x_161, .int yy_4503, .ref (Aa 1), .ref (Aa 2), .ref (Aa 3), .ref (Aa 4), .ref (Aa 5), .ref (Aa 6), .ref (Aa 7), .ref (Aa 8)])), ((Aa 1), .inl (tc 0, 10, .inl (Af 1))), ((Aa 2), .inl (tc 0, 10, .inl (Af 2))), ((Aa 3), .inl (tc 0, 6, .inl sv_153)), ((Aa 4), .inl (tc 0, 6, .inl (Af 4))), ((Aa 5), .inl (tc 0, 6, .inl (Af 5))), ((Aa 6), .inl (tc 0, 6, .inl yy_4505)), ((Aa 7), .inl (tc 0, 6, .inl yy_4507)), ((Aa 8), .inl (tc 0, 6, .inl yy_4506))] H := hP₀
              replace hD : va_D A [((Aa 0), .inr (9, [.int x_160, .int (Av 1), .int (Av 2), .int (Av 3), .int x_161, .int yy_4503, .ref (Aa 1), .ref (Aa 2), .ref (Aa 3), .ref (Aa 4), .ref (Aa 5), .ref (Aa 6), .ref (Aa 7), .ref (Aa 8)])), ((Aa 1), .inl (tc 0, 10, .inl (Af 1))), ((Aa 2), .inl (tc 0, 10, .inl (Af 2))), ((Aa 3), .inl (tc 0, 6, .inl sv_153)), ((Aa 4), .inl (tc 0, 6, .inl (Af 4))), ((Aa 5), .inl (tc 0, 6, .inl (Af 5))), ((Aa 6), .inl (tc 0, 6, .inl yy_4505)), ((Aa 7), .inl (tc 0, 6, .inl yy_4507)), ((Aa 8), .inl (tc 0, 6, .inl yy_4506))] := hD₀
              replace hS := hS₀
              clear hP₀ hD₀ hS₀
              refine lv_iload hx hb dX9_goThroughDay_228 (lv_at hl 1 rfl) ?_
              have hF_162 : (yy_4501, x_160, x_161, yy_4503, sv_153, yy_4505, yy_4507, yy_4506) = (dX9_goThroughDay_n (Af 1) (Af 2) (Af 3) (Af 4) (Af 5) (Af 6) (Af 7) (Af 8) (Av 0) (Av 1) (Av 2) (Av 3) (Av 4) (Av 5)) := by
                clear hP hD hS hl ih_126
                replace er_4 := er_4.symm; subst er_4
                replace er_11 := er_11.symm; subst er_11
                replace er_18 := er_18.symm; subst er_18
                replace ex_124 := ex_124.symm; subst ex_124
                replace esv_153 := esv_153.symm; subst esv_153
                replace ex_155 := ex_155.symm; subst ex_155
                replace ex_159 := ex_159.symm; subst ex_159
                replace ex_160 := ex_160.symm; subst ex_160
                replace ex_161 := ex_161.symm; subst ex_161
                unfold dX9_goThroughDay_n
                try rw [hX_148_0]
                try rw [hX_148_1]
                try rw [hX_148_2]
                try rw [hX_148_3]
                try rw [hX_148_4]
                try rw [hX_148_5]
                try rw [hX_148_6]
                try rw [hX_148_7]
                rw [if_neg c_22, if_pos c_156]
                try rfl
              exact retI (v := yy_4501) hx hb hr hlk (rfl) hP hD hS (x_160, x_161, yy_4503, sv_153, yy_4505, yy_4507, yy_4506) ⟨_, rfl, ⟨trivial, hF_162⟩⟩ [0, 1, 2, 3, 4, 5, 6, 7, 8] rfl rfl dX9_goThroughDay_230 (Nat.le_of_ble_eq_true rfl) (Nat.le_of_ble_eq_true rfl) rfl
          · skip
            refine lv_aload_n hx hb dX9_goThroughDay_60 rfl (lv_at hl 5 rfl) ?_
            refine lv_iload hx hb dX9_goThroughDay_61 (lv_at hl 0 rfl) ?_
            refine cV (a := (Aa 0)) (As := [.int yy_4500]) (rest := []) (wr := []) ⟨hx, hb, hml, hown, hts⟩ hK hX hA (cu_dX9_canBuy l D tc sk (Aa 0) (Aa 1) (Aa 2) (Aa 3) (Aa 4) (Aa 5) (Aa 6) (Aa 7) (Aa 8) yy_4502 (Av 1) (Av 2) (Av 3) (Av 4) yy_4503 (Af 1) (Af 2) yy_4504 (Af 4) (Af 5) yy_4505 yy_4507 yy_4506 yy_4500) k_752 k_749 k_751 k_14 k_98 pl_X9_canBuy ⟨Nat.le_of_ble_eq_true rfl, Nat.le_of_ble_eq_true rfl⟩ rfl rfl (va_recv hK hP (ci := 9) (q0 := 0) rfl rfl) hP hD hS [0, 1, 2, 3, 4, 5, 6, 7, 8] [] rfl rfl rfl rfl rfl (by decide) rfl hl.1 rfl (Nat.le_of_ble_eq_true rfl) dX9_goThroughDay_63 ⟨Nat.le_of_ble_eq_true rfl, Nat.le_of_ble_eq_true rfl⟩ (fun v_163 u_164 H locs hv_165 hP₀ hD₀ hS₀ => ?_)
            obtain ⟨r_166, rfl, he_167⟩ := hv_165
            have he_167 : ((r_166.toInt = 0 ∨ r_166.toInt = 1)) ∧ r_166 = (dX9_canBuy (Af 4) (Af 5) yy_4506 yy_4502 (Av 3) (Av 4) yy_4500) := he_167
            refine W.eq (g2 := F0 m 66 ls [.int r_166]) rfl ?_
            replace hP : va_P D classes [((Aa 0), .inr (9, [.int yy_4502, .int (Av 1), .int (Av 2), .int (Av 3), .int (Av 4), .int yy_4503, .ref (Aa 1), .ref (Aa 2), .ref (Aa 3), .ref (Aa 4), .ref (Aa 5), .ref (Aa 6), .ref (Aa 7), .ref (Aa 8)])), ((Aa 1), .inl (tc 0, 10, .inl (Af 1))), ((Aa 2), .inl (tc 0, 10, .inl (Af 2))), ((Aa 3), .inl (tc 0, 6, .inl yy_4504)), ((Aa 4), .inl (tc 0, 6, .inl (Af 4))), ((Aa 5), .inl (tc 0, 6, .inl (Af 5))), ((Aa 6), .inl (tc 0, 6, .inl yy_4505)), ((Aa 7), .inl (tc 0, 6, .inl yy_4507)), ((Aa 8), .inl (tc 0, 6, .inl yy_4506))] H := hP₀
            replace hD : va_D A [((Aa 0), .inr (9, [.int yy_4502, .int (Av 1), .int (Av 2), .int (Av 3), .int (Av 4), .int yy_4503, .ref (Aa 1), .ref (Aa 2), .ref (Aa 3), .ref (Aa 4), .ref (Aa 5), .ref (Aa 6), .ref (Aa 7), .ref (Aa 8)])), ((Aa 1), .inl (tc 0, 10, .inl (Af 1))), ((Aa 2), .inl (tc 0, 10, .inl (Af 2))), ((Aa 3), .inl (tc 0, 6, .inl yy_4504)), ((Aa 4), .inl (tc 0, 6, .inl (Af 4))), ((Aa 5), .inl (tc 0, 6, .inl (Af 5))), ((Aa 6), .inl (tc 0, 6, .inl yy_4505)), ((Aa 7), .inl (tc 0, 6, .inl yy_4507)), ((Aa 8), .inl (tc 0, 6, .inl yy_4506))] := hD₀
            replace hS := hS₀
            clear hP₀ hD₀ hS₀
            obtain ⟨he_167, hq_169⟩ := he_167
            have er_166 : r_166 = (dX9_canBuy (Af 4) (Af 5) yy_4506 yy_4502 (Av 3) (Av 4) yy_4500) := hq_169
            refine lv_if_ne (tgt := 72) hx hb dX9_goThroughDay_66 (by decide) (fun c_170 => ?_) (fun c_170 => ?_)
            · skip
              refine lv_aload_nN hx hb dX9_goThroughDay_72 rfl (lv_at hl 6 rfl) ?_
              refine lv_ifnonnullN hx hb dX9_goThroughDay_73 ?_
              refine lv_aload_n hx hb dX9_goThroughDay_76 rfl (lv_at hl 5 rfl) ?_
              refine gf_X9_37 hx hb hts hown hK hP 0 rfl rfl dX9_goThroughDay_77 ?_
              refine lv_iload hx hb dX9_goThroughDay_80 (lv_at hl 0 rfl) ?_
              have hi_171 : vp_in yy_4500 6 := by
                have z_1 : ¬ (r_18 : Int32).toInt = (0 : Int32).toInt := fun z => c_22 (Int32.toInt_inj.mp z)
                have z_2 := Int32.lt_iff_toInt_lt.mp (Int32.not_le.mp c_131)
                have z_3 := Int32.lt_iff_toInt_lt.mp (Int32.not_le.mp c_147)
                have z_4 : ¬ (r_166 : Int32).toInt = (0 : Int32).toInt := fun z => c_170 (Int32.toInt_inj.mp z)
                have y_0 : (0 : Int32).toInt = 0 := by decide
                have y_6 : (6 : Int32).toInt = 6 := by decide
                refine vp_in_iff.mpr ⟨?_, ?_⟩ <;> omega
              refine va_iald hx hb hK hP 3 0 rfl rfl hi_171 dX9_goThroughDay_82 ?_
              refine lv_topi (fun x_172 ex_172 => ?_)
              refine lv_iload_n hx hb dX9_goThroughDay_83 rfl (lv_at hl 4 rfl) ?_
              refine lv_iadd hx hb dX9_goThroughDay_84 ?_
              refine lv_topi (fun x_173 ex_173 => ?_)
              refine lv_bipush (v := 12) hx hb dX9_goThroughDay_85 (by decide) ?_
              refine lv_icmp_lt (tgt := 94) hx hb dX9_goThroughDay_87 (by decide) (fun c_174 => ?_) (fun c_174 => ?_)
              · skip
                refine lv_iconst (v := 0) hx hb dX9_goThroughDay_94 (by decide) ?_
                refine lv_goto (tgt := 115) hx hb dX9_goThroughDay_95 (by decide) ?_
                refine lv_istore (lv' := [(7, .int 0), (6, .int yy_4500), (5, .int yy_4501), (4, .int x_124), (3, .int r_11), (2, .int r_4), (0, .ref (Aa 0)), (1, .null)]) hx hb dX9_goThroughDay_115 hl (by decide) rfl (fun ls hl₀ => ?_)
                replace hl := hl₀
                clear hl₀
                refine lv_iload hx hb dX9_goThroughDay_117 (lv_at hl 0 rfl) ?_
                refine lv_if_eq (tgt := 157) hx hb dX9_goThroughDay_119 (by decide) (fun c_175 => ?_) (fun c_175 => absurd c_175 (by decide))
                refine lv_iload hx hb dX9_goThroughDay_157 (lv_at hl 0 rfl) ?_
                refine lv_if_eq (tgt := 177) hx hb dX9_goThroughDay_159 (by decide) (fun c_176 => ?_) (fun c_176 => absurd c_176 (by decide))
                obtain ⟨x_177, ex_177⟩ : ∃ y : Int32, y = yy_4500 + 1 := ⟨_, rfl⟩
                refine lv_iinc (v := x_177) (lv' := [(6, .int x_177), (7, .int 0), (5, .int yy_4501), (4, .int x_124), (3, .int r_11), (2, .int r_4), (0, .ref (Aa 0)), (1, .null)]) hx hb dX9_goThroughDay_177 hl (k := 1) rfl (by rw [ex_177]; rfl) (by decide) rfl (fun ls hl₀ => ?_)
                replace hl := hl₀
                clear hl₀
                refine lv_goto (tgt := 44) hx hb dX9_goThroughDay_180 (by decide) ?_
                have hb_178 : 6 - (x_177 : Int32).toInt < 6 - (yy_4500 : Int32).toInt ∧ 1 ≤ 6 - (yy_4500 : Int32).toInt := by
                  have z_1 : ¬ (r_18 : Int32).toInt = (0 : Int32).toInt := fun z => c_22 (Int32.toInt_inj.mp z)
                  have z_2 := Int32.lt_iff_toInt_lt.mp (Int32.not_le.mp c_131)
                  have z_3 := Int32.lt_iff_toInt_lt.mp (Int32.not_le.mp c_147)
                  have z_4 : ¬ (r_166 : Int32).toInt = (0 : Int32).toInt := fun z => c_170 (Int32.toInt_inj.mp z)
                  have z_5 := Int32.lt_iff_toInt_lt.mp c_174
                  have y_0 : (0 : Int32).toInt = 0 := by decide
                  have y_6 : (6 : Int32).toInt = 6 := by decide
                  have y_12 : (12 : Int32).toInt = 12 := by decide
                  have y_1 : (1 : Int32).toInt = 1 := by decide
                  have t_x_177 : x_177.toInt = (yy_4500 : Int32).toInt + (1 : Int32).toInt := by rw [ex_177]; exact add_toInt (by omega) (by omega)
                  omega
                have hm_179 : (6 - (yy_4500 : Int32).toInt).toNat = (6 - (x_177 : Int32).toInt).toNat + 1 := by
                  have z_1 : ¬ (r_18 : Int32).toInt = (0 : Int32).toInt := fun z => c_22 (Int32.toInt_inj.mp z)
                  have z_2 := Int32.lt_iff_toInt_lt.mp (Int32.not_le.mp c_131)
                  have z_3 := Int32.lt_iff_toInt_lt.mp (Int32.not_le.mp c_147)
                  have z_4 : ¬ (r_166 : Int32).toInt = (0 : Int32).toInt := fun z => c_170 (Int32.toInt_inj.mp z)
                  have z_5 := Int32.lt_iff_toInt_lt.mp c_174
                  have y_0 : (0 : Int32).toInt = 0 := by decide
                  have y_6 : (6 : Int32).toInt = 6 := by decide
                  have y_12 : (12 : Int32).toInt = 12 := by decide
                  have y_1 : (1 : Int32).toInt = 1 := by decide
                  have t_x_177 : x_177.toInt = (yy_4500 : Int32).toInt + (1 : Int32).toInt := by rw [ex_177]; exact add_toInt (by omega) (by omega)
                  omega
                have hb_180 : dX9_goThroughDay_n_l44 (Af 4) (Af 5) (Av 3) (Av 4) r_4 x_124 ((6 - (yy_4500 : Int32).toInt).toNat + 1) yy_4500 yy_4501 yy_4502 yy_4503 yy_4504 yy_4505 yy_4506 yy_4507 = dX9_goThroughDay_n_l44 (Af 4) (Af 5) (Av 3) (Av 4) r_4 x_124 ((6 - (yy_4500 : Int32).toInt).toNat) x_177 yy_4501 yy_4502 yy_4503 yy_4504 yy_4505 yy_4506 yy_4507 := by
                  clear hP hD hS hl ih_126
                  replace er_4 := er_4.symm; subst er_4
                  replace er_11 := er_11.symm; subst er_11
                  replace er_18 := er_18.symm; subst er_18
                  replace ex_124 := ex_124.symm; subst ex_124
                  replace er_166 := er_166.symm; subst er_166
                  replace ex_172 := ex_172.symm; subst ex_172
                  replace ex_173 := ex_173.symm; subst ex_173
                  replace ex_177 := ex_177.symm; subst ex_177
                  rw [dX9_goThroughDay_n_l44_s]
                  rw [if_neg c_131, if_neg c_147, if_neg c_170, if_pos c_174]
                  try rfl
                have hL_181 : (dX9_goThroughDay_n_l44 (Af 4) (Af 5) (Av 3) (Av 4) r_4 x_124 ((6 - (0 : Int32).toInt).toNat + 1) (0 : Int32) (0 : Int32) (Av 0) (Av 5) (Af 3) (Af 6) (Af 8) (Af 7)) = dX9_goThroughDay_n_l44 (Af 4) (Af 5) (Av 3) (Av 4) r_4 x_124 ((6 - (x_177 : Int32).toInt).toNat + 1) x_177 yy_4501 yy_4502 yy_4503 yy_4504 yy_4505 yy_4506 yy_4507 := by
                  rw [hL_129, hb_180, hm_179]
                have ha_182 : 0 ≤ (x_177 : Int32).toInt := by
                  have z_1 : ¬ (r_18 : Int32).toInt = (0 : Int32).toInt := fun z => c_22 (Int32.toInt_inj.mp z)
                  have z_2 := Int32.lt_iff_toInt_lt.mp (Int32.not_le.mp c_131)
                  have z_3 := Int32.lt_iff_toInt_lt.mp (Int32.not_le.mp c_147)
                  have z_4 : ¬ (r_166 : Int32).toInt = (0 : Int32).toInt := fun z => c_170 (Int32.toInt_inj.mp z)
                  have z_5 := Int32.lt_iff_toInt_lt.mp c_174
                  have y_0 : (0 : Int32).toInt = 0 := by decide
                  have y_6 : (6 : Int32).toInt = 6 := by decide
                  have y_12 : (12 : Int32).toInt = 12 := by decide
                  have y_1 : (1 : Int32).toInt = 1 := by decide
                  have t_x_177 : x_177.toInt = (yy_4500 : Int32).toInt + (1 : Int32).toInt := by rw [ex_177]; exact add_toInt (by omega) (by omega)
                  omega
                exact ih_126 x_177 yy_4501 yy_4502 yy_4503 yy_4504 yy_4505 yy_4506 yy_4507 _ _ _ (by omega) hL_181 ha_182 (hP.sub [0, 1, 2, 3, 4, 5, 6, 7, 8] rfl) (hD.sub [0, 1, 2, 3, 4, 5, 6, 7, 8] rfl rfl) hS (lv_sub hl [0, 2, 3, 4, 5, 6, 7] rfl)
              · skip
                refine lv_iconst (v := 1) hx hb dX9_goThroughDay_90 (by decide) ?_
                refine lv_goto (tgt := 115) hx hb dX9_goThroughDay_91 (by decide) ?_
                refine lv_istore (lv' := [(7, .int 1), (6, .int yy_4500), (5, .int yy_4501), (4, .int x_124), (3, .int r_11), (2, .int r_4), (0, .ref (Aa 0)), (1, .null)]) hx hb dX9_goThroughDay_115 hl (by decide) rfl (fun ls hl₀ => ?_)
                replace hl := hl₀
                clear hl₀
                refine lv_iload hx hb dX9_goThroughDay_117 (lv_at hl 0 rfl) ?_
                refine lv_if_eq (tgt := 157) hx hb dX9_goThroughDay_119 (by decide) (fun c_183 => absurd c_183 (by decide)) (fun c_183 => ?_)
                refine lv_iload hx hb dX9_goThroughDay_122 (lv_at hl 3 rfl) ?_
                refine lv_iload hx hb dX9_goThroughDay_124 (lv_at hl 1 rfl) ?_
                refine lv_ishr hx hb dX9_goThroughDay_126 ?_
                refine lv_topi (fun x_184 ex_184 => ?_)
                refine lv_iconst (v := 1) hx hb dX9_goThroughDay_127 (by decide) ?_
                refine lv_iand hx hb dX9_goThroughDay_128 ?_
                refine lv_topi (fun x_185 ex_185 => ?_)
                refine lv_if_eq (tgt := 157) hx hb dX9_goThroughDay_129 (by decide) (fun c_186 => ?_) (fun c_186 => ?_)
                · skip
                  refine lv_iload hx hb dX9_goThroughDay_157 (lv_at hl 0 rfl) ?_
                  refine lv_if_eq (tgt := 177) hx hb dX9_goThroughDay_159 (by decide) (fun c_187 => absurd c_187 (by decide)) (fun c_187 => ?_)
                  refine lv_aload_n hx hb dX9_goThroughDay_162 rfl (lv_at hl 6 rfl) ?_
                  refine lv_iload hx hb dX9_goThroughDay_163 (lv_at hl 1 rfl) ?_
                  refine cV (a := (Aa 0)) (As := [.int yy_4500]) (rest := []) (wr := []) ⟨hx, hb, hml, hown, hts⟩ hK hX hA (cu_dX9_handOver l D tc sk (Aa 0) (Aa 1) (Aa 2) (Aa 3) (Aa 4) (Aa 5) (Aa 6) (Aa 7) (Aa 8) yy_4502 (Av 1) (Av 2) (Av 3) (Av 4) yy_4503 (Af 1) (Af 2) yy_4504 (Af 4) (Af 5) yy_4505 yy_4507 yy_4506 yy_4500) k_772 k_769 k_770 k_771 k_98 pl_X9_handOver ⟨Nat.le_of_ble_eq_true rfl, Nat.le_of_ble_eq_true rfl⟩ rfl rfl (va_recv hK hP (ci := 9) (q0 := 0) rfl rfl) hP hD hS [0, 1, 2, 3, 4, 5, 6, 7, 8] [] rfl rfl rfl rfl rfl (by decide) rfl hl.1 rfl (Nat.le_of_ble_eq_true rfl) dX9_goThroughDay_165 ⟨Nat.le_of_ble_eq_true rfl, Nat.le_of_ble_eq_true rfl⟩ (fun v_188 u_189 H locs hv_190 hP₀ hD₀ hS₀ => ?_)
                  obtain ⟨sv_191, sv_192, sv_193, sv_194, sv_195⟩ := u_189
                  obtain ⟨rfl, pf_196⟩ := hv_190
                  have pf_196 : DEq ((sv_191, sv_192, sv_193, sv_194, sv_195)) (dX9_handOver yy_4504 (Af 4) yy_4505 yy_4506 yy_4502 (Av 3) (Av 4) yy_4503 yy_4500) := pf_196
                  refine W.eq (g2 := F0 m 168 ls []) rfl ?_
                  replace hP : va_P D classes [((Aa 0), .inr (9, [.int sv_191, .int (Av 1), .int (Av 2), .int (Av 3), .int (Av 4), .int sv_192, .ref (Aa 1), .ref (Aa 2), .ref (Aa 3), .ref (Aa 4), .ref (Aa 5), .ref (Aa 6), .ref (Aa 7), .ref (Aa 8)])), ((Aa 1), .inl (tc 0, 10, .inl (Af 1))), ((Aa 2), .inl (tc 0, 10, .inl (Af 2))), ((Aa 3), .inl (tc 0, 6, .inl sv_193)), ((Aa 4), .inl (tc 0, 6, .inl (Af 4))), ((Aa 5), .inl (tc 0, 6, .inl (Af 5))), ((Aa 6), .inl (tc 0, 6, .inl sv_194)), ((Aa 7), .inl (tc 0, 6, .inl yy_4507)), ((Aa 8), .inl (tc 0, 6, .inl sv_195))] H := hP₀
                  replace hD : va_D A [((Aa 0), .inr (9, [.int sv_191, .int (Av 1), .int (Av 2), .int (Av 3), .int (Av 4), .int sv_192, .ref (Aa 1), .ref (Aa 2), .ref (Aa 3), .ref (Aa 4), .ref (Aa 5), .ref (Aa 6), .ref (Aa 7), .ref (Aa 8)])), ((Aa 1), .inl (tc 0, 10, .inl (Af 1))), ((Aa 2), .inl (tc 0, 10, .inl (Af 2))), ((Aa 3), .inl (tc 0, 6, .inl sv_193)), ((Aa 4), .inl (tc 0, 6, .inl (Af 4))), ((Aa 5), .inl (tc 0, 6, .inl (Af 5))), ((Aa 6), .inl (tc 0, 6, .inl sv_194)), ((Aa 7), .inl (tc 0, 6, .inl yy_4507)), ((Aa 8), .inl (tc 0, 6, .inl sv_195))] := hD₀
                  replace hS := hS₀
                  clear hP₀ hD₀ hS₀
                  have esv_191 : sv_191 = (dX9_handOver yy_4504 (Af 4) yy_4505 yy_4506 yy_4502 (Av 3) (Av 4) yy_4503 yy_4500).1 := congrArg (fun z => z.1) pf_196
                  have esv_192 : sv_192 = (dX9_handOver yy_4504 (Af 4) yy_4505 yy_4506 yy_4502 (Av 3) (Av 4) yy_4503 yy_4500).2.1 := congrArg (fun z => z.2.1) pf_196
                  have esv_193 : sv_193 = (dX9_handOver yy_4504 (Af 4) yy_4505 yy_4506 yy_4502 (Av 3) (Av 4) yy_4503 yy_4500).2.2.1 := congrArg (fun z => z.2.2.1) pf_196
                  have esv_194 : sv_194 = (dX9_handOver yy_4504 (Af 4) yy_4505 yy_4506 yy_4502 (Av 3) (Av 4) yy_4503 yy_4500).2.2.2.1 := congrArg (fun z => z.2.2.2.1) pf_196
                  have esv_195 : sv_195 = (dX9_handOver yy_4504 (Af 4) yy_4505 yy_4506 yy_4502 (Av 3) (Av 4) yy_4503 yy_4500).2.2.2.2 := congrArg (fun z => z.2.2.2.2) pf_196
                  refine lv_iload hx hb dX9_goThroughDay_168 (lv_at hl 2 rfl) ?_
                  refine lv_iconst (v := 1) hx hb dX9_goThroughDay_170 (by decide) ?_
                  refine lv_iload hx hb dX9_goThroughDay_171 (lv_at hl 1 rfl) ?_
                  refine lv_ishl hx hb dX9_goThroughDay_173 ?_
                  refine lv_topi (fun x_197 ex_197 => ?_)
                  refine lv_ior hx hb dX9_goThroughDay_174 ?_
                  refine lv_topi (fun x_198 ex_198 => ?_)
                  refine lv_istore (lv' := [(5, .int x_198), (7, .int 1), (6, .int yy_4500), (4, .int x_124), (3, .int r_11), (2, .int r_4), (0, .ref (Aa 0)), (1, .null)]) hx hb dX9_goThroughDay_175 hl (by decide) rfl (fun ls hl₀ => ?_)
                  replace hl := hl₀
                  clear hl₀
                  obtain ⟨x_199, ex_199⟩ : ∃ y : Int32, y = yy_4500 + 1 := ⟨_, rfl⟩
                  refine lv_iinc (v := x_199) (lv' := [(6, .int x_199), (5, .int x_198), (7, .int 1), (4, .int x_124), (3, .int r_11), (2, .int r_4), (0, .ref (Aa 0)), (1, .null)]) hx hb dX9_goThroughDay_177 hl (k := 2) rfl (by rw [ex_199]; rfl) (by decide) rfl (fun ls hl₀ => ?_)
                  replace hl := hl₀
                  clear hl₀
                  refine lv_goto (tgt := 44) hx hb dX9_goThroughDay_180 (by decide) ?_
                  have hb_200 : 6 - (x_199 : Int32).toInt < 6 - (yy_4500 : Int32).toInt ∧ 1 ≤ 6 - (yy_4500 : Int32).toInt := by
                    have z_1 : ¬ (r_18 : Int32).toInt = (0 : Int32).toInt := fun z => c_22 (Int32.toInt_inj.mp z)
                    have z_2 := Int32.lt_iff_toInt_lt.mp (Int32.not_le.mp c_131)
                    have z_3 := Int32.lt_iff_toInt_lt.mp (Int32.not_le.mp c_147)
                    have z_4 : ¬ (r_166 : Int32).toInt = (0 : Int32).toInt := fun z => c_170 (Int32.toInt_inj.mp z)
                    have z_5 := Int32.le_iff_toInt_le.mp (Int32.not_lt.mp c_174)
                    have z_6 := congrArg Int32.toInt c_186
                    have y_0 : (0 : Int32).toInt = 0 := by decide
                    have y_6 : (6 : Int32).toInt = 6 := by decide
                    have y_12 : (12 : Int32).toInt = 12 := by decide
                    have y_1 : (1 : Int32).toInt = 1 := by decide
                    have t_x_199 : x_199.toInt = (yy_4500 : Int32).toInt + (1 : Int32).toInt := by rw [ex_199]; exact add_toInt (by omega) (by omega)
                    omega
                  have hm_201 : (6 - (yy_4500 : Int32).toInt).toNat = (6 - (x_199 : Int32).toInt).toNat + 1 := by
                    have z_1 : ¬ (r_18 : Int32).toInt = (0 : Int32).toInt := fun z => c_22 (Int32.toInt_inj.mp z)
                    have z_2 := Int32.lt_iff_toInt_lt.mp (Int32.not_le.mp c_131)
                    have z_3 := Int32.lt_iff_toInt_lt.mp (Int32.not_le.mp c_147)
                    have z_4 : ¬ (r_166 : Int32).toInt = (0 : Int32).toInt := fun z => c_170 (Int32.toInt_inj.mp z)
                    have z_5 := Int32.le_iff_toInt_le.mp (Int32.not_lt.mp c_174)
                    have z_6 := congrArg Int32.toInt c_186
                    have y_0 : (0 : Int32).toInt = 0 := by decide
                    have y_6 : (6 : Int32).toInt = 6 := by decide
                    have y_12 : (12 : Int32).toInt = 12 := by decide
                    have y_1 : (1 : Int32).toInt = 1 := by decide
                    have t_x_199 : x_199.toInt = (yy_4500 : Int32).toInt + (1 : Int32).toInt := by rw [ex_199]; exact add_toInt (by omega) (by omega)
                    omega
                  have hb_202 : dX9_goThroughDay_n_l44 (Af 4) (Af 5) (Av 3) (Av 4) r_4 x_124 ((6 - (yy_4500 : Int32).toInt).toNat + 1) yy_4500 yy_4501 yy_4502 yy_4503 yy_4504 yy_4505 yy_4506 yy_4507 = dX9_goThroughDay_n_l44 (Af 4) (Af 5) (Av 3) (Av 4) r_4 x_124 ((6 - (yy_4500 : Int32).toInt).toNat) x_199 x_198 sv_191 sv_192 sv_193 sv_194 sv_195 yy_4507 := by
                    clear hP hD hS hl ih_126
                    replace er_4 := er_4.symm; subst er_4
                    replace er_11 := er_11.symm; subst er_11
                    replace er_18 := er_18.symm; subst er_18
                    replace ex_124 := ex_124.symm; subst ex_124
                    replace er_166 := er_166.symm; subst er_166
                    replace ex_172 := ex_172.symm; subst ex_172
                    replace ex_173 := ex_173.symm; subst ex_173
                    replace ex_184 := ex_184.symm; subst ex_184
                    replace ex_185 := ex_185.symm; subst ex_185
                    replace esv_191 := esv_191.symm; subst esv_191
                    replace esv_192 := esv_192.symm; subst esv_192
                    replace esv_193 := esv_193.symm; subst esv_193
                    replace esv_194 := esv_194.symm; subst esv_194
                    replace esv_195 := esv_195.symm; subst esv_195
                    replace ex_197 := ex_197.symm; subst ex_197
                    replace ex_198 := ex_198.symm; subst ex_198
                    replace ex_199 := ex_199.symm; subst ex_199
                    rw [dX9_goThroughDay_n_l44_s]
                    rw [if_neg c_131, if_neg c_147, if_neg c_170, if_neg c_174, if_pos c_186]
                    try rfl
                  have hL_203 : (dX9_goThroughDay_n_l44 (Af 4) (Af 5) (Av 3) (Av 4) r_4 x_124 ((6 - (0 : Int32).toInt).toNat + 1) (0 : Int32) (0 : Int32) (Av 0) (Av 5) (Af 3) (Af 6) (Af 8) (Af 7)) = dX9_goThroughDay_n_l44 (Af 4) (Af 5) (Av 3) (Av 4) r_4 x_124 ((6 - (x_199 : Int32).toInt).toNat + 1) x_199 x_198 sv_191 sv_192 sv_193 sv_194 sv_195 yy_4507 := by
                    rw [hL_129, hb_202, hm_201]
                  have ha_204 : 0 ≤ (x_199 : Int32).toInt := by
                    have z_1 : ¬ (r_18 : Int32).toInt = (0 : Int32).toInt := fun z => c_22 (Int32.toInt_inj.mp z)
                    have z_2 := Int32.lt_iff_toInt_lt.mp (Int32.not_le.mp c_131)
                    have z_3 := Int32.lt_iff_toInt_lt.mp (Int32.not_le.mp c_147)
                    have z_4 : ¬ (r_166 : Int32).toInt = (0 : Int32).toInt := fun z => c_170 (Int32.toInt_inj.mp z)
                    have z_5 := Int32.le_iff_toInt_le.mp (Int32.not_lt.mp c_174)
                    have z_6 := congrArg Int32.toInt c_186
                    have y_0 : (0 : Int32).toInt = 0 := by decide
                    have y_6 : (6 : Int32).toInt = 6 := by decide
                    have y_12 : (12 : Int32).toInt = 12 := by decide
                    have y_1 : (1 : Int32).toInt = 1 := by decide
                    have t_x_199 : x_199.toInt = (yy_4500 : Int32).toInt + (1 : Int32).toInt := by rw [ex_199]; exact add_toInt (by omega) (by omega)
                    omega
                  exact ih_126 x_199 x_198 sv_191 sv_192 sv_193 sv_194 sv_195 yy_4507 _ _ _ (by omega) hL_203 ha_204 (hP.sub [0, 1, 2, 3, 4, 5, 6, 7, 8] rfl) (hD.sub [0, 1, 2, 3, 4, 5, 6, 7, 8] rfl rfl) hS (lv_sub hl [0, 1, 3, 4, 5, 6, 7] rfl)
                · skip
                  refine lv_aload_n hx hb dX9_goThroughDay_132 rfl (lv_at hl 6 rfl) ?_
                  refine gf_X9_49 hx hb hts hown hK hP 0 rfl rfl dX9_goThroughDay_133 ?_
                  refine lv_iload hx hb dX9_goThroughDay_136 (lv_at hl 1 rfl) ?_
                  refine lv_dup2_11 hx hb dX9_goThroughDay_138 rfl rfl ?_
                  have hi_205 : vp_in yy_4500 6 := by
                    have z_1 : ¬ (r_18 : Int32).toInt = (0 : Int32).toInt := fun z => c_22 (Int32.toInt_inj.mp z)
                    have z_2 := Int32.lt_iff_toInt_lt.mp (Int32.not_le.mp c_131)
                    have z_3 := Int32.lt_iff_toInt_lt.mp (Int32.not_le.mp c_147)
                    have z_4 : ¬ (r_166 : Int32).toInt = (0 : Int32).toInt := fun z => c_170 (Int32.toInt_inj.mp z)
                    have z_5 := Int32.le_iff_toInt_le.mp (Int32.not_lt.mp c_174)
                    have z_6 : ¬ (x_185 : Int32).toInt = (0 : Int32).toInt := fun z => c_186 (Int32.toInt_inj.mp z)
                    have y_0 : (0 : Int32).toInt = 0 := by decide
                    have y_6 : (6 : Int32).toInt = 6 := by decide
                    have y_12 : (12 : Int32).toInt = 12 := by decide
                    refine vp_in_iff.mpr ⟨?_, ?_⟩ <;> omega
                  refine va_iald hx hb hK hP 7 0 rfl rfl hi_205 dX9_goThroughDay_139 ?_
                  refine lv_topi (fun x_206 ex_206 => ?_)
                  refine lv_iconst (v := 1) hx hb dX9_goThroughDay_140 (by decide) ?_
                  refine lv_iadd hx hb dX9_goThroughDay_141 ?_
                  refine lv_topi (fun x_207 ex_207 => ?_)
                  have hi_208 : vp_in yy_4500 6 := by
                    have z_1 : ¬ (r_18 : Int32).toInt = (0 : Int32).toInt := fun z => c_22 (Int32.toInt_inj.mp z)
                    have z_2 := Int32.lt_iff_toInt_lt.mp (Int32.not_le.mp c_131)
                    have z_3 := Int32.lt_iff_toInt_lt.mp (Int32.not_le.mp c_147)
                    have z_4 : ¬ (r_166 : Int32).toInt = (0 : Int32).toInt := fun z => c_170 (Int32.toInt_inj.mp z)
                    have z_5 := Int32.le_iff_toInt_le.mp (Int32.not_lt.mp c_174)
                    have z_6 : ¬ (x_185 : Int32).toInt = (0 : Int32).toInt := fun z => c_186 (Int32.toInt_inj.mp z)
                    have y_0 : (0 : Int32).toInt = 0 := by decide
                    have y_6 : (6 : Int32).toInt = 6 := by decide
                    have y_12 : (12 : Int32).toInt = 12 := by decide
                    refine vp_in_iff.mpr ⟨?_, ?_⟩ <;> omega
                  refine st_int hx hb hK hP hD hS 7 0 rfl rfl hi_208 dX9_goThroughDay_142 (fun g_209 H locs eg_209 hP₀ hD₀ hS₀ => ?_)
                  replace hP : va_P D classes [((Aa 0), .inr (9, [.int yy_4502, .int (Av 1), .int (Av 2), .int (Av 3), .int (Av 4), .int yy_4503, .ref (Aa 1), .ref (Aa 2), .ref (Aa 3), .ref (Aa 4), .ref (Aa 5), .ref (Aa 6), .ref (Aa 7), .ref (Aa 8)])), ((Aa 1), .inl (tc 0, 10, .inl (Af 1))), ((Aa 2), .inl (tc 0, 10, .inl (Af 2))), ((Aa 3), .inl (tc 0, 6, .inl yy_4504)), ((Aa 4), .inl (tc 0, 6, .inl (Af 4))), ((Aa 5), .inl (tc 0, 6, .inl (Af 5))), ((Aa 6), .inl (tc 0, 6, .inl yy_4505)), ((Aa 7), .inl (tc 0, 6, .inl g_209)), ((Aa 8), .inl (tc 0, 6, .inl yy_4506))] H := hP₀
                  replace hD : va_D A [((Aa 0), .inr (9, [.int yy_4502, .int (Av 1), .int (Av 2), .int (Av 3), .int (Av 4), .int yy_4503, .ref (Aa 1), .ref (Aa 2), .ref (Aa 3), .ref (Aa 4), .ref (Aa 5), .ref (Aa 6), .ref (Aa 7), .ref (Aa 8)])), ((Aa 1), .inl (tc 0, 10, .inl (Af 1))), ((Aa 2), .inl (tc 0, 10, .inl (Af 2))), ((Aa 3), .inl (tc 0, 6, .inl yy_4504)), ((Aa 4), .inl (tc 0, 6, .inl (Af 4))), ((Aa 5), .inl (tc 0, 6, .inl (Af 5))), ((Aa 6), .inl (tc 0, 6, .inl yy_4505)), ((Aa 7), .inl (tc 0, 6, .inl g_209)), ((Aa 8), .inl (tc 0, 6, .inl yy_4506))] := hD₀
                  replace hS := hS₀
                  clear hP₀ hD₀ hS₀
                  refine lv_aload_n hx hb dX9_goThroughDay_143 rfl (lv_at hl 6 rfl) ?_
                  refine gf_X9_52 hx hb hts hown hK hP 0 rfl rfl dX9_goThroughDay_144 ?_
                  refine lv_iload hx hb dX9_goThroughDay_147 (lv_at hl 1 rfl) ?_
                  refine lv_aload_n hx hb dX9_goThroughDay_149 rfl (lv_at hl 6 rfl) ?_
                  refine gf_X9_24 hx hb hts hown hK hP 0 rfl rfl dX9_goThroughDay_150 ?_
                  have hi_210 : vp_in yy_4500 6 := by
                    have z_1 : ¬ (r_18 : Int32).toInt = (0 : Int32).toInt := fun z => c_22 (Int32.toInt_inj.mp z)
                    have z_2 := Int32.lt_iff_toInt_lt.mp (Int32.not_le.mp c_131)
                    have z_3 := Int32.lt_iff_toInt_lt.mp (Int32.not_le.mp c_147)
                    have z_4 : ¬ (r_166 : Int32).toInt = (0 : Int32).toInt := fun z => c_170 (Int32.toInt_inj.mp z)
                    have z_5 := Int32.le_iff_toInt_le.mp (Int32.not_lt.mp c_174)
                    have z_6 : ¬ (x_185 : Int32).toInt = (0 : Int32).toInt := fun z => c_186 (Int32.toInt_inj.mp z)
                    have y_0 : (0 : Int32).toInt = 0 := by decide
                    have y_6 : (6 : Int32).toInt = 6 := by decide
                    have y_12 : (12 : Int32).toInt = 12 := by decide
                    refine vp_in_iff.mpr ⟨?_, ?_⟩ <;> omega
                  refine st_int hx hb hK hP hD hS 8 0 rfl rfl hi_210 dX9_goThroughDay_153 (fun g_211 H locs eg_211 hP₀ hD₀ hS₀ => ?_)
                  replace hP : va_P D classes [((Aa 0), .inr (9, [.int yy_4502, .int (Av 1), .int (Av 2), .int (Av 3), .int (Av 4), .int yy_4503, .ref (Aa 1), .ref (Aa 2), .ref (Aa 3), .ref (Aa 4), .ref (Aa 5), .ref (Aa 6), .ref (Aa 7), .ref (Aa 8)])), ((Aa 1), .inl (tc 0, 10, .inl (Af 1))), ((Aa 2), .inl (tc 0, 10, .inl (Af 2))), ((Aa 3), .inl (tc 0, 6, .inl yy_4504)), ((Aa 4), .inl (tc 0, 6, .inl (Af 4))), ((Aa 5), .inl (tc 0, 6, .inl (Af 5))), ((Aa 6), .inl (tc 0, 6, .inl yy_4505)), ((Aa 7), .inl (tc 0, 6, .inl g_209)), ((Aa 8), .inl (tc 0, 6, .inl g_211))] H := hP₀
                  replace hD : va_D A [((Aa 0), .inr (9, [.int yy_4502, .int (Av 1), .int (Av 2), .int (Av 3), .int (Av 4), .int yy_4503, .ref (Aa 1), .ref (Aa 2), .ref (Aa 3), .ref (Aa 4), .ref (Aa 5), .ref (Aa 6), .ref (Aa 7), .ref (Aa 8)])), ((Aa 1), .inl (tc 0, 10, .inl (Af 1))), ((Aa 2), .inl (tc 0, 10, .inl (Af 2))), ((Aa 3), .inl (tc 0, 6, .inl yy_4504)), ((Aa 4), .inl (tc 0, 6, .inl (Af 4))), ((Aa 5), .inl (tc 0, 6, .inl (Af 5))), ((Aa 6), .inl (tc 0, 6, .inl yy_4505)), ((Aa 7), .inl (tc 0, 6, .inl g_209)), ((Aa 8), .inl (tc 0, 6, .inl g_211))] := hD₀
                  replace hS := hS₀
                  clear hP₀ hD₀ hS₀
                  refine lv_goto (tgt := 177) hx hb dX9_goThroughDay_154 (by decide) ?_
                  obtain ⟨x_212, ex_212⟩ : ∃ y : Int32, y = yy_4500 + 1 := ⟨_, rfl⟩
                  refine lv_iinc (v := x_212) (lv' := [(6, .int x_212), (7, .int 1), (5, .int yy_4501), (4, .int x_124), (3, .int r_11), (2, .int r_4), (0, .ref (Aa 0)), (1, .null)]) hx hb dX9_goThroughDay_177 hl (k := 1) rfl (by rw [ex_212]; rfl) (by decide) rfl (fun ls hl₀ => ?_)
                  replace hl := hl₀
                  clear hl₀
                  refine lv_goto (tgt := 44) hx hb dX9_goThroughDay_180 (by decide) ?_
                  have hb_213 : 6 - (x_212 : Int32).toInt < 6 - (yy_4500 : Int32).toInt ∧ 1 ≤ 6 - (yy_4500 : Int32).toInt := by
                    have z_1 : ¬ (r_18 : Int32).toInt = (0 : Int32).toInt := fun z => c_22 (Int32.toInt_inj.mp z)
                    have z_2 := Int32.lt_iff_toInt_lt.mp (Int32.not_le.mp c_131)
                    have z_3 := Int32.lt_iff_toInt_lt.mp (Int32.not_le.mp c_147)
                    have z_4 : ¬ (r_166 : Int32).toInt = (0 : Int32).toInt := fun z => c_170 (Int32.toInt_inj.mp z)
                    have z_5 := Int32.le_iff_toInt_le.mp (Int32.not_lt.mp c_174)
                    have z_6 : ¬ (x_185 : Int32).toInt = (0 : Int32).toInt := fun z => c_186 (Int32.toInt_inj.mp z)
                    have y_0 : (0 : Int32).toInt = 0 := by decide
                    have y_6 : (6 : Int32).toInt = 6 := by decide
                    have y_12 : (12 : Int32).toInt = 12 := by decide
                    have y_1 : (1 : Int32).toInt = 1 := by decide
                    have t_x_212 : x_212.toInt = (yy_4500 : Int32).toInt + (1 : Int32).toInt := by rw [ex_212]; exact add_toInt (by omega) (by omega)
                    omega
                  have hm_214 : (6 - (yy_4500 : Int32).toInt).toNat = (6 - (x_212 : Int32).toInt).toNat + 1 := by
                    have z_1 : ¬ (r_18 : Int32).toInt = (0 : Int32).toInt := fun z => c_22 (Int32.toInt_inj.mp z)
                    have z_2 := Int32.lt_iff_toInt_lt.mp (Int32.not_le.mp c_131)
                    have z_3 := Int32.lt_iff_toInt_lt.mp (Int32.not_le.mp c_147)
                    have z_4 : ¬ (r_166 : Int32).toInt = (0 : Int32).toInt := fun z => c_170 (Int32.toInt_inj.mp z)
                    have z_5 := Int32.le_iff_toInt_le.mp (Int32.not_lt.mp c_174)
                    have z_6 : ¬ (x_185 : Int32).toInt = (0 : Int32).toInt := fun z => c_186 (Int32.toInt_inj.mp z)
                    have y_0 : (0 : Int32).toInt = 0 := by decide
                    have y_6 : (6 : Int32).toInt = 6 := by decide
                    have y_12 : (12 : Int32).toInt = 12 := by decide
                    have y_1 : (1 : Int32).toInt = 1 := by decide
                    have t_x_212 : x_212.toInt = (yy_4500 : Int32).toInt + (1 : Int32).toInt := by rw [ex_212]; exact add_toInt (by omega) (by omega)
                    omega
                  have hb_215 : dX9_goThroughDay_n_l44 (Af 4) (Af 5) (Av 3) (Av 4) r_4 x_124 ((6 - (yy_4500 : Int32).toInt).toNat + 1) yy_4500 yy_4501 yy_4502 yy_4503 yy_4504 yy_4505 yy_4506 yy_4507 = dX9_goThroughDay_n_l44 (Af 4) (Af 5) (Av 3) (Av 4) r_4 x_124 ((6 - (yy_4500 : Int32).toInt).toNat) x_212 yy_4501 yy_4502 yy_4503 yy_4504 yy_4505 g_211 g_209 := by
                    clear hP hD hS hl ih_126
                    replace er_4 := er_4.symm; subst er_4
                    replace er_11 := er_11.symm; subst er_11
                    replace er_18 := er_18.symm; subst er_18
                    replace ex_124 := ex_124.symm; subst ex_124
                    replace er_166 := er_166.symm; subst er_166
                    replace ex_172 := ex_172.symm; subst ex_172
                    replace ex_173 := ex_173.symm; subst ex_173
                    replace ex_184 := ex_184.symm; subst ex_184
                    replace ex_185 := ex_185.symm; subst ex_185
                    replace ex_206 := ex_206.symm; subst ex_206
                    replace ex_207 := ex_207.symm; subst ex_207
                    replace eg_209 := eg_209.symm; subst eg_209
                    replace eg_211 := eg_211.symm; subst eg_211
                    replace ex_212 := ex_212.symm; subst ex_212
                    rw [dX9_goThroughDay_n_l44_s]
                    rw [if_neg c_131, if_neg c_147, if_neg c_170, if_neg c_174, if_neg c_186]
                    try rfl
                  have hL_216 : (dX9_goThroughDay_n_l44 (Af 4) (Af 5) (Av 3) (Av 4) r_4 x_124 ((6 - (0 : Int32).toInt).toNat + 1) (0 : Int32) (0 : Int32) (Av 0) (Av 5) (Af 3) (Af 6) (Af 8) (Af 7)) = dX9_goThroughDay_n_l44 (Af 4) (Af 5) (Av 3) (Av 4) r_4 x_124 ((6 - (x_212 : Int32).toInt).toNat + 1) x_212 yy_4501 yy_4502 yy_4503 yy_4504 yy_4505 g_211 g_209 := by
                    rw [hL_129, hb_215, hm_214]
                  have ha_217 : 0 ≤ (x_212 : Int32).toInt := by
                    have z_1 : ¬ (r_18 : Int32).toInt = (0 : Int32).toInt := fun z => c_22 (Int32.toInt_inj.mp z)
                    have z_2 := Int32.lt_iff_toInt_lt.mp (Int32.not_le.mp c_131)
                    have z_3 := Int32.lt_iff_toInt_lt.mp (Int32.not_le.mp c_147)
                    have z_4 : ¬ (r_166 : Int32).toInt = (0 : Int32).toInt := fun z => c_170 (Int32.toInt_inj.mp z)
                    have z_5 := Int32.le_iff_toInt_le.mp (Int32.not_lt.mp c_174)
                    have z_6 : ¬ (x_185 : Int32).toInt = (0 : Int32).toInt := fun z => c_186 (Int32.toInt_inj.mp z)
                    have y_0 : (0 : Int32).toInt = 0 := by decide
                    have y_6 : (6 : Int32).toInt = 6 := by decide
                    have y_12 : (12 : Int32).toInt = 12 := by decide
                    have y_1 : (1 : Int32).toInt = 1 := by decide
                    have t_x_212 : x_212.toInt = (yy_4500 : Int32).toInt + (1 : Int32).toInt := by rw [ex_212]; exact add_toInt (by omega) (by omega)
                    omega
                  exact ih_126 x_212 yy_4501 yy_4502 yy_4503 yy_4504 yy_4505 g_211 g_209 _ _ _ (by omega) hL_216 ha_217 (hP.sub [0, 1, 2, 3, 4, 5, 6, 7, 8] rfl) (hD.sub [0, 1, 2, 3, 4, 5, 6, 7, 8] rfl rfl) hS (lv_sub hl [0, 2, 3, 4, 5, 6, 7] rfl)
            · skip
              refine lv_goto (tgt := 177) hx hb dX9_goThroughDay_69 (by decide) ?_
              obtain ⟨x_218, ex_218⟩ : ∃ y : Int32, y = yy_4500 + 1 := ⟨_, rfl⟩
              refine lv_iinc (v := x_218) (lv' := [(6, .int x_218), (5, .int yy_4501), (4, .int x_124), (3, .int r_11), (2, .int r_4), (0, .ref (Aa 0)), (1, .null)]) hx hb dX9_goThroughDay_177 hl (k := 0) rfl (by rw [ex_218]; rfl) (by decide) rfl (fun ls hl₀ => ?_)
              replace hl := hl₀
              clear hl₀
              refine lv_goto (tgt := 44) hx hb dX9_goThroughDay_180 (by decide) ?_
              have hb_219 : 6 - (x_218 : Int32).toInt < 6 - (yy_4500 : Int32).toInt ∧ 1 ≤ 6 - (yy_4500 : Int32).toInt := by
                have z_1 : ¬ (r_18 : Int32).toInt = (0 : Int32).toInt := fun z => c_22 (Int32.toInt_inj.mp z)
                have z_2 := Int32.lt_iff_toInt_lt.mp (Int32.not_le.mp c_131)
                have z_3 := Int32.lt_iff_toInt_lt.mp (Int32.not_le.mp c_147)
                have z_4 := congrArg Int32.toInt c_170
                have y_0 : (0 : Int32).toInt = 0 := by decide
                have y_6 : (6 : Int32).toInt = 6 := by decide
                have y_1 : (1 : Int32).toInt = 1 := by decide
                have t_x_218 : x_218.toInt = (yy_4500 : Int32).toInt + (1 : Int32).toInt := by rw [ex_218]; exact add_toInt (by omega) (by omega)
                omega
              have hm_220 : (6 - (yy_4500 : Int32).toInt).toNat = (6 - (x_218 : Int32).toInt).toNat + 1 := by
                have z_1 : ¬ (r_18 : Int32).toInt = (0 : Int32).toInt := fun z => c_22 (Int32.toInt_inj.mp z)
                have z_2 := Int32.lt_iff_toInt_lt.mp (Int32.not_le.mp c_131)
                have z_3 := Int32.lt_iff_toInt_lt.mp (Int32.not_le.mp c_147)
                have z_4 := congrArg Int32.toInt c_170
                have y_0 : (0 : Int32).toInt = 0 := by decide
                have y_6 : (6 : Int32).toInt = 6 := by decide
                have y_1 : (1 : Int32).toInt = 1 := by decide
                have t_x_218 : x_218.toInt = (yy_4500 : Int32).toInt + (1 : Int32).toInt := by rw [ex_218]; exact add_toInt (by omega) (by omega)
                omega
              have hb_221 : dX9_goThroughDay_n_l44 (Af 4) (Af 5) (Av 3) (Av 4) r_4 x_124 ((6 - (yy_4500 : Int32).toInt).toNat + 1) yy_4500 yy_4501 yy_4502 yy_4503 yy_4504 yy_4505 yy_4506 yy_4507 = dX9_goThroughDay_n_l44 (Af 4) (Af 5) (Av 3) (Av 4) r_4 x_124 ((6 - (yy_4500 : Int32).toInt).toNat) x_218 yy_4501 yy_4502 yy_4503 yy_4504 yy_4505 yy_4506 yy_4507 := by
                clear hP hD hS hl ih_126
                replace er_4 := er_4.symm; subst er_4
                replace er_11 := er_11.symm; subst er_11
                replace er_18 := er_18.symm; subst er_18
                replace ex_124 := ex_124.symm; subst ex_124
                replace er_166 := er_166.symm; subst er_166
                replace ex_218 := ex_218.symm; subst ex_218
                rw [dX9_goThroughDay_n_l44_s]
                rw [if_neg c_131, if_neg c_147, if_pos c_170]
                try rfl
              have hL_222 : (dX9_goThroughDay_n_l44 (Af 4) (Af 5) (Av 3) (Av 4) r_4 x_124 ((6 - (0 : Int32).toInt).toNat + 1) (0 : Int32) (0 : Int32) (Av 0) (Av 5) (Af 3) (Af 6) (Af 8) (Af 7)) = dX9_goThroughDay_n_l44 (Af 4) (Af 5) (Av 3) (Av 4) r_4 x_124 ((6 - (x_218 : Int32).toInt).toNat + 1) x_218 yy_4501 yy_4502 yy_4503 yy_4504 yy_4505 yy_4506 yy_4507 := by
                rw [hL_129, hb_221, hm_220]
              have ha_223 : 0 ≤ (x_218 : Int32).toInt := by
                have z_1 : ¬ (r_18 : Int32).toInt = (0 : Int32).toInt := fun z => c_22 (Int32.toInt_inj.mp z)
                have z_2 := Int32.lt_iff_toInt_lt.mp (Int32.not_le.mp c_131)
                have z_3 := Int32.lt_iff_toInt_lt.mp (Int32.not_le.mp c_147)
                have z_4 := congrArg Int32.toInt c_170
                have y_0 : (0 : Int32).toInt = 0 := by decide
                have y_6 : (6 : Int32).toInt = 6 := by decide
                have y_1 : (1 : Int32).toInt = 1 := by decide
                have t_x_218 : x_218.toInt = (yy_4500 : Int32).toInt + (1 : Int32).toInt := by rw [ex_218]; exact add_toInt (by omega) (by omega)
                omega
              exact ih_126 x_218 yy_4501 yy_4502 yy_4503 yy_4504 yy_4505 yy_4506 yy_4507 _ _ _ (by omega) hL_222 ha_223 (hP.sub [0, 1, 2, 3, 4, 5, 6, 7, 8] rfl) (hD.sub [0, 1, 2, 3, 4, 5, 6, 7, 8] rfl rfl) hS (lv_sub hl [0, 1, 2, 3, 4, 5, 6] rfl)
    have ha_224 : 0 ≤ (0 : Int32).toInt := by
      have z_1 : ¬ (r_18 : Int32).toInt = (0 : Int32).toInt := fun z => c_22 (Int32.toInt_inj.mp z)
      have y_0 : (0 : Int32).toInt = 0 := by decide
      omega
    exact loop_127 _ 0 0 (Av 0) (Av 5) (Af 3) (Af 6) (Af 8) (Af 7) _ _ _ (Nat.lt_succ_self _) rfl ha_224 hP hD hS hl
set_option maxRecDepth 100000 in
theorem cu_dX9_goThroughDay_n (l : Launch) (D : va_G) (tc : Nat → ClassId) (sk : (Nat → Nat) × (Nat → Nat)) (Aa_0 : Nat) (Aa_1 : Nat) (Aa_2 : Nat) (Aa_3 : Nat) (Aa_4 : Nat) (Aa_5 : Nat) (Aa_6 : Nat) (Aa_7 : Nat) (Aa_8 : Nat) (Av_0 : Int32) (Av_1 : Int32) (Av_2 : Int32) (Av_3 : Int32) (Av_4 : Int32) (Av_5 : Int32) (Af_1 : Nat → Int32) (Af_2 : Nat → Int32) (Af_3 : Nat → Int32) (Af_4 : Nat → Int32) (Af_5 : Nat → Int32) (Af_6 : Nat → Int32) (Af_7 : Nat → Int32) (Af_8 : Nat → Int32)  : Ct l yX9_goThroughDay cX9_goThroughDay 8 (some .int) { frames := 2, cells := 0, slots := 0, locals := 42 } D tc sk [.ref Aa_0, .null] [(Aa_0, .inr (9, [.int Av_0, .int Av_1, .int Av_2, .int Av_3, .int Av_4, .int Av_5, .ref Aa_1, .ref Aa_2, .ref Aa_3, .ref Aa_4, .ref Aa_5, .ref Aa_6, .ref Aa_7, .ref Aa_8])), (Aa_1, .inl (tc 0, 10, .inl Af_1)), (Aa_2, .inl (tc 0, 10, .inl Af_2)), (Aa_3, .inl (tc 0, 6, .inl Af_3)), (Aa_4, .inl (tc 0, 6, .inl Af_4)), (Aa_5, .inl (tc 0, 6, .inl Af_5)), (Aa_6, .inl (tc 0, 6, .inl Af_6)), (Aa_7, .inl (tc 0, 6, .inl Af_7)), (Aa_8, .inl (tc 0, 6, .inl Af_8))] (fun (v : Option Value) (u : (Int32) × (Int32) × (Int32) × (Nat → Int32) × (Nat → Int32) × (Nat → Int32) × (Nat → Int32)) => match u with | (oo0x1, oo0x2, oo0x3, oo0x4, oo0x5, oo0x6, oo0x7) => ∃ r : Int32, v = some (.int r) ∧ ((True) ∧ (r, oo0x1, oo0x2, oo0x3, oo0x4, oo0x5, oo0x6, oo0x7) = (dX9_goThroughDay_n Af_1 Af_2 Af_3 Af_4 Af_5 Af_6 Af_7 Af_8 Av_0 Av_1 Av_2 Av_3 Av_4 Av_5))) (fun (u : (Int32) × (Int32) × (Int32) × (Nat → Int32) × (Nat → Int32) × (Nat → Int32) × (Nat → Int32)) => match u with | (oo0x1, oo0x2, oo0x3, oo0x4, oo0x5, oo0x6, oo0x7) => [(Aa_0, .inr (9, [.int oo0x1, .int Av_1, .int Av_2, .int Av_3, .int oo0x2, .int oo0x3, .ref Aa_1, .ref Aa_2, .ref Aa_3, .ref Aa_4, .ref Aa_5, .ref Aa_6, .ref Aa_7, .ref Aa_8])), (Aa_1, .inl (tc 0, 10, .inl Af_1)), (Aa_2, .inl (tc 0, 10, .inl Af_2)), (Aa_3, .inl (tc 0, 6, .inl oo0x4)), (Aa_4, .inl (tc 0, 6, .inl Af_4)), (Aa_5, .inl (tc 0, 6, .inl Af_5)), (Aa_6, .inl (tc 0, 6, .inl oo0x5)), (Aa_7, .inl (tc 0, 6, .inl oo0x6)), (Aa_8, .inl (tc 0, 6, .inl oo0x7))]) 0 0 :=
  ct_dX9_goThroughDay_n l D tc sk (fun k => ([Aa_0, Aa_1, Aa_2, Aa_3, Aa_4, Aa_5, Aa_6, Aa_7, Aa_8] : List (Nat)).getD k 0) (fun k => ([Av_0, Av_1, Av_2, Av_3, Av_4, Av_5] : List (Int32)).getD k 0) (fun k => ([(fun _ => 0), Af_1, Af_2, Af_3, Af_4, Af_5, Af_6, Af_7, Af_8] : List (Nat → Int32)).getD k (fun _ => 0)) 
def dX9_goThroughDay_r_l44 (Af_1 : Nat → Int32) (Af_4 : Nat → Int32) (Af_5 : Nat → Int32) (Av_2 : Int32) (Av_3 : Int32) (Av_4 : Int32) (Rf_1 : Nat → Int32) (Rn : Nat) (zz_4504 : Int32) : Nat → Int32 → (Nat → Int64) → Int32 → Int32 → Int32 → (Nat → Int32) → (Nat → Int32) → (Nat → Int32) → (Nat → Int32) → Int32 × (Nat → Int64) × Int32 × Int32 × Int32 × (Nat → Int32) × (Nat → Int32) × (Nat → Int32) × (Nat → Int32)
  | 0, _, _, _, _, _, _, _, _, _ => (0, (fun _ => 0), 0, 0, 0, (fun _ => 0), (fun _ => 0), (fun _ => 0), (fun _ => 0))
  | n + 1, yy_4500, yy_4501, yy_4502, yy_4503, yy_4504, yy_4505, yy_4506, yy_4507, yy_4508 => (if Av_3 ≤ yy_4500 then (yy_4500, yy_4501, yy_4502, yy_4503, yy_4504, yy_4505, yy_4506, yy_4507, yy_4508) else (if (6 : Int32) ≤ yy_4500 then (yy_4500, yy_4501, yy_4502, yy_4503, yy_4504, yy_4505, yy_4506, yy_4507, yy_4508) else (if (dX9_canBuy Af_4 Af_5 yy_4507 yy_4503 Av_3 Av_4 yy_4500) = (0 : Int32) then dX9_goThroughDay_r_l44 Af_1 Af_4 Af_5 Av_2 Av_3 Av_4 Rf_1 Rn zz_4504 n (yy_4500 + 1) yy_4501 yy_4502 yy_4503 yy_4504 yy_4505 yy_4506 yy_4507 yy_4508 else (if (lg_cmp (dX6_sumFor Af_1 yy_4505 Af_4 Af_5 yy_4506 yy_4508 yy_4507 yy_4503 Av_2 Av_3 Av_4 yy_4504 Rf_1 yy_4501 yy_4500 Rn).1 (0 : Int64)) ≤ (0 : Int32) then dX9_goThroughDay_r_l44 Af_1 Af_4 Af_5 Av_2 Av_3 Av_4 Rf_1 Rn zz_4504 n (yy_4500 + 1) ((dX6_sumFor Af_1 yy_4505 Af_4 Af_5 yy_4506 yy_4508 yy_4507 yy_4503 Av_2 Av_3 Av_4 yy_4504 Rf_1 yy_4501 yy_4500 Rn).2) yy_4502 yy_4503 yy_4504 yy_4505 yy_4506 yy_4507 yy_4508 else (if ((zz_4504 >>> (yy_4500 &&& 31)) &&& (1 : Int32)) = (0 : Int32) then dX9_goThroughDay_r_l44 Af_1 Af_4 Af_5 Av_2 Av_3 Av_4 Rf_1 Rn zz_4504 n (yy_4500 + 1) ((dX6_sumFor Af_1 yy_4505 Af_4 Af_5 yy_4506 yy_4508 yy_4507 yy_4503 Av_2 Av_3 Av_4 yy_4504 Rf_1 yy_4501 yy_4500 Rn).2) (yy_4502 ||| ((1 : Int32) <<< (yy_4500 &&& 31))) ((dX9_handOver yy_4505 Af_4 yy_4506 yy_4507 yy_4503 Av_3 Av_4 yy_4504 yy_4500).1) ((dX9_handOver yy_4505 Af_4 yy_4506 yy_4507 yy_4503 Av_3 Av_4 yy_4504 yy_4500).2.1) ((dX9_handOver yy_4505 Af_4 yy_4506 yy_4507 yy_4503 Av_3 Av_4 yy_4504 yy_4500).2.2.1) ((dX9_handOver yy_4505 Af_4 yy_4506 yy_4507 yy_4503 Av_3 Av_4 yy_4504 yy_4500).2.2.2.1) ((dX9_handOver yy_4505 Af_4 yy_4506 yy_4507 yy_4503 Av_3 Av_4 yy_4504 yy_4500).2.2.2.2) yy_4508 else dX9_goThroughDay_r_l44 Af_1 Af_4 Af_5 Av_2 Av_3 Av_4 Rf_1 Rn zz_4504 n (yy_4500 + 1) ((dX6_sumFor Af_1 yy_4505 Af_4 Af_5 yy_4506 yy_4508 yy_4507 yy_4503 Av_2 Av_3 Av_4 yy_4504 Rf_1 yy_4501 yy_4500 Rn).2) yy_4502 yy_4503 yy_4504 yy_4505 yy_4506 (upd yy_4507 (yy_4500).toNatClampNeg Av_4) (upd yy_4508 (yy_4500).toNatClampNeg ((yy_4508 (yy_4500).toNatClampNeg) + (1 : Int32))))))))
theorem dX9_goThroughDay_r_l44_s {Af_1 : Nat → Int32} {Af_4 : Nat → Int32} {Af_5 : Nat → Int32} {Av_2 : Int32} {Av_3 : Int32} {Av_4 : Int32} {Rf_1 : Nat → Int32} {Rn : Nat} {zz_4504 : Int32} {n : Nat} {yy_4500 : Int32} {yy_4501 : Nat → Int64} {yy_4502 : Int32} {yy_4503 : Int32} {yy_4504 : Int32} {yy_4505 : Nat → Int32} {yy_4506 : Nat → Int32} {yy_4507 : Nat → Int32} {yy_4508 : Nat → Int32} : dX9_goThroughDay_r_l44 Af_1 Af_4 Af_5 Av_2 Av_3 Av_4 Rf_1 Rn zz_4504 (n + 1) yy_4500 yy_4501 yy_4502 yy_4503 yy_4504 yy_4505 yy_4506 yy_4507 yy_4508 = (if Av_3 ≤ yy_4500 then (yy_4500, yy_4501, yy_4502, yy_4503, yy_4504, yy_4505, yy_4506, yy_4507, yy_4508) else (if (6 : Int32) ≤ yy_4500 then (yy_4500, yy_4501, yy_4502, yy_4503, yy_4504, yy_4505, yy_4506, yy_4507, yy_4508) else (if (dX9_canBuy Af_4 Af_5 yy_4507 yy_4503 Av_3 Av_4 yy_4500) = (0 : Int32) then dX9_goThroughDay_r_l44 Af_1 Af_4 Af_5 Av_2 Av_3 Av_4 Rf_1 Rn zz_4504 n (yy_4500 + 1) yy_4501 yy_4502 yy_4503 yy_4504 yy_4505 yy_4506 yy_4507 yy_4508 else (if (lg_cmp (dX6_sumFor Af_1 yy_4505 Af_4 Af_5 yy_4506 yy_4508 yy_4507 yy_4503 Av_2 Av_3 Av_4 yy_4504 Rf_1 yy_4501 yy_4500 Rn).1 (0 : Int64)) ≤ (0 : Int32) then dX9_goThroughDay_r_l44 Af_1 Af_4 Af_5 Av_2 Av_3 Av_4 Rf_1 Rn zz_4504 n (yy_4500 + 1) ((dX6_sumFor Af_1 yy_4505 Af_4 Af_5 yy_4506 yy_4508 yy_4507 yy_4503 Av_2 Av_3 Av_4 yy_4504 Rf_1 yy_4501 yy_4500 Rn).2) yy_4502 yy_4503 yy_4504 yy_4505 yy_4506 yy_4507 yy_4508 else (if ((zz_4504 >>> (yy_4500 &&& 31)) &&& (1 : Int32)) = (0 : Int32) then dX9_goThroughDay_r_l44 Af_1 Af_4 Af_5 Av_2 Av_3 Av_4 Rf_1 Rn zz_4504 n (yy_4500 + 1) ((dX6_sumFor Af_1 yy_4505 Af_4 Af_5 yy_4506 yy_4508 yy_4507 yy_4503 Av_2 Av_3 Av_4 yy_4504 Rf_1 yy_4501 yy_4500 Rn).2) (yy_4502 ||| ((1 : Int32) <<< (yy_4500 &&& 31))) ((dX9_handOver yy_4505 Af_4 yy_4506 yy_4507 yy_4503 Av_3 Av_4 yy_4504 yy_4500).1) ((dX9_handOver yy_4505 Af_4 yy_4506 yy_4507 yy_4503 Av_3 Av_4 yy_4504 yy_4500).2.1) ((dX9_handOver yy_4505 Af_4 yy_4506 yy_4507 yy_4503 Av_3 Av_4 yy_4504 yy_4500).2.2.1) ((dX9_handOver yy_4505 Af_4 yy_4506 yy_4507 yy_4503 Av_3 Av_4 yy_4504 yy_4500).2.2.2.1) ((dX9_handOver yy_4505 Af_4 yy_4506 yy_4507 yy_4503 Av_3 Av_4 yy_4504 yy_4500).2.2.2.2) yy_4508 else dX9_goThroughDay_r_l44 Af_1 Af_4 Af_5 Av_2 Av_3 Av_4 Rf_1 Rn zz_4504 n (yy_4500 + 1) ((dX6_sumFor Af_1 yy_4505 Af_4 Af_5 yy_4506 yy_4508 yy_4507 yy_4503 Av_2 Av_3 Av_4 yy_4504 Rf_1 yy_4501 yy_4500 Rn).2) yy_4502 yy_4503 yy_4504 yy_4505 yy_4506 (upd yy_4507 (yy_4500).toNatClampNeg Av_4) (upd yy_4508 (yy_4500).toNatClampNeg ((yy_4508 (yy_4500).toNatClampNeg) + (1 : Int32)))))))) := rfl
def dX9_goThroughDay_r (Af_1 : Nat → Int32) (Af_2 : Nat → Int32) (Af_3 : Nat → Int32) (Af_4 : Nat → Int32) (Af_5 : Nat → Int32) (Af_6 : Nat → Int32) (Af_7 : Nat → Int32) (Af_8 : Nat → Int32) (Av_0 : Int32) (Av_1 : Int32) (Av_2 : Int32) (Av_3 : Int32) (Av_4 : Int32) (Av_5 : Int32) (Rf_1 : Nat → Int32) (Rg_2 : Nat → Int64) (Rn : Nat) : Int32 × Int32 × Int32 × Int32 × (Nat → Int32) × (Nat → Int32) × (Nat → Int32) × (Nat → Int32) × (Nat → Int64) := (if (dX9_hasClock Av_2 (dX9_clockOn Av_2 Av_4)) = (0 : Int32) then (if (Av_4 - Av_4 / (7 : Int32) * (7 : Int32)) = (6 : Int32) then ((dX9_goThroughDay_r_l44 Af_1 Af_4 Af_5 Av_2 Av_3 Av_4 Rf_1 Rn (0 : Int32) ((6 - (0 : Int32).toInt).toNat + 1) (0 : Int32) Rg_2 (0 : Int32) Av_0 Av_5 Af_3 Af_6 Af_8 Af_7).2.2.1, (if ((dX9_goThroughDay_r_l44 Af_1 Af_4 Af_5 Av_2 Av_3 Av_4 Rf_1 Rn (0 : Int32) ((6 - (0 : Int32).toInt).toNat + 1) (0 : Int32) Rg_2 (0 : Int32) Av_0 Av_5 Af_3 Af_6 Af_8 Af_7).2.2.2.1 + Av_1) < (99 : Int32) then ((dX9_goThroughDay_r_l44 Af_1 Af_4 Af_5 Av_2 Av_3 Av_4 Rf_1 Rn (0 : Int32) ((6 - (0 : Int32).toInt).toNat + 1) (0 : Int32) Rg_2 (0 : Int32) Av_0 Av_5 Af_3 Af_6 Af_8 Af_7).2.2.2.1 + Av_1) else (99 : Int32)), (Av_4 + (1 : Int32)), (dX9_goThroughDay_r_l44 Af_1 Af_4 Af_5 Av_2 Av_3 Av_4 Rf_1 Rn (0 : Int32) ((6 - (0 : Int32).toInt).toNat + 1) (0 : Int32) Rg_2 (0 : Int32) Av_0 Av_5 Af_3 Af_6 Af_8 Af_7).2.2.2.2.1, (dX9_changeTempers ((dX9_goThroughDay_r_l44 Af_1 Af_4 Af_5 Av_2 Av_3 Av_4 Rf_1 Rn (0 : Int32) ((6 - (0 : Int32).toInt).toNat + 1) (0 : Int32) Rg_2 (0 : Int32) Av_0 Av_5 Af_3 Af_6 Af_8 Af_7).2.2.2.2.2.1) Av_3 (dX9_stillOn Af_1 Av_2 Av_4)), ((dX9_goThroughDay_r_l44 Af_1 Af_4 Af_5 Av_2 Av_3 Av_4 Rf_1 Rn (0 : Int32) ((6 - (0 : Int32).toInt).toNat + 1) (0 : Int32) Rg_2 (0 : Int32) Av_0 Av_5 Af_3 Af_6 Af_8 Af_7).2.2.2.2.2.2.1), ((dX9_goThroughDay_r_l44 Af_1 Af_4 Af_5 Av_2 Av_3 Av_4 Rf_1 Rn (0 : Int32) ((6 - (0 : Int32).toInt).toNat + 1) (0 : Int32) Rg_2 (0 : Int32) Av_0 Av_5 Af_3 Af_6 Af_8 Af_7).2.2.2.2.2.2.2.2), ((dX9_goThroughDay_r_l44 Af_1 Af_4 Af_5 Av_2 Av_3 Av_4 Rf_1 Rn (0 : Int32) ((6 - (0 : Int32).toInt).toNat + 1) (0 : Int32) Rg_2 (0 : Int32) Av_0 Av_5 Af_3 Af_6 Af_8 Af_7).2.2.2.2.2.2.2.1), ((dX9_goThroughDay_r_l44 Af_1 Af_4 Af_5 Av_2 Av_3 Av_4 Rf_1 Rn (0 : Int32) ((6 - (0 : Int32).toInt).toNat + 1) (0 : Int32) Rg_2 (0 : Int32) Av_0 Av_5 Af_3 Af_6 Af_8 Af_7).2.1)) else ((dX9_goThroughDay_r_l44 Af_1 Af_4 Af_5 Av_2 Av_3 Av_4 Rf_1 Rn (0 : Int32) ((6 - (0 : Int32).toInt).toNat + 1) (0 : Int32) Rg_2 (0 : Int32) Av_0 Av_5 Af_3 Af_6 Af_8 Af_7).2.2.1, (dX9_goThroughDay_r_l44 Af_1 Af_4 Af_5 Av_2 Av_3 Av_4 Rf_1 Rn (0 : Int32) ((6 - (0 : Int32).toInt).toNat + 1) (0 : Int32) Rg_2 (0 : Int32) Av_0 Av_5 Af_3 Af_6 Af_8 Af_7).2.2.2.1, (Av_4 + (1 : Int32)), (dX9_goThroughDay_r_l44 Af_1 Af_4 Af_5 Av_2 Av_3 Av_4 Rf_1 Rn (0 : Int32) ((6 - (0 : Int32).toInt).toNat + 1) (0 : Int32) Rg_2 (0 : Int32) Av_0 Av_5 Af_3 Af_6 Af_8 Af_7).2.2.2.2.1, (dX9_changeTempers ((dX9_goThroughDay_r_l44 Af_1 Af_4 Af_5 Av_2 Av_3 Av_4 Rf_1 Rn (0 : Int32) ((6 - (0 : Int32).toInt).toNat + 1) (0 : Int32) Rg_2 (0 : Int32) Av_0 Av_5 Af_3 Af_6 Af_8 Af_7).2.2.2.2.2.1) Av_3 (dX9_stillOn Af_1 Av_2 Av_4)), ((dX9_goThroughDay_r_l44 Af_1 Af_4 Af_5 Av_2 Av_3 Av_4 Rf_1 Rn (0 : Int32) ((6 - (0 : Int32).toInt).toNat + 1) (0 : Int32) Rg_2 (0 : Int32) Av_0 Av_5 Af_3 Af_6 Af_8 Af_7).2.2.2.2.2.2.1), ((dX9_goThroughDay_r_l44 Af_1 Af_4 Af_5 Av_2 Av_3 Av_4 Rf_1 Rn (0 : Int32) ((6 - (0 : Int32).toInt).toNat + 1) (0 : Int32) Rg_2 (0 : Int32) Av_0 Av_5 Af_3 Af_6 Af_8 Af_7).2.2.2.2.2.2.2.2), ((dX9_goThroughDay_r_l44 Af_1 Af_4 Af_5 Av_2 Av_3 Av_4 Rf_1 Rn (0 : Int32) ((6 - (0 : Int32).toInt).toNat + 1) (0 : Int32) Rg_2 (0 : Int32) Av_0 Av_5 Af_3 Af_6 Af_8 Af_7).2.2.2.2.2.2.2.1), ((dX9_goThroughDay_r_l44 Af_1 Af_4 Af_5 Av_2 Av_3 Av_4 Rf_1 Rn (0 : Int32) ((6 - (0 : Int32).toInt).toNat + 1) (0 : Int32) Rg_2 (0 : Int32) Av_0 Av_5 Af_3 Af_6 Af_8 Af_7).2.1))) else (if (Av_4 - Av_4 / (7 : Int32) * (7 : Int32)) = (6 : Int32) then ((dX9_goThroughDay_r_l44 Af_1 Af_4 Af_5 Av_2 Av_3 Av_4 Rf_1 Rn (Af_2 ((dX9_clockOn Av_2 Av_4)).toNatClampNeg) ((6 - (0 : Int32).toInt).toNat + 1) (0 : Int32) Rg_2 (0 : Int32) Av_0 Av_5 Af_3 Af_6 Af_8 Af_7).2.2.1, (if ((dX9_goThroughDay_r_l44 Af_1 Af_4 Af_5 Av_2 Av_3 Av_4 Rf_1 Rn (Af_2 ((dX9_clockOn Av_2 Av_4)).toNatClampNeg) ((6 - (0 : Int32).toInt).toNat + 1) (0 : Int32) Rg_2 (0 : Int32) Av_0 Av_5 Af_3 Af_6 Af_8 Af_7).2.2.2.1 + Av_1) < (99 : Int32) then ((dX9_goThroughDay_r_l44 Af_1 Af_4 Af_5 Av_2 Av_3 Av_4 Rf_1 Rn (Af_2 ((dX9_clockOn Av_2 Av_4)).toNatClampNeg) ((6 - (0 : Int32).toInt).toNat + 1) (0 : Int32) Rg_2 (0 : Int32) Av_0 Av_5 Af_3 Af_6 Af_8 Af_7).2.2.2.1 + Av_1) else (99 : Int32)), (Av_4 + (1 : Int32)), (dX9_goThroughDay_r_l44 Af_1 Af_4 Af_5 Av_2 Av_3 Av_4 Rf_1 Rn (Af_2 ((dX9_clockOn Av_2 Av_4)).toNatClampNeg) ((6 - (0 : Int32).toInt).toNat + 1) (0 : Int32) Rg_2 (0 : Int32) Av_0 Av_5 Af_3 Af_6 Af_8 Af_7).2.2.2.2.1, (dX9_changeTempers ((dX9_goThroughDay_r_l44 Af_1 Af_4 Af_5 Av_2 Av_3 Av_4 Rf_1 Rn (Af_2 ((dX9_clockOn Av_2 Av_4)).toNatClampNeg) ((6 - (0 : Int32).toInt).toNat + 1) (0 : Int32) Rg_2 (0 : Int32) Av_0 Av_5 Af_3 Af_6 Af_8 Af_7).2.2.2.2.2.1) Av_3 (dX9_stillOn Af_1 Av_2 Av_4)), ((dX9_goThroughDay_r_l44 Af_1 Af_4 Af_5 Av_2 Av_3 Av_4 Rf_1 Rn (Af_2 ((dX9_clockOn Av_2 Av_4)).toNatClampNeg) ((6 - (0 : Int32).toInt).toNat + 1) (0 : Int32) Rg_2 (0 : Int32) Av_0 Av_5 Af_3 Af_6 Af_8 Af_7).2.2.2.2.2.2.1), ((dX9_goThroughDay_r_l44 Af_1 Af_4 Af_5 Av_2 Av_3 Av_4 Rf_1 Rn (Af_2 ((dX9_clockOn Av_2 Av_4)).toNatClampNeg) ((6 - (0 : Int32).toInt).toNat + 1) (0 : Int32) Rg_2 (0 : Int32) Av_0 Av_5 Af_3 Af_6 Af_8 Af_7).2.2.2.2.2.2.2.2), ((dX9_goThroughDay_r_l44 Af_1 Af_4 Af_5 Av_2 Av_3 Av_4 Rf_1 Rn (Af_2 ((dX9_clockOn Av_2 Av_4)).toNatClampNeg) ((6 - (0 : Int32).toInt).toNat + 1) (0 : Int32) Rg_2 (0 : Int32) Av_0 Av_5 Af_3 Af_6 Af_8 Af_7).2.2.2.2.2.2.2.1), ((dX9_goThroughDay_r_l44 Af_1 Af_4 Af_5 Av_2 Av_3 Av_4 Rf_1 Rn (Af_2 ((dX9_clockOn Av_2 Av_4)).toNatClampNeg) ((6 - (0 : Int32).toInt).toNat + 1) (0 : Int32) Rg_2 (0 : Int32) Av_0 Av_5 Af_3 Af_6 Af_8 Af_7).2.1)) else ((dX9_goThroughDay_r_l44 Af_1 Af_4 Af_5 Av_2 Av_3 Av_4 Rf_1 Rn (Af_2 ((dX9_clockOn Av_2 Av_4)).toNatClampNeg) ((6 - (0 : Int32).toInt).toNat + 1) (0 : Int32) Rg_2 (0 : Int32) Av_0 Av_5 Af_3 Af_6 Af_8 Af_7).2.2.1, (dX9_goThroughDay_r_l44 Af_1 Af_4 Af_5 Av_2 Av_3 Av_4 Rf_1 Rn (Af_2 ((dX9_clockOn Av_2 Av_4)).toNatClampNeg) ((6 - (0 : Int32).toInt).toNat + 1) (0 : Int32) Rg_2 (0 : Int32) Av_0 Av_5 Af_3 Af_6 Af_8 Af_7).2.2.2.1, (Av_4 + (1 : Int32)), (dX9_goThroughDay_r_l44 Af_1 Af_4 Af_5 Av_2 Av_3 Av_4 Rf_1 Rn (Af_2 ((dX9_clockOn Av_2 Av_4)).toNatClampNeg) ((6 - (0 : Int32).toInt).toNat + 1) (0 : Int32) Rg_2 (0 : Int32) Av_0 Av_5 Af_3 Af_6 Af_8 Af_7).2.2.2.2.1, (dX9_changeTempers ((dX9_goThroughDay_r_l44 Af_1 Af_4 Af_5 Av_2 Av_3 Av_4 Rf_1 Rn (Af_2 ((dX9_clockOn Av_2 Av_4)).toNatClampNeg) ((6 - (0 : Int32).toInt).toNat + 1) (0 : Int32) Rg_2 (0 : Int32) Av_0 Av_5 Af_3 Af_6 Af_8 Af_7).2.2.2.2.2.1) Av_3 (dX9_stillOn Af_1 Av_2 Av_4)), ((dX9_goThroughDay_r_l44 Af_1 Af_4 Af_5 Av_2 Av_3 Av_4 Rf_1 Rn (Af_2 ((dX9_clockOn Av_2 Av_4)).toNatClampNeg) ((6 - (0 : Int32).toInt).toNat + 1) (0 : Int32) Rg_2 (0 : Int32) Av_0 Av_5 Af_3 Af_6 Af_8 Af_7).2.2.2.2.2.2.1), ((dX9_goThroughDay_r_l44 Af_1 Af_4 Af_5 Av_2 Av_3 Av_4 Rf_1 Rn (Af_2 ((dX9_clockOn Av_2 Av_4)).toNatClampNeg) ((6 - (0 : Int32).toInt).toNat + 1) (0 : Int32) Rg_2 (0 : Int32) Av_0 Av_5 Af_3 Af_6 Af_8 Af_7).2.2.2.2.2.2.2.2), ((dX9_goThroughDay_r_l44 Af_1 Af_4 Af_5 Av_2 Av_3 Av_4 Rf_1 Rn (Af_2 ((dX9_clockOn Av_2 Av_4)).toNatClampNeg) ((6 - (0 : Int32).toInt).toNat + 1) (0 : Int32) Rg_2 (0 : Int32) Av_0 Av_5 Af_3 Af_6 Af_8 Af_7).2.2.2.2.2.2.2.1), ((dX9_goThroughDay_r_l44 Af_1 Af_4 Af_5 Av_2 Av_3 Av_4 Rf_1 Rn (Af_2 ((dX9_clockOn Av_2 Av_4)).toNatClampNeg) ((6 - (0 : Int32).toInt).toNat + 1) (0 : Int32) Rg_2 (0 : Int32) Av_0 Av_5 Af_3 Af_6 Af_8 Af_7).2.1))))
set_option maxHeartbeats 4000000 in
set_option maxRecDepth 100000 in
theorem ct_dX9_goThroughDay_r (l : Launch) (D : va_G) (tc : Nat → ClassId) (sk : (Nat → Nat) × (Nat → Nat)) (Aa : Nat → Nat) (Av : Nat → Int32) (Af : Nat → Nat → Int32) (Ra : Nat → Nat) (Rf : Nat → Nat → Int32) (Rg : Nat → Nat → Int64) (Rn : Nat) (hRn : Rn ≤ 400) : Ct l yX9_goThroughDay cX9_goThroughDay 8 (some .int) { frames := 4, cells := 0, slots := 0, locals := 89 } D tc sk [.ref (Aa 0), .ref (Ra 0)] [((Aa 0), .inr (9, [.int (Av 0), .int (Av 1), .int (Av 2), .int (Av 3), .int (Av 4), .int (Av 5), .ref (Aa 1), .ref (Aa 2), .ref (Aa 3), .ref (Aa 4), .ref (Aa 5), .ref (Aa 6), .ref (Aa 7), .ref (Aa 8)])), ((Aa 1), .inl (tc 0, 10, .inl (Af 1))), ((Aa 2), .inl (tc 0, 10, .inl (Af 2))), ((Aa 3), .inl (tc 0, 6, .inl (Af 3))), ((Aa 4), .inl (tc 0, 6, .inl (Af 4))), ((Aa 5), .inl (tc 0, 6, .inl (Af 5))), ((Aa 6), .inl (tc 0, 6, .inl (Af 6))), ((Aa 7), .inl (tc 0, 6, .inl (Af 7))), ((Aa 8), .inl (tc 0, 6, .inl (Af 8))), ((Ra 0), .inr (6, [.ref (Ra 1), .ref (Ra 2)])), ((Ra 1), .inl (tc 0, Rn, .inl (Rf 1))), ((Ra 2), .inl (tc 1, 64, .inr (.inl (Rg 2))))] (fun (v : Option Value) (u : (Int32) × (Int32) × (Int32) × (Nat → Int32) × (Nat → Int32) × (Nat → Int32) × (Nat → Int32) × (Nat → Int64)) => match u with | (oo0x1, oo0x2, oo0x3, oo0x4, oo0x5, oo0x6, oo0x7, oo0x8) => ∃ r : Int32, v = some (.int r) ∧ ((True) ∧ (r, oo0x1, oo0x2, oo0x3, oo0x4, oo0x5, oo0x6, oo0x7, oo0x8) = (dX9_goThroughDay_r (Af 1) (Af 2) (Af 3) (Af 4) (Af 5) (Af 6) (Af 7) (Af 8) (Av 0) (Av 1) (Av 2) (Av 3) (Av 4) (Av 5) (Rf 1) (Rg 2) Rn))) (fun (u : (Int32) × (Int32) × (Int32) × (Nat → Int32) × (Nat → Int32) × (Nat → Int32) × (Nat → Int32) × (Nat → Int64)) => match u with | (oo0x1, oo0x2, oo0x3, oo0x4, oo0x5, oo0x6, oo0x7, oo0x8) => [((Aa 0), .inr (9, [.int oo0x1, .int (Av 1), .int (Av 2), .int (Av 3), .int oo0x2, .int oo0x3, .ref (Aa 1), .ref (Aa 2), .ref (Aa 3), .ref (Aa 4), .ref (Aa 5), .ref (Aa 6), .ref (Aa 7), .ref (Aa 8)])), ((Aa 1), .inl (tc 0, 10, .inl (Af 1))), ((Aa 2), .inl (tc 0, 10, .inl (Af 2))), ((Aa 3), .inl (tc 0, 6, .inl oo0x4)), ((Aa 4), .inl (tc 0, 6, .inl (Af 4))), ((Aa 5), .inl (tc 0, 6, .inl (Af 5))), ((Aa 6), .inl (tc 0, 6, .inl oo0x5)), ((Aa 7), .inl (tc 0, 6, .inl oo0x6)), ((Aa 8), .inl (tc 0, 6, .inl oo0x7)), ((Ra 0), .inr (6, [.ref (Ra 1), .ref (Ra 2)])), ((Ra 1), .inl (tc 0, Rn, .inl (Rf 1))), ((Ra 2), .inl (tc 1, 64, .inr (.inl oo0x8)))]) 0 0 := by
  refine Ct.start (by decide) (Nat.le_of_ble_eq_true rfl) (fun p e s m below meth c A ls hx hb hr hlk hin hml hown hts hK hX hP hD hA hl hS => ?_)
  have hl : lv_has ls 8 [(0, .ref (Aa 0)), (1, .ref (Ra 0))] := hl
  refine lv_aload_n hx hb dX9_goThroughDay_0 rfl (lv_at hl 0 rfl) ?_
  refine lv_aload_n hx hb dX9_goThroughDay_1 rfl (lv_at hl 0 rfl) ?_
  refine gf_X9_24 hx hb hts hown hK hP 0 rfl rfl dX9_goThroughDay_2 ?_
  refine cV (a := (Aa 0)) (As := [.int (Av 4)]) (rest := []) (wr := [((Ra 0), .inr (6, [.ref (Ra 1), .ref (Ra 2)])), ((Ra 1), .inl (tc 0, Rn, .inl (Rf 1))), ((Ra 2), .inl (tc 1, 64, .inr (.inl (Rg 2))))]) ⟨hx, hb, hml, hown, hts⟩ hK hX hA (cu_dX9_stillOn l D tc sk (Aa 0) (Aa 1) (Aa 2) (Aa 3) (Aa 4) (Aa 5) (Aa 6) (Aa 7) (Aa 8) (Av 0) (Av 1) (Av 2) (Av 3) (Av 4) (Av 5) (Af 1) (Af 2) (Af 3) (Af 4) (Af 5) (Af 6) (Af 7) (Af 8) (Av 4)) k_743 k_740 k_741 k_742 k_98 pl_X9_stillOn ⟨Nat.le_of_ble_eq_true rfl, Nat.le_of_ble_eq_true rfl⟩ rfl rfl (va_recv hK hP (ci := 9) (q0 := 0) rfl rfl) hP hD hS [0, 1, 2, 3, 4, 5, 6, 7, 8] [9, 10, 11] rfl rfl rfl rfl rfl (by decide) rfl hl.1 rfl (Nat.le_of_ble_eq_true rfl) dX9_goThroughDay_5 ⟨Nat.le_of_ble_eq_true rfl, Nat.le_of_ble_eq_true rfl⟩ (fun v_1 u_2 H locs hv_3 hP₀ hD₀ hS₀ => ?_)
  obtain ⟨r_4, rfl, he_5⟩ := hv_3
  have he_5 : (True) ∧ r_4 = (dX9_stillOn (Af 1) (Av 2) (Av 4)) := he_5
  refine W.eq (g2 := F0 m 8 ls [.int r_4]) rfl ?_
  replace hP : va_P D classes [((Ra 0), .inr (6, [.ref (Ra 1), .ref (Ra 2)])), ((Ra 1), .inl (tc 0, Rn, .inl (Rf 1))), ((Ra 2), .inl (tc 1, 64, .inr (.inl (Rg 2)))), ((Aa 0), .inr (9, [.int (Av 0), .int (Av 1), .int (Av 2), .int (Av 3), .int (Av 4), .int (Av 5), .ref (Aa 1), .ref (Aa 2), .ref (Aa 3), .ref (Aa 4), .ref (Aa 5), .ref (Aa 6), .ref (Aa 7), .ref (Aa 8)])), ((Aa 1), .inl (tc 0, 10, .inl (Af 1))), ((Aa 2), .inl (tc 0, 10, .inl (Af 2))), ((Aa 3), .inl (tc 0, 6, .inl (Af 3))), ((Aa 4), .inl (tc 0, 6, .inl (Af 4))), ((Aa 5), .inl (tc 0, 6, .inl (Af 5))), ((Aa 6), .inl (tc 0, 6, .inl (Af 6))), ((Aa 7), .inl (tc 0, 6, .inl (Af 7))), ((Aa 8), .inl (tc 0, 6, .inl (Af 8)))] H := hP₀
  replace hD : va_D A [((Ra 0), .inr (6, [.ref (Ra 1), .ref (Ra 2)])), ((Ra 1), .inl (tc 0, Rn, .inl (Rf 1))), ((Ra 2), .inl (tc 1, 64, .inr (.inl (Rg 2)))), ((Aa 0), .inr (9, [.int (Av 0), .int (Av 1), .int (Av 2), .int (Av 3), .int (Av 4), .int (Av 5), .ref (Aa 1), .ref (Aa 2), .ref (Aa 3), .ref (Aa 4), .ref (Aa 5), .ref (Aa 6), .ref (Aa 7), .ref (Aa 8)])), ((Aa 1), .inl (tc 0, 10, .inl (Af 1))), ((Aa 2), .inl (tc 0, 10, .inl (Af 2))), ((Aa 3), .inl (tc 0, 6, .inl (Af 3))), ((Aa 4), .inl (tc 0, 6, .inl (Af 4))), ((Aa 5), .inl (tc 0, 6, .inl (Af 5))), ((Aa 6), .inl (tc 0, 6, .inl (Af 6))), ((Aa 7), .inl (tc 0, 6, .inl (Af 7))), ((Aa 8), .inl (tc 0, 6, .inl (Af 8)))] := hD₀
  replace hS := hS₀
  clear hP₀ hD₀ hS₀
  obtain ⟨he_5, hq_7⟩ := he_5
  have er_4 : r_4 = (dX9_stillOn (Af 1) (Av 2) (Av 4)) := hq_7
  refine lv_istore_n (lv' := [(2, .int r_4), (0, .ref (Aa 0)), (1, .ref (Ra 0))]) hx hb dX9_goThroughDay_8 rfl hl (by decide) rfl (fun ls hl₀ => ?_)
  replace hl := hl₀
  clear hl₀
  refine lv_aload_n hx hb dX9_goThroughDay_9 rfl (lv_at hl 1 rfl) ?_
  refine lv_aload_n hx hb dX9_goThroughDay_10 rfl (lv_at hl 1 rfl) ?_
  refine gf_X9_24 hx hb hts hown hK hP 3 rfl rfl dX9_goThroughDay_11 ?_
  refine cV (a := (Aa 0)) (As := [.int (Av 4)]) (rest := []) (wr := [((Ra 0), .inr (6, [.ref (Ra 1), .ref (Ra 2)])), ((Ra 1), .inl (tc 0, Rn, .inl (Rf 1))), ((Ra 2), .inl (tc 1, 64, .inr (.inl (Rg 2))))]) ⟨hx, hb, hml, hown, hts⟩ hK hX hA (cu_dX9_clockOn l D tc sk (Aa 0) (Aa 1) (Aa 2) (Aa 3) (Aa 4) (Aa 5) (Aa 6) (Aa 7) (Aa 8) (Av 0) (Av 1) (Av 2) (Av 3) (Av 4) (Av 5) (Af 1) (Af 2) (Af 3) (Af 4) (Af 5) (Af 6) (Af 7) (Af 8) (Av 4)) k_747 k_744 k_745 k_746 k_98 pl_X9_clockOn ⟨Nat.le_of_ble_eq_true rfl, Nat.le_of_ble_eq_true rfl⟩ rfl rfl (va_recv hK hP (ci := 9) (q0 := 3) rfl rfl) hP hD hS [3, 4, 5, 6, 7, 8, 9, 10, 11] [0, 1, 2] rfl rfl rfl rfl rfl (by decide) rfl hl.1 rfl (Nat.le_of_ble_eq_true rfl) dX9_goThroughDay_14 ⟨Nat.le_of_ble_eq_true rfl, Nat.le_of_ble_eq_true rfl⟩ (fun v_8 u_9 H locs hv_10 hP₀ hD₀ hS₀ => ?_)
  obtain ⟨r_11, rfl, he_12⟩ := hv_10
  have he_12 : (True) ∧ r_11 = (dX9_clockOn (Av 2) (Av 4)) := he_12
  refine W.eq (g2 := F0 m 17 ls [.int r_11]) rfl ?_
  replace hP : va_P D classes [((Ra 0), .inr (6, [.ref (Ra 1), .ref (Ra 2)])), ((Ra 1), .inl (tc 0, Rn, .inl (Rf 1))), ((Ra 2), .inl (tc 1, 64, .inr (.inl (Rg 2)))), ((Aa 0), .inr (9, [.int (Av 0), .int (Av 1), .int (Av 2), .int (Av 3), .int (Av 4), .int (Av 5), .ref (Aa 1), .ref (Aa 2), .ref (Aa 3), .ref (Aa 4), .ref (Aa 5), .ref (Aa 6), .ref (Aa 7), .ref (Aa 8)])), ((Aa 1), .inl (tc 0, 10, .inl (Af 1))), ((Aa 2), .inl (tc 0, 10, .inl (Af 2))), ((Aa 3), .inl (tc 0, 6, .inl (Af 3))), ((Aa 4), .inl (tc 0, 6, .inl (Af 4))), ((Aa 5), .inl (tc 0, 6, .inl (Af 5))), ((Aa 6), .inl (tc 0, 6, .inl (Af 6))), ((Aa 7), .inl (tc 0, 6, .inl (Af 7))), ((Aa 8), .inl (tc 0, 6, .inl (Af 8)))] H := hP₀
  replace hD : va_D A [((Ra 0), .inr (6, [.ref (Ra 1), .ref (Ra 2)])), ((Ra 1), .inl (tc 0, Rn, .inl (Rf 1))), ((Ra 2), .inl (tc 1, 64, .inr (.inl (Rg 2)))), ((Aa 0), .inr (9, [.int (Av 0), .int (Av 1), .int (Av 2), .int (Av 3), .int (Av 4), .int (Av 5), .ref (Aa 1), .ref (Aa 2), .ref (Aa 3), .ref (Aa 4), .ref (Aa 5), .ref (Aa 6), .ref (Aa 7), .ref (Aa 8)])), ((Aa 1), .inl (tc 0, 10, .inl (Af 1))), ((Aa 2), .inl (tc 0, 10, .inl (Af 2))), ((Aa 3), .inl (tc 0, 6, .inl (Af 3))), ((Aa 4), .inl (tc 0, 6, .inl (Af 4))), ((Aa 5), .inl (tc 0, 6, .inl (Af 5))), ((Aa 6), .inl (tc 0, 6, .inl (Af 6))), ((Aa 7), .inl (tc 0, 6, .inl (Af 7))), ((Aa 8), .inl (tc 0, 6, .inl (Af 8)))] := hD₀
  replace hS := hS₀
  clear hP₀ hD₀ hS₀
  obtain ⟨he_12, hq_14⟩ := he_12
  have er_11 : r_11 = (dX9_clockOn (Av 2) (Av 4)) := hq_14
  refine lv_istore_n (lv' := [(3, .int r_11), (2, .int r_4), (0, .ref (Aa 0)), (1, .ref (Ra 0))]) hx hb dX9_goThroughDay_17 rfl hl (by decide) rfl (fun ls hl₀ => ?_)
  replace hl := hl₀
  clear hl₀
  refine lv_aload_n hx hb dX9_goThroughDay_18 rfl (lv_at hl 2 rfl) ?_
  refine lv_iload_n hx hb dX9_goThroughDay_19 rfl (lv_at hl 0 rfl) ?_
  refine cV (a := (Aa 0)) (As := [.int r_11]) (rest := []) (wr := [((Ra 0), .inr (6, [.ref (Ra 1), .ref (Ra 2)])), ((Ra 1), .inl (tc 0, Rn, .inl (Rf 1))), ((Ra 2), .inl (tc 1, 64, .inr (.inl (Rg 2))))]) ⟨hx, hb, hml, hown, hts⟩ hK hX hA (cu_dX9_hasClock l D tc sk (Aa 0) (Aa 1) (Aa 2) (Aa 3) (Aa 4) (Aa 5) (Aa 6) (Aa 7) (Aa 8) (Av 0) (Av 1) (Av 2) (Av 3) (Av 4) (Av 5) (Af 1) (Af 2) (Af 3) (Af 4) (Af 5) (Af 6) (Af 7) (Af 8) r_11) k_579 k_748 k_577 k_578 k_98 pl_X9_hasClock ⟨Nat.le_of_ble_eq_true rfl, Nat.le_of_ble_eq_true rfl⟩ rfl rfl (va_recv hK hP (ci := 9) (q0 := 3) rfl rfl) hP hD hS [3, 4, 5, 6, 7, 8, 9, 10, 11] [0, 1, 2] rfl rfl rfl rfl rfl (by decide) rfl hl.1 rfl (Nat.le_of_ble_eq_true rfl) dX9_goThroughDay_20 ⟨Nat.le_of_ble_eq_true rfl, Nat.le_of_ble_eq_true rfl⟩ (fun v_15 u_16 H locs hv_17 hP₀ hD₀ hS₀ => ?_)
  obtain ⟨r_18, rfl, he_19⟩ := hv_17
  have he_19 : ((r_18.toInt = 0 ∨ (r_18.toInt = 1 ∧ 0 ≤ r_11.toInt ∧ r_11.toInt < 10))) ∧ r_18 = (dX9_hasClock (Av 2) r_11) := he_19
  refine W.eq (g2 := F0 m 23 ls [.int r_18]) rfl ?_
  replace hP : va_P D classes [((Ra 0), .inr (6, [.ref (Ra 1), .ref (Ra 2)])), ((Ra 1), .inl (tc 0, Rn, .inl (Rf 1))), ((Ra 2), .inl (tc 1, 64, .inr (.inl (Rg 2)))), ((Aa 0), .inr (9, [.int (Av 0), .int (Av 1), .int (Av 2), .int (Av 3), .int (Av 4), .int (Av 5), .ref (Aa 1), .ref (Aa 2), .ref (Aa 3), .ref (Aa 4), .ref (Aa 5), .ref (Aa 6), .ref (Aa 7), .ref (Aa 8)])), ((Aa 1), .inl (tc 0, 10, .inl (Af 1))), ((Aa 2), .inl (tc 0, 10, .inl (Af 2))), ((Aa 3), .inl (tc 0, 6, .inl (Af 3))), ((Aa 4), .inl (tc 0, 6, .inl (Af 4))), ((Aa 5), .inl (tc 0, 6, .inl (Af 5))), ((Aa 6), .inl (tc 0, 6, .inl (Af 6))), ((Aa 7), .inl (tc 0, 6, .inl (Af 7))), ((Aa 8), .inl (tc 0, 6, .inl (Af 8)))] H := hP₀
  replace hD : va_D A [((Ra 0), .inr (6, [.ref (Ra 1), .ref (Ra 2)])), ((Ra 1), .inl (tc 0, Rn, .inl (Rf 1))), ((Ra 2), .inl (tc 1, 64, .inr (.inl (Rg 2)))), ((Aa 0), .inr (9, [.int (Av 0), .int (Av 1), .int (Av 2), .int (Av 3), .int (Av 4), .int (Av 5), .ref (Aa 1), .ref (Aa 2), .ref (Aa 3), .ref (Aa 4), .ref (Aa 5), .ref (Aa 6), .ref (Aa 7), .ref (Aa 8)])), ((Aa 1), .inl (tc 0, 10, .inl (Af 1))), ((Aa 2), .inl (tc 0, 10, .inl (Af 2))), ((Aa 3), .inl (tc 0, 6, .inl (Af 3))), ((Aa 4), .inl (tc 0, 6, .inl (Af 4))), ((Aa 5), .inl (tc 0, 6, .inl (Af 5))), ((Aa 6), .inl (tc 0, 6, .inl (Af 6))), ((Aa 7), .inl (tc 0, 6, .inl (Af 7))), ((Aa 8), .inl (tc 0, 6, .inl (Af 8)))] := hD₀
  replace hS := hS₀
  clear hP₀ hD₀ hS₀
  obtain ⟨he_19, hq_21⟩ := he_19
  have er_18 : r_18 = (dX9_hasClock (Av 2) r_11) := hq_21
  refine lv_if_eq (tgt := 35) hx hb dX9_goThroughDay_23 (by decide) (fun c_22 => ?_) (fun c_22 => ?_)
  · skip
    refine lv_iconst (v := 0) hx hb dX9_goThroughDay_35 (by decide) ?_
    refine lv_istore (lv' := [(4, .int 0), (3, .int r_11), (2, .int r_4), (0, .ref (Aa 0)), (1, .ref (Ra 0))]) hx hb dX9_goThroughDay_36 hl (by decide) rfl (fun ls hl₀ => ?_)
    replace hl := hl₀
    clear hl₀
    refine lv_iconst (v := 0) hx hb dX9_goThroughDay_38 (by decide) ?_
    refine lv_istore (lv' := [(5, .int 0), (4, .int 0), (3, .int r_11), (2, .int r_4), (0, .ref (Aa 0)), (1, .ref (Ra 0))]) hx hb dX9_goThroughDay_39 hl (by decide) rfl (fun ls hl₀ => ?_)
    replace hl := hl₀
    clear hl₀
    refine lv_iconst (v := 0) hx hb dX9_goThroughDay_41 (by decide) ?_
    refine lv_istore (lv' := [(6, .int 0), (5, .int 0), (4, .int 0), (3, .int r_11), (2, .int r_4), (0, .ref (Aa 0)), (1, .ref (Ra 0))]) hx hb dX9_goThroughDay_42 hl (by decide) rfl (fun ls hl₀ => ?_)
    replace hl := hl₀
    clear hl₀
    have loop_25 : ∀ (n_23 : Nat) (yy_4500 : Int32) (yy_4501 : Nat → Int64) (yy_4502 : Int32) (yy_4503 : Int32) (yy_4504 : Int32) (yy_4505 : Nat → Int32) (yy_4506 : Nat → Int32) (yy_4507 : Nat → Int32) (yy_4508 : Nat → Int32) (H : Heap) (locs : List Loc) (ls : Array Slot), (6 - (yy_4500 : Int32).toInt).toNat < n_23 → (dX9_goThroughDay_r_l44 (Af 1) (Af 4) (Af 5) (Av 2) (Av 3) (Av 4) (Rf 1) Rn (0 : Int32) ((6 - (0 : Int32).toInt).toNat + 1) (0 : Int32) (Rg 2) (0 : Int32) (Av 0) (Av 5) (Af 3) (Af 6) (Af 8) (Af 7)) = dX9_goThroughDay_r_l44 (Af 1) (Af 4) (Af 5) (Av 2) (Av 3) (Av 4) (Rf 1) Rn (0 : Int32) ((6 - (yy_4500 : Int32).toInt).toNat + 1) yy_4500 yy_4501 yy_4502 yy_4503 yy_4504 yy_4505 yy_4506 yy_4507 yy_4508 → (0 ≤ (yy_4500 : Int32).toInt) → va_P D classes [((Ra 0), .inr (6, [.ref (Ra 1), .ref (Ra 2)])), ((Ra 1), .inl (tc 0, Rn, .inl (Rf 1))), ((Ra 2), .inl (tc 1, 64, .inr (.inl yy_4501))), ((Aa 0), .inr (9, [.int yy_4503, .int (Av 1), .int (Av 2), .int (Av 3), .int (Av 4), .int yy_4504, .ref (Aa 1), .ref (Aa 2), .ref (Aa 3), .ref (Aa 4), .ref (Aa 5), .ref (Aa 6), .ref (Aa 7), .ref (Aa 8)])), ((Aa 1), .inl (tc 0, 10, .inl (Af 1))), ((Aa 2), .inl (tc 0, 10, .inl (Af 2))), ((Aa 3), .inl (tc 0, 6, .inl yy_4505)), ((Aa 4), .inl (tc 0, 6, .inl (Af 4))), ((Aa 5), .inl (tc 0, 6, .inl (Af 5))), ((Aa 6), .inl (tc 0, 6, .inl yy_4506)), ((Aa 7), .inl (tc 0, 6, .inl yy_4508)), ((Aa 8), .inl (tc 0, 6, .inl yy_4507))] H → va_D A [((Ra 0), .inr (6, [.ref (Ra 1), .ref (Ra 2)])), ((Ra 1), .inl (tc 0, Rn, .inl (Rf 1))), ((Ra 2), .inl (tc 1, 64, .inr (.inl yy_4501))), ((Aa 0), .inr (9, [.int yy_4503, .int (Av 1), .int (Av 2), .int (Av 3), .int (Av 4), .int yy_4504, .ref (Aa 1), .ref (Aa 2), .ref (Aa 3), .ref (Aa 4), .ref (Aa 5), .ref (Aa 6), .ref (Aa 7), .ref (Aa 8)])), ((Aa 1), .inl (tc 0, 10, .inl (Af 1))), ((Aa 2), .inl (tc 0, 10, .inl (Af 2))), ((Aa 3), .inl (tc 0, 6, .inl yy_4505)), ((Aa 4), .inl (tc 0, 6, .inl (Af 4))), ((Aa 5), .inl (tc 0, 6, .inl (Af 5))), ((Aa 6), .inl (tc 0, 6, .inl yy_4506)), ((Aa 7), .inl (tc 0, 6, .inl yy_4508)), ((Aa 8), .inl (tc 0, 6, .inl yy_4507))] → va_S A s.heap H locs → lv_has ls 8 [(6, .int yy_4500), (5, .int yy_4502), (4, .int 0), (3, .int r_11), (2, .int r_4), (0, .ref (Aa 0)), (1, .ref (Ra 0))] → W p l e ({ frames := 4, cells := 0, slots := 0, locals := 89 }) s m ([.ref (Aa 0), .ref (Ra 0)].toArray) below meth c H locs 0 0 (MQ below (QW (fun (v : Option Value) (u : (Int32) × (Int32) × (Int32) × (Nat → Int32) × (Nat → Int32) × (Nat → Int32) × (Nat → Int32) × (Nat → Int64)) => match u with | (oo0x1, oo0x2, oo0x3, oo0x4, oo0x5, oo0x6, oo0x7, oo0x8) => ∃ r : Int32, v = some (.int r) ∧ ((True) ∧ (r, oo0x1, oo0x2, oo0x3, oo0x4, oo0x5, oo0x6, oo0x7, oo0x8) = (dX9_goThroughDay_r (Af 1) (Af 2) (Af 3) (Af 4) (Af 5) (Af 6) (Af 7) (Af 8) (Av 0) (Av 1) (Av 2) (Av 3) (Av 4) (Av 5) (Rf 1) (Rg 2) Rn))) (BW D (fun (u : (Int32) × (Int32) × (Int32) × (Nat → Int32) × (Nat → Int32) × (Nat → Int32) × (Nat → Int32) × (Nat → Int64)) => match u with | (oo0x1, oo0x2, oo0x3, oo0x4, oo0x5, oo0x6, oo0x7, oo0x8) => [((Aa 0), .inr (9, [.int oo0x1, .int (Av 1), .int (Av 2), .int (Av 3), .int oo0x2, .int oo0x3, .ref (Aa 1), .ref (Aa 2), .ref (Aa 3), .ref (Aa 4), .ref (Aa 5), .ref (Aa 6), .ref (Aa 7), .ref (Aa 8)])), ((Aa 1), .inl (tc 0, 10, .inl (Af 1))), ((Aa 2), .inl (tc 0, 10, .inl (Af 2))), ((Aa 3), .inl (tc 0, 6, .inl oo0x4)), ((Aa 4), .inl (tc 0, 6, .inl (Af 4))), ((Aa 5), .inl (tc 0, 6, .inl (Af 5))), ((Aa 6), .inl (tc 0, 6, .inl oo0x5)), ((Aa 7), .inl (tc 0, 6, .inl oo0x6)), ((Aa 8), .inl (tc 0, 6, .inl oo0x7)), ((Ra 0), .inr (6, [.ref (Ra 1), .ref (Ra 2)])), ((Ra 1), .inl (tc 0, Rn, .inl (Rf 1))), ((Ra 2), .inl (tc 1, 64, .inr (.inl oo0x8)))]) A) A) ([.ref (Aa 0), .ref (Ra 0)].toArray) s 0 0 A) (F0 m 44 ls []) := by
      clear hP hD hS hl
      intro n_23
      induction n_23 with
      | zero =>
        intro yy_4500 yy_4501 yy_4502 yy_4503 yy_4504 yy_4505 yy_4506 yy_4507 yy_4508 H locs ls h1
        exact absurd h1 (Nat.not_lt_zero _)
      | succ n_23 ih_24 =>
        intro yy_4500 yy_4501 yy_4502 yy_4503 yy_4504 yy_4505 yy_4506 yy_4507 yy_4508 H locs ls hn_28 hL_27 pf_26 hP hD hS hl
        refine lv_iload hx hb dX9_goThroughDay_44 (lv_at hl 0 rfl) ?_
        refine lv_aload_n hx hb dX9_goThroughDay_46 rfl (lv_at hl 5 rfl) ?_
        refine gf_X9_21 hx hb hts hown hK hP 3 rfl rfl dX9_goThroughDay_47 ?_
        refine lv_icmp_ge (tgt := 183) hx hb dX9_goThroughDay_50 (by decide) (fun c_29 => ?_) (fun c_29 => ?_)
        · skip
          have hb_31 : dX9_goThroughDay_r_l44 (Af 1) (Af 4) (Af 5) (Av 2) (Av 3) (Av 4) (Rf 1) Rn (0 : Int32) ((6 - (yy_4500 : Int32).toInt).toNat + 1) yy_4500 yy_4501 yy_4502 yy_4503 yy_4504 yy_4505 yy_4506 yy_4507 yy_4508 = (yy_4500, yy_4501, yy_4502, yy_4503, yy_4504, yy_4505, yy_4506, yy_4507, yy_4508) := by
            clear hP hD hS hl ih_24
            replace er_4 := er_4.symm; subst er_4
            replace er_11 := er_11.symm; subst er_11
            replace er_18 := er_18.symm; subst er_18
            rw [dX9_goThroughDay_r_l44_s]
            rw [if_pos c_29]
            try rfl
          have hX_30 : (dX9_goThroughDay_r_l44 (Af 1) (Af 4) (Af 5) (Av 2) (Av 3) (Av 4) (Rf 1) Rn (0 : Int32) ((6 - (0 : Int32).toInt).toNat + 1) (0 : Int32) (Rg 2) (0 : Int32) (Av 0) (Av 5) (Af 3) (Af 6) (Af 8) (Af 7)) = (yy_4500, yy_4501, yy_4502, yy_4503, yy_4504, yy_4505, yy_4506, yy_4507, yy_4508) := hL_27.trans hb_31
          have hX_30_0 : (dX9_goThroughDay_r_l44 (Af 1) (Af 4) (Af 5) (Av 2) (Av 3) (Av 4) (Rf 1) Rn (0 : Int32) ((6 - (0 : Int32).toInt).toNat + 1) (0 : Int32) (Rg 2) (0 : Int32) (Av 0) (Av 5) (Af 3) (Af 6) (Af 8) (Af 7)).1 = yy_4500 := congrArg (fun z => z.1) hX_30
          have hX_30_1 : (dX9_goThroughDay_r_l44 (Af 1) (Af 4) (Af 5) (Av 2) (Av 3) (Av 4) (Rf 1) Rn (0 : Int32) ((6 - (0 : Int32).toInt).toNat + 1) (0 : Int32) (Rg 2) (0 : Int32) (Av 0) (Av 5) (Af 3) (Af 6) (Af 8) (Af 7)).2.1 = yy_4501 := congrArg (fun z => z.2.1) hX_30
          have hX_30_2 : (dX9_goThroughDay_r_l44 (Af 1) (Af 4) (Af 5) (Av 2) (Av 3) (Av 4) (Rf 1) Rn (0 : Int32) ((6 - (0 : Int32).toInt).toNat + 1) (0 : Int32) (Rg 2) (0 : Int32) (Av 0) (Av 5) (Af 3) (Af 6) (Af 8) (Af 7)).2.2.1 = yy_4502 := congrArg (fun z => z.2.2.1) hX_30
          have hX_30_3 : (dX9_goThroughDay_r_l44 (Af 1) (Af 4) (Af 5) (Av 2) (Av 3) (Av 4) (Rf 1) Rn (0 : Int32) ((6 - (0 : Int32).toInt).toNat + 1) (0 : Int32) (Rg 2) (0 : Int32) (Av 0) (Av 5) (Af 3) (Af 6) (Af 8) (Af 7)).2.2.2.1 = yy_4503 := congrArg (fun z => z.2.2.2.1) hX_30
          have hX_30_4 : (dX9_goThroughDay_r_l44 (Af 1) (Af 4) (Af 5) (Av 2) (Av 3) (Av 4) (Rf 1) Rn (0 : Int32) ((6 - (0 : Int32).toInt).toNat + 1) (0 : Int32) (Rg 2) (0 : Int32) (Av 0) (Av 5) (Af 3) (Af 6) (Af 8) (Af 7)).2.2.2.2.1 = yy_4504 := congrArg (fun z => z.2.2.2.2.1) hX_30
          have hX_30_5 : (dX9_goThroughDay_r_l44 (Af 1) (Af 4) (Af 5) (Av 2) (Av 3) (Av 4) (Rf 1) Rn (0 : Int32) ((6 - (0 : Int32).toInt).toNat + 1) (0 : Int32) (Rg 2) (0 : Int32) (Av 0) (Av 5) (Af 3) (Af 6) (Af 8) (Af 7)).2.2.2.2.2.1 = yy_4505 := congrArg (fun z => z.2.2.2.2.2.1) hX_30
          have hX_30_6 : (dX9_goThroughDay_r_l44 (Af 1) (Af 4) (Af 5) (Av 2) (Av 3) (Av 4) (Rf 1) Rn (0 : Int32) ((6 - (0 : Int32).toInt).toNat + 1) (0 : Int32) (Rg 2) (0 : Int32) (Av 0) (Av 5) (Af 3) (Af 6) (Af 8) (Af 7)).2.2.2.2.2.2.1 = yy_4506 := congrArg (fun z => z.2.2.2.2.2.2.1) hX_30
          have hX_30_7 : (dX9_goThroughDay_r_l44 (Af 1) (Af 4) (Af 5) (Av 2) (Av 3) (Av 4) (Rf 1) Rn (0 : Int32) ((6 - (0 : Int32).toInt).toNat + 1) (0 : Int32) (Rg 2) (0 : Int32) (Av 0) (Av 5) (Af 3) (Af 6) (Af 8) (Af 7)).2.2.2.2.2.2.2.1 = yy_4507 := congrArg (fun z => z.2.2.2.2.2.2.2.1) hX_30
          have hX_30_8 : (dX9_goThroughDay_r_l44 (Af 1) (Af 4) (Af 5) (Av 2) (Av 3) (Av 4) (Rf 1) Rn (0 : Int32) ((6 - (0 : Int32).toInt).toNat + 1) (0 : Int32) (Rg 2) (0 : Int32) (Av 0) (Av 5) (Af 3) (Af 6) (Af 8) (Af 7)).2.2.2.2.2.2.2.2 = yy_4508 := congrArg (fun z => z.2.2.2.2.2.2.2.2) hX_30
          refine lv_aload_n hx hb dX9_goThroughDay_183 rfl (lv_at hl 5 rfl) ?_
          refine lv_iload_n hx hb dX9_goThroughDay_184 rfl (lv_at hl 4 rfl) ?_
          refine cV (a := (Aa 0)) (As := [.int r_4]) (rest := []) (wr := [((Ra 0), .inr (6, [.ref (Ra 1), .ref (Ra 2)])), ((Ra 1), .inl (tc 0, Rn, .inl (Rf 1))), ((Ra 2), .inl (tc 1, 64, .inr (.inl yy_4501)))]) ⟨hx, hb, hml, hown, hts⟩ hK hX hA (cu_dX9_changeTempers l D tc sk (Aa 0) (Aa 1) (Aa 2) (Aa 3) (Aa 4) (Aa 5) (Aa 6) (Aa 7) (Aa 8) yy_4503 (Av 1) (Av 2) (Av 3) (Av 4) yy_4504 (Af 1) (Af 2) yy_4505 (Af 4) (Af 5) yy_4506 yy_4508 yy_4507 r_4) k_779 k_776 k_778 k_15 k_98 pl_X9_changeTempers ⟨Nat.le_of_ble_eq_true rfl, Nat.le_of_ble_eq_true rfl⟩ rfl rfl (va_recv hK hP (ci := 9) (q0 := 3) rfl rfl) hP hD hS [3, 4, 5, 6, 7, 8, 9, 10, 11] [0, 1, 2] rfl rfl rfl rfl rfl (by decide) rfl hl.1 rfl (Nat.le_of_ble_eq_true rfl) dX9_goThroughDay_185 ⟨Nat.le_of_ble_eq_true rfl, Nat.le_of_ble_eq_true rfl⟩ (fun v_32 u_33 H locs hv_34 hP₀ hD₀ hS₀ => ?_)
          obtain ⟨sv_35, rfl⟩ : ∃ z, z = u_33 := ⟨_, rfl⟩
          obtain ⟨rfl, pf_36⟩ := hv_34
          have pf_36 : DEq (sv_35) (dX9_changeTempers yy_4505 (Av 3) r_4) := pf_36
          refine W.eq (g2 := F0 m 188 ls []) rfl ?_
          replace hP : va_P D classes [((Ra 0), .inr (6, [.ref (Ra 1), .ref (Ra 2)])), ((Ra 1), .inl (tc 0, Rn, .inl (Rf 1))), ((Ra 2), .inl (tc 1, 64, .inr (.inl yy_4501))), ((Aa 0), .inr (9, [.int yy_4503, .int (Av 1), .int (Av 2), .int (Av 3), .int (Av 4), .int yy_4504, .ref (Aa 1), .ref (Aa 2), .ref (Aa 3), .ref (Aa 4), .ref (Aa 5), .ref (Aa 6), .ref (Aa 7), .ref (Aa 8)])), ((Aa 1), .inl (tc 0, 10, .inl (Af 1))), ((Aa 2), .inl (tc 0, 10, .inl (Af 2))), ((Aa 3), .inl (tc 0, 6, .inl sv_35)), ((Aa 4), .inl (tc 0, 6, .inl (Af 4))), ((Aa 5), .inl (tc 0, 6, .inl (Af 5))), ((Aa 6), .inl (tc 0, 6, .inl yy_4506)), ((Aa 7), .inl (tc 0, 6, .inl yy_4508)), ((Aa 8), .inl (tc 0, 6, .inl yy_4507))] H := hP₀
          replace hD : va_D A [((Ra 0), .inr (6, [.ref (Ra 1), .ref (Ra 2)])), ((Ra 1), .inl (tc 0, Rn, .inl (Rf 1))), ((Ra 2), .inl (tc 1, 64, .inr (.inl yy_4501))), ((Aa 0), .inr (9, [.int yy_4503, .int (Av 1), .int (Av 2), .int (Av 3), .int (Av 4), .int yy_4504, .ref (Aa 1), .ref (Aa 2), .ref (Aa 3), .ref (Aa 4), .ref (Aa 5), .ref (Aa 6), .ref (Aa 7), .ref (Aa 8)])), ((Aa 1), .inl (tc 0, 10, .inl (Af 1))), ((Aa 2), .inl (tc 0, 10, .inl (Af 2))), ((Aa 3), .inl (tc 0, 6, .inl sv_35)), ((Aa 4), .inl (tc 0, 6, .inl (Af 4))), ((Aa 5), .inl (tc 0, 6, .inl (Af 5))), ((Aa 6), .inl (tc 0, 6, .inl yy_4506)), ((Aa 7), .inl (tc 0, 6, .inl yy_4508)), ((Aa 8), .inl (tc 0, 6, .inl yy_4507))] := hD₀
          replace hS := hS₀
          clear hP₀ hD₀ hS₀
          have esv_35 : sv_35 = (dX9_changeTempers yy_4505 (Av 3) r_4) := pf_36
          refine lv_aload_n hx hb dX9_goThroughDay_188 rfl (lv_at hl 5 rfl) ?_
          refine gf_X9_24 hx hb hts hown hK hP 3 rfl rfl dX9_goThroughDay_189 ?_
          refine lv_bipush (v := 7) hx hb dX9_goThroughDay_192 (by decide) ?_
          refine lv_irem hx hb dX9_goThroughDay_194 (by decide) ?_
          refine lv_topi (fun x_37 ex_37 => ?_)
          refine lv_bipush (v := 6) hx hb dX9_goThroughDay_195 (by decide) ?_
          refine lv_icmp_ne (tgt := 218) hx hb dX9_goThroughDay_197 (by decide) (fun c_38 => ?_) (fun c_38 => ?_)
          · skip
            refine lv_aload_n hx hb dX9_goThroughDay_218 rfl (lv_at hl 5 rfl) ?_
            refine lv_dup hx hb dX9_goThroughDay_219 rfl ?_
            refine gf_X9_24 hx hb hts hown hK hP 3 rfl rfl dX9_goThroughDay_220 ?_
            refine lv_iconst (v := 1) hx hb dX9_goThroughDay_223 (by decide) ?_
            refine lv_iadd hx hb dX9_goThroughDay_224 ?_
            refine lv_topi (fun x_39 ex_39 => ?_)
            refine pf_X9_24 hx hb hts hown hK hP hD hS 3 rfl (Nat.le_of_ble_eq_true rfl) rfl rfl dX9_goThroughDay_225 (fun H locs hP₀ hD₀ hS₀ => ?_)
            replace hP : va_P D classes [((Ra 0), .inr (6, [.ref (Ra 1), .ref (Ra 2)])), ((Ra 1), .inl (tc 0, Rn, .inl (Rf 1))), ((Ra 2), .inl (tc 1, 64, .inr (.inl yy_4501))), ((Aa 0), .inr (9, [.int yy_4503, .int (Av 1), .int (Av 2), .int (Av 3), .int x_39, .int yy_4504, .ref (Aa 1), .ref (Aa 2), .ref (Aa 3), .ref (Aa 4), .ref (Aa 5), .ref (Aa 6), .ref (Aa 7), .ref (Aa 8)])), ((Aa 1), .inl (tc 0, 10, .inl (Af 1))), ((Aa 2), .inl (tc 0, 10, .inl (Af 2))), ((Aa 3), .inl (tc 0, 6, .inl sv_35)), ((Aa 4), .inl (tc 0, 6, .inl (Af 4))), ((Aa 5), .inl (tc 0, 6, .inl (Af 5))), ((Aa 6), .inl (tc 0, 6, .inl yy_4506)), ((Aa 7), .inl (tc 0, 6, .inl yy_4508)), ((Aa 8), .inl (tc 0, 6, .inl yy_4507))] H := hP₀
            replace hD : va_D A [((Ra 0), .inr (6, [.ref (Ra 1), .ref (Ra 2)])), ((Ra 1), .inl (tc 0, Rn, .inl (Rf 1))), ((Ra 2), .inl (tc 1, 64, .inr (.inl yy_4501))), ((Aa 0), .inr (9, [.int yy_4503, .int (Av 1), .int (Av 2), .int (Av 3), .int x_39, .int yy_4504, .ref (Aa 1), .ref (Aa 2), .ref (Aa 3), .ref (Aa 4), .ref (Aa 5), .ref (Aa 6), .ref (Aa 7), .ref (Aa 8)])), ((Aa 1), .inl (tc 0, 10, .inl (Af 1))), ((Aa 2), .inl (tc 0, 10, .inl (Af 2))), ((Aa 3), .inl (tc 0, 6, .inl sv_35)), ((Aa 4), .inl (tc 0, 6, .inl (Af 4))), ((Aa 5), .inl (tc 0, 6, .inl (Af 5))), ((Aa 6), .inl (tc 0, 6, .inl yy_4506)), ((Aa 7), .inl (tc 0, 6, .inl yy_4508)), ((Aa 8), .inl (tc 0, 6, .inl yy_4507))] := hD₀
            replace hS := hS₀
            clear hP₀ hD₀ hS₀
            refine lv_iload hx hb dX9_goThroughDay_228 (lv_at hl 1 rfl) ?_
            have hF_40 : (yy_4502, yy_4503, x_39, yy_4504, sv_35, yy_4506, yy_4508, yy_4507, yy_4501) = (dX9_goThroughDay_r (Af 1) (Af 2) (Af 3) (Af 4) (Af 5) (Af 6) (Af 7) (Af 8) (Av 0) (Av 1) (Av 2) (Av 3) (Av 4) (Av 5) (Rf 1) (Rg 2) Rn) := by
              clear hP hD hS hl ih_24
              replace er_4 := er_4.symm; subst er_4
              replace er_11 := er_11.symm; subst er_11
              replace er_18 := er_18.symm; subst er_18
              replace esv_35 := esv_35.symm; subst esv_35
              replace ex_37 := ex_37.symm; subst ex_37
              replace ex_39 := ex_39.symm; subst ex_39
              unfold dX9_goThroughDay_r
              try rw [hX_30_0]
              try rw [hX_30_1]
              try rw [hX_30_2]
              try rw [hX_30_3]
              try rw [hX_30_4]
              try rw [hX_30_5]
              try rw [hX_30_6]
              try rw [hX_30_7]
              try rw [hX_30_8]
              rw [if_pos c_22, if_neg c_38]
              try rfl
            exact retI (v := yy_4502) hx hb hr hlk (rfl) hP hD hS (yy_4503, x_39, yy_4504, sv_35, yy_4506, yy_4508, yy_4507, yy_4501) ⟨_, rfl, ⟨trivial, hF_40⟩⟩ [3, 4, 5, 6, 7, 8, 9, 10, 11, 0, 1, 2] rfl rfl dX9_goThroughDay_230 (Nat.le_of_ble_eq_true rfl) (Nat.le_of_ble_eq_true rfl) rfl
          · skip
            refine lv_aload_n hx hb dX9_goThroughDay_200 rfl (lv_at hl 5 rfl) ?_
            refine lv_bipush (v := 99) hx hb dX9_goThroughDay_201 (by decide) ?_
            refine lv_aload_n hx hb dX9_goThroughDay_203 rfl (lv_at hl 5 rfl) ?_
            refine gf_X9_9 hx hb hts hown hK hP 3 rfl rfl dX9_goThroughDay_204 ?_
            refine lv_aload_n hx hb dX9_goThroughDay_207 rfl (lv_at hl 5 rfl) ?_
            refine gf_X9_15 hx hb hts hown hK hP 3 rfl rfl dX9_goThroughDay_208 ?_
            refine lv_iadd hx hb dX9_goThroughDay_211 ?_
            refine lv_topi (fun x_41 ex_41 => ?_)
            refine va_mmin hx hb (hml.trans hl.1.symm) hown (hts _ k_780) (hts _ k_680) (hts _ k_114) (hts _ k_681) (Nat.le_of_ble_eq_true rfl) (Nat.le_of_ble_eq_true rfl) (Nat.le_of_ble_eq_true rfl) (Nat.le_of_ble_eq_true rfl) dX9_goThroughDay_212 ?_
            refine lv_topi (fun x_42 ex_42 => ?_)
            have mx_42 := imin_f ex_42
            rw [show (99 : Int32).toInt = 99 by decide] at mx_42
            refine pf_X9_9 hx hb hts hown hK hP hD hS 3 rfl (Nat.le_of_ble_eq_true rfl) rfl rfl dX9_goThroughDay_215 (fun H locs hP₀ hD₀ hS₀ => ?_)
            replace hP : va_P D classes [((Ra 0), .inr (6, [.ref (Ra 1), .ref (Ra 2)])), ((Ra 1), .inl (tc 0, Rn, .inl (Rf 1))), ((Ra 2), .inl (tc 1, 64, .inr (.inl yy_4501))), ((Aa 0), .inr (9, [.int x_42, .int (Av 1), .int (Av 2), .int (Av 3), .int (Av 4), .int yy_4504, .ref (Aa 1), .ref (Aa 2), .ref (Aa 3), .ref (Aa 4), .ref (Aa 5), .ref (Aa 6), .ref (Aa 7), .ref (Aa 8)])), ((Aa 1), .inl (tc 0, 10, .inl (Af 1))), ((Aa 2), .inl (tc 0, 10, .inl (Af 2))), ((Aa 3), .inl (tc 0, 6, .inl sv_35)), ((Aa 4), .inl (tc 0, 6, .inl (Af 4))), ((Aa 5), .inl (tc 0, 6, .inl (Af 5))), ((Aa 6), .inl (tc 0, 6, .inl yy_4506)), ((Aa 7), .inl (tc 0, 6, .inl yy_4508)), ((Aa 8), .inl (tc 0, 6, .inl yy_4507))] H := hP₀
            replace hD : va_D A [((Ra 0), .inr (6, [.ref (Ra 1), .ref (Ra 2)])), ((Ra 1), .inl (tc 0, Rn, .inl (Rf 1))), ((Ra 2), .inl (tc 1, 64, .inr (.inl yy_4501))), ((Aa 0), .inr (9, [.int x_42, .int (Av 1), .int (Av 2), .int (Av 3), .int (Av 4), .int yy_4504, .ref (Aa 1), .ref (Aa 2), .ref (Aa 3), .ref (Aa 4), .ref (Aa 5), .ref (Aa 6), .ref (Aa 7), .ref (Aa 8)])), ((Aa 1), .inl (tc 0, 10, .inl (Af 1))), ((Aa 2), .inl (tc 0, 10, .inl (Af 2))), ((Aa 3), .inl (tc 0, 6, .inl sv_35)), ((Aa 4), .inl (tc 0, 6, .inl (Af 4))), ((Aa 5), .inl (tc 0, 6, .inl (Af 5))), ((Aa 6), .inl (tc 0, 6, .inl yy_4506)), ((Aa 7), .inl (tc 0, 6, .inl yy_4508)), ((Aa 8), .inl (tc 0, 6, .inl yy_4507))] := hD₀
            replace hS := hS₀
            clear hP₀ hD₀ hS₀
            refine lv_aload_n hx hb dX9_goThroughDay_218 rfl (lv_at hl 5 rfl) ?_
            refine lv_dup hx hb dX9_goThroughDay_219 rfl ?_
            refine gf_X9_24 hx hb hts hown hK hP 3 rfl rfl dX9_goThroughDay_220 ?_
            refine lv_iconst (v := 1) hx hb dX9_goThroughDay_223 (by decide) ?_
            refine lv_iadd hx hb dX9_goThroughDay_224 ?_
            refine lv_topi (fun x_43 ex_43 => ?_)
            refine pf_X9_24 hx hb hts hown hK hP hD hS 3 rfl (Nat.le_of_ble_eq_true rfl) rfl rfl dX9_goThroughDay_225 (fun H locs hP₀ hD₀ hS₀ => ?_)
            replace hP : va_P D classes [((Ra 0), .inr (6, [.ref (Ra 1), .ref (Ra 2)])), ((Ra 1), .inl (tc 0, Rn, .inl (Rf 1))), ((Ra 2), .inl (tc 1, 64, .inr (.inl yy_4501))), ((Aa 0), .inr (9, [.int x_42, .int (Av 1), .int (Av 2), .int (Av 3), .int x_43, .int yy_4504, .ref (Aa 1), .ref (Aa 2), .ref (Aa 3), .ref (Aa 4), .ref (Aa 5), .ref (Aa 6), .ref (Aa 7), .ref (Aa 8)])), ((Aa 1), .inl (tc 0, 10, .inl (Af 1))), ((Aa 2), .inl (tc 0, 10, .inl (Af 2))), ((Aa 3), .inl (tc 0, 6, .inl sv_35)), ((Aa 4), .inl (tc 0, 6, .inl (Af 4))), ((Aa 5), .inl (tc 0, 6, .inl (Af 5))), ((Aa 6), .inl (tc 0, 6, .inl yy_4506)), ((Aa 7), .inl (tc 0, 6, .inl yy_4508)), ((Aa 8), .inl (tc 0, 6, .inl yy_4507))] H := hP₀
            replace hD : va_D A [((Ra 0), .inr (6, [.ref (Ra 1), .ref (Ra 2)])), ((Ra 1), .inl (tc 0, Rn, .inl (Rf 1))), ((Ra 2), .inl (tc 1, 64, .inr (.inl yy_4501))), ((Aa 0), .inr (9, [.int x_42, .int (Av 1), .int (Av 2), .int (Av 3), .int x_43, .int yy_4504, .ref (Aa 1), .ref (Aa 2), .ref (Aa 3), .ref (Aa 4), .ref (Aa 5), .ref (Aa 6), .ref (Aa 7), .ref (Aa 8)])), ((Aa 1), .inl (tc 0, 10, .inl (Af 1))), ((Aa 2), .inl (tc 0, 10, .inl (Af 2))), ((Aa 3), .inl (tc 0, 6, .inl sv_35)), ((Aa 4), .inl (tc 0, 6, .inl (Af 4))), ((Aa 5), .inl (tc 0, 6, .inl (Af 5))), ((Aa 6), .inl (tc 0, 6, .inl yy_4506)), ((Aa 7), .inl (tc 0, 6, .inl yy_4508)), ((Aa 8), .inl (tc 0, 6, .inl yy_4507))] := hD₀
            replace hS := hS₀
            clear hP₀ hD₀ hS₀
            refine lv_iload hx hb dX9_goThroughDay_228 (lv_at hl 1 rfl) ?_
            have hF_44 : (yy_4502, x_42, x_43, yy_4504, sv_35, yy_4506, yy_4508, yy_4507, yy_4501) = (dX9_goThroughDay_r (Af 1) (Af 2) (Af 3) (Af 4) (Af 5) (Af 6) (Af 7) (Af 8) (Av 0) (Av 1) (Av 2) (Av 3) (Av 4) (Av 5) (Rf 1) (Rg 2) Rn) := by
              clear hP hD hS hl ih_24
              replace er_4 := er_4.symm; subst er_4
              replace er_11 := er_11.symm; subst er_11
              replace er_18 := er_18.symm; subst er_18
              replace esv_35 := esv_35.symm; subst esv_35
              replace ex_37 := ex_37.symm; subst ex_37
              replace ex_41 := ex_41.symm; subst ex_41
              replace ex_42 := ex_42.symm; subst ex_42
              replace ex_43 := ex_43.symm; subst ex_43
              unfold dX9_goThroughDay_r
              try rw [hX_30_0]
              try rw [hX_30_1]
              try rw [hX_30_2]
              try rw [hX_30_3]
              try rw [hX_30_4]
              try rw [hX_30_5]
              try rw [hX_30_6]
              try rw [hX_30_7]
              try rw [hX_30_8]
              rw [if_pos c_22, if_pos c_38]
              try rfl
            exact retI (v := yy_4502) hx hb hr hlk (rfl) hP hD hS (x_42, x_43, yy_4504, sv_35, yy_4506, yy_4508, yy_4507, yy_4501) ⟨_, rfl, ⟨trivial, hF_44⟩⟩ [3, 4, 5, 6, 7, 8, 9, 10, 11, 0, 1, 2] rfl rfl dX9_goThroughDay_230 (Nat.le_of_ble_eq_true rfl) (Nat.le_of_ble_eq_true rfl) rfl
        · skip
          refine lv_iload hx hb dX9_goThroughDay_53 (lv_at hl 0 rfl) ?_
          refine lv_bipush (v := 6) hx hb dX9_goThroughDay_55 (by decide) ?_
          refine lv_icmp_ge (tgt := 183) hx hb dX9_goThroughDay_57 (by decide) (fun c_45 => ?_) (fun c_45 => ?_)
          · skip
            have hb_47 : dX9_goThroughDay_r_l44 (Af 1) (Af 4) (Af 5) (Av 2) (Av 3) (Av 4) (Rf 1) Rn (0 : Int32) ((6 - (yy_4500 : Int32).toInt).toNat + 1) yy_4500 yy_4501 yy_4502 yy_4503 yy_4504 yy_4505 yy_4506 yy_4507 yy_4508 = (yy_4500, yy_4501, yy_4502, yy_4503, yy_4504, yy_4505, yy_4506, yy_4507, yy_4508) := by
              clear hP hD hS hl ih_24
              replace er_4 := er_4.symm; subst er_4
              replace er_11 := er_11.symm; subst er_11
              replace er_18 := er_18.symm; subst er_18
              rw [dX9_goThroughDay_r_l44_s]
              rw [if_neg c_29, if_pos c_45]
              try rfl
            have hX_46 : (dX9_goThroughDay_r_l44 (Af 1) (Af 4) (Af 5) (Av 2) (Av 3) (Av 4) (Rf 1) Rn (0 : Int32) ((6 - (0 : Int32).toInt).toNat + 1) (0 : Int32) (Rg 2) (0 : Int32) (Av 0) (Av 5) (Af 3) (Af 6) (Af 8) (Af 7)) = (yy_4500, yy_4501, yy_4502, yy_4503, yy_4504, yy_4505, yy_4506, yy_4507, yy_4508) := hL_27.trans hb_47
            have hX_46_0 : (dX9_goThroughDay_r_l44 (Af 1) (Af 4) (Af 5) (Av 2) (Av 3) (Av 4) (Rf 1) Rn (0 : Int32) ((6 - (0 : Int32).toInt).toNat + 1) (0 : Int32) (Rg 2) (0 : Int32) (Av 0) (Av 5) (Af 3) (Af 6) (Af 8) (Af 7)).1 = yy_4500 := congrArg (fun z => z.1) hX_46
            have hX_46_1 : (dX9_goThroughDay_r_l44 (Af 1) (Af 4) (Af 5) (Av 2) (Av 3) (Av 4) (Rf 1) Rn (0 : Int32) ((6 - (0 : Int32).toInt).toNat + 1) (0 : Int32) (Rg 2) (0 : Int32) (Av 0) (Av 5) (Af 3) (Af 6) (Af 8) (Af 7)).2.1 = yy_4501 := congrArg (fun z => z.2.1) hX_46
            have hX_46_2 : (dX9_goThroughDay_r_l44 (Af 1) (Af 4) (Af 5) (Av 2) (Av 3) (Av 4) (Rf 1) Rn (0 : Int32) ((6 - (0 : Int32).toInt).toNat + 1) (0 : Int32) (Rg 2) (0 : Int32) (Av 0) (Av 5) (Af 3) (Af 6) (Af 8) (Af 7)).2.2.1 = yy_4502 := congrArg (fun z => z.2.2.1) hX_46
            have hX_46_3 : (dX9_goThroughDay_r_l44 (Af 1) (Af 4) (Af 5) (Av 2) (Av 3) (Av 4) (Rf 1) Rn (0 : Int32) ((6 - (0 : Int32).toInt).toNat + 1) (0 : Int32) (Rg 2) (0 : Int32) (Av 0) (Av 5) (Af 3) (Af 6) (Af 8) (Af 7)).2.2.2.1 = yy_4503 := congrArg (fun z => z.2.2.2.1) hX_46
            have hX_46_4 : (dX9_goThroughDay_r_l44 (Af 1) (Af 4) (Af 5) (Av 2) (Av 3) (Av 4) (Rf 1) Rn (0 : Int32) ((6 - (0 : Int32).toInt).toNat + 1) (0 : Int32) (Rg 2) (0 : Int32) (Av 0) (Av 5) (Af 3) (Af 6) (Af 8) (Af 7)).2.2.2.2.1 = yy_4504 := congrArg (fun z => z.2.2.2.2.1) hX_46
            have hX_46_5 : (dX9_goThroughDay_r_l44 (Af 1) (Af 4) (Af 5) (Av 2) (Av 3) (Av 4) (Rf 1) Rn (0 : Int32) ((6 - (0 : Int32).toInt).toNat + 1) (0 : Int32) (Rg 2) (0 : Int32) (Av 0) (Av 5) (Af 3) (Af 6) (Af 8) (Af 7)).2.2.2.2.2.1 = yy_4505 := congrArg (fun z => z.2.2.2.2.2.1) hX_46
            have hX_46_6 : (dX9_goThroughDay_r_l44 (Af 1) (Af 4) (Af 5) (Av 2) (Av 3) (Av 4) (Rf 1) Rn (0 : Int32) ((6 - (0 : Int32).toInt).toNat + 1) (0 : Int32) (Rg 2) (0 : Int32) (Av 0) (Av 5) (Af 3) (Af 6) (Af 8) (Af 7)).2.2.2.2.2.2.1 = yy_4506 := congrArg (fun z => z.2.2.2.2.2.2.1) hX_46
            have hX_46_7 : (dX9_goThroughDay_r_l44 (Af 1) (Af 4) (Af 5) (Av 2) (Av 3) (Av 4) (Rf 1) Rn (0 : Int32) ((6 - (0 : Int32).toInt).toNat + 1) (0 : Int32) (Rg 2) (0 : Int32) (Av 0) (Av 5) (Af 3) (Af 6) (Af 8) (Af 7)).2.2.2.2.2.2.2.1 = yy_4507 := congrArg (fun z => z.2.2.2.2.2.2.2.1) hX_46
            have hX_46_8 : (dX9_goThroughDay_r_l44 (Af 1) (Af 4) (Af 5) (Av 2) (Av 3) (Av 4) (Rf 1) Rn (0 : Int32) ((6 - (0 : Int32).toInt).toNat + 1) (0 : Int32) (Rg 2) (0 : Int32) (Av 0) (Av 5) (Af 3) (Af 6) (Af 8) (Af 7)).2.2.2.2.2.2.2.2 = yy_4508 := congrArg (fun z => z.2.2.2.2.2.2.2.2) hX_46
            refine lv_aload_n hx hb dX9_goThroughDay_183 rfl (lv_at hl 5 rfl) ?_
            refine lv_iload_n hx hb dX9_goThroughDay_184 rfl (lv_at hl 4 rfl) ?_
            refine cV (a := (Aa 0)) (As := [.int r_4]) (rest := []) (wr := [((Ra 0), .inr (6, [.ref (Ra 1), .ref (Ra 2)])), ((Ra 1), .inl (tc 0, Rn, .inl (Rf 1))), ((Ra 2), .inl (tc 1, 64, .inr (.inl yy_4501)))]) ⟨hx, hb, hml, hown, hts⟩ hK hX hA (cu_dX9_changeTempers l D tc sk (Aa 0) (Aa 1) (Aa 2) (Aa 3) (Aa 4) (Aa 5) (Aa 6) (Aa 7) (Aa 8) yy_4503 (Av 1) (Av 2) (Av 3) (Av 4) yy_4504 (Af 1) (Af 2) yy_4505 (Af 4) (Af 5) yy_4506 yy_4508 yy_4507 r_4) k_779 k_776 k_778 k_15 k_98 pl_X9_changeTempers ⟨Nat.le_of_ble_eq_true rfl, Nat.le_of_ble_eq_true rfl⟩ rfl rfl (va_recv hK hP (ci := 9) (q0 := 3) rfl rfl) hP hD hS [3, 4, 5, 6, 7, 8, 9, 10, 11] [0, 1, 2] rfl rfl rfl rfl rfl (by decide) rfl hl.1 rfl (Nat.le_of_ble_eq_true rfl) dX9_goThroughDay_185 ⟨Nat.le_of_ble_eq_true rfl, Nat.le_of_ble_eq_true rfl⟩ (fun v_48 u_49 H locs hv_50 hP₀ hD₀ hS₀ => ?_)
            obtain ⟨sv_51, rfl⟩ : ∃ z, z = u_49 := ⟨_, rfl⟩
            obtain ⟨rfl, pf_52⟩ := hv_50
            have pf_52 : DEq (sv_51) (dX9_changeTempers yy_4505 (Av 3) r_4) := pf_52
            refine W.eq (g2 := F0 m 188 ls []) rfl ?_
            replace hP : va_P D classes [((Ra 0), .inr (6, [.ref (Ra 1), .ref (Ra 2)])), ((Ra 1), .inl (tc 0, Rn, .inl (Rf 1))), ((Ra 2), .inl (tc 1, 64, .inr (.inl yy_4501))), ((Aa 0), .inr (9, [.int yy_4503, .int (Av 1), .int (Av 2), .int (Av 3), .int (Av 4), .int yy_4504, .ref (Aa 1), .ref (Aa 2), .ref (Aa 3), .ref (Aa 4), .ref (Aa 5), .ref (Aa 6), .ref (Aa 7), .ref (Aa 8)])), ((Aa 1), .inl (tc 0, 10, .inl (Af 1))), ((Aa 2), .inl (tc 0, 10, .inl (Af 2))), ((Aa 3), .inl (tc 0, 6, .inl sv_51)), ((Aa 4), .inl (tc 0, 6, .inl (Af 4))), ((Aa 5), .inl (tc 0, 6, .inl (Af 5))), ((Aa 6), .inl (tc 0, 6, .inl yy_4506)), ((Aa 7), .inl (tc 0, 6, .inl yy_4508)), ((Aa 8), .inl (tc 0, 6, .inl yy_4507))] H := hP₀
            replace hD : va_D A [((Ra 0), .inr (6, [.ref (Ra 1), .ref (Ra 2)])), ((Ra 1), .inl (tc 0, Rn, .inl (Rf 1))), ((Ra 2), .inl (tc 1, 64, .inr (.inl yy_4501))), ((Aa 0), .inr (9, [.int yy_4503, .int (Av 1), .int (Av 2), .int (Av 3), .int (Av 4), .int yy_4504, .ref (Aa 1), .ref (Aa 2), .ref (Aa 3), .ref (Aa 4), .ref (Aa 5), .ref (Aa 6), .ref (Aa 7), .ref (Aa 8)])), ((Aa 1), .inl (tc 0, 10, .inl (Af 1))), ((Aa 2), .inl (tc 0, 10, .inl (Af 2))), ((Aa 3), .inl (tc 0, 6, .inl sv_51)), ((Aa 4), .inl (tc 0, 6, .inl (Af 4))), ((Aa 5), .inl (tc 0, 6, .inl (Af 5))), ((Aa 6), .inl (tc 0, 6, .inl yy_4506)), ((Aa 7), .inl (tc 0, 6, .inl yy_4508)), ((Aa 8), .inl (tc 0, 6, .inl yy_4507))] := hD₀
            replace hS := hS₀
            clear hP₀ hD₀ hS₀
            have esv_51 : sv_51 = (dX9_changeTempers yy_4505 (Av 3) r_4) := pf_52
            refine lv_aload_n hx hb dX9_goThroughDay_188 rfl (lv_at hl 5 rfl) ?_
            refine gf_X9_24 hx hb hts hown hK hP 3 rfl rfl dX9_goThroughDay_189 ?_
            refine lv_bipush (v := 7) hx hb dX9_goThroughDay_192 (by decide) ?_
            refine lv_irem hx hb dX9_goThroughDay_194 (by decide) ?_
            refine lv_topi (fun x_53 ex_53 => ?_)
            refine lv_bipush (v := 6) hx hb dX9_goThroughDay_195 (by decide) ?_
            refine lv_icmp_ne (tgt := 218) hx hb dX9_goThroughDay_197 (by decide) (fun c_54 => ?_) (fun c_54 => ?_)
            · skip
              refine lv_aload_n hx hb dX9_goThroughDay_218 rfl (lv_at hl 5 rfl) ?_
              refine lv_dup hx hb dX9_goThroughDay_219 rfl ?_
              refine gf_X9_24 hx hb hts hown hK hP 3 rfl rfl dX9_goThroughDay_220 ?_
              refine lv_iconst (v := 1) hx hb dX9_goThroughDay_223 (by decide) ?_
              refine lv_iadd hx hb dX9_goThroughDay_224 ?_
              refine lv_topi (fun x_55 ex_55 => ?_)
              refine pf_X9_24 hx hb hts hown hK hP hD hS 3 rfl (Nat.le_of_ble_eq_true rfl) rfl rfl dX9_goThroughDay_225 (fun H locs hP₀ hD₀ hS₀ => ?_)
              replace hP : va_P D classes [((Ra 0), .inr (6, [.ref (Ra 1), .ref (Ra 2)])), ((Ra 1), .inl (tc 0, Rn, .inl (Rf 1))), ((Ra 2), .inl (tc 1, 64, .inr (.inl yy_4501))), ((Aa 0), .inr (9, [.int yy_4503, .int (Av 1), .int (Av 2), .int (Av 3), .int x_55, .int yy_4504, .ref (Aa 1), .ref (Aa 2), .ref (Aa 3), .ref (Aa 4), .ref (Aa 5), .ref (Aa 6), .ref (Aa 7), .ref (Aa 8)])), ((Aa 1), .inl (tc 0, 10, .inl (Af 1))), ((Aa 2), .inl (tc 0, 10, .inl (Af 2))), ((Aa 3), .inl (tc 0, 6, .inl sv_51)), ((Aa 4), .inl (tc 0, 6, .inl (Af 4))), ((Aa 5), .inl (tc 0, 6, .inl (Af 5))), ((Aa 6), .inl (tc 0, 6, .inl yy_4506)), ((Aa 7), .inl (tc 0, 6, .inl yy_4508)), ((Aa 8), .inl (tc 0, 6, .inl yy_4507))] H := hP₀
              replace hD : va_D A [((Ra 0), .inr (6, [.ref (Ra 1), .ref (Ra 2)])), ((Ra 1), .inl (tc 0, Rn, .inl (Rf 1))), ((Ra 2), .inl (tc 1, 64, .inr (.inl yy_4501))), ((Aa 0), .inr (9, [.int yy_4503, .int (Av 1), .int (Av 2), .int (Av 3), .int x_55, .int yy_4504, .ref (Aa 1), .ref (Aa 2), .ref (Aa 3), .ref (Aa 4), .ref (Aa 5), .ref (Aa 6), .ref (Aa 7), .ref (Aa 8)])), ((Aa 1), .inl (tc 0, 10, .inl (Af 1))), ((Aa 2), .inl (tc 0, 10, .inl (Af 2))), ((Aa 3), .inl (tc 0, 6, .inl sv_51)), ((Aa 4), .inl (tc 0, 6, .inl (Af 4))), ((Aa 5), .inl (tc 0, 6, .inl (Af 5))), ((Aa 6), .inl (tc 0, 6, .inl yy_4506)), ((Aa 7), .inl (tc 0, 6, .inl yy_4508)), ((Aa 8), .inl (tc 0, 6, .inl yy_4507))] := hD₀
              replace hS := hS₀
              clear hP₀ hD₀ hS₀
              refine lv_iload hx hb dX9_goThroughDay_228 (lv_at hl 1 rfl) ?_
              have hF_56 : (yy_4502, yy_4503, x_55, yy_4504, sv_51, yy_4506, yy_4508, yy_4507, yy_4501) = (dX9_goThroughDay_r (Af 1) (Af 2) (Af 3) (Af 4) (Af 5) (Af 6) (Af 7) (Af 8) (Av 0) (Av 1) (Av 2) (Av 3) (Av 4) (Av 5) (Rf 1) (Rg 2) Rn) := by
                clear hP hD hS hl ih_24
                replace er_4 := er_4.symm; subst er_4
                replace er_11 := er_11.symm; subst er_11
                replace er_18 := er_18.symm; subst er_18
                replace esv_51 := esv_51.symm; subst esv_51
                replace ex_53 := ex_53.symm; subst ex_53
                replace ex_55 := ex_55.symm; subst ex_55
                unfold dX9_goThroughDay_r
                try rw [hX_46_0]
                try rw [hX_46_1]
                try rw [hX_46_2]
                try rw [hX_46_3]
                try rw [hX_46_4]
                try rw [hX_46_5]
                try rw [hX_46_6]
                try rw [hX_46_7]
                try rw [hX_46_8]
                rw [if_pos c_22, if_neg c_54]
                try rfl
              exact retI (v := yy_4502) hx hb hr hlk (rfl) hP hD hS (yy_4503, x_55, yy_4504, sv_51, yy_4506, yy_4508, yy_4507, yy_4501) ⟨_, rfl, ⟨trivial, hF_56⟩⟩ [3, 4, 5, 6, 7, 8, 9, 10, 11, 0, 1, 2] rfl rfl dX9_goThroughDay_230 (Nat.le_of_ble_eq_true rfl) (Nat.le_of_ble_eq_true rfl) rfl
            · skip
              refine lv_aload_n hx hb dX9_goThroughDay_200 rfl (lv_at hl 5 rfl) ?_
              refine lv_bipush (v := 99) hx hb dX9_goThroughDay_201 (by decide) ?_
              refine lv_aload_n hx hb dX9_goThroughDay_203 rfl (lv_at hl 5 rfl) ?_
              refine gf_X9_9 hx hb hts hown hK hP 3 rfl rfl dX9_goThroughDay_204 ?_
              refine lv_aload_n hx hb dX9_goThroughDay_207 rfl (lv_at hl 5 rfl) ?_
              refine gf_X9_15 hx hb hts hown hK hP 3 rfl rfl dX9_goThroughDay_208 ?_
              refine lv_iadd hx hb dX9_goThroughDay_211 ?_
              refine lv_topi (fun x_57 ex_57 => ?_)
              refine va_mmin hx hb (hml.trans hl.1.symm) hown (hts _ k_780) (hts _ k_680) (hts _ k_114) (hts _ k_681) (Nat.le_of_ble_eq_true rfl) (Nat.le_of_ble_eq_true rfl) (Nat.le_of_ble_eq_true rfl) (Nat.le_of_ble_eq_true rfl) dX9_goThroughDay_212 ?_
              refine lv_topi (fun x_58 ex_58 => ?_)
              have mx_58 := imin_f ex_58
              rw [show (99 : Int32).toInt = 99 by decide] at mx_58
              refine pf_X9_9 hx hb hts hown hK hP hD hS 3 rfl (Nat.le_of_ble_eq_true rfl) rfl rfl dX9_goThroughDay_215 (fun H locs hP₀ hD₀ hS₀ => ?_)
              replace hP : va_P D classes [((Ra 0), .inr (6, [.ref (Ra 1), .ref (Ra 2)])), ((Ra 1), .inl (tc 0, Rn, .inl (Rf 1))), ((Ra 2), .inl (tc 1, 64, .inr (.inl yy_4501))), ((Aa 0), .inr (9, [.int x_58, .int (Av 1), .int (Av 2), .int (Av 3), .int (Av 4), .int yy_4504, .ref (Aa 1), .ref (Aa 2), .ref (Aa 3), .ref (Aa 4), .ref (Aa 5), .ref (Aa 6), .ref (Aa 7), .ref (Aa 8)])), ((Aa 1), .inl (tc 0, 10, .inl (Af 1))), ((Aa 2), .inl (tc 0, 10, .inl (Af 2))), ((Aa 3), .inl (tc 0, 6, .inl sv_51)), ((Aa 4), .inl (tc 0, 6, .inl (Af 4))), ((Aa 5), .inl (tc 0, 6, .inl (Af 5))), ((Aa 6), .inl (tc 0, 6, .inl yy_4506)), ((Aa 7), .inl (tc 0, 6, .inl yy_4508)), ((Aa 8), .inl (tc 0, 6, .inl yy_4507))] H := hP₀
              replace hD : va_D A [((Ra 0), .inr (6, [.ref (Ra 1), .ref (Ra 2)])), ((Ra 1), .inl (tc 0, Rn, .inl (Rf 1))), ((Ra 2), .inl (tc 1, 64, .inr (.inl yy_4501))), ((Aa 0), .inr (9, [.int x_58, .int (Av 1), .int (Av 2), .int (Av 3), .int (Av 4), .int yy_4504, .ref (Aa 1), .ref (Aa 2), .ref (Aa 3), .ref (Aa 4), .ref (Aa 5), .ref (Aa 6), .ref (Aa 7), .ref (Aa 8)])), ((Aa 1), .inl (tc 0, 10, .inl (Af 1))), ((Aa 2), .inl (tc 0, 10, .inl (Af 2))), ((Aa 3), .inl (tc 0, 6, .inl sv_51)), ((Aa 4), .inl (tc 0, 6, .inl (Af 4))), ((Aa 5), .inl (tc 0, 6, .inl (Af 5))), ((Aa 6), .inl (tc 0, 6, .inl yy_4506)), ((Aa 7), .inl (tc 0, 6, .inl yy_4508)), ((Aa 8), .inl (tc 0, 6, .inl yy_4507))] := hD₀
              replace hS := hS₀
              clear hP₀ hD₀ hS₀
              refine lv_aload_n hx hb dX9_goThroughDay_218 rfl (lv_at hl 5 rfl) ?_
              refine lv_dup hx hb dX9_goThroughDay_219 rfl ?_
              refine gf_X9_24 hx hb hts hown hK hP 3 rfl rfl dX9_goThroughDay_220 ?_
              refine lv_iconst (v := 1) hx hb dX9_goThroughDay_223 (by decide) ?_
              refine lv_iadd hx hb dX9_goThroughDay_224 ?_
              refine lv_topi (fun x_59 ex_59 => ?_)
              refine pf_X9_24 hx hb hts hown hK hP hD hS 3 rfl (Nat.le_of_ble_eq_true rfl) rfl rfl dX9_goThroughDay_225 (fun H locs hP₀ hD₀ hS₀ => ?_)
              replace hP : va_P D classes [((Ra 0), .inr (6, [.ref (Ra 1), .ref (Ra 2)])), ((Ra 1), .inl (tc 0, Rn, .inl (Rf 1))), ((Ra 2), .inl (tc 1, 64, .inr (.inl yy_4501))), ((Aa 0), .inr (9, [.int x_58, .int (Av 1), .int (Av 2), .int (Av 3), .int x_59, .int yy_4504, .ref (Aa 1), .ref (Aa 2), .ref (Aa 3), .ref (Aa 4), .ref (Aa 5), .ref (Aa 6), .ref (Aa 7), .ref (Aa 8)])), ((Aa 1), .inl (tc 0, 10, .inl (Af 1))), ((Aa 2), .inl (tc 0, 10, .inl (Af 2))), ((Aa 3), .inl (tc 0, 6, .inl sv_51)), ((Aa 4), .inl (tc 0, 6, .inl (Af 4))), ((Aa 5), .inl (tc 0, 6, .inl (Af 5))), ((Aa 6), .inl (tc 0, 6, .inl yy_4506)), ((Aa 7), .inl (tc 0, 6, .inl yy_4508)), ((Aa 8), .inl (tc 0, 6, .inl yy_4507))] H := hP₀
              replace hD : va_D A [((Ra 0), .inr (6, [.ref (Ra 1), .ref (Ra 2)])), ((Ra 1), .inl (tc 0, Rn, .inl (Rf 1))), ((Ra 2), .inl (tc 1, 64, .inr (.inl yy_4501))), ((Aa 0), .inr (9, [.int x_58, .int (Av 1), .int (Av 2), .int (Av 3), .int x_59, .int yy_4504, .ref (Aa 1), .ref (Aa 2), .ref (Aa 3), .ref (Aa 4), .ref (Aa 5), .ref (Aa 6), .ref (Aa 7), .ref (Aa 8)])), ((Aa 1), .inl (tc 0, 10, .inl (Af 1))), ((Aa 2), .inl (tc 0, 10, .inl (Af 2))), ((Aa 3), .inl (tc 0, 6, .inl sv_51)), ((Aa 4), .inl (tc 0, 6, .inl (Af 4))), ((Aa 5), .inl (tc 0, 6, .inl (Af 5))), ((Aa 6), .inl (tc 0, 6, .inl yy_4506)), ((Aa 7), .inl (tc 0, 6, .inl yy_4508)), ((Aa 8), .inl (tc 0, 6, .inl yy_4507))] := hD₀
              replace hS := hS₀
              clear hP₀ hD₀ hS₀
              refine lv_iload hx hb dX9_goThroughDay_228 (lv_at hl 1 rfl) ?_
              have hF_60 : (yy_4502, x_58, x_59, yy_4504, sv_51, yy_4506, yy_4508, yy_4507, yy_4501) = (dX9_goThroughDay_r (Af 1) (Af 2) (Af 3) (Af 4) (Af 5) (Af 6) (Af 7) (Af 8) (Av 0) (Av 1) (Av 2) (Av 3) (Av 4) (Av 5) (Rf 1) (Rg 2) Rn) := by
                clear hP hD hS hl ih_24
                replace er_4 := er_4.symm; subst er_4
                replace er_11 := er_11.symm; subst er_11
                replace er_18 := er_18.symm; subst er_18
                replace esv_51 := esv_51.symm; subst esv_51
                replace ex_53 := ex_53.symm; subst ex_53
                replace ex_57 := ex_57.symm; subst ex_57
                replace ex_58 := ex_58.symm; subst ex_58
                replace ex_59 := ex_59.symm; subst ex_59
                unfold dX9_goThroughDay_r
                try rw [hX_46_0]
                try rw [hX_46_1]
                try rw [hX_46_2]
                try rw [hX_46_3]
                try rw [hX_46_4]
                try rw [hX_46_5]
                try rw [hX_46_6]
                try rw [hX_46_7]
                try rw [hX_46_8]
                rw [if_pos c_22, if_pos c_54]
                try rfl
              exact retI (v := yy_4502) hx hb hr hlk (rfl) hP hD hS (x_58, x_59, yy_4504, sv_51, yy_4506, yy_4508, yy_4507, yy_4501) ⟨_, rfl, ⟨trivial, hF_60⟩⟩ [3, 4, 5, 6, 7, 8, 9, 10, 11, 0, 1, 2] rfl rfl dX9_goThroughDay_230 (Nat.le_of_ble_eq_true rfl) (Nat.le_of_ble_eq_true rfl) rfl
          · skip
            refine lv_aload_n hx hb dX9_goThroughDay_60 rfl (lv_at hl 5 rfl) ?_
            refine lv_iload hx hb dX9_goThroughDay_61 (lv_at hl 0 rfl) ?_
            refine cV (a := (Aa 0)) (As := [.int yy_4500]) (rest := []) (wr := [((Ra 0), .inr (6, [.ref (Ra 1), .ref (Ra 2)])), ((Ra 1), .inl (tc 0, Rn, .inl (Rf 1))), ((Ra 2), .inl (tc 1, 64, .inr (.inl yy_4501)))]) ⟨hx, hb, hml, hown, hts⟩ hK hX hA (cu_dX9_canBuy l D tc sk (Aa 0) (Aa 1) (Aa 2) (Aa 3) (Aa 4) (Aa 5) (Aa 6) (Aa 7) (Aa 8) yy_4503 (Av 1) (Av 2) (Av 3) (Av 4) yy_4504 (Af 1) (Af 2) yy_4505 (Af 4) (Af 5) yy_4506 yy_4508 yy_4507 yy_4500) k_752 k_749 k_751 k_14 k_98 pl_X9_canBuy ⟨Nat.le_of_ble_eq_true rfl, Nat.le_of_ble_eq_true rfl⟩ rfl rfl (va_recv hK hP (ci := 9) (q0 := 3) rfl rfl) hP hD hS [3, 4, 5, 6, 7, 8, 9, 10, 11] [0, 1, 2] rfl rfl rfl rfl rfl (by decide) rfl hl.1 rfl (Nat.le_of_ble_eq_true rfl) dX9_goThroughDay_63 ⟨Nat.le_of_ble_eq_true rfl, Nat.le_of_ble_eq_true rfl⟩ (fun v_61 u_62 H locs hv_63 hP₀ hD₀ hS₀ => ?_)
            obtain ⟨r_64, rfl, he_65⟩ := hv_63
            have he_65 : ((r_64.toInt = 0 ∨ r_64.toInt = 1)) ∧ r_64 = (dX9_canBuy (Af 4) (Af 5) yy_4507 yy_4503 (Av 3) (Av 4) yy_4500) := he_65
            refine W.eq (g2 := F0 m 66 ls [.int r_64]) rfl ?_
            replace hP : va_P D classes [((Ra 0), .inr (6, [.ref (Ra 1), .ref (Ra 2)])), ((Ra 1), .inl (tc 0, Rn, .inl (Rf 1))), ((Ra 2), .inl (tc 1, 64, .inr (.inl yy_4501))), ((Aa 0), .inr (9, [.int yy_4503, .int (Av 1), .int (Av 2), .int (Av 3), .int (Av 4), .int yy_4504, .ref (Aa 1), .ref (Aa 2), .ref (Aa 3), .ref (Aa 4), .ref (Aa 5), .ref (Aa 6), .ref (Aa 7), .ref (Aa 8)])), ((Aa 1), .inl (tc 0, 10, .inl (Af 1))), ((Aa 2), .inl (tc 0, 10, .inl (Af 2))), ((Aa 3), .inl (tc 0, 6, .inl yy_4505)), ((Aa 4), .inl (tc 0, 6, .inl (Af 4))), ((Aa 5), .inl (tc 0, 6, .inl (Af 5))), ((Aa 6), .inl (tc 0, 6, .inl yy_4506)), ((Aa 7), .inl (tc 0, 6, .inl yy_4508)), ((Aa 8), .inl (tc 0, 6, .inl yy_4507))] H := hP₀
            replace hD : va_D A [((Ra 0), .inr (6, [.ref (Ra 1), .ref (Ra 2)])), ((Ra 1), .inl (tc 0, Rn, .inl (Rf 1))), ((Ra 2), .inl (tc 1, 64, .inr (.inl yy_4501))), ((Aa 0), .inr (9, [.int yy_4503, .int (Av 1), .int (Av 2), .int (Av 3), .int (Av 4), .int yy_4504, .ref (Aa 1), .ref (Aa 2), .ref (Aa 3), .ref (Aa 4), .ref (Aa 5), .ref (Aa 6), .ref (Aa 7), .ref (Aa 8)])), ((Aa 1), .inl (tc 0, 10, .inl (Af 1))), ((Aa 2), .inl (tc 0, 10, .inl (Af 2))), ((Aa 3), .inl (tc 0, 6, .inl yy_4505)), ((Aa 4), .inl (tc 0, 6, .inl (Af 4))), ((Aa 5), .inl (tc 0, 6, .inl (Af 5))), ((Aa 6), .inl (tc 0, 6, .inl yy_4506)), ((Aa 7), .inl (tc 0, 6, .inl yy_4508)), ((Aa 8), .inl (tc 0, 6, .inl yy_4507))] := hD₀
            replace hS := hS₀
            clear hP₀ hD₀ hS₀
            obtain ⟨he_65, hq_67⟩ := he_65
            have er_64 : r_64 = (dX9_canBuy (Af 4) (Af 5) yy_4507 yy_4503 (Av 3) (Av 4) yy_4500) := hq_67
            refine lv_if_ne (tgt := 72) hx hb dX9_goThroughDay_66 (by decide) (fun c_68 => ?_) (fun c_68 => ?_)
            · skip
              refine lv_aload_n hx hb dX9_goThroughDay_72 rfl (lv_at hl 6 rfl) ?_
              refine lv_ifnonnull (tgt := 98) hx hb dX9_goThroughDay_73 (by decide) ?_
              refine lv_aload_n hx hb dX9_goThroughDay_98 rfl (lv_at hl 6 rfl) ?_
              refine lv_aload_n hx hb dX9_goThroughDay_99 rfl (lv_at hl 5 rfl) ?_
              refine lv_iload hx hb dX9_goThroughDay_100 (lv_at hl 0 rfl) ?_
              refine cV (a := (Ra 0)) (As := [.ref (Aa 0), .int yy_4500]) (rest := []) (wr := []) ⟨hx, hb, hml, hown, hts⟩ hK hX hA (cu_dX6_sumFor l D tc sk (Ra 0) (Ra 1) (Ra 2) (Rf 1) yy_4501 Rn (Aa 0) (Aa 1) (Aa 2) (Aa 3) (Aa 4) (Aa 5) (Aa 6) (Aa 7) (Aa 8) yy_4503 (Av 1) (Av 2) (Av 3) (Av 4) yy_4504 (Af 1) (Af 2) yy_4505 (Af 4) (Af 5) yy_4506 yy_4508 yy_4507 yy_4500 hRn) k_756 k_753 k_754 k_755 k_112 pl_X6_sumFor ⟨Nat.le_of_ble_eq_true rfl, Nat.le_of_ble_eq_true rfl⟩ rfl rfl (va_recv hK hP (ci := 6) (q0 := 0) rfl rfl) hP hD hS [0, 1, 2, 3, 4, 5, 6, 7, 8, 9, 10, 11] [] rfl rfl rfl rfl rfl (by decide) rfl hl.1 rfl (Nat.le_of_ble_eq_true rfl) dX9_goThroughDay_102 ⟨Nat.le_of_ble_eq_true rfl, Nat.le_of_ble_eq_true rfl⟩ (fun v_69 u_70 H locs hv_71 hP₀ hD₀ hS₀ => ?_)
              obtain ⟨sv_72, rfl⟩ : ∃ z, z = u_70 := ⟨_, rfl⟩
              obtain ⟨r_73, rfl, he_74⟩ := hv_71
              have he_74 : (True) ∧ (r_73, sv_72) = (dX6_sumFor (Af 1) yy_4505 (Af 4) (Af 5) yy_4506 yy_4508 yy_4507 yy_4503 (Av 2) (Av 3) (Av 4) yy_4504 (Rf 1) yy_4501 yy_4500 Rn) := he_74
              refine W.eq (g2 := F0 m 105 ls [.long r_73]) rfl ?_
              replace hP : va_P D classes [((Ra 0), .inr (6, [.ref (Ra 1), .ref (Ra 2)])), ((Ra 1), .inl (tc 0, Rn, .inl (Rf 1))), ((Ra 2), .inl (tc 1, 64, .inr (.inl sv_72))), ((Aa 0), .inr (9, [.int yy_4503, .int (Av 1), .int (Av 2), .int (Av 3), .int (Av 4), .int yy_4504, .ref (Aa 1), .ref (Aa 2), .ref (Aa 3), .ref (Aa 4), .ref (Aa 5), .ref (Aa 6), .ref (Aa 7), .ref (Aa 8)])), ((Aa 1), .inl (tc 0, 10, .inl (Af 1))), ((Aa 2), .inl (tc 0, 10, .inl (Af 2))), ((Aa 3), .inl (tc 0, 6, .inl yy_4505)), ((Aa 4), .inl (tc 0, 6, .inl (Af 4))), ((Aa 5), .inl (tc 0, 6, .inl (Af 5))), ((Aa 6), .inl (tc 0, 6, .inl yy_4506)), ((Aa 7), .inl (tc 0, 6, .inl yy_4508)), ((Aa 8), .inl (tc 0, 6, .inl yy_4507))] H := hP₀
              replace hD : va_D A [((Ra 0), .inr (6, [.ref (Ra 1), .ref (Ra 2)])), ((Ra 1), .inl (tc 0, Rn, .inl (Rf 1))), ((Ra 2), .inl (tc 1, 64, .inr (.inl sv_72))), ((Aa 0), .inr (9, [.int yy_4503, .int (Av 1), .int (Av 2), .int (Av 3), .int (Av 4), .int yy_4504, .ref (Aa 1), .ref (Aa 2), .ref (Aa 3), .ref (Aa 4), .ref (Aa 5), .ref (Aa 6), .ref (Aa 7), .ref (Aa 8)])), ((Aa 1), .inl (tc 0, 10, .inl (Af 1))), ((Aa 2), .inl (tc 0, 10, .inl (Af 2))), ((Aa 3), .inl (tc 0, 6, .inl yy_4505)), ((Aa 4), .inl (tc 0, 6, .inl (Af 4))), ((Aa 5), .inl (tc 0, 6, .inl (Af 5))), ((Aa 6), .inl (tc 0, 6, .inl yy_4506)), ((Aa 7), .inl (tc 0, 6, .inl yy_4508)), ((Aa 8), .inl (tc 0, 6, .inl yy_4507))] := hD₀
              replace hS := hS₀
              clear hP₀ hD₀ hS₀
              obtain ⟨he_74, hq_76⟩ := he_74
              have er_73 : r_73 = (dX6_sumFor (Af 1) yy_4505 (Af 4) (Af 5) yy_4506 yy_4508 yy_4507 yy_4503 (Av 2) (Av 3) (Av 4) yy_4504 (Rf 1) yy_4501 yy_4500 Rn).1 := congrArg (fun z => z.1) hq_76
              have esv_72 : sv_72 = (dX6_sumFor (Af 1) yy_4505 (Af 4) (Af 5) yy_4506 yy_4508 yy_4507 yy_4503 (Av 2) (Av 3) (Av 4) yy_4504 (Rf 1) yy_4501 yy_4500 Rn).2 := congrArg (fun z => z.2) hq_76
              refine lv_lconst (v := 0) hx hb dX9_goThroughDay_105 (by decide) ?_
              refine W.lcmp hx hb dX9_goThroughDay_106 ?_
              refine lv_topi (fun x_77 ex_77 => ?_)
              refine lv_if_le (tgt := 114) hx hb dX9_goThroughDay_107 (by decide) (fun c_78 => ?_) (fun c_78 => ?_)
              · skip
                have lz_79 : (r_73 : Int64).toInt ≤ (0 : Int64).toInt := by have hc := c_78; rw [ex_77] at hc; exact Int64.le_iff_toInt_le.mp ((lg_cmp_le _ _).mp hc)
                refine lv_iconst (v := 0) hx hb dX9_goThroughDay_114 (by decide) ?_
                refine lv_istore (lv' := [(7, .int 0), (6, .int yy_4500), (5, .int yy_4502), (4, .int 0), (3, .int r_11), (2, .int r_4), (0, .ref (Aa 0)), (1, .ref (Ra 0))]) hx hb dX9_goThroughDay_115 hl (by decide) rfl (fun ls hl₀ => ?_)
                replace hl := hl₀
                clear hl₀
                refine lv_iload hx hb dX9_goThroughDay_117 (lv_at hl 0 rfl) ?_
                refine lv_if_eq (tgt := 157) hx hb dX9_goThroughDay_119 (by decide) (fun c_80 => ?_) (fun c_80 => absurd c_80 (by decide))
                refine lv_iload hx hb dX9_goThroughDay_157 (lv_at hl 0 rfl) ?_
                refine lv_if_eq (tgt := 177) hx hb dX9_goThroughDay_159 (by decide) (fun c_81 => ?_) (fun c_81 => absurd c_81 (by decide))
                obtain ⟨x_82, ex_82⟩ : ∃ y : Int32, y = yy_4500 + 1 := ⟨_, rfl⟩
                refine lv_iinc (v := x_82) (lv' := [(6, .int x_82), (7, .int 0), (5, .int yy_4502), (4, .int 0), (3, .int r_11), (2, .int r_4), (0, .ref (Aa 0)), (1, .ref (Ra 0))]) hx hb dX9_goThroughDay_177 hl (k := 1) rfl (by rw [ex_82]; rfl) (by decide) rfl (fun ls hl₀ => ?_)
                replace hl := hl₀
                clear hl₀
                refine lv_goto (tgt := 44) hx hb dX9_goThroughDay_180 (by decide) ?_
                have hb_83 : 6 - (x_82 : Int32).toInt < 6 - (yy_4500 : Int32).toInt ∧ 1 ≤ 6 - (yy_4500 : Int32).toInt := by
                  have z_1 := congrArg Int32.toInt c_22
                  have z_2 := Int32.lt_iff_toInt_lt.mp (Int32.not_le.mp c_29)
                  have z_3 := Int32.lt_iff_toInt_lt.mp (Int32.not_le.mp c_45)
                  have z_4 : ¬ (r_64 : Int32).toInt = (0 : Int32).toInt := fun z => c_68 (Int32.toInt_inj.mp z)
                  have z_5 := Int32.le_iff_toInt_le.mp c_78
                  have y_0 : (0 : Int32).toInt = 0 := by decide
                  have y_6 : (6 : Int32).toInt = 6 := by decide
                  have y_1 : (1 : Int32).toInt = 1 := by decide
                  have t_x_82 : x_82.toInt = (yy_4500 : Int32).toInt + (1 : Int32).toInt := by rw [ex_82]; exact add_toInt (by omega) (by omega)
                  omega
                have hm_84 : (6 - (yy_4500 : Int32).toInt).toNat = (6 - (x_82 : Int32).toInt).toNat + 1 := by
                  have z_1 := congrArg Int32.toInt c_22
                  have z_2 := Int32.lt_iff_toInt_lt.mp (Int32.not_le.mp c_29)
                  have z_3 := Int32.lt_iff_toInt_lt.mp (Int32.not_le.mp c_45)
                  have z_4 : ¬ (r_64 : Int32).toInt = (0 : Int32).toInt := fun z => c_68 (Int32.toInt_inj.mp z)
                  have z_5 := Int32.le_iff_toInt_le.mp c_78
                  have y_0 : (0 : Int32).toInt = 0 := by decide
                  have y_6 : (6 : Int32).toInt = 6 := by decide
                  have y_1 : (1 : Int32).toInt = 1 := by decide
                  have t_x_82 : x_82.toInt = (yy_4500 : Int32).toInt + (1 : Int32).toInt := by rw [ex_82]; exact add_toInt (by omega) (by omega)
                  omega
                have hb_85 : dX9_goThroughDay_r_l44 (Af 1) (Af 4) (Af 5) (Av 2) (Av 3) (Av 4) (Rf 1) Rn (0 : Int32) ((6 - (yy_4500 : Int32).toInt).toNat + 1) yy_4500 yy_4501 yy_4502 yy_4503 yy_4504 yy_4505 yy_4506 yy_4507 yy_4508 = dX9_goThroughDay_r_l44 (Af 1) (Af 4) (Af 5) (Av 2) (Av 3) (Av 4) (Rf 1) Rn (0 : Int32) ((6 - (yy_4500 : Int32).toInt).toNat) x_82 sv_72 yy_4502 yy_4503 yy_4504 yy_4505 yy_4506 yy_4507 yy_4508 := by
                  clear hP hD hS hl ih_24
                  replace er_4 := er_4.symm; subst er_4
                  replace er_11 := er_11.symm; subst er_11
                  replace er_18 := er_18.symm; subst er_18
                  replace er_64 := er_64.symm; subst er_64
                  replace er_73 := er_73.symm; subst er_73
                  replace esv_72 := esv_72.symm; subst esv_72
                  replace ex_77 := ex_77.symm; subst ex_77
                  replace ex_82 := ex_82.symm; subst ex_82
                  rw [dX9_goThroughDay_r_l44_s]
                  rw [if_neg c_29, if_neg c_45, if_neg c_68, if_pos c_78]
                  try rfl
                have hL_86 : (dX9_goThroughDay_r_l44 (Af 1) (Af 4) (Af 5) (Av 2) (Av 3) (Av 4) (Rf 1) Rn (0 : Int32) ((6 - (0 : Int32).toInt).toNat + 1) (0 : Int32) (Rg 2) (0 : Int32) (Av 0) (Av 5) (Af 3) (Af 6) (Af 8) (Af 7)) = dX9_goThroughDay_r_l44 (Af 1) (Af 4) (Af 5) (Av 2) (Av 3) (Av 4) (Rf 1) Rn (0 : Int32) ((6 - (x_82 : Int32).toInt).toNat + 1) x_82 sv_72 yy_4502 yy_4503 yy_4504 yy_4505 yy_4506 yy_4507 yy_4508 := by
                  rw [hL_27, hb_85, hm_84]
                have ha_87 : 0 ≤ (x_82 : Int32).toInt := by
                  have z_1 := congrArg Int32.toInt c_22
                  have z_2 := Int32.lt_iff_toInt_lt.mp (Int32.not_le.mp c_29)
                  have z_3 := Int32.lt_iff_toInt_lt.mp (Int32.not_le.mp c_45)
                  have z_4 : ¬ (r_64 : Int32).toInt = (0 : Int32).toInt := fun z => c_68 (Int32.toInt_inj.mp z)
                  have z_5 := Int32.le_iff_toInt_le.mp c_78
                  have y_0 : (0 : Int32).toInt = 0 := by decide
                  have y_6 : (6 : Int32).toInt = 6 := by decide
                  have y_1 : (1 : Int32).toInt = 1 := by decide
                  have t_x_82 : x_82.toInt = (yy_4500 : Int32).toInt + (1 : Int32).toInt := by rw [ex_82]; exact add_toInt (by omega) (by omega)
                  omega
                exact ih_24 x_82 sv_72 yy_4502 yy_4503 yy_4504 yy_4505 yy_4506 yy_4507 yy_4508 _ _ _ (by omega) hL_86 ha_87 (hP.sub [0, 1, 2, 3, 4, 5, 6, 7, 8, 9, 10, 11] rfl) (hD.sub [0, 1, 2, 3, 4, 5, 6, 7, 8, 9, 10, 11] rfl rfl) hS (lv_sub hl [0, 2, 3, 4, 5, 6, 7] rfl)
              · skip
                have lz_88 : (0 : Int64).toInt < (r_73 : Int64).toInt := by have hc := c_78; rw [ex_77] at hc; exact Int64.lt_iff_toInt_lt.mp (Int64.not_le.mp (fun z => hc ((lg_cmp_le _ _).mpr z)))
                refine lv_iconst (v := 1) hx hb dX9_goThroughDay_110 (by decide) ?_
                refine lv_goto (tgt := 115) hx hb dX9_goThroughDay_111 (by decide) ?_
                refine lv_istore (lv' := [(7, .int 1), (6, .int yy_4500), (5, .int yy_4502), (4, .int 0), (3, .int r_11), (2, .int r_4), (0, .ref (Aa 0)), (1, .ref (Ra 0))]) hx hb dX9_goThroughDay_115 hl (by decide) rfl (fun ls hl₀ => ?_)
                replace hl := hl₀
                clear hl₀
                refine lv_iload hx hb dX9_goThroughDay_117 (lv_at hl 0 rfl) ?_
                refine lv_if_eq (tgt := 157) hx hb dX9_goThroughDay_119 (by decide) (fun c_89 => absurd c_89 (by decide)) (fun c_89 => ?_)
                refine lv_iload hx hb dX9_goThroughDay_122 (lv_at hl 3 rfl) ?_
                refine lv_iload hx hb dX9_goThroughDay_124 (lv_at hl 1 rfl) ?_
                refine lv_ishr hx hb dX9_goThroughDay_126 ?_
                refine lv_topi (fun x_90 ex_90 => ?_)
                refine lv_iconst (v := 1) hx hb dX9_goThroughDay_127 (by decide) ?_
                refine lv_iand hx hb dX9_goThroughDay_128 ?_
                refine lv_topi (fun x_91 ex_91 => ?_)
                refine lv_if_eq (tgt := 157) hx hb dX9_goThroughDay_129 (by decide) (fun c_92 => ?_) (fun c_92 => ?_)
                · skip
                  refine lv_iload hx hb dX9_goThroughDay_157 (lv_at hl 0 rfl) ?_
                  refine lv_if_eq (tgt := 177) hx hb dX9_goThroughDay_159 (by decide) (fun c_93 => absurd c_93 (by decide)) (fun c_93 => ?_)
                  refine lv_aload_n hx hb dX9_goThroughDay_162 rfl (lv_at hl 6 rfl) ?_
                  refine lv_iload hx hb dX9_goThroughDay_163 (lv_at hl 1 rfl) ?_
                  refine cV (a := (Aa 0)) (As := [.int yy_4500]) (rest := []) (wr := [((Ra 0), .inr (6, [.ref (Ra 1), .ref (Ra 2)])), ((Ra 1), .inl (tc 0, Rn, .inl (Rf 1))), ((Ra 2), .inl (tc 1, 64, .inr (.inl sv_72)))]) ⟨hx, hb, hml, hown, hts⟩ hK hX hA (cu_dX9_handOver l D tc sk (Aa 0) (Aa 1) (Aa 2) (Aa 3) (Aa 4) (Aa 5) (Aa 6) (Aa 7) (Aa 8) yy_4503 (Av 1) (Av 2) (Av 3) (Av 4) yy_4504 (Af 1) (Af 2) yy_4505 (Af 4) (Af 5) yy_4506 yy_4508 yy_4507 yy_4500) k_772 k_769 k_770 k_771 k_98 pl_X9_handOver ⟨Nat.le_of_ble_eq_true rfl, Nat.le_of_ble_eq_true rfl⟩ rfl rfl (va_recv hK hP (ci := 9) (q0 := 3) rfl rfl) hP hD hS [3, 4, 5, 6, 7, 8, 9, 10, 11] [0, 1, 2] rfl rfl rfl rfl rfl (by decide) rfl hl.1 rfl (Nat.le_of_ble_eq_true rfl) dX9_goThroughDay_165 ⟨Nat.le_of_ble_eq_true rfl, Nat.le_of_ble_eq_true rfl⟩ (fun v_94 u_95 H locs hv_96 hP₀ hD₀ hS₀ => ?_)
                  obtain ⟨sv_97, sv_98, sv_99, sv_100, sv_101⟩ := u_95
                  obtain ⟨rfl, pf_102⟩ := hv_96
                  have pf_102 : DEq ((sv_97, sv_98, sv_99, sv_100, sv_101)) (dX9_handOver yy_4505 (Af 4) yy_4506 yy_4507 yy_4503 (Av 3) (Av 4) yy_4504 yy_4500) := pf_102
                  refine W.eq (g2 := F0 m 168 ls []) rfl ?_
                  replace hP : va_P D classes [((Ra 0), .inr (6, [.ref (Ra 1), .ref (Ra 2)])), ((Ra 1), .inl (tc 0, Rn, .inl (Rf 1))), ((Ra 2), .inl (tc 1, 64, .inr (.inl sv_72))), ((Aa 0), .inr (9, [.int sv_97, .int (Av 1), .int (Av 2), .int (Av 3), .int (Av 4), .int sv_98, .ref (Aa 1), .ref (Aa 2), .ref (Aa 3), .ref (Aa 4), .ref (Aa 5), .ref (Aa 6), .ref (Aa 7), .ref (Aa 8)])), ((Aa 1), .inl (tc 0, 10, .inl (Af 1))), ((Aa 2), .inl (tc 0, 10, .inl (Af 2))), ((Aa 3), .inl (tc 0, 6, .inl sv_99)), ((Aa 4), .inl (tc 0, 6, .inl (Af 4))), ((Aa 5), .inl (tc 0, 6, .inl (Af 5))), ((Aa 6), .inl (tc 0, 6, .inl sv_100)), ((Aa 7), .inl (tc 0, 6, .inl yy_4508)), ((Aa 8), .inl (tc 0, 6, .inl sv_101))] H := hP₀
                  replace hD : va_D A [((Ra 0), .inr (6, [.ref (Ra 1), .ref (Ra 2)])), ((Ra 1), .inl (tc 0, Rn, .inl (Rf 1))), ((Ra 2), .inl (tc 1, 64, .inr (.inl sv_72))), ((Aa 0), .inr (9, [.int sv_97, .int (Av 1), .int (Av 2), .int (Av 3), .int (Av 4), .int sv_98, .ref (Aa 1), .ref (Aa 2), .ref (Aa 3), .ref (Aa 4), .ref (Aa 5), .ref (Aa 6), .ref (Aa 7), .ref (Aa 8)])), ((Aa 1), .inl (tc 0, 10, .inl (Af 1))), ((Aa 2), .inl (tc 0, 10, .inl (Af 2))), ((Aa 3), .inl (tc 0, 6, .inl sv_99)), ((Aa 4), .inl (tc 0, 6, .inl (Af 4))), ((Aa 5), .inl (tc 0, 6, .inl (Af 5))), ((Aa 6), .inl (tc 0, 6, .inl sv_100)), ((Aa 7), .inl (tc 0, 6, .inl yy_4508)), ((Aa 8), .inl (tc 0, 6, .inl sv_101))] := hD₀
                  replace hS := hS₀
                  clear hP₀ hD₀ hS₀
                  have esv_97 : sv_97 = (dX9_handOver yy_4505 (Af 4) yy_4506 yy_4507 yy_4503 (Av 3) (Av 4) yy_4504 yy_4500).1 := congrArg (fun z => z.1) pf_102
                  have esv_98 : sv_98 = (dX9_handOver yy_4505 (Af 4) yy_4506 yy_4507 yy_4503 (Av 3) (Av 4) yy_4504 yy_4500).2.1 := congrArg (fun z => z.2.1) pf_102
                  have esv_99 : sv_99 = (dX9_handOver yy_4505 (Af 4) yy_4506 yy_4507 yy_4503 (Av 3) (Av 4) yy_4504 yy_4500).2.2.1 := congrArg (fun z => z.2.2.1) pf_102
                  have esv_100 : sv_100 = (dX9_handOver yy_4505 (Af 4) yy_4506 yy_4507 yy_4503 (Av 3) (Av 4) yy_4504 yy_4500).2.2.2.1 := congrArg (fun z => z.2.2.2.1) pf_102
                  have esv_101 : sv_101 = (dX9_handOver yy_4505 (Af 4) yy_4506 yy_4507 yy_4503 (Av 3) (Av 4) yy_4504 yy_4500).2.2.2.2 := congrArg (fun z => z.2.2.2.2) pf_102
                  refine lv_iload hx hb dX9_goThroughDay_168 (lv_at hl 2 rfl) ?_
                  refine lv_iconst (v := 1) hx hb dX9_goThroughDay_170 (by decide) ?_
                  refine lv_iload hx hb dX9_goThroughDay_171 (lv_at hl 1 rfl) ?_
                  refine lv_ishl hx hb dX9_goThroughDay_173 ?_
                  refine lv_topi (fun x_103 ex_103 => ?_)
                  refine lv_ior hx hb dX9_goThroughDay_174 ?_
                  refine lv_topi (fun x_104 ex_104 => ?_)
                  refine lv_istore (lv' := [(5, .int x_104), (7, .int 1), (6, .int yy_4500), (4, .int 0), (3, .int r_11), (2, .int r_4), (0, .ref (Aa 0)), (1, .ref (Ra 0))]) hx hb dX9_goThroughDay_175 hl (by decide) rfl (fun ls hl₀ => ?_)
                  replace hl := hl₀
                  clear hl₀
                  obtain ⟨x_105, ex_105⟩ : ∃ y : Int32, y = yy_4500 + 1 := ⟨_, rfl⟩
                  refine lv_iinc (v := x_105) (lv' := [(6, .int x_105), (5, .int x_104), (7, .int 1), (4, .int 0), (3, .int r_11), (2, .int r_4), (0, .ref (Aa 0)), (1, .ref (Ra 0))]) hx hb dX9_goThroughDay_177 hl (k := 2) rfl (by rw [ex_105]; rfl) (by decide) rfl (fun ls hl₀ => ?_)
                  replace hl := hl₀
                  clear hl₀
                  refine lv_goto (tgt := 44) hx hb dX9_goThroughDay_180 (by decide) ?_
                  have hb_106 : 6 - (x_105 : Int32).toInt < 6 - (yy_4500 : Int32).toInt ∧ 1 ≤ 6 - (yy_4500 : Int32).toInt := by
                    have z_1 := congrArg Int32.toInt c_22
                    have z_2 := Int32.lt_iff_toInt_lt.mp (Int32.not_le.mp c_29)
                    have z_3 := Int32.lt_iff_toInt_lt.mp (Int32.not_le.mp c_45)
                    have z_4 : ¬ (r_64 : Int32).toInt = (0 : Int32).toInt := fun z => c_68 (Int32.toInt_inj.mp z)
                    have z_5 := Int32.lt_iff_toInt_lt.mp (Int32.not_le.mp c_78)
                    have z_6 := congrArg Int32.toInt c_92
                    have y_0 : (0 : Int32).toInt = 0 := by decide
                    have y_6 : (6 : Int32).toInt = 6 := by decide
                    have y_1 : (1 : Int32).toInt = 1 := by decide
                    have t_x_105 : x_105.toInt = (yy_4500 : Int32).toInt + (1 : Int32).toInt := by rw [ex_105]; exact add_toInt (by omega) (by omega)
                    omega
                  have hm_107 : (6 - (yy_4500 : Int32).toInt).toNat = (6 - (x_105 : Int32).toInt).toNat + 1 := by
                    have z_1 := congrArg Int32.toInt c_22
                    have z_2 := Int32.lt_iff_toInt_lt.mp (Int32.not_le.mp c_29)
                    have z_3 := Int32.lt_iff_toInt_lt.mp (Int32.not_le.mp c_45)
                    have z_4 : ¬ (r_64 : Int32).toInt = (0 : Int32).toInt := fun z => c_68 (Int32.toInt_inj.mp z)
                    have z_5 := Int32.lt_iff_toInt_lt.mp (Int32.not_le.mp c_78)
                    have z_6 := congrArg Int32.toInt c_92
                    have y_0 : (0 : Int32).toInt = 0 := by decide
                    have y_6 : (6 : Int32).toInt = 6 := by decide
                    have y_1 : (1 : Int32).toInt = 1 := by decide
                    have t_x_105 : x_105.toInt = (yy_4500 : Int32).toInt + (1 : Int32).toInt := by rw [ex_105]; exact add_toInt (by omega) (by omega)
                    omega
                  have hb_108 : dX9_goThroughDay_r_l44 (Af 1) (Af 4) (Af 5) (Av 2) (Av 3) (Av 4) (Rf 1) Rn (0 : Int32) ((6 - (yy_4500 : Int32).toInt).toNat + 1) yy_4500 yy_4501 yy_4502 yy_4503 yy_4504 yy_4505 yy_4506 yy_4507 yy_4508 = dX9_goThroughDay_r_l44 (Af 1) (Af 4) (Af 5) (Av 2) (Av 3) (Av 4) (Rf 1) Rn (0 : Int32) ((6 - (yy_4500 : Int32).toInt).toNat) x_105 sv_72 x_104 sv_97 sv_98 sv_99 sv_100 sv_101 yy_4508 := by
                    clear hP hD hS hl ih_24
                    replace er_4 := er_4.symm; subst er_4
                    replace er_11 := er_11.symm; subst er_11
                    replace er_18 := er_18.symm; subst er_18
                    replace er_64 := er_64.symm; subst er_64
                    replace er_73 := er_73.symm; subst er_73
                    replace esv_72 := esv_72.symm; subst esv_72
                    replace ex_77 := ex_77.symm; subst ex_77
                    replace ex_90 := ex_90.symm; subst ex_90
                    replace ex_91 := ex_91.symm; subst ex_91
                    replace esv_97 := esv_97.symm; subst esv_97
                    replace esv_98 := esv_98.symm; subst esv_98
                    replace esv_99 := esv_99.symm; subst esv_99
                    replace esv_100 := esv_100.symm; subst esv_100
                    replace esv_101 := esv_101.symm; subst esv_101
                    replace ex_103 := ex_103.symm; subst ex_103
                    replace ex_104 := ex_104.symm; subst ex_104
                    replace ex_105 := ex_105.symm; subst ex_105
                    rw [dX9_goThroughDay_r_l44_s]
                    rw [if_neg c_29, if_neg c_45, if_neg c_68, if_neg c_78, if_pos c_92]
                    try rfl
                  have hL_109 : (dX9_goThroughDay_r_l44 (Af 1) (Af 4) (Af 5) (Av 2) (Av 3) (Av 4) (Rf 1) Rn (0 : Int32) ((6 - (0 : Int32).toInt).toNat + 1) (0 : Int32) (Rg 2) (0 : Int32) (Av 0) (Av 5) (Af 3) (Af 6) (Af 8) (Af 7)) = dX9_goThroughDay_r_l44 (Af 1) (Af 4) (Af 5) (Av 2) (Av 3) (Av 4) (Rf 1) Rn (0 : Int32) ((6 - (x_105 : Int32).toInt).toNat + 1) x_105 sv_72 x_104 sv_97 sv_98 sv_99 sv_100 sv_101 yy_4508 := by
                    rw [hL_27, hb_108, hm_107]
                  have ha_110 : 0 ≤ (x_105 : Int32).toInt := by
                    have z_1 := congrArg Int32.toInt c_22
                    have z_2 := Int32.lt_iff_toInt_lt.mp (Int32.not_le.mp c_29)
                    have z_3 := Int32.lt_iff_toInt_lt.mp (Int32.not_le.mp c_45)
                    have z_4 : ¬ (r_64 : Int32).toInt = (0 : Int32).toInt := fun z => c_68 (Int32.toInt_inj.mp z)
                    have z_5 := Int32.lt_iff_toInt_lt.mp (Int32.not_le.mp c_78)
                    have z_6 := congrArg Int32.toInt c_92
                    have y_0 : (0 : Int32).toInt = 0 := by decide
                    have y_6 : (6 : Int32).toInt = 6 := by decide
                    have y_1 : (1 : Int32).toInt = 1 := by decide
                    have t_x_105 : x_105.toInt = (yy_4500 : Int32).toInt + (1 : Int32).toInt := by rw [ex_105]; exact add_toInt (by omega) (by omega)
                    omega
                  exact ih_24 x_105 sv_72 x_104 sv_97 sv_98 sv_99 sv_100 sv_101 yy_4508 _ _ _ (by omega) hL_109 ha_110 (hP.sub [0, 1, 2, 3, 4, 5, 6, 7, 8, 9, 10, 11] rfl) (hD.sub [0, 1, 2, 3, 4, 5, 6, 7, 8, 9, 10, 11] rfl rfl) hS (lv_sub hl [0, 1, 3, 4, 5, 6, 7] rfl)
                · skip
                  refine lv_aload_n hx hb dX9_goThroughDay_132 rfl (lv_at hl 6 rfl) ?_
                  refine gf_X9_49 hx hb hts hown hK hP 3 rfl rfl dX9_goThroughDay_133 ?_
                  refine lv_iload hx hb dX9_goThroughDay_136 (lv_at hl 1 rfl) ?_
                  refine lv_dup2_11 hx hb dX9_goThroughDay_138 rfl rfl ?_
                  have hi_111 : vp_in yy_4500 6 := by
                    have z_1 := congrArg Int32.toInt c_22
                    have z_2 := Int32.lt_iff_toInt_lt.mp (Int32.not_le.mp c_29)
                    have z_3 := Int32.lt_iff_toInt_lt.mp (Int32.not_le.mp c_45)
                    have z_4 : ¬ (r_64 : Int32).toInt = (0 : Int32).toInt := fun z => c_68 (Int32.toInt_inj.mp z)
                    have z_5 := Int32.lt_iff_toInt_lt.mp (Int32.not_le.mp c_78)
                    have z_6 : ¬ (x_91 : Int32).toInt = (0 : Int32).toInt := fun z => c_92 (Int32.toInt_inj.mp z)
                    have y_0 : (0 : Int32).toInt = 0 := by decide
                    have y_6 : (6 : Int32).toInt = 6 := by decide
                    refine vp_in_iff.mpr ⟨?_, ?_⟩ <;> omega
                  refine va_iald hx hb hK hP 10 0 rfl rfl hi_111 dX9_goThroughDay_139 ?_
                  refine lv_topi (fun x_112 ex_112 => ?_)
                  refine lv_iconst (v := 1) hx hb dX9_goThroughDay_140 (by decide) ?_
                  refine lv_iadd hx hb dX9_goThroughDay_141 ?_
                  refine lv_topi (fun x_113 ex_113 => ?_)
                  have hi_114 : vp_in yy_4500 6 := by
                    have z_1 := congrArg Int32.toInt c_22
                    have z_2 := Int32.lt_iff_toInt_lt.mp (Int32.not_le.mp c_29)
                    have z_3 := Int32.lt_iff_toInt_lt.mp (Int32.not_le.mp c_45)
                    have z_4 : ¬ (r_64 : Int32).toInt = (0 : Int32).toInt := fun z => c_68 (Int32.toInt_inj.mp z)
                    have z_5 := Int32.lt_iff_toInt_lt.mp (Int32.not_le.mp c_78)
                    have z_6 : ¬ (x_91 : Int32).toInt = (0 : Int32).toInt := fun z => c_92 (Int32.toInt_inj.mp z)
                    have y_0 : (0 : Int32).toInt = 0 := by decide
                    have y_6 : (6 : Int32).toInt = 6 := by decide
                    refine vp_in_iff.mpr ⟨?_, ?_⟩ <;> omega
                  refine st_int hx hb hK hP hD hS 10 0 rfl rfl hi_114 dX9_goThroughDay_142 (fun g_115 H locs eg_115 hP₀ hD₀ hS₀ => ?_)
                  replace hP : va_P D classes [((Ra 0), .inr (6, [.ref (Ra 1), .ref (Ra 2)])), ((Ra 1), .inl (tc 0, Rn, .inl (Rf 1))), ((Ra 2), .inl (tc 1, 64, .inr (.inl sv_72))), ((Aa 0), .inr (9, [.int yy_4503, .int (Av 1), .int (Av 2), .int (Av 3), .int (Av 4), .int yy_4504, .ref (Aa 1), .ref (Aa 2), .ref (Aa 3), .ref (Aa 4), .ref (Aa 5), .ref (Aa 6), .ref (Aa 7), .ref (Aa 8)])), ((Aa 1), .inl (tc 0, 10, .inl (Af 1))), ((Aa 2), .inl (tc 0, 10, .inl (Af 2))), ((Aa 3), .inl (tc 0, 6, .inl yy_4505)), ((Aa 4), .inl (tc 0, 6, .inl (Af 4))), ((Aa 5), .inl (tc 0, 6, .inl (Af 5))), ((Aa 6), .inl (tc 0, 6, .inl yy_4506)), ((Aa 7), .inl (tc 0, 6, .inl g_115)), ((Aa 8), .inl (tc 0, 6, .inl yy_4507))] H := hP₀
                  replace hD : va_D A [((Ra 0), .inr (6, [.ref (Ra 1), .ref (Ra 2)])), ((Ra 1), .inl (tc 0, Rn, .inl (Rf 1))), ((Ra 2), .inl (tc 1, 64, .inr (.inl sv_72))), ((Aa 0), .inr (9, [.int yy_4503, .int (Av 1), .int (Av 2), .int (Av 3), .int (Av 4), .int yy_4504, .ref (Aa 1), .ref (Aa 2), .ref (Aa 3), .ref (Aa 4), .ref (Aa 5), .ref (Aa 6), .ref (Aa 7), .ref (Aa 8)])), ((Aa 1), .inl (tc 0, 10, .inl (Af 1))), ((Aa 2), .inl (tc 0, 10, .inl (Af 2))), ((Aa 3), .inl (tc 0, 6, .inl yy_4505)), ((Aa 4), .inl (tc 0, 6, .inl (Af 4))), ((Aa 5), .inl (tc 0, 6, .inl (Af 5))), ((Aa 6), .inl (tc 0, 6, .inl yy_4506)), ((Aa 7), .inl (tc 0, 6, .inl g_115)), ((Aa 8), .inl (tc 0, 6, .inl yy_4507))] := hD₀
                  replace hS := hS₀
                  clear hP₀ hD₀ hS₀
                  refine lv_aload_n hx hb dX9_goThroughDay_143 rfl (lv_at hl 6 rfl) ?_
                  refine gf_X9_52 hx hb hts hown hK hP 3 rfl rfl dX9_goThroughDay_144 ?_
                  refine lv_iload hx hb dX9_goThroughDay_147 (lv_at hl 1 rfl) ?_
                  refine lv_aload_n hx hb dX9_goThroughDay_149 rfl (lv_at hl 6 rfl) ?_
                  refine gf_X9_24 hx hb hts hown hK hP 3 rfl rfl dX9_goThroughDay_150 ?_
                  have hi_116 : vp_in yy_4500 6 := by
                    have z_1 := congrArg Int32.toInt c_22
                    have z_2 := Int32.lt_iff_toInt_lt.mp (Int32.not_le.mp c_29)
                    have z_3 := Int32.lt_iff_toInt_lt.mp (Int32.not_le.mp c_45)
                    have z_4 : ¬ (r_64 : Int32).toInt = (0 : Int32).toInt := fun z => c_68 (Int32.toInt_inj.mp z)
                    have z_5 := Int32.lt_iff_toInt_lt.mp (Int32.not_le.mp c_78)
                    have z_6 : ¬ (x_91 : Int32).toInt = (0 : Int32).toInt := fun z => c_92 (Int32.toInt_inj.mp z)
                    have y_0 : (0 : Int32).toInt = 0 := by decide
                    have y_6 : (6 : Int32).toInt = 6 := by decide
                    refine vp_in_iff.mpr ⟨?_, ?_⟩ <;> omega
                  refine st_int hx hb hK hP hD hS 11 0 rfl rfl hi_116 dX9_goThroughDay_153 (fun g_117 H locs eg_117 hP₀ hD₀ hS₀ => ?_)
                  replace hP : va_P D classes [((Ra 0), .inr (6, [.ref (Ra 1), .ref (Ra 2)])), ((Ra 1), .inl (tc 0, Rn, .inl (Rf 1))), ((Ra 2), .inl (tc 1, 64, .inr (.inl sv_72))), ((Aa 0), .inr (9, [.int yy_4503, .int (Av 1), .int (Av 2), .int (Av 3), .int (Av 4), .int yy_4504, .ref (Aa 1), .ref (Aa 2), .ref (Aa 3), .ref (Aa 4), .ref (Aa 5), .ref (Aa 6), .ref (Aa 7), .ref (Aa 8)])), ((Aa 1), .inl (tc 0, 10, .inl (Af 1))), ((Aa 2), .inl (tc 0, 10, .inl (Af 2))), ((Aa 3), .inl (tc 0, 6, .inl yy_4505)), ((Aa 4), .inl (tc 0, 6, .inl (Af 4))), ((Aa 5), .inl (tc 0, 6, .inl (Af 5))), ((Aa 6), .inl (tc 0, 6, .inl yy_4506)), ((Aa 7), .inl (tc 0, 6, .inl g_115)), ((Aa 8), .inl (tc 0, 6, .inl g_117))] H := hP₀
                  replace hD : va_D A [((Ra 0), .inr (6, [.ref (Ra 1), .ref (Ra 2)])), ((Ra 1), .inl (tc 0, Rn, .inl (Rf 1))), ((Ra 2), .inl (tc 1, 64, .inr (.inl sv_72))), ((Aa 0), .inr (9, [.int yy_4503, .int (Av 1), .int (Av 2), .int (Av 3), .int (Av 4), .int yy_4504, .ref (Aa 1), .ref (Aa 2), .ref (Aa 3), .ref (Aa 4), .ref (Aa 5), .ref (Aa 6), .ref (Aa 7), .ref (Aa 8)])), ((Aa 1), .inl (tc 0, 10, .inl (Af 1))), ((Aa 2), .inl (tc 0, 10, .inl (Af 2))), ((Aa 3), .inl (tc 0, 6, .inl yy_4505)), ((Aa 4), .inl (tc 0, 6, .inl (Af 4))), ((Aa 5), .inl (tc 0, 6, .inl (Af 5))), ((Aa 6), .inl (tc 0, 6, .inl yy_4506)), ((Aa 7), .inl (tc 0, 6, .inl g_115)), ((Aa 8), .inl (tc 0, 6, .inl g_117))] := hD₀
                  replace hS := hS₀
                  clear hP₀ hD₀ hS₀
                  refine lv_goto (tgt := 177) hx hb dX9_goThroughDay_154 (by decide) ?_
                  obtain ⟨x_118, ex_118⟩ : ∃ y : Int32, y = yy_4500 + 1 := ⟨_, rfl⟩
                  refine lv_iinc (v := x_118) (lv' := [(6, .int x_118), (7, .int 1), (5, .int yy_4502), (4, .int 0), (3, .int r_11), (2, .int r_4), (0, .ref (Aa 0)), (1, .ref (Ra 0))]) hx hb dX9_goThroughDay_177 hl (k := 1) rfl (by rw [ex_118]; rfl) (by decide) rfl (fun ls hl₀ => ?_)
                  replace hl := hl₀
                  clear hl₀
                  refine lv_goto (tgt := 44) hx hb dX9_goThroughDay_180 (by decide) ?_
                  have hb_119 : 6 - (x_118 : Int32).toInt < 6 - (yy_4500 : Int32).toInt ∧ 1 ≤ 6 - (yy_4500 : Int32).toInt := by
                    have z_1 := congrArg Int32.toInt c_22
                    have z_2 := Int32.lt_iff_toInt_lt.mp (Int32.not_le.mp c_29)
                    have z_3 := Int32.lt_iff_toInt_lt.mp (Int32.not_le.mp c_45)
                    have z_4 : ¬ (r_64 : Int32).toInt = (0 : Int32).toInt := fun z => c_68 (Int32.toInt_inj.mp z)
                    have z_5 := Int32.lt_iff_toInt_lt.mp (Int32.not_le.mp c_78)
                    have z_6 : ¬ (x_91 : Int32).toInt = (0 : Int32).toInt := fun z => c_92 (Int32.toInt_inj.mp z)
                    have y_0 : (0 : Int32).toInt = 0 := by decide
                    have y_6 : (6 : Int32).toInt = 6 := by decide
                    have y_1 : (1 : Int32).toInt = 1 := by decide
                    have t_x_118 : x_118.toInt = (yy_4500 : Int32).toInt + (1 : Int32).toInt := by rw [ex_118]; exact add_toInt (by omega) (by omega)
                    omega
                  have hm_120 : (6 - (yy_4500 : Int32).toInt).toNat = (6 - (x_118 : Int32).toInt).toNat + 1 := by
                    have z_1 := congrArg Int32.toInt c_22
                    have z_2 := Int32.lt_iff_toInt_lt.mp (Int32.not_le.mp c_29)
                    have z_3 := Int32.lt_iff_toInt_lt.mp (Int32.not_le.mp c_45)
                    have z_4 : ¬ (r_64 : Int32).toInt = (0 : Int32).toInt := fun z => c_68 (Int32.toInt_inj.mp z)
                    have z_5 := Int32.lt_iff_toInt_lt.mp (Int32.not_le.mp c_78)
                    have z_6 : ¬ (x_91 : Int32).toInt = (0 : Int32).toInt := fun z => c_92 (Int32.toInt_inj.mp z)
                    have y_0 : (0 : Int32).toInt = 0 := by decide
                    have y_6 : (6 : Int32).toInt = 6 := by decide
                    have y_1 : (1 : Int32).toInt = 1 := by decide
                    have t_x_118 : x_118.toInt = (yy_4500 : Int32).toInt + (1 : Int32).toInt := by rw [ex_118]; exact add_toInt (by omega) (by omega)
                    omega
                  have hb_121 : dX9_goThroughDay_r_l44 (Af 1) (Af 4) (Af 5) (Av 2) (Av 3) (Av 4) (Rf 1) Rn (0 : Int32) ((6 - (yy_4500 : Int32).toInt).toNat + 1) yy_4500 yy_4501 yy_4502 yy_4503 yy_4504 yy_4505 yy_4506 yy_4507 yy_4508 = dX9_goThroughDay_r_l44 (Af 1) (Af 4) (Af 5) (Av 2) (Av 3) (Av 4) (Rf 1) Rn (0 : Int32) ((6 - (yy_4500 : Int32).toInt).toNat) x_118 sv_72 yy_4502 yy_4503 yy_4504 yy_4505 yy_4506 g_117 g_115 := by
                    clear hP hD hS hl ih_24
                    replace er_4 := er_4.symm; subst er_4
                    replace er_11 := er_11.symm; subst er_11
                    replace er_18 := er_18.symm; subst er_18
                    replace er_64 := er_64.symm; subst er_64
                    replace er_73 := er_73.symm; subst er_73
                    replace esv_72 := esv_72.symm; subst esv_72
                    replace ex_77 := ex_77.symm; subst ex_77
                    replace ex_90 := ex_90.symm; subst ex_90
                    replace ex_91 := ex_91.symm; subst ex_91
                    replace ex_112 := ex_112.symm; subst ex_112
                    replace ex_113 := ex_113.symm; subst ex_113
                    replace eg_115 := eg_115.symm; subst eg_115
                    replace eg_117 := eg_117.symm; subst eg_117
                    replace ex_118 := ex_118.symm; subst ex_118
                    rw [dX9_goThroughDay_r_l44_s]
                    rw [if_neg c_29, if_neg c_45, if_neg c_68, if_neg c_78, if_neg c_92]
                    try rfl
                  have hL_122 : (dX9_goThroughDay_r_l44 (Af 1) (Af 4) (Af 5) (Av 2) (Av 3) (Av 4) (Rf 1) Rn (0 : Int32) ((6 - (0 : Int32).toInt).toNat + 1) (0 : Int32) (Rg 2) (0 : Int32) (Av 0) (Av 5) (Af 3) (Af 6) (Af 8) (Af 7)) = dX9_goThroughDay_r_l44 (Af 1) (Af 4) (Af 5) (Av 2) (Av 3) (Av 4) (Rf 1) Rn (0 : Int32) ((6 - (x_118 : Int32).toInt).toNat + 1) x_118 sv_72 yy_4502 yy_4503 yy_4504 yy_4505 yy_4506 g_117 g_115 := by
                    rw [hL_27, hb_121, hm_120]
                  have ha_123 : 0 ≤ (x_118 : Int32).toInt := by
                    have z_1 := congrArg Int32.toInt c_22
                    have z_2 := Int32.lt_iff_toInt_lt.mp (Int32.not_le.mp c_29)
                    have z_3 := Int32.lt_iff_toInt_lt.mp (Int32.not_le.mp c_45)
                    have z_4 : ¬ (r_64 : Int32).toInt = (0 : Int32).toInt := fun z => c_68 (Int32.toInt_inj.mp z)
                    have z_5 := Int32.lt_iff_toInt_lt.mp (Int32.not_le.mp c_78)
                    have z_6 : ¬ (x_91 : Int32).toInt = (0 : Int32).toInt := fun z => c_92 (Int32.toInt_inj.mp z)
                    have y_0 : (0 : Int32).toInt = 0 := by decide
                    have y_6 : (6 : Int32).toInt = 6 := by decide
                    have y_1 : (1 : Int32).toInt = 1 := by decide
                    have t_x_118 : x_118.toInt = (yy_4500 : Int32).toInt + (1 : Int32).toInt := by rw [ex_118]; exact add_toInt (by omega) (by omega)
                    omega
                  exact ih_24 x_118 sv_72 yy_4502 yy_4503 yy_4504 yy_4505 yy_4506 g_117 g_115 _ _ _ (by omega) hL_122 ha_123 (hP.sub [0, 1, 2, 3, 4, 5, 6, 7, 8, 9, 10, 11] rfl) (hD.sub [0, 1, 2, 3, 4, 5, 6, 7, 8, 9, 10, 11] rfl rfl) hS (lv_sub hl [0, 2, 3, 4, 5, 6, 7] rfl)
            · skip
              refine lv_goto (tgt := 177) hx hb dX9_goThroughDay_69 (by decide) ?_
              obtain ⟨x_124, ex_124⟩ : ∃ y : Int32, y = yy_4500 + 1 := ⟨_, rfl⟩
              refine lv_iinc (v := x_124) (lv' := [(6, .int x_124), (5, .int yy_4502), (4, .int 0), (3, .int r_11), (2, .int r_4), (0, .ref (Aa 0)), (1, .ref (Ra 0))]) hx hb dX9_goThroughDay_177 hl (k := 0) rfl (by rw [ex_124]; rfl) (by decide) rfl (fun ls hl₀ => ?_)
              replace hl := hl₀
              clear hl₀
              refine lv_goto (tgt := 44) hx hb dX9_goThroughDay_180 (by decide) ?_
              have hb_125 : 6 - (x_124 : Int32).toInt < 6 - (yy_4500 : Int32).toInt ∧ 1 ≤ 6 - (yy_4500 : Int32).toInt := by
                have z_1 := congrArg Int32.toInt c_22
                have z_2 := Int32.lt_iff_toInt_lt.mp (Int32.not_le.mp c_29)
                have z_3 := Int32.lt_iff_toInt_lt.mp (Int32.not_le.mp c_45)
                have z_4 := congrArg Int32.toInt c_68
                have y_0 : (0 : Int32).toInt = 0 := by decide
                have y_6 : (6 : Int32).toInt = 6 := by decide
                have y_1 : (1 : Int32).toInt = 1 := by decide
                have t_x_124 : x_124.toInt = (yy_4500 : Int32).toInt + (1 : Int32).toInt := by rw [ex_124]; exact add_toInt (by omega) (by omega)
                omega
              have hm_126 : (6 - (yy_4500 : Int32).toInt).toNat = (6 - (x_124 : Int32).toInt).toNat + 1 := by
                have z_1 := congrArg Int32.toInt c_22
                have z_2 := Int32.lt_iff_toInt_lt.mp (Int32.not_le.mp c_29)
                have z_3 := Int32.lt_iff_toInt_lt.mp (Int32.not_le.mp c_45)
                have z_4 := congrArg Int32.toInt c_68
                have y_0 : (0 : Int32).toInt = 0 := by decide
                have y_6 : (6 : Int32).toInt = 6 := by decide
                have y_1 : (1 : Int32).toInt = 1 := by decide
                have t_x_124 : x_124.toInt = (yy_4500 : Int32).toInt + (1 : Int32).toInt := by rw [ex_124]; exact add_toInt (by omega) (by omega)
                omega
              have hb_127 : dX9_goThroughDay_r_l44 (Af 1) (Af 4) (Af 5) (Av 2) (Av 3) (Av 4) (Rf 1) Rn (0 : Int32) ((6 - (yy_4500 : Int32).toInt).toNat + 1) yy_4500 yy_4501 yy_4502 yy_4503 yy_4504 yy_4505 yy_4506 yy_4507 yy_4508 = dX9_goThroughDay_r_l44 (Af 1) (Af 4) (Af 5) (Av 2) (Av 3) (Av 4) (Rf 1) Rn (0 : Int32) ((6 - (yy_4500 : Int32).toInt).toNat) x_124 yy_4501 yy_4502 yy_4503 yy_4504 yy_4505 yy_4506 yy_4507 yy_4508 := by
                clear hP hD hS hl ih_24
                replace er_4 := er_4.symm; subst er_4
                replace er_11 := er_11.symm; subst er_11
                replace er_18 := er_18.symm; subst er_18
                replace er_64 := er_64.symm; subst er_64
                replace ex_124 := ex_124.symm; subst ex_124
                rw [dX9_goThroughDay_r_l44_s]
                rw [if_neg c_29, if_neg c_45, if_pos c_68]
                try rfl
              have hL_128 : (dX9_goThroughDay_r_l44 (Af 1) (Af 4) (Af 5) (Av 2) (Av 3) (Av 4) (Rf 1) Rn (0 : Int32) ((6 - (0 : Int32).toInt).toNat + 1) (0 : Int32) (Rg 2) (0 : Int32) (Av 0) (Av 5) (Af 3) (Af 6) (Af 8) (Af 7)) = dX9_goThroughDay_r_l44 (Af 1) (Af 4) (Af 5) (Av 2) (Av 3) (Av 4) (Rf 1) Rn (0 : Int32) ((6 - (x_124 : Int32).toInt).toNat + 1) x_124 yy_4501 yy_4502 yy_4503 yy_4504 yy_4505 yy_4506 yy_4507 yy_4508 := by
                rw [hL_27, hb_127, hm_126]
              have ha_129 : 0 ≤ (x_124 : Int32).toInt := by
                have z_1 := congrArg Int32.toInt c_22
                have z_2 := Int32.lt_iff_toInt_lt.mp (Int32.not_le.mp c_29)
                have z_3 := Int32.lt_iff_toInt_lt.mp (Int32.not_le.mp c_45)
                have z_4 := congrArg Int32.toInt c_68
                have y_0 : (0 : Int32).toInt = 0 := by decide
                have y_6 : (6 : Int32).toInt = 6 := by decide
                have y_1 : (1 : Int32).toInt = 1 := by decide
                have t_x_124 : x_124.toInt = (yy_4500 : Int32).toInt + (1 : Int32).toInt := by rw [ex_124]; exact add_toInt (by omega) (by omega)
                omega
              exact ih_24 x_124 yy_4501 yy_4502 yy_4503 yy_4504 yy_4505 yy_4506 yy_4507 yy_4508 _ _ _ (by omega) hL_128 ha_129 (hP.sub [0, 1, 2, 3, 4, 5, 6, 7, 8, 9, 10, 11] rfl) (hD.sub [0, 1, 2, 3, 4, 5, 6, 7, 8, 9, 10, 11] rfl rfl) hS (lv_sub hl [0, 1, 2, 3, 4, 5, 6] rfl)
    have ha_130 : 0 ≤ (0 : Int32).toInt := by
      have z_1 := congrArg Int32.toInt c_22
      have y_0 : (0 : Int32).toInt = 0 := by decide
      omega
    exact loop_25 _ 0 (Rg 2) 0 (Av 0) (Av 5) (Af 3) (Af 6) (Af 8) (Af 7) _ _ _ (Nat.lt_succ_self _) rfl ha_130 hP hD hS hl
  · skip
    refine lv_aload_n hx hb dX9_goThroughDay_26 rfl (lv_at hl 2 rfl) ?_
    refine gf_X9_34 hx hb hts hown hK hP 3 rfl rfl dX9_goThroughDay_27 ?_
    refine lv_iload_n hx hb dX9_goThroughDay_30 rfl (lv_at hl 0 rfl) ?_
    have hi_131 : vp_in r_11 10 := by
      have z_1 : ¬ (r_18 : Int32).toInt = (0 : Int32).toInt := fun z => c_22 (Int32.toInt_inj.mp z)
      have y_0 : (0 : Int32).toInt = 0 := by decide
      refine vp_in_iff.mpr ⟨?_, ?_⟩ <;> omega
    refine va_iald hx hb hK hP 5 0 rfl rfl hi_131 dX9_goThroughDay_31 ?_
    refine lv_topi (fun x_132 ex_132 => ?_)
    refine lv_goto (tgt := 36) hx hb dX9_goThroughDay_32 (by decide) ?_
    refine lv_istore (lv' := [(4, .int x_132), (3, .int r_11), (2, .int r_4), (0, .ref (Aa 0)), (1, .ref (Ra 0))]) hx hb dX9_goThroughDay_36 hl (by decide) rfl (fun ls hl₀ => ?_)
    replace hl := hl₀
    clear hl₀
    refine lv_iconst (v := 0) hx hb dX9_goThroughDay_38 (by decide) ?_
    refine lv_istore (lv' := [(5, .int 0), (4, .int x_132), (3, .int r_11), (2, .int r_4), (0, .ref (Aa 0)), (1, .ref (Ra 0))]) hx hb dX9_goThroughDay_39 hl (by decide) rfl (fun ls hl₀ => ?_)
    replace hl := hl₀
    clear hl₀
    refine lv_iconst (v := 0) hx hb dX9_goThroughDay_41 (by decide) ?_
    refine lv_istore (lv' := [(6, .int 0), (5, .int 0), (4, .int x_132), (3, .int r_11), (2, .int r_4), (0, .ref (Aa 0)), (1, .ref (Ra 0))]) hx hb dX9_goThroughDay_42 hl (by decide) rfl (fun ls hl₀ => ?_)
    replace hl := hl₀
    clear hl₀
    have loop_135 : ∀ (n_133 : Nat) (yy_4500 : Int32) (yy_4501 : Nat → Int64) (yy_4502 : Int32) (yy_4503 : Int32) (yy_4504 : Int32) (yy_4505 : Nat → Int32) (yy_4506 : Nat → Int32) (yy_4507 : Nat → Int32) (yy_4508 : Nat → Int32) (H : Heap) (locs : List Loc) (ls : Array Slot), (6 - (yy_4500 : Int32).toInt).toNat < n_133 → (dX9_goThroughDay_r_l44 (Af 1) (Af 4) (Af 5) (Av 2) (Av 3) (Av 4) (Rf 1) Rn x_132 ((6 - (0 : Int32).toInt).toNat + 1) (0 : Int32) (Rg 2) (0 : Int32) (Av 0) (Av 5) (Af 3) (Af 6) (Af 8) (Af 7)) = dX9_goThroughDay_r_l44 (Af 1) (Af 4) (Af 5) (Av 2) (Av 3) (Av 4) (Rf 1) Rn x_132 ((6 - (yy_4500 : Int32).toInt).toNat + 1) yy_4500 yy_4501 yy_4502 yy_4503 yy_4504 yy_4505 yy_4506 yy_4507 yy_4508 → (0 ≤ (yy_4500 : Int32).toInt) → va_P D classes [((Ra 0), .inr (6, [.ref (Ra 1), .ref (Ra 2)])), ((Ra 1), .inl (tc 0, Rn, .inl (Rf 1))), ((Ra 2), .inl (tc 1, 64, .inr (.inl yy_4501))), ((Aa 0), .inr (9, [.int yy_4503, .int (Av 1), .int (Av 2), .int (Av 3), .int (Av 4), .int yy_4504, .ref (Aa 1), .ref (Aa 2), .ref (Aa 3), .ref (Aa 4), .ref (Aa 5), .ref (Aa 6), .ref (Aa 7), .ref (Aa 8)])), ((Aa 1), .inl (tc 0, 10, .inl (Af 1))), ((Aa 2), .inl (tc 0, 10, .inl (Af 2))), ((Aa 3), .inl (tc 0, 6, .inl yy_4505)), ((Aa 4), .inl (tc 0, 6, .inl (Af 4))), ((Aa 5), .inl (tc 0, 6, .inl (Af 5))), ((Aa 6), .inl (tc 0, 6, .inl yy_4506)), ((Aa 7), .inl (tc 0, 6, .inl yy_4508)), ((Aa 8), .inl (tc 0, 6, .inl yy_4507))] H → va_D A [((Ra 0), .inr (6, [.ref (Ra 1), .ref (Ra 2)])), ((Ra 1), .inl (tc 0, Rn, .inl (Rf 1))), ((Ra 2), .inl (tc 1, 64, .inr (.inl yy_4501))), ((Aa 0), .inr (9, [.int yy_4503, .int (Av 1), .int (Av 2), .int (Av 3), .int (Av 4), .int yy_4504, .ref (Aa 1), .ref (Aa 2), .ref (Aa 3), .ref (Aa 4), .ref (Aa 5), .ref (Aa 6), .ref (Aa 7), .ref (Aa 8)])), ((Aa 1), .inl (tc 0, 10, .inl (Af 1))), ((Aa 2), .inl (tc 0, 10, .inl (Af 2))), ((Aa 3), .inl (tc 0, 6, .inl yy_4505)), ((Aa 4), .inl (tc 0, 6, .inl (Af 4))), ((Aa 5), .inl (tc 0, 6, .inl (Af 5))), ((Aa 6), .inl (tc 0, 6, .inl yy_4506)), ((Aa 7), .inl (tc 0, 6, .inl yy_4508)), ((Aa 8), .inl (tc 0, 6, .inl yy_4507))] → va_S A s.heap H locs → lv_has ls 8 [(6, .int yy_4500), (5, .int yy_4502), (4, .int x_132), (3, .int r_11), (2, .int r_4), (0, .ref (Aa 0)), (1, .ref (Ra 0))] → W p l e ({ frames := 4, cells := 0, slots := 0, locals := 89 }) s m ([.ref (Aa 0), .ref (Ra 0)].toArray) below meth c H locs 0 0 (MQ below (QW (fun (v : Option Value) (u : (Int32) × (Int32) × (Int32) × (Nat → Int32) × (Nat → Int32) × (Nat → Int32) × (Nat → Int32) × (Nat → Int64)) => match u with | (oo0x1, oo0x2, oo0x3, oo0x4, oo0x5, oo0x6, oo0x7, oo0x8) => ∃ r : Int32, v = some (.int r) ∧ ((True) ∧ (r, oo0x1, oo0x2, oo0x3, oo0x4, oo0x5, oo0x6, oo0x7, oo0x8) = (dX9_goThroughDay_r (Af 1) (Af 2) (Af 3) (Af 4) (Af 5) (Af 6) (Af 7) (Af 8) (Av 0) (Av 1) (Av 2) (Av 3) (Av 4) (Av 5) (Rf 1) (Rg 2) Rn))) (BW D (fun (u : (Int32) × (Int32) × (Int32) × (Nat → Int32) × (Nat → Int32) × (Nat → Int32) × (Nat → Int32) × (Nat → Int64)) => match u with | (oo0x1, oo0x2, oo0x3, oo0x4, oo0x5, oo0x6, oo0x7, oo0x8) => [((Aa 0), .inr (9, [.int oo0x1, .int (Av 1), .int (Av 2), .int (Av 3), .int oo0x2, .int oo0x3, .ref (Aa 1), .ref (Aa 2), .ref (Aa 3), .ref (Aa 4), .ref (Aa 5), .ref (Aa 6), .ref (Aa 7), .ref (Aa 8)])), ((Aa 1), .inl (tc 0, 10, .inl (Af 1))), ((Aa 2), .inl (tc 0, 10, .inl (Af 2))), ((Aa 3), .inl (tc 0, 6, .inl oo0x4)), ((Aa 4), .inl (tc 0, 6, .inl (Af 4))), ((Aa 5), .inl (tc 0, 6, .inl (Af 5))), ((Aa 6), .inl (tc 0, 6, .inl oo0x5)), ((Aa 7), .inl (tc 0, 6, .inl oo0x6)), ((Aa 8), .inl (tc 0, 6, .inl oo0x7)), ((Ra 0), .inr (6, [.ref (Ra 1), .ref (Ra 2)])), ((Ra 1), .inl (tc 0, Rn, .inl (Rf 1))), ((Ra 2), .inl (tc 1, 64, .inr (.inl oo0x8)))]) A) A) ([.ref (Aa 0), .ref (Ra 0)].toArray) s 0 0 A) (F0 m 44 ls []) := by
      clear hP hD hS hl
      intro n_133
      induction n_133 with
      | zero =>
        intro yy_4500 yy_4501 yy_4502 yy_4503 yy_4504 yy_4505 yy_4506 yy_4507 yy_4508 H locs ls h1
        exact absurd h1 (Nat.not_lt_zero _)
      | succ n_133 ih_134 =>
        intro yy_4500 yy_4501 yy_4502 yy_4503 yy_4504 yy_4505 yy_4506 yy_4507 yy_4508 H locs ls hn_138 hL_137 pf_136 hP hD hS hl
        refine lv_iload hx hb dX9_goThroughDay_44 (lv_at hl 0 rfl) ?_
        refine lv_aload_n hx hb dX9_goThroughDay_46 rfl (lv_at hl 5 rfl) ?_
        refine gf_X9_21 hx hb hts hown hK hP 3 rfl rfl dX9_goThroughDay_47 ?_
        refine lv_icmp_ge (tgt := 183) hx hb dX9_goThroughDay_50 (by decide) (fun c_139 => ?_) (fun c_139 => ?_)
        · skip
          have hb_141 : dX9_goThroughDay_r_l44 (Af 1) (Af 4) (Af 5) (Av 2) (Av 3) (Av 4) (Rf 1) Rn x_132 ((6 - (yy_4500 : Int32).toInt).toNat + 1) yy_4500 yy_4501 yy_4502 yy_4503 yy_4504 yy_4505 yy_4506 yy_4507 yy_4508 = (yy_4500, yy_4501, yy_4502, yy_4503, yy_4504, yy_4505, yy_4506, yy_4507, yy_4508) := by
            clear hP hD hS hl ih_134
            replace er_4 := er_4.symm; subst er_4
            replace er_11 := er_11.symm; subst er_11
            replace er_18 := er_18.symm; subst er_18
            replace ex_132 := ex_132.symm; subst ex_132
            rw [dX9_goThroughDay_r_l44_s]
            rw [if_pos c_139]
            try rfl
          have hX_140 : (dX9_goThroughDay_r_l44 (Af 1) (Af 4) (Af 5) (Av 2) (Av 3) (Av 4) (Rf 1) Rn x_132 ((6 - (0 : Int32).toInt).toNat + 1) (0 : Int32) (Rg 2) (0 : Int32) (Av 0) (Av 5) (Af 3) (Af 6) (Af 8) (Af 7)) = (yy_4500, yy_4501, yy_4502, yy_4503, yy_4504, yy_4505, yy_4506, yy_4507, yy_4508) := hL_137.trans hb_141
          have hX_140_0 : (dX9_goThroughDay_r_l44 (Af 1) (Af 4) (Af 5) (Av 2) (Av 3) (Av 4) (Rf 1) Rn x_132 ((6 - (0 : Int32).toInt).toNat + 1) (0 : Int32) (Rg 2) (0 : Int32) (Av 0) (Av 5) (Af 3) (Af 6) (Af 8) (Af 7)).1 = yy_4500 := congrArg (fun z => z.1) hX_140
          have hX_140_1 : (dX9_goThroughDay_r_l44 (Af 1) (Af 4) (Af 5) (Av 2) (Av 3) (Av 4) (Rf 1) Rn x_132 ((6 - (0 : Int32).toInt).toNat + 1) (0 : Int32) (Rg 2) (0 : Int32) (Av 0) (Av 5) (Af 3) (Af 6) (Af 8) (Af 7)).2.1 = yy_4501 := congrArg (fun z => z.2.1) hX_140
          have hX_140_2 : (dX9_goThroughDay_r_l44 (Af 1) (Af 4) (Af 5) (Av 2) (Av 3) (Av 4) (Rf 1) Rn x_132 ((6 - (0 : Int32).toInt).toNat + 1) (0 : Int32) (Rg 2) (0 : Int32) (Av 0) (Av 5) (Af 3) (Af 6) (Af 8) (Af 7)).2.2.1 = yy_4502 := congrArg (fun z => z.2.2.1) hX_140
          have hX_140_3 : (dX9_goThroughDay_r_l44 (Af 1) (Af 4) (Af 5) (Av 2) (Av 3) (Av 4) (Rf 1) Rn x_132 ((6 - (0 : Int32).toInt).toNat + 1) (0 : Int32) (Rg 2) (0 : Int32) (Av 0) (Av 5) (Af 3) (Af 6) (Af 8) (Af 7)).2.2.2.1 = yy_4503 := congrArg (fun z => z.2.2.2.1) hX_140
          have hX_140_4 : (dX9_goThroughDay_r_l44 (Af 1) (Af 4) (Af 5) (Av 2) (Av 3) (Av 4) (Rf 1) Rn x_132 ((6 - (0 : Int32).toInt).toNat + 1) (0 : Int32) (Rg 2) (0 : Int32) (Av 0) (Av 5) (Af 3) (Af 6) (Af 8) (Af 7)).2.2.2.2.1 = yy_4504 := congrArg (fun z => z.2.2.2.2.1) hX_140
          have hX_140_5 : (dX9_goThroughDay_r_l44 (Af 1) (Af 4) (Af 5) (Av 2) (Av 3) (Av 4) (Rf 1) Rn x_132 ((6 - (0 : Int32).toInt).toNat + 1) (0 : Int32) (Rg 2) (0 : Int32) (Av 0) (Av 5) (Af 3) (Af 6) (Af 8) (Af 7)).2.2.2.2.2.1 = yy_4505 := congrArg (fun z => z.2.2.2.2.2.1) hX_140
          have hX_140_6 : (dX9_goThroughDay_r_l44 (Af 1) (Af 4) (Af 5) (Av 2) (Av 3) (Av 4) (Rf 1) Rn x_132 ((6 - (0 : Int32).toInt).toNat + 1) (0 : Int32) (Rg 2) (0 : Int32) (Av 0) (Av 5) (Af 3) (Af 6) (Af 8) (Af 7)).2.2.2.2.2.2.1 = yy_4506 := congrArg (fun z => z.2.2.2.2.2.2.1) hX_140
          have hX_140_7 : (dX9_goThroughDay_r_l44 (Af 1) (Af 4) (Af 5) (Av 2) (Av 3) (Av 4) (Rf 1) Rn x_132 ((6 - (0 : Int32).toInt).toNat + 1) (0 : Int32) (Rg 2) (0 : Int32) (Av 0) (Av 5) (Af 3) (Af 6) (Af 8) (Af 7)).2.2.2.2.2.2.2.1 = yy_4507 := congrArg (fun z => z.2.2.2.2.2.2.2.1) hX_140
          have hX_140_8 : (dX9_goThroughDay_r_l44 (Af 1) (Af 4) (Af 5) (Av 2) (Av 3) (Av 4) (Rf 1) Rn x_132 ((6 - (0 : Int32).toInt).toNat + 1) (0 : Int32) (Rg 2) (0 : Int32) (Av 0) (Av 5) (Af 3) (Af 6) (Af 8) (Af 7)).2.2.2.2.2.2.2.2 = yy_4508 := congrArg (fun z => z.2.2.2.2.2.2.2.2) hX_140
          refine lv_aload_n hx hb dX9_goThroughDay_183 rfl (lv_at hl 5 rfl) ?_
          refine lv_iload_n hx hb dX9_goThroughDay_184 rfl (lv_at hl 4 rfl) ?_
          refine cV (a := (Aa 0)) (As := [.int r_4]) (rest := []) (wr := [((Ra 0), .inr (6, [.ref (Ra 1), .ref (Ra 2)])), ((Ra 1), .inl (tc 0, Rn, .inl (Rf 1))), ((Ra 2), .inl (tc 1, 64, .inr (.inl yy_4501)))]) ⟨hx, hb, hml, hown, hts⟩ hK hX hA (cu_dX9_changeTempers l D tc sk (Aa 0) (Aa 1) (Aa 2) (Aa 3) (Aa 4) (Aa 5) (Aa 6) (Aa 7) (Aa 8) yy_4503 (Av 1) (Av 2) (Av 3) (Av 4) yy_4504 (Af 1) (Af 2) yy_4505 (Af 4) (Af 5) yy_4506 yy_4508 yy_4507 r_4) k_779 k_776 k_778 k_15 k_98 pl_X9_changeTempers ⟨Nat.le_of_ble_eq_true rfl, Nat.le_of_ble_eq_true rfl⟩ rfl rfl (va_recv hK hP (ci := 9) (q0 := 3) rfl rfl) hP hD hS [3, 4, 5, 6, 7, 8, 9, 10, 11] [0, 1, 2] rfl rfl rfl rfl rfl (by decide) rfl hl.1 rfl (Nat.le_of_ble_eq_true rfl) dX9_goThroughDay_185 ⟨Nat.le_of_ble_eq_true rfl, Nat.le_of_ble_eq_true rfl⟩ (fun v_142 u_143 H locs hv_144 hP₀ hD₀ hS₀ => ?_)
          obtain ⟨sv_145, rfl⟩ : ∃ z, z = u_143 := ⟨_, rfl⟩
          obtain ⟨rfl, pf_146⟩ := hv_144
          have pf_146 : DEq (sv_145) (dX9_changeTempers yy_4505 (Av 3) r_4) := pf_146
          refine W.eq (g2 := F0 m 188 ls []) rfl ?_
          replace hP : va_P D classes [((Ra 0), .inr (6, [.ref (Ra 1), .ref (Ra 2)])), ((Ra 1), .inl (tc 0, Rn, .inl (Rf 1))), ((Ra 2), .inl (tc 1, 64, .inr (.inl yy_4501))), ((Aa 0), .inr (9, [.int yy_4503, .int (Av 1), .int (Av 2), .int (Av 3), .int (Av 4), .int yy_4504, .ref (Aa 1), .ref (Aa 2), .ref (Aa 3), .ref (Aa 4), .ref (Aa 5), .ref (Aa 6), .ref (Aa 7), .ref (Aa 8)])), ((Aa 1), .inl (tc 0, 10, .inl (Af 1))), ((Aa 2), .inl (tc 0, 10, .inl (Af 2))), ((Aa 3), .inl (tc 0, 6, .inl sv_145)), ((Aa 4), .inl (tc 0, 6, .inl (Af 4))), ((Aa 5), .inl (tc 0, 6, .inl (Af 5))), ((Aa 6), .inl (tc 0, 6, .inl yy_4506)), ((Aa 7), .inl (tc 0, 6, .inl yy_4508)), ((Aa 8), .inl (tc 0, 6, .inl yy_4507))] H := hP₀
          replace hD : va_D A [((Ra 0), .inr (6, [.ref (Ra 1), .ref (Ra 2)])), ((Ra 1), .inl (tc 0, Rn, .inl (Rf 1))), ((Ra 2), .inl (tc 1, 64, .inr (.inl yy_4501))), ((Aa 0), .inr (9, [.int yy_4503, .int (Av 1), .int (Av 2), .int (Av 3), .int (Av 4), .int yy_4504, .ref (Aa 1), .ref (Aa 2), .ref (Aa 3), .ref (Aa 4), .ref (Aa 5), .ref (Aa 6), .ref (Aa 7), .ref (Aa 8)])), ((Aa 1), .inl (tc 0, 10, .inl (Af 1))), ((Aa 2), .inl (tc 0, 10, .inl (Af 2))), ((Aa 3), .inl (tc 0, 6, .inl sv_145)), ((Aa 4), .inl (tc 0, 6, .inl (Af 4))), ((Aa 5), .inl (tc 0, 6, .inl (Af 5))), ((Aa 6), .inl (tc 0, 6, .inl yy_4506)), ((Aa 7), .inl (tc 0, 6, .inl yy_4508)), ((Aa 8), .inl (tc 0, 6, .inl yy_4507))] := hD₀
          replace hS := hS₀
          clear hP₀ hD₀ hS₀
          have esv_145 : sv_145 = (dX9_changeTempers yy_4505 (Av 3) r_4) := pf_146
          refine lv_aload_n hx hb dX9_goThroughDay_188 rfl (lv_at hl 5 rfl) ?_
          refine gf_X9_24 hx hb hts hown hK hP 3 rfl rfl dX9_goThroughDay_189 ?_
          refine lv_bipush (v := 7) hx hb dX9_goThroughDay_192 (by decide) ?_
          refine lv_irem hx hb dX9_goThroughDay_194 (by decide) ?_
          refine lv_topi (fun x_147 ex_147 => ?_)
          refine lv_bipush (v := 6) hx hb dX9_goThroughDay_195 (by decide) ?_
          refine lv_icmp_ne (tgt := 218) hx hb dX9_goThroughDay_197 (by decide) (fun c_148 => ?_) (fun c_148 => ?_)
          · skip
            refine lv_aload_n hx hb dX9_goThroughDay_218 rfl (lv_at hl 5 rfl) ?_
            refine lv_dup hx hb dX9_goThroughDay_219 rfl ?_
            refine gf_X9_24 hx hb hts hown hK hP 3 rfl rfl dX9_goThroughDay_220 ?_
            refine lv_iconst (v := 1) hx hb dX9_goThroughDay_223 (by decide) ?_
            refine lv_iadd hx hb dX9_goThroughDay_224 ?_
            refine lv_topi (fun x_149 ex_149 => ?_)
            refine pf_X9_24 hx hb hts hown hK hP hD hS 3 rfl (Nat.le_of_ble_eq_true rfl) rfl rfl dX9_goThroughDay_225 (fun H locs hP₀ hD₀ hS₀ => ?_)
            replace hP : va_P D classes [((Ra 0), .inr (6, [.ref (Ra 1), .ref (Ra 2)])), ((Ra 1), .inl (tc 0, Rn, .inl (Rf 1))), ((Ra 2), .inl (tc 1, 64, .inr (.inl yy_4501))), ((Aa 0), .inr (9, [.int yy_4503, .int (Av 1), .int (Av 2), .int (Av 3), .int x_149, .int yy_4504, .ref (Aa 1), .ref (Aa 2), .ref (Aa 3), .ref (Aa 4), .ref (Aa 5), .ref (Aa 6), .ref (Aa 7), .ref (Aa 8)])), ((Aa 1), .inl (tc 0, 10, .inl (Af 1))), ((Aa 2), .inl (tc 0, 10, .inl (Af 2))), ((Aa 3), .inl (tc 0, 6, .inl sv_145)), ((Aa 4), .inl (tc 0, 6, .inl (Af 4))), ((Aa 5), .inl (tc 0, 6, .inl (Af 5))), ((Aa 6), .inl (tc 0, 6, .inl yy_4506)), ((Aa 7), .inl (tc 0, 6, .inl yy_4508)), ((Aa 8), .inl (tc 0, 6, .inl yy_4507))] H := hP₀
            replace hD : va_D A [((Ra 0), .inr (6, [.ref (Ra 1), .ref (Ra 2)])), ((Ra 1), .inl (tc 0, Rn, .inl (Rf 1))), ((Ra 2), .inl (tc 1, 64, .inr (.inl yy_4501))), ((Aa 0), .inr (9, [.int yy_4503, .int (Av 1), .int (Av 2), .int (Av 3), .int x_149, .int yy_4504, .ref (Aa 1), .ref (Aa 2), .ref (Aa 3), .ref (Aa 4), .ref (Aa 5), .ref (Aa 6), .ref (Aa 7), .ref (Aa 8)])), ((Aa 1), .inl (tc 0, 10, .inl (Af 1))), ((Aa 2), .inl (tc 0, 10, .inl (Af 2))), ((Aa 3), .inl (tc 0, 6, .inl sv_145)), ((Aa 4), .inl (tc 0, 6, .inl (Af 4))), ((Aa 5), .inl (tc 0, 6, .inl (Af 5))), ((Aa 6), .inl (tc 0, 6, .inl yy_4506)), ((Aa 7), .inl (tc 0, 6, .inl yy_4508)), ((Aa 8), .inl (tc 0, 6, .inl yy_4507))] := hD₀
            replace hS := hS₀
            clear hP₀ hD₀ hS₀
            refine lv_iload hx hb dX9_goThroughDay_228 (lv_at hl 1 rfl) ?_
            have hF_150 : (yy_4502, yy_4503, x_149, yy_4504, sv_145, yy_4506, yy_4508, yy_4507, yy_4501) = (dX9_goThroughDay_r (Af 1) (Af 2) (Af 3) (Af 4) (Af 5) (Af 6) (Af 7) (Af 8) (Av 0) (Av 1) (Av 2) (Av 3) (Av 4) (Av 5) (Rf 1) (Rg 2) Rn) := by
              clear hP hD hS hl ih_134
              replace er_4 := er_4.symm; subst er_4
              replace er_11 := er_11.symm; subst er_11
              replace er_18 := er_18.symm; subst er_18
              replace ex_132 := ex_132.symm; subst ex_132
              replace esv_145 := esv_145.symm; subst esv_145
              replace ex_147 := ex_147.symm; subst ex_147
              replace ex_149 := ex_149.symm; subst ex_149
              unfold dX9_goThroughDay_r
              try rw [hX_140_0]
              try rw [hX_140_1]
              try rw [hX_140_2]
              try rw [hX_140_3]
              try rw [hX_140_4]
              try rw [hX_140_5]
              try rw [hX_140_6]
              try rw [hX_140_7]
              try rw [hX_140_8]
              rw [if_neg c_22, if_neg c_148]
              try rfl
            exact retI (v := yy_4502) hx hb hr hlk (rfl) hP hD hS (yy_4503, x_149, yy_4504, sv_145, yy_4506, yy_4508, yy_4507, yy_4501) ⟨_, rfl, ⟨trivial, hF_150⟩⟩ [3, 4, 5, 6, 7, 8, 9, 10, 11, 0, 1, 2] rfl rfl dX9_goThroughDay_230 (Nat.le_of_ble_eq_true rfl) (Nat.le_of_ble_eq_true rfl) rfl
          · skip
            refine lv_aload_n hx hb dX9_goThroughDay_200 rfl (lv_at hl 5 rfl) ?_
            refine lv_bipush (v := 99) hx hb dX9_goThroughDay_201 (by decide) ?_
            refine lv_aload_n hx hb dX9_goThroughDay_203 rfl (lv_at hl 5 rfl) ?_
            refine gf_X9_9 hx hb hts hown hK hP 3 rfl rfl dX9_goThroughDay_204 ?_
            refine lv_aload_n hx hb dX9_goThroughDay_207 rfl (lv_at hl 5 rfl) ?_
            refine gf_X9_15 hx hb hts hown hK hP 3 rfl rfl dX9_goThroughDay_208 ?_
            refine lv_iadd hx hb dX9_goThroughDay_211 ?_
            refine lv_topi (fun x_151 ex_151 => ?_)
            refine va_mmin hx hb (hml.trans hl.1.symm) hown (hts _ k_780) (hts _ k_680) (hts _ k_114) (hts _ k_681) (Nat.le_of_ble_eq_true rfl) (Nat.le_of_ble_eq_true rfl) (Nat.le_of_ble_eq_true rfl) (Nat.le_of_ble_eq_true rfl) dX9_goThroughDay_212 ?_
            refine lv_topi (fun x_152 ex_152 => ?_)
            have mx_152 := imin_f ex_152
            rw [show (99 : Int32).toInt = 99 by decide] at mx_152
            refine pf_X9_9 hx hb hts hown hK hP hD hS 3 rfl (Nat.le_of_ble_eq_true rfl) rfl rfl dX9_goThroughDay_215 (fun H locs hP₀ hD₀ hS₀ => ?_)
            replace hP : va_P D classes [((Ra 0), .inr (6, [.ref (Ra 1), .ref (Ra 2)])), ((Ra 1), .inl (tc 0, Rn, .inl (Rf 1))), ((Ra 2), .inl (tc 1, 64, .inr (.inl yy_4501))), ((Aa 0), .inr (9, [.int x_152, .int (Av 1), .int (Av 2), .int (Av 3), .int (Av 4), .int yy_4504, .ref (Aa 1), .ref (Aa 2), .ref (Aa 3), .ref (Aa 4), .ref (Aa 5), .ref (Aa 6), .ref (Aa 7), .ref (Aa 8)])), ((Aa 1), .inl (tc 0, 10, .inl (Af 1))), ((Aa 2), .inl (tc 0, 10, .inl (Af 2))), ((Aa 3), .inl (tc 0, 6, .inl sv_145)), ((Aa 4), .inl (tc 0, 6, .inl (Af 4))), ((Aa 5), .inl (tc 0, 6, .inl (Af 5))), ((Aa 6), .inl (tc 0, 6, .inl yy_4506)), ((Aa 7), .inl (tc 0, 6, .inl yy_4508)), ((Aa 8), .inl (tc 0, 6, .inl yy_4507))] H := hP₀
            replace hD : va_D A [((Ra 0), .inr (6, [.ref (Ra 1), .ref (Ra 2)])), ((Ra 1), .inl (tc 0, Rn, .inl (Rf 1))), ((Ra 2), .inl (tc 1, 64, .inr (.inl yy_4501))), ((Aa 0), .inr (9, [.int x_152, .int (Av 1), .int (Av 2), .int (Av 3), .int (Av 4), .int yy_4504, .ref (Aa 1), .ref (Aa 2), .ref (Aa 3), .ref (Aa 4), .ref (Aa 5), .ref (Aa 6), .ref (Aa 7), .ref (Aa 8)])), ((Aa 1), .inl (tc 0, 10, .inl (Af 1))), ((Aa 2), .inl (tc 0, 10, .inl (Af 2))), ((Aa 3), .inl (tc 0, 6, .inl sv_145)), ((Aa 4), .inl (tc 0, 6, .inl (Af 4))), ((Aa 5), .inl (tc 0, 6, .inl (Af 5))), ((Aa 6), .inl (tc 0, 6, .inl yy_4506)), ((Aa 7), .inl (tc 0, 6, .inl yy_4508)), ((Aa 8), .inl (tc 0, 6, .inl yy_4507))] := hD₀
            replace hS := hS₀
            clear hP₀ hD₀ hS₀
            refine lv_aload_n hx hb dX9_goThroughDay_218 rfl (lv_at hl 5 rfl) ?_
            refine lv_dup hx hb dX9_goThroughDay_219 rfl ?_
            refine gf_X9_24 hx hb hts hown hK hP 3 rfl rfl dX9_goThroughDay_220 ?_
            refine lv_iconst (v := 1) hx hb dX9_goThroughDay_223 (by decide) ?_
            refine lv_iadd hx hb dX9_goThroughDay_224 ?_
            refine lv_topi (fun x_153 ex_153 => ?_)
            refine pf_X9_24 hx hb hts hown hK hP hD hS 3 rfl (Nat.le_of_ble_eq_true rfl) rfl rfl dX9_goThroughDay_225 (fun H locs hP₀ hD₀ hS₀ => ?_)
            replace hP : va_P D classes [((Ra 0), .inr (6, [.ref (Ra 1), .ref (Ra 2)])), ((Ra 1), .inl (tc 0, Rn, .inl (Rf 1))), ((Ra 2), .inl (tc 1, 64, .inr (.inl yy_4501))), ((Aa 0), .inr (9, [.int x_152, .int (Av 1), .int (Av 2), .int (Av 3), .int x_153, .int yy_4504, .ref (Aa 1), .ref (Aa 2), .ref (Aa 3), .ref (Aa 4), .ref (Aa 5), .ref (Aa 6), .ref (Aa 7), .ref (Aa 8)])), ((Aa 1), .inl (tc 0, 10, .inl (Af 1))), ((Aa 2), .inl (tc 0, 10, .inl (Af 2))), ((Aa 3), .inl (tc 0, 6, .inl sv_145)), ((Aa 4), .inl (tc 0, 6, .inl (Af 4))), ((Aa 5), .inl (tc 0, 6, .inl (Af 5))), ((Aa 6), .inl (tc 0, 6, .inl yy_4506)), ((Aa 7), .inl (tc 0, 6, .inl yy_4508)), ((Aa 8), .inl (tc 0, 6, .inl yy_4507))] H := hP₀
            replace hD : va_D A [((Ra 0), .inr (6, [.ref (Ra 1), .ref (Ra 2)])), ((Ra 1), .inl (tc 0, Rn, .inl (Rf 1))), ((Ra 2), .inl (tc 1, 64, .inr (.inl yy_4501))), ((Aa 0), .inr (9, [.int x_152, .int (Av 1), .int (Av 2), .int (Av 3), .int x_153, .int yy_4504, .ref (Aa 1), .ref (Aa 2), .ref (Aa 3), .ref (Aa 4), .ref (Aa 5), .ref (Aa 6), .ref (Aa 7), .ref (Aa 8)])), ((Aa 1), .inl (tc 0, 10, .inl (Af 1))), ((Aa 2), .inl (tc 0, 10, .inl (Af 2))), ((Aa 3), .inl (tc 0, 6, .inl sv_145)), ((Aa 4), .inl (tc 0, 6, .inl (Af 4))), ((Aa 5), .inl (tc 0, 6, .inl (Af 5))), ((Aa 6), .inl (tc 0, 6, .inl yy_4506)), ((Aa 7), .inl (tc 0, 6, .inl yy_4508)), ((Aa 8), .inl (tc 0, 6, .inl yy_4507))] := hD₀
            replace hS := hS₀
            clear hP₀ hD₀ hS₀
            refine lv_iload hx hb dX9_goThroughDay_228 (lv_at hl 1 rfl) ?_
            have hF_154 : (yy_4502, x_152, x_153, yy_4504, sv_145, yy_4506, yy_4508, yy_4507, yy_4501) = (dX9_goThroughDay_r (Af 1) (Af 2) (Af 3) (Af 4) (Af 5) (Af 6) (Af 7) (Af 8) (Av 0) (Av 1) (Av 2) (Av 3) (Av 4) (Av 5) (Rf 1) (Rg 2) Rn) := by
              clear hP hD hS hl ih_134
              replace er_4 := er_4.symm; subst er_4
              replace er_11 := er_11.symm; subst er_11
              replace er_18 := er_18.symm; subst er_18
              replace ex_132 := ex_132.symm; subst ex_132
              replace esv_145 := esv_145.symm; subst esv_145
              replace ex_147 := ex_147.symm; subst ex_147
              replace ex_151 := ex_151.symm; subst ex_151
              replace ex_152 := ex_152.symm; subst ex_152
              replace ex_153 := ex_153.symm; subst ex_153
              unfold dX9_goThroughDay_r
              try rw [hX_140_0]
              try rw [hX_140_1]
              try rw [hX_140_2]
              try rw [hX_140_3]
              try rw [hX_140_4]
              try rw [hX_140_5]
              try rw [hX_140_6]
              try rw [hX_140_7]
              try rw [hX_140_8]
              rw [if_neg c_22, if_pos c_148]
              try rfl
            exact retI (v := yy_4502) hx hb hr hlk (rfl) hP hD hS (x_152, x_153, yy_4504, sv_145, yy_4506, yy_4508, yy_4507, yy_4501) ⟨_, rfl, ⟨trivial, hF_154⟩⟩ [3, 4, 5, 6, 7, 8, 9, 10, 11, 0, 1, 2] rfl rfl dX9_goThroughDay_230 (Nat.le_of_ble_eq_true rfl) (Nat.le_of_ble_eq_true rfl) rfl
        · skip
          refine lv_iload hx hb dX9_goThroughDay_53 (lv_at hl 0 rfl) ?_
          refine lv_bipush (v := 6) hx hb dX9_goThroughDay_55 (by decide) ?_
          refine lv_icmp_ge (tgt := 183) hx hb dX9_goThroughDay_57 (by decide) (fun c_155 => ?_) (fun c_155 => ?_)
          · skip
            have hb_157 : dX9_goThroughDay_r_l44 (Af 1) (Af 4) (Af 5) (Av 2) (Av 3) (Av 4) (Rf 1) Rn x_132 ((6 - (yy_4500 : Int32).toInt).toNat + 1) yy_4500 yy_4501 yy_4502 yy_4503 yy_4504 yy_4505 yy_4506 yy_4507 yy_4508 = (yy_4500, yy_4501, yy_4502, yy_4503, yy_4504, yy_4505, yy_4506, yy_4507, yy_4508) := by
              clear hP hD hS hl ih_134
              replace er_4 := er_4.symm; subst er_4
              replace er_11 := er_11.symm; subst er_11
              replace er_18 := er_18.symm; subst er_18
              replace ex_132 := ex_132.symm; subst ex_132
              rw [dX9_goThroughDay_r_l44_s]
              rw [if_neg c_139, if_pos c_155]
              try rfl
            have hX_156 : (dX9_goThroughDay_r_l44 (Af 1) (Af 4) (Af 5) (Av 2) (Av 3) (Av 4) (Rf 1) Rn x_132 ((6 - (0 : Int32).toInt).toNat + 1) (0 : Int32) (Rg 2) (0 : Int32) (Av 0) (Av 5) (Af 3) (Af 6) (Af 8) (Af 7)) = (yy_4500, yy_4501, yy_4502, yy_4503, yy_4504, yy_4505, yy_4506, yy_4507, yy_4508) := hL_137.trans hb_157
            have hX_156_0 : (dX9_goThroughDay_r_l44 (Af 1) (Af 4) (Af 5) (Av 2) (Av 3) (Av 4) (Rf 1) Rn x_132 ((6 - (0 : Int32).toInt).toNat + 1) (0 : Int32) (Rg 2) (0 : Int32) (Av 0) (Av 5) (Af 3) (Af 6) (Af 8) (Af 7)).1 = yy_4500 := congrArg (fun z => z.1) hX_156
            have hX_156_1 : (dX9_goThroughDay_r_l44 (Af 1) (Af 4) (Af 5) (Av 2) (Av 3) (Av 4) (Rf 1) Rn x_132 ((6 - (0 : Int32).toInt).toNat + 1) (0 : Int32) (Rg 2) (0 : Int32) (Av 0) (Av 5) (Af 3) (Af 6) (Af 8) (Af 7)).2.1 = yy_4501 := congrArg (fun z => z.2.1) hX_156
            have hX_156_2 : (dX9_goThroughDay_r_l44 (Af 1) (Af 4) (Af 5) (Av 2) (Av 3) (Av 4) (Rf 1) Rn x_132 ((6 - (0 : Int32).toInt).toNat + 1) (0 : Int32) (Rg 2) (0 : Int32) (Av 0) (Av 5) (Af 3) (Af 6) (Af 8) (Af 7)).2.2.1 = yy_4502 := congrArg (fun z => z.2.2.1) hX_156
            have hX_156_3 : (dX9_goThroughDay_r_l44 (Af 1) (Af 4) (Af 5) (Av 2) (Av 3) (Av 4) (Rf 1) Rn x_132 ((6 - (0 : Int32).toInt).toNat + 1) (0 : Int32) (Rg 2) (0 : Int32) (Av 0) (Av 5) (Af 3) (Af 6) (Af 8) (Af 7)).2.2.2.1 = yy_4503 := congrArg (fun z => z.2.2.2.1) hX_156
            have hX_156_4 : (dX9_goThroughDay_r_l44 (Af 1) (Af 4) (Af 5) (Av 2) (Av 3) (Av 4) (Rf 1) Rn x_132 ((6 - (0 : Int32).toInt).toNat + 1) (0 : Int32) (Rg 2) (0 : Int32) (Av 0) (Av 5) (Af 3) (Af 6) (Af 8) (Af 7)).2.2.2.2.1 = yy_4504 := congrArg (fun z => z.2.2.2.2.1) hX_156
            have hX_156_5 : (dX9_goThroughDay_r_l44 (Af 1) (Af 4) (Af 5) (Av 2) (Av 3) (Av 4) (Rf 1) Rn x_132 ((6 - (0 : Int32).toInt).toNat + 1) (0 : Int32) (Rg 2) (0 : Int32) (Av 0) (Av 5) (Af 3) (Af 6) (Af 8) (Af 7)).2.2.2.2.2.1 = yy_4505 := congrArg (fun z => z.2.2.2.2.2.1) hX_156
            have hX_156_6 : (dX9_goThroughDay_r_l44 (Af 1) (Af 4) (Af 5) (Av 2) (Av 3) (Av 4) (Rf 1) Rn x_132 ((6 - (0 : Int32).toInt).toNat + 1) (0 : Int32) (Rg 2) (0 : Int32) (Av 0) (Av 5) (Af 3) (Af 6) (Af 8) (Af 7)).2.2.2.2.2.2.1 = yy_4506 := congrArg (fun z => z.2.2.2.2.2.2.1) hX_156
            have hX_156_7 : (dX9_goThroughDay_r_l44 (Af 1) (Af 4) (Af 5) (Av 2) (Av 3) (Av 4) (Rf 1) Rn x_132 ((6 - (0 : Int32).toInt).toNat + 1) (0 : Int32) (Rg 2) (0 : Int32) (Av 0) (Av 5) (Af 3) (Af 6) (Af 8) (Af 7)).2.2.2.2.2.2.2.1 = yy_4507 := congrArg (fun z => z.2.2.2.2.2.2.2.1) hX_156
            have hX_156_8 : (dX9_goThroughDay_r_l44 (Af 1) (Af 4) (Af 5) (Av 2) (Av 3) (Av 4) (Rf 1) Rn x_132 ((6 - (0 : Int32).toInt).toNat + 1) (0 : Int32) (Rg 2) (0 : Int32) (Av 0) (Av 5) (Af 3) (Af 6) (Af 8) (Af 7)).2.2.2.2.2.2.2.2 = yy_4508 := congrArg (fun z => z.2.2.2.2.2.2.2.2) hX_156
            refine lv_aload_n hx hb dX9_goThroughDay_183 rfl (lv_at hl 5 rfl) ?_
            refine lv_iload_n hx hb dX9_goThroughDay_184 rfl (lv_at hl 4 rfl) ?_
            refine cV (a := (Aa 0)) (As := [.int r_4]) (rest := []) (wr := [((Ra 0), .inr (6, [.ref (Ra 1), .ref (Ra 2)])), ((Ra 1), .inl (tc 0, Rn, .inl (Rf 1))), ((Ra 2), .inl (tc 1, 64, .inr (.inl yy_4501)))]) ⟨hx, hb, hml, hown, hts⟩ hK hX hA (cu_dX9_changeTempers l D tc sk (Aa 0) (Aa 1) (Aa 2) (Aa 3) (Aa 4) (Aa 5) (Aa 6) (Aa 7) (Aa 8) yy_4503 (Av 1) (Av 2) (Av 3) (Av 4) yy_4504 (Af 1) (Af 2) yy_4505 (Af 4) (Af 5) yy_4506 yy_4508 yy_4507 r_4) k_779 k_776 k_778 k_15 k_98 pl_X9_changeTempers ⟨Nat.le_of_ble_eq_true rfl, Nat.le_of_ble_eq_true rfl⟩ rfl rfl (va_recv hK hP (ci := 9) (q0 := 3) rfl rfl) hP hD hS [3, 4, 5, 6, 7, 8, 9, 10, 11] [0, 1, 2] rfl rfl rfl rfl rfl (by decide) rfl hl.1 rfl (Nat.le_of_ble_eq_true rfl) dX9_goThroughDay_185 ⟨Nat.le_of_ble_eq_true rfl, Nat.le_of_ble_eq_true rfl⟩ (fun v_158 u_159 H locs hv_160 hP₀ hD₀ hS₀ => ?_)
            obtain ⟨sv_161, rfl⟩ : ∃ z, z = u_159 := ⟨_, rfl⟩
            obtain ⟨rfl, pf_162⟩ := hv_160
            have pf_162 : DEq (sv_161) (dX9_changeTempers yy_4505 (Av 3) r_4) := pf_162
            refine W.eq (g2 := F0 m 188 ls []) rfl ?_
            replace hP : va_P D classes [((Ra 0), .inr (6, [.ref (Ra 1), .ref (Ra 2)])), ((Ra 1), .inl (tc 0, Rn, .inl (Rf 1))), ((Ra 2), .inl (tc 1, 64, .inr (.inl yy_4501))), ((Aa 0), .inr (9, [.int yy_4503, .int (Av 1), .int (Av 2), .int (Av 3), .int (Av 4), .int yy_4504, .ref (Aa 1), .ref (Aa 2), .ref (Aa 3), .ref (Aa 4), .ref (Aa 5), .ref (Aa 6), .ref (Aa 7), .ref (Aa 8)])), ((Aa 1), .inl (tc 0, 10, .inl (Af 1))), ((Aa 2), .inl (tc 0, 10, .inl (Af 2))), ((Aa 3), .inl (tc 0, 6, .inl sv_161)), ((Aa 4), .inl (tc 0, 6, .inl (Af 4))), ((Aa 5), .inl (tc 0, 6, .inl (Af 5))), ((Aa 6), .inl (tc 0, 6, .inl yy_4506)), ((Aa 7), .inl (tc 0, 6, .inl yy_4508)), ((Aa 8), .inl (tc 0, 6, .inl yy_4507))] H := hP₀
            replace hD : va_D A [((Ra 0), .inr (6, [.ref (Ra 1), .ref (Ra 2)])), ((Ra 1), .inl (tc 0, Rn, .inl (Rf 1))), ((Ra 2), .inl (tc 1, 64, .inr (.inl yy_4501))), ((Aa 0), .inr (9, [.int yy_4503, .int (Av 1), .int (Av 2), .int (Av 3), .int (Av 4), .int yy_4504, .ref (Aa 1), .ref (Aa 2), .ref (Aa 3), .ref (Aa 4), .ref (Aa 5), .ref (Aa 6), .ref (Aa 7), .ref (Aa 8)])), ((Aa 1), .inl (tc 0, 10, .inl (Af 1))), ((Aa 2), .inl (tc 0, 10, .inl (Af 2))), ((Aa 3), .inl (tc 0, 6, .inl sv_161)), ((Aa 4), .inl (tc 0, 6, .inl (Af 4))), ((Aa 5), .inl (tc 0, 6, .inl (Af 5))), ((Aa 6), .inl (tc 0, 6, .inl yy_4506)), ((Aa 7), .inl (tc 0, 6, .inl yy_4508)), ((Aa 8), .inl (tc 0, 6, .inl yy_4507))] := hD₀
            replace hS := hS₀
            clear hP₀ hD₀ hS₀
            have esv_161 : sv_161 = (dX9_changeTempers yy_4505 (Av 3) r_4) := pf_162
            refine lv_aload_n hx hb dX9_goThroughDay_188 rfl (lv_at hl 5 rfl) ?_
            refine gf_X9_24 hx hb hts hown hK hP 3 rfl rfl dX9_goThroughDay_189 ?_
            refine lv_bipush (v := 7) hx hb dX9_goThroughDay_192 (by decide) ?_
            refine lv_irem hx hb dX9_goThroughDay_194 (by decide) ?_
            refine lv_topi (fun x_163 ex_163 => ?_)
            refine lv_bipush (v := 6) hx hb dX9_goThroughDay_195 (by decide) ?_
            refine lv_icmp_ne (tgt := 218) hx hb dX9_goThroughDay_197 (by decide) (fun c_164 => ?_) (fun c_164 => ?_)
            · skip
              refine lv_aload_n hx hb dX9_goThroughDay_218 rfl (lv_at hl 5 rfl) ?_
              refine lv_dup hx hb dX9_goThroughDay_219 rfl ?_
              refine gf_X9_24 hx hb hts hown hK hP 3 rfl rfl dX9_goThroughDay_220 ?_
              refine lv_iconst (v := 1) hx hb dX9_goThroughDay_223 (by decide) ?_
              refine lv_iadd hx hb dX9_goThroughDay_224 ?_
              refine lv_topi (fun x_165 ex_165 => ?_)
              refine pf_X9_24 hx hb hts hown hK hP hD hS 3 rfl (Nat.le_of_ble_eq_true rfl) rfl rfl dX9_goThroughDay_225 (fun H locs hP₀ hD₀ hS₀ => ?_)
              replace hP : va_P D classes [((Ra 0), .inr (6, [.ref (Ra 1), .ref (Ra 2)])), ((Ra 1), .inl (tc 0, Rn, .inl (Rf 1))), ((Ra 2), .inl (tc 1, 64, .inr (.inl yy_4501))), ((Aa 0), .inr (9, [.int yy_4503, .int (Av 1), .int (Av 2), .int (Av 3), .int x_165, .int yy_4504, .ref (Aa 1), .ref (Aa 2), .ref (Aa 3), .ref (Aa 4), .ref (Aa 5), .ref (Aa 6), .ref (Aa 7), .ref (Aa 8)])), ((Aa 1), .inl (tc 0, 10, .inl (Af 1))), ((Aa 2), .inl (tc 0, 10, .inl (Af 2))), ((Aa 3), .inl (tc 0, 6, .inl sv_161)), ((Aa 4), .inl (tc 0, 6, .inl (Af 4))), ((Aa 5), .inl (tc 0, 6, .inl (Af 5))), ((Aa 6), .inl (tc 0, 6, .inl yy_4506)), ((Aa 7), .inl (tc 0, 6, .inl yy_4508)), ((Aa 8), .inl (tc 0, 6, .inl yy_4507))] H := hP₀
              replace hD : va_D A [((Ra 0), .inr (6, [.ref (Ra 1), .ref (Ra 2)])), ((Ra 1), .inl (tc 0, Rn, .inl (Rf 1))), ((Ra 2), .inl (tc 1, 64, .inr (.inl yy_4501))), ((Aa 0), .inr (9, [.int yy_4503, .int (Av 1), .int (Av 2), .int (Av 3), .int x_165, .int yy_4504, .ref (Aa 1), .ref (Aa 2), .ref (Aa 3), .ref (Aa 4), .ref (Aa 5), .ref (Aa 6), .ref (Aa 7), .ref (Aa 8)])), ((Aa 1), .inl (tc 0, 10, .inl (Af 1))), ((Aa 2), .inl (tc 0, 10, .inl (Af 2))), ((Aa 3), .inl (tc 0, 6, .inl sv_161)), ((Aa 4), .inl (tc 0, 6, .inl (Af 4))), ((Aa 5), .inl (tc 0, 6, .inl (Af 5))), ((Aa 6), .inl (tc 0, 6, .inl yy_4506)), ((Aa 7), .inl (tc 0, 6, .inl yy_4508)), ((Aa 8), .inl (tc 0, 6, .inl yy_4507))] := hD₀
              replace hS := hS₀
              clear hP₀ hD₀ hS₀
              refine lv_iload hx hb dX9_goThroughDay_228 (lv_at hl 1 rfl) ?_
              have hF_166 : (yy_4502, yy_4503, x_165, yy_4504, sv_161, yy_4506, yy_4508, yy_4507, yy_4501) = (dX9_goThroughDay_r (Af 1) (Af 2) (Af 3) (Af 4) (Af 5) (Af 6) (Af 7) (Af 8) (Av 0) (Av 1) (Av 2) (Av 3) (Av 4) (Av 5) (Rf 1) (Rg 2) Rn) := by
                clear hP hD hS hl ih_134
                replace er_4 := er_4.symm; subst er_4
                replace er_11 := er_11.symm; subst er_11
                replace er_18 := er_18.symm; subst er_18
                replace ex_132 := ex_132.symm; subst ex_132
                replace esv_161 := esv_161.symm; subst esv_161
                replace ex_163 := ex_163.symm; subst ex_163
                replace ex_165 := ex_165.symm; subst ex_165
                unfold dX9_goThroughDay_r
                try rw [hX_156_0]
                try rw [hX_156_1]
                try rw [hX_156_2]
                try rw [hX_156_3]
                try rw [hX_156_4]
                try rw [hX_156_5]
                try rw [hX_156_6]
                try rw [hX_156_7]
                try rw [hX_156_8]
                rw [if_neg c_22, if_neg c_164]
                try rfl
              exact retI (v := yy_4502) hx hb hr hlk (rfl) hP hD hS (yy_4503, x_165, yy_4504, sv_161, yy_4506, yy_4508, yy_4507, yy_4501) ⟨_, rfl, ⟨trivial, hF_166⟩⟩ [3, 4, 5, 6, 7, 8, 9, 10, 11, 0, 1, 2] rfl rfl dX9_goThroughDay_230 (Nat.le_of_ble_eq_true rfl) (Nat.le_of_ble_eq_true rfl) rfl
            · skip
              refine lv_aload_n hx hb dX9_goThroughDay_200 rfl (lv_at hl 5 rfl) ?_
              refine lv_bipush (v := 99) hx hb dX9_goThroughDay_201 (by decide) ?_
              refine lv_aload_n hx hb dX9_goThroughDay_203 rfl (lv_at hl 5 rfl) ?_
              refine gf_X9_9 hx hb hts hown hK hP 3 rfl rfl dX9_goThroughDay_204 ?_
              refine lv_aload_n hx hb dX9_goThroughDay_207 rfl (lv_at hl 5 rfl) ?_
              refine gf_X9_15 hx hb hts hown hK hP 3 rfl rfl dX9_goThroughDay_208 ?_
              refine lv_iadd hx hb dX9_goThroughDay_211 ?_
              refine lv_topi (fun x_167 ex_167 => ?_)
              refine va_mmin hx hb (hml.trans hl.1.symm) hown (hts _ k_780) (hts _ k_680) (hts _ k_114) (hts _ k_681) (Nat.le_of_ble_eq_true rfl) (Nat.le_of_ble_eq_true rfl) (Nat.le_of_ble_eq_true rfl) (Nat.le_of_ble_eq_true rfl) dX9_goThroughDay_212 ?_
              refine lv_topi (fun x_168 ex_168 => ?_)
              have mx_168 := imin_f ex_168
              rw [show (99 : Int32).toInt = 99 by decide] at mx_168
              refine pf_X9_9 hx hb hts hown hK hP hD hS 3 rfl (Nat.le_of_ble_eq_true rfl) rfl rfl dX9_goThroughDay_215 (fun H locs hP₀ hD₀ hS₀ => ?_)
              replace hP : va_P D classes [((Ra 0), .inr (6, [.ref (Ra 1), .ref (Ra 2)])), ((Ra 1), .inl (tc 0, Rn, .inl (Rf 1))), ((Ra 2), .inl (tc 1, 64, .inr (.inl yy_4501))), ((Aa 0), .inr (9, [.int x_168, .int (Av 1), .int (Av 2), .int (Av 3), .int (Av 4), .int yy_4504, .ref (Aa 1), .ref (Aa 2), .ref (Aa 3), .ref (Aa 4), .ref (Aa 5), .ref (Aa 6), .ref (Aa 7), .ref (Aa 8)])), ((Aa 1), .inl (tc 0, 10, .inl (Af 1))), ((Aa 2), .inl (tc 0, 10, .inl (Af 2))), ((Aa 3), .inl (tc 0, 6, .inl sv_161)), ((Aa 4), .inl (tc 0, 6, .inl (Af 4))), ((Aa 5), .inl (tc 0, 6, .inl (Af 5))), ((Aa 6), .inl (tc 0, 6, .inl yy_4506)), ((Aa 7), .inl (tc 0, 6, .inl yy_4508)), ((Aa 8), .inl (tc 0, 6, .inl yy_4507))] H := hP₀
              replace hD : va_D A [((Ra 0), .inr (6, [.ref (Ra 1), .ref (Ra 2)])), ((Ra 1), .inl (tc 0, Rn, .inl (Rf 1))), ((Ra 2), .inl (tc 1, 64, .inr (.inl yy_4501))), ((Aa 0), .inr (9, [.int x_168, .int (Av 1), .int (Av 2), .int (Av 3), .int (Av 4), .int yy_4504, .ref (Aa 1), .ref (Aa 2), .ref (Aa 3), .ref (Aa 4), .ref (Aa 5), .ref (Aa 6), .ref (Aa 7), .ref (Aa 8)])), ((Aa 1), .inl (tc 0, 10, .inl (Af 1))), ((Aa 2), .inl (tc 0, 10, .inl (Af 2))), ((Aa 3), .inl (tc 0, 6, .inl sv_161)), ((Aa 4), .inl (tc 0, 6, .inl (Af 4))), ((Aa 5), .inl (tc 0, 6, .inl (Af 5))), ((Aa 6), .inl (tc 0, 6, .inl yy_4506)), ((Aa 7), .inl (tc 0, 6, .inl yy_4508)), ((Aa 8), .inl (tc 0, 6, .inl yy_4507))] := hD₀
              replace hS := hS₀
              clear hP₀ hD₀ hS₀
              refine lv_aload_n hx hb dX9_goThroughDay_218 rfl (lv_at hl 5 rfl) ?_
              refine lv_dup hx hb dX9_goThroughDay_219 rfl ?_
              refine gf_X9_24 hx hb hts hown hK hP 3 rfl rfl dX9_goThroughDay_220 ?_
              refine lv_iconst (v := 1) hx hb dX9_goThroughDay_223 (by decide) ?_
              refine lv_iadd hx hb dX9_goThroughDay_224 ?_
              refine lv_topi (fun x_169 ex_169 => ?_)
              refine pf_X9_24 hx hb hts hown hK hP hD hS 3 rfl (Nat.le_of_ble_eq_true rfl) rfl rfl dX9_goThroughDay_225 (fun H locs hP₀ hD₀ hS₀ => ?_)
              replace hP : va_P D classes [((Ra 0), .inr (6, [.ref (Ra 1), .ref (Ra 2)])), ((Ra 1), .inl (tc 0, Rn, .inl (Rf 1))), ((Ra 2), .inl (tc 1, 64, .inr (.inl yy_4501))), ((Aa 0), .inr (9, [.int x_168, .int (Av 1), .int (Av 2), .int (Av 3), .int x_169, .int yy_4504, .ref (Aa 1), .ref (Aa 2), .ref (Aa 3), .ref (Aa 4), .ref (Aa 5), .ref (Aa 6), .ref (Aa 7), .ref (Aa 8)])), ((Aa 1), .inl (tc 0, 10, .inl (Af 1))), ((Aa 2), .inl (tc 0, 10, .inl (Af 2))), ((Aa 3), .inl (tc 0, 6, .inl sv_161)), ((Aa 4), .inl (tc 0, 6, .inl (Af 4))), ((Aa 5), .inl (tc 0, 6, .inl (Af 5))), ((Aa 6), .inl (tc 0, 6, .inl yy_4506)), ((Aa 7), .inl (tc 0, 6, .inl yy_4508)), ((Aa 8), .inl (tc 0, 6, .inl yy_4507))] H := hP₀
              replace hD : va_D A [((Ra 0), .inr (6, [.ref (Ra 1), .ref (Ra 2)])), ((Ra 1), .inl (tc 0, Rn, .inl (Rf 1))), ((Ra 2), .inl (tc 1, 64, .inr (.inl yy_4501))), ((Aa 0), .inr (9, [.int x_168, .int (Av 1), .int (Av 2), .int (Av 3), .int x_169, .int yy_4504, .ref (Aa 1), .ref (Aa 2), .ref (Aa 3), .ref (Aa 4), .ref (Aa 5), .ref (Aa 6), .ref (Aa 7), .ref (Aa 8)])), ((Aa 1), .inl (tc 0, 10, .inl (Af 1))), ((Aa 2), .inl (tc 0, 10, .inl (Af 2))), ((Aa 3), .inl (tc 0, 6, .inl sv_161)), ((Aa 4), .inl (tc 0, 6, .inl (Af 4))), ((Aa 5), .inl (tc 0, 6, .inl (Af 5))), ((Aa 6), .inl (tc 0, 6, .inl yy_4506)), ((Aa 7), .inl (tc 0, 6, .inl yy_4508)), ((Aa 8), .inl (tc 0, 6, .inl yy_4507))] := hD₀
              replace hS := hS₀
              clear hP₀ hD₀ hS₀
              refine lv_iload hx hb dX9_goThroughDay_228 (lv_at hl 1 rfl) ?_
              have hF_170 : (yy_4502, x_168, x_169, yy_4504, sv_161, yy_4506, yy_4508, yy_4507, yy_4501) = (dX9_goThroughDay_r (Af 1) (Af 2) (Af 3) (Af 4) (Af 5) (Af 6) (Af 7) (Af 8) (Av 0) (Av 1) (Av 2) (Av 3) (Av 4) (Av 5) (Rf 1) (Rg 2) Rn) := by
                clear hP hD hS hl ih_134
                replace er_4 := er_4.symm; subst er_4
                replace er_11 := er_11.symm; subst er_11
                replace er_18 := er_18.symm; subst er_18
                replace ex_132 := ex_132.symm; subst ex_132
                replace esv_161 := esv_161.symm; subst esv_161
                replace ex_163 := ex_163.symm; subst ex_163
                replace ex_167 := ex_167.symm; subst ex_167
                replace ex_168 := ex_168.symm; subst ex_168
                replace ex_169 := ex_169.symm; subst ex_169
                unfold dX9_goThroughDay_r
                try rw [hX_156_0]
                try rw [hX_156_1]
                try rw [hX_156_2]
                try rw [hX_156_3]
                try rw [hX_156_4]
                try rw [hX_156_5]
                try rw [hX_156_6]
                try rw [hX_156_7]
                try rw [hX_156_8]
                rw [if_neg c_22, if_pos c_164]
                try rfl
              exact retI (v := yy_4502) hx hb hr hlk (rfl) hP hD hS (x_168, x_169, yy_4504, sv_161, yy_4506, yy_4508, yy_4507, yy_4501) ⟨_, rfl, ⟨trivial, hF_170⟩⟩ [3, 4, 5, 6, 7, 8, 9, 10, 11, 0, 1, 2] rfl rfl dX9_goThroughDay_230 (Nat.le_of_ble_eq_true rfl) (Nat.le_of_ble_eq_true rfl) rfl
          · skip
            refine lv_aload_n hx hb dX9_goThroughDay_60 rfl (lv_at hl 5 rfl) ?_
            refine lv_iload hx hb dX9_goThroughDay_61 (lv_at hl 0 rfl) ?_
            refine cV (a := (Aa 0)) (As := [.int yy_4500]) (rest := []) (wr := [((Ra 0), .inr (6, [.ref (Ra 1), .ref (Ra 2)])), ((Ra 1), .inl (tc 0, Rn, .inl (Rf 1))), ((Ra 2), .inl (tc 1, 64, .inr (.inl yy_4501)))]) ⟨hx, hb, hml, hown, hts⟩ hK hX hA (cu_dX9_canBuy l D tc sk (Aa 0) (Aa 1) (Aa 2) (Aa 3) (Aa 4) (Aa 5) (Aa 6) (Aa 7) (Aa 8) yy_4503 (Av 1) (Av 2) (Av 3) (Av 4) yy_4504 (Af 1) (Af 2) yy_4505 (Af 4) (Af 5) yy_4506 yy_4508 yy_4507 yy_4500) k_752 k_749 k_751 k_14 k_98 pl_X9_canBuy ⟨Nat.le_of_ble_eq_true rfl, Nat.le_of_ble_eq_true rfl⟩ rfl rfl (va_recv hK hP (ci := 9) (q0 := 3) rfl rfl) hP hD hS [3, 4, 5, 6, 7, 8, 9, 10, 11] [0, 1, 2] rfl rfl rfl rfl rfl (by decide) rfl hl.1 rfl (Nat.le_of_ble_eq_true rfl) dX9_goThroughDay_63 ⟨Nat.le_of_ble_eq_true rfl, Nat.le_of_ble_eq_true rfl⟩ (fun v_171 u_172 H locs hv_173 hP₀ hD₀ hS₀ => ?_)
            obtain ⟨r_174, rfl, he_175⟩ := hv_173
            have he_175 : ((r_174.toInt = 0 ∨ r_174.toInt = 1)) ∧ r_174 = (dX9_canBuy (Af 4) (Af 5) yy_4507 yy_4503 (Av 3) (Av 4) yy_4500) := he_175
            refine W.eq (g2 := F0 m 66 ls [.int r_174]) rfl ?_
            replace hP : va_P D classes [((Ra 0), .inr (6, [.ref (Ra 1), .ref (Ra 2)])), ((Ra 1), .inl (tc 0, Rn, .inl (Rf 1))), ((Ra 2), .inl (tc 1, 64, .inr (.inl yy_4501))), ((Aa 0), .inr (9, [.int yy_4503, .int (Av 1), .int (Av 2), .int (Av 3), .int (Av 4), .int yy_4504, .ref (Aa 1), .ref (Aa 2), .ref (Aa 3), .ref (Aa 4), .ref (Aa 5), .ref (Aa 6), .ref (Aa 7), .ref (Aa 8)])), ((Aa 1), .inl (tc 0, 10, .inl (Af 1))), ((Aa 2), .inl (tc 0, 10, .inl (Af 2))), ((Aa 3), .inl (tc 0, 6, .inl yy_4505)), ((Aa 4), .inl (tc 0, 6, .inl (Af 4))), ((Aa 5), .inl (tc 0, 6, .inl (Af 5))), ((Aa 6), .inl (tc 0, 6, .inl yy_4506)), ((Aa 7), .inl (tc 0, 6, .inl yy_4508)), ((Aa 8), .inl (tc 0, 6, .inl yy_4507))] H := hP₀
            replace hD : va_D A [((Ra 0), .inr (6, [.ref (Ra 1), .ref (Ra 2)])), ((Ra 1), .inl (tc 0, Rn, .inl (Rf 1))), ((Ra 2), .inl (tc 1, 64, .inr (.inl yy_4501))), ((Aa 0), .inr (9, [.int yy_4503, .int (Av 1), .int (Av 2), .int (Av 3), .int (Av 4), .int yy_4504, .ref (Aa 1), .ref (Aa 2), .ref (Aa 3), .ref (Aa 4), .ref (Aa 5), .ref (Aa 6), .ref (Aa 7), .ref (Aa 8)])), ((Aa 1), .inl (tc 0, 10, .inl (Af 1))), ((Aa 2), .inl (tc 0, 10, .inl (Af 2))), ((Aa 3), .inl (tc 0, 6, .inl yy_4505)), ((Aa 4), .inl (tc 0, 6, .inl (Af 4))), ((Aa 5), .inl (tc 0, 6, .inl (Af 5))), ((Aa 6), .inl (tc 0, 6, .inl yy_4506)), ((Aa 7), .inl (tc 0, 6, .inl yy_4508)), ((Aa 8), .inl (tc 0, 6, .inl yy_4507))] := hD₀
            replace hS := hS₀
            clear hP₀ hD₀ hS₀
            obtain ⟨he_175, hq_177⟩ := he_175
            have er_174 : r_174 = (dX9_canBuy (Af 4) (Af 5) yy_4507 yy_4503 (Av 3) (Av 4) yy_4500) := hq_177
            refine lv_if_ne (tgt := 72) hx hb dX9_goThroughDay_66 (by decide) (fun c_178 => ?_) (fun c_178 => ?_)
            · skip
              refine lv_aload_n hx hb dX9_goThroughDay_72 rfl (lv_at hl 6 rfl) ?_
              refine lv_ifnonnull (tgt := 98) hx hb dX9_goThroughDay_73 (by decide) ?_
              refine lv_aload_n hx hb dX9_goThroughDay_98 rfl (lv_at hl 6 rfl) ?_
              refine lv_aload_n hx hb dX9_goThroughDay_99 rfl (lv_at hl 5 rfl) ?_
              refine lv_iload hx hb dX9_goThroughDay_100 (lv_at hl 0 rfl) ?_
              refine cV (a := (Ra 0)) (As := [.ref (Aa 0), .int yy_4500]) (rest := []) (wr := []) ⟨hx, hb, hml, hown, hts⟩ hK hX hA (cu_dX6_sumFor l D tc sk (Ra 0) (Ra 1) (Ra 2) (Rf 1) yy_4501 Rn (Aa 0) (Aa 1) (Aa 2) (Aa 3) (Aa 4) (Aa 5) (Aa 6) (Aa 7) (Aa 8) yy_4503 (Av 1) (Av 2) (Av 3) (Av 4) yy_4504 (Af 1) (Af 2) yy_4505 (Af 4) (Af 5) yy_4506 yy_4508 yy_4507 yy_4500 hRn) k_756 k_753 k_754 k_755 k_112 pl_X6_sumFor ⟨Nat.le_of_ble_eq_true rfl, Nat.le_of_ble_eq_true rfl⟩ rfl rfl (va_recv hK hP (ci := 6) (q0 := 0) rfl rfl) hP hD hS [0, 1, 2, 3, 4, 5, 6, 7, 8, 9, 10, 11] [] rfl rfl rfl rfl rfl (by decide) rfl hl.1 rfl (Nat.le_of_ble_eq_true rfl) dX9_goThroughDay_102 ⟨Nat.le_of_ble_eq_true rfl, Nat.le_of_ble_eq_true rfl⟩ (fun v_179 u_180 H locs hv_181 hP₀ hD₀ hS₀ => ?_)
              obtain ⟨sv_182, rfl⟩ : ∃ z, z = u_180 := ⟨_, rfl⟩
              obtain ⟨r_183, rfl, he_184⟩ := hv_181
              have he_184 : (True) ∧ (r_183, sv_182) = (dX6_sumFor (Af 1) yy_4505 (Af 4) (Af 5) yy_4506 yy_4508 yy_4507 yy_4503 (Av 2) (Av 3) (Av 4) yy_4504 (Rf 1) yy_4501 yy_4500 Rn) := he_184
              refine W.eq (g2 := F0 m 105 ls [.long r_183]) rfl ?_
              replace hP : va_P D classes [((Ra 0), .inr (6, [.ref (Ra 1), .ref (Ra 2)])), ((Ra 1), .inl (tc 0, Rn, .inl (Rf 1))), ((Ra 2), .inl (tc 1, 64, .inr (.inl sv_182))), ((Aa 0), .inr (9, [.int yy_4503, .int (Av 1), .int (Av 2), .int (Av 3), .int (Av 4), .int yy_4504, .ref (Aa 1), .ref (Aa 2), .ref (Aa 3), .ref (Aa 4), .ref (Aa 5), .ref (Aa 6), .ref (Aa 7), .ref (Aa 8)])), ((Aa 1), .inl (tc 0, 10, .inl (Af 1))), ((Aa 2), .inl (tc 0, 10, .inl (Af 2))), ((Aa 3), .inl (tc 0, 6, .inl yy_4505)), ((Aa 4), .inl (tc 0, 6, .inl (Af 4))), ((Aa 5), .inl (tc 0, 6, .inl (Af 5))), ((Aa 6), .inl (tc 0, 6, .inl yy_4506)), ((Aa 7), .inl (tc 0, 6, .inl yy_4508)), ((Aa 8), .inl (tc 0, 6, .inl yy_4507))] H := hP₀
              replace hD : va_D A [((Ra 0), .inr (6, [.ref (Ra 1), .ref (Ra 2)])), ((Ra 1), .inl (tc 0, Rn, .inl (Rf 1))), ((Ra 2), .inl (tc 1, 64, .inr (.inl sv_182))), ((Aa 0), .inr (9, [.int yy_4503, .int (Av 1), .int (Av 2), .int (Av 3), .int (Av 4), .int yy_4504, .ref (Aa 1), .ref (Aa 2), .ref (Aa 3), .ref (Aa 4), .ref (Aa 5), .ref (Aa 6), .ref (Aa 7), .ref (Aa 8)])), ((Aa 1), .inl (tc 0, 10, .inl (Af 1))), ((Aa 2), .inl (tc 0, 10, .inl (Af 2))), ((Aa 3), .inl (tc 0, 6, .inl yy_4505)), ((Aa 4), .inl (tc 0, 6, .inl (Af 4))), ((Aa 5), .inl (tc 0, 6, .inl (Af 5))), ((Aa 6), .inl (tc 0, 6, .inl yy_4506)), ((Aa 7), .inl (tc 0, 6, .inl yy_4508)), ((Aa 8), .inl (tc 0, 6, .inl yy_4507))] := hD₀
              replace hS := hS₀
              clear hP₀ hD₀ hS₀
              obtain ⟨he_184, hq_186⟩ := he_184
              have er_183 : r_183 = (dX6_sumFor (Af 1) yy_4505 (Af 4) (Af 5) yy_4506 yy_4508 yy_4507 yy_4503 (Av 2) (Av 3) (Av 4) yy_4504 (Rf 1) yy_4501 yy_4500 Rn).1 := congrArg (fun z => z.1) hq_186
              have esv_182 : sv_182 = (dX6_sumFor (Af 1) yy_4505 (Af 4) (Af 5) yy_4506 yy_4508 yy_4507 yy_4503 (Av 2) (Av 3) (Av 4) yy_4504 (Rf 1) yy_4501 yy_4500 Rn).2 := congrArg (fun z => z.2) hq_186
              refine lv_lconst (v := 0) hx hb dX9_goThroughDay_105 (by decide) ?_
              refine W.lcmp hx hb dX9_goThroughDay_106 ?_
              refine lv_topi (fun x_187 ex_187 => ?_)
              refine lv_if_le (tgt := 114) hx hb dX9_goThroughDay_107 (by decide) (fun c_188 => ?_) (fun c_188 => ?_)
              · skip
                have lz_189 : (r_183 : Int64).toInt ≤ (0 : Int64).toInt := by have hc := c_188; rw [ex_187] at hc; exact Int64.le_iff_toInt_le.mp ((lg_cmp_le _ _).mp hc)
                refine lv_iconst (v := 0) hx hb dX9_goThroughDay_114 (by decide) ?_
                refine lv_istore (lv' := [(7, .int 0), (6, .int yy_4500), (5, .int yy_4502), (4, .int x_132), (3, .int r_11), (2, .int r_4), (0, .ref (Aa 0)), (1, .ref (Ra 0))]) hx hb dX9_goThroughDay_115 hl (by decide) rfl (fun ls hl₀ => ?_)
                replace hl := hl₀
                clear hl₀
                refine lv_iload hx hb dX9_goThroughDay_117 (lv_at hl 0 rfl) ?_
                refine lv_if_eq (tgt := 157) hx hb dX9_goThroughDay_119 (by decide) (fun c_190 => ?_) (fun c_190 => absurd c_190 (by decide))
                refine lv_iload hx hb dX9_goThroughDay_157 (lv_at hl 0 rfl) ?_
                refine lv_if_eq (tgt := 177) hx hb dX9_goThroughDay_159 (by decide) (fun c_191 => ?_) (fun c_191 => absurd c_191 (by decide))
                obtain ⟨x_192, ex_192⟩ : ∃ y : Int32, y = yy_4500 + 1 := ⟨_, rfl⟩
                refine lv_iinc (v := x_192) (lv' := [(6, .int x_192), (7, .int 0), (5, .int yy_4502), (4, .int x_132), (3, .int r_11), (2, .int r_4), (0, .ref (Aa 0)), (1, .ref (Ra 0))]) hx hb dX9_goThroughDay_177 hl (k := 1) rfl (by rw [ex_192]; rfl) (by decide) rfl (fun ls hl₀ => ?_)
                replace hl := hl₀
                clear hl₀
                refine lv_goto (tgt := 44) hx hb dX9_goThroughDay_180 (by decide) ?_
                have hb_193 : 6 - (x_192 : Int32).toInt < 6 - (yy_4500 : Int32).toInt ∧ 1 ≤ 6 - (yy_4500 : Int32).toInt := by
                  have z_1 : ¬ (r_18 : Int32).toInt = (0 : Int32).toInt := fun z => c_22 (Int32.toInt_inj.mp z)
                  have z_2 := Int32.lt_iff_toInt_lt.mp (Int32.not_le.mp c_139)
                  have z_3 := Int32.lt_iff_toInt_lt.mp (Int32.not_le.mp c_155)
                  have z_4 : ¬ (r_174 : Int32).toInt = (0 : Int32).toInt := fun z => c_178 (Int32.toInt_inj.mp z)
                  have z_5 := Int32.le_iff_toInt_le.mp c_188
                  have y_0 : (0 : Int32).toInt = 0 := by decide
                  have y_6 : (6 : Int32).toInt = 6 := by decide
                  have y_1 : (1 : Int32).toInt = 1 := by decide
                  have t_x_192 : x_192.toInt = (yy_4500 : Int32).toInt + (1 : Int32).toInt := by rw [ex_192]; exact add_toInt (by omega) (by omega)
                  omega
                have hm_194 : (6 - (yy_4500 : Int32).toInt).toNat = (6 - (x_192 : Int32).toInt).toNat + 1 := by
                  have z_1 : ¬ (r_18 : Int32).toInt = (0 : Int32).toInt := fun z => c_22 (Int32.toInt_inj.mp z)
                  have z_2 := Int32.lt_iff_toInt_lt.mp (Int32.not_le.mp c_139)
                  have z_3 := Int32.lt_iff_toInt_lt.mp (Int32.not_le.mp c_155)
                  have z_4 : ¬ (r_174 : Int32).toInt = (0 : Int32).toInt := fun z => c_178 (Int32.toInt_inj.mp z)
                  have z_5 := Int32.le_iff_toInt_le.mp c_188
                  have y_0 : (0 : Int32).toInt = 0 := by decide
                  have y_6 : (6 : Int32).toInt = 6 := by decide
                  have y_1 : (1 : Int32).toInt = 1 := by decide
                  have t_x_192 : x_192.toInt = (yy_4500 : Int32).toInt + (1 : Int32).toInt := by rw [ex_192]; exact add_toInt (by omega) (by omega)
                  omega
                have hb_195 : dX9_goThroughDay_r_l44 (Af 1) (Af 4) (Af 5) (Av 2) (Av 3) (Av 4) (Rf 1) Rn x_132 ((6 - (yy_4500 : Int32).toInt).toNat + 1) yy_4500 yy_4501 yy_4502 yy_4503 yy_4504 yy_4505 yy_4506 yy_4507 yy_4508 = dX9_goThroughDay_r_l44 (Af 1) (Af 4) (Af 5) (Av 2) (Av 3) (Av 4) (Rf 1) Rn x_132 ((6 - (yy_4500 : Int32).toInt).toNat) x_192 sv_182 yy_4502 yy_4503 yy_4504 yy_4505 yy_4506 yy_4507 yy_4508 := by
                  clear hP hD hS hl ih_134
                  replace er_4 := er_4.symm; subst er_4
                  replace er_11 := er_11.symm; subst er_11
                  replace er_18 := er_18.symm; subst er_18
                  replace ex_132 := ex_132.symm; subst ex_132
                  replace er_174 := er_174.symm; subst er_174
                  replace er_183 := er_183.symm; subst er_183
                  replace esv_182 := esv_182.symm; subst esv_182
                  replace ex_187 := ex_187.symm; subst ex_187
                  replace ex_192 := ex_192.symm; subst ex_192
                  rw [dX9_goThroughDay_r_l44_s]
                  rw [if_neg c_139, if_neg c_155, if_neg c_178, if_pos c_188]
                  try rfl
                have hL_196 : (dX9_goThroughDay_r_l44 (Af 1) (Af 4) (Af 5) (Av 2) (Av 3) (Av 4) (Rf 1) Rn x_132 ((6 - (0 : Int32).toInt).toNat + 1) (0 : Int32) (Rg 2) (0 : Int32) (Av 0) (Av 5) (Af 3) (Af 6) (Af 8) (Af 7)) = dX9_goThroughDay_r_l44 (Af 1) (Af 4) (Af 5) (Av 2) (Av 3) (Av 4) (Rf 1) Rn x_132 ((6 - (x_192 : Int32).toInt).toNat + 1) x_192 sv_182 yy_4502 yy_4503 yy_4504 yy_4505 yy_4506 yy_4507 yy_4508 := by
                  rw [hL_137, hb_195, hm_194]
                have ha_197 : 0 ≤ (x_192 : Int32).toInt := by
                  have z_1 : ¬ (r_18 : Int32).toInt = (0 : Int32).toInt := fun z => c_22 (Int32.toInt_inj.mp z)
                  have z_2 := Int32.lt_iff_toInt_lt.mp (Int32.not_le.mp c_139)
                  have z_3 := Int32.lt_iff_toInt_lt.mp (Int32.not_le.mp c_155)
                  have z_4 : ¬ (r_174 : Int32).toInt = (0 : Int32).toInt := fun z => c_178 (Int32.toInt_inj.mp z)
                  have z_5 := Int32.le_iff_toInt_le.mp c_188
                  have y_0 : (0 : Int32).toInt = 0 := by decide
                  have y_6 : (6 : Int32).toInt = 6 := by decide
                  have y_1 : (1 : Int32).toInt = 1 := by decide
                  have t_x_192 : x_192.toInt = (yy_4500 : Int32).toInt + (1 : Int32).toInt := by rw [ex_192]; exact add_toInt (by omega) (by omega)
                  omega
                exact ih_134 x_192 sv_182 yy_4502 yy_4503 yy_4504 yy_4505 yy_4506 yy_4507 yy_4508 _ _ _ (by omega) hL_196 ha_197 (hP.sub [0, 1, 2, 3, 4, 5, 6, 7, 8, 9, 10, 11] rfl) (hD.sub [0, 1, 2, 3, 4, 5, 6, 7, 8, 9, 10, 11] rfl rfl) hS (lv_sub hl [0, 2, 3, 4, 5, 6, 7] rfl)
              · skip
                have lz_198 : (0 : Int64).toInt < (r_183 : Int64).toInt := by have hc := c_188; rw [ex_187] at hc; exact Int64.lt_iff_toInt_lt.mp (Int64.not_le.mp (fun z => hc ((lg_cmp_le _ _).mpr z)))
                refine lv_iconst (v := 1) hx hb dX9_goThroughDay_110 (by decide) ?_
                refine lv_goto (tgt := 115) hx hb dX9_goThroughDay_111 (by decide) ?_
                refine lv_istore (lv' := [(7, .int 1), (6, .int yy_4500), (5, .int yy_4502), (4, .int x_132), (3, .int r_11), (2, .int r_4), (0, .ref (Aa 0)), (1, .ref (Ra 0))]) hx hb dX9_goThroughDay_115 hl (by decide) rfl (fun ls hl₀ => ?_)
                replace hl := hl₀
                clear hl₀
                refine lv_iload hx hb dX9_goThroughDay_117 (lv_at hl 0 rfl) ?_
                refine lv_if_eq (tgt := 157) hx hb dX9_goThroughDay_119 (by decide) (fun c_199 => absurd c_199 (by decide)) (fun c_199 => ?_)
                refine lv_iload hx hb dX9_goThroughDay_122 (lv_at hl 3 rfl) ?_
                refine lv_iload hx hb dX9_goThroughDay_124 (lv_at hl 1 rfl) ?_
                refine lv_ishr hx hb dX9_goThroughDay_126 ?_
                refine lv_topi (fun x_200 ex_200 => ?_)
                refine lv_iconst (v := 1) hx hb dX9_goThroughDay_127 (by decide) ?_
                refine lv_iand hx hb dX9_goThroughDay_128 ?_
                refine lv_topi (fun x_201 ex_201 => ?_)
                refine lv_if_eq (tgt := 157) hx hb dX9_goThroughDay_129 (by decide) (fun c_202 => ?_) (fun c_202 => ?_)
                · skip
                  refine lv_iload hx hb dX9_goThroughDay_157 (lv_at hl 0 rfl) ?_
                  refine lv_if_eq (tgt := 177) hx hb dX9_goThroughDay_159 (by decide) (fun c_203 => absurd c_203 (by decide)) (fun c_203 => ?_)
                  refine lv_aload_n hx hb dX9_goThroughDay_162 rfl (lv_at hl 6 rfl) ?_
                  refine lv_iload hx hb dX9_goThroughDay_163 (lv_at hl 1 rfl) ?_
                  refine cV (a := (Aa 0)) (As := [.int yy_4500]) (rest := []) (wr := [((Ra 0), .inr (6, [.ref (Ra 1), .ref (Ra 2)])), ((Ra 1), .inl (tc 0, Rn, .inl (Rf 1))), ((Ra 2), .inl (tc 1, 64, .inr (.inl sv_182)))]) ⟨hx, hb, hml, hown, hts⟩ hK hX hA (cu_dX9_handOver l D tc sk (Aa 0) (Aa 1) (Aa 2) (Aa 3) (Aa 4) (Aa 5) (Aa 6) (Aa 7) (Aa 8) yy_4503 (Av 1) (Av 2) (Av 3) (Av 4) yy_4504 (Af 1) (Af 2) yy_4505 (Af 4) (Af 5) yy_4506 yy_4508 yy_4507 yy_4500) k_772 k_769 k_770 k_771 k_98 pl_X9_handOver ⟨Nat.le_of_ble_eq_true rfl, Nat.le_of_ble_eq_true rfl⟩ rfl rfl (va_recv hK hP (ci := 9) (q0 := 3) rfl rfl) hP hD hS [3, 4, 5, 6, 7, 8, 9, 10, 11] [0, 1, 2] rfl rfl rfl rfl rfl (by decide) rfl hl.1 rfl (Nat.le_of_ble_eq_true rfl) dX9_goThroughDay_165 ⟨Nat.le_of_ble_eq_true rfl, Nat.le_of_ble_eq_true rfl⟩ (fun v_204 u_205 H locs hv_206 hP₀ hD₀ hS₀ => ?_)
                  obtain ⟨sv_207, sv_208, sv_209, sv_210, sv_211⟩ := u_205
                  obtain ⟨rfl, pf_212⟩ := hv_206
                  have pf_212 : DEq ((sv_207, sv_208, sv_209, sv_210, sv_211)) (dX9_handOver yy_4505 (Af 4) yy_4506 yy_4507 yy_4503 (Av 3) (Av 4) yy_4504 yy_4500) := pf_212
                  refine W.eq (g2 := F0 m 168 ls []) rfl ?_
                  replace hP : va_P D classes [((Ra 0), .inr (6, [.ref (Ra 1), .ref (Ra 2)])), ((Ra 1), .inl (tc 0, Rn, .inl (Rf 1))), ((Ra 2), .inl (tc 1, 64, .inr (.inl sv_182))), ((Aa 0), .inr (9, [.int sv_207, .int (Av 1), .int (Av 2), .int (Av 3), .int (Av 4), .int sv_208, .ref (Aa 1), .ref (Aa 2), .ref (Aa 3), .ref (Aa 4), .ref (Aa 5), .ref (Aa 6), .ref (Aa 7), .ref (Aa 8)])), ((Aa 1), .inl (tc 0, 10, .inl (Af 1))), ((Aa 2), .inl (tc 0, 10, .inl (Af 2))), ((Aa 3), .inl (tc 0, 6, .inl sv_209)), ((Aa 4), .inl (tc 0, 6, .inl (Af 4))), ((Aa 5), .inl (tc 0, 6, .inl (Af 5))), ((Aa 6), .inl (tc 0, 6, .inl sv_210)), ((Aa 7), .inl (tc 0, 6, .inl yy_4508)), ((Aa 8), .inl (tc 0, 6, .inl sv_211))] H := hP₀
                  replace hD : va_D A [((Ra 0), .inr (6, [.ref (Ra 1), .ref (Ra 2)])), ((Ra 1), .inl (tc 0, Rn, .inl (Rf 1))), ((Ra 2), .inl (tc 1, 64, .inr (.inl sv_182))), ((Aa 0), .inr (9, [.int sv_207, .int (Av 1), .int (Av 2), .int (Av 3), .int (Av 4), .int sv_208, .ref (Aa 1), .ref (Aa 2), .ref (Aa 3), .ref (Aa 4), .ref (Aa 5), .ref (Aa 6), .ref (Aa 7), .ref (Aa 8)])), ((Aa 1), .inl (tc 0, 10, .inl (Af 1))), ((Aa 2), .inl (tc 0, 10, .inl (Af 2))), ((Aa 3), .inl (tc 0, 6, .inl sv_209)), ((Aa 4), .inl (tc 0, 6, .inl (Af 4))), ((Aa 5), .inl (tc 0, 6, .inl (Af 5))), ((Aa 6), .inl (tc 0, 6, .inl sv_210)), ((Aa 7), .inl (tc 0, 6, .inl yy_4508)), ((Aa 8), .inl (tc 0, 6, .inl sv_211))] := hD₀
                  replace hS := hS₀
                  clear hP₀ hD₀ hS₀
                  have esv_207 : sv_207 = (dX9_handOver yy_4505 (Af 4) yy_4506 yy_4507 yy_4503 (Av 3) (Av 4) yy_4504 yy_4500).1 := congrArg (fun z => z.1) pf_212
                  have esv_208 : sv_208 = (dX9_handOver yy_4505 (Af 4) yy_4506 yy_4507 yy_4503 (Av 3) (Av 4) yy_4504 yy_4500).2.1 := congrArg (fun z => z.2.1) pf_212
                  have esv_209 : sv_209 = (dX9_handOver yy_4505 (Af 4) yy_4506 yy_4507 yy_4503 (Av 3) (Av 4) yy_4504 yy_4500).2.2.1 := congrArg (fun z => z.2.2.1) pf_212
                  have esv_210 : sv_210 = (dX9_handOver yy_4505 (Af 4) yy_4506 yy_4507 yy_4503 (Av 3) (Av 4) yy_4504 yy_4500).2.2.2.1 := congrArg (fun z => z.2.2.2.1) pf_212
                  have esv_211 : sv_211 = (dX9_handOver yy_4505 (Af 4) yy_4506 yy_4507 yy_4503 (Av 3) (Av 4) yy_4504 yy_4500).2.2.2.2 := congrArg (fun z => z.2.2.2.2) pf_212
                  refine lv_iload hx hb dX9_goThroughDay_168 (lv_at hl 2 rfl) ?_
                  refine lv_iconst (v := 1) hx hb dX9_goThroughDay_170 (by decide) ?_
                  refine lv_iload hx hb dX9_goThroughDay_171 (lv_at hl 1 rfl) ?_
                  refine lv_ishl hx hb dX9_goThroughDay_173 ?_
                  refine lv_topi (fun x_213 ex_213 => ?_)
                  refine lv_ior hx hb dX9_goThroughDay_174 ?_
                  refine lv_topi (fun x_214 ex_214 => ?_)
                  refine lv_istore (lv' := [(5, .int x_214), (7, .int 1), (6, .int yy_4500), (4, .int x_132), (3, .int r_11), (2, .int r_4), (0, .ref (Aa 0)), (1, .ref (Ra 0))]) hx hb dX9_goThroughDay_175 hl (by decide) rfl (fun ls hl₀ => ?_)
                  replace hl := hl₀
                  clear hl₀
                  obtain ⟨x_215, ex_215⟩ : ∃ y : Int32, y = yy_4500 + 1 := ⟨_, rfl⟩
                  refine lv_iinc (v := x_215) (lv' := [(6, .int x_215), (5, .int x_214), (7, .int 1), (4, .int x_132), (3, .int r_11), (2, .int r_4), (0, .ref (Aa 0)), (1, .ref (Ra 0))]) hx hb dX9_goThroughDay_177 hl (k := 2) rfl (by rw [ex_215]; rfl) (by decide) rfl (fun ls hl₀ => ?_)
                  replace hl := hl₀
                  clear hl₀
                  refine lv_goto (tgt := 44) hx hb dX9_goThroughDay_180 (by decide) ?_
                  have hb_216 : 6 - (x_215 : Int32).toInt < 6 - (yy_4500 : Int32).toInt ∧ 1 ≤ 6 - (yy_4500 : Int32).toInt := by
                    have z_1 : ¬ (r_18 : Int32).toInt = (0 : Int32).toInt := fun z => c_22 (Int32.toInt_inj.mp z)
                    have z_2 := Int32.lt_iff_toInt_lt.mp (Int32.not_le.mp c_139)
                    have z_3 := Int32.lt_iff_toInt_lt.mp (Int32.not_le.mp c_155)
                    have z_4 : ¬ (r_174 : Int32).toInt = (0 : Int32).toInt := fun z => c_178 (Int32.toInt_inj.mp z)
                    have z_5 := Int32.lt_iff_toInt_lt.mp (Int32.not_le.mp c_188)
                    have z_6 := congrArg Int32.toInt c_202
                    have y_0 : (0 : Int32).toInt = 0 := by decide
                    have y_6 : (6 : Int32).toInt = 6 := by decide
                    have y_1 : (1 : Int32).toInt = 1 := by decide
                    have t_x_215 : x_215.toInt = (yy_4500 : Int32).toInt + (1 : Int32).toInt := by rw [ex_215]; exact add_toInt (by omega) (by omega)
                    omega
                  have hm_217 : (6 - (yy_4500 : Int32).toInt).toNat = (6 - (x_215 : Int32).toInt).toNat + 1 := by
                    have z_1 : ¬ (r_18 : Int32).toInt = (0 : Int32).toInt := fun z => c_22 (Int32.toInt_inj.mp z)
                    have z_2 := Int32.lt_iff_toInt_lt.mp (Int32.not_le.mp c_139)
                    have z_3 := Int32.lt_iff_toInt_lt.mp (Int32.not_le.mp c_155)
                    have z_4 : ¬ (r_174 : Int32).toInt = (0 : Int32).toInt := fun z => c_178 (Int32.toInt_inj.mp z)
                    have z_5 := Int32.lt_iff_toInt_lt.mp (Int32.not_le.mp c_188)
                    have z_6 := congrArg Int32.toInt c_202
                    have y_0 : (0 : Int32).toInt = 0 := by decide
                    have y_6 : (6 : Int32).toInt = 6 := by decide
                    have y_1 : (1 : Int32).toInt = 1 := by decide
                    have t_x_215 : x_215.toInt = (yy_4500 : Int32).toInt + (1 : Int32).toInt := by rw [ex_215]; exact add_toInt (by omega) (by omega)
                    omega
                  have hb_218 : dX9_goThroughDay_r_l44 (Af 1) (Af 4) (Af 5) (Av 2) (Av 3) (Av 4) (Rf 1) Rn x_132 ((6 - (yy_4500 : Int32).toInt).toNat + 1) yy_4500 yy_4501 yy_4502 yy_4503 yy_4504 yy_4505 yy_4506 yy_4507 yy_4508 = dX9_goThroughDay_r_l44 (Af 1) (Af 4) (Af 5) (Av 2) (Av 3) (Av 4) (Rf 1) Rn x_132 ((6 - (yy_4500 : Int32).toInt).toNat) x_215 sv_182 x_214 sv_207 sv_208 sv_209 sv_210 sv_211 yy_4508 := by
                    clear hP hD hS hl ih_134
                    replace er_4 := er_4.symm; subst er_4
                    replace er_11 := er_11.symm; subst er_11
                    replace er_18 := er_18.symm; subst er_18
                    replace ex_132 := ex_132.symm; subst ex_132
                    replace er_174 := er_174.symm; subst er_174
                    replace er_183 := er_183.symm; subst er_183
                    replace esv_182 := esv_182.symm; subst esv_182
                    replace ex_187 := ex_187.symm; subst ex_187
                    replace ex_200 := ex_200.symm; subst ex_200
                    replace ex_201 := ex_201.symm; subst ex_201
                    replace esv_207 := esv_207.symm; subst esv_207
                    replace esv_208 := esv_208.symm; subst esv_208
                    replace esv_209 := esv_209.symm; subst esv_209
                    replace esv_210 := esv_210.symm; subst esv_210
                    replace esv_211 := esv_211.symm; subst esv_211
                    replace ex_213 := ex_213.symm; subst ex_213
                    replace ex_214 := ex_214.symm; subst ex_214
                    replace ex_215 := ex_215.symm; subst ex_215
                    rw [dX9_goThroughDay_r_l44_s]
                    rw [if_neg c_139, if_neg c_155, if_neg c_178, if_neg c_188, if_pos c_202]
                    try rfl
                  have hL_219 : (dX9_goThroughDay_r_l44 (Af 1) (Af 4) (Af 5) (Av 2) (Av 3) (Av 4) (Rf 1) Rn x_132 ((6 - (0 : Int32).toInt).toNat + 1) (0 : Int32) (Rg 2) (0 : Int32) (Av 0) (Av 5) (Af 3) (Af 6) (Af 8) (Af 7)) = dX9_goThroughDay_r_l44 (Af 1) (Af 4) (Af 5) (Av 2) (Av 3) (Av 4) (Rf 1) Rn x_132 ((6 - (x_215 : Int32).toInt).toNat + 1) x_215 sv_182 x_214 sv_207 sv_208 sv_209 sv_210 sv_211 yy_4508 := by
                    rw [hL_137, hb_218, hm_217]
                  have ha_220 : 0 ≤ (x_215 : Int32).toInt := by
                    have z_1 : ¬ (r_18 : Int32).toInt = (0 : Int32).toInt := fun z => c_22 (Int32.toInt_inj.mp z)
                    have z_2 := Int32.lt_iff_toInt_lt.mp (Int32.not_le.mp c_139)
                    have z_3 := Int32.lt_iff_toInt_lt.mp (Int32.not_le.mp c_155)
                    have z_4 : ¬ (r_174 : Int32).toInt = (0 : Int32).toInt := fun z => c_178 (Int32.toInt_inj.mp z)
                    have z_5 := Int32.lt_iff_toInt_lt.mp (Int32.not_le.mp c_188)
                    have z_6 := congrArg Int32.toInt c_202
                    have y_0 : (0 : Int32).toInt = 0 := by decide
                    have y_6 : (6 : Int32).toInt = 6 := by decide
                    have y_1 : (1 : Int32).toInt = 1 := by decide
                    have t_x_215 : x_215.toInt = (yy_4500 : Int32).toInt + (1 : Int32).toInt := by rw [ex_215]; exact add_toInt (by omega) (by omega)
                    omega
                  exact ih_134 x_215 sv_182 x_214 sv_207 sv_208 sv_209 sv_210 sv_211 yy_4508 _ _ _ (by omega) hL_219 ha_220 (hP.sub [0, 1, 2, 3, 4, 5, 6, 7, 8, 9, 10, 11] rfl) (hD.sub [0, 1, 2, 3, 4, 5, 6, 7, 8, 9, 10, 11] rfl rfl) hS (lv_sub hl [0, 1, 3, 4, 5, 6, 7] rfl)
                · skip
                  refine lv_aload_n hx hb dX9_goThroughDay_132 rfl (lv_at hl 6 rfl) ?_
                  refine gf_X9_49 hx hb hts hown hK hP 3 rfl rfl dX9_goThroughDay_133 ?_
                  refine lv_iload hx hb dX9_goThroughDay_136 (lv_at hl 1 rfl) ?_
                  refine lv_dup2_11 hx hb dX9_goThroughDay_138 rfl rfl ?_
                  have hi_221 : vp_in yy_4500 6 := by
                    have z_1 : ¬ (r_18 : Int32).toInt = (0 : Int32).toInt := fun z => c_22 (Int32.toInt_inj.mp z)
                    have z_2 := Int32.lt_iff_toInt_lt.mp (Int32.not_le.mp c_139)
                    have z_3 := Int32.lt_iff_toInt_lt.mp (Int32.not_le.mp c_155)
                    have z_4 : ¬ (r_174 : Int32).toInt = (0 : Int32).toInt := fun z => c_178 (Int32.toInt_inj.mp z)
                    have z_5 := Int32.lt_iff_toInt_lt.mp (Int32.not_le.mp c_188)
                    have z_6 : ¬ (x_201 : Int32).toInt = (0 : Int32).toInt := fun z => c_202 (Int32.toInt_inj.mp z)
                    have y_0 : (0 : Int32).toInt = 0 := by decide
                    have y_6 : (6 : Int32).toInt = 6 := by decide
                    refine vp_in_iff.mpr ⟨?_, ?_⟩ <;> omega
                  refine va_iald hx hb hK hP 10 0 rfl rfl hi_221 dX9_goThroughDay_139 ?_
                  refine lv_topi (fun x_222 ex_222 => ?_)
                  refine lv_iconst (v := 1) hx hb dX9_goThroughDay_140 (by decide) ?_
                  refine lv_iadd hx hb dX9_goThroughDay_141 ?_
                  refine lv_topi (fun x_223 ex_223 => ?_)
                  have hi_224 : vp_in yy_4500 6 := by
                    have z_1 : ¬ (r_18 : Int32).toInt = (0 : Int32).toInt := fun z => c_22 (Int32.toInt_inj.mp z)
                    have z_2 := Int32.lt_iff_toInt_lt.mp (Int32.not_le.mp c_139)
                    have z_3 := Int32.lt_iff_toInt_lt.mp (Int32.not_le.mp c_155)
                    have z_4 : ¬ (r_174 : Int32).toInt = (0 : Int32).toInt := fun z => c_178 (Int32.toInt_inj.mp z)
                    have z_5 := Int32.lt_iff_toInt_lt.mp (Int32.not_le.mp c_188)
                    have z_6 : ¬ (x_201 : Int32).toInt = (0 : Int32).toInt := fun z => c_202 (Int32.toInt_inj.mp z)
                    have y_0 : (0 : Int32).toInt = 0 := by decide
                    have y_6 : (6 : Int32).toInt = 6 := by decide
                    refine vp_in_iff.mpr ⟨?_, ?_⟩ <;> omega
                  refine st_int hx hb hK hP hD hS 10 0 rfl rfl hi_224 dX9_goThroughDay_142 (fun g_225 H locs eg_225 hP₀ hD₀ hS₀ => ?_)
                  replace hP : va_P D classes [((Ra 0), .inr (6, [.ref (Ra 1), .ref (Ra 2)])), ((Ra 1), .inl (tc 0, Rn, .inl (Rf 1))), ((Ra 2), .inl (tc 1, 64, .inr (.inl sv_182))), ((Aa 0), .inr (9, [.int yy_4503, .int (Av 1), .int (Av 2), .int (Av 3), .int (Av 4), .int yy_4504, .ref (Aa 1), .ref (Aa 2), .ref (Aa 3), .ref (Aa 4), .ref (Aa 5), .ref (Aa 6), .ref (Aa 7), .ref (Aa 8)])), ((Aa 1), .inl (tc 0, 10, .inl (Af 1))), ((Aa 2), .inl (tc 0, 10, .inl (Af 2))), ((Aa 3), .inl (tc 0, 6, .inl yy_4505)), ((Aa 4), .inl (tc 0, 6, .inl (Af 4))), ((Aa 5), .inl (tc 0, 6, .inl (Af 5))), ((Aa 6), .inl (tc 0, 6, .inl yy_4506)), ((Aa 7), .inl (tc 0, 6, .inl g_225)), ((Aa 8), .inl (tc 0, 6, .inl yy_4507))] H := hP₀
                  replace hD : va_D A [((Ra 0), .inr (6, [.ref (Ra 1), .ref (Ra 2)])), ((Ra 1), .inl (tc 0, Rn, .inl (Rf 1))), ((Ra 2), .inl (tc 1, 64, .inr (.inl sv_182))), ((Aa 0), .inr (9, [.int yy_4503, .int (Av 1), .int (Av 2), .int (Av 3), .int (Av 4), .int yy_4504, .ref (Aa 1), .ref (Aa 2), .ref (Aa 3), .ref (Aa 4), .ref (Aa 5), .ref (Aa 6), .ref (Aa 7), .ref (Aa 8)])), ((Aa 1), .inl (tc 0, 10, .inl (Af 1))), ((Aa 2), .inl (tc 0, 10, .inl (Af 2))), ((Aa 3), .inl (tc 0, 6, .inl yy_4505)), ((Aa 4), .inl (tc 0, 6, .inl (Af 4))), ((Aa 5), .inl (tc 0, 6, .inl (Af 5))), ((Aa 6), .inl (tc 0, 6, .inl yy_4506)), ((Aa 7), .inl (tc 0, 6, .inl g_225)), ((Aa 8), .inl (tc 0, 6, .inl yy_4507))] := hD₀
                  replace hS := hS₀
                  clear hP₀ hD₀ hS₀
                  refine lv_aload_n hx hb dX9_goThroughDay_143 rfl (lv_at hl 6 rfl) ?_
                  refine gf_X9_52 hx hb hts hown hK hP 3 rfl rfl dX9_goThroughDay_144 ?_
                  refine lv_iload hx hb dX9_goThroughDay_147 (lv_at hl 1 rfl) ?_
                  refine lv_aload_n hx hb dX9_goThroughDay_149 rfl (lv_at hl 6 rfl) ?_
                  refine gf_X9_24 hx hb hts hown hK hP 3 rfl rfl dX9_goThroughDay_150 ?_
                  have hi_226 : vp_in yy_4500 6 := by
                    have z_1 : ¬ (r_18 : Int32).toInt = (0 : Int32).toInt := fun z => c_22 (Int32.toInt_inj.mp z)
                    have z_2 := Int32.lt_iff_toInt_lt.mp (Int32.not_le.mp c_139)
                    have z_3 := Int32.lt_iff_toInt_lt.mp (Int32.not_le.mp c_155)
                    have z_4 : ¬ (r_174 : Int32).toInt = (0 : Int32).toInt := fun z => c_178 (Int32.toInt_inj.mp z)
                    have z_5 := Int32.lt_iff_toInt_lt.mp (Int32.not_le.mp c_188)
                    have z_6 : ¬ (x_201 : Int32).toInt = (0 : Int32).toInt := fun z => c_202 (Int32.toInt_inj.mp z)
                    have y_0 : (0 : Int32).toInt = 0 := by decide
                    have y_6 : (6 : Int32).toInt = 6 := by decide
                    refine vp_in_iff.mpr ⟨?_, ?_⟩ <;> omega
                  refine st_int hx hb hK hP hD hS 11 0 rfl rfl hi_226 dX9_goThroughDay_153 (fun g_227 H locs eg_227 hP₀ hD₀ hS₀ => ?_)
                  replace hP : va_P D classes [((Ra 0), .inr (6, [.ref (Ra 1), .ref (Ra 2)])), ((Ra 1), .inl (tc 0, Rn, .inl (Rf 1))), ((Ra 2), .inl (tc 1, 64, .inr (.inl sv_182))), ((Aa 0), .inr (9, [.int yy_4503, .int (Av 1), .int (Av 2), .int (Av 3), .int (Av 4), .int yy_4504, .ref (Aa 1), .ref (Aa 2), .ref (Aa 3), .ref (Aa 4), .ref (Aa 5), .ref (Aa 6), .ref (Aa 7), .ref (Aa 8)])), ((Aa 1), .inl (tc 0, 10, .inl (Af 1))), ((Aa 2), .inl (tc 0, 10, .inl (Af 2))), ((Aa 3), .inl (tc 0, 6, .inl yy_4505)), ((Aa 4), .inl (tc 0, 6, .inl (Af 4))), ((Aa 5), .inl (tc 0, 6, .inl (Af 5))), ((Aa 6), .inl (tc 0, 6, .inl yy_4506)), ((Aa 7), .inl (tc 0, 6, .inl g_225)), ((Aa 8), .inl (tc 0, 6, .inl g_227))] H := hP₀
                  replace hD : va_D A [((Ra 0), .inr (6, [.ref (Ra 1), .ref (Ra 2)])), ((Ra 1), .inl (tc 0, Rn, .inl (Rf 1))), ((Ra 2), .inl (tc 1, 64, .inr (.inl sv_182))), ((Aa 0), .inr (9, [.int yy_4503, .int (Av 1), .int (Av 2), .int (Av 3), .int (Av 4), .int yy_4504, .ref (Aa 1), .ref (Aa 2), .ref (Aa 3), .ref (Aa 4), .ref (Aa 5), .ref (Aa 6), .ref (Aa 7), .ref (Aa 8)])), ((Aa 1), .inl (tc 0, 10, .inl (Af 1))), ((Aa 2), .inl (tc 0, 10, .inl (Af 2))), ((Aa 3), .inl (tc 0, 6, .inl yy_4505)), ((Aa 4), .inl (tc 0, 6, .inl (Af 4))), ((Aa 5), .inl (tc 0, 6, .inl (Af 5))), ((Aa 6), .inl (tc 0, 6, .inl yy_4506)), ((Aa 7), .inl (tc 0, 6, .inl g_225)), ((Aa 8), .inl (tc 0, 6, .inl g_227))] := hD₀
                  replace hS := hS₀
                  clear hP₀ hD₀ hS₀
                  refine lv_goto (tgt := 177) hx hb dX9_goThroughDay_154 (by decide) ?_
                  obtain ⟨x_228, ex_228⟩ : ∃ y : Int32, y = yy_4500 + 1 := ⟨_, rfl⟩
                  refine lv_iinc (v := x_228) (lv' := [(6, .int x_228), (7, .int 1), (5, .int yy_4502), (4, .int x_132), (3, .int r_11), (2, .int r_4), (0, .ref (Aa 0)), (1, .ref (Ra 0))]) hx hb dX9_goThroughDay_177 hl (k := 1) rfl (by rw [ex_228]; rfl) (by decide) rfl (fun ls hl₀ => ?_)
                  replace hl := hl₀
                  clear hl₀
                  refine lv_goto (tgt := 44) hx hb dX9_goThroughDay_180 (by decide) ?_
                  have hb_229 : 6 - (x_228 : Int32).toInt < 6 - (yy_4500 : Int32).toInt ∧ 1 ≤ 6 - (yy_4500 : Int32).toInt := by
                    have z_1 : ¬ (r_18 : Int32).toInt = (0 : Int32).toInt := fun z => c_22 (Int32.toInt_inj.mp z)
                    have z_2 := Int32.lt_iff_toInt_lt.mp (Int32.not_le.mp c_139)
                    have z_3 := Int32.lt_iff_toInt_lt.mp (Int32.not_le.mp c_155)
                    have z_4 : ¬ (r_174 : Int32).toInt = (0 : Int32).toInt := fun z => c_178 (Int32.toInt_inj.mp z)
                    have z_5 := Int32.lt_iff_toInt_lt.mp (Int32.not_le.mp c_188)
                    have z_6 : ¬ (x_201 : Int32).toInt = (0 : Int32).toInt := fun z => c_202 (Int32.toInt_inj.mp z)
                    have y_0 : (0 : Int32).toInt = 0 := by decide
                    have y_6 : (6 : Int32).toInt = 6 := by decide
                    have y_1 : (1 : Int32).toInt = 1 := by decide
                    have t_x_228 : x_228.toInt = (yy_4500 : Int32).toInt + (1 : Int32).toInt := by rw [ex_228]; exact add_toInt (by omega) (by omega)
                    omega
                  have hm_230 : (6 - (yy_4500 : Int32).toInt).toNat = (6 - (x_228 : Int32).toInt).toNat + 1 := by
                    have z_1 : ¬ (r_18 : Int32).toInt = (0 : Int32).toInt := fun z => c_22 (Int32.toInt_inj.mp z)
                    have z_2 := Int32.lt_iff_toInt_lt.mp (Int32.not_le.mp c_139)
                    have z_3 := Int32.lt_iff_toInt_lt.mp (Int32.not_le.mp c_155)
                    have z_4 : ¬ (r_174 : Int32).toInt = (0 : Int32).toInt := fun z => c_178 (Int32.toInt_inj.mp z)
                    have z_5 := Int32.lt_iff_toInt_lt.mp (Int32.not_le.mp c_188)
                    have z_6 : ¬ (x_201 : Int32).toInt = (0 : Int32).toInt := fun z => c_202 (Int32.toInt_inj.mp z)
                    have y_0 : (0 : Int32).toInt = 0 := by decide
                    have y_6 : (6 : Int32).toInt = 6 := by decide
                    have y_1 : (1 : Int32).toInt = 1 := by decide
                    have t_x_228 : x_228.toInt = (yy_4500 : Int32).toInt + (1 : Int32).toInt := by rw [ex_228]; exact add_toInt (by omega) (by omega)
                    omega
                  have hb_231 : dX9_goThroughDay_r_l44 (Af 1) (Af 4) (Af 5) (Av 2) (Av 3) (Av 4) (Rf 1) Rn x_132 ((6 - (yy_4500 : Int32).toInt).toNat + 1) yy_4500 yy_4501 yy_4502 yy_4503 yy_4504 yy_4505 yy_4506 yy_4507 yy_4508 = dX9_goThroughDay_r_l44 (Af 1) (Af 4) (Af 5) (Av 2) (Av 3) (Av 4) (Rf 1) Rn x_132 ((6 - (yy_4500 : Int32).toInt).toNat) x_228 sv_182 yy_4502 yy_4503 yy_4504 yy_4505 yy_4506 g_227 g_225 := by
                    clear hP hD hS hl ih_134
                    replace er_4 := er_4.symm; subst er_4
                    replace er_11 := er_11.symm; subst er_11
                    replace er_18 := er_18.symm; subst er_18
                    replace ex_132 := ex_132.symm; subst ex_132
                    replace er_174 := er_174.symm; subst er_174
                    replace er_183 := er_183.symm; subst er_183
                    replace esv_182 := esv_182.symm; subst esv_182
                    replace ex_187 := ex_187.symm; subst ex_187
                    replace ex_200 := ex_200.symm; subst ex_200
                    replace ex_201 := ex_201.symm; subst ex_201
                    replace ex_222 := ex_222.symm; subst ex_222
                    replace ex_223 := ex_223.symm; subst ex_223
                    replace eg_225 := eg_225.symm; subst eg_225
                    replace eg_227 := eg_227.symm; subst eg_227
                    replace ex_228 := ex_228.symm; subst ex_228
                    rw [dX9_goThroughDay_r_l44_s]
                    rw [if_neg c_139, if_neg c_155, if_neg c_178, if_neg c_188, if_neg c_202]
                    try rfl
                  have hL_232 : (dX9_goThroughDay_r_l44 (Af 1) (Af 4) (Af 5) (Av 2) (Av 3) (Av 4) (Rf 1) Rn x_132 ((6 - (0 : Int32).toInt).toNat + 1) (0 : Int32) (Rg 2) (0 : Int32) (Av 0) (Av 5) (Af 3) (Af 6) (Af 8) (Af 7)) = dX9_goThroughDay_r_l44 (Af 1) (Af 4) (Af 5) (Av 2) (Av 3) (Av 4) (Rf 1) Rn x_132 ((6 - (x_228 : Int32).toInt).toNat + 1) x_228 sv_182 yy_4502 yy_4503 yy_4504 yy_4505 yy_4506 g_227 g_225 := by
                    rw [hL_137, hb_231, hm_230]
                  have ha_233 : 0 ≤ (x_228 : Int32).toInt := by
                    have z_1 : ¬ (r_18 : Int32).toInt = (0 : Int32).toInt := fun z => c_22 (Int32.toInt_inj.mp z)
                    have z_2 := Int32.lt_iff_toInt_lt.mp (Int32.not_le.mp c_139)
                    have z_3 := Int32.lt_iff_toInt_lt.mp (Int32.not_le.mp c_155)
                    have z_4 : ¬ (r_174 : Int32).toInt = (0 : Int32).toInt := fun z => c_178 (Int32.toInt_inj.mp z)
                    have z_5 := Int32.lt_iff_toInt_lt.mp (Int32.not_le.mp c_188)
                    have z_6 : ¬ (x_201 : Int32).toInt = (0 : Int32).toInt := fun z => c_202 (Int32.toInt_inj.mp z)
                    have y_0 : (0 : Int32).toInt = 0 := by decide
                    have y_6 : (6 : Int32).toInt = 6 := by decide
                    have y_1 : (1 : Int32).toInt = 1 := by decide
                    have t_x_228 : x_228.toInt = (yy_4500 : Int32).toInt + (1 : Int32).toInt := by rw [ex_228]; exact add_toInt (by omega) (by omega)
                    omega
                  exact ih_134 x_228 sv_182 yy_4502 yy_4503 yy_4504 yy_4505 yy_4506 g_227 g_225 _ _ _ (by omega) hL_232 ha_233 (hP.sub [0, 1, 2, 3, 4, 5, 6, 7, 8, 9, 10, 11] rfl) (hD.sub [0, 1, 2, 3, 4, 5, 6, 7, 8, 9, 10, 11] rfl rfl) hS (lv_sub hl [0, 2, 3, 4, 5, 6, 7] rfl)
            · skip
              refine lv_goto (tgt := 177) hx hb dX9_goThroughDay_69 (by decide) ?_
              obtain ⟨x_234, ex_234⟩ : ∃ y : Int32, y = yy_4500 + 1 := ⟨_, rfl⟩
              refine lv_iinc (v := x_234) (lv' := [(6, .int x_234), (5, .int yy_4502), (4, .int x_132), (3, .int r_11), (2, .int r_4), (0, .ref (Aa 0)), (1, .ref (Ra 0))]) hx hb dX9_goThroughDay_177 hl (k := 0) rfl (by rw [ex_234]; rfl) (by decide) rfl (fun ls hl₀ => ?_)
              replace hl := hl₀
              clear hl₀
              refine lv_goto (tgt := 44) hx hb dX9_goThroughDay_180 (by decide) ?_
              have hb_235 : 6 - (x_234 : Int32).toInt < 6 - (yy_4500 : Int32).toInt ∧ 1 ≤ 6 - (yy_4500 : Int32).toInt := by
                have z_1 : ¬ (r_18 : Int32).toInt = (0 : Int32).toInt := fun z => c_22 (Int32.toInt_inj.mp z)
                have z_2 := Int32.lt_iff_toInt_lt.mp (Int32.not_le.mp c_139)
                have z_3 := Int32.lt_iff_toInt_lt.mp (Int32.not_le.mp c_155)
                have z_4 := congrArg Int32.toInt c_178
                have y_0 : (0 : Int32).toInt = 0 := by decide
                have y_6 : (6 : Int32).toInt = 6 := by decide
                have y_1 : (1 : Int32).toInt = 1 := by decide
                have t_x_234 : x_234.toInt = (yy_4500 : Int32).toInt + (1 : Int32).toInt := by rw [ex_234]; exact add_toInt (by omega) (by omega)
                omega
              have hm_236 : (6 - (yy_4500 : Int32).toInt).toNat = (6 - (x_234 : Int32).toInt).toNat + 1 := by
                have z_1 : ¬ (r_18 : Int32).toInt = (0 : Int32).toInt := fun z => c_22 (Int32.toInt_inj.mp z)
                have z_2 := Int32.lt_iff_toInt_lt.mp (Int32.not_le.mp c_139)
                have z_3 := Int32.lt_iff_toInt_lt.mp (Int32.not_le.mp c_155)
                have z_4 := congrArg Int32.toInt c_178
                have y_0 : (0 : Int32).toInt = 0 := by decide
                have y_6 : (6 : Int32).toInt = 6 := by decide
                have y_1 : (1 : Int32).toInt = 1 := by decide
                have t_x_234 : x_234.toInt = (yy_4500 : Int32).toInt + (1 : Int32).toInt := by rw [ex_234]; exact add_toInt (by omega) (by omega)
                omega
              have hb_237 : dX9_goThroughDay_r_l44 (Af 1) (Af 4) (Af 5) (Av 2) (Av 3) (Av 4) (Rf 1) Rn x_132 ((6 - (yy_4500 : Int32).toInt).toNat + 1) yy_4500 yy_4501 yy_4502 yy_4503 yy_4504 yy_4505 yy_4506 yy_4507 yy_4508 = dX9_goThroughDay_r_l44 (Af 1) (Af 4) (Af 5) (Av 2) (Av 3) (Av 4) (Rf 1) Rn x_132 ((6 - (yy_4500 : Int32).toInt).toNat) x_234 yy_4501 yy_4502 yy_4503 yy_4504 yy_4505 yy_4506 yy_4507 yy_4508 := by
                clear hP hD hS hl ih_134
                replace er_4 := er_4.symm; subst er_4
                replace er_11 := er_11.symm; subst er_11
                replace er_18 := er_18.symm; subst er_18
                replace ex_132 := ex_132.symm; subst ex_132
                replace er_174 := er_174.symm; subst er_174
                replace ex_234 := ex_234.symm; subst ex_234
                rw [dX9_goThroughDay_r_l44_s]
                rw [if_neg c_139, if_neg c_155, if_pos c_178]
                try rfl
              have hL_238 : (dX9_goThroughDay_r_l44 (Af 1) (Af 4) (Af 5) (Av 2) (Av 3) (Av 4) (Rf 1) Rn x_132 ((6 - (0 : Int32).toInt).toNat + 1) (0 : Int32) (Rg 2) (0 : Int32) (Av 0) (Av 5) (Af 3) (Af 6) (Af 8) (Af 7)) = dX9_goThroughDay_r_l44 (Af 1) (Af 4) (Af 5) (Av 2) (Av 3) (Av 4) (Rf 1) Rn x_132 ((6 - (x_234 : Int32).toInt).toNat + 1) x_234 yy_4501 yy_4502 yy_4503 yy_4504 yy_4505 yy_4506 yy_4507 yy_4508 := by
                rw [hL_137, hb_237, hm_236]
              have ha_239 : 0 ≤ (x_234 : Int32).toInt := by
                have z_1 : ¬ (r_18 : Int32).toInt = (0 : Int32).toInt := fun z => c_22 (Int32.toInt_inj.mp z)
                have z_2 := Int32.lt_iff_toInt_lt.mp (Int32.not_le.mp c_139)
                have z_3 := Int32.lt_iff_toInt_lt.mp (Int32.not_le.mp c_155)
                have z_4 := congrArg Int32.toInt c_178
                have y_0 : (0 : Int32).toInt = 0 := by decide
                have y_6 : (6 : Int32).toInt = 6 := by decide
                have y_1 : (1 : Int32).toInt = 1 := by decide
                have t_x_234 : x_234.toInt = (yy_4500 : Int32).toInt + (1 : Int32).toInt := by rw [ex_234]; exact add_toInt (by omega) (by omega)
                omega
              exact ih_134 x_234 yy_4501 yy_4502 yy_4503 yy_4504 yy_4505 yy_4506 yy_4507 yy_4508 _ _ _ (by omega) hL_238 ha_239 (hP.sub [0, 1, 2, 3, 4, 5, 6, 7, 8, 9, 10, 11] rfl) (hD.sub [0, 1, 2, 3, 4, 5, 6, 7, 8, 9, 10, 11] rfl rfl) hS (lv_sub hl [0, 1, 2, 3, 4, 5, 6] rfl)
    have ha_240 : 0 ≤ (0 : Int32).toInt := by
      have z_1 : ¬ (r_18 : Int32).toInt = (0 : Int32).toInt := fun z => c_22 (Int32.toInt_inj.mp z)
      have y_0 : (0 : Int32).toInt = 0 := by decide
      omega
    exact loop_135 _ 0 (Rg 2) 0 (Av 0) (Av 5) (Af 3) (Af 6) (Af 8) (Af 7) _ _ _ (Nat.lt_succ_self _) rfl ha_240 hP hD hS hl
