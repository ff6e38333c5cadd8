set_option maxRecDepth 16384
/-! a book's begin: the class's copy and the reference's begins -/
theorem c68 {b : Int32} (h : 0 ≤ b.toInt ∧ b.toInt < 6) : ((68 : Int32) + b).toNatClampNeg = 68 + b.toInt.toNat := cl_eq (by rw [ix_k (show (68 : Int32).toInt = 68 by decide) rfl (by omega)]; omega)
theorem c74 {b : Int32} (h : 0 ≤ b.toInt ∧ b.toInt < 10) : ((74 : Int32) + b).toNatClampNeg = 74 + b.toInt.toNat := cl_eq (by rw [ix_k (show (74 : Int32).toInt = 74 by decide) rfl (by omega)]; omega)
theorem c84 {b : Int32} (h : 0 ≤ b.toInt ∧ b.toInt < 10) : ((84 : Int32) + b).toNatClampNeg = 84 + b.toInt.toNat := cl_eq (by rw [ix_k (show (84 : Int32).toInt = 84 by decide) rfl (by omega)]; omega)
theorem cl_l94 : (94 : Int32).toNatClampNeg = 94 := by decide
def Bg1 (u t : Nat → Int32) (m : Nat) : Prop := (∀ j : Nat, j < m → t (12 + 4 * j) = u (68 + j) ∧ t (13 + 4 * j) = 0 ∧ t (14 + 4 * j) = 0 ∧ t (15 + 4 * j) = -1) ∧ ∀ k : Nat, (k < 12 ∨ 12 + 4 * m ≤ k) → t k = u k
theorem bg1_on {u t : Nat → Int32} {m : Nat} (h : Bg1 u t m) (hm : m < 6) : Bg1 u (upd (upd (upd (upd t (12 + 4 * m) (t (68 + m))) (13 + 4 * m) 0) (14 + 4 * m) 0) (15 + 4 * m) (-1)) (m + 1) := by
  have e68 : t (68 + m) = u (68 + m) := h.2 _ (by omega)
  refine ⟨fun j hj => ?_, fun k hk => ?_⟩
  · by_cases z : j = m
    · rw [z]
      refine ⟨?_, ?_, ?_, ?_⟩
      · rw [upd_ne (by omega), upd_ne (by omega), upd_ne (by omega), upd_at]; exact e68
      · rw [upd_ne (by omega), upd_ne (by omega), upd_at]
      · rw [upd_ne (by omega), upd_at]
      · rw [upd_at]
    · obtain ⟨q1, q2, q3, q4⟩ := h.1 j (by omega)
      refine ⟨?_, ?_, ?_, ?_⟩
      · rw [upd_ne (by omega), upd_ne (by omega), upd_ne (by omega), upd_ne (by omega)]; exact q1
      · rw [upd_ne (by omega), upd_ne (by omega), upd_ne (by omega), upd_ne (by omega)]; exact q2
      · rw [upd_ne (by omega), upd_ne (by omega), upd_ne (by omega), upd_ne (by omega)]; exact q3
      · rw [upd_ne (by omega), upd_ne (by omega), upd_ne (by omega), upd_ne (by omega)]; exact q4
  · rw [upd_ne (by omega), upd_ne (by omega), upd_ne (by omega), upd_ne (by omega)]; exact h.2 k (by omega)
theorem bg1L {u : Nat → Int32} : ∀ (n : Nat) (b : Int32) (t : Nat → Int32), Bg1 u t b.toInt.toNat → 0 ≤ b.toInt → b.toInt ≤ 6 → 6 - b.toInt < (n : Int) → Bg1 u (dX12_begins_l24 n b t).2 6
  | 0, b, t, h, h0, h1, hn => by omega
  | n + 1, b, t, h, h0, h1, hn => by
    rw [dX12_begins_l24_s]
    by_cases z : (6 : Int32) ≤ b
    · rw [if_pos z]
      have e : b.toInt.toNat = 6 := by rw [i32_leq, t_6] at z; omega
      rw [e] at h
      exact h
    · rw [if_neg z]
      have hb : 0 ≤ b.toInt ∧ b.toInt < 6 := by rw [i32_leq, t_6] at z; omega
      have e1 : (b + 1).toInt = b.toInt + 1 := by rw [ix_k rfl t_1 (by omega)]
      rw [c12 hb, c13 hb, c14 hb, c15 hb, c68 hb]
      refine bg1L n (b + 1) _ ?_ (by omega) (by omega) (by omega)
      rw [show (b + 1).toInt.toNat = b.toInt.toNat + 1 by omega]
      exact bg1_on h (by omega)
def Bg2 (u t : Nat → Int32) (m : Nat) : Prop := (∀ j : Nat, j < m → t (36 + j) = u (74 + j) ∧ t (46 + j) = u (84 + j)) ∧ ∀ k : Nat, (k < 36 ∨ 56 ≤ k) → t k = u k
theorem bg2_on {u t : Nat → Int32} {m : Nat} (h : Bg2 u t m) (hm : m < 10) : Bg2 u (upd (upd t (36 + m) (t (74 + m))) (46 + m) (upd t (36 + m) (t (74 + m)) (84 + m))) (m + 1) := by
  have e74 : t (74 + m) = u (74 + m) := h.2 _ (by omega)
  have e84 : upd t (36 + m) (t (74 + m)) (84 + m) = u (84 + m) := by rw [upd_ne (by omega)]; exact h.2 _ (by omega)
  rw [e84, e74]
  refine ⟨fun j hj => ?_, fun k hk => ?_⟩
  · by_cases z : j = m
    · rw [z]
      refine ⟨?_, ?_⟩
      · rw [upd_ne (by omega), upd_at]
      · rw [upd_at]
    · obtain ⟨q1, q2⟩ := h.1 j (by omega)
      refine ⟨?_, ?_⟩
      · rw [upd_ne (by omega), upd_ne (by omega)]; exact q1
      · rw [upd_ne (by omega), upd_ne (by omega)]; exact q2
  · rw [upd_ne (by omega), upd_ne (by omega)]; exact h.2 k (by omega)
theorem bg2L {u : Nat → Int32} : ∀ (n : Nat) (b : Int32) (t : Nat → Int32), Bg2 u t b.toInt.toNat → 0 ≤ b.toInt → b.toInt ≤ 10 → 10 - b.toInt < (n : Int) → Bg2 u (dX12_begins_l87 n b t).2 10
  | 0, b, t, h, h0, h1, hn => by omega
  | n + 1, b, t, h, h0, h1, hn => by
    rw [dX12_begins_l87_s]
    by_cases z : (10 : Int32) ≤ b
    · rw [if_pos z]
      have e : b.toInt.toNat = 10 := by rw [i32_leq, t_10] at z; omega
      rw [e] at h
      exact h
    · rw [if_neg z]
      have hb : 0 ≤ b.toInt ∧ b.toInt < 10 := by rw [i32_leq, t_10] at z; omega
      have e1 : (b + 1).toInt = b.toInt + 1 := by rw [ix_k rfl t_1 (by omega)]
      rw [c36 hb, c46 hb, c74 hb, c84 hb]
      refine bg2L n (b + 1) _ ?_ (by omega) (by omega) (by omega)
      rw [show (b + 1).toInt.toNat = b.toInt.toNat + 1 by omega]
      exact bg2_on h (by omega)
/-- how the reference's cells stand at the begin -/
def BgE (s t : Nat → Int32) : Prop := (t 10 = 0 ∧ t 11 = s 94) ∧ (∀ j : Nat, j < 6 → t (12 + 4 * j) = s (68 + j) ∧ t (13 + 4 * j) = 0 ∧ t (14 + 4 * j) = 0 ∧ t (15 + 4 * j) = -1) ∧ (∀ j : Nat, j < 10 → t (36 + j) = s (74 + j) ∧ t (46 + j) = s (84 + j)) ∧ ∀ k : Nat, (k < 10 ∨ 56 ≤ k) → t k = s k
theorem begins_is {s : Nat → Int32} : BgE s (dX12_begins s) := by
  unfold dX12_begins
  rw [cl_l10, cl_l11, cl_l94, upd_ne (f := s) (show (94 : Nat) ≠ 10 by omega)]
  have h1 := bg1L (u := upd (upd s 10 0) 11 (s 94)) ((6 - (0 : Int32).toInt).toNat + 1) 0 (upd (upd s 10 0) 11 (s 94)) ⟨fun j hj => absurd hj (Nat.not_lt_zero _), fun _ _ => rfl⟩ (by decide) (by decide) (by decide)
  generalize (dX12_begins_l24 ((6 - (0 : Int32).toInt).toNat + 1) 0 (upd (upd s 10 0) 11 (s 94))).2 = t at h1 ⊢
  have h2 := bg2L (u := t) ((10 - (0 : Int32).toInt).toNat + 1) 0 t ⟨fun j hj => absurd hj (Nat.not_lt_zero _), fun _ _ => rfl⟩ (by decide) (by decide) (by decide)
  generalize (dX12_begins_l87 ((10 - (0 : Int32).toInt).toNat + 1) 0 t).2 = w at h2 ⊢
  have ot : ∀ k : Nat, k ≠ 10 → k ≠ 11 → upd (upd s 10 0) 11 (s 94) k = s k := fun k a b => by rw [upd_ne b, upd_ne a]
  refine ⟨⟨?_, ?_⟩, fun j hj => ?_, fun j hj => ?_, fun k hk => ?_⟩
  · rw [h2.2 10 (by omega), h1.2 10 (by omega), upd_ne (by omega), upd_at]
  · rw [h2.2 11 (by omega), h1.2 11 (by omega), upd_at]
  · obtain ⟨q1, q2, q3, q4⟩ := h1.1 j hj
    rw [h2.2 (12 + 4 * j) (by omega), h2.2 (13 + 4 * j) (by omega), h2.2 (14 + 4 * j) (by omega), h2.2 (15 + 4 * j) (by omega), q1, q2, q3, q4, ot _ (by omega) (by omega)]
    exact ⟨rfl, rfl, rfl, rfl⟩
  · obtain ⟨q1, q2⟩ := h2.1 j hj
    rw [q1, q2, h1.2 (74 + j) (by omega), h1.2 (84 + j) (by omega), ot _ (by omega) (by omega), ot _ (by omega) (by omega)]
    exact ⟨rfl, rfl⟩
  · rw [h2.2 k (by omega), h1.2 k (by omega), ot k (by omega) (by omega)]
/-- the class's shop as told, the reference's cells -/
def BgC (v0 v1 v2 v3 v4 v5 : Int32) (f1 f2 f3 f4 f5 f6 f7 f8 s : Nat → Int32) : Prop := (v0 = s 94 ∧ v1 = s 1 ∧ v2 = s 2 ∧ v3 = s 3 ∧ v4 = 0 ∧ v5 = 0) ∧ (∀ k : Nat, k < 10 → f1 k = s (74 + k) ∧ f2 k = s (84 + k)) ∧ ∀ b : Nat, b < 6 → f3 b = s (68 + b) ∧ f4 b = s (56 + b) ∧ f5 b = s (62 + b) ∧ f6 b = 0 ∧ f7 b = 0 ∧ f8 b = -1
/-- what the told cells may be -/
def GsB (s : Nat → Int32) : Prop := (s 0 = 1 ∧ (1 ≤ (s 2).toInt ∧ (s 2).toInt ≤ 10) ∧ (0 ≤ (s 3).toInt ∧ (s 3).toInt ≤ 6) ∧ (0 ≤ (s 1).toInt ∧ (s 1).toInt ≤ 9) ∧ (0 ≤ (s 94).toInt ∧ (s 94).toInt ≤ 99)) ∧ ∀ b : Nat, b < 6 → (0 ≤ (s (68 + b)).toInt ∧ (s (68 + b)).toInt ≤ 20) ∧ (0 ≤ (s (56 + b)).toInt ∧ (s (56 + b)).toInt ≤ 9)
/-- the told cells stay -/
def Tl6 (s t : Nat → Int32) : Prop := ∀ k : Nat, (k < 10 ∨ 56 ≤ k) → t k = s k
theorem TlS.six {s t : Nat → Int32} (h : TlS s t) : Tl6 s t := fun k hk => h k (by omega)
theorem Tl6.tr {s t u : Nat → Int32} (h : Tl6 s t) (h2 : Tl6 t u) : Tl6 s u := fun k hk => (h2 k hk).trans (h k hk)
theorem BgE.six {s t : Nat → Int32} (h : BgE s t) : Tl6 s t := h.2.2.2
theorem GsB.tl {s t : Nat → Int32} (g : GsB s) (h : Tl6 s t) : GsB t := by
  refine ⟨?_, fun b hb => ?_⟩
  · rw [h 0 (by omega), h 1 (by omega), h 2 (by omega), h 3 (by omega), h 94 (by omega)]; exact g.1
  · rw [h (68 + b) (by omega), h (56 + b) (by omega)]; exact g.2 b hb
theorem BgC.tl {v0 v1 v2 v3 v4 v5 : Int32} {f1 f2 f3 f4 f5 f6 f7 f8 s t : Nat → Int32} (c : BgC v0 v1 v2 v3 v4 v5 f1 f2 f3 f4 f5 f6 f7 f8 s) (h : Tl6 s t) : BgC v0 v1 v2 v3 v4 v5 f1 f2 f3 f4 f5 f6 f7 f8 t := by
  refine ⟨?_, fun k hk => ?_, fun b hb => ?_⟩
  · rw [h 1 (by omega), h 2 (by omega), h 3 (by omega), h 94 (by omega)]; exact c.1
  · rw [h (74 + k) (by omega), h (84 + k) (by omega)]; exact c.2.1 k hk
  · rw [h (68 + b) (by omega), h (56 + b) (by omega), h (62 + b) (by omega)]; exact c.2.2 b hb
theorem GsB.begin {s t : Nat → Int32} (g : GsB s) (h : BgE s t) : Gs t ∧ (t 10).toInt = 0 := by
  have e10 : (t 10).toInt = 0 := by rw [h.1.1, t_0]
  refine ⟨⟨?_, fun b hb => ?_⟩, e10⟩
  · rw [h.2.2.2 0 (by omega), h.2.2.2 2 (by omega), h.2.2.2 3 (by omega), h.2.2.2 1 (by omega), h.1.2, e10]
    exact ⟨g.1.1, g.1.2.1, g.1.2.2.1, g.1.2.2.2.1, g.1.2.2.2.2, by omega⟩
  · obtain ⟨q1, -, -, q4⟩ := h.2.1 b hb
    rw [q1, q4, h.2.2.2 (56 + b) (by omega), e10, t_m1]
    exact ⟨(g.2 b hb).1, by omega, (g.2 b hb).2⟩
theorem cpy10 {f g : Nat → Int32} {k : Nat} (h : k < 10) : va_cpy f g ((0 : Int32)).toNatClampNeg ((0 : Int32)).toNatClampNeg ((10 : Int32)).toNatClampNeg k = f k := by
  rw [cl_l0, cl_l10]
  unfold va_cpy
  rw [if_pos (show 0 ≤ k ∧ k < 0 + 10 by omega), show 0 + (k - 0) = k by omega]
theorem cpy6 {f g : Nat → Int32} {k : Nat} (h : k < 6) : va_cpy f g ((0 : Int32)).toNatClampNeg ((0 : Int32)).toNatClampNeg ((6 : Int32)).toNatClampNeg k = f k := by
  rw [cl_l0, cl_l6]
  unfold va_cpy
  rw [if_pos (show 0 ≤ k ∧ k < 0 + 6 by omega), show 0 + (k - 0) = k by omega]
theorem sumB_0 {s : Nat → Int32} (h : ∀ j : Nat, j < 6 → s (13 + 4 * j) = 0) : ∀ m : Nat, m ≤ 6 → sumB s m = 0
  | 0, _ => rfl
  | m + 1, hm => by
    show sumB s m + s (13 + 4 * m) = 0
    rw [sumB_0 h m (by omega), h m (by omega)]
    rfl
section BEG
variable {v0 v1 v2 v3 v4 v5 : Int32} {f1 f2 f3 f4 f5 f6 f7 f8 y1 y2 y3 y4 y5 y6 y7 y8 s t : Nat → Int32}
theorem BgC.begin (c : BgC v0 v1 v2 v3 v4 v5 f1 f2 f3 f4 f5 f6 f7 f8 s) (g : GsB s) (h : BgE s t) : ShR v0 v1 v2 v3 v4 v5 (dX9_copyFrom y1 y2 y3 y4 y5 y6 y7 y8 f1 f2 f3 f4 f5 f6 f7 f8).1 (dX9_copyFrom y1 y2 y3 y4 y5 y6 y7 y8 f1 f2 f3 f4 f5 f6 f7 f8).2.1 (dX9_copyFrom y1 y2 y3 y4 y5 y6 y7 y8 f1 f2 f3 f4 f5 f6 f7 f8).2.2.1 (dX9_copyFrom y1 y2 y3 y4 y5 y6 y7 y8 f1 f2 f3 f4 f5 f6 f7 f8).2.2.2.1 (dX9_copyFrom y1 y2 y3 y4 y5 y6 y7 y8 f1 f2 f3 f4 f5 f6 f7 f8).2.2.2.2.1 (dX9_copyFrom y1 y2 y3 y4 y5 y6 y7 y8 f1 f2 f3 f4 f5 f6 f7 f8).2.2.2.2.2.1 (dX9_copyFrom y1 y2 y3 y4 y5 y6 y7 y8 f1 f2 f3 f4 f5 f6 f7 f8).2.2.2.2.2.2.1 (dX9_copyFrom y1 y2 y3 y4 y5 y6 y7 y8 f1 f2 f3 f4 f5 f6 f7 f8).2.2.2.2.2.2.2 t := by
  have g3 := g.1.2.2.1
  refine ⟨⟨?_, ?_, ?_, ?_, ?_, ?_⟩, fun k hk => ?_, fun b hb => ?_⟩
  · rw [h.1.2]; exact c.1.1
  · rw [h.2.2.2 1 (by omega)]; exact c.1.2.1
  · rw [h.2.2.2 2 (by omega)]; exact c.1.2.2.1
  · rw [h.2.2.2 3 (by omega)]; exact c.1.2.2.2.1
  · rw [h.1.1]; exact c.1.2.2.2.2.1
  · rw [h.2.2.2 3 (by omega), c.1.2.2.2.2.2]
    exact (sumB_0 (fun j hj => (h.2.1 j hj).2.1) _ (by omega)).symm
  · obtain ⟨q1, q2⟩ := h.2.2.1 k hk
    rw [q1, q2]
    exact ⟨(cpy10 hk).trans (c.2.1 k hk).1, (cpy10 hk).trans (c.2.1 k hk).2⟩
  · obtain ⟨q1, q2, q3, q4⟩ := h.2.1 b hb
    obtain ⟨p3, p4, p5, p6, p7, p8⟩ := c.2.2 b hb
    rw [q1, q2, q3, q4, h.2.2.2 (56 + b) (by omega), h.2.2.2 (62 + b) (by omega)]
    exact ⟨(cpy6 hb).trans p3, (cpy6 hb).trans p4, (cpy6 hb).trans p5, (cpy6 hb).trans p6, (cpy6 hb).trans p7, (cpy6 hb).trans p8⟩
end BEG
