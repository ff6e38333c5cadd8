set_option maxRecDepth 16384
/-! who comes on a day: the class's loop and the reference's -/
theorem and1 (x : Int32) : (x &&& 1) = 0 ∨ (x &&& 1) = 1 := by
  have h := Jvm.Kit.i32_mask x 1 (k := 1) (by decide) (by decide)
  have e : (2 : Int) ^ 1 = 2 := by decide
  rw [e] at h
  have : (x &&& 1).toInt = 0 ∨ (x &&& 1).toInt = 1 := by omega
  rcases this with z | z
  · exact Or.inl (Int32.toInt_inj.mp (by rw [z]; decide))
  · exact Or.inr (Int32.toInt_inj.mp (by rw [z]; decide))
theorem isOf_0 {k : Int32} : dX12_isOf 0 k = 0 := by
  unfold dX12_isOf
  rw [Int32.zero_shiftRight, Int32.zero_and, if_neg (by decide)]
theorem met_eq {s : Nat → Int32} (g : Gs s) {b : Int32} : dX12_isMet s 0 b = 0 ↔ ((s (46 + (dX12_clock s).toInt.toNat) >>> (b &&& 31)) &&& 1) = 0 := by
  obtain ⟨-, -, h0, -, h10⟩ := clk g
  unfold dX12_isMet
  rw [isOf_0, if_pos rfl, c46 ⟨h0, h10⟩]
  unfold dX12_isOf
  rcases and1 (s (46 + (dX12_clock s).toInt.toNat) >>> (b &&& 31)) with z | z
  · rw [z, if_neg (show ¬ (0 : Int32) = 1 by decide), if_pos rfl]
  · rw [z, if_pos rfl, if_neg one_ne]
/-- without a rule -/
theorem will_n {g2 g4 g5 s : Nat → Int32} {g8 g9 : Nat → Int64} {top fo b : Int32} (hf : fo.toInt < 0) : dX12_isWilling g2 g4 g5 s g8 g9 top fo b = (if (dX12_temperOf s b + s ((36 : Int32) + dX12_clock s).toNatClampNeg) < 12 then 0 else 1, top, g8, g9) := by
  unfold dX12_isWilling
  rw [if_neg (by rw [i32_leq, t_0]; omega)]
  by_cases z : dX12_temperOf s b + s ((36 : Int32) + dX12_clock s).toNatClampNeg < 12
  · rw [if_pos z, if_pos z]
  · rw [if_neg z, if_neg z]
abbrev PsT := Int32 × Int32 × (Nat → Int64) × (Nat → Int64) × (Nat → Int32) × Int32
/-- what the two loops come to is the same -/
def PsE (v1 v2 v3 v4 : Int32) (f1 f2 f4 f5 s0 : Nat → Int32) (who v0 v5 : Int32) (f3 f6 f8 f7 : Nat → Int32) (P : PsT) : Prop := ShR v0 v1 v2 v3 v4 v5 f1 f2 f3 f4 f5 f6 f7 f8 P.2.2.2.2.1 ∧ Gs P.2.2.2.2.1 ∧ who = P.2.2.2.2.2 ∧ StL s0 P.2.2.2.2.1
theorem day_n {v1 v2 v3 v4 st po fo : Int32} {f1 f2 f4 f5 g2 g4 g5 s0 : Nat → Int32} (hf : fo.toInt < 0) : ∀ (n : Nat) (b who v0 v5 top : Int32) (f3 f6 f8 f7 s : Nat → Int32) (g8 g9 : Nat → Int64), ShR v0 v1 v2 v3 v4 v5 f1 f2 f3 f4 f5 f6 f7 f8 s → Gs s → StL s0 s → st = s0 (36 + (dX12_clock s0).toInt.toNat) → po = s0 (46 + (dX12_clock s0).toInt.toNat) → 0 ≤ b.toInt → b.toInt ≤ (s 3).toInt → (s 3).toInt - b.toInt < (n : Int) →
    (∃ w a0 a5 a3 a6 a8 a7 z, dX9_goThroughDay_n_l44 f4 f5 v3 v4 st po n b who v0 v5 f3 f6 f8 f7 = (z, w, a0, a5, a3, a6, a8, a7) ∧ PsE v1 v2 v3 v4 f1 f2 f4 f5 s0 w a0 a5 a3 a6 a8 a7 (dX12_passes_l4 g2 g4 g5 fo 0 n b top g8 g9 s who))
  | 0, b, who, v0, v5, top, f3, f6, f8, f7, s, g8, g9, h, g, hst, es, ep, h0, h1, hn => by omega
  | n + 1, b, who, v0, v5, top, f3, f6, f8, f7, s, g8, g9, h, g, hst, es, ep, h0, h1, hn => by
    have g3 := g.1.2.2.1
    have ec := hst.clock
    obtain ⟨-, -, k0, -, k10⟩ := clk g
    rw [dX9_goThroughDay_n_l44_s, dX12_passes_l4_s, cl_l3]
    by_cases z : s 3 ≤ b
    · rw [if_pos (show v3 ≤ b by rw [h.1.2.2.2.1]; exact z), if_pos z]
      exact ⟨_, _, _, _, _, _, _, _, rfl, h, g, rfl, hst⟩
    · have hb : b.toInt < (s 3).toInt := by rw [i32_leq] at z; omega
      have h6 : 0 ≤ b.toInt ∧ b.toInt < 6 := by omega
      have hn6 : b.toInt.toNat < 6 := by omega
      have e1 : (b + 1).toInt = b.toInt + 1 := by rw [ix_k rfl t_1 (by omega)]
      obtain ⟨a3, -, -, -, a7, -⟩ := h.2.2 _ hn6
      rw [if_neg (show ¬ v3 ≤ b by rw [h.1.2.2.2.1]; exact z), if_neg (show ¬ (6 : Int32) ≤ b by rw [i32_leq, t_6]; omega), if_neg z, h.can g ⟨h0, hb⟩, will_n hf, rd_temper h6, c36 ⟨k0, k10⟩, cl_b (b := b), a3]
      have es2 : st = s (36 + (dX12_clock s).toInt.toNat) := by rw [es, ec, hst _ (by omega)]
      have ep2 : po = s (46 + (dX12_clock s).toInt.toNat) := by rw [ep, ec, hst _ (by omega)]
      rw [← es2]
      by_cases zc : dX12_canBuy s b = 0
      · rw [if_pos zc, if_pos zc]
        exact day_n hf n (b + 1) who v0 v5 _ f3 f6 f8 f7 s _ _ h g hst es ep (by omega) (by omega) (by omega)
      · rw [if_neg zc, if_neg zc]
        by_cases zw : s (12 + 4 * b.toInt.toNat) + st < 12
        · rw [if_pos zw, if_pos zw, if_pos rfl]
          exact day_n hf n (b + 1) who v0 v5 _ f3 f6 f8 f7 s _ _ h g hst es ep (by omega) (by omega) (by omega)
        · rw [if_neg zw, if_neg zw, if_neg one_ne, comes_eq h6 hn6]
          by_cases zm : dX12_isMet s 0 b = 0
          · have zp : ((po >>> (b &&& 31)) &&& 1) = 0 := by rw [ep2]; exact (met_eq g).mp zm
            obtain ⟨t1, t2⟩ := h.takes g ⟨h0, hb⟩
            rw [if_pos zm, if_pos zp, if_neg one_ne, t1]
            have hs3 : tkB s b.toInt.toNat 3 = s 3 := tk_no (by omega) (by omega) (by omega) (by omega)
            exact day_n hf n (b + 1) _ _ _ _ _ _ _ f7 (tkB s b.toInt.toNat) _ _ t2 (g.takes hn6 (can_le h6 zc)) (hst.tr (StL.tk hn6)) es ep (by omega) (by rw [hs3]; omega) (by rw [hs3]; omega)
          · have zp : ¬ ((po >>> (b &&& 31)) &&& 1) = 0 := by rw [ep2]; exact fun y => zm ((met_eq g).mpr y)
            rw [if_neg zm, if_neg zp, if_pos rfl, a7]
            have hs3 : mtB s b.toInt.toNat 3 = s 3 := mt_no (by omega) (by omega)
            have h' := h.meets hn6
            rw [← h.1.2.2.2.2.1] at h'
            exact day_n hf n (b + 1) who v0 v5 _ f3 f6 _ _ (mtB s b.toInt.toNat) _ _ h' (g.meets hn6) (hst.tr (StL.mt hn6)) es ep (by omega) (by rw [hs3]; omega) (by rw [hs3]; omega)
