set_option maxRecDepth 16384
/-! a day by a rule -/
theorem cl_l4 : (4 : Int32).toNatClampNeg = 4 := by decide
theorem cl_l5 : (5 : Int32).toNatClampNeg = 5 := by decide
theorem cl_l6 : (6 : Int32).toNatClampNeg = 6 := by decide
theorem cl_l7 : (7 : Int32).toNatClampNeg = 7 := by decide
theorem cl_l8 : (8 : Int32).toNatClampNeg = 8 := by decide
theorem cl_l9 : (9 : Int32).toNatClampNeg = 9 := by decide
theorem cl_l12 : (12 : Int32).toNatClampNeg = 12 := by decide
theorem will_r {g2 g4 g5 s : Nat → Int32} {g8 g9 : Nat → Int64} {top fo b : Int32} (g : Gs s) (h6 : 0 ≤ b.toInt ∧ b.toInt < 6) (hf : 0 ≤ fo.toInt) : ∃ W : Nat → Int64, (∀ k : Nat, k < 13 → W k = (wdI s b k).toInt64) ∧ dX12_isWilling g2 g4 g5 s g8 g9 top fo b = (if lg_cmp (dX12_summedBy g2 g4 g5 g8 W top fo).1 0 ≤ 0 then ((0 : Int32), (dX12_summedBy g2 g4 g5 g8 W top fo).2.1, (dX12_summedBy g2 g4 g5 g8 W top fo).2.2, W) else ((1 : Int32), (dX12_summedBy g2 g4 g5 g8 W top fo).2.1, (dX12_summedBy g2 g4 g5 g8 W top fo).2.2, W)) := by
  unfold dX12_isWilling
  rw [if_pos (show (0 : Int32) ≤ fo by rw [i32_leq, t_0]; exact hf)]
  refine ⟨_, ?_, rfl⟩
  intro k hk
  obtain ⟨-, -, k0, -, k10⟩ := clk g
  have hd := g.1.2.2.2.2.2
  have h2 := g.1.2.1
  have e1 : (s 10 + 1).toInt = (s 10).toInt + 1 := by rw [ix_k rfl t_1 (by omega)]
  have hs1 := still_at (s := s) (f1 := fun j => s (36 + j)) (d := s 10 + 1) (fun _ _ => rfl) h2 (by omega)
  simp only [cl_l0, cl_l1, cl_l2, cl_l3, cl_l4, cl_l5, cl_l6, cl_l7, cl_l8, cl_l9, cl_l10, cl_l11, cl_l12, rd_temper h6, rd_bought h6, rd_met h6, c56 h6, c62 h6, c36 ⟨k0, k10⟩, c36 ⟨hs1.2.1, hs1.2.2⟩]
  have hv : k = 0 ∨ k = 1 ∨ k = 2 ∨ k = 3 ∨ k = 4 ∨ k = 5 ∨ k = 6 ∨ k = 7 ∨ k = 8 ∨ k = 9 ∨ k = 10 ∨ k = 11 ∨ k = 12 := by omega
  rcases hv with rfl | rfl | rfl | rfl | rfl | rfl | rfl | rfl | rfl | rfl | rfl | rfl | rfl <;> rfl
section RDAY
variable {v0 v1 v2 v3 v4 v5 : Int32} {f1 f2 f3 f4 f5 f6 f7 f8 s : Nat → Int32}
theorem ShR.sums (h : ShR v0 v1 v2 v3 v4 v5 f1 f2 f3 f4 f5 f6 f7 f8 s) (g : Gs s) {b fo top : Int32} (hb : 0 ≤ b.toInt ∧ b.toInt < (s 3).toInt) {rf sg cl cs : Nat → Int32} {rn : Nat} {R : RuA} (hL : CdE rf (ru_fl R)) (hn : (ru_fl R).length = rn) (h4 : rn ≤ 400) (hf : 0 ≤ fo.toInt ∧ fo.toInt < 6) (hR : RwR sg cl cs fo.toInt.toNat R) (hk : ru_ok R) {W g8 hd : Nat → Int64} (hW : ∀ k : Nat, k < 13 → W k = (wdI s b k).toInt64) : (dX6_sumFor f1 f3 f4 f5 f6 f7 f8 v0 v2 v3 v4 v5 rf hd b rn).1 = (dX12_summedBy sg cl cs g8 W top fo).1 := by
  rw [sum_is hL hn h4, ru_eq R hk, sums_is hf hR hk]
  refine ru_sum_wd (fun k hk => ?_) R hk
  show dX9_wordOf f1 f3 f4 f5 f6 f7 f8 v0 v2 v3 v4 v5 (nI k) b = W k
  have hi : (nI k).toInt = (k : Int) := nI_toInt (by omega)
  rw [h.word g hb (by omega), hW k hk, show (nI k).toInt.toNat = k by omega]
end RDAY
theorem day_r {v1 v2 v3 v4 po fo : Int32} {f1 f2 f4 f5 rf sg cl cs s0 : Nat → Int32} {rn : Nat} {R : RuA} (hL : CdE rf (ru_fl R)) (hn : (ru_fl R).length = rn) (h4 : rn ≤ 400) (hf : 0 ≤ fo.toInt ∧ fo.toInt < 6) (hR : RwR sg cl cs fo.toInt.toNat R) (hk : ru_ok R) : ∀ (n : Nat) (b who v0 v5 top : Int32) (f3 f6 f8 f7 s : Nat → Int32) (hd g8 g9 : Nat → Int64), ShR v0 v1 v2 v3 v4 v5 f1 f2 f3 f4 f5 f6 f7 f8 s → Gs s → StL s0 s → po = s0 (46 + (dX12_clock s0).toInt.toNat) → 0 ≤ b.toInt → b.toInt ≤ (s 3).toInt → (s 3).toInt - b.toInt < (n : Int) →
    (∃ w a0 a5 a3 a6 a8 a7 z hd', dX9_goThroughDay_r_l44 f1 f4 f5 v2 v3 v4 rf rn po n b hd who v0 v5 f3 f6 f8 f7 = (z, hd', w, a0, a5, a3, a6, a8, a7) ∧ PsE v1 v2 v3 v4 f1 f2 f4 f5 s0 w a0 a5 a3 a6 a8 a7 (dX12_passes_l4 sg cl cs fo 0 n b top g8 g9 s who))
  | 0, b, who, v0, v5, top, f3, f6, f8, f7, s, hd, g8, g9, h, g, hst, ep, h0, h1, hm => by omega
  | n + 1, b, who, v0, v5, top, f3, f6, f8, f7, s, hd, g8, g9, h, g, hst, ep, h0, h1, hm => by
    have g3 := g.1.2.2.1
    have ec := hst.clock
    rw [dX9_goThroughDay_r_l44_s, dX12_passes_l4_s, cl_l3]
    by_cases z : s 3 ≤ b
    · rw [if_pos (show v3 ≤ b by rw [h.1.2.2.2.1]; exact z), if_pos z]
      exact ⟨_, _, _, _, _, _, _, _, _, rfl, h, g, rfl, hst⟩
    · have hb : b.toInt < (s 3).toInt := by rw [i32_leq] at z; omega
      have h6 : 0 ≤ b.toInt ∧ b.toInt < 6 := by omega
      have hn6 : b.toInt.toNat < 6 := by omega
      have e1 : (b + 1).toInt = b.toInt + 1 := by rw [ix_k rfl t_1 (by omega)]
      obtain ⟨a3, -, -, -, a7, -⟩ := h.2.2 _ hn6
      obtain ⟨W, hW, ew⟩ := will_r (g2 := sg) (g4 := cl) (g5 := cs) (g8 := g8) (g9 := g9) (top := top) (fo := fo) g h6 hf.1
      have es := h.sums (top := top) (g8 := g8) (hd := hd) g ⟨h0, hb⟩ hL hn h4 hf hR hk hW
      rw [if_neg (show ¬ v3 ≤ b by rw [h.1.2.2.2.1]; exact z), if_neg (show ¬ (6 : Int32) ≤ b by rw [i32_leq, t_6]; omega), if_neg z, h.can g ⟨h0, hb⟩, ew, es]
      have ep2 : po = s (46 + (dX12_clock s).toInt.toNat) := by rw [ep, ec, hst _ (by omega)]
      by_cases zc : dX12_canBuy s b = 0
      · rw [if_pos zc, if_pos zc]
        exact day_r hL hn h4 hf hR hk n (b + 1) who v0 v5 _ f3 f6 f8 f7 s _ _ _ h g hst ep (by omega) (by omega) (by omega)
      · rw [if_neg zc, if_neg zc]
        by_cases zw : lg_cmp (dX12_summedBy sg cl cs g8 W top fo).1 0 ≤ 0
        · rw [if_pos zw, if_pos zw, if_pos rfl]
          exact day_r hL hn h4 hf hR hk n (b + 1) who v0 v5 _ f3 f6 f8 f7 s _ _ _ h g hst ep (by omega) (by omega) (by omega)
        · rw [if_neg zw, if_neg zw, if_neg one_ne, comes_eq h6 hn6]
          by_cases zm : dX12_isMet s 0 b = 0
          · have zp : ((po >>> (b &&& 31)) &&& 1) = 0 := by rw [ep2]; exact (met_eq g).mp zm
            obtain ⟨t1, t2⟩ := h.takes g ⟨h0, hb⟩
            rw [if_pos zm, if_pos zp, if_neg one_ne, t1]
            have hs3 : tkB s b.toInt.toNat 3 = s 3 := tk_no (by omega) (by omega) (by omega) (by omega)
            exact day_r hL hn h4 hf hR hk n (b + 1) _ _ _ _ _ _ _ f7 (tkB s b.toInt.toNat) _ _ _ t2 (g.takes hn6 (can_le h6 zc)) (hst.tr (StL.tk hn6)) ep (by omega) (by rw [hs3]; omega) (by rw [hs3]; omega)
          · have zp : ¬ ((po >>> (b &&& 31)) &&& 1) = 0 := by rw [ep2]; exact fun y => zm ((met_eq g).mpr y)
            rw [if_neg zm, if_neg zp, if_pos rfl, cl_b (b := b), a7]
            have hs3 : mtB s b.toInt.toNat 3 = s 3 := mt_no (by omega) (by omega)
            have h' := h.meets hn6
            rw [← h.1.2.2.2.2.1] at h'
            exact day_r hL hn h4 hf hR hk n (b + 1) who v0 v5 _ f3 f6 _ _ (mtB s b.toInt.toNat) _ _ _ h' (g.meets hn6) (hst.tr (StL.mt hn6)) ep (by omega) (by rw [hs3]; omega) (by rw [hs3]; omega)
