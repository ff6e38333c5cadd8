set_option maxRecDepth 16384
/-- the two days, by a rule -/
theorem full_r {v0 v1 v2 v3 v4 v5 fo top : Int32} {f1 f2 f3 f4 f5 f6 f7 f8 s rf sg cl cs : Nat → Int32} {g8 g9 hd0 : Nat → Int64} {rn : Nat} {R : RuA} (hL : CdE rf (ru_fl R)) (hn : (ru_fl R).length = rn) (h4 : rn ≤ 400) (hfo : 0 ≤ fo.toInt ∧ fo.toInt < 6) (hR : RwR sg cl cs fo.toInt.toNat R) (hk : ru_ok R) (h : ShR v0 v1 v2 v3 v4 v5 f1 f2 f3 f4 f5 f6 f7 f8 s) (g : Gs s) (hd : (s 10).toInt ≤ 60) : ∃ who sh so c3 a6 a7 a8 hd1 top' h8 h9 s', dX9_goThroughDay_r f1 f2 f3 f4 f5 f6 f7 f8 v0 v1 v2 v3 v4 v5 rf hd0 rn = (who, sh, v4 + 1, so, c3, a6, a7, a8, hd1) ∧ dX12_passes sg cl cs s g8 g9 top fo 0 = (who, top', h8, h9, s') ∧ ShR sh v1 v2 v3 (v4 + 1) so f1 f2 c3 f4 f5 a6 a7 a8 s' ∧ Gs s' ∧ (s' 10).toInt = (s 10).toInt + 1 ∧ TlS s s' := by
  obtain ⟨ec, ek, k0, k2, k10⟩ := clk g
  have g3 := g.1.2.2.1
  have hst := h.still g
  have hck : dX9_clockOn v2 v4 = dX12_clock s := by rw [h.1.2.2.1, h.1.2.2.2.2.1]; exact ek
  have hpo : f2 (dX9_clockOn v2 v4).toNatClampNeg = s (46 + (dX12_clock s).toInt.toNat) := by
    rw [hck]
    exact (h.2.1 (dX12_clock s).toInt.toNat (by omega)).2
  obtain ⟨w, a0, a5, a3, a6, a8, a7, z, hd1, eC, hS, gS, ew, hl⟩ := day_r hL hn h4 hfo hR hk ((6 - (0 : Int32).toInt).toNat + 1) 0 0 v0 v5 top f3 f6 f8 f7 s hd0 g8 g9 h g StL.rf rfl (by decide) (by rw [t_0]; omega) (by rw [t_0]; omega)
  generalize eP : dX12_passes_l4 sg cl cs fo 0 ((6 - (0 : Int32).toInt).toNat + 1) 0 top g8 g9 s 0 = P at hS gS ew hl
  have hw := weath_all gS hS.1.2.2.2.1 (fun k hk => (hS.2.2 k hk).1)
  obtain ⟨s', sh, e1, e2, hF, hs0, hs99⟩ := fin_r gS hw
  have e10 : P.2.2.2.2.1 10 = s 10 := hl 10 (by omega)
  have hg := gS.fin (by rw [e10]; exact hd) hw hF ⟨hs0, hs99⟩
  refine ⟨w, sh, a5, _, a6, a7, a8, hd1, P.2.1, P.2.2.1, P.2.2.2.1, s', ?_, ?_, hS.fin gS hw hF, hg.1, by rw [hg.2, e10], hl.tl hw hF⟩
  · unfold dX9_goThroughDay_r
    rw [hpo, hck, hasC (n := v2) ⟨k0, by rw [h.1.2.2.1]; exact k2⟩ k10, if_neg one_ne, hst, eC]
    have es : s (36 + (dX12_clock s).toInt.toNat) = P.2.2.2.2.1 (36 + (dX12_clock P.2.2.2.2.1).toInt.toNat) := by rw [hl.clock, hl _ (by omega)]
    rw [es, show v4 = P.2.2.2.2.1 10 by rw [e10]; exact h.1.2.2.2.2.1]
    by_cases q : (P.2.2.2.2.1 10 - P.2.2.2.2.1 10 / 7 * 7) = 6
    · rw [if_pos q, ← e2]
      unfold fnC
      rw [if_pos q, ← hS.1.1, ← hS.1.2.1]
    · rw [if_neg q, ← e2]
      unfold fnC
      rw [if_neg q, ← hS.1.1]
  · rw [passes_is eP, e1, ew]
