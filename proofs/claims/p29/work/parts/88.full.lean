set_option maxRecDepth 16384
/-! a day as a whole -/
theorem sumB_eq {s t : Nat → Int32} : ∀ m : Nat, m ≤ 6 → (∀ j : Nat, j < 6 → s (13 + 4 * j) = t (13 + 4 * j)) → sumB s m = sumB t m
  | 0, _, _ => rfl
  | m + 1, hm, h => by
    show sumB s m + s (13 + 4 * m) = sumB t m + t (13 + 4 * m)
    rw [sumB_eq m (by omega) h, h m (by omega)]
/-- how the cells stand behind a day -/
def FnE (t W s' : Nat → Int32) (sh : Int32) : Prop := s' 11 = sh ∧ s' 10 = t 10 + 1 ∧ ∀ k : Nat, k ≠ 10 → k ≠ 11 → s' k = W k
section FIN
variable {v1 v2 v3 v4 a0 a5 sh : Int32} {f1 f2 f4 f5 a3 a6 a7 a8 c3 t W s' : Nat → Int32}
theorem FnE.ot (hf : FnE t W s' sh) (hw : WtE t c3 W) {k : Nat} (h1 : k ≠ 10) (h2 : k ≠ 11) (h3 : ∀ j : Nat, j < 6 → k ≠ 12 + 4 * j) : s' k = t k := (hf.2.2 k h1 h2).trans (hw.2.1 k h3)
theorem ShR.fin (h : ShR a0 v1 v2 v3 v4 a5 f1 f2 a3 f4 f5 a6 a7 a8 t) (g : Gs t) (hw : WtE t c3 W) (hf : FnE t W s' sh) : ShR sh v1 v2 v3 (v4 + 1) a5 f1 f2 c3 f4 f5 a6 a7 a8 s' := by
  have g3 := g.1.2.2.1
  have e3 : s' 3 = t 3 := hf.ot hw (by omega) (by omega) (fun j _ => by omega)
  refine ⟨⟨hf.1.symm, ?_, ?_, ?_, ?_, ?_⟩, fun k hk => ?_, fun k hk => ?_⟩
  · rw [hf.ot hw (k := 1) (by omega) (by omega) (fun j _ => by omega)]; exact h.1.2.1
  · rw [hf.ot hw (k := 2) (by omega) (by omega) (fun j _ => by omega)]; exact h.1.2.2.1
  · rw [e3]; exact h.1.2.2.2.1
  · rw [hf.2.1, h.1.2.2.2.2.1]
  · rw [e3, h.1.2.2.2.2.2]
    exact (sumB_eq _ (by omega) (fun j hj => hf.ot hw (by omega) (by omega) (fun i _ => by omega))).symm
  · rw [hf.ot hw (k := 36 + k) (by omega) (by omega) (fun j _ => by omega), hf.ot hw (k := 46 + k) (by omega) (by omega) (fun j _ => by omega)]
    exact h.2.1 k hk
  · obtain ⟨c3', c4, c5, c6, c7, c8⟩ := h.2.2 k hk
    rw [hf.2.2 (12 + 4 * k) (by omega) (by omega), hf.ot hw (k := 56 + k) (by omega) (by omega) (fun j _ => by omega), hf.ot hw (k := 62 + k) (by omega) (by omega) (fun j _ => by omega), hf.ot hw (k := 13 + 4 * k) (by omega) (by omega) (fun j _ => by omega), hf.ot hw (k := 14 + 4 * k) (by omega) (by omega) (fun j _ => by omega), hf.ot hw (k := 15 + 4 * k) (by omega) (by omega) (fun j _ => by omega)]
    exact ⟨hw.1 k hk, c4, c5, c6, c7, c8⟩
theorem Gs.fin (g : Gs t) (hd : (t 10).toInt ≤ 60) (hw : WtE t c3 W) (hf : FnE t W s' sh) (hs : 0 ≤ sh.toInt ∧ sh.toInt ≤ 99) : Gs s' ∧ (s' 10).toInt = (t 10).toInt + 1 := by
  have gd := g.1.2.2.2.2.2
  have e10 : (s' 10).toInt = (t 10).toInt + 1 := by rw [hf.2.1, ix_k rfl t_1 (by omega)]
  refine ⟨⟨?_, fun k hk => ?_⟩, e10⟩
  · rw [hf.ot hw (k := 0) (by omega) (by omega) (fun j _ => by omega), hf.ot hw (k := 2) (by omega) (by omega) (fun j _ => by omega), hf.ot hw (k := 3) (by omega) (by omega) (fun j _ => by omega), hf.ot hw (k := 1) (by omega) (by omega) (fun j _ => by omega), hf.1, e10]
    exact ⟨g.1.1, g.1.2.1, g.1.2.2.1, g.1.2.2.2.1, hs, by omega⟩
  · obtain ⟨c1, c2, c3'⟩ := g.2 k hk
    rw [hf.2.2 (12 + 4 * k) (by omega) (by omega), hf.ot hw (k := 15 + 4 * k) (by omega) (by omega) (fun j _ => by omega), hf.ot hw (k := 56 + k) (by omega) (by omega) (fun j _ => by omega), e10]
    exact ⟨hw.2.2 k hk, by omega, c3'⟩
end FIN
/-- what the text told stays by a day -/
def TlS (s t : Nat → Int32) : Prop := ∀ k : Nat, (k < 10 ∨ 36 ≤ k) → t k = s k
theorem StL.tl {s t W s' c3 : Nat → Int32} {sh : Int32} (h : StL s t) (hw : WtE t c3 W) (hf : FnE t W s' sh) : TlS s s' := fun k hk => by
  rw [hf.ot hw (by omega) (by omega) (fun j hj => by omega)]
  exact h k (by omega)
theorem hasC {n c : Int32} (h : 0 ≤ c.toInt ∧ c.toInt < n.toInt) (h10 : c.toInt < 10) : dX9_hasClock n c = 1 := by
  unfold dX9_hasClock
  rw [if_neg (by rw [i32_lt, t_0]; omega), if_neg (by rw [i32_leq]; omega), if_neg (by rw [i32_leq, t_10]; omega)]
/-- fill and day, as the reference does them -/
def fnR (W : Nat → Int32) : Nat → Int32 := if (W 10 - W 10 / 7 * 7) = 6 then (if (upd W 11 (W 11 + W 1)) 11 ≤ 99 then (upd (upd W 11 (W 11 + W 1)) 10 ((upd W 11 (W 11 + W 1)) 10 + 1)) else (upd (upd (upd W 11 (W 11 + W 1)) 11 99) 10 ((upd (upd W 11 (W 11 + W 1)) 11 99) 10 + 1))) else (upd W 10 (W 10 + 1))
def fnC (t : Nat → Int32) : Int32 := if (t 10 - t 10 / 7 * 7) = 6 then (if t 11 + t 1 < 99 then t 11 + t 1 else 99) else t 11
theorem fin_r {t W c3 : Nat → Int32} (g : Gs t) (hw : WtE t c3 W) : ∃ s' sh, fnR W = s' ∧ fnC t = sh ∧ FnE t W s' sh ∧ 0 ≤ sh.toInt ∧ sh.toInt ≤ 99 := by
  have e10 : W 10 = t 10 := hw.2.1 10 (fun j _ => by omega)
  have e11 : W 11 = t 11 := hw.2.1 11 (fun j _ => by omega)
  have e1 : W 1 = t 1 := hw.2.1 1 (fun j _ => by omega)
  have gs := g.1.2.2.2.2.1
  have gf := g.1.2.2.2.1
  have ea : (t 11 + t 1).toInt = (t 11).toInt + (t 1).toInt := by rw [ix_k rfl rfl (by omega)]
  unfold fnR fnC
  rw [e10, e11, e1, upd_at, upd_ne (f := W) (show (10 : Nat) ≠ 11 by omega), upd_ne (f := upd W 11 (t 11 + t 1)) (show (10 : Nat) ≠ 11 by omega), upd_ne (f := W) (show (10 : Nat) ≠ 11 by omega), e10]
  by_cases z : (t 10 - t 10 / 7 * 7) = 6
  · rw [if_pos z, if_pos z]
    by_cases y : t 11 + t 1 ≤ 99
    · rw [if_pos y]
      by_cases q : t 11 + t 1 < 99
      · rw [if_pos q]
        rw [i32_lt, t_99] at q
        refine ⟨_, _, rfl, rfl, ⟨?_, ?_, fun k h1 h2 => ?_⟩, by omega, by omega⟩
        · rw [upd_ne (by omega), upd_at]
        · rw [upd_at]
        · rw [upd_ne h1, upd_ne h2]
      · rw [if_neg q]
        rw [i32_lt, t_99] at q
        rw [i32_leq, t_99] at y
        refine ⟨_, _, rfl, rfl, ⟨?_, ?_, fun k h1 h2 => ?_⟩, by rw [t_99]; omega, by rw [t_99]; omega⟩
        · rw [upd_ne (by omega), upd_at]
          exact Int32.toInt_inj.mp (by rw [t_99]; omega)
        · rw [upd_at]
        · rw [upd_ne h1, upd_ne h2]
    · rw [if_neg y]
      rw [i32_leq, t_99] at y
      rw [if_neg (by rw [i32_lt, t_99]; omega)]
      refine ⟨_, _, rfl, rfl, ⟨?_, ?_, fun k h1 h2 => ?_⟩, by rw [t_99]; omega, by rw [t_99]; omega⟩
      · rw [upd_ne (by omega), upd_at]
      · rw [upd_at]
      · rw [upd_ne h1, upd_ne h2, upd_ne h2]
  · rw [if_neg z, if_neg z]
    refine ⟨_, _, rfl, rfl, ⟨?_, ?_, fun k h1 h2 => ?_⟩, gs.1, gs.2⟩
    · rw [upd_ne (by omega)]; exact e11
    · rw [upd_at]
    · rw [upd_ne h1]
theorem passes_is {g2 g4 g5 s : Nat → Int32} {g8 g9 : Nat → Int64} {top fo gd : Int32} {P : PsT} (e : dX12_passes_l4 g2 g4 g5 fo gd ((6 - (0 : Int32).toInt).toNat + 1) 0 top g8 g9 s 0 = P) : dX12_passes g2 g4 g5 s g8 g9 top fo gd = (P.2.2.2.2.2, P.2.1, P.2.2.1, P.2.2.2.1, fnR (dX12_weathers P.2.2.2.2.1)) := by
  unfold dX12_passes fnR
  rw [e, cl_l10, cl_l11, cl_l1]
  by_cases z : (dX12_weathers P.2.2.2.2.1 10 - dX12_weathers P.2.2.2.2.1 10 / 7 * 7) = 6
  · rw [if_pos z, if_pos z]
    by_cases y : upd (dX12_weathers P.2.2.2.2.1) 11 (dX12_weathers P.2.2.2.2.1 11 + dX12_weathers P.2.2.2.2.1 1) 11 ≤ 99
    · rw [if_pos y, if_pos y]
    · rw [if_neg y, if_neg y]
  · rw [if_neg z, if_neg z]
/-- the two days, by none -/
theorem full_n {v0 v1 v2 v3 v4 v5 fo top : Int32} {f1 f2 f3 f4 f5 f6 f7 f8 s g2 g4 g5 : Nat → Int32} {g8 g9 : Nat → Int64} (h : ShR v0 v1 v2 v3 v4 v5 f1 f2 f3 f4 f5 f6 f7 f8 s) (g : Gs s) (hd : (s 10).toInt ≤ 60) (hf : fo.toInt < 0) : ∃ who sh so c3 a6 a7 a8 top' h8 h9 s', dX9_goThroughDay_n f1 f2 f3 f4 f5 f6 f7 f8 v0 v1 v2 v3 v4 v5 = (who, sh, v4 + 1, so, c3, a6, a7, a8) ∧ dX12_passes g2 g4 g5 s g8 g9 top fo 0 = (who, top', h8, h9, s') ∧ ShR sh v1 v2 v3 (v4 + 1) so f1 f2 c3 f4 f5 a6 a7 a8 s' ∧ Gs s' ∧ (s' 10).toInt = (s 10).toInt + 1 ∧ TlS s s' := by
  obtain ⟨ec, ek, k0, k2, k10⟩ := clk g
  have g3 := g.1.2.2.1
  have hst := h.still g
  have hck : dX9_clockOn v2 v4 = dX12_clock s := by rw [h.1.2.2.1, h.1.2.2.2.2.1]; exact ek
  have hpo : f2 (dX9_clockOn v2 v4).toNatClampNeg = s (46 + (dX12_clock s).toInt.toNat) := by
    rw [hck]
    exact (h.2.1 (dX12_clock s).toInt.toNat (by omega)).2
  obtain ⟨w, a0, a5, a3, a6, a8, a7, z, eC, hS, gS, ew, hl⟩ := day_n (g2 := g2) (g4 := g4) (g5 := g5) hf ((6 - (0 : Int32).toInt).toNat + 1) 0 0 v0 v5 top f3 f6 f8 f7 s g8 g9 h g StL.rf rfl rfl (by decide) (by rw [t_0]; omega) (by rw [t_0]; omega)
  generalize eP : dX12_passes_l4 g2 g4 g5 fo 0 ((6 - (0 : Int32).toInt).toNat + 1) 0 top g8 g9 s 0 = P at hS gS ew hl
  have hw := weath_all gS hS.1.2.2.2.1 (fun k hk => (hS.2.2 k hk).1)
  obtain ⟨s', sh, e1, e2, hF, hs0, hs99⟩ := fin_r gS hw
  have e10 : P.2.2.2.2.1 10 = s 10 := hl 10 (by omega)
  have hg := gS.fin (by rw [e10]; exact hd) hw hF ⟨hs0, hs99⟩
  refine ⟨w, sh, a5, _, a6, a7, a8, P.2.1, P.2.2.1, P.2.2.2.1, s', ?_, ?_, hS.fin gS hw hF, hg.1, by rw [hg.2, e10], hl.tl hw hF⟩
  · unfold dX9_goThroughDay_n
    rw [hpo, hck, hasC (n := v2) ⟨k0, by rw [h.1.2.2.1]; exact k2⟩ k10, if_neg one_ne, hst, eC]
    have es : s (36 + (dX12_clock s).toInt.toNat) = P.2.2.2.2.1 (36 + (dX12_clock P.2.2.2.2.1).toInt.toNat) := by rw [hl.clock, hl _ (by omega)]
    rw [es, show v4 = P.2.2.2.2.1 10 by rw [e10]; exact h.1.2.2.2.2.1]
    by_cases q : (P.2.2.2.2.1 10 - P.2.2.2.2.1 10 / 7 * 7) = 6
    · rw [if_pos q, ← e2]
      unfold fnC
      rw [if_pos q, ← hS.1.1, ← hS.1.2.1]
    · rw [if_neg q, ← e2]
      unfold fnC
      rw [if_neg q, ← hS.1.1]
  · rw [passes_is eP, e1, ew]
