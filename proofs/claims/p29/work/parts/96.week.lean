set_option maxRecDepth 16384
/-! 61 days: the tables of who bought -/
def TbE (W V : Nat → Int32) (m : Nat) : Prop := ∀ k : Nat, k < m → W k = V k
theorem TbE.on {W V : Nat → Int32} {m : Nat} (h : TbE W V m) {w : Int32} : TbE (upd W m w) (upd V m w) (m + 1) := fun k hk => by
  by_cases z : k = m
  · rw [z, upd_at, upd_at]
  · rw [upd_ne z, upd_ne z]; exact h k (by omega)
theorem TlS.rf {s : Nat → Int32} : TlS s s := fun _ _ => rfl
theorem TlS.tr {s t u : Nat → Int32} (h : TlS s t) (h2 : TlS t u) : TlS s u := fun k hk => (h2 k hk).trans (h k hk)
theorem t_60 : (60 : Int32).toInt = 60 := by decide
theorem t_61 : (61 : Int32).toInt = 61 := by decide
theorem i61 {r d : Int32} (hr : 0 ≤ r.toInt ∧ r.toInt ≤ 6) (hd : 0 ≤ d.toInt ∧ d.toInt ≤ 60) : (r * (61 : Int32) + d).toNatClampNeg = 61 * r.toInt.toNat + d.toInt.toNat := by
  have e1 : (r * (61 : Int32)).toInt = r.toInt * 61 := by rw [mul_toInt (by rw [t_61]; omega) (by rw [t_61]; omega), t_61]
  exact cl_eq (by rw [ix_k e1 rfl (by omega)]; omega)
theorem spot_is {r d : Int32} (hr : 0 ≤ r.toInt ∧ r.toInt ≤ 6) (hd : 0 ≤ d.toInt ∧ d.toInt ≤ 60) : (dX12_spot r d).toNatClampNeg = 61 * r.toInt.toNat + d.toInt.toNat := by
  have e1 : ((61 : Int32) * r).toInt = 61 * r.toInt := by rw [mul_toInt (by rw [t_61]; omega) (by rw [t_61]; omega), t_61]
  unfold dX12_spot
  exact cl_eq (by rw [ix_k e1 rfl (by omega)]; omega)
theorem wk_idx {r d e : Nat} (h : e = d + 1) : 61 * r + e = 61 * r + d + 1 := by omega
theorem wk_nx {d : Int32} (h0 : 0 ≤ d.toInt) (h1 : d.toInt ≤ 60) : (d + 1).toInt = d.toInt + 1 := by rw [ix_k rfl t_1 (by omega)]
theorem wk_wgh0_l67 {B1f B2f B3f B4f B5f B6f B7f B8f y8 y9 y10 y11 y12 y13 y14 y15 g2 g4 g5 : Nat → Int32} {b1 b2 b3 r : Int32} (hr : 0 ≤ r.toInt ∧ r.toInt ≤ 6) (hf : (r - 1).toInt < 0) : ∀ (n : Nat) (d v0 v4 v5 top : Int32) (W f3 f6 f7 f8 V s : Nat → Int32) (g8 g9 : Nat → Int64), ShR v0 b1 b2 b3 v4 v5 (dX9_copyFrom y8 y9 y10 y11 y12 y13 y14 y15 B1f B2f B3f B4f B5f B6f B7f B8f).1 (dX9_copyFrom y8 y9 y10 y11 y12 y13 y14 y15 B1f B2f B3f B4f B5f B6f B7f B8f).2.1 f3 (dX9_copyFrom y8 y9 y10 y11 y12 y13 y14 y15 B1f B2f B3f B4f B5f B6f B7f B8f).2.2.2.1 (dX9_copyFrom y8 y9 y10 y11 y12 y13 y14 y15 B1f B2f B3f B4f B5f B6f B7f B8f).2.2.2.2.1 f6 f7 f8 s → Gs s → (s 10).toInt = d.toInt → 0 ≤ d.toInt → d.toInt ≤ 61 → 61 - d.toInt < (n : Int) → TbE W V (61 * r.toInt.toNat + d.toInt.toNat) →
    TbE (dX2_wgh0_l67 B1f B2f B3f B4f B5f B6f B7f B8f b1 b2 b3 r y8 y9 y10 y11 y12 y13 y14 y15 n d W v0 v4 v5 f3 f6 f7 f8).2.1 (dX12_fillsFits_l32 g2 g4 g5 0 r r n d g8 g9 V top s).2.2.2.1 (61 * r.toInt.toNat + 61) ∧ TlS s (dX12_fillsFits_l32 g2 g4 g5 0 r r n d g8 g9 V top s).2.2.2.2.2
  | 0, d, v0, v4, v5, top, W, f3, f6, f7, f8, V, s, g8, g9, h, g, h10, h0, h1, hm, hT => by omega
  | n + 1, d, v0, v4, v5, top, W, f3, f6, f7, f8, V, s, g8, g9, h, g, h10, h0, h1, hm, hT => by
    rw [dX2_wgh0_l67_s, dX12_fillsFits_l32_s]
    by_cases z : (61 : Int32) ≤ d
    · have ez : d.toInt = 61 := by rw [i32_leq, t_61] at z; omega
      have z2 : (60 : Int32) < d := by rw [i32_lt, t_60]; omega
      rw [if_pos z, if_pos z2]
      rw [show d.toInt.toNat = 61 by omega] at hT
      exact ⟨hT, TlS.rf⟩
    · have hd6 : d.toInt ≤ 60 := by rw [i32_leq, t_61] at z; omega
      have z2 : ¬ (60 : Int32) < d := by rw [i32_lt, t_60]; omega
      rw [if_neg z, if_neg z2, i61 hr ⟨h0, hd6⟩, spot_is hr ⟨h0, hd6⟩]
      obtain ⟨who, sh, so, c3, a6, a7, a8, tp, h8, h9, t, eC, eR, hS, gS, e10, hl⟩ := full_n (top := top) (g2 := g2) (g4 := g4) (g5 := g5) (g8 := g8) (g9 := g9) h g (by omega) hf
      rw [eC, eR]
      have en := wk_nx h0 hd6
      have ih := wk_wgh0_l67 (g2 := g2) (g4 := g4) (g5 := g5) hr hf n (d + 1) sh (v4 + 1) so tp (upd W (61 * r.toInt.toNat + d.toInt.toNat) who) c3 a6 a7 a8 (upd V (61 * r.toInt.toNat + d.toInt.toNat) who) t h8 h9 hS gS (by rw [e10, en, h10]) (by omega) (by omega) (by omega) (by rw [wk_idx (d := d.toInt.toNat) (e := (d + 1).toInt.toNat) (by omega)]; exact hT.on)
      exact ⟨ih.1, hl.tr ih.2⟩
theorem wk_wgh1_l67 {B1f B2f B3f B4f B5f B6f B7f B8f y8 y9 y10 y11 y12 y13 y14 y15 g2 g4 g5 : Nat → Int32} {b1 b2 b3 r : Int32} {rf : Nat → Int32} {rn : Nat} {R : RuA} (hr : 0 ≤ r.toInt ∧ r.toInt ≤ 6) (hL : CdE rf (ru_fl R)) (hn : (ru_fl R).length = rn) (h4 : rn ≤ 400) (hfo : 0 ≤ (r - 1).toInt ∧ (r - 1).toInt < 6) (hR : RwR g2 g4 g5 (r - 1).toInt.toNat R) (hk : ru_ok R) : ∀ (n : Nat) (d v0 v4 v5 top : Int32) (W f3 f6 f7 f8 V s : Nat → Int32) (hd g8 g9 : Nat → Int64), ShR v0 b1 b2 b3 v4 v5 (dX9_copyFrom y8 y9 y10 y11 y12 y13 y14 y15 B1f B2f B3f B4f B5f B6f B7f B8f).1 (dX9_copyFrom y8 y9 y10 y11 y12 y13 y14 y15 B1f B2f B3f B4f B5f B6f B7f B8f).2.1 f3 (dX9_copyFrom y8 y9 y10 y11 y12 y13 y14 y15 B1f B2f B3f B4f B5f B6f B7f B8f).2.2.2.1 (dX9_copyFrom y8 y9 y10 y11 y12 y13 y14 y15 B1f B2f B3f B4f B5f B6f B7f B8f).2.2.2.2.1 f6 f7 f8 s → Gs s → (s 10).toInt = d.toInt → 0 ≤ d.toInt → d.toInt ≤ 61 → 61 - d.toInt < (n : Int) → TbE W V (61 * r.toInt.toNat + d.toInt.toNat) →
    TbE (dX2_wgh1_l67 B1f B2f B3f B4f B5f B6f B7f B8f b1 b2 b3 rf rn r y8 y9 y10 y11 y12 y13 y14 y15 n d W hd v0 v4 v5 f3 f6 f7 f8).2.1 (dX12_fillsFits_l32 g2 g4 g5 0 r r n d g8 g9 V top s).2.2.2.1 (61 * r.toInt.toNat + 61) ∧ TlS s (dX12_fillsFits_l32 g2 g4 g5 0 r r n d g8 g9 V top s).2.2.2.2.2
  | 0, d, v0, v4, v5, top, W, f3, f6, f7, f8, V, s, hd, g8, g9, h, g, h10, h0, h1, hm, hT => by omega
  | n + 1, d, v0, v4, v5, top, W, f3, f6, f7, f8, V, s, hd, g8, g9, h, g, h10, h0, h1, hm, hT => by
    rw [dX2_wgh1_l67_s, dX12_fillsFits_l32_s]
    by_cases z : (61 : Int32) ≤ d
    · have ez : d.toInt = 61 := by rw [i32_leq, t_61] at z; omega
      have z2 : (60 : Int32) < d := by rw [i32_lt, t_60]; omega
      rw [if_pos z, if_pos z2]
      rw [show d.toInt.toNat = 61 by omega] at hT
      exact ⟨hT, TlS.rf⟩
    · have hd6 : d.toInt ≤ 60 := by rw [i32_leq, t_61] at z; omega
      have z2 : ¬ (60 : Int32) < d := by rw [i32_lt, t_60]; omega
      rw [if_neg z, if_neg z2, i61 hr ⟨h0, hd6⟩, spot_is hr ⟨h0, hd6⟩]
      obtain ⟨who, sh, so, c3, a6, a7, a8, hd1, tp, h8, h9, t, eC, eR, hS, gS, e10, hl⟩ := full_r (top := top) (g8 := g8) (g9 := g9) (hd0 := hd) hL hn h4 hfo hR hk h g (by omega)
      rw [eC, eR]
      have en := wk_nx h0 hd6
      have ih := wk_wgh1_l67 hr hL hn h4 hfo hR hk n (d + 1) sh (v4 + 1) so tp (upd W (61 * r.toInt.toNat + d.toInt.toNat) who) c3 a6 a7 a8 (upd V (61 * r.toInt.toNat + d.toInt.toNat) who) t hd1 h8 h9 hS gS (by rw [e10, en, h10]) (by omega) (by omega) (by omega) (by rw [wk_idx (d := d.toInt.toNat) (e := (d + 1).toInt.toNat) (by omega)]; exact hT.on)
      exact ⟨ih.1, hl.tr ih.2⟩
theorem wk_wgh1_l67v1 {B1f B2f B3f B4f B5f B6f B7f B8f y8 y9 y10 y11 y12 y13 y14 y15 g2 g4 g5 : Nat → Int32} {b1 b2 b3 r : Int32} (hr : 0 ≤ r.toInt ∧ r.toInt ≤ 6) (hf : (r - 1).toInt < 0) : ∀ (n : Nat) (d v0 v4 v5 top : Int32) (W f3 f6 f7 f8 V s : Nat → Int32) (g8 g9 : Nat → Int64), ShR v0 b1 b2 b3 v4 v5 (dX9_copyFrom y8 y9 y10 y11 y12 y13 y14 y15 B1f B2f B3f B4f B5f B6f B7f B8f).1 (dX9_copyFrom y8 y9 y10 y11 y12 y13 y14 y15 B1f B2f B3f B4f B5f B6f B7f B8f).2.1 f3 (dX9_copyFrom y8 y9 y10 y11 y12 y13 y14 y15 B1f B2f B3f B4f B5f B6f B7f B8f).2.2.2.1 (dX9_copyFrom y8 y9 y10 y11 y12 y13 y14 y15 B1f B2f B3f B4f B5f B6f B7f B8f).2.2.2.2.1 f6 f7 f8 s → Gs s → (s 10).toInt = d.toInt → 0 ≤ d.toInt → d.toInt ≤ 61 → 61 - d.toInt < (n : Int) → TbE W V (61 * r.toInt.toNat + d.toInt.toNat) →
    TbE (dX2_wgh1_l67v1 B1f B2f B3f B4f B5f B6f B7f B8f b1 b2 b3 r y8 y9 y10 y11 y12 y13 y14 y15 n d W v0 v4 v5 f3 f6 f7 f8).2.1 (dX12_fillsFits_l32 g2 g4 g5 0 r r n d g8 g9 V top s).2.2.2.1 (61 * r.toInt.toNat + 61) ∧ TlS s (dX12_fillsFits_l32 g2 g4 g5 0 r r n d g8 g9 V top s).2.2.2.2.2
  | 0, d, v0, v4, v5, top, W, f3, f6, f7, f8, V, s, g8, g9, h, g, h10, h0, h1, hm, hT => by omega
  | n + 1, d, v0, v4, v5, top, W, f3, f6, f7, f8, V, s, g8, g9, h, g, h10, h0, h1, hm, hT => by
    rw [dX2_wgh1_l67v1_s, dX12_fillsFits_l32_s]
    by_cases z : (61 : Int32) ≤ d
    · have ez : d.toInt = 61 := by rw [i32_leq, t_61] at z; omega
      have z2 : (60 : Int32) < d := by rw [i32_lt, t_60]; omega
      rw [if_pos z, if_pos z2]
      rw [show d.toInt.toNat = 61 by omega] at hT
      exact ⟨hT, TlS.rf⟩
    · have hd6 : d.toInt ≤ 60 := by rw [i32_leq, t_61] at z; omega
      have z2 : ¬ (60 : Int32) < d := by rw [i32_lt, t_60]; omega
      rw [if_neg z, if_neg z2, i61 hr ⟨h0, hd6⟩, spot_is hr ⟨h0, hd6⟩]
      obtain ⟨who, sh, so, c3, a6, a7, a8, tp, h8, h9, t, eC, eR, hS, gS, e10, hl⟩ := full_n (top := top) (g2 := g2) (g4 := g4) (g5 := g5) (g8 := g8) (g9 := g9) h g (by omega) hf
      rw [eC, eR]
      have en := wk_nx h0 hd6
      have ih := wk_wgh1_l67v1 (g2 := g2) (g4 := g4) (g5 := g5) hr hf n (d + 1) sh (v4 + 1) so tp (upd W (61 * r.toInt.toNat + d.toInt.toNat) who) c3 a6 a7 a8 (upd V (61 * r.toInt.toNat + d.toInt.toNat) who) t h8 h9 hS gS (by rw [e10, en, h10]) (by omega) (by omega) (by omega) (by rw [wk_idx (d := d.toInt.toNat) (e := (d + 1).toInt.toNat) (by omega)]; exact hT.on)
      exact ⟨ih.1, hl.tr ih.2⟩
theorem wk_wgh2_l67 {B1f B2f B3f B4f B5f B6f B7f B8f y8 y9 y10 y11 y12 y13 y14 y15 g2 g4 g5 : Nat → Int32} {b1 b2 b3 r : Int32} {rf : Nat → Int32} {rn : Nat} {R : RuA} (hr : 0 ≤ r.toInt ∧ r.toInt ≤ 6) (hL : CdE rf (ru_fl R)) (hn : (ru_fl R).length = rn) (h4 : rn ≤ 400) (hfo : 0 ≤ (r - 1).toInt ∧ (r - 1).toInt < 6) (hR : RwR g2 g4 g5 (r - 1).toInt.toNat R) (hk : ru_ok R) : ∀ (n : Nat) (d v0 v4 v5 top : Int32) (W f3 f6 f7 f8 V s : Nat → Int32) (hd g8 g9 : Nat → Int64), ShR v0 b1 b2 b3 v4 v5 (dX9_copyFrom y8 y9 y10 y11 y12 y13 y14 y15 B1f B2f B3f B4f B5f B6f B7f B8f).1 (dX9_copyFrom y8 y9 y10 y11 y12 y13 y14 y15 B1f B2f B3f B4f B5f B6f B7f B8f).2.1 f3 (dX9_copyFrom y8 y9 y10 y11 y12 y13 y14 y15 B1f B2f B3f B4f B5f B6f B7f B8f).2.2.2.1 (dX9_copyFrom y8 y9 y10 y11 y12 y13 y14 y15 B1f B2f B3f B4f B5f B6f B7f B8f).2.2.2.2.1 f6 f7 f8 s → Gs s → (s 10).toInt = d.toInt → 0 ≤ d.toInt → d.toInt ≤ 61 → 61 - d.toInt < (n : Int) → TbE W V (61 * r.toInt.toNat + d.toInt.toNat) →
    TbE (dX2_wgh2_l67 B1f B2f B3f B4f B5f B6f B7f B8f b1 b2 b3 rf rn r y8 y9 y10 y11 y12 y13 y14 y15 n d W hd v0 v4 v5 f3 f6 f7 f8).2.1 (dX12_fillsFits_l32 g2 g4 g5 0 r r n d g8 g9 V top s).2.2.2.1 (61 * r.toInt.toNat + 61) ∧ TlS s (dX12_fillsFits_l32 g2 g4 g5 0 r r n d g8 g9 V top s).2.2.2.2.2
  | 0, d, v0, v4, v5, top, W, f3, f6, f7, f8, V, s, hd, g8, g9, h, g, h10, h0, h1, hm, hT => by omega
  | n + 1, d, v0, v4, v5, top, W, f3, f6, f7, f8, V, s, hd, g8, g9, h, g, h10, h0, h1, hm, hT => by
    rw [dX2_wgh2_l67_s, dX12_fillsFits_l32_s]
    by_cases z : (61 : Int32) ≤ d
    · have ez : d.toInt = 61 := by rw [i32_leq, t_61] at z; omega
      have z2 : (60 : Int32) < d := by rw [i32_lt, t_60]; omega
      rw [if_pos z, if_pos z2]
      rw [show d.toInt.toNat = 61 by omega] at hT
      exact ⟨hT, TlS.rf⟩
    · have hd6 : d.toInt ≤ 60 := by rw [i32_leq, t_61] at z; omega
      have z2 : ¬ (60 : Int32) < d := by rw [i32_lt, t_60]; omega
      rw [if_neg z, if_neg z2, i61 hr ⟨h0, hd6⟩, spot_is hr ⟨h0, hd6⟩]
      obtain ⟨who, sh, so, c3, a6, a7, a8, hd1, tp, h8, h9, t, eC, eR, hS, gS, e10, hl⟩ := full_r (top := top) (g8 := g8) (g9 := g9) (hd0 := hd) hL hn h4 hfo hR hk h g (by omega)
      rw [eC, eR]
      have en := wk_nx h0 hd6
      have ih := wk_wgh2_l67 hr hL hn h4 hfo hR hk n (d + 1) sh (v4 + 1) so tp (upd W (61 * r.toInt.toNat + d.toInt.toNat) who) c3 a6 a7 a8 (upd V (61 * r.toInt.toNat + d.toInt.toNat) who) t hd1 h8 h9 hS gS (by rw [e10, en, h10]) (by omega) (by omega) (by omega) (by rw [wk_idx (d := d.toInt.toNat) (e := (d + 1).toInt.toNat) (by omega)]; exact hT.on)
      exact ⟨ih.1, hl.tr ih.2⟩
theorem wk_wgh2_l67v1 {B1f B2f B3f B4f B5f B6f B7f B8f y8 y9 y10 y11 y12 y13 y14 y15 g2 g4 g5 : Nat → Int32} {b1 b2 b3 r : Int32} {rf : Nat → Int32} {rn : Nat} {R : RuA} (hr : 0 ≤ r.toInt ∧ r.toInt ≤ 6) (hL : CdE rf (ru_fl R)) (hn : (ru_fl R).length = rn) (h4 : rn ≤ 400) (hfo : 0 ≤ (r - 1).toInt ∧ (r - 1).toInt < 6) (hR : RwR g2 g4 g5 (r - 1).toInt.toNat R) (hk : ru_ok R) : ∀ (n : Nat) (d v0 v4 v5 top : Int32) (W f3 f6 f7 f8 V s : Nat → Int32) (hd g8 g9 : Nat → Int64), ShR v0 b1 b2 b3 v4 v5 (dX9_copyFrom y8 y9 y10 y11 y12 y13 y14 y15 B1f B2f B3f B4f B5f B6f B7f B8f).1 (dX9_copyFrom y8 y9 y10 y11 y12 y13 y14 y15 B1f B2f B3f B4f B5f B6f B7f B8f).2.1 f3 (dX9_copyFrom y8 y9 y10 y11 y12 y13 y14 y15 B1f B2f B3f B4f B5f B6f B7f B8f).2.2.2.1 (dX9_copyFrom y8 y9 y10 y11 y12 y13 y14 y15 B1f B2f B3f B4f B5f B6f B7f B8f).2.2.2.2.1 f6 f7 f8 s → Gs s → (s 10).toInt = d.toInt → 0 ≤ d.toInt → d.toInt ≤ 61 → 61 - d.toInt < (n : Int) → TbE W V (61 * r.toInt.toNat + d.toInt.toNat) →
    TbE (dX2_wgh2_l67v1 B1f B2f B3f B4f B5f B6f B7f B8f b1 b2 b3 rf rn r y8 y9 y10 y11 y12 y13 y14 y15 n d W hd v0 v4 v5 f3 f6 f7 f8).2.1 (dX12_fillsFits_l32 g2 g4 g5 0 r r n d g8 g9 V top s).2.2.2.1 (61 * r.toInt.toNat + 61) ∧ TlS s (dX12_fillsFits_l32 g2 g4 g5 0 r r n d g8 g9 V top s).2.2.2.2.2
  | 0, d, v0, v4, v5, top, W, f3, f6, f7, f8, V, s, hd, g8, g9, h, g, h10, h0, h1, hm, hT => by omega
  | n + 1, d, v0, v4, v5, top, W, f3, f6, f7, f8, V, s, hd, g8, g9, h, g, h10, h0, h1, hm, hT => by
    rw [dX2_wgh2_l67v1_s, dX12_fillsFits_l32_s]
    by_cases z : (61 : Int32) ≤ d
    · have ez : d.toInt = 61 := by rw [i32_leq, t_61] at z; omega
      have z2 : (60 : Int32) < d := by rw [i32_lt, t_60]; omega
      rw [if_pos z, if_pos z2]
      rw [show d.toInt.toNat = 61 by omega] at hT
      exact ⟨hT, TlS.rf⟩
    · have hd6 : d.toInt ≤ 60 := by rw [i32_leq, t_61] at z; omega
      have z2 : ¬ (60 : Int32) < d := by rw [i32_lt, t_60]; omega
      rw [if_neg z, if_neg z2, i61 hr ⟨h0, hd6⟩, spot_is hr ⟨h0, hd6⟩]
      obtain ⟨who, sh, so, c3, a6, a7, a8, hd1, tp, h8, h9, t, eC, eR, hS, gS, e10, hl⟩ := full_r (top := top) (g8 := g8) (g9 := g9) (hd0 := hd) hL hn h4 hfo hR hk h g (by omega)
      rw [eC, eR]
      have en := wk_nx h0 hd6
      have ih := wk_wgh2_l67v1 hr hL hn h4 hfo hR hk n (d + 1) sh (v4 + 1) so tp (upd W (61 * r.toInt.toNat + d.toInt.toNat) who) c3 a6 a7 a8 (upd V (61 * r.toInt.toNat + d.toInt.toNat) who) t hd1 h8 h9 hS gS (by rw [e10, en, h10]) (by omega) (by omega) (by omega) (by rw [wk_idx (d := d.toInt.toNat) (e := (d + 1).toInt.toNat) (by omega)]; exact hT.on)
      exact ⟨ih.1, hl.tr ih.2⟩
theorem wk_wgh2_l67v2 {B1f B2f B3f B4f B5f B6f B7f B8f y8 y9 y10 y11 y12 y13 y14 y15 g2 g4 g5 : Nat → Int32} {b1 b2 b3 r : Int32} (hr : 0 ≤ r.toInt ∧ r.toInt ≤ 6) (hf : (r - 1).toInt < 0) : ∀ (n : Nat) (d v0 v4 v5 top : Int32) (W f3 f6 f7 f8 V s : Nat → Int32) (g8 g9 : Nat → Int64), ShR v0 b1 b2 b3 v4 v5 (dX9_copyFrom y8 y9 y10 y11 y12 y13 y14 y15 B1f B2f B3f B4f B5f B6f B7f B8f).1 (dX9_copyFrom y8 y9 y10 y11 y12 y13 y14 y15 B1f B2f B3f B4f B5f B6f B7f B8f).2.1 f3 (dX9_copyFrom y8 y9 y10 y11 y12 y13 y14 y15 B1f B2f B3f B4f B5f B6f B7f B8f).2.2.2.1 (dX9_copyFrom y8 y9 y10 y11 y12 y13 y14 y15 B1f B2f B3f B4f B5f B6f B7f B8f).2.2.2.2.1 f6 f7 f8 s → Gs s → (s 10).toInt = d.toInt → 0 ≤ d.toInt → d.toInt ≤ 61 → 61 - d.toInt < (n : Int) → TbE W V (61 * r.toInt.toNat + d.toInt.toNat) →
    TbE (dX2_wgh2_l67v2 B1f B2f B3f B4f B5f B6f B7f B8f b1 b2 b3 r y8 y9 y10 y11 y12 y13 y14 y15 n d W v0 v4 v5 f3 f6 f7 f8).2.1 (dX12_fillsFits_l32 g2 g4 g5 0 r r n d g8 g9 V top s).2.2.2.1 (61 * r.toInt.toNat + 61) ∧ TlS s (dX12_fillsFits_l32 g2 g4 g5 0 r r n d g8 g9 V top s).2.2.2.2.2
  | 0, d, v0, v4, v5, top, W, f3, f6, f7, f8, V, s, g8, g9, h, g, h10, h0, h1, hm, hT => by omega
  | n + 1, d, v0, v4, v5, top, W, f3, f6, f7, f8, V, s, g8, g9, h, g, h10, h0, h1, hm, hT => by
    rw [dX2_wgh2_l67v2_s, dX12_fillsFits_l32_s]
    by_cases z : (61 : Int32) ≤ d
    · have ez : d.toInt = 61 := by rw [i32_leq, t_61] at z; omega
      have z2 : (60 : Int32) < d := by rw [i32_lt, t_60]; omega
      rw [if_pos z, if_pos z2]
      rw [show d.toInt.toNat = 61 by omega] at hT
      exact ⟨hT, TlS.rf⟩
    · have hd6 : d.toInt ≤ 60 := by rw [i32_leq, t_61] at z; omega
      have z2 : ¬ (60 : Int32) < d := by rw [i32_lt, t_60]; omega
      rw [if_neg z, if_neg z2, i61 hr ⟨h0, hd6⟩, spot_is hr ⟨h0, hd6⟩]
      obtain ⟨who, sh, so, c3, a6, a7, a8, tp, h8, h9, t, eC, eR, hS, gS, e10, hl⟩ := full_n (top := top) (g2 := g2) (g4 := g4) (g5 := g5) (g8 := g8) (g9 := g9) h g (by omega) hf
      rw [eC, eR]
      have en := wk_nx h0 hd6
      have ih := wk_wgh2_l67v2 (g2 := g2) (g4 := g4) (g5 := g5) hr hf n (d + 1) sh (v4 + 1) so tp (upd W (61 * r.toInt.toNat + d.toInt.toNat) who) c3 a6 a7 a8 (upd V (61 * r.toInt.toNat + d.toInt.toNat) who) t h8 h9 hS gS (by rw [e10, en, h10]) (by omega) (by omega) (by omega) (by rw [wk_idx (d := d.toInt.toNat) (e := (d + 1).toInt.toNat) (by omega)]; exact hT.on)
      exact ⟨ih.1, hl.tr ih.2⟩
