set_option maxRecDepth 16384
/-! what is told, at ruled and look: class and reference -/
theorem fit_i {x y : Int32} {v : Int} (hx : x.toInt = v) (hy : y.toInt = v) : x = y := Int32.toInt_inj.mp (hx.trans hy.symm)
theorem fit_0 {x : Int32} (h : x.toInt = 0) : x = 0 := Int32.toInt_inj.mp (h.trans t_0.symm)
section FIT
variable {dr : Nat → Int} {s f1 f2 f3 f4 f5 f6 f7 f8 m1 m2 m3 g4 : Nat → Int32} {v0 v1 v2 v3 v4 v5 n0 a2 a3 : Int32}
theorem TbC.fit (hb : TbC dr v0 v1 v2 v3 v4 v5 f1 f2 f3 f4 f5 f6 f7 f8) (h0 : dr 0 = 1) (hm : TdM dr s) : BgC v0 v1 v2 v3 v4 v5 f1 f2 f3 f4 f5 f6 f7 f8 s := by
  obtain ⟨⟨p0, p1, p2, p3, p4, p5⟩, q, r⟩ := hb h0
  refine ⟨⟨fit_i p0 (hm.1 94 (by omega)), fit_i p1 (hm.1 1 (by omega)), fit_i p2 (hm.1 2 (by omega)), fit_i p3 (hm.1 3 (by omega)), fit_0 p4, fit_0 p5⟩, fun k hk => ?_, fun b hb => ?_⟩
  · exact ⟨fit_i (q k hk).1 (hm.1 (74 + k) (by omega)), fit_i (q k hk).2 (hm.1 (84 + k) (by omega))⟩
  · obtain ⟨r3, r4, r5, r6, r7, r8⟩ := r b hb
    exact ⟨fit_i r3 (hm.1 (68 + b) (by omega)), fit_i r4 (hm.1 (56 + b) (by omega)), fit_i r5 (hm.1 (62 + b) (by omega)), fit_0 r6, fit_0 r7, Int32.toInt_inj.mp (r8.trans t_m1.symm)⟩
theorem TnC.fit (hn : TnC dr n0 m1 m2 m3) (hg : TdG dr) (hm : TdM dr s) : NtE m1 m2 m3 n0 s := by
  have e := hm.1 125 (by omega)
  refine ⟨fit_i hn.1 e, by rw [e]; exact hn.2.1, fun k hk => ?_⟩
  rw [e] at hk
  obtain ⟨p1, p2, p3⟩ := hn.2.2 k hk
  obtain ⟨q1, q2, q3⟩ := hm.2.2 k hk
  have g := hg.2.2 k hk
  exact ⟨fit_i p1 q1, fit_i p2 q2, fit_i p3 q3, by omega, by omega⟩
theorem TdG.fit (hg : TdG dr) (h0 : dr 0 = 1) (hm : TdM dr s) : GsB s := by
  rcases hg.1 with h | h
  · omega
  · obtain ⟨c0, c2, c3, c1, c94, cb⟩ := h
    have c0 : dr 0 = 1 ∧ 1 ≤ dr 2 := by
      rcases c0 with c0 | c0
      · omega
      · exact c0
    have e0 : s 0 = 1 := Int32.toInt_inj.mp ((hm.1 0 (by omega)).trans (c0.1.trans t_1.symm))
    have e1 := hm.1 1 (by omega)
    have e2 := hm.1 2 (by omega)
    have e3 := hm.1 3 (by omega)
    have e4 := hm.1 94 (by omega)
    refine ⟨⟨e0, by omega, by omega, by omega, by omega⟩, fun b hb => ?_⟩
    have e5 := hm.1 (68 + b) (by omega)
    have e6 := hm.1 (56 + b) (by omega)
    have g := cb b hb
    exact ⟨by omega, by omega⟩
theorem fit_A (hk : KyC dr a2 a3 g4) (hb : TbC dr v0 v1 v2 v3 v4 v5 f1 f2 f3 f4 f5 f6 f7 f8) (hn : TnC dr n0 m1 m2 m3) (hg : TdG dr) (hm : TdM dr s) : s 0 = 1 → 0 < a2.toInt ∧ BgC v0 v1 v2 v3 v4 v5 f1 f2 f3 f4 f5 f6 f7 f8 s ∧ GsB s ∧ NtE m1 m2 m3 n0 s := fun z => by
  have h0 : dr 0 = 1 := by rw [← hm.1 0 (by omega), z, t_1]
  have g := hg.fit h0 hm
  have e2 := hm.1 2 (by omega)
  have e3 := hk.1
  have g2 := g.1.2.1
  exact ⟨by omega, hb.fit h0 hm, g, hn.fit hg hm⟩
theorem fit_A0 (hk : KyC dr a2 a3 g4) (hg : TdG dr) (hm : TdM dr s) : ¬ s 0 = 1 → a2.toInt ≤ 0 := fun z => by
  have e2 := hk.1
  rcases hg.1 with h | h
  · omega
  · exfalso
    rcases h.1 with c0 | c0
    · omega
    · exact z (Int32.toInt_inj.mp ((hm.1 0 (by omega)).trans (c0.1.trans t_1.symm)))
end FIT
