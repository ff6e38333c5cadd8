set_option maxRecDepth 16384
def bt (x : Int32) (i : Nat) : Bool := x.toBitVec.getLsbD i
theorem b_ext {x y : Int32} (h : ∀ i, i < 32 → bt x i = bt y i) : x = y := Int32.toBitVec_inj.mp (BitVec.eq_of_getLsbD_eq (fun i hi => h i hi))
theorem b_and (x y : Int32) (i : Nat) : bt (x &&& y) i = (bt x i && bt y i) := by unfold bt; rw [Int32.toBitVec_and, BitVec.getLsbD_and]
theorem b_big {x : Int32} {i : Nat} (h : 32 ≤ i) : bt x i = false := BitVec.getLsbD_of_ge _ _ h
theorem b_255 (i : Nat) : bt 255 i = decide (i < 8) := by
  rcases Nat.lt_or_ge i 32 with h | h
  · exact (by decide +kernel : ∀ i, i < 32 → bt 255 i = decide (i < 8)) i h
  · rw [b_big h, decide_eq_false (by omega)]
theorem s_l : ∀ n, n < 32 → ((nI n &&& 31).toBitVec.smod 32).toNat = n := by decide +kernel
theorem s_u : ∀ n, n < 32 → (((nI n).toUInt32 &&& Int32.toUInt32 31).toBitVec % 32).toNat = n := by decide +kernel
theorem b_ushr (n : Nat) (hn : n < 32) (x : Int32) (i : Nat) : bt ((x.toUInt32 >>> ((nI n).toUInt32 &&& Int32.toUInt32 31)).toInt32) i = bt x (n + i) := by
  show (x.toUInt32 >>> ((nI n).toUInt32 &&& Int32.toUInt32 31)).toBitVec.getLsbD i = x.toUInt32.toBitVec.getLsbD (n + i)
  rw [UInt32.toBitVec_shiftRight]
  show (x.toUInt32.toBitVec >>> (((nI n).toUInt32 &&& Int32.toUInt32 31).toBitVec % 32).toNat).getLsbD i = _
  rw [s_u n hn, BitVec.getLsbD_ushiftRight]
theorem b_sshr (n : Nat) (hn : n < 32) (x : Int32) {i : Nat} (hi : i < 32) : bt (x >>> (nI n &&& 31)) i = if n + i < 32 then bt x (n + i) else bt x 31 := by
  unfold bt
  rw [Int32.toBitVec_shiftRight]
  show (x.toBitVec.sshiftRight ((nI n &&& 31).toBitVec.smod 32).toNat).getLsbD i = _
  rw [s_l n hn, BitVec.getLsbD_sshiftRight, BitVec.msb_eq_getLsbD_last]
  simp [hi]
theorem bp_b (x : Int32) : x.toInt8.toInt32 &&& 255 = x &&& 255 := by
  apply Int32.toBitVec_inj.mp
  rw [Int32.toBitVec_and, Int32.toBitVec_and, Int8.toBitVec_toInt32, Int32.toBitVec_toInt8]
  apply BitVec.eq_of_getLsbD_eq
  intro i hi
  rw [BitVec.getLsbD_and, BitVec.getLsbD_and]
  have hm : ∀ i < 32, 8 ≤ i → (255 : Int32).toBitVec.getLsbD i = false := by decide
  rcases Nat.lt_or_ge i 8 with z | z
  · rw [BitVec.getLsbD_signExtend, BitVec.getLsbD_signExtend, if_pos z, if_pos hi]
    simp only [z, hi, decide_true, Bool.true_and]
  · rw [hm i hi z]; simp
def bz (v : Int32) (n : Nat) : Int := ((v.toUInt32 >>> ((nI n).toUInt32 &&& Int32.toUInt32 31)).toInt32 &&& 255).toInt
theorem bz_rg (v : Int32) (n : Nat) : 0 ≤ bz v n ∧ bz v n ≤ 255 := by
  unfold bz; rw [and255]; omega
theorem bz_c {v x y : Int32} {n : Nat} (e1 : x = (v.toUInt32 >>> ((nI n).toUInt32 &&& Int32.toUInt32 31)).toInt32) (e2 : y = x &&& 255) : y.toInt % 256 = bz v n ∧ 0 ≤ y.toInt ∧ y.toInt ≤ 255 := by
  have h := bz_rg v n
  have e : y.toInt = bz v n := by rw [e2, e1]; rfl
  omega
theorem bz_sh {v : Int32} {n : Nat} (hn : n ≤ 24) : (v >>> (nI n &&& 31)) &&& 255 = (v.toUInt32 >>> ((nI n).toUInt32 &&& Int32.toUInt32 31)).toInt32 &&& 255 := by
  apply b_ext
  intro i hi
  rw [b_and, b_and, b_255, b_sshr n (by omega) v hi, b_ushr n (by omega)]
  by_cases z : i < 8
  · rw [if_pos (by omega)]
  · rw [show decide (i < 8) = false from decide_eq_false z, Bool.and_false, Bool.and_false]
theorem bz_rn {v x y : Int32} {n : Nat} (hn : n ≤ 24) (e1 : x = v >>> (nI n &&& 31)) (e2 : y = x.toInt8.toInt32) : (vp_nar FieldType.byte y).toInt % 256 = bz v n ∧ -128 ≤ (vp_nar FieldType.byte y).toInt ∧ (vp_nar FieldType.byte y).toInt ≤ 127 := by
  have e : vp_nar FieldType.byte y = y.toInt8.toInt32 := rfl
  rw [e]
  have h1 := y.toInt8.toInt_toInt32
  have h2 := y.toInt8.le_toInt
  have h3 := y.toInt8.toInt_lt
  refine ⟨?_, by omega, by omega⟩
  rw [← and255, bp_b, e2, bp_b, e1, bz_sh hn]; rfl
def FdB (f g : Nat → Int32) (l l' v : Int32) : Prop := l'.toInt = l.toInt + 4 ∧ (∀ k : Nat, (k : Int) < l.toInt → (g k).toInt = (f k).toInt) ∧ ∀ j : Nat, j < 4 → (g (l.toInt.toNat + j)).toInt % 256 = bz v (24 - 8 * j)
theorem upd_n {f g : Nat → Int32} {i x : Int32} {l : Nat} (e : g = upd f i.toNatClampNeg x) (hi : i.toInt = (l : Int)) : g l = x ∧ ∀ k, k ≠ l → g k = f k := by
  have en : i.toNatClampNeg = l := by show i.toInt.toNat = l; omega
  rw [en] at e
  exact ⟨by rw [e, upd_at], fun k hk => by rw [e, upd_ne hk]⟩
theorem FdB.of {f g0 g1 g2 g3 : Nat → Int32} {l l' i0 i1 i2 i3 x0 x1 x2 x3 v : Int32} (hl : 0 ≤ l.toInt) (e0 : g0 = upd f i0.toNatClampNeg x0) (e1 : g1 = upd g0 i1.toNatClampNeg x1) (e2 : g2 = upd g1 i2.toNatClampNeg x2) (e3 : g3 = upd g2 i3.toNatClampNeg x3) (hi : i0.toInt = l.toInt ∧ i1.toInt = l.toInt + 1 ∧ i2.toInt = l.toInt + 2 ∧ i3.toInt = l.toInt + 3 ∧ l'.toInt = l.toInt + 4) (h0 : x0.toInt % 256 = bz v 24) (h1 : x1.toInt % 256 = bz v 16) (h2 : x2.toInt % 256 = bz v 8) (h3 : x3.toInt % 256 = bz v 0) : FdB f g3 l l' v := by
  obtain ⟨a0, b0⟩ := upd_n (l := l.toInt.toNat) e0 (by omega)
  obtain ⟨a1, b1⟩ := upd_n (l := l.toInt.toNat + 1) e1 (by omega)
  obtain ⟨a2, b2⟩ := upd_n (l := l.toInt.toNat + 2) e2 (by omega)
  obtain ⟨a3, b3⟩ := upd_n (l := l.toInt.toNat + 3) e3 (by omega)
  refine ⟨hi.2.2.2.2, fun k hk => ?_, fun j hj => ?_⟩
  · rw [b3 k (by omega), b2 k (by omega), b1 k (by omega), b0 k (by omega)]
  · have : j = 0 ∨ j = 1 ∨ j = 2 ∨ j = 3 := by omega
    rcases this with rfl | rfl | rfl | rfl
    · rw [b3 _ (by omega), b2 _ (by omega), b1 _ (by omega), Nat.add_zero, a0]; exact h0
    · rw [b3 _ (by omega), b2 _ (by omega), a1]; exact h1
    · rw [b3 _ (by omega), a2]; exact h2
    · rw [a3]; exact h3
theorem Byt.up {f g : Nat → Int32} {i x : Int32} (h : Byt f) (e : g = upd f i.toNatClampNeg x) (hx : 0 ≤ x.toInt ∧ x.toInt ≤ 255) : Byt g := fun k => by
  by_cases z : k = i.toNatClampNeg
  · rw [e, z, upd_at]; exact hx
  · rw [e, upd_ne z]; exact h k
theorem ByS.up {f g : Nat → Int32} {i x : Int32} (h : ByS f) (e : g = upd f i.toNatClampNeg x) (hx : -128 ≤ x.toInt ∧ x.toInt ≤ 127) : ByS g := fun k => by
  by_cases z : k = i.toNatClampNeg
  · rw [e, z, upd_at]; exact hx
  · rw [e, upd_ne z]; exact h k
def TpE (f : Nat → Int32) (n : Int32) (g : Nat → Int32) (m : Int32) : Prop := n.toInt = m.toInt ∧ ∀ k : Nat, (k : Int) < n.toInt → (f k).toInt % 256 = (g k).toInt % 256
theorem FdB.tp {f f' g g' : Nat → Int32} {l l' m m' v : Int32} (h : TpE f l g m) (hl : 0 ≤ l.toInt) (h1 : FdB f f' l l' v) (h2 : FdB g g' m m' v) : TpE f' l' g' m' := by
  obtain ⟨ha, hb⟩ := h
  obtain ⟨a1, a2, a3⟩ := h1
  obtain ⟨b1, b2, b3⟩ := h2
  refine ⟨by omega, fun k hk => ?_⟩
  by_cases z : (k : Int) < l.toInt
  · rw [a2 k z, b2 k (by omega)]; exact hb k z
  · have c1 := a3 (k - l.toInt.toNat) (by omega)
    have c2 := b3 (k - l.toInt.toNat) (by omega)
    rw [show l.toInt.toNat + (k - l.toInt.toNat) = k by omega] at c1
    rw [show m.toInt.toNat + (k - l.toInt.toNat) = k by omega] at c2
    rw [c1, c2]
def FeP (f g : Nat → Int32) (l l' a b c d e r : Int32) : Prop := (380 < l.toInt ∧ r.toInt = -1 ∧ l' = l ∧ g = f) ∨ (l.toInt ≤ 380 ∧ r = l' ∧ ∃ f1 f2 f3 f4 l1 l2 l3 l4, FdB f f1 l l1 a ∧ FdB f1 f2 l1 l2 b ∧ FdB f2 f3 l2 l3 c ∧ FdB f3 f4 l3 l4 d ∧ FdB f4 g l4 l' e)
theorem FeP.eq {f g f' g' : Nat → Int32} {l l' m m' a b c d e r s : Int32} (hl : 0 ≤ l.toInt) (h : TpE f l g m) (h1 : FeP f f' l l' a b c d e r) (h2 : FeP g g' m m' a b c d e s) : r = s ∧ TpE f' l' g' m' := by
  have h0 := h.1
  rcases h1 with ⟨a1, a2, a3, a4⟩ | ⟨a1, a2, f1, f2, f3, f4, l1, l2, l3, l4, p1, p2, p3, p4, p5⟩
  · rcases h2 with ⟨b1, b2, b3, b4⟩ | ⟨b1, _⟩
    · subst a3 a4 b3 b4
      exact ⟨Int32.toInt_inj.mp (by omega), h⟩
    · omega
  · rcases h2 with ⟨b1, _⟩ | ⟨b1, b2, g1, g2, g3, g4, m1, m2, m3, m4, q1, q2, q3, q4, q5⟩
    · omega
    · have e1 := p1.1
      have e2 := p2.1
      have e3 := p3.1
      have e4 := p4.1
      have t1 := FdB.tp h hl p1 q1
      have t2 := FdB.tp t1 (by omega) p2 q2
      have t3 := FdB.tp t2 (by omega) p3 q3
      have t4 := FdB.tp t3 (by omega) p4 q4
      have t5 := FdB.tp t4 (by omega) p5 q5
      exact ⟨by rw [a2, b2]; exact Int32.toInt_inj.mp t5.1, t5⟩
def RrC (B : Nat → Int) (c0 c1 l0 l1 r : Int32) : Prop := (6 ≤ c0.toInt ∧ c1 = c0 ∧ l1 = l0 ∧ r.toInt = -1) ∨ (c0.toInt < 6 ∧ l1.toInt = 0 ∧ ((∃ p, pz_rule B = .ok p) ∧ c1.toInt = c0.toInt + 1 ∧ r.toInt = c0.toInt ∨ ∃ d : Int32, pz_rule B = .error d.toInt ∧ c1 = c0 ∧ r = -2 - d))
theorem TpE.B {f g : Nat → Int32} {n m : Int32} (h : TpE f n g m) (hb : Byt f) : cB f n = rB g m := by
  funext k
  obtain ⟨h1, h2⟩ := h
  by_cases z : (k : Int) < n.toInt
  · rw [cB_in z, rB_in (by omega), ← h2 k z]
    have := hb k
    omega
  · rw [cB_out (by omega), rB_out (by omega)]
theorem RrC.eq {B : Nat → Int} {c0 c1 l0 l1 r m0 m1 s0 s1 q : Int32} (h1 : RrC B c0 c1 l0 l1 r) (h2 : RrC B m0 m1 s0 s1 q) (hc : c0 = m0) (hl : l0 = s0) : r = q ∧ c1 = m1 ∧ l1 = s1 := by
  subst hc hl
  rcases h1 with ⟨a1, a2, a3, a4⟩ | ⟨a1, a2, a3⟩
  · rcases h2 with ⟨b1, b2, b3, b4⟩ | ⟨b1, _⟩
    · exact ⟨Int32.toInt_inj.mp (by omega), by rw [a2, b2], by rw [a3, b3]⟩
    · omega
  · rcases h2 with ⟨b1, _⟩ | ⟨b1, b2, b3⟩
    · omega
    · have el : l1 = s1 := Int32.toInt_inj.mp (by omega)
      rcases a3 with ⟨⟨p, hp⟩, a4, a5⟩ | ⟨d, hd, a4, a5⟩
      · rcases b3 with ⟨_, b4, b5⟩ | ⟨d, hd, _, _⟩
        · exact ⟨Int32.toInt_inj.mp (by omega), Int32.toInt_inj.mp (by omega), el⟩
        · rw [hp] at hd; cases hd
      · rcases b3 with ⟨⟨p, hp⟩, _, _⟩ | ⟨d', hd', b4, b5⟩
        · rw [hp] at hd; cases hd
        · rw [hd] at hd'
          have e : d = d' := Int32.toInt_inj.mp (Except.error.inj hd')
          subst e
          exact ⟨by rw [a5, b5], by rw [a4, b4], el⟩
def EnP (l l' n r : Int32) : Prop := ((n.toInt < 0 ∨ l.toInt < n.toInt) ∧ r.toInt = -1 ∧ l' = l) ∨ ((0 ≤ n.toInt ∧ n.toInt ≤ l.toInt) ∧ r = n ∧ l' = n)
theorem EnP.eq {f g : Nat → Int32} {l l' m m' n r s : Int32} (h : TpE f l g m) (h1 : EnP l l' n r) (h2 : EnP m m' n s) : r = s ∧ TpE f l' g m' := by
  obtain ⟨h3, h4⟩ := h
  rcases h1 with ⟨a1, a2, a3⟩ | ⟨a1, a2, a3⟩
  · rcases h2 with ⟨b1, b2, b3⟩ | ⟨b1, b2, b3⟩
    · subst a3 b3
      exact ⟨Int32.toInt_inj.mp (by omega), h3, h4⟩
    · omega
  · rcases h2 with ⟨b1, b2, b3⟩ | ⟨b1, b2, b3⟩
    · omega
    · subst a2 a3 b2 b3
      exact ⟨rfl, rfl, fun k hk => h4 k (by omega)⟩
def SameR (a b : Int32) (f g : Nat → Option Nat) : Prop := a = b ∧ f = g
theorem RuE.er {B : Nat → Int} {wr : Int32} (h : RuE B wr) (hw : ¬ wr.toInt = 0) : pz_rule B = .error wr.toInt := by
  rcases h with h | h
  · exact absurd h.1 hw
  · exact h.2
theorem RuE.ok {B : Nat → Int} {wr : Int32} (h : RuE B wr) (hw : wr.toInt = 0) : ∃ p, pz_rule B = .ok p := by
  rcases h with h | h
  · exact h.2
  · exact absurd hw h.1
