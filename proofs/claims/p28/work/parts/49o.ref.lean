set_option maxRecDepth 16384
def OpP (f : Nat → Int32) (n : Int32) (g : Nat → Int32) (n' dp' x : Int32) : Prop := OsP g n' dp' ∧ (ok_os g n'.toInt.toNat).1 = if x.toInt = 91 then (10 - dp'.toInt.toNat) :: (ok_os f n.toInt.toNat).1 else (ok_os f n.toInt.toNat).1
def LdP (f : Nat → Int32) (n n' dp' : Int32) : Prop := OsP f n' dp' ∧ (ok_os f n'.toInt.toNat).1 = (ok_os f n.toInt.toNat).1
theorem LdP.rf {f : Nat → Int32} {n dp : Int32} (h : OsP f n dp) : LdP f n n dp := ⟨h, rfl⟩
theorem LdP.step {f : Nat → Int32} {n0 n n' dp dp' x : Int32} (h : LdP f n0 n dp) (ex : x = f n'.toNatClampNeg) (hn : n'.toInt = n.toInt - 1) (h0 : 1 ≤ n.toInt) (hx : (x.toInt = 11 ∧ dp'.toInt = dp.toInt - 1) ∨ ((x.toInt = 12 ∨ x.toInt = 13) ∧ dp'.toInt = dp.toInt)) : LdP f n0 n' dp' := by
  have := OsP.pop (dp' := dp') h.1 ex hn h0 (by omega)
  exact ⟨this.1, (this.2.1 (by omega)).trans h.2⟩
theorem T11.of {f : Nat → Int32} {n i x : Int32} (ex : x = f i.toNatClampNeg) (hi : i.toInt = n.toInt - 1) (hn : 1 ≤ n.toInt) (h : ¬ x.toInt = 11) : T11 f n := by
  right
  have e : i.toNatClampNeg = n.toInt.toNat - 1 := by
    show i.toInt.toNat = _
    omega
  rw [← e, ← ex]; exact h
def FcO (R : Except Int (Nat × Nat)) (B : Nat → Int) (f : Nat → Int32) (n dp nx md wr : Int32) : Prop := OsP f n dp ∧ wr.toInt = 0 ∧ R = pz_K B (ok_os f n.toInt.toNat).1 (.ok (St0 B nx md))
def FcI (R : Except Int (Nat × Nat)) (B : Nat → Int) (f : Nat → Int32) (n dp nx md wr : Int32) : Prop := OsP f n dp ∧ wr.toInt = 0 ∧ R = pz_K B (ok_os f n.toInt.toNat).1 (pz_fact B (10 - dp.toInt.toNat) (St0 B nx md))
def FcL (R : Except Int (Nat × Nat)) (B : Nat → Int) (f : Nat → Int32) (n dp nx md wr mo : Int32) : Prop := (OsP f n dp ∧ wr.toInt = 0) ∧ (mo.toInt = 1 → FcI R B f n dp nx md wr) ∧ (mo.toInt = 0 → R = pz_K B (ok_os f n.toInt.toNat).1 (pz_com B (St0 B nx md)))
theorem FcL.first {R : Except Int (Nat × Nat)} {B : Nat → Int} {f : Nat → Int32} {n dp nx md wr mo : Int32} (h : FcI R B f n dp nx md wr) (hm : mo.toInt = 1) : FcL R B f n dp nx md wr mo := ⟨⟨h.1, h.2.1⟩, fun _ => h, fun z => by omega⟩
theorem FcL.not {R : Except Int (Nat × Nat)} {B : Nat → Int} {f g : Nat → Int32} {n dp nx md wr mo n1 n' dp' nx' wr' mo' x : Int32} (h : FcL R B f n dp nx md wr mo) (hm : mo.toInt = 1) (hs : SkR B nx n1) (hw : pz_wd B n1.toInt.toNat pz_not = true) (ho : OpP f n g n' dp' x) (hx : x.toInt = 11) (hd : dp'.toInt = dp.toInt + 1) (hp : PsR B n1 nx') (hwr : wr'.toInt = 0) (hm' : mo'.toInt = 1) : FcL R B g n' dp' nx' md wr' mo' := by
  obtain ⟨h1, -, h3⟩ := h.2.1 hm
  have hc := ho.1.2.2.1
  have hc0 := h1.ar
  refine FcL.first ⟨ho.1, hwr, ?_⟩ hm'
  rw [h3, ho.2, if_neg (by omega), show 10 - dp.toInt.toNat = (10 - dp'.toInt.toNat) + 1 by omega, pz_K_not (by rw [St0.at hs]; exact hw)]
  have hl : 97 ≤ B n1.toInt.toNat ∧ B n1.toInt.toNat ≤ 122 := by
    have := (of_decide_eq_true hw).2 0 (by decide)
    rw [Nat.add_zero] at this
    rw [this]; decide
  rw [nx_te (nx' := nx') hs (by have := hp.te hl; have h5 := hp; unfold PsR at h5; omega)]
theorem te_br {B : Nat → Int} {p : Nat} (h : B p = 91 ∨ B p = 93 ∨ B p = 59) : pz_te B p = p + 1 := by
  unfold pz_te
  rw [if_neg (show ¬ pz_isL (B p) = true from fun z => by have := of_decide_eq_true z; omega), if_neg (show ¬ pz_isD (B p) = true from fun z => by have := of_decide_eq_true z; omega), if_neg (by omega), if_neg (by omega)]
theorem FcL.br {R : Except Int (Nat × Nat)} {B : Nat → Int} {f g : Nat → Int32} {n dp nx md wr mo n1 n' dp' nx' wr' mo' x : Int32} (h : FcL R B f n dp nx md wr mo) (hm : mo.toInt = 1) (hs : SkR B nx n1) (hw : ¬ pz_wd B n1.toInt.toNat pz_not = true) (hb : B n1.toInt.toNat = 91) (ho : OpP f n g n' dp' x) (hx : x.toInt = 91) (hd : dp'.toInt = dp.toInt + 1) (hp : nx'.toInt = n1.toInt + 1) (hwr : wr'.toInt = 0) (hm' : mo'.toInt = 1) : FcL R B g n' dp' nx' md wr' mo' := by
  obtain ⟨h1, -, h3⟩ := h.2.1 hm
  have hc := ho.1.2.2.1
  have hc0 := h1.ar
  have h0 := hs.1
  refine FcL.first ⟨ho.1, hwr, ?_⟩ hm'
  obtain ⟨m, S, e⟩ := ok_os_ne (f := f) n.toInt.toNat
  rw [h3, ho.2, if_pos hx, e, show 10 - dp.toInt.toNat = (10 - dp'.toInt.toNat) + 1 by omega, pz_K_open (by rw [St0.at hs]; exact hw) (by rw [St0.at hs]; exact hb), nx_te (nx' := nx') hs (by rw [te_br (Or.inl hb)]; omega)]
theorem FcL.deep {R : Except Int (Nat × Nat)} {B : Nat → Int} {f : Nat → Int32} {n dp nx md wr mo n1 wr' : Int32} (h : FcL R B f n dp nx md wr mo) (hm : mo.toInt = 1) (hs : SkR B nx n1) (hc : pz_wd B n1.toInt.toNat pz_not = true ∨ B n1.toInt.toNat = 91) (hd : dp.toInt = 10) (hw : wr'.toInt = 1 + 8 * n1.toInt + 2) : RfE R wr' := by
  obtain ⟨h1, -, h3⟩ := h.2.1 hm
  have h0 := hs.1
  refine ⟨wr'.toInt, ?_, rfl⟩
  rw [h3, show 10 - dp.toInt.toNat = 0 by omega, pz_K_deep (by rw [St0.at hs]; exact hc), St0.at hs]
  congr 1
  unfold pz_er; omega
theorem FcL.com {R : Except Int (Nat × Nat)} {B : Nat → Int} {f : Nat → Int32} {n dp nx md wr mo n1 mo' : Int32} (h : FcL R B f n dp nx md wr mo) (hm : mo.toInt = 1) (hs : SkR B nx n1) (hw : ¬ pz_wd B n1.toInt.toNat pz_not = true) (hb : ¬ B n1.toInt.toNat = 91) (hm' : mo'.toInt = 0) : FcL R B f n dp n1 md wr mo' := by
  obtain ⟨h1, h2, h3⟩ := h.2.1 hm
  refine ⟨⟨h1, h2⟩, fun z => by omega, fun _ => ?_⟩
  rw [h3, pz_K_com (by rw [St0.at hs]; exact hw) (by rw [St0.at hs]; exact hb), St0.sk hs]
theorem FcL.out {R : Except Int (Nat × Nat)} {B : Nat → Int} {f : Nat → Int32} {n dp nx md wr mo wr' nx' md' : Int32} (h : FcL R B f n dp nx md wr mo) (hm : mo.toInt = 0) (hc : RfO (pz_com B (St0 B nx md)) B wr' nx' md') : FcO R B f n dp nx' md' wr' := by
  refine ⟨h.1.1, hc.wr, ?_⟩
  rw [h.2.2 hm, hc.st]
theorem FcL.er {R : Except Int (Nat × Nat)} {B : Nat → Int} {f : Nat → Int32} {n dp nx md wr mo wr' : Int32} (h : FcL R B f n dp nx md wr mo) (hm : mo.toInt = 0) (hc : RfE (pz_com B (St0 B nx md)) wr') : RfE R wr' := by
  obtain ⟨e, h1, h2⟩ := hc
  refine ⟨e, ?_, h2⟩
  rw [h.2.2 hm, h1]; exact pz_K_er _
theorem FcO.ld {R : Except Int (Nat × Nat)} {B : Nat → Int} {f : Nat → Int32} {n dp nx md wr n' dp' : Int32} (h : FcO R B f n dp nx md wr) (hl : LdP f n n' dp') : FcO R B f n' dp' nx md wr := ⟨hl.1, h.2.1, by rw [hl.2]; exact h.2.2⟩
theorem FcO.sk {R : Except Int (Nat × Nat)} {B : Nat → Int} {f : Nat → Int32} {n dp nx md wr n1 : Int32} (h : FcO R B f n dp nx md wr) (hs : SkR B nx n1) : FcO R B f n dp n1 md wr := ⟨h.1, h.2.1, by rw [St0.sk hs]; exact h.2.2⟩
theorem FcO.close {R : Except Int (Nat × Nat)} {B : Nat → Int} {f : Nat → Int32} {n dp nx md wr n1 n2 dp2 n3 dp3 nx3 least : Int32} (h : FcO R B f n dp nx md wr) (hi : Ins f n) (hl : LdP f n n2 dp2) (he : LdE f n2 least) (h1 : least.toInt = 1) (hn3 : n3.toInt = n2.toInt - 1) (hd3 : dp3.toInt = dp2.toInt - 1) (hs : SkR B nx n1) (h93 : B n1.toInt.toNat = 93) (hx : nx3.toInt = n1.toInt + 1) : FcO R B f n3 dp3 nx3 md wr := by
  have hn0 := hl.1.1
  have hk := hl.1.2.2.2.2
  have h0 := hs.1
  obtain ⟨m, m', S, e⟩ := ok_os_ins (f := f) n.toInt.toNat (by obtain ⟨k, a, b⟩ := hi; exact ⟨k, by omega, b⟩)
  rw [← hl.2] at e
  have hp : 1 ≤ n2.toInt := by
    refine Int.not_lt.mp (fun z => ?_)
    rw [show n2.toInt.toNat = 0 by omega] at e
    cases e
  have ht : (f (n2.toInt.toNat - 1)).toInt = 91 := by
    have a := hk (n2.toInt.toNat - 1) (by omega)
    rcases he with z | z
    · omega
    · rcases z with z | z
      · have := z (by omega); omega
      · omega
  have hpop := OsP.pop (dp' := dp3) (x := f n3.toNatClampNeg) hl.1 rfl hn3 hp (Or.inr (Or.inr ⟨by rw [show n3.toNatClampNeg = n2.toInt.toNat - 1 by show n3.toInt.toNat = _; omega]; exact ht, hd3⟩))
  obtain ⟨m2, e2⟩ := hpop.2.2 (by rw [show n3.toNatClampNeg = n2.toInt.toNat - 1 by show n3.toInt.toNat = _; omega]; exact ht)
  refine ⟨hpop.1, h.2.1, ?_⟩
  rw [e] at e2
  rw [h.2.2, ← hl.2, e, pz_K_close (by rw [St0.at hs]; exact h93), nx_te (nx' := nx3) hs (by rw [te_br (Or.inr (Or.inl h93))]; omega)]
  rw [← (List.cons.inj e2).2]
def NBr (B : Nat → Int) (f : Nat → Int32) (n nx : Int32) : Prop := NIns f n ∨ ¬ B (pz_sk B nx.toInt.toNat) = 93
theorem NBr.no {B : Nat → Int} {f : Nat → Int32} {n nx n1 : Int32} (hs : SkR B nx n1) (h : ¬ B n1.toInt.toNat = 93) : NBr B f n n1 := Or.inr (by rw [hs.2.1]; exact h)
theorem NBr.sk {B : Nat → Int} {f : Nat → Int32} {n nx n1 : Int32} (h : NBr B f n nx) (hs : SkR B nx n1) : NBr B f n n1 := by
  rcases h with h | h
  · exact Or.inl h
  · exact Or.inr (by rw [hs.sk]; exact h)
def NAo (B : Nat → Int) (p : Nat) : Prop := ¬ (pz_wd B p pz_and = true ∨ pz_wd B p pz_or = true)
def TsL (R : Except Int (Nat × Nat)) (B : Nat → Int) (f : Nat → Int32) (n dp nx md wr mo : Int32) : Prop := (OsP f n dp ∧ wr.toInt = 0) ∧ (mo.toInt = 1 → FcI R B f n dp nx md wr) ∧ (mo.toInt = 0 → FcO R B f n dp nx md wr ∧ NBr B f n nx ∧ NAo B (pz_sk B nx.toInt.toNat))
theorem TsL.first {B : Nat → Int} {f : Nat → Int32} {n dp nx md wr mo : Int32} (hn : n.toInt = 0) (hd : dp.toInt = 0) (hw : wr.toInt = 0) (hm : mo.toInt = 1) : TsL (pz_tst B (pz_fact B 10) (St0 B nx md)) B f n dp nx md wr mo := by
  refine ⟨⟨OsP.nil hn hd, hw⟩, fun _ => ⟨OsP.nil hn hd, hw, ?_⟩, fun z => by omega⟩
  rw [show n.toInt.toNat = 0 by omega, show dp.toInt.toNat = 0 by omega]
  rfl
theorem TsL.and {R : Except Int (Nat × Nat)} {B : Nat → Int} {f g : Nat → Int32} {n dp nx md wr n1 nx' n2 dp2 x n3 mo : Int32} (hB : pz_fi B) (h : FcO R B f n dp nx md wr) (hs : SkR B nx n1) (hw : pz_wd B n1.toInt.toNat pz_and = true ∨ pz_wd B n1.toInt.toNat pz_or = true) (hp : PsR B n1 nx') (hl : LdP f n n2 dp2) (ht : T11 f n2) (e : g = upd f n2.toNatClampNeg x) (hx : x.toInt = 12 ∨ x.toInt = 13) (hn : n3.toInt = n2.toInt + 1) (hm : mo.toInt = 1) : TsL R B g n3 dp2 nx' md wr mo := by
  have hu := OsP.push (dp' := dp2) hl.1 e hn (Or.inr (Or.inr ⟨hx, rfl, ht⟩))
  rw [if_neg (by omega)] at hu
  obtain ⟨S, hS⟩ := hl.1.hd ht
  have hL : 97 ≤ B n1.toInt.toNat ∧ B n1.toInt.toNat ≤ 122 := by
    rcases hw with z | z
    · have := (of_decide_eq_true z).2 0 (by decide); rw [Nat.add_zero] at this; rw [this]; decide
    · have := (of_decide_eq_true z).2 0 (by decide); rw [Nat.add_zero] at this; rw [this]; decide
  refine ⟨⟨hu.1, h.2.1⟩, fun _ => ⟨hu.1, h.2.1, ?_⟩, fun z => by omega⟩
  rw [h.2.2, hu.2, ← hl.2, hS, pz_K_and hB (by rw [St0.at hs]; exact hw), nx_te (nx' := nx') hs (by have := hp.te hL; have h5 := hp; unfold PsR at h5; omega)]
theorem TsL.no {R : Except Int (Nat × Nat)} {B : Nat → Int} {f : Nat → Int32} {n dp nx md wr n1 mo : Int32} (h : FcO R B f n dp nx md wr) (hb : NBr B f n nx) (hs : SkR B nx n1) (hw : ¬ pz_wd B n1.toInt.toNat pz_and = true) (hw2 : ¬ pz_wd B n1.toInt.toNat pz_or = true) (hm : mo.toInt = 0) : TsL R B f n dp n1 md wr mo := by
  refine ⟨⟨h.1, h.2.1⟩, fun z => by omega, fun _ => ⟨h.sk hs, hb.sk hs, ?_⟩⟩
  rw [hs.2.1]
  intro z
  rcases z with z | z
  · exact hw z
  · exact hw2 z
theorem TsL.in {R : Except Int (Nat × Nat)} {B : Nat → Int} {f : Nat → Int32} {n dp nx md wr mo n1 wr' : Int32} (h : TsL R B f n dp nx md wr mo) (hm : mo.toInt = 0) (hi : Ins f n) (hs : SkR B nx n1) (hw : wr'.toInt = 1 + 8 * n1.toInt) : RfE R wr' := by
  obtain ⟨h1, h2, h3⟩ := h.2.2 hm
  have h0 := hs.1
  obtain ⟨m, m', S, e⟩ := ok_os_ins (f := f) n.toInt.toNat (by obtain ⟨k, a, b⟩ := hi; exact ⟨k, by omega, b⟩)
  refine ⟨wr'.toInt, ?_, rfl⟩
  have hz : ¬ B (pz_sk B nx.toInt.toNat) = 93 := by
    rcases h2 with z | z
    · obtain ⟨k, a, b⟩ := hi; exact absurd b (z k a)
    · exact z
  rw [h1.2.2, e, pz_K_in (s := St0 B nx md) h3 hz, St0.at hs]
  congr 1
  unfold pz_er; omega
theorem TsL.out {R : Except Int (Nat × Nat)} {B : Nat → Int} {f : Nat → Int32} {n dp nx md wr mo : Int32} (h : TsL R B f n dp nx md wr mo) (hm : mo.toInt = 0) (hi : NIns f n) (hmd : 0 ≤ md.toInt) : RfO R B wr nx md := by
  obtain ⟨h1, h2, h3⟩ := h.2.2 hm
  refine RfO.of ?_ h1.2.1 hmd
  rw [h1.2.2, ok_os_nins (f := f) n.toInt.toNat (fun k hk => hi k (by omega))]
  exact pz_K_out h3
