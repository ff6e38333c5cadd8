set_option maxRecDepth 16384
theorem RfO.st {r : Except Int (Nat × Nat)} {B : Nat → Int} {wr nx md : Int32} (h : RfO r B wr nx md) : r = .ok (St0 B nx md) := by
  obtain ⟨s, rfl, -, h1, h2⟩ := h
  unfold St0
  rw [h1, show md.toInt.toNat = s.2 by omega]
theorem RfO.wr {r : Except Int (Nat × Nat)} {B : Nat → Int} {wr nx md : Int32} (h : RfO r B wr nx md) : wr.toInt = 0 := h.elim (fun _ z => z.2.1)
theorem TmL.first {B : Nat → Int} {s : Nat × Nat} {wr nx md : Int32} (h : RfO (pz_val B s) B wr nx md) : TmL (pz_sum B s) B wr nx md := ⟨h.elim (fun _ z => z.2.1), by unfold pz_sum; rw [h.st]; rfl⟩
theorem te_cmp {B : Nat → Int} {p : Nat} (hc : B p = 60 ∨ B p = 61 ∨ B p = 62) : pz_te B p = if (B p = 60 ∨ B p = 62) ∧ B (p + 1) = 61 then p + 2 else p + 1 := by
  unfold pz_te
  rw [if_neg (show ¬ pz_isL (B p) = true from fun z => by have := of_decide_eq_true z; omega), if_neg (show ¬ pz_isD (B p) = true from fun z => by have := of_decide_eq_true z; omega), if_neg (by omega)]
theorem ok_os_11 {f : Nat → Int32} {k : Nat} (h : (f k).toInt = 11) : ok_os f (k + 1) = ((ok_os f k).1, (ok_os f k).2 + 1) := if_pos h
theorem ok_os_91 {f : Nat → Int32} {k : Nat} (h : (f k).toInt = 91) : ok_os f (k + 1) = ((10 - ((ok_os f k).2 + 1)) :: (ok_os f k).1, (ok_os f k).2 + 1) := (if_neg (by omega)).trans (if_pos h)
theorem ok_os_no {f : Nat → Int32} {k : Nat} (h : ¬ (f k).toInt = 11) (h2 : ¬ (f k).toInt = 91) : ok_os f (k + 1) = ok_os f k := (if_neg h).trans (if_neg h2)
theorem ok_os_eq {f g : Nat → Int32} : ∀ n, (∀ k, k < n → f k = g k) → ok_os f n = ok_os g n
  | 0, _ => rfl
  | n + 1, h => by
    have e := ok_os_eq n (fun k hk => h k (by omega))
    show (if (f n).toInt = 11 then ((ok_os f n).1, (ok_os f n).2 + 1) else if (f n).toInt = 91 then ((10 - ((ok_os f n).2 + 1)) :: (ok_os f n).1, (ok_os f n).2 + 1) else ok_os f n) = (if (g n).toInt = 11 then ((ok_os g n).1, (ok_os g n).2 + 1) else if (g n).toInt = 91 then ((10 - ((ok_os g n).2 + 1)) :: (ok_os g n).1, (ok_os g n).2 + 1) else ok_os g n)
    rw [e, h n (by omega)]
theorem ok_os_ne {f : Nat → Int32} : ∀ n, ∃ m S, (ok_os f n).1 = m :: S
  | 0 => ⟨10, [], rfl⟩
  | n + 1 => by
    by_cases h : (f n).toInt = 11
    · rw [ok_os_11 h]; exact ok_os_ne n
    · by_cases h2 : (f n).toInt = 91
      · rw [ok_os_91 h2]; exact ⟨_, _, rfl⟩
      · rw [ok_os_no h h2]; exact ok_os_ne n
theorem ok_os_hd {f : Nat → Int32} : ∀ n, ok_gs f n → (∀ k, k < n → (f k).toInt = 11 ∨ (f k).toInt = 12 ∨ (f k).toInt = 13 ∨ (f k).toInt = 91) → (n = 0 ∨ (f (n - 1)).toInt ≠ 11) → ∃ S, (ok_os f n).1 = (10 - (ok_os f n).2) :: S
  | 0, _, _, _ => ⟨[], rfl⟩
  | n + 1, hg, hk, ht => by
    have ht : (f n).toInt ≠ 11 := by
      rcases ht with h | h
      · omega
      · exact h
    by_cases h2 : (f n).toInt = 91
    · rw [ok_os_91 h2]; exact ⟨_, rfl⟩
    · rw [ok_os_no ht h2]
      refine ok_os_hd n (fun k hk => hg k (by omega)) (fun k h => hk k (by omega)) ?_
      by_cases z : n = 0
      · exact Or.inl z
      · right
        have h3 := hk n (by omega)
        have h4 := hg (n - 1) (by omega)
        rw [show n - 1 + 1 = n by omega] at h4
        exact h4 (by omega)
theorem ok_os_nins {f : Nat → Int32} : ∀ n : Nat, (∀ k : Nat, k < n → (f k).toInt ≠ 91) → (ok_os f n).1 = [10]
  | 0, _ => rfl
  | n + 1, h => by
    have e := ok_os_nins n (fun k hk => h k (by omega))
    by_cases h1 : (f n).toInt = 11
    · rw [ok_os_11 h1]; exact e
    · rw [ok_os_no h1 (h n (by omega))]; exact e
theorem ok_os_ins {f : Nat → Int32} : ∀ n : Nat, (∃ k : Nat, k < n ∧ (f k).toInt = 91) → ∃ m m' S, (ok_os f n).1 = m :: m' :: S
  | 0, h => by obtain ⟨k, h1, _⟩ := h; omega
  | n + 1, h => by
    by_cases h2 : (f n).toInt = 91
    · rw [ok_os_91 h2]
      obtain ⟨m, S, e⟩ := ok_os_ne (f := f) n
      rw [e]; exact ⟨_, _, _, rfl⟩
    · have ih : ∃ m m' S, (ok_os f n).1 = m :: m' :: S := ok_os_ins n (by
        obtain ⟨k, h3, h4⟩ := h
        refine ⟨k, ?_, h4⟩
        rcases Nat.lt_or_ge k n with z | z
        · exact z
        · exfalso; exact h2 (by rw [show n = k by omega]; exact h4))
      by_cases h1 : (f n).toInt = 11
      · rw [ok_os_11 h1]; exact ih
      · rw [ok_os_no h1 h2]; exact ih
theorem OsP.ar {f : Nat → Int32} {n dp : Int32} (h : OsP f n dp) : 0 ≤ n.toInt ∧ 0 ≤ dp.toInt ∧ dp.toInt ≤ 10 := by
  obtain ⟨h1, h2, h3, -, -⟩ := h
  omega
theorem OsP.nil {f : Nat → Int32} {n dp : Int32} (hn : n.toInt = 0) (hd : dp.toInt = 0) : OsP f n dp := by
  refine ⟨by omega, ?_, by omega, ?_, fun k hk => by omega⟩
  · rw [hn, hd]; rfl
  · rw [hn]; intro k hk; exact absurd hk (by simp)
def T11 (f : Nat → Int32) (n : Int32) : Prop := n.toInt = 0 ∨ (f (n.toInt.toNat - 1)).toInt ≠ 11
theorem OsP.hd {f : Nat → Int32} {n dp : Int32} (h : OsP f n dp) (ht : T11 f n) : ∃ S, (ok_os f n.toInt.toNat).1 = (10 - dp.toInt.toNat) :: S := by
  obtain ⟨h1, h2, h3, h4, h5⟩ := h
  have := ok_os_hd n.toInt.toNat h4 (fun k hk => h5 k (by omega)) (by rcases ht with z | z; exact Or.inl (by omega); exact Or.inr z)
  rw [show dp.toInt.toNat = (ok_os f n.toInt.toNat).2 by omega]
  exact this
theorem OsP.pop {f : Nat → Int32} {n n' dp dp' x : Int32} (h : OsP f n dp) (ex : x = f n'.toNatClampNeg) (hn : n'.toInt = n.toInt - 1) (h0 : 1 ≤ n.toInt) (hx : (x.toInt = 11 ∧ dp'.toInt = dp.toInt - 1) ∨ ((x.toInt = 12 ∨ x.toInt = 13) ∧ dp'.toInt = dp.toInt) ∨ (x.toInt = 91 ∧ dp'.toInt = dp.toInt - 1)) : OsP f n' dp' ∧ (¬ x.toInt = 91 → (ok_os f n'.toInt.toNat).1 = (ok_os f n.toInt.toNat).1) ∧ (x.toInt = 91 → ∃ m, (ok_os f n.toInt.toNat).1 = m :: (ok_os f n'.toInt.toNat).1) := by
  obtain ⟨h1, h2, h3, h4, h5⟩ := h
  have en : n'.toNatClampNeg = n'.toInt.toNat := rfl
  rw [en] at ex
  have e1 : n.toInt.toNat = n'.toInt.toNat + 1 := by omega
  have hg : ok_gs f n'.toInt.toNat := fun k hk => h4 k (by omega)
  have hk5 : ∀ k : Nat, (k : Int) < n'.toInt → (f k).toInt = 11 ∨ (f k).toInt = 12 ∨ (f k).toInt = 13 ∨ (f k).toInt = 91 := fun k hk => h5 k (by omega)
  rw [e1] at h2
  rcases hx with ⟨a, b⟩ | ⟨a, b⟩ | ⟨a, b⟩
  · have e2 := ok_os_11 (f := f) (k := n'.toInt.toNat) (by rw [← ex]; exact a)
    rw [e2] at h2
    have h2 : dp.toInt = (((ok_os f n'.toInt.toNat).2 + 1 : Nat) : Int) := h2
    refine ⟨⟨by omega, by omega, by omega, hg, hk5⟩, fun _ => ?_, fun z => by omega⟩
    rw [e1, e2]
  · have e2 := ok_os_no (f := f) (k := n'.toInt.toNat) (by rw [← ex]; omega) (by rw [← ex]; omega)
    rw [e2] at h2
    refine ⟨⟨by omega, by omega, by omega, hg, hk5⟩, fun _ => ?_, fun z => by omega⟩
    rw [e1, e2]
  · have e2 := ok_os_91 (f := f) (k := n'.toInt.toNat) (by rw [← ex]; exact a)
    rw [e2] at h2
    have h2 : dp.toInt = (((ok_os f n'.toInt.toNat).2 + 1 : Nat) : Int) := h2
    refine ⟨⟨by omega, by omega, by omega, hg, hk5⟩, fun z => absurd a z, fun _ => ?_⟩
    rw [e1, e2]; exact ⟨_, rfl⟩
def OpP (f : Nat → Int32) (n : Int32) (g : Nat → Int32) (n' dp' x : Int32) : Prop := OsP g n' dp' ∧ (ok_os g n'.toInt.toNat).1 = if x.toInt = 91 then (10 - dp'.toInt.toNat) :: (ok_os f n.toInt.toNat).1 else (ok_os f n.toInt.toNat).1
def LdP (f : Nat → Int32) (n n' dp' : Int32) : Prop := OsP f n' dp' ∧ (ok_os f n'.toInt.toNat).1 = (ok_os f n.toInt.toNat).1
theorem LdP.step {f : Nat → Int32} {n0 n n' dp dp' x : Int32} (h : LdP f n0 n dp) (ex : x = f n'.toNatClampNeg) (hn : n'.toInt = n.toInt - 1) (h0 : 1 ≤ n.toInt) (hx : (x.toInt = 11 ∧ dp'.toInt = dp.toInt - 1) ∨ ((x.toInt = 12 ∨ x.toInt = 13) ∧ dp'.toInt = dp.toInt)) : LdP f n0 n' dp' := by
  have := OsP.pop (dp' := dp') h.1 ex hn h0 (by omega)
  exact ⟨this.1, (this.2.1 (by omega)).trans h.2⟩
def FcO (R : Except Int (Nat × Nat)) (B : Nat → Int) (f : Nat → Int32) (n dp nx md wr : Int32) : Prop := OsP f n dp ∧ wr.toInt = 0 ∧ R = pz_K B (ok_os f n.toInt.toNat).1 (.ok (St0 B nx md))
theorem FcL.first {R : Except Int (Nat × Nat)} {B : Nat → Int} {f : Nat → Int32} {n dp nx md wr mo : Int32} (h : FcI R B f n dp nx md wr) (hm : mo.toInt = 1) : FcL R B f n dp nx md wr mo := ⟨⟨h.1, h.2.1⟩, fun _ => h, fun z => by omega⟩
theorem FcL.br {R : Except Int (Nat × Nat)} {B : Nat → Int} {f g : Nat → Int32} {n dp nx md wr mo n1 n' dp' nx' wr' mo' x : Int32} (h : FcL R B f n dp nx md wr mo) (hm : mo.toInt = 1) (hs : SkR B nx n1) (hw : ¬ pz_wd B n1.toInt.toNat pz_not = true) (hb : B n1.toInt.toNat = 91) (ho : OpP f n g n' dp' x) (hx : x.toInt = 91) (hd : dp'.toInt = dp.toInt + 1) (hp : nx'.toInt = n1.toInt + 1) (hwr : wr'.toInt = 0) (hm' : mo'.toInt = 1) : FcL R B g n' dp' nx' md wr' mo' := by
  obtain ⟨h1, -, h3⟩ := h.2.1 hm
  have hc := ho.1.2.2.1
  have hc0 := h1.ar
  have h0 := hs.1
  refine FcL.first ⟨ho.1, hwr, ?_⟩ hm'
  obtain ⟨m, S, e⟩ := ok_os_ne (f := f) n.toInt.toNat
  rw [h3, ho.2, if_pos hx, e, show 10 - dp.toInt.toNat = (10 - dp'.toInt.toNat) + 1 by omega, pz_K_open (by rw [St0.at hs]; exact hw) (by rw [St0.at hs]; exact hb), nx_te (nx' := nx') hs (by rw [te_br (Or.inl hb)]; omega)]
theorem FcO.sk {R : Except Int (Nat × Nat)} {B : Nat → Int} {f : Nat → Int32} {n dp nx md wr n1 : Int32} (h : FcO R B f n dp nx md wr) (hs : SkR B nx n1) : FcO R B f n dp n1 md wr := ⟨h.1, h.2.1, by rw [St0.sk hs]; exact h.2.2⟩
def NBr (B : Nat → Int) (f : Nat → Int32) (n nx : Int32) : Prop := NIns f n ∨ ¬ B (pz_sk B nx.toInt.toNat) = 93
theorem NBr.sk {B : Nat → Int} {f : Nat → Int32} {n nx n1 : Int32} (h : NBr B f n nx) (hs : SkR B nx n1) : NBr B f n n1 := by
  rcases h with h | h
  · exact Or.inl h
  · exact Or.inr (by rw [hs.sk]; exact h)
def NAo (B : Nat → Int) (p : Nat) : Prop := ¬ (pz_wd B p pz_and = true ∨ pz_wd B p pz_or = true)
def TsL (R : Except Int (Nat × Nat)) (B : Nat → Int) (f : Nat → Int32) (n dp nx md wr mo : Int32) : Prop := (OsP f n dp ∧ wr.toInt = 0) ∧ (mo.toInt = 1 → FcI R B f n dp nx md wr) ∧ (mo.toInt = 0 → FcO R B f n dp nx md wr ∧ NBr B f n nx ∧ NAo B (pz_sk B nx.toInt.toNat))
theorem TsL.first {B : Nat → Int} {f : Nat → Int32} {n dp nx md wr mo : Int32} (hn : n.toInt = 0) (hd : dp.toInt = 0) (hw : wr.toInt = 0) (hm : mo.toInt = 1) : TsL (pz_tst B (pz_fact B 10) (St0 B nx md)) B f n dp nx md wr mo := by
  refine ⟨⟨OsP.nil hn hd, hw⟩, fun _ => ⟨OsP.nil hn hd, hw, ?_⟩, fun z => by omega⟩
  rw [show n.toInt.toNat = 0 by omega, show dp.toInt.toNat = 0 by omega]
  rfl
def TkW (B : Nat → Int) (w : Int) (nx nx' : Int32) : Prop := ∃ n1 : Int32, SkR B nx n1 ∧ PkW B n1.toInt.toNat w ∧ PsR B n1 nx'
def NtW (B : Nat → Int) (w : Int) (nx nx' : Int32) : Prop := SkR B nx nx' ∧ NPk B nx'.toInt.toNat w
def RaL (B : Nat → Int) (nx md ln wr gd : Int32) : Prop := (gd.toInt = 1 → wr.toInt = 0 ∧ pz_rule B = pz_b (pz_lp (pz_rF B) (St0 B nx md, ln.toInt.toNat)) (fun u => pz_end B u.1.1)) ∧ (gd.toInt = 0 → pz_rule B = .error wr.toInt)
def ClR (B : Nat → Int) (l0 nx0 md0 gd wr nx md : Int32) : Prop := (gd.toInt = 1 → RfO (pz_cla B l0.toInt.toNat (St0 B nx0 md0)) B wr nx md) ∧ (gd.toInt = 0 → RfE (pz_cla B l0.toInt.toNat (St0 B nx0 md0)) wr)
theorem RaL.first {B : Nat → Int} {l0 nx0 md0 gd wr nx md ln : Int32} (hl : l0.toInt = 0) (hn : nx0.toInt = 0) (hm : md0.toInt = 0) (h : ClR B l0 nx0 md0 gd wr nx md) (hl₀ : gd.toInt = 1 → ln.toInt = 1) : RaL B nx md ln wr gd := by
  have e : pz_rule B = pz_b (pz_b (pz_b (pz_cla B l0.toInt.toNat (St0 B nx0 md0)) (fun t => .ok (t, 1))) (pz_lp (pz_rF B))) (fun u => pz_end B u.1.1) := by
    unfold St0; rw [hl, hn, hm]; rfl
  refine ⟨fun z => ?_, fun z => ?_⟩
  · have h1 := h.1 z
    refine ⟨h1.wr, ?_⟩
    have h2 := hl₀ z
    rw [e, h1.st, show ln.toInt.toNat = 1 by omega]; rfl
  · obtain ⟨x, h1, h2⟩ := h.2 z
    rw [e, h1, h2]; rfl
def BaL (B : Nat → Int) (nx ln wr gd rd bn : Int32) : Prop := (gd.toInt = 1 → wr.toInt = 0 ∧ pz_bRu B = pz_lp (pz_bF B) (((pz_sk B nx.toInt.toNat, 0), rd.toInt, bn.toInt), ln.toInt.toNat)) ∧ (gd.toInt = 0 → pz_bookR B = .error wr.toInt)
def bCLs (B : Nat → Int) (l : Nat) (nx rd bn : Int32) : Except Int BkU := pz_bcl B l ((pz_sk B nx.toInt.toNat, 0), rd.toInt, bn.toInt)
def BlR (B : Nat → Int) (l0 n0 rd0 bn0 gd wr nx rd bn : Int32) : Prop := (gd.toInt = 1 → BfO (bCLs B l0.toInt.toNat n0 rd0 bn0) B wr nx rd bn) ∧ (gd.toInt = 0 → BfE (bCLs B l0.toInt.toNat n0 rd0 bn0) wr)
theorem BaL.first {B : Nat → Int} {l0 nn rd0 bn0 gd wr nx rd bn ln : Int32} (hl : l0.toInt = 0) (hn : nn.toInt = 0) (h1 : rd0.toInt = 0) (h2 : bn0.toInt = 0) (h : BlR B l0 nn rd0 bn0 gd wr nx rd bn) (hl₀ : gd.toInt = 1 → ln.toInt = 1) : BaL B nx ln wr gd rd bn := by
  have e : pz_bRu B = pz_b (bTG 1 (bCLs B l0.toInt.toNat nn rd0 bn0)) (pz_lp (pz_bF B)) := by
    unfold bCLs; rw [hl, h1, h2, hn]; rfl
  refine ⟨fun z => ?_, fun z => ?_⟩
  · have h3 := h.1 z
    have h4 := hl₀ z
    refine ⟨h3.2, ?_⟩
    rw [e, h3.1, show ln.toInt.toNat = 1 by omega]; rfl
  · have h3 := h.2 z
    unfold BfE at h3
    show bEN B (pz_b (pz_bRu B) _) = _
    rw [e, h3]; rfl
def NtO (f g : Nat → Int32) : Prop := SaiO g 999 ∧ ∀ k : Nat, k < 95 → g k = f k
theorem NtO.ar {f g : Nat → Int32} (h : NtO f g) : (g 3).toInt = (f 3).toInt ∧ 0 ≤ (g 125).toInt ∧ (g 125).toInt ≤ 10 := ⟨by rw [h.2 3 (by decide)], h.1.1.1.2.2.2.1, h.1.1.1.2.2.2.2⟩
def ImG (g0 g f : Nat → Int32) (k i : Int32) : Prop := (∀ j m : Nat, j < 4 → (j : Int) ≠ k.toInt → m < 126 → g (126 * j + m) = g0 (126 * j + m)) ∧ ∀ m : Nat, (m : Int) < i.toInt → g (126 * k.toInt.toNat + m) = f m
theorem ImG.step {g0 g g' f : Nat → Int32} {k i i' j x : Int32} (h : ImG g0 g f k i) (eg : g' = upd g j.toNatClampNeg x) (ex : x = f i.toNatClampNeg) (hj : j.toInt = 126 * k.toInt + i.toInt) (hi : 0 ≤ i.toInt ∧ i.toInt < 126) (hi' : i'.toInt = i.toInt + 1) (hk : 0 ≤ k.toInt ∧ k.toInt < 4) : ImG g0 g' f k i' := by
  subst eg
  have e : j.toNatClampNeg = j.toInt.toNat := rfl
  refine ⟨fun q m hq hne hm => ?_, fun m hm => ?_⟩
  · rw [upd_ne (by omega)]
    exact h.1 q m hq hne hm
  · by_cases z : (m : Int) = i.toInt
    · have e3 : 126 * k.toInt.toNat + m = j.toNatClampNeg := by omega
      rw [e3, upd_at, ex, clN (n := m) z.symm]
    · rw [upd_ne (by omega)]
      exact h.2 m (by omega)
def DEq {α : Type} (a b : α) : Prop := a = b
def dX9_isTold (Av_2 : Int32) : Int32 := (if Av_2 ≤ (0 : Int32) then (0 : Int32) else (1 : Int32))
set_option maxHeartbeats 4000000 in
set_option maxRecDepth 100000 in
theorem ct_dX9_isTold (l : Launch) (D : va_G) (tc : Nat → ClassId) (sk : (Nat → Nat) × (Nat → Nat)) (Aa : Nat → Nat) (Av : Nat → Int32) (Af : Nat → Nat → Int32)  : Ct l yX9_isTold cX9_isTold 1 (some .boolean) { frames := 0, cells := 0, slots := 0, locals := 0 } D tc sk [.ref (Aa 0)] [((Aa 0), .inr (9, [.int (Av 0), .int (Av 1), .int (Av 2), .int (Av 3), .int (Av 4), .int (Av 5), .ref (Aa 1), .ref (Aa 2), .ref (Aa 3), .ref (Aa 4), .ref (Aa 5), .ref (Aa 6), .ref (Aa 7), .ref (Aa 8)])), ((Aa 1), .inl (tc 0, 10, .inl (Af 1))), ((Aa 2), .inl (tc 0, 10, .inl (Af 2))), ((Aa 3), .inl (tc 0, 6, .inl (Af 3))), ((Aa 4), .inl (tc 0, 6, .inl (Af 4))), ((Aa 5), .inl (tc 0, 6, .inl (Af 5))), ((Aa 6), .inl (tc 0, 6, .inl (Af 6))), ((Aa 7), .inl (tc 0, 6, .inl (Af 7))), ((Aa 8), .inl (tc 0, 6, .inl (Af 8)))] (fun (v : Option Value) (_ : Unit) => ∃ r : Int32, v = some (.int r) ∧ (((r.toInt = 0 ∨ r.toInt = 1)) ∧ r = (dX9_isTold (Av 2)))) (fun (_ : Unit) => [((Aa 0), .inr (9, [.int (Av 0), .int (Av 1), .int (Av 2), .int (Av 3), .int (Av 4), .int (Av 5), .ref (Aa 1), .ref (Aa 2), .ref (Aa 3), .ref (Aa 4), .ref (Aa 5), .ref (Aa 6), .ref (Aa 7), .ref (Aa 8)])), ((Aa 1), .inl (tc 0, 10, .inl (Af 1))), ((Aa 2), .inl (tc 0, 10, .inl (Af 2))), ((Aa 3), .inl (tc 0, 6, .inl (Af 3))), ((Aa 4), .inl (tc 0, 6, .inl (Af 4))), ((Aa 5), .inl (tc 0, 6, .inl (Af 5))), ((Aa 6), .inl (tc 0, 6, .inl (Af 6))), ((Aa 7), .inl (tc 0, 6, .inl (Af 7))), ((Aa 8), .inl (tc 0, 6, .inl (Af 8)))]) 0 0 := by
  refine Ct.start (by decide) (Nat.le_of_ble_eq_true rfl) (fun p e s m below meth c A ls hx hb hr hlk hin hml hown hts hK hX hP hD hA hl hS => ?_)
  have hl : lv_has ls 1 [(0, .ref (Aa 0))] := hl
  refine lv_aload_n hx hb dX9_isTold_0 rfl (lv_at hl 0 rfl) ?_
  refine gf_X9_18 hx hb hts hown hK hP 0 rfl rfl dX9_isTold_1 ?_
  refine lv_if_le (tgt := 11) hx hb dX9_isTold_4 (by decide) (fun c_1 => ?_) (fun c_1 => ?_)
  · skip
    refine lv_iconst (v := 0) hx hb dX9_isTold_11 (by decide) ?_
    have hp_2 : ((0 : Int32).toInt = 0 ∨ (0 : Int32).toInt = 1) := by
      have z_1 := Int32.le_iff_toInt_le.mp c_1
      have y_0 : (0 : Int32).toInt = 0 := by decide
      omega
    have hF_3 : (0 : Int32) = (dX9_isTold (Av 2)) := by
      clear hP hD hS hl
      unfold dX9_isTold
      rw [if_pos c_1]
      try rfl
    exact retI (v := 0) hx hb hr hlk (rfl) hP hD hS () ⟨_, rfl, ⟨hp_2, hF_3⟩⟩ [0, 1, 2, 3, 4, 5, 6, 7, 8] rfl rfl dX9_isTold_12 (Nat.le_of_ble_eq_true rfl) (Nat.le_of_ble_eq_true rfl) rfl
  · skip
    refine lv_iconst (v := 1) hx hb dX9_isTold_7 (by decide) ?_
    refine lv_goto (tgt := 12) hx hb dX9_isTold_8 (by decide) ?_
    have hp_4 : ((1 : Int32).toInt = 0 ∨ (1 : Int32).toInt = 1) := by
      have z_1 := Int32.lt_iff_toInt_lt.mp (Int32.not_le.mp c_1)
      have y_0 : (0 : Int32).toInt = 0 := by decide
      have y_1 : (1 : Int32).toInt = 1 := by decide
      have yr : (1 : Int32).toInt = 1 := by decide
      omega
    have hF_5 : (1 : Int32) = (dX9_isTold (Av 2)) := by
      clear hP hD hS hl
      unfold dX9_isTold
      rw [if_neg c_1]
      try rfl
    exact retI (v := 1) hx hb hr hlk (rfl) hP hD hS () ⟨_, rfl, ⟨hp_4, hF_5⟩⟩ [0, 1, 2, 3, 4, 5, 6, 7, 8] rfl rfl dX9_isTold_12 (Nat.le_of_ble_eq_true rfl) (Nat.le_of_ble_eq_true rfl) rfl
set_option maxRecDepth 100000 in
theorem cu_dX9_isTold (l : Launch) (D : va_G) (tc : Nat → ClassId) (sk : (Nat → Nat) × (Nat → Nat)) (Aa_0 : Nat) (Aa_1 : Nat) (Aa_2 : Nat) (Aa_3 : Nat) (Aa_4 : Nat) (Aa_5 : Nat) (Aa_6 : Nat) (Aa_7 : Nat) (Aa_8 : Nat) (Av_0 : Int32) (Av_1 : Int32) (Av_2 : Int32) (Av_3 : Int32) (Av_4 : Int32) (Av_5 : Int32) (Af_1 : Nat → Int32) (Af_2 : Nat → Int32) (Af_3 : Nat → Int32) (Af_4 : Nat → Int32) (Af_5 : Nat → Int32) (Af_6 : Nat → Int32) (Af_7 : Nat → Int32) (Af_8 : Nat → Int32)  : Ct l yX9_isTold cX9_isTold 1 (some .boolean) { frames := 0, cells := 0, slots := 0, locals := 0 } D tc sk [.ref Aa_0] [(Aa_0, .inr (9, [.int Av_0, .int Av_1, .int Av_2, .int Av_3, .int Av_4, .int Av_5, .ref Aa_1, .ref Aa_2, .ref Aa_3, .ref Aa_4, .ref Aa_5, .ref Aa_6, .ref Aa_7, .ref Aa_8])), (Aa_1, .inl (tc 0, 10, .inl Af_1)), (Aa_2, .inl (tc 0, 10, .inl Af_2)), (Aa_3, .inl (tc 0, 6, .inl Af_3)), (Aa_4, .inl (tc 0, 6, .inl Af_4)), (Aa_5, .inl (tc 0, 6, .inl Af_5)), (Aa_6, .inl (tc 0, 6, .inl Af_6)), (Aa_7, .inl (tc 0, 6, .inl Af_7)), (Aa_8, .inl (tc 0, 6, .inl Af_8))] (fun (v : Option Value) (_ : Unit) => ∃ r : Int32, v = some (.int r) ∧ (((r.toInt = 0 ∨ r.toInt = 1)) ∧ r = (dX9_isTold Av_2))) (fun (_ : Unit) => [(Aa_0, .inr (9, [.int Av_0, .int Av_1, .int Av_2, .int Av_3, .int Av_4, .int Av_5, .ref Aa_1, .ref Aa_2, .ref Aa_3, .ref Aa_4, .ref Aa_5, .ref Aa_6, .ref Aa_7, .ref Aa_8])), (Aa_1, .inl (tc 0, 10, .inl Af_1)), (Aa_2, .inl (tc 0, 10, .inl Af_2)), (Aa_3, .inl (tc 0, 6, .inl Af_3)), (Aa_4, .inl (tc 0, 6, .inl Af_4)), (Aa_5, .inl (tc 0, 6, .inl Af_5)), (Aa_6, .inl (tc 0, 6, .inl Af_6)), (Aa_7, .inl (tc 0, 6, .inl Af_7)), (Aa_8, .inl (tc 0, 6, .inl Af_8))]) 0 0 :=
  ct_dX9_isTold l D tc sk (fun k => ([Aa_0, Aa_1, Aa_2, Aa_3, Aa_4, Aa_5, Aa_6, Aa_7, Aa_8] : List (Nat)).getD k 0) (fun k => ([Av_0, Av_1, Av_2, Av_3, Av_4, Av_5] : List (Int32)).getD k 0) (fun k => ([(fun _ => 0), Af_1, Af_2, Af_3, Af_4, Af_5, Af_6, Af_7, Af_8] : List (Nat → Int32)).getD k (fun _ => 0)) 
set_option maxHeartbeats 4000000 in
set_option maxRecDepth 100000 in
theorem ct_dX9_hasBuyer (l : Launch) (D : va_G) (tc : Nat → ClassId) (sk : (Nat → Nat) × (Nat → Nat)) (Aa : Nat → Nat) (Av : Nat → Int32) (Af : Nat → Nat → Int32) (x1 : Int32)  : Ct l yX9_hasBuyer cX9_hasBuyer 2 (some .boolean) { frames := 0, cells := 0, slots := 0, locals := 0 } D tc sk [.ref (Aa 0), .int x1] [((Aa 0), .inr (9, [.int (Av 0), .int (Av 1), .int (Av 2), .int (Av 3), .int (Av 4), .int (Av 5), .ref (Aa 1), .ref (Aa 2), .ref (Aa 3), .ref (Aa 4), .ref (Aa 5), .ref (Aa 6), .ref (Aa 7), .ref (Aa 8)])), ((Aa 1), .inl (tc 0, 10, .inl (Af 1))), ((Aa 2), .inl (tc 0, 10, .inl (Af 2))), ((Aa 3), .inl (tc 0, 6, .inl (Af 3))), ((Aa 4), .inl (tc 0, 6, .inl (Af 4))), ((Aa 5), .inl (tc 0, 6, .inl (Af 5))), ((Aa 6), .inl (tc 0, 6, .inl (Af 6))), ((Aa 7), .inl (tc 0, 6, .inl (Af 7))), ((Aa 8), .inl (tc 0, 6, .inl (Af 8)))] (fun (v : Option Value) (_ : Unit) => ∃ r : Int32, v = some (.int r) ∧ (((r.toInt = 0 ∨ (r.toInt = 1 ∧ 0 ≤ x1.toInt ∧ x1.toInt < 6 ∧ x1.toInt < (Av 3).toInt))) ∧ r = (dX9_hasBuyer (Av 3) x1))) (fun (_ : Unit) => [((Aa 0), .inr (9, [.int (Av 0), .int (Av 1), .int (Av 2), .int (Av 3), .int (Av 4), .int (Av 5), .ref (Aa 1), .ref (Aa 2), .ref (Aa 3), .ref (Aa 4), .ref (Aa 5), .ref (Aa 6), .ref (Aa 7), .ref (Aa 8)])), ((Aa 1), .inl (tc 0, 10, .inl (Af 1))), ((Aa 2), .inl (tc 0, 10, .inl (Af 2))), ((Aa 3), .inl (tc 0, 6, .inl (Af 3))), ((Aa 4), .inl (tc 0, 6, .inl (Af 4))), ((Aa 5), .inl (tc 0, 6, .inl (Af 5))), ((Aa 6), .inl (tc 0, 6, .inl (Af 6))), ((Aa 7), .inl (tc 0, 6, .inl (Af 7))), ((Aa 8), .inl (tc 0, 6, .inl (Af 8)))]) 0 0 := by
  refine Ct.start (by decide) (Nat.le_of_ble_eq_true rfl) (fun p e s m below meth c A ls hx hb hr hlk hin hml hown hts hK hX hP hD hA hl hS => ?_)
  have hl : lv_has ls 2 [(0, .ref (Aa 0)), (1, .int x1)] := hl
  refine lv_iload_n hx hb dX9_hasBuyer_0 rfl (lv_at hl 1 rfl) ?_
  refine lv_if_lt (tgt := 22) hx hb dX9_hasBuyer_1 (by decide) (fun c_1 => ?_) (fun c_1 => ?_)
  · skip
    refine lv_iconst (v := 0) hx hb dX9_hasBuyer_22 (by decide) ?_
    have hp_2 : ((0 : Int32).toInt = 0 ∨ ((0 : Int32).toInt = 1 ∧ 0 ≤ x1.toInt ∧ x1.toInt < 6 ∧ x1.toInt < (Av 3).toInt)) := by
      have z_1 := Int32.lt_iff_toInt_lt.mp c_1
      have y_0 : (0 : Int32).toInt = 0 := by decide
      omega
    have hF_3 : (0 : Int32) = (dX9_hasBuyer (Av 3) x1) := by
      clear hP hD hS hl
      unfold dX9_hasBuyer
      rw [if_pos c_1]
      try rfl
    exact retI (v := 0) hx hb hr hlk (rfl) hP hD hS () ⟨_, rfl, ⟨hp_2, hF_3⟩⟩ [0, 1, 2, 3, 4, 5, 6, 7, 8] rfl rfl dX9_hasBuyer_23 (Nat.le_of_ble_eq_true rfl) (Nat.le_of_ble_eq_true rfl) rfl
  · skip
    refine lv_iload_n hx hb dX9_hasBuyer_4 rfl (lv_at hl 1 rfl) ?_
    refine lv_aload_n hx hb dX9_hasBuyer_5 rfl (lv_at hl 0 rfl) ?_
    refine gf_X9_21 hx hb hts hown hK hP 0 rfl rfl dX9_hasBuyer_6 ?_
    refine lv_icmp_ge (tgt := 22) hx hb dX9_hasBuyer_9 (by decide) (fun c_4 => ?_) (fun c_4 => ?_)
    · skip
      refine lv_iconst (v := 0) hx hb dX9_hasBuyer_22 (by decide) ?_
      have hp_5 : ((0 : Int32).toInt = 0 ∨ ((0 : Int32).toInt = 1 ∧ 0 ≤ x1.toInt ∧ x1.toInt < 6 ∧ x1.toInt < (Av 3).toInt)) := by
        have z_1 := Int32.le_iff_toInt_le.mp (Int32.not_lt.mp c_1)
        have z_2 := Int32.le_iff_toInt_le.mp c_4
        have y_0 : (0 : Int32).toInt = 0 := by decide
        omega
      have hF_6 : (0 : Int32) = (dX9_hasBuyer (Av 3) x1) := by
        clear hP hD hS hl
        unfold dX9_hasBuyer
        rw [if_neg c_1, if_pos c_4]
        try rfl
      exact retI (v := 0) hx hb hr hlk (rfl) hP hD hS () ⟨_, rfl, ⟨hp_5, hF_6⟩⟩ [0, 1, 2, 3, 4, 5, 6, 7, 8] rfl rfl dX9_hasBuyer_23 (Nat.le_of_ble_eq_true rfl) (Nat.le_of_ble_eq_true rfl) rfl
    · skip
      refine lv_iload_n hx hb dX9_hasBuyer_12 rfl (lv_at hl 1 rfl) ?_
      refine lv_bipush (v := 6) hx hb dX9_hasBuyer_13 (by decide) ?_
      refine lv_icmp_ge (tgt := 22) hx hb dX9_hasBuyer_15 (by decide) (fun c_7 => ?_) (fun c_7 => ?_)
      · skip
        refine lv_iconst (v := 0) hx hb dX9_hasBuyer_22 (by decide) ?_
        have hp_8 : ((0 : Int32).toInt = 0 ∨ ((0 : Int32).toInt = 1 ∧ 0 ≤ x1.toInt ∧ x1.toInt < 6 ∧ x1.toInt < (Av 3).toInt)) := by
          have z_1 := Int32.le_iff_toInt_le.mp (Int32.not_lt.mp c_1)
          have z_2 := Int32.lt_iff_toInt_lt.mp (Int32.not_le.mp c_4)
          have z_3 := Int32.le_iff_toInt_le.mp c_7
          have y_0 : (0 : Int32).toInt = 0 := by decide
          have y_6 : (6 : Int32).toInt = 6 := by decide
          omega
        have hF_9 : (0 : Int32) = (dX9_hasBuyer (Av 3) x1) := by
          clear hP hD hS hl
          unfold dX9_hasBuyer
          rw [if_neg c_1, if_neg c_4, if_pos c_7]
          try rfl
        exact retI (v := 0) hx hb hr hlk (rfl) hP hD hS () ⟨_, rfl, ⟨hp_8, hF_9⟩⟩ [0, 1, 2, 3, 4, 5, 6, 7, 8] rfl rfl dX9_hasBuyer_23 (Nat.le_of_ble_eq_true rfl) (Nat.le_of_ble_eq_true rfl) rfl
      · skip
        refine lv_iconst (v := 1) hx hb dX9_hasBuyer_18 (by decide) ?_
        refine lv_goto (tgt := 23) hx hb dX9_hasBuyer_19 (by decide) ?_
        have hp_10 : ((1 : Int32).toInt = 0 ∨ ((1 : Int32).toInt = 1 ∧ 0 ≤ x1.toInt ∧ x1.toInt < 6 ∧ x1.toInt < (Av 3).toInt)) := by
          have z_1 := Int32.le_iff_toInt_le.mp (Int32.not_lt.mp c_1)
          have z_2 := Int32.lt_iff_toInt_lt.mp (Int32.not_le.mp c_4)
          have z_3 := Int32.lt_iff_toInt_lt.mp (Int32.not_le.mp c_7)
          have y_0 : (0 : Int32).toInt = 0 := by decide
          have y_6 : (6 : Int32).toInt = 6 := by decide
          have y_1 : (1 : Int32).toInt = 1 := by decide
          have yr : (1 : Int32).toInt = 1 := by decide
          omega
        have hF_11 : (1 : Int32) = (dX9_hasBuyer (Av 3) x1) := by
          clear hP hD hS hl
          unfold dX9_hasBuyer
          rw [if_neg c_1, if_neg c_4, if_neg c_7]
          try rfl
        exact retI (v := 1) hx hb hr hlk (rfl) hP hD hS () ⟨_, rfl, ⟨hp_10, hF_11⟩⟩ [0, 1, 2, 3, 4, 5, 6, 7, 8] rfl rfl dX9_hasBuyer_23 (Nat.le_of_ble_eq_true rfl) (Nat.le_of_ble_eq_true rfl) rfl
set_option maxRecDepth 100000 in
theorem cu_dX9_hasBuyer (l : Launch) (D : va_G) (tc : Nat → ClassId) (sk : (Nat → Nat) × (Nat → Nat)) (Aa_0 : Nat) (Aa_1 : Nat) (Aa_2 : Nat) (Aa_3 : Nat) (Aa_4 : Nat) (Aa_5 : Nat) (Aa_6 : Nat) (Aa_7 : Nat) (Aa_8 : Nat) (Av_0 : Int32) (Av_1 : Int32) (Av_2 : Int32) (Av_3 : Int32) (Av_4 : Int32) (Av_5 : Int32) (Af_1 : Nat → Int32) (Af_2 : Nat → Int32) (Af_3 : Nat → Int32) (Af_4 : Nat → Int32) (Af_5 : Nat → Int32) (Af_6 : Nat → Int32) (Af_7 : Nat → Int32) (Af_8 : Nat → Int32) (x1 : Int32)  : Ct l yX9_hasBuyer cX9_hasBuyer 2 (some .boolean) { frames := 0, cells := 0, slots := 0, locals := 0 } D tc sk [.ref Aa_0, .int x1] [(Aa_0, .inr (9, [.int Av_0, .int Av_1, .int Av_2, .int Av_3, .int Av_4, .int Av_5, .ref Aa_1, .ref Aa_2, .ref Aa_3, .ref Aa_4, .ref Aa_5, .ref Aa_6, .ref Aa_7, .ref Aa_8])), (Aa_1, .inl (tc 0, 10, .inl Af_1)), (Aa_2, .inl (tc 0, 10, .inl Af_2)), (Aa_3, .inl (tc 0, 6, .inl Af_3)), (Aa_4, .inl (tc 0, 6, .inl Af_4)), (Aa_5, .inl (tc 0, 6, .inl Af_5)), (Aa_6, .inl (tc 0, 6, .inl Af_6)), (Aa_7, .inl (tc 0, 6, .inl Af_7)), (Aa_8, .inl (tc 0, 6, .inl Af_8))] (fun (v : Option Value) (_ : Unit) => ∃ r : Int32, v = some (.int r) ∧ (((r.toInt = 0 ∨ (r.toInt = 1 ∧ 0 ≤ x1.toInt ∧ x1.toInt < 6 ∧ x1.toInt < Av_3.toInt))) ∧ r = (dX9_hasBuyer Av_3 x1))) (fun (_ : Unit) => [(Aa_0, .inr (9, [.int Av_0, .int Av_1, .int Av_2, .int Av_3, .int Av_4, .int Av_5, .ref Aa_1, .ref Aa_2, .ref Aa_3, .ref Aa_4, .ref Aa_5, .ref Aa_6, .ref Aa_7, .ref Aa_8])), (Aa_1, .inl (tc 0, 10, .inl Af_1)), (Aa_2, .inl (tc 0, 10, .inl Af_2)), (Aa_3, .inl (tc 0, 6, .inl Af_3)), (Aa_4, .inl (tc 0, 6, .inl Af_4)), (Aa_5, .inl (tc 0, 6, .inl Af_5)), (Aa_6, .inl (tc 0, 6, .inl Af_6)), (Aa_7, .inl (tc 0, 6, .inl Af_7)), (Aa_8, .inl (tc 0, 6, .inl Af_8))]) 0 0 :=
  ct_dX9_hasBuyer l D tc sk (fun k => ([Aa_0, Aa_1, Aa_2, Aa_3, Aa_4, Aa_5, Aa_6, Aa_7, Aa_8] : List (Nat)).getD k 0) (fun k => ([Av_0, Av_1, Av_2, Av_3, Av_4, Av_5] : List (Int32)).getD k 0) (fun k => ([(fun _ => 0), Af_1, Af_2, Af_3, Af_4, Af_5, Af_6, Af_7, Af_8] : List (Nat → Int32)).getD k (fun _ => 0)) x1 
set_option maxHeartbeats 4000000 in
set_option maxRecDepth 100000 in
theorem ct_dX9_hasClock (l : Launch) (D : va_G) (tc : Nat → ClassId) (sk : (Nat → Nat) × (Nat → Nat)) (Aa : Nat → Nat) (Av : Nat → Int32) (Af : Nat → Nat → Int32) (x1 : Int32)  : Ct l yX9_hasClock cX9_hasClock 2 (some .boolean) { frames := 0, cells := 0, slots := 0, locals := 0 } D tc sk [.ref (Aa 0), .int x1] [((Aa 0), .inr (9, [.int (Av 0), .int (Av 1), .int (Av 2), .int (Av 3), .int (Av 4), .int (Av 5), .ref (Aa 1), .ref (Aa 2), .ref (Aa 3), .ref (Aa 4), .ref (Aa 5), .ref (Aa 6), .ref (Aa 7), .ref (Aa 8)])), ((Aa 1), .inl (tc 0, 10, .inl (Af 1))), ((Aa 2), .inl (tc 0, 10, .inl (Af 2))), ((Aa 3), .inl (tc 0, 6, .inl (Af 3))), ((Aa 4), .inl (tc 0, 6, .inl (Af 4))), ((Aa 5), .inl (tc 0, 6, .inl (Af 5))), ((Aa 6), .inl (tc 0, 6, .inl (Af 6))), ((Aa 7), .inl (tc 0, 6, .inl (Af 7))), ((Aa 8), .inl (tc 0, 6, .inl (Af 8)))] (fun (v : Option Value) (_ : Unit) => ∃ r : Int32, v = some (.int r) ∧ (((r.toInt = 0 ∨ (r.toInt = 1 ∧ 0 ≤ x1.toInt ∧ x1.toInt < 10))) ∧ r = (dX9_hasClock (Av 2) x1))) (fun (_ : Unit) => [((Aa 0), .inr (9, [.int (Av 0), .int (Av 1), .int (Av 2), .int (Av 3), .int (Av 4), .int (Av 5), .ref (Aa 1), .ref (Aa 2), .ref (Aa 3), .ref (Aa 4), .ref (Aa 5), .ref (Aa 6), .ref (Aa 7), .ref (Aa 8)])), ((Aa 1), .inl (tc 0, 10, .inl (Af 1))), ((Aa 2), .inl (tc 0, 10, .inl (Af 2))), ((Aa 3), .inl (tc 0, 6, .inl (Af 3))), ((Aa 4), .inl (tc 0, 6, .inl (Af 4))), ((Aa 5), .inl (tc 0, 6, .inl (Af 5))), ((Aa 6), .inl (tc 0, 6, .inl (Af 6))), ((Aa 7), .inl (tc 0, 6, .inl (Af 7))), ((Aa 8), .inl (tc 0, 6, .inl (Af 8)))]) 0 0 := by
  refine Ct.start (by decide) (Nat.le_of_ble_eq_true rfl) (fun p e s m below meth c A ls hx hb hr hlk hin hml hown hts hK hX hP hD hA hl hS => ?_)
  have hl : lv_has ls 2 [(0, .ref (Aa 0)), (1, .int x1)] := hl
  refine lv_iload_n hx hb dX9_hasClock_0 rfl (lv_at hl 1 rfl) ?_
  refine lv_if_lt (tgt := 22) hx hb dX9_hasClock_1 (by decide) (fun c_1 => ?_) (fun c_1 => ?_)
  · skip
    refine lv_iconst (v := 0) hx hb dX9_hasClock_22 (by decide) ?_
    have hp_2 : ((0 : Int32).toInt = 0 ∨ ((0 : Int32).toInt = 1 ∧ 0 ≤ x1.toInt ∧ x1.toInt < 10)) := by
      have z_1 := Int32.lt_iff_toInt_lt.mp c_1
      have y_0 : (0 : Int32).toInt = 0 := by decide
      omega
    have hF_3 : (0 : Int32) = (dX9_hasClock (Av 2) x1) := by
      clear hP hD hS hl
      unfold dX9_hasClock
      rw [if_pos c_1]
      try rfl
    exact retI (v := 0) hx hb hr hlk (rfl) hP hD hS () ⟨_, rfl, ⟨hp_2, hF_3⟩⟩ [0, 1, 2, 3, 4, 5, 6, 7, 8] rfl rfl dX9_hasClock_23 (Nat.le_of_ble_eq_true rfl) (Nat.le_of_ble_eq_true rfl) rfl
  · skip
    refine lv_iload_n hx hb dX9_hasClock_4 rfl (lv_at hl 1 rfl) ?_
    refine lv_aload_n hx hb dX9_hasClock_5 rfl (lv_at hl 0 rfl) ?_
    refine gf_X9_18 hx hb hts hown hK hP 0 rfl rfl dX9_hasClock_6 ?_
    refine lv_icmp_ge (tgt := 22) hx hb dX9_hasClock_9 (by decide) (fun c_4 => ?_) (fun c_4 => ?_)
    · skip
      refine lv_iconst (v := 0) hx hb dX9_hasClock_22 (by decide) ?_
      have hp_5 : ((0 : Int32).toInt = 0 ∨ ((0 : Int32).toInt = 1 ∧ 0 ≤ x1.toInt ∧ x1.toInt < 10)) := by
        have z_1 := Int32.le_iff_toInt_le.mp (Int32.not_lt.mp c_1)
        have z_2 := Int32.le_iff_toInt_le.mp c_4
        have y_0 : (0 : Int32).toInt = 0 := by decide
        omega
      have hF_6 : (0 : Int32) = (dX9_hasClock (Av 2) x1) := by
        clear hP hD hS hl
        unfold dX9_hasClock
        rw [if_neg c_1, if_pos c_4]
        try rfl
      exact retI (v := 0) hx hb hr hlk (rfl) hP hD hS () ⟨_, rfl, ⟨hp_5, hF_6⟩⟩ [0, 1, 2, 3, 4, 5, 6, 7, 8] rfl rfl dX9_hasClock_23 (Nat.le_of_ble_eq_true rfl) (Nat.le_of_ble_eq_true rfl) rfl
    · skip
      refine lv_iload_n hx hb dX9_hasClock_12 rfl (lv_at hl 1 rfl) ?_
      refine lv_bipush (v := 10) hx hb dX9_hasClock_13 (by decide) ?_
      refine lv_icmp_ge (tgt := 22) hx hb dX9_hasClock_15 (by decide) (fun c_7 => ?_) (fun c_7 => ?_)
      · skip
        refine lv_iconst (v := 0) hx hb dX9_hasClock_22 (by decide) ?_
        have hp_8 : ((0 : Int32).toInt = 0 ∨ ((0 : Int32).toInt = 1 ∧ 0 ≤ x1.toInt ∧ x1.toInt < 10)) := by
          have z_1 := Int32.le_iff_toInt_le.mp (Int32.not_lt.mp c_1)
          have z_2 := Int32.lt_iff_toInt_lt.mp (Int32.not_le.mp c_4)
          have z_3 := Int32.le_iff_toInt_le.mp c_7
          have y_0 : (0 : Int32).toInt = 0 := by decide
          have y_10 : (10 : Int32).toInt = 10 := by decide
          omega
        have hF_9 : (0 : Int32) = (dX9_hasClock (Av 2) x1) := by
          clear hP hD hS hl
          unfold dX9_hasClock
          rw [if_neg c_1, if_neg c_4, if_pos c_7]
          try rfl
        exact retI (v := 0) hx hb hr hlk (rfl) hP hD hS () ⟨_, rfl, ⟨hp_8, hF_9⟩⟩ [0, 1, 2, 3, 4, 5, 6, 7, 8] rfl rfl dX9_hasClock_23 (Nat.le_of_ble_eq_true rfl) (Nat.le_of_ble_eq_true rfl) rfl
      · skip
        refine lv_iconst (v := 1) hx hb dX9_hasClock_18 (by decide) ?_
        refine lv_goto (tgt := 23) hx hb dX9_hasClock_19 (by decide) ?_
        have hp_10 : ((1 : Int32).toInt = 0 ∨ ((1 : Int32).toInt = 1 ∧ 0 ≤ x1.toInt ∧ x1.toInt < 10)) := by
          have z_1 := Int32.le_iff_toInt_le.mp (Int32.not_lt.mp c_1)
          have z_2 := Int32.lt_iff_toInt_lt.mp (Int32.not_le.mp c_4)
          have z_3 := Int32.lt_iff_toInt_lt.mp (Int32.not_le.mp c_7)
          have y_0 : (0 : Int32).toInt = 0 := by decide
          have y_10 : (10 : Int32).toInt = 10 := by decide
          have y_1 : (1 : Int32).toInt = 1 := by decide
          have yr : (1 : Int32).toInt = 1 := by decide
          omega
        have hF_11 : (1 : Int32) = (dX9_hasClock (Av 2) x1) := by
          clear hP hD hS hl
          unfold dX9_hasClock
          rw [if_neg c_1, if_neg c_4, if_neg c_7]
          try rfl
        exact retI (v := 1) hx hb hr hlk (rfl) hP hD hS () ⟨_, rfl, ⟨hp_10, hF_11⟩⟩ [0, 1, 2, 3, 4, 5, 6, 7, 8] rfl rfl dX9_hasClock_23 (Nat.le_of_ble_eq_true rfl) (Nat.le_of_ble_eq_true rfl) rfl
set_option maxRecDepth 100000 in
theorem cu_dX9_hasClock (l : Launch) (D : va_G) (tc : Nat → ClassId) (sk : (Nat → Nat) × (Nat → Nat)) (Aa_0 : Nat) (Aa_1 : Nat) (Aa_2 : Nat) (Aa_3 : Nat) (Aa_4 : Nat) (Aa_5 : Nat) (Aa_6 : Nat) (Aa_7 : Nat) (Aa_8 : Nat) (Av_0 : Int32) (Av_1 : Int32) (Av_2 : Int32) (Av_3 : Int32) (Av_4 : Int32) (Av_5 : Int32) (Af_1 : Nat → Int32) (Af_2 : Nat → Int32) (Af_3 : Nat → Int32) (Af_4 : Nat → Int32) (Af_5 : Nat → Int32) (Af_6 : Nat → Int32) (Af_7 : Nat → Int32) (Af_8 : Nat → Int32) (x1 : Int32)  : Ct l yX9_hasClock cX9_hasClock 2 (some .boolean) { frames := 0, cells := 0, slots := 0, locals := 0 } D tc sk [.ref Aa_0, .int x1] [(Aa_0, .inr (9, [.int Av_0, .int Av_1, .int Av_2, .int Av_3, .int Av_4, .int Av_5, .ref Aa_1, .ref Aa_2, .ref Aa_3, .ref Aa_4, .ref Aa_5, .ref Aa_6, .ref Aa_7, .ref Aa_8])), (Aa_1, .inl (tc 0, 10, .inl Af_1)), (Aa_2, .inl (tc 0, 10, .inl Af_2)), (Aa_3, .inl (tc 0, 6, .inl Af_3)), (Aa_4, .inl (tc 0, 6, .inl Af_4)), (Aa_5, .inl (tc 0, 6, .inl Af_5)), (Aa_6, .inl (tc 0, 6, .inl Af_6)), (Aa_7, .inl (tc 0, 6, .inl Af_7)), (Aa_8, .inl (tc 0, 6, .inl Af_8))] (fun (v : Option Value) (_ : Unit) => ∃ r : Int32, v = some (.int r) ∧ (((r.toInt = 0 ∨ (r.toInt = 1 ∧ 0 ≤ x1.toInt ∧ x1.toInt < 10))) ∧ r = (dX9_hasClock Av_2 x1))) (fun (_ : Unit) => [(Aa_0, .inr (9, [.int Av_0, .int Av_1, .int Av_2, .int Av_3, .int Av_4, .int Av_5, .ref Aa_1, .ref Aa_2, .ref Aa_3, .ref Aa_4, .ref Aa_5, .ref Aa_6, .ref Aa_7, .ref Aa_8])), (Aa_1, .inl (tc 0, 10, .inl Af_1)), (Aa_2, .inl (tc 0, 10, .inl Af_2)), (Aa_3, .inl (tc 0, 6, .inl Af_3)), (Aa_4, .inl (tc 0, 6, .inl Af_4)), (Aa_5, .inl (tc 0, 6, .inl Af_5)), (Aa_6, .inl (tc 0, 6, .inl Af_6)), (Aa_7, .inl (tc 0, 6, .inl Af_7)), (Aa_8, .inl (tc 0, 6, .inl Af_8))]) 0 0 :=
  ct_dX9_hasClock l D tc sk (fun k => ([Aa_0, Aa_1, Aa_2, Aa_3, Aa_4, Aa_5, Aa_6, Aa_7, Aa_8] : List (Nat)).getD k 0) (fun k => ([Av_0, Av_1, Av_2, Av_3, Av_4, Av_5] : List (Int32)).getD k 0) (fun k => ([(fun _ => 0), Af_1, Af_2, Af_3, Af_4, Af_5, Af_6, Af_7, Af_8] : List (Nat → Int32)).getD k (fun _ => 0)) x1 
set_option maxHeartbeats 4000000 in
set_option maxRecDepth 100000 in
theorem ct_dX9_clockOn (l : Launch) (D : va_G) (tc : Nat → ClassId) (sk : (Nat → Nat) × (Nat → Nat)) (Aa : Nat → Nat) (Av : Nat → Int32) (Af : Nat → Nat → Int32) (x1 : Int32)  : Ct l yX9_clockOn cX9_clockOn 2 (some .int) { frames := 0, cells := 0, slots := 0, locals := 0 } D tc sk [.ref (Aa 0), .int x1] [((Aa 0), .inr (9, [.int (Av 0), .int (Av 1), .int (Av 2), .int (Av 3), .int (Av 4), .int (Av 5), .ref (Aa 1), .ref (Aa 2), .ref (Aa 3), .ref (Aa 4), .ref (Aa 5), .ref (Aa 6), .ref (Aa 7), .ref (Aa 8)])), ((Aa 1), .inl (tc 0, 10, .inl (Af 1))), ((Aa 2), .inl (tc 0, 10, .inl (Af 2))), ((Aa 3), .inl (tc 0, 6, .inl (Af 3))), ((Aa 4), .inl (tc 0, 6, .inl (Af 4))), ((Aa 5), .inl (tc 0, 6, .inl (Af 5))), ((Aa 6), .inl (tc 0, 6, .inl (Af 6))), ((Aa 7), .inl (tc 0, 6, .inl (Af 7))), ((Aa 8), .inl (tc 0, 6, .inl (Af 8)))] (fun (v : Option Value) (_ : Unit) => ∃ r : Int32, v = some (.int r) ∧ ((True) ∧ r = (dX9_clockOn (Av 2) x1))) (fun (_ : Unit) => [((Aa 0), .inr (9, [.int (Av 0), .int (Av 1), .int (Av 2), .int (Av 3), .int (Av 4), .int (Av 5), .ref (Aa 1), .ref (Aa 2), .ref (Aa 3), .ref (Aa 4), .ref (Aa 5), .ref (Aa 6), .ref (Aa 7), .ref (Aa 8)])), ((Aa 1), .inl (tc 0, 10, .inl (Af 1))), ((Aa 2), .inl (tc 0, 10, .inl (Af 2))), ((Aa 3), .inl (tc 0, 6, .inl (Af 3))), ((Aa 4), .inl (tc 0, 6, .inl (Af 4))), ((Aa 5), .inl (tc 0, 6, .inl (Af 5))), ((Aa 6), .inl (tc 0, 6, .inl (Af 6))), ((Aa 7), .inl (tc 0, 6, .inl (Af 7))), ((Aa 8), .inl (tc 0, 6, .inl (Af 8)))]) 0 0 := by
  refine Ct.start (by decide) (Nat.le_of_ble_eq_true rfl) (fun p e s m below meth c A ls hx hb hr hlk hin hml hown hts hK hX hP hD hA hl hS => ?_)
  have hl : lv_has ls 2 [(0, .ref (Aa 0)), (1, .int x1)] := hl
  refine lv_aload_n hx hb dX9_clockOn_0 rfl (lv_at hl 0 rfl) ?_
  refine gf_X9_18 hx hb hts hown hK hP 0 rfl rfl dX9_clockOn_1 ?_
  refine lv_if_le (tgt := 20) hx hb dX9_clockOn_4 (by decide) (fun c_1 => ?_) (fun c_1 => ?_)
  · skip
    refine lv_iconst (v := 0) hx hb dX9_clockOn_20 (by decide) ?_
    have hF_2 : (0 : Int32) = (dX9_clockOn (Av 2) x1) := by
      clear hP hD hS hl
      unfold dX9_clockOn
      rw [if_pos c_1]
      try rfl
    exact retI (v := 0) hx hb hr hlk (rfl) hP hD hS () ⟨_, rfl, ⟨trivial, hF_2⟩⟩ [0, 1, 2, 3, 4, 5, 6, 7, 8] rfl rfl dX9_clockOn_21 (Nat.le_of_ble_eq_true rfl) (Nat.le_of_ble_eq_true rfl) rfl
  · skip
    refine lv_iload_n hx hb dX9_clockOn_7 rfl (lv_at hl 1 rfl) ?_
    refine lv_if_lt (tgt := 20) hx hb dX9_clockOn_8 (by decide) (fun c_3 => ?_) (fun c_3 => ?_)
    · skip
      refine lv_iconst (v := 0) hx hb dX9_clockOn_20 (by decide) ?_
      have hF_4 : (0 : Int32) = (dX9_clockOn (Av 2) x1) := by
        clear hP hD hS hl
        unfold dX9_clockOn
        rw [if_neg c_1, if_pos c_3]
        try rfl
      exact retI (v := 0) hx hb hr hlk (rfl) hP hD hS () ⟨_, rfl, ⟨trivial, hF_4⟩⟩ [0, 1, 2, 3, 4, 5, 6, 7, 8] rfl rfl dX9_clockOn_21 (Nat.le_of_ble_eq_true rfl) (Nat.le_of_ble_eq_true rfl) rfl
    · skip
      refine lv_iload_n hx hb dX9_clockOn_11 rfl (lv_at hl 1 rfl) ?_
      refine lv_aload_n hx hb dX9_clockOn_12 rfl (lv_at hl 0 rfl) ?_
      refine gf_X9_18 hx hb hts hown hK hP 0 rfl rfl dX9_clockOn_13 ?_
      have hz_5 : ¬ (Av 2) = 0 := by
        intro z
        have zz : ((Av 2) : Int32).toInt = 0 := by rw [z]; decide
        have z_1 := Int32.lt_iff_toInt_lt.mp (Int32.not_le.mp c_1)
        have z_2 := Int32.le_iff_toInt_le.mp (Int32.not_lt.mp c_3)
        have y_0 : (0 : Int32).toInt = 0 := by decide
        omega
      refine lv_irem hx hb dX9_clockOn_16 hz_5 ?_
      refine lv_topi (fun x_6 ex_6 => ?_)
      refine lv_goto (tgt := 21) hx hb dX9_clockOn_17 (by decide) ?_
      have hF_7 : x_6 = (dX9_clockOn (Av 2) x1) := by
        clear hP hD hS hl
        replace ex_6 := ex_6.symm; subst ex_6
        unfold dX9_clockOn
        rw [if_neg c_1, if_neg c_3]
        try rfl
      exact retI (v := x_6) hx hb hr hlk (rfl) hP hD hS () ⟨_, rfl, ⟨trivial, hF_7⟩⟩ [0, 1, 2, 3, 4, 5, 6, 7, 8] rfl rfl dX9_clockOn_21 (Nat.le_of_ble_eq_true rfl) (Nat.le_of_ble_eq_true rfl) rfl
set_option maxRecDepth 100000 in
theorem cu_dX9_clockOn (l : Launch) (D : va_G) (tc : Nat → ClassId) (sk : (Nat → Nat) × (Nat → Nat)) (Aa_0 : Nat) (Aa_1 : Nat) (Aa_2 : Nat) (Aa_3 : Nat) (Aa_4 : Nat) (Aa_5 : Nat) (Aa_6 : Nat) (Aa_7 : Nat) (Aa_8 : Nat) (Av_0 : Int32) (Av_1 : Int32) (Av_2 : Int32) (Av_3 : Int32) (Av_4 : Int32) (Av_5 : Int32) (Af_1 : Nat → Int32) (Af_2 : Nat → Int32) (Af_3 : Nat → Int32) (Af_4 : Nat → Int32) (Af_5 : Nat → Int32) (Af_6 : Nat → Int32) (Af_7 : Nat → Int32) (Af_8 : Nat → Int32) (x1 : Int32)  : Ct l yX9_clockOn cX9_clockOn 2 (some .int) { frames := 0, cells := 0, slots := 0, locals := 0 } D tc sk [.ref Aa_0, .int x1] [(Aa_0, .inr (9, [.int Av_0, .int Av_1, .int Av_2, .int Av_3, .int Av_4, .int Av_5, .ref Aa_1, .ref Aa_2, .ref Aa_3, .ref Aa_4, .ref Aa_5, .ref Aa_6, .ref Aa_7, .ref Aa_8])), (Aa_1, .inl (tc 0, 10, .inl Af_1)), (Aa_2, .inl (tc 0, 10, .inl Af_2)), (Aa_3, .inl (tc 0, 6, .inl Af_3)), (Aa_4, .inl (tc 0, 6, .inl Af_4)), (Aa_5, .inl (tc 0, 6, .inl Af_5)), (Aa_6, .inl (tc 0, 6, .inl Af_6)), (Aa_7, .inl (tc 0, 6, .inl Af_7)), (Aa_8, .inl (tc 0, 6, .inl Af_8))] (fun (v : Option Value) (_ : Unit) => ∃ r : Int32, v = some (.int r) ∧ ((True) ∧ r = (dX9_clockOn Av_2 x1))) (fun (_ : Unit) => [(Aa_0, .inr (9, [.int Av_0, .int Av_1, .int Av_2, .int Av_3, .int Av_4, .int Av_5, .ref Aa_1, .ref Aa_2, .ref Aa_3, .ref Aa_4, .ref Aa_5, .ref Aa_6, .ref Aa_7, .ref Aa_8])), (Aa_1, .inl (tc 0, 10, .inl Af_1)), (Aa_2, .inl (tc 0, 10, .inl Af_2)), (Aa_3, .inl (tc 0, 6, .inl Af_3)), (Aa_4, .inl (tc 0, 6, .inl Af_4)), (Aa_5, .inl (tc 0, 6, .inl Af_5)), (Aa_6, .inl (tc 0, 6, .inl Af_6)), (Aa_7, .inl (tc 0, 6, .inl Af_7)), (Aa_8, .inl (tc 0, 6, .inl Af_8))]) 0 0 :=
  ct_dX9_clockOn l D tc sk (fun k => ([Aa_0, Aa_1, Aa_2, Aa_3, Aa_4, Aa_5, Aa_6, Aa_7, Aa_8] : List (Nat)).getD k 0) (fun k => ([Av_0, Av_1, Av_2, Av_3, Av_4, Av_5] : List (Int32)).getD k 0) (fun k => ([(fun _ => 0), Af_1, Af_2, Af_3, Af_4, Af_5, Af_6, Af_7, Af_8] : List (Nat → Int32)).getD k (fun _ => 0)) x1 
set_option maxHeartbeats 4000000 in
set_option maxRecDepth 100000 in
theorem ct_dX9_stillOn (l : Launch) (D : va_G) (tc : Nat → ClassId) (sk : (Nat → Nat) × (Nat → Nat)) (Aa : Nat → Nat) (Av : Nat → Int32) (Af : Nat → Nat → Int32) (x1 : Int32)  : Ct l yX9_stillOn cX9_stillOn 3 (some .int) { frames := 0, cells := 0, slots := 0, locals := 0 } D tc sk [.ref (Aa 0), .int x1] [((Aa 0), .inr (9, [.int (Av 0), .int (Av 1), .int (Av 2), .int (Av 3), .int (Av 4), .int (Av 5), .ref (Aa 1), .ref (Aa 2), .ref (Aa 3), .ref (Aa 4), .ref (Aa 5), .ref (Aa 6), .ref (Aa 7), .ref (Aa 8)])), ((Aa 1), .inl (tc 0, 10, .inl (Af 1))), ((Aa 2), .inl (tc 0, 10, .inl (Af 2))), ((Aa 3), .inl (tc 0, 6, .inl (Af 3))), ((Aa 4), .inl (tc 0, 6, .inl (Af 4))), ((Aa 5), .inl (tc 0, 6, .inl (Af 5))), ((Aa 6), .inl (tc 0, 6, .inl (Af 6))), ((Aa 7), .inl (tc 0, 6, .inl (Af 7))), ((Aa 8), .inl (tc 0, 6, .inl (Af 8)))] (fun (v : Option Value) (_ : Unit) => ∃ r : Int32, v = some (.int r) ∧ ((True) ∧ r = (dX9_stillOn (Af 1) (Av 2) x1))) (fun (_ : Unit) => [((Aa 0), .inr (9, [.int (Av 0), .int (Av 1), .int (Av 2), .int (Av 3), .int (Av 4), .int (Av 5), .ref (Aa 1), .ref (Aa 2), .ref (Aa 3), .ref (Aa 4), .ref (Aa 5), .ref (Aa 6), .ref (Aa 7), .ref (Aa 8)])), ((Aa 1), .inl (tc 0, 10, .inl (Af 1))), ((Aa 2), .inl (tc 0, 10, .inl (Af 2))), ((Aa 3), .inl (tc 0, 6, .inl (Af 3))), ((Aa 4), .inl (tc 0, 6, .inl (Af 4))), ((Aa 5), .inl (tc 0, 6, .inl (Af 5))), ((Aa 6), .inl (tc 0, 6, .inl (Af 6))), ((Aa 7), .inl (tc 0, 6, .inl (Af 7))), ((Aa 8), .inl (tc 0, 6, .inl (Af 8)))]) 0 0 := by
  refine Ct.start (by decide) (Nat.le_of_ble_eq_true rfl) (fun p e s m below meth c A ls hx hb hr hlk hin hml hown hts hK hX hP hD hA hl hS => ?_)
  have hl : lv_has ls 3 [(0, .ref (Aa 0)), (1, .int x1)] := hl
  refine lv_aload_n hx hb dX9_stillOn_0 rfl (lv_at hl 0 rfl) ?_
  refine gf_X9_18 hx hb hts hown hK hP 0 rfl rfl dX9_stillOn_1 ?_
  refine lv_if_le (tgt := 11) hx hb dX9_stillOn_4 (by decide) (fun c_1 => ?_) (fun c_1 => ?_)
  · skip
    refine lv_iconst (v := 0) hx hb dX9_stillOn_11 (by decide) ?_
    have hF_2 : (0 : Int32) = (dX9_stillOn (Af 1) (Av 2) x1) := by
      clear hP hD hS hl
      unfold dX9_stillOn
      rw [if_pos c_1]
      try rfl
    exact retI (v := 0) hx hb hr hlk (rfl) hP hD hS () ⟨_, rfl, ⟨trivial, hF_2⟩⟩ [0, 1, 2, 3, 4, 5, 6, 7, 8] rfl rfl dX9_stillOn_12 (Nat.le_of_ble_eq_true rfl) (Nat.le_of_ble_eq_true rfl) rfl
  · skip
    refine lv_iload_n hx hb dX9_stillOn_7 rfl (lv_at hl 1 rfl) ?_
    refine lv_if_ge (tgt := 13) hx hb dX9_stillOn_8 (by decide) (fun c_3 => ?_) (fun c_3 => ?_)
    · skip
      refine lv_iload_n hx hb dX9_stillOn_13 rfl (lv_at hl 1 rfl) ?_
      refine lv_aload_n hx hb dX9_stillOn_14 rfl (lv_at hl 0 rfl) ?_
      refine gf_X9_18 hx hb hts hown hK hP 0 rfl rfl dX9_stillOn_15 ?_
      have hz_4 : ¬ (Av 2) = 0 := by
        intro z
        have zz : ((Av 2) : Int32).toInt = 0 := by rw [z]; decide
        have z_1 := Int32.lt_iff_toInt_lt.mp (Int32.not_le.mp c_1)
        have z_2 := Int32.le_iff_toInt_le.mp c_3
        have y_0 : (0 : Int32).toInt = 0 := by decide
        omega
      refine lv_irem hx hb dX9_stillOn_18 hz_4 ?_
      refine lv_topi (fun x_5 ex_5 => ?_)
      refine lv_istore_n (lv' := [(2, .int x_5), (0, .ref (Aa 0)), (1, .int x1)]) hx hb dX9_stillOn_19 rfl hl (by decide) rfl (fun ls hl₀ => ?_)
      replace hl := hl₀
      clear hl₀
      refine lv_iload_n hx hb dX9_stillOn_20 rfl (lv_at hl 0 rfl) ?_
      refine lv_bipush (v := 10) hx hb dX9_stillOn_21 (by decide) ?_
      refine lv_icmp_ge (tgt := 35) hx hb dX9_stillOn_23 (by decide) (fun c_6 => ?_) (fun c_6 => ?_)
      · skip
        refine lv_iconst (v := 0) hx hb dX9_stillOn_35 (by decide) ?_
        have hF_7 : (0 : Int32) = (dX9_stillOn (Af 1) (Av 2) x1) := by
          clear hP hD hS hl
          replace ex_5 := ex_5.symm; subst ex_5
          unfold dX9_stillOn
          rw [if_neg c_1, if_pos c_3, if_pos c_6]
          try rfl
        exact retI (v := 0) hx hb hr hlk (rfl) hP hD hS () ⟨_, rfl, ⟨trivial, hF_7⟩⟩ [0, 1, 2, 3, 4, 5, 6, 7, 8] rfl rfl dX9_stillOn_36 (Nat.le_of_ble_eq_true rfl) (Nat.le_of_ble_eq_true rfl) rfl
      · skip
        refine lv_aload_n hx hb dX9_stillOn_26 rfl (lv_at hl 1 rfl) ?_
        refine gf_X9_30 hx hb hts hown hK hP 0 rfl rfl dX9_stillOn_27 ?_
        refine lv_iload_n hx hb dX9_stillOn_30 rfl (lv_at hl 0 rfl) ?_
        have hi_8 : vp_in x_5 10 := by
          have z_1 := Int32.lt_iff_toInt_lt.mp (Int32.not_le.mp c_1)
          have z_2 := Int32.le_iff_toInt_le.mp c_3
          have z_3 := Int32.lt_iff_toInt_lt.mp (Int32.not_le.mp c_6)
          have y_0 : (0 : Int32).toInt = 0 := by decide
          have y_10 : (10 : Int32).toInt = 10 := by decide
          have t_x_5 := rem_bounds (x := x1) (y := (Av 2)) (by omega)
          rw [← ex_5] at t_x_5
          refine vp_in_iff.mpr ⟨?_, ?_⟩ <;> omega
        refine va_iald hx hb hK hP 1 0 rfl rfl hi_8 dX9_stillOn_31 ?_
        refine lv_topi (fun x_9 ex_9 => ?_)
        refine lv_goto (tgt := 36) hx hb dX9_stillOn_32 (by decide) ?_
        have hF_10 : x_9 = (dX9_stillOn (Af 1) (Av 2) x1) := by
          clear hP hD hS hl
          replace ex_5 := ex_5.symm; subst ex_5
          replace ex_9 := ex_9.symm; subst ex_9
          unfold dX9_stillOn
          rw [if_neg c_1, if_pos c_3, if_neg c_6]
          try rfl
        exact retI (v := x_9) hx hb hr hlk (rfl) hP hD hS () ⟨_, rfl, ⟨trivial, hF_10⟩⟩ [0, 1, 2, 3, 4, 5, 6, 7, 8] rfl rfl dX9_stillOn_36 (Nat.le_of_ble_eq_true rfl) (Nat.le_of_ble_eq_true rfl) rfl
    · skip
      refine lv_iconst (v := 0) hx hb dX9_stillOn_11 (by decide) ?_
      have hF_11 : (0 : Int32) = (dX9_stillOn (Af 1) (Av 2) x1) := by
        clear hP hD hS hl
        unfold dX9_stillOn
        rw [if_neg c_1, if_neg c_3]
        try rfl
      exact retI (v := 0) hx hb hr hlk (rfl) hP hD hS () ⟨_, rfl, ⟨trivial, hF_11⟩⟩ [0, 1, 2, 3, 4, 5, 6, 7, 8] rfl rfl dX9_stillOn_12 (Nat.le_of_ble_eq_true rfl) (Nat.le_of_ble_eq_true rfl) rfl
set_option maxRecDepth 100000 in
theorem cu_dX9_stillOn (l : Launch) (D : va_G) (tc : Nat → ClassId) (sk : (Nat → Nat) × (Nat → Nat)) (Aa_0 : Nat) (Aa_1 : Nat) (Aa_2 : Nat) (Aa_3 : Nat) (Aa_4 : Nat) (Aa_5 : Nat) (Aa_6 : Nat) (Aa_7 : Nat) (Aa_8 : Nat) (Av_0 : Int32) (Av_1 : Int32) (Av_2 : Int32) (Av_3 : Int32) (Av_4 : Int32) (Av_5 : Int32) (Af_1 : Nat → Int32) (Af_2 : Nat → Int32) (Af_3 : Nat → Int32) (Af_4 : Nat → Int32) (Af_5 : Nat → Int32) (Af_6 : Nat → Int32) (Af_7 : Nat → Int32) (Af_8 : Nat → Int32) (x1 : Int32)  : Ct l yX9_stillOn cX9_stillOn 3 (some .int) { frames := 0, cells := 0, slots := 0, locals := 0 } D tc sk [.ref Aa_0, .int x1] [(Aa_0, .inr (9, [.int Av_0, .int Av_1, .int Av_2, .int Av_3, .int Av_4, .int Av_5, .ref Aa_1, .ref Aa_2, .ref Aa_3, .ref Aa_4, .ref Aa_5, .ref Aa_6, .ref Aa_7, .ref Aa_8])), (Aa_1, .inl (tc 0, 10, .inl Af_1)), (Aa_2, .inl (tc 0, 10, .inl Af_2)), (Aa_3, .inl (tc 0, 6, .inl Af_3)), (Aa_4, .inl (tc 0, 6, .inl Af_4)), (Aa_5, .inl (tc 0, 6, .inl Af_5)), (Aa_6, .inl (tc 0, 6, .inl Af_6)), (Aa_7, .inl (tc 0, 6, .inl Af_7)), (Aa_8, .inl (tc 0, 6, .inl Af_8))] (fun (v : Option Value) (_ : Unit) => ∃ r : Int32, v = some (.int r) ∧ ((True) ∧ r = (dX9_stillOn Af_1 Av_2 x1))) (fun (_ : Unit) => [(Aa_0, .inr (9, [.int Av_0, .int Av_1, .int Av_2, .int Av_3, .int Av_4, .int Av_5, .ref Aa_1, .ref Aa_2, .ref Aa_3, .ref Aa_4, .ref Aa_5, .ref Aa_6, .ref Aa_7, .ref Aa_8])), (Aa_1, .inl (tc 0, 10, .inl Af_1)), (Aa_2, .inl (tc 0, 10, .inl Af_2)), (Aa_3, .inl (tc 0, 6, .inl Af_3)), (Aa_4, .inl (tc 0, 6, .inl Af_4)), (Aa_5, .inl (tc 0, 6, .inl Af_5)), (Aa_6, .inl (tc 0, 6, .inl Af_6)), (Aa_7, .inl (tc 0, 6, .inl Af_7)), (Aa_8, .inl (tc 0, 6, .inl Af_8))]) 0 0 :=
  ct_dX9_stillOn l D tc sk (fun k => ([Aa_0, Aa_1, Aa_2, Aa_3, Aa_4, Aa_5, Aa_6, Aa_7, Aa_8] : List (Nat)).getD k 0) (fun k => ([Av_0, Av_1, Av_2, Av_3, Av_4, Av_5] : List (Int32)).getD k 0) (fun k => ([(fun _ => 0), Af_1, Af_2, Af_3, Af_4, Af_5, Af_6, Af_7, Af_8] : List (Nat → Int32)).getD k (fun _ => 0)) x1 
set_option maxHeartbeats 4000000 in
set_option maxRecDepth 100000 in
theorem ct_dX9_daysSince (l : Launch) (D : va_G) (tc : Nat → ClassId) (sk : (Nat → Nat) × (Nat → Nat)) (Aa : Nat → Nat) (Av : Nat → Int32) (Af : Nat → Nat → Int32) (x1 : Int32)  : Ct l yX9_daysSince cX9_daysSince 2 (some .int) { frames := 1, cells := 0, slots := 0, locals := 21 } D tc sk [.ref (Aa 0), .int x1] [((Aa 0), .inr (9, [.int (Av 0), .int (Av 1), .int (Av 2), .int (Av 3), .int (Av 4), .int (Av 5), .ref (Aa 1), .ref (Aa 2), .ref (Aa 3), .ref (Aa 4), .ref (Aa 5), .ref (Aa 6), .ref (Aa 7), .ref (Aa 8)])), ((Aa 1), .inl (tc 0, 10, .inl (Af 1))), ((Aa 2), .inl (tc 0, 10, .inl (Af 2))), ((Aa 3), .inl (tc 0, 6, .inl (Af 3))), ((Aa 4), .inl (tc 0, 6, .inl (Af 4))), ((Aa 5), .inl (tc 0, 6, .inl (Af 5))), ((Aa 6), .inl (tc 0, 6, .inl (Af 6))), ((Aa 7), .inl (tc 0, 6, .inl (Af 7))), ((Aa 8), .inl (tc 0, 6, .inl (Af 8)))] (fun (v : Option Value) (_ : Unit) => ∃ r : Int32, v = some (.int r) ∧ ((True) ∧ r = (dX9_daysSince (Af 8) (Av 3) (Av 4) x1))) (fun (_ : Unit) => [((Aa 0), .inr (9, [.int (Av 0), .int (Av 1), .int (Av 2), .int (Av 3), .int (Av 4), .int (Av 5), .ref (Aa 1), .ref (Aa 2), .ref (Aa 3), .ref (Aa 4), .ref (Aa 5), .ref (Aa 6), .ref (Aa 7), .ref (Aa 8)])), ((Aa 1), .inl (tc 0, 10, .inl (Af 1))), ((Aa 2), .inl (tc 0, 10, .inl (Af 2))), ((Aa 3), .inl (tc 0, 6, .inl (Af 3))), ((Aa 4), .inl (tc 0, 6, .inl (Af 4))), ((Aa 5), .inl (tc 0, 6, .inl (Af 5))), ((Aa 6), .inl (tc 0, 6, .inl (Af 6))), ((Aa 7), .inl (tc 0, 6, .inl (Af 7))), ((Aa 8), .inl (tc 0, 6, .inl (Af 8)))]) 0 0 := by
  refine Ct.start (by decide) (Nat.le_of_ble_eq_true rfl) (fun p e s m below meth c A ls hx hb hr hlk hin hml hown hts hK hX hP hD hA hl hS => ?_)
  have hl : lv_has ls 2 [(0, .ref (Aa 0)), (1, .int x1)] := hl
  refine lv_aload_n hx hb dX9_daysSince_0 rfl (lv_at hl 0 rfl) ?_
  refine lv_iload_n hx hb dX9_daysSince_1 rfl (lv_at hl 1 rfl) ?_
  refine cV (a := (Aa 0)) (As := [.int x1]) (rest := []) (wr := []) ⟨hx, hb, hml, hown, hts⟩ hK hX hA (cu_dX9_hasBuyer l D tc sk (Aa 0) (Aa 1) (Aa 2) (Aa 3) (Aa 4) (Aa 5) (Aa 6) (Aa 7) (Aa 8) (Av 0) (Av 1) (Av 2) (Av 3) (Av 4) (Av 5) (Af 1) (Af 2) (Af 3) (Af 4) (Af 5) (Af 6) (Af 7) (Af 8) x1) k_591 k_707 k_589 k_590 k_98 pl_X9_hasBuyer ⟨Nat.le_of_ble_eq_true rfl, Nat.le_of_ble_eq_true rfl⟩ rfl rfl (va_recv hK hP (ci := 9) (q0 := 0) rfl rfl) hP hD hS [0, 1, 2, 3, 4, 5, 6, 7, 8] [] rfl rfl rfl rfl rfl (by decide) rfl hl.1 rfl (Nat.le_of_ble_eq_true rfl) dX9_daysSince_2 ⟨Nat.le_of_ble_eq_true rfl, Nat.le_of_ble_eq_true rfl⟩ (fun v_1 u_2 H locs hv_3 hP₀ hD₀ hS₀ => ?_)
  obtain ⟨r_4, rfl, he_5⟩ := hv_3
  have he_5 : ((r_4.toInt = 0 ∨ (r_4.toInt = 1 ∧ 0 ≤ x1.toInt ∧ x1.toInt < 6 ∧ x1.toInt < (Av 3).toInt))) ∧ r_4 = (dX9_hasBuyer (Av 3) x1) := he_5
  refine W.eq (g2 := F0 m 5 ls [.int r_4]) rfl ?_
  replace hP : va_P D classes [((Aa 0), .inr (9, [.int (Av 0), .int (Av 1), .int (Av 2), .int (Av 3), .int (Av 4), .int (Av 5), .ref (Aa 1), .ref (Aa 2), .ref (Aa 3), .ref (Aa 4), .ref (Aa 5), .ref (Aa 6), .ref (Aa 7), .ref (Aa 8)])), ((Aa 1), .inl (tc 0, 10, .inl (Af 1))), ((Aa 2), .inl (tc 0, 10, .inl (Af 2))), ((Aa 3), .inl (tc 0, 6, .inl (Af 3))), ((Aa 4), .inl (tc 0, 6, .inl (Af 4))), ((Aa 5), .inl (tc 0, 6, .inl (Af 5))), ((Aa 6), .inl (tc 0, 6, .inl (Af 6))), ((Aa 7), .inl (tc 0, 6, .inl (Af 7))), ((Aa 8), .inl (tc 0, 6, .inl (Af 8)))] H := hP₀
  replace hD : va_D A [((Aa 0), .inr (9, [.int (Av 0), .int (Av 1), .int (Av 2), .int (Av 3), .int (Av 4), .int (Av 5), .ref (Aa 1), .ref (Aa 2), .ref (Aa 3), .ref (Aa 4), .ref (Aa 5), .ref (Aa 6), .ref (Aa 7), .ref (Aa 8)])), ((Aa 1), .inl (tc 0, 10, .inl (Af 1))), ((Aa 2), .inl (tc 0, 10, .inl (Af 2))), ((Aa 3), .inl (tc 0, 6, .inl (Af 3))), ((Aa 4), .inl (tc 0, 6, .inl (Af 4))), ((Aa 5), .inl (tc 0, 6, .inl (Af 5))), ((Aa 6), .inl (tc 0, 6, .inl (Af 6))), ((Aa 7), .inl (tc 0, 6, .inl (Af 7))), ((Aa 8), .inl (tc 0, 6, .inl (Af 8)))] := hD₀
  replace hS := hS₀
  clear hP₀ hD₀ hS₀
  obtain ⟨he_5, hq_7⟩ := he_5
  have er_4 : r_4 = (dX9_hasBuyer (Av 3) x1) := hq_7
  refine lv_if_eq (tgt := 18) hx hb dX9_daysSince_5 (by decide) (fun c_8 => ?_) (fun c_8 => ?_)
  · skip
    refine lv_bipush (v := 99) hx hb dX9_daysSince_18 (by decide) ?_
    refine lv_goto (tgt := 34) hx hb dX9_daysSince_20 (by decide) ?_
    have hF_9 : (99 : Int32) = (dX9_daysSince (Af 8) (Av 3) (Av 4) x1) := by
      clear hP hD hS hl
      replace er_4 := er_4.symm; subst er_4
      unfold dX9_daysSince
      rw [if_pos c_8]
      try rfl
    exact retI (v := 99) hx hb hr hlk (rfl) hP hD hS () ⟨_, rfl, ⟨trivial, hF_9⟩⟩ [0, 1, 2, 3, 4, 5, 6, 7, 8] rfl rfl dX9_daysSince_34 (Nat.le_of_ble_eq_true rfl) (Nat.le_of_ble_eq_true rfl) rfl
  · skip
    refine lv_aload_n hx hb dX9_daysSince_8 rfl (lv_at hl 0 rfl) ?_
    refine gf_X9_52 hx hb hts hown hK hP 0 rfl rfl dX9_daysSince_9 ?_
    refine lv_iload_n hx hb dX9_daysSince_12 rfl (lv_at hl 1 rfl) ?_
    have hi_10 : vp_in x1 6 := by
      have z_1 : ¬ (r_4 : Int32).toInt = (0 : Int32).toInt := fun z => c_8 (Int32.toInt_inj.mp z)
      have y_0 : (0 : Int32).toInt = 0 := by decide
      refine vp_in_iff.mpr ⟨?_, ?_⟩ <;> omega
    refine va_iald hx hb hK hP 8 0 rfl rfl hi_10 dX9_daysSince_13 ?_
    refine lv_topi (fun x_11 ex_11 => ?_)
    refine lv_iconst (v := (-1)) hx hb dX9_daysSince_14 (by decide) ?_
    refine lv_icmp_ne (tgt := 23) hx hb dX9_daysSince_15 (by decide) (fun c_12 => ?_) (fun c_12 => ?_)
    · skip
      refine lv_aload_n hx hb dX9_daysSince_23 rfl (lv_at hl 0 rfl) ?_
      refine gf_X9_24 hx hb hts hown hK hP 0 rfl rfl dX9_daysSince_24 ?_
      refine lv_aload_n hx hb dX9_daysSince_27 rfl (lv_at hl 0 rfl) ?_
      refine gf_X9_52 hx hb hts hown hK hP 0 rfl rfl dX9_daysSince_28 ?_
      refine lv_iload_n hx hb dX9_daysSince_31 rfl (lv_at hl 1 rfl) ?_
      have hi_13 : vp_in x1 6 := by
        have z_1 : ¬ (r_4 : Int32).toInt = (0 : Int32).toInt := fun z => c_8 (Int32.toInt_inj.mp z)
        have z_2 : ¬ (x_11 : Int32).toInt = ((-1) : Int32).toInt := fun z => c_12 (Int32.toInt_inj.mp z)
        have y_m1 : (-1 : Int32).toInt = -1 := by decide
        have y_0 : (0 : Int32).toInt = 0 := by decide
        refine vp_in_iff.mpr ⟨?_, ?_⟩ <;> omega
      refine va_iald hx hb hK hP 8 0 rfl rfl hi_13 dX9_daysSince_32 ?_
      refine lv_topi (fun x_14 ex_14 => ?_)
      refine lv_isub hx hb dX9_daysSince_33 ?_
      refine lv_topi (fun x_15 ex_15 => ?_)
      have hF_16 : x_15 = (dX9_daysSince (Af 8) (Av 3) (Av 4) x1) := by
        clear hP hD hS hl
        replace er_4 := er_4.symm; subst er_4
        replace ex_11 := ex_11.symm; subst ex_11
        replace ex_14 := ex_14.symm; subst ex_14
        replace ex_15 := ex_15.symm; subst ex_15
        unfold dX9_daysSince
        rw [if_neg c_8, if_neg c_12]
        try rfl
      exact retI (v := x_15) hx hb hr hlk (rfl) hP hD hS () ⟨_, rfl, ⟨trivial, hF_16⟩⟩ [0, 1, 2, 3, 4, 5, 6, 7, 8] rfl rfl dX9_daysSince_34 (Nat.le_of_ble_eq_true rfl) (Nat.le_of_ble_eq_true rfl) rfl
    · skip
      refine lv_bipush (v := 99) hx hb dX9_daysSince_18 (by decide) ?_
      refine lv_goto (tgt := 34) hx hb dX9_daysSince_20 (by decide) ?_
      have hF_17 : (99 : Int32) = (dX9_daysSince (Af 8) (Av 3) (Av 4) x1) := by
        clear hP hD hS hl
        replace er_4 := er_4.symm; subst er_4
        replace ex_11 := ex_11.symm; subst ex_11
        unfold dX9_daysSince
        rw [if_neg c_8, if_pos c_12]
        try rfl
      exact retI (v := 99) hx hb hr hlk (rfl) hP hD hS () ⟨_, rfl, ⟨trivial, hF_17⟩⟩ [0, 1, 2, 3, 4, 5, 6, 7, 8] rfl rfl dX9_daysSince_34 (Nat.le_of_ble_eq_true rfl) (Nat.le_of_ble_eq_true rfl) rfl
set_option maxRecDepth 100000 in
theorem cu_dX9_daysSince (l : Launch) (D : va_G) (tc : Nat → ClassId) (sk : (Nat → Nat) × (Nat → Nat)) (Aa_0 : Nat) (Aa_1 : Nat) (Aa_2 : Nat) (Aa_3 : Nat) (Aa_4 : Nat) (Aa_5 : Nat) (Aa_6 : Nat) (Aa_7 : Nat) (Aa_8 : Nat) (Av_0 : Int32) (Av_1 : Int32) (Av_2 : Int32) (Av_3 : Int32) (Av_4 : Int32) (Av_5 : Int32) (Af_1 : Nat → Int32) (Af_2 : Nat → Int32) (Af_3 : Nat → Int32) (Af_4 : Nat → Int32) (Af_5 : Nat → Int32) (Af_6 : Nat → Int32) (Af_7 : Nat → Int32) (Af_8 : Nat → Int32) (x1 : Int32)  : Ct l yX9_daysSince cX9_daysSince 2 (some .int) { frames := 1, cells := 0, slots := 0, locals := 21 } D tc sk [.ref Aa_0, .int x1] [(Aa_0, .inr (9, [.int Av_0, .int Av_1, .int Av_2, .int Av_3, .int Av_4, .int Av_5, .ref Aa_1, .ref Aa_2, .ref Aa_3, .ref Aa_4, .ref Aa_5, .ref Aa_6, .ref Aa_7, .ref Aa_8])), (Aa_1, .inl (tc 0, 10, .inl Af_1)), (Aa_2, .inl (tc 0, 10, .inl Af_2)), (Aa_3, .inl (tc 0, 6, .inl Af_3)), (Aa_4, .inl (tc 0, 6, .inl Af_4)), (Aa_5, .inl (tc 0, 6, .inl Af_5)), (Aa_6, .inl (tc 0, 6, .inl Af_6)), (Aa_7, .inl (tc 0, 6, .inl Af_7)), (Aa_8, .inl (tc 0, 6, .inl Af_8))] (fun (v : Option Value) (_ : Unit) => ∃ r : Int32, v = some (.int r) ∧ ((True) ∧ r = (dX9_daysSince Af_8 Av_3 Av_4 x1))) (fun (_ : Unit) => [(Aa_0, .inr (9, [.int Av_0, .int Av_1, .int Av_2, .int Av_3, .int Av_4, .int Av_5, .ref Aa_1, .ref Aa_2, .ref Aa_3, .ref Aa_4, .ref Aa_5, .ref Aa_6, .ref Aa_7, .ref Aa_8])), (Aa_1, .inl (tc 0, 10, .inl Af_1)), (Aa_2, .inl (tc 0, 10, .inl Af_2)), (Aa_3, .inl (tc 0, 6, .inl Af_3)), (Aa_4, .inl (tc 0, 6, .inl Af_4)), (Aa_5, .inl (tc 0, 6, .inl Af_5)), (Aa_6, .inl (tc 0, 6, .inl Af_6)), (Aa_7, .inl (tc 0, 6, .inl Af_7)), (Aa_8, .inl (tc 0, 6, .inl Af_8))]) 0 0 :=
  ct_dX9_daysSince l D tc sk (fun k => ([Aa_0, Aa_1, Aa_2, Aa_3, Aa_4, Aa_5, Aa_6, Aa_7, Aa_8] : List (Nat)).getD k 0) (fun k => ([Av_0, Av_1, Av_2, Av_3, Av_4, Av_5] : List (Int32)).getD k 0) (fun k => ([(fun _ => 0), Af_1, Af_2, Af_3, Af_4, Af_5, Af_6, Af_7, Af_8] : List (Nat → Int32)).getD k (fun _ => 0)) x1 
set_option maxHeartbeats 4000000 in
set_option maxRecDepth 100000 in
theorem ct_dX9_canBuy (l : Launch) (D : va_G) (tc : Nat → ClassId) (sk : (Nat → Nat) × (Nat → Nat)) (Aa : Nat → Nat) (Av : Nat → Int32) (Af : Nat → Nat → Int32) (x1 : Int32)  : Ct l yX9_canBuy cX9_canBuy 2 (some .boolean) { frames := 1, cells := 0, slots := 0, locals := 21 } D tc sk [.ref (Aa 0), .int x1] [((Aa 0), .inr (9, [.int (Av 0), .int (Av 1), .int (Av 2), .int (Av 3), .int (Av 4), .int (Av 5), .ref (Aa 1), .ref (Aa 2), .ref (Aa 3), .ref (Aa 4), .ref (Aa 5), .ref (Aa 6), .ref (Aa 7), .ref (Aa 8)])), ((Aa 1), .inl (tc 0, 10, .inl (Af 1))), ((Aa 2), .inl (tc 0, 10, .inl (Af 2))), ((Aa 3), .inl (tc 0, 6, .inl (Af 3))), ((Aa 4), .inl (tc 0, 6, .inl (Af 4))), ((Aa 5), .inl (tc 0, 6, .inl (Af 5))), ((Aa 6), .inl (tc 0, 6, .inl (Af 6))), ((Aa 7), .inl (tc 0, 6, .inl (Af 7))), ((Aa 8), .inl (tc 0, 6, .inl (Af 8)))] (fun (v : Option Value) (_ : Unit) => ∃ r : Int32, v = some (.int r) ∧ (((r.toInt = 0 ∨ r.toInt = 1)) ∧ r = (dX9_canBuy (Af 4) (Af 5) (Af 8) (Av 0) (Av 3) (Av 4) x1))) (fun (_ : Unit) => [((Aa 0), .inr (9, [.int (Av 0), .int (Av 1), .int (Av 2), .int (Av 3), .int (Av 4), .int (Av 5), .ref (Aa 1), .ref (Aa 2), .ref (Aa 3), .ref (Aa 4), .ref (Aa 5), .ref (Aa 6), .ref (Aa 7), .ref (Aa 8)])), ((Aa 1), .inl (tc 0, 10, .inl (Af 1))), ((Aa 2), .inl (tc 0, 10, .inl (Af 2))), ((Aa 3), .inl (tc 0, 6, .inl (Af 3))), ((Aa 4), .inl (tc 0, 6, .inl (Af 4))), ((Aa 5), .inl (tc 0, 6, .inl (Af 5))), ((Aa 6), .inl (tc 0, 6, .inl (Af 6))), ((Aa 7), .inl (tc 0, 6, .inl (Af 7))), ((Aa 8), .inl (tc 0, 6, .inl (Af 8)))]) 0 0 := by
  refine Ct.start (by decide) (Nat.le_of_ble_eq_true rfl) (fun p e s m below meth c A ls hx hb hr hlk hin hml hown hts hK hX hP hD hA hl hS => ?_)
  have hl : lv_has ls 2 [(0, .ref (Aa 0)), (1, .int x1)] := hl
  refine lv_aload_n hx hb dX9_canBuy_0 rfl (lv_at hl 0 rfl) ?_
  refine lv_iload_n hx hb dX9_canBuy_1 rfl (lv_at hl 1 rfl) ?_
  refine cV (a := (Aa 0)) (As := [.int x1]) (rest := []) (wr := []) ⟨hx, hb, hml, hown, hts⟩ hK hX hA (cu_dX9_hasBuyer l D tc sk (Aa 0) (Aa 1) (Aa 2) (Aa 3) (Aa 4) (Aa 5) (Aa 6) (Aa 7) (Aa 8) (Av 0) (Av 1) (Av 2) (Av 3) (Av 4) (Av 5) (Af 1) (Af 2) (Af 3) (Af 4) (Af 5) (Af 6) (Af 7) (Af 8) x1) k_591 k_707 k_589 k_590 k_98 pl_X9_hasBuyer ⟨Nat.le_of_ble_eq_true rfl, Nat.le_of_ble_eq_true rfl⟩ rfl rfl (va_recv hK hP (ci := 9) (q0 := 0) rfl rfl) hP hD hS [0, 1, 2, 3, 4, 5, 6, 7, 8] [] rfl rfl rfl rfl rfl (by decide) rfl hl.1 rfl (Nat.le_of_ble_eq_true rfl) dX9_canBuy_2 ⟨Nat.le_of_ble_eq_true rfl, Nat.le_of_ble_eq_true rfl⟩ (fun v_1 u_2 H locs hv_3 hP₀ hD₀ hS₀ => ?_)
  obtain ⟨r_4, rfl, he_5⟩ := hv_3
  have he_5 : ((r_4.toInt = 0 ∨ (r_4.toInt = 1 ∧ 0 ≤ x1.toInt ∧ x1.toInt < 6 ∧ x1.toInt < (Av 3).toInt))) ∧ r_4 = (dX9_hasBuyer (Av 3) x1) := he_5
  refine W.eq (g2 := F0 m 5 ls [.int r_4]) rfl ?_
  replace hP : va_P D classes [((Aa 0), .inr (9, [.int (Av 0), .int (Av 1), .int (Av 2), .int (Av 3), .int (Av 4), .int (Av 5), .ref (Aa 1), .ref (Aa 2), .ref (Aa 3), .ref (Aa 4), .ref (Aa 5), .ref (Aa 6), .ref (Aa 7), .ref (Aa 8)])), ((Aa 1), .inl (tc 0, 10, .inl (Af 1))), ((Aa 2), .inl (tc 0, 10, .inl (Af 2))), ((Aa 3), .inl (tc 0, 6, .inl (Af 3))), ((Aa 4), .inl (tc 0, 6, .inl (Af 4))), ((Aa 5), .inl (tc 0, 6, .inl (Af 5))), ((Aa 6), .inl (tc 0, 6, .inl (Af 6))), ((Aa 7), .inl (tc 0, 6, .inl (Af 7))), ((Aa 8), .inl (tc 0, 6, .inl (Af 8)))] H := hP₀
  replace hD : va_D A [((Aa 0), .inr (9, [.int (Av 0), .int (Av 1), .int (Av 2), .int (Av 3), .int (Av 4), .int (Av 5), .ref (Aa 1), .ref (Aa 2), .ref (Aa 3), .ref (Aa 4), .ref (Aa 5), .ref (Aa 6), .ref (Aa 7), .ref (Aa 8)])), ((Aa 1), .inl (tc 0, 10, .inl (Af 1))), ((Aa 2), .inl (tc 0, 10, .inl (Af 2))), ((Aa 3), .inl (tc 0, 6, .inl (Af 3))), ((Aa 4), .inl (tc 0, 6, .inl (Af 4))), ((Aa 5), .inl (tc 0, 6, .inl (Af 5))), ((Aa 6), .inl (tc 0, 6, .inl (Af 6))), ((Aa 7), .inl (tc 0, 6, .inl (Af 7))), ((Aa 8), .inl (tc 0, 6, .inl (Af 8)))] := hD₀
  replace hS := hS₀
  clear hP₀ hD₀ hS₀
  obtain ⟨he_5, hq_7⟩ := he_5
  have er_4 : r_4 = (dX9_hasBuyer (Av 3) x1) := hq_7
  refine lv_if_eq (tgt := 21) hx hb dX9_canBuy_5 (by decide) (fun c_8 => ?_) (fun c_8 => ?_)
  · skip
    refine lv_iconst (v := 0) hx hb dX9_canBuy_21 (by decide) ?_
    have hp_9 : ((0 : Int32).toInt = 0 ∨ (0 : Int32).toInt = 1) := by
      have z_1 := congrArg Int32.toInt c_8
      have y_0 : (0 : Int32).toInt = 0 := by decide
      omega
    have hF_10 : (0 : Int32) = (dX9_canBuy (Af 4) (Af 5) (Af 8) (Av 0) (Av 3) (Av 4) x1) := by
      clear hP hD hS hl
      replace er_4 := er_4.symm; subst er_4
      unfold dX9_canBuy
      rw [if_pos c_8]
      try rfl
    exact retI (v := 0) hx hb hr hlk (rfl) hP hD hS () ⟨_, rfl, ⟨hp_9, hF_10⟩⟩ [0, 1, 2, 3, 4, 5, 6, 7, 8] rfl rfl dX9_canBuy_22 (Nat.le_of_ble_eq_true rfl) (Nat.le_of_ble_eq_true rfl) rfl
  · skip
    refine lv_aload_n hx hb dX9_canBuy_8 rfl (lv_at hl 0 rfl) ?_
    refine gf_X9_9 hx hb hts hown hK hP 0 rfl rfl dX9_canBuy_9 ?_
    refine lv_aload_n hx hb dX9_canBuy_12 rfl (lv_at hl 0 rfl) ?_
    refine gf_X9_40 hx hb hts hown hK hP 0 rfl rfl dX9_canBuy_13 ?_
    refine lv_iload_n hx hb dX9_canBuy_16 rfl (lv_at hl 1 rfl) ?_
    have hi_11 : vp_in x1 6 := by
      have z_1 : ¬ (r_4 : Int32).toInt = (0 : Int32).toInt := fun z => c_8 (Int32.toInt_inj.mp z)
      have y_0 : (0 : Int32).toInt = 0 := by decide
      refine vp_in_iff.mpr ⟨?_, ?_⟩ <;> omega
    refine va_iald hx hb hK hP 4 0 rfl rfl hi_11 dX9_canBuy_17 ?_
    refine lv_topi (fun x_12 ex_12 => ?_)
    refine lv_icmp_ge (tgt := 23) hx hb dX9_canBuy_18 (by decide) (fun c_13 => ?_) (fun c_13 => ?_)
    · skip
      refine lv_aload_n hx hb dX9_canBuy_23 rfl (lv_at hl 0 rfl) ?_
      refine gf_X9_52 hx hb hts hown hK hP 0 rfl rfl dX9_canBuy_24 ?_
      refine lv_iload_n hx hb dX9_canBuy_27 rfl (lv_at hl 1 rfl) ?_
      have hi_14 : vp_in x1 6 := by
        have z_1 : ¬ (r_4 : Int32).toInt = (0 : Int32).toInt := fun z => c_8 (Int32.toInt_inj.mp z)
        have z_2 := Int32.le_iff_toInt_le.mp c_13
        have y_0 : (0 : Int32).toInt = 0 := by decide
        refine vp_in_iff.mpr ⟨?_, ?_⟩ <;> omega
      refine va_iald hx hb hK hP 8 0 rfl rfl hi_14 dX9_canBuy_28 ?_
      refine lv_topi (fun x_15 ex_15 => ?_)
      refine lv_iconst (v := (-1)) hx hb dX9_canBuy_29 (by decide) ?_
      refine lv_icmp_eq (tgt := 53) hx hb dX9_canBuy_30 (by decide) (fun c_16 => ?_) (fun c_16 => ?_)
      · skip
        refine lv_iconst (v := 1) hx hb dX9_canBuy_53 (by decide) ?_
        refine lv_goto (tgt := 58) hx hb dX9_canBuy_54 (by decide) ?_
        have hp_17 : ((1 : Int32).toInt = 0 ∨ (1 : Int32).toInt = 1) := by
          have z_1 : ¬ (r_4 : Int32).toInt = (0 : Int32).toInt := fun z => c_8 (Int32.toInt_inj.mp z)
          have z_2 := Int32.le_iff_toInt_le.mp c_13
          have z_3 := congrArg Int32.toInt c_16
          have y_m1 : (-1 : Int32).toInt = -1 := by decide
          have y_0 : (0 : Int32).toInt = 0 := by decide
          have y_1 : (1 : Int32).toInt = 1 := by decide
          have yr : (1 : Int32).toInt = 1 := by decide
          omega
        have hF_18 : (1 : Int32) = (dX9_canBuy (Af 4) (Af 5) (Af 8) (Av 0) (Av 3) (Av 4) x1) := by
          clear hP hD hS hl
          replace er_4 := er_4.symm; subst er_4
          replace ex_12 := ex_12.symm; subst ex_12
          replace ex_15 := ex_15.symm; subst ex_15
          unfold dX9_canBuy
          rw [if_neg c_8, if_pos c_13, if_pos c_16]
          try rfl
        exact retI (v := 1) hx hb hr hlk (rfl) hP hD hS () ⟨_, rfl, ⟨hp_17, hF_18⟩⟩ [0, 1, 2, 3, 4, 5, 6, 7, 8] rfl rfl dX9_canBuy_58 (Nat.le_of_ble_eq_true rfl) (Nat.le_of_ble_eq_true rfl) rfl
      · skip
        refine lv_aload_n hx hb dX9_canBuy_33 rfl (lv_at hl 0 rfl) ?_
        refine gf_X9_24 hx hb hts hown hK hP 0 rfl rfl dX9_canBuy_34 ?_
        refine lv_aload_n hx hb dX9_canBuy_37 rfl (lv_at hl 0 rfl) ?_
        refine gf_X9_52 hx hb hts hown hK hP 0 rfl rfl dX9_canBuy_38 ?_
        refine lv_iload_n hx hb dX9_canBuy_41 rfl (lv_at hl 1 rfl) ?_
        have hi_19 : vp_in x1 6 := by
          have z_1 : ¬ (r_4 : Int32).toInt = (0 : Int32).toInt := fun z => c_8 (Int32.toInt_inj.mp z)
          have z_2 := Int32.le_iff_toInt_le.mp c_13
          have z_3 : ¬ (x_15 : Int32).toInt = ((-1) : Int32).toInt := fun z => c_16 (Int32.toInt_inj.mp z)
          have y_m1 : (-1 : Int32).toInt = -1 := by decide
          have y_0 : (0 : Int32).toInt = 0 := by decide
          refine vp_in_iff.mpr ⟨?_, ?_⟩ <;> omega
        refine va_iald hx hb hK hP 8 0 rfl rfl hi_19 dX9_canBuy_42 ?_
        refine lv_topi (fun x_20 ex_20 => ?_)
        refine lv_isub hx hb dX9_canBuy_43 ?_
        refine lv_topi (fun x_21 ex_21 => ?_)
        refine lv_aload_n hx hb dX9_canBuy_44 rfl (lv_at hl 0 rfl) ?_
        refine gf_X9_43 hx hb hts hown hK hP 0 rfl rfl dX9_canBuy_45 ?_
        refine lv_iload_n hx hb dX9_canBuy_48 rfl (lv_at hl 1 rfl) ?_
        have hi_22 : vp_in x1 6 := by
          have z_1 : ¬ (r_4 : Int32).toInt = (0 : Int32).toInt := fun z => c_8 (Int32.toInt_inj.mp z)
          have z_2 := Int32.le_iff_toInt_le.mp c_13
          have z_3 : ¬ (x_15 : Int32).toInt = ((-1) : Int32).toInt := fun z => c_16 (Int32.toInt_inj.mp z)
          have y_m1 : (-1 : Int32).toInt = -1 := by decide
          have y_0 : (0 : Int32).toInt = 0 := by decide
          refine vp_in_iff.mpr ⟨?_, ?_⟩ <;> omega
        refine va_iald hx hb hK hP 5 0 rfl rfl hi_22 dX9_canBuy_49 ?_
        refine lv_topi (fun x_23 ex_23 => ?_)
        refine lv_icmp_le (tgt := 57) hx hb dX9_canBuy_50 (by decide) (fun c_24 => ?_) (fun c_24 => ?_)
        · skip
          refine lv_iconst (v := 0) hx hb dX9_canBuy_57 (by decide) ?_
          have hp_25 : ((0 : Int32).toInt = 0 ∨ (0 : Int32).toInt = 1) := by
            have z_1 : ¬ (r_4 : Int32).toInt = (0 : Int32).toInt := fun z => c_8 (Int32.toInt_inj.mp z)
            have z_2 := Int32.le_iff_toInt_le.mp c_13
            have z_3 : ¬ (x_15 : Int32).toInt = ((-1) : Int32).toInt := fun z => c_16 (Int32.toInt_inj.mp z)
            have z_4 := Int32.le_iff_toInt_le.mp c_24
            have y_m1 : (-1 : Int32).toInt = -1 := by decide
            have y_0 : (0 : Int32).toInt = 0 := by decide
            omega
          have hF_26 : (0 : Int32) = (dX9_canBuy (Af 4) (Af 5) (Af 8) (Av 0) (Av 3) (Av 4) x1) := by
            clear hP hD hS hl
            replace er_4 := er_4.symm; subst er_4
            replace ex_12 := ex_12.symm; subst ex_12
            replace ex_15 := ex_15.symm; subst ex_15
            replace ex_20 := ex_20.symm; subst ex_20
            replace ex_21 := ex_21.symm; subst ex_21
            replace ex_23 := ex_23.symm; subst ex_23
            unfold dX9_canBuy
            rw [if_neg c_8, if_pos c_13, if_neg c_16, if_pos c_24]
            try rfl
          exact retI (v := 0) hx hb hr hlk (rfl) hP hD hS () ⟨_, rfl, ⟨hp_25, hF_26⟩⟩ [0, 1, 2, 3, 4, 5, 6, 7, 8] rfl rfl dX9_canBuy_58 (Nat.le_of_ble_eq_true rfl) (Nat.le_of_ble_eq_true rfl) rfl
        · skip
          refine lv_iconst (v := 1) hx hb dX9_canBuy_53 (by decide) ?_
          refine lv_goto (tgt := 58) hx hb dX9_canBuy_54 (by decide) ?_
          have hp_27 : ((1 : Int32).toInt = 0 ∨ (1 : Int32).toInt = 1) := by
            have z_1 : ¬ (r_4 : Int32).toInt = (0 : Int32).toInt := fun z => c_8 (Int32.toInt_inj.mp z)
            have z_2 := Int32.le_iff_toInt_le.mp c_13
            have z_3 : ¬ (x_15 : Int32).toInt = ((-1) : Int32).toInt := fun z => c_16 (Int32.toInt_inj.mp z)
            have z_4 := Int32.lt_iff_toInt_lt.mp (Int32.not_le.mp c_24)
            have y_m1 : (-1 : Int32).toInt = -1 := by decide
            have y_0 : (0 : Int32).toInt = 0 := by decide
            have y_1 : (1 : Int32).toInt = 1 := by decide
            have yr : (1 : Int32).toInt = 1 := by decide
            omega
          have hF_28 : (1 : Int32) = (dX9_canBuy (Af 4) (Af 5) (Af 8) (Av 0) (Av 3) (Av 4) x1) := by
            clear hP hD hS hl
            replace er_4 := er_4.symm; subst er_4
            replace ex_12 := ex_12.symm; subst ex_12
            replace ex_15 := ex_15.symm; subst ex_15
            replace ex_20 := ex_20.symm; subst ex_20
            replace ex_21 := ex_21.symm; subst ex_21
            replace ex_23 := ex_23.symm; subst ex_23
            unfold dX9_canBuy
            rw [if_neg c_8, if_pos c_13, if_neg c_16, if_neg c_24]
            try rfl
          exact retI (v := 1) hx hb hr hlk (rfl) hP hD hS () ⟨_, rfl, ⟨hp_27, hF_28⟩⟩ [0, 1, 2, 3, 4, 5, 6, 7, 8] rfl rfl dX9_canBuy_58 (Nat.le_of_ble_eq_true rfl) (Nat.le_of_ble_eq_true rfl) rfl
    · skip
      refine lv_iconst (v := 0) hx hb dX9_canBuy_21 (by decide) ?_
      have hp_29 : ((0 : Int32).toInt = 0 ∨ (0 : Int32).toInt = 1) := by
        have z_1 : ¬ (r_4 : Int32).toInt = (0 : Int32).toInt := fun z => c_8 (Int32.toInt_inj.mp z)
        have z_2 := Int32.lt_iff_toInt_lt.mp (Int32.not_le.mp c_13)
        have y_0 : (0 : Int32).toInt = 0 := by decide
        omega
      have hF_30 : (0 : Int32) = (dX9_canBuy (Af 4) (Af 5) (Af 8) (Av 0) (Av 3) (Av 4) x1) := by
        clear hP hD hS hl
        replace er_4 := er_4.symm; subst er_4
        replace ex_12 := ex_12.symm; subst ex_12
        unfold dX9_canBuy
        rw [if_neg c_8, if_neg c_13]
        try rfl
      exact retI (v := 0) hx hb hr hlk (rfl) hP hD hS () ⟨_, rfl, ⟨hp_29, hF_30⟩⟩ [0, 1, 2, 3, 4, 5, 6, 7, 8] rfl rfl dX9_canBuy_22 (Nat.le_of_ble_eq_true rfl) (Nat.le_of_ble_eq_true rfl) rfl
set_option maxRecDepth 100000 in
theorem cu_dX9_canBuy (l : Launch) (D : va_G) (tc : Nat → ClassId) (sk : (Nat → Nat) × (Nat → Nat)) (Aa_0 : Nat) (Aa_1 : Nat) (Aa_2 : Nat) (Aa_3 : Nat) (Aa_4 : Nat) (Aa_5 : Nat) (Aa_6 : Nat) (Aa_7 : Nat) (Aa_8 : Nat) (Av_0 : Int32) (Av_1 : Int32) (Av_2 : Int32) (Av_3 : Int32) (Av_4 : Int32) (Av_5 : Int32) (Af_1 : Nat → Int32) (Af_2 : Nat → Int32) (Af_3 : Nat → Int32) (Af_4 : Nat → Int32) (Af_5 : Nat → Int32) (Af_6 : Nat → Int32) (Af_7 : Nat → Int32) (Af_8 : Nat → Int32) (x1 : Int32)  : Ct l yX9_canBuy cX9_canBuy 2 (some .boolean) { frames := 1, cells := 0, slots := 0, locals := 21 } D tc sk [.ref Aa_0, .int x1] [(Aa_0, .inr (9, [.int Av_0, .int Av_1, .int Av_2, .int Av_3, .int Av_4, .int Av_5, .ref Aa_1, .ref Aa_2, .ref Aa_3, .ref Aa_4, .ref Aa_5, .ref Aa_6, .ref Aa_7, .ref Aa_8])), (Aa_1, .inl (tc 0, 10, .inl Af_1)), (Aa_2, .inl (tc 0, 10, .inl Af_2)), (Aa_3, .inl (tc 0, 6, .inl Af_3)), (Aa_4, .inl (tc 0, 6, .inl Af_4)), (Aa_5, .inl (tc 0, 6, .inl Af_5)), (Aa_6, .inl (tc 0, 6, .inl Af_6)), (Aa_7, .inl (tc 0, 6, .inl Af_7)), (Aa_8, .inl (tc 0, 6, .inl Af_8))] (fun (v : Option Value) (_ : Unit) => ∃ r : Int32, v = some (.int r) ∧ (((r.toInt = 0 ∨ r.toInt = 1)) ∧ r = (dX9_canBuy Af_4 Af_5 Af_8 Av_0 Av_3 Av_4 x1))) (fun (_ : Unit) => [(Aa_0, .inr (9, [.int Av_0, .int Av_1, .int Av_2, .int Av_3, .int Av_4, .int Av_5, .ref Aa_1, .ref Aa_2, .ref Aa_3, .ref Aa_4, .ref Aa_5, .ref Aa_6, .ref Aa_7, .ref Aa_8])), (Aa_1, .inl (tc 0, 10, .inl Af_1)), (Aa_2, .inl (tc 0, 10, .inl Af_2)), (Aa_3, .inl (tc 0, 6, .inl Af_3)), (Aa_4, .inl (tc 0, 6, .inl Af_4)), (Aa_5, .inl (tc 0, 6, .inl Af_5)), (Aa_6, .inl (tc 0, 6, .inl Af_6)), (Aa_7, .inl (tc 0, 6, .inl Af_7)), (Aa_8, .inl (tc 0, 6, .inl Af_8))]) 0 0 :=
  ct_dX9_canBuy l D tc sk (fun k => ([Aa_0, Aa_1, Aa_2, Aa_3, Aa_4, Aa_5, Aa_6, Aa_7, Aa_8] : List (Nat)).getD k 0) (fun k => ([Av_0, Av_1, Av_2, Av_3, Av_4, Av_5] : List (Int32)).getD k 0) (fun k => ([(fun _ => 0), Af_1, Af_2, Af_3, Af_4, Af_5, Af_6, Af_7, Af_8] : List (Nat → Int32)).getD k (fun _ => 0)) x1 
set_option maxHeartbeats 4000000 in
set_option maxRecDepth 100000 in
theorem ct_dX9_wordOf (l : Launch) (D : va_G) (tc : Nat → ClassId) (sk : (Nat → Nat) × (Nat → Nat)) (Aa : Nat → Nat) (Av : Nat → Int32) (Af : Nat → Nat → Int32) (x1 : Int32) (x2 : Int32)  : Ct l yX9_wordOf cX9_wordOf 3 (some .long) { frames := 2, cells := 0, slots := 0, locals := 42 } D tc sk [.ref (Aa 0), .int x1, .int x2] [((Aa 0), .inr (9, [.int (Av 0), .int (Av 1), .int (Av 2), .int (Av 3), .int (Av 4), .int (Av 5), .ref (Aa 1), .ref (Aa 2), .ref (Aa 3), .ref (Aa 4), .ref (Aa 5), .ref (Aa 6), .ref (Aa 7), .ref (Aa 8)])), ((Aa 1), .inl (tc 0, 10, .inl (Af 1))), ((Aa 2), .inl (tc 0, 10, .inl (Af 2))), ((Aa 3), .inl (tc 0, 6, .inl (Af 3))), ((Aa 4), .inl (tc 0, 6, .inl (Af 4))), ((Aa 5), .inl (tc 0, 6, .inl (Af 5))), ((Aa 6), .inl (tc 0, 6, .inl (Af 6))), ((Aa 7), .inl (tc 0, 6, .inl (Af 7))), ((Aa 8), .inl (tc 0, 6, .inl (Af 8)))] (fun (v : Option Value) (_ : Unit) => ∃ r : Int64, v = some (.long r) ∧ ((True) ∧ r = (dX9_wordOf (Af 1) (Af 3) (Af 4) (Af 5) (Af 6) (Af 7) (Af 8) (Av 0) (Av 2) (Av 3) (Av 4) (Av 5) x1 x2))) (fun (_ : Unit) => [((Aa 0), .inr (9, [.int (Av 0), .int (Av 1), .int (Av 2), .int (Av 3), .int (Av 4), .int (Av 5), .ref (Aa 1), .ref (Aa 2), .ref (Aa 3), .ref (Aa 4), .ref (Aa 5), .ref (Aa 6), .ref (Aa 7), .ref (Aa 8)])), ((Aa 1), .inl (tc 0, 10, .inl (Af 1))), ((Aa 2), .inl (tc 0, 10, .inl (Af 2))), ((Aa 3), .inl (tc 0, 6, .inl (Af 3))), ((Aa 4), .inl (tc 0, 6, .inl (Af 4))), ((Aa 5), .inl (tc 0, 6, .inl (Af 5))), ((Aa 6), .inl (tc 0, 6, .inl (Af 6))), ((Aa 7), .inl (tc 0, 6, .inl (Af 7))), ((Aa 8), .inl (tc 0, 6, .inl (Af 8)))]) 0 0 := by
  refine Ct.start (by decide) (Nat.le_of_ble_eq_true rfl) (fun p e s m below meth c A ls hx hb hr hlk hin hml hown hts hK hX hP hD hA hl hS => ?_)
  have hl : lv_has ls 3 [(0, .ref (Aa 0)), (1, .int x1), (2, .int x2)] := hl
  refine lv_aload_n hx hb dX9_wordOf_0 rfl (lv_at hl 0 rfl) ?_
  refine lv_iload_n hx hb dX9_wordOf_1 rfl (lv_at hl 2 rfl) ?_
  refine cV (a := (Aa 0)) (As := [.int x2]) (rest := []) (wr := []) ⟨hx, hb, hml, hown, hts⟩ hK hX hA (cu_dX9_hasBuyer l D tc sk (Aa 0) (Aa 1) (Aa 2) (Aa 3) (Aa 4) (Aa 5) (Aa 6) (Aa 7) (Aa 8) (Av 0) (Av 1) (Av 2) (Av 3) (Av 4) (Av 5) (Af 1) (Af 2) (Af 3) (Af 4) (Af 5) (Af 6) (Af 7) (Af 8) x2) k_591 k_707 k_589 k_590 k_98 pl_X9_hasBuyer ⟨Nat.le_of_ble_eq_true rfl, Nat.le_of_ble_eq_true rfl⟩ rfl rfl (va_recv hK hP (ci := 9) (q0 := 0) rfl rfl) hP hD hS [0, 1, 2, 3, 4, 5, 6, 7, 8] [] rfl rfl rfl rfl rfl (by decide) rfl hl.1 rfl (Nat.le_of_ble_eq_true rfl) dX9_wordOf_2 ⟨Nat.le_of_ble_eq_true rfl, Nat.le_of_ble_eq_true rfl⟩ (fun v_1 u_2 H locs hv_3 hP₀ hD₀ hS₀ => ?_)
  obtain ⟨r_4, rfl, he_5⟩ := hv_3
  have he_5 : ((r_4.toInt = 0 ∨ (r_4.toInt = 1 ∧ 0 ≤ x2.toInt ∧ x2.toInt < 6 ∧ x2.toInt < (Av 3).toInt))) ∧ r_4 = (dX9_hasBuyer (Av 3) x2) := he_5
  refine W.eq (g2 := F0 m 5 ls [.int r_4]) rfl ?_
  replace hP : va_P D classes [((Aa 0), .inr (9, [.int (Av 0), .int (Av 1), .int (Av 2), .int (Av 3), .int (Av 4), .int (Av 5), .ref (Aa 1), .ref (Aa 2), .ref (Aa 3), .ref (Aa 4), .ref (Aa 5), .ref (Aa 6), .ref (Aa 7), .ref (Aa 8)])), ((Aa 1), .inl (tc 0, 10, .inl (Af 1))), ((Aa 2), .inl (tc 0, 10, .inl (Af 2))), ((Aa 3), .inl (tc 0, 6, .inl (Af 3))), ((Aa 4), .inl (tc 0, 6, .inl (Af 4))), ((Aa 5), .inl (tc 0, 6, .inl (Af 5))), ((Aa 6), .inl (tc 0, 6, .inl (Af 6))), ((Aa 7), .inl (tc 0, 6, .inl (Af 7))), ((Aa 8), .inl (tc 0, 6, .inl (Af 8)))] H := hP₀
  replace hD : va_D A [((Aa 0), .inr (9, [.int (Av 0), .int (Av 1), .int (Av 2), .int (Av 3), .int (Av 4), .int (Av 5), .ref (Aa 1), .ref (Aa 2), .ref (Aa 3), .ref (Aa 4), .ref (Aa 5), .ref (Aa 6), .ref (Aa 7), .ref (Aa 8)])), ((Aa 1), .inl (tc 0, 10, .inl (Af 1))), ((Aa 2), .inl (tc 0, 10, .inl (Af 2))), ((Aa 3), .inl (tc 0, 6, .inl (Af 3))), ((Aa 4), .inl (tc 0, 6, .inl (Af 4))), ((Aa 5), .inl (tc 0, 6, .inl (Af 5))), ((Aa 6), .inl (tc 0, 6, .inl (Af 6))), ((Aa 7), .inl (tc 0, 6, .inl (Af 7))), ((Aa 8), .inl (tc 0, 6, .inl (Af 8)))] := hD₀
  replace hS := hS₀
  clear hP₀ hD₀ hS₀
  obtain ⟨he_5, hq_7⟩ := he_5
  have er_4 : r_4 = (dX9_hasBuyer (Av 3) x2) := hq_7
  refine lv_if_ne (tgt := 10) hx hb dX9_wordOf_5 (by decide) (fun c_8 => ?_) (fun c_8 => ?_)
  · skip
    refine lv_iload_n hx hb dX9_wordOf_10 rfl (lv_at hl 1 rfl) ?_
    refine lv_topi (fun x_9 ex_9 => ?_)
    by_cases c_10 : x_9 = 0
    · skip
      subst c_10
      refine lv_tableIn (off := 61) (tgt := 72) hx hb dX9_wordOf_11 (by decide) (by decide) (by decide) (by decide) ?_
      refine lv_iload_n hx hb dX9_wordOf_72 rfl (lv_at hl 2 rfl) ?_
      refine lv_i2l (v := (x2).toInt64) hx hb dX9_wordOf_73 rfl ?_
      have hF_11 : (x2).toInt64 = (dX9_wordOf (Af 1) (Af 3) (Af 4) (Af 5) (Af 6) (Af 7) (Af 8) (Av 0) (Av 2) (Av 3) (Av 4) (Av 5) x1 x2) := by
        clear hP hD hS hl
        replace er_4 := er_4.symm; subst er_4
        unfold dX9_wordOf
        rw [if_neg c_8, if_pos ex_9.symm]
        try rfl
      exact retL (v := (x2).toInt64) hx hb hr hlk hP hD hS () ⟨_, rfl, ⟨trivial, hF_11⟩⟩ [0, 1, 2, 3, 4, 5, 6, 7, 8] rfl rfl dX9_wordOf_74 (Nat.le_of_ble_eq_true rfl) (Nat.le_of_ble_eq_true rfl) rfl
    · skip
      by_cases c_12 : x_9 = 1
      · skip
        subst c_12
        refine lv_tableIn (off := 64) (tgt := 75) hx hb dX9_wordOf_11 (by decide) (by decide) (by decide) (by decide) ?_
        refine lv_aload_n hx hb dX9_wordOf_75 rfl (lv_at hl 0 rfl) ?_
        refine gf_X9_37 hx hb hts hown hK hP 0 rfl rfl dX9_wordOf_76 ?_
        refine lv_iload_n hx hb dX9_wordOf_79 rfl (lv_at hl 2 rfl) ?_
        have hi_13 : vp_in x2 6 := by
          have z_1 : ¬ (r_4 : Int32).toInt = (0 : Int32).toInt := fun z => c_8 (Int32.toInt_inj.mp z)
          have y_0 : (0 : Int32).toInt = 0 := by decide
          refine vp_in_iff.mpr ⟨?_, ?_⟩ <;> omega
        refine va_iald hx hb hK hP 3 0 rfl rfl hi_13 dX9_wordOf_80 ?_
        refine lv_topi (fun x_14 ex_14 => ?_)
        refine lv_i2l (v := (x_14).toInt64) hx hb dX9_wordOf_81 rfl ?_
        have hF_15 : (x_14).toInt64 = (dX9_wordOf (Af 1) (Af 3) (Af 4) (Af 5) (Af 6) (Af 7) (Af 8) (Av 0) (Av 2) (Av 3) (Av 4) (Av 5) x1 x2) := by
          clear hP hD hS hl
          replace er_4 := er_4.symm; subst er_4
          replace ex_14 := ex_14.symm; subst ex_14
          unfold dX9_wordOf
          rw [if_neg c_8, if_neg (fun z => c_10 (ex_9.trans z)), if_pos ex_9.symm]
          try rfl
        exact retL (v := (x_14).toInt64) hx hb hr hlk hP hD hS () ⟨_, rfl, ⟨trivial, hF_15⟩⟩ [0, 1, 2, 3, 4, 5, 6, 7, 8] rfl rfl dX9_wordOf_82 (Nat.le_of_ble_eq_true rfl) (Nat.le_of_ble_eq_true rfl) rfl
      · skip
        by_cases c_16 : x_9 = 2
        · skip
          subst c_16
          refine lv_tableIn (off := 72) (tgt := 83) hx hb dX9_wordOf_11 (by decide) (by decide) (by decide) (by decide) ?_
          refine lv_aload_n hx hb dX9_wordOf_83 rfl (lv_at hl 0 rfl) ?_
          refine gf_X9_40 hx hb hts hown hK hP 0 rfl rfl dX9_wordOf_84 ?_
          refine lv_iload_n hx hb dX9_wordOf_87 rfl (lv_at hl 2 rfl) ?_
          have hi_17 : vp_in x2 6 := by
            have z_1 : ¬ (r_4 : Int32).toInt = (0 : Int32).toInt := fun z => c_8 (Int32.toInt_inj.mp z)
            have y_0 : (0 : Int32).toInt = 0 := by decide
            refine vp_in_iff.mpr ⟨?_, ?_⟩ <;> omega
          refine va_iald hx hb hK hP 4 0 rfl rfl hi_17 dX9_wordOf_88 ?_
          refine lv_topi (fun x_18 ex_18 => ?_)
          refine lv_i2l (v := (x_18).toInt64) hx hb dX9_wordOf_89 rfl ?_
          have hF_19 : (x_18).toInt64 = (dX9_wordOf (Af 1) (Af 3) (Af 4) (Af 5) (Af 6) (Af 7) (Af 8) (Av 0) (Av 2) (Av 3) (Av 4) (Av 5) x1 x2) := by
            clear hP hD hS hl
            replace er_4 := er_4.symm; subst er_4
            replace ex_18 := ex_18.symm; subst ex_18
            unfold dX9_wordOf
            rw [if_neg c_8, if_neg (fun z => c_10 (ex_9.trans z)), if_neg (fun z => c_12 (ex_9.trans z)), if_pos ex_9.symm]
            try rfl
          exact retL (v := (x_18).toInt64) hx hb hr hlk hP hD hS () ⟨_, rfl, ⟨trivial, hF_19⟩⟩ [0, 1, 2, 3, 4, 5, 6, 7, 8] rfl rfl dX9_wordOf_90 (Nat.le_of_ble_eq_true rfl) (Nat.le_of_ble_eq_true rfl) rfl
        · skip
          by_cases c_20 : x_9 = 3
          · skip
            subst c_20
            refine lv_tableIn (off := 80) (tgt := 91) hx hb dX9_wordOf_11 (by decide) (by decide) (by decide) (by decide) ?_
            refine lv_aload_n hx hb dX9_wordOf_91 rfl (lv_at hl 0 rfl) ?_
            refine gf_X9_43 hx hb hts hown hK hP 0 rfl rfl dX9_wordOf_92 ?_
            refine lv_iload_n hx hb dX9_wordOf_95 rfl (lv_at hl 2 rfl) ?_
            have hi_21 : vp_in x2 6 := by
              have z_1 : ¬ (r_4 : Int32).toInt = (0 : Int32).toInt := fun z => c_8 (Int32.toInt_inj.mp z)
              have y_0 : (0 : Int32).toInt = 0 := by decide
              refine vp_in_iff.mpr ⟨?_, ?_⟩ <;> omega
            refine va_iald hx hb hK hP 5 0 rfl rfl hi_21 dX9_wordOf_96 ?_
            refine lv_topi (fun x_22 ex_22 => ?_)
            refine lv_i2l (v := (x_22).toInt64) hx hb dX9_wordOf_97 rfl ?_
            have hF_23 : (x_22).toInt64 = (dX9_wordOf (Af 1) (Af 3) (Af 4) (Af 5) (Af 6) (Af 7) (Af 8) (Av 0) (Av 2) (Av 3) (Av 4) (Av 5) x1 x2) := by
              clear hP hD hS hl
              replace er_4 := er_4.symm; subst er_4
              replace ex_22 := ex_22.symm; subst ex_22
              unfold dX9_wordOf
              rw [if_neg c_8, if_neg (fun z => c_10 (ex_9.trans z)), if_neg (fun z => c_12 (ex_9.trans z)), if_neg (fun z => c_16 (ex_9.trans z)), if_pos ex_9.symm]
              try rfl
            exact retL (v := (x_22).toInt64) hx hb hr hlk hP hD hS () ⟨_, rfl, ⟨trivial, hF_23⟩⟩ [0, 1, 2, 3, 4, 5, 6, 7, 8] rfl rfl dX9_wordOf_98 (Nat.le_of_ble_eq_true rfl) (Nat.le_of_ble_eq_true rfl) rfl
          · skip
            by_cases c_24 : x_9 = 4
            · skip
              subst c_24
              refine lv_tableIn (off := 88) (tgt := 99) hx hb dX9_wordOf_11 (by decide) (by decide) (by decide) (by decide) ?_
              refine lv_aload_n hx hb dX9_wordOf_99 rfl (lv_at hl 0 rfl) ?_
              refine lv_aload_n hx hb dX9_wordOf_100 rfl (lv_at hl 0 rfl) ?_
              refine gf_X9_24 hx hb hts hown hK hP 0 rfl rfl dX9_wordOf_101 ?_
              refine cV (a := (Aa 0)) (As := [.int (Av 4)]) (rest := []) (wr := []) ⟨hx, hb, hml, hown, hts⟩ hK hX hA (cu_dX9_stillOn l D tc sk (Aa 0) (Aa 1) (Aa 2) (Aa 3) (Aa 4) (Aa 5) (Aa 6) (Aa 7) (Aa 8) (Av 0) (Av 1) (Av 2) (Av 3) (Av 4) (Av 5) (Af 1) (Af 2) (Af 3) (Af 4) (Af 5) (Af 6) (Af 7) (Af 8) (Av 4)) k_743 k_740 k_741 k_742 k_98 pl_X9_stillOn ⟨Nat.le_of_ble_eq_true rfl, Nat.le_of_ble_eq_true rfl⟩ rfl rfl (va_recv hK hP (ci := 9) (q0 := 0) rfl rfl) hP hD hS [0, 1, 2, 3, 4, 5, 6, 7, 8] [] rfl rfl rfl rfl rfl (by decide) rfl hl.1 rfl (Nat.le_of_ble_eq_true rfl) dX9_wordOf_104 ⟨Nat.le_of_ble_eq_true rfl, Nat.le_of_ble_eq_true rfl⟩ (fun v_25 u_26 H locs hv_27 hP₀ hD₀ hS₀ => ?_)
              obtain ⟨r_28, rfl, he_29⟩ := hv_27
              have he_29 : (True) ∧ r_28 = (dX9_stillOn (Af 1) (Av 2) (Av 4)) := he_29
              refine W.eq (g2 := F0 m 107 ls [.int r_28]) rfl ?_
              replace hP : va_P D classes [((Aa 0), .inr (9, [.int (Av 0), .int (Av 1), .int (Av 2), .int (Av 3), .int (Av 4), .int (Av 5), .ref (Aa 1), .ref (Aa 2), .ref (Aa 3), .ref (Aa 4), .ref (Aa 5), .ref (Aa 6), .ref (Aa 7), .ref (Aa 8)])), ((Aa 1), .inl (tc 0, 10, .inl (Af 1))), ((Aa 2), .inl (tc 0, 10, .inl (Af 2))), ((Aa 3), .inl (tc 0, 6, .inl (Af 3))), ((Aa 4), .inl (tc 0, 6, .inl (Af 4))), ((Aa 5), .inl (tc 0, 6, .inl (Af 5))), ((Aa 6), .inl (tc 0, 6, .inl (Af 6))), ((Aa 7), .inl (tc 0, 6, .inl (Af 7))), ((Aa 8), .inl (tc 0, 6, .inl (Af 8)))] H := hP₀
              replace hD : va_D A [((Aa 0), .inr (9, [.int (Av 0), .int (Av 1), .int (Av 2), .int (Av 3), .int (Av 4), .int (Av 5), .ref (Aa 1), .ref (Aa 2), .ref (Aa 3), .ref (Aa 4), .ref (Aa 5), .ref (Aa 6), .ref (Aa 7), .ref (Aa 8)])), ((Aa 1), .inl (tc 0, 10, .inl (Af 1))), ((Aa 2), .inl (tc 0, 10, .inl (Af 2))), ((Aa 3), .inl (tc 0, 6, .inl (Af 3))), ((Aa 4), .inl (tc 0, 6, .inl (Af 4))), ((Aa 5), .inl (tc 0, 6, .inl (Af 5))), ((Aa 6), .inl (tc 0, 6, .inl (Af 6))), ((Aa 7), .inl (tc 0, 6, .inl (Af 7))), ((Aa 8), .inl (tc 0, 6, .inl (Af 8)))] := hD₀
              replace hS := hS₀
              clear hP₀ hD₀ hS₀
              obtain ⟨he_29, hq_31⟩ := he_29
              have er_28 : r_28 = (dX9_stillOn (Af 1) (Av 2) (Av 4)) := hq_31
              refine lv_i2l (v := (r_28).toInt64) hx hb dX9_wordOf_107 rfl ?_
              have hF_32 : (r_28).toInt64 = (dX9_wordOf (Af 1) (Af 3) (Af 4) (Af 5) (Af 6) (Af 7) (Af 8) (Av 0) (Av 2) (Av 3) (Av 4) (Av 5) x1 x2) := by
                clear hP hD hS hl
                replace er_4 := er_4.symm; subst er_4
                replace er_28 := er_28.symm; subst er_28
                unfold dX9_wordOf
                rw [if_neg c_8, if_neg (fun z => c_10 (ex_9.trans z)), if_neg (fun z => c_12 (ex_9.trans z)), if_neg (fun z => c_16 (ex_9.trans z)), if_neg (fun z => c_20 (ex_9.trans z)), if_pos ex_9.symm]
                try rfl
              exact retL (v := (r_28).toInt64) hx hb hr hlk hP hD hS () ⟨_, rfl, ⟨trivial, hF_32⟩⟩ [0, 1, 2, 3, 4, 5, 6, 7, 8] rfl rfl dX9_wordOf_108 (Nat.le_of_ble_eq_true rfl) (Nat.le_of_ble_eq_true rfl) rfl
            · skip
              by_cases c_33 : x_9 = 5
              · skip
                subst c_33
                refine lv_tableIn (off := 98) (tgt := 109) hx hb dX9_wordOf_11 (by decide) (by decide) (by decide) (by decide) ?_
                refine lv_aload_n hx hb dX9_wordOf_109 rfl (lv_at hl 0 rfl) ?_
                refine lv_aload_n hx hb dX9_wordOf_110 rfl (lv_at hl 0 rfl) ?_
                refine gf_X9_24 hx hb hts hown hK hP 0 rfl rfl dX9_wordOf_111 ?_
                refine lv_iconst (v := 1) hx hb dX9_wordOf_114 (by decide) ?_
                refine lv_iadd hx hb dX9_wordOf_115 ?_
                refine lv_topi (fun x_34 ex_34 => ?_)
                refine cV (a := (Aa 0)) (As := [.int x_34]) (rest := []) (wr := []) ⟨hx, hb, hml, hown, hts⟩ hK hX hA (cu_dX9_stillOn l D tc sk (Aa 0) (Aa 1) (Aa 2) (Aa 3) (Aa 4) (Aa 5) (Aa 6) (Aa 7) (Aa 8) (Av 0) (Av 1) (Av 2) (Av 3) (Av 4) (Av 5) (Af 1) (Af 2) (Af 3) (Af 4) (Af 5) (Af 6) (Af 7) (Af 8) x_34) k_743 k_740 k_741 k_742 k_98 pl_X9_stillOn ⟨Nat.le_of_ble_eq_true rfl, Nat.le_of_ble_eq_true rfl⟩ rfl rfl (va_recv hK hP (ci := 9) (q0 := 0) rfl rfl) hP hD hS [0, 1, 2, 3, 4, 5, 6, 7, 8] [] rfl rfl rfl rfl rfl (by decide) rfl hl.1 rfl (Nat.le_of_ble_eq_true rfl) dX9_wordOf_116 ⟨Nat.le_of_ble_eq_true rfl, Nat.le_of_ble_eq_true rfl⟩ (fun v_35 u_36 H locs hv_37 hP₀ hD₀ hS₀ => ?_)
                obtain ⟨r_38, rfl, he_39⟩ := hv_37
                have he_39 : (True) ∧ r_38 = (dX9_stillOn (Af 1) (Av 2) x_34) := he_39
                refine W.eq (g2 := F0 m 119 ls [.int r_38]) rfl ?_
                replace hP : va_P D classes [((Aa 0), .inr (9, [.int (Av 0), .int (Av 1), .int (Av 2), .int (Av 3), .int (Av 4), .int (Av 5), .ref (Aa 1), .ref (Aa 2), .ref (Aa 3), .ref (Aa 4), .ref (Aa 5), .ref (Aa 6), .ref (Aa 7), .ref (Aa 8)])), ((Aa 1), .inl (tc 0, 10, .inl (Af 1))), ((Aa 2), .inl (tc 0, 10, .inl (Af 2))), ((Aa 3), .inl (tc 0, 6, .inl (Af 3))), ((Aa 4), .inl (tc 0, 6, .inl (Af 4))), ((Aa 5), .inl (tc 0, 6, .inl (Af 5))), ((Aa 6), .inl (tc 0, 6, .inl (Af 6))), ((Aa 7), .inl (tc 0, 6, .inl (Af 7))), ((Aa 8), .inl (tc 0, 6, .inl (Af 8)))] H := hP₀
                replace hD : va_D A [((Aa 0), .inr (9, [.int (Av 0), .int (Av 1), .int (Av 2), .int (Av 3), .int (Av 4), .int (Av 5), .ref (Aa 1), .ref (Aa 2), .ref (Aa 3), .ref (Aa 4), .ref (Aa 5), .ref (Aa 6), .ref (Aa 7), .ref (Aa 8)])), ((Aa 1), .inl (tc 0, 10, .inl (Af 1))), ((Aa 2), .inl (tc 0, 10, .inl (Af 2))), ((Aa 3), .inl (tc 0, 6, .inl (Af 3))), ((Aa 4), .inl (tc 0, 6, .inl (Af 4))), ((Aa 5), .inl (tc 0, 6, .inl (Af 5))), ((Aa 6), .inl (tc 0, 6, .inl (Af 6))), ((Aa 7), .inl (tc 0, 6, .inl (Af 7))), ((Aa 8), .inl (tc 0, 6, .inl (Af 8)))] := hD₀
                replace hS := hS₀
                clear hP₀ hD₀ hS₀
                obtain ⟨he_39, hq_41⟩ := he_39
                have er_38 : r_38 = (dX9_stillOn (Af 1) (Av 2) x_34) := hq_41
                refine lv_i2l (v := (r_38).toInt64) hx hb dX9_wordOf_119 rfl ?_
                have hF_42 : (r_38).toInt64 = (dX9_wordOf (Af 1) (Af 3) (Af 4) (Af 5) (Af 6) (Af 7) (Af 8) (Av 0) (Av 2) (Av 3) (Av 4) (Av 5) x1 x2) := by
                  clear hP hD hS hl
                  replace er_4 := er_4.symm; subst er_4
                  replace ex_34 := ex_34.symm; subst ex_34
                  replace er_38 := er_38.symm; subst er_38
                  unfold dX9_wordOf
                  rw [if_neg c_8, if_neg (fun z => c_10 (ex_9.trans z)), if_neg (fun z => c_12 (ex_9.trans z)), if_neg (fun z => c_16 (ex_9.trans z)), if_neg (fun z => c_20 (ex_9.trans z)), if_neg (fun z => c_24 (ex_9.trans z)), if_pos ex_9.symm]
                  try rfl
                exact retL (v := (r_38).toInt64) hx hb hr hlk hP hD hS () ⟨_, rfl, ⟨trivial, hF_42⟩⟩ [0, 1, 2, 3, 4, 5, 6, 7, 8] rfl rfl dX9_wordOf_120 (Nat.le_of_ble_eq_true rfl) (Nat.le_of_ble_eq_true rfl) rfl
              · skip
                by_cases c_43 : x_9 = 6
                · skip
                  subst c_43
                  refine lv_tableIn (off := 110) (tgt := 121) hx hb dX9_wordOf_11 (by decide) (by decide) (by decide) (by decide) ?_
                  refine lv_aload_n hx hb dX9_wordOf_121 rfl (lv_at hl 0 rfl) ?_
                  refine gf_X9_9 hx hb hts hown hK hP 0 rfl rfl dX9_wordOf_122 ?_
                  refine lv_i2l (v := ((Av 0)).toInt64) hx hb dX9_wordOf_125 rfl ?_
                  have hF_44 : ((Av 0)).toInt64 = (dX9_wordOf (Af 1) (Af 3) (Af 4) (Af 5) (Af 6) (Af 7) (Af 8) (Av 0) (Av 2) (Av 3) (Av 4) (Av 5) x1 x2) := by
                    clear hP hD hS hl
                    replace er_4 := er_4.symm; subst er_4
                    unfold dX9_wordOf
                    rw [if_neg c_8, if_neg (fun z => c_10 (ex_9.trans z)), if_neg (fun z => c_12 (ex_9.trans z)), if_neg (fun z => c_16 (ex_9.trans z)), if_neg (fun z => c_20 (ex_9.trans z)), if_neg (fun z => c_24 (ex_9.trans z)), if_neg (fun z => c_33 (ex_9.trans z)), if_pos ex_9.symm]
                    try rfl
                  exact retL (v := ((Av 0)).toInt64) hx hb hr hlk hP hD hS () ⟨_, rfl, ⟨trivial, hF_44⟩⟩ [0, 1, 2, 3, 4, 5, 6, 7, 8] rfl rfl dX9_wordOf_126 (Nat.le_of_ble_eq_true rfl) (Nat.le_of_ble_eq_true rfl) rfl
                · skip
                  by_cases c_45 : x_9 = 7
                  · skip
                    subst c_45
                    refine lv_tableIn (off := 116) (tgt := 127) hx hb dX9_wordOf_11 (by decide) (by decide) (by decide) (by decide) ?_
                    refine lv_aload_n hx hb dX9_wordOf_127 rfl (lv_at hl 0 rfl) ?_
                    refine gf_X9_46 hx hb hts hown hK hP 0 rfl rfl dX9_wordOf_128 ?_
                    refine lv_iload_n hx hb dX9_wordOf_131 rfl (lv_at hl 2 rfl) ?_
                    have hi_46 : vp_in x2 6 := by
                      have z_1 : ¬ (r_4 : Int32).toInt = (0 : Int32).toInt := fun z => c_8 (Int32.toInt_inj.mp z)
                      have y_0 : (0 : Int32).toInt = 0 := by decide
                      refine vp_in_iff.mpr ⟨?_, ?_⟩ <;> omega
                    refine va_iald hx hb hK hP 6 0 rfl rfl hi_46 dX9_wordOf_132 ?_
                    refine lv_topi (fun x_47 ex_47 => ?_)
                    refine lv_i2l (v := (x_47).toInt64) hx hb dX9_wordOf_133 rfl ?_
                    have hF_48 : (x_47).toInt64 = (dX9_wordOf (Af 1) (Af 3) (Af 4) (Af 5) (Af 6) (Af 7) (Af 8) (Av 0) (Av 2) (Av 3) (Av 4) (Av 5) x1 x2) := by
                      clear hP hD hS hl
                      replace er_4 := er_4.symm; subst er_4
                      replace ex_47 := ex_47.symm; subst ex_47
                      unfold dX9_wordOf
                      rw [if_neg c_8, if_neg (fun z => c_10 (ex_9.trans z)), if_neg (fun z => c_12 (ex_9.trans z)), if_neg (fun z => c_16 (ex_9.trans z)), if_neg (fun z => c_20 (ex_9.trans z)), if_neg (fun z => c_24 (ex_9.trans z)), if_neg (fun z => c_33 (ex_9.trans z)), if_neg (fun z => c_43 (ex_9.trans z)), if_pos ex_9.symm]
                      try rfl
                    exact retL (v := (x_47).toInt64) hx hb hr hlk hP hD hS () ⟨_, rfl, ⟨trivial, hF_48⟩⟩ [0, 1, 2, 3, 4, 5, 6, 7, 8] rfl rfl dX9_wordOf_134 (Nat.le_of_ble_eq_true rfl) (Nat.le_of_ble_eq_true rfl) rfl
                  · skip
                    by_cases c_49 : x_9 = 8
                    · skip
                      subst c_49
                      refine lv_tableIn (off := 124) (tgt := 135) hx hb dX9_wordOf_11 (by decide) (by decide) (by decide) (by decide) ?_
                      refine lv_aload_n hx hb dX9_wordOf_135 rfl (lv_at hl 0 rfl) ?_
                      refine gf_X9_49 hx hb hts hown hK hP 0 rfl rfl dX9_wordOf_136 ?_
                      refine lv_iload_n hx hb dX9_wordOf_139 rfl (lv_at hl 2 rfl) ?_
                      have hi_50 : vp_in x2 6 := by
                        have z_1 : ¬ (r_4 : Int32).toInt = (0 : Int32).toInt := fun z => c_8 (Int32.toInt_inj.mp z)
                        have y_0 : (0 : Int32).toInt = 0 := by decide
                        refine vp_in_iff.mpr ⟨?_, ?_⟩ <;> omega
                      refine va_iald hx hb hK hP 7 0 rfl rfl hi_50 dX9_wordOf_140 ?_
                      refine lv_topi (fun x_51 ex_51 => ?_)
                      refine lv_i2l (v := (x_51).toInt64) hx hb dX9_wordOf_141 rfl ?_
                      have hF_52 : (x_51).toInt64 = (dX9_wordOf (Af 1) (Af 3) (Af 4) (Af 5) (Af 6) (Af 7) (Af 8) (Av 0) (Av 2) (Av 3) (Av 4) (Av 5) x1 x2) := by
                        clear hP hD hS hl
                        replace er_4 := er_4.symm; subst er_4
                        replace ex_51 := ex_51.symm; subst ex_51
                        unfold dX9_wordOf
                        rw [if_neg c_8, if_neg (fun z => c_10 (ex_9.trans z)), if_neg (fun z => c_12 (ex_9.trans z)), if_neg (fun z => c_16 (ex_9.trans z)), if_neg (fun z => c_20 (ex_9.trans z)), if_neg (fun z => c_24 (ex_9.trans z)), if_neg (fun z => c_33 (ex_9.trans z)), if_neg (fun z => c_43 (ex_9.trans z)), if_neg (fun z => c_45 (ex_9.trans z)), if_pos ex_9.symm]
                        try rfl
                      exact retL (v := (x_51).toInt64) hx hb hr hlk hP hD hS () ⟨_, rfl, ⟨trivial, hF_52⟩⟩ [0, 1, 2, 3, 4, 5, 6, 7, 8] rfl rfl dX9_wordOf_142 (Nat.le_of_ble_eq_true rfl) (Nat.le_of_ble_eq_true rfl) rfl
                    · skip
                      by_cases c_53 : x_9 = 9
                      · skip
                        subst c_53
                        refine lv_tableIn (off := 132) (tgt := 143) hx hb dX9_wordOf_11 (by decide) (by decide) (by decide) (by decide) ?_
                        refine lv_aload_n hx hb dX9_wordOf_143 rfl (lv_at hl 0 rfl) ?_
                        refine lv_iload_n hx hb dX9_wordOf_144 rfl (lv_at hl 2 rfl) ?_
                        refine cV (a := (Aa 0)) (As := [.int x2]) (rest := []) (wr := []) ⟨hx, hb, hml, hown, hts⟩ hK hX hA (cu_dX9_daysSince l D tc sk (Aa 0) (Aa 1) (Aa 2) (Aa 3) (Aa 4) (Aa 5) (Aa 6) (Aa 7) (Aa 8) (Av 0) (Av 1) (Av 2) (Av 3) (Av 4) (Av 5) (Af 1) (Af 2) (Af 3) (Af 4) (Af 5) (Af 6) (Af 7) (Af 8) x2) k_706 k_762 k_704 k_705 k_98 pl_X9_daysSince ⟨Nat.le_of_ble_eq_true rfl, Nat.le_of_ble_eq_true rfl⟩ rfl rfl (va_recv hK hP (ci := 9) (q0 := 0) rfl rfl) hP hD hS [0, 1, 2, 3, 4, 5, 6, 7, 8] [] rfl rfl rfl rfl rfl (by decide) rfl hl.1 rfl (Nat.le_of_ble_eq_true rfl) dX9_wordOf_145 ⟨Nat.le_of_ble_eq_true rfl, Nat.le_of_ble_eq_true rfl⟩ (fun v_54 u_55 H locs hv_56 hP₀ hD₀ hS₀ => ?_)
                        obtain ⟨r_57, rfl, he_58⟩ := hv_56
                        have he_58 : (True) ∧ r_57 = (dX9_daysSince (Af 8) (Av 3) (Av 4) x2) := he_58
                        refine W.eq (g2 := F0 m 148 ls [.int r_57]) rfl ?_
                        replace hP : va_P D classes [((Aa 0), .inr (9, [.int (Av 0), .int (Av 1), .int (Av 2), .int (Av 3), .int (Av 4), .int (Av 5), .ref (Aa 1), .ref (Aa 2), .ref (Aa 3), .ref (Aa 4), .ref (Aa 5), .ref (Aa 6), .ref (Aa 7), .ref (Aa 8)])), ((Aa 1), .inl (tc 0, 10, .inl (Af 1))), ((Aa 2), .inl (tc 0, 10, .inl (Af 2))), ((Aa 3), .inl (tc 0, 6, .inl (Af 3))), ((Aa 4), .inl (tc 0, 6, .inl (Af 4))), ((Aa 5), .inl (tc 0, 6, .inl (Af 5))), ((Aa 6), .inl (tc 0, 6, .inl (Af 6))), ((Aa 7), .inl (tc 0, 6, .inl (Af 7))), ((Aa 8), .inl (tc 0, 6, .inl (Af 8)))] H := hP₀
                        replace hD : va_D A [((Aa 0), .inr (9, [.int (Av 0), .int (Av 1), .int (Av 2), .int (Av 3), .int (Av 4), .int (Av 5), .ref (Aa 1), .ref (Aa 2), .ref (Aa 3), .ref (Aa 4), .ref (Aa 5), .ref (Aa 6), .ref (Aa 7), .ref (Aa 8)])), ((Aa 1), .inl (tc 0, 10, .inl (Af 1))), ((Aa 2), .inl (tc 0, 10, .inl (Af 2))), ((Aa 3), .inl (tc 0, 6, .inl (Af 3))), ((Aa 4), .inl (tc 0, 6, .inl (Af 4))), ((Aa 5), .inl (tc 0, 6, .inl (Af 5))), ((Aa 6), .inl (tc 0, 6, .inl (Af 6))), ((Aa 7), .inl (tc 0, 6, .inl (Af 7))), ((Aa 8), .inl (tc 0, 6, .inl (Af 8)))] := hD₀
                        replace hS := hS₀
                        clear hP₀ hD₀ hS₀
                        obtain ⟨he_58, hq_60⟩ := he_58
                        have er_57 : r_57 = (dX9_daysSince (Af 8) (Av 3) (Av 4) x2) := hq_60
                        refine lv_i2l (v := (r_57).toInt64) hx hb dX9_wordOf_148 rfl ?_
                        have hF_61 : (r_57).toInt64 = (dX9_wordOf (Af 1) (Af 3) (Af 4) (Af 5) (Af 6) (Af 7) (Af 8) (Av 0) (Av 2) (Av 3) (Av 4) (Av 5) x1 x2) := by
                          clear hP hD hS hl
                          replace er_4 := er_4.symm; subst er_4
                          replace er_57 := er_57.symm; subst er_57
                          unfold dX9_wordOf
                          rw [if_neg c_8, if_neg (fun z => c_10 (ex_9.trans z)), if_neg (fun z => c_12 (ex_9.trans z)), if_neg (fun z => c_16 (ex_9.trans z)), if_neg (fun z => c_20 (ex_9.trans z)), if_neg (fun z => c_24 (ex_9.trans z)), if_neg (fun z => c_33 (ex_9.trans z)), if_neg (fun z => c_43 (ex_9.trans z)), if_neg (fun z => c_45 (ex_9.trans z)), if_neg (fun z => c_49 (ex_9.trans z)), if_pos ex_9.symm]
                          try rfl
                        exact retL (v := (r_57).toInt64) hx hb hr hlk hP hD hS () ⟨_, rfl, ⟨trivial, hF_61⟩⟩ [0, 1, 2, 3, 4, 5, 6, 7, 8] rfl rfl dX9_wordOf_149 (Nat.le_of_ble_eq_true rfl) (Nat.le_of_ble_eq_true rfl) rfl
                      · skip
                        by_cases c_62 : x_9 = 10
                        · skip
                          subst c_62
                          refine lv_tableIn (off := 139) (tgt := 150) hx hb dX9_wordOf_11 (by decide) (by decide) (by decide) (by decide) ?_
                          refine lv_aload_n hx hb dX9_wordOf_150 rfl (lv_at hl 0 rfl) ?_
                          refine gf_X9_27 hx hb hts hown hK hP 0 rfl rfl dX9_wordOf_151 ?_
                          refine lv_i2l (v := ((Av 5)).toInt64) hx hb dX9_wordOf_154 rfl ?_
                          have hF_63 : ((Av 5)).toInt64 = (dX9_wordOf (Af 1) (Af 3) (Af 4) (Af 5) (Af 6) (Af 7) (Af 8) (Av 0) (Av 2) (Av 3) (Av 4) (Av 5) x1 x2) := by
                            clear hP hD hS hl
                            replace er_4 := er_4.symm; subst er_4
                            unfold dX9_wordOf
                            rw [if_neg c_8, if_neg (fun z => c_10 (ex_9.trans z)), if_neg (fun z => c_12 (ex_9.trans z)), if_neg (fun z => c_16 (ex_9.trans z)), if_neg (fun z => c_20 (ex_9.trans z)), if_neg (fun z => c_24 (ex_9.trans z)), if_neg (fun z => c_33 (ex_9.trans z)), if_neg (fun z => c_43 (ex_9.trans z)), if_neg (fun z => c_45 (ex_9.trans z)), if_neg (fun z => c_49 (ex_9.trans z)), if_neg (fun z => c_53 (ex_9.trans z)), if_pos ex_9.symm]
                            try rfl
                          exact retL (v := ((Av 5)).toInt64) hx hb hr hlk hP hD hS () ⟨_, rfl, ⟨trivial, hF_63⟩⟩ [0, 1, 2, 3, 4, 5, 6, 7, 8] rfl rfl dX9_wordOf_155 (Nat.le_of_ble_eq_true rfl) (Nat.le_of_ble_eq_true rfl) rfl
                        · skip
                          by_cases c_64 : x_9 = 11
                          · skip
                            subst c_64
                            refine lv_tableIn (off := 145) (tgt := 156) hx hb dX9_wordOf_11 (by decide) (by decide) (by decide) (by decide) ?_
                            refine lv_aload_n hx hb dX9_wordOf_156 rfl (lv_at hl 0 rfl) ?_
                            refine lv_aload_n hx hb dX9_wordOf_157 rfl (lv_at hl 0 rfl) ?_
                            refine gf_X9_24 hx hb hts hown hK hP 0 rfl rfl dX9_wordOf_158 ?_
                            refine cV (a := (Aa 0)) (As := [.int (Av 4)]) (rest := []) (wr := []) ⟨hx, hb, hml, hown, hts⟩ hK hX hA (cu_dX9_clockOn l D tc sk (Aa 0) (Aa 1) (Aa 2) (Aa 3) (Aa 4) (Aa 5) (Aa 6) (Aa 7) (Aa 8) (Av 0) (Av 1) (Av 2) (Av 3) (Av 4) (Av 5) (Af 1) (Af 2) (Af 3) (Af 4) (Af 5) (Af 6) (Af 7) (Af 8) (Av 4)) k_747 k_744 k_745 k_746 k_98 pl_X9_clockOn ⟨Nat.le_of_ble_eq_true rfl, Nat.le_of_ble_eq_true rfl⟩ rfl rfl (va_recv hK hP (ci := 9) (q0 := 0) rfl rfl) hP hD hS [0, 1, 2, 3, 4, 5, 6, 7, 8] [] rfl rfl rfl rfl rfl (by decide) rfl hl.1 rfl (Nat.le_of_ble_eq_true rfl) dX9_wordOf_161 ⟨Nat.le_of_ble_eq_true rfl, Nat.le_of_ble_eq_true rfl⟩ (fun v_65 u_66 H locs hv_67 hP₀ hD₀ hS₀ => ?_)
                            obtain ⟨r_68, rfl, he_69⟩ := hv_67
                            have he_69 : (True) ∧ r_68 = (dX9_clockOn (Av 2) (Av 4)) := he_69
                            refine W.eq (g2 := F0 m 164 ls [.int r_68]) rfl ?_
                            replace hP : va_P D classes [((Aa 0), .inr (9, [.int (Av 0), .int (Av 1), .int (Av 2), .int (Av 3), .int (Av 4), .int (Av 5), .ref (Aa 1), .ref (Aa 2), .ref (Aa 3), .ref (Aa 4), .ref (Aa 5), .ref (Aa 6), .ref (Aa 7), .ref (Aa 8)])), ((Aa 1), .inl (tc 0, 10, .inl (Af 1))), ((Aa 2), .inl (tc 0, 10, .inl (Af 2))), ((Aa 3), .inl (tc 0, 6, .inl (Af 3))), ((Aa 4), .inl (tc 0, 6, .inl (Af 4))), ((Aa 5), .inl (tc 0, 6, .inl (Af 5))), ((Aa 6), .inl (tc 0, 6, .inl (Af 6))), ((Aa 7), .inl (tc 0, 6, .inl (Af 7))), ((Aa 8), .inl (tc 0, 6, .inl (Af 8)))] H := hP₀
                            replace hD : va_D A [((Aa 0), .inr (9, [.int (Av 0), .int (Av 1), .int (Av 2), .int (Av 3), .int (Av 4), .int (Av 5), .ref (Aa 1), .ref (Aa 2), .ref (Aa 3), .ref (Aa 4), .ref (Aa 5), .ref (Aa 6), .ref (Aa 7), .ref (Aa 8)])), ((Aa 1), .inl (tc 0, 10, .inl (Af 1))), ((Aa 2), .inl (tc 0, 10, .inl (Af 2))), ((Aa 3), .inl (tc 0, 6, .inl (Af 3))), ((Aa 4), .inl (tc 0, 6, .inl (Af 4))), ((Aa 5), .inl (tc 0, 6, .inl (Af 5))), ((Aa 6), .inl (tc 0, 6, .inl (Af 6))), ((Aa 7), .inl (tc 0, 6, .inl (Af 7))), ((Aa 8), .inl (tc 0, 6, .inl (Af 8)))] := hD₀
                            replace hS := hS₀
                            clear hP₀ hD₀ hS₀
                            obtain ⟨he_69, hq_71⟩ := he_69
                            have er_68 : r_68 = (dX9_clockOn (Av 2) (Av 4)) := hq_71
                            refine lv_i2l (v := (r_68).toInt64) hx hb dX9_wordOf_164 rfl ?_
                            have hF_72 : (r_68).toInt64 = (dX9_wordOf (Af 1) (Af 3) (Af 4) (Af 5) (Af 6) (Af 7) (Af 8) (Av 0) (Av 2) (Av 3) (Av 4) (Av 5) x1 x2) := by
                              clear hP hD hS hl
                              replace er_4 := er_4.symm; subst er_4
                              replace er_68 := er_68.symm; subst er_68
                              unfold dX9_wordOf
                              rw [if_neg c_8, if_neg (fun z => c_10 (ex_9.trans z)), if_neg (fun z => c_12 (ex_9.trans z)), if_neg (fun z => c_16 (ex_9.trans z)), if_neg (fun z => c_20 (ex_9.trans z)), if_neg (fun z => c_24 (ex_9.trans z)), if_neg (fun z => c_33 (ex_9.trans z)), if_neg (fun z => c_43 (ex_9.trans z)), if_neg (fun z => c_45 (ex_9.trans z)), if_neg (fun z => c_49 (ex_9.trans z)), if_neg (fun z => c_53 (ex_9.trans z)), if_neg (fun z => c_62 (ex_9.trans z)), if_pos ex_9.symm]
                              try rfl
                            exact retL (v := (r_68).toInt64) hx hb hr hlk hP hD hS () ⟨_, rfl, ⟨trivial, hF_72⟩⟩ [0, 1, 2, 3, 4, 5, 6, 7, 8] rfl rfl dX9_wordOf_165 (Nat.le_of_ble_eq_true rfl) (Nat.le_of_ble_eq_true rfl) rfl
                          · skip
                            have ho_73 : (x_9 : Int32).toInt < 0 ∨ 11 < (x_9 : Int32).toInt := by
                              have z_1 : ¬ (r_4 : Int32).toInt = (0 : Int32).toInt := fun z => c_8 (Int32.toInt_inj.mp z)
                              have z_2 : ¬ (x_9 : Int32).toInt = (0 : Int32).toInt := fun z => c_10 (Int32.toInt_inj.mp z)
                              have z_3 : ¬ (x_9 : Int32).toInt = (1 : Int32).toInt := fun z => c_12 (Int32.toInt_inj.mp z)
                              have z_4 : ¬ (x_9 : Int32).toInt = (2 : Int32).toInt := fun z => c_16 (Int32.toInt_inj.mp z)
                              have z_5 : ¬ (x_9 : Int32).toInt = (3 : Int32).toInt := fun z => c_20 (Int32.toInt_inj.mp z)
                              have z_6 : ¬ (x_9 : Int32).toInt = (4 : Int32).toInt := fun z => c_24 (Int32.toInt_inj.mp z)
                              have z_7 : ¬ (x_9 : Int32).toInt = (5 : Int32).toInt := fun z => c_33 (Int32.toInt_inj.mp z)
                              have z_8 : ¬ (x_9 : Int32).toInt = (6 : Int32).toInt := fun z => c_43 (Int32.toInt_inj.mp z)
                              have z_9 : ¬ (x_9 : Int32).toInt = (7 : Int32).toInt := fun z => c_45 (Int32.toInt_inj.mp z)
                              have z_10 : ¬ (x_9 : Int32).toInt = (8 : Int32).toInt := fun z => c_49 (Int32.toInt_inj.mp z)
                              have z_11 : ¬ (x_9 : Int32).toInt = (9 : Int32).toInt := fun z => c_53 (Int32.toInt_inj.mp z)
                              have z_12 : ¬ (x_9 : Int32).toInt = (10 : Int32).toInt := fun z => c_62 (Int32.toInt_inj.mp z)
                              have z_13 : ¬ (x_9 : Int32).toInt = (11 : Int32).toInt := fun z => c_64 (Int32.toInt_inj.mp z)
                              have y_0 : (0 : Int32).toInt = 0 := by decide
                              have y_1 : (1 : Int32).toInt = 1 := by decide
                              have y_2 : (2 : Int32).toInt = 2 := by decide
                              have y_3 : (3 : Int32).toInt = 3 := by decide
                              have y_4 : (4 : Int32).toInt = 4 := by decide
                              have y_5 : (5 : Int32).toInt = 5 := by decide
                              have y_6 : (6 : Int32).toInt = 6 := by decide
                              have y_7 : (7 : Int32).toInt = 7 := by decide
                              have y_8 : (8 : Int32).toInt = 8 := by decide
                              have y_9 : (9 : Int32).toInt = 9 := by decide
                              have y_10 : (10 : Int32).toInt = 10 := by decide
                              have y_11 : (11 : Int32).toInt = 11 := by decide
                              omega
                            refine lv_tableOut (tgt := 166) hx hb dX9_wordOf_11 ho_73 (by decide) ?_
                            refine lv_aload_n hx hb dX9_wordOf_166 rfl (lv_at hl 0 rfl) ?_
                            refine gf_X9_24 hx hb hts hown hK hP 0 rfl rfl dX9_wordOf_167 ?_
                            refine lv_i2l (v := ((Av 4)).toInt64) hx hb dX9_wordOf_170 rfl ?_
                            have hF_74 : ((Av 4)).toInt64 = (dX9_wordOf (Af 1) (Af 3) (Af 4) (Af 5) (Af 6) (Af 7) (Af 8) (Av 0) (Av 2) (Av 3) (Av 4) (Av 5) x1 x2) := by
                              clear hP hD hS hl
                              replace er_4 := er_4.symm; subst er_4
                              replace ex_9 := ex_9.symm; subst ex_9
                              unfold dX9_wordOf
                              rw [if_neg c_8, if_neg c_10, if_neg c_12, if_neg c_16, if_neg c_20, if_neg c_24, if_neg c_33, if_neg c_43, if_neg c_45, if_neg c_49, if_neg c_53, if_neg c_62, if_neg c_64]
                              try rfl
                            exact retL (v := ((Av 4)).toInt64) hx hb hr hlk hP hD hS () ⟨_, rfl, ⟨trivial, hF_74⟩⟩ [0, 1, 2, 3, 4, 5, 6, 7, 8] rfl rfl dX9_wordOf_171 (Nat.le_of_ble_eq_true rfl) (Nat.le_of_ble_eq_true rfl) rfl
  · skip
    refine lv_lconst (v := 0) hx hb dX9_wordOf_8 (by decide) ?_
    have hF_75 : (0 : Int64) = (dX9_wordOf (Af 1) (Af 3) (Af 4) (Af 5) (Af 6) (Af 7) (Af 8) (Av 0) (Av 2) (Av 3) (Av 4) (Av 5) x1 x2) := by
      clear hP hD hS hl
      replace er_4 := er_4.symm; subst er_4
      unfold dX9_wordOf
      rw [if_pos c_8]
      try rfl
    exact retL (v := 0) hx hb hr hlk hP hD hS () ⟨_, rfl, ⟨trivial, hF_75⟩⟩ [0, 1, 2, 3, 4, 5, 6, 7, 8] rfl rfl dX9_wordOf_9 (Nat.le_of_ble_eq_true rfl) (Nat.le_of_ble_eq_true rfl) rfl
set_option maxRecDepth 100000 in
theorem cu_dX9_wordOf (l : Launch) (D : va_G) (tc : Nat → ClassId) (sk : (Nat → Nat) × (Nat → Nat)) (Aa_0 : Nat) (Aa_1 : Nat) (Aa_2 : Nat) (Aa_3 : Nat) (Aa_4 : Nat) (Aa_5 : Nat) (Aa_6 : Nat) (Aa_7 : Nat) (Aa_8 : Nat) (Av_0 : Int32) (Av_1 : Int32) (Av_2 : Int32) (Av_3 : Int32) (Av_4 : Int32) (Av_5 : Int32) (Af_1 : Nat → Int32) (Af_2 : Nat → Int32) (Af_3 : Nat → Int32) (Af_4 : Nat → Int32) (Af_5 : Nat → Int32) (Af_6 : Nat → Int32) (Af_7 : Nat → Int32) (Af_8 : Nat → Int32) (x1 : Int32) (x2 : Int32)  : Ct l yX9_wordOf cX9_wordOf 3 (some .long) { frames := 2, cells := 0, slots := 0, locals := 42 } D tc sk [.ref Aa_0, .int x1, .int x2] [(Aa_0, .inr (9, [.int Av_0, .int Av_1, .int Av_2, .int Av_3, .int Av_4, .int Av_5, .ref Aa_1, .ref Aa_2, .ref Aa_3, .ref Aa_4, .ref Aa_5, .ref Aa_6, .ref Aa_7, .ref Aa_8])), (Aa_1, .inl (tc 0, 10, .inl Af_1)), (Aa_2, .inl (tc 0, 10, .inl Af_2)), (Aa_3, .inl (tc 0, 6, .inl Af_3)), (Aa_4, .inl (tc 0, 6, .inl Af_4)), (Aa_5, .inl (tc 0, 6, .inl Af_5)), (Aa_6, .inl (tc 0, 6, .inl Af_6)), (Aa_7, .inl (tc 0, 6, .inl Af_7)), (Aa_8, .inl (tc 0, 6, .inl Af_8))] (fun (v : Option Value) (_ : Unit) => ∃ r : Int64, v = some (.long r) ∧ ((True) ∧ r = (dX9_wordOf Af_1 Af_3 Af_4 Af_5 Af_6 Af_7 Af_8 Av_0 Av_2 Av_3 Av_4 Av_5 x1 x2))) (fun (_ : Unit) => [(Aa_0, .inr (9, [.int Av_0, .int Av_1, .int Av_2, .int Av_3, .int Av_4, .int Av_5, .ref Aa_1, .ref Aa_2, .ref Aa_3, .ref Aa_4, .ref Aa_5, .ref Aa_6, .ref Aa_7, .ref Aa_8])), (Aa_1, .inl (tc 0, 10, .inl Af_1)), (Aa_2, .inl (tc 0, 10, .inl Af_2)), (Aa_3, .inl (tc 0, 6, .inl Af_3)), (Aa_4, .inl (tc 0, 6, .inl Af_4)), (Aa_5, .inl (tc 0, 6, .inl Af_5)), (Aa_6, .inl (tc 0, 6, .inl Af_6)), (Aa_7, .inl (tc 0, 6, .inl Af_7)), (Aa_8, .inl (tc 0, 6, .inl Af_8))]) 0 0 :=
  ct_dX9_wordOf l D tc sk (fun k => ([Aa_0, Aa_1, Aa_2, Aa_3, Aa_4, Aa_5, Aa_6, Aa_7, Aa_8] : List (Nat)).getD k 0) (fun k => ([Av_0, Av_1, Av_2, Av_3, Av_4, Av_5] : List (Int32)).getD k 0) (fun k => ([(fun _ => 0), Af_1, Af_2, Af_3, Af_4, Af_5, Af_6, Af_7, Af_8] : List (Nat → Int32)).getD k (fun _ => 0)) x1 x2 
set_option maxHeartbeats 4000000 in
set_option maxRecDepth 100000 in
theorem ct_dX9_handOver (l : Launch) (D : va_G) (tc : Nat → ClassId) (sk : (Nat → Nat) × (Nat → Nat)) (Aa : Nat → Nat) (Av : Nat → Int32) (Af : Nat → Nat → Int32) (x1 : Int32)  : Ct l yX9_handOver cX9_handOver 2 none { frames := 1, cells := 0, slots := 0, locals := 21 } D tc sk [.ref (Aa 0), .int x1] [((Aa 0), .inr (9, [.int (Av 0), .int (Av 1), .int (Av 2), .int (Av 3), .int (Av 4), .int (Av 5), .ref (Aa 1), .ref (Aa 2), .ref (Aa 3), .ref (Aa 4), .ref (Aa 5), .ref (Aa 6), .ref (Aa 7), .ref (Aa 8)])), ((Aa 1), .inl (tc 0, 10, .inl (Af 1))), ((Aa 2), .inl (tc 0, 10, .inl (Af 2))), ((Aa 3), .inl (tc 0, 6, .inl (Af 3))), ((Aa 4), .inl (tc 0, 6, .inl (Af 4))), ((Aa 5), .inl (tc 0, 6, .inl (Af 5))), ((Aa 6), .inl (tc 0, 6, .inl (Af 6))), ((Aa 7), .inl (tc 0, 6, .inl (Af 7))), ((Aa 8), .inl (tc 0, 6, .inl (Af 8)))] (fun (v : Option Value) (u : (Int32) × (Int32) × (Nat → Int32) × (Nat → Int32) × (Nat → Int32)) => match u with | (oo0x1, oo0x2, oo0x3, oo0x4, oo0x5) => v = none ∧ (DEq ((oo0x1, oo0x2, oo0x3, oo0x4, oo0x5)) (dX9_handOver (Af 3) (Af 4) (Af 6) (Af 8) (Av 0) (Av 3) (Av 4) (Av 5) x1))) (fun (u : (Int32) × (Int32) × (Nat → Int32) × (Nat → Int32) × (Nat → Int32)) => match u with | (oo0x1, oo0x2, oo0x3, oo0x4, oo0x5) => [((Aa 0), .inr (9, [.int oo0x1, .int (Av 1), .int (Av 2), .int (Av 3), .int (Av 4), .int oo0x2, .ref (Aa 1), .ref (Aa 2), .ref (Aa 3), .ref (Aa 4), .ref (Aa 5), .ref (Aa 6), .ref (Aa 7), .ref (Aa 8)])), ((Aa 1), .inl (tc 0, 10, .inl (Af 1))), ((Aa 2), .inl (tc 0, 10, .inl (Af 2))), ((Aa 3), .inl (tc 0, 6, .inl oo0x3)), ((Aa 4), .inl (tc 0, 6, .inl (Af 4))), ((Aa 5), .inl (tc 0, 6, .inl (Af 5))), ((Aa 6), .inl (tc 0, 6, .inl oo0x4)), ((Aa 7), .inl (tc 0, 6, .inl (Af 7))), ((Aa 8), .inl (tc 0, 6, .inl oo0x5))]) 0 0 := by
  refine Ct.start (by decide) (Nat.le_of_ble_eq_true rfl) (fun p e s m below meth c A ls hx hb hr hlk hin hml hown hts hK hX hP hD hA hl hS => ?_)
  have hl : lv_has ls 2 [(0, .ref (Aa 0)), (1, .int x1)] := hl
  refine lv_aload_n hx hb dX9_handOver_0 rfl (lv_at hl 0 rfl) ?_
  refine lv_iload_n hx hb dX9_handOver_1 rfl (lv_at hl 1 rfl) ?_
  refine cV (a := (Aa 0)) (As := [.int x1]) (rest := []) (wr := []) ⟨hx, hb, hml, hown, hts⟩ hK hX hA (cu_dX9_hasBuyer l D tc sk (Aa 0) (Aa 1) (Aa 2) (Aa 3) (Aa 4) (Aa 5) (Aa 6) (Aa 7) (Aa 8) (Av 0) (Av 1) (Av 2) (Av 3) (Av 4) (Av 5) (Af 1) (Af 2) (Af 3) (Af 4) (Af 5) (Af 6) (Af 7) (Af 8) x1) k_591 k_707 k_589 k_590 k_98 pl_X9_hasBuyer ⟨Nat.le_of_ble_eq_true rfl, Nat.le_of_ble_eq_true rfl⟩ rfl rfl (va_recv hK hP (ci := 9) (q0 := 0) rfl rfl) hP hD hS [0, 1, 2, 3, 4, 5, 6, 7, 8] [] rfl rfl rfl rfl rfl (by decide) rfl hl.1 rfl (Nat.le_of_ble_eq_true rfl) dX9_handOver_2 ⟨Nat.le_of_ble_eq_true rfl, Nat.le_of_ble_eq_true rfl⟩ (fun v_1 u_2 H locs hv_3 hP₀ hD₀ hS₀ => ?_)
  obtain ⟨r_4, rfl, he_5⟩ := hv_3
  have he_5 : ((r_4.toInt = 0 ∨ (r_4.toInt = 1 ∧ 0 ≤ x1.toInt ∧ x1.toInt < 6 ∧ x1.toInt < (Av 3).toInt))) ∧ r_4 = (dX9_hasBuyer (Av 3) x1) := he_5
  refine W.eq (g2 := F0 m 5 ls [.int r_4]) rfl ?_
  replace hP : va_P D classes [((Aa 0), .inr (9, [.int (Av 0), .int (Av 1), .int (Av 2), .int (Av 3), .int (Av 4), .int (Av 5), .ref (Aa 1), .ref (Aa 2), .ref (Aa 3), .ref (Aa 4), .ref (Aa 5), .ref (Aa 6), .ref (Aa 7), .ref (Aa 8)])), ((Aa 1), .inl (tc 0, 10, .inl (Af 1))), ((Aa 2), .inl (tc 0, 10, .inl (Af 2))), ((Aa 3), .inl (tc 0, 6, .inl (Af 3))), ((Aa 4), .inl (tc 0, 6, .inl (Af 4))), ((Aa 5), .inl (tc 0, 6, .inl (Af 5))), ((Aa 6), .inl (tc 0, 6, .inl (Af 6))), ((Aa 7), .inl (tc 0, 6, .inl (Af 7))), ((Aa 8), .inl (tc 0, 6, .inl (Af 8)))] H := hP₀
  replace hD : va_D A [((Aa 0), .inr (9, [.int (Av 0), .int (Av 1), .int (Av 2), .int (Av 3), .int (Av 4), .int (Av 5), .ref (Aa 1), .ref (Aa 2), .ref (Aa 3), .ref (Aa 4), .ref (Aa 5), .ref (Aa 6), .ref (Aa 7), .ref (Aa 8)])), ((Aa 1), .inl (tc 0, 10, .inl (Af 1))), ((Aa 2), .inl (tc 0, 10, .inl (Af 2))), ((Aa 3), .inl (tc 0, 6, .inl (Af 3))), ((Aa 4), .inl (tc 0, 6, .inl (Af 4))), ((Aa 5), .inl (tc 0, 6, .inl (Af 5))), ((Aa 6), .inl (tc 0, 6, .inl (Af 6))), ((Aa 7), .inl (tc 0, 6, .inl (Af 7))), ((Aa 8), .inl (tc 0, 6, .inl (Af 8)))] := hD₀
  replace hS := hS₀
  clear hP₀ hD₀ hS₀
  obtain ⟨he_5, hq_7⟩ := he_5
  have er_4 : r_4 = (dX9_hasBuyer (Av 3) x1) := hq_7
  refine lv_if_ne (tgt := 9) hx hb dX9_handOver_5 (by decide) (fun c_8 => ?_) (fun c_8 => ?_)
  · skip
    refine lv_aload_n hx hb dX9_handOver_9 rfl (lv_at hl 0 rfl) ?_
    refine lv_dup hx hb dX9_handOver_10 rfl ?_
    refine gf_X9_9 hx hb hts hown hK hP 0 rfl rfl dX9_handOver_11 ?_
    refine lv_aload_n hx hb dX9_handOver_14 rfl (lv_at hl 0 rfl) ?_
    refine gf_X9_40 hx hb hts hown hK hP 0 rfl rfl dX9_handOver_15 ?_
    refine lv_iload_n hx hb dX9_handOver_18 rfl (lv_at hl 1 rfl) ?_
    have hi_9 : vp_in x1 6 := by
      have z_1 : ¬ (r_4 : Int32).toInt = (0 : Int32).toInt := fun z => c_8 (Int32.toInt_inj.mp z)
      have y_0 : (0 : Int32).toInt = 0 := by decide
      refine vp_in_iff.mpr ⟨?_, ?_⟩ <;> omega
    refine va_iald hx hb hK hP 4 0 rfl rfl hi_9 dX9_handOver_19 ?_
    refine lv_topi (fun x_10 ex_10 => ?_)
    refine lv_isub hx hb dX9_handOver_20 ?_
    refine lv_topi (fun x_11 ex_11 => ?_)
    refine pf_X9_9 hx hb hts hown hK hP hD hS 0 rfl (Nat.le_of_ble_eq_true rfl) rfl rfl dX9_handOver_21 (fun H locs hP₀ hD₀ hS₀ => ?_)
    replace hP : va_P D classes [((Aa 0), .inr (9, [.int x_11, .int (Av 1), .int (Av 2), .int (Av 3), .int (Av 4), .int (Av 5), .ref (Aa 1), .ref (Aa 2), .ref (Aa 3), .ref (Aa 4), .ref (Aa 5), .ref (Aa 6), .ref (Aa 7), .ref (Aa 8)])), ((Aa 1), .inl (tc 0, 10, .inl (Af 1))), ((Aa 2), .inl (tc 0, 10, .inl (Af 2))), ((Aa 3), .inl (tc 0, 6, .inl (Af 3))), ((Aa 4), .inl (tc 0, 6, .inl (Af 4))), ((Aa 5), .inl (tc 0, 6, .inl (Af 5))), ((Aa 6), .inl (tc 0, 6, .inl (Af 6))), ((Aa 7), .inl (tc 0, 6, .inl (Af 7))), ((Aa 8), .inl (tc 0, 6, .inl (Af 8)))] H := hP₀
    replace hD : va_D A [((Aa 0), .inr (9, [.int x_11, .int (Av 1), .int (Av 2), .int (Av 3), .int (Av 4), .int (Av 5), .ref (Aa 1), .ref (Aa 2), .ref (Aa 3), .ref (Aa 4), .ref (Aa 5), .ref (Aa 6), .ref (Aa 7), .ref (Aa 8)])), ((Aa 1), .inl (tc 0, 10, .inl (Af 1))), ((Aa 2), .inl (tc 0, 10, .inl (Af 2))), ((Aa 3), .inl (tc 0, 6, .inl (Af 3))), ((Aa 4), .inl (tc 0, 6, .inl (Af 4))), ((Aa 5), .inl (tc 0, 6, .inl (Af 5))), ((Aa 6), .inl (tc 0, 6, .inl (Af 6))), ((Aa 7), .inl (tc 0, 6, .inl (Af 7))), ((Aa 8), .inl (tc 0, 6, .inl (Af 8)))] := hD₀
    replace hS := hS₀
    clear hP₀ hD₀ hS₀
    refine lv_aload_n hx hb dX9_handOver_24 rfl (lv_at hl 0 rfl) ?_
    refine gf_X9_37 hx hb hts hown hK hP 0 rfl rfl dX9_handOver_25 ?_
    refine lv_iload_n hx hb dX9_handOver_28 rfl (lv_at hl 1 rfl) ?_
    refine lv_iconst (v := 0) hx hb dX9_handOver_29 (by decide) ?_
    refine lv_aload_n hx hb dX9_handOver_30 rfl (lv_at hl 0 rfl) ?_
    refine gf_X9_37 hx hb hts hown hK hP 0 rfl rfl dX9_handOver_31 ?_
    refine lv_iload_n hx hb dX9_handOver_34 rfl (lv_at hl 1 rfl) ?_
    have hi_12 : vp_in x1 6 := by
      have z_1 : ¬ (r_4 : Int32).toInt = (0 : Int32).toInt := fun z => c_8 (Int32.toInt_inj.mp z)
      have y_0 : (0 : Int32).toInt = 0 := by decide
      refine vp_in_iff.mpr ⟨?_, ?_⟩ <;> omega
    refine va_iald hx hb hK hP 3 0 rfl rfl hi_12 dX9_handOver_35 ?_
    refine lv_topi (fun x_13 ex_13 => ?_)
    refine lv_bipush (v := 6) hx hb dX9_handOver_36 (by decide) ?_
    refine lv_isub hx hb dX9_handOver_38 ?_
    refine lv_topi (fun x_14 ex_14 => ?_)
    refine va_mmax hx hb (hml.trans hl.1.symm) hown (hts _ k_773) (hts _ k_774) (hts _ k_114) (hts _ k_775) (Nat.le_of_ble_eq_true rfl) (Nat.le_of_ble_eq_true rfl) (Nat.le_of_ble_eq_true rfl) (Nat.le_of_ble_eq_true rfl) dX9_handOver_39 ?_
    refine lv_topi (fun x_15 ex_15 => ?_)
    have mx_15 := imax_f ex_15
    rw [show (0 : Int32).toInt = 0 by decide] at mx_15
    have hi_16 : vp_in x1 6 := by
      have z_1 : ¬ (r_4 : Int32).toInt = (0 : Int32).toInt := fun z => c_8 (Int32.toInt_inj.mp z)
      have y_0 : (0 : Int32).toInt = 0 := by decide
      refine vp_in_iff.mpr ⟨?_, ?_⟩ <;> omega
    refine st_int hx hb hK hP hD hS 3 0 rfl rfl hi_16 dX9_handOver_42 (fun g_17 H locs eg_17 hP₀ hD₀ hS₀ => ?_)
    replace hP : va_P D classes [((Aa 0), .inr (9, [.int x_11, .int (Av 1), .int (Av 2), .int (Av 3), .int (Av 4), .int (Av 5), .ref (Aa 1), .ref (Aa 2), .ref (Aa 3), .ref (Aa 4), .ref (Aa 5), .ref (Aa 6), .ref (Aa 7), .ref (Aa 8)])), ((Aa 1), .inl (tc 0, 10, .inl (Af 1))), ((Aa 2), .inl (tc 0, 10, .inl (Af 2))), ((Aa 3), .inl (tc 0, 6, .inl g_17)), ((Aa 4), .inl (tc 0, 6, .inl (Af 4))), ((Aa 5), .inl (tc 0, 6, .inl (Af 5))), ((Aa 6), .inl (tc 0, 6, .inl (Af 6))), ((Aa 7), .inl (tc 0, 6, .inl (Af 7))), ((Aa 8), .inl (tc 0, 6, .inl (Af 8)))] H := hP₀
    replace hD : va_D A [((Aa 0), .inr (9, [.int x_11, .int (Av 1), .int (Av 2), .int (Av 3), .int (Av 4), .int (Av 5), .ref (Aa 1), .ref (Aa 2), .ref (Aa 3), .ref (Aa 4), .ref (Aa 5), .ref (Aa 6), .ref (Aa 7), .ref (Aa 8)])), ((Aa 1), .inl (tc 0, 10, .inl (Af 1))), ((Aa 2), .inl (tc 0, 10, .inl (Af 2))), ((Aa 3), .inl (tc 0, 6, .inl g_17)), ((Aa 4), .inl (tc 0, 6, .inl (Af 4))), ((Aa 5), .inl (tc 0, 6, .inl (Af 5))), ((Aa 6), .inl (tc 0, 6, .inl (Af 6))), ((Aa 7), .inl (tc 0, 6, .inl (Af 7))), ((Aa 8), .inl (tc 0, 6, .inl (Af 8)))] := hD₀
    replace hS := hS₀
    clear hP₀ hD₀ hS₀
    refine lv_aload_n hx hb dX9_handOver_43 rfl (lv_at hl 0 rfl) ?_
    refine gf_X9_46 hx hb hts hown hK hP 0 rfl rfl dX9_handOver_44 ?_
    refine lv_iload_n hx hb dX9_handOver_47 rfl (lv_at hl 1 rfl) ?_
    refine lv_dup2_11 hx hb dX9_handOver_48 rfl rfl ?_
    have hi_18 : vp_in x1 6 := by
      have z_1 : ¬ (r_4 : Int32).toInt = (0 : Int32).toInt := fun z => c_8 (Int32.toInt_inj.mp z)
      have y_0 : (0 : Int32).toInt = 0 := by decide
      refine vp_in_iff.mpr ⟨?_, ?_⟩ <;> omega
    refine va_iald hx hb hK hP 6 0 rfl rfl hi_18 dX9_handOver_49 ?_
    refine lv_topi (fun x_19 ex_19 => ?_)
    refine lv_aload_n hx hb dX9_handOver_50 rfl (lv_at hl 0 rfl) ?_
    refine gf_X9_40 hx hb hts hown hK hP 0 rfl rfl dX9_handOver_51 ?_
    refine lv_iload_n hx hb dX9_handOver_54 rfl (lv_at hl 1 rfl) ?_
    have hi_20 : vp_in x1 6 := by
      have z_1 : ¬ (r_4 : Int32).toInt = (0 : Int32).toInt := fun z => c_8 (Int32.toInt_inj.mp z)
      have y_0 : (0 : Int32).toInt = 0 := by decide
      refine vp_in_iff.mpr ⟨?_, ?_⟩ <;> omega
    refine va_iald hx hb hK hP 4 0 rfl rfl hi_20 dX9_handOver_55 ?_
    refine lv_topi (fun x_21 ex_21 => ?_)
    refine lv_iadd hx hb dX9_handOver_56 ?_
    refine lv_topi (fun x_22 ex_22 => ?_)
    have hi_23 : vp_in x1 6 := by
      have z_1 : ¬ (r_4 : Int32).toInt = (0 : Int32).toInt := fun z => c_8 (Int32.toInt_inj.mp z)
      have y_0 : (0 : Int32).toInt = 0 := by decide
      refine vp_in_iff.mpr ⟨?_, ?_⟩ <;> omega
    refine st_int hx hb hK hP hD hS 6 0 rfl rfl hi_23 dX9_handOver_57 (fun g_24 H locs eg_24 hP₀ hD₀ hS₀ => ?_)
    replace hP : va_P D classes [((Aa 0), .inr (9, [.int x_11, .int (Av 1), .int (Av 2), .int (Av 3), .int (Av 4), .int (Av 5), .ref (Aa 1), .ref (Aa 2), .ref (Aa 3), .ref (Aa 4), .ref (Aa 5), .ref (Aa 6), .ref (Aa 7), .ref (Aa 8)])), ((Aa 1), .inl (tc 0, 10, .inl (Af 1))), ((Aa 2), .inl (tc 0, 10, .inl (Af 2))), ((Aa 3), .inl (tc 0, 6, .inl g_17)), ((Aa 4), .inl (tc 0, 6, .inl (Af 4))), ((Aa 5), .inl (tc 0, 6, .inl (Af 5))), ((Aa 6), .inl (tc 0, 6, .inl g_24)), ((Aa 7), .inl (tc 0, 6, .inl (Af 7))), ((Aa 8), .inl (tc 0, 6, .inl (Af 8)))] H := hP₀
    replace hD : va_D A [((Aa 0), .inr (9, [.int x_11, .int (Av 1), .int (Av 2), .int (Av 3), .int (Av 4), .int (Av 5), .ref (Aa 1), .ref (Aa 2), .ref (Aa 3), .ref (Aa 4), .ref (Aa 5), .ref (Aa 6), .ref (Aa 7), .ref (Aa 8)])), ((Aa 1), .inl (tc 0, 10, .inl (Af 1))), ((Aa 2), .inl (tc 0, 10, .inl (Af 2))), ((Aa 3), .inl (tc 0, 6, .inl g_17)), ((Aa 4), .inl (tc 0, 6, .inl (Af 4))), ((Aa 5), .inl (tc 0, 6, .inl (Af 5))), ((Aa 6), .inl (tc 0, 6, .inl g_24)), ((Aa 7), .inl (tc 0, 6, .inl (Af 7))), ((Aa 8), .inl (tc 0, 6, .inl (Af 8)))] := hD₀
    replace hS := hS₀
    clear hP₀ hD₀ hS₀
    refine lv_aload_n hx hb dX9_handOver_58 rfl (lv_at hl 0 rfl) ?_
    refine lv_dup hx hb dX9_handOver_59 rfl ?_
    refine gf_X9_27 hx hb hts hown hK hP 0 rfl rfl dX9_handOver_60 ?_
    refine lv_aload_n hx hb dX9_handOver_63 rfl (lv_at hl 0 rfl) ?_
    refine gf_X9_40 hx hb hts hown hK hP 0 rfl rfl dX9_handOver_64 ?_
    refine lv_iload_n hx hb dX9_handOver_67 rfl (lv_at hl 1 rfl) ?_
    have hi_25 : vp_in x1 6 := by
      have z_1 : ¬ (r_4 : Int32).toInt = (0 : Int32).toInt := fun z => c_8 (Int32.toInt_inj.mp z)
      have y_0 : (0 : Int32).toInt = 0 := by decide
      refine vp_in_iff.mpr ⟨?_, ?_⟩ <;> omega
    refine va_iald hx hb hK hP 4 0 rfl rfl hi_25 dX9_handOver_68 ?_
    refine lv_topi (fun x_26 ex_26 => ?_)
    refine lv_iadd hx hb dX9_handOver_69 ?_
    refine lv_topi (fun x_27 ex_27 => ?_)
    refine pf_X9_27 hx hb hts hown hK hP hD hS 0 rfl (Nat.le_of_ble_eq_true rfl) rfl rfl dX9_handOver_70 (fun H locs hP₀ hD₀ hS₀ => ?_)
    replace hP : va_P D classes [((Aa 0), .inr (9, [.int x_11, .int (Av 1), .int (Av 2), .int (Av 3), .int (Av 4), .int x_27, .ref (Aa 1), .ref (Aa 2), .ref (Aa 3), .ref (Aa 4), .ref (Aa 5), .ref (Aa 6), .ref (Aa 7), .ref (Aa 8)])), ((Aa 1), .inl (tc 0, 10, .inl (Af 1))), ((Aa 2), .inl (tc 0, 10, .inl (Af 2))), ((Aa 3), .inl (tc 0, 6, .inl g_17)), ((Aa 4), .inl (tc 0, 6, .inl (Af 4))), ((Aa 5), .inl (tc 0, 6, .inl (Af 5))), ((Aa 6), .inl (tc 0, 6, .inl g_24)), ((Aa 7), .inl (tc 0, 6, .inl (Af 7))), ((Aa 8), .inl (tc 0, 6, .inl (Af 8)))] H := hP₀
    replace hD : va_D A [((Aa 0), .inr (9, [.int x_11, .int (Av 1), .int (Av 2), .int (Av 3), .int (Av 4), .int x_27, .ref (Aa 1), .ref (Aa 2), .ref (Aa 3), .ref (Aa 4), .ref (Aa 5), .ref (Aa 6), .ref (Aa 7), .ref (Aa 8)])), ((Aa 1), .inl (tc 0, 10, .inl (Af 1))), ((Aa 2), .inl (tc 0, 10, .inl (Af 2))), ((Aa 3), .inl (tc 0, 6, .inl g_17)), ((Aa 4), .inl (tc 0, 6, .inl (Af 4))), ((Aa 5), .inl (tc 0, 6, .inl (Af 5))), ((Aa 6), .inl (tc 0, 6, .inl g_24)), ((Aa 7), .inl (tc 0, 6, .inl (Af 7))), ((Aa 8), .inl (tc 0, 6, .inl (Af 8)))] := hD₀
    replace hS := hS₀
    clear hP₀ hD₀ hS₀
    refine lv_aload_n hx hb dX9_handOver_73 rfl (lv_at hl 0 rfl) ?_
    refine gf_X9_52 hx hb hts hown hK hP 0 rfl rfl dX9_handOver_74 ?_
    refine lv_iload_n hx hb dX9_handOver_77 rfl (lv_at hl 1 rfl) ?_
    refine lv_aload_n hx hb dX9_handOver_78 rfl (lv_at hl 0 rfl) ?_
    refine gf_X9_24 hx hb hts hown hK hP 0 rfl rfl dX9_handOver_79 ?_
    have hi_28 : vp_in x1 6 := by
      have z_1 : ¬ (r_4 : Int32).toInt = (0 : Int32).toInt := fun z => c_8 (Int32.toInt_inj.mp z)
      have y_0 : (0 : Int32).toInt = 0 := by decide
      refine vp_in_iff.mpr ⟨?_, ?_⟩ <;> omega
    refine st_int hx hb hK hP hD hS 8 0 rfl rfl hi_28 dX9_handOver_82 (fun g_29 H locs eg_29 hP₀ hD₀ hS₀ => ?_)
    replace hP : va_P D classes [((Aa 0), .inr (9, [.int x_11, .int (Av 1), .int (Av 2), .int (Av 3), .int (Av 4), .int x_27, .ref (Aa 1), .ref (Aa 2), .ref (Aa 3), .ref (Aa 4), .ref (Aa 5), .ref (Aa 6), .ref (Aa 7), .ref (Aa 8)])), ((Aa 1), .inl (tc 0, 10, .inl (Af 1))), ((Aa 2), .inl (tc 0, 10, .inl (Af 2))), ((Aa 3), .inl (tc 0, 6, .inl g_17)), ((Aa 4), .inl (tc 0, 6, .inl (Af 4))), ((Aa 5), .inl (tc 0, 6, .inl (Af 5))), ((Aa 6), .inl (tc 0, 6, .inl g_24)), ((Aa 7), .inl (tc 0, 6, .inl (Af 7))), ((Aa 8), .inl (tc 0, 6, .inl g_29))] H := hP₀
    replace hD : va_D A [((Aa 0), .inr (9, [.int x_11, .int (Av 1), .int (Av 2), .int (Av 3), .int (Av 4), .int x_27, .ref (Aa 1), .ref (Aa 2), .ref (Aa 3), .ref (Aa 4), .ref (Aa 5), .ref (Aa 6), .ref (Aa 7), .ref (Aa 8)])), ((Aa 1), .inl (tc 0, 10, .inl (Af 1))), ((Aa 2), .inl (tc 0, 10, .inl (Af 2))), ((Aa 3), .inl (tc 0, 6, .inl g_17)), ((Aa 4), .inl (tc 0, 6, .inl (Af 4))), ((Aa 5), .inl (tc 0, 6, .inl (Af 5))), ((Aa 6), .inl (tc 0, 6, .inl g_24)), ((Aa 7), .inl (tc 0, 6, .inl (Af 7))), ((Aa 8), .inl (tc 0, 6, .inl g_29))] := hD₀
    replace hS := hS₀
    clear hP₀ hD₀ hS₀
    have hF_30 : (x_11, x_27, g_17, g_24, g_29) = (dX9_handOver (Af 3) (Af 4) (Af 6) (Af 8) (Av 0) (Av 3) (Av 4) (Av 5) x1) := by
      clear hP hD hS hl
      replace er_4 := er_4.symm; subst er_4
      replace ex_10 := ex_10.symm; subst ex_10
      replace ex_11 := ex_11.symm; subst ex_11
      replace ex_13 := ex_13.symm; subst ex_13
      replace ex_14 := ex_14.symm; subst ex_14
      replace ex_15 := ex_15.symm; subst ex_15
      replace eg_17 := eg_17.symm; subst eg_17
      replace ex_19 := ex_19.symm; subst ex_19
      replace ex_21 := ex_21.symm; subst ex_21
      replace ex_22 := ex_22.symm; subst ex_22
      replace eg_24 := eg_24.symm; subst eg_24
      replace ex_26 := ex_26.symm; subst ex_26
      replace ex_27 := ex_27.symm; subst ex_27
      replace eg_29 := eg_29.symm; subst eg_29
      unfold dX9_handOver
      rw [if_neg c_8]
      try rfl
    exact retV hx hb hr hlk hP hD hS (x_11, x_27, g_17, g_24, g_29) ⟨rfl, hF_30⟩ [0, 1, 2, 3, 4, 5, 6, 7, 8] rfl rfl dX9_handOver_83 (Nat.le_of_ble_eq_true rfl) (Nat.le_of_ble_eq_true rfl) rfl
  · skip
    have hF_31 : ((Av 0), (Av 5), (Af 3), (Af 6), (Af 8)) = (dX9_handOver (Af 3) (Af 4) (Af 6) (Af 8) (Av 0) (Av 3) (Av 4) (Av 5) x1) := by
      clear hP hD hS hl
      replace er_4 := er_4.symm; subst er_4
      unfold dX9_handOver
      rw [if_pos c_8]
      try rfl
    exact retV hx hb hr hlk hP hD hS ((Av 0), (Av 5), (Af 3), (Af 6), (Af 8)) ⟨rfl, hF_31⟩ [0, 1, 2, 3, 4, 5, 6, 7, 8] rfl rfl dX9_handOver_8 (Nat.le_of_ble_eq_true rfl) (Nat.le_of_ble_eq_true rfl) rfl
set_option maxRecDepth 100000 in
theorem cu_dX9_handOver (l : Launch) (D : va_G) (tc : Nat → ClassId) (sk : (Nat → Nat) × (Nat → Nat)) (Aa_0 : Nat) (Aa_1 : Nat) (Aa_2 : Nat) (Aa_3 : Nat) (Aa_4 : Nat) (Aa_5 : Nat) (Aa_6 : Nat) (Aa_7 : Nat) (Aa_8 : Nat) (Av_0 : Int32) (Av_1 : Int32) (Av_2 : Int32) (Av_3 : Int32) (Av_4 : Int32) (Av_5 : Int32) (Af_1 : Nat → Int32) (Af_2 : Nat → Int32) (Af_3 : Nat → Int32) (Af_4 : Nat → Int32) (Af_5 : Nat → Int32) (Af_6 : Nat → Int32) (Af_7 : Nat → Int32) (Af_8 : Nat → Int32) (x1 : Int32)  : Ct l yX9_handOver cX9_handOver 2 none { frames := 1, cells := 0, slots := 0, locals := 21 } D tc sk [.ref Aa_0, .int x1] [(Aa_0, .inr (9, [.int Av_0, .int Av_1, .int Av_2, .int Av_3, .int Av_4, .int Av_5, .ref Aa_1, .ref Aa_2, .ref Aa_3, .ref Aa_4, .ref Aa_5, .ref Aa_6, .ref Aa_7, .ref Aa_8])), (Aa_1, .inl (tc 0, 10, .inl Af_1)), (Aa_2, .inl (tc 0, 10, .inl Af_2)), (Aa_3, .inl (tc 0, 6, .inl Af_3)), (Aa_4, .inl (tc 0, 6, .inl Af_4)), (Aa_5, .inl (tc 0, 6, .inl Af_5)), (Aa_6, .inl (tc 0, 6, .inl Af_6)), (Aa_7, .inl (tc 0, 6, .inl Af_7)), (Aa_8, .inl (tc 0, 6, .inl Af_8))] (fun (v : Option Value) (u : (Int32) × (Int32) × (Nat → Int32) × (Nat → Int32) × (Nat → Int32)) => match u with | (oo0x1, oo0x2, oo0x3, oo0x4, oo0x5) => v = none ∧ (DEq ((oo0x1, oo0x2, oo0x3, oo0x4, oo0x5)) (dX9_handOver Af_3 Af_4 Af_6 Af_8 Av_0 Av_3 Av_4 Av_5 x1))) (fun (u : (Int32) × (Int32) × (Nat → Int32) × (Nat → Int32) × (Nat → Int32)) => match u with | (oo0x1, oo0x2, oo0x3, oo0x4, oo0x5) => [(Aa_0, .inr (9, [.int oo0x1, .int Av_1, .int Av_2, .int Av_3, .int Av_4, .int oo0x2, .ref Aa_1, .ref Aa_2, .ref Aa_3, .ref Aa_4, .ref Aa_5, .ref Aa_6, .ref Aa_7, .ref Aa_8])), (Aa_1, .inl (tc 0, 10, .inl Af_1)), (Aa_2, .inl (tc 0, 10, .inl Af_2)), (Aa_3, .inl (tc 0, 6, .inl oo0x3)), (Aa_4, .inl (tc 0, 6, .inl Af_4)), (Aa_5, .inl (tc 0, 6, .inl Af_5)), (Aa_6, .inl (tc 0, 6, .inl oo0x4)), (Aa_7, .inl (tc 0, 6, .inl Af_7)), (Aa_8, .inl (tc 0, 6, .inl oo0x5))]) 0 0 :=
  ct_dX9_handOver l D tc sk (fun k => ([Aa_0, Aa_1, Aa_2, Aa_3, Aa_4, Aa_5, Aa_6, Aa_7, Aa_8] : List (Nat)).getD k 0) (fun k => ([Av_0, Av_1, Av_2, Av_3, Av_4, Av_5] : List (Int32)).getD k 0) (fun k => ([(fun _ => 0), Af_1, Af_2, Af_3, Af_4, Af_5, Af_6, Af_7, Af_8] : List (Nat → Int32)).getD k (fun _ => 0)) x1 
set_option maxHeartbeats 4000000 in
set_option maxRecDepth 100000 in
theorem ct_dX9_changeTempers (l : Launch) (D : va_G) (tc : Nat → ClassId) (sk : (Nat → Nat) × (Nat → Nat)) (Aa : Nat → Nat) (Av : Nat → Int32) (Af : Nat → Nat → Int32) (x1 : Int32)  : Ct l yX9_changeTempers cX9_changeTempers 4 none { frames := 1, cells := 0, slots := 0, locals := 16 } D tc sk [.ref (Aa 0), .int x1] [((Aa 0), .inr (9, [.int (Av 0), .int (Av 1), .int (Av 2), .int (Av 3), .int (Av 4), .int (Av 5), .ref (Aa 1), .ref (Aa 2), .ref (Aa 3), .ref (Aa 4), .ref (Aa 5), .ref (Aa 6), .ref (Aa 7), .ref (Aa 8)])), ((Aa 1), .inl (tc 0, 10, .inl (Af 1))), ((Aa 2), .inl (tc 0, 10, .inl (Af 2))), ((Aa 3), .inl (tc 0, 6, .inl (Af 3))), ((Aa 4), .inl (tc 0, 6, .inl (Af 4))), ((Aa 5), .inl (tc 0, 6, .inl (Af 5))), ((Aa 6), .inl (tc 0, 6, .inl (Af 6))), ((Aa 7), .inl (tc 0, 6, .inl (Af 7))), ((Aa 8), .inl (tc 0, 6, .inl (Af 8)))] (fun (v : Option Value) (oo0x1 : Nat → Int32) => v = none ∧ (DEq (oo0x1) (dX9_changeTempers (Af 3) (Av 3) x1))) (fun (oo0x1 : Nat → Int32) => [((Aa 0), .inr (9, [.int (Av 0), .int (Av 1), .int (Av 2), .int (Av 3), .int (Av 4), .int (Av 5), .ref (Aa 1), .ref (Aa 2), .ref (Aa 3), .ref (Aa 4), .ref (Aa 5), .ref (Aa 6), .ref (Aa 7), .ref (Aa 8)])), ((Aa 1), .inl (tc 0, 10, .inl (Af 1))), ((Aa 2), .inl (tc 0, 10, .inl (Af 2))), ((Aa 3), .inl (tc 0, 6, .inl oo0x1)), ((Aa 4), .inl (tc 0, 6, .inl (Af 4))), ((Aa 5), .inl (tc 0, 6, .inl (Af 5))), ((Aa 6), .inl (tc 0, 6, .inl (Af 6))), ((Aa 7), .inl (tc 0, 6, .inl (Af 7))), ((Aa 8), .inl (tc 0, 6, .inl (Af 8)))]) 0 0 := by
  refine Ct.start (by decide) (Nat.le_of_ble_eq_true rfl) (fun p e s m below meth c A ls hx hb hr hlk hin hml hown hts hK hX hP hD hA hl hS => ?_)
  have hl : lv_has ls 4 [(0, .ref (Aa 0)), (1, .int x1)] := hl
  refine lv_iload_n hx hb dX9_changeTempers_0 rfl (lv_at hl 1 rfl) ?_
  refine lv_iconst (v := 5) hx hb dX9_changeTempers_1 (by decide) ?_
  refine lv_icmp_lt (tgt := 9) hx hb dX9_changeTempers_2 (by decide) (fun c_1 => ?_) (fun c_1 => ?_)
  · skip
    refine lv_iload_n hx hb dX9_changeTempers_9 rfl (lv_at hl 1 rfl) ?_
    refine lv_iconst (v := 2) hx hb dX9_changeTempers_10 (by decide) ?_
    refine lv_icmp_gt (tgt := 18) hx hb dX9_changeTempers_11 (by decide) (fun c_2 => ?_) (fun c_2 => ?_)
    · skip
      refine lv_iconst (v := 0) hx hb dX9_changeTempers_18 (by decide) ?_
      refine lv_istore_n (lv' := [(2, .int 0), (0, .ref (Aa 0)), (1, .int x1)]) hx hb dX9_changeTempers_19 rfl hl (by decide) rfl (fun ls hl₀ => ?_)
      replace hl := hl₀
      clear hl₀
      refine lv_iconst (v := 0) hx hb dX9_changeTempers_20 (by decide) ?_
      refine lv_istore_n (lv' := [(3, .int 0), (2, .int 0), (0, .ref (Aa 0)), (1, .int x1)]) hx hb dX9_changeTempers_21 rfl hl (by decide) rfl (fun ls hl₀ => ?_)
      replace hl := hl₀
      clear hl₀
      have loop_5 : ∀ (n_3 : Nat) (yy_2300 : Int32) (yy_2301 : Nat → Int32) (H : Heap) (locs : List Loc) (ls : Array Slot), (6 - (yy_2300 : Int32).toInt).toNat < n_3 → (dX9_changeTempers_l22 (Av 3) (0 : Int32) ((6 - (0 : Int32).toInt).toNat + 1) (0 : Int32) (Af 3)) = dX9_changeTempers_l22 (Av 3) (0 : Int32) ((6 - (yy_2300 : Int32).toInt).toNat + 1) yy_2300 yy_2301 → (0 ≤ (yy_2300 : Int32).toInt) → va_P D classes [((Aa 0), .inr (9, [.int (Av 0), .int (Av 1), .int (Av 2), .int (Av 3), .int (Av 4), .int (Av 5), .ref (Aa 1), .ref (Aa 2), .ref (Aa 3), .ref (Aa 4), .ref (Aa 5), .ref (Aa 6), .ref (Aa 7), .ref (Aa 8)])), ((Aa 1), .inl (tc 0, 10, .inl (Af 1))), ((Aa 2), .inl (tc 0, 10, .inl (Af 2))), ((Aa 3), .inl (tc 0, 6, .inl yy_2301)), ((Aa 4), .inl (tc 0, 6, .inl (Af 4))), ((Aa 5), .inl (tc 0, 6, .inl (Af 5))), ((Aa 6), .inl (tc 0, 6, .inl (Af 6))), ((Aa 7), .inl (tc 0, 6, .inl (Af 7))), ((Aa 8), .inl (tc 0, 6, .inl (Af 8)))] H → va_D A [((Aa 0), .inr (9, [.int (Av 0), .int (Av 1), .int (Av 2), .int (Av 3), .int (Av 4), .int (Av 5), .ref (Aa 1), .ref (Aa 2), .ref (Aa 3), .ref (Aa 4), .ref (Aa 5), .ref (Aa 6), .ref (Aa 7), .ref (Aa 8)])), ((Aa 1), .inl (tc 0, 10, .inl (Af 1))), ((Aa 2), .inl (tc 0, 10, .inl (Af 2))), ((Aa 3), .inl (tc 0, 6, .inl yy_2301)), ((Aa 4), .inl (tc 0, 6, .inl (Af 4))), ((Aa 5), .inl (tc 0, 6, .inl (Af 5))), ((Aa 6), .inl (tc 0, 6, .inl (Af 6))), ((Aa 7), .inl (tc 0, 6, .inl (Af 7))), ((Aa 8), .inl (tc 0, 6, .inl (Af 8)))] → va_S A s.heap H locs → lv_has ls 4 [(3, .int yy_2300), (2, .int 0), (0, .ref (Aa 0)), (1, .int x1)] → W p l e ({ frames := 1, cells := 0, slots := 0, locals := 16 }) s m ([.ref (Aa 0), .int x1].toArray) below meth c H locs 0 0 (MQ below (QW (fun (v : Option Value) (oo0x1 : Nat → Int32) => v = none ∧ (DEq (oo0x1) (dX9_changeTempers (Af 3) (Av 3) x1))) (BW D (fun (oo0x1 : Nat → Int32) => [((Aa 0), .inr (9, [.int (Av 0), .int (Av 1), .int (Av 2), .int (Av 3), .int (Av 4), .int (Av 5), .ref (Aa 1), .ref (Aa 2), .ref (Aa 3), .ref (Aa 4), .ref (Aa 5), .ref (Aa 6), .ref (Aa 7), .ref (Aa 8)])), ((Aa 1), .inl (tc 0, 10, .inl (Af 1))), ((Aa 2), .inl (tc 0, 10, .inl (Af 2))), ((Aa 3), .inl (tc 0, 6, .inl oo0x1)), ((Aa 4), .inl (tc 0, 6, .inl (Af 4))), ((Aa 5), .inl (tc 0, 6, .inl (Af 5))), ((Aa 6), .inl (tc 0, 6, .inl (Af 6))), ((Aa 7), .inl (tc 0, 6, .inl (Af 7))), ((Aa 8), .inl (tc 0, 6, .inl (Af 8)))]) A) A) ([.ref (Aa 0), .int x1].toArray) s 0 0 A) (F0 m 22 ls []) := by
        clear hP hD hS hl
        intro n_3
        induction n_3 with
        | zero =>
          intro yy_2300 yy_2301 H locs ls h1
          exact absurd h1 (Nat.not_lt_zero _)
        | succ n_3 ih_4 =>
          intro yy_2300 yy_2301 H locs ls hn_8 hL_7 pf_6 hP hD hS hl
          refine lv_iload_n hx hb dX9_changeTempers_22 rfl (lv_at hl 0 rfl) ?_
          refine lv_aload_n hx hb dX9_changeTempers_23 rfl (lv_at hl 2 rfl) ?_
          refine gf_X9_21 hx hb hts hown hK hP 0 rfl rfl dX9_changeTempers_24 ?_
          refine lv_icmp_ge (tgt := 65) hx hb dX9_changeTempers_27 (by decide) (fun c_9 => ?_) (fun c_9 => ?_)
          · skip
            have hb_11 : dX9_changeTempers_l22 (Av 3) (0 : Int32) ((6 - (yy_2300 : Int32).toInt).toNat + 1) yy_2300 yy_2301 = (yy_2300, yy_2301) := by
              clear hP hD hS hl ih_4
              rw [dX9_changeTempers_l22_s]
              rw [if_pos c_9]
              try rfl
            have hX_10 : (dX9_changeTempers_l22 (Av 3) (0 : Int32) ((6 - (0 : Int32).toInt).toNat + 1) (0 : Int32) (Af 3)) = (yy_2300, yy_2301) := hL_7.trans hb_11
            have hX_10_0 : (dX9_changeTempers_l22 (Av 3) (0 : Int32) ((6 - (0 : Int32).toInt).toNat + 1) (0 : Int32) (Af 3)).1 = yy_2300 := congrArg (fun z => z.1) hX_10
            have hX_10_1 : (dX9_changeTempers_l22 (Av 3) (0 : Int32) ((6 - (0 : Int32).toInt).toNat + 1) (0 : Int32) (Af 3)).2 = yy_2301 := congrArg (fun z => z.2) hX_10
            have hF_12 : yy_2301 = (dX9_changeTempers (Af 3) (Av 3) x1) := by
              clear hP hD hS hl ih_4
              unfold dX9_changeTempers
              try rw [hX_10_0]
              try rw [hX_10_1]
              rw [if_pos c_1, if_pos c_2]
              try rfl
            exact retV hx hb hr hlk hP hD hS yy_2301 ⟨rfl, hF_12⟩ [0, 1, 2, 3, 4, 5, 6, 7, 8] rfl rfl dX9_changeTempers_65 (Nat.le_of_ble_eq_true rfl) (Nat.le_of_ble_eq_true rfl) rfl
          · skip
            refine lv_iload_n hx hb dX9_changeTempers_30 rfl (lv_at hl 0 rfl) ?_
            refine lv_bipush (v := 6) hx hb dX9_changeTempers_31 (by decide) ?_
            refine lv_icmp_ge (tgt := 65) hx hb dX9_changeTempers_33 (by decide) (fun c_13 => ?_) (fun c_13 => ?_)
            · skip
              have hb_15 : dX9_changeTempers_l22 (Av 3) (0 : Int32) ((6 - (yy_2300 : Int32).toInt).toNat + 1) yy_2300 yy_2301 = (yy_2300, yy_2301) := by
                clear hP hD hS hl ih_4
                rw [dX9_changeTempers_l22_s]
                rw [if_neg c_9, if_pos c_13]
                try rfl
              have hX_14 : (dX9_changeTempers_l22 (Av 3) (0 : Int32) ((6 - (0 : Int32).toInt).toNat + 1) (0 : Int32) (Af 3)) = (yy_2300, yy_2301) := hL_7.trans hb_15
              have hX_14_0 : (dX9_changeTempers_l22 (Av 3) (0 : Int32) ((6 - (0 : Int32).toInt).toNat + 1) (0 : Int32) (Af 3)).1 = yy_2300 := congrArg (fun z => z.1) hX_14
              have hX_14_1 : (dX9_changeTempers_l22 (Av 3) (0 : Int32) ((6 - (0 : Int32).toInt).toNat + 1) (0 : Int32) (Af 3)).2 = yy_2301 := congrArg (fun z => z.2) hX_14
              have hF_16 : yy_2301 = (dX9_changeTempers (Af 3) (Av 3) x1) := by
                clear hP hD hS hl ih_4
                unfold dX9_changeTempers
                try rw [hX_14_0]
                try rw [hX_14_1]
                rw [if_pos c_1, if_pos c_2]
                try rfl
              exact retV hx hb hr hlk hP hD hS yy_2301 ⟨rfl, hF_16⟩ [0, 1, 2, 3, 4, 5, 6, 7, 8] rfl rfl dX9_changeTempers_65 (Nat.le_of_ble_eq_true rfl) (Nat.le_of_ble_eq_true rfl) rfl
            · skip
              refine lv_aload_n hx hb dX9_changeTempers_36 rfl (lv_at hl 2 rfl) ?_
              refine gf_X9_37 hx hb hts hown hK hP 0 rfl rfl dX9_changeTempers_37 ?_
              refine lv_iload_n hx hb dX9_changeTempers_40 rfl (lv_at hl 0 rfl) ?_
              refine lv_iconst (v := 0) hx hb dX9_changeTempers_41 (by decide) ?_
              refine lv_bipush (v := 20) hx hb dX9_changeTempers_42 (by decide) ?_
              refine lv_aload_n hx hb dX9_changeTempers_44 rfl (lv_at hl 2 rfl) ?_
              refine gf_X9_37 hx hb hts hown hK hP 0 rfl rfl dX9_changeTempers_45 ?_
              refine lv_iload_n hx hb dX9_changeTempers_48 rfl (lv_at hl 0 rfl) ?_
              have hi_17 : vp_in yy_2300 6 := by
                have z_1 := Int32.lt_iff_toInt_lt.mp c_1
                have z_2 := Int32.lt_iff_toInt_lt.mp c_2
                have z_3 := Int32.lt_iff_toInt_lt.mp (Int32.not_le.mp c_9)
                have z_4 := Int32.lt_iff_toInt_lt.mp (Int32.not_le.mp c_13)
                have y_2 : (2 : Int32).toInt = 2 := by decide
                have y_5 : (5 : Int32).toInt = 5 := by decide
                have y_6 : (6 : Int32).toInt = 6 := by decide
                refine vp_in_iff.mpr ⟨?_, ?_⟩ <;> omega
              refine va_iald hx hb hK hP 3 0 rfl rfl hi_17 dX9_changeTempers_49 ?_
              refine lv_topi (fun x_18 ex_18 => ?_)
              refine lv_iload_n hx hb dX9_changeTempers_50 rfl (lv_at hl 1 rfl) ?_
              refine lv_iadd hx hb dX9_changeTempers_51 ?_
              refine lv_topi (fun x_19 ex_19 => ?_)
              refine va_mmin hx hb (hml.trans hl.1.symm) hown (hts _ k_780) (hts _ k_680) (hts _ k_114) (hts _ k_681) (Nat.le_of_ble_eq_true rfl) (Nat.le_of_ble_eq_true rfl) (Nat.le_of_ble_eq_true rfl) (Nat.le_of_ble_eq_true rfl) dX9_changeTempers_52 ?_
              refine lv_topi (fun x_20 ex_20 => ?_)
              have mx_20 := imin_f ex_20
              rw [show (20 : Int32).toInt = 20 by decide] at mx_20
              refine va_mmax hx hb (hml.trans hl.1.symm) hown (hts _ k_773) (hts _ k_774) (hts _ k_114) (hts _ k_775) (Nat.le_of_ble_eq_true rfl) (Nat.le_of_ble_eq_true rfl) (Nat.le_of_ble_eq_true rfl) (Nat.le_of_ble_eq_true rfl) dX9_changeTempers_55 ?_
              refine lv_topi (fun x_21 ex_21 => ?_)
              have mx_21 := imax_f ex_21
              rw [show (0 : Int32).toInt = 0 by decide] at mx_21
              have hi_22 : vp_in yy_2300 6 := by
                have z_1 := Int32.lt_iff_toInt_lt.mp c_1
                have z_2 := Int32.lt_iff_toInt_lt.mp c_2
                have z_3 := Int32.lt_iff_toInt_lt.mp (Int32.not_le.mp c_9)
                have z_4 := Int32.lt_iff_toInt_lt.mp (Int32.not_le.mp c_13)
                have y_2 : (2 : Int32).toInt = 2 := by decide
                have y_5 : (5 : Int32).toInt = 5 := by decide
                have y_6 : (6 : Int32).toInt = 6 := by decide
                refine vp_in_iff.mpr ⟨?_, ?_⟩ <;> omega
              refine st_int hx hb hK hP hD hS 3 0 rfl rfl hi_22 dX9_changeTempers_58 (fun g_23 H locs eg_23 hP₀ hD₀ hS₀ => ?_)
              replace hP : va_P D classes [((Aa 0), .inr (9, [.int (Av 0), .int (Av 1), .int (Av 2), .int (Av 3), .int (Av 4), .int (Av 5), .ref (Aa 1), .ref (Aa 2), .ref (Aa 3), .ref (Aa 4), .ref (Aa 5), .ref (Aa 6), .ref (Aa 7), .ref (Aa 8)])), ((Aa 1), .inl (tc 0, 10, .inl (Af 1))), ((Aa 2), .inl (tc 0, 10, .inl (Af 2))), ((Aa 3), .inl (tc 0, 6, .inl g_23)), ((Aa 4), .inl (tc 0, 6, .inl (Af 4))), ((Aa 5), .inl (tc 0, 6, .inl (Af 5))), ((Aa 6), .inl (tc 0, 6, .inl (Af 6))), ((Aa 7), .inl (tc 0, 6, .inl (Af 7))), ((Aa 8), .inl (tc 0, 6, .inl (Af 8)))] H := hP₀
              replace hD : va_D A [((Aa 0), .inr (9, [.int (Av 0), .int (Av 1), .int (Av 2), .int (Av 3), .int (Av 4), .int (Av 5), .ref (Aa 1), .ref (Aa 2), .ref (Aa 3), .ref (Aa 4), .ref (Aa 5), .ref (Aa 6), .ref (Aa 7), .ref (Aa 8)])), ((Aa 1), .inl (tc 0, 10, .inl (Af 1))), ((Aa 2), .inl (tc 0, 10, .inl (Af 2))), ((Aa 3), .inl (tc 0, 6, .inl g_23)), ((Aa 4), .inl (tc 0, 6, .inl (Af 4))), ((Aa 5), .inl (tc 0, 6, .inl (Af 5))), ((Aa 6), .inl (tc 0, 6, .inl (Af 6))), ((Aa 7), .inl (tc 0, 6, .inl (Af 7))), ((Aa 8), .inl (tc 0, 6, .inl (Af 8)))] := hD₀
              replace hS := hS₀
              clear hP₀ hD₀ hS₀
              obtain ⟨x_24, ex_24⟩ : ∃ y : Int32, y = yy_2300 + 1 := ⟨_, rfl⟩
              refine lv_iinc (v := x_24) (lv' := [(3, .int x_24), (2, .int 0), (0, .ref (Aa 0)), (1, .int x1)]) hx hb dX9_changeTempers_59 hl (k := 0) rfl (by rw [ex_24]; rfl) (by decide) rfl (fun ls hl₀ => ?_)
              replace hl := hl₀
              clear hl₀
              refine lv_goto (tgt := 22) hx hb dX9_changeTempers_62 (by decide) ?_
              have hb_25 : 6 - (x_24 : Int32).toInt < 6 - (yy_2300 : Int32).toInt ∧ 1 ≤ 6 - (yy_2300 : Int32).toInt := by
                have z_1 := Int32.lt_iff_toInt_lt.mp c_1
                have z_2 := Int32.lt_iff_toInt_lt.mp c_2
                have z_3 := Int32.lt_iff_toInt_lt.mp (Int32.not_le.mp c_9)
                have z_4 := Int32.lt_iff_toInt_lt.mp (Int32.not_le.mp c_13)
                have y_2 : (2 : Int32).toInt = 2 := by decide
                have y_5 : (5 : Int32).toInt = 5 := by decide
                have y_6 : (6 : Int32).toInt = 6 := by decide
                have y_1 : (1 : Int32).toInt = 1 := by decide
                have t_x_24 : x_24.toInt = (yy_2300 : Int32).toInt + (1 : Int32).toInt := by rw [ex_24]; exact add_toInt (by omega) (by omega)
                omega
              have hm_26 : (6 - (yy_2300 : Int32).toInt).toNat = (6 - (x_24 : Int32).toInt).toNat + 1 := by
                have z_1 := Int32.lt_iff_toInt_lt.mp c_1
                have z_2 := Int32.lt_iff_toInt_lt.mp c_2
                have z_3 := Int32.lt_iff_toInt_lt.mp (Int32.not_le.mp c_9)
                have z_4 := Int32.lt_iff_toInt_lt.mp (Int32.not_le.mp c_13)
                have y_2 : (2 : Int32).toInt = 2 := by decide
                have y_5 : (5 : Int32).toInt = 5 := by decide
                have y_6 : (6 : Int32).toInt = 6 := by decide
                have y_1 : (1 : Int32).toInt = 1 := by decide
                have t_x_24 : x_24.toInt = (yy_2300 : Int32).toInt + (1 : Int32).toInt := by rw [ex_24]; exact add_toInt (by omega) (by omega)
                omega
              have hb_27 : dX9_changeTempers_l22 (Av 3) (0 : Int32) ((6 - (yy_2300 : Int32).toInt).toNat + 1) yy_2300 yy_2301 = dX9_changeTempers_l22 (Av 3) (0 : Int32) ((6 - (yy_2300 : Int32).toInt).toNat) x_24 g_23 := by
                clear hP hD hS hl ih_4
                replace ex_18 := ex_18.symm; subst ex_18
                replace ex_19 := ex_19.symm; subst ex_19
                replace ex_20 := ex_20.symm; subst ex_20
                replace ex_21 := ex_21.symm; subst ex_21
                replace eg_23 := eg_23.symm; subst eg_23
                replace ex_24 := ex_24.symm; subst ex_24
                rw [dX9_changeTempers_l22_s]
                rw [if_neg c_9, if_neg c_13]
                try rfl
              have hL_28 : (dX9_changeTempers_l22 (Av 3) (0 : Int32) ((6 - (0 : Int32).toInt).toNat + 1) (0 : Int32) (Af 3)) = dX9_changeTempers_l22 (Av 3) (0 : Int32) ((6 - (x_24 : Int32).toInt).toNat + 1) x_24 g_23 := by
                rw [hL_7, hb_27, hm_26]
              have ha_29 : 0 ≤ (x_24 : Int32).toInt := by
                have z_1 := Int32.lt_iff_toInt_lt.mp c_1
                have z_2 := Int32.lt_iff_toInt_lt.mp c_2
                have z_3 := Int32.lt_iff_toInt_lt.mp (Int32.not_le.mp c_9)
                have z_4 := Int32.lt_iff_toInt_lt.mp (Int32.not_le.mp c_13)
                have y_2 : (2 : Int32).toInt = 2 := by decide
                have y_5 : (5 : Int32).toInt = 5 := by decide
                have y_6 : (6 : Int32).toInt = 6 := by decide
                have y_1 : (1 : Int32).toInt = 1 := by decide
                have t_x_24 : x_24.toInt = (yy_2300 : Int32).toInt + (1 : Int32).toInt := by rw [ex_24]; exact add_toInt (by omega) (by omega)
                omega
              exact ih_4 x_24 g_23 _ _ _ (by omega) hL_28 ha_29 (hP.sub [0, 1, 2, 3, 4, 5, 6, 7, 8] rfl) (hD.sub [0, 1, 2, 3, 4, 5, 6, 7, 8] rfl rfl) hS (lv_sub hl [0, 1, 2, 3] rfl)
      have ha_30 : 0 ≤ (0 : Int32).toInt := by
        have z_1 := Int32.lt_iff_toInt_lt.mp c_1
        have z_2 := Int32.lt_iff_toInt_lt.mp c_2
        have y_2 : (2 : Int32).toInt = 2 := by decide
        have y_5 : (5 : Int32).toInt = 5 := by decide
        have y_0 : (0 : Int32).toInt = 0 := by decide
        omega
      exact loop_5 _ 0 (Af 3) _ _ _ (Nat.lt_succ_self _) rfl ha_30 hP hD hS hl
    · skip
      refine lv_iconst (v := (-1)) hx hb dX9_changeTempers_14 (by decide) ?_
      refine lv_goto (tgt := 19) hx hb dX9_changeTempers_15 (by decide) ?_
      refine lv_istore_n (lv' := [(2, .int (-1)), (0, .ref (Aa 0)), (1, .int x1)]) hx hb dX9_changeTempers_19 rfl hl (by decide) rfl (fun ls hl₀ => ?_)
      replace hl := hl₀
      clear hl₀
      refine lv_iconst (v := 0) hx hb dX9_changeTempers_20 (by decide) ?_
      refine lv_istore_n (lv' := [(3, .int 0), (2, .int (-1)), (0, .ref (Aa 0)), (1, .int x1)]) hx hb dX9_changeTempers_21 rfl hl (by decide) rfl (fun ls hl₀ => ?_)
      replace hl := hl₀
      clear hl₀
      have loop_33 : ∀ (n_31 : Nat) (yy_2300 : Int32) (yy_2301 : Nat → Int32) (H : Heap) (locs : List Loc) (ls : Array Slot), (6 - (yy_2300 : Int32).toInt).toNat < n_31 → (dX9_changeTempers_l22 (Av 3) (-1 : Int32) ((6 - (0 : Int32).toInt).toNat + 1) (0 : Int32) (Af 3)) = dX9_changeTempers_l22 (Av 3) (-1 : Int32) ((6 - (yy_2300 : Int32).toInt).toNat + 1) yy_2300 yy_2301 → (0 ≤ (yy_2300 : Int32).toInt) → va_P D classes [((Aa 0), .inr (9, [.int (Av 0), .int (Av 1), .int (Av 2), .int (Av 3), .int (Av 4), .int (Av 5), .ref (Aa 1), .ref (Aa 2), .ref (Aa 3), .ref (Aa 4), .ref (Aa 5), .ref (Aa 6), .ref (Aa 7), .ref (Aa 8)])), ((Aa 1), .inl (tc 0, 10, .inl (Af 1))), ((Aa 2), .inl (tc 0, 10, .inl (Af 2))), ((Aa 3), .inl (tc 0, 6, .inl yy_2301)), ((Aa 4), .inl (tc 0, 6, .inl (Af 4))), ((Aa 5), .inl (tc 0, 6, .inl (Af 5))), ((Aa 6), .inl (tc 0, 6, .inl (Af 6))), ((Aa 7), .inl (tc 0, 6, .inl (Af 7))), ((Aa 8), .inl (tc 0, 6, .inl (Af 8)))] H → va_D A [((Aa 0), .inr (9, [.int (Av 0), .int (Av 1), .int (Av 2), .int (Av 3), .int (Av 4), .int (Av 5), .ref (Aa 1), .ref (Aa 2), .ref (Aa 3), .ref (Aa 4), .ref (Aa 5), .ref (Aa 6), .ref (Aa 7), .ref (Aa 8)])), ((Aa 1), .inl (tc 0, 10, .inl (Af 1))), ((Aa 2), .inl (tc 0, 10, .inl (Af 2))), ((Aa 3), .inl (tc 0, 6, .inl yy_2301)), ((Aa 4), .inl (tc 0, 6, .inl (Af 4))), ((Aa 5), .inl (tc 0, 6, .inl (Af 5))), ((Aa 6), .inl (tc 0, 6, .inl (Af 6))), ((Aa 7), .inl (tc 0, 6, .inl (Af 7))), ((Aa 8), .inl (tc 0, 6, .inl (Af 8)))] → va_S A s.heap H locs → lv_has ls 4 [(3, .int yy_2300), (2, .int (-1)), (0, .ref (Aa 0)), (1, .int x1)] → W p l e ({ frames := 1, cells := 0, slots := 0, locals := 16 }) s m ([.ref (Aa 0), .int x1].toArray) below meth c H locs 0 0 (MQ below (QW (fun (v : Option Value) (oo0x1 : Nat → Int32) => v = none ∧ (DEq (oo0x1) (dX9_changeTempers (Af 3) (Av 3) x1))) (BW D (fun (oo0x1 : Nat → Int32) => [((Aa 0), .inr (9, [.int (Av 0), .int (Av 1), .int (Av 2), .int (Av 3), .int (Av 4), .int (Av 5), .ref (Aa 1), .ref (Aa 2), .ref (Aa 3), .ref (Aa 4), .ref (Aa 5), .ref (Aa 6), .ref (Aa 7), .ref (Aa 8)])), ((Aa 1), .inl (tc 0, 10, .inl (Af 1))), ((Aa 2), .inl (tc 0, 10, .inl (Af 2))), ((Aa 3), .inl (tc 0, 6, .inl oo0x1)), ((Aa 4), .inl (tc 0, 6, .inl (Af 4))), ((Aa 5), .inl (tc 0, 6, .inl (Af 5))), ((Aa 6), .inl (tc 0, 6, .inl (Af 6))), ((Aa 7), .inl (tc 0, 6, .inl (Af 7))), ((Aa 8), .inl (tc 0, 6, .inl (Af 8)))]) A) A) ([.ref (Aa 0), .int x1].toArray) s 0 0 A) (F0 m 22 ls []) := by
        clear hP hD hS hl
        intro n_31
        induction n_31 with
        | zero =>
          intro yy_2300 yy_2301 H locs ls h1
          exact absurd h1 (Nat.not_lt_zero _)
        | succ n_31 ih_32 =>
          intro yy_2300 yy_2301 H locs ls hn_36 hL_35 pf_34 hP hD hS hl
          refine lv_iload_n hx hb dX9_changeTempers_22 rfl (lv_at hl 0 rfl) ?_
          refine lv_aload_n hx hb dX9_changeTempers_23 rfl (lv_at hl 2 rfl) ?_
          refine gf_X9_21 hx hb hts hown hK hP 0 rfl rfl dX9_changeTempers_24 ?_
          refine lv_icmp_ge (tgt := 65) hx hb dX9_changeTempers_27 (by decide) (fun c_37 => ?_) (fun c_37 => ?_)
          · skip
            have hb_39 : dX9_changeTempers_l22 (Av 3) (-1 : Int32) ((6 - (yy_2300 : Int32).toInt).toNat + 1) yy_2300 yy_2301 = (yy_2300, yy_2301) := by
              clear hP hD hS hl ih_32
              rw [dX9_changeTempers_l22_s]
              rw [if_pos c_37]
              try rfl
            have hX_38 : (dX9_changeTempers_l22 (Av 3) (-1 : Int32) ((6 - (0 : Int32).toInt).toNat + 1) (0 : Int32) (Af 3)) = (yy_2300, yy_2301) := hL_35.trans hb_39
            have hX_38_0 : (dX9_changeTempers_l22 (Av 3) (-1 : Int32) ((6 - (0 : Int32).toInt).toNat + 1) (0 : Int32) (Af 3)).1 = yy_2300 := congrArg (fun z => z.1) hX_38
            have hX_38_1 : (dX9_changeTempers_l22 (Av 3) (-1 : Int32) ((6 - (0 : Int32).toInt).toNat + 1) (0 : Int32) (Af 3)).2 = yy_2301 := congrArg (fun z => z.2) hX_38
            have hF_40 : yy_2301 = (dX9_changeTempers (Af 3) (Av 3) x1) := by
              clear hP hD hS hl ih_32
              unfold dX9_changeTempers
              try rw [hX_38_0]
              try rw [hX_38_1]
              rw [if_pos c_1, if_neg c_2]
              try rfl
            exact retV hx hb hr hlk hP hD hS yy_2301 ⟨rfl, hF_40⟩ [0, 1, 2, 3, 4, 5, 6, 7, 8] rfl rfl dX9_changeTempers_65 (Nat.le_of_ble_eq_true rfl) (Nat.le_of_ble_eq_true rfl) rfl
          · skip
            refine lv_iload_n hx hb dX9_changeTempers_30 rfl (lv_at hl 0 rfl) ?_
            refine lv_bipush (v := 6) hx hb dX9_changeTempers_31 (by decide) ?_
            refine lv_icmp_ge (tgt := 65) hx hb dX9_changeTempers_33 (by decide) (fun c_41 => ?_) (fun c_41 => ?_)
            · skip
              have hb_43 : dX9_changeTempers_l22 (Av 3) (-1 : Int32) ((6 - (yy_2300 : Int32).toInt).toNat + 1) yy_2300 yy_2301 = (yy_2300, yy_2301) := by
                clear hP hD hS hl ih_32
                rw [dX9_changeTempers_l22_s]
                rw [if_neg c_37, if_pos c_41]
                try rfl
              have hX_42 : (dX9_changeTempers_l22 (Av 3) (-1 : Int32) ((6 - (0 : Int32).toInt).toNat + 1) (0 : Int32) (Af 3)) = (yy_2300, yy_2301) := hL_35.trans hb_43
              have hX_42_0 : (dX9_changeTempers_l22 (Av 3) (-1 : Int32) ((6 - (0 : Int32).toInt).toNat + 1) (0 : Int32) (Af 3)).1 = yy_2300 := congrArg (fun z => z.1) hX_42
              have hX_42_1 : (dX9_changeTempers_l22 (Av 3) (-1 : Int32) ((6 - (0 : Int32).toInt).toNat + 1) (0 : Int32) (Af 3)).2 = yy_2301 := congrArg (fun z => z.2) hX_42
              have hF_44 : yy_2301 = (dX9_changeTempers (Af 3) (Av 3) x1) := by
                clear hP hD hS hl ih_32
                unfold dX9_changeTempers
                try rw [hX_42_0]
                try rw [hX_42_1]
                rw [if_pos c_1, if_neg c_2]
                try rfl
              exact retV hx hb hr hlk hP hD hS yy_2301 ⟨rfl, hF_44⟩ [0, 1, 2, 3, 4, 5, 6, 7, 8] rfl rfl dX9_changeTempers_65 (Nat.le_of_ble_eq_true rfl) (Nat.le_of_ble_eq_true rfl) rfl
            · skip
              refine lv_aload_n hx hb dX9_changeTempers_36 rfl (lv_at hl 2 rfl) ?_
              refine gf_X9_37 hx hb hts hown hK hP 0 rfl rfl dX9_changeTempers_37 ?_
              refine lv_iload_n hx hb dX9_changeTempers_40 rfl (lv_at hl 0 rfl) ?_
              refine lv_iconst (v := 0) hx hb dX9_changeTempers_41 (by decide) ?_
              refine lv_bipush (v := 20) hx hb dX9_changeTempers_42 (by decide) ?_
              refine lv_aload_n hx hb dX9_changeTempers_44 rfl (lv_at hl 2 rfl) ?_
              refine gf_X9_37 hx hb hts hown hK hP 0 rfl rfl dX9_changeTempers_45 ?_
              refine lv_iload_n hx hb dX9_changeTempers_48 rfl (lv_at hl 0 rfl) ?_
              have hi_45 : vp_in yy_2300 6 := by
                have z_1 := Int32.lt_iff_toInt_lt.mp c_1
                have z_2 := Int32.le_iff_toInt_le.mp (Int32.not_lt.mp c_2)
                have z_3 := Int32.lt_iff_toInt_lt.mp (Int32.not_le.mp c_37)
                have z_4 := Int32.lt_iff_toInt_lt.mp (Int32.not_le.mp c_41)
                have y_2 : (2 : Int32).toInt = 2 := by decide
                have y_5 : (5 : Int32).toInt = 5 := by decide
                have y_6 : (6 : Int32).toInt = 6 := by decide
                refine vp_in_iff.mpr ⟨?_, ?_⟩ <;> omega
              refine va_iald hx hb hK hP 3 0 rfl rfl hi_45 dX9_changeTempers_49 ?_
              refine lv_topi (fun x_46 ex_46 => ?_)
              refine lv_iload_n hx hb dX9_changeTempers_50 rfl (lv_at hl 1 rfl) ?_
              refine lv_iadd hx hb dX9_changeTempers_51 ?_
              refine lv_topi (fun x_47 ex_47 => ?_)
              refine va_mmin hx hb (hml.trans hl.1.symm) hown (hts _ k_780) (hts _ k_680) (hts _ k_114) (hts _ k_681) (Nat.le_of_ble_eq_true rfl) (Nat.le_of_ble_eq_true rfl) (Nat.le_of_ble_eq_true rfl) (Nat.le_of_ble_eq_true rfl) dX9_changeTempers_52 ?_
              refine lv_topi (fun x_48 ex_48 => ?_)
              have mx_48 := imin_f ex_48
              rw [show (20 : Int32).toInt = 20 by decide] at mx_48
              refine va_mmax hx hb (hml.trans hl.1.symm) hown (hts _ k_773) (hts _ k_774) (hts _ k_114) (hts _ k_775) (Nat.le_of_ble_eq_true rfl) (Nat.le_of_ble_eq_true rfl) (Nat.le_of_ble_eq_true rfl) (Nat.le_of_ble_eq_true rfl) dX9_changeTempers_55 ?_
              refine lv_topi (fun x_49 ex_49 => ?_)
              have mx_49 := imax_f ex_49
              rw [show (0 : Int32).toInt = 0 by decide] at mx_49
              have hi_50 : vp_in yy_2300 6 := by
                have z_1 := Int32.lt_iff_toInt_lt.mp c_1
                have z_2 := Int32.le_iff_toInt_le.mp (Int32.not_lt.mp c_2)
                have z_3 := Int32.lt_iff_toInt_lt.mp (Int32.not_le.mp c_37)
                have z_4 := Int32.lt_iff_toInt_lt.mp (Int32.not_le.mp c_41)
                have y_2 : (2 : Int32).toInt = 2 := by decide
                have y_5 : (5 : Int32).toInt = 5 := by decide
                have y_6 : (6 : Int32).toInt = 6 := by decide
                refine vp_in_iff.mpr ⟨?_, ?_⟩ <;> omega
              refine st_int hx hb hK hP hD hS 3 0 rfl rfl hi_50 dX9_changeTempers_58 (fun g_51 H locs eg_51 hP₀ hD₀ hS₀ => ?_)
              replace hP : va_P D classes [((Aa 0), .inr (9, [.int (Av 0), .int (Av 1), .int (Av 2), .int (Av 3), .int (Av 4), .int (Av 5), .ref (Aa 1), .ref (Aa 2), .ref (Aa 3), .ref (Aa 4), .ref (Aa 5), .ref (Aa 6), .ref (Aa 7), .ref (Aa 8)])), ((Aa 1), .inl (tc 0, 10, .inl (Af 1))), ((Aa 2), .inl (tc 0, 10, .inl (Af 2))), ((Aa 3), .inl (tc 0, 6, .inl g_51)), ((Aa 4), .inl (tc 0, 6, .inl (Af 4))), ((Aa 5), .inl (tc 0, 6, .inl (Af 5))), ((Aa 6), .inl (tc 0, 6, .inl (Af 6))), ((Aa 7), .inl (tc 0, 6, .inl (Af 7))), ((Aa 8), .inl (tc 0, 6, .inl (Af 8)))] H := hP₀
              replace hD : va_D A [((Aa 0), .inr (9, [.int (Av 0), .int (Av 1), .int (Av 2), .int (Av 3), .int (Av 4), .int (Av 5), .ref (Aa 1), .ref (Aa 2), .ref (Aa 3), .ref (Aa 4), .ref (Aa 5), .ref (Aa 6), .ref (Aa 7), .ref (Aa 8)])), ((Aa 1), .inl (tc 0, 10, .inl (Af 1))), ((Aa 2), .inl (tc 0, 10, .inl (Af 2))), ((Aa 3), .inl (tc 0, 6, .inl g_51)), ((Aa 4), .inl (tc 0, 6, .inl (Af 4))), ((Aa 5), .inl (tc 0, 6, .inl (Af 5))), ((Aa 6), .inl (tc 0, 6, .inl (Af 6))), ((Aa 7), .inl (tc 0, 6, .inl (Af 7))), ((Aa 8), .inl (tc 0, 6, .inl (Af 8)))] := hD₀
              replace hS := hS₀
              clear hP₀ hD₀ hS₀
              obtain ⟨x_52, ex_52⟩ : ∃ y : Int32, y = yy_2300 + 1 := ⟨_, rfl⟩
              refine lv_iinc (v := x_52) (lv' := [(3, .int x_52), (2, .int (-1)), (0, .ref (Aa 0)), (1, .int x1)]) hx hb dX9_changeTempers_59 hl (k := 0) rfl (by rw [ex_52]; rfl) (by decide) rfl (fun ls hl₀ => ?_)
              replace hl := hl₀
              clear hl₀
              refine lv_goto (tgt := 22) hx hb dX9_changeTempers_62 (by decide) ?_
              have hb_53 : 6 - (x_52 : Int32).toInt < 6 - (yy_2300 : Int32).toInt ∧ 1 ≤ 6 - (yy_2300 : Int32).toInt := by
                have z_1 := Int32.lt_iff_toInt_lt.mp c_1
                have z_2 := Int32.le_iff_toInt_le.mp (Int32.not_lt.mp c_2)
                have z_3 := Int32.lt_iff_toInt_lt.mp (Int32.not_le.mp c_37)
                have z_4 := Int32.lt_iff_toInt_lt.mp (Int32.not_le.mp c_41)
                have y_2 : (2 : Int32).toInt = 2 := by decide
                have y_5 : (5 : Int32).toInt = 5 := by decide
                have y_6 : (6 : Int32).toInt = 6 := by decide
                have y_1 : (1 : Int32).toInt = 1 := by decide
                have t_x_52 : x_52.toInt = (yy_2300 : Int32).toInt + (1 : Int32).toInt := by rw [ex_52]; exact add_toInt (by omega) (by omega)
                omega
              have hm_54 : (6 - (yy_2300 : Int32).toInt).toNat = (6 - (x_52 : Int32).toInt).toNat + 1 := by
                have z_1 := Int32.lt_iff_toInt_lt.mp c_1
                have z_2 := Int32.le_iff_toInt_le.mp (Int32.not_lt.mp c_2)
                have z_3 := Int32.lt_iff_toInt_lt.mp (Int32.not_le.mp c_37)
                have z_4 := Int32.lt_iff_toInt_lt.mp (Int32.not_le.mp c_41)
                have y_2 : (2 : Int32).toInt = 2 := by decide
                have y_5 : (5 : Int32).toInt = 5 := by decide
                have y_6 : (6 : Int32).toInt = 6 := by decide
                have y_1 : (1 : Int32).toInt = 1 := by decide
                have t_x_52 : x_52.toInt = (yy_2300 : Int32).toInt + (1 : Int32).toInt := by rw [ex_52]; exact add_toInt (by omega) (by omega)
                omega
              have hb_55 : dX9_changeTempers_l22 (Av 3) (-1 : Int32) ((6 - (yy_2300 : Int32).toInt).toNat + 1) yy_2300 yy_2301 = dX9_changeTempers_l22 (Av 3) (-1 : Int32) ((6 - (yy_2300 : Int32).toInt).toNat) x_52 g_51 := by
                clear hP hD hS hl ih_32
                replace ex_46 := ex_46.symm; subst ex_46
                replace ex_47 := ex_47.symm; subst ex_47
                replace ex_48 := ex_48.symm; subst ex_48
                replace ex_49 := ex_49.symm; subst ex_49
                replace eg_51 := eg_51.symm; subst eg_51
                replace ex_52 := ex_52.symm; subst ex_52
                rw [dX9_changeTempers_l22_s]
                rw [if_neg c_37, if_neg c_41]
                try rfl
              have hL_56 : (dX9_changeTempers_l22 (Av 3) (-1 : Int32) ((6 - (0 : Int32).toInt).toNat + 1) (0 : Int32) (Af 3)) = dX9_changeTempers_l22 (Av 3) (-1 : Int32) ((6 - (x_52 : Int32).toInt).toNat + 1) x_52 g_51 := by
                rw [hL_35, hb_55, hm_54]
              have ha_57 : 0 ≤ (x_52 : Int32).toInt := by
                have z_1 := Int32.lt_iff_toInt_lt.mp c_1
                have z_2 := Int32.le_iff_toInt_le.mp (Int32.not_lt.mp c_2)
                have z_3 := Int32.lt_iff_toInt_lt.mp (Int32.not_le.mp c_37)
                have z_4 := Int32.lt_iff_toInt_lt.mp (Int32.not_le.mp c_41)
                have y_2 : (2 : Int32).toInt = 2 := by decide
                have y_5 : (5 : Int32).toInt = 5 := by decide
                have y_6 : (6 : Int32).toInt = 6 := by decide
                have y_1 : (1 : Int32).toInt = 1 := by decide
                have t_x_52 : x_52.toInt = (yy_2300 : Int32).toInt + (1 : Int32).toInt := by rw [ex_52]; exact add_toInt (by omega) (by omega)
                omega
              exact ih_32 x_52 g_51 _ _ _ (by omega) hL_56 ha_57 (hP.sub [0, 1, 2, 3, 4, 5, 6, 7, 8] rfl) (hD.sub [0, 1, 2, 3, 4, 5, 6, 7, 8] rfl rfl) hS (lv_sub hl [0, 1, 2, 3] rfl)
      have ha_58 : 0 ≤ (0 : Int32).toInt := by
        have z_1 := Int32.lt_iff_toInt_lt.mp c_1
        have z_2 := Int32.le_iff_toInt_le.mp (Int32.not_lt.mp c_2)
        have y_2 : (2 : Int32).toInt = 2 := by decide
        have y_5 : (5 : Int32).toInt = 5 := by decide
        have y_0 : (0 : Int32).toInt = 0 := by decide
        omega
      exact loop_33 _ 0 (Af 3) _ _ _ (Nat.lt_succ_self _) rfl ha_58 hP hD hS hl
  · skip
    refine lv_iconst (v := 1) hx hb dX9_changeTempers_5 (by decide) ?_
    refine lv_goto (tgt := 19) hx hb dX9_changeTempers_6 (by decide) ?_
    refine lv_istore_n (lv' := [(2, .int 1), (0, .ref (Aa 0)), (1, .int x1)]) hx hb dX9_changeTempers_19 rfl hl (by decide) rfl (fun ls hl₀ => ?_)
    replace hl := hl₀
    clear hl₀
    refine lv_iconst (v := 0) hx hb dX9_changeTempers_20 (by decide) ?_
    refine lv_istore_n (lv' := [(3, .int 0), (2, .int 1), (0, .ref (Aa 0)), (1, .int x1)]) hx hb dX9_changeTempers_21 rfl hl (by decide) rfl (fun ls hl₀ => ?_)
    replace hl := hl₀
    clear hl₀
    have loop_61 : ∀ (n_59 : Nat) (yy_2300 : Int32) (yy_2301 : Nat → Int32) (H : Heap) (locs : List Loc) (ls : Array Slot), (6 - (yy_2300 : Int32).toInt).toNat < n_59 → (dX9_changeTempers_l22 (Av 3) (1 : Int32) ((6 - (0 : Int32).toInt).toNat + 1) (0 : Int32) (Af 3)) = dX9_changeTempers_l22 (Av 3) (1 : Int32) ((6 - (yy_2300 : Int32).toInt).toNat + 1) yy_2300 yy_2301 → (0 ≤ (yy_2300 : Int32).toInt) → va_P D classes [((Aa 0), .inr (9, [.int (Av 0), .int (Av 1), .int (Av 2), .int (Av 3), .int (Av 4), .int (Av 5), .ref (Aa 1), .ref (Aa 2), .ref (Aa 3), .ref (Aa 4), .ref (Aa 5), .ref (Aa 6), .ref (Aa 7), .ref (Aa 8)])), ((Aa 1), .inl (tc 0, 10, .inl (Af 1))), ((Aa 2), .inl (tc 0, 10, .inl (Af 2))), ((Aa 3), .inl (tc 0, 6, .inl yy_2301)), ((Aa 4), .inl (tc 0, 6, .inl (Af 4))), ((Aa 5), .inl (tc 0, 6, .inl (Af 5))), ((Aa 6), .inl (tc 0, 6, .inl (Af 6))), ((Aa 7), .inl (tc 0, 6, .inl (Af 7))), ((Aa 8), .inl (tc 0, 6, .inl (Af 8)))] H → va_D A [((Aa 0), .inr (9, [.int (Av 0), .int (Av 1), .int (Av 2), .int (Av 3), .int (Av 4), .int (Av 5), .ref (Aa 1), .ref (Aa 2), .ref (Aa 3), .ref (Aa 4), .ref (Aa 5), .ref (Aa 6), .ref (Aa 7), .ref (Aa 8)])), ((Aa 1), .inl (tc 0, 10, .inl (Af 1))), ((Aa 2), .inl (tc 0, 10, .inl (Af 2))), ((Aa 3), .inl (tc 0, 6, .inl yy_2301)), ((Aa 4), .inl (tc 0, 6, .inl (Af 4))), ((Aa 5), .inl (tc 0, 6, .inl (Af 5))), ((Aa 6), .inl (tc 0, 6, .inl (Af 6))), ((Aa 7), .inl (tc 0, 6, .inl (Af 7))), ((Aa 8), .inl (tc 0, 6, .inl (Af 8)))] → va_S A s.heap H locs → lv_has ls 4 [(3, .int yy_2300), (2, .int 1), (0, .ref (Aa 0)), (1, .int x1)] → W p l e ({ frames := 1, cells := 0, slots := 0, locals := 16 }) s m ([.ref (Aa 0), .int x1].toArray) below meth c H locs 0 0 (MQ below (QW (fun (v : Option Value) (oo0x1 : Nat → Int32) => v = none ∧ (DEq (oo0x1) (dX9_changeTempers (Af 3) (Av 3) x1))) (BW D (fun (oo0x1 : Nat → Int32) => [((Aa 0), .inr (9, [.int (Av 0), .int (Av 1), .int (Av 2), .int (Av 3), .int (Av 4), .int (Av 5), .ref (Aa 1), .ref (Aa 2), .ref (Aa 3), .ref (Aa 4), .ref (Aa 5), .ref (Aa 6), .ref (Aa 7), .ref (Aa 8)])), ((Aa 1), .inl (tc 0, 10, .inl (Af 1))), ((Aa 2), .inl (tc 0, 10, .inl (Af 2))), ((Aa 3), .inl (tc 0, 6, .inl oo0x1)), ((Aa 4), .inl (tc 0, 6, .inl (Af 4))), ((Aa 5), .inl (tc 0, 6, .inl (Af 5))), ((Aa 6), .inl (tc 0, 6, .inl (Af 6))), ((Aa 7), .inl (tc 0, 6, .inl (Af 7))), ((Aa 8), .inl (tc 0, 6, .inl (Af 8)))]) A) A) ([.ref (Aa 0), .int x1].toArray) s 0 0 A) (F0 m 22 ls []) := by
      clear hP hD hS hl
      intro n_59
      induction n_59 with
      | zero =>
        intro yy_2300 yy_2301 H locs ls h1
        exact absurd h1 (Nat.not_lt_zero _)
      | succ n_59 ih_60 =>
        intro yy_2300 yy_2301 H locs ls hn_64 hL_63 pf_62 hP hD hS hl
        refine lv_iload_n hx hb dX9_changeTempers_22 rfl (lv_at hl 0 rfl) ?_
        refine lv_aload_n hx hb dX9_changeTempers_23 rfl (lv_at hl 2 rfl) ?_
        refine gf_X9_21 hx hb hts hown hK hP 0 rfl rfl dX9_changeTempers_24 ?_
        refine lv_icmp_ge (tgt := 65) hx hb dX9_changeTempers_27 (by decide) (fun c_65 => ?_) (fun c_65 => ?_)
        · skip
          have hb_67 : dX9_changeTempers_l22 (Av 3) (1 : Int32) ((6 - (yy_2300 : Int32).toInt).toNat + 1) yy_2300 yy_2301 = (yy_2300, yy_2301) := by
            clear hP hD hS hl ih_60
            rw [dX9_changeTempers_l22_s]
            rw [if_pos c_65]
            try rfl
          have hX_66 : (dX9_changeTempers_l22 (Av 3) (1 : Int32) ((6 - (0 : Int32).toInt).toNat + 1) (0 : Int32) (Af 3)) = (yy_2300, yy_2301) := hL_63.trans hb_67
          have hX_66_0 : (dX9_changeTempers_l22 (Av 3) (1 : Int32) ((6 - (0 : Int32).toInt).toNat + 1) (0 : Int32) (Af 3)).1 = yy_2300 := congrArg (fun z => z.1) hX_66
          have hX_66_1 : (dX9_changeTempers_l22 (Av 3) (1 : Int32) ((6 - (0 : Int32).toInt).toNat + 1) (0 : Int32) (Af 3)).2 = yy_2301 := congrArg (fun z => z.2) hX_66
          have hF_68 : yy_2301 = (dX9_changeTempers (Af 3) (Av 3) x1) := by
            clear hP hD hS hl ih_60
            unfold dX9_changeTempers
            try rw [hX_66_0]
            try rw [hX_66_1]
            rw [if_neg c_1]
            try rfl
          exact retV hx hb hr hlk hP hD hS yy_2301 ⟨rfl, hF_68⟩ [0, 1, 2, 3, 4, 5, 6, 7, 8] rfl rfl dX9_changeTempers_65 (Nat.le_of_ble_eq_true rfl) (Nat.le_of_ble_eq_true rfl) rfl
        · skip
          refine lv_iload_n hx hb dX9_changeTempers_30 rfl (lv_at hl 0 rfl) ?_
          refine lv_bipush (v := 6) hx hb dX9_changeTempers_31 (by decide) ?_
          refine lv_icmp_ge (tgt := 65) hx hb dX9_changeTempers_33 (by decide) (fun c_69 => ?_) (fun c_69 => ?_)
          · skip
            have hb_71 : dX9_changeTempers_l22 (Av 3) (1 : Int32) ((6 - (yy_2300 : Int32).toInt).toNat + 1) yy_2300 yy_2301 = (yy_2300, yy_2301) := by
              clear hP hD hS hl ih_60
              rw [dX9_changeTempers_l22_s]
              rw [if_neg c_65, if_pos c_69]
              try rfl
            have hX_70 : (dX9_changeTempers_l22 (Av 3) (1 : Int32) ((6 - (0 : Int32).toInt).toNat + 1) (0 : Int32) (Af 3)) = (yy_2300, yy_2301) := hL_63.trans hb_71
            have hX_70_0 : (dX9_changeTempers_l22 (Av 3) (1 : Int32) ((6 - (0 : Int32).toInt).toNat + 1) (0 : Int32) (Af 3)).1 = yy_2300 := congrArg (fun z => z.1) hX_70
            have hX_70_1 : (dX9_changeTempers_l22 (Av 3) (1 : Int32) ((6 - (0 : Int32).toInt).toNat + 1) (0 : Int32) (Af 3)).2 = yy_2301 := congrArg (fun z => z.2) hX_70
            have hF_72 : yy_2301 = (dX9_changeTempers (Af 3) (Av 3) x1) := by
              clear hP hD hS hl ih_60
              unfold dX9_changeTempers
              try rw [hX_70_0]
              try rw [hX_70_1]
              rw [if_neg c_1]
              try rfl
            exact retV hx hb hr hlk hP hD hS yy_2301 ⟨rfl, hF_72⟩ [0, 1, 2, 3, 4, 5, 6, 7, 8] rfl rfl dX9_changeTempers_65 (Nat.le_of_ble_eq_true rfl) (Nat.le_of_ble_eq_true rfl) rfl
          · skip
            refine lv_aload_n hx hb dX9_changeTempers_36 rfl (lv_at hl 2 rfl) ?_
            refine gf_X9_37 hx hb hts hown hK hP 0 rfl rfl dX9_changeTempers_37 ?_
            refine lv_iload_n hx hb dX9_changeTempers_40 rfl (lv_at hl 0 rfl) ?_
            refine lv_iconst (v := 0) hx hb dX9_changeTempers_41 (by decide) ?_
            refine lv_bipush (v := 20) hx hb dX9_changeTempers_42 (by decide) ?_
            refine lv_aload_n hx hb dX9_changeTempers_44 rfl (lv_at hl 2 rfl) ?_
            refine gf_X9_37 hx hb hts hown hK hP 0 rfl rfl dX9_changeTempers_45 ?_
            refine lv_iload_n hx hb dX9_changeTempers_48 rfl (lv_at hl 0 rfl) ?_
            have hi_73 : vp_in yy_2300 6 := by
              have z_1 := Int32.le_iff_toInt_le.mp (Int32.not_lt.mp c_1)
              have z_2 := Int32.lt_iff_toInt_lt.mp (Int32.not_le.mp c_65)
              have z_3 := Int32.lt_iff_toInt_lt.mp (Int32.not_le.mp c_69)
              have y_5 : (5 : Int32).toInt = 5 := by decide
              have y_6 : (6 : Int32).toInt = 6 := by decide
              refine vp_in_iff.mpr ⟨?_, ?_⟩ <;> omega
            refine va_iald hx hb hK hP 3 0 rfl rfl hi_73 dX9_changeTempers_49 ?_
            refine lv_topi (fun x_74 ex_74 => ?_)
            refine lv_iload_n hx hb dX9_changeTempers_50 rfl (lv_at hl 1 rfl) ?_
            refine lv_iadd hx hb dX9_changeTempers_51 ?_
            refine lv_topi (fun x_75 ex_75 => ?_)
            refine va_mmin hx hb (hml.trans hl.1.symm) hown (hts _ k_780) (hts _ k_680) (hts _ k_114) (hts _ k_681) (Nat.le_of_ble_eq_true rfl) (Nat.le_of_ble_eq_true rfl) (Nat.le_of_ble_eq_true rfl) (Nat.le_of_ble_eq_true rfl) dX9_changeTempers_52 ?_
            refine lv_topi (fun x_76 ex_76 => ?_)
            have mx_76 := imin_f ex_76
            rw [show (20 : Int32).toInt = 20 by decide] at mx_76
            refine va_mmax hx hb (hml.trans hl.1.symm) hown (hts _ k_773) (hts _ k_774) (hts _ k_114) (hts _ k_775) (Nat.le_of_ble_eq_true rfl) (Nat.le_of_ble_eq_true rfl) (Nat.le_of_ble_eq_true rfl) (Nat.le_of_ble_eq_true rfl) dX9_changeTempers_55 ?_
            refine lv_topi (fun x_77 ex_77 => ?_)
            have mx_77 := imax_f ex_77
            rw [show (0 : Int32).toInt = 0 by decide] at mx_77
            have hi_78 : vp_in yy_2300 6 := by
              have z_1 := Int32.le_iff_toInt_le.mp (Int32.not_lt.mp c_1)
              have z_2 := Int32.lt_iff_toInt_lt.mp (Int32.not_le.mp c_65)
              have z_3 := Int32.lt_iff_toInt_lt.mp (Int32.not_le.mp c_69)
              have y_5 : (5 : Int32).toInt = 5 := by decide
              have y_6 : (6 : Int32).toInt = 6 := by decide
              refine vp_in_iff.mpr ⟨?_, ?_⟩ <;> omega
            refine st_int hx hb hK hP hD hS 3 0 rfl rfl hi_78 dX9_changeTempers_58 (fun g_79 H locs eg_79 hP₀ hD₀ hS₀ => ?_)
            replace hP : va_P D classes [((Aa 0), .inr (9, [.int (Av 0), .int (Av 1), .int (Av 2), .int (Av 3), .int (Av 4), .int (Av 5), .ref (Aa 1), .ref (Aa 2), .ref (Aa 3), .ref (Aa 4), .ref (Aa 5), .ref (Aa 6), .ref (Aa 7), .ref (Aa 8)])), ((Aa 1), .inl (tc 0, 10, .inl (Af 1))), ((Aa 2), .inl (tc 0, 10, .inl (Af 2))), ((Aa 3), .inl (tc 0, 6, .inl g_79)), ((Aa 4), .inl (tc 0, 6, .inl (Af 4))), ((Aa 5), .inl (tc 0, 6, .inl (Af 5))), ((Aa 6), .inl (tc 0, 6, .inl (Af 6))), ((Aa 7), .inl (tc 0, 6, .inl (Af 7))), ((Aa 8), .inl (tc 0, 6, .inl (Af 8)))] H := hP₀
            replace hD : va_D A [((Aa 0), .inr (9, [.int (Av 0), .int (Av 1), .int (Av 2), .int (Av 3), .int (Av 4), .int (Av 5), .ref (Aa 1), .ref (Aa 2), .ref (Aa 3), .ref (Aa 4), .ref (Aa 5), .ref (Aa 6), .ref (Aa 7), .ref (Aa 8)])), ((Aa 1), .inl (tc 0, 10, .inl (Af 1))), ((Aa 2), .inl (tc 0, 10, .inl (Af 2))), ((Aa 3), .inl (tc 0, 6, .inl g_79)), ((Aa 4), .inl (tc 0, 6, .inl (Af 4))), ((Aa 5), .inl (tc 0, 6, .inl (Af 5))), ((Aa 6), .inl (tc 0, 6, .inl (Af 6))), ((Aa 7), .inl (tc 0, 6, .inl (Af 7))), ((Aa 8), .inl (tc 0, 6, .inl (Af 8)))] := hD₀
            replace hS := hS₀
            clear hP₀ hD₀ hS₀
            obtain ⟨x_80, ex_80⟩ : ∃ y : Int32, y = yy_2300 + 1 := ⟨_, rfl⟩
            refine lv_iinc (v := x_80) (lv' := [(3, .int x_80), (2, .int 1), (0, .ref (Aa 0)), (1, .int x1)]) hx hb dX9_changeTempers_59 hl (k := 0) rfl (by rw [ex_80]; rfl) (by decide) rfl (fun ls hl₀ => ?_)
            replace hl := hl₀
            clear hl₀
            refine lv_goto (tgt := 22) hx hb dX9_changeTempers_62 (by decide) ?_
            have hb_81 : 6 - (x_80 : Int32).toInt < 6 - (yy_2300 : Int32).toInt ∧ 1 ≤ 6 - (yy_2300 : Int32).toInt := by
              have z_1 := Int32.le_iff_toInt_le.mp (Int32.not_lt.mp c_1)
              have z_2 := Int32.lt_iff_toInt_lt.mp (Int32.not_le.mp c_65)
              have z_3 := Int32.lt_iff_toInt_lt.mp (Int32.not_le.mp c_69)
              have y_5 : (5 : Int32).toInt = 5 := by decide
              have y_6 : (6 : Int32).toInt = 6 := by decide
              have y_1 : (1 : Int32).toInt = 1 := by decide
              have t_x_80 : x_80.toInt = (yy_2300 : Int32).toInt + (1 : Int32).toInt := by rw [ex_80]; exact add_toInt (by omega) (by omega)
              omega
            have hm_82 : (6 - (yy_2300 : Int32).toInt).toNat = (6 - (x_80 : Int32).toInt).toNat + 1 := by
              have z_1 := Int32.le_iff_toInt_le.mp (Int32.not_lt.mp c_1)
              have z_2 := Int32.lt_iff_toInt_lt.mp (Int32.not_le.mp c_65)
              have z_3 := Int32.lt_iff_toInt_lt.mp (Int32.not_le.mp c_69)
              have y_5 : (5 : Int32).toInt = 5 := by decide
              have y_6 : (6 : Int32).toInt = 6 := by decide
              have y_1 : (1 : Int32).toInt = 1 := by decide
              have t_x_80 : x_80.toInt = (yy_2300 : Int32).toInt + (1 : Int32).toInt := by rw [ex_80]; exact add_toInt (by omega) (by omega)
              omega
            have hb_83 : dX9_changeTempers_l22 (Av 3) (1 : Int32) ((6 - (yy_2300 : Int32).toInt).toNat + 1) yy_2300 yy_2301 = dX9_changeTempers_l22 (Av 3) (1 : Int32) ((6 - (yy_2300 : Int32).toInt).toNat) x_80 g_79 := by
              clear hP hD hS hl ih_60
              replace ex_74 := ex_74.symm; subst ex_74
              replace ex_75 := ex_75.symm; subst ex_75
              replace ex_76 := ex_76.symm; subst ex_76
              replace ex_77 := ex_77.symm; subst ex_77
              replace eg_79 := eg_79.symm; subst eg_79
              replace ex_80 := ex_80.symm; subst ex_80
              rw [dX9_changeTempers_l22_s]
              rw [if_neg c_65, if_neg c_69]
              try rfl
            have hL_84 : (dX9_changeTempers_l22 (Av 3) (1 : Int32) ((6 - (0 : Int32).toInt).toNat + 1) (0 : Int32) (Af 3)) = dX9_changeTempers_l22 (Av 3) (1 : Int32) ((6 - (x_80 : Int32).toInt).toNat + 1) x_80 g_79 := by
              rw [hL_63, hb_83, hm_82]
            have ha_85 : 0 ≤ (x_80 : Int32).toInt := by
              have z_1 := Int32.le_iff_toInt_le.mp (Int32.not_lt.mp c_1)
              have z_2 := Int32.lt_iff_toInt_lt.mp (Int32.not_le.mp c_65)
              have z_3 := Int32.lt_iff_toInt_lt.mp (Int32.not_le.mp c_69)
              have y_5 : (5 : Int32).toInt = 5 := by decide
              have y_6 : (6 : Int32).toInt = 6 := by decide
              have y_1 : (1 : Int32).toInt = 1 := by decide
              have t_x_80 : x_80.toInt = (yy_2300 : Int32).toInt + (1 : Int32).toInt := by rw [ex_80]; exact add_toInt (by omega) (by omega)
              omega
            exact ih_60 x_80 g_79 _ _ _ (by omega) hL_84 ha_85 (hP.sub [0, 1, 2, 3, 4, 5, 6, 7, 8] rfl) (hD.sub [0, 1, 2, 3, 4, 5, 6, 7, 8] rfl rfl) hS (lv_sub hl [0, 1, 2, 3] rfl)
    have ha_86 : 0 ≤ (0 : Int32).toInt := by
      have z_1 := Int32.le_iff_toInt_le.mp (Int32.not_lt.mp c_1)
      have y_5 : (5 : Int32).toInt = 5 := by decide
      have y_0 : (0 : Int32).toInt = 0 := by decide
      omega
    exact loop_61 _ 0 (Af 3) _ _ _ (Nat.lt_succ_self _) rfl ha_86 hP hD hS hl
set_option maxRecDepth 100000 in
theorem cu_dX9_changeTempers (l : Launch) (D : va_G) (tc : Nat → ClassId) (sk : (Nat → Nat) × (Nat → Nat)) (Aa_0 : Nat) (Aa_1 : Nat) (Aa_2 : Nat) (Aa_3 : Nat) (Aa_4 : Nat) (Aa_5 : Nat) (Aa_6 : Nat) (Aa_7 : Nat) (Aa_8 : Nat) (Av_0 : Int32) (Av_1 : Int32) (Av_2 : Int32) (Av_3 : Int32) (Av_4 : Int32) (Av_5 : Int32) (Af_1 : Nat → Int32) (Af_2 : Nat → Int32) (Af_3 : Nat → Int32) (Af_4 : Nat → Int32) (Af_5 : Nat → Int32) (Af_6 : Nat → Int32) (Af_7 : Nat → Int32) (Af_8 : Nat → Int32) (x1 : Int32)  : Ct l yX9_changeTempers cX9_changeTempers 4 none { frames := 1, cells := 0, slots := 0, locals := 16 } D tc sk [.ref Aa_0, .int x1] [(Aa_0, .inr (9, [.int Av_0, .int Av_1, .int Av_2, .int Av_3, .int Av_4, .int Av_5, .ref Aa_1, .ref Aa_2, .ref Aa_3, .ref Aa_4, .ref Aa_5, .ref Aa_6, .ref Aa_7, .ref Aa_8])), (Aa_1, .inl (tc 0, 10, .inl Af_1)), (Aa_2, .inl (tc 0, 10, .inl Af_2)), (Aa_3, .inl (tc 0, 6, .inl Af_3)), (Aa_4, .inl (tc 0, 6, .inl Af_4)), (Aa_5, .inl (tc 0, 6, .inl Af_5)), (Aa_6, .inl (tc 0, 6, .inl Af_6)), (Aa_7, .inl (tc 0, 6, .inl Af_7)), (Aa_8, .inl (tc 0, 6, .inl Af_8))] (fun (v : Option Value) (oo0x1 : Nat → Int32) => v = none ∧ (DEq (oo0x1) (dX9_changeTempers Af_3 Av_3 x1))) (fun (oo0x1 : Nat → Int32) => [(Aa_0, .inr (9, [.int Av_0, .int Av_1, .int Av_2, .int Av_3, .int Av_4, .int Av_5, .ref Aa_1, .ref Aa_2, .ref Aa_3, .ref Aa_4, .ref Aa_5, .ref Aa_6, .ref Aa_7, .ref Aa_8])), (Aa_1, .inl (tc 0, 10, .inl Af_1)), (Aa_2, .inl (tc 0, 10, .inl Af_2)), (Aa_3, .inl (tc 0, 6, .inl oo0x1)), (Aa_4, .inl (tc 0, 6, .inl Af_4)), (Aa_5, .inl (tc 0, 6, .inl Af_5)), (Aa_6, .inl (tc 0, 6, .inl Af_6)), (Aa_7, .inl (tc 0, 6, .inl Af_7)), (Aa_8, .inl (tc 0, 6, .inl Af_8))]) 0 0 :=
  ct_dX9_changeTempers l D tc sk (fun k => ([Aa_0, Aa_1, Aa_2, Aa_3, Aa_4, Aa_5, Aa_6, Aa_7, Aa_8] : List (Nat)).getD k 0) (fun k => ([Av_0, Av_1, Av_2, Av_3, Av_4, Av_5] : List (Int32)).getD k 0) (fun k => ([(fun _ => 0), Af_1, Af_2, Af_3, Af_4, Af_5, Af_6, Af_7, Af_8] : List (Nat → Int32)).getD k (fun _ => 0)) x1 
set_option maxHeartbeats 4000000 in
set_option maxRecDepth 100000 in
theorem ct_dX9_copyFrom (l : Launch) (D : va_G) (tc : Nat → ClassId) (sk : (Nat → Nat) × (Nat → Nat)) (Aa : Nat → Nat) (Av : Nat → Int32) (Af : Nat → Nat → Int32) (Ba : Nat → Nat) (Bv : Nat → Int32) (Bf : Nat → Nat → Int32)  : Ct l yX9_copyFrom cX9_copyFrom 2 none { frames := 1, cells := 0, slots := 0, locals := 40 } D tc sk [.ref (Aa 0), .ref (Ba 0)] [((Aa 0), .inr (9, [.int (Av 0), .int (Av 1), .int (Av 2), .int (Av 3), .int (Av 4), .int (Av 5), .ref (Aa 1), .ref (Aa 2), .ref (Aa 3), .ref (Aa 4), .ref (Aa 5), .ref (Aa 6), .ref (Aa 7), .ref (Aa 8)])), ((Aa 1), .inl (tc 0, 10, .inl (Af 1))), ((Aa 2), .inl (tc 0, 10, .inl (Af 2))), ((Aa 3), .inl (tc 0, 6, .inl (Af 3))), ((Aa 4), .inl (tc 0, 6, .inl (Af 4))), ((Aa 5), .inl (tc 0, 6, .inl (Af 5))), ((Aa 6), .inl (tc 0, 6, .inl (Af 6))), ((Aa 7), .inl (tc 0, 6, .inl (Af 7))), ((Aa 8), .inl (tc 0, 6, .inl (Af 8))), ((Ba 0), .inr (9, [.int (Bv 0), .int (Bv 1), .int (Bv 2), .int (Bv 3), .int (Bv 4), .int (Bv 5), .ref (Ba 1), .ref (Ba 2), .ref (Ba 3), .ref (Ba 4), .ref (Ba 5), .ref (Ba 6), .ref (Ba 7), .ref (Ba 8)])), ((Ba 1), .inl (tc 0, 10, .inl (Bf 1))), ((Ba 2), .inl (tc 0, 10, .inl (Bf 2))), ((Ba 3), .inl (tc 0, 6, .inl (Bf 3))), ((Ba 4), .inl (tc 0, 6, .inl (Bf 4))), ((Ba 5), .inl (tc 0, 6, .inl (Bf 5))), ((Ba 6), .inl (tc 0, 6, .inl (Bf 6))), ((Ba 7), .inl (tc 0, 6, .inl (Bf 7))), ((Ba 8), .inl (tc 0, 6, .inl (Bf 8)))] (fun (v : Option Value) (u : (Nat → Int32) × (Nat → Int32) × (Nat → Int32) × (Nat → Int32) × (Nat → Int32) × (Nat → Int32) × (Nat → Int32) × (Nat → Int32)) => match u with | (oo0x1, oo0x2, oo0x3, oo0x4, oo0x5, oo0x6, oo0x7, oo0x8) => v = none ∧ (DEq ((oo0x1, oo0x2, oo0x3, oo0x4, oo0x5, oo0x6, oo0x7, oo0x8)) (dX9_copyFrom (Af 1) (Af 2) (Af 3) (Af 4) (Af 5) (Af 6) (Af 7) (Af 8) (Bf 1) (Bf 2) (Bf 3) (Bf 4) (Bf 5) (Bf 6) (Bf 7) (Bf 8)))) (fun (u : (Nat → Int32) × (Nat → Int32) × (Nat → Int32) × (Nat → Int32) × (Nat → Int32) × (Nat → Int32) × (Nat → Int32) × (Nat → Int32)) => match u with | (oo0x1, oo0x2, oo0x3, oo0x4, oo0x5, oo0x6, oo0x7, oo0x8) => [((Aa 0), .inr (9, [.int (Bv 0), .int (Bv 1), .int (Bv 2), .int (Bv 3), .int (Bv 4), .int (Bv 5), .ref (Aa 1), .ref (Aa 2), .ref (Aa 3), .ref (Aa 4), .ref (Aa 5), .ref (Aa 6), .ref (Aa 7), .ref (Aa 8)])), ((Aa 1), .inl (tc 0, 10, .inl oo0x1)), ((Aa 2), .inl (tc 0, 10, .inl oo0x2)), ((Aa 3), .inl (tc 0, 6, .inl oo0x3)), ((Aa 4), .inl (tc 0, 6, .inl oo0x4)), ((Aa 5), .inl (tc 0, 6, .inl oo0x5)), ((Aa 6), .inl (tc 0, 6, .inl oo0x6)), ((Aa 7), .inl (tc 0, 6, .inl oo0x7)), ((Aa 8), .inl (tc 0, 6, .inl oo0x8)), ((Ba 0), .inr (9, [.int (Bv 0), .int (Bv 1), .int (Bv 2), .int (Bv 3), .int (Bv 4), .int (Bv 5), .ref (Ba 1), .ref (Ba 2), .ref (Ba 3), .ref (Ba 4), .ref (Ba 5), .ref (Ba 6), .ref (Ba 7), .ref (Ba 8)])), ((Ba 1), .inl (tc 0, 10, .inl (Bf 1))), ((Ba 2), .inl (tc 0, 10, .inl (Bf 2))), ((Ba 3), .inl (tc 0, 6, .inl (Bf 3))), ((Ba 4), .inl (tc 0, 6, .inl (Bf 4))), ((Ba 5), .inl (tc 0, 6, .inl (Bf 5))), ((Ba 6), .inl (tc 0, 6, .inl (Bf 6))), ((Ba 7), .inl (tc 0, 6, .inl (Bf 7))), ((Ba 8), .inl (tc 0, 6, .inl (Bf 8)))]) 0 0 := by
  refine Ct.start (by decide) (Nat.le_of_ble_eq_true rfl) (fun p e s m below meth c A ls hx hb hr hlk hin hml hown hts hK hX hP hD hA hl hS => ?_)
  have hl : lv_has ls 2 [(0, .ref (Aa 0)), (1, .ref (Ba 0))] := hl
  refine lv_aload_n hx hb dX9_copyFrom_0 rfl (lv_at hl 0 rfl) ?_
  refine lv_aload_n hx hb dX9_copyFrom_1 rfl (lv_at hl 1 rfl) ?_
  refine gf_X9_9 hx hb hts hown hK hP 9 rfl rfl dX9_copyFrom_2 ?_
  refine pf_X9_9 hx hb hts hown hK hP hD hS 0 rfl (Nat.le_of_ble_eq_true rfl) rfl rfl dX9_copyFrom_5 (fun H locs hP₀ hD₀ hS₀ => ?_)
  replace hP : va_P D classes [((Aa 0), .inr (9, [.int (Bv 0), .int (Av 1), .int (Av 2), .int (Av 3), .int (Av 4), .int (Av 5), .ref (Aa 1), .ref (Aa 2), .ref (Aa 3), .ref (Aa 4), .ref (Aa 5), .ref (Aa 6), .ref (Aa 7), .ref (Aa 8)])), ((Aa 1), .inl (tc 0, 10, .inl (Af 1))), ((Aa 2), .inl (tc 0, 10, .inl (Af 2))), ((Aa 3), .inl (tc 0, 6, .inl (Af 3))), ((Aa 4), .inl (tc 0, 6, .inl (Af 4))), ((Aa 5), .inl (tc 0, 6, .inl (Af 5))), ((Aa 6), .inl (tc 0, 6, .inl (Af 6))), ((Aa 7), .inl (tc 0, 6, .inl (Af 7))), ((Aa 8), .inl (tc 0, 6, .inl (Af 8))), ((Ba 0), .inr (9, [.int (Bv 0), .int (Bv 1), .int (Bv 2), .int (Bv 3), .int (Bv 4), .int (Bv 5), .ref (Ba 1), .ref (Ba 2), .ref (Ba 3), .ref (Ba 4), .ref (Ba 5), .ref (Ba 6), .ref (Ba 7), .ref (Ba 8)])), ((Ba 1), .inl (tc 0, 10, .inl (Bf 1))), ((Ba 2), .inl (tc 0, 10, .inl (Bf 2))), ((Ba 3), .inl (tc 0, 6, .inl (Bf 3))), ((Ba 4), .inl (tc 0, 6, .inl (Bf 4))), ((Ba 5), .inl (tc 0, 6, .inl (Bf 5))), ((Ba 6), .inl (tc 0, 6, .inl (Bf 6))), ((Ba 7), .inl (tc 0, 6, .inl (Bf 7))), ((Ba 8), .inl (tc 0, 6, .inl (Bf 8)))] H := hP₀
  replace hD : va_D A [((Aa 0), .inr (9, [.int (Bv 0), .int (Av 1), .int (Av 2), .int (Av 3), .int (Av 4), .int (Av 5), .ref (Aa 1), .ref (Aa 2), .ref (Aa 3), .ref (Aa 4), .ref (Aa 5), .ref (Aa 6), .ref (Aa 7), .ref (Aa 8)])), ((Aa 1), .inl (tc 0, 10, .inl (Af 1))), ((Aa 2), .inl (tc 0, 10, .inl (Af 2))), ((Aa 3), .inl (tc 0, 6, .inl (Af 3))), ((Aa 4), .inl (tc 0, 6, .inl (Af 4))), ((Aa 5), .inl (tc 0, 6, .inl (Af 5))), ((Aa 6), .inl (tc 0, 6, .inl (Af 6))), ((Aa 7), .inl (tc 0, 6, .inl (Af 7))), ((Aa 8), .inl (tc 0, 6, .inl (Af 8))), ((Ba 0), .inr (9, [.int (Bv 0), .int (Bv 1), .int (Bv 2), .int (Bv 3), .int (Bv 4), .int (Bv 5), .ref (Ba 1), .ref (Ba 2), .ref (Ba 3), .ref (Ba 4), .ref (Ba 5), .ref (Ba 6), .ref (Ba 7), .ref (Ba 8)])), ((Ba 1), .inl (tc 0, 10, .inl (Bf 1))), ((Ba 2), .inl (tc 0, 10, .inl (Bf 2))), ((Ba 3), .inl (tc 0, 6, .inl (Bf 3))), ((Ba 4), .inl (tc 0, 6, .inl (Bf 4))), ((Ba 5), .inl (tc 0, 6, .inl (Bf 5))), ((Ba 6), .inl (tc 0, 6, .inl (Bf 6))), ((Ba 7), .inl (tc 0, 6, .inl (Bf 7))), ((Ba 8), .inl (tc 0, 6, .inl (Bf 8)))] := hD₀
  replace hS := hS₀
  clear hP₀ hD₀ hS₀
  refine lv_aload_n hx hb dX9_copyFrom_8 rfl (lv_at hl 0 rfl) ?_
  refine lv_aload_n hx hb dX9_copyFrom_9 rfl (lv_at hl 1 rfl) ?_
  refine gf_X9_15 hx hb hts hown hK hP 9 rfl rfl dX9_copyFrom_10 ?_
  refine pf_X9_15 hx hb hts hown hK hP hD hS 0 rfl (Nat.le_of_ble_eq_true rfl) rfl rfl dX9_copyFrom_13 (fun H locs hP₀ hD₀ hS₀ => ?_)
  replace hP : va_P D classes [((Aa 0), .inr (9, [.int (Bv 0), .int (Bv 1), .int (Av 2), .int (Av 3), .int (Av 4), .int (Av 5), .ref (Aa 1), .ref (Aa 2), .ref (Aa 3), .ref (Aa 4), .ref (Aa 5), .ref (Aa 6), .ref (Aa 7), .ref (Aa 8)])), ((Aa 1), .inl (tc 0, 10, .inl (Af 1))), ((Aa 2), .inl (tc 0, 10, .inl (Af 2))), ((Aa 3), .inl (tc 0, 6, .inl (Af 3))), ((Aa 4), .inl (tc 0, 6, .inl (Af 4))), ((Aa 5), .inl (tc 0, 6, .inl (Af 5))), ((Aa 6), .inl (tc 0, 6, .inl (Af 6))), ((Aa 7), .inl (tc 0, 6, .inl (Af 7))), ((Aa 8), .inl (tc 0, 6, .inl (Af 8))), ((Ba 0), .inr (9, [.int (Bv 0), .int (Bv 1), .int (Bv 2), .int (Bv 3), .int (Bv 4), .int (Bv 5), .ref (Ba 1), .ref (Ba 2), .ref (Ba 3), .ref (Ba 4), .ref (Ba 5), .ref (Ba 6), .ref (Ba 7), .ref (Ba 8)])), ((Ba 1), .inl (tc 0, 10, .inl (Bf 1))), ((Ba 2), .inl (tc 0, 10, .inl (Bf 2))), ((Ba 3), .inl (tc 0, 6, .inl (Bf 3))), ((Ba 4), .inl (tc 0, 6, .inl (Bf 4))), ((Ba 5), .inl (tc 0, 6, .inl (Bf 5))), ((Ba 6), .inl (tc 0, 6, .inl (Bf 6))), ((Ba 7), .inl (tc 0, 6, .inl (Bf 7))), ((Ba 8), .inl (tc 0, 6, .inl (Bf 8)))] H := hP₀
  replace hD : va_D A [((Aa 0), .inr (9, [.int (Bv 0), .int (Bv 1), .int (Av 2), .int (Av 3), .int (Av 4), .int (Av 5), .ref (Aa 1), .ref (Aa 2), .ref (Aa 3), .ref (Aa 4), .ref (Aa 5), .ref (Aa 6), .ref (Aa 7), .ref (Aa 8)])), ((Aa 1), .inl (tc 0, 10, .inl (Af 1))), ((Aa 2), .inl (tc 0, 10, .inl (Af 2))), ((Aa 3), .inl (tc 0, 6, .inl (Af 3))), ((Aa 4), .inl (tc 0, 6, .inl (Af 4))), ((Aa 5), .inl (tc 0, 6, .inl (Af 5))), ((Aa 6), .inl (tc 0, 6, .inl (Af 6))), ((Aa 7), .inl (tc 0, 6, .inl (Af 7))), ((Aa 8), .inl (tc 0, 6, .inl (Af 8))), ((Ba 0), .inr (9, [.int (Bv 0), .int (Bv 1), .int (Bv 2), .int (Bv 3), .int (Bv 4), .int (Bv 5), .ref (Ba 1), .ref (Ba 2), .ref (Ba 3), .ref (Ba 4), .ref (Ba 5), .ref (Ba 6), .ref (Ba 7), .ref (Ba 8)])), ((Ba 1), .inl (tc 0, 10, .inl (Bf 1))), ((Ba 2), .inl (tc 0, 10, .inl (Bf 2))), ((Ba 3), .inl (tc 0, 6, .inl (Bf 3))), ((Ba 4), .inl (tc 0, 6, .inl (Bf 4))), ((Ba 5), .inl (tc 0, 6, .inl (Bf 5))), ((Ba 6), .inl (tc 0, 6, .inl (Bf 6))), ((Ba 7), .inl (tc 0, 6, .inl (Bf 7))), ((Ba 8), .inl (tc 0, 6, .inl (Bf 8)))] := hD₀
  replace hS := hS₀
  clear hP₀ hD₀ hS₀
  refine lv_aload_n hx hb dX9_copyFrom_16 rfl (lv_at hl 0 rfl) ?_
  refine lv_aload_n hx hb dX9_copyFrom_17 rfl (lv_at hl 1 rfl) ?_
  refine gf_X9_18 hx hb hts hown hK hP 9 rfl rfl dX9_copyFrom_18 ?_
  refine pf_X9_18 hx hb hts hown hK hP hD hS 0 rfl (Nat.le_of_ble_eq_true rfl) rfl rfl dX9_copyFrom_21 (fun H locs hP₀ hD₀ hS₀ => ?_)
  replace hP : va_P D classes [((Aa 0), .inr (9, [.int (Bv 0), .int (Bv 1), .int (Bv 2), .int (Av 3), .int (Av 4), .int (Av 5), .ref (Aa 1), .ref (Aa 2), .ref (Aa 3), .ref (Aa 4), .ref (Aa 5), .ref (Aa 6), .ref (Aa 7), .ref (Aa 8)])), ((Aa 1), .inl (tc 0, 10, .inl (Af 1))), ((Aa 2), .inl (tc 0, 10, .inl (Af 2))), ((Aa 3), .inl (tc 0, 6, .inl (Af 3))), ((Aa 4), .inl (tc 0, 6, .inl (Af 4))), ((Aa 5), .inl (tc 0, 6, .inl (Af 5))), ((Aa 6), .inl (tc 0, 6, .inl (Af 6))), ((Aa 7), .inl (tc 0, 6, .inl (Af 7))), ((Aa 8), .inl (tc 0, 6, .inl (Af 8))), ((Ba 0), .inr (9, [.int (Bv 0), .int (Bv 1), .int (Bv 2), .int (Bv 3), .int (Bv 4), .int (Bv 5), .ref (Ba 1), .ref (Ba 2), .ref (Ba 3), .ref (Ba 4), .ref (Ba 5), .ref (Ba 6), .ref (Ba 7), .ref (Ba 8)])), ((Ba 1), .inl (tc 0, 10, .inl (Bf 1))), ((Ba 2), .inl (tc 0, 10, .inl (Bf 2))), ((Ba 3), .inl (tc 0, 6, .inl (Bf 3))), ((Ba 4), .inl (tc 0, 6, .inl (Bf 4))), ((Ba 5), .inl (tc 0, 6, .inl (Bf 5))), ((Ba 6), .inl (tc 0, 6, .inl (Bf 6))), ((Ba 7), .inl (tc 0, 6, .inl (Bf 7))), ((Ba 8), .inl (tc 0, 6, .inl (Bf 8)))] H := hP₀
  replace hD : va_D A [((Aa 0), .inr (9, [.int (Bv 0), .int (Bv 1), .int (Bv 2), .int (Av 3), .int (Av 4), .int (Av 5), .ref (Aa 1), .ref (Aa 2), .ref (Aa 3), .ref (Aa 4), .ref (Aa 5), .ref (Aa 6), .ref (Aa 7), .ref (Aa 8)])), ((Aa 1), .inl (tc 0, 10, .inl (Af 1))), ((Aa 2), .inl (tc 0, 10, .inl (Af 2))), ((Aa 3), .inl (tc 0, 6, .inl (Af 3))), ((Aa 4), .inl (tc 0, 6, .inl (Af 4))), ((Aa 5), .inl (tc 0, 6, .inl (Af 5))), ((Aa 6), .inl (tc 0, 6, .inl (Af 6))), ((Aa 7), .inl (tc 0, 6, .inl (Af 7))), ((Aa 8), .inl (tc 0, 6, .inl (Af 8))), ((Ba 0), .inr (9, [.int (Bv 0), .int (Bv 1), .int (Bv 2), .int (Bv 3), .int (Bv 4), .int (Bv 5), .ref (Ba 1), .ref (Ba 2), .ref (Ba 3), .ref (Ba 4), .ref (Ba 5), .ref (Ba 6), .ref (Ba 7), .ref (Ba 8)])), ((Ba 1), .inl (tc 0, 10, .inl (Bf 1))), ((Ba 2), .inl (tc 0, 10, .inl (Bf 2))), ((Ba 3), .inl (tc 0, 6, .inl (Bf 3))), ((Ba 4), .inl (tc 0, 6, .inl (Bf 4))), ((Ba 5), .inl (tc 0, 6, .inl (Bf 5))), ((Ba 6), .inl (tc 0, 6, .inl (Bf 6))), ((Ba 7), .inl (tc 0, 6, .inl (Bf 7))), ((Ba 8), .inl (tc 0, 6, .inl (Bf 8)))] := hD₀
  replace hS := hS₀
  clear hP₀ hD₀ hS₀
  refine lv_aload_n hx hb dX9_copyFrom_24 rfl (lv_at hl 0 rfl) ?_
  refine lv_aload_n hx hb dX9_copyFrom_25 rfl (lv_at hl 1 rfl) ?_
  refine gf_X9_21 hx hb hts hown hK hP 9 rfl rfl dX9_copyFrom_26 ?_
  refine pf_X9_21 hx hb hts hown hK hP hD hS 0 rfl (Nat.le_of_ble_eq_true rfl) rfl rfl dX9_copyFrom_29 (fun H locs hP₀ hD₀ hS₀ => ?_)
  replace hP : va_P D classes [((Aa 0), .inr (9, [.int (Bv 0), .int (Bv 1), .int (Bv 2), .int (Bv 3), .int (Av 4), .int (Av 5), .ref (Aa 1), .ref (Aa 2), .ref (Aa 3), .ref (Aa 4), .ref (Aa 5), .ref (Aa 6), .ref (Aa 7), .ref (Aa 8)])), ((Aa 1), .inl (tc 0, 10, .inl (Af 1))), ((Aa 2), .inl (tc 0, 10, .inl (Af 2))), ((Aa 3), .inl (tc 0, 6, .inl (Af 3))), ((Aa 4), .inl (tc 0, 6, .inl (Af 4))), ((Aa 5), .inl (tc 0, 6, .inl (Af 5))), ((Aa 6), .inl (tc 0, 6, .inl (Af 6))), ((Aa 7), .inl (tc 0, 6, .inl (Af 7))), ((Aa 8), .inl (tc 0, 6, .inl (Af 8))), ((Ba 0), .inr (9, [.int (Bv 0), .int (Bv 1), .int (Bv 2), .int (Bv 3), .int (Bv 4), .int (Bv 5), .ref (Ba 1), .ref (Ba 2), .ref (Ba 3), .ref (Ba 4), .ref (Ba 5), .ref (Ba 6), .ref (Ba 7), .ref (Ba 8)])), ((Ba 1), .inl (tc 0, 10, .inl (Bf 1))), ((Ba 2), .inl (tc 0, 10, .inl (Bf 2))), ((Ba 3), .inl (tc 0, 6, .inl (Bf 3))), ((Ba 4), .inl (tc 0, 6, .inl (Bf 4))), ((Ba 5), .inl (tc 0, 6, .inl (Bf 5))), ((Ba 6), .inl (tc 0, 6, .inl (Bf 6))), ((Ba 7), .inl (tc 0, 6, .inl (Bf 7))), ((Ba 8), .inl (tc 0, 6, .inl (Bf 8)))] H := hP₀
  replace hD : va_D A [((Aa 0), .inr (9, [.int (Bv 0), .int (Bv 1), .int (Bv 2), .int (Bv 3), .int (Av 4), .int (Av 5), .ref (Aa 1), .ref (Aa 2), .ref (Aa 3), .ref (Aa 4), .ref (Aa 5), .ref (Aa 6), .ref (Aa 7), .ref (Aa 8)])), ((Aa 1), .inl (tc 0, 10, .inl (Af 1))), ((Aa 2), .inl (tc 0, 10, .inl (Af 2))), ((Aa 3), .inl (tc 0, 6, .inl (Af 3))), ((Aa 4), .inl (tc 0, 6, .inl (Af 4))), ((Aa 5), .inl (tc 0, 6, .inl (Af 5))), ((Aa 6), .inl (tc 0, 6, .inl (Af 6))), ((Aa 7), .inl (tc 0, 6, .inl (Af 7))), ((Aa 8), .inl (tc 0, 6, .inl (Af 8))), ((Ba 0), .inr (9, [.int (Bv 0), .int (Bv 1), .int (Bv 2), .int (Bv 3), .int (Bv 4), .int (Bv 5), .ref (Ba 1), .ref (Ba 2), .ref (Ba 3), .ref (Ba 4), .ref (Ba 5), .ref (Ba 6), .ref (Ba 7), .ref (Ba 8)])), ((Ba 1), .inl (tc 0, 10, .inl (Bf 1))), ((Ba 2), .inl (tc 0, 10, .inl (Bf 2))), ((Ba 3), .inl (tc 0, 6, .inl (Bf 3))), ((Ba 4), .inl (tc 0, 6, .inl (Bf 4))), ((Ba 5), .inl (tc 0, 6, .inl (Bf 5))), ((Ba 6), .inl (tc 0, 6, .inl (Bf 6))), ((Ba 7), .inl (tc 0, 6, .inl (Bf 7))), ((Ba 8), .inl (tc 0, 6, .inl (Bf 8)))] := hD₀
  replace hS := hS₀
  clear hP₀ hD₀ hS₀
  refine lv_aload_n hx hb dX9_copyFrom_32 rfl (lv_at hl 0 rfl) ?_
  refine lv_aload_n hx hb dX9_copyFrom_33 rfl (lv_at hl 1 rfl) ?_
  refine gf_X9_24 hx hb hts hown hK hP 9 rfl rfl dX9_copyFrom_34 ?_
  refine pf_X9_24 hx hb hts hown hK hP hD hS 0 rfl (Nat.le_of_ble_eq_true rfl) rfl rfl dX9_copyFrom_37 (fun H locs hP₀ hD₀ hS₀ => ?_)
  replace hP : va_P D classes [((Aa 0), .inr (9, [.int (Bv 0), .int (Bv 1), .int (Bv 2), .int (Bv 3), .int (Bv 4), .int (Av 5), .ref (Aa 1), .ref (Aa 2), .ref (Aa 3), .ref (Aa 4), .ref (Aa 5), .ref (Aa 6), .ref (Aa 7), .ref (Aa 8)])), ((Aa 1), .inl (tc 0, 10, .inl (Af 1))), ((Aa 2), .inl (tc 0, 10, .inl (Af 2))), ((Aa 3), .inl (tc 0, 6, .inl (Af 3))), ((Aa 4), .inl (tc 0, 6, .inl (Af 4))), ((Aa 5), .inl (tc 0, 6, .inl (Af 5))), ((Aa 6), .inl (tc 0, 6, .inl (Af 6))), ((Aa 7), .inl (tc 0, 6, .inl (Af 7))), ((Aa 8), .inl (tc 0, 6, .inl (Af 8))), ((Ba 0), .inr (9, [.int (Bv 0), .int (Bv 1), .int (Bv 2), .int (Bv 3), .int (Bv 4), .int (Bv 5), .ref (Ba 1), .ref (Ba 2), .ref (Ba 3), .ref (Ba 4), .ref (Ba 5), .ref (Ba 6), .ref (Ba 7), .ref (Ba 8)])), ((Ba 1), .inl (tc 0, 10, .inl (Bf 1))), ((Ba 2), .inl (tc 0, 10, .inl (Bf 2))), ((Ba 3), .inl (tc 0, 6, .inl (Bf 3))), ((Ba 4), .inl (tc 0, 6, .inl (Bf 4))), ((Ba 5), .inl (tc 0, 6, .inl (Bf 5))), ((Ba 6), .inl (tc 0, 6, .inl (Bf 6))), ((Ba 7), .inl (tc 0, 6, .inl (Bf 7))), ((Ba 8), .inl (tc 0, 6, .inl (Bf 8)))] H := hP₀
  replace hD : va_D A [((Aa 0), .inr (9, [.int (Bv 0), .int (Bv 1), .int (Bv 2), .int (Bv 3), .int (Bv 4), .int (Av 5), .ref (Aa 1), .ref (Aa 2), .ref (Aa 3), .ref (Aa 4), .ref (Aa 5), .ref (Aa 6), .ref (Aa 7), .ref (Aa 8)])), ((Aa 1), .inl (tc 0, 10, .inl (Af 1))), ((Aa 2), .inl (tc 0, 10, .inl (Af 2))), ((Aa 3), .inl (tc 0, 6, .inl (Af 3))), ((Aa 4), .inl (tc 0, 6, .inl (Af 4))), ((Aa 5), .inl (tc 0, 6, .inl (Af 5))), ((Aa 6), .inl (tc 0, 6, .inl (Af 6))), ((Aa 7), .inl (tc 0, 6, .inl (Af 7))), ((Aa 8), .inl (tc 0, 6, .inl (Af 8))), ((Ba 0), .inr (9, [.int (Bv 0), .int (Bv 1), .int (Bv 2), .int (Bv 3), .int (Bv 4), .int (Bv 5), .ref (Ba 1), .ref (Ba 2), .ref (Ba 3), .ref (Ba 4), .ref (Ba 5), .ref (Ba 6), .ref (Ba 7), .ref (Ba 8)])), ((Ba 1), .inl (tc 0, 10, .inl (Bf 1))), ((Ba 2), .inl (tc 0, 10, .inl (Bf 2))), ((Ba 3), .inl (tc 0, 6, .inl (Bf 3))), ((Ba 4), .inl (tc 0, 6, .inl (Bf 4))), ((Ba 5), .inl (tc 0, 6, .inl (Bf 5))), ((Ba 6), .inl (tc 0, 6, .inl (Bf 6))), ((Ba 7), .inl (tc 0, 6, .inl (Bf 7))), ((Ba 8), .inl (tc 0, 6, .inl (Bf 8)))] := hD₀
  replace hS := hS₀
  clear hP₀ hD₀ hS₀
  refine lv_aload_n hx hb dX9_copyFrom_40 rfl (lv_at hl 0 rfl) ?_
  refine lv_aload_n hx hb dX9_copyFrom_41 rfl (lv_at hl 1 rfl) ?_
  refine gf_X9_27 hx hb hts hown hK hP 9 rfl rfl dX9_copyFrom_42 ?_
  refine pf_X9_27 hx hb hts hown hK hP hD hS 0 rfl (Nat.le_of_ble_eq_true rfl) rfl rfl dX9_copyFrom_45 (fun H locs hP₀ hD₀ hS₀ => ?_)
  replace hP : va_P D classes [((Aa 0), .inr (9, [.int (Bv 0), .int (Bv 1), .int (Bv 2), .int (Bv 3), .int (Bv 4), .int (Bv 5), .ref (Aa 1), .ref (Aa 2), .ref (Aa 3), .ref (Aa 4), .ref (Aa 5), .ref (Aa 6), .ref (Aa 7), .ref (Aa 8)])), ((Aa 1), .inl (tc 0, 10, .inl (Af 1))), ((Aa 2), .inl (tc 0, 10, .inl (Af 2))), ((Aa 3), .inl (tc 0, 6, .inl (Af 3))), ((Aa 4), .inl (tc 0, 6, .inl (Af 4))), ((Aa 5), .inl (tc 0, 6, .inl (Af 5))), ((Aa 6), .inl (tc 0, 6, .inl (Af 6))), ((Aa 7), .inl (tc 0, 6, .inl (Af 7))), ((Aa 8), .inl (tc 0, 6, .inl (Af 8))), ((Ba 0), .inr (9, [.int (Bv 0), .int (Bv 1), .int (Bv 2), .int (Bv 3), .int (Bv 4), .int (Bv 5), .ref (Ba 1), .ref (Ba 2), .ref (Ba 3), .ref (Ba 4), .ref (Ba 5), .ref (Ba 6), .ref (Ba 7), .ref (Ba 8)])), ((Ba 1), .inl (tc 0, 10, .inl (Bf 1))), ((Ba 2), .inl (tc 0, 10, .inl (Bf 2))), ((Ba 3), .inl (tc 0, 6, .inl (Bf 3))), ((Ba 4), .inl (tc 0, 6, .inl (Bf 4))), ((Ba 5), .inl (tc 0, 6, .inl (Bf 5))), ((Ba 6), .inl (tc 0, 6, .inl (Bf 6))), ((Ba 7), .inl (tc 0, 6, .inl (Bf 7))), ((Ba 8), .inl (tc 0, 6, .inl (Bf 8)))] H := hP₀
  replace hD : va_D A [((Aa 0), .inr (9, [.int (Bv 0), .int (Bv 1), .int (Bv 2), .int (Bv 3), .int (Bv 4), .int (Bv 5), .ref (Aa 1), .ref (Aa 2), .ref (Aa 3), .ref (Aa 4), .ref (Aa 5), .ref (Aa 6), .ref (Aa 7), .ref (Aa 8)])), ((Aa 1), .inl (tc 0, 10, .inl (Af 1))), ((Aa 2), .inl (tc 0, 10, .inl (Af 2))), ((Aa 3), .inl (tc 0, 6, .inl (Af 3))), ((Aa 4), .inl (tc 0, 6, .inl (Af 4))), ((Aa 5), .inl (tc 0, 6, .inl (Af 5))), ((Aa 6), .inl (tc 0, 6, .inl (Af 6))), ((Aa 7), .inl (tc 0, 6, .inl (Af 7))), ((Aa 8), .inl (tc 0, 6, .inl (Af 8))), ((Ba 0), .inr (9, [.int (Bv 0), .int (Bv 1), .int (Bv 2), .int (Bv 3), .int (Bv 4), .int (Bv 5), .ref (Ba 1), .ref (Ba 2), .ref (Ba 3), .ref (Ba 4), .ref (Ba 5), .ref (Ba 6), .ref (Ba 7), .ref (Ba 8)])), ((Ba 1), .inl (tc 0, 10, .inl (Bf 1))), ((Ba 2), .inl (tc 0, 10, .inl (Bf 2))), ((Ba 3), .inl (tc 0, 6, .inl (Bf 3))), ((Ba 4), .inl (tc 0, 6, .inl (Bf 4))), ((Ba 5), .inl (tc 0, 6, .inl (Bf 5))), ((Ba 6), .inl (tc 0, 6, .inl (Bf 6))), ((Ba 7), .inl (tc 0, 6, .inl (Bf 7))), ((Ba 8), .inl (tc 0, 6, .inl (Bf 8)))] := hD₀
  replace hS := hS₀
  clear hP₀ hD₀ hS₀
  refine lv_aload_n hx hb dX9_copyFrom_48 rfl (lv_at hl 1 rfl) ?_
  refine gf_X9_30 hx hb hts hown hK hP 9 rfl rfl dX9_copyFrom_49 ?_
  refine lv_iconst (v := 0) hx hb dX9_copyFrom_52 (by decide) ?_
  refine lv_aload_n hx hb dX9_copyFrom_53 rfl (lv_at hl 0 rfl) ?_
  refine gf_X9_30 hx hb hts hown hK hP 0 rfl rfl dX9_copyFrom_54 ?_
  refine lv_iconst (v := 0) hx hb dX9_copyFrom_57 (by decide) ?_
  refine lv_bipush (v := 10) hx hb dX9_copyFrom_58 (by decide) ?_
  refine cp_int hx hb (hml.trans hl.1.symm) hown (hts _ k_600) (hts _ k_602) (hts _ k_601) (hts _ k_111) hK hP hD hS 10 1 0 0 rfl rfl rfl rfl (by decide) (by decide) (by decide) (by decide) (by decide) (Nat.le_of_ble_eq_true rfl) (Nat.le_of_ble_eq_true rfl) dX9_copyFrom_60 (fun g_1 H locs eg_1 hP₀ hD₀ hS₀ => ?_)
  replace hP : va_P D classes [((Aa 0), .inr (9, [.int (Bv 0), .int (Bv 1), .int (Bv 2), .int (Bv 3), .int (Bv 4), .int (Bv 5), .ref (Aa 1), .ref (Aa 2), .ref (Aa 3), .ref (Aa 4), .ref (Aa 5), .ref (Aa 6), .ref (Aa 7), .ref (Aa 8)])), ((Aa 1), .inl (tc 0, 10, .inl g_1)), ((Aa 2), .inl (tc 0, 10, .inl (Af 2))), ((Aa 3), .inl (tc 0, 6, .inl (Af 3))), ((Aa 4), .inl (tc 0, 6, .inl (Af 4))), ((Aa 5), .inl (tc 0, 6, .inl (Af 5))), ((Aa 6), .inl (tc 0, 6, .inl (Af 6))), ((Aa 7), .inl (tc 0, 6, .inl (Af 7))), ((Aa 8), .inl (tc 0, 6, .inl (Af 8))), ((Ba 0), .inr (9, [.int (Bv 0), .int (Bv 1), .int (Bv 2), .int (Bv 3), .int (Bv 4), .int (Bv 5), .ref (Ba 1), .ref (Ba 2), .ref (Ba 3), .ref (Ba 4), .ref (Ba 5), .ref (Ba 6), .ref (Ba 7), .ref (Ba 8)])), ((Ba 1), .inl (tc 0, 10, .inl (Bf 1))), ((Ba 2), .inl (tc 0, 10, .inl (Bf 2))), ((Ba 3), .inl (tc 0, 6, .inl (Bf 3))), ((Ba 4), .inl (tc 0, 6, .inl (Bf 4))), ((Ba 5), .inl (tc 0, 6, .inl (Bf 5))), ((Ba 6), .inl (tc 0, 6, .inl (Bf 6))), ((Ba 7), .inl (tc 0, 6, .inl (Bf 7))), ((Ba 8), .inl (tc 0, 6, .inl (Bf 8)))] H := hP₀
  replace hD : va_D A [((Aa 0), .inr (9, [.int (Bv 0), .int (Bv 1), .int (Bv 2), .int (Bv 3), .int (Bv 4), .int (Bv 5), .ref (Aa 1), .ref (Aa 2), .ref (Aa 3), .ref (Aa 4), .ref (Aa 5), .ref (Aa 6), .ref (Aa 7), .ref (Aa 8)])), ((Aa 1), .inl (tc 0, 10, .inl g_1)), ((Aa 2), .inl (tc 0, 10, .inl (Af 2))), ((Aa 3), .inl (tc 0, 6, .inl (Af 3))), ((Aa 4), .inl (tc 0, 6, .inl (Af 4))), ((Aa 5), .inl (tc 0, 6, .inl (Af 5))), ((Aa 6), .inl (tc 0, 6, .inl (Af 6))), ((Aa 7), .inl (tc 0, 6, .inl (Af 7))), ((Aa 8), .inl (tc 0, 6, .inl (Af 8))), ((Ba 0), .inr (9, [.int (Bv 0), .int (Bv 1), .int (Bv 2), .int (Bv 3), .int (Bv 4), .int (Bv 5), .ref (Ba 1), .ref (Ba 2), .ref (Ba 3), .ref (Ba 4), .ref (Ba 5), .ref (Ba 6), .ref (Ba 7), .ref (Ba 8)])), ((Ba 1), .inl (tc 0, 10, .inl (Bf 1))), ((Ba 2), .inl (tc 0, 10, .inl (Bf 2))), ((Ba 3), .inl (tc 0, 6, .inl (Bf 3))), ((Ba 4), .inl (tc 0, 6, .inl (Bf 4))), ((Ba 5), .inl (tc 0, 6, .inl (Bf 5))), ((Ba 6), .inl (tc 0, 6, .inl (Bf 6))), ((Ba 7), .inl (tc 0, 6, .inl (Bf 7))), ((Ba 8), .inl (tc 0, 6, .inl (Bf 8)))] := hD₀
  replace hS := hS₀
  clear hP₀ hD₀ hS₀
  refine lv_aload_n hx hb dX9_copyFrom_63 rfl (lv_at hl 1 rfl) ?_
  refine gf_X9_34 hx hb hts hown hK hP 9 rfl rfl dX9_copyFrom_64 ?_
  refine lv_iconst (v := 0) hx hb dX9_copyFrom_67 (by decide) ?_
  refine lv_aload_n hx hb dX9_copyFrom_68 rfl (lv_at hl 0 rfl) ?_
  refine gf_X9_34 hx hb hts hown hK hP 0 rfl rfl dX9_copyFrom_69 ?_
  refine lv_iconst (v := 0) hx hb dX9_copyFrom_72 (by decide) ?_
  refine lv_bipush (v := 10) hx hb dX9_copyFrom_73 (by decide) ?_
  refine cp_int hx hb (hml.trans hl.1.symm) hown (hts _ k_600) (hts _ k_602) (hts _ k_601) (hts _ k_111) hK hP hD hS 11 2 0 0 rfl rfl rfl rfl (by decide) (by decide) (by decide) (by decide) (by decide) (Nat.le_of_ble_eq_true rfl) (Nat.le_of_ble_eq_true rfl) dX9_copyFrom_75 (fun g_2 H locs eg_2 hP₀ hD₀ hS₀ => ?_)
  replace hP : va_P D classes [((Aa 0), .inr (9, [.int (Bv 0), .int (Bv 1), .int (Bv 2), .int (Bv 3), .int (Bv 4), .int (Bv 5), .ref (Aa 1), .ref (Aa 2), .ref (Aa 3), .ref (Aa 4), .ref (Aa 5), .ref (Aa 6), .ref (Aa 7), .ref (Aa 8)])), ((Aa 1), .inl (tc 0, 10, .inl g_1)), ((Aa 2), .inl (tc 0, 10, .inl g_2)), ((Aa 3), .inl (tc 0, 6, .inl (Af 3))), ((Aa 4), .inl (tc 0, 6, .inl (Af 4))), ((Aa 5), .inl (tc 0, 6, .inl (Af 5))), ((Aa 6), .inl (tc 0, 6, .inl (Af 6))), ((Aa 7), .inl (tc 0, 6, .inl (Af 7))), ((Aa 8), .inl (tc 0, 6, .inl (Af 8))), ((Ba 0), .inr (9, [.int (Bv 0), .int (Bv 1), .int (Bv 2), .int (Bv 3), .int (Bv 4), .int (Bv 5), .ref (Ba 1), .ref (Ba 2), .ref (Ba 3), .ref (Ba 4), .ref (Ba 5), .ref (Ba 6), .ref (Ba 7), .ref (Ba 8)])), ((Ba 1), .inl (tc 0, 10, .inl (Bf 1))), ((Ba 2), .inl (tc 0, 10, .inl (Bf 2))), ((Ba 3), .inl (tc 0, 6, .inl (Bf 3))), ((Ba 4), .inl (tc 0, 6, .inl (Bf 4))), ((Ba 5), .inl (tc 0, 6, .inl (Bf 5))), ((Ba 6), .inl (tc 0, 6, .inl (Bf 6))), ((Ba 7), .inl (tc 0, 6, .inl (Bf 7))), ((Ba 8), .inl (tc 0, 6, .inl (Bf 8)))] H := hP₀
  replace hD : va_D A [((Aa 0), .inr (9, [.int (Bv 0), .int (Bv 1), .int (Bv 2), .int (Bv 3), .int (Bv 4), .int (Bv 5), .ref (Aa 1), .ref (Aa 2), .ref (Aa 3), .ref (Aa 4), .ref (Aa 5), .ref (Aa 6), .ref (Aa 7), .ref (Aa 8)])), ((Aa 1), .inl (tc 0, 10, .inl g_1)), ((Aa 2), .inl (tc 0, 10, .inl g_2)), ((Aa 3), .inl (tc 0, 6, .inl (Af 3))), ((Aa 4), .inl (tc 0, 6, .inl (Af 4))), ((Aa 5), .inl (tc 0, 6, .inl (Af 5))), ((Aa 6), .inl (tc 0, 6, .inl (Af 6))), ((Aa 7), .inl (tc 0, 6, .inl (Af 7))), ((Aa 8), .inl (tc 0, 6, .inl (Af 8))), ((Ba 0), .inr (9, [.int (Bv 0), .int (Bv 1), .int (Bv 2), .int (Bv 3), .int (Bv 4), .int (Bv 5), .ref (Ba 1), .ref (Ba 2), .ref (Ba 3), .ref (Ba 4), .ref (Ba 5), .ref (Ba 6), .ref (Ba 7), .ref (Ba 8)])), ((Ba 1), .inl (tc 0, 10, .inl (Bf 1))), ((Ba 2), .inl (tc 0, 10, .inl (Bf 2))), ((Ba 3), .inl (tc 0, 6, .inl (Bf 3))), ((Ba 4), .inl (tc 0, 6, .inl (Bf 4))), ((Ba 5), .inl (tc 0, 6, .inl (Bf 5))), ((Ba 6), .inl (tc 0, 6, .inl (Bf 6))), ((Ba 7), .inl (tc 0, 6, .inl (Bf 7))), ((Ba 8), .inl (tc 0, 6, .inl (Bf 8)))] := hD₀
  replace hS := hS₀
  clear hP₀ hD₀ hS₀
  refine lv_aload_n hx hb dX9_copyFrom_78 rfl (lv_at hl 1 rfl) ?_
  refine gf_X9_37 hx hb hts hown hK hP 9 rfl rfl dX9_copyFrom_79 ?_
  refine lv_iconst (v := 0) hx hb dX9_copyFrom_82 (by decide) ?_
  refine lv_aload_n hx hb dX9_copyFrom_83 rfl (lv_at hl 0 rfl) ?_
  refine gf_X9_37 hx hb hts hown hK hP 0 rfl rfl dX9_copyFrom_84 ?_
  refine lv_iconst (v := 0) hx hb dX9_copyFrom_87 (by decide) ?_
  refine lv_bipush (v := 6) hx hb dX9_copyFrom_88 (by decide) ?_
  refine cp_int hx hb (hml.trans hl.1.symm) hown (hts _ k_600) (hts _ k_602) (hts _ k_601) (hts _ k_111) hK hP hD hS 12 3 0 0 rfl rfl rfl rfl (by decide) (by decide) (by decide) (by decide) (by decide) (Nat.le_of_ble_eq_true rfl) (Nat.le_of_ble_eq_true rfl) dX9_copyFrom_90 (fun g_3 H locs eg_3 hP₀ hD₀ hS₀ => ?_)
  replace hP : va_P D classes [((Aa 0), .inr (9, [.int (Bv 0), .int (Bv 1), .int (Bv 2), .int (Bv 3), .int (Bv 4), .int (Bv 5), .ref (Aa 1), .ref (Aa 2), .ref (Aa 3), .ref (Aa 4), .ref (Aa 5), .ref (Aa 6), .ref (Aa 7), .ref (Aa 8)])), ((Aa 1), .inl (tc 0, 10, .inl g_1)), ((Aa 2), .inl (tc 0, 10, .inl g_2)), ((Aa 3), .inl (tc 0, 6, .inl g_3)), ((Aa 4), .inl (tc 0, 6, .inl (Af 4))), ((Aa 5), .inl (tc 0, 6, .inl (Af 5))), ((Aa 6), .inl (tc 0, 6, .inl (Af 6))), ((Aa 7), .inl (tc 0, 6, .inl (Af 7))), ((Aa 8), .inl (tc 0, 6, .inl (Af 8))), ((Ba 0), .inr (9, [.int (Bv 0), .int (Bv 1), .int (Bv 2), .int (Bv 3), .int (Bv 4), .int (Bv 5), .ref (Ba 1), .ref (Ba 2), .ref (Ba 3), .ref (Ba 4), .ref (Ba 5), .ref (Ba 6), .ref (Ba 7), .ref (Ba 8)])), ((Ba 1), .inl (tc 0, 10, .inl (Bf 1))), ((Ba 2), .inl (tc 0, 10, .inl (Bf 2))), ((Ba 3), .inl (tc 0, 6, .inl (Bf 3))), ((Ba 4), .inl (tc 0, 6, .inl (Bf 4))), ((Ba 5), .inl (tc 0, 6, .inl (Bf 5))), ((Ba 6), .inl (tc 0, 6, .inl (Bf 6))), ((Ba 7), .inl (tc 0, 6, .inl (Bf 7))), ((Ba 8), .inl (tc 0, 6, .inl (Bf 8)))] H := hP₀
  replace hD : va_D A [((Aa 0), .inr (9, [.int (Bv 0), .int (Bv 1), .int (Bv 2), .int (Bv 3), .int (Bv 4), .int (Bv 5), .ref (Aa 1), .ref (Aa 2), .ref (Aa 3), .ref (Aa 4), .ref (Aa 5), .ref (Aa 6), .ref (Aa 7), .ref (Aa 8)])), ((Aa 1), .inl (tc 0, 10, .inl g_1)), ((Aa 2), .inl (tc 0, 10, .inl g_2)), ((Aa 3), .inl (tc 0, 6, .inl g_3)), ((Aa 4), .inl (tc 0, 6, .inl (Af 4))), ((Aa 5), .inl (tc 0, 6, .inl (Af 5))), ((Aa 6), .inl (tc 0, 6, .inl (Af 6))), ((Aa 7), .inl (tc 0, 6, .inl (Af 7))), ((Aa 8), .inl (tc 0, 6, .inl (Af 8))), ((Ba 0), .inr (9, [.int (Bv 0), .int (Bv 1), .int (Bv 2), .int (Bv 3), .int (Bv 4), .int (Bv 5), .ref (Ba 1), .ref (Ba 2), .ref (Ba 3), .ref (Ba 4), .ref (Ba 5), .ref (Ba 6), .ref (Ba 7), .ref (Ba 8)])), ((Ba 1), .inl (tc 0, 10, .inl (Bf 1))), ((Ba 2), .inl (tc 0, 10, .inl (Bf 2))), ((Ba 3), .inl (tc 0, 6, .inl (Bf 3))), ((Ba 4), .inl (tc 0, 6, .inl (Bf 4))), ((Ba 5), .inl (tc 0, 6, .inl (Bf 5))), ((Ba 6), .inl (tc 0, 6, .inl (Bf 6))), ((Ba 7), .inl (tc 0, 6, .inl (Bf 7))), ((Ba 8), .inl (tc 0, 6, .inl (Bf 8)))] := hD₀
  replace hS := hS₀
  clear hP₀ hD₀ hS₀
  refine lv_aload_n hx hb dX9_copyFrom_93 rfl (lv_at hl 1 rfl) ?_
  refine gf_X9_40 hx hb hts hown hK hP 9 rfl rfl dX9_copyFrom_94 ?_
  refine lv_iconst (v := 0) hx hb dX9_copyFrom_97 (by decide) ?_
  refine lv_aload_n hx hb dX9_copyFrom_98 rfl (lv_at hl 0 rfl) ?_
  refine gf_X9_40 hx hb hts hown hK hP 0 rfl rfl dX9_copyFrom_99 ?_
  refine lv_iconst (v := 0) hx hb dX9_copyFrom_102 (by decide) ?_
  refine lv_bipush (v := 6) hx hb dX9_copyFrom_103 (by decide) ?_
  refine cp_int hx hb (hml.trans hl.1.symm) hown (hts _ k_600) (hts _ k_602) (hts _ k_601) (hts _ k_111) hK hP hD hS 13 4 0 0 rfl rfl rfl rfl (by decide) (by decide) (by decide) (by decide) (by decide) (Nat.le_of_ble_eq_true rfl) (Nat.le_of_ble_eq_true rfl) dX9_copyFrom_105 (fun g_4 H locs eg_4 hP₀ hD₀ hS₀ => ?_)
  replace hP : va_P D classes [((Aa 0), .inr (9, [.int (Bv 0), .int (Bv 1), .int (Bv 2), .int (Bv 3), .int (Bv 4), .int (Bv 5), .ref (Aa 1), .ref (Aa 2), .ref (Aa 3), .ref (Aa 4), .ref (Aa 5), .ref (Aa 6), .ref (Aa 7), .ref (Aa 8)])), ((Aa 1), .inl (tc 0, 10, .inl g_1)), ((Aa 2), .inl (tc 0, 10, .inl g_2)), ((Aa 3), .inl (tc 0, 6, .inl g_3)), ((Aa 4), .inl (tc 0, 6, .inl g_4)), ((Aa 5), .inl (tc 0, 6, .inl (Af 5))), ((Aa 6), .inl (tc 0, 6, .inl (Af 6))), ((Aa 7), .inl (tc 0, 6, .inl (Af 7))), ((Aa 8), .inl (tc 0, 6, .inl (Af 8))), ((Ba 0), .inr (9, [.int (Bv 0), .int (Bv 1), .int (Bv 2), .int (Bv 3), .int (Bv 4), .int (Bv 5), .ref (Ba 1), .ref (Ba 2), .ref (Ba 3), .ref (Ba 4), .ref (Ba 5), .ref (Ba 6), .ref (Ba 7), .ref (Ba 8)])), ((Ba 1), .inl (tc 0, 10, .inl (Bf 1))), ((Ba 2), .inl (tc 0, 10, .inl (Bf 2))), ((Ba 3), .inl (tc 0, 6, .inl (Bf 3))), ((Ba 4), .inl (tc 0, 6, .inl (Bf 4))), ((Ba 5), .inl (tc 0, 6, .inl (Bf 5))), ((Ba 6), .inl (tc 0, 6, .inl (Bf 6))), ((Ba 7), .inl (tc 0, 6, .inl (Bf 7))), ((Ba 8), .inl (tc 0, 6, .inl (Bf 8)))] H := hP₀
  replace hD : va_D A [((Aa 0), .inr (9, [.int (Bv 0), .int (Bv 1), .int (Bv 2), .int (Bv 3), .int (Bv 4), .int (Bv 5), .ref (Aa 1), .ref (Aa 2), .ref (Aa 3), .ref (Aa 4), .ref (Aa 5), .ref (Aa 6), .ref (Aa 7), .ref (Aa 8)])), ((Aa 1), .inl (tc 0, 10, .inl g_1)), ((Aa 2), .inl (tc 0, 10, .inl g_2)), ((Aa 3), .inl (tc 0, 6, .inl g_3)), ((Aa 4), .inl (tc 0, 6, .inl g_4)), ((Aa 5), .inl (tc 0, 6, .inl (Af 5))), ((Aa 6), .inl (tc 0, 6, .inl (Af 6))), ((Aa 7), .inl (tc 0, 6, .inl (Af 7))), ((Aa 8), .inl (tc 0, 6, .inl (Af 8))), ((Ba 0), .inr (9, [.int (Bv 0), .int (Bv 1), .int (Bv 2), .int (Bv 3), .int (Bv 4), .int (Bv 5), .ref (Ba 1), .ref (Ba 2), .ref (Ba 3), .ref (Ba 4), .ref (Ba 5), .ref (Ba 6), .ref (Ba 7), .ref (Ba 8)])), ((Ba 1), .inl (tc 0, 10, .inl (Bf 1))), ((Ba 2), .inl (tc 0, 10, .inl (Bf 2))), ((Ba 3), .inl (tc 0, 6, .inl (Bf 3))), ((Ba 4), .inl (tc 0, 6, .inl (Bf 4))), ((Ba 5), .inl (tc 0, 6, .inl (Bf 5))), ((Ba 6), .inl (tc 0, 6, .inl (Bf 6))), ((Ba 7), .inl (tc 0, 6, .inl (Bf 7))), ((Ba 8), .inl (tc 0, 6, .inl (Bf 8)))] := hD₀
  replace hS := hS₀
  clear hP₀ hD₀ hS₀
  refine lv_aload_n hx hb dX9_copyFrom_108 rfl (lv_at hl 1 rfl) ?_
  refine gf_X9_43 hx hb hts hown hK hP 9 rfl rfl dX9_copyFrom_109 ?_
  refine lv_iconst (v := 0) hx hb dX9_copyFrom_112 (by decide) ?_
  refine lv_aload_n hx hb dX9_copyFrom_113 rfl (lv_at hl 0 rfl) ?_
  refine gf_X9_43 hx hb hts hown hK hP 0 rfl rfl dX9_copyFrom_114 ?_
  refine lv_iconst (v := 0) hx hb dX9_copyFrom_117 (by decide) ?_
  refine lv_bipush (v := 6) hx hb dX9_copyFrom_118 (by decide) ?_
  refine cp_int hx hb (hml.trans hl.1.symm) hown (hts _ k_600) (hts _ k_602) (hts _ k_601) (hts _ k_111) hK hP hD hS 14 5 0 0 rfl rfl rfl rfl (by decide) (by decide) (by decide) (by decide) (by decide) (Nat.le_of_ble_eq_true rfl) (Nat.le_of_ble_eq_true rfl) dX9_copyFrom_120 (fun g_5 H locs eg_5 hP₀ hD₀ hS₀ => ?_)
  replace hP : va_P D classes [((Aa 0), .inr (9, [.int (Bv 0), .int (Bv 1), .int (Bv 2), .int (Bv 3), .int (Bv 4), .int (Bv 5), .ref (Aa 1), .ref (Aa 2), .ref (Aa 3), .ref (Aa 4), .ref (Aa 5), .ref (Aa 6), .ref (Aa 7), .ref (Aa 8)])), ((Aa 1), .inl (tc 0, 10, .inl g_1)), ((Aa 2), .inl (tc 0, 10, .inl g_2)), ((Aa 3), .inl (tc 0, 6, .inl g_3)), ((Aa 4), .inl (tc 0, 6, .inl g_4)), ((Aa 5), .inl (tc 0, 6, .inl g_5)), ((Aa 6), .inl (tc 0, 6, .inl (Af 6))), ((Aa 7), .inl (tc 0, 6, .inl (Af 7))), ((Aa 8), .inl (tc 0, 6, .inl (Af 8))), ((Ba 0), .inr (9, [.int (Bv 0), .int (Bv 1), .int (Bv 2), .int (Bv 3), .int (Bv 4), .int (Bv 5), .ref (Ba 1), .ref (Ba 2), .ref (Ba 3), .ref (Ba 4), .ref (Ba 5), .ref (Ba 6), .ref (Ba 7), .ref (Ba 8)])), ((Ba 1), .inl (tc 0, 10, .inl (Bf 1))), ((Ba 2), .inl (tc 0, 10, .inl (Bf 2))), ((Ba 3), .inl (tc 0, 6, .inl (Bf 3))), ((Ba 4), .inl (tc 0, 6, .inl (Bf 4))), ((Ba 5), .inl (tc 0, 6, .inl (Bf 5))), ((Ba 6), .inl (tc 0, 6, .inl (Bf 6))), ((Ba 7), .inl (tc 0, 6, .inl (Bf 7))), ((Ba 8), .inl (tc 0, 6, .inl (Bf 8)))] H := hP₀
  replace hD : va_D A [((Aa 0), .inr (9, [.int (Bv 0), .int (Bv 1), .int (Bv 2), .int (Bv 3), .int (Bv 4), .int (Bv 5), .ref (Aa 1), .ref (Aa 2), .ref (Aa 3), .ref (Aa 4), .ref (Aa 5), .ref (Aa 6), .ref (Aa 7), .ref (Aa 8)])), ((Aa 1), .inl (tc 0, 10, .inl g_1)), ((Aa 2), .inl (tc 0, 10, .inl g_2)), ((Aa 3), .inl (tc 0, 6, .inl g_3)), ((Aa 4), .inl (tc 0, 6, .inl g_4)), ((Aa 5), .inl (tc 0, 6, .inl g_5)), ((Aa 6), .inl (tc 0, 6, .inl (Af 6))), ((Aa 7), .inl (tc 0, 6, .inl (Af 7))), ((Aa 8), .inl (tc 0, 6, .inl (Af 8))), ((Ba 0), .inr (9, [.int (Bv 0), .int (Bv 1), .int (Bv 2), .int (Bv 3), .int (Bv 4), .int (Bv 5), .ref (Ba 1), .ref (Ba 2), .ref (Ba 3), .ref (Ba 4), .ref (Ba 5), .ref (Ba 6), .ref (Ba 7), .ref (Ba 8)])), ((Ba 1), .inl (tc 0, 10, .inl (Bf 1))), ((Ba 2), .inl (tc 0, 10, .inl (Bf 2))), ((Ba 3), .inl (tc 0, 6, .inl (Bf 3))), ((Ba 4), .inl (tc 0, 6, .inl (Bf 4))), ((Ba 5), .inl (tc 0, 6, .inl (Bf 5))), ((Ba 6), .inl (tc 0, 6, .inl (Bf 6))), ((Ba 7), .inl (tc 0, 6, .inl (Bf 7))), ((Ba 8), .inl (tc 0, 6, .inl (Bf 8)))] := hD₀
  replace hS := hS₀
  clear hP₀ hD₀ hS₀
  refine lv_aload_n hx hb dX9_copyFrom_123 rfl (lv_at hl 1 rfl) ?_
  refine gf_X9_46 hx hb hts hown hK hP 9 rfl rfl dX9_copyFrom_124 ?_
  refine lv_iconst (v := 0) hx hb dX9_copyFrom_127 (by decide) ?_
  refine lv_aload_n hx hb dX9_copyFrom_128 rfl (lv_at hl 0 rfl) ?_
  refine gf_X9_46 hx hb hts hown hK hP 0 rfl rfl dX9_copyFrom_129 ?_
  refine lv_iconst (v := 0) hx hb dX9_copyFrom_132 (by decide) ?_
  refine lv_bipush (v := 6) hx hb dX9_copyFrom_133 (by decide) ?_
  refine cp_int hx hb (hml.trans hl.1.symm) hown (hts _ k_600) (hts _ k_602) (hts _ k_601) (hts _ k_111) hK hP hD hS 15 6 0 0 rfl rfl rfl rfl (by decide) (by decide) (by decide) (by decide) (by decide) (Nat.le_of_ble_eq_true rfl) (Nat.le_of_ble_eq_true rfl) dX9_copyFrom_135 (fun g_6 H locs eg_6 hP₀ hD₀ hS₀ => ?_)
  replace hP : va_P D classes [((Aa 0), .inr (9, [.int (Bv 0), .int (Bv 1), .int (Bv 2), .int (Bv 3), .int (Bv 4), .int (Bv 5), .ref (Aa 1), .ref (Aa 2), .ref (Aa 3), .ref (Aa 4), .ref (Aa 5), .ref (Aa 6), .ref (Aa 7), .ref (Aa 8)])), ((Aa 1), .inl (tc 0, 10, .inl g_1)), ((Aa 2), .inl (tc 0, 10, .inl g_2)), ((Aa 3), .inl (tc 0, 6, .inl g_3)), ((Aa 4), .inl (tc 0, 6, .inl g_4)), ((Aa 5), .inl (tc 0, 6, .inl g_5)), ((Aa 6), .inl (tc 0, 6, .inl g_6)), ((Aa 7), .inl (tc 0, 6, .inl (Af 7))), ((Aa 8), .inl (tc 0, 6, .inl (Af 8))), ((Ba 0), .inr (9, [.int (Bv 0), .int (Bv 1), .int (Bv 2), .int (Bv 3), .int (Bv 4), .int (Bv 5), .ref (Ba 1), .ref (Ba 2), .ref (Ba 3), .ref (Ba 4), .ref (Ba 5), .ref (Ba 6), .ref (Ba 7), .ref (Ba 8)])), ((Ba 1), .inl (tc 0, 10, .inl (Bf 1))), ((Ba 2), .inl (tc 0, 10, .inl (Bf 2))), ((Ba 3), .inl (tc 0, 6, .inl (Bf 3))), ((Ba 4), .inl (tc 0, 6, .inl (Bf 4))), ((Ba 5), .inl (tc 0, 6, .inl (Bf 5))), ((Ba 6), .inl (tc 0, 6, .inl (Bf 6))), ((Ba 7), .inl (tc 0, 6, .inl (Bf 7))), ((Ba 8), .inl (tc 0, 6, .inl (Bf 8)))] H := hP₀
  replace hD : va_D A [((Aa 0), .inr (9, [.int (Bv 0), .int (Bv 1), .int (Bv 2), .int (Bv 3), .int (Bv 4), .int (Bv 5), .ref (Aa 1), .ref (Aa 2), .ref (Aa 3), .ref (Aa 4), .ref (Aa 5), .ref (Aa 6), .ref (Aa 7), .ref (Aa 8)])), ((Aa 1), .inl (tc 0, 10, .inl g_1)), ((Aa 2), .inl (tc 0, 10, .inl g_2)), ((Aa 3), .inl (tc 0, 6, .inl g_3)), ((Aa 4), .inl (tc 0, 6, .inl g_4)), ((Aa 5), .inl (tc 0, 6, .inl g_5)), ((Aa 6), .inl (tc 0, 6, .inl g_6)), ((Aa 7), .inl (tc 0, 6, .inl (Af 7))), ((Aa 8), .inl (tc 0, 6, .inl (Af 8))), ((Ba 0), .inr (9, [.int (Bv 0), .int (Bv 1), .int (Bv 2), .int (Bv 3), .int (Bv 4), .int (Bv 5), .ref (Ba 1), .ref (Ba 2), .ref (Ba 3), .ref (Ba 4), .ref (Ba 5), .ref (Ba 6), .ref (Ba 7), .ref (Ba 8)])), ((Ba 1), .inl (tc 0, 10, .inl (Bf 1))), ((Ba 2), .inl (tc 0, 10, .inl (Bf 2))), ((Ba 3), .inl (tc 0, 6, .inl (Bf 3))), ((Ba 4), .inl (tc 0, 6, .inl (Bf 4))), ((Ba 5), .inl (tc 0, 6, .inl (Bf 5))), ((Ba 6), .inl (tc 0, 6, .inl (Bf 6))), ((Ba 7), .inl (tc 0, 6, .inl (Bf 7))), ((Ba 8), .inl (tc 0, 6, .inl (Bf 8)))] := hD₀
  replace hS := hS₀
  clear hP₀ hD₀ hS₀
  refine lv_aload_n hx hb dX9_copyFrom_138 rfl (lv_at hl 1 rfl) ?_
  refine gf_X9_49 hx hb hts hown hK hP 9 rfl rfl dX9_copyFrom_139 ?_
  refine lv_iconst (v := 0) hx hb dX9_copyFrom_142 (by decide) ?_
  refine lv_aload_n hx hb dX9_copyFrom_143 rfl (lv_at hl 0 rfl) ?_
  refine gf_X9_49 hx hb hts hown hK hP 0 rfl rfl dX9_copyFrom_144 ?_
  refine lv_iconst (v := 0) hx hb dX9_copyFrom_147 (by decide) ?_
  refine lv_bipush (v := 6) hx hb dX9_copyFrom_148 (by decide) ?_
  refine cp_int hx hb (hml.trans hl.1.symm) hown (hts _ k_600) (hts _ k_602) (hts _ k_601) (hts _ k_111) hK hP hD hS 16 7 0 0 rfl rfl rfl rfl (by decide) (by decide) (by decide) (by decide) (by decide) (Nat.le_of_ble_eq_true rfl) (Nat.le_of_ble_eq_true rfl) dX9_copyFrom_150 (fun g_7 H locs eg_7 hP₀ hD₀ hS₀ => ?_)
  replace hP : va_P D classes [((Aa 0), .inr (9, [.int (Bv 0), .int (Bv 1), .int (Bv 2), .int (Bv 3), .int (Bv 4), .int (Bv 5), .ref (Aa 1), .ref (Aa 2), .ref (Aa 3), .ref (Aa 4), .ref (Aa 5), .ref (Aa 6), .ref (Aa 7), .ref (Aa 8)])), ((Aa 1), .inl (tc 0, 10, .inl g_1)), ((Aa 2), .inl (tc 0, 10, .inl g_2)), ((Aa 3), .inl (tc 0, 6, .inl g_3)), ((Aa 4), .inl (tc 0, 6, .inl g_4)), ((Aa 5), .inl (tc 0, 6, .inl g_5)), ((Aa 6), .inl (tc 0, 6, .inl g_6)), ((Aa 7), .inl (tc 0, 6, .inl g_7)), ((Aa 8), .inl (tc 0, 6, .inl (Af 8))), ((Ba 0), .inr (9, [.int (Bv 0), .int (Bv 1), .int (Bv 2), .int (Bv 3), .int (Bv 4), .int (Bv 5), .ref (Ba 1), .ref (Ba 2), .ref (Ba 3), .ref (Ba 4), .ref (Ba 5), .ref (Ba 6), .ref (Ba 7), .ref (Ba 8)])), ((Ba 1), .inl (tc 0, 10, .inl (Bf 1))), ((Ba 2), .inl (tc 0, 10, .inl (Bf 2))), ((Ba 3), .inl (tc 0, 6, .inl (Bf 3))), ((Ba 4), .inl (tc 0, 6, .inl (Bf 4))), ((Ba 5), .inl (tc 0, 6, .inl (Bf 5))), ((Ba 6), .inl (tc 0, 6, .inl (Bf 6))), ((Ba 7), .inl (tc 0, 6, .inl (Bf 7))), ((Ba 8), .inl (tc 0, 6, .inl (Bf 8)))] H := hP₀
  replace hD : va_D A [((Aa 0), .inr (9, [.int (Bv 0), .int (Bv 1), .int (Bv 2), .int (Bv 3), .int (Bv 4), .int (Bv 5), .ref (Aa 1), .ref (Aa 2), .ref (Aa 3), .ref (Aa 4), .ref (Aa 5), .ref (Aa 6), .ref (Aa 7), .ref (Aa 8)])), ((Aa 1), .inl (tc 0, 10, .inl g_1)), ((Aa 2), .inl (tc 0, 10, .inl g_2)), ((Aa 3), .inl (tc 0, 6, .inl g_3)), ((Aa 4), .inl (tc 0, 6, .inl g_4)), ((Aa 5), .inl (tc 0, 6, .inl g_5)), ((Aa 6), .inl (tc 0, 6, .inl g_6)), ((Aa 7), .inl (tc 0, 6, .inl g_7)), ((Aa 8), .inl (tc 0, 6, .inl (Af 8))), ((Ba 0), .inr (9, [.int (Bv 0), .int (Bv 1), .int (Bv 2), .int (Bv 3), .int (Bv 4), .int (Bv 5), .ref (Ba 1), .ref (Ba 2), .ref (Ba 3), .ref (Ba 4), .ref (Ba 5), .ref (Ba 6), .ref (Ba 7), .ref (Ba 8)])), ((Ba 1), .inl (tc 0, 10, .inl (Bf 1))), ((Ba 2), .inl (tc 0, 10, .inl (Bf 2))), ((Ba 3), .inl (tc 0, 6, .inl (Bf 3))), ((Ba 4), .inl (tc 0, 6, .inl (Bf 4))), ((Ba 5), .inl (tc 0, 6, .inl (Bf 5))), ((Ba 6), .inl (tc 0, 6, .inl (Bf 6))), ((Ba 7), .inl (tc 0, 6, .inl (Bf 7))), ((Ba 8), .inl (tc 0, 6, .inl (Bf 8)))] := hD₀
  replace hS := hS₀
  clear hP₀ hD₀ hS₀
  refine lv_aload_n hx hb dX9_copyFrom_153 rfl (lv_at hl 1 rfl) ?_
  refine gf_X9_52 hx hb hts hown hK hP 9 rfl rfl dX9_copyFrom_154 ?_
  refine lv_iconst (v := 0) hx hb dX9_copyFrom_157 (by decide) ?_
  refine lv_aload_n hx hb dX9_copyFrom_158 rfl (lv_at hl 0 rfl) ?_
  refine gf_X9_52 hx hb hts hown hK hP 0 rfl rfl dX9_copyFrom_159 ?_
  refine lv_iconst (v := 0) hx hb dX9_copyFrom_162 (by decide) ?_
  refine lv_bipush (v := 6) hx hb dX9_copyFrom_163 (by decide) ?_
  refine cp_int hx hb (hml.trans hl.1.symm) hown (hts _ k_600) (hts _ k_602) (hts _ k_601) (hts _ k_111) hK hP hD hS 17 8 0 0 rfl rfl rfl rfl (by decide) (by decide) (by decide) (by decide) (by decide) (Nat.le_of_ble_eq_true rfl) (Nat.le_of_ble_eq_true rfl) dX9_copyFrom_165 (fun g_8 H locs eg_8 hP₀ hD₀ hS₀ => ?_)
  replace hP : va_P D classes [((Aa 0), .inr (9, [.int (Bv 0), .int (Bv 1), .int (Bv 2), .int (Bv 3), .int (Bv 4), .int (Bv 5), .ref (Aa 1), .ref (Aa 2), .ref (Aa 3), .ref (Aa 4), .ref (Aa 5), .ref (Aa 6), .ref (Aa 7), .ref (Aa 8)])), ((Aa 1), .inl (tc 0, 10, .inl g_1)), ((Aa 2), .inl (tc 0, 10, .inl g_2)), ((Aa 3), .inl (tc 0, 6, .inl g_3)), ((Aa 4), .inl (tc 0, 6, .inl g_4)), ((Aa 5), .inl (tc 0, 6, .inl g_5)), ((Aa 6), .inl (tc 0, 6, .inl g_6)), ((Aa 7), .inl (tc 0, 6, .inl g_7)), ((Aa 8), .inl (tc 0, 6, .inl g_8)), ((Ba 0), .inr (9, [.int (Bv 0), .int (Bv 1), .int (Bv 2), .int (Bv 3), .int (Bv 4), .int (Bv 5), .ref (Ba 1), .ref (Ba 2), .ref (Ba 3), .ref (Ba 4), .ref (Ba 5), .ref (Ba 6), .ref (Ba 7), .ref (Ba 8)])), ((Ba 1), .inl (tc 0, 10, .inl (Bf 1))), ((Ba 2), .inl (tc 0, 10, .inl (Bf 2))), ((Ba 3), .inl (tc 0, 6, .inl (Bf 3))), ((Ba 4), .inl (tc 0, 6, .inl (Bf 4))), ((Ba 5), .inl (tc 0, 6, .inl (Bf 5))), ((Ba 6), .inl (tc 0, 6, .inl (Bf 6))), ((Ba 7), .inl (tc 0, 6, .inl (Bf 7))), ((Ba 8), .inl (tc 0, 6, .inl (Bf 8)))] H := hP₀
  replace hD : va_D A [((Aa 0), .inr (9, [.int (Bv 0), .int (Bv 1), .int (Bv 2), .int (Bv 3), .int (Bv 4), .int (Bv 5), .ref (Aa 1), .ref (Aa 2), .ref (Aa 3), .ref (Aa 4), .ref (Aa 5), .ref (Aa 6), .ref (Aa 7), .ref (Aa 8)])), ((Aa 1), .inl (tc 0, 10, .inl g_1)), ((Aa 2), .inl (tc 0, 10, .inl g_2)), ((Aa 3), .inl (tc 0, 6, .inl g_3)), ((Aa 4), .inl (tc 0, 6, .inl g_4)), ((Aa 5), .inl (tc 0, 6, .inl g_5)), ((Aa 6), .inl (tc 0, 6, .inl g_6)), ((Aa 7), .inl (tc 0, 6, .inl g_7)), ((Aa 8), .inl (tc 0, 6, .inl g_8)), ((Ba 0), .inr (9, [.int (Bv 0), .int (Bv 1), .int (Bv 2), .int (Bv 3), .int (Bv 4), .int (Bv 5), .ref (Ba 1), .ref (Ba 2), .ref (Ba 3), .ref (Ba 4), .ref (Ba 5), .ref (Ba 6), .ref (Ba 7), .ref (Ba 8)])), ((Ba 1), .inl (tc 0, 10, .inl (Bf 1))), ((Ba 2), .inl (tc 0, 10, .inl (Bf 2))), ((Ba 3), .inl (tc 0, 6, .inl (Bf 3))), ((Ba 4), .inl (tc 0, 6, .inl (Bf 4))), ((Ba 5), .inl (tc 0, 6, .inl (Bf 5))), ((Ba 6), .inl (tc 0, 6, .inl (Bf 6))), ((Ba 7), .inl (tc 0, 6, .inl (Bf 7))), ((Ba 8), .inl (tc 0, 6, .inl (Bf 8)))] := hD₀
  replace hS := hS₀
  clear hP₀ hD₀ hS₀
  have hF_9 : (g_1, g_2, g_3, g_4, g_5, g_6, g_7, g_8) = (dX9_copyFrom (Af 1) (Af 2) (Af 3) (Af 4) (Af 5) (Af 6) (Af 7) (Af 8) (Bf 1) (Bf 2) (Bf 3) (Bf 4) (Bf 5) (Bf 6) (Bf 7) (Bf 8)) := by
    clear hP hD hS hl
    replace eg_1 := eg_1.symm; subst eg_1
    replace eg_2 := eg_2.symm; subst eg_2
    replace eg_3 := eg_3.symm; subst eg_3
    replace eg_4 := eg_4.symm; subst eg_4
    replace eg_5 := eg_5.symm; subst eg_5
    replace eg_6 := eg_6.symm; subst eg_6
    replace eg_7 := eg_7.symm; subst eg_7
    replace eg_8 := eg_8.symm; subst eg_8
    unfold dX9_copyFrom
    try rfl
  exact retV hx hb hr hlk hP hD hS (g_1, g_2, g_3, g_4, g_5, g_6, g_7, g_8) ⟨rfl, hF_9⟩ [0, 1, 2, 3, 4, 5, 6, 7, 8, 9, 10, 11, 12, 13, 14, 15, 16, 17] rfl rfl dX9_copyFrom_168 (Nat.le_of_ble_eq_true rfl) (Nat.le_of_ble_eq_true rfl) rfl
set_option maxRecDepth 100000 in
theorem cu_dX9_copyFrom (l : Launch) (D : va_G) (tc : Nat → ClassId) (sk : (Nat → Nat) × (Nat → Nat)) (Aa_0 : Nat) (Aa_1 : Nat) (Aa_2 : Nat) (Aa_3 : Nat) (Aa_4 : Nat) (Aa_5 : Nat) (Aa_6 : Nat) (Aa_7 : Nat) (Aa_8 : Nat) (Av_0 : Int32) (Av_1 : Int32) (Av_2 : Int32) (Av_3 : Int32) (Av_4 : Int32) (Av_5 : Int32) (Af_1 : Nat → Int32) (Af_2 : Nat → Int32) (Af_3 : Nat → Int32) (Af_4 : Nat → Int32) (Af_5 : Nat → Int32) (Af_6 : Nat → Int32) (Af_7 : Nat → Int32) (Af_8 : Nat → Int32) (Ba_0 : Nat) (Ba_1 : Nat) (Ba_2 : Nat) (Ba_3 : Nat) (Ba_4 : Nat) (Ba_5 : Nat) (Ba_6 : Nat) (Ba_7 : Nat) (Ba_8 : Nat) (Bv_0 : Int32) (Bv_1 : Int32) (Bv_2 : Int32) (Bv_3 : Int32) (Bv_4 : Int32) (Bv_5 : Int32) (Bf_1 : Nat → Int32) (Bf_2 : Nat → Int32) (Bf_3 : Nat → Int32) (Bf_4 : Nat → Int32) (Bf_5 : Nat → Int32) (Bf_6 : Nat → Int32) (Bf_7 : Nat → Int32) (Bf_8 : Nat → Int32)  : Ct l yX9_copyFrom cX9_copyFrom 2 none { frames := 1, cells := 0, slots := 0, locals := 40 } D tc sk [.ref Aa_0, .ref Ba_0] [(Aa_0, .inr (9, [.int Av_0, .int Av_1, .int Av_2, .int Av_3, .int Av_4, .int Av_5, .ref Aa_1, .ref Aa_2, .ref Aa_3, .ref Aa_4, .ref Aa_5, .ref Aa_6, .ref Aa_7, .ref Aa_8])), (Aa_1, .inl (tc 0, 10, .inl Af_1)), (Aa_2, .inl (tc 0, 10, .inl Af_2)), (Aa_3, .inl (tc 0, 6, .inl Af_3)), (Aa_4, .inl (tc 0, 6, .inl Af_4)), (Aa_5, .inl (tc 0, 6, .inl Af_5)), (Aa_6, .inl (tc 0, 6, .inl Af_6)), (Aa_7, .inl (tc 0, 6, .inl Af_7)), (Aa_8, .inl (tc 0, 6, .inl Af_8)), (Ba_0, .inr (9, [.int Bv_0, .int Bv_1, .int Bv_2, .int Bv_3, .int Bv_4, .int Bv_5, .ref Ba_1, .ref Ba_2, .ref Ba_3, .ref Ba_4, .ref Ba_5, .ref Ba_6, .ref Ba_7, .ref Ba_8])), (Ba_1, .inl (tc 0, 10, .inl Bf_1)), (Ba_2, .inl (tc 0, 10, .inl Bf_2)), (Ba_3, .inl (tc 0, 6, .inl Bf_3)), (Ba_4, .inl (tc 0, 6, .inl Bf_4)), (Ba_5, .inl (tc 0, 6, .inl Bf_5)), (Ba_6, .inl (tc 0, 6, .inl Bf_6)), (Ba_7, .inl (tc 0, 6, .inl Bf_7)), (Ba_8, .inl (tc 0, 6, .inl Bf_8))] (fun (v : Option Value) (u : (Nat → Int32) × (Nat → Int32) × (Nat → Int32) × (Nat → Int32) × (Nat → Int32) × (Nat → Int32) × (Nat → Int32) × (Nat → Int32)) => match u with | (oo0x1, oo0x2, oo0x3, oo0x4, oo0x5, oo0x6, oo0x7, oo0x8) => v = none ∧ (DEq ((oo0x1, oo0x2, oo0x3, oo0x4, oo0x5, oo0x6, oo0x7, oo0x8)) (dX9_copyFrom Af_1 Af_2 Af_3 Af_4 Af_5 Af_6 Af_7 Af_8 Bf_1 Bf_2 Bf_3 Bf_4 Bf_5 Bf_6 Bf_7 Bf_8))) (fun (u : (Nat → Int32) × (Nat → Int32) × (Nat → Int32) × (Nat → Int32) × (Nat → Int32) × (Nat → Int32) × (Nat → Int32) × (Nat → Int32)) => match u with | (oo0x1, oo0x2, oo0x3, oo0x4, oo0x5, oo0x6, oo0x7, oo0x8) => [(Aa_0, .inr (9, [.int Bv_0, .int Bv_1, .int Bv_2, .int Bv_3, .int Bv_4, .int Bv_5, .ref Aa_1, .ref Aa_2, .ref Aa_3, .ref Aa_4, .ref Aa_5, .ref Aa_6, .ref Aa_7, .ref Aa_8])), (Aa_1, .inl (tc 0, 10, .inl oo0x1)), (Aa_2, .inl (tc 0, 10, .inl oo0x2)), (Aa_3, .inl (tc 0, 6, .inl oo0x3)), (Aa_4, .inl (tc 0, 6, .inl oo0x4)), (Aa_5, .inl (tc 0, 6, .inl oo0x5)), (Aa_6, .inl (tc 0, 6, .inl oo0x6)), (Aa_7, .inl (tc 0, 6, .inl oo0x7)), (Aa_8, .inl (tc 0, 6, .inl oo0x8)), (Ba_0, .inr (9, [.int Bv_0, .int Bv_1, .int Bv_2, .int Bv_3, .int Bv_4, .int Bv_5, .ref Ba_1, .ref Ba_2, .ref Ba_3, .ref Ba_4, .ref Ba_5, .ref Ba_6, .ref Ba_7, .ref Ba_8])), (Ba_1, .inl (tc 0, 10, .inl Bf_1)), (Ba_2, .inl (tc 0, 10, .inl Bf_2)), (Ba_3, .inl (tc 0, 6, .inl Bf_3)), (Ba_4, .inl (tc 0, 6, .inl Bf_4)), (Ba_5, .inl (tc 0, 6, .inl Bf_5)), (Ba_6, .inl (tc 0, 6, .inl Bf_6)), (Ba_7, .inl (tc 0, 6, .inl Bf_7)), (Ba_8, .inl (tc 0, 6, .inl Bf_8))]) 0 0 :=
  ct_dX9_copyFrom l D tc sk (fun k => ([Aa_0, Aa_1, Aa_2, Aa_3, Aa_4, Aa_5, Aa_6, Aa_7, Aa_8] : List (Nat)).getD k 0) (fun k => ([Av_0, Av_1, Av_2, Av_3, Av_4, Av_5] : List (Int32)).getD k 0) (fun k => ([(fun _ => 0), Af_1, Af_2, Af_3, Af_4, Af_5, Af_6, Af_7, Af_8] : List (Nat → Int32)).getD k (fun _ => 0)) (fun k => ([Ba_0, Ba_1, Ba_2, Ba_3, Ba_4, Ba_5, Ba_6, Ba_7, Ba_8] : List (Nat)).getD k 0) (fun k => ([Bv_0, Bv_1, Bv_2, Bv_3, Bv_4, Bv_5] : List (Int32)).getD k 0) (fun k => ([(fun _ => 0), Bf_1, Bf_2, Bf_3, Bf_4, Bf_5, Bf_6, Bf_7, Bf_8] : List (Nat → Int32)).getD k (fun _ => 0)) 
