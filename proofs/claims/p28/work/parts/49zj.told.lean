theorem upd_lit {f g : Nat → Int32} {i j : Nat} {x : Int32} (e : g = upd f i x) (h : j = i) : (g j).toInt = x.toInt := by rw [e, h, upd_at]
def NtO (f g : Nat → Int32) : Prop := SaiO g 999 ∧ ∀ k : Nat, k < 95 → g k = f k
theorem NtO.rf {T f : Nat → Int32} (h : SaidD T f 999) : NtO f f := ⟨h.o, fun _ _ => rfl⟩
theorem NtO.ar {f g : Nat → Int32} (h : NtO f g) : (g 3).toInt = (f 3).toInt ∧ 0 ≤ (g 125).toInt ∧ (g 125).toInt ≤ 10 := ⟨by rw [h.2 3 (by decide)], h.1.1.1.2.2.2.1, h.1.1.1.2.2.2.2⟩
theorem NtO.up {f g g' : Nat → Int32} {i : Nat} {x : Int32} (h : ∀ k : Nat, k < 95 → g k = f k) (eg : g' = upd g i x) (hi : 95 ≤ i) : ∀ k : Nat, k < 95 → g' k = f k := fun k hk => by
  rw [eg, upd_ne (by omega)]
  exact h k hk
theorem NtO.note1 {f g g' : Nat → Int32} {i x : Int32} (h : NtO f g) (eg : g' = upd g i.toNatClampNeg x) (hi : 95 ≤ i.toInt ∧ i.toInt < 125) (hx : 0 ≤ x.toInt ∧ x.toInt ≤ 60) : NtO f g' :=
  ⟨h.1.note1 eg hi hx, NtO.up h.2 eg (by show 95 ≤ i.toInt.toNat; omega)⟩
theorem NtO.note2 {f g g' : Nat → Int32} {i x : Int32} (h : NtO f g) (eg : g' = upd g i.toNatClampNeg x) (hi : 95 ≤ i.toInt ∧ i.toInt < 125 ∧ i.toInt % 3 ≠ 2) : NtO f g' :=
  ⟨h.1.note2 eg hi, NtO.up h.2 eg (by show 95 ≤ i.toInt.toNat; omega)⟩
theorem NtO.many {f g g' : Nat → Int32} {i : Nat} {x : Int32} (h : NtO f g) (eg : g' = upd g i x) (hi : i = 125) (hx : 0 ≤ x.toInt ∧ x.toInt ≤ 10) : NtO f g' :=
  ⟨h.1.many eg hi hx, NtO.up h.2 eg (by omega)⟩
def NoP (x1 x2 x3 nb n r n' : Int32) : Prop := (x1.toInt = -1 ∧ r.toInt = 0 ∧ n'.toInt = 0) ∨ (¬ x1.toInt = -1 ∧ (x1.toInt < 0 ∨ 60 < x1.toInt ∨ x2.toInt < 0 ∨ nb.toInt ≤ x2.toInt ∨ x3.toInt < 0 ∨ 1 < x3.toInt ∨ n.toInt < 0 ∨ 10 ≤ n.toInt) ∧ r.toInt = -2 ∧ n'.toInt = n.toInt) ∨ (0 ≤ x1.toInt ∧ x1.toInt ≤ 60 ∧ 0 ≤ x2.toInt ∧ x2.toInt < nb.toInt ∧ 0 ≤ x3.toInt ∧ x3.toInt ≤ 1 ∧ 0 ≤ n.toInt ∧ n.toInt < 10 ∧ r.toInt = n.toInt + 1 ∧ n'.toInt = n.toInt + 1)
theorem NoP.eq {x1 x2 x3 nb n r1 r2 n1 n2 : Int32} (h1 : NoP x1 x2 x3 nb n r1 n1) (h2 : NoP x1 x2 x3 nb n r2 n2) : r1 = r2 ∧ n1 = n2 := by
  unfold NoP at h1 h2
  exact ⟨Int32.toInt_inj.mp (by omega), Int32.toInt_inj.mp (by omega)⟩
def BkX (B : Nat → Int) (r a n a' n' : Int32) : Prop := (∃ d : Int32, pz_bookR B = .error d.toInt ∧ r = -2 - d ∧ a' = a ∧ n' = n) ∨ ∃ u, pz_bookR B = .ok u ∧ r.toInt = u.2.2 ∧ a' = r ∧ n' = 0
theorem BkX.eq {B : Nat → Int} {r s a n a1 n1 a2 n2 : Int32} (h : BkX B r a n a1 n1) (h2 : BkX B s a n a2 n2) : r = s ∧ a1 = a2 ∧ n1 = n2 := by
  rcases h with ⟨d, e1, e2, e3, e4⟩ | ⟨u, e1, e2, e3, e4⟩ <;> rcases h2 with ⟨d', f1, f2, f3, f4⟩ | ⟨u', f1, f2, f3, f4⟩
  · rw [e1] at f1
    have hd : d = d' := Int32.toInt_inj.mp (Except.error.inj f1)
    exact ⟨by rw [e2, f2, hd], e3.trans f3.symm, e4.trans f4.symm⟩
  · rw [e1] at f1; cases f1
  · rw [e1] at f1; cases f1
  · rw [e1] at f1
    have hu : u = u' := Except.ok.inj f1
    have hr : r = s := Int32.toInt_inj.mp (by rw [e2, f2, hu])
    exact ⟨hr, by rw [e3, f3, hr], e4.trans f4.symm⟩
theorem BkX.bad {B : Nat → Int} {wr bn r a n : Int32} (h : BkR B wr bn) (hw : ¬ wr.toInt = 0) (hr : r = -2 - wr) : BkX B r a n a n := Or.inl ⟨wr, h.er hw, hr, rfl, rfl⟩
theorem BkX.good {B : Nat → Int} {wr bn r a n a' n' : Int32} (h : BkR B wr bn) (hw : wr.toInt = 0) (hr : r.toInt = bn.toInt) (ha : a'.toInt = r.toInt) (hn : n'.toInt = 0) : BkX B r a n a' n' := by
  obtain ⟨u, e1, e2⟩ := h.ok hw
  exact Or.inr ⟨u, e1, by rw [hr, e2], Int32.toInt_inj.mp ha, Int32.toInt_inj.mp (hn.trans (by decide))⟩
def ImX (g0 g f : Nat → Int32) (k : Int32) : Prop := (∀ j m : Nat, j < 4 → (j : Int) ≠ k.toInt → m < 126 → g (126 * j + m) = g0 (126 * j + m)) ∧ ∀ m : Nat, m < 126 → g (126 * k.toInt.toNat + m) = f m
def ImG (g0 g f : Nat → Int32) (k i : Int32) : Prop := (∀ j m : Nat, j < 4 → (j : Int) ≠ k.toInt → m < 126 → g (126 * j + m) = g0 (126 * j + m)) ∧ ∀ m : Nat, (m : Int) < i.toInt → g (126 * k.toInt.toNat + m) = f m
theorem ImG.start {g f : Nat → Int32} {k i : Int32} (hi : i.toInt = 0) : ImG g g f k i := ⟨fun _ _ _ _ _ => rfl, fun m hm => by omega⟩
theorem ImG.step {g0 g g' f : Nat → Int32} {k i i' j x : Int32} (h : ImG g0 g f k i) (eg : g' = upd g j.toNatClampNeg x) (ex : x = f i.toNatClampNeg) (hj : j.toInt = 126 * k.toInt + i.toInt) (hi : 0 ≤ i.toInt ∧ i.toInt < 126) (hi' : i'.toInt = i.toInt + 1) (hk : 0 ≤ k.toInt ∧ k.toInt < 4) : ImG g0 g' f k i' := by
  subst eg
  have e : j.toNatClampNeg = j.toInt.toNat := rfl
  refine ⟨fun q m hq hne hm => ?_, fun m hm => ?_⟩
  · rw [upd_ne (by omega)]
    exact h.1 q m hq hne hm
  · by_cases z : (m : Int) = i.toInt
    · have e3 : 126 * k.toInt.toNat + m = j.toNatClampNeg := by omega
      rw [e3, upd_at, ex, clN (n := m) z.symm]
    · rw [upd_ne (by omega)]
      exact h.2 m (by omega)
theorem ImG.x {g0 g f : Nat → Int32} {k i : Int32} (h : ImG g0 g f k i) (hi : 126 ≤ i.toInt) : ImX g0 g f k := ⟨h.1, fun m hm => h.2 m (by omega)⟩
theorem ImG.done {g0 g f : Nat → Int32} {k i : Int32} (h : ImG g0 g f k i) (h0 : ImgD g0) (hf : SaiO f 999) (hi : 126 ≤ i.toInt) : ImgD g := by
  intro j hj
  by_cases z : (j : Int) = k.toInt
  · refine hf.congr (fun m hm => ?_)
    show g (126 * j + m) = f m
    have e : j = k.toInt.toNat := by omega
    rw [e]
    exact h.2 m (by omega)
  · exact (h0 j hj).congr (fun m hm => h.1 j m hj z hm)
def BkC (g f : Nat → Int32) (k : Int32) : Prop := ∀ m : Nat, m < 126 → g m = f (126 * k.toInt.toNat + m)
theorem BkK.c {g f : Nat → Int32} {k i : Int32} (h : BkK g f k i) (hi : 126 ≤ i.toInt) : BkC g f k := fun m hm => h m (by omega)
def Ring (nx sz : Int32) (s : Nat → Int32) (b : Int32) : Prop := ∀ k : Nat, k < 20 → (nx.toInt + 19 - (k : Int)) % 20 < sz.toInt → s k = b
theorem Ring.none {nx sz : Int32} {s : Nat → Int32} {b : Int32} (h : sz.toInt ≤ 0) : Ring nx sz s b := fun k _ hz => by omega
theorem Ring.keep {nx sz nx' sz' b : Int32} {s : Nat → Int32} {j : Nat} {x : Int32} (h : Ring nx sz s b) (hn : 0 ≤ nx.toInt ∧ nx.toInt < 20) (hj : j = nx.toInt.toNat) (h1 : nx'.toInt = (nx.toInt + 1) % 20) (h2 : sz'.toInt ≤ sz.toInt + 1) (h3 : sz'.toInt ≤ 20) (hx : x = b) : Ring nx' sz' (upd s j x) b := fun k hk hz => by
  by_cases z : k = j
  · rw [z, upd_at, hx]
  · rw [upd_ne z]
    exact h k hk (by omega)
theorem Ring.back {nx sz nx' sz' b : Int32} {s : Nat → Int32} (h : Ring nx sz s b) (hn : 0 ≤ nx.toInt ∧ nx.toInt < 20) (hs : sz.toInt ≤ 20) (h1 : nx'.toInt = (nx.toInt + 19) % 20) (h2 : sz'.toInt = sz.toInt - 1) : Ring nx' sz' s b := fun k hk hz => h k hk (by omega)
theorem Ring.at {nx sz b : Int32} {s : Nat → Int32} {j : Nat} (h : Ring nx sz s b) (hn : 0 ≤ nx.toInt ∧ nx.toInt < 20) (hs : 0 < sz.toInt) (hj : j = ((nx.toInt + 19) % 20).toNat) : s j = b := h j (by omega) (by omega)
theorem Ring.same {nx sz nx' sz' b : Int32} {s : Nat → Int32} {j : Nat} {x : Int32} (h : Ring nx sz s b) (h1 : nx'.toInt = nx.toInt) (h2 : sz'.toInt = sz.toInt) (hx : x = s j) : Ring nx' sz' (upd s j x) b := fun k hk hz => by
  by_cases z : k = j
  · rw [z, upd_at, hx, ← z]; exact h k hk (by omega)
  · rw [upd_ne z]; exact h k hk (by omega)
theorem Ring.eqv {nx sz nx' sz' b : Int32} {s : Nat → Int32} (h : Ring nx sz s b) (h1 : nx'.toInt = nx.toInt) (h2 : sz'.toInt = sz.toInt) : Ring nx' sz' s b := fun k hk hz => h k hk (by omega)
