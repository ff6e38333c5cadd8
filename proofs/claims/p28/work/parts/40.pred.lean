theorem upd_ne {f : Nat → Int32} {i j : Nat} {x : Int32} (h : j ≠ i) : upd f i x j = f j := by unfold upd; rw [if_neg h]
theorem upd_at {f : Nat → Int32} {i : Nat} {x : Int32} : upd f i x i = x := by unfold upd; rw [if_pos rfl]
theorem clN {i : Int32} {n : Nat} (h : i.toInt = (n : Int)) : i.toNatClampNeg = n := by
  show i.toInt.toNat = n
  omega
def SaiB (f : Nat → Int32) : Prop := ((((f 0).toInt = 1 ∧ 1 ≤ (f 2).toInt ∧ (f 2).toInt ≤ 10) ∨ ((f 0).toInt = 0 ∧ (f 3).toInt = 0)) ∧ 0 ≤ (f 3).toInt ∧ (f 3).toInt ≤ 6 ∧ 0 ≤ (f 125).toInt ∧ (f 125).toInt ≤ 10) ∧ ∀ k : Nat, k < 10 → 0 ≤ (f (95 + 3 * k)).toInt ∧ (f (95 + 3 * k)).toInt ≤ 60
def SaiO (f : Nat → Int32) (d : Int) : Prop := SaiB f ∧ 0 ≤ (f 10).toInt ∧ (f 10).toInt ≤ d
theorem SaiB.ar {f : Nat → Int32} (h : SaiB f) : (((f 0).toInt = 1 ∧ 1 ≤ (f 2).toInt ∧ (f 2).toInt ≤ 10) ∨ ((f 0).toInt = 0 ∧ (f 3).toInt = 0)) ∧ 0 ≤ (f 3).toInt ∧ (f 3).toInt ≤ 6 ∧ 0 ≤ (f 125).toInt ∧ (f 125).toInt ≤ 10 := h.1
theorem SaiO.ar {f : Nat → Int32} {d : Int} (h : SaiO f d) : ((((f 0).toInt = 1 ∧ 1 ≤ (f 2).toInt ∧ (f 2).toInt ≤ 10) ∨ ((f 0).toInt = 0 ∧ (f 3).toInt = 0)) ∧ 0 ≤ (f 3).toInt ∧ (f 3).toInt ≤ 6 ∧ 0 ≤ (f 125).toInt ∧ (f 125).toInt ≤ 10) ∧ 0 ≤ (f 10).toInt ∧ (f 10).toInt ≤ d := ⟨h.1.1, h.2⟩
theorem SaiB.congr {f g : Nat → Int32} (h : SaiB f) (e : ∀ m, m < 126 → g m = f m) : SaiB g := by
  unfold SaiB at *
  rw [e 0 (by decide), e 2 (by decide), e 3 (by decide), e 125 (by decide)]
  exact ⟨h.1, fun k hk => by rw [e (95 + 3 * k) (by omega)]; exact h.2 k hk⟩
theorem SaiO.congr {f g : Nat → Int32} {d : Int} (h : SaiO f d) (e : ∀ m, m < 126 → g m = f m) : SaiO g d := by
  unfold SaiO at *
  rw [e 10 (by decide)]
  exact ⟨h.1.congr e, h.2⟩
theorem SaiB.keep {f g : Nat → Int32} (h : SaiB f) {i : Nat} {x : Int32} (eg : g = upd f i x) (hi : i = 1 ∨ (4 ≤ i ∧ i < 95)) : SaiB g := by
  subst eg
  unfold SaiB at *
  rw [upd_ne (j := 0) (by omega), upd_ne (j := 2) (by omega), upd_ne (j := 3) (by omega), upd_ne (j := 125) (by omega)]
  exact ⟨h.1, fun k hk => by rw [upd_ne (j := 95 + 3 * k) (by omega)]; exact h.2 k hk⟩
theorem SaiO.keep {f g : Nat → Int32} {d : Int} (h : SaiO f d) {i : Nat} {x : Int32} (eg : g = upd f i x) (hi : i = 1 ∨ (4 ≤ i ∧ i < 10) ∨ (11 ≤ i ∧ i < 95)) : SaiO g d := by
  refine ⟨h.1.keep eg (by omega), ?_⟩
  subst eg
  rw [upd_ne (j := 10) (by omega)]
  exact h.2
theorem SaiB.note {f : Nat → Int32} (h : SaiB f) {i x : Int32} (ex : x = f i.toNatClampNeg) (hi : 95 ≤ i.toInt ∧ i.toInt < 125 ∧ i.toInt % 3 = 2) : 0 ≤ x.toInt ∧ x.toInt ≤ 60 := by
  have e : i.toNatClampNeg = 95 + 3 * ((i.toInt.toNat - 95) / 3) := by
    show i.toInt.toNat = _
    omega
  rw [ex, e]
  exact h.2 _ (by omega)
theorem SaiO.note1 {f g : Nat → Int32} {d : Int} (h : SaiO f d) {i x : Int32} (eg : g = upd f i.toNatClampNeg x) (hi : 95 ≤ i.toInt ∧ i.toInt < 125) (hx : 0 ≤ x.toInt ∧ x.toInt ≤ 60) : SaiO g d := by
  obtain ⟨n, hn⟩ : ∃ n : Nat, i.toNatClampNeg = n := ⟨_, rfl⟩
  have hr : 95 ≤ n ∧ n < 125 := by
    have : i.toNatClampNeg = i.toInt.toNat := rfl
    omega
  rw [hn] at eg
  subst eg
  obtain ⟨⟨h1, h2⟩, h3⟩ := h
  refine ⟨⟨?_, fun k hk => ?_⟩, ?_⟩
  · rw [upd_ne (j := 0) (by omega), upd_ne (j := 2) (by omega), upd_ne (j := 3) (by omega), upd_ne (j := 125) (by omega)]; exact h1
  · by_cases z : 95 + 3 * k = n
    · rw [z, upd_at]; exact hx
    · rw [upd_ne z]; exact h2 k hk
  · rw [upd_ne (j := 10) (by omega)]; exact h3
theorem SaiO.note2 {f g : Nat → Int32} {d : Int} (h : SaiO f d) {i x : Int32} (eg : g = upd f i.toNatClampNeg x) (hi : 95 ≤ i.toInt ∧ i.toInt < 125 ∧ i.toInt % 3 ≠ 2) : SaiO g d := by
  obtain ⟨n, hn⟩ : ∃ n : Nat, i.toNatClampNeg = n := ⟨_, rfl⟩
  have hr : 95 ≤ n ∧ n < 125 ∧ n % 3 ≠ 2 := by
    have : i.toNatClampNeg = i.toInt.toNat := rfl
    omega
  rw [hn] at eg
  subst eg
  obtain ⟨⟨h1, h2⟩, h3⟩ := h
  refine ⟨⟨?_, fun k hk => ?_⟩, ?_⟩
  · rw [upd_ne (j := 0) (by omega), upd_ne (j := 2) (by omega), upd_ne (j := 3) (by omega), upd_ne (j := 125) (by omega)]; exact h1
  · rw [upd_ne (j := 95 + 3 * k) (by omega)]; exact h2 k hk
  · rw [upd_ne (j := 10) (by omega)]; exact h3
theorem SaiO.many {f g : Nat → Int32} {d : Int} (h : SaiO f d) {i : Nat} {x : Int32} (eg : g = upd f i x) (hi : i = 125) (hx : 0 ≤ x.toInt ∧ x.toInt ≤ 10) : SaiO g d := by
  subst hi
  subst eg
  obtain ⟨⟨h1, h2⟩, h3⟩ := h
  refine ⟨⟨?_, fun k hk => ?_⟩, ?_⟩
  · rw [upd_ne (j := 0) (by omega), upd_ne (j := 2) (by omega), upd_ne (j := 3) (by omega), upd_at]; omega
  · rw [upd_ne (j := 95 + 3 * k) (by omega)]; exact h2 k hk
  · rw [upd_ne (j := 10) (by omega)]; exact h3
def SaidB (T f : Nat → Int32) : Prop := SaiB f ∧ ∀ k : Nat, (k < 10 ∨ 62 ≤ k) → f k = T k
def SaidD (T f : Nat → Int32) (d : Int) : Prop := SaidB T f ∧ 0 ≤ (f 10).toInt ∧ (f 10).toInt ≤ d
theorem SaidB.ar {T f : Nat → Int32} (h : SaidB T f) : (((f 0).toInt = 1 ∧ 1 ≤ (f 2).toInt ∧ (f 2).toInt ≤ 10) ∨ ((f 0).toInt = 0 ∧ (f 3).toInt = 0)) ∧ 0 ≤ (f 3).toInt ∧ (f 3).toInt ≤ 6 ∧ 0 ≤ (f 125).toInt ∧ (f 125).toInt ≤ 10 := h.1.1
theorem SaidD.ar {T f : Nat → Int32} {d : Int} (h : SaidD T f d) : ((((f 0).toInt = 1 ∧ 1 ≤ (f 2).toInt ∧ (f 2).toInt ≤ 10) ∨ ((f 0).toInt = 0 ∧ (f 3).toInt = 0)) ∧ 0 ≤ (f 3).toInt ∧ (f 3).toInt ≤ 6 ∧ 0 ≤ (f 125).toInt ∧ (f 125).toInt ≤ 10) ∧ 0 ≤ (f 10).toInt ∧ (f 10).toInt ≤ d := ⟨h.1.1.1, h.2⟩
theorem SaidB.keep {T f g : Nat → Int32} (h : SaidB T f) {i : Nat} {x : Int32} (eg : g = upd f i x) (hi : 10 ≤ i ∧ i < 62) : SaidB T g :=
  ⟨h.1.keep eg (by omega), fun k hk => by rw [eg, upd_ne (by omega)]; exact h.2 k hk⟩
theorem SaidD.keep {T f g : Nat → Int32} {d : Int} (h : SaidD T f d) {i : Nat} {x : Int32} (eg : g = upd f i x) (hi : 11 ≤ i ∧ i < 62) : SaidD T g d := by
  refine ⟨h.1.keep eg (by omega), ?_⟩
  rw [eg, upd_ne (j := 10) (by omega)]
  exact h.2
theorem SaidD.day {T f g : Nat → Int32} {d : Int} (h : SaidB T f) {i : Nat} {x : Int32} (eg : g = upd f i x) (hi : i = 10) (hx : 0 ≤ x.toInt ∧ x.toInt ≤ d) : SaidD T g d := by
  subst hi
  refine ⟨h.keep eg (by omega), ?_⟩
  rw [eg, upd_at]
  exact hx
theorem SaidD.mono {T f : Nat → Int32} {d d' : Int} (h : SaidD T f d) (hd : d ≤ d') : SaidD T f d' := ⟨h.1, h.2.1, Int.le_trans h.2.2 hd⟩
theorem SaidB.note {T f : Nat → Int32} (h : SaidB T f) {i x : Int32} (ex : x = f i.toNatClampNeg) (hi : 95 ≤ i.toInt ∧ i.toInt < 125 ∧ i.toInt % 3 = 2) : 0 ≤ x.toInt ∧ x.toInt ≤ 60 := h.1.note ex hi
theorem SaidD.o {T f : Nat → Int32} {d : Int} (h : SaidD T f d) : SaiO f d := ⟨h.1.1, h.2⟩
theorem SaiB.tt {f : Nat → Int32} (h : SaiB f) : SaidB f f := ⟨h, fun _ _ => rfl⟩
theorem SaiO.tt {f : Nat → Int32} {d : Int} (h : SaiO f d) : SaidD f f d := ⟨⟨h.1, fun _ _ => rfl⟩, h.2⟩
theorem SaidD.at {T f : Nat → Int32} {d : Int} (h : SaidD T f d) {k : Nat} (hk : k < 10 ∨ 62 ≤ k) : f k = T k := h.1.2 k hk
def KeptD (k : Nat → Int32) : Prop := 0 ≤ (k 0).toInt ∧ (k 0).toInt ≤ 999
def KeptK (g : Nat → Int32) (k : Int32) : Prop := 1 ≤ k.toInt → KeptD g
theorem KeptK.step {T g g' f : Nat → Int32} {k k' i x : Int32} (h : KeptK g k) (hf : SaidD T f 999) (eg : g' = upd g k.toNatClampNeg x) (ex : x = f i.toNatClampNeg) (hi : i.toInt = 10 + k.toInt) (hk : 0 ≤ k.toInt) : KeptK g' k' := by
  intro _
  subst eg
  unfold KeptD
  by_cases z : k.toInt = 0
  · rw [clN (n := 0) z, upd_at, ex, clN (i := i) (n := 10) (by omega)]
    exact hf.2
  · have e : k.toNatClampNeg = k.toInt.toNat := rfl
    rw [upd_ne (j := 0) (by omega)]
    exact h (by omega)
def LayK (T g : Nat → Int32) (k : Int32) : Prop := SaidB T g ∧ (1 ≤ k.toInt → 0 ≤ (g 10).toInt ∧ (g 10).toInt ≤ 999)
theorem LayK.step {T g g' f : Nat → Int32} {k k' i x : Int32} (h : LayK T g k) (hx : k.toInt = 0 → 0 ≤ x.toInt ∧ x.toInt ≤ 999) (eg : g' = upd g i.toNatClampNeg x) (hi : i.toInt = 10 + k.toInt) (hk : 0 ≤ k.toInt ∧ k.toInt < 46) : LayK T g' k' := by
  have e : i.toNatClampNeg = i.toInt.toNat := rfl
  refine ⟨h.1.keep eg (by omega), fun _ => ?_⟩
  subst eg
  by_cases z : k.toInt = 0
  · rw [clN (i := i) (n := 10) (by omega), upd_at]
    exact hx z
  · rw [upd_ne (j := 10) (by omega)]
    exact h.2 (by omega)
theorem LayK.done {T g : Nat → Int32} {k : Int32} (h : LayK T g k) (hk : 1 ≤ k.toInt) : SaidD T g 999 := ⟨h.1, h.2 hk⟩
theorem KeptD.x {f : Nat → Int32} {k x : Int32} (h : KeptD f) (ex : x = f k.toNatClampNeg) : k.toInt = 0 → 0 ≤ x.toInt ∧ x.toInt ≤ 999 := fun z => by
  rw [ex, clN (n := 0) z]
  exact h
def WasD (w : Nat → Int32) : Prop := ∀ j : Nat, j < 20 → 0 ≤ (w (46 * j)).toInt ∧ (w (46 * j)).toInt ≤ 999
theorem WasD.x {w : Nat → Int32} {j k u x : Int32} (h : WasD w) (ex : x = w j.toNatClampNeg) (hj : j.toInt = 46 * u.toInt + k.toInt) (hu : 0 ≤ u.toInt ∧ u.toInt < 20) : k.toInt = 0 → 0 ≤ x.toInt ∧ x.toInt ≤ 999 := fun z => by
  have e : j.toNatClampNeg = 46 * u.toInt.toNat := by
    show j.toInt.toNat = _
    omega
  rw [ex, e]
  exact h _ (by omega)
theorem WasD.shift {w g : Nat → Int32} {i k x : Int32} (h : WasD w) (eg : g = upd w i.toNatClampNeg x) (ex : x = w k.toNatClampNeg) (hi : i.toInt = k.toInt - 46) (hk : 46 ≤ k.toInt ∧ k.toInt < 920) : WasD g := by
  intro j hj
  subst eg
  have e : i.toNatClampNeg = i.toInt.toNat := rfl
  by_cases z : 46 * j = i.toNatClampNeg
  · rw [z, upd_at, ex]
    have e2 : k.toNatClampNeg = 46 * (j + 1) := by
      show k.toInt.toNat = _
      omega
    rw [e2]
    exact h _ (by omega)
  · rw [upd_ne z]
    exact h j hj
theorem WasD.put {T w g f : Nat → Int32} {i k u j x : Int32} (h : WasD w) (hf : SaidD T f 999) (eg : g = upd w i.toNatClampNeg x) (ex : x = f j.toNatClampNeg) (hi : i.toInt = 46 * u.toInt + k.toInt) (hj : j.toInt = 10 + k.toInt) (hk : 0 ≤ k.toInt ∧ k.toInt < 46) (hu : 0 ≤ u.toInt ∧ u.toInt < 20) : WasD g := by
  intro q hq
  subst eg
  have e : i.toNatClampNeg = i.toInt.toNat := rfl
  by_cases z : 46 * q = i.toNatClampNeg
  · rw [z, upd_at, ex, clN (i := j) (n := 10) (by omega)]
    exact hf.2
  · rw [upd_ne z]
    exact h q hq
def ImgD (g : Nat → Int32) : Prop := ∀ j : Nat, j < 4 → SaiO (fun m => g (126 * j + m)) 999
def ImK (g f : Nat → Int32) (k i : Int32) : Prop := (∀ j : Nat, j < 4 → (j : Int) ≠ k.toInt → SaiO (fun m => g (126 * j + m)) 999) ∧ ∀ m : Nat, (m : Int) < i.toInt → g (126 * k.toInt.toNat + m) = f m
theorem ImK.step {g g' f : Nat → Int32} {k i i' j x : Int32} (h : ImK g f k i) (eg : g' = upd g j.toNatClampNeg x) (ex : x = f i.toNatClampNeg) (hj : j.toInt = 126 * k.toInt + i.toInt) (hi : 0 ≤ i.toInt ∧ i.toInt < 126) (hi' : i'.toInt = i.toInt + 1) (hk : 0 ≤ k.toInt ∧ k.toInt < 4) : ImK g' f k i' := by
  subst eg
  have e : j.toNatClampNeg = j.toInt.toNat := rfl
  refine ⟨fun q hq hne => (h.1 q hq hne).congr (fun m hm => ?_), fun m hm => ?_⟩
  · show upd g j.toNatClampNeg x (126 * q + m) = g (126 * q + m)
    rw [upd_ne (by omega)]
  · by_cases z : (m : Int) = i.toInt
    · have e3 : 126 * k.toInt.toNat + m = j.toNatClampNeg := by omega
      rw [e3, upd_at, ex, clN (n := m) z.symm]
    · rw [upd_ne (by omega)]
      exact h.2 m (by omega)
def BkK (g f : Nat → Int32) (k i : Int32) : Prop := ∀ m : Nat, (m : Int) < i.toInt → g m = f (126 * k.toInt.toNat + m)
theorem BkK.start {g f : Nat → Int32} {k i : Int32} (hi : i.toInt = 0) : BkK g f k i := fun m hm => by omega
theorem BkK.step {g g' f : Nat → Int32} {k i i' j x : Int32} (h : BkK g f k i) (eg : g' = upd g i.toNatClampNeg x) (ex : x = f j.toNatClampNeg) (hj : j.toInt = 126 * k.toInt + i.toInt) (hi : 0 ≤ i.toInt ∧ i.toInt < 126) (hi' : i'.toInt = i.toInt + 1) (hk : 0 ≤ k.toInt ∧ k.toInt < 4) : BkK g' f k i' := by
  subst eg
  intro m hm
  have e : i.toNatClampNeg = i.toInt.toNat := rfl
  by_cases z : (m : Int) = i.toInt
  · have e2 : m = i.toNatClampNeg := by omega
    have e3 : j.toNatClampNeg = 126 * k.toInt.toNat + m := by
      show j.toInt.toNat = _
      omega
    rw [← e3, e2, upd_at, ex]
  · rw [upd_ne (by omega)]
    exact h m (by omega)
theorem BkK.done {g f : Nat → Int32} {k i : Int32} (h : BkK g f k i) (hf : ImgD f) (hi : 126 ≤ i.toInt) (hk : 0 ≤ k.toInt ∧ k.toInt < 4) : SaiO g 999 :=
  (hf k.toInt.toNat (by omega)).congr (fun m hm => h m (by omega))
def FrcD (fr md : Nat → Int32) (n : Int32) : Prop := ∀ k : Nat, k < 4 → (md k).toInt ≠ 0 → -1 ≤ (fr k).toInt ∧ (fr k).toInt < n.toInt
theorem FrcD.put {fr md fr' md' : Nat → Int32} {n k x y : Int32} (h : FrcD fr md n) (e1 : md' = upd md k.toNatClampNeg y) (e2 : fr' = upd fr k.toNatClampNeg x) (hx : -1 ≤ x.toInt ∧ x.toInt < n.toInt) : FrcD fr' md' n := by
  subst e1 e2
  intro j hj hm
  by_cases z : j = k.toNatClampNeg
  · rw [z, upd_at]; exact hx
  · rw [upd_ne z] at hm ⊢
    exact h j hj hm
theorem FrcD.x {fr md : Nat → Int32} {n k x y : Int32} (h : FrcD fr md n) (ey : y = md k.toNatClampNeg) (hy : ¬ y.toInt = 0) (ex : x = fr k.toNatClampNeg) (hk : 0 ≤ k.toInt ∧ k.toInt < 4) : -1 ≤ x.toInt ∧ x.toInt < n.toInt := by
  have e : k.toNatClampNeg = k.toInt.toNat := rfl
  rw [ex]
  exact h _ (by omega) (by rw [← ey]; exact hy)
def stp (e : Int32) (d : Nat) : Option Nat :=
  if (e &&& 15).toInt = 0 then (if d < 60 then some (d + 1) else none)
  else if (e &&& 15).toInt = 1 then (if d < 60 ∧ 0 ≤ (e >>> (4 &&& 31)).toInt ∧ (e >>> (4 &&& 31)).toInt ≤ 12 then some (d + 1) else none)
  else if (e &&& 15).toInt = 11 then (if 1 ≤ d then some d else none)
  else (if 2 ≤ d then some (d - 1) else none)
def dep (f : Nat → Int32) : Nat → Nat → Nat → Option Nat
  | 0, _, d => some d
  | n + 1, a, d => (stp (f a) d).bind (fun e => dep f n (a + 1) e)
theorem stp_le {e : Int32} {d d' : Nat} (h : stp e d = some d') (hd : d ≤ 60) : d' ≤ 60 := by
  unfold stp at h
  split at h
  · split at h
    · cases h; omega
    · cases h
  · split at h
    · split at h
      · cases h; omega
      · cases h
    · split at h
      · split at h
        · cases h; omega
        · cases h
      · split at h
        · cases h; omega
        · cases h
def WFc (f : Nat → Int32) (t b e : Int32) : Prop := (0 ≤ b.toInt ∧ b.toInt ≤ e.toInt ∧ e.toInt ≤ 400) ∧ dep f (e.toInt.toNat - b.toInt.toNat) (400 * t.toInt.toNat + b.toInt.toNat) 0 = some 1
def RK (f : Nat → Int32) (t i e top : Int32) : Prop := (0 ≤ i.toInt ∧ i.toInt ≤ e.toInt ∧ e.toInt ≤ 400 ∧ 0 ≤ top.toInt ∧ top.toInt ≤ 60) ∧ dep f (e.toInt.toNat - i.toInt.toNat) (400 * t.toInt.toNat + i.toInt.toNat) top.toInt.toNat = some 1
theorem RK.ar {f : Nat → Int32} {t i e top : Int32} (h : RK f t i e top) : 0 ≤ i.toInt ∧ i.toInt ≤ e.toInt ∧ e.toInt ≤ 400 ∧ 0 ≤ top.toInt ∧ top.toInt ≤ 60 ∧ (i.toInt = e.toInt → top.toInt = 1) := by
  obtain ⟨h1, h2⟩ := h
  refine ⟨h1.1, h1.2.1, h1.2.2.1, h1.2.2.2.1, h1.2.2.2.2, fun z => ?_⟩
  have e0 : e.toInt.toNat - i.toInt.toNat = 0 := by omega
  rw [e0] at h2
  have := Option.some.inj h2
  omega
theorem RK.start {f : Nat → Int32} {t b e top : Int32} (h : WFc f t b e) (ht : top.toInt = 0) : RK f t b e top := by
  refine ⟨⟨h.1.1, h.1.2.1, h.1.2.2, by omega, by omega⟩, ?_⟩
  rw [ht]
  exact h.2
theorem RK.step {f : Nat → Int32} {t i e top : Int32} (h : RK f t i e top) (hlt : i.toInt < e.toInt) (ht : 0 ≤ t.toInt) {j x : Int32} (hj : j.toInt = 400 * t.toInt + i.toInt) (ex : x = f j.toNatClampNeg) : ∃ d' : Nat, stp x top.toInt.toNat = some d' ∧ dep f (e.toInt.toNat - (i.toInt.toNat + 1)) (400 * t.toInt.toNat + (i.toInt.toNat + 1)) d' = some 1 := by
  obtain ⟨h1, h2⟩ := h
  have e0 : e.toInt.toNat - i.toInt.toNat = (e.toInt.toNat - (i.toInt.toNat + 1)) + 1 := by omega
  rw [e0] at h2
  have e1 : j.toNatClampNeg = 400 * t.toInt.toNat + i.toInt.toNat := by
    show j.toInt.toNat = _
    omega
  rw [e1] at ex
  unfold dep at h2
  rw [← ex] at h2
  cases hs : stp x top.toInt.toNat with
  | none => rw [hs] at h2; cases h2
  | some d' => rw [hs] at h2; exact ⟨d', rfl, h2⟩
theorem RK.cases {f : Nat → Int32} {t i e top : Int32} (h : RK f t i e top) (hlt : i.toInt < e.toInt) (ht : 0 ≤ t.toInt) {j x : Int32} (hj : j.toInt = 400 * t.toInt + i.toInt) (ex : x = f j.toNatClampNeg) : ((x &&& 15).toInt = 0 ∧ top.toInt < 60) ∨ ((x &&& 15).toInt = 1 ∧ top.toInt < 60 ∧ 0 ≤ (x >>> (4 &&& 31)).toInt ∧ (x >>> (4 &&& 31)).toInt ≤ 12) ∨ ((x &&& 15).toInt = 11 ∧ 1 ≤ top.toInt) ∨ ((x &&& 15).toInt ≠ 0 ∧ (x &&& 15).toInt ≠ 1 ∧ (x &&& 15).toInt ≠ 11 ∧ 2 ≤ top.toInt) := by
  obtain ⟨d', hs, -⟩ := h.step hlt ht hj ex
  have h0 := h.1
  unfold stp at hs
  split at hs
  · split at hs
    · left; omega
    · cases hs
  · split at hs
    · split at hs
      · right; left; omega
      · cases hs
    · split at hs
      · split at hs
        · right; right; left; omega
        · cases hs
      · split at hs
        · right; right; right; omega
        · cases hs
theorem RK.next {f : Nat → Int32} {t i e top i' top' : Int32} (h : RK f t i e top) (hlt : i.toInt < e.toInt) (ht : 0 ≤ t.toInt) {j x : Int32} (hj : j.toInt = 400 * t.toInt + i.toInt) (ex : x = f j.toNatClampNeg) (hi : i'.toInt = i.toInt + 1)
    (hc : (((x &&& 15).toInt = 0 ∨ (x &&& 15).toInt = 1) ∧ top'.toInt = top.toInt + 1) ∨ ((x &&& 15).toInt = 11 ∧ top'.toInt = top.toInt) ∨ ((x &&& 15).toInt ≠ 0 ∧ (x &&& 15).toInt ≠ 1 ∧ (x &&& 15).toInt ≠ 11 ∧ top'.toInt = top.toInt - 1)) : RK f t i' e top' := by
  obtain ⟨d', hs, hd⟩ := h.step hlt ht hj ex
  have h0 := h.1
  have hle : d' ≤ 60 := stp_le hs (by omega)
  have ed : top'.toInt = (d' : Int) := by
    unfold stp at hs
    split at hs
    · split at hs
      · cases hs; omega
      · cases hs
    · split at hs
      · split at hs
        · cases hs; omega
        · cases hs
      · split at hs
        · split at hs
          · cases hs; omega
          · cases hs
        · split at hs
          · cases hs; omega
          · cases hs
  refine ⟨by omega, ?_⟩
  have e1 : i'.toInt.toNat = i.toInt.toNat + 1 := by omega
  have e2 : top'.toInt.toNat = d' := by omega
  rw [e1, e2]
  exact hd
def RulD (sg cl cs : Nat → Int32) (n : Int32) : Prop := ∀ t : Nat, (t : Int) < n.toInt → (cs t).toInt ≤ 12 ∧ ∀ c : Nat, (c : Int) < (cs t).toInt → ∀ T : Int32, T.toInt = (t : Int) → WFc sg T (cl (48 * t + 4 * c)) (cl (48 * t + 4 * c + 1)) ∧ (0 ≤ (cl (48 * t + 4 * c + 2)).toInt → WFc sg T (cl (48 * t + 4 * c + 2)) (cl (48 * t + 4 * c + 3)))
theorem RulD.le {sg cl cs : Nat → Int32} {n t x : Int32} (h : RulD sg cl cs n) (ht : 0 ≤ t.toInt ∧ t.toInt < n.toInt) (ex : x = cs t.toNatClampNeg) : x.toInt ≤ 12 := by
  have e : t.toNatClampNeg = t.toInt.toNat := rfl
  rw [ex]
  exact (h _ (by omega)).1
theorem RulD.w {sg cl cs : Nat → Int32} {n t c x : Int32} (h : RulD sg cl cs n) (ht : 0 ≤ t.toInt ∧ t.toInt < n.toInt) (ex : x = cs t.toNatClampNeg) (hc : 0 ≤ c.toInt ∧ c.toInt < x.toInt) {i j p q : Int32} (hi : i.toInt = 48 * t.toInt + 4 * c.toInt) (hj : j.toInt = 48 * t.toInt + 4 * c.toInt + 1) (ep : p = cl i.toNatClampNeg) (eq : q = cl j.toNatClampNeg) : WFc sg t p q := by
  have e : t.toNatClampNeg = t.toInt.toNat := rfl
  have e1 : i.toNatClampNeg = 48 * t.toInt.toNat + 4 * c.toInt.toNat := by
    show i.toInt.toNat = _
    omega
  have e2 : j.toNatClampNeg = 48 * t.toInt.toNat + 4 * c.toInt.toNat + 1 := by
    show j.toInt.toNat = _
    omega
  rw [ep, eq, e1, e2]
  exact ((h _ (by omega)).2 _ (by rw [e] at ex; rw [← ex]; omega) t (by omega)).1
theorem RulD.w2 {sg cl cs : Nat → Int32} {n t c x : Int32} (h : RulD sg cl cs n) (ht : 0 ≤ t.toInt ∧ t.toInt < n.toInt) (ex : x = cs t.toNatClampNeg) (hc : 0 ≤ c.toInt ∧ c.toInt < x.toInt) {i j p q : Int32} (hi : i.toInt = 48 * t.toInt + 4 * c.toInt + 2) (hj : j.toInt = 48 * t.toInt + 4 * c.toInt + 3) (ep : p = cl i.toNatClampNeg) (eq : q = cl j.toNatClampNeg) (hp : 0 ≤ p.toInt) : WFc sg t p q := by
  have e : t.toNatClampNeg = t.toInt.toNat := rfl
  have e1 : i.toNatClampNeg = 48 * t.toInt.toNat + 4 * c.toInt.toNat + 2 := by
    show i.toInt.toNat = _
    omega
  have e2 : j.toNatClampNeg = 48 * t.toInt.toNat + 4 * c.toInt.toNat + 3 := by
    show j.toInt.toNat = _
    omega
  have hq := ((h t.toInt.toNat (by omega)).2 c.toInt.toNat (by rw [e] at ex; rw [← ex]; omega) t (by omega)).2
  rw [ep, e1] at hp
  rw [ep, eq, e1, e2]
  exact hq hp
theorem WFc.ar {f : Nat → Int32} {t b e : Int32} (h : WFc f t b e) : 0 ≤ b.toInt ∧ b.toInt ≤ e.toInt ∧ e.toInt ≤ 400 := h.1
theorem and_dec {x y : Int32} (hy : y = x - 1) (hx : ¬ x = 0) : (x &&& y).toUInt32.toNat < x.toUInt32.toNat := by
  subst hy
  have hb : x.toUInt32 ≠ 0 := fun z => hx (by
    have : x.toUInt32.toInt32 = (0 : UInt32).toInt32 := by rw [z]
    simpa using this)
  have h1 : (x &&& (x - 1)).toUInt32.toNat = x.toUInt32.toNat &&& (x - 1).toUInt32.toNat := rfl
  have h2 : (x - 1).toUInt32.toNat = x.toUInt32.toNat - 1 := by
    have e : (x - 1).toUInt32 = x.toUInt32 - 1 := rfl
    rw [e, UInt32.toNat_sub_of_le]
    · rfl
    · exact UInt32.le_iff_toNat_le.mpr (by
        have : x.toUInt32.toNat ≠ 0 := fun z => hb (UInt32.toNat_inj.mp z)
        show 1 ≤ x.toUInt32.toNat
        omega)
  have h3 : x.toUInt32.toNat ≠ 0 := fun z => hb (UInt32.toNat_inj.mp z)
  rw [h1, h2]
  have := Nat.and_le_right (n := x.toUInt32.toNat) (m := x.toUInt32.toNat - 1)
  omega
theorem SaidD.lt {T f : Nat → Int32} (h : SaidD T f 999) (hx : ¬ (f 10).toInt = 999) : SaidD T f 998 := ⟨h.1, h.2.1, by have := h.2.2; omega⟩
theorem rem_abs {x y : Int32} (h : ¬ y.toInt = 0) : (x - x / y * y).toInt.natAbs < y.toInt.natAbs := by
  rw [rem_toInt, Int.natAbs_tmod]
  exact Nat.mod_lt _ (by omega)
