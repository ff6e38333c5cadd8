def cB (f : Nat → Int32) (n : Int32) (k : Nat) : Int := if (k : Int) < n.toInt then (f k).toInt else -1
def Byt (f : Nat → Int32) : Prop := ∀ k : Nat, 0 ≤ (f k).toInt ∧ (f k).toInt ≤ 255
theorem cB_in {f : Nat → Int32} {n : Int32} {k : Nat} (h : (k : Int) < n.toInt) : cB f n k = (f k).toInt := if_pos h
theorem cB_out {f : Nat → Int32} {n : Int32} {k : Nat} (h : n.toInt ≤ (k : Int)) : cB f n k = -1 := if_neg (by omega)
theorem cB_fi {f : Nat → Int32} {n : Int32} (h : n.toInt ≤ 400) : pz_fi (cB f n) := fun k hk => cB_out (by omega)
theorem cB_rg {f : Nat → Int32} {n : Int32} (h : Byt f) (k : Nat) : ((k : Int) < n.toInt ∧ 0 ≤ cB f n k ∧ cB f n k ≤ 255) ∨ (n.toInt ≤ (k : Int) ∧ cB f n k = -1) := by
  by_cases z : (k : Int) < n.toInt
  · left; rw [cB_in z]; exact ⟨z, h k⟩
  · right; exact ⟨by omega, cB_out (by omega)⟩
def Rn (P : Int → Bool) (f : Nat → Int32) (n p q : Int32) : Prop := p.toInt ≤ q.toInt ∧ ∀ i : Nat, p.toInt ≤ (i : Int) → (i : Int) < q.toInt → P (cB f n i) = true
theorem Rn.rf {P : Int → Bool} {f : Nat → Int32} {n p : Int32} : Rn P f n p p := ⟨Int.le_refl _, fun i a b => by omega⟩
theorem Rn.st {P : Int → Bool} {f : Nat → Int32} {n p q q' x : Int32} (h : Rn P f n p q) (h0 : 0 ≤ q.toInt) (hx : x.toInt = cB f n q.toInt.toNat) (hP : P x.toInt = true) (hq : q'.toInt = q.toInt + 1) : Rn P f n p q' := by
  have hp := h.1
  refine ⟨by omega, fun i a b => ?_⟩
  by_cases z : (i : Int) < q.toInt
  · exact h.2 i a z
  · rw [show i = q.toInt.toNat by omega, ← hx]; exact hP
theorem Rn.run {P : Int → Bool} {f : Nat → Int32} {n p q : Int32} (h : Rn P f n p q) (h0 : 0 ≤ p.toInt) (h4 : q.toInt ≤ 400) (hq : ¬ P (cB f n q.toInt.toNat) = true) : pz_run P (cB f n) 401 p.toInt.toNat = q.toInt.toNat := by
  have hp := h.1
  exact pz_run_eq 401 _ _ (by omega) (by omega) (fun i a b => h.2 i (by omega) (by omega)) hq
def TpR (f : Nat → Int32) (n : Int32) (r : Except Int (Nat × Nat)) (a b c d : Int32) : Prop := match r with
  | .error e => d.toInt = e ∧ e ≠ 0 ∧ c.toInt = -1
  | .ok s => d.toInt = 0 ∧ a.toInt = (s.1 : Int) ∧ b.toInt = (pz_te (cB f n) s.1 : Int) ∧ c.toInt = cB f n s.1
def TpB (r : Except Int (Nat × Nat)) (b d : Int32) : Prop := match r with
  | .error e => d.toInt = e ∧ e ≠ 0
  | .ok s => d.toInt = 0 ∧ b.toInt = (s.1 : Int)
def rTE (B : Nat → Int) (r : Except Int (Nat × Nat)) : Except Int (Nat × Nat) := pz_b r (fun s => .ok (pz_te B s.1, s.2))
def rSK (B : Nat → Int) (r : Except Int (Nat × Nat)) : Except Int (Nat × Nat) := pz_b r (fun s => .ok (pz_sk B s.1, s.2))
def rNX (B : Nat → Int) (r : Except Int (Nat × Nat)) : Except Int (Nat × Nat) := pz_b r (fun s => .ok (pz_nx B s))
def rER (k : Int) (r : Except Int (Nat × Nat)) : Except Int (Nat × Nat) := pz_b r (fun s => .error (pz_er k s.1))
def rNU (B : Nat → Int) (lo hi : Int) (r : Except Int (Nat × Nat)) : Except Int (Nat × Nat) := pz_b r (fun s => pz_b (pz_num B lo hi s.1) (fun _ => .ok s))
def rEN (B : Nat → Int) (r : Except Int (Nat × Nat)) : Except Int (Nat × Nat) := pz_b r (fun s => pz_b (pz_end B s.1) (fun _ => .ok s))
theorem rNX_eq {B : Nat → Int} {r : Except Int (Nat × Nat)} : rSK B (rTE B r) = rNX B r := by cases r <;> rfl
theorem TpR.tb {f : Nat → Int32} {n : Int32} {r : Except Int (Nat × Nat)} {a b c d : Int32} (h : TpR f n r a b c d) : TpB (rTE (cB f n) r) b d := by
  cases r with
  | error e => exact ⟨h.1, h.2.1⟩
  | ok s => exact ⟨h.1, h.2.2.1⟩
theorem TpB.er {f : Nat → Int32} {n : Int32} {r : Except Int (Nat × Nat)} {g : Nat × Nat → Except Int (Nat × Nat)} {a b b' c d : Int32} (h : TpB r b d) (hd : ¬ d.toInt = 0) (hc : c.toInt = -1) : TpR f n (pz_b r g) a b' c d := by
  cases r with
  | error e => exact ⟨h.1, h.2, hc⟩
  | ok s => exact absurd h.1 hd
theorem TpR.er {f : Nat → Int32} {n : Int32} {r : Except Int (Nat × Nat)} {g : Nat × Nat → Except Int (Nat × Nat)} {a b c d a' b' : Int32} (h : TpR f n r a b c d) (hd : ¬ d.toInt = 0) : TpR f n (pz_b r g) a' b' c d := by
  cases r with
  | error e => exact h
  | ok s => exact absurd h.1 hd
theorem TpR.fault0 {f : Nat → Int32} {n : Int32} {r : Except Int (Nat × Nat)} {a b c d : Int32} (h : TpR f n r a b c d) (hd : d.toInt = 0) : ∃ s, r = .ok s ∧ a.toInt = (s.1 : Int) ∧ b.toInt = (pz_te (cB f n) s.1 : Int) ∧ c.toInt = cB f n s.1 ∧ s.1 = a.toInt.toNat := by
  cases r with
  | error e => exact absurd (h.1.symm.trans hd) h.2.1
  | ok s => exact ⟨s, rfl, h.2.1, h.2.2.1, h.2.2.2, by have := h.2.1; omega⟩
theorem TpB.at {f : Nat → Int32} {n : Int32} {r : Except Int (Nat × Nat)} {a b b0 c d : Int32} (h : TpB r b0 d) (hd : d.toInt = 0) (h0 : 0 ≤ b0.toInt) (h1 : Rn pz_isS f n b0 a) (h4 : a.toInt ≤ 400) (h2 : ¬ cB f n a.toInt.toNat = 32) (hb : b.toInt = (pz_te (cB f n) a.toInt.toNat : Int)) (hc : c.toInt = cB f n a.toInt.toNat) : TpR f n (rSK (cB f n) r) a b c d := by
  cases r with
  | error e => exact absurd (h.1.symm.trans hd) h.2
  | ok s =>
    have hs : s.1 = b0.toInt.toNat := by have := h.2; omega
    have e : pz_sk (cB f n) s.1 = a.toInt.toNat := by
      rw [hs]
      exact h1.run h0 h4 (fun z => h2 (of_decide_eq_true z))
    have hp := h1.1
    refine ⟨hd, ?_, ?_, ?_⟩
    · show a.toInt = (pz_sk (cB f n) s.1 : Int)
      rw [e]; omega
    · show b.toInt = (pz_te (cB f n) (pz_sk (cB f n) s.1) : Int)
      rw [e]; exact hb
    · show c.toInt = cB f n (pz_sk (cB f n) s.1)
      rw [e]; exact hc
theorem te_L {f : Nat → Int32} {n a b x : Int32} (h0 : 0 ≤ a.toInt) (hx : x.toInt = cB f n a.toInt.toNat) (hL : 97 ≤ x.toInt ∧ x.toInt ≤ 122) (h : Rn pz_isL f n a b) (h4 : b.toInt ≤ 400) (hn : ¬ (97 ≤ cB f n b.toInt.toNat ∧ cB f n b.toInt.toNat ≤ 122)) : b.toInt = (pz_te (cB f n) a.toInt.toNat : Int) := by
  have e : pz_te (cB f n) a.toInt.toNat = b.toInt.toNat := by
    unfold pz_te
    rw [if_pos (by rw [← hx]; exact decide_eq_true hL)]
    exact h.run h0 h4 (fun z => hn (of_decide_eq_true z))
  have := h.1
  rw [e]; omega
theorem te_D {f : Nat → Int32} {n a b x : Int32} (h0 : 0 ≤ a.toInt) (hx : x.toInt = cB f n a.toInt.toNat) (hL : 48 ≤ x.toInt ∧ x.toInt ≤ 57) (h : Rn pz_isD f n a b) (h4 : b.toInt ≤ 400) (hn : ¬ (48 ≤ cB f n b.toInt.toNat ∧ cB f n b.toInt.toNat ≤ 57)) : b.toInt = (pz_te (cB f n) a.toInt.toNat : Int) := by
  have e : pz_te (cB f n) a.toInt.toNat = b.toInt.toNat := by
    unfold pz_te
    rw [if_neg (by rw [← hx]; intro z; have := of_decide_eq_true z; omega), if_pos (by rw [← hx]; exact decide_eq_true hL)]
    exact h.run h0 h4 (fun z => hn (of_decide_eq_true z))
  have := h.1
  rw [e]; omega
theorem te_1 {f : Nat → Int32} {n a b x : Int32} (h0 : 0 ≤ a.toInt) (hx : x.toInt = cB f n a.toInt.toNat) (hL : ¬ (97 ≤ x.toInt ∧ x.toInt ≤ 122)) (hD : ¬ (48 ≤ x.toInt ∧ x.toInt ≤ 57)) (hE : ¬ x.toInt = -1) (h2 : ¬ ((x.toInt = 60 ∨ x.toInt = 62) ∧ cB f n (a.toInt.toNat + 1) = 61)) (hb : b.toInt = a.toInt + 1) : b.toInt = (pz_te (cB f n) a.toInt.toNat : Int) := by
  have e : pz_te (cB f n) a.toInt.toNat = a.toInt.toNat + 1 := by
    unfold pz_te
    rw [← hx, if_neg (show ¬ pz_isL x.toInt = true from fun z => hL (of_decide_eq_true z)), if_neg (show ¬ pz_isD x.toInt = true from fun z => hD (of_decide_eq_true z)), if_neg hE, if_neg h2]
  rw [e]; omega
theorem te_2 {f : Nat → Int32} {n a b x : Int32} (h0 : 0 ≤ a.toInt) (hx : x.toInt = cB f n a.toInt.toNat) (h2 : (x.toInt = 60 ∨ x.toInt = 62) ∧ cB f n (a.toInt.toNat + 1) = 61) (hb : b.toInt = a.toInt + 2) : b.toInt = (pz_te (cB f n) a.toInt.toNat : Int) := by
  have e : pz_te (cB f n) a.toInt.toNat = a.toInt.toNat + 2 := by
    unfold pz_te
    rw [← hx, if_neg (fun z => by have := of_decide_eq_true z; omega), if_neg (fun z => by have := of_decide_eq_true z; omega), if_neg (by omega), if_pos h2]
  rw [e]; omega
theorem te_0 {f : Nat → Int32} {n a x : Int32} (h0 : 0 ≤ a.toInt) (hx : x.toInt = cB f n a.toInt.toNat) (hE : x.toInt = -1) : a.toInt = (pz_te (cB f n) a.toInt.toNat : Int) := by
  have e : pz_te (cB f n) a.toInt.toNat = a.toInt.toNat := by
    unfold pz_te
    rw [← hx, hE, if_neg (by decide), if_neg (by decide), if_pos rfl]
  rw [e]; omega
theorem pz_run_le {P : Int → Bool} {f : Nat → Int32} {n : Int32} (hP : P (-1) = false) : ∀ (k p : Nat), (p : Int) ≤ n.toInt → (pz_run P (cB f n) k p : Int) ≤ n.toInt
  | 0, p, h => h
  | k + 1, p, h => by
    unfold pz_run
    by_cases z : P (cB f n p) = true
    · rw [if_pos z]
      have hp : (p : Int) < n.toInt := by
        refine Int.lt_of_not_ge (fun y => ?_)
        rw [cB_out y, hP] at z
        cases z
      exact pz_run_le hP k (p + 1) (by omega)
    · rw [if_neg z]; exact h
theorem pz_te_le {f : Nat → Int32} {n : Int32} {p : Nat} (h : (p : Int) ≤ n.toInt) : (pz_te (cB f n) p : Int) ≤ n.toInt := by
  have ne : ∀ k : Nat, cB f n k ≠ -1 → (k : Int) < n.toInt := fun k hk => Int.lt_of_not_ge (fun y => hk (cB_out y))
  unfold pz_te
  split
  · exact pz_run_le rfl _ _ h
  · split
    · exact pz_run_le rfl _ _ h
    · split
      · exact h
      · rename_i hE
        split
        · rename_i h2
          have := ne (p + 1) (by rw [h2.2]; decide)
          omega
        · have := ne p hE
          omega
theorem TpR.fail {f : Nat → Int32} {n : Int32} {r : Except Int (Nat × Nat)} {a b c d c' d' : Int32} {k : Int} (h : TpR f n r a b c d) (hd : d.toInt = 0) (hk : 0 ≤ k) (he : d'.toInt = 1 + 8 * a.toInt + k) (hc : c'.toInt = -1) : TpR f n (rER k r) a b c' d' := by
  obtain ⟨s, rfl, ha, -, -, -⟩ := h.fault0 hd
  refine ⟨?_, ?_, hc⟩
  · show d'.toInt = pz_er k s.1
    unfold pz_er; omega
  · show pz_er k s.1 ≠ 0
    unfold pz_er; omega
theorem TpR.end0 {f : Nat → Int32} {n : Int32} {r : Except Int (Nat × Nat)} {a b c d : Int32} (h : TpR f n r a b c d) (hd : d.toInt = 0) (ha : n.toInt ≤ a.toInt) : TpR f n (rEN (cB f n) r) a b c d := by
  obtain ⟨s, rfl, h1, h2, h3, h4⟩ := h.fault0 hd
  have : pz_end (cB f n) s.1 = .ok s.1 := if_pos (cB_out (by omega))
  show TpR f n (pz_b (pz_end (cB f n) s.1) (fun _ => .ok s)) a b c d
  rw [this]
  exact ⟨hd, h1, h2, h3⟩
theorem TpR.end1 {f : Nat → Int32} {n : Int32} {r : Except Int (Nat × Nat)} {a b c d a' b' c' d' : Int32} (hB : Byt f) (h : TpR f n r a b c d) (ha : d.toInt = 0 → a.toInt < n.toInt) (h' : TpR f n (rER 0 r) a' b' c' d') : TpR f n (rEN (cB f n) r) a' b' c' d' := by
  cases r with
  | error e => exact h'
  | ok s =>
    have h1 := ha h.1
    have h2 := h.2.1
    have : pz_end (cB f n) s.1 = .error (pz_er 0 s.1) := if_neg (by rw [cB_in (by omega)]; have := hB s.1; omega)
    show TpR f n (pz_b (pz_end (cB f n) s.1) (fun _ => .ok s)) a' b' c' d'
    rw [this]
    exact h'
theorem cB_yes {f : Nat → Int32} {n x1 x : Int32} (hB : Byt f) (ex : x = f x1.toNatClampNeg) (h : x1.toInt < n.toInt ∧ 0 ≤ x1.toInt) : x.toInt = cB f n x1.toInt.toNat ∧ ((n.toInt ≤ x1.toInt ∧ x.toInt = -1) ∨ (x1.toInt < n.toInt ∧ 0 ≤ x.toInt ∧ x.toInt ≤ 255)) := by
  have e : x.toInt = (f x1.toInt.toNat).toInt := congrArg Int32.toInt ex
  refine ⟨?_, Or.inr ⟨h.1, ?_⟩⟩
  · rw [cB_in (by omega)]; exact e
  · rw [e]; exact hB _
theorem cB_no {f : Nat → Int32} {n x1 : Int32} (h : n.toInt ≤ x1.toInt ∧ 0 ≤ x1.toInt) : (-1 : Int32).toInt = cB f n x1.toInt.toNat ∧ ((n.toInt ≤ x1.toInt ∧ (-1 : Int32).toInt = -1) ∨ (x1.toInt < n.toInt ∧ 0 ≤ (-1 : Int32).toInt ∧ (-1 : Int32).toInt ≤ 255)) := by
  refine ⟨?_, Or.inl ⟨h.1, by decide⟩⟩
  rw [cB_out (by omega)]; decide
def Sg (B : Nat → Int) (x : Int) (r : Except Int (Nat × Nat)) : Prop := ∃ s, r = .ok s ∧ B s.1 = x
def NSg (B : Nat → Int) (x : Int) (r : Except Int (Nat × Nat)) : Prop := ∀ s, r = .ok s → ¬ B s.1 = x
theorem TpR.sg {f : Nat → Int32} {n : Int32} {r : Except Int (Nat × Nat)} {a b c d : Int32} {x : Int} (h : TpR f n r a b c d) (hx : c.toInt = x) (h0 : 0 ≤ x) : Sg (cB f n) x r := by
  cases r with
  | error e => have := h.2.2; omega
  | ok s => exact ⟨s, rfl, h.2.2.2.symm.trans hx⟩
theorem TpR.nsg {f : Nat → Int32} {n : Int32} {r : Except Int (Nat × Nat)} {a b c d : Int32} {x : Int} (h : TpR f n r a b c d) (hx : ¬ c.toInt = x) : NSg (cB f n) x r := fun s hs z => by
  subst hs
  exact hx (h.2.2.2.trans z)
def stB (i k : Nat) : Int := ((bytS.getD i []).getD k 0).toInt
def sbS (i a b : Nat) : List Int := (List.range (b - a)).map (fun j => stB i (a + j))
def wS (i : Nat) : List Int := sbS i 0 (lenS.getD i 0)
theorem sbS_len {i a b : Nat} : (sbS i a b).length = b - a := by unfold sbS; rw [List.length_map, List.length_range]
theorem sbS_get {i a b j : Nat} (h : j < b - a) : (sbS i a b).getD j 0 = stB i (a + j) := by
  unfold sbS
  rw [List.getD_eq_getElem?_getD, List.getElem?_map, List.getElem?_range h]
  rfl
def TWd (B : Nat → Int) (w : List Int) (r : Except Int (Nat × Nat)) : Prop := ∃ s, r = .ok s ∧ pz_wd B s.1 w = true
def NWd (B : Nat → Int) (w : List Int) (r : Except Int (Nat × Nat)) : Prop := ∀ s, r = .ok s → ¬ pz_wd B s.1 w = true
theorem NWd.er {f : Nat → Int32} {n : Int32} {r : Except Int (Nat × Nat)} {a b c d : Int32} {w : List Int} (h : TpR f n r a b c d) (hd : ¬ d.toInt = 0) : NWd (cB f n) w r := fun s hs => by
  subst hs
  exact absurd h.1 hd
theorem NWd.len {f : Nat → Int32} {n : Int32} {r : Except Int (Nat × Nat)} {a b c d : Int32} {w : List Int} (h : TpR f n r a b c d) (hd : ¬ b.toInt - a.toInt = (w.length : Int)) : NWd (cB f n) w r := fun s hs z => by
  subst hs
  have h1 := (of_decide_eq_true z).1
  have h2 := h.2.1
  have h3 := h.2.2.1
  omega
theorem NWd.at {f : Nat → Int32} {n : Int32} {r : Except Int (Nat × Nat)} {a b c d : Int32} {w : List Int} (h : TpR f n r a b c d) (j : Nat) (hj : j < w.length) (hd : ¬ cB f n (a.toInt.toNat + j) = w.getD j 0) : NWd (cB f n) w r := fun s hs z => by
  subst hs
  have h1 := (of_decide_eq_true z).2 j hj
  have h2 : s.1 = a.toInt.toNat := by have := h.2.1; omega
  rw [h2] at h1
  exact hd h1
theorem pz_te_in {f : Nat → Int32} {n : Int32} {p j : Nat} (h : p + j < pz_te (cB f n) p) : ((p + j : Nat) : Int) < n.toInt := by
  by_cases z : (p : Int) < n.toInt
  · have := pz_te_le (f := f) (n := n) (p := p) (by omega)
    omega
  · have e : cB f n p = -1 := cB_out (by omega)
    have : pz_te (cB f n) p = p := by
      unfold pz_te
      rw [e, if_neg (by decide), if_neg (by decide), if_pos rfl]
    omega
def Mt (f : Nat → Int32) (i : Nat) (a x2 k : Int32) : Prop := ∀ j : Nat, x2.toInt ≤ (j : Int) → (j : Int) < k.toInt → (f (a.toInt.toNat + (j - x2.toInt.toNat))).toInt = stB i j
theorem Mt.nil {f : Nat → Int32} {i : Nat} {a x2 : Int32} : Mt f i a x2 x2 := fun j h1 h2 => by omega
theorem Mt.st {f : Nat → Int32} {i : Nat} {a x2 k k' x y r : Int32} (h : Mt f i a x2 k) (h2 : 0 ≤ x2.toInt ∧ x2.toInt ≤ k.toInt ∧ 0 ≤ a.toInt) (ey : y = f x.toNatClampNeg) (hx : x.toInt = a.toInt + k.toInt - x2.toInt) (hr : r.toInt = stB i k.toInt.toNat) (hyr : y.toInt = r.toInt) (hk : k'.toInt = k.toInt + 1) : Mt f i a x2 k' := fun j h1 hj => by
  by_cases z : (j : Int) < k.toInt
  · exact h j h1 z
  · have e1 : j = k.toInt.toNat := by omega
    have e2 : a.toInt.toNat + (j - x2.toInt.toNat) = x.toInt.toNat := by omega
    rw [e2, e1, ← hr, ← hyr, ey]
    rfl
theorem TWd.of {f : Nat → Int32} {n : Int32} {r : Except Int (Nat × Nat)} {a b c d x2 x3 : Int32} {i : Nat} (h : TpR f n r a b c d) (hd : d.toInt = 0) (hl : b.toInt - a.toInt = x3.toInt - x2.toInt) (h2 : 0 ≤ x2.toInt ∧ x2.toInt ≤ x3.toInt) (hm : Mt f i a x2 x3) : TWd (cB f n) (sbS i x2.toInt.toNat x3.toInt.toNat) r := by
  obtain ⟨s, rfl, h1, hb, h3, h4⟩ := h.fault0 hd
  refine ⟨s, rfl, decide_eq_true ⟨?_, fun j hj => ?_⟩⟩
  · rw [sbS_len]; omega
  · rw [sbS_len] at hj
    rw [sbS_get hj, ← hm (x2.toInt.toNat + j) (by omega) (by omega)]
    have hin := pz_te_in (f := f) (n := n) (p := s.1) (j := j) (by omega)
    rw [cB_in hin]
    rw [show a.toInt.toNat + (x2.toInt.toNat + j - x2.toInt.toNat) = s.1 + j by omega]
theorem NWd.ch {f : Nat → Int32} {n : Int32} {r : Except Int (Nat × Nat)} {a b c d x2 x3 k x y q : Int32} {i : Nat} (h : TpR f n r a b c d) (hd : d.toInt = 0) (hl : b.toInt - a.toInt = x3.toInt - x2.toInt) (h2 : 0 ≤ x2.toInt ∧ x2.toInt ≤ k.toInt ∧ k.toInt < x3.toInt) (ey : y = f x.toNatClampNeg) (hx : x.toInt = a.toInt + k.toInt - x2.toInt) (hr : q.toInt = stB i k.toInt.toNat) (hyr : ¬ y.toInt = q.toInt) : NWd (cB f n) (sbS i x2.toInt.toNat x3.toInt.toNat) r := by
  obtain ⟨s, rfl, h1, hb, h3, h4⟩ := h.fault0 hd
  refine NWd.at h (k.toInt.toNat - x2.toInt.toNat) (by rw [sbS_len]; omega) (fun z => hyr ?_)
  have hin := pz_te_in (f := f) (n := n) (p := s.1) (j := k.toInt.toNat - x2.toInt.toNat) (by omega)
  rw [sbS_get (by omega), ← h4, cB_in hin, show x2.toInt.toNat + (k.toInt.toNat - x2.toInt.toNat) = k.toInt.toNat by omega, ← hr] at z
  rw [← z, ey]
  rw [show s.1 + (k.toInt.toNat - x2.toInt.toNat) = x.toInt.toNat by omega]
  rfl
def wR (i : Nat) : Nat → Nat → Nat → List (List Int)
  | 0, _, _ => []
  | k + 1, at', from' => if stB i at' = 32 then sbS i from' at' :: wR i k (at' + 1) (at' + 1) else wR i k (at' + 1) from'
def waR (B : Nat → Int) (ws : List (List Int)) (k : Int) (r : Except Int (Nat × Nat)) : Int := match r with
  | .error _ => -1
  | .ok s => pz_wa B s.1 ws k
def wL (i : Nat) : List (List Int) := wR i (lenS.getD i 0) 0 0
def Wa (B : Nat → Int) (i : Nat) (r : Except Int (Nat × Nat)) (num frm k : Int32) : Prop := waR B (wL i) 0 r = waR B (wR i (lenS.getD i 0 - k.toInt.toNat) k.toInt.toNat frm.toInt.toNat) num.toInt r
theorem Wa.nil {B : Nat → Int} {i : Nat} {r : Except Int (Nat × Nat)} : Wa B i r 0 0 0 := rfl
theorem Wa.end {B : Nat → Int} {i : Nat} {r : Except Int (Nat × Nat)} {num frm k : Int32} (h : Wa B i r num frm k) (hk : ((lenS.getD i 0 : Nat) : Int) ≤ k.toInt) : waR B (wL i) 0 r = -1 := by
  unfold Wa at h
  rw [h, show lenS.getD i 0 - k.toInt.toNat = 0 by omega]
  cases r <;> rfl
theorem Wa.go {B : Nat → Int} {i : Nat} {r : Except Int (Nat × Nat)} {num frm k k' x : Int32} (h : Wa B i r num frm k) (hk : 0 ≤ k.toInt ∧ k.toInt < ((lenS.getD i 0 : Nat) : Int)) (hx : x.toInt = stB i k.toInt.toNat) (h32 : ¬ x.toInt = 32) (hk' : k'.toInt = k.toInt + 1) : Wa B i r num frm k' := by
  unfold Wa at h ⊢
  rw [h, show lenS.getD i 0 - k.toInt.toNat = (lenS.getD i 0 - k'.toInt.toNat) + 1 by omega]
  rw [show wR i (lenS.getD i 0 - k'.toInt.toNat + 1) k.toInt.toNat frm.toInt.toNat = wR i (lenS.getD i 0 - k'.toInt.toNat) (k.toInt.toNat + 1) frm.toInt.toNat from if_neg (by rw [← hx]; exact h32)]
  rw [show k.toInt.toNat + 1 = k'.toInt.toNat by omega]
theorem Wa.no {B : Nat → Int} {i : Nat} {r : Except Int (Nat × Nat)} {num num' frm frm' k k' x : Int32} (h : Wa B i r num frm k) (hk : 0 ≤ k.toInt ∧ k.toInt < ((lenS.getD i 0 : Nat) : Int)) (hx : x.toInt = stB i k.toInt.toNat) (h32 : x.toInt = 32) (hw : NWd B (sbS i frm.toInt.toNat k.toInt.toNat) r) (hk' : k'.toInt = k.toInt + 1) (hf' : frm'.toInt = k.toInt + 1) (hn' : num'.toInt = num.toInt + 1) : Wa B i r num' frm' k' := by
  unfold Wa at h ⊢
  rw [h, show lenS.getD i 0 - k.toInt.toNat = (lenS.getD i 0 - k'.toInt.toNat) + 1 by omega]
  rw [show wR i (lenS.getD i 0 - k'.toInt.toNat + 1) k.toInt.toNat frm.toInt.toNat = sbS i frm.toInt.toNat k.toInt.toNat :: wR i (lenS.getD i 0 - k'.toInt.toNat) (k.toInt.toNat + 1) (k.toInt.toNat + 1) from if_pos (by rw [← hx]; exact h32)]
  rw [show k.toInt.toNat + 1 = k'.toInt.toNat by omega, show frm'.toInt.toNat = k'.toInt.toNat by omega, hn']
  cases r with
  | error e => rfl
  | ok s => exact if_neg (hw s rfl)
theorem Wa.yes {B : Nat → Int} {i : Nat} {r : Except Int (Nat × Nat)} {num frm k x : Int32} (h : Wa B i r num frm k) (hk : 0 ≤ k.toInt ∧ k.toInt < ((lenS.getD i 0 : Nat) : Int)) (hx : x.toInt = stB i k.toInt.toNat) (h32 : x.toInt = 32) (hw : TWd B (sbS i frm.toInt.toNat k.toInt.toNat) r) : waR B (wL i) 0 r = num.toInt := by
  unfold Wa at h
  rw [h, show lenS.getD i 0 - k.toInt.toNat = (lenS.getD i 0 - k.toInt.toNat - 1) + 1 by omega]
  rw [show wR i (lenS.getD i 0 - k.toInt.toNat - 1 + 1) k.toInt.toNat frm.toInt.toNat = sbS i frm.toInt.toNat k.toInt.toNat :: wR i (lenS.getD i 0 - k.toInt.toNat - 1) (k.toInt.toNat + 1) (k.toInt.toNat + 1) from if_pos (by rw [← hx]; exact h32)]
  obtain ⟨s, rfl, hs⟩ := hw
  exact if_pos hs
theorem wL2 : wL 2 = pz_words := by decide +kernel
theorem wL0 : wL 0 = [pz_book, pz_sky, pz_buyer, pz_watch] := by decide +kernel
theorem wS1 : wS 1 = pz_buy := by decide +kernel
theorem wS3 : wS 3 = pz_if := by decide +kernel
theorem wS4 : wS 4 = pz_not := by decide +kernel
theorem wS5 : wS 5 = pz_and := by decide +kernel
theorem wS6 : wS 6 = pz_or := by decide +kernel
theorem pz_run_all {P : Int → Bool} {B : Nat → Int} : ∀ (k p i : Nat), p ≤ i → i < pz_run P B k p → P (B i) = true
  | 0, p, i, h1, h2 => by have : i < p := h2; omega
  | k + 1, p, i, h1, h2 => by
    unfold pz_run at h2
    by_cases z : P (B p) = true
    · rw [if_pos z] at h2
      by_cases y : i = p
      · rw [y]; exact z
      · exact pz_run_all k (p + 1) i (by omega) h2
    · rw [if_neg z] at h2; omega
theorem pz_te_dig {B : Nat → Int} {p i : Nat} (h : pz_isD (B p) = true) (h1 : p ≤ i) (h2 : i < pz_te B p) : 48 ≤ B i ∧ B i ≤ 57 := by
  unfold pz_te at h2
  have hD := of_decide_eq_true h
  rw [if_neg (fun z => by have := of_decide_eq_true z; omega), if_pos h] at h2
  exact of_decide_eq_true (pz_run_all 401 p i h1 h2)
def Nv (B : Nat → Int) (a v i : Int32) : Prop := v.toInt = pz_nv B a.toInt.toNat (i.toInt - a.toInt).toNat ∧ 0 ≤ v.toInt ∧ v.toInt + 1 ≤ 10 ^ (i.toInt - a.toInt).toNat
theorem Nv.nil {B : Nat → Int} {a : Int32} : Nv B a 0 a := by
  unfold Nv
  rw [show (a.toInt - a.toInt).toNat = 0 by omega]
  exact ⟨rfl, by decide, by decide⟩
theorem Nv.ar {B : Nat → Int} {a v i : Int32} (h : Nv B a v i) : 0 ≤ v.toInt ∧ (i.toInt - a.toInt ≤ 5 → v.toInt ≤ 99999) ∧ (i.toInt - a.toInt ≤ 4 → v.toInt ≤ 9999) := by
  refine ⟨h.2.1, fun z => ?_, fun z => ?_⟩
  · have h1 : (10 : Int) ^ (i.toInt - a.toInt).toNat ≤ 10 ^ 5 := by
      have := Nat.pow_le_pow_right (n := 10) (by decide) (show (i.toInt - a.toInt).toNat ≤ 5 by omega)
      exact_mod_cast this
    have := h.2.2
    omega
  · have h1 : (10 : Int) ^ (i.toInt - a.toInt).toNat ≤ 10 ^ 4 := by
      have := Nat.pow_le_pow_right (n := 10) (by decide) (show (i.toInt - a.toInt).toNat ≤ 4 by omega)
      exact_mod_cast this
    have := h.2.2
    omega
theorem Nv.st {B : Nat → Int} {a v v' i i' x : Int32} (h : Nv B a v i) (hi : 0 ≤ a.toInt ∧ a.toInt ≤ i.toInt) (hx : x.toInt = B i.toInt.toNat) (hd : 48 ≤ x.toInt ∧ x.toInt ≤ 57) (hv : v'.toInt = v.toInt * 10 + x.toInt - 48) (hi' : i'.toInt = i.toInt + 1) : Nv B a v' i' := by
  obtain ⟨h1, h2, h3⟩ := h
  unfold Nv
  rw [show (i'.toInt - a.toInt).toNat = (i.toInt - a.toInt).toNat + 1 by omega]
  have e : a.toInt.toNat + (i.toInt - a.toInt).toNat = i.toInt.toNat := by omega
  refine ⟨?_, by omega, ?_⟩
  · show v'.toInt = 10 * pz_nv B a.toInt.toNat (i.toInt - a.toInt).toNat + (B (a.toInt.toNat + (i.toInt - a.toInt).toNat) - 48)
    rw [e, ← hx, ← h1]; omega
  · rw [Int.pow_succ]; omega
def NuV (B : Nat → Int) (lo hi : Int) (r : Except Int (Nat × Nat)) (v : Int32) : Prop := ∀ s x, r = .ok s → pz_num B lo hi s.1 = .ok x → v.toInt = x
theorem TpR.lt {f : Nat → Int32} {n : Int32} {r : Except Int (Nat × Nat)} {a b c d : Int32} (h : TpR f n r a b c d) (hc : 0 ≤ c.toInt) : a.toInt < b.toInt := by
  cases r with
  | error e => have := h.2.2; omega
  | ok s =>
    have h1 := h.2.1
    have h2 := h.2.2.1
    have h3 := h.2.2.2
    have h4 := pz_te_gt (B := cB f n) (p := s.1) (by omega)
    omega
theorem TpR.sgc {f : Nat → Int32} {n : Int32} {r : Except Int (Nat × Nat)} {a b c d : Int32} {x : Int} (h : TpR f n r a b c d) (hx : Sg (cB f n) x r) : c.toInt = x := by
  obtain ⟨s, rfl, e⟩ := hx
  exact h.2.2.2.trans e
