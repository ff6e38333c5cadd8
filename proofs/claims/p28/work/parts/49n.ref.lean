set_option maxRecDepth 16384
def ok_os (f : Nat → Int32) : Nat → List Nat × Nat
  | 0 => ([10], 0)
  | k + 1 => if (f k).toInt = 11 then ((ok_os f k).1, (ok_os f k).2 + 1) else if (f k).toInt = 91 then ((10 - ((ok_os f k).2 + 1)) :: (ok_os f k).1, (ok_os f k).2 + 1) else ok_os f k
def ok_gs (f : Nat → Int32) (n : Nat) : Prop := ∀ k, k + 1 < n → ((f (k + 1)).toInt = 12 ∨ (f (k + 1)).toInt = 13) → (f k).toInt ≠ 11
theorem ok_os_11 {f : Nat → Int32} {k : Nat} (h : (f k).toInt = 11) : ok_os f (k + 1) = ((ok_os f k).1, (ok_os f k).2 + 1) := if_pos h
theorem ok_os_91 {f : Nat → Int32} {k : Nat} (h : (f k).toInt = 91) : ok_os f (k + 1) = ((10 - ((ok_os f k).2 + 1)) :: (ok_os f k).1, (ok_os f k).2 + 1) := (if_neg (by omega)).trans (if_pos h)
theorem ok_os_no {f : Nat → Int32} {k : Nat} (h : ¬ (f k).toInt = 11) (h2 : ¬ (f k).toInt = 91) : ok_os f (k + 1) = ok_os f k := (if_neg h).trans (if_neg h2)
theorem ok_os_eq {f g : Nat → Int32} : ∀ n, (∀ k, k < n → f k = g k) → ok_os f n = ok_os g n
  | 0, _ => rfl
  | n + 1, h => by
    have e := ok_os_eq n (fun k hk => h k (by omega))
    show (if (f n).toInt = 11 then ((ok_os f n).1, (ok_os f n).2 + 1) else if (f n).toInt = 91 then ((10 - ((ok_os f n).2 + 1)) :: (ok_os f n).1, (ok_os f n).2 + 1) else ok_os f n) = (if (g n).toInt = 11 then ((ok_os g n).1, (ok_os g n).2 + 1) else if (g n).toInt = 91 then ((10 - ((ok_os g n).2 + 1)) :: (ok_os g n).1, (ok_os g n).2 + 1) else ok_os g n)
    rw [e, h n (by omega)]
theorem ok_os_ne {f : Nat → Int32} : ∀ n, ∃ m S, (ok_os f n).1 = m :: S
  | 0 => ⟨10, [], rfl⟩
  | n + 1 => by
    by_cases h : (f n).toInt = 11
    · rw [ok_os_11 h]; exact ok_os_ne n
    · by_cases h2 : (f n).toInt = 91
      · rw [ok_os_91 h2]; exact ⟨_, _, rfl⟩
      · rw [ok_os_no h h2]; exact ok_os_ne n
theorem ok_os_hd {f : Nat → Int32} : ∀ n, ok_gs f n → (∀ k, k < n → (f k).toInt = 11 ∨ (f k).toInt = 12 ∨ (f k).toInt = 13 ∨ (f k).toInt = 91) → (n = 0 ∨ (f (n - 1)).toInt ≠ 11) → ∃ S, (ok_os f n).1 = (10 - (ok_os f n).2) :: S
  | 0, _, _, _ => ⟨[], rfl⟩
  | n + 1, hg, hk, ht => by
    have ht : (f n).toInt ≠ 11 := by
      rcases ht with h | h
      · omega
      · exact h
    by_cases h2 : (f n).toInt = 91
    · rw [ok_os_91 h2]; exact ⟨_, rfl⟩
    · rw [ok_os_no ht h2]
      refine ok_os_hd n (fun k hk => hg k (by omega)) (fun k h => hk k (by omega)) ?_
      by_cases z : n = 0
      · exact Or.inl z
      · right
        have h3 := hk n (by omega)
        have h4 := hg (n - 1) (by omega)
        rw [show n - 1 + 1 = n by omega] at h4
        exact h4 (by omega)
theorem ok_os_nins {f : Nat → Int32} : ∀ n : Nat, (∀ k : Nat, k < n → (f k).toInt ≠ 91) → (ok_os f n).1 = [10]
  | 0, _ => rfl
  | n + 1, h => by
    have e := ok_os_nins n (fun k hk => h k (by omega))
    by_cases h1 : (f n).toInt = 11
    · rw [ok_os_11 h1]; exact e
    · rw [ok_os_no h1 (h n (by omega))]; exact e
theorem ok_os_ins {f : Nat → Int32} : ∀ n : Nat, (∃ k : Nat, k < n ∧ (f k).toInt = 91) → ∃ m m' S, (ok_os f n).1 = m :: m' :: S
  | 0, h => by obtain ⟨k, h1, _⟩ := h; omega
  | n + 1, h => by
    by_cases h2 : (f n).toInt = 91
    · rw [ok_os_91 h2]
      obtain ⟨m, S, e⟩ := ok_os_ne (f := f) n
      rw [e]; exact ⟨_, _, _, rfl⟩
    · have ih : ∃ m m' S, (ok_os f n).1 = m :: m' :: S := ok_os_ins n (by
        obtain ⟨k, h3, h4⟩ := h
        refine ⟨k, ?_, h4⟩
        rcases Nat.lt_or_ge k n with z | z
        · exact z
        · exfalso; exact h2 (by rw [show n = k by omega]; exact h4))
      by_cases h1 : (f n).toInt = 11
      · rw [ok_os_11 h1]; exact ih
      · rw [ok_os_no h1 h2]; exact ih
def OsP (f : Nat → Int32) (n dp : Int32) : Prop := 0 ≤ n.toInt ∧ dp.toInt = ((ok_os f n.toInt.toNat).2 : Int) ∧ dp.toInt ≤ 10 ∧ ok_gs f n.toInt.toNat ∧ ∀ k : Nat, (k : Int) < n.toInt → (f k).toInt = 11 ∨ (f k).toInt = 12 ∨ (f k).toInt = 13 ∨ (f k).toInt = 91
theorem OsP.ar {f : Nat → Int32} {n dp : Int32} (h : OsP f n dp) : 0 ≤ n.toInt ∧ 0 ≤ dp.toInt ∧ dp.toInt ≤ 10 := by
  obtain ⟨h1, h2, h3, -, -⟩ := h
  omega
theorem OsP.nil {f : Nat → Int32} {n dp : Int32} (hn : n.toInt = 0) (hd : dp.toInt = 0) : OsP f n dp := by
  refine ⟨by omega, ?_, by omega, ?_, fun k hk => by omega⟩
  · rw [hn, hd]; rfl
  · rw [hn]; intro k hk; exact absurd hk (by simp)
def T11 (f : Nat → Int32) (n : Int32) : Prop := n.toInt = 0 ∨ (f (n.toInt.toNat - 1)).toInt ≠ 11
theorem OsP.hd {f : Nat → Int32} {n dp : Int32} (h : OsP f n dp) (ht : T11 f n) : ∃ S, (ok_os f n.toInt.toNat).1 = (10 - dp.toInt.toNat) :: S := by
  obtain ⟨h1, h2, h3, h4, h5⟩ := h
  have := ok_os_hd n.toInt.toNat h4 (fun k hk => h5 k (by omega)) (by rcases ht with z | z; exact Or.inl (by omega); exact Or.inr z)
  rw [show dp.toInt.toNat = (ok_os f n.toInt.toNat).2 by omega]
  exact this
theorem OsP.push {f g : Nat → Int32} {n n' dp dp' x : Int32} (h : OsP f n dp) (e : g = upd f n.toNatClampNeg x) (hn : n'.toInt = n.toInt + 1) (hx : (x.toInt = 11 ∧ dp'.toInt = dp.toInt + 1 ∧ dp.toInt < 10) ∨ (x.toInt = 91 ∧ dp'.toInt = dp.toInt + 1 ∧ dp.toInt < 10) ∨ ((x.toInt = 12 ∨ x.toInt = 13) ∧ dp'.toInt = dp.toInt ∧ T11 f n)) : OsP g n' dp' ∧ (ok_os g n'.toInt.toNat).1 = if x.toInt = 91 then (10 - dp'.toInt.toNat) :: (ok_os f n.toInt.toNat).1 else (ok_os f n.toInt.toNat).1 := by
  obtain ⟨h1, h2, h3, h4, h5⟩ := h
  have en : n.toNatClampNeg = n.toInt.toNat := rfl
  rw [en] at e
  have e1 : n'.toInt.toNat = n.toInt.toNat + 1 := by omega
  have eg : ∀ k, k < n.toInt.toNat → g k = f k := fun k hk => by rw [e, upd_ne (by omega)]
  have ex : g n.toInt.toNat = x := by rw [e, upd_at]
  have eo := ok_os_eq n.toInt.toNat eg
  have hk5 : ∀ k : Nat, (k : Int) < n'.toInt → (g k).toInt = 11 ∨ (g k).toInt = 12 ∨ (g k).toInt = 13 ∨ (g k).toInt = 91 := fun k hk => by
    by_cases z : k < n.toInt.toNat
    · rw [eg k z]; exact h5 k (by omega)
    · rw [show k = n.toInt.toNat by omega, ex]; omega
  have hgs : (x.toInt = 12 ∨ x.toInt = 13 → T11 f n) → ok_gs g n'.toInt.toNat := fun ht k hk hv => by
    rw [e1] at hk
    rw [eg k (by omega)]
    by_cases z : k + 1 < n.toInt.toNat
    · rw [eg (k + 1) z] at hv; exact h4 k z hv
    · rw [show k + 1 = n.toInt.toNat by omega, ex] at hv
      rcases ht hv with y | y
      · omega
      · rw [show n.toInt.toNat - 1 = k by omega] at y; exact y
  rcases hx with ⟨a, b, c⟩ | ⟨a, b, c⟩ | ⟨a, b, c⟩
  · have e2 : ok_os g n'.toInt.toNat = ((ok_os f n.toInt.toNat).1, (ok_os f n.toInt.toNat).2 + 1) := by rw [e1, ok_os_11 (by rw [ex]; exact a), eo]
    refine ⟨⟨by omega, ?_, by omega, hgs (fun z => by omega), hk5⟩, ?_⟩
    · rw [e2]; show dp'.toInt = (((ok_os f n.toInt.toNat).2 + 1 : Nat) : Int); omega
    · rw [e2, if_neg (by omega)]
  · have e2 : ok_os g n'.toInt.toNat = ((10 - ((ok_os f n.toInt.toNat).2 + 1)) :: (ok_os f n.toInt.toNat).1, (ok_os f n.toInt.toNat).2 + 1) := by rw [e1, ok_os_91 (by rw [ex]; exact a), eo]
    refine ⟨⟨by omega, ?_, by omega, hgs (fun z => by omega), hk5⟩, ?_⟩
    · rw [e2]; show dp'.toInt = (((ok_os f n.toInt.toNat).2 + 1 : Nat) : Int); omega
    · rw [e2, if_pos a, show dp'.toInt.toNat = (ok_os f n.toInt.toNat).2 + 1 by omega]
  · have e2 : ok_os g n'.toInt.toNat = ok_os f n.toInt.toNat := by rw [e1, ok_os_no (by rw [ex]; omega) (by rw [ex]; omega), eo]
    refine ⟨⟨by omega, ?_, by omega, hgs (fun _ => c), hk5⟩, ?_⟩
    · rw [e2]; omega
    · rw [e2, if_neg (by omega)]
theorem OsP.pop {f : Nat → Int32} {n n' dp dp' x : Int32} (h : OsP f n dp) (ex : x = f n'.toNatClampNeg) (hn : n'.toInt = n.toInt - 1) (h0 : 1 ≤ n.toInt) (hx : (x.toInt = 11 ∧ dp'.toInt = dp.toInt - 1) ∨ ((x.toInt = 12 ∨ x.toInt = 13) ∧ dp'.toInt = dp.toInt) ∨ (x.toInt = 91 ∧ dp'.toInt = dp.toInt - 1)) : OsP f n' dp' ∧ (¬ x.toInt = 91 → (ok_os f n'.toInt.toNat).1 = (ok_os f n.toInt.toNat).1) ∧ (x.toInt = 91 → ∃ m, (ok_os f n.toInt.toNat).1 = m :: (ok_os f n'.toInt.toNat).1) := by
  obtain ⟨h1, h2, h3, h4, h5⟩ := h
  have en : n'.toNatClampNeg = n'.toInt.toNat := rfl
  rw [en] at ex
  have e1 : n.toInt.toNat = n'.toInt.toNat + 1 := by omega
  have hg : ok_gs f n'.toInt.toNat := fun k hk => h4 k (by omega)
  have hk5 : ∀ k : Nat, (k : Int) < n'.toInt → (f k).toInt = 11 ∨ (f k).toInt = 12 ∨ (f k).toInt = 13 ∨ (f k).toInt = 91 := fun k hk => h5 k (by omega)
  rw [e1] at h2
  rcases hx with ⟨a, b⟩ | ⟨a, b⟩ | ⟨a, b⟩
  · have e2 := ok_os_11 (f := f) (k := n'.toInt.toNat) (by rw [← ex]; exact a)
    rw [e2] at h2
    have h2 : dp.toInt = (((ok_os f n'.toInt.toNat).2 + 1 : Nat) : Int) := h2
    refine ⟨⟨by omega, by omega, by omega, hg, hk5⟩, fun _ => ?_, fun z => by omega⟩
    rw [e1, e2]
  · have e2 := ok_os_no (f := f) (k := n'.toInt.toNat) (by rw [← ex]; omega) (by rw [← ex]; omega)
    rw [e2] at h2
    refine ⟨⟨by omega, by omega, by omega, hg, hk5⟩, fun _ => ?_, fun z => by omega⟩
    rw [e1, e2]
  · have e2 := ok_os_91 (f := f) (k := n'.toInt.toNat) (by rw [← ex]; exact a)
    rw [e2] at h2
    have h2 : dp.toInt = (((ok_os f n'.toInt.toNat).2 + 1 : Nat) : Int) := h2
    refine ⟨⟨by omega, by omega, by omega, hg, hk5⟩, fun z => absurd a z, fun _ => ?_⟩
    rw [e1, e2]; exact ⟨_, rfl⟩
