set_option maxRecDepth 16384
/-! rules as lists of operations: what the class makes of them, and what the reference does -/
def ev_v (wd : Nat → Int64) (o : Int) : Int64 := if o < 100000 then Int64.ofInt o else wd (o - 100000).toNat
def ev_j (o : Int) (x y : Int64) : Int64 := if o = -12 then x + y else if o = -13 then x - y else if o = -14 then x * y else if o = -15 then (if y = 0 then 0 else x / y) else if o = -16 then (if y = 0 then 0 else x - x / y * y) else if o = -5 then (if x ≠ 0 ∧ y ≠ 0 then 1 else 0) else if o = -6 then (if x ≠ 0 ∨ y ≠ 0 then 1 else 0) else if o = -7 then (if x < y then 1 else 0) else if o = -8 then (if x ≤ y then 1 else 0) else if o = -9 then (if x = y then 1 else 0) else if o = -10 then (if y ≤ x then 1 else 0) else if o = -11 then (if y < x then 1 else 0) else 0
def ev_r (o : Int) (x y : Int64) : Int64 := if o = -5 then x &&& y else if o = -6 then x ||| y else ev_j o x y
def ev_nt (st : List Int64) : List Int64 := match st with
  | [] => []
  | x :: t => (if x = 0 then 1 else 0) :: t
/-- the class: one list for all clauses -/
def ev_c (wd : Nat → Int64) : List Int → List Int64 → Int64
  | [], _ => 0
  | o :: c, st => if 0 ≤ o then (if 64 ≤ st.length then 0 else ev_c wd c (ev_v wd o :: st)) else if o = -2 then st.headD 0 else if o = -4 then ev_c wd c (ev_nt st) else match st with
    | y :: x :: t => if o = -3 then (if y = 0 then ev_c wd c t else x) else ev_c wd c (ev_j o x y :: t)
    | _ => 0
theorem ev_c_nil {wd : Nat → Int64} {st : List Int64} : ev_c wd [] st = 0 := rfl
theorem ev_c_c {wd : Nat → Int64} {o : Int} {c : List Int} {st : List Int64} : ev_c wd (o :: c) st = if 0 ≤ o then (if 64 ≤ st.length then 0 else ev_c wd c (ev_v wd o :: st)) else if o = -2 then st.headD 0 else if o = -4 then ev_c wd c (ev_nt st) else match st with
    | y :: x :: t => if o = -3 then (if y = 0 then ev_c wd c t else x) else ev_c wd c (ev_j o x y :: t)
    | _ => 0 := rfl
theorem ev_c_psh {wd : Nat → Int64} {o : Int} {c : List Int} {st : List Int64} (h : 0 ≤ o) (hl : st.length < 64) : ev_c wd (o :: c) st = ev_c wd c (ev_v wd o :: st) := by
  rw [ev_c_c, if_pos h, if_neg (by omega)]
theorem ev_c_full {wd : Nat → Int64} {o : Int} {c : List Int} {st : List Int64} (h : 0 ≤ o) (hl : 64 ≤ st.length) : ev_c wd (o :: c) st = 0 := by
  rw [ev_c_c, if_pos h, if_pos hl]
theorem ev_c_ans {wd : Nat → Int64} {c : List Int} {st : List Int64} : ev_c wd (-2 :: c) st = st.headD 0 := by
  rw [ev_c_c, if_neg (by decide), if_pos rfl]
theorem ev_c_not {wd : Nat → Int64} {c : List Int} {st : List Int64} : ev_c wd (-4 :: c) st = ev_c wd c (ev_nt st) := by
  rw [ev_c_c, if_neg (by decide), if_neg (by decide), if_pos rfl]
theorem ev_c_if {wd : Nat → Int64} {c : List Int} {y x : Int64} {t : List Int64} : ev_c wd (-3 :: c) (y :: x :: t) = if y = 0 then ev_c wd c t else x := by
  rw [ev_c_c, if_neg (by decide), if_neg (by decide), if_neg (by decide)]
  exact if_pos rfl
theorem ev_c_two {wd : Nat → Int64} {o : Int} {c : List Int} {y x : Int64} {t : List Int64} (h : o < 0) (h2 : o ≠ -2) (h3 : o ≠ -3) (h4 : o ≠ -4) : ev_c wd (o :: c) (y :: x :: t) = ev_c wd c (ev_j o x y :: t) := by
  rw [ev_c_c, if_neg (by omega), if_neg h2, if_neg h4]
  exact if_neg h3
theorem ev_c_few {wd : Nat → Int64} {o : Int} {c : List Int} {st : List Int64} (h : o < 0) (h2 : o ≠ -2) (h4 : o ≠ -4) (hl : st.length < 2) : ev_c wd (o :: c) st = 0 := by
  rw [ev_c_c, if_neg (by omega), if_neg h2, if_neg h4]
  match st, hl with
  | [], _ => rfl
  | [_], _ => rfl
  | _ :: _ :: _, hl => exact absurd hl (by simp)
/-- the reference: one operation, a list of them -/
def ev_u (wd : Nat → Int64) (o : Int) (st : List Int64) : List Int64 := if 0 ≤ o then ev_v wd o :: st else if o = -4 then (match st with
    | [] => []
    | x :: t => (1 - x) :: t) else match st with
    | y :: x :: t => ev_r o x y :: t
    | _ => st
def ev_s (wd : Nat → Int64) : List Int → List Int64 → List Int64
  | [], st => st
  | o :: c, st => ev_s wd c (ev_u wd o st)
theorem ev_s_nil {wd : Nat → Int64} {st : List Int64} : ev_s wd [] st = st := rfl
theorem ev_s_cons {wd : Nat → Int64} {o : Int} {c : List Int} {st : List Int64} : ev_s wd (o :: c) st = ev_s wd c (ev_u wd o st) := rfl
theorem ev_s_app {wd : Nat → Int64} : ∀ (c d : List Int) (st : List Int64), ev_s wd (c ++ d) st = ev_s wd d (ev_s wd c st)
  | [], _, _ => rfl
  | o :: c, d, st => ev_s_app c d (ev_u wd o st)
theorem ev_u_psh {wd : Nat → Int64} {o : Int} {st : List Int64} (h : 0 ≤ o) : ev_u wd o st = ev_v wd o :: st := if_pos h
theorem ev_u_not {wd : Nat → Int64} {x : Int64} {t : List Int64} : ev_u wd (-4) (x :: t) = (1 - x) :: t := (if_neg (by decide)).trans (if_pos rfl)
theorem ev_u_two {wd : Nat → Int64} {o : Int} {y x : Int64} {t : List Int64} (h : o < 0) (h4 : o ≠ -4) : ev_u wd o (y :: x :: t) = ev_r o x y :: t := (if_neg (by omega)).trans (if_neg h4)
/-! kinds: true is a yes or no (0, 1) -/
def ev_k (o : Int) (k : List Bool) : Option (List Bool) := if 0 ≤ o then (if o < 100013 then some (false :: k) else none) else if o = -4 then (match k with
    | true :: t => some (true :: t)
    | _ => none) else if o = -5 ∨ o = -6 then (match k with
    | true :: true :: t => some (true :: t)
    | _ => none) else if -11 ≤ o ∧ o ≤ -7 then (match k with
    | false :: false :: t => some (true :: t)
    | _ => none) else if -16 ≤ o ∧ o ≤ -12 then (match k with
    | false :: false :: t => some (false :: t)
    | _ => none) else none
def ev_t : List Int → List Bool → Option (List Bool)
  | [], k => some k
  | o :: c, k => match ev_k o k with
    | none => none
    | some k' => ev_t c k'
def ev_ok : List Int64 → List Bool → Prop
  | [], [] => True
  | v :: st, b :: k => (b = true → v = 0 ∨ v = 1) ∧ ev_ok st k
  | _, _ => False
def ev_p (o : Int) : Nat := if 0 ≤ o then 1 else 0
def ev_n : List Int → Nat
  | [] => 0
  | o :: c => ev_p o + ev_n c
theorem ev_n_app : ∀ (c d : List Int), ev_n (c ++ d) = ev_n c + ev_n d
  | [], d => by show ev_n d = 0 + ev_n d; omega
  | o :: c, d => by
    show ev_p o + ev_n (c ++ d) = ev_p o + ev_n c + ev_n d
    rw [ev_n_app c d]; omega
theorem ev_t_app : ∀ (c d : List Int) (k k' : List Bool), ev_t c k = some k' → ev_t (c ++ d) k = ev_t d k'
  | [], d, k, k', h => by cases h; rfl
  | o :: c, d, k, k', h => by
    show (match ev_k o k with | none => none | some k1 => ev_t (c ++ d) k1) = ev_t d k'
    have h : (match ev_k o k with | none => none | some k1 => ev_t c k1) = some k' := h
    cases e : ev_k o k with
    | none => rw [e] at h; cases h
    | some k1 => rw [e] at h; exact ev_t_app c d k1 k' h
theorem ev_j_cmp {o : Int} {x y : Int64} (h : -11 ≤ o ∧ o ≤ -7) : ev_j o x y = 0 ∨ ev_j o x y = 1 := by
  unfold ev_j
  rw [if_neg (by omega), if_neg (by omega), if_neg (by omega), if_neg (by omega), if_neg (by omega), if_neg (by omega), if_neg (by omega)]
  split
  · split
    · exact Or.inr rfl
    · exact Or.inl rfl
  · split
    · split
      · exact Or.inr rfl
      · exact Or.inl rfl
    · split
      · split
        · exact Or.inr rfl
        · exact Or.inl rfl
      · split
        · split
          · exact Or.inr rfl
          · exact Or.inl rfl
        · split
          · split
            · exact Or.inr rfl
            · exact Or.inl rfl
          · exact Or.inl rfl
theorem ev_b2 {o : Int} {x y : Int64} (h : o = -5 ∨ o = -6) (hx : x = 0 ∨ x = 1) (hy : y = 0 ∨ y = 1) : ev_r o x y = ev_j o x y ∧ (ev_j o x y = 0 ∨ ev_j o x y = 1) := by
  rcases h with rfl | rfl <;> rcases hx with rfl | rfl <;> rcases hy with rfl | rfl <;> decide
theorem ev_r_j {o : Int} {x y : Int64} (h : o < -6) : ev_r o x y = ev_j o x y := by
  unfold ev_r
  rw [if_neg (by omega), if_neg (by omega)]
theorem ev_step {wd : Nat → Int64} {o : Int} {c : List Int} {st base : List Int64} {k k' : List Bool} (hk : ev_k o k = some k') (hs : ev_ok st k) (hl : st.length + base.length + ev_p o ≤ 64) : ev_c wd (o :: c) (st ++ base) = ev_c wd c (ev_u wd o st ++ base) ∧ ev_ok (ev_u wd o st) k' ∧ (ev_u wd o st).length ≤ st.length + ev_p o := by
  unfold ev_k at hk
  by_cases h0 : 0 ≤ o
  · rw [if_pos h0] at hk
    have hp : ev_p o = 1 := if_pos h0
    have hk : some (false :: k) = some k' := by
      by_cases y : o < 100013
      · rw [if_pos y] at hk; exact hk
      · rw [if_neg y] at hk; cases hk
    cases hk
    rw [ev_u_psh h0]
    refine ⟨?_, ⟨fun z => (by cases z), hs⟩, ?_⟩
    · exact ev_c_psh h0 (by rw [List.length_append]; omega)
    · show st.length + 1 ≤ st.length + ev_p o; omega
  · rw [if_neg h0] at hk
    by_cases h4 : o = -4
    · rw [if_pos h4] at hk
      subst h4
      match k, st, hs, hk with
      | true :: t, x :: s, hs, hk =>
        have hk : some (true :: t) = some k' := hk
        cases hk
        have hx := hs.1 rfl
        rw [ev_u_not]
        have e : (1 - x : Int64) = if x = 0 then 1 else 0 := by rcases hx with rfl | rfl <;> decide
        refine ⟨?_, ⟨fun _ => ?_, hs.2⟩, Nat.le_add_right _ _⟩
        · show ev_c wd (-4 :: c) (x :: (s ++ base)) = ev_c wd c ((1 - x) :: (s ++ base))
          rw [ev_c_not, e]; rfl
        · rcases hx with rfl | rfl <;> decide
      | false :: t, _, _, hk => cases (show none = some k' from hk)
      | [], _, _, hk => cases (show none = some k' from hk)
      | true :: t, [], hs, _ => exact (show False from hs).elim
    · rw [if_neg h4] at hk
      have two : ∀ (a b : Bool) (t : List Bool) (r : Bool), k = a :: b :: t → (∀ x y : Int64, (b = true → x = 0 ∨ x = 1) → (a = true → y = 0 ∨ y = 1) → ev_r o x y = ev_j o x y ∧ (r = true → ev_j o x y = 0 ∨ ev_j o x y = 1)) → k' = r :: t → o ≠ -2 → o ≠ -3 → ev_c wd (o :: c) (st ++ base) = ev_c wd c (ev_u wd o st ++ base) ∧ ev_ok (ev_u wd o st) k' ∧ (ev_u wd o st).length ≤ st.length + ev_p o := by
        intro a b t r ek hj ek' h2 h3
        subst ek ek'
        match st, hs with
        | y :: x :: s, hs =>
          have h1 := hj x y hs.2.1 hs.1
          rw [ev_u_two (by omega) h4]
          refine ⟨?_, ⟨fun z => ?_, hs.2.2⟩, ?_⟩
          · show ev_c wd (o :: c) (y :: x :: (s ++ base)) = ev_c wd c (ev_r o x y :: (s ++ base))
            rw [ev_c_two (by omega) h2 h3 h4, h1.1]
          · rw [h1.1]; exact h1.2 z
          · show s.length + 1 ≤ s.length + 1 + 1 + ev_p o; omega
        | [], hs => exact (show False from hs).elim
        | [_], hs => exact (show False from hs.2).elim
      by_cases h5 : o = -5 ∨ o = -6
      · rw [if_pos h5] at hk
        match k, hk, two with
        | true :: true :: t, hk, two =>
          have hk : some (true :: t) = some k' := hk
          cases hk
          exact two true true t true rfl (fun x y hx hy => ⟨(ev_b2 h5 (hx rfl) (hy rfl)).1, fun _ => (ev_b2 h5 (hx rfl) (hy rfl)).2⟩) rfl (by omega) (by omega)
        | [], hk, _ => cases (show none = some k' from hk)
        | [true], hk, _ => cases (show none = some k' from hk)
        | false :: _, hk, _ => cases (show none = some k' from hk)
        | true :: false :: _, hk, _ => cases (show none = some k' from hk)
      · rw [if_neg h5] at hk
        by_cases h7 : -11 ≤ o ∧ o ≤ -7
        · rw [if_pos h7] at hk
          match k, hk, two with
          | false :: false :: t, hk, two =>
            have hk : some (true :: t) = some k' := hk
            cases hk
            exact two false false t true rfl (fun x y _ _ => ⟨ev_r_j (by omega), fun _ => ev_j_cmp h7⟩) rfl (by omega) (by omega)
          | [], hk, _ => cases (show none = some k' from hk)
          | [false], hk, _ => cases (show none = some k' from hk)
          | true :: _, hk, _ => cases (show none = some k' from hk)
          | false :: true :: _, hk, _ => cases (show none = some k' from hk)
        · rw [if_neg h7] at hk
          by_cases h12 : -16 ≤ o ∧ o ≤ -12
          · rw [if_pos h12] at hk
            match k, hk, two with
            | false :: false :: t, hk, two =>
              have hk : some (false :: t) = some k' := hk
              cases hk
              exact two false false t false rfl (fun x y _ _ => ⟨ev_r_j (by omega), fun z => by cases z⟩) rfl (by omega) (by omega)
            | [], hk, _ => cases (show none = some k' from hk)
            | [false], hk, _ => cases (show none = some k' from hk)
            | true :: _, hk, _ => cases (show none = some k' from hk)
            | false :: true :: _, hk, _ => cases (show none = some k' from hk)
          · rw [if_neg h12] at hk; cases hk
theorem ev_k_push {o : Int} {k k' : List Bool} (h : ev_k o k = some k') (h0 : 0 ≤ o) : k' = false :: k ∧ o < 100013 := by
  unfold ev_k at h
  rw [if_pos h0] at h
  by_cases y : o < 100013
  · rw [if_pos y] at h; cases h; exact ⟨rfl, y⟩
  · rw [if_neg y] at h; cases h
/-- words from 13 on are never asked -/
theorem ev_s_wd {wd wd2 : Nat → Int64} (hw : ∀ k : Nat, k < 13 → wd k = wd2 k) : ∀ (c : List Int) (st : List Int64) (k k' : List Bool), ev_t c k = some k' → ev_s wd c st = ev_s wd2 c st
  | [], _, _, _, _ => rfl
  | o :: c, st, k, k', h => by
    have h : (match ev_k o k with | none => none | some k1 => ev_t c k1) = some k' := h
    cases e : ev_k o k with
    | none => rw [e] at h; cases h
    | some k1 =>
      rw [e] at h
      have eu : ev_u wd o st = ev_u wd2 o st := by
        by_cases h0 : 0 ≤ o
        · have hl := (ev_k_push e h0).2
          rw [ev_u_psh h0, ev_u_psh h0]
          unfold ev_v
          by_cases y : o < 100000
          · rw [if_pos y, if_pos y]
          · rw [if_neg y, if_neg y, hw _ (by omega)]
        · unfold ev_u
          rw [if_neg h0, if_neg h0]
      show ev_s wd c (ev_u wd o st) = ev_s wd2 c (ev_u wd2 o st)
      rw [eu]
      exact ev_s_wd hw c _ k1 k' h
/-- a list of operations: the class comes to where the reference does -/
theorem ev_run {wd : Nat → Int64} : ∀ (c d : List Int) (st base : List Int64) (k k' : List Bool), ev_t c k = some k' → ev_ok st k → st.length + base.length + ev_n c ≤ 64 → ev_c wd (c ++ d) (st ++ base) = ev_c wd d (ev_s wd c st ++ base) ∧ ev_ok (ev_s wd c st) k'
  | [], d, st, base, k, k', h, hs, _ => by cases h; exact ⟨rfl, hs⟩
  | o :: c, d, st, base, k, k', h, hs, hl => by
    have h : (match ev_k o k with | none => none | some k1 => ev_t c k1) = some k' := h
    have hn : ev_n (o :: c) = ev_p o + ev_n c := rfl
    cases e : ev_k o k with
    | none => rw [e] at h; cases h
    | some k1 =>
      rw [e] at h
      obtain ⟨h1, h2, h3⟩ := ev_step (wd := wd) (c := c ++ d) (base := base) e hs (by omega)
      obtain ⟨h4, h5⟩ := ev_run c d (ev_u wd o st) base k1 k' h h2 (by omega)
      exact ⟨h1.trans h4, h5⟩
/-! a rule: clauses, each a sum and perhaps a test -/
abbrev RuA := List (List Int × Option (List Int))
def ru_fl : RuA → List Int
  | [] => []
  | (s, none) :: cs => s ++ -2 :: ru_fl cs
  | (s, some t) :: cs => s ++ (t ++ -3 :: ru_fl cs)
def ru_sum (wd : Nat → Int64) : RuA → Int64
  | [] => 0
  | (s, none) :: _ => (ev_s wd s []).headD 0
  | (s, some t) :: cs => if (ev_s wd t []).headD 0 = 1 then (ev_s wd s []).headD 0 else ru_sum wd cs
def ru_ok : RuA → Prop
  | [] => True
  | (s, none) :: cs => ev_t s [] = some [false] ∧ ev_n s ≤ 60 ∧ ru_ok cs
  | (s, some t) :: cs => ev_t s [] = some [false] ∧ ev_t t [] = some [true] ∧ ev_n s + ev_n t ≤ 60 ∧ ru_ok cs
theorem ev_one {st : List Int64} {b : Bool} (h : ev_ok st [b]) : ∃ v, st = [v] ∧ (b = true → v = 0 ∨ v = 1) := by
  match st, h with
  | [v], h => exact ⟨v, rfl, h.1⟩
  | [], h => exact (show False from h).elim
  | _ :: _ :: _, h => exact (show False from h.2).elim
theorem ru_eq {wd : Nat → Int64} : ∀ (R : RuA), ru_ok R → ev_c wd (ru_fl R) [] = ru_sum wd R
  | [], _ => ev_c_nil
  | (s, none) :: cs, h => by
    obtain ⟨h1, h2, -⟩ := h
    obtain ⟨e, ho⟩ := ev_run (wd := wd) s (-2 :: ru_fl cs) [] [] [] [false] h1 trivial (by show 0 + 0 + ev_n s ≤ 64; omega)
    show ev_c wd (s ++ -2 :: ru_fl cs) [] = (ev_s wd s []).headD 0
    have e : ev_c wd (s ++ -2 :: ru_fl cs) [] = ev_c wd (-2 :: ru_fl cs) (ev_s wd s [] ++ []) := e
    rw [e, List.append_nil, ev_c_ans]
  | (s, some t) :: cs, h => by
    obtain ⟨h1, h2, h3, h4⟩ := h
    obtain ⟨e, ho⟩ := ev_run (wd := wd) s (t ++ -3 :: ru_fl cs) [] [] [] [false] h1 trivial (by show 0 + 0 + ev_n s ≤ 64; omega)
    obtain ⟨v, ev, -⟩ := ev_one ho
    obtain ⟨e2, ho2⟩ := ev_run (wd := wd) t (-3 :: ru_fl cs) [] [v] [] [true] h2 trivial (by show 0 + 1 + ev_n t ≤ 64; omega)
    obtain ⟨b, eb, hb⟩ := ev_one ho2
    have e : ev_c wd (s ++ (t ++ -3 :: ru_fl cs)) [] = ev_c wd (t ++ -3 :: ru_fl cs) (ev_s wd s [] ++ []) := e
    have e2 : ev_c wd (t ++ -3 :: ru_fl cs) [v] = ev_c wd (-3 :: ru_fl cs) (ev_s wd t [] ++ [v]) := e2
    show ev_c wd (s ++ (t ++ -3 :: ru_fl cs)) [] = if (ev_s wd t []).headD 0 = 1 then (ev_s wd s []).headD 0 else ru_sum wd cs
    rw [e, List.append_nil, ev, e2, eb]
    show ev_c wd (-3 :: ru_fl cs) (b :: v :: []) = if b = 1 then v else ru_sum wd cs
    rw [ev_c_if, ru_eq cs h4]
    rcases hb rfl with rfl | rfl
    · rw [if_pos rfl, if_neg (by decide)]
    · rw [if_neg (by decide), if_pos rfl]
theorem ru_sum_wd {wd wd2 : Nat → Int64} (hw : ∀ k : Nat, k < 13 → wd k = wd2 k) : ∀ (R : RuA), ru_ok R → ru_sum wd R = ru_sum wd2 R
  | [], _ => rfl
  | (s, none) :: cs, h => by
    show (ev_s wd s []).headD 0 = (ev_s wd2 s []).headD 0
    rw [ev_s_wd hw s [] [] [false] h.1]
  | (s, some t) :: cs, h => by
    show (if (ev_s wd t []).headD 0 = 1 then (ev_s wd s []).headD 0 else ru_sum wd cs) = (if (ev_s wd2 t []).headD 0 = 1 then (ev_s wd2 s []).headD 0 else ru_sum wd2 cs)
    rw [ev_s_wd hw s [] [] [false] h.1, ev_s_wd hw t [] [] [true] h.2.1, ru_sum_wd hw cs h.2.2.2]
/-! stacks in arrays -/
def hst (g : Nat → Int64) : Nat → List Int64
  | 0 => []
  | n + 1 => g n :: hst g n
theorem hst_len (g : Nat → Int64) : ∀ n, (hst g n).length = n
  | 0 => rfl
  | n + 1 => by show (hst g n).length + 1 = n + 1; rw [hst_len g n]
theorem hst_up {g g' : Nat → Int64} {i : Nat} {x : Int64} (e : g' = vp_updL g i x) : ∀ n, n ≤ i → hst g' n = hst g n
  | 0, _ => rfl
  | n + 1, h => by
    show g' n :: hst g' n = g n :: hst g n
    rw [hst_up e n (by omega), e]
    show (if n = i then x else g n) :: _ = _
    rw [if_neg (by omega)]
theorem hst_at {g g' : Nat → Int64} {i : Nat} {x : Int64} (e : g' = vp_updL g i x) : hst g' (i + 1) = x :: hst g i := by
  show g' i :: hst g' i = x :: hst g i
  rw [hst_up e i (Nat.le_refl _), e]
  show (if i = i then x else g i) :: _ = _
  rw [if_pos rfl]
