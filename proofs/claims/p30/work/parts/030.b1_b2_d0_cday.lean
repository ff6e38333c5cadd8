set_option maxRecDepth 16384
def ev_v (wd : Nat → Int64) (o : Int) : Int64 := if o < 100000 then Int64.ofInt o else wd (o - 100000).toNat
def ev_j (o : Int) (x y : Int64) : Int64 := if o = -12 then x + y else if o = -13 then x - y else if o = -14 then x * y else if o = -15 then (if y = 0 then 0 else x / y) else if o = -16 then (if y = 0 then 0 else x - x / y * y) else if o = -5 then (if x ≠ 0 ∧ y ≠ 0 then 1 else 0) else if o = -6 then (if x ≠ 0 ∨ y ≠ 0 then 1 else 0) else if o = -7 then (if x < y then 1 else 0) else if o = -8 then (if x ≤ y then 1 else 0) else if o = -9 then (if x = y then 1 else 0) else if o = -10 then (if y ≤ x then 1 else 0) else if o = -11 then (if y < x then 1 else 0) else 0
def ev_r (o : Int) (x y : Int64) : Int64 := if o = -5 then x &&& y else if o = -6 then x ||| y else ev_j o x y
def ev_nt (st : List Int64) : List Int64 := match st with
  | [] => []
  | x :: t => (if x = 0 then 1 else 0) :: t
def ev_c (wd : Nat → Int64) : List Int → List Int64 → Int64
  | [], _ => 0
  | o :: c, st => if 0 ≤ o then (if 64 ≤ st.length then 0 else ev_c wd c (ev_v wd o :: st)) else if o = -2 then st.headD 0 else if o = -4 then ev_c wd c (ev_nt st) else match st with
    | y :: x :: t => if o = -3 then (if y = 0 then ev_c wd c t else x) else ev_c wd c (ev_j o x y :: t)
    | _ => 0
theorem ev_c_nil {wd : Nat → Int64} {st : List Int64} : ev_c wd [] st = 0 := rfl
theorem ev_c_c {wd : Nat → Int64} {o : Int} {c : List Int} {st : List Int64} : ev_c wd (o :: c) st = if 0 ≤ o then (if 64 ≤ st.length then 0 else ev_c wd c (ev_v wd o :: st)) else if o = -2 then st.headD 0 else if o = -4 then ev_c wd c (ev_nt st) else match st with
    | y :: x :: t => if o = -3 then (if y = 0 then ev_c wd c t else x) else ev_c wd c (ev_j o x y :: t)
    | _ => 0 := rfl
theorem ev_c_psh {wd : Nat → Int64} {o : Int} {c : List Int} {st : List Int64} (h : 0 ≤ o) (hl : st.length < 64) : ev_c wd (o :: c) st = ev_c wd c (ev_v wd o :: st) := by
  rw [ev_c_c, if_pos h, if_neg (by omega)]
theorem ev_c_full {wd : Nat → Int64} {o : Int} {c : List Int} {st : List Int64} (h : 0 ≤ o) (hl : 64 ≤ st.length) : ev_c wd (o :: c) st = 0 := by
  rw [ev_c_c, if_pos h, if_pos hl]
theorem ev_c_ans {wd : Nat → Int64} {c : List Int} {st : List Int64} : ev_c wd (-2 :: c) st = st.headD 0 := by
  rw [ev_c_c, if_neg (by decide), if_pos rfl]
theorem ev_c_not {wd : Nat → Int64} {c : List Int} {st : List Int64} : ev_c wd (-4 :: c) st = ev_c wd c (ev_nt st) := by
  rw [ev_c_c, if_neg (by decide), if_neg (by decide), if_pos rfl]
theorem ev_c_if {wd : Nat → Int64} {c : List Int} {y x : Int64} {t : List Int64} : ev_c wd (-3 :: c) (y :: x :: t) = if y = 0 then ev_c wd c t else x := by
  rw [ev_c_c, if_neg (by decide), if_neg (by decide), if_neg (by decide)]
  exact if_pos rfl
theorem ev_c_two {wd : Nat → Int64} {o : Int} {c : List Int} {y x : Int64} {t : List Int64} (h : o < 0) (h2 : o ≠ -2) (h3 : o ≠ -3) (h4 : o ≠ -4) : ev_c wd (o :: c) (y :: x :: t) = ev_c wd c (ev_j o x y :: t) := by
  rw [ev_c_c, if_neg (by omega), if_neg h2, if_neg h4]
  exact if_neg h3
theorem ev_c_few {wd : Nat → Int64} {o : Int} {c : List Int} {st : List Int64} (h : o < 0) (h2 : o ≠ -2) (h4 : o ≠ -4) (hl : st.length < 2) : ev_c wd (o :: c) st = 0 := by
  rw [ev_c_c, if_neg (by omega), if_neg h2, if_neg h4]
  match st, hl with
  | [], _ => rfl
  | [_], _ => rfl
  | _ :: _ :: _, hl => exact absurd hl (by simp)
def ev_u (wd : Nat → Int64) (o : Int) (st : List Int64) : List Int64 := if 0 ≤ o then ev_v wd o :: st else if o = -4 then (match st with
    | [] => []
    | x :: t => (1 - x) :: t) else match st with
    | y :: x :: t => ev_r o x y :: t
    | _ => st
def ev_s (wd : Nat → Int64) : List Int → List Int64 → List Int64
  | [], st => st
  | o :: c, st => ev_s wd c (ev_u wd o st)
theorem ev_s_cons {wd : Nat → Int64} {o : Int} {c : List Int} {st : List Int64} : ev_s wd (o :: c) st = ev_s wd c (ev_u wd o st) := rfl
theorem ev_u_psh {wd : Nat → Int64} {o : Int} {st : List Int64} (h : 0 ≤ o) : ev_u wd o st = ev_v wd o :: st := if_pos h
theorem ev_u_not {wd : Nat → Int64} {x : Int64} {t : List Int64} : ev_u wd (-4) (x :: t) = (1 - x) :: t := (if_neg (by decide)).trans (if_pos rfl)
theorem ev_u_two {wd : Nat → Int64} {o : Int} {y x : Int64} {t : List Int64} (h : o < 0) (h4 : o ≠ -4) : ev_u wd o (y :: x :: t) = ev_r o x y :: t := (if_neg (by omega)).trans (if_neg h4)
def ev_k (o : Int) (k : List Bool) : Option (List Bool) := if 0 ≤ o then (if o < 100013 then some (false :: k) else none) else if o = -4 then (match k with
    | true :: t => some (true :: t)
    | _ => none) else if o = -5 ∨ o = -6 then (match k with
    | true :: true :: t => some (true :: t)
    | _ => none) else if -11 ≤ o ∧ o ≤ -7 then (match k with
    | false :: false :: t => some (true :: t)
    | _ => none) else if -16 ≤ o ∧ o ≤ -12 then (match k with
    | false :: false :: t => some (false :: t)
    | _ => none) else none
def ev_t : List Int → List Bool → Option (List Bool)
  | [], k => some k
  | o :: c, k => match ev_k o k with
    | none => none
    | some k' => ev_t c k'
def ev_ok : List Int64 → List Bool → Prop
  | [], [] => True
  | v :: st, b :: k => (b = true → v = 0 ∨ v = 1) ∧ ev_ok st k
  | _, _ => False
def ev_p (o : Int) : Nat := if 0 ≤ o then 1 else 0
def ev_n : List Int → Nat
  | [] => 0
  | o :: c => ev_p o + ev_n c
theorem ev_n_app : ∀ (c d : List Int), ev_n (c ++ d) = ev_n c + ev_n d
  | [], d => by show ev_n d = 0 + ev_n d; omega
  | o :: c, d => by
    show ev_p o + ev_n (c ++ d) = ev_p o + ev_n c + ev_n d
    rw [ev_n_app c d]; omega
theorem ev_t_app : ∀ (c d : List Int) (k k' : List Bool), ev_t c k = some k' → ev_t (c ++ d) k = ev_t d k'
  | [], d, k, k', h => by cases h; rfl
  | o :: c, d, k, k', h => by
    show (match ev_k o k with | none => none | some k1 => ev_t (c ++ d) k1) = ev_t d k'
    have h : (match ev_k o k with | none => none | some k1 => ev_t c k1) = some k' := h
    cases e : ev_k o k with
    | none => rw [e] at h; cases h
    | some k1 => rw [e] at h; exact ev_t_app c d k1 k' h
theorem ev_j_cmp {o : Int} {x y : Int64} (h : -11 ≤ o ∧ o ≤ -7) : ev_j o x y = 0 ∨ ev_j o x y = 1 := by
  unfold ev_j
  rw [if_neg (by omega), if_neg (by omega), if_neg (by omega), if_neg (by omega), if_neg (by omega), if_neg (by omega), if_neg (by omega)]
  split
  · split
    · exact Or.inr rfl
    · exact Or.inl rfl
  · split
    · split
      · exact Or.inr rfl
      · exact Or.inl rfl
    · split
      · split
        · exact Or.inr rfl
        · exact Or.inl rfl
      · split
        · split
          · exact Or.inr rfl
          · exact Or.inl rfl
        · split
          · split
            · exact Or.inr rfl
            · exact Or.inl rfl
          · exact Or.inl rfl
theorem ev_b2 {o : Int} {x y : Int64} (h : o = -5 ∨ o = -6) (hx : x = 0 ∨ x = 1) (hy : y = 0 ∨ y = 1) : ev_r o x y = ev_j o x y ∧ (ev_j o x y = 0 ∨ ev_j o x y = 1) := by
  rcases h with rfl | rfl <;> rcases hx with rfl | rfl <;> rcases hy with rfl | rfl <;> decide
theorem ev_r_j {o : Int} {x y : Int64} (h : o < -6) : ev_r o x y = ev_j o x y := by
  unfold ev_r
  rw [if_neg (by omega), if_neg (by omega)]
theorem ev_step {wd : Nat → Int64} {o : Int} {c : List Int} {st base : List Int64} {k k' : List Bool} (hk : ev_k o k = some k') (hs : ev_ok st k) (hl : st.length + base.length + ev_p o ≤ 64) : ev_c wd (o :: c) (st ++ base) = ev_c wd c (ev_u wd o st ++ base) ∧ ev_ok (ev_u wd o st) k' ∧ (ev_u wd o st).length ≤ st.length + ev_p o := by
  unfold ev_k at hk
  by_cases h0 : 0 ≤ o
  · rw [if_pos h0] at hk
    have hp : ev_p o = 1 := if_pos h0
    have hk : some (false :: k) = some k' := by
      by_cases y : o < 100013
      · rw [if_pos y] at hk; exact hk
      · rw [if_neg y] at hk; cases hk
    cases hk
    rw [ev_u_psh h0]
    refine ⟨?_, ⟨fun z => (by cases z), hs⟩, ?_⟩
    · exact ev_c_psh h0 (by rw [List.length_append]; omega)
    · show st.length + 1 ≤ st.length + ev_p o; omega
  · rw [if_neg h0] at hk
    by_cases h4 : o = -4
    · rw [if_pos h4] at hk
      subst h4
      match k, st, hs, hk with
      | true :: t, x :: s, hs, hk =>
        have hk : some (true :: t) = some k' := hk
        cases hk
        have hx := hs.1 rfl
        rw [ev_u_not]
        have e : (1 - x : Int64) = if x = 0 then 1 else 0 := by rcases hx with rfl | rfl <;> decide
        refine ⟨?_, ⟨fun _ => ?_, hs.2⟩, Nat.le_add_right _ _⟩
        · show ev_c wd (-4 :: c) (x :: (s ++ base)) = ev_c wd c ((1 - x) :: (s ++ base))
          rw [ev_c_not, e]; rfl
        · rcases hx with rfl | rfl <;> decide
      | false :: t, _, _, hk => cases (show none = some k' from hk)
      | [], _, _, hk => cases (show none = some k' from hk)
      | true :: t, [], hs, _ => exact (show False from hs).elim
    · rw [if_neg h4] at hk
      have two : ∀ (a b : Bool) (t : List Bool) (r : Bool), k = a :: b :: t → (∀ x y : Int64, (b = true → x = 0 ∨ x = 1) → (a = true → y = 0 ∨ y = 1) → ev_r o x y = ev_j o x y ∧ (r = true → ev_j o x y = 0 ∨ ev_j o x y = 1)) → k' = r :: t → o ≠ -2 → o ≠ -3 → ev_c wd (o :: c) (st ++ base) = ev_c wd c (ev_u wd o st ++ base) ∧ ev_ok (ev_u wd o st) k' ∧ (ev_u wd o st).length ≤ st.length + ev_p o := by
        intro a b t r ek hj ek' h2 h3
        subst ek ek'
        match st, hs with
        | y :: x :: s, hs =>
          have h1 := hj x y hs.2.1 hs.1
          rw [ev_u_two (by omega) h4]
          refine ⟨?_, ⟨fun z => ?_, hs.2.2⟩, ?_⟩
          · show ev_c wd (o :: c) (y :: x :: (s ++ base)) = ev_c wd c (ev_r o x y :: (s ++ base))
            rw [ev_c_two (by omega) h2 h3 h4, h1.1]
          · rw [h1.1]; exact h1.2 z
          · show s.length + 1 ≤ s.length + 1 + 1 + ev_p o; omega
        | [], hs => exact (show False from hs).elim
        | [_], hs => exact (show False from hs.2).elim
      by_cases h5 : o = -5 ∨ o = -6
      · rw [if_pos h5] at hk
        match k, hk, two with
        | true :: true :: t, hk, two =>
          have hk : some (true :: t) = some k' := hk
          cases hk
          exact two true true t true rfl (fun x y hx hy => ⟨(ev_b2 h5 (hx rfl) (hy rfl)).1, fun _ => (ev_b2 h5 (hx rfl) (hy rfl)).2⟩) rfl (by omega) (by omega)
        | [], hk, _ => cases (show none = some k' from hk)
        | [true], hk, _ => cases (show none = some k' from hk)
        | false :: _, hk, _ => cases (show none = some k' from hk)
        | true :: false :: _, hk, _ => cases (show none = some k' from hk)
      · rw [if_neg h5] at hk
        by_cases h7 : -11 ≤ o ∧ o ≤ -7
        · rw [if_pos h7] at hk
          match k, hk, two with
          | false :: false :: t, hk, two =>
            have hk : some (true :: t) = some k' := hk
            cases hk
            exact two false false t true rfl (fun x y _ _ => ⟨ev_r_j (by omega), fun _ => ev_j_cmp h7⟩) rfl (by omega) (by omega)
          | [], hk, _ => cases (show none = some k' from hk)
          | [false], hk, _ => cases (show none = some k' from hk)
          | true :: _, hk, _ => cases (show none = some k' from hk)
          | false :: true :: _, hk, _ => cases (show none = some k' from hk)
        · rw [if_neg h7] at hk
          by_cases h12 : -16 ≤ o ∧ o ≤ -12
          · rw [if_pos h12] at hk
            match k, hk, two with
            | false :: false :: t, hk, two =>
              have hk : some (false :: t) = some k' := hk
              cases hk
              exact two false false t false rfl (fun x y _ _ => ⟨ev_r_j (by omega), fun z => by cases z⟩) rfl (by omega) (by omega)
            | [], hk, _ => cases (show none = some k' from hk)
            | [false], hk, _ => cases (show none = some k' from hk)
            | true :: _, hk, _ => cases (show none = some k' from hk)
            | false :: true :: _, hk, _ => cases (show none = some k' from hk)
          · rw [if_neg h12] at hk; cases hk
theorem ev_k_push {o : Int} {k k' : List Bool} (h : ev_k o k = some k') (h0 : 0 ≤ o) : k' = false :: k ∧ o < 100013 := by
  unfold ev_k at h
  rw [if_pos h0] at h
  by_cases y : o < 100013
  · rw [if_pos y] at h; cases h; exact ⟨rfl, y⟩
  · rw [if_neg y] at h; cases h
theorem ev_s_wd {wd wd2 : Nat → Int64} (hw : ∀ k : Nat, k < 13 → wd k = wd2 k) : ∀ (c : List Int) (st : List Int64) (k k' : List Bool), ev_t c k = some k' → ev_s wd c st = ev_s wd2 c st
  | [], _, _, _, _ => rfl
  | o :: c, st, k, k', h => by
    have h : (match ev_k o k with | none => none | some k1 => ev_t c k1) = some k' := h
    cases e : ev_k o k with
    | none => rw [e] at h; cases h
    | some k1 =>
      rw [e] at h
      have eu : ev_u wd o st = ev_u wd2 o st := by
        by_cases h0 : 0 ≤ o
        · have hl := (ev_k_push e h0).2
          rw [ev_u_psh h0, ev_u_psh h0]
          unfold ev_v
          by_cases y : o < 100000
          · rw [if_pos y, if_pos y]
          · rw [if_neg y, if_neg y, hw _ (by omega)]
        · unfold ev_u
          rw [if_neg h0, if_neg h0]
      show ev_s wd c (ev_u wd o st) = ev_s wd2 c (ev_u wd2 o st)
      rw [eu]
      exact ev_s_wd hw c _ k1 k' h
theorem ev_run {wd : Nat → Int64} : ∀ (c d : List Int) (st base : List Int64) (k k' : List Bool), ev_t c k = some k' → ev_ok st k → st.length + base.length + ev_n c ≤ 64 → ev_c wd (c ++ d) (st ++ base) = ev_c wd d (ev_s wd c st ++ base) ∧ ev_ok (ev_s wd c st) k'
  | [], d, st, base, k, k', h, hs, _ => by cases h; exact ⟨rfl, hs⟩
  | o :: c, d, st, base, k, k', h, hs, hl => by
    have h : (match ev_k o k with | none => none | some k1 => ev_t c k1) = some k' := h
    have hn : ev_n (o :: c) = ev_p o + ev_n c := rfl
    cases e : ev_k o k with
    | none => rw [e] at h; cases h
    | some k1 =>
      rw [e] at h
      obtain ⟨h1, h2, h3⟩ := ev_step (wd := wd) (c := c ++ d) (base := base) e hs (by omega)
      obtain ⟨h4, h5⟩ := ev_run c d (ev_u wd o st) base k1 k' h h2 (by omega)
      exact ⟨h1.trans h4, h5⟩
abbrev RuA := List (List Int × Option (List Int))
def ru_fl : RuA → List Int
  | [] => []
  | (s, none) :: cs => s ++ -2 :: ru_fl cs
  | (s, some t) :: cs => s ++ (t ++ -3 :: ru_fl cs)
def ru_sum (wd : Nat → Int64) : RuA → Int64
  | [] => 0
  | (s, none) :: _ => (ev_s wd s []).headD 0
  | (s, some t) :: cs => if (ev_s wd t []).headD 0 = 1 then (ev_s wd s []).headD 0 else ru_sum wd cs
def ru_ok : RuA → Prop
  | [] => True
  | (s, none) :: cs => ev_t s [] = some [false] ∧ ev_n s ≤ 60 ∧ ru_ok cs
  | (s, some t) :: cs => ev_t s [] = some [false] ∧ ev_t t [] = some [true] ∧ ev_n s + ev_n t ≤ 60 ∧ ru_ok cs
theorem ev_one {st : List Int64} {b : Bool} (h : ev_ok st [b]) : ∃ v, st = [v] ∧ (b = true → v = 0 ∨ v = 1) := by
  match st, h with
  | [v], h => exact ⟨v, rfl, h.1⟩
  | [], h => exact (show False from h).elim
  | _ :: _ :: _, h => exact (show False from h.2).elim
theorem ru_eq {wd : Nat → Int64} : ∀ (R : RuA), ru_ok R → ev_c wd (ru_fl R) [] = ru_sum wd R
  | [], _ => ev_c_nil
  | (s, none) :: cs, h => by
    obtain ⟨h1, h2, -⟩ := h
    obtain ⟨e, ho⟩ := ev_run (wd := wd) s (-2 :: ru_fl cs) [] [] [] [false] h1 trivial (by show 0 + 0 + ev_n s ≤ 64; omega)
    show ev_c wd (s ++ -2 :: ru_fl cs) [] = (ev_s wd s []).headD 0
    have e : ev_c wd (s ++ -2 :: ru_fl cs) [] = ev_c wd (-2 :: ru_fl cs) (ev_s wd s [] ++ []) := e
    rw [e, List.append_nil, ev_c_ans]
  | (s, some t) :: cs, h => by
    obtain ⟨h1, h2, h3, h4⟩ := h
    obtain ⟨e, ho⟩ := ev_run (wd := wd) s (t ++ -3 :: ru_fl cs) [] [] [] [false] h1 trivial (by show 0 + 0 + ev_n s ≤ 64; omega)
    obtain ⟨v, ev, -⟩ := ev_one ho
    obtain ⟨e2, ho2⟩ := ev_run (wd := wd) t (-3 :: ru_fl cs) [] [v] [] [true] h2 trivial (by show 0 + 1 + ev_n t ≤ 64; omega)
    obtain ⟨b, eb, hb⟩ := ev_one ho2
    have e : ev_c wd (s ++ (t ++ -3 :: ru_fl cs)) [] = ev_c wd (t ++ -3 :: ru_fl cs) (ev_s wd s [] ++ []) := e
    have e2 : ev_c wd (t ++ -3 :: ru_fl cs) [v] = ev_c wd (-3 :: ru_fl cs) (ev_s wd t [] ++ [v]) := e2
    show ev_c wd (s ++ (t ++ -3 :: ru_fl cs)) [] = if (ev_s wd t []).headD 0 = 1 then (ev_s wd s []).headD 0 else ru_sum wd cs
    rw [e, List.append_nil, ev, e2, eb]
    show ev_c wd (-3 :: ru_fl cs) (b :: v :: []) = if b = 1 then v else ru_sum wd cs
    rw [ev_c_if, ru_eq cs h4]
    rcases hb rfl with rfl | rfl
    · rw [if_pos rfl, if_neg (by decide)]
    · rw [if_neg (by decide), if_pos rfl]
theorem ru_sum_wd {wd wd2 : Nat → Int64} (hw : ∀ k : Nat, k < 13 → wd k = wd2 k) : ∀ (R : RuA), ru_ok R → ru_sum wd R = ru_sum wd2 R
  | [], _ => rfl
  | (s, none) :: cs, h => by
    show (ev_s wd s []).headD 0 = (ev_s wd2 s []).headD 0
    rw [ev_s_wd hw s [] [] [false] h.1]
  | (s, some t) :: cs, h => by
    show (if (ev_s wd t []).headD 0 = 1 then (ev_s wd s []).headD 0 else ru_sum wd cs) = (if (ev_s wd2 t []).headD 0 = 1 then (ev_s wd2 s []).headD 0 else ru_sum wd2 cs)
    rw [ev_s_wd hw s [] [] [false] h.1, ev_s_wd hw t [] [] [true] h.2.1, ru_sum_wd hw cs h.2.2.2]
def hst (g : Nat → Int64) : Nat → List Int64
  | 0 => []
  | n + 1 => g n :: hst g n
theorem hst_len (g : Nat → Int64) : ∀ n, (hst g n).length = n
  | 0 => rfl
  | n + 1 => by show (hst g n).length + 1 = n + 1; rw [hst_len g n]
theorem hst_up {g g' : Nat → Int64} {i : Nat} {x : Int64} (e : g' = vp_updL g i x) : ∀ n, n ≤ i → hst g' n = hst g n
  | 0, _ => rfl
  | n + 1, h => by
    show g' n :: hst g' n = g n :: hst g n
    rw [hst_up e n (by omega), e]
    show (if n = i then x else g n) :: _ = _
    rw [if_neg (by omega)]
theorem hst_at {g g' : Nat → Int64} {i : Nat} {x : Int64} (e : g' = vp_updL g i x) : hst g' (i + 1) = x :: hst g i := by
  show g' i :: hst g' i = x :: hst g i
  rw [hst_up e i (Nat.le_refl _), e]
  show (if i = i then x else g i) :: _ = _
  rw [if_pos rfl]
def ec_v (B : Nat → Int) (p : Nat) : Int := if pz_isD (B p) = true then pz_nv B p (pz_te B p - p) else 100000 + pz_wa B p pz_words 0
def ec_o (x : Int) : Int := if x = 43 then -12 else if x = 45 then -13 else if x = 42 then -14 else if x = 47 then -15 else if x = 37 then -16 else -1
def ec_w (w : Int) : List Int := if w = -1 then [] else [w]
def ec_S (B : Nat → Int) : Nat → Nat → Int → List Int
  | 0, _, w => ec_w w
  | k + 1, p, w => if ec_o (B p) = -1 then ec_w w else if ec_o (B p) = -12 ∨ ec_o (B p) = -13 then ec_w w ++ ec_v B (pz_nt B p) :: ec_S B k (pz_nt B (pz_nt B p)) (ec_o (B p)) else ec_v B (pz_nt B p) :: ec_o (B p) :: ec_S B k (pz_nt B (pz_nt B p)) w
def ec_sL (B : Nat → Int) (p : Nat) (w : Int) : List Int := ec_S B 401 p w
def ec_sum (B : Nat → Int) (p : Nat) : List Int := ec_v B p :: ec_sL B (pz_nt B p) (-1)
def ec_c (B : Nat → Int) (p : Nat) : Int := if B p = 60 then (if pz_te B p = p + 2 then -8 else -7) else if B p = 61 then -9 else (if pz_te B p = p + 2 then -10 else -11)
def ec_com (B : Nat → Int) (s : Nat × Nat) : List Int := ec_sum B s.1 ++ (match pz_sum B s with
    | .ok t => ec_sum B (pz_nt B t.1) ++ [ec_c B t.1]
    | .error _ => [])
def ec_or (o : Bool) : List Int := if o = true then [-6] else []
def ec_TL (B : Nat → Int) (f : Nat × Nat → Except Int (Nat × Nat)) (F : Nat × Nat → List Int) : Nat → Nat × Nat → Bool → List Int
  | 0, _, o => ec_or o
  | k + 1, s, o => if pz_wd B s.1 pz_and = true then F (pz_nx B s) ++ -5 :: (match f (pz_nx B s) with
      | .ok t => ec_TL B f F k t o
      | .error _ => []) else if pz_wd B s.1 pz_or = true then ec_or o ++ (F (pz_nx B s) ++ (match f (pz_nx B s) with
      | .ok t => ec_TL B f F k t true
      | .error _ => [])) else ec_or o
def ec_tst (B : Nat → Int) (f : Nat × Nat → Except Int (Nat × Nat)) (F : Nat × Nat → List Int) (s : Nat × Nat) : List Int := F s ++ (match f s with
    | .ok t => ec_TL B f F 401 t false
    | .error _ => [])
def ec_fact (B : Nat → Int) : Nat → Nat × Nat → List Int
  | 0, s => ec_com B s
  | m + 1, s => if pz_wd B s.1 pz_not = true then ec_fact B m (pz_nx B s) ++ [-4] else if B s.1 = 91 then ec_tst B (pz_fact B m) (ec_fact B m) (pz_nx B s) else ec_com B s
def ru_cl (B : Nat → Int) (s : Nat × Nat) : List Int × Option (List Int) := (ec_sum B (pz_nt B s.1), match pz_sum B (pz_nx B s) with
    | .ok t => if pz_wd B t.1 pz_if = true then some (ec_tst B (pz_fact B 10) (ec_fact B 10) (pz_nx B t)) else none
    | .error _ => none)
def ru_lp (B : Nat → Int) : Nat → (Nat × Nat) × Nat → RuA
  | 0, _ => []
  | k + 1, u => if B u.1.1 = 59 then ru_cl B (pz_nx B u.1) :: (match pz_cla B u.2 (pz_nx B u.1) with
      | .ok t => ru_lp B k (t, u.2 + 1)
      | .error _ => []) else []
def ru_of (B : Nat → Int) : RuA := ru_cl B (pz_sk B 0, 0) :: (match pz_cla B 0 (pz_sk B 0, 0) with
    | .ok t => ru_lp B 401 (t, 1)
    | .error _ => [])
theorem pz_te_ge {B : Nat → Int} {p : Nat} : p ≤ pz_te B p := by
  by_cases h : B p = -1
  · unfold pz_te
    rw [h]
    exact Nat.le_refl _
  · exact Nat.le_of_succ_le (pz_te_gt h)
theorem pz_nt_ge {B : Nat → Int} {p : Nat} : p ≤ pz_nt B p := Nat.le_trans pz_te_ge (pz_run_ge _ _)
theorem ec_o_no {x : Int} : ec_o x = -1 ↔ ¬ (x = 43 ∨ x = 45 ∨ x = 42 ∨ x = 47 ∨ x = 37) := by
  unfold ec_o
  constructor
  · intro h z
    rcases z with rfl | rfl | rfl | rfl | rfl <;> exact absurd h (by decide)
  · intro h
    rw [if_neg (by omega), if_neg (by omega), if_neg (by omega), if_neg (by omega), if_neg (by omega)]
theorem ec_o_rg {x : Int} : ec_o x = -1 ∨ (-16 ≤ ec_o x ∧ ec_o x ≤ -12) := by
  unfold ec_o
  split
  · right; decide
  · split
    · right; decide
    · split
      · right; decide
      · split
        · right; decide
        · split
          · right; decide
          · left; rfl
theorem ec_o_ne {B : Nat → Int} {p : Nat} (h : ¬ ec_o (B p) = -1) : B p ≠ -1 := fun z => h (by rw [z]; decide)
theorem ec_S_big {B : Nat → Int} (hB : pz_fi B) : ∀ (k p : Nat) (w : Int), 400 ≤ p + k → ec_S B (k + 1) p w = ec_S B k p w
  | 0, p, w, h => by
    have e : ec_o (B p) = -1 := by rw [hB p (by omega)]; decide
    show (if ec_o (B p) = -1 then ec_w w else _) = ec_w w
    rw [if_pos e]
  | k + 1, p, w, h => by
    by_cases e : ec_o (B p) = -1
    · show (if ec_o (B p) = -1 then ec_w w else _) = (if ec_o (B p) = -1 then ec_w w else _)
      rw [if_pos e, if_pos e]
    · have h1 := pz_nt_gt (ec_o_ne e)
      have h2 := pz_nt_ge (B := B) (p := pz_nt B p)
      have h3 : ∀ v, ec_S B (k + 1) (pz_nt B (pz_nt B p)) v = ec_S B k (pz_nt B (pz_nt B p)) v := fun v => ec_S_big hB k _ v (by omega)
      show (if ec_o (B p) = -1 then ec_w w else if ec_o (B p) = -12 ∨ ec_o (B p) = -13 then ec_w w ++ ec_v B (pz_nt B p) :: ec_S B (k + 1) (pz_nt B (pz_nt B p)) (ec_o (B p)) else ec_v B (pz_nt B p) :: ec_o (B p) :: ec_S B (k + 1) (pz_nt B (pz_nt B p)) w) = (if ec_o (B p) = -1 then ec_w w else if ec_o (B p) = -12 ∨ ec_o (B p) = -13 then ec_w w ++ ec_v B (pz_nt B p) :: ec_S B k (pz_nt B (pz_nt B p)) (ec_o (B p)) else ec_v B (pz_nt B p) :: ec_o (B p) :: ec_S B k (pz_nt B (pz_nt B p)) w)
      rw [h3, h3]
theorem ec_sL_no {B : Nat → Int} {p : Nat} {w : Int} (h : ec_o (B p) = -1) : ec_sL B p w = ec_w w := by
  show (if ec_o (B p) = -1 then ec_w w else _) = ec_w w
  rw [if_pos h]
theorem ec_sL_pm {B : Nat → Int} (hB : pz_fi B) {p : Nat} {w : Int} (h : ec_o (B p) = -12 ∨ ec_o (B p) = -13) : ec_sL B p w = ec_w w ++ ec_v B (pz_nt B p) :: ec_sL B (pz_nt B (pz_nt B p)) (ec_o (B p)) := by
  have e : ec_S B 401 (pz_nt B (pz_nt B p)) (ec_o (B p)) = ec_S B 400 (pz_nt B (pz_nt B p)) (ec_o (B p)) := ec_S_big hB 400 _ _ (Nat.le_add_left _ _)
  show (if ec_o (B p) = -1 then ec_w w else if ec_o (B p) = -12 ∨ ec_o (B p) = -13 then ec_w w ++ ec_v B (pz_nt B p) :: ec_S B 400 (pz_nt B (pz_nt B p)) (ec_o (B p)) else _) = ec_w w ++ ec_v B (pz_nt B p) :: ec_S B 401 (pz_nt B (pz_nt B p)) (ec_o (B p))
  rw [if_neg (by omega), if_pos h, e]
theorem ec_sL_td {B : Nat → Int} (hB : pz_fi B) {p : Nat} {w : Int} (h0 : ¬ ec_o (B p) = -1) (h : ¬ (ec_o (B p) = -12 ∨ ec_o (B p) = -13)) : ec_sL B p w = ec_v B (pz_nt B p) :: ec_o (B p) :: ec_sL B (pz_nt B (pz_nt B p)) w := by
  have e : ec_S B 401 (pz_nt B (pz_nt B p)) w = ec_S B 400 (pz_nt B (pz_nt B p)) w := ec_S_big hB 400 _ _ (Nat.le_add_left _ _)
  show (if ec_o (B p) = -1 then ec_w w else if ec_o (B p) = -12 ∨ ec_o (B p) = -13 then _ else ec_v B (pz_nt B p) :: ec_o (B p) :: ec_S B 400 (pz_nt B (pz_nt B p)) w) = ec_v B (pz_nt B p) :: ec_o (B p) :: ec_S B 401 (pz_nt B (pz_nt B p)) w
  rw [if_neg h0, if_neg h, e]
theorem ec_TL_big {B : Nat → Int} (hB : pz_fi B) {f : Nat × Nat → Except Int (Nat × Nat)} {F : Nat × Nat → List Int} (hf : ∀ s t, f s = .ok t → B s.1 ≠ -1 ∧ s.1 < t.1) : ∀ (k : Nat) (s : Nat × Nat) (o : Bool), 400 ≤ s.1 + k → ec_TL B f F (k + 1) s o = ec_TL B f F k s o
  | 0, s, o, h => by
    have h1 : ¬ pz_wd B s.1 pz_and = true := fun z => pz_and_ne (Or.inl z) (hB s.1 (by omega))
    have h2 : ¬ pz_wd B s.1 pz_or = true := fun z => pz_and_ne (Or.inr z) (hB s.1 (by omega))
    show (if pz_wd B s.1 pz_and = true then _ else if pz_wd B s.1 pz_or = true then _ else ec_or o) = ec_or o
    rw [if_neg h1, if_neg h2]
  | k + 1, s, o, h => by
    by_cases h1 : pz_wd B s.1 pz_and = true
    · have hb := pz_nt_gt (pz_and_ne (B := B) (p := s.1) (Or.inl h1))
      show (if pz_wd B s.1 pz_and = true then F (pz_nx B s) ++ -5 :: (match f (pz_nx B s) with | .ok t => ec_TL B f F (k + 1) t o | .error _ => []) else _) = (if pz_wd B s.1 pz_and = true then F (pz_nx B s) ++ -5 :: (match f (pz_nx B s) with | .ok t => ec_TL B f F k t o | .error _ => []) else _)
      rw [if_pos h1, if_pos h1]
      cases e : f (pz_nx B s) with
      | error z => rfl
      | ok t =>
        have h3 := (hf _ _ e).2
        have h4 : (pz_nx B s).1 = pz_nt B s.1 := rfl
        show F (pz_nx B s) ++ -5 :: ec_TL B f F (k + 1) t o = F (pz_nx B s) ++ -5 :: ec_TL B f F k t o
        rw [ec_TL_big hB hf k t o (by omega)]
    · by_cases h2 : pz_wd B s.1 pz_or = true
      · have hb := pz_nt_gt (pz_and_ne (B := B) (p := s.1) (Or.inr h2))
        show (if pz_wd B s.1 pz_and = true then _ else if pz_wd B s.1 pz_or = true then ec_or o ++ (F (pz_nx B s) ++ (match f (pz_nx B s) with | .ok t => ec_TL B f F (k + 1) t true | .error _ => [])) else _) = (if pz_wd B s.1 pz_and = true then _ else if pz_wd B s.1 pz_or = true then ec_or o ++ (F (pz_nx B s) ++ (match f (pz_nx B s) with | .ok t => ec_TL B f F k t true | .error _ => [])) else _)
        rw [if_neg h1, if_neg h1, if_pos h2, if_pos h2]
        cases e : f (pz_nx B s) with
        | error z => rfl
        | ok t =>
          have h3 := (hf _ _ e).2
          have h4 : (pz_nx B s).1 = pz_nt B s.1 := rfl
          show ec_or o ++ (F (pz_nx B s) ++ ec_TL B f F (k + 1) t true) = ec_or o ++ (F (pz_nx B s) ++ ec_TL B f F k t true)
          rw [ec_TL_big hB hf k t true (by omega)]
      · show (if pz_wd B s.1 pz_and = true then _ else if pz_wd B s.1 pz_or = true then _ else ec_or o) = (if pz_wd B s.1 pz_and = true then _ else if pz_wd B s.1 pz_or = true then _ else ec_or o)
        rw [if_neg h1, if_neg h2, if_neg h1, if_neg h2]
theorem ec_TL_and {B : Nat → Int} (hB : pz_fi B) {f : Nat × Nat → Except Int (Nat × Nat)} {F : Nat × Nat → List Int} (hf : ∀ s t, f s = .ok t → B s.1 ≠ -1 ∧ s.1 < t.1) {s t : Nat × Nat} {o : Bool} (h : pz_wd B s.1 pz_and = true) (e : f (pz_nx B s) = .ok t) : ec_TL B f F 401 s o = F (pz_nx B s) ++ -5 :: ec_TL B f F 401 t o := by
  show (if pz_wd B s.1 pz_and = true then F (pz_nx B s) ++ -5 :: (match f (pz_nx B s) with | .ok t => ec_TL B f F 400 t o | .error _ => []) else _) = _
  rw [if_pos h, e]
  show F (pz_nx B s) ++ -5 :: ec_TL B f F 400 t o = _
  rw [ec_TL_big hB hf 400 t o (Nat.le_add_left _ _)]
theorem ec_TL_or {B : Nat → Int} (hB : pz_fi B) {f : Nat × Nat → Except Int (Nat × Nat)} {F : Nat × Nat → List Int} (hf : ∀ s t, f s = .ok t → B s.1 ≠ -1 ∧ s.1 < t.1) {s t : Nat × Nat} {o : Bool} (h1 : ¬ pz_wd B s.1 pz_and = true) (h : pz_wd B s.1 pz_or = true) (e : f (pz_nx B s) = .ok t) : ec_TL B f F 401 s o = ec_or o ++ (F (pz_nx B s) ++ ec_TL B f F 401 t true) := by
  show (if pz_wd B s.1 pz_and = true then _ else if pz_wd B s.1 pz_or = true then ec_or o ++ (F (pz_nx B s) ++ (match f (pz_nx B s) with | .ok t => ec_TL B f F 400 t true | .error _ => [])) else _) = _
  rw [if_neg h1, if_pos h, e]
  show ec_or o ++ (F (pz_nx B s) ++ ec_TL B f F 400 t true) = _
  rw [ec_TL_big hB hf 400 t true (Nat.le_add_left _ _)]
theorem ec_TL_no {B : Nat → Int} {f : Nat × Nat → Except Int (Nat × Nat)} {F : Nat × Nat → List Int} {s : Nat × Nat} {o : Bool} (h1 : ¬ pz_wd B s.1 pz_and = true) (h2 : ¬ pz_wd B s.1 pz_or = true) : ec_TL B f F 401 s o = ec_or o := by
  show (if pz_wd B s.1 pz_and = true then _ else if pz_wd B s.1 pz_or = true then _ else ec_or o) = ec_or o
  rw [if_neg h1, if_neg h2]
theorem pz_wa_ge0 {B : Nat → Int} {p : Nat} : ∀ (ws : List (List Int)) (k : Int), 0 ≤ k → -1 ≤ pz_wa B p ws k
  | [], k, _ => by show (-1 : Int) ≤ -1; omega
  | w :: t, k, h => by
    show -1 ≤ (if pz_wd B p w = true then k else pz_wa B p t (k + 1))
    by_cases z : pz_wd B p w = true
    · rw [if_pos z]; omega
    · rw [if_neg z]; exact pz_wa_ge0 t (k + 1) (by omega)
theorem pz_num_v {B : Nat → Int} {lo hi v : Int} {p : Nat} (h : pz_num B lo hi p = .ok v) : v = pz_nv B p (pz_te B p - p) ∧ lo ≤ v ∧ v ≤ hi := by
  unfold pz_num at h
  by_cases z : pz_isD (B p) = true
  · rw [if_pos z] at h
    by_cases y : 5 < pz_te B p - p
    · rw [if_pos y] at h; cases h
    · rw [if_neg y] at h
      by_cases x : pz_nv B p (pz_te B p - p) < lo ∨ hi < pz_nv B p (pz_te B p - p)
      · rw [if_pos x] at h; cases h
      · rw [if_neg x] at h; cases h; exact ⟨rfl, by omega⟩
  · rw [if_neg z] at h; cases h
theorem pz_cnt_ok {B : Nat → Int} {s t : Nat × Nat} (h : pz_cnt B s = .ok t) : t = (pz_nt B s.1, s.2 + 1) ∧ s.2 < 60 := by
  unfold pz_cnt at h
  by_cases z : 60 ≤ s.2
  · rw [if_pos z] at h; cases h
  · rw [if_neg z] at h; cases h; exact ⟨rfl, by omega⟩
theorem pz_wa_lt {B : Nat → Int} {p : Nat} : ∀ (ws : List (List Int)) (k : Int), 0 ≤ k → pz_wa B p ws k < k + (ws.length : Int)
  | [], k, h => by show (-1 : Int) < k + ((0 : Nat) : Int); omega
  | w :: t, k, h => by
    show (if pz_wd B p w = true then k else pz_wa B p t (k + 1)) < k + ((t.length + 1 : Nat) : Int)
    by_cases z : pz_wd B p w = true
    · rw [if_pos z]; omega
    · rw [if_neg z]
      have := pz_wa_lt (B := B) (p := p) t (k + 1) (by omega)
      omega
theorem pz_val_ok {B : Nat → Int} {s t : Nat × Nat} (h : pz_val B s = .ok t) : t = (pz_nt B s.1, s.2 + 1) ∧ s.2 < 60 ∧ 0 ≤ ec_v B s.1 ∧ ec_v B s.1 < 100013 := by
  unfold pz_val at h
  unfold ec_v
  by_cases z : pz_isD (B s.1) = true
  · rw [if_pos z] at h ⊢
    cases e : pz_num B 0 99999 s.1 with
    | error x => rw [e] at h; cases h
    | ok v =>
      rw [e] at h
      have h1 := pz_cnt_ok h
      have h2 := pz_num_v e
      exact ⟨h1.1, h1.2, by rw [← h2.1]; omega⟩
  · rw [if_neg z] at h ⊢
    by_cases y : pz_wa B s.1 pz_words 0 = -1
    · rw [if_pos y] at h; cases h
    · rw [if_neg y] at h
      have h1 := pz_cnt_ok h
      have h2 := pz_wa_ge0 (B := B) (p := s.1) pz_words 0 (Int.le_refl _)
      have h3 := pz_wa_lt (B := B) (p := s.1) pz_words 0 (Int.le_refl _)
      have h4 : (pz_words.length : Int) = 13 := by decide
      exact ⟨h1.1, h1.2, by omega⟩
def ec_wk (w : Int) (k : List Bool) : List Bool := if w = -1 then false :: k else false :: false :: k
def ec_w1 (w : Int) : Nat := if w = -1 then 0 else 1
theorem ev_k_v {o : Int} {k : List Bool} (h : 0 ≤ o ∧ o < 100013) : ev_k o k = some (false :: k) := (if_pos h.1).trans (if_pos h.2)
theorem ev_k_a {o : Int} {k : List Bool} (h : -16 ≤ o ∧ o ≤ -12) : ev_k o (false :: false :: k) = some (false :: k) := by
  unfold ev_k
  rw [if_neg (by omega), if_neg (by omega), if_neg (by omega), if_neg (by omega), if_pos h]
theorem ev_k_c {o : Int} {k : List Bool} (h : -11 ≤ o ∧ o ≤ -7) : ev_k o (false :: false :: k) = some (true :: k) := by
  unfold ev_k
  rw [if_neg (by omega), if_neg (by omega), if_neg (by omega), if_pos h]
theorem ev_k_b {o : Int} {k : List Bool} (h : o = -5 ∨ o = -6) : ev_k o (true :: true :: k) = some (true :: k) := by
  unfold ev_k
  rw [if_neg (by omega), if_neg (by omega), if_pos h]
theorem ev_k_n {k : List Bool} : ev_k (-4) (true :: k) = some (true :: k) := by
  unfold ev_k
  rw [if_neg (by decide), if_pos rfl]
theorem ev_t_c {o : Int} {c : List Int} {k k' : List Bool} (h : ev_k o k = some k') : ev_t (o :: c) k = ev_t c k' := by
  show (match ev_k o k with | none => none | some k1 => ev_t c k1) = _
  rw [h]
theorem ec_w_t {w : Int} {k : List Bool} (hw : w = -1 ∨ w = -12 ∨ w = -13) : ev_t (ec_w w) (ec_wk w k) = some (false :: k) ∧ ev_n (ec_w w) = 0 ∧ (ec_w w).length = ec_w1 w := by
  rcases hw with rfl | rfl | rfl
  · exact ⟨rfl, rfl, rfl⟩
  · refine ⟨?_, rfl, rfl⟩
    show ev_t [-12] (false :: false :: k) = _
    rw [ev_t_c (ev_k_a (by decide))]; rfl
  · refine ⟨?_, rfl, rfl⟩
    show ev_t [-13] (false :: false :: k) = _
    rw [ev_t_c (ev_k_a (by decide))]; rfl
theorem ec_S_t {B : Nat → Int} : ∀ (n : Nat) (s t : Nat × Nat) (w : Int) (k : List Bool), pz_it (pz_sF B) n s = .ok t → (w = -1 ∨ w = -12 ∨ w = -13) → s.2 ≤ 60 → ev_t (ec_S B n s.1 w) (ec_wk w k) = some (false :: k) ∧ ev_n (ec_S B n s.1 w) + s.2 ≤ t.2 ∧ (ec_S B n s.1 w).length + s.1 ≤ t.1 + ec_w1 w ∧ t.2 ≤ 60
  | 0, s, t, w, k, h, hw, h6 => by
    cases h
    obtain ⟨h1, h2, h3⟩ := ec_w_t (k := k) hw
    exact ⟨h1, by show ev_n (ec_w w) + s.2 ≤ s.2; omega, by show (ec_w w).length + s.1 ≤ s.1 + ec_w1 w; omega, h6⟩
  | n + 1, s, t, w, k, h, hw, h6 => by
    rw [pz_it] at h
    obtain ⟨w1, w2, w3⟩ := ec_w_t (k := k) hw
    by_cases e : ec_o (B s.1) = -1
    · have e1 : pz_sF B s = none := if_neg (ec_o_no.mp e)
      rw [e1] at h
      have h : (Except.ok s : Except Int (Nat × Nat)) = .ok t := h
      cases h
      have e2 : ec_S B (n + 1) s.1 w = ec_w w := if_pos e
      rw [e2]
      exact ⟨w1, by omega, by omega, h6⟩
    · have e1 : pz_sF B s = some (pz_val B (pz_nx B s)) := if_pos (Classical.byContradiction (fun z => e (ec_o_no.mpr z)))
      rw [e1] at h
      cases ev : pz_val B (pz_nx B s) with
      | error z => rw [ev] at h; cases h
      | ok sq1 =>
        rw [ev] at h
        have h : pz_it (pz_sF B) n sq1 = .ok t := h
        obtain ⟨v1, v2, v3⟩ := pz_val_ok ev
        have p1 := pz_nt_gt (ec_o_ne e)
        have q1 : (pz_nx B s).1 = pz_nt B s.1 := rfl
        have q2 : (pz_nx B s).2 = s.2 := rfl
        rw [q1, q2] at v1
        rw [q1] at v3
        have q3 : sq1.1 = pz_nt B (pz_nt B s.1) := by rw [v1]
        have q4 : sq1.2 = s.2 + 1 := by rw [v1]
        have p2 : pz_nt B s.1 + 1 ≤ pz_nt B (pz_nt B s.1) := by
          have := (pz_val_gt ev).2
          omega
        have ep : ev_p (ec_v B (pz_nt B s.1)) = 1 := if_pos v3.1
        by_cases o : ec_o (B s.1) = -12 ∨ ec_o (B s.1) = -13
        · have e2 : ec_S B (n + 1) s.1 w = ec_w w ++ ec_v B (pz_nt B s.1) :: ec_S B n (pz_nt B (pz_nt B s.1)) (ec_o (B s.1)) := (if_neg e).trans (if_pos o)
          obtain ⟨i1, i2, i3, i4⟩ := ec_S_t n sq1 t (ec_o (B s.1)) k h (Or.inr o) (by omega)
          rw [q3] at i1 i2 i3
          have k1 : ec_wk (ec_o (B s.1)) k = false :: false :: k := if_neg e
          have k2 : ec_w1 (ec_o (B s.1)) = 1 := if_neg e
          rw [k1] at i1
          rw [e2]
          refine ⟨?_, ?_, ?_, i4⟩
          · rw [ev_t_app _ _ _ _ w1, ev_t_c (ev_k_v v3)]; exact i1
          · rw [ev_n_app]
            show ev_n (ec_w w) + (ev_p (ec_v B (pz_nt B s.1)) + ev_n (ec_S B n (pz_nt B (pz_nt B s.1)) (ec_o (B s.1)))) + s.2 ≤ t.2
            omega
          · rw [List.length_append, List.length_cons]; omega
        · have e2 : ec_S B (n + 1) s.1 w = ec_v B (pz_nt B s.1) :: ec_o (B s.1) :: ec_S B n (pz_nt B (pz_nt B s.1)) w := (if_neg e).trans (if_neg o)
          obtain ⟨i1, i2, i3, i4⟩ := ec_S_t n sq1 t w k h hw (by omega)
          rw [q3] at i1 i2 i3
          have hr : -16 ≤ ec_o (B s.1) ∧ ec_o (B s.1) ≤ -12 := ec_o_rg.resolve_left e
          have en : ev_p (ec_o (B s.1)) = 0 := if_neg (by omega)
          rw [e2]
          refine ⟨?_, ?_, ?_, i4⟩
          · rw [ev_t_c (ev_k_v v3)]
            have hk : ∃ k2, ec_wk w k = false :: k2 := by
              rcases hw with rfl | rfl | rfl
              · exact ⟨_, rfl⟩
              · exact ⟨_, rfl⟩
              · exact ⟨_, rfl⟩
            obtain ⟨k2, hk⟩ := hk
            rw [hk, ev_t_c (ev_k_a hr), ← hk]
            exact i1
          · show ev_p (ec_v B (pz_nt B s.1)) + (ev_p (ec_o (B s.1)) + ev_n (ec_S B n (pz_nt B (pz_nt B s.1)) w)) + s.2 ≤ t.2
            omega
          · rw [List.length_cons, List.length_cons]; omega
def ec_gd (c : List Int) (s t : Nat × Nat) (b : Bool) : Prop := (∀ k, ev_t c k = some (b :: k)) ∧ ev_n c + s.2 ≤ t.2 ∧ c.length + s.1 ≤ t.1 ∧ t.2 ≤ 60
theorem ec_sum_gd {B : Nat → Int} {s t : Nat × Nat} (h : pz_sum B s = .ok t) : ec_gd (ec_sum B s.1) s t false := by
  unfold pz_sum at h
  cases ev : pz_val B s with
  | error z => rw [ev] at h; cases h
  | ok sq1 =>
    rw [ev] at h
    have h : pz_it (pz_sF B) 401 sq1 = .ok t := h
    obtain ⟨v1, v2, v3⟩ := pz_val_ok ev
    have q3 : sq1.1 = pz_nt B s.1 := by rw [v1]
    have q4 : sq1.2 = s.2 + 1 := by rw [v1]
    have p2 := (pz_val_gt ev).2
    have ep : ev_p (ec_v B s.1) = 1 := if_pos v3.1
    refine ⟨fun k => ?_, ?_, ?_, ?_⟩
    · have i := (ec_S_t 401 sq1 t (-1) k h (Or.inl rfl) (by omega)).1
      rw [q3] at i
      show ev_t (ec_v B s.1 :: ec_S B 401 (pz_nt B s.1) (-1)) k = _
      rw [ev_t_c (ev_k_v v3)]
      exact i
    · have i := (ec_S_t 401 sq1 t (-1) [] h (Or.inl rfl) (by omega)).2.1
      rw [q3] at i
      show ev_p (ec_v B s.1) + ev_n (ec_S B 401 (pz_nt B s.1) (-1)) + s.2 ≤ t.2
      omega
    · have i := (ec_S_t 401 sq1 t (-1) [] h (Or.inl rfl) (by omega)).2.2.1
      rw [q3] at i
      have e : ec_w1 (-1) = 0 := rfl
      show (ec_S B 401 (pz_nt B s.1) (-1)).length + 1 + s.1 ≤ t.1
      omega
    · exact (ec_S_t 401 sq1 t (-1) [] h (Or.inl rfl) (by omega)).2.2.2
theorem ec_c_rg {B : Nat → Int} {p : Nat} : -11 ≤ ec_c B p ∧ ec_c B p ≤ -7 := by
  unfold ec_c
  split
  · split <;> decide
  · split
    · decide
    · split <;> decide
theorem ec_com_gd {B : Nat → Int} {s t : Nat × Nat} (h : pz_com B s = .ok t) : ec_gd (ec_com B s) s t true := by
  unfold pz_com at h
  unfold ec_com
  cases e1 : pz_sum B s with
  | error z => rw [e1] at h; cases h
  | ok t1 =>
    rw [e1] at h
    have h : pz_b (pz_cmp B t1) (pz_sum B) = .ok t := h
    cases e2 : pz_cmp B t1 with
    | error z => rw [e2] at h; cases h
    | ok t2 =>
      rw [e2] at h
      have h : pz_sum B t2 = .ok t := h
      unfold pz_cmp at e2
      by_cases z : B t1.1 = 60 ∨ B t1.1 = 61 ∨ B t1.1 = 62
      · rw [if_pos z] at e2
        have hc := pz_cnt_ok e2
        have hp := pz_nt_gt (B := B) (p := t1.1) (by omega)
        have q1 : t2.1 = pz_nt B t1.1 := by rw [hc.1]
        have q2 : t2.2 = t1.2 + 1 := by rw [hc.1]
        obtain ⟨a1, a2, a3, a4⟩ := ec_sum_gd e1
        obtain ⟨b1, b2, b3, b4⟩ := ec_sum_gd h
        rw [q1] at b1 b2 b3
        have en : ev_p (ec_c B t1.1) = 0 := if_neg (by have := ec_c_rg (B := B) (p := t1.1); omega)
        show ec_gd (ec_sum B s.1 ++ (ec_sum B (pz_nt B t1.1) ++ [ec_c B t1.1])) s t true
        refine ⟨fun k => ?_, ?_, ?_, b4⟩
        · rw [ev_t_app _ _ _ _ (a1 k), ev_t_app _ _ _ _ (b1 (false :: k)), ev_t_c (ev_k_c ec_c_rg)]; rfl
        · rw [ev_n_app, ev_n_app]
          show ev_n (ec_sum B s.1) + (ev_n (ec_sum B (pz_nt B t1.1)) + (ev_p (ec_c B t1.1) + 0)) + s.2 ≤ t.2
          omega
        · rw [List.length_append, List.length_append, List.length_singleton]; omega
      · rw [if_neg z] at e2; cases e2
def ec_ok (o : Bool) (k : List Bool) : List Bool := if o = true then true :: true :: k else true :: k
def ec_o1 (o : Bool) : Nat := if o = true then 1 else 0
theorem ec_or_t {o : Bool} {k : List Bool} : ev_t (ec_or o) (ec_ok o k) = some (true :: k) ∧ ev_n (ec_or o) = 0 ∧ (ec_or o).length = ec_o1 o := by
  cases o with
  | false => exact ⟨rfl, rfl, rfl⟩
  | true =>
    refine ⟨?_, rfl, rfl⟩
    show ev_t [-6] (true :: true :: k) = _
    rw [ev_t_c (ev_k_b (Or.inr rfl))]; rfl
theorem ec_TL_t {B : Nat → Int} {f : Nat × Nat → Except Int (Nat × Nat)} {F : Nat × Nat → List Int} (hF : ∀ s t, f s = .ok t → s.2 ≤ 60 → ec_gd (F s) s t true) : ∀ (n : Nat) (s t : Nat × Nat) (o : Bool) (k : List Bool), pz_it (pz_tF B f) n s = .ok t → s.2 ≤ 60 → ev_t (ec_TL B f F n s o) (ec_ok o k) = some (true :: k) ∧ ev_n (ec_TL B f F n s o) + s.2 ≤ t.2 ∧ (ec_TL B f F n s o).length + s.1 ≤ t.1 + ec_o1 o ∧ t.2 ≤ 60
  | 0, s, t, o, k, h, h6 => by
    cases h
    obtain ⟨w1, w2, w3⟩ := ec_or_t (o := o) (k := k)
    exact ⟨w1, by show ev_n (ec_or o) + s.2 ≤ s.2; omega, by show (ec_or o).length + s.1 ≤ s.1 + ec_o1 o; omega, h6⟩
  | n + 1, s, t, o, k, h, h6 => by
    rw [pz_it] at h
    obtain ⟨w1, w2, w3⟩ := ec_or_t (o := o) (k := k)
    by_cases z : pz_wd B s.1 pz_and = true ∨ pz_wd B s.1 pz_or = true
    · have e1 : pz_tF B f s = some (f (pz_nx B s)) := if_pos z
      rw [e1] at h
      have p1 := pz_nt_gt (pz_and_ne z)
      have q1 : (pz_nx B s).1 = pz_nt B s.1 := rfl
      have q2 : (pz_nx B s).2 = s.2 := rfl
      cases ef : f (pz_nx B s) with
      | error y => rw [ef] at h; cases h
      | ok sq1 =>
        rw [ef] at h
        have h : pz_it (pz_tF B f) n sq1 = .ok t := h
        obtain ⟨a1, a2, a3, a4⟩ := hF _ _ ef (by omega)
        by_cases za : pz_wd B s.1 pz_and = true
        · have e2 : ec_TL B f F (n + 1) s o = F (pz_nx B s) ++ -5 :: ec_TL B f F n sq1 o := by
            show (if pz_wd B s.1 pz_and = true then F (pz_nx B s) ++ -5 :: (match f (pz_nx B s) with | .ok t => ec_TL B f F n t o | .error _ => []) else _) = _
            rw [if_pos za, ef]
          obtain ⟨i1, i2, i3, i4⟩ := ec_TL_t hF n sq1 t o k h a4
          rw [e2]
          refine ⟨?_, ?_, ?_, i4⟩
          · rw [ev_t_app _ _ _ _ (a1 _)]
            have hk : ∃ k2, ec_ok o k = true :: k2 := by cases o <;> exact ⟨_, rfl⟩
            obtain ⟨k2, hk⟩ := hk
            rw [hk, ev_t_c (ev_k_b (Or.inl rfl)), ← hk]
            exact i1
          · rw [ev_n_app]
            show ev_n (F (pz_nx B s)) + (0 + ev_n (ec_TL B f F n sq1 o)) + s.2 ≤ t.2
            omega
          · rw [List.length_append, List.length_cons]; omega
        · have zo : pz_wd B s.1 pz_or = true := z.resolve_left za
          have e2 : ec_TL B f F (n + 1) s o = ec_or o ++ (F (pz_nx B s) ++ ec_TL B f F n sq1 true) := by
            show (if pz_wd B s.1 pz_and = true then _ else if pz_wd B s.1 pz_or = true then ec_or o ++ (F (pz_nx B s) ++ (match f (pz_nx B s) with | .ok t => ec_TL B f F n t true | .error _ => [])) else _) = _
            rw [if_neg za, if_pos zo, ef]
          obtain ⟨i1, i2, i3, i4⟩ := ec_TL_t hF n sq1 t true k h a4
          have i1 : ev_t (ec_TL B f F n sq1 true) (true :: true :: k) = some (true :: k) := i1
          have i3 : (ec_TL B f F n sq1 true).length + sq1.1 ≤ t.1 + 1 := i3
          rw [e2]
          refine ⟨?_, ?_, ?_, i4⟩
          · rw [ev_t_app _ _ _ _ w1, ev_t_app _ _ _ _ (a1 _)]; exact i1
          · rw [ev_n_app, ev_n_app]; omega
          · rw [List.length_append, List.length_append]; omega
    · have e1 : pz_tF B f s = none := if_neg z
      rw [e1] at h
      have h : (Except.ok s : Except Int (Nat × Nat)) = .ok t := h
      cases h
      have e2 : ec_TL B f F (n + 1) s o = ec_or o := (if_neg (fun y => z (Or.inl y))).trans (if_neg (fun y => z (Or.inr y)))
      rw [e2]
      exact ⟨w1, by omega, by omega, h6⟩
theorem ec_tst_gd {B : Nat → Int} {f : Nat × Nat → Except Int (Nat × Nat)} {F : Nat × Nat → List Int} (hF : ∀ s t, f s = .ok t → s.2 ≤ 60 → ec_gd (F s) s t true) {s t : Nat × Nat} (h : pz_tst B f s = .ok t) (h6 : s.2 ≤ 60) : ec_gd (ec_tst B f F s) s t true := by
  unfold pz_tst at h
  unfold ec_tst
  cases ef : f s with
  | error y => rw [ef] at h; cases h
  | ok sq1 =>
    rw [ef] at h
    have h : pz_it (pz_tF B f) 401 sq1 = .ok t := h
    obtain ⟨a1, a2, a3, a4⟩ := hF _ _ ef h6
    show ec_gd (F s ++ ec_TL B f F 401 sq1 false) s t true
    refine ⟨fun k => ?_, ?_, ?_, ?_⟩
    · rw [ev_t_app _ _ _ _ (a1 k)]; exact (ec_TL_t hF 401 sq1 t false k h a4).1
    · have i := (ec_TL_t hF 401 sq1 t false [] h a4).2.1
      rw [ev_n_app]; omega
    · have i := (ec_TL_t hF 401 sq1 t false [] h a4).2.2.1
      have e : ec_o1 false = 0 := rfl
      rw [List.length_append]; omega
    · exact (ec_TL_t hF 401 sq1 t false [] h a4).2.2.2
theorem ec_fact_gd {B : Nat → Int} : ∀ (m : Nat) (s t : Nat × Nat), pz_fact B m s = .ok t → s.2 ≤ 60 → ec_gd (ec_fact B m s) s t true
  | 0, s, t, h, h6 => by
    unfold pz_fact at h
    by_cases z : pz_wd B s.1 pz_not = true ∨ B s.1 = 91
    · rw [if_pos z] at h; cases h
    · rw [if_neg z] at h; exact ec_com_gd h
  | m + 1, s, t, h, h6 => by
    unfold pz_fact at h
    unfold ec_fact
    by_cases z : pz_wd B s.1 pz_not = true
    · rw [if_pos z] at h ⊢
      have p1 := pz_nt_gt (pz_not_ne z)
      have q1 : (pz_nx B s).1 = pz_nt B s.1 := rfl
      have q2 : (pz_nx B s).2 = s.2 := rfl
      obtain ⟨a1, a2, a3, a4⟩ := ec_fact_gd m _ _ h (by omega)
      refine ⟨fun k => ?_, ?_, ?_, a4⟩
      · rw [ev_t_app _ _ _ _ (a1 k), ev_t_c ev_k_n]; rfl
      · rw [ev_n_app]
        show ev_n (ec_fact B m (pz_nx B s)) + (0 + 0) + s.2 ≤ t.2
        omega
      · rw [List.length_append, List.length_singleton]; omega
    · rw [if_neg z] at h ⊢
      by_cases y : B s.1 = 91
      · rw [if_pos y] at h ⊢
        have p1 := pz_nt_gt (B := B) (p := s.1) (by omega)
        have q1 : (pz_nx B s).1 = pz_nt B s.1 := rfl
        have q2 : (pz_nx B s).2 = s.2 := rfl
        cases e : pz_tst B (pz_fact B m) (pz_nx B s) with
        | error x => rw [e] at h; cases h
        | ok sq1 =>
          rw [e] at h
          have h : pz_rb B sq1 = .ok t := h
          unfold pz_rb at h
          by_cases x : B sq1.1 = 93
          · rw [if_pos x] at h
            cases h
            obtain ⟨a1, a2, a3, a4⟩ := ec_tst_gd (f := pz_fact B m) (F := ec_fact B m) (fun s t h h6 => ec_fact_gd m s t h h6) e (by omega)
            have q3 : (pz_nx B sq1).1 = pz_nt B sq1.1 := rfl
            have q4 : (pz_nx B sq1).2 = sq1.2 := rfl
            have p2 := pz_nt_ge (B := B) (p := sq1.1)
            exact ⟨a1, by omega, by omega, by omega⟩
          · rw [if_neg x] at h; cases h
      · rw [if_neg y] at h ⊢; exact ec_com_gd h
def ru_1 (c : List Int × Option (List Int)) : List Int := match c with
  | (s, none) => s ++ [-2]
  | (s, some t) => s ++ (t ++ [-3])
theorem ru_fl_c {c : List Int × Option (List Int)} {cs : RuA} : ru_fl (c :: cs) = ru_1 c ++ ru_fl cs := by
  match c with
  | (s, none) => show s ++ -2 :: ru_fl cs = (s ++ [-2]) ++ ru_fl cs; rw [List.append_assoc]; rfl
  | (s, some t) => show s ++ (t ++ -3 :: ru_fl cs) = (s ++ (t ++ [-3])) ++ ru_fl cs; rw [List.append_assoc, List.append_assoc]; rfl
theorem ru_cl_gd {B : Nat → Int} {l : Nat} {s t : Nat × Nat} (h : pz_cla B l s = .ok t) (h6 : s.2 ≤ 60) (cs : RuA) : (ru_ok cs → ru_ok (ru_cl B s :: cs)) ∧ (ru_1 (ru_cl B s)).length + s.1 ≤ t.1 ∧ s.2 ≤ t.2 ∧ t.2 ≤ 60 ∧ l ≠ 12 := by
  unfold pz_cla at h
  unfold ru_cl
  by_cases z : pz_wd B s.1 pz_buy = true
  · rw [if_pos z] at h
    have p1 := pz_nt_gt (B := B) (p := s.1) (pz_wd_ne z (by decide) (by decide))
    have q1 : (pz_nx B s).1 = pz_nt B s.1 := rfl
    have q2 : (pz_nx B s).2 = s.2 := rfl
    by_cases y : l = 12
    · rw [if_pos y] at h; cases h
    · rw [if_neg y] at h
      cases e : pz_sum B (pz_nx B s) with
      | error x => rw [e] at h; cases h
      | ok sq1 =>
        rw [e] at h
        obtain ⟨a1, a2, a3, a4⟩ := ec_sum_gd e
        rw [q1] at a1 a2 a3
        have h : (if pz_wd B sq1.1 pz_if = true then pz_tst B (pz_fact B 10) (pz_nx B sq1) else .ok sq1) = .ok t := h
        by_cases x : pz_wd B sq1.1 pz_if = true
        · rw [if_pos x] at h
          have e2 : (match (Except.ok sq1 : Except Int (Nat × Nat)) with | .ok t => if pz_wd B t.1 pz_if = true then some (ec_tst B (pz_fact B 10) (ec_fact B 10) (pz_nx B t)) else none | .error _ => none) = some (ec_tst B (pz_fact B 10) (ec_fact B 10) (pz_nx B sq1)) := if_pos x
          rw [e2]
          have p2 := pz_nt_gt (B := B) (p := sq1.1) (pz_wd_ne x (by decide) (by decide))
          have q3 : (pz_nx B sq1).1 = pz_nt B sq1.1 := rfl
          have q4 : (pz_nx B sq1).2 = sq1.2 := rfl
          obtain ⟨b1, b2, b3, b4⟩ := ec_tst_gd (f := pz_fact B 10) (F := ec_fact B 10) (fun s t h h6 => ec_fact_gd 10 s t h h6) h (by omega)
          refine ⟨fun hc => ⟨a1 [], b1 [], by omega, hc⟩, ?_, by omega, b4, y⟩
          show (ec_sum B (pz_nt B s.1) ++ (ec_tst B (pz_fact B 10) (ec_fact B 10) (pz_nx B sq1) ++ [-3])).length + s.1 ≤ t.1
          rw [List.length_append, List.length_append, List.length_singleton]; omega
        · rw [if_neg x] at h
          obtain rfl : sq1 = t := Except.ok.inj h
          have e2 : (match (Except.ok sq1 : Except Int (Nat × Nat)) with | .ok t => if pz_wd B t.1 pz_if = true then some (ec_tst B (pz_fact B 10) (ec_fact B 10) (pz_nx B t)) else none | .error _ => none) = none := if_neg x
          rw [e2]
          refine ⟨fun hc => ⟨a1 [], by omega, hc⟩, ?_, by omega, a4, y⟩
          show (ec_sum B (pz_nt B s.1) ++ [-2]).length + s.1 ≤ sq1.1
          rw [List.length_append, List.length_singleton]; omega
  · rw [if_neg z] at h; cases h
theorem ru_lp_big {B : Nat → Int} (hB : pz_fi B) : ∀ (k : Nat) (u : (Nat × Nat) × Nat), 400 ≤ u.1.1 + k → ru_lp B (k + 1) u = ru_lp B k u
  | 0, u, h => by
    have e : ¬ B u.1.1 = 59 := by rw [hB u.1.1 (by omega)]; decide
    show (if B u.1.1 = 59 then _ else []) = []
    rw [if_neg e]
  | k + 1, u, h => by
    by_cases z : B u.1.1 = 59
    · have p1 := pz_nt_gt (B := B) (p := u.1.1) (by omega)
      have q1 : (pz_nx B u.1).1 = pz_nt B u.1.1 := rfl
      show (if B u.1.1 = 59 then ru_cl B (pz_nx B u.1) :: (match pz_cla B u.2 (pz_nx B u.1) with | .ok t => ru_lp B (k + 1) (t, u.2 + 1) | .error _ => []) else []) = (if B u.1.1 = 59 then ru_cl B (pz_nx B u.1) :: (match pz_cla B u.2 (pz_nx B u.1) with | .ok t => ru_lp B k (t, u.2 + 1) | .error _ => []) else [])
      rw [if_pos z, if_pos z]
      cases e : pz_cla B u.2 (pz_nx B u.1) with
      | error y => rfl
      | ok t =>
        have h3 := (pz_cla_gt hB e).2
        show ru_cl B (pz_nx B u.1) :: ru_lp B (k + 1) (t, u.2 + 1) = ru_cl B (pz_nx B u.1) :: ru_lp B k (t, u.2 + 1)
        rw [ru_lp_big hB k (t, u.2 + 1) (by show 400 ≤ t.1 + k; omega)]
    · show (if B u.1.1 = 59 then _ else []) = (if B u.1.1 = 59 then _ else [])
      rw [if_neg z, if_neg z]
theorem ru_lp_on {B : Nat → Int} (hB : pz_fi B) {u : (Nat × Nat) × Nat} {t : Nat × Nat} (h : B u.1.1 = 59) (e : pz_cla B u.2 (pz_nx B u.1) = .ok t) : ru_lp B 401 u = ru_cl B (pz_nx B u.1) :: ru_lp B 401 (t, u.2 + 1) := by
  show (if B u.1.1 = 59 then ru_cl B (pz_nx B u.1) :: (match pz_cla B u.2 (pz_nx B u.1) with | .ok t => ru_lp B 400 (t, u.2 + 1) | .error _ => []) else []) = _
  rw [if_pos h, e]
  show ru_cl B (pz_nx B u.1) :: ru_lp B 400 (t, u.2 + 1) = _
  rw [ru_lp_big hB 400 (t, u.2 + 1) (Nat.le_add_left _ _)]
theorem ru_lp_no {B : Nat → Int} {u : (Nat × Nat) × Nat} (h : ¬ B u.1.1 = 59) : ru_lp B 401 u = [] := if_neg h
theorem ru_lp_gd {B : Nat → Int} : ∀ (n : Nat) (u w : (Nat × Nat) × Nat), pz_it (pz_rF B) n u = .ok w → u.1.2 ≤ 60 → u.2 ≤ 12 → ru_ok (ru_lp B n u) ∧ (ru_fl (ru_lp B n u)).length + u.1.1 ≤ w.1.1 ∧ (ru_lp B n u).length + u.2 ≤ 12
  | 0, u, w, h, _, hl => by cases h; exact ⟨trivial, by show 0 + u.1.1 ≤ u.1.1; omega, by show 0 + u.2 ≤ 12; omega⟩
  | n + 1, u, w, h, h6, hl => by
    rw [pz_it] at h
    by_cases z : B u.1.1 = 59
    · have e1 : pz_rF B u = some (pz_b (pz_cla B u.2 (pz_nx B u.1)) (fun t => .ok (t, u.2 + 1))) := if_pos z
      rw [e1] at h
      have p1 := pz_nt_gt (B := B) (p := u.1.1) (by omega)
      have q1 : (pz_nx B u.1).1 = pz_nt B u.1.1 := rfl
      have q2 : (pz_nx B u.1).2 = u.1.2 := rfl
      cases e : pz_cla B u.2 (pz_nx B u.1) with
      | error y => rw [e] at h; cases h
      | ok t =>
        rw [e] at h
        have h : pz_it (pz_rF B) n (t, u.2 + 1) = .ok w := h
        obtain ⟨a1, a2, a3, a4, a5⟩ := ru_cl_gd e (by omega) (ru_lp B n (t, u.2 + 1))
        obtain ⟨i1, i2, i3⟩ := ru_lp_gd n (t, u.2 + 1) w h a4 (by show u.2 + 1 ≤ 12; omega)
        have e2 : ru_lp B (n + 1) u = ru_cl B (pz_nx B u.1) :: ru_lp B n (t, u.2 + 1) := by
          show (if B u.1.1 = 59 then ru_cl B (pz_nx B u.1) :: (match pz_cla B u.2 (pz_nx B u.1) with | .ok t => ru_lp B n (t, u.2 + 1) | .error _ => []) else []) = _
          rw [if_pos z, e]
        have i2 : (ru_fl (ru_lp B n (t, u.2 + 1))).length + t.1 ≤ w.1.1 := i2
        have i3 : (ru_lp B n (t, u.2 + 1)).length + (u.2 + 1) ≤ 12 := i3
        rw [e2]
        refine ⟨a1 i1, ?_, ?_⟩
        · rw [ru_fl_c, List.length_append]; omega
        · rw [List.length_cons]; omega
    · have e1 : pz_rF B u = none := if_neg z
      rw [e1] at h
      have h : (Except.ok u : Except Int ((Nat × Nat) × Nat)) = .ok w := h
      cases h
      have e2 : ru_lp B (n + 1) u = [] := if_neg z
      rw [e2]
      exact ⟨trivial, by show 0 + u.1.1 ≤ u.1.1; omega, by show 0 + u.2 ≤ 12; omega⟩
theorem ru_of_gd {B : Nat → Int} {p : Nat} (h : pz_rule B = .ok p) : ru_ok (ru_of B) ∧ (ru_fl (ru_of B)).length ≤ p ∧ (ru_of B).length ≤ 12 := by
  unfold pz_rule at h
  unfold ru_of
  cases e : pz_cla B 0 (pz_sk B 0, 0) with
  | error y => rw [e] at h; cases h
  | ok t =>
    rw [e] at h
    have h : pz_b (pz_lp (pz_rF B) (t, 1)) (fun u => pz_end B u.1.1) = .ok p := h
    cases e2 : pz_lp (pz_rF B) (t, 1) with
    | error y => rw [e2] at h; cases h
    | ok w =>
      rw [e2] at h
      have h : pz_end B w.1.1 = .ok p := h
      have ep : w.1.1 = p := by
        unfold pz_end at h
        by_cases z : B w.1.1 = -1
        · rw [if_pos z] at h; cases h; rfl
        · rw [if_neg z] at h; cases h
      obtain ⟨a1, a2, a3, a4, a5⟩ := ru_cl_gd e (by show 0 ≤ 60; omega) (ru_lp B 401 (t, 1))
      obtain ⟨i1, i2, i3⟩ := ru_lp_gd 401 (t, 1) w e2 a4 (by show 1 ≤ 12; omega)
      have i2 : (ru_fl (ru_lp B 401 (t, 1))).length + t.1 ≤ w.1.1 := i2
      have i3 : (ru_lp B 401 (t, 1)).length + 1 ≤ 12 := i3
      show ru_ok (ru_cl B (pz_sk B 0, 0) :: ru_lp B 401 (t, 1)) ∧ (ru_fl (ru_cl B (pz_sk B 0, 0) :: ru_lp B 401 (t, 1))).length ≤ p ∧ (ru_cl B (pz_sk B 0, 0) :: ru_lp B 401 (t, 1)).length ≤ 12
      refine ⟨a1 i1, ?_, ?_⟩
      · rw [ru_fl_c, List.length_append]; omega
      · rw [List.length_cons]; omega
def CdE (rf : Nat → Int32) (L : List Int) : Prop := ∀ i : Nat, i < L.length → (rf i).toInt = L.getD i 0
def rC (o : Int) : Int := if o = -12 then 2 else if o = -13 then 3 else if o = -14 then 4 else if o = -15 then 5 else if o = -7 then 6 else if o = -8 then 7 else if o = -9 then 8 else if o = -10 then 9 else if o = -11 then 10 else if o = -4 then 11 else if o = -5 then 12 else if o = -6 then 13 else 14
def rE (o : Int) : Int := if 100000 ≤ o then 1 + 16 * (o - 100000) else if 0 ≤ o then 16 * o else rC o
def RwE (sg : Nat → Int32) (t p : Nat) (c : List Int) : Prop := ∀ j : Nat, j < c.length → (sg (400 * t + p + j)).toInt = rE (c.getD j 0)
def RoE (sg cl : Nat → Int32) (t c : Nat) (x : List Int × Option (List Int)) : Prop := (∃ p : Nat, (cl (48 * t + 4 * c)).toInt = (p : Int) ∧ (cl (48 * t + 4 * c + 1)).toInt = (p : Int) + (x.1.length : Int) ∧ (cl (48 * t + 4 * c + 1)).toInt ≤ 400 ∧ RwE sg t p x.1) ∧ match x.2 with
  | none => (cl (48 * t + 4 * c + 2)).toInt < 0
  | some u => ∃ q : Nat, (cl (48 * t + 4 * c + 2)).toInt = (q : Int) ∧ (cl (48 * t + 4 * c + 3)).toInt = (q : Int) + (u.length : Int) ∧ (cl (48 * t + 4 * c + 3)).toInt ≤ 400 ∧ RwE sg t q u
def RwR (sg cl cs : Nat → Int32) (t : Nat) (R : RuA) : Prop := (cs t).toInt = (R.length : Int) ∧ R.length ≤ 12 ∧ ∀ c : Nat, c < R.length → RoE sg cl t c (R.getD c ([], none))
def DEq {α : Type} (a b : α) : Prop := a = b
def dX9_isTold (Av_2 : Int32) : Int32 := (if Av_2 ≤ (0 : Int32) then (0 : Int32) else (1 : Int32))
set_option maxHeartbeats 4000000 in
set_option maxRecDepth 100000 in
theorem ct_dX9_isTold (l : Launch) (D : va_G) (tc : Nat → ClassId) (sk : (Nat → Nat) × (Nat → Nat)) (Aa : Nat → Nat) (Av : Nat → Int32) (Af : Nat → Nat → Int32)  : Ct l yX9_isTold cX9_isTold 1 (some .boolean) { frames := 0, cells := 0, slots := 0, locals := 0 } D tc sk [.ref (Aa 0)] [((Aa 0), .inr (9, [.int (Av 0), .int (Av 1), .int (Av 2), .int (Av 3), .int (Av 4), .int (Av 5), .ref (Aa 1), .ref (Aa 2), .ref (Aa 3), .ref (Aa 4), .ref (Aa 5), .ref (Aa 6), .ref (Aa 7), .ref (Aa 8)])), ((Aa 1), .inl (tc 0, 10, .inl (Af 1))), ((Aa 2), .inl (tc 0, 10, .inl (Af 2))), ((Aa 3), .inl (tc 0, 6, .inl (Af 3))), ((Aa 4), .inl (tc 0, 6, .inl (Af 4))), ((Aa 5), .inl (tc 0, 6, .inl (Af 5))), ((Aa 6), .inl (tc 0, 6, .inl (Af 6))), ((Aa 7), .inl (tc 0, 6, .inl (Af 7))), ((Aa 8), .inl (tc 0, 6, .inl (Af 8)))] (fun (v : Option Value) (_ : Unit) => ∃ r : Int32, v = some (.int r) ∧ (((r.toInt = 0 ∨ r.toInt = 1)) ∧ r = (dX9_isTold (Av 2)))) (fun (_ : Unit) => [((Aa 0), .inr (9, [.int (Av 0), .int (Av 1), .int (Av 2), .int (Av 3), .int (Av 4), .int (Av 5), .ref (Aa 1), .ref (Aa 2), .ref (Aa 3), .ref (Aa 4), .ref (Aa 5), .ref (Aa 6), .ref (Aa 7), .ref (Aa 8)])), ((Aa 1), .inl (tc 0, 10, .inl (Af 1))), ((Aa 2), .inl (tc 0, 10, .inl (Af 2))), ((Aa 3), .inl (tc 0, 6, .inl (Af 3))), ((Aa 4), .inl (tc 0, 6, .inl (Af 4))), ((Aa 5), .inl (tc 0, 6, .inl (Af 5))), ((Aa 6), .inl (tc 0, 6, .inl (Af 6))), ((Aa 7), .inl (tc 0, 6, .inl (Af 7))), ((Aa 8), .inl (tc 0, 6, .inl (Af 8)))]) 0 0 := by
  refine Ct.start (by decide) (Nat.le_of_ble_eq_true rfl) (fun p e s m below meth c A ls hx hb hr hlk hin hml hown hts hK hX hP hD hA hl hS => ?_)
  have hl : lv_has ls 1 [(0, .ref (Aa 0))] := hl
  refine lv_aload_n hx hb dX9_isTold_0 rfl (lv_at hl 0 rfl) ?_
  refine gf_X9_18 hx hb hts hown hK hP 0 rfl rfl dX9_isTold_1 ?_
  refine lv_if_le (tgt := 11) hx hb dX9_isTold_4 (by decide) (fun c_1 => ?_) (fun c_1 => ?_)
  · skip
    refine lv_iconst (v := 0) hx hb dX9_isTold_11 (by decide) ?_
    have hp_2 : ((0 : Int32).toInt = 0 ∨ (0 : Int32).toInt = 1) := by
      have z_1 := Int32.le_iff_toInt_le.mp c_1
      have y_0 : (0 : Int32).toInt = 0 := by decide
      omega
    have hF_3 : (0 : Int32) = (dX9_isTold (Av 2)) := by
      clear hP hD hS hl
      unfold dX9_isTold
      rw [if_pos c_1]
      try rfl
    exact retI (v := 0) hx hb hr hlk (rfl) hP hD hS () ⟨_, rfl, ⟨hp_2, hF_3⟩⟩ [0, 1, 2, 3, 4, 5, 6, 7, 8] rfl rfl dX9_isTold_12 (Nat.le_of_ble_eq_true rfl) (Nat.le_of_ble_eq_true rfl) rfl
  · skip
    refine lv_iconst (v := 1) hx hb dX9_isTold_7 (by decide) ?_
    refine lv_goto (tgt := 12) hx hb dX9_isTold_8 (by decide) ?_
    have hp_4 : ((1 : Int32).toInt = 0 ∨ (1 : Int32).toInt = 1) := by
      have z_1 := Int32.lt_iff_toInt_lt.mp (Int32.not_le.mp c_1)
      have y_0 : (0 : Int32).toInt = 0 := by decide
      have y_1 : (1 : Int32).toInt = 1 := by decide
      have yr : (1 : Int32).toInt = 1 := by decide
      omega
    have hF_5 : (1 : Int32) = (dX9_isTold (Av 2)) := by
      clear hP hD hS hl
      unfold dX9_isTold
      rw [if_neg c_1]
      try rfl
    exact retI (v := 1) hx hb hr hlk (rfl) hP hD hS () ⟨_, rfl, ⟨hp_4, hF_5⟩⟩ [0, 1, 2, 3, 4, 5, 6, 7, 8] rfl rfl dX9_isTold_12 (Nat.le_of_ble_eq_true rfl) (Nat.le_of_ble_eq_true rfl) rfl
set_option maxRecDepth 100000 in
theorem cu_dX9_isTold (l : Launch) (D : va_G) (tc : Nat → ClassId) (sk : (Nat → Nat) × (Nat → Nat)) (Aa_0 : Nat) (Aa_1 : Nat) (Aa_2 : Nat) (Aa_3 : Nat) (Aa_4 : Nat) (Aa_5 : Nat) (Aa_6 : Nat) (Aa_7 : Nat) (Aa_8 : Nat) (Av_0 : Int32) (Av_1 : Int32) (Av_2 : Int32) (Av_3 : Int32) (Av_4 : Int32) (Av_5 : Int32) (Af_1 : Nat → Int32) (Af_2 : Nat → Int32) (Af_3 : Nat → Int32) (Af_4 : Nat → Int32) (Af_5 : Nat → Int32) (Af_6 : Nat → Int32) (Af_7 : Nat → Int32) (Af_8 : Nat → Int32)  : Ct l yX9_isTold cX9_isTold 1 (some .boolean) { frames := 0, cells := 0, slots := 0, locals := 0 } D tc sk [.ref Aa_0] [(Aa_0, .inr (9, [.int Av_0, .int Av_1, .int Av_2, .int Av_3, .int Av_4, .int Av_5, .ref Aa_1, .ref Aa_2, .ref Aa_3, .ref Aa_4, .ref Aa_5, .ref Aa_6, .ref Aa_7, .ref Aa_8])), (Aa_1, .inl (tc 0, 10, .inl Af_1)), (Aa_2, .inl (tc 0, 10, .inl Af_2)), (Aa_3, .inl (tc 0, 6, .inl Af_3)), (Aa_4, .inl (tc 0, 6, .inl Af_4)), (Aa_5, .inl (tc 0, 6, .inl Af_5)), (Aa_6, .inl (tc 0, 6, .inl Af_6)), (Aa_7, .inl (tc 0, 6, .inl Af_7)), (Aa_8, .inl (tc 0, 6, .inl Af_8))] (fun (v : Option Value) (_ : Unit) => ∃ r : Int32, v = some (.int r) ∧ (((r.toInt = 0 ∨ r.toInt = 1)) ∧ r = (dX9_isTold Av_2))) (fun (_ : Unit) => [(Aa_0, .inr (9, [.int Av_0, .int Av_1, .int Av_2, .int Av_3, .int Av_4, .int Av_5, .ref Aa_1, .ref Aa_2, .ref Aa_3, .ref Aa_4, .ref Aa_5, .ref Aa_6, .ref Aa_7, .ref Aa_8])), (Aa_1, .inl (tc 0, 10, .inl Af_1)), (Aa_2, .inl (tc 0, 10, .inl Af_2)), (Aa_3, .inl (tc 0, 6, .inl Af_3)), (Aa_4, .inl (tc 0, 6, .inl Af_4)), (Aa_5, .inl (tc 0, 6, .inl Af_5)), (Aa_6, .inl (tc 0, 6, .inl Af_6)), (Aa_7, .inl (tc 0, 6, .inl Af_7)), (Aa_8, .inl (tc 0, 6, .inl Af_8))]) 0 0 :=
  ct_dX9_isTold l D tc sk (fun k => ([Aa_0, Aa_1, Aa_2, Aa_3, Aa_4, Aa_5, Aa_6, Aa_7, Aa_8] : List (Nat)).getD k 0) (fun k => ([Av_0, Av_1, Av_2, Av_3, Av_4, Av_5] : List (Int32)).getD k 0) (fun k => ([(fun _ => 0), Af_1, Af_2, Af_3, Af_4, Af_5, Af_6, Af_7, Af_8] : List (Nat → Int32)).getD k (fun _ => 0)) 
def dX9_hasBuyer (Av_3 : Int32) (x1 : Int32) : Int32 := (if x1 < (0 : Int32) then (0 : Int32) else (if Av_3 ≤ x1 then (0 : Int32) else (if (6 : Int32) ≤ x1 then (0 : Int32) else (1 : Int32))))
set_option maxHeartbeats 4000000 in
set_option maxRecDepth 100000 in
theorem ct_dX9_hasBuyer (l : Launch) (D : va_G) (tc : Nat → ClassId) (sk : (Nat → Nat) × (Nat → Nat)) (Aa : Nat → Nat) (Av : Nat → Int32) (Af : Nat → Nat → Int32) (x1 : Int32)  : Ct l yX9_hasBuyer cX9_hasBuyer 2 (some .boolean) { frames := 0, cells := 0, slots := 0, locals := 0 } D tc sk [.ref (Aa 0), .int x1] [((Aa 0), .inr (9, [.int (Av 0), .int (Av 1), .int (Av 2), .int (Av 3), .int (Av 4), .int (Av 5), .ref (Aa 1), .ref (Aa 2), .ref (Aa 3), .ref (Aa 4), .ref (Aa 5), .ref (Aa 6), .ref (Aa 7), .ref (Aa 8)])), ((Aa 1), .inl (tc 0, 10, .inl (Af 1))), ((Aa 2), .inl (tc 0, 10, .inl (Af 2))), ((Aa 3), .inl (tc 0, 6, .inl (Af 3))), ((Aa 4), .inl (tc 0, 6, .inl (Af 4))), ((Aa 5), .inl (tc 0, 6, .inl (Af 5))), ((Aa 6), .inl (tc 0, 6, .inl (Af 6))), ((Aa 7), .inl (tc 0, 6, .inl (Af 7))), ((Aa 8), .inl (tc 0, 6, .inl (Af 8)))] (fun (v : Option Value) (_ : Unit) => ∃ r : Int32, v = some (.int r) ∧ (((r.toInt = 0 ∨ (r.toInt = 1 ∧ 0 ≤ x1.toInt ∧ x1.toInt < 6 ∧ x1.toInt < (Av 3).toInt))) ∧ r = (dX9_hasBuyer (Av 3) x1))) (fun (_ : Unit) => [((Aa 0), .inr (9, [.int (Av 0), .int (Av 1), .int (Av 2), .int (Av 3), .int (Av 4), .int (Av 5), .ref (Aa 1), .ref (Aa 2), .ref (Aa 3), .ref (Aa 4), .ref (Aa 5), .ref (Aa 6), .ref (Aa 7), .ref (Aa 8)])), ((Aa 1), .inl (tc 0, 10, .inl (Af 1))), ((Aa 2), .inl (tc 0, 10, .inl (Af 2))), ((Aa 3), .inl (tc 0, 6, .inl (Af 3))), ((Aa 4), .inl (tc 0, 6, .inl (Af 4))), ((Aa 5), .inl (tc 0, 6, .inl (Af 5))), ((Aa 6), .inl (tc 0, 6, .inl (Af 6))), ((Aa 7), .inl (tc 0, 6, .inl (Af 7))), ((Aa 8), .inl (tc 0, 6, .inl (Af 8)))]) 0 0 := by
  refine Ct.start (by decide) (Nat.le_of_ble_eq_true rfl) (fun p e s m below meth c A ls hx hb hr hlk hin hml hown hts hK hX hP hD hA hl hS => ?_)
  have hl : lv_has ls 2 [(0, .ref (Aa 0)), (1, .int x1)] := hl
  refine lv_iload_n hx hb dX9_hasBuyer_0 rfl (lv_at hl 1 rfl) ?_
  refine lv_if_lt (tgt := 22) hx hb dX9_hasBuyer_1 (by decide) (fun c_1 => ?_) (fun c_1 => ?_)
  · skip
    refine lv_iconst (v := 0) hx hb dX9_hasBuyer_22 (by decide) ?_
    have hp_2 : ((0 : Int32).toInt = 0 ∨ ((0 : Int32).toInt = 1 ∧ 0 ≤ x1.toInt ∧ x1.toInt < 6 ∧ x1.toInt < (Av 3).toInt)) := by
      have z_1 := Int32.lt_iff_toInt_lt.mp c_1
      have y_0 : (0 : Int32).toInt = 0 := by decide
      omega
    have hF_3 : (0 : Int32) = (dX9_hasBuyer (Av 3) x1) := by
      clear hP hD hS hl
      unfold dX9_hasBuyer
      rw [if_pos c_1]
      try rfl
    exact retI (v := 0) hx hb hr hlk (rfl) hP hD hS () ⟨_, rfl, ⟨hp_2, hF_3⟩⟩ [0, 1, 2, 3, 4, 5, 6, 7, 8] rfl rfl dX9_hasBuyer_23 (Nat.le_of_ble_eq_true rfl) (Nat.le_of_ble_eq_true rfl) rfl
  · skip
    refine lv_iload_n hx hb dX9_hasBuyer_4 rfl (lv_at hl 1 rfl) ?_
    refine lv_aload_n hx hb dX9_hasBuyer_5 rfl (lv_at hl 0 rfl) ?_
    refine gf_X9_21 hx hb hts hown hK hP 0 rfl rfl dX9_hasBuyer_6 ?_
    refine lv_icmp_ge (tgt := 22) hx hb dX9_hasBuyer_9 (by decide) (fun c_4 => ?_) (fun c_4 => ?_)
    · skip
      refine lv_iconst (v := 0) hx hb dX9_hasBuyer_22 (by decide) ?_
      have hp_5 : ((0 : Int32).toInt = 0 ∨ ((0 : Int32).toInt = 1 ∧ 0 ≤ x1.toInt ∧ x1.toInt < 6 ∧ x1.toInt < (Av 3).toInt)) := by
        have z_1 := Int32.le_iff_toInt_le.mp (Int32.not_lt.mp c_1)
        have z_2 := Int32.le_iff_toInt_le.mp c_4
        have y_0 : (0 : Int32).toInt = 0 := by decide
        omega
      have hF_6 : (0 : Int32) = (dX9_hasBuyer (Av 3) x1) := by
        clear hP hD hS hl
        unfold dX9_hasBuyer
        rw [if_neg c_1, if_pos c_4]
        try rfl
      exact retI (v := 0) hx hb hr hlk (rfl) hP hD hS () ⟨_, rfl, ⟨hp_5, hF_6⟩⟩ [0, 1, 2, 3, 4, 5, 6, 7, 8] rfl rfl dX9_hasBuyer_23 (Nat.le_of_ble_eq_true rfl) (Nat.le_of_ble_eq_true rfl) rfl
    · skip
      refine lv_iload_n hx hb dX9_hasBuyer_12 rfl (lv_at hl 1 rfl) ?_
      refine lv_bipush (v := 6) hx hb dX9_hasBuyer_13 (by decide) ?_
      refine lv_icmp_ge (tgt := 22) hx hb dX9_hasBuyer_15 (by decide) (fun c_7 => ?_) (fun c_7 => ?_)
      · skip
        refine lv_iconst (v := 0) hx hb dX9_hasBuyer_22 (by decide) ?_
        have hp_8 : ((0 : Int32).toInt = 0 ∨ ((0 : Int32).toInt = 1 ∧ 0 ≤ x1.toInt ∧ x1.toInt < 6 ∧ x1.toInt < (Av 3).toInt)) := by
          have z_1 := Int32.le_iff_toInt_le.mp (Int32.not_lt.mp c_1)
          have z_2 := Int32.lt_iff_toInt_lt.mp (Int32.not_le.mp c_4)
          have z_3 := Int32.le_iff_toInt_le.mp c_7
          have y_0 : (0 : Int32).toInt = 0 := by decide
          have y_6 : (6 : Int32).toInt = 6 := by decide
          omega
        have hF_9 : (0 : Int32) = (dX9_hasBuyer (Av 3) x1) := by
          clear hP hD hS hl
          unfold dX9_hasBuyer
          rw [if_neg c_1, if_neg c_4, if_pos c_7]
          try rfl
        exact retI (v := 0) hx hb hr hlk (rfl) hP hD hS () ⟨_, rfl, ⟨hp_8, hF_9⟩⟩ [0, 1, 2, 3, 4, 5, 6, 7, 8] rfl rfl dX9_hasBuyer_23 (Nat.le_of_ble_eq_true rfl) (Nat.le_of_ble_eq_true rfl) rfl
      · skip
        refine lv_iconst (v := 1) hx hb dX9_hasBuyer_18 (by decide) ?_
        refine lv_goto (tgt := 23) hx hb dX9_hasBuyer_19 (by decide) ?_
        have hp_10 : ((1 : Int32).toInt = 0 ∨ ((1 : Int32).toInt = 1 ∧ 0 ≤ x1.toInt ∧ x1.toInt < 6 ∧ x1.toInt < (Av 3).toInt)) := by
          have z_1 := Int32.le_iff_toInt_le.mp (Int32.not_lt.mp c_1)
          have z_2 := Int32.lt_iff_toInt_lt.mp (Int32.not_le.mp c_4)
          have z_3 := Int32.lt_iff_toInt_lt.mp (Int32.not_le.mp c_7)
          have y_0 : (0 : Int32).toInt = 0 := by decide
          have y_6 : (6 : Int32).toInt = 6 := by decide
          have y_1 : (1 : Int32).toInt = 1 := by decide
          have yr : (1 : Int32).toInt = 1 := by decide
          omega
        have hF_11 : (1 : Int32) = (dX9_hasBuyer (Av 3) x1) := by
          clear hP hD hS hl
          unfold dX9_hasBuyer
          rw [if_neg c_1, if_neg c_4, if_neg c_7]
          try rfl
        exact retI (v := 1) hx hb hr hlk (rfl) hP hD hS () ⟨_, rfl, ⟨hp_10, hF_11⟩⟩ [0, 1, 2, 3, 4, 5, 6, 7, 8] rfl rfl dX9_hasBuyer_23 (Nat.le_of_ble_eq_true rfl) (Nat.le_of_ble_eq_true rfl) rfl
set_option maxRecDepth 100000 in
theorem cu_dX9_hasBuyer (l : Launch) (D : va_G) (tc : Nat → ClassId) (sk : (Nat → Nat) × (Nat → Nat)) (Aa_0 : Nat) (Aa_1 : Nat) (Aa_2 : Nat) (Aa_3 : Nat) (Aa_4 : Nat) (Aa_5 : Nat) (Aa_6 : Nat) (Aa_7 : Nat) (Aa_8 : Nat) (Av_0 : Int32) (Av_1 : Int32) (Av_2 : Int32) (Av_3 : Int32) (Av_4 : Int32) (Av_5 : Int32) (Af_1 : Nat → Int32) (Af_2 : Nat → Int32) (Af_3 : Nat → Int32) (Af_4 : Nat → Int32) (Af_5 : Nat → Int32) (Af_6 : Nat → Int32) (Af_7 : Nat → Int32) (Af_8 : Nat → Int32) (x1 : Int32)  : Ct l yX9_hasBuyer cX9_hasBuyer 2 (some .boolean) { frames := 0, cells := 0, slots := 0, locals := 0 } D tc sk [.ref Aa_0, .int x1] [(Aa_0, .inr (9, [.int Av_0, .int Av_1, .int Av_2, .int Av_3, .int Av_4, .int Av_5, .ref Aa_1, .ref Aa_2, .ref Aa_3, .ref Aa_4, .ref Aa_5, .ref Aa_6, .ref Aa_7, .ref Aa_8])), (Aa_1, .inl (tc 0, 10, .inl Af_1)), (Aa_2, .inl (tc 0, 10, .inl Af_2)), (Aa_3, .inl (tc 0, 6, .inl Af_3)), (Aa_4, .inl (tc 0, 6, .inl Af_4)), (Aa_5, .inl (tc 0, 6, .inl Af_5)), (Aa_6, .inl (tc 0, 6, .inl Af_6)), (Aa_7, .inl (tc 0, 6, .inl Af_7)), (Aa_8, .inl (tc 0, 6, .inl Af_8))] (fun (v : Option Value) (_ : Unit) => ∃ r : Int32, v = some (.int r) ∧ (((r.toInt = 0 ∨ (r.toInt = 1 ∧ 0 ≤ x1.toInt ∧ x1.toInt < 6 ∧ x1.toInt < Av_3.toInt))) ∧ r = (dX9_hasBuyer Av_3 x1))) (fun (_ : Unit) => [(Aa_0, .inr (9, [.int Av_0, .int Av_1, .int Av_2, .int Av_3, .int Av_4, .int Av_5, .ref Aa_1, .ref Aa_2, .ref Aa_3, .ref Aa_4, .ref Aa_5, .ref Aa_6, .ref Aa_7, .ref Aa_8])), (Aa_1, .inl (tc 0, 10, .inl Af_1)), (Aa_2, .inl (tc 0, 10, .inl Af_2)), (Aa_3, .inl (tc 0, 6, .inl Af_3)), (Aa_4, .inl (tc 0, 6, .inl Af_4)), (Aa_5, .inl (tc 0, 6, .inl Af_5)), (Aa_6, .inl (tc 0, 6, .inl Af_6)), (Aa_7, .inl (tc 0, 6, .inl Af_7)), (Aa_8, .inl (tc 0, 6, .inl Af_8))]) 0 0 :=
  ct_dX9_hasBuyer l D tc sk (fun k => ([Aa_0, Aa_1, Aa_2, Aa_3, Aa_4, Aa_5, Aa_6, Aa_7, Aa_8] : List (Nat)).getD k 0) (fun k => ([Av_0, Av_1, Av_2, Av_3, Av_4, Av_5] : List (Int32)).getD k 0) (fun k => ([(fun _ => 0), Af_1, Af_2, Af_3, Af_4, Af_5, Af_6, Af_7, Af_8] : List (Nat → Int32)).getD k (fun _ => 0)) x1 
def dX9_hasClock (Av_2 : Int32) (x1 : Int32) : Int32 := (if x1 < (0 : Int32) then (0 : Int32) else (if Av_2 ≤ x1 then (0 : Int32) else (if (10 : Int32) ≤ x1 then (0 : Int32) else (1 : Int32))))
set_option maxHeartbeats 4000000 in
set_option maxRecDepth 100000 in
theorem ct_dX9_hasClock (l : Launch) (D : va_G) (tc : Nat → ClassId) (sk : (Nat → Nat) × (Nat → Nat)) (Aa : Nat → Nat) (Av : Nat → Int32) (Af : Nat → Nat → Int32) (x1 : Int32)  : Ct l yX9_hasClock cX9_hasClock 2 (some .boolean) { frames := 0, cells := 0, slots := 0, locals := 0 } D tc sk [.ref (Aa 0), .int x1] [((Aa 0), .inr (9, [.int (Av 0), .int (Av 1), .int (Av 2), .int (Av 3), .int (Av 4), .int (Av 5), .ref (Aa 1), .ref (Aa 2), .ref (Aa 3), .ref (Aa 4), .ref (Aa 5), .ref (Aa 6), .ref (Aa 7), .ref (Aa 8)])), ((Aa 1), .inl (tc 0, 10, .inl (Af 1))), ((Aa 2), .inl (tc 0, 10, .inl (Af 2))), ((Aa 3), .inl (tc 0, 6, .inl (Af 3))), ((Aa 4), .inl (tc 0, 6, .inl (Af 4))), ((Aa 5), .inl (tc 0, 6, .inl (Af 5))), ((Aa 6), .inl (tc 0, 6, .inl (Af 6))), ((Aa 7), .inl (tc 0, 6, .inl (Af 7))), ((Aa 8), .inl (tc 0, 6, .inl (Af 8)))] (fun (v : Option Value) (_ : Unit) => ∃ r : Int32, v = some (.int r) ∧ (((r.toInt = 0 ∨ (r.toInt = 1 ∧ 0 ≤ x1.toInt ∧ x1.toInt < 10))) ∧ r = (dX9_hasClock (Av 2) x1))) (fun (_ : Unit) => [((Aa 0), .inr (9, [.int (Av 0), .int (Av 1), .int (Av 2), .int (Av 3), .int (Av 4), .int (Av 5), .ref (Aa 1), .ref (Aa 2), .ref (Aa 3), .ref (Aa 4), .ref (Aa 5), .ref (Aa 6), .ref (Aa 7), .ref (Aa 8)])), ((Aa 1), .inl (tc 0, 10, .inl (Af 1))), ((Aa 2), .inl (tc 0, 10, .inl (Af 2))), ((Aa 3), .inl (tc 0, 6, .inl (Af 3))), ((Aa 4), .inl (tc 0, 6, .inl (Af 4))), ((Aa 5), .inl (tc 0, 6, .inl (Af 5))), ((Aa 6), .inl (tc 0, 6, .inl (Af 6))), ((Aa 7), .inl (tc 0, 6, .inl (Af 7))), ((Aa 8), .inl (tc 0, 6, .inl (Af 8)))]) 0 0 := by
  refine Ct.start (by decide) (Nat.le_of_ble_eq_true rfl) (fun p e s m below meth c A ls hx hb hr hlk hin hml hown hts hK hX hP hD hA hl hS => ?_)
  have hl : lv_has ls 2 [(0, .ref (Aa 0)), (1, .int x1)] := hl
  refine lv_iload_n hx hb dX9_hasClock_0 rfl (lv_at hl 1 rfl) ?_
  refine lv_if_lt (tgt := 22) hx hb dX9_hasClock_1 (by decide) (fun c_1 => ?_) (fun c_1 => ?_)
  · skip
    refine lv_iconst (v := 0) hx hb dX9_hasClock_22 (by decide) ?_
    have hp_2 : ((0 : Int32).toInt = 0 ∨ ((0 : Int32).toInt = 1 ∧ 0 ≤ x1.toInt ∧ x1.toInt < 10)) := by
      have z_1 := Int32.lt_iff_toInt_lt.mp c_1
      have y_0 : (0 : Int32).toInt = 0 := by decide
      omega
    have hF_3 : (0 : Int32) = (dX9_hasClock (Av 2) x1) := by
      clear hP hD hS hl
      unfold dX9_hasClock
      rw [if_pos c_1]
      try rfl
    exact retI (v := 0) hx hb hr hlk (rfl) hP hD hS () ⟨_, rfl, ⟨hp_2, hF_3⟩⟩ [0, 1, 2, 3, 4, 5, 6, 7, 8] rfl rfl dX9_hasClock_23 (Nat.le_of_ble_eq_true rfl) (Nat.le_of_ble_eq_true rfl) rfl
  · skip
    refine lv_iload_n hx hb dX9_hasClock_4 rfl (lv_at hl 1 rfl) ?_
    refine lv_aload_n hx hb dX9_hasClock_5 rfl (lv_at hl 0 rfl) ?_
    refine gf_X9_18 hx hb hts hown hK hP 0 rfl rfl dX9_hasClock_6 ?_
    refine lv_icmp_ge (tgt := 22) hx hb dX9_hasClock_9 (by decide) (fun c_4 => ?_) (fun c_4 => ?_)
    · skip
      refine lv_iconst (v := 0) hx hb dX9_hasClock_22 (by decide) ?_
      have hp_5 : ((0 : Int32).toInt = 0 ∨ ((0 : Int32).toInt = 1 ∧ 0 ≤ x1.toInt ∧ x1.toInt < 10)) := by
        have z_1 := Int32.le_iff_toInt_le.mp (Int32.not_lt.mp c_1)
        have z_2 := Int32.le_iff_toInt_le.mp c_4
        have y_0 : (0 : Int32).toInt = 0 := by decide
        omega
      have hF_6 : (0 : Int32) = (dX9_hasClock (Av 2) x1) := by
        clear hP hD hS hl
        unfold dX9_hasClock
        rw [if_neg c_1, if_pos c_4]
        try rfl
      exact retI (v := 0) hx hb hr hlk (rfl) hP hD hS () ⟨_, rfl, ⟨hp_5, hF_6⟩⟩ [0, 1, 2, 3, 4, 5, 6, 7, 8] rfl rfl dX9_hasClock_23 (Nat.le_of_ble_eq_true rfl) (Nat.le_of_ble_eq_true rfl) rfl
    · skip
      refine lv_iload_n hx hb dX9_hasClock_12 rfl (lv_at hl 1 rfl) ?_
      refine lv_bipush (v := 10) hx hb dX9_hasClock_13 (by decide) ?_
      refine lv_icmp_ge (tgt := 22) hx hb dX9_hasClock_15 (by decide) (fun c_7 => ?_) (fun c_7 => ?_)
      · skip
        refine lv_iconst (v := 0) hx hb dX9_hasClock_22 (by decide) ?_
        have hp_8 : ((0 : Int32).toInt = 0 ∨ ((0 : Int32).toInt = 1 ∧ 0 ≤ x1.toInt ∧ x1.toInt < 10)) := by
          have z_1 := Int32.le_iff_toInt_le.mp (Int32.not_lt.mp c_1)
          have z_2 := Int32.lt_iff_toInt_lt.mp (Int32.not_le.mp c_4)
          have z_3 := Int32.le_iff_toInt_le.mp c_7
          have y_0 : (0 : Int32).toInt = 0 := by decide
          have y_10 : (10 : Int32).toInt = 10 := by decide
          omega
        have hF_9 : (0 : Int32) = (dX9_hasClock (Av 2) x1) := by
          clear hP hD hS hl
          unfold dX9_hasClock
          rw [if_neg c_1, if_neg c_4, if_pos c_7]
          try rfl
        exact retI (v := 0) hx hb hr hlk (rfl) hP hD hS () ⟨_, rfl, ⟨hp_8, hF_9⟩⟩ [0, 1, 2, 3, 4, 5, 6, 7, 8] rfl rfl dX9_hasClock_23 (Nat.le_of_ble_eq_true rfl) (Nat.le_of_ble_eq_true rfl) rfl
      · skip
        refine lv_iconst (v := 1) hx hb dX9_hasClock_18 (by decide) ?_
        refine lv_goto (tgt := 23) hx hb dX9_hasClock_19 (by decide) ?_
        have hp_10 : ((1 : Int32).toInt = 0 ∨ ((1 : Int32).toInt = 1 ∧ 0 ≤ x1.toInt ∧ x1.toInt < 10)) := by
          have z_1 := Int32.le_iff_toInt_le.mp (Int32.not_lt.mp c_1)
          have z_2 := Int32.lt_iff_toInt_lt.mp (Int32.not_le.mp c_4)
          have z_3 := Int32.lt_iff_toInt_lt.mp (Int32.not_le.mp c_7)
          have y_0 : (0 : Int32).toInt = 0 := by decide
          have y_10 : (10 : Int32).toInt = 10 := by decide
          have y_1 : (1 : Int32).toInt = 1 := by decide
          have yr : (1 : Int32).toInt = 1 := by decide
          omega
        have hF_11 : (1 : Int32) = (dX9_hasClock (Av 2) x1) := by
          clear hP hD hS hl
          unfold dX9_hasClock
          rw [if_neg c_1, if_neg c_4, if_neg c_7]
          try rfl
        exact retI (v := 1) hx hb hr hlk (rfl) hP hD hS () ⟨_, rfl, ⟨hp_10, hF_11⟩⟩ [0, 1, 2, 3, 4, 5, 6, 7, 8] rfl rfl dX9_hasClock_23 (Nat.le_of_ble_eq_true rfl) (Nat.le_of_ble_eq_true rfl) rfl
set_option maxRecDepth 100000 in
theorem cu_dX9_hasClock (l : Launch) (D : va_G) (tc : Nat → ClassId) (sk : (Nat → Nat) × (Nat → Nat)) (Aa_0 : Nat) (Aa_1 : Nat) (Aa_2 : Nat) (Aa_3 : Nat) (Aa_4 : Nat) (Aa_5 : Nat) (Aa_6 : Nat) (Aa_7 : Nat) (Aa_8 : Nat) (Av_0 : Int32) (Av_1 : Int32) (Av_2 : Int32) (Av_3 : Int32) (Av_4 : Int32) (Av_5 : Int32) (Af_1 : Nat → Int32) (Af_2 : Nat → Int32) (Af_3 : Nat → Int32) (Af_4 : Nat → Int32) (Af_5 : Nat → Int32) (Af_6 : Nat → Int32) (Af_7 : Nat → Int32) (Af_8 : Nat → Int32) (x1 : Int32)  : Ct l yX9_hasClock cX9_hasClock 2 (some .boolean) { frames := 0, cells := 0, slots := 0, locals := 0 } D tc sk [.ref Aa_0, .int x1] [(Aa_0, .inr (9, [.int Av_0, .int Av_1, .int Av_2, .int Av_3, .int Av_4, .int Av_5, .ref Aa_1, .ref Aa_2, .ref Aa_3, .ref Aa_4, .ref Aa_5, .ref Aa_6, .ref Aa_7, .ref Aa_8])), (Aa_1, .inl (tc 0, 10, .inl Af_1)), (Aa_2, .inl (tc 0, 10, .inl Af_2)), (Aa_3, .inl (tc 0, 6, .inl Af_3)), (Aa_4, .inl (tc 0, 6, .inl Af_4)), (Aa_5, .inl (tc 0, 6, .inl Af_5)), (Aa_6, .inl (tc 0, 6, .inl Af_6)), (Aa_7, .inl (tc 0, 6, .inl Af_7)), (Aa_8, .inl (tc 0, 6, .inl Af_8))] (fun (v : Option Value) (_ : Unit) => ∃ r : Int32, v = some (.int r) ∧ (((r.toInt = 0 ∨ (r.toInt = 1 ∧ 0 ≤ x1.toInt ∧ x1.toInt < 10))) ∧ r = (dX9_hasClock Av_2 x1))) (fun (_ : Unit) => [(Aa_0, .inr (9, [.int Av_0, .int Av_1, .int Av_2, .int Av_3, .int Av_4, .int Av_5, .ref Aa_1, .ref Aa_2, .ref Aa_3, .ref Aa_4, .ref Aa_5, .ref Aa_6, .ref Aa_7, .ref Aa_8])), (Aa_1, .inl (tc 0, 10, .inl Af_1)), (Aa_2, .inl (tc 0, 10, .inl Af_2)), (Aa_3, .inl (tc 0, 6, .inl Af_3)), (Aa_4, .inl (tc 0, 6, .inl Af_4)), (Aa_5, .inl (tc 0, 6, .inl Af_5)), (Aa_6, .inl (tc 0, 6, .inl Af_6)), (Aa_7, .inl (tc 0, 6, .inl Af_7)), (Aa_8, .inl (tc 0, 6, .inl Af_8))]) 0 0 :=
  ct_dX9_hasClock l D tc sk (fun k => ([Aa_0, Aa_1, Aa_2, Aa_3, Aa_4, Aa_5, Aa_6, Aa_7, Aa_8] : List (Nat)).getD k 0) (fun k => ([Av_0, Av_1, Av_2, Av_3, Av_4, Av_5] : List (Int32)).getD k 0) (fun k => ([(fun _ => 0), Af_1, Af_2, Af_3, Af_4, Af_5, Af_6, Af_7, Af_8] : List (Nat → Int32)).getD k (fun _ => 0)) x1 
def dX9_clockOn (Av_2 : Int32) (x1 : Int32) : Int32 := (if Av_2 ≤ (0 : Int32) then (0 : Int32) else (if x1 < (0 : Int32) then (0 : Int32) else (x1 - x1 / Av_2 * Av_2)))
set_option maxHeartbeats 4000000 in
set_option maxRecDepth 100000 in
theorem ct_dX9_clockOn (l : Launch) (D : va_G) (tc : Nat → ClassId) (sk : (Nat → Nat) × (Nat → Nat)) (Aa : Nat → Nat) (Av : Nat → Int32) (Af : Nat → Nat → Int32) (x1 : Int32)  : Ct l yX9_clockOn cX9_clockOn 2 (some .int) { frames := 0, cells := 0, slots := 0, locals := 0 } D tc sk [.ref (Aa 0), .int x1] [((Aa 0), .inr (9, [.int (Av 0), .int (Av 1), .int (Av 2), .int (Av 3), .int (Av 4), .int (Av 5), .ref (Aa 1), .ref (Aa 2), .ref (Aa 3), .ref (Aa 4), .ref (Aa 5), .ref (Aa 6), .ref (Aa 7), .ref (Aa 8)])), ((Aa 1), .inl (tc 0, 10, .inl (Af 1))), ((Aa 2), .inl (tc 0, 10, .inl (Af 2))), ((Aa 3), .inl (tc 0, 6, .inl (Af 3))), ((Aa 4), .inl (tc 0, 6, .inl (Af 4))), ((Aa 5), .inl (tc 0, 6, .inl (Af 5))), ((Aa 6), .inl (tc 0, 6, .inl (Af 6))), ((Aa 7), .inl (tc 0, 6, .inl (Af 7))), ((Aa 8), .inl (tc 0, 6, .inl (Af 8)))] (fun (v : Option Value) (_ : Unit) => ∃ r : Int32, v = some (.int r) ∧ ((True) ∧ r = (dX9_clockOn (Av 2) x1))) (fun (_ : Unit) => [((Aa 0), .inr (9, [.int (Av 0), .int (Av 1), .int (Av 2), .int (Av 3), .int (Av 4), .int (Av 5), .ref (Aa 1), .ref (Aa 2), .ref (Aa 3), .ref (Aa 4), .ref (Aa 5), .ref (Aa 6), .ref (Aa 7), .ref (Aa 8)])), ((Aa 1), .inl (tc 0, 10, .inl (Af 1))), ((Aa 2), .inl (tc 0, 10, .inl (Af 2))), ((Aa 3), .inl (tc 0, 6, .inl (Af 3))), ((Aa 4), .inl (tc 0, 6, .inl (Af 4))), ((Aa 5), .inl (tc 0, 6, .inl (Af 5))), ((Aa 6), .inl (tc 0, 6, .inl (Af 6))), ((Aa 7), .inl (tc 0, 6, .inl (Af 7))), ((Aa 8), .inl (tc 0, 6, .inl (Af 8)))]) 0 0 := by
  refine Ct.start (by decide) (Nat.le_of_ble_eq_true rfl) (fun p e s m below meth c A ls hx hb hr hlk hin hml hown hts hK hX hP hD hA hl hS => ?_)
  have hl : lv_has ls 2 [(0, .ref (Aa 0)), (1, .int x1)] := hl
  refine lv_aload_n hx hb dX9_clockOn_0 rfl (lv_at hl 0 rfl) ?_
  refine gf_X9_18 hx hb hts hown hK hP 0 rfl rfl dX9_clockOn_1 ?_
  refine lv_if_le (tgt := 20) hx hb dX9_clockOn_4 (by decide) (fun c_1 => ?_) (fun c_1 => ?_)
  · skip
    refine lv_iconst (v := 0) hx hb dX9_clockOn_20 (by decide) ?_
    have hF_2 : (0 : Int32) = (dX9_clockOn (Av 2) x1) := by
      clear hP hD hS hl
      unfold dX9_clockOn
      rw [if_pos c_1]
      try rfl
    exact retI (v := 0) hx hb hr hlk (rfl) hP hD hS () ⟨_, rfl, ⟨trivial, hF_2⟩⟩ [0, 1, 2, 3, 4, 5, 6, 7, 8] rfl rfl dX9_clockOn_21 (Nat.le_of_ble_eq_true rfl) (Nat.le_of_ble_eq_true rfl) rfl
  · skip
    refine lv_iload_n hx hb dX9_clockOn_7 rfl (lv_at hl 1 rfl) ?_
    refine lv_if_lt (tgt := 20) hx hb dX9_clockOn_8 (by decide) (fun c_3 => ?_) (fun c_3 => ?_)
    · skip
      refine lv_iconst (v := 0) hx hb dX9_clockOn_20 (by decide) ?_
      have hF_4 : (0 : Int32) = (dX9_clockOn (Av 2) x1) := by
        clear hP hD hS hl
        unfold dX9_clockOn
        rw [if_neg c_1, if_pos c_3]
        try rfl
      exact retI (v := 0) hx hb hr hlk (rfl) hP hD hS () ⟨_, rfl, ⟨trivial, hF_4⟩⟩ [0, 1, 2, 3, 4, 5, 6, 7, 8] rfl rfl dX9_clockOn_21 (Nat.le_of_ble_eq_true rfl) (Nat.le_of_ble_eq_true rfl) rfl
    · skip
      refine lv_iload_n hx hb dX9_clockOn_11 rfl (lv_at hl 1 rfl) ?_
      refine lv_aload_n hx hb dX9_clockOn_12 rfl (lv_at hl 0 rfl) ?_
      refine gf_X9_18 hx hb hts hown hK hP 0 rfl rfl dX9_clockOn_13 ?_
      have hz_5 : ¬ (Av 2) = 0 := by
        intro z
        have zz : ((Av 2) : Int32).toInt = 0 := by rw [z]; decide
        have z_1 := Int32.lt_iff_toInt_lt.mp (Int32.not_le.mp c_1)
        have z_2 := Int32.le_iff_toInt_le.mp (Int32.not_lt.mp c_3)
        have y_0 : (0 : Int32).toInt = 0 := by decide
        omega
      refine lv_irem hx hb dX9_clockOn_16 hz_5 ?_
      refine lv_topi (fun x_6 ex_6 => ?_)
      refine lv_goto (tgt := 21) hx hb dX9_clockOn_17 (by decide) ?_
      have hF_7 : x_6 = (dX9_clockOn (Av 2) x1) := by
        clear hP hD hS hl
        replace ex_6 := ex_6.symm; subst ex_6
        unfold dX9_clockOn
        rw [if_neg c_1, if_neg c_3]
        try rfl
      exact retI (v := x_6) hx hb hr hlk (rfl) hP hD hS () ⟨_, rfl, ⟨trivial, hF_7⟩⟩ [0, 1, 2, 3, 4, 5, 6, 7, 8] rfl rfl dX9_clockOn_21 (Nat.le_of_ble_eq_true rfl) (Nat.le_of_ble_eq_true rfl) rfl
set_option maxRecDepth 100000 in
theorem cu_dX9_clockOn (l : Launch) (D : va_G) (tc : Nat → ClassId) (sk : (Nat → Nat) × (Nat → Nat)) (Aa_0 : Nat) (Aa_1 : Nat) (Aa_2 : Nat) (Aa_3 : Nat) (Aa_4 : Nat) (Aa_5 : Nat) (Aa_6 : Nat) (Aa_7 : Nat) (Aa_8 : Nat) (Av_0 : Int32) (Av_1 : Int32) (Av_2 : Int32) (Av_3 : Int32) (Av_4 : Int32) (Av_5 : Int32) (Af_1 : Nat → Int32) (Af_2 : Nat → Int32) (Af_3 : Nat → Int32) (Af_4 : Nat → Int32) (Af_5 : Nat → Int32) (Af_6 : Nat → Int32) (Af_7 : Nat → Int32) (Af_8 : Nat → Int32) (x1 : Int32)  : Ct l yX9_clockOn cX9_clockOn 2 (some .int) { frames := 0, cells := 0, slots := 0, locals := 0 } D tc sk [.ref Aa_0, .int x1] [(Aa_0, .inr (9, [.int Av_0, .int Av_1, .int Av_2, .int Av_3, .int Av_4, .int Av_5, .ref Aa_1, .ref Aa_2, .ref Aa_3, .ref Aa_4, .ref Aa_5, .ref Aa_6, .ref Aa_7, .ref Aa_8])), (Aa_1, .inl (tc 0, 10, .inl Af_1)), (Aa_2, .inl (tc 0, 10, .inl Af_2)), (Aa_3, .inl (tc 0, 6, .inl Af_3)), (Aa_4, .inl (tc 0, 6, .inl Af_4)), (Aa_5, .inl (tc 0, 6, .inl Af_5)), (Aa_6, .inl (tc 0, 6, .inl Af_6)), (Aa_7, .inl (tc 0, 6, .inl Af_7)), (Aa_8, .inl (tc 0, 6, .inl Af_8))] (fun (v : Option Value) (_ : Unit) => ∃ r : Int32, v = some (.int r) ∧ ((True) ∧ r = (dX9_clockOn Av_2 x1))) (fun (_ : Unit) => [(Aa_0, .inr (9, [.int Av_0, .int Av_1, .int Av_2, .int Av_3, .int Av_4, .int Av_5, .ref Aa_1, .ref Aa_2, .ref Aa_3, .ref Aa_4, .ref Aa_5, .ref Aa_6, .ref Aa_7, .ref Aa_8])), (Aa_1, .inl (tc 0, 10, .inl Af_1)), (Aa_2, .inl (tc 0, 10, .inl Af_2)), (Aa_3, .inl (tc 0, 6, .inl Af_3)), (Aa_4, .inl (tc 0, 6, .inl Af_4)), (Aa_5, .inl (tc 0, 6, .inl Af_5)), (Aa_6, .inl (tc 0, 6, .inl Af_6)), (Aa_7, .inl (tc 0, 6, .inl Af_7)), (Aa_8, .inl (tc 0, 6, .inl Af_8))]) 0 0 :=
  ct_dX9_clockOn l D tc sk (fun k => ([Aa_0, Aa_1, Aa_2, Aa_3, Aa_4, Aa_5, Aa_6, Aa_7, Aa_8] : List (Nat)).getD k 0) (fun k => ([Av_0, Av_1, Av_2, Av_3, Av_4, Av_5] : List (Int32)).getD k 0) (fun k => ([(fun _ => 0), Af_1, Af_2, Af_3, Af_4, Af_5, Af_6, Af_7, Af_8] : List (Nat → Int32)).getD k (fun _ => 0)) x1 
def dX9_stillOn (Af_1 : Nat → Int32) (Av_2 : Int32) (x1 : Int32) : Int32 := (if Av_2 ≤ (0 : Int32) then (0 : Int32) else (if (0 : Int32) ≤ x1 then (if (10 : Int32) ≤ (x1 - x1 / Av_2 * Av_2) then (0 : Int32) else (Af_1 ((x1 - x1 / Av_2 * Av_2)).toNatClampNeg)) else (0 : Int32)))
set_option maxHeartbeats 4000000 in
set_option maxRecDepth 100000 in
theorem ct_dX9_stillOn (l : Launch) (D : va_G) (tc : Nat → ClassId) (sk : (Nat → Nat) × (Nat → Nat)) (Aa : Nat → Nat) (Av : Nat → Int32) (Af : Nat → Nat → Int32) (x1 : Int32)  : Ct l yX9_stillOn cX9_stillOn 3 (some .int) { frames := 0, cells := 0, slots := 0, locals := 0 } D tc sk [.ref (Aa 0), .int x1] [((Aa 0), .inr (9, [.int (Av 0), .int (Av 1), .int (Av 2), .int (Av 3), .int (Av 4), .int (Av 5), .ref (Aa 1), .ref (Aa 2), .ref (Aa 3), .ref (Aa 4), .ref (Aa 5), .ref (Aa 6), .ref (Aa 7), .ref (Aa 8)])), ((Aa 1), .inl (tc 0, 10, .inl (Af 1))), ((Aa 2), .inl (tc 0, 10, .inl (Af 2))), ((Aa 3), .inl (tc 0, 6, .inl (Af 3))), ((Aa 4), .inl (tc 0, 6, .inl (Af 4))), ((Aa 5), .inl (tc 0, 6, .inl (Af 5))), ((Aa 6), .inl (tc 0, 6, .inl (Af 6))), ((Aa 7), .inl (tc 0, 6, .inl (Af 7))), ((Aa 8), .inl (tc 0, 6, .inl (Af 8)))] (fun (v : Option Value) (_ : Unit) => ∃ r : Int32, v = some (.int r) ∧ ((True) ∧ r = (dX9_stillOn (Af 1) (Av 2) x1))) (fun (_ : Unit) => [((Aa 0), .inr (9, [.int (Av 0), .int (Av 1), .int (Av 2), .int (Av 3), .int (Av 4), .int (Av 5), .ref (Aa 1), .ref (Aa 2), .ref (Aa 3), .ref (Aa 4), .ref (Aa 5), .ref (Aa 6), .ref (Aa 7), .ref (Aa 8)])), ((Aa 1), .inl (tc 0, 10, .inl (Af 1))), ((Aa 2), .inl (tc 0, 10, .inl (Af 2))), ((Aa 3), .inl (tc 0, 6, .inl (Af 3))), ((Aa 4), .inl (tc 0, 6, .inl (Af 4))), ((Aa 5), .inl (tc 0, 6, .inl (Af 5))), ((Aa 6), .inl (tc 0, 6, .inl (Af 6))), ((Aa 7), .inl (tc 0, 6, .inl (Af 7))), ((Aa 8), .inl (tc 0, 6, .inl (Af 8)))]) 0 0 := by
  refine Ct.start (by decide) (Nat.le_of_ble_eq_true rfl) (fun p e s m below meth c A ls hx hb hr hlk hin hml hown hts hK hX hP hD hA hl hS => ?_)
  have hl : lv_has ls 3 [(0, .ref (Aa 0)), (1, .int x1)] := hl
  refine lv_aload_n hx hb dX9_stillOn_0 rfl (lv_at hl 0 rfl) ?_
  refine gf_X9_18 hx hb hts hown hK hP 0 rfl rfl dX9_stillOn_1 ?_
  refine lv_if_le (tgt := 11) hx hb dX9_stillOn_4 (by decide) (fun c_1 => ?_) (fun c_1 => ?_)
  · skip
    refine lv_iconst (v := 0) hx hb dX9_stillOn_11 (by decide) ?_
    have hF_2 : (0 : Int32) = (dX9_stillOn (Af 1) (Av 2) x1) := by
      clear hP hD hS hl
      unfold dX9_stillOn
      rw [if_pos c_1]
      try rfl
    exact retI (v := 0) hx hb hr hlk (rfl) hP hD hS () ⟨_, rfl, ⟨trivial, hF_2⟩⟩ [0, 1, 2, 3, 4, 5, 6, 7, 8] rfl rfl dX9_stillOn_12 (Nat.le_of_ble_eq_true rfl) (Nat.le_of_ble_eq_true rfl) rfl
  · skip
    refine lv_iload_n hx hb dX9_stillOn_7 rfl (lv_at hl 1 rfl) ?_
    refine lv_if_ge (tgt := 13) hx hb dX9_stillOn_8 (by decide) (fun c_3 => ?_) (fun c_3 => ?_)
    · skip
      refine lv_iload_n hx hb dX9_stillOn_13 rfl (lv_at hl 1 rfl) ?_
      refine lv_aload_n hx hb dX9_stillOn_14 rfl (lv_at hl 0 rfl) ?_
      refine gf_X9_18 hx hb hts hown hK hP 0 rfl rfl dX9_stillOn_15 ?_
      have hz_4 : ¬ (Av 2) = 0 := by
        intro z
        have zz : ((Av 2) : Int32).toInt = 0 := by rw [z]; decide
        have z_1 := Int32.lt_iff_toInt_lt.mp (Int32.not_le.mp c_1)
        have z_2 := Int32.le_iff_toInt_le.mp c_3
        have y_0 : (0 : Int32).toInt = 0 := by decide
        omega
      refine lv_irem hx hb dX9_stillOn_18 hz_4 ?_
      refine lv_topi (fun x_5 ex_5 => ?_)
      refine lv_istore_n (lv' := [(2, .int x_5), (0, .ref (Aa 0)), (1, .int x1)]) hx hb dX9_stillOn_19 rfl hl (by decide) rfl (fun ls hl₀ => ?_)
      replace hl := hl₀
      clear hl₀
      refine lv_iload_n hx hb dX9_stillOn_20 rfl (lv_at hl 0 rfl) ?_
      refine lv_bipush (v := 10) hx hb dX9_stillOn_21 (by decide) ?_
      refine lv_icmp_ge (tgt := 35) hx hb dX9_stillOn_23 (by decide) (fun c_6 => ?_) (fun c_6 => ?_)
      · skip
        refine lv_iconst (v := 0) hx hb dX9_stillOn_35 (by decide) ?_
        have hF_7 : (0 : Int32) = (dX9_stillOn (Af 1) (Av 2) x1) := by
          clear hP hD hS hl
          replace ex_5 := ex_5.symm; subst ex_5
          unfold dX9_stillOn
          rw [if_neg c_1, if_pos c_3, if_pos c_6]
          try rfl
        exact retI (v := 0) hx hb hr hlk (rfl) hP hD hS () ⟨_, rfl, ⟨trivial, hF_7⟩⟩ [0, 1, 2, 3, 4, 5, 6, 7, 8] rfl rfl dX9_stillOn_36 (Nat.le_of_ble_eq_true rfl) (Nat.le_of_ble_eq_true rfl) rfl
      · skip
        refine lv_aload_n hx hb dX9_stillOn_26 rfl (lv_at hl 1 rfl) ?_
        refine gf_X9_30 hx hb hts hown hK hP 0 rfl rfl dX9_stillOn_27 ?_
        refine lv_iload_n hx hb dX9_stillOn_30 rfl (lv_at hl 0 rfl) ?_
        have hi_8 : vp_in x_5 10 := by
          have z_1 := Int32.lt_iff_toInt_lt.mp (Int32.not_le.mp c_1)
          have z_2 := Int32.le_iff_toInt_le.mp c_3
          have z_3 := Int32.lt_iff_toInt_lt.mp (Int32.not_le.mp c_6)
          have y_0 : (0 : Int32).toInt = 0 := by decide
          have y_10 : (10 : Int32).toInt = 10 := by decide
          have t_x_5 := rem_bounds (x := x1) (y := (Av 2)) (by omega)
          rw [← ex_5] at t_x_5
          refine vp_in_iff.mpr ⟨?_, ?_⟩ <;> omega
        refine va_iald hx hb hK hP 1 0 rfl rfl hi_8 dX9_stillOn_31 ?_
        refine lv_topi (fun x_9 ex_9 => ?_)
        refine lv_goto (tgt := 36) hx hb dX9_stillOn_32 (by decide) ?_
        have hF_10 : x_9 = (dX9_stillOn (Af 1) (Av 2) x1) := by
          clear hP hD hS hl
          replace ex_5 := ex_5.symm; subst ex_5
          replace ex_9 := ex_9.symm; subst ex_9
          unfold dX9_stillOn
          rw [if_neg c_1, if_pos c_3, if_neg c_6]
          try rfl
        exact retI (v := x_9) hx hb hr hlk (rfl) hP hD hS () ⟨_, rfl, ⟨trivial, hF_10⟩⟩ [0, 1, 2, 3, 4, 5, 6, 7, 8] rfl rfl dX9_stillOn_36 (Nat.le_of_ble_eq_true rfl) (Nat.le_of_ble_eq_true rfl) rfl
    · skip
      refine lv_iconst (v := 0) hx hb dX9_stillOn_11 (by decide) ?_
      have hF_11 : (0 : Int32) = (dX9_stillOn (Af 1) (Av 2) x1) := by
        clear hP hD hS hl
        unfold dX9_stillOn
        rw [if_neg c_1, if_neg c_3]
        try rfl
      exact retI (v := 0) hx hb hr hlk (rfl) hP hD hS () ⟨_, rfl, ⟨trivial, hF_11⟩⟩ [0, 1, 2, 3, 4, 5, 6, 7, 8] rfl rfl dX9_stillOn_12 (Nat.le_of_ble_eq_true rfl) (Nat.le_of_ble_eq_true rfl) rfl
set_option maxRecDepth 100000 in
theorem cu_dX9_stillOn (l : Launch) (D : va_G) (tc : Nat → ClassId) (sk : (Nat → Nat) × (Nat → Nat)) (Aa_0 : Nat) (Aa_1 : Nat) (Aa_2 : Nat) (Aa_3 : Nat) (Aa_4 : Nat) (Aa_5 : Nat) (Aa_6 : Nat) (Aa_7 : Nat) (Aa_8 : Nat) (Av_0 : Int32) (Av_1 : Int32) (Av_2 : Int32) (Av_3 : Int32) (Av_4 : Int32) (Av_5 : Int32) (Af_1 : Nat → Int32) (Af_2 : Nat → Int32) (Af_3 : Nat → Int32) (Af_4 : Nat → Int32) (Af_5 : Nat → Int32) (Af_6 : Nat → Int32) (Af_7 : Nat → Int32) (Af_8 : Nat → Int32) (x1 : Int32)  : Ct l yX9_stillOn cX9_stillOn 3 (some .int) { frames := 0, cells := 0, slots := 0, locals := 0 } D tc sk [.ref Aa_0, .int x1] [(Aa_0, .inr (9, [.int Av_0, .int Av_1, .int Av_2, .int Av_3, .int Av_4, .int Av_5, .ref Aa_1, .ref Aa_2, .ref Aa_3, .ref Aa_4, .ref Aa_5, .ref Aa_6, .ref Aa_7, .ref Aa_8])), (Aa_1, .inl (tc 0, 10, .inl Af_1)), (Aa_2, .inl (tc 0, 10, .inl Af_2)), (Aa_3, .inl (tc 0, 6, .inl Af_3)), (Aa_4, .inl (tc 0, 6, .inl Af_4)), (Aa_5, .inl (tc 0, 6, .inl Af_5)), (Aa_6, .inl (tc 0, 6, .inl Af_6)), (Aa_7, .inl (tc 0, 6, .inl Af_7)), (Aa_8, .inl (tc 0, 6, .inl Af_8))] (fun (v : Option Value) (_ : Unit) => ∃ r : Int32, v = some (.int r) ∧ ((True) ∧ r = (dX9_stillOn Af_1 Av_2 x1))) (fun (_ : Unit) => [(Aa_0, .inr (9, [.int Av_0, .int Av_1, .int Av_2, .int Av_3, .int Av_4, .int Av_5, .ref Aa_1, .ref Aa_2, .ref Aa_3, .ref Aa_4, .ref Aa_5, .ref Aa_6, .ref Aa_7, .ref Aa_8])), (Aa_1, .inl (tc 0, 10, .inl Af_1)), (Aa_2, .inl (tc 0, 10, .inl Af_2)), (Aa_3, .inl (tc 0, 6, .inl Af_3)), (Aa_4, .inl (tc 0, 6, .inl Af_4)), (Aa_5, .inl (tc 0, 6, .inl Af_5)), (Aa_6, .inl (tc 0, 6, .inl Af_6)), (Aa_7, .inl (tc 0, 6, .inl Af_7)), (Aa_8, .inl (tc 0, 6, .inl Af_8))]) 0 0 :=
  ct_dX9_stillOn l D tc sk (fun k => ([Aa_0, Aa_1, Aa_2, Aa_3, Aa_4, Aa_5, Aa_6, Aa_7, Aa_8] : List (Nat)).getD k 0) (fun k => ([Av_0, Av_1, Av_2, Av_3, Av_4, Av_5] : List (Int32)).getD k 0) (fun k => ([(fun _ => 0), Af_1, Af_2, Af_3, Af_4, Af_5, Af_6, Af_7, Af_8] : List (Nat → Int32)).getD k (fun _ => 0)) x1 
def dX9_daysSince (Af_8 : Nat → Int32) (Av_3 : Int32) (Av_4 : Int32) (x1 : Int32) : Int32 := (if (dX9_hasBuyer Av_3 x1) = (0 : Int32) then (99 : Int32) else (if (Af_8 (x1).toNatClampNeg) = (-1 : Int32) then (99 : Int32) else (Av_4 - (Af_8 (x1).toNatClampNeg))))
set_option maxHeartbeats 4000000 in
set_option maxRecDepth 100000 in
theorem ct_dX9_daysSince (l : Launch) (D : va_G) (tc : Nat → ClassId) (sk : (Nat → Nat) × (Nat → Nat)) (Aa : Nat → Nat) (Av : Nat → Int32) (Af : Nat → Nat → Int32) (x1 : Int32)  : Ct l yX9_daysSince cX9_daysSince 2 (some .int) { frames := 1, cells := 0, slots := 0, locals := 21 } D tc sk [.ref (Aa 0), .int x1] [((Aa 0), .inr (9, [.int (Av 0), .int (Av 1), .int (Av 2), .int (Av 3), .int (Av 4), .int (Av 5), .ref (Aa 1), .ref (Aa 2), .ref (Aa 3), .ref (Aa 4), .ref (Aa 5), .ref (Aa 6), .ref (Aa 7), .ref (Aa 8)])), ((Aa 1), .inl (tc 0, 10, .inl (Af 1))), ((Aa 2), .inl (tc 0, 10, .inl (Af 2))), ((Aa 3), .inl (tc 0, 6, .inl (Af 3))), ((Aa 4), .inl (tc 0, 6, .inl (Af 4))), ((Aa 5), .inl (tc 0, 6, .inl (Af 5))), ((Aa 6), .inl (tc 0, 6, .inl (Af 6))), ((Aa 7), .inl (tc 0, 6, .inl (Af 7))), ((Aa 8), .inl (tc 0, 6, .inl (Af 8)))] (fun (v : Option Value) (_ : Unit) => ∃ r : Int32, v = some (.int r) ∧ ((True) ∧ r = (dX9_daysSince (Af 8) (Av 3) (Av 4) x1))) (fun (_ : Unit) => [((Aa 0), .inr (9, [.int (Av 0), .int (Av 1), .int (Av 2), .int (Av 3), .int (Av 4), .int (Av 5), .ref (Aa 1), .ref (Aa 2), .ref (Aa 3), .ref (Aa 4), .ref (Aa 5), .ref (Aa 6), .ref (Aa 7), .ref (Aa 8)])), ((Aa 1), .inl (tc 0, 10, .inl (Af 1))), ((Aa 2), .inl (tc 0, 10, .inl (Af 2))), ((Aa 3), .inl (tc 0, 6, .inl (Af 3))), ((Aa 4), .inl (tc 0, 6, .inl (Af 4))), ((Aa 5), .inl (tc 0, 6, .inl (Af 5))), ((Aa 6), .inl (tc 0, 6, .inl (Af 6))), ((Aa 7), .inl (tc 0, 6, .inl (Af 7))), ((Aa 8), .inl (tc 0, 6, .inl (Af 8)))]) 0 0 := by
  refine Ct.start (by decide) (Nat.le_of_ble_eq_true rfl) (fun p e s m below meth c A ls hx hb hr hlk hin hml hown hts hK hX hP hD hA hl hS => ?_)
  have hl : lv_has ls 2 [(0, .ref (Aa 0)), (1, .int x1)] := hl
  refine lv_aload_n hx hb dX9_daysSince_0 rfl (lv_at hl 0 rfl) ?_
  refine lv_iload_n hx hb dX9_daysSince_1 rfl (lv_at hl 1 rfl) ?_
  refine cV (a := (Aa 0)) (As := [.int x1]) (rest := []) (wr := []) ⟨hx, hb, hml, hown, hts⟩ hK hX hA (cu_dX9_hasBuyer l D tc sk (Aa 0) (Aa 1) (Aa 2) (Aa 3) (Aa 4) (Aa 5) (Aa 6) (Aa 7) (Aa 8) (Av 0) (Av 1) (Av 2) (Av 3) (Av 4) (Av 5) (Af 1) (Af 2) (Af 3) (Af 4) (Af 5) (Af 6) (Af 7) (Af 8) x1) k_591 k_707 k_589 k_590 k_98 pl_X9_hasBuyer ⟨Nat.le_of_ble_eq_true rfl, Nat.le_of_ble_eq_true rfl⟩ rfl rfl (va_recv hK hP (ci := 9) (q0 := 0) rfl rfl) hP hD hS [0, 1, 2, 3, 4, 5, 6, 7, 8] [] rfl rfl rfl rfl rfl (by decide) rfl hl.1 rfl (Nat.le_of_ble_eq_true rfl) dX9_daysSince_2 ⟨Nat.le_of_ble_eq_true rfl, Nat.le_of_ble_eq_true rfl⟩ (fun v_1 u_2 H locs hv_3 hP₀ hD₀ hS₀ => ?_)
  obtain ⟨r_4, rfl, he_5⟩ := hv_3
  have he_5 : ((r_4.toInt = 0 ∨ (r_4.toInt = 1 ∧ 0 ≤ x1.toInt ∧ x1.toInt < 6 ∧ x1.toInt < (Av 3).toInt))) ∧ r_4 = (dX9_hasBuyer (Av 3) x1) := he_5
  refine W.eq (g2 := F0 m 5 ls [.int r_4]) rfl ?_
  replace hP : va_P D classes [((Aa 0), .inr (9, [.int (Av 0), .int (Av 1), .int (Av 2), .int (Av 3), .int (Av 4), .int (Av 5), .ref (Aa 1), .ref (Aa 2), .ref (Aa 3), .ref (Aa 4), .ref (Aa 5), .ref (Aa 6), .ref (Aa 7), .ref (Aa 8)])), ((Aa 1), .inl (tc 0, 10, .inl (Af 1))), ((Aa 2), .inl (tc 0, 10, .inl (Af 2))), ((Aa 3), .inl (tc 0, 6, .inl (Af 3))), ((Aa 4), .inl (tc 0, 6, .inl (Af 4))), ((Aa 5), .inl (tc 0, 6, .inl (Af 5))), ((Aa 6), .inl (tc 0, 6, .inl (Af 6))), ((Aa 7), .inl (tc 0, 6, .inl (Af 7))), ((Aa 8), .inl (tc 0, 6, .inl (Af 8)))] H := hP₀
  replace hD : va_D A [((Aa 0), .inr (9, [.int (Av 0), .int (Av 1), .int (Av 2), .int (Av 3), .int (Av 4), .int (Av 5), .ref (Aa 1), .ref (Aa 2), .ref (Aa 3), .ref (Aa 4), .ref (Aa 5), .ref (Aa 6), .ref (Aa 7), .ref (Aa 8)])), ((Aa 1), .inl (tc 0, 10, .inl (Af 1))), ((Aa 2), .inl (tc 0, 10, .inl (Af 2))), ((Aa 3), .inl (tc 0, 6, .inl (Af 3))), ((Aa 4), .inl (tc 0, 6, .inl (Af 4))), ((Aa 5), .inl (tc 0, 6, .inl (Af 5))), ((Aa 6), .inl (tc 0, 6, .inl (Af 6))), ((Aa 7), .inl (tc 0, 6, .inl (Af 7))), ((Aa 8), .inl (tc 0, 6, .inl (Af 8)))] := hD₀
  replace hS := hS₀
  clear hP₀ hD₀ hS₀
  obtain ⟨he_5, hq_7⟩ := he_5
  have er_4 : r_4 = (dX9_hasBuyer (Av 3) x1) := hq_7
  refine lv_if_eq (tgt := 18) hx hb dX9_daysSince_5 (by decide) (fun c_8 => ?_) (fun c_8 => ?_)
  · skip
    refine lv_bipush (v := 99) hx hb dX9_daysSince_18 (by decide) ?_
    refine lv_goto (tgt := 34) hx hb dX9_daysSince_20 (by decide) ?_
    have hF_9 : (99 : Int32) = (dX9_daysSince (Af 8) (Av 3) (Av 4) x1) := by
      clear hP hD hS hl
      replace er_4 := er_4.symm; subst er_4
      unfold dX9_daysSince
      rw [if_pos c_8]
      try rfl
    exact retI (v := 99) hx hb hr hlk (rfl) hP hD hS () ⟨_, rfl, ⟨trivial, hF_9⟩⟩ [0, 1, 2, 3, 4, 5, 6, 7, 8] rfl rfl dX9_daysSince_34 (Nat.le_of_ble_eq_true rfl) (Nat.le_of_ble_eq_true rfl) rfl
  · skip
    refine lv_aload_n hx hb dX9_daysSince_8 rfl (lv_at hl 0 rfl) ?_
    refine gf_X9_52 hx hb hts hown hK hP 0 rfl rfl dX9_daysSince_9 ?_
    refine lv_iload_n hx hb dX9_daysSince_12 rfl (lv_at hl 1 rfl) ?_
    have hi_10 : vp_in x1 6 := by
      have z_1 : ¬ (r_4 : Int32).toInt = (0 : Int32).toInt := fun z => c_8 (Int32.toInt_inj.mp z)
      have y_0 : (0 : Int32).toInt = 0 := by decide
      refine vp_in_iff.mpr ⟨?_, ?_⟩ <;> omega
    refine va_iald hx hb hK hP 8 0 rfl rfl hi_10 dX9_daysSince_13 ?_
    refine lv_topi (fun x_11 ex_11 => ?_)
    refine lv_iconst (v := (-1)) hx hb dX9_daysSince_14 (by decide) ?_
    refine lv_icmp_ne (tgt := 23) hx hb dX9_daysSince_15 (by decide) (fun c_12 => ?_) (fun c_12 => ?_)
    · skip
      refine lv_aload_n hx hb dX9_daysSince_23 rfl (lv_at hl 0 rfl) ?_
      refine gf_X9_24 hx hb hts hown hK hP 0 rfl rfl dX9_daysSince_24 ?_
      refine lv_aload_n hx hb dX9_daysSince_27 rfl (lv_at hl 0 rfl) ?_
      refine gf_X9_52 hx hb hts hown hK hP 0 rfl rfl dX9_daysSince_28 ?_
      refine lv_iload_n hx hb dX9_daysSince_31 rfl (lv_at hl 1 rfl) ?_
      have hi_13 : vp_in x1 6 := by
        have z_1 : ¬ (r_4 : Int32).toInt = (0 : Int32).toInt := fun z => c_8 (Int32.toInt_inj.mp z)
        have z_2 : ¬ (x_11 : Int32).toInt = ((-1) : Int32).toInt := fun z => c_12 (Int32.toInt_inj.mp z)
        have y_m1 : (-1 : Int32).toInt = -1 := by decide
        have y_0 : (0 : Int32).toInt = 0 := by decide
        refine vp_in_iff.mpr ⟨?_, ?_⟩ <;> omega
      refine va_iald hx hb hK hP 8 0 rfl rfl hi_13 dX9_daysSince_32 ?_
      refine lv_topi (fun x_14 ex_14 => ?_)
      refine lv_isub hx hb dX9_daysSince_33 ?_
      refine lv_topi (fun x_15 ex_15 => ?_)
      have hF_16 : x_15 = (dX9_daysSince (Af 8) (Av 3) (Av 4) x1) := by
        clear hP hD hS hl
        replace er_4 := er_4.symm; subst er_4
        replace ex_11 := ex_11.symm; subst ex_11
        replace ex_14 := ex_14.symm; subst ex_14
        replace ex_15 := ex_15.symm; subst ex_15
        unfold dX9_daysSince
        rw [if_neg c_8, if_neg c_12]
        try rfl
      exact retI (v := x_15) hx hb hr hlk (rfl) hP hD hS () ⟨_, rfl, ⟨trivial, hF_16⟩⟩ [0, 1, 2, 3, 4, 5, 6, 7, 8] rfl rfl dX9_daysSince_34 (Nat.le_of_ble_eq_true rfl) (Nat.le_of_ble_eq_true rfl) rfl
    · skip
      refine lv_bipush (v := 99) hx hb dX9_daysSince_18 (by decide) ?_
      refine lv_goto (tgt := 34) hx hb dX9_daysSince_20 (by decide) ?_
      have hF_17 : (99 : Int32) = (dX9_daysSince (Af 8) (Av 3) (Av 4) x1) := by
        clear hP hD hS hl
        replace er_4 := er_4.symm; subst er_4
        replace ex_11 := ex_11.symm; subst ex_11
        unfold dX9_daysSince
        rw [if_neg c_8, if_pos c_12]
        try rfl
      exact retI (v := 99) hx hb hr hlk (rfl) hP hD hS () ⟨_, rfl, ⟨trivial, hF_17⟩⟩ [0, 1, 2, 3, 4, 5, 6, 7, 8] rfl rfl dX9_daysSince_34 (Nat.le_of_ble_eq_true rfl) (Nat.le_of_ble_eq_true rfl) rfl
set_option maxRecDepth 100000 in
theorem cu_dX9_daysSince (l : Launch) (D : va_G) (tc : Nat → ClassId) (sk : (Nat → Nat) × (Nat → Nat)) (Aa_0 : Nat) (Aa_1 : Nat) (Aa_2 : Nat) (Aa_3 : Nat) (Aa_4 : Nat) (Aa_5 : Nat) (Aa_6 : Nat) (Aa_7 : Nat) (Aa_8 : Nat) (Av_0 : Int32) (Av_1 : Int32) (Av_2 : Int32) (Av_3 : Int32) (Av_4 : Int32) (Av_5 : Int32) (Af_1 : Nat → Int32) (Af_2 : Nat → Int32) (Af_3 : Nat → Int32) (Af_4 : Nat → Int32) (Af_5 : Nat → Int32) (Af_6 : Nat → Int32) (Af_7 : Nat → Int32) (Af_8 : Nat → Int32) (x1 : Int32)  : Ct l yX9_daysSince cX9_daysSince 2 (some .int) { frames := 1, cells := 0, slots := 0, locals := 21 } D tc sk [.ref Aa_0, .int x1] [(Aa_0, .inr (9, [.int Av_0, .int Av_1, .int Av_2, .int Av_3, .int Av_4, .int Av_5, .ref Aa_1, .ref Aa_2, .ref Aa_3, .ref Aa_4, .ref Aa_5, .ref Aa_6, .ref Aa_7, .ref Aa_8])), (Aa_1, .inl (tc 0, 10, .inl Af_1)), (Aa_2, .inl (tc 0, 10, .inl Af_2)), (Aa_3, .inl (tc 0, 6, .inl Af_3)), (Aa_4, .inl (tc 0, 6, .inl Af_4)), (Aa_5, .inl (tc 0, 6, .inl Af_5)), (Aa_6, .inl (tc 0, 6, .inl Af_6)), (Aa_7, .inl (tc 0, 6, .inl Af_7)), (Aa_8, .inl (tc 0, 6, .inl Af_8))] (fun (v : Option Value) (_ : Unit) => ∃ r : Int32, v = some (.int r) ∧ ((True) ∧ r = (dX9_daysSince Af_8 Av_3 Av_4 x1))) (fun (_ : Unit) => [(Aa_0, .inr (9, [.int Av_0, .int Av_1, .int Av_2, .int Av_3, .int Av_4, .int Av_5, .ref Aa_1, .ref Aa_2, .ref Aa_3, .ref Aa_4, .ref Aa_5, .ref Aa_6, .ref Aa_7, .ref Aa_8])), (Aa_1, .inl (tc 0, 10, .inl Af_1)), (Aa_2, .inl (tc 0, 10, .inl Af_2)), (Aa_3, .inl (tc 0, 6, .inl Af_3)), (Aa_4, .inl (tc 0, 6, .inl Af_4)), (Aa_5, .inl (tc 0, 6, .inl Af_5)), (Aa_6, .inl (tc 0, 6, .inl Af_6)), (Aa_7, .inl (tc 0, 6, .inl Af_7)), (Aa_8, .inl (tc 0, 6, .inl Af_8))]) 0 0 :=
  ct_dX9_daysSince l D tc sk (fun k => ([Aa_0, Aa_1, Aa_2, Aa_3, Aa_4, Aa_5, Aa_6, Aa_7, Aa_8] : List (Nat)).getD k 0) (fun k => ([Av_0, Av_1, Av_2, Av_3, Av_4, Av_5] : List (Int32)).getD k 0) (fun k => ([(fun _ => 0), Af_1, Af_2, Af_3, Af_4, Af_5, Af_6, Af_7, Af_8] : List (Nat → Int32)).getD k (fun _ => 0)) x1 
def dX9_canBuy (Af_4 : Nat → Int32) (Af_5 : Nat → Int32) (Af_8 : Nat → Int32) (Av_0 : Int32) (Av_3 : Int32) (Av_4 : Int32) (x1 : Int32) : Int32 := (if (dX9_hasBuyer Av_3 x1) = (0 : Int32) then (0 : Int32) else (if (Af_4 (x1).toNatClampNeg) ≤ Av_0 then (if (Af_8 (x1).toNatClampNeg) = (-1 : Int32) then (1 : Int32) else (if (Av_4 - (Af_8 (x1).toNatClampNeg)) ≤ (Af_5 (x1).toNatClampNeg) then (0 : Int32) else (1 : Int32))) else (0 : Int32)))
set_option maxHeartbeats 4000000 in
set_option maxRecDepth 100000 in
theorem ct_dX9_canBuy (l : Launch) (D : va_G) (tc : Nat → ClassId) (sk : (Nat → Nat) × (Nat → Nat)) (Aa : Nat → Nat) (Av : Nat → Int32) (Af : Nat → Nat → Int32) (x1 : Int32)  : Ct l yX9_canBuy cX9_canBuy 2 (some .boolean) { frames := 1, cells := 0, slots := 0, locals := 21 } D tc sk [.ref (Aa 0), .int x1] [((Aa 0), .inr (9, [.int (Av 0), .int (Av 1), .int (Av 2), .int (Av 3), .int (Av 4), .int (Av 5), .ref (Aa 1), .ref (Aa 2), .ref (Aa 3), .ref (Aa 4), .ref (Aa 5), .ref (Aa 6), .ref (Aa 7), .ref (Aa 8)])), ((Aa 1), .inl (tc 0, 10, .inl (Af 1))), ((Aa 2), .inl (tc 0, 10, .inl (Af 2))), ((Aa 3), .inl (tc 0, 6, .inl (Af 3))), ((Aa 4), .inl (tc 0, 6, .inl (Af 4))), ((Aa 5), .inl (tc 0, 6, .inl (Af 5))), ((Aa 6), .inl (tc 0, 6, .inl (Af 6))), ((Aa 7), .inl (tc 0, 6, .inl (Af 7))), ((Aa 8), .inl (tc 0, 6, .inl (Af 8)))] (fun (v : Option Value) (_ : Unit) => ∃ r : Int32, v = some (.int r) ∧ (((r.toInt = 0 ∨ r.toInt = 1)) ∧ r = (dX9_canBuy (Af 4) (Af 5) (Af 8) (Av 0) (Av 3) (Av 4) x1))) (fun (_ : Unit) => [((Aa 0), .inr (9, [.int (Av 0), .int (Av 1), .int (Av 2), .int (Av 3), .int (Av 4), .int (Av 5), .ref (Aa 1), .ref (Aa 2), .ref (Aa 3), .ref (Aa 4), .ref (Aa 5), .ref (Aa 6), .ref (Aa 7), .ref (Aa 8)])), ((Aa 1), .inl (tc 0, 10, .inl (Af 1))), ((Aa 2), .inl (tc 0, 10, .inl (Af 2))), ((Aa 3), .inl (tc 0, 6, .inl (Af 3))), ((Aa 4), .inl (tc 0, 6, .inl (Af 4))), ((Aa 5), .inl (tc 0, 6, .inl (Af 5))), ((Aa 6), .inl (tc 0, 6, .inl (Af 6))), ((Aa 7), .inl (tc 0, 6, .inl (Af 7))), ((Aa 8), .inl (tc 0, 6, .inl (Af 8)))]) 0 0 := by
  refine Ct.start (by decide) (Nat.le_of_ble_eq_true rfl) (fun p e s m below meth c A ls hx hb hr hlk hin hml hown hts hK hX hP hD hA hl hS => ?_)
  have hl : lv_has ls 2 [(0, .ref (Aa 0)), (1, .int x1)] := hl
  refine lv_aload_n hx hb dX9_canBuy_0 rfl (lv_at hl 0 rfl) ?_
  refine lv_iload_n hx hb dX9_canBuy_1 rfl (lv_at hl 1 rfl) ?_
  refine cV (a := (Aa 0)) (As := [.int x1]) (rest := []) (wr := []) ⟨hx, hb, hml, hown, hts⟩ hK hX hA (cu_dX9_hasBuyer l D tc sk (Aa 0) (Aa 1) (Aa 2) (Aa 3) (Aa 4) (Aa 5) (Aa 6) (Aa 7) (Aa 8) (Av 0) (Av 1) (Av 2) (Av 3) (Av 4) (Av 5) (Af 1) (Af 2) (Af 3) (Af 4) (Af 5) (Af 6) (Af 7) (Af 8) x1) k_591 k_707 k_589 k_590 k_98 pl_X9_hasBuyer ⟨Nat.le_of_ble_eq_true rfl, Nat.le_of_ble_eq_true rfl⟩ rfl rfl (va_recv hK hP (ci := 9) (q0 := 0) rfl rfl) hP hD hS [0, 1, 2, 3, 4, 5, 6, 7, 8] [] rfl rfl rfl rfl rfl (by decide) rfl hl.1 rfl (Nat.le_of_ble_eq_true rfl) dX9_canBuy_2 ⟨Nat.le_of_ble_eq_true rfl, Nat.le_of_ble_eq_true rfl⟩ (fun v_1 u_2 H locs hv_3 hP₀ hD₀ hS₀ => ?_)
  obtain ⟨r_4, rfl, he_5⟩ := hv_3
  have he_5 : ((r_4.toInt = 0 ∨ (r_4.toInt = 1 ∧ 0 ≤ x1.toInt ∧ x1.toInt < 6 ∧ x1.toInt < (Av 3).toInt))) ∧ r_4 = (dX9_hasBuyer (Av 3) x1) := he_5
  refine W.eq (g2 := F0 m 5 ls [.int r_4]) rfl ?_
  replace hP : va_P D classes [((Aa 0), .inr (9, [.int (Av 0), .int (Av 1), .int (Av 2), .int (Av 3), .int (Av 4), .int (Av 5), .ref (Aa 1), .ref (Aa 2), .ref (Aa 3), .ref (Aa 4), .ref (Aa 5), .ref (Aa 6), .ref (Aa 7), .ref (Aa 8)])), ((Aa 1), .inl (tc 0, 10, .inl (Af 1))), ((Aa 2), .inl (tc 0, 10, .inl (Af 2))), ((Aa 3), .inl (tc 0, 6, .inl (Af 3))), ((Aa 4), .inl (tc 0, 6, .inl (Af 4))), ((Aa 5), .inl (tc 0, 6, .inl (Af 5))), ((Aa 6), .inl (tc 0, 6, .inl (Af 6))), ((Aa 7), .inl (tc 0, 6, .inl (Af 7))), ((Aa 8), .inl (tc 0, 6, .inl (Af 8)))] H := hP₀
  replace hD : va_D A [((Aa 0), .inr (9, [.int (Av 0), .int (Av 1), .int (Av 2), .int (Av 3), .int (Av 4), .int (Av 5), .ref (Aa 1), .ref (Aa 2), .ref (Aa 3), .ref (Aa 4), .ref (Aa 5), .ref (Aa 6), .ref (Aa 7), .ref (Aa 8)])), ((Aa 1), .inl (tc 0, 10, .inl (Af 1))), ((Aa 2), .inl (tc 0, 10, .inl (Af 2))), ((Aa 3), .inl (tc 0, 6, .inl (Af 3))), ((Aa 4), .inl (tc 0, 6, .inl (Af 4))), ((Aa 5), .inl (tc 0, 6, .inl (Af 5))), ((Aa 6), .inl (tc 0, 6, .inl (Af 6))), ((Aa 7), .inl (tc 0, 6, .inl (Af 7))), ((Aa 8), .inl (tc 0, 6, .inl (Af 8)))] := hD₀
  replace hS := hS₀
  clear hP₀ hD₀ hS₀
  obtain ⟨he_5, hq_7⟩ := he_5
  have er_4 : r_4 = (dX9_hasBuyer (Av 3) x1) := hq_7
  refine lv_if_eq (tgt := 21) hx hb dX9_canBuy_5 (by decide) (fun c_8 => ?_) (fun c_8 => ?_)
  · skip
    refine lv_iconst (v := 0) hx hb dX9_canBuy_21 (by decide) ?_
    have hp_9 : ((0 : Int32).toInt = 0 ∨ (0 : Int32).toInt = 1) := by
      have z_1 := congrArg Int32.toInt c_8
      have y_0 : (0 : Int32).toInt = 0 := by decide
      omega
    have hF_10 : (0 : Int32) = (dX9_canBuy (Af 4) (Af 5) (Af 8) (Av 0) (Av 3) (Av 4) x1) := by
      clear hP hD hS hl
      replace er_4 := er_4.symm; subst er_4
      unfold dX9_canBuy
      rw [if_pos c_8]
      try rfl
    exact retI (v := 0) hx hb hr hlk (rfl) hP hD hS () ⟨_, rfl, ⟨hp_9, hF_10⟩⟩ [0, 1, 2, 3, 4, 5, 6, 7, 8] rfl rfl dX9_canBuy_22 (Nat.le_of_ble_eq_true rfl) (Nat.le_of_ble_eq_true rfl) rfl
  · skip
    refine lv_aload_n hx hb dX9_canBuy_8 rfl (lv_at hl 0 rfl) ?_
    refine gf_X9_9 hx hb hts hown hK hP 0 rfl rfl dX9_canBuy_9 ?_
    refine lv_aload_n hx hb dX9_canBuy_12 rfl (lv_at hl 0 rfl) ?_
    refine gf_X9_40 hx hb hts hown hK hP 0 rfl rfl dX9_canBuy_13 ?_
    refine lv_iload_n hx hb dX9_canBuy_16 rfl (lv_at hl 1 rfl) ?_
    have hi_11 : vp_in x1 6 := by
      have z_1 : ¬ (r_4 : Int32).toInt = (0 : Int32).toInt := fun z => c_8 (Int32.toInt_inj.mp z)
      have y_0 : (0 : Int32).toInt = 0 := by decide
      refine vp_in_iff.mpr ⟨?_, ?_⟩ <;> omega
    refine va_iald hx hb hK hP 4 0 rfl rfl hi_11 dX9_canBuy_17 ?_
    refine lv_topi (fun x_12 ex_12 => ?_)
    refine lv_icmp_ge (tgt := 23) hx hb dX9_canBuy_18 (by decide) (fun c_13 => ?_) (fun c_13 => ?_)
    · skip
      refine lv_aload_n hx hb dX9_canBuy_23 rfl (lv_at hl 0 rfl) ?_
      refine gf_X9_52 hx hb hts hown hK hP 0 rfl rfl dX9_canBuy_24 ?_
      refine lv_iload_n hx hb dX9_canBuy_27 rfl (lv_at hl 1 rfl) ?_
      have hi_14 : vp_in x1 6 := by
        have z_1 : ¬ (r_4 : Int32).toInt = (0 : Int32).toInt := fun z => c_8 (Int32.toInt_inj.mp z)
        have z_2 := Int32.le_iff_toInt_le.mp c_13
        have y_0 : (0 : Int32).toInt = 0 := by decide
        refine vp_in_iff.mpr ⟨?_, ?_⟩ <;> omega
      refine va_iald hx hb hK hP 8 0 rfl rfl hi_14 dX9_canBuy_28 ?_
      refine lv_topi (fun x_15 ex_15 => ?_)
      refine lv_iconst (v := (-1)) hx hb dX9_canBuy_29 (by decide) ?_
      refine lv_icmp_eq (tgt := 53) hx hb dX9_canBuy_30 (by decide) (fun c_16 => ?_) (fun c_16 => ?_)
      · skip
        refine lv_iconst (v := 1) hx hb dX9_canBuy_53 (by decide) ?_
        refine lv_goto (tgt := 58) hx hb dX9_canBuy_54 (by decide) ?_
        have hp_17 : ((1 : Int32).toInt = 0 ∨ (1 : Int32).toInt = 1) := by
          have z_1 : ¬ (r_4 : Int32).toInt = (0 : Int32).toInt := fun z => c_8 (Int32.toInt_inj.mp z)
          have z_2 := Int32.le_iff_toInt_le.mp c_13
          have z_3 := congrArg Int32.toInt c_16
          have y_m1 : (-1 : Int32).toInt = -1 := by decide
          have y_0 : (0 : Int32).toInt = 0 := by decide
          have y_1 : (1 : Int32).toInt = 1 := by decide
          have yr : (1 : Int32).toInt = 1 := by decide
          omega
        have hF_18 : (1 : Int32) = (dX9_canBuy (Af 4) (Af 5) (Af 8) (Av 0) (Av 3) (Av 4) x1) := by
          clear hP hD hS hl
          replace er_4 := er_4.symm; subst er_4
          replace ex_12 := ex_12.symm; subst ex_12
          replace ex_15 := ex_15.symm; subst ex_15
          unfold dX9_canBuy
          rw [if_neg c_8, if_pos c_13, if_pos c_16]
          try rfl
        exact retI (v := 1) hx hb hr hlk (rfl) hP hD hS () ⟨_, rfl, ⟨hp_17, hF_18⟩⟩ [0, 1, 2, 3, 4, 5, 6, 7, 8] rfl rfl dX9_canBuy_58 (Nat.le_of_ble_eq_true rfl) (Nat.le_of_ble_eq_true rfl) rfl
      · skip
        refine lv_aload_n hx hb dX9_canBuy_33 rfl (lv_at hl 0 rfl) ?_
        refine gf_X9_24 hx hb hts hown hK hP 0 rfl rfl dX9_canBuy_34 ?_
        refine lv_aload_n hx hb dX9_canBuy_37 rfl (lv_at hl 0 rfl) ?_
        refine gf_X9_52 hx hb hts hown hK hP 0 rfl rfl dX9_canBuy_38 ?_
        refine lv_iload_n hx hb dX9_canBuy_41 rfl (lv_at hl 1 rfl) ?_
        have hi_19 : vp_in x1 6 := by
          have z_1 : ¬ (r_4 : Int32).toInt = (0 : Int32).toInt := fun z => c_8 (Int32.toInt_inj.mp z)
          have z_2 := Int32.le_iff_toInt_le.mp c_13
          have z_3 : ¬ (x_15 : Int32).toInt = ((-1) : Int32).toInt := fun z => c_16 (Int32.toInt_inj.mp z)
          have y_m1 : (-1 : Int32).toInt = -1 := by decide
          have y_0 : (0 : Int32).toInt = 0 := by decide
          refine vp_in_iff.mpr ⟨?_, ?_⟩ <;> omega
        refine va_iald hx hb hK hP 8 0 rfl rfl hi_19 dX9_canBuy_42 ?_
        refine lv_topi (fun x_20 ex_20 => ?_)
        refine lv_isub hx hb dX9_canBuy_43 ?_
        refine lv_topi (fun x_21 ex_21 => ?_)
        refine lv_aload_n hx hb dX9_canBuy_44 rfl (lv_at hl 0 rfl) ?_
        refine gf_X9_43 hx hb hts hown hK hP 0 rfl rfl dX9_canBuy_45 ?_
        refine lv_iload_n hx hb dX9_canBuy_48 rfl (lv_at hl 1 rfl) ?_
        have hi_22 : vp_in x1 6 := by
          have z_1 : ¬ (r_4 : Int32).toInt = (0 : Int32).toInt := fun z => c_8 (Int32.toInt_inj.mp z)
          have z_2 := Int32.le_iff_toInt_le.mp c_13
          have z_3 : ¬ (x_15 : Int32).toInt = ((-1) : Int32).toInt := fun z => c_16 (Int32.toInt_inj.mp z)
          have y_m1 : (-1 : Int32).toInt = -1 := by decide
          have y_0 : (0 : Int32).toInt = 0 := by decide
          refine vp_in_iff.mpr ⟨?_, ?_⟩ <;> omega
        refine va_iald hx hb hK hP 5 0 rfl rfl hi_22 dX9_canBuy_49 ?_
        refine lv_topi (fun x_23 ex_23 => ?_)
        refine lv_icmp_le (tgt := 57) hx hb dX9_canBuy_50 (by decide) (fun c_24 => ?_) (fun c_24 => ?_)
        · skip
          refine lv_iconst (v := 0) hx hb dX9_canBuy_57 (by decide) ?_
          have hp_25 : ((0 : Int32).toInt = 0 ∨ (0 : Int32).toInt = 1) := by
            have z_1 : ¬ (r_4 : Int32).toInt = (0 : Int32).toInt := fun z => c_8 (Int32.toInt_inj.mp z)
            have z_2 := Int32.le_iff_toInt_le.mp c_13
            have z_3 : ¬ (x_15 : Int32).toInt = ((-1) : Int32).toInt := fun z => c_16 (Int32.toInt_inj.mp z)
            have z_4 := Int32.le_iff_toInt_le.mp c_24
            have y_m1 : (-1 : Int32).toInt = -1 := by decide
            have y_0 : (0 : Int32).toInt = 0 := by decide
            omega
          have hF_26 : (0 : Int32) = (dX9_canBuy (Af 4) (Af 5) (Af 8) (Av 0) (Av 3) (Av 4) x1) := by
            clear hP hD hS hl
            replace er_4 := er_4.symm; subst er_4
            replace ex_12 := ex_12.symm; subst ex_12
            replace ex_15 := ex_15.symm; subst ex_15
            replace ex_20 := ex_20.symm; subst ex_20
            replace ex_21 := ex_21.symm; subst ex_21
            replace ex_23 := ex_23.symm; subst ex_23
            unfold dX9_canBuy
            rw [if_neg c_8, if_pos c_13, if_neg c_16, if_pos c_24]
            try rfl
          exact retI (v := 0) hx hb hr hlk (rfl) hP hD hS () ⟨_, rfl, ⟨hp_25, hF_26⟩⟩ [0, 1, 2, 3, 4, 5, 6, 7, 8] rfl rfl dX9_canBuy_58 (Nat.le_of_ble_eq_true rfl) (Nat.le_of_ble_eq_true rfl) rfl
        · skip
          refine lv_iconst (v := 1) hx hb dX9_canBuy_53 (by decide) ?_
          refine lv_goto (tgt := 58) hx hb dX9_canBuy_54 (by decide) ?_
          have hp_27 : ((1 : Int32).toInt = 0 ∨ (1 : Int32).toInt = 1) := by
            have z_1 : ¬ (r_4 : Int32).toInt = (0 : Int32).toInt := fun z => c_8 (Int32.toInt_inj.mp z)
            have z_2 := Int32.le_iff_toInt_le.mp c_13
            have z_3 : ¬ (x_15 : Int32).toInt = ((-1) : Int32).toInt := fun z => c_16 (Int32.toInt_inj.mp z)
            have z_4 := Int32.lt_iff_toInt_lt.mp (Int32.not_le.mp c_24)
            have y_m1 : (-1 : Int32).toInt = -1 := by decide
            have y_0 : (0 : Int32).toInt = 0 := by decide
            have y_1 : (1 : Int32).toInt = 1 := by decide
            have yr : (1 : Int32).toInt = 1 := by decide
            omega
          have hF_28 : (1 : Int32) = (dX9_canBuy (Af 4) (Af 5) (Af 8) (Av 0) (Av 3) (Av 4) x1) := by
            clear hP hD hS hl
            replace er_4 := er_4.symm; subst er_4
            replace ex_12 := ex_12.symm; subst ex_12
            replace ex_15 := ex_15.symm; subst ex_15
            replace ex_20 := ex_20.symm; subst ex_20
            replace ex_21 := ex_21.symm; subst ex_21
            replace ex_23 := ex_23.symm; subst ex_23
            unfold dX9_canBuy
            rw [if_neg c_8, if_pos c_13, if_neg c_16, if_neg c_24]
            try rfl
          exact retI (v := 1) hx hb hr hlk (rfl) hP hD hS () ⟨_, rfl, ⟨hp_27, hF_28⟩⟩ [0, 1, 2, 3, 4, 5, 6, 7, 8] rfl rfl dX9_canBuy_58 (Nat.le_of_ble_eq_true rfl) (Nat.le_of_ble_eq_true rfl) rfl
    · skip
      refine lv_iconst (v := 0) hx hb dX9_canBuy_21 (by decide) ?_
      have hp_29 : ((0 : Int32).toInt = 0 ∨ (0 : Int32).toInt = 1) := by
        have z_1 : ¬ (r_4 : Int32).toInt = (0 : Int32).toInt := fun z => c_8 (Int32.toInt_inj.mp z)
        have z_2 := Int32.lt_iff_toInt_lt.mp (Int32.not_le.mp c_13)
        have y_0 : (0 : Int32).toInt = 0 := by decide
        omega
      have hF_30 : (0 : Int32) = (dX9_canBuy (Af 4) (Af 5) (Af 8) (Av 0) (Av 3) (Av 4) x1) := by
        clear hP hD hS hl
        replace er_4 := er_4.symm; subst er_4
        replace ex_12 := ex_12.symm; subst ex_12
        unfold dX9_canBuy
        rw [if_neg c_8, if_neg c_13]
        try rfl
      exact retI (v := 0) hx hb hr hlk (rfl) hP hD hS () ⟨_, rfl, ⟨hp_29, hF_30⟩⟩ [0, 1, 2, 3, 4, 5, 6, 7, 8] rfl rfl dX9_canBuy_22 (Nat.le_of_ble_eq_true rfl) (Nat.le_of_ble_eq_true rfl) rfl
set_option maxRecDepth 100000 in
theorem cu_dX9_canBuy (l : Launch) (D : va_G) (tc : Nat → ClassId) (sk : (Nat → Nat) × (Nat → Nat)) (Aa_0 : Nat) (Aa_1 : Nat) (Aa_2 : Nat) (Aa_3 : Nat) (Aa_4 : Nat) (Aa_5 : Nat) (Aa_6 : Nat) (Aa_7 : Nat) (Aa_8 : Nat) (Av_0 : Int32) (Av_1 : Int32) (Av_2 : Int32) (Av_3 : Int32) (Av_4 : Int32) (Av_5 : Int32) (Af_1 : Nat → Int32) (Af_2 : Nat → Int32) (Af_3 : Nat → Int32) (Af_4 : Nat → Int32) (Af_5 : Nat → Int32) (Af_6 : Nat → Int32) (Af_7 : Nat → Int32) (Af_8 : Nat → Int32) (x1 : Int32)  : Ct l yX9_canBuy cX9_canBuy 2 (some .boolean) { frames := 1, cells := 0, slots := 0, locals := 21 } D tc sk [.ref Aa_0, .int x1] [(Aa_0, .inr (9, [.int Av_0, .int Av_1, .int Av_2, .int Av_3, .int Av_4, .int Av_5, .ref Aa_1, .ref Aa_2, .ref Aa_3, .ref Aa_4, .ref Aa_5, .ref Aa_6, .ref Aa_7, .ref Aa_8])), (Aa_1, .inl (tc 0, 10, .inl Af_1)), (Aa_2, .inl (tc 0, 10, .inl Af_2)), (Aa_3, .inl (tc 0, 6, .inl Af_3)), (Aa_4, .inl (tc 0, 6, .inl Af_4)), (Aa_5, .inl (tc 0, 6, .inl Af_5)), (Aa_6, .inl (tc 0, 6, .inl Af_6)), (Aa_7, .inl (tc 0, 6, .inl Af_7)), (Aa_8, .inl (tc 0, 6, .inl Af_8))] (fun (v : Option Value) (_ : Unit) => ∃ r : Int32, v = some (.int r) ∧ (((r.toInt = 0 ∨ r.toInt = 1)) ∧ r = (dX9_canBuy Af_4 Af_5 Af_8 Av_0 Av_3 Av_4 x1))) (fun (_ : Unit) => [(Aa_0, .inr (9, [.int Av_0, .int Av_1, .int Av_2, .int Av_3, .int Av_4, .int Av_5, .ref Aa_1, .ref Aa_2, .ref Aa_3, .ref Aa_4, .ref Aa_5, .ref Aa_6, .ref Aa_7, .ref Aa_8])), (Aa_1, .inl (tc 0, 10, .inl Af_1)), (Aa_2, .inl (tc 0, 10, .inl Af_2)), (Aa_3, .inl (tc 0, 6, .inl Af_3)), (Aa_4, .inl (tc 0, 6, .inl Af_4)), (Aa_5, .inl (tc 0, 6, .inl Af_5)), (Aa_6, .inl (tc 0, 6, .inl Af_6)), (Aa_7, .inl (tc 0, 6, .inl Af_7)), (Aa_8, .inl (tc 0, 6, .inl Af_8))]) 0 0 :=
  ct_dX9_canBuy l D tc sk (fun k => ([Aa_0, Aa_1, Aa_2, Aa_3, Aa_4, Aa_5, Aa_6, Aa_7, Aa_8] : List (Nat)).getD k 0) (fun k => ([Av_0, Av_1, Av_2, Av_3, Av_4, Av_5] : List (Int32)).getD k 0) (fun k => ([(fun _ => 0), Af_1, Af_2, Af_3, Af_4, Af_5, Af_6, Af_7, Af_8] : List (Nat → Int32)).getD k (fun _ => 0)) x1 
def dX9_wordOf (Af_1 : Nat → Int32) (Af_3 : Nat → Int32) (Af_4 : Nat → Int32) (Af_5 : Nat → Int32) (Af_6 : Nat → Int32) (Af_7 : Nat → Int32) (Af_8 : Nat → Int32) (Av_0 : Int32) (Av_2 : Int32) (Av_3 : Int32) (Av_4 : Int32) (Av_5 : Int32) (x1 : Int32) (x2 : Int32) : Int64 := (if (dX9_hasBuyer Av_3 x2) = (0 : Int32) then (0 : Int64) else (if x1 = (0 : Int32) then (x2).toInt64 else (if x1 = (1 : Int32) then ((Af_3 (x2).toNatClampNeg)).toInt64 else (if x1 = (2 : Int32) then ((Af_4 (x2).toNatClampNeg)).toInt64 else (if x1 = (3 : Int32) then ((Af_5 (x2).toNatClampNeg)).toInt64 else (if x1 = (4 : Int32) then ((dX9_stillOn Af_1 Av_2 Av_4)).toInt64 else (if x1 = (5 : Int32) then ((dX9_stillOn Af_1 Av_2 (Av_4 + (1 : Int32)))).toInt64 else (if x1 = (6 : Int32) then (Av_0).toInt64 else (if x1 = (7 : Int32) then ((Af_6 (x2).toNatClampNeg)).toInt64 else (if x1 = (8 : Int32) then ((Af_7 (x2).toNatClampNeg)).toInt64 else (if x1 = (9 : Int32) then ((dX9_daysSince Af_8 Av_3 Av_4 x2)).toInt64 else (if x1 = (10 : Int32) then (Av_5).toInt64 else (if x1 = (11 : Int32) then ((dX9_clockOn Av_2 Av_4)).toInt64 else (Av_4).toInt64)))))))))))))
set_option maxHeartbeats 4000000 in
set_option maxRecDepth 100000 in
theorem ct_dX9_wordOf (l : Launch) (D : va_G) (tc : Nat → ClassId) (sk : (Nat → Nat) × (Nat → Nat)) (Aa : Nat → Nat) (Av : Nat → Int32) (Af : Nat → Nat → Int32) (x1 : Int32) (x2 : Int32)  : Ct l yX9_wordOf cX9_wordOf 3 (some .long) { frames := 2, cells := 0, slots := 0, locals := 42 } D tc sk [.ref (Aa 0), .int x1, .int x2] [((Aa 0), .inr (9, [.int (Av 0), .int (Av 1), .int (Av 2), .int (Av 3), .int (Av 4), .int (Av 5), .ref (Aa 1), .ref (Aa 2), .ref (Aa 3), .ref (Aa 4), .ref (Aa 5), .ref (Aa 6), .ref (Aa 7), .ref (Aa 8)])), ((Aa 1), .inl (tc 0, 10, .inl (Af 1))), ((Aa 2), .inl (tc 0, 10, .inl (Af 2))), ((Aa 3), .inl (tc 0, 6, .inl (Af 3))), ((Aa 4), .inl (tc 0, 6, .inl (Af 4))), ((Aa 5), .inl (tc 0, 6, .inl (Af 5))), ((Aa 6), .inl (tc 0, 6, .inl (Af 6))), ((Aa 7), .inl (tc 0, 6, .inl (Af 7))), ((Aa 8), .inl (tc 0, 6, .inl (Af 8)))] (fun (v : Option Value) (_ : Unit) => ∃ r : Int64, v = some (.long r) ∧ ((True) ∧ r = (dX9_wordOf (Af 1) (Af 3) (Af 4) (Af 5) (Af 6) (Af 7) (Af 8) (Av 0) (Av 2) (Av 3) (Av 4) (Av 5) x1 x2))) (fun (_ : Unit) => [((Aa 0), .inr (9, [.int (Av 0), .int (Av 1), .int (Av 2), .int (Av 3), .int (Av 4), .int (Av 5), .ref (Aa 1), .ref (Aa 2), .ref (Aa 3), .ref (Aa 4), .ref (Aa 5), .ref (Aa 6), .ref (Aa 7), .ref (Aa 8)])), ((Aa 1), .inl (tc 0, 10, .inl (Af 1))), ((Aa 2), .inl (tc 0, 10, .inl (Af 2))), ((Aa 3), .inl (tc 0, 6, .inl (Af 3))), ((Aa 4), .inl (tc 0, 6, .inl (Af 4))), ((Aa 5), .inl (tc 0, 6, .inl (Af 5))), ((Aa 6), .inl (tc 0, 6, .inl (Af 6))), ((Aa 7), .inl (tc 0, 6, .inl (Af 7))), ((Aa 8), .inl (tc 0, 6, .inl (Af 8)))]) 0 0 := by
  refine Ct.start (by decide) (Nat.le_of_ble_eq_true rfl) (fun p e s m below meth c A ls hx hb hr hlk hin hml hown hts hK hX hP hD hA hl hS => ?_)
  have hl : lv_has ls 3 [(0, .ref (Aa 0)), (1, .int x1), (2, .int x2)] := hl
  refine lv_aload_n hx hb dX9_wordOf_0 rfl (lv_at hl 0 rfl) ?_
  refine lv_iload_n hx hb dX9_wordOf_1 rfl (lv_at hl 2 rfl) ?_
  refine cV (a := (Aa 0)) (As := [.int x2]) (rest := []) (wr := []) ⟨hx, hb, hml, hown, hts⟩ hK hX hA (cu_dX9_hasBuyer l D tc sk (Aa 0) (Aa 1) (Aa 2) (Aa 3) (Aa 4) (Aa 5) (Aa 6) (Aa 7) (Aa 8) (Av 0) (Av 1) (Av 2) (Av 3) (Av 4) (Av 5) (Af 1) (Af 2) (Af 3) (Af 4) (Af 5) (Af 6) (Af 7) (Af 8) x2) k_591 k_707 k_589 k_590 k_98 pl_X9_hasBuyer ⟨Nat.le_of_ble_eq_true rfl, Nat.le_of_ble_eq_true rfl⟩ rfl rfl (va_recv hK hP (ci := 9) (q0 := 0) rfl rfl) hP hD hS [0, 1, 2, 3, 4, 5, 6, 7, 8] [] rfl rfl rfl rfl rfl (by decide) rfl hl.1 rfl (Nat.le_of_ble_eq_true rfl) dX9_wordOf_2 ⟨Nat.le_of_ble_eq_true rfl, Nat.le_of_ble_eq_true rfl⟩ (fun v_1 u_2 H locs hv_3 hP₀ hD₀ hS₀ => ?_)
  obtain ⟨r_4, rfl, he_5⟩ := hv_3
  have he_5 : ((r_4.toInt = 0 ∨ (r_4.toInt = 1 ∧ 0 ≤ x2.toInt ∧ x2.toInt < 6 ∧ x2.toInt < (Av 3).toInt))) ∧ r_4 = (dX9_hasBuyer (Av 3) x2) := he_5
  refine W.eq (g2 := F0 m 5 ls [.int r_4]) rfl ?_
  replace hP : va_P D classes [((Aa 0), .inr (9, [.int (Av 0), .int (Av 1), .int (Av 2), .int (Av 3), .int (Av 4), .int (Av 5), .ref (Aa 1), .ref (Aa 2), .ref (Aa 3), .ref (Aa 4), .ref (Aa 5), .ref (Aa 6), .ref (Aa 7), .ref (Aa 8)])), ((Aa 1), .inl (tc 0, 10, .inl (Af 1))), ((Aa 2), .inl (tc 0, 10, .inl (Af 2))), ((Aa 3), .inl (tc 0, 6, .inl (Af 3))), ((Aa 4), .inl (tc 0, 6, .inl (Af 4))), ((Aa 5), .inl (tc 0, 6, .inl (Af 5))), ((Aa 6), .inl (tc 0, 6, .inl (Af 6))), ((Aa 7), .inl (tc 0, 6, .inl (Af 7))), ((Aa 8), .inl (tc 0, 6, .inl (Af 8)))] H := hP₀
  replace hD : va_D A [((Aa 0), .inr (9, [.int (Av 0), .int (Av 1), .int (Av 2), .int (Av 3), .int (Av 4), .int (Av 5), .ref (Aa 1), .ref (Aa 2), .ref (Aa 3), .ref (Aa 4), .ref (Aa 5), .ref (Aa 6), .ref (Aa 7), .ref (Aa 8)])), ((Aa 1), .inl (tc 0, 10, .inl (Af 1))), ((Aa 2), .inl (tc 0, 10, .inl (Af 2))), ((Aa 3), .inl (tc 0, 6, .inl (Af 3))), ((Aa 4), .inl (tc 0, 6, .inl (Af 4))), ((Aa 5), .inl (tc 0, 6, .inl (Af 5))), ((Aa 6), .inl (tc 0, 6, .inl (Af 6))), ((Aa 7), .inl (tc 0, 6, .inl (Af 7))), ((Aa 8), .inl (tc 0, 6, .inl (Af 8)))] := hD₀
  replace hS := hS₀
  clear hP₀ hD₀ hS₀
  obtain ⟨he_5, hq_7⟩ := he_5
  have er_4 : r_4 = (dX9_hasBuyer (Av 3) x2) := hq_7
  refine lv_if_ne (tgt := 10) hx hb dX9_wordOf_5 (by decide) (fun c_8 => ?_) (fun c_8 => ?_)
  · skip
    refine lv_iload_n hx hb dX9_wordOf_10 rfl (lv_at hl 1 rfl) ?_
    refine lv_topi (fun x_9 ex_9 => ?_)
    by_cases c_10 : x_9 = 0
    · skip
      subst c_10
      refine lv_tableIn (off := 61) (tgt := 72) hx hb dX9_wordOf_11 (by decide) (by decide) (by decide) (by decide) ?_
      refine lv_iload_n hx hb dX9_wordOf_72 rfl (lv_at hl 2 rfl) ?_
      refine lv_i2l (v := (x2).toInt64) hx hb dX9_wordOf_73 rfl ?_
      have hF_11 : (x2).toInt64 = (dX9_wordOf (Af 1) (Af 3) (Af 4) (Af 5) (Af 6) (Af 7) (Af 8) (Av 0) (Av 2) (Av 3) (Av 4) (Av 5) x1 x2) := by
        clear hP hD hS hl
        replace er_4 := er_4.symm; subst er_4
        unfold dX9_wordOf
        rw [if_neg c_8, if_pos ex_9.symm]
        try rfl
      exact retL (v := (x2).toInt64) hx hb hr hlk hP hD hS () ⟨_, rfl, ⟨trivial, hF_11⟩⟩ [0, 1, 2, 3, 4, 5, 6, 7, 8] rfl rfl dX9_wordOf_74 (Nat.le_of_ble_eq_true rfl) (Nat.le_of_ble_eq_true rfl) rfl
    · skip
      by_cases c_12 : x_9 = 1
      · skip
        subst c_12
        refine lv_tableIn (off := 64) (tgt := 75) hx hb dX9_wordOf_11 (by decide) (by decide) (by decide) (by decide) ?_
        refine lv_aload_n hx hb dX9_wordOf_75 rfl (lv_at hl 0 rfl) ?_
        refine gf_X9_37 hx hb hts hown hK hP 0 rfl rfl dX9_wordOf_76 ?_
        refine lv_iload_n hx hb dX9_wordOf_79 rfl (lv_at hl 2 rfl) ?_
        have hi_13 : vp_in x2 6 := by
          have z_1 : ¬ (r_4 : Int32).toInt = (0 : Int32).toInt := fun z => c_8 (Int32.toInt_inj.mp z)
          have y_0 : (0 : Int32).toInt = 0 := by decide
          refine vp_in_iff.mpr ⟨?_, ?_⟩ <;> omega
        refine va_iald hx hb hK hP 3 0 rfl rfl hi_13 dX9_wordOf_80 ?_
        refine lv_topi (fun x_14 ex_14 => ?_)
        refine lv_i2l (v := (x_14).toInt64) hx hb dX9_wordOf_81 rfl ?_
        have hF_15 : (x_14).toInt64 = (dX9_wordOf (Af 1) (Af 3) (Af 4) (Af 5) (Af 6) (Af 7) (Af 8) (Av 0) (Av 2) (Av 3) (Av 4) (Av 5) x1 x2) := by
          clear hP hD hS hl
          replace er_4 := er_4.symm; subst er_4
          replace ex_14 := ex_14.symm; subst ex_14
          unfold dX9_wordOf
          rw [if_neg c_8, if_neg (fun z => c_10 (ex_9.trans z)), if_pos ex_9.symm]
          try rfl
        exact retL (v := (x_14).toInt64) hx hb hr hlk hP hD hS () ⟨_, rfl, ⟨trivial, hF_15⟩⟩ [0, 1, 2, 3, 4, 5, 6, 7, 8] rfl rfl dX9_wordOf_82 (Nat.le_of_ble_eq_true rfl) (Nat.le_of_ble_eq_true rfl) rfl
      · skip
        by_cases c_16 : x_9 = 2
        · skip
          subst c_16
          refine lv_tableIn (off := 72) (tgt := 83) hx hb dX9_wordOf_11 (by decide) (by decide) (by decide) (by decide) ?_
          refine lv_aload_n hx hb dX9_wordOf_83 rfl (lv_at hl 0 rfl) ?_
          refine gf_X9_40 hx hb hts hown hK hP 0 rfl rfl dX9_wordOf_84 ?_
          refine lv_iload_n hx hb dX9_wordOf_87 rfl (lv_at hl 2 rfl) ?_
          have hi_17 : vp_in x2 6 := by
            have z_1 : ¬ (r_4 : Int32).toInt = (0 : Int32).toInt := fun z => c_8 (Int32.toInt_inj.mp z)
            have y_0 : (0 : Int32).toInt = 0 := by decide
            refine vp_in_iff.mpr ⟨?_, ?_⟩ <;> omega
          refine va_iald hx hb hK hP 4 0 rfl rfl hi_17 dX9_wordOf_88 ?_
          refine lv_topi (fun x_18 ex_18 => ?_)
          refine lv_i2l (v := (x_18).toInt64) hx hb dX9_wordOf_89 rfl ?_
          have hF_19 : (x_18).toInt64 = (dX9_wordOf (Af 1) (Af 3) (Af 4) (Af 5) (Af 6) (Af 7) (Af 8) (Av 0) (Av 2) (Av 3) (Av 4) (Av 5) x1 x2) := by
            clear hP hD hS hl
            replace er_4 := er_4.symm; subst er_4
            replace ex_18 := ex_18.symm; subst ex_18
            unfold dX9_wordOf
            rw [if_neg c_8, if_neg (fun z => c_10 (ex_9.trans z)), if_neg (fun z => c_12 (ex_9.trans z)), if_pos ex_9.symm]
            try rfl
          exact retL (v := (x_18).toInt64) hx hb hr hlk hP hD hS () ⟨_, rfl, ⟨trivial, hF_19⟩⟩ [0, 1, 2, 3, 4, 5, 6, 7, 8] rfl rfl dX9_wordOf_90 (Nat.le_of_ble_eq_true rfl) (Nat.le_of_ble_eq_true rfl) rfl
        · skip
          by_cases c_20 : x_9 = 3
          · skip
            subst c_20
            refine lv_tableIn (off := 80) (tgt := 91) hx hb dX9_wordOf_11 (by decide) (by decide) (by decide) (by decide) ?_
            refine lv_aload_n hx hb dX9_wordOf_91 rfl (lv_at hl 0 rfl) ?_
            refine gf_X9_43 hx hb hts hown hK hP 0 rfl rfl dX9_wordOf_92 ?_
            refine lv_iload_n hx hb dX9_wordOf_95 rfl (lv_at hl 2 rfl) ?_
            have hi_21 : vp_in x2 6 := by
              have z_1 : ¬ (r_4 : Int32).toInt = (0 : Int32).toInt := fun z => c_8 (Int32.toInt_inj.mp z)
              have y_0 : (0 : Int32).toInt = 0 := by decide
              refine vp_in_iff.mpr ⟨?_, ?_⟩ <;> omega
            refine va_iald hx hb hK hP 5 0 rfl rfl hi_21 dX9_wordOf_96 ?_
            refine lv_topi (fun x_22 ex_22 => ?_)
            refine lv_i2l (v := (x_22).toInt64) hx hb dX9_wordOf_97 rfl ?_
            have hF_23 : (x_22).toInt64 = (dX9_wordOf (Af 1) (Af 3) (Af 4) (Af 5) (Af 6) (Af 7) (Af 8) (Av 0) (Av 2) (Av 3) (Av 4) (Av 5) x1 x2) := by
              clear hP hD hS hl
              replace er_4 := er_4.symm; subst er_4
              replace ex_22 := ex_22.symm; subst ex_22
              unfold dX9_wordOf
              rw [if_neg c_8, if_neg (fun z => c_10 (ex_9.trans z)), if_neg (fun z => c_12 (ex_9.trans z)), if_neg (fun z => c_16 (ex_9.trans z)), if_pos ex_9.symm]
              try rfl
            exact retL (v := (x_22).toInt64) hx hb hr hlk hP hD hS () ⟨_, rfl, ⟨trivial, hF_23⟩⟩ [0, 1, 2, 3, 4, 5, 6, 7, 8] rfl rfl dX9_wordOf_98 (Nat.le_of_ble_eq_true rfl) (Nat.le_of_ble_eq_true rfl) rfl
          · skip
            by_cases c_24 : x_9 = 4
            · skip
              subst c_24
              refine lv_tableIn (off := 88) (tgt := 99) hx hb dX9_wordOf_11 (by decide) (by decide) (by decide) (by decide) ?_
              refine lv_aload_n hx hb dX9_wordOf_99 rfl (lv_at hl 0 rfl) ?_
              refine lv_aload_n hx hb dX9_wordOf_100 rfl (lv_at hl 0 rfl) ?_
              refine gf_X9_24 hx hb hts hown hK hP 0 rfl rfl dX9_wordOf_101 ?_
              refine cV (a := (Aa 0)) (As := [.int (Av 4)]) (rest := []) (wr := []) ⟨hx, hb, hml, hown, hts⟩ hK hX hA (cu_dX9_stillOn l D tc sk (Aa 0) (Aa 1) (Aa 2) (Aa 3) (Aa 4) (Aa 5) (Aa 6) (Aa 7) (Aa 8) (Av 0) (Av 1) (Av 2) (Av 3) (Av 4) (Av 5) (Af 1) (Af 2) (Af 3) (Af 4) (Af 5) (Af 6) (Af 7) (Af 8) (Av 4)) k_743 k_740 k_741 k_742 k_98 pl_X9_stillOn ⟨Nat.le_of_ble_eq_true rfl, Nat.le_of_ble_eq_true rfl⟩ rfl rfl (va_recv hK hP (ci := 9) (q0 := 0) rfl rfl) hP hD hS [0, 1, 2, 3, 4, 5, 6, 7, 8] [] rfl rfl rfl rfl rfl (by decide) rfl hl.1 rfl (Nat.le_of_ble_eq_true rfl) dX9_wordOf_104 ⟨Nat.le_of_ble_eq_true rfl, Nat.le_of_ble_eq_true rfl⟩ (fun v_25 u_26 H locs hv_27 hP₀ hD₀ hS₀ => ?_)
              obtain ⟨r_28, rfl, he_29⟩ := hv_27
              have he_29 : (True) ∧ r_28 = (dX9_stillOn (Af 1) (Av 2) (Av 4)) := he_29
              refine W.eq (g2 := F0 m 107 ls [.int r_28]) rfl ?_
              replace hP : va_P D classes [((Aa 0), .inr (9, [.int (Av 0), .int (Av 1), .int (Av 2), .int (Av 3), .int (Av 4), .int (Av 5), .ref (Aa 1), .ref (Aa 2), .ref (Aa 3), .ref (Aa 4), .ref (Aa 5), .ref (Aa 6), .ref (Aa 7), .ref (Aa 8)])), ((Aa 1), .inl (tc 0, 10, .inl (Af 1))), ((Aa 2), .inl (tc 0, 10, .inl (Af 2))), ((Aa 3), .inl (tc 0, 6, .inl (Af 3))), ((Aa 4), .inl (tc 0, 6, .inl (Af 4))), ((Aa 5), .inl (tc 0, 6, .inl (Af 5))), ((Aa 6), .inl (tc 0, 6, .inl (Af 6))), ((Aa 7), .inl (tc 0, 6, .inl (Af 7))), ((Aa 8), .inl (tc 0, 6, .inl (Af 8)))] H := hP₀
              replace hD : va_D A [((Aa 0), .inr (9, [.int (Av 0), .int (Av 1), .int (Av 2), .int (Av 3), .int (Av 4), .int (Av 5), .ref (Aa 1), .ref (Aa 2), .ref (Aa 3), .ref (Aa 4), .ref (Aa 5), .ref (Aa 6), .ref (Aa 7), .ref (Aa 8)])), ((Aa 1), .inl (tc 0, 10, .inl (Af 1))), ((Aa 2), .inl (tc 0, 10, .inl (Af 2))), ((Aa 3), .inl (tc 0, 6, .inl (Af 3))), ((Aa 4), .inl (tc 0, 6, .inl (Af 4))), ((Aa 5), .inl (tc 0, 6, .inl (Af 5))), ((Aa 6), .inl (tc 0, 6, .inl (Af 6))), ((Aa 7), .inl (tc 0, 6, .inl (Af 7))), ((Aa 8), .inl (tc 0, 6, .inl (Af 8)))] := hD₀
              replace hS := hS₀
              clear hP₀ hD₀ hS₀
              obtain ⟨he_29, hq_31⟩ := he_29
              have er_28 : r_28 = (dX9_stillOn (Af 1) (Av 2) (Av 4)) := hq_31
              refine lv_i2l (v := (r_28).toInt64) hx hb dX9_wordOf_107 rfl ?_
              have hF_32 : (r_28).toInt64 = (dX9_wordOf (Af 1) (Af 3) (Af 4) (Af 5) (Af 6) (Af 7) (Af 8) (Av 0) (Av 2) (Av 3) (Av 4) (Av 5) x1 x2) := by
                clear hP hD hS hl
                replace er_4 := er_4.symm; subst er_4
                replace er_28 := er_28.symm; subst er_28
                unfold dX9_wordOf
                rw [if_neg c_8, if_neg (fun z => c_10 (ex_9.trans z)), if_neg (fun z => c_12 (ex_9.trans z)), if_neg (fun z => c_16 (ex_9.trans z)), if_neg (fun z => c_20 (ex_9.trans z)), if_pos ex_9.symm]
                try rfl
              exact retL (v := (r_28).toInt64) hx hb hr hlk hP hD hS () ⟨_, rfl, ⟨trivial, hF_32⟩⟩ [0, 1, 2, 3, 4, 5, 6, 7, 8] rfl rfl dX9_wordOf_108 (Nat.le_of_ble_eq_true rfl) (Nat.le_of_ble_eq_true rfl) rfl
            · skip
              by_cases c_33 : x_9 = 5
              · skip
                subst c_33
                refine lv_tableIn (off := 98) (tgt := 109) hx hb dX9_wordOf_11 (by decide) (by decide) (by decide) (by decide) ?_
                refine lv_aload_n hx hb dX9_wordOf_109 rfl (lv_at hl 0 rfl) ?_
                refine lv_aload_n hx hb dX9_wordOf_110 rfl (lv_at hl 0 rfl) ?_
                refine gf_X9_24 hx hb hts hown hK hP 0 rfl rfl dX9_wordOf_111 ?_
                refine lv_iconst (v := 1) hx hb dX9_wordOf_114 (by decide) ?_
                refine lv_iadd hx hb dX9_wordOf_115 ?_
                refine lv_topi (fun x_34 ex_34 => ?_)
                refine cV (a := (Aa 0)) (As := [.int x_34]) (rest := []) (wr := []) ⟨hx, hb, hml, hown, hts⟩ hK hX hA (cu_dX9_stillOn l D tc sk (Aa 0) (Aa 1) (Aa 2) (Aa 3) (Aa 4) (Aa 5) (Aa 6) (Aa 7) (Aa 8) (Av 0) (Av 1) (Av 2) (Av 3) (Av 4) (Av 5) (Af 1) (Af 2) (Af 3) (Af 4) (Af 5) (Af 6) (Af 7) (Af 8) x_34) k_743 k_740 k_741 k_742 k_98 pl_X9_stillOn ⟨Nat.le_of_ble_eq_true rfl, Nat.le_of_ble_eq_true rfl⟩ rfl rfl (va_recv hK hP (ci := 9) (q0 := 0) rfl rfl) hP hD hS [0, 1, 2, 3, 4, 5, 6, 7, 8] [] rfl rfl rfl rfl rfl (by decide) rfl hl.1 rfl (Nat.le_of_ble_eq_true rfl) dX9_wordOf_116 ⟨Nat.le_of_ble_eq_true rfl, Nat.le_of_ble_eq_true rfl⟩ (fun v_35 u_36 H locs hv_37 hP₀ hD₀ hS₀ => ?_)
                obtain ⟨r_38, rfl, he_39⟩ := hv_37
                have he_39 : (True) ∧ r_38 = (dX9_stillOn (Af 1) (Av 2) x_34) := he_39
                refine W.eq (g2 := F0 m 119 ls [.int r_38]) rfl ?_
                replace hP : va_P D classes [((Aa 0), .inr (9, [.int (Av 0), .int (Av 1), .int (Av 2), .int (Av 3), .int (Av 4), .int (Av 5), .ref (Aa 1), .ref (Aa 2), .ref (Aa 3), .ref (Aa 4), .ref (Aa 5), .ref (Aa 6), .ref (Aa 7), .ref (Aa 8)])), ((Aa 1), .inl (tc 0, 10, .inl (Af 1))), ((Aa 2), .inl (tc 0, 10, .inl (Af 2))), ((Aa 3), .inl (tc 0, 6, .inl (Af 3))), ((Aa 4), .inl (tc 0, 6, .inl (Af 4))), ((Aa 5), .inl (tc 0, 6, .inl (Af 5))), ((Aa 6), .inl (tc 0, 6, .inl (Af 6))), ((Aa 7), .inl (tc 0, 6, .inl (Af 7))), ((Aa 8), .inl (tc 0, 6, .inl (Af 8)))] H := hP₀
                replace hD : va_D A [((Aa 0), .inr (9, [.int (Av 0), .int (Av 1), .int (Av 2), .int (Av 3), .int (Av 4), .int (Av 5), .ref (Aa 1), .ref (Aa 2), .ref (Aa 3), .ref (Aa 4), .ref (Aa 5), .ref (Aa 6), .ref (Aa 7), .ref (Aa 8)])), ((Aa 1), .inl (tc 0, 10, .inl (Af 1))), ((Aa 2), .inl (tc 0, 10, .inl (Af 2))), ((Aa 3), .inl (tc 0, 6, .inl (Af 3))), ((Aa 4), .inl (tc 0, 6, .inl (Af 4))), ((Aa 5), .inl (tc 0, 6, .inl (Af 5))), ((Aa 6), .inl (tc 0, 6, .inl (Af 6))), ((Aa 7), .inl (tc 0, 6, .inl (Af 7))), ((Aa 8), .inl (tc 0, 6, .inl (Af 8)))] := hD₀
                replace hS := hS₀
                clear hP₀ hD₀ hS₀
                obtain ⟨he_39, hq_41⟩ := he_39
                have er_38 : r_38 = (dX9_stillOn (Af 1) (Av 2) x_34) := hq_41
                refine lv_i2l (v := (r_38).toInt64) hx hb dX9_wordOf_119 rfl ?_
                have hF_42 : (r_38).toInt64 = (dX9_wordOf (Af 1) (Af 3) (Af 4) (Af 5) (Af 6) (Af 7) (Af 8) (Av 0) (Av 2) (Av 3) (Av 4) (Av 5) x1 x2) := by
                  clear hP hD hS hl
                  replace er_4 := er_4.symm; subst er_4
                  replace ex_34 := ex_34.symm; subst ex_34
                  replace er_38 := er_38.symm; subst er_38
                  unfold dX9_wordOf
                  rw [if_neg c_8, if_neg (fun z => c_10 (ex_9.trans z)), if_neg (fun z => c_12 (ex_9.trans z)), if_neg (fun z => c_16 (ex_9.trans z)), if_neg (fun z => c_20 (ex_9.trans z)), if_neg (fun z => c_24 (ex_9.trans z)), if_pos ex_9.symm]
                  try rfl
                exact retL (v := (r_38).toInt64) hx hb hr hlk hP hD hS () ⟨_, rfl, ⟨trivial, hF_42⟩⟩ [0, 1, 2, 3, 4, 5, 6, 7, 8] rfl rfl dX9_wordOf_120 (Nat.le_of_ble_eq_true rfl) (Nat.le_of_ble_eq_true rfl) rfl
              · skip
                by_cases c_43 : x_9 = 6
                · skip
                  subst c_43
                  refine lv_tableIn (off := 110) (tgt := 121) hx hb dX9_wordOf_11 (by decide) (by decide) (by decide) (by decide) ?_
                  refine lv_aload_n hx hb dX9_wordOf_121 rfl (lv_at hl 0 rfl) ?_
                  refine gf_X9_9 hx hb hts hown hK hP 0 rfl rfl dX9_wordOf_122 ?_
                  refine lv_i2l (v := ((Av 0)).toInt64) hx hb dX9_wordOf_125 rfl ?_
                  have hF_44 : ((Av 0)).toInt64 = (dX9_wordOf (Af 1) (Af 3) (Af 4) (Af 5) (Af 6) (Af 7) (Af 8) (Av 0) (Av 2) (Av 3) (Av 4) (Av 5) x1 x2) := by
                    clear hP hD hS hl
                    replace er_4 := er_4.symm; subst er_4
                    unfold dX9_wordOf
                    rw [if_neg c_8, if_neg (fun z => c_10 (ex_9.trans z)), if_neg (fun z => c_12 (ex_9.trans z)), if_neg (fun z => c_16 (ex_9.trans z)), if_neg (fun z => c_20 (ex_9.trans z)), if_neg (fun z => c_24 (ex_9.trans z)), if_neg (fun z => c_33 (ex_9.trans z)), if_pos ex_9.symm]
                    try rfl
                  exact retL (v := ((Av 0)).toInt64) hx hb hr hlk hP hD hS () ⟨_, rfl, ⟨trivial, hF_44⟩⟩ [0, 1, 2, 3, 4, 5, 6, 7, 8] rfl rfl dX9_wordOf_126 (Nat.le_of_ble_eq_true rfl) (Nat.le_of_ble_eq_true rfl) rfl
                · skip
                  by_cases c_45 : x_9 = 7
                  · skip
                    subst c_45
                    refine lv_tableIn (off := 116) (tgt := 127) hx hb dX9_wordOf_11 (by decide) (by decide) (by decide) (by decide) ?_
                    refine lv_aload_n hx hb dX9_wordOf_127 rfl (lv_at hl 0 rfl) ?_
                    refine gf_X9_46 hx hb hts hown hK hP 0 rfl rfl dX9_wordOf_128 ?_
                    refine lv_iload_n hx hb dX9_wordOf_131 rfl (lv_at hl 2 rfl) ?_
                    have hi_46 : vp_in x2 6 := by
                      have z_1 : ¬ (r_4 : Int32).toInt = (0 : Int32).toInt := fun z => c_8 (Int32.toInt_inj.mp z)
                      have y_0 : (0 : Int32).toInt = 0 := by decide
                      refine vp_in_iff.mpr ⟨?_, ?_⟩ <;> omega
                    refine va_iald hx hb hK hP 6 0 rfl rfl hi_46 dX9_wordOf_132 ?_
                    refine lv_topi (fun x_47 ex_47 => ?_)
                    refine lv_i2l (v := (x_47).toInt64) hx hb dX9_wordOf_133 rfl ?_
                    have hF_48 : (x_47).toInt64 = (dX9_wordOf (Af 1) (Af 3) (Af 4) (Af 5) (Af 6) (Af 7) (Af 8) (Av 0) (Av 2) (Av 3) (Av 4) (Av 5) x1 x2) := by
                      clear hP hD hS hl
                      replace er_4 := er_4.symm; subst er_4
                      replace ex_47 := ex_47.symm; subst ex_47
                      unfold dX9_wordOf
                      rw [if_neg c_8, if_neg (fun z => c_10 (ex_9.trans z)), if_neg (fun z => c_12 (ex_9.trans z)), if_neg (fun z => c_16 (ex_9.trans z)), if_neg (fun z => c_20 (ex_9.trans z)), if_neg (fun z => c_24 (ex_9.trans z)), if_neg (fun z => c_33 (ex_9.trans z)), if_neg (fun z => c_43 (ex_9.trans z)), if_pos ex_9.symm]
                      try rfl
                    exact retL (v := (x_47).toInt64) hx hb hr hlk hP hD hS () ⟨_, rfl, ⟨trivial, hF_48⟩⟩ [0, 1, 2, 3, 4, 5, 6, 7, 8] rfl rfl dX9_wordOf_134 (Nat.le_of_ble_eq_true rfl) (Nat.le_of_ble_eq_true rfl) rfl
                  · skip
                    by_cases c_49 : x_9 = 8
                    · skip
                      subst c_49
                      refine lv_tableIn (off := 124) (tgt := 135) hx hb dX9_wordOf_11 (by decide) (by decide) (by decide) (by decide) ?_
                      refine lv_aload_n hx hb dX9_wordOf_135 rfl (lv_at hl 0 rfl) ?_
                      refine gf_X9_49 hx hb hts hown hK hP 0 rfl rfl dX9_wordOf_136 ?_
                      refine lv_iload_n hx hb dX9_wordOf_139 rfl (lv_at hl 2 rfl) ?_
                      have hi_50 : vp_in x2 6 := by
                        have z_1 : ¬ (r_4 : Int32).toInt = (0 : Int32).toInt := fun z => c_8 (Int32.toInt_inj.mp z)
                        have y_0 : (0 : Int32).toInt = 0 := by decide
                        refine vp_in_iff.mpr ⟨?_, ?_⟩ <;> omega
                      refine va_iald hx hb hK hP 7 0 rfl rfl hi_50 dX9_wordOf_140 ?_
                      refine lv_topi (fun x_51 ex_51 => ?_)
                      refine lv_i2l (v := (x_51).toInt64) hx hb dX9_wordOf_141 rfl ?_
                      have hF_52 : (x_51).toInt64 = (dX9_wordOf (Af 1) (Af 3) (Af 4) (Af 5) (Af 6) (Af 7) (Af 8) (Av 0) (Av 2) (Av 3) (Av 4) (Av 5) x1 x2) := by
                        clear hP hD hS hl
                        replace er_4 := er_4.symm; subst er_4
                        replace ex_51 := ex_51.symm; subst ex_51
                        unfold dX9_wordOf
                        rw [if_neg c_8, if_neg (fun z => c_10 (ex_9.trans z)), if_neg (fun z => c_12 (ex_9.trans z)), if_neg (fun z => c_16 (ex_9.trans z)), if_neg (fun z => c_20 (ex_9.trans z)), if_neg (fun z => c_24 (ex_9.trans z)), if_neg (fun z => c_33 (ex_9.trans z)), if_neg (fun z => c_43 (ex_9.trans z)), if_neg (fun z => c_45 (ex_9.trans z)), if_pos ex_9.symm]
                        try rfl
                      exact retL (v := (x_51).toInt64) hx hb hr hlk hP hD hS () ⟨_, rfl, ⟨trivial, hF_52⟩⟩ [0, 1, 2, 3, 4, 5, 6, 7, 8] rfl rfl dX9_wordOf_142 (Nat.le_of_ble_eq_true rfl) (Nat.le_of_ble_eq_true rfl) rfl
                    · skip
                      by_cases c_53 : x_9 = 9
                      · skip
                        subst c_53
                        refine lv_tableIn (off := 132) (tgt := 143) hx hb dX9_wordOf_11 (by decide) (by decide) (by decide) (by decide) ?_
                        refine lv_aload_n hx hb dX9_wordOf_143 rfl (lv_at hl 0 rfl) ?_
                        refine lv_iload_n hx hb dX9_wordOf_144 rfl (lv_at hl 2 rfl) ?_
                        refine cV (a := (Aa 0)) (As := [.int x2]) (rest := []) (wr := []) ⟨hx, hb, hml, hown, hts⟩ hK hX hA (cu_dX9_daysSince l D tc sk (Aa 0) (Aa 1) (Aa 2) (Aa 3) (Aa 4) (Aa 5) (Aa 6) (Aa 7) (Aa 8) (Av 0) (Av 1) (Av 2) (Av 3) (Av 4) (Av 5) (Af 1) (Af 2) (Af 3) (Af 4) (Af 5) (Af 6) (Af 7) (Af 8) x2) k_706 k_762 k_704 k_705 k_98 pl_X9_daysSince ⟨Nat.le_of_ble_eq_true rfl, Nat.le_of_ble_eq_true rfl⟩ rfl rfl (va_recv hK hP (ci := 9) (q0 := 0) rfl rfl) hP hD hS [0, 1, 2, 3, 4, 5, 6, 7, 8] [] rfl rfl rfl rfl rfl (by decide) rfl hl.1 rfl (Nat.le_of_ble_eq_true rfl) dX9_wordOf_145 ⟨Nat.le_of_ble_eq_true rfl, Nat.le_of_ble_eq_true rfl⟩ (fun v_54 u_55 H locs hv_56 hP₀ hD₀ hS₀ => ?_)
                        obtain ⟨r_57, rfl, he_58⟩ := hv_56
                        have he_58 : (True) ∧ r_57 = (dX9_daysSince (Af 8) (Av 3) (Av 4) x2) := he_58
                        refine W.eq (g2 := F0 m 148 ls [.int r_57]) rfl ?_
                        replace hP : va_P D classes [((Aa 0), .inr (9, [.int (Av 0), .int (Av 1), .int (Av 2), .int (Av 3), .int (Av 4), .int (Av 5), .ref (Aa 1), .ref (Aa 2), .ref (Aa 3), .ref (Aa 4), .ref (Aa 5), .ref (Aa 6), .ref (Aa 7), .ref (Aa 8)])), ((Aa 1), .inl (tc 0, 10, .inl (Af 1))), ((Aa 2), .inl (tc 0, 10, .inl (Af 2))), ((Aa 3), .inl (tc 0, 6, .inl (Af 3))), ((Aa 4), .inl (tc 0, 6, .inl (Af 4))), ((Aa 5), .inl (tc 0, 6, .inl (Af 5))), ((Aa 6), .inl (tc 0, 6, .inl (Af 6))), ((Aa 7), .inl (tc 0, 6, .inl (Af 7))), ((Aa 8), .inl (tc 0, 6, .inl (Af 8)))] H := hP₀
                        replace hD : va_D A [((Aa 0), .inr (9, [.int (Av 0), .int (Av 1), .int (Av 2), .int (Av 3), .int (Av 4), .int (Av 5), .ref (Aa 1), .ref (Aa 2), .ref (Aa 3), .ref (Aa 4), .ref (Aa 5), .ref (Aa 6), .ref (Aa 7), .ref (Aa 8)])), ((Aa 1), .inl (tc 0, 10, .inl (Af 1))), ((Aa 2), .inl (tc 0, 10, .inl (Af 2))), ((Aa 3), .inl (tc 0, 6, .inl (Af 3))), ((Aa 4), .inl (tc 0, 6, .inl (Af 4))), ((Aa 5), .inl (tc 0, 6, .inl (Af 5))), ((Aa 6), .inl (tc 0, 6, .inl (Af 6))), ((Aa 7), .inl (tc 0, 6, .inl (Af 7))), ((Aa 8), .inl (tc 0, 6, .inl (Af 8)))] := hD₀
                        replace hS := hS₀
                        clear hP₀ hD₀ hS₀
                        obtain ⟨he_58, hq_60⟩ := he_58
                        have er_57 : r_57 = (dX9_daysSince (Af 8) (Av 3) (Av 4) x2) := hq_60
                        refine lv_i2l (v := (r_57).toInt64) hx hb dX9_wordOf_148 rfl ?_
                        have hF_61 : (r_57).toInt64 = (dX9_wordOf (Af 1) (Af 3) (Af 4) (Af 5) (Af 6) (Af 7) (Af 8) (Av 0) (Av 2) (Av 3) (Av 4) (Av 5) x1 x2) := by
                          clear hP hD hS hl
                          replace er_4 := er_4.symm; subst er_4
                          replace er_57 := er_57.symm; subst er_57
                          unfold dX9_wordOf
                          rw [if_neg c_8, if_neg (fun z => c_10 (ex_9.trans z)), if_neg (fun z => c_12 (ex_9.trans z)), if_neg (fun z => c_16 (ex_9.trans z)), if_neg (fun z => c_20 (ex_9.trans z)), if_neg (fun z => c_24 (ex_9.trans z)), if_neg (fun z => c_33 (ex_9.trans z)), if_neg (fun z => c_43 (ex_9.trans z)), if_neg (fun z => c_45 (ex_9.trans z)), if_neg (fun z => c_49 (ex_9.trans z)), if_pos ex_9.symm]
                          try rfl
                        exact retL (v := (r_57).toInt64) hx hb hr hlk hP hD hS () ⟨_, rfl, ⟨trivial, hF_61⟩⟩ [0, 1, 2, 3, 4, 5, 6, 7, 8] rfl rfl dX9_wordOf_149 (Nat.le_of_ble_eq_true rfl) (Nat.le_of_ble_eq_true rfl) rfl
                      · skip
                        by_cases c_62 : x_9 = 10
                        · skip
                          subst c_62
                          refine lv_tableIn (off := 139) (tgt := 150) hx hb dX9_wordOf_11 (by decide) (by decide) (by decide) (by decide) ?_
                          refine lv_aload_n hx hb dX9_wordOf_150 rfl (lv_at hl 0 rfl) ?_
                          refine gf_X9_27 hx hb hts hown hK hP 0 rfl rfl dX9_wordOf_151 ?_
                          refine lv_i2l (v := ((Av 5)).toInt64) hx hb dX9_wordOf_154 rfl ?_
                          have hF_63 : ((Av 5)).toInt64 = (dX9_wordOf (Af 1) (Af 3) (Af 4) (Af 5) (Af 6) (Af 7) (Af 8) (Av 0) (Av 2) (Av 3) (Av 4) (Av 5) x1 x2) := by
                            clear hP hD hS hl
                            replace er_4 := er_4.symm; subst er_4
                            unfold dX9_wordOf
                            rw [if_neg c_8, if_neg (fun z => c_10 (ex_9.trans z)), if_neg (fun z => c_12 (ex_9.trans z)), if_neg (fun z => c_16 (ex_9.trans z)), if_neg (fun z => c_20 (ex_9.trans z)), if_neg (fun z => c_24 (ex_9.trans z)), if_neg (fun z => c_33 (ex_9.trans z)), if_neg (fun z => c_43 (ex_9.trans z)), if_neg (fun z => c_45 (ex_9.trans z)), if_neg (fun z => c_49 (ex_9.trans z)), if_neg (fun z => c_53 (ex_9.trans z)), if_pos ex_9.symm]
                            try rfl
                          exact retL (v := ((Av 5)).toInt64) hx hb hr hlk hP hD hS () ⟨_, rfl, ⟨trivial, hF_63⟩⟩ [0, 1, 2, 3, 4, 5, 6, 7, 8] rfl rfl dX9_wordOf_155 (Nat.le_of_ble_eq_true rfl) (Nat.le_of_ble_eq_true rfl) rfl
                        · skip
                          by_cases c_64 : x_9 = 11
                          · skip
                            subst c_64
                            refine lv_tableIn (off := 145) (tgt := 156) hx hb dX9_wordOf_11 (by decide) (by decide) (by decide) (by decide) ?_
                            refine lv_aload_n hx hb dX9_wordOf_156 rfl (lv_at hl 0 rfl) ?_
                            refine lv_aload_n hx hb dX9_wordOf_157 rfl (lv_at hl 0 rfl) ?_
                            refine gf_X9_24 hx hb hts hown hK hP 0 rfl rfl dX9_wordOf_158 ?_
                            refine cV (a := (Aa 0)) (As := [.int (Av 4)]) (rest := []) (wr := []) ⟨hx, hb, hml, hown, hts⟩ hK hX hA (cu_dX9_clockOn l D tc sk (Aa 0) (Aa 1) (Aa 2) (Aa 3) (Aa 4) (Aa 5) (Aa 6) (Aa 7) (Aa 8) (Av 0) (Av 1) (Av 2) (Av 3) (Av 4) (Av 5) (Af 1) (Af 2) (Af 3) (Af 4) (Af 5) (Af 6) (Af 7) (Af 8) (Av 4)) k_747 k_744 k_745 k_746 k_98 pl_X9_clockOn ⟨Nat.le_of_ble_eq_true rfl, Nat.le_of_ble_eq_true rfl⟩ rfl rfl (va_recv hK hP (ci := 9) (q0 := 0) rfl rfl) hP hD hS [0, 1, 2, 3, 4, 5, 6, 7, 8] [] rfl rfl rfl rfl rfl (by decide) rfl hl.1 rfl (Nat.le_of_ble_eq_true rfl) dX9_wordOf_161 ⟨Nat.le_of_ble_eq_true rfl, Nat.le_of_ble_eq_true rfl⟩ (fun v_65 u_66 H locs hv_67 hP₀ hD₀ hS₀ => ?_)
                            obtain ⟨r_68, rfl, he_69⟩ := hv_67
                            have he_69 : (True) ∧ r_68 = (dX9_clockOn (Av 2) (Av 4)) := he_69
                            refine W.eq (g2 := F0 m 164 ls [.int r_68]) rfl ?_
                            replace hP : va_P D classes [((Aa 0), .inr (9, [.int (Av 0), .int (Av 1), .int (Av 2), .int (Av 3), .int (Av 4), .int (Av 5), .ref (Aa 1), .ref (Aa 2), .ref (Aa 3), .ref (Aa 4), .ref (Aa 5), .ref (Aa 6), .ref (Aa 7), .ref (Aa 8)])), ((Aa 1), .inl (tc 0, 10, .inl (Af 1))), ((Aa 2), .inl (tc 0, 10, .inl (Af 2))), ((Aa 3), .inl (tc 0, 6, .inl (Af 3))), ((Aa 4), .inl (tc 0, 6, .inl (Af 4))), ((Aa 5), .inl (tc 0, 6, .inl (Af 5))), ((Aa 6), .inl (tc 0, 6, .inl (Af 6))), ((Aa 7), .inl (tc 0, 6, .inl (Af 7))), ((Aa 8), .inl (tc 0, 6, .inl (Af 8)))] H := hP₀
                            replace hD : va_D A [((Aa 0), .inr (9, [.int (Av 0), .int (Av 1), .int (Av 2), .int (Av 3), .int (Av 4), .int (Av 5), .ref (Aa 1), .ref (Aa 2), .ref (Aa 3), .ref (Aa 4), .ref (Aa 5), .ref (Aa 6), .ref (Aa 7), .ref (Aa 8)])), ((Aa 1), .inl (tc 0, 10, .inl (Af 1))), ((Aa 2), .inl (tc 0, 10, .inl (Af 2))), ((Aa 3), .inl (tc 0, 6, .inl (Af 3))), ((Aa 4), .inl (tc 0, 6, .inl (Af 4))), ((Aa 5), .inl (tc 0, 6, .inl (Af 5))), ((Aa 6), .inl (tc 0, 6, .inl (Af 6))), ((Aa 7), .inl (tc 0, 6, .inl (Af 7))), ((Aa 8), .inl (tc 0, 6, .inl (Af 8)))] := hD₀
                            replace hS := hS₀
                            clear hP₀ hD₀ hS₀
                            obtain ⟨he_69, hq_71⟩ := he_69
                            have er_68 : r_68 = (dX9_clockOn (Av 2) (Av 4)) := hq_71
                            refine lv_i2l (v := (r_68).toInt64) hx hb dX9_wordOf_164 rfl ?_
                            have hF_72 : (r_68).toInt64 = (dX9_wordOf (Af 1) (Af 3) (Af 4) (Af 5) (Af 6) (Af 7) (Af 8) (Av 0) (Av 2) (Av 3) (Av 4) (Av 5) x1 x2) := by
                              clear hP hD hS hl
                              replace er_4 := er_4.symm; subst er_4
                              replace er_68 := er_68.symm; subst er_68
                              unfold dX9_wordOf
                              rw [if_neg c_8, if_neg (fun z => c_10 (ex_9.trans z)), if_neg (fun z => c_12 (ex_9.trans z)), if_neg (fun z => c_16 (ex_9.trans z)), if_neg (fun z => c_20 (ex_9.trans z)), if_neg (fun z => c_24 (ex_9.trans z)), if_neg (fun z => c_33 (ex_9.trans z)), if_neg (fun z => c_43 (ex_9.trans z)), if_neg (fun z => c_45 (ex_9.trans z)), if_neg (fun z => c_49 (ex_9.trans z)), if_neg (fun z => c_53 (ex_9.trans z)), if_neg (fun z => c_62 (ex_9.trans z)), if_pos ex_9.symm]
                              try rfl
                            exact retL (v := (r_68).toInt64) hx hb hr hlk hP hD hS () ⟨_, rfl, ⟨trivial, hF_72⟩⟩ [0, 1, 2, 3, 4, 5, 6, 7, 8] rfl rfl dX9_wordOf_165 (Nat.le_of_ble_eq_true rfl) (Nat.le_of_ble_eq_true rfl) rfl
                          · skip
                            have ho_73 : (x_9 : Int32).toInt < 0 ∨ 11 < (x_9 : Int32).toInt := by
                              have z_1 : ¬ (r_4 : Int32).toInt = (0 : Int32).toInt := fun z => c_8 (Int32.toInt_inj.mp z)
                              have z_2 : ¬ (x_9 : Int32).toInt = (0 : Int32).toInt := fun z => c_10 (Int32.toInt_inj.mp z)
                              have z_3 : ¬ (x_9 : Int32).toInt = (1 : Int32).toInt := fun z => c_12 (Int32.toInt_inj.mp z)
                              have z_4 : ¬ (x_9 : Int32).toInt = (2 : Int32).toInt := fun z => c_16 (Int32.toInt_inj.mp z)
                              have z_5 : ¬ (x_9 : Int32).toInt = (3 : Int32).toInt := fun z => c_20 (Int32.toInt_inj.mp z)
                              have z_6 : ¬ (x_9 : Int32).toInt = (4 : Int32).toInt := fun z => c_24 (Int32.toInt_inj.mp z)
                              have z_7 : ¬ (x_9 : Int32).toInt = (5 : Int32).toInt := fun z => c_33 (Int32.toInt_inj.mp z)
                              have z_8 : ¬ (x_9 : Int32).toInt = (6 : Int32).toInt := fun z => c_43 (Int32.toInt_inj.mp z)
                              have z_9 : ¬ (x_9 : Int32).toInt = (7 : Int32).toInt := fun z => c_45 (Int32.toInt_inj.mp z)
                              have z_10 : ¬ (x_9 : Int32).toInt = (8 : Int32).toInt := fun z => c_49 (Int32.toInt_inj.mp z)
                              have z_11 : ¬ (x_9 : Int32).toInt = (9 : Int32).toInt := fun z => c_53 (Int32.toInt_inj.mp z)
                              have z_12 : ¬ (x_9 : Int32).toInt = (10 : Int32).toInt := fun z => c_62 (Int32.toInt_inj.mp z)
                              have z_13 : ¬ (x_9 : Int32).toInt = (11 : Int32).toInt := fun z => c_64 (Int32.toInt_inj.mp z)
                              have y_0 : (0 : Int32).toInt = 0 := by decide
                              have y_1 : (1 : Int32).toInt = 1 := by decide
                              have y_2 : (2 : Int32).toInt = 2 := by decide
                              have y_3 : (3 : Int32).toInt = 3 := by decide
                              have y_4 : (4 : Int32).toInt = 4 := by decide
                              have y_5 : (5 : Int32).toInt = 5 := by decide
                              have y_6 : (6 : Int32).toInt = 6 := by decide
                              have y_7 : (7 : Int32).toInt = 7 := by decide
                              have y_8 : (8 : Int32).toInt = 8 := by decide
                              have y_9 : (9 : Int32).toInt = 9 := by decide
                              have y_10 : (10 : Int32).toInt = 10 := by decide
                              have y_11 : (11 : Int32).toInt = 11 := by decide
                              omega
                            refine lv_tableOut (tgt := 166) hx hb dX9_wordOf_11 ho_73 (by decide) ?_
                            refine lv_aload_n hx hb dX9_wordOf_166 rfl (lv_at hl 0 rfl) ?_
                            refine gf_X9_24 hx hb hts hown hK hP 0 rfl rfl dX9_wordOf_167 ?_
                            refine lv_i2l (v := ((Av 4)).toInt64) hx hb dX9_wordOf_170 rfl ?_
                            have hF_74 : ((Av 4)).toInt64 = (dX9_wordOf (Af 1) (Af 3) (Af 4) (Af 5) (Af 6) (Af 7) (Af 8) (Av 0) (Av 2) (Av 3) (Av 4) (Av 5) x1 x2) := by
                              clear hP hD hS hl
                              replace er_4 := er_4.symm; subst er_4
                              replace ex_9 := ex_9.symm; subst ex_9
                              unfold dX9_wordOf
                              rw [if_neg c_8, if_neg c_10, if_neg c_12, if_neg c_16, if_neg c_20, if_neg c_24, if_neg c_33, if_neg c_43, if_neg c_45, if_neg c_49, if_neg c_53, if_neg c_62, if_neg c_64]
                              try rfl
                            exact retL (v := ((Av 4)).toInt64) hx hb hr hlk hP hD hS () ⟨_, rfl, ⟨trivial, hF_74⟩⟩ [0, 1, 2, 3, 4, 5, 6, 7, 8] rfl rfl dX9_wordOf_171 (Nat.le_of_ble_eq_true rfl) (Nat.le_of_ble_eq_true rfl) rfl
  · skip
    refine lv_lconst (v := 0) hx hb dX9_wordOf_8 (by decide) ?_
    have hF_75 : (0 : Int64) = (dX9_wordOf (Af 1) (Af 3) (Af 4) (Af 5) (Af 6) (Af 7) (Af 8) (Av 0) (Av 2) (Av 3) (Av 4) (Av 5) x1 x2) := by
      clear hP hD hS hl
      replace er_4 := er_4.symm; subst er_4
      unfold dX9_wordOf
      rw [if_pos c_8]
      try rfl
    exact retL (v := 0) hx hb hr hlk hP hD hS () ⟨_, rfl, ⟨trivial, hF_75⟩⟩ [0, 1, 2, 3, 4, 5, 6, 7, 8] rfl rfl dX9_wordOf_9 (Nat.le_of_ble_eq_true rfl) (Nat.le_of_ble_eq_true rfl) rfl
set_option maxRecDepth 100000 in
theorem cu_dX9_wordOf (l : Launch) (D : va_G) (tc : Nat → ClassId) (sk : (Nat → Nat) × (Nat → Nat)) (Aa_0 : Nat) (Aa_1 : Nat) (Aa_2 : Nat) (Aa_3 : Nat) (Aa_4 : Nat) (Aa_5 : Nat) (Aa_6 : Nat) (Aa_7 : Nat) (Aa_8 : Nat) (Av_0 : Int32) (Av_1 : Int32) (Av_2 : Int32) (Av_3 : Int32) (Av_4 : Int32) (Av_5 : Int32) (Af_1 : Nat → Int32) (Af_2 : Nat → Int32) (Af_3 : Nat → Int32) (Af_4 : Nat → Int32) (Af_5 : Nat → Int32) (Af_6 : Nat → Int32) (Af_7 : Nat → Int32) (Af_8 : Nat → Int32) (x1 : Int32) (x2 : Int32)  : Ct l yX9_wordOf cX9_wordOf 3 (some .long) { frames := 2, cells := 0, slots := 0, locals := 42 } D tc sk [.ref Aa_0, .int x1, .int x2] [(Aa_0, .inr (9, [.int Av_0, .int Av_1, .int Av_2, .int Av_3, .int Av_4, .int Av_5, .ref Aa_1, .ref Aa_2, .ref Aa_3, .ref Aa_4, .ref Aa_5, .ref Aa_6, .ref Aa_7, .ref Aa_8])), (Aa_1, .inl (tc 0, 10, .inl Af_1)), (Aa_2, .inl (tc 0, 10, .inl Af_2)), (Aa_3, .inl (tc 0, 6, .inl Af_3)), (Aa_4, .inl (tc 0, 6, .inl Af_4)), (Aa_5, .inl (tc 0, 6, .inl Af_5)), (Aa_6, .inl (tc 0, 6, .inl Af_6)), (Aa_7, .inl (tc 0, 6, .inl Af_7)), (Aa_8, .inl (tc 0, 6, .inl Af_8))] (fun (v : Option Value) (_ : Unit) => ∃ r : Int64, v = some (.long r) ∧ ((True) ∧ r = (dX9_wordOf Af_1 Af_3 Af_4 Af_5 Af_6 Af_7 Af_8 Av_0 Av_2 Av_3 Av_4 Av_5 x1 x2))) (fun (_ : Unit) => [(Aa_0, .inr (9, [.int Av_0, .int Av_1, .int Av_2, .int Av_3, .int Av_4, .int Av_5, .ref Aa_1, .ref Aa_2, .ref Aa_3, .ref Aa_4, .ref Aa_5, .ref Aa_6, .ref Aa_7, .ref Aa_8])), (Aa_1, .inl (tc 0, 10, .inl Af_1)), (Aa_2, .inl (tc 0, 10, .inl Af_2)), (Aa_3, .inl (tc 0, 6, .inl Af_3)), (Aa_4, .inl (tc 0, 6, .inl Af_4)), (Aa_5, .inl (tc 0, 6, .inl Af_5)), (Aa_6, .inl (tc 0, 6, .inl Af_6)), (Aa_7, .inl (tc 0, 6, .inl Af_7)), (Aa_8, .inl (tc 0, 6, .inl Af_8))]) 0 0 :=
  ct_dX9_wordOf l D tc sk (fun k => ([Aa_0, Aa_1, Aa_2, Aa_3, Aa_4, Aa_5, Aa_6, Aa_7, Aa_8] : List (Nat)).getD k 0) (fun k => ([Av_0, Av_1, Av_2, Av_3, Av_4, Av_5] : List (Int32)).getD k 0) (fun k => ([(fun _ => 0), Af_1, Af_2, Af_3, Af_4, Af_5, Af_6, Af_7, Af_8] : List (Nat → Int32)).getD k (fun _ => 0)) x1 x2 
def dX9_handOver (Af_3 : Nat → Int32) (Af_4 : Nat → Int32) (Af_6 : Nat → Int32) (Af_8 : Nat → Int32) (Av_0 : Int32) (Av_3 : Int32) (Av_4 : Int32) (Av_5 : Int32) (x1 : Int32) : Int32 × Int32 × (Nat → Int32) × (Nat → Int32) × (Nat → Int32) := (if (dX9_hasBuyer Av_3 x1) = (0 : Int32) then (Av_0, Av_5, Af_3, Af_6, Af_8) else ((Av_0 - (Af_4 (x1).toNatClampNeg)), (Av_5 + (Af_4 (x1).toNatClampNeg)), (upd Af_3 (x1).toNatClampNeg (if (0 : Int32) < ((Af_3 (x1).toNatClampNeg) - (6 : Int32)) then ((Af_3 (x1).toNatClampNeg) - (6 : Int32)) else (0 : Int32))), (upd Af_6 (x1).toNatClampNeg ((Af_6 (x1).toNatClampNeg) + (Af_4 (x1).toNatClampNeg))), (upd Af_8 (x1).toNatClampNeg Av_4)))
set_option maxHeartbeats 4000000 in
set_option maxRecDepth 100000 in
theorem ct_dX9_handOver (l : Launch) (D : va_G) (tc : Nat → ClassId) (sk : (Nat → Nat) × (Nat → Nat)) (Aa : Nat → Nat) (Av : Nat → Int32) (Af : Nat → Nat → Int32) (x1 : Int32)  : Ct l yX9_handOver cX9_handOver 2 none { frames := 1, cells := 0, slots := 0, locals := 21 } D tc sk [.ref (Aa 0), .int x1] [((Aa 0), .inr (9, [.int (Av 0), .int (Av 1), .int (Av 2), .int (Av 3), .int (Av 4), .int (Av 5), .ref (Aa 1), .ref (Aa 2), .ref (Aa 3), .ref (Aa 4), .ref (Aa 5), .ref (Aa 6), .ref (Aa 7), .ref (Aa 8)])), ((Aa 1), .inl (tc 0, 10, .inl (Af 1))), ((Aa 2), .inl (tc 0, 10, .inl (Af 2))), ((Aa 3), .inl (tc 0, 6, .inl (Af 3))), ((Aa 4), .inl (tc 0, 6, .inl (Af 4))), ((Aa 5), .inl (tc 0, 6, .inl (Af 5))), ((Aa 6), .inl (tc 0, 6, .inl (Af 6))), ((Aa 7), .inl (tc 0, 6, .inl (Af 7))), ((Aa 8), .inl (tc 0, 6, .inl (Af 8)))] (fun (v : Option Value) (u : (Int32) × (Int32) × (Nat → Int32) × (Nat → Int32) × (Nat → Int32)) => match u with | (oo0x1, oo0x2, oo0x3, oo0x4, oo0x5) => v = none ∧ (DEq ((oo0x1, oo0x2, oo0x3, oo0x4, oo0x5)) (dX9_handOver (Af 3) (Af 4) (Af 6) (Af 8) (Av 0) (Av 3) (Av 4) (Av 5) x1))) (fun (u : (Int32) × (Int32) × (Nat → Int32) × (Nat → Int32) × (Nat → Int32)) => match u with | (oo0x1, oo0x2, oo0x3, oo0x4, oo0x5) => [((Aa 0), .inr (9, [.int oo0x1, .int (Av 1), .int (Av 2), .int (Av 3), .int (Av 4), .int oo0x2, .ref (Aa 1), .ref (Aa 2), .ref (Aa 3), .ref (Aa 4), .ref (Aa 5), .ref (Aa 6), .ref (Aa 7), .ref (Aa 8)])), ((Aa 1), .inl (tc 0, 10, .inl (Af 1))), ((Aa 2), .inl (tc 0, 10, .inl (Af 2))), ((Aa 3), .inl (tc 0, 6, .inl oo0x3)), ((Aa 4), .inl (tc 0, 6, .inl (Af 4))), ((Aa 5), .inl (tc 0, 6, .inl (Af 5))), ((Aa 6), .inl (tc 0, 6, .inl oo0x4)), ((Aa 7), .inl (tc 0, 6, .inl (Af 7))), ((Aa 8), .inl (tc 0, 6, .inl oo0x5))]) 0 0 := by
  refine Ct.start (by decide) (Nat.le_of_ble_eq_true rfl) (fun p e s m below meth c A ls hx hb hr hlk hin hml hown hts hK hX hP hD hA hl hS => ?_)
  have hl : lv_has ls 2 [(0, .ref (Aa 0)), (1, .int x1)] := hl
  refine lv_aload_n hx hb dX9_handOver_0 rfl (lv_at hl 0 rfl) ?_
  refine lv_iload_n hx hb dX9_handOver_1 rfl (lv_at hl 1 rfl) ?_
  refine cV (a := (Aa 0)) (As := [.int x1]) (rest := []) (wr := []) ⟨hx, hb, hml, hown, hts⟩ hK hX hA (cu_dX9_hasBuyer l D tc sk (Aa 0) (Aa 1) (Aa 2) (Aa 3) (Aa 4) (Aa 5) (Aa 6) (Aa 7) (Aa 8) (Av 0) (Av 1) (Av 2) (Av 3) (Av 4) (Av 5) (Af 1) (Af 2) (Af 3) (Af 4) (Af 5) (Af 6) (Af 7) (Af 8) x1) k_591 k_707 k_589 k_590 k_98 pl_X9_hasBuyer ⟨Nat.le_of_ble_eq_true rfl, Nat.le_of_ble_eq_true rfl⟩ rfl rfl (va_recv hK hP (ci := 9) (q0 := 0) rfl rfl) hP hD hS [0, 1, 2, 3, 4, 5, 6, 7, 8] [] rfl rfl rfl rfl rfl (by decide) rfl hl.1 rfl (Nat.le_of_ble_eq_true rfl) dX9_handOver_2 ⟨Nat.le_of_ble_eq_true rfl, Nat.le_of_ble_eq_true rfl⟩ (fun v_1 u_2 H locs hv_3 hP₀ hD₀ hS₀ => ?_)
  obtain ⟨r_4, rfl, he_5⟩ := hv_3
  have he_5 : ((r_4.toInt = 0 ∨ (r_4.toInt = 1 ∧ 0 ≤ x1.toInt ∧ x1.toInt < 6 ∧ x1.toInt < (Av 3).toInt))) ∧ r_4 = (dX9_hasBuyer (Av 3) x1) := he_5
  refine W.eq (g2 := F0 m 5 ls [.int r_4]) rfl ?_
  replace hP : va_P D classes [((Aa 0), .inr (9, [.int (Av 0), .int (Av 1), .int (Av 2), .int (Av 3), .int (Av 4), .int (Av 5), .ref (Aa 1), .ref (Aa 2), .ref (Aa 3), .ref (Aa 4), .ref (Aa 5), .ref (Aa 6), .ref (Aa 7), .ref (Aa 8)])), ((Aa 1), .inl (tc 0, 10, .inl (Af 1))), ((Aa 2), .inl (tc 0, 10, .inl (Af 2))), ((Aa 3), .inl (tc 0, 6, .inl (Af 3))), ((Aa 4), .inl (tc 0, 6, .inl (Af 4))), ((Aa 5), .inl (tc 0, 6, .inl (Af 5))), ((Aa 6), .inl (tc 0, 6, .inl (Af 6))), ((Aa 7), .inl (tc 0, 6, .inl (Af 7))), ((Aa 8), .inl (tc 0, 6, .inl (Af 8)))] H := hP₀
  replace hD : va_D A [((Aa 0), .inr (9, [.int (Av 0), .int (Av 1), .int (Av 2), .int (Av 3), .int (Av 4), .int (Av 5), .ref (Aa 1), .ref (Aa 2), .ref (Aa 3), .ref (Aa 4), .ref (Aa 5), .ref (Aa 6), .ref (Aa 7), .ref (Aa 8)])), ((Aa 1), .inl (tc 0, 10, .inl (Af 1))), ((Aa 2), .inl (tc 0, 10, .inl (Af 2))), ((Aa 3), .inl (tc 0, 6, .inl (Af 3))), ((Aa 4), .inl (tc 0, 6, .inl (Af 4))), ((Aa 5), .inl (tc 0, 6, .inl (Af 5))), ((Aa 6), .inl (tc 0, 6, .inl (Af 6))), ((Aa 7), .inl (tc 0, 6, .inl (Af 7))), ((Aa 8), .inl (tc 0, 6, .inl (Af 8)))] := hD₀
  replace hS := hS₀
  clear hP₀ hD₀ hS₀
  obtain ⟨he_5, hq_7⟩ := he_5
  have er_4 : r_4 = (dX9_hasBuyer (Av 3) x1) := hq_7
  refine lv_if_ne (tgt := 9) hx hb dX9_handOver_5 (by decide) (fun c_8 => ?_) (fun c_8 => ?_)
  · skip
    refine lv_aload_n hx hb dX9_handOver_9 rfl (lv_at hl 0 rfl) ?_
    refine lv_dup hx hb dX9_handOver_10 rfl ?_
    refine gf_X9_9 hx hb hts hown hK hP 0 rfl rfl dX9_handOver_11 ?_
    refine lv_aload_n hx hb dX9_handOver_14 rfl (lv_at hl 0 rfl) ?_
    refine gf_X9_40 hx hb hts hown hK hP 0 rfl rfl dX9_handOver_15 ?_
    refine lv_iload_n hx hb dX9_handOver_18 rfl (lv_at hl 1 rfl) ?_
    have hi_9 : vp_in x1 6 := by
      have z_1 : ¬ (r_4 : Int32).toInt = (0 : Int32).toInt := fun z => c_8 (Int32.toInt_inj.mp z)
      have y_0 : (0 : Int32).toInt = 0 := by decide
      refine vp_in_iff.mpr ⟨?_, ?_⟩ <;> omega
    refine va_iald hx hb hK hP 4 0 rfl rfl hi_9 dX9_handOver_19 ?_
    refine lv_topi (fun x_10 ex_10 => ?_)
    refine lv_isub hx hb dX9_handOver_20 ?_
    refine lv_topi (fun x_11 ex_11 => ?_)
    refine pf_X9_9 hx hb hts hown hK hP hD hS 0 rfl (Nat.le_of_ble_eq_true rfl) rfl rfl dX9_handOver_21 (fun H locs hP₀ hD₀ hS₀ => ?_)
    replace hP : va_P D classes [((Aa 0), .inr (9, [.int x_11, .int (Av 1), .int (Av 2), .int (Av 3), .int (Av 4), .int (Av 5), .ref (Aa 1), .ref (Aa 2), .ref (Aa 3), .ref (Aa 4), .ref (Aa 5), .ref (Aa 6), .ref (Aa 7), .ref (Aa 8)])), ((Aa 1), .inl (tc 0, 10, .inl (Af 1))), ((Aa 2), .inl (tc 0, 10, .inl (Af 2))), ((Aa 3), .inl (tc 0, 6, .inl (Af 3))), ((Aa 4), .inl (tc 0, 6, .inl (Af 4))), ((Aa 5), .inl (tc 0, 6, .inl (Af 5))), ((Aa 6), .inl (tc 0, 6, .inl (Af 6))), ((Aa 7), .inl (tc 0, 6, .inl (Af 7))), ((Aa 8), .inl (tc 0, 6, .inl (Af 8)))] H := hP₀
    replace hD : va_D A [((Aa 0), .inr (9, [.int x_11, .int (Av 1), .int (Av 2), .int (Av 3), .int (Av 4), .int (Av 5), .ref (Aa 1), .ref (Aa 2), .ref (Aa 3), .ref (Aa 4), .ref (Aa 5), .ref (Aa 6), .ref (Aa 7), .ref (Aa 8)])), ((Aa 1), .inl (tc 0, 10, .inl (Af 1))), ((Aa 2), .inl (tc 0, 10, .inl (Af 2))), ((Aa 3), .inl (tc 0, 6, .inl (Af 3))), ((Aa 4), .inl (tc 0, 6, .inl (Af 4))), ((Aa 5), .inl (tc 0, 6, .inl (Af 5))), ((Aa 6), .inl (tc 0, 6, .inl (Af 6))), ((Aa 7), .inl (tc 0, 6, .inl (Af 7))), ((Aa 8), .inl (tc 0, 6, .inl (Af 8)))] := hD₀
    replace hS := hS₀
    clear hP₀ hD₀ hS₀
    refine lv_aload_n hx hb dX9_handOver_24 rfl (lv_at hl 0 rfl) ?_
    refine gf_X9_37 hx hb hts hown hK hP 0 rfl rfl dX9_handOver_25 ?_
    refine lv_iload_n hx hb dX9_handOver_28 rfl (lv_at hl 1 rfl) ?_
    refine lv_iconst (v := 0) hx hb dX9_handOver_29 (by decide) ?_
    refine lv_aload_n hx hb dX9_handOver_30 rfl (lv_at hl 0 rfl) ?_
    refine gf_X9_37 hx hb hts hown hK hP 0 rfl rfl dX9_handOver_31 ?_
    refine lv_iload_n hx hb dX9_handOver_34 rfl (lv_at hl 1 rfl) ?_
    have hi_12 : vp_in x1 6 := by
      have z_1 : ¬ (r_4 : Int32).toInt = (0 : Int32).toInt := fun z => c_8 (Int32.toInt_inj.mp z)
      have y_0 : (0 : Int32).toInt = 0 := by decide
      refine vp_in_iff.mpr ⟨?_, ?_⟩ <;> omega
    refine va_iald hx hb hK hP 3 0 rfl rfl hi_12 dX9_handOver_35 ?_
    refine lv_topi (fun x_13 ex_13 => ?_)
    refine lv_bipush (v := 6) hx hb dX9_handOver_36 (by decide) ?_
    refine lv_isub hx hb dX9_handOver_38 ?_
    refine lv_topi (fun x_14 ex_14 => ?_)
    refine va_mmax hx hb (hml.trans hl.1.symm) hown (hts _ k_773) (hts _ k_774) (hts _ k_114) (hts _ k_775) (Nat.le_of_ble_eq_true rfl) (Nat.le_of_ble_eq_true rfl) (Nat.le_of_ble_eq_true rfl) (Nat.le_of_ble_eq_true rfl) dX9_handOver_39 ?_
    refine lv_topi (fun x_15 ex_15 => ?_)
    have mx_15 := imax_f ex_15
    rw [show (0 : Int32).toInt = 0 by decide] at mx_15
    have hi_16 : vp_in x1 6 := by
      have z_1 : ¬ (r_4 : Int32).toInt = (0 : Int32).toInt := fun z => c_8 (Int32.toInt_inj.mp z)
      have y_0 : (0 : Int32).toInt = 0 := by decide
      refine vp_in_iff.mpr ⟨?_, ?_⟩ <;> omega
    refine st_int hx hb hK hP hD hS 3 0 rfl rfl hi_16 dX9_handOver_42 (fun g_17 H locs eg_17 hP₀ hD₀ hS₀ => ?_)
    replace hP : va_P D classes [((Aa 0), .inr (9, [.int x_11, .int (Av 1), .int (Av 2), .int (Av 3), .int (Av 4), .int (Av 5), .ref (Aa 1), .ref (Aa 2), .ref (Aa 3), .ref (Aa 4), .ref (Aa 5), .ref (Aa 6), .ref (Aa 7), .ref (Aa 8)])), ((Aa 1), .inl (tc 0, 10, .inl (Af 1))), ((Aa 2), .inl (tc 0, 10, .inl (Af 2))), ((Aa 3), .inl (tc 0, 6, .inl g_17)), ((Aa 4), .inl (tc 0, 6, .inl (Af 4))), ((Aa 5), .inl (tc 0, 6, .inl (Af 5))), ((Aa 6), .inl (tc 0, 6, .inl (Af 6))), ((Aa 7), .inl (tc 0, 6, .inl (Af 7))), ((Aa 8), .inl (tc 0, 6, .inl (Af 8)))] H := hP₀
    replace hD : va_D A [((Aa 0), .inr (9, [.int x_11, .int (Av 1), .int (Av 2), .int (Av 3), .int (Av 4), .int (Av 5), .ref (Aa 1), .ref (Aa 2), .ref (Aa 3), .ref (Aa 4), .ref (Aa 5), .ref (Aa 6), .ref (Aa 7), .ref (Aa 8)])), ((Aa 1), .inl (tc 0, 10, .inl (Af 1))), ((Aa 2), .inl (tc 0, 10, .inl (Af 2))), ((Aa 3), .inl (tc 0, 6, .inl g_17)), ((Aa 4), .inl (tc 0, 6, .inl (Af 4))), ((Aa 5), .inl (tc 0, 6, .inl (Af 5))), ((Aa 6), .inl (tc 0, 6, .inl (Af 6))), ((Aa 7), .inl (tc 0, 6, .inl (Af 7))), ((Aa 8), .inl (tc 0, 6, .inl (Af 8)))] := hD₀
    replace hS := hS₀
    clear hP₀ hD₀ hS₀
    refine lv_aload_n hx hb dX9_handOver_43 rfl (lv_at hl 0 rfl) ?_
    refine gf_X9_46 hx hb hts hown hK hP 0 rfl rfl dX9_handOver_44 ?_
    refine lv_iload_n hx hb dX9_handOver_47 rfl (lv_at hl 1 rfl) ?_
    refine lv_dup2_11 hx hb dX9_handOver_48 rfl rfl ?_
    have hi_18 : vp_in x1 6 := by
      have z_1 : ¬ (r_4 : Int32).toInt = (0 : Int32).toInt := fun z => c_8 (Int32.toInt_inj.mp z)
      have y_0 : (0 : Int32).toInt = 0 := by decide
      refine vp_in_iff.mpr ⟨?_, ?_⟩ <;> omega
    refine va_iald hx hb hK hP 6 0 rfl rfl hi_18 dX9_handOver_49 ?_
    refine lv_topi (fun x_19 ex_19 => ?_)
    refine lv_aload_n hx hb dX9_handOver_50 rfl (lv_at hl 0 rfl) ?_
    refine gf_X9_40 hx hb hts hown hK hP 0 rfl rfl dX9_handOver_51 ?_
    refine lv_iload_n hx hb dX9_handOver_54 rfl (lv_at hl 1 rfl) ?_
    have hi_20 : vp_in x1 6 := by
      have z_1 : ¬ (r_4 : Int32).toInt = (0 : Int32).toInt := fun z => c_8 (Int32.toInt_inj.mp z)
      have y_0 : (0 : Int32).toInt = 0 := by decide
      refine vp_in_iff.mpr ⟨?_, ?_⟩ <;> omega
    refine va_iald hx hb hK hP 4 0 rfl rfl hi_20 dX9_handOver_55 ?_
    refine lv_topi (fun x_21 ex_21 => ?_)
    refine lv_iadd hx hb dX9_handOver_56 ?_
    refine lv_topi (fun x_22 ex_22 => ?_)
    have hi_23 : vp_in x1 6 := by
      have z_1 : ¬ (r_4 : Int32).toInt = (0 : Int32).toInt := fun z => c_8 (Int32.toInt_inj.mp z)
      have y_0 : (0 : Int32).toInt = 0 := by decide
      refine vp_in_iff.mpr ⟨?_, ?_⟩ <;> omega
    refine st_int hx hb hK hP hD hS 6 0 rfl rfl hi_23 dX9_handOver_57 (fun g_24 H locs eg_24 hP₀ hD₀ hS₀ => ?_)
    replace hP : va_P D classes [((Aa 0), .inr (9, [.int x_11, .int (Av 1), .int (Av 2), .int (Av 3), .int (Av 4), .int (Av 5), .ref (Aa 1), .ref (Aa 2), .ref (Aa 3), .ref (Aa 4), .ref (Aa 5), .ref (Aa 6), .ref (Aa 7), .ref (Aa 8)])), ((Aa 1), .inl (tc 0, 10, .inl (Af 1))), ((Aa 2), .inl (tc 0, 10, .inl (Af 2))), ((Aa 3), .inl (tc 0, 6, .inl g_17)), ((Aa 4), .inl (tc 0, 6, .inl (Af 4))), ((Aa 5), .inl (tc 0, 6, .inl (Af 5))), ((Aa 6), .inl (tc 0, 6, .inl g_24)), ((Aa 7), .inl (tc 0, 6, .inl (Af 7))), ((Aa 8), .inl (tc 0, 6, .inl (Af 8)))] H := hP₀
    replace hD : va_D A [((Aa 0), .inr (9, [.int x_11, .int (Av 1), .int (Av 2), .int (Av 3), .int (Av 4), .int (Av 5), .ref (Aa 1), .ref (Aa 2), .ref (Aa 3), .ref (Aa 4), .ref (Aa 5), .ref (Aa 6), .ref (Aa 7), .ref (Aa 8)])), ((Aa 1), .inl (tc 0, 10, .inl (Af 1))), ((Aa 2), .inl (tc 0, 10, .inl (Af 2))), ((Aa 3), .inl (tc 0, 6, .inl g_17)), ((Aa 4), .inl (tc 0, 6, .inl (Af 4))), ((Aa 5), .inl (tc 0, 6, .inl (Af 5))), ((Aa 6), .inl (tc 0, 6, .inl g_24)), ((Aa 7), .inl (tc 0, 6, .inl (Af 7))), ((Aa 8), .inl (tc 0, 6, .inl (Af 8)))] := hD₀
    replace hS := hS₀
    clear hP₀ hD₀ hS₀
    refine lv_aload_n hx hb dX9_handOver_58 rfl (lv_at hl 0 rfl) ?_
    refine lv_dup hx hb dX9_handOver_59 rfl ?_
    refine gf_X9_27 hx hb hts hown hK hP 0 rfl rfl dX9_handOver_60 ?_
    refine lv_aload_n hx hb dX9_handOver_63 rfl (lv_at hl 0 rfl) ?_
    refine gf_X9_40 hx hb hts hown hK hP 0 rfl rfl dX9_handOver_64 ?_
    refine lv_iload_n hx hb dX9_handOver_67 rfl (lv_at hl 1 rfl) ?_
    have hi_25 : vp_in x1 6 := by
      have z_1 : ¬ (r_4 : Int32).toInt = (0 : Int32).toInt := fun z => c_8 (Int32.toInt_inj.mp z)
      have y_0 : (0 : Int32).toInt = 0 := by decide
      refine vp_in_iff.mpr ⟨?_, ?_⟩ <;> omega
    refine va_iald hx hb hK hP 4 0 rfl rfl hi_25 dX9_handOver_68 ?_
    refine lv_topi (fun x_26 ex_26 => ?_)
    refine lv_iadd hx hb dX9_handOver_69 ?_
    refine lv_topi (fun x_27 ex_27 => ?_)
    refine pf_X9_27 hx hb hts hown hK hP hD hS 0 rfl (Nat.le_of_ble_eq_true rfl) rfl rfl dX9_handOver_70 (fun H locs hP₀ hD₀ hS₀ => ?_)
    replace hP : va_P D classes [((Aa 0), .inr (9, [.int x_11, .int (Av 1), .int (Av 2), .int (Av 3), .int (Av 4), .int x_27, .ref (Aa 1), .ref (Aa 2), .ref (Aa 3), .ref (Aa 4), .ref (Aa 5), .ref (Aa 6), .ref (Aa 7), .ref (Aa 8)])), ((Aa 1), .inl (tc 0, 10, .inl (Af 1))), ((Aa 2), .inl (tc 0, 10, .inl (Af 2))), ((Aa 3), .inl (tc 0, 6, .inl g_17)), ((Aa 4), .inl (tc 0, 6, .inl (Af 4))), ((Aa 5), .inl (tc 0, 6, .inl (Af 5))), ((Aa 6), .inl (tc 0, 6, .inl g_24)), ((Aa 7), .inl (tc 0, 6, .inl (Af 7))), ((Aa 8), .inl (tc 0, 6, .inl (Af 8)))] H := hP₀
    replace hD : va_D A [((Aa 0), .inr (9, [.int x_11, .int (Av 1), .int (Av 2), .int (Av 3), .int (Av 4), .int x_27, .ref (Aa 1), .ref (Aa 2), .ref (Aa 3), .ref (Aa 4), .ref (Aa 5), .ref (Aa 6), .ref (Aa 7), .ref (Aa 8)])), ((Aa 1), .inl (tc 0, 10, .inl (Af 1))), ((Aa 2), .inl (tc 0, 10, .inl (Af 2))), ((Aa 3), .inl (tc 0, 6, .inl g_17)), ((Aa 4), .inl (tc 0, 6, .inl (Af 4))), ((Aa 5), .inl (tc 0, 6, .inl (Af 5))), ((Aa 6), .inl (tc 0, 6, .inl g_24)), ((Aa 7), .inl (tc 0, 6, .inl (Af 7))), ((Aa 8), .inl (tc 0, 6, .inl (Af 8)))] := hD₀
    replace hS := hS₀
    clear hP₀ hD₀ hS₀
    refine lv_aload_n hx hb dX9_handOver_73 rfl (lv_at hl 0 rfl) ?_
    refine gf_X9_52 hx hb hts hown hK hP 0 rfl rfl dX9_handOver_74 ?_
    refine lv_iload_n hx hb dX9_handOver_77 rfl (lv_at hl 1 rfl) ?_
    refine lv_aload_n hx hb dX9_handOver_78 rfl (lv_at hl 0 rfl) ?_
    refine gf_X9_24 hx hb hts hown hK hP 0 rfl rfl dX9_handOver_79 ?_
    have hi_28 : vp_in x1 6 := by
      have z_1 : ¬ (r_4 : Int32).toInt = (0 : Int32).toInt := fun z => c_8 (Int32.toInt_inj.mp z)
      have y_0 : (0 : Int32).toInt = 0 := by decide
      refine vp_in_iff.mpr ⟨?_, ?_⟩ <;> omega
    refine st_int hx hb hK hP hD hS 8 0 rfl rfl hi_28 dX9_handOver_82 (fun g_29 H locs eg_29 hP₀ hD₀ hS₀ => ?_)
    replace hP : va_P D classes [((Aa 0), .inr (9, [.int x_11, .int (Av 1), .int (Av 2), .int (Av 3), .int (Av 4), .int x_27, .ref (Aa 1), .ref (Aa 2), .ref (Aa 3), .ref (Aa 4), .ref (Aa 5), .ref (Aa 6), .ref (Aa 7), .ref (Aa 8)])), ((Aa 1), .inl (tc 0, 10, .inl (Af 1))), ((Aa 2), .inl (tc 0, 10, .inl (Af 2))), ((Aa 3), .inl (tc 0, 6, .inl g_17)), ((Aa 4), .inl (tc 0, 6, .inl (Af 4))), ((Aa 5), .inl (tc 0, 6, .inl (Af 5))), ((Aa 6), .inl (tc 0, 6, .inl g_24)), ((Aa 7), .inl (tc 0, 6, .inl (Af 7))), ((Aa 8), .inl (tc 0, 6, .inl g_29))] H := hP₀
    replace hD : va_D A [((Aa 0), .inr (9, [.int x_11, .int (Av 1), .int (Av 2), .int (Av 3), .int (Av 4), .int x_27, .ref (Aa 1), .ref (Aa 2), .ref (Aa 3), .ref (Aa 4), .ref (Aa 5), .ref (Aa 6), .ref (Aa 7), .ref (Aa 8)])), ((Aa 1), .inl (tc 0, 10, .inl (Af 1))), ((Aa 2), .inl (tc 0, 10, .inl (Af 2))), ((Aa 3), .inl (tc 0, 6, .inl g_17)), ((Aa 4), .inl (tc 0, 6, .inl (Af 4))), ((Aa 5), .inl (tc 0, 6, .inl (Af 5))), ((Aa 6), .inl (tc 0, 6, .inl g_24)), ((Aa 7), .inl (tc 0, 6, .inl (Af 7))), ((Aa 8), .inl (tc 0, 6, .inl g_29))] := hD₀
    replace hS := hS₀
    clear hP₀ hD₀ hS₀
    have hF_30 : (x_11, x_27, g_17, g_24, g_29) = (dX9_handOver (Af 3) (Af 4) (Af 6) (Af 8) (Av 0) (Av 3) (Av 4) (Av 5) x1) := by
      clear hP hD hS hl
      replace er_4 := er_4.symm; subst er_4
      replace ex_10 := ex_10.symm; subst ex_10
      replace ex_11 := ex_11.symm; subst ex_11
      replace ex_13 := ex_13.symm; subst ex_13
      replace ex_14 := ex_14.symm; subst ex_14
      replace ex_15 := ex_15.symm; subst ex_15
      replace eg_17 := eg_17.symm; subst eg_17
      replace ex_19 := ex_19.symm; subst ex_19
      replace ex_21 := ex_21.symm; subst ex_21
      replace ex_22 := ex_22.symm; subst ex_22
      replace eg_24 := eg_24.symm; subst eg_24
      replace ex_26 := ex_26.symm; subst ex_26
      replace ex_27 := ex_27.symm; subst ex_27
      replace eg_29 := eg_29.symm; subst eg_29
      unfold dX9_handOver
      rw [if_neg c_8]
      try rfl
    exact retV hx hb hr hlk hP hD hS (x_11, x_27, g_17, g_24, g_29) ⟨rfl, hF_30⟩ [0, 1, 2, 3, 4, 5, 6, 7, 8] rfl rfl dX9_handOver_83 (Nat.le_of_ble_eq_true rfl) (Nat.le_of_ble_eq_true rfl) rfl
  · skip
    have hF_31 : ((Av 0), (Av 5), (Af 3), (Af 6), (Af 8)) = (dX9_handOver (Af 3) (Af 4) (Af 6) (Af 8) (Av 0) (Av 3) (Av 4) (Av 5) x1) := by
      clear hP hD hS hl
      replace er_4 := er_4.symm; subst er_4
      unfold dX9_handOver
      rw [if_pos c_8]
      try rfl
    exact retV hx hb hr hlk hP hD hS ((Av 0), (Av 5), (Af 3), (Af 6), (Af 8)) ⟨rfl, hF_31⟩ [0, 1, 2, 3, 4, 5, 6, 7, 8] rfl rfl dX9_handOver_8 (Nat.le_of_ble_eq_true rfl) (Nat.le_of_ble_eq_true rfl) rfl
set_option maxRecDepth 100000 in
theorem cu_dX9_handOver (l : Launch) (D : va_G) (tc : Nat → ClassId) (sk : (Nat → Nat) × (Nat → Nat)) (Aa_0 : Nat) (Aa_1 : Nat) (Aa_2 : Nat) (Aa_3 : Nat) (Aa_4 : Nat) (Aa_5 : Nat) (Aa_6 : Nat) (Aa_7 : Nat) (Aa_8 : Nat) (Av_0 : Int32) (Av_1 : Int32) (Av_2 : Int32) (Av_3 : Int32) (Av_4 : Int32) (Av_5 : Int32) (Af_1 : Nat → Int32) (Af_2 : Nat → Int32) (Af_3 : Nat → Int32) (Af_4 : Nat → Int32) (Af_5 : Nat → Int32) (Af_6 : Nat → Int32) (Af_7 : Nat → Int32) (Af_8 : Nat → Int32) (x1 : Int32)  : Ct l yX9_handOver cX9_handOver 2 none { frames := 1, cells := 0, slots := 0, locals := 21 } D tc sk [.ref Aa_0, .int x1] [(Aa_0, .inr (9, [.int Av_0, .int Av_1, .int Av_2, .int Av_3, .int Av_4, .int Av_5, .ref Aa_1, .ref Aa_2, .ref Aa_3, .ref Aa_4, .ref Aa_5, .ref Aa_6, .ref Aa_7, .ref Aa_8])), (Aa_1, .inl (tc 0, 10, .inl Af_1)), (Aa_2, .inl (tc 0, 10, .inl Af_2)), (Aa_3, .inl (tc 0, 6, .inl Af_3)), (Aa_4, .inl (tc 0, 6, .inl Af_4)), (Aa_5, .inl (tc 0, 6, .inl Af_5)), (Aa_6, .inl (tc 0, 6, .inl Af_6)), (Aa_7, .inl (tc 0, 6, .inl Af_7)), (Aa_8, .inl (tc 0, 6, .inl Af_8))] (fun (v : Option Value) (u : (Int32) × (Int32) × (Nat → Int32) × (Nat → Int32) × (Nat → Int32)) => match u with | (oo0x1, oo0x2, oo0x3, oo0x4, oo0x5) => v = none ∧ (DEq ((oo0x1, oo0x2, oo0x3, oo0x4, oo0x5)) (dX9_handOver Af_3 Af_4 Af_6 Af_8 Av_0 Av_3 Av_4 Av_5 x1))) (fun (u : (Int32) × (Int32) × (Nat → Int32) × (Nat → Int32) × (Nat → Int32)) => match u with | (oo0x1, oo0x2, oo0x3, oo0x4, oo0x5) => [(Aa_0, .inr (9, [.int oo0x1, .int Av_1, .int Av_2, .int Av_3, .int Av_4, .int oo0x2, .ref Aa_1, .ref Aa_2, .ref Aa_3, .ref Aa_4, .ref Aa_5, .ref Aa_6, .ref Aa_7, .ref Aa_8])), (Aa_1, .inl (tc 0, 10, .inl Af_1)), (Aa_2, .inl (tc 0, 10, .inl Af_2)), (Aa_3, .inl (tc 0, 6, .inl oo0x3)), (Aa_4, .inl (tc 0, 6, .inl Af_4)), (Aa_5, .inl (tc 0, 6, .inl Af_5)), (Aa_6, .inl (tc 0, 6, .inl oo0x4)), (Aa_7, .inl (tc 0, 6, .inl Af_7)), (Aa_8, .inl (tc 0, 6, .inl oo0x5))]) 0 0 :=
  ct_dX9_handOver l D tc sk (fun k => ([Aa_0, Aa_1, Aa_2, Aa_3, Aa_4, Aa_5, Aa_6, Aa_7, Aa_8] : List (Nat)).getD k 0) (fun k => ([Av_0, Av_1, Av_2, Av_3, Av_4, Av_5] : List (Int32)).getD k 0) (fun k => ([(fun _ => 0), Af_1, Af_2, Af_3, Af_4, Af_5, Af_6, Af_7, Af_8] : List (Nat → Int32)).getD k (fun _ => 0)) x1 
def dX9_changeTempers_l22 (Av_3 : Int32) (zz_2302 : Int32) : Nat → Int32 → (Nat → Int32) → Int32 × (Nat → Int32)
  | 0, _, _ => (0, (fun _ => 0))
  | n + 1, yy_2300, yy_2301 => (if Av_3 ≤ yy_2300 then (yy_2300, yy_2301) else (if (6 : Int32) ≤ yy_2300 then (yy_2300, yy_2301) else dX9_changeTempers_l22 Av_3 zz_2302 n (yy_2300 + 1) (upd yy_2301 (yy_2300).toNatClampNeg (if (0 : Int32) < (if ((yy_2301 (yy_2300).toNatClampNeg) + zz_2302) < (20 : Int32) then ((yy_2301 (yy_2300).toNatClampNeg) + zz_2302) else (20 : Int32)) then (if ((yy_2301 (yy_2300).toNatClampNeg) + zz_2302) < (20 : Int32) then ((yy_2301 (yy_2300).toNatClampNeg) + zz_2302) else (20 : Int32)) else (0 : Int32)))))
theorem dX9_changeTempers_l22_s {Av_3 : Int32} {zz_2302 : Int32} {n : Nat} {yy_2300 : Int32} {yy_2301 : Nat → Int32} : dX9_changeTempers_l22 Av_3 zz_2302 (n + 1) yy_2300 yy_2301 = (if Av_3 ≤ yy_2300 then (yy_2300, yy_2301) else (if (6 : Int32) ≤ yy_2300 then (yy_2300, yy_2301) else dX9_changeTempers_l22 Av_3 zz_2302 n (yy_2300 + 1) (upd yy_2301 (yy_2300).toNatClampNeg (if (0 : Int32) < (if ((yy_2301 (yy_2300).toNatClampNeg) + zz_2302) < (20 : Int32) then ((yy_2301 (yy_2300).toNatClampNeg) + zz_2302) else (20 : Int32)) then (if ((yy_2301 (yy_2300).toNatClampNeg) + zz_2302) < (20 : Int32) then ((yy_2301 (yy_2300).toNatClampNeg) + zz_2302) else (20 : Int32)) else (0 : Int32))))) := rfl
def dX9_changeTempers (Af_3 : Nat → Int32) (Av_3 : Int32) (x1 : Int32) : (Nat → Int32) := (if x1 < (5 : Int32) then (if (2 : Int32) < x1 then ((dX9_changeTempers_l22 Av_3 (0 : Int32) ((6 - (0 : Int32).toInt).toNat + 1) (0 : Int32) Af_3).2) else ((dX9_changeTempers_l22 Av_3 (-1 : Int32) ((6 - (0 : Int32).toInt).toNat + 1) (0 : Int32) Af_3).2)) else ((dX9_changeTempers_l22 Av_3 (1 : Int32) ((6 - (0 : Int32).toInt).toNat + 1) (0 : Int32) Af_3).2))
set_option maxHeartbeats 4000000 in
set_option maxRecDepth 100000 in
theorem ct_dX9_changeTempers (l : Launch) (D : va_G) (tc : Nat → ClassId) (sk : (Nat → Nat) × (Nat → Nat)) (Aa : Nat → Nat) (Av : Nat → Int32) (Af : Nat → Nat → Int32) (x1 : Int32)  : Ct l yX9_changeTempers cX9_changeTempers 4 none { frames := 1, cells := 0, slots := 0, locals := 16 } D tc sk [.ref (Aa 0), .int x1] [((Aa 0), .inr (9, [.int (Av 0), .int (Av 1), .int (Av 2), .int (Av 3), .int (Av 4), .int (Av 5), .ref (Aa 1), .ref (Aa 2), .ref (Aa 3), .ref (Aa 4), .ref (Aa 5), .ref (Aa 6), .ref (Aa 7), .ref (Aa 8)])), ((Aa 1), .inl (tc 0, 10, .inl (Af 1))), ((Aa 2), .inl (tc 0, 10, .inl (Af 2))), ((Aa 3), .inl (tc 0, 6, .inl (Af 3))), ((Aa 4), .inl (tc 0, 6, .inl (Af 4))), ((Aa 5), .inl (tc 0, 6, .inl (Af 5))), ((Aa 6), .inl (tc 0, 6, .inl (Af 6))), ((Aa 7), .inl (tc 0, 6, .inl (Af 7))), ((Aa 8), .inl (tc 0, 6, .inl (Af 8)))] (fun (v : Option Value) (oo0x1 : Nat → Int32) => v = none ∧ (DEq (oo0x1) (dX9_changeTempers (Af 3) (Av 3) x1))) (fun (oo0x1 : Nat → Int32) => [((Aa 0), .inr (9, [.int (Av 0), .int (Av 1), .int (Av 2), .int (Av 3), .int (Av 4), .int (Av 5), .ref (Aa 1), .ref (Aa 2), .ref (Aa 3), .ref (Aa 4), .ref (Aa 5), .ref (Aa 6), .ref (Aa 7), .ref (Aa 8)])), ((Aa 1), .inl (tc 0, 10, .inl (Af 1))), ((Aa 2), .inl (tc 0, 10, .inl (Af 2))), ((Aa 3), .inl (tc 0, 6, .inl oo0x1)), ((Aa 4), .inl (tc 0, 6, .inl (Af 4))), ((Aa 5), .inl (tc 0, 6, .inl (Af 5))), ((Aa 6), .inl (tc 0, 6, .inl (Af 6))), ((Aa 7), .inl (tc 0, 6, .inl (Af 7))), ((Aa 8), .inl (tc 0, 6, .inl (Af 8)))]) 0 0 := by
  refine Ct.start (by decide) (Nat.le_of_ble_eq_true rfl) (fun p e s m below meth c A ls hx hb hr hlk hin hml hown hts hK hX hP hD hA hl hS => ?_)
  have hl : lv_has ls 4 [(0, .ref (Aa 0)), (1, .int x1)] := hl
  refine lv_iload_n hx hb dX9_changeTempers_0 rfl (lv_at hl 1 rfl) ?_
  refine lv_iconst (v := 5) hx hb dX9_changeTempers_1 (by decide) ?_
  refine lv_icmp_lt (tgt := 9) hx hb dX9_changeTempers_2 (by decide) (fun c_1 => ?_) (fun c_1 => ?_)
  · skip
    refine lv_iload_n hx hb dX9_changeTempers_9 rfl (lv_at hl 1 rfl) ?_
    refine lv_iconst (v := 2) hx hb dX9_changeTempers_10 (by decide) ?_
    refine lv_icmp_gt (tgt := 18) hx hb dX9_changeTempers_11 (by decide) (fun c_2 => ?_) (fun c_2 => ?_)
    · skip
      refine lv_iconst (v := 0) hx hb dX9_changeTempers_18 (by decide) ?_
      refine lv_istore_n (lv' := [(2, .int 0), (0, .ref (Aa 0)), (1, .int x1)]) hx hb dX9_changeTempers_19 rfl hl (by decide) rfl (fun ls hl₀ => ?_)
      replace hl := hl₀
      clear hl₀
      refine lv_iconst (v := 0) hx hb dX9_changeTempers_20 (by decide) ?_
      refine lv_istore_n (lv' := [(3, .int 0), (2, .int 0), (0, .ref (Aa 0)), (1, .int x1)]) hx hb dX9_changeTempers_21 rfl hl (by decide) rfl (fun ls hl₀ => ?_)
      replace hl := hl₀
      clear hl₀
      have loop_5 : ∀ (n_3 : Nat) (yy_2300 : Int32) (yy_2301 : Nat → Int32) (H : Heap) (locs : List Loc) (ls : Array Slot), (6 - (yy_2300 : Int32).toInt).toNat < n_3 → (dX9_changeTempers_l22 (Av 3) (0 : Int32) ((6 - (0 : Int32).toInt).toNat + 1) (0 : Int32) (Af 3)) = dX9_changeTempers_l22 (Av 3) (0 : Int32) ((6 - (yy_2300 : Int32).toInt).toNat + 1) yy_2300 yy_2301 → (0 ≤ (yy_2300 : Int32).toInt) → va_P D classes [((Aa 0), .inr (9, [.int (Av 0), .int (Av 1), .int (Av 2), .int (Av 3), .int (Av 4), .int (Av 5), .ref (Aa 1), .ref (Aa 2), .ref (Aa 3), .ref (Aa 4), .ref (Aa 5), .ref (Aa 6), .ref (Aa 7), .ref (Aa 8)])), ((Aa 1), .inl (tc 0, 10, .inl (Af 1))), ((Aa 2), .inl (tc 0, 10, .inl (Af 2))), ((Aa 3), .inl (tc 0, 6, .inl yy_2301)), ((Aa 4), .inl (tc 0, 6, .inl (Af 4))), ((Aa 5), .inl (tc 0, 6, .inl (Af 5))), ((Aa 6), .inl (tc 0, 6, .inl (Af 6))), ((Aa 7), .inl (tc 0, 6, .inl (Af 7))), ((Aa 8), .inl (tc 0, 6, .inl (Af 8)))] H → va_D A [((Aa 0), .inr (9, [.int (Av 0), .int (Av 1), .int (Av 2), .int (Av 3), .int (Av 4), .int (Av 5), .ref (Aa 1), .ref (Aa 2), .ref (Aa 3), .ref (Aa 4), .ref (Aa 5), .ref (Aa 6), .ref (Aa 7), .ref (Aa 8)])), ((Aa 1), .inl (tc 0, 10, .inl (Af 1))), ((Aa 2), .inl (tc 0, 10, .inl (Af 2))), ((Aa 3), .inl (tc 0, 6, .inl yy_2301)), ((Aa 4), .inl (tc 0, 6, .inl (Af 4))), ((Aa 5), .inl (tc 0, 6, .inl (Af 5))), ((Aa 6), .inl (tc 0, 6, .inl (Af 6))), ((Aa 7), .inl (tc 0, 6, .inl (Af 7))), ((Aa 8), .inl (tc 0, 6, .inl (Af 8)))] → va_S A s.heap H locs → lv_has ls 4 [(3, .int yy_2300), (2, .int 0), (0, .ref (Aa 0)), (1, .int x1)] → W p l e ({ frames := 1, cells := 0, slots := 0, locals := 16 }) s m ([.ref (Aa 0), .int x1].toArray) below meth c H locs 0 0 (MQ below (QW (fun (v : Option Value) (oo0x1 : Nat → Int32) => v = none ∧ (DEq (oo0x1) (dX9_changeTempers (Af 3) (Av 3) x1))) (BW D (fun (oo0x1 : Nat → Int32) => [((Aa 0), .inr (9, [.int (Av 0), .int (Av 1), .int (Av 2), .int (Av 3), .int (Av 4), .int (Av 5), .ref (Aa 1), .ref (Aa 2), .ref (Aa 3), .ref (Aa 4), .ref (Aa 5), .ref (Aa 6), .ref (Aa 7), .ref (Aa 8)])), ((Aa 1), .inl (tc 0, 10, .inl (Af 1))), ((Aa 2), .inl (tc 0, 10, .inl (Af 2))), ((Aa 3), .inl (tc 0, 6, .inl oo0x1)), ((Aa 4), .inl (tc 0, 6, .inl (Af 4))), ((Aa 5), .inl (tc 0, 6, .inl (Af 5))), ((Aa 6), .inl (tc 0, 6, .inl (Af 6))), ((Aa 7), .inl (tc 0, 6, .inl (Af 7))), ((Aa 8), .inl (tc 0, 6, .inl (Af 8)))]) A) A) ([.ref (Aa 0), .int x1].toArray) s 0 0 A) (F0 m 22 ls []) := by
        clear hP hD hS hl
        intro n_3
        induction n_3 with
        | zero =>
          intro yy_2300 yy_2301 H locs ls h1
          exact absurd h1 (Nat.not_lt_zero _)
        | succ n_3 ih_4 =>
          intro yy_2300 yy_2301 H locs ls hn_8 hL_7 pf_6 hP hD hS hl
          refine lv_iload_n hx hb dX9_changeTempers_22 rfl (lv_at hl 0 rfl) ?_
          refine lv_aload_n hx hb dX9_changeTempers_23 rfl (lv_at hl 2 rfl) ?_
          refine gf_X9_21 hx hb hts hown hK hP 0 rfl rfl dX9_changeTempers_24 ?_
          refine lv_icmp_ge (tgt := 65) hx hb dX9_changeTempers_27 (by decide) (fun c_9 => ?_) (fun c_9 => ?_)
          · skip
            have hb_11 : dX9_changeTempers_l22 (Av 3) (0 : Int32) ((6 - (yy_2300 : Int32).toInt).toNat + 1) yy_2300 yy_2301 = (yy_2300, yy_2301) := by
              clear hP hD hS hl ih_4
              rw [dX9_changeTempers_l22_s]
              rw [if_pos c_9]
              try rfl
            have hX_10 : (dX9_changeTempers_l22 (Av 3) (0 : Int32) ((6 - (0 : Int32).toInt).toNat + 1) (0 : Int32) (Af 3)) = (yy_2300, yy_2301) := hL_7.trans hb_11
            have hX_10_0 : (dX9_changeTempers_l22 (Av 3) (0 : Int32) ((6 - (0 : Int32).toInt).toNat + 1) (0 : Int32) (Af 3)).1 = yy_2300 := congrArg (fun z => z.1) hX_10
            have hX_10_1 : (dX9_changeTempers_l22 (Av 3) (0 : Int32) ((6 - (0 : Int32).toInt).toNat + 1) (0 : Int32) (Af 3)).2 = yy_2301 := congrArg (fun z => z.2) hX_10
            have hF_12 : yy_2301 = (dX9_changeTempers (Af 3) (Av 3) x1) := by
              clear hP hD hS hl ih_4
              unfold dX9_changeTempers
              try rw [hX_10_0]
              try rw [hX_10_1]
              rw [if_pos c_1, if_pos c_2]
              try rfl
            exact retV hx hb hr hlk hP hD hS yy_2301 ⟨rfl, hF_12⟩ [0, 1, 2, 3, 4, 5, 6, 7, 8] rfl rfl dX9_changeTempers_65 (Nat.le_of_ble_eq_true rfl) (Nat.le_of_ble_eq_true rfl) rfl
          · skip
            refine lv_iload_n hx hb dX9_changeTempers_30 rfl (lv_at hl 0 rfl) ?_
            refine lv_bipush (v := 6) hx hb dX9_changeTempers_31 (by decide) ?_
            refine lv_icmp_ge (tgt := 65) hx hb dX9_changeTempers_33 (by decide) (fun c_13 => ?_) (fun c_13 => ?_)
            · skip
              have hb_15 : dX9_changeTempers_l22 (Av 3) (0 : Int32) ((6 - (yy_2300 : Int32).toInt).toNat + 1) yy_2300 yy_2301 = (yy_2300, yy_2301) := by
                clear hP hD hS hl ih_4
                rw [dX9_changeTempers_l22_s]
                rw [if_neg c_9, if_pos c_13]
                try rfl
              have hX_14 : (dX9_changeTempers_l22 (Av 3) (0 : Int32) ((6 - (0 : Int32).toInt).toNat + 1) (0 : Int32) (Af 3)) = (yy_2300, yy_2301) := hL_7.trans hb_15
              have hX_14_0 : (dX9_changeTempers_l22 (Av 3) (0 : Int32) ((6 - (0 : Int32).toInt).toNat + 1) (0 : Int32) (Af 3)).1 = yy_2300 := congrArg (fun z => z.1) hX_14
              have hX_14_1 : (dX9_changeTempers_l22 (Av 3) (0 : Int32) ((6 - (0 : Int32).toInt).toNat + 1) (0 : Int32) (Af 3)).2 = yy_2301 := congrArg (fun z => z.2) hX_14
              have hF_16 : yy_2301 = (dX9_changeTempers (Af 3) (Av 3) x1) := by
                clear hP hD hS hl ih_4
                unfold dX9_changeTempers
                try rw [hX_14_0]
                try rw [hX_14_1]
                rw [if_pos c_1, if_pos c_2]
                try rfl
              exact retV hx hb hr hlk hP hD hS yy_2301 ⟨rfl, hF_16⟩ [0, 1, 2, 3, 4, 5, 6, 7, 8] rfl rfl dX9_changeTempers_65 (Nat.le_of_ble_eq_true rfl) (Nat.le_of_ble_eq_true rfl) rfl
            · skip
              refine lv_aload_n hx hb dX9_changeTempers_36 rfl (lv_at hl 2 rfl) ?_
              refine gf_X9_37 hx hb hts hown hK hP 0 rfl rfl dX9_changeTempers_37 ?_
              refine lv_iload_n hx hb dX9_changeTempers_40 rfl (lv_at hl 0 rfl) ?_
              refine lv_iconst (v := 0) hx hb dX9_changeTempers_41 (by decide) ?_
              refine lv_bipush (v := 20) hx hb dX9_changeTempers_42 (by decide) ?_
              refine lv_aload_n hx hb dX9_changeTempers_44 rfl (lv_at hl 2 rfl) ?_
              refine gf_X9_37 hx hb hts hown hK hP 0 rfl rfl dX9_changeTempers_45 ?_
              refine lv_iload_n hx hb dX9_changeTempers_48 rfl (lv_at hl 0 rfl) ?_
              have hi_17 : vp_in yy_2300 6 := by
                have z_1 := Int32.lt_iff_toInt_lt.mp c_1
                have z_2 := Int32.lt_iff_toInt_lt.mp c_2
                have z_3 := Int32.lt_iff_toInt_lt.mp (Int32.not_le.mp c_9)
                have z_4 := Int32.lt_iff_toInt_lt.mp (Int32.not_le.mp c_13)
                have y_2 : (2 : Int32).toInt = 2 := by decide
                have y_5 : (5 : Int32).toInt = 5 := by decide
                have y_6 : (6 : Int32).toInt = 6 := by decide
                refine vp_in_iff.mpr ⟨?_, ?_⟩ <;> omega
              refine va_iald hx hb hK hP 3 0 rfl rfl hi_17 dX9_changeTempers_49 ?_
              refine lv_topi (fun x_18 ex_18 => ?_)
              refine lv_iload_n hx hb dX9_changeTempers_50 rfl (lv_at hl 1 rfl) ?_
              refine lv_iadd hx hb dX9_changeTempers_51 ?_
              refine lv_topi (fun x_19 ex_19 => ?_)
              refine va_mmin hx hb (hml.trans hl.1.symm) hown (hts _ k_780) (hts _ k_680) (hts _ k_114) (hts _ k_681) (Nat.le_of_ble_eq_true rfl) (Nat.le_of_ble_eq_true rfl) (Nat.le_of_ble_eq_true rfl) (Nat.le_of_ble_eq_true rfl) dX9_changeTempers_52 ?_
              refine lv_topi (fun x_20 ex_20 => ?_)
              have mx_20 := imin_f ex_20
              rw [show (20 : Int32).toInt = 20 by decide] at mx_20
              refine va_mmax hx hb (hml.trans hl.1.symm) hown (hts _ k_773) (hts _ k_774) (hts _ k_114) (hts _ k_775) (Nat.le_of_ble_eq_true rfl) (Nat.le_of_ble_eq_true rfl) (Nat.le_of_ble_eq_true rfl) (Nat.le_of_ble_eq_true rfl) dX9_changeTempers_55 ?_
              refine lv_topi (fun x_21 ex_21 => ?_)
              have mx_21 := imax_f ex_21
              rw [show (0 : Int32).toInt = 0 by decide] at mx_21
              have hi_22 : vp_in yy_2300 6 := by
                have z_1 := Int32.lt_iff_toInt_lt.mp c_1
                have z_2 := Int32.lt_iff_toInt_lt.mp c_2
                have z_3 := Int32.lt_iff_toInt_lt.mp (Int32.not_le.mp c_9)
                have z_4 := Int32.lt_iff_toInt_lt.mp (Int32.not_le.mp c_13)
                have y_2 : (2 : Int32).toInt = 2 := by decide
                have y_5 : (5 : Int32).toInt = 5 := by decide
                have y_6 : (6 : Int32).toInt = 6 := by decide
                refine vp_in_iff.mpr ⟨?_, ?_⟩ <;> omega
              refine st_int hx hb hK hP hD hS 3 0 rfl rfl hi_22 dX9_changeTempers_58 (fun g_23 H locs eg_23 hP₀ hD₀ hS₀ => ?_)
              replace hP : va_P D classes [((Aa 0), .inr (9, [.int (Av 0), .int (Av 1), .int (Av 2), .int (Av 3), .int (Av 4), .int (Av 5), .ref (Aa 1), .ref (Aa 2), .ref (Aa 3), .ref (Aa 4), .ref (Aa 5), .ref (Aa 6), .ref (Aa 7), .ref (Aa 8)])), ((Aa 1), .inl (tc 0, 10, .inl (Af 1))), ((Aa 2), .inl (tc 0, 10, .inl (Af 2))), ((Aa 3), .inl (tc 0, 6, .inl g_23)), ((Aa 4), .inl (tc 0, 6, .inl (Af 4))), ((Aa 5), .inl (tc 0, 6, .inl (Af 5))), ((Aa 6), .inl (tc 0, 6, .inl (Af 6))), ((Aa 7), .inl (tc 0, 6, .inl (Af 7))), ((Aa 8), .inl (tc 0, 6, .inl (Af 8)))] H := hP₀
              replace hD : va_D A [((Aa 0), .inr (9, [.int (Av 0), .int (Av 1), .int (Av 2), .int (Av 3), .int (Av 4), .int (Av 5), .ref (Aa 1), .ref (Aa 2), .ref (Aa 3), .ref (Aa 4), .ref (Aa 5), .ref (Aa 6), .ref (Aa 7), .ref (Aa 8)])), ((Aa 1), .inl (tc 0, 10, .inl (Af 1))), ((Aa 2), .inl (tc 0, 10, .inl (Af 2))), ((Aa 3), .inl (tc 0, 6, .inl g_23)), ((Aa 4), .inl (tc 0, 6, .inl (Af 4))), ((Aa 5), .inl (tc 0, 6, .inl (Af 5))), ((Aa 6), .inl (tc 0, 6, .inl (Af 6))), ((Aa 7), .inl (tc 0, 6, .inl (Af 7))), ((Aa 8), .inl (tc 0, 6, .inl (Af 8)))] := hD₀
              replace hS := hS₀
              clear hP₀ hD₀ hS₀
              obtain ⟨x_24, ex_24⟩ : ∃ y : Int32, y = yy_2300 + 1 := ⟨_, rfl⟩
              refine lv_iinc (v := x_24) (lv' := [(3, .int x_24), (2, .int 0), (0, .ref (Aa 0)), (1, .int x1)]) hx hb dX9_changeTempers_59 hl (k := 0) rfl (by rw [ex_24]; rfl) (by decide) rfl (fun ls hl₀ => ?_)
              replace hl := hl₀
              clear hl₀
              refine lv_goto (tgt := 22) hx hb dX9_changeTempers_62 (by decide) ?_
              have hb_25 : 6 - (x_24 : Int32).toInt < 6 - (yy_2300 : Int32).toInt ∧ 1 ≤ 6 - (yy_2300 : Int32).toInt := by
                have z_1 := Int32.lt_iff_toInt_lt.mp c_1
                have z_2 := Int32.lt_iff_toInt_lt.mp c_2
                have z_3 := Int32.lt_iff_toInt_lt.mp (Int32.not_le.mp c_9)
                have z_4 := Int32.lt_iff_toInt_lt.mp (Int32.not_le.mp c_13)
                have y_2 : (2 : Int32).toInt = 2 := by decide
                have y_5 : (5 : Int32).toInt = 5 := by decide
                have y_6 : (6 : Int32).toInt = 6 := by decide
                have y_1 : (1 : Int32).toInt = 1 := by decide
                have t_x_24 : x_24.toInt = (yy_2300 : Int32).toInt + (1 : Int32).toInt := by rw [ex_24]; exact add_toInt (by omega) (by omega)
                omega
              have hm_26 : (6 - (yy_2300 : Int32).toInt).toNat = (6 - (x_24 : Int32).toInt).toNat + 1 := by
                have z_1 := Int32.lt_iff_toInt_lt.mp c_1
                have z_2 := Int32.lt_iff_toInt_lt.mp c_2
                have z_3 := Int32.lt_iff_toInt_lt.mp (Int32.not_le.mp c_9)
                have z_4 := Int32.lt_iff_toInt_lt.mp (Int32.not_le.mp c_13)
                have y_2 : (2 : Int32).toInt = 2 := by decide
                have y_5 : (5 : Int32).toInt = 5 := by decide
                have y_6 : (6 : Int32).toInt = 6 := by decide
                have y_1 : (1 : Int32).toInt = 1 := by decide
                have t_x_24 : x_24.toInt = (yy_2300 : Int32).toInt + (1 : Int32).toInt := by rw [ex_24]; exact add_toInt (by omega) (by omega)
                omega
              have hb_27 : dX9_changeTempers_l22 (Av 3) (0 : Int32) ((6 - (yy_2300 : Int32).toInt).toNat + 1) yy_2300 yy_2301 = dX9_changeTempers_l22 (Av 3) (0 : Int32) ((6 - (yy_2300 : Int32).toInt).toNat) x_24 g_23 := by
                clear hP hD hS hl ih_4
                replace ex_18 := ex_18.symm; subst ex_18
                replace ex_19 := ex_19.symm; subst ex_19
                replace ex_20 := ex_20.symm; subst ex_20
                replace ex_21 := ex_21.symm; subst ex_21
                replace eg_23 := eg_23.symm; subst eg_23
                replace ex_24 := ex_24.symm; subst ex_24
                rw [dX9_changeTempers_l22_s]
                rw [if_neg c_9, if_neg c_13]
                try rfl
              have hL_28 : (dX9_changeTempers_l22 (Av 3) (0 : Int32) ((6 - (0 : Int32).toInt).toNat + 1) (0 : Int32) (Af 3)) = dX9_changeTempers_l22 (Av 3) (0 : Int32) ((6 - (x_24 : Int32).toInt).toNat + 1) x_24 g_23 := by
                rw [hL_7, hb_27, hm_26]
              have ha_29 : 0 ≤ (x_24 : Int32).toInt := by
                have z_1 := Int32.lt_iff_toInt_lt.mp c_1
                have z_2 := Int32.lt_iff_toInt_lt.mp c_2
                have z_3 := Int32.lt_iff_toInt_lt.mp (Int32.not_le.mp c_9)
                have z_4 := Int32.lt_iff_toInt_lt.mp (Int32.not_le.mp c_13)
                have y_2 : (2 : Int32).toInt = 2 := by decide
                have y_5 : (5 : Int32).toInt = 5 := by decide
                have y_6 : (6 : Int32).toInt = 6 := by decide
                have y_1 : (1 : Int32).toInt = 1 := by decide
                have t_x_24 : x_24.toInt = (yy_2300 : Int32).toInt + (1 : Int32).toInt := by rw [ex_24]; exact add_toInt (by omega) (by omega)
                omega
              exact ih_4 x_24 g_23 _ _ _ (by omega) hL_28 ha_29 (hP.sub [0, 1, 2, 3, 4, 5, 6, 7, 8] rfl) (hD.sub [0, 1, 2, 3, 4, 5, 6, 7, 8] rfl rfl) hS (lv_sub hl [0, 1, 2, 3] rfl)
      have ha_30 : 0 ≤ (0 : Int32).toInt := by
        have z_1 := Int32.lt_iff_toInt_lt.mp c_1
        have z_2 := Int32.lt_iff_toInt_lt.mp c_2
        have y_2 : (2 : Int32).toInt = 2 := by decide
        have y_5 : (5 : Int32).toInt = 5 := by decide
        have y_0 : (0 : Int32).toInt = 0 := by decide
        omega
      exact loop_5 _ 0 (Af 3) _ _ _ (Nat.lt_succ_self _) rfl ha_30 hP hD hS hl
    · skip
      refine lv_iconst (v := (-1)) hx hb dX9_changeTempers_14 (by decide) ?_
      refine lv_goto (tgt := 19) hx hb dX9_changeTempers_15 (by decide) ?_
      refine lv_istore_n (lv' := [(2, .int (-1)), (0, .ref (Aa 0)), (1, .int x1)]) hx hb dX9_changeTempers_19 rfl hl (by decide) rfl (fun ls hl₀ => ?_)
      replace hl := hl₀
      clear hl₀
      refine lv_iconst (v := 0) hx hb dX9_changeTempers_20 (by decide) ?_
      refine lv_istore_n (lv' := [(3, .int 0), (2, .int (-1)), (0, .ref (Aa 0)), (1, .int x1)]) hx hb dX9_changeTempers_21 rfl hl (by decide) rfl (fun ls hl₀ => ?_)
      replace hl := hl₀
      clear hl₀
      have loop_33 : ∀ (n_31 : Nat) (yy_2300 : Int32) (yy_2301 : Nat → Int32) (H : Heap) (locs : List Loc) (ls : Array Slot), (6 - (yy_2300 : Int32).toInt).toNat < n_31 → (dX9_changeTempers_l22 (Av 3) (-1 : Int32) ((6 - (0 : Int32).toInt).toNat + 1) (0 : Int32) (Af 3)) = dX9_changeTempers_l22 (Av 3) (-1 : Int32) ((6 - (yy_2300 : Int32).toInt).toNat + 1) yy_2300 yy_2301 → (0 ≤ (yy_2300 : Int32).toInt) → va_P D classes [((Aa 0), .inr (9, [.int (Av 0), .int (Av 1), .int (Av 2), .int (Av 3), .int (Av 4), .int (Av 5), .ref (Aa 1), .ref (Aa 2), .ref (Aa 3), .ref (Aa 4), .ref (Aa 5), .ref (Aa 6), .ref (Aa 7), .ref (Aa 8)])), ((Aa 1), .inl (tc 0, 10, .inl (Af 1))), ((Aa 2), .inl (tc 0, 10, .inl (Af 2))), ((Aa 3), .inl (tc 0, 6, .inl yy_2301)), ((Aa 4), .inl (tc 0, 6, .inl (Af 4))), ((Aa 5), .inl (tc 0, 6, .inl (Af 5))), ((Aa 6), .inl (tc 0, 6, .inl (Af 6))), ((Aa 7), .inl (tc 0, 6, .inl (Af 7))), ((Aa 8), .inl (tc 0, 6, .inl (Af 8)))] H → va_D A [((Aa 0), .inr (9, [.int (Av 0), .int (Av 1), .int (Av 2), .int (Av 3), .int (Av 4), .int (Av 5), .ref (Aa 1), .ref (Aa 2), .ref (Aa 3), .ref (Aa 4), .ref (Aa 5), .ref (Aa 6), .ref (Aa 7), .ref (Aa 8)])), ((Aa 1), .inl (tc 0, 10, .inl (Af 1))), ((Aa 2), .inl (tc 0, 10, .inl (Af 2))), ((Aa 3), .inl (tc 0, 6, .inl yy_2301)), ((Aa 4), .inl (tc 0, 6, .inl (Af 4))), ((Aa 5), .inl (tc 0, 6, .inl (Af 5))), ((Aa 6), .inl (tc 0, 6, .inl (Af 6))), ((Aa 7), .inl (tc 0, 6, .inl (Af 7))), ((Aa 8), .inl (tc 0, 6, .inl (Af 8)))] → va_S A s.heap H locs → lv_has ls 4 [(3, .int yy_2300), (2, .int (-1)), (0, .ref (Aa 0)), (1, .int x1)] → W p l e ({ frames := 1, cells := 0, slots := 0, locals := 16 }) s m ([.ref (Aa 0), .int x1].toArray) below meth c H locs 0 0 (MQ below (QW (fun (v : Option Value) (oo0x1 : Nat → Int32) => v = none ∧ (DEq (oo0x1) (dX9_changeTempers (Af 3) (Av 3) x1))) (BW D (fun (oo0x1 : Nat → Int32) => [((Aa 0), .inr (9, [.int (Av 0), .int (Av 1), .int (Av 2), .int (Av 3), .int (Av 4), .int (Av 5), .ref (Aa 1), .ref (Aa 2), .ref (Aa 3), .ref (Aa 4), .ref (Aa 5), .ref (Aa 6), .ref (Aa 7), .ref (Aa 8)])), ((Aa 1), .inl (tc 0, 10, .inl (Af 1))), ((Aa 2), .inl (tc 0, 10, .inl (Af 2))), ((Aa 3), .inl (tc 0, 6, .inl oo0x1)), ((Aa 4), .inl (tc 0, 6, .inl (Af 4))), ((Aa 5), .inl (tc 0, 6, .inl (Af 5))), ((Aa 6), .inl (tc 0, 6, .inl (Af 6))), ((Aa 7), .inl (tc 0, 6, .inl (Af 7))), ((Aa 8), .inl (tc 0, 6, .inl (Af 8)))]) A) A) ([.ref (Aa 0), .int x1].toArray) s 0 0 A) (F0 m 22 ls []) := by
        clear hP hD hS hl
        intro n_31
        induction n_31 with
        | zero =>
          intro yy_2300 yy_2301 H locs ls h1
          exact absurd h1 (Nat.not_lt_zero _)
        | succ n_31 ih_32 =>
          intro yy_2300 yy_2301 H locs ls hn_36 hL_35 pf_34 hP hD hS hl
          refine lv_iload_n hx hb dX9_changeTempers_22 rfl (lv_at hl 0 rfl) ?_
          refine lv_aload_n hx hb dX9_changeTempers_23 rfl (lv_at hl 2 rfl) ?_
          refine gf_X9_21 hx hb hts hown hK hP 0 rfl rfl dX9_changeTempers_24 ?_
          refine lv_icmp_ge (tgt := 65) hx hb dX9_changeTempers_27 (by decide) (fun c_37 => ?_) (fun c_37 => ?_)
          · skip
            have hb_39 : dX9_changeTempers_l22 (Av 3) (-1 : Int32) ((6 - (yy_2300 : Int32).toInt).toNat + 1) yy_2300 yy_2301 = (yy_2300, yy_2301) := by
              clear hP hD hS hl ih_32
              rw [dX9_changeTempers_l22_s]
              rw [if_pos c_37]
              try rfl
            have hX_38 : (dX9_changeTempers_l22 (Av 3) (-1 : Int32) ((6 - (0 : Int32).toInt).toNat + 1) (0 : Int32) (Af 3)) = (yy_2300, yy_2301) := hL_35.trans hb_39
            have hX_38_0 : (dX9_changeTempers_l22 (Av 3) (-1 : Int32) ((6 - (0 : Int32).toInt).toNat + 1) (0 : Int32) (Af 3)).1 = yy_2300 := congrArg (fun z => z.1) hX_38
            have hX_38_1 : (dX9_changeTempers_l22 (Av 3) (-1 : Int32) ((6 - (0 : Int32).toInt).toNat + 1) (0 : Int32) (Af 3)).2 = yy_2301 := congrArg (fun z => z.2) hX_38
            have hF_40 : yy_2301 = (dX9_changeTempers (Af 3) (Av 3) x1) := by
              clear hP hD hS hl ih_32
              unfold dX9_changeTempers
              try rw [hX_38_0]
              try rw [hX_38_1]
              rw [if_pos c_1, if_neg c_2]
              try rfl
            exact retV hx hb hr hlk hP hD hS yy_2301 ⟨rfl, hF_40⟩ [0, 1, 2, 3, 4, 5, 6, 7, 8] rfl rfl dX9_changeTempers_65 (Nat.le_of_ble_eq_true rfl) (Nat.le_of_ble_eq_true rfl) rfl
          · skip
            refine lv_iload_n hx hb dX9_changeTempers_30 rfl (lv_at hl 0 rfl) ?_
            refine lv_bipush (v := 6) hx hb dX9_changeTempers_31 (by decide) ?_
            refine lv_icmp_ge (tgt := 65) hx hb dX9_changeTempers_33 (by decide) (fun c_41 => ?_) (fun c_41 => ?_)
            · skip
              have hb_43 : dX9_changeTempers_l22 (Av 3) (-1 : Int32) ((6 - (yy_2300 : Int32).toInt).toNat + 1) yy_2300 yy_2301 = (yy_2300, yy_2301) := by
                clear hP hD hS hl ih_32
                rw [dX9_changeTempers_l22_s]
                rw [if_neg c_37, if_pos c_41]
                try rfl
              have hX_42 : (dX9_changeTempers_l22 (Av 3) (-1 : Int32) ((6 - (0 : Int32).toInt).toNat + 1) (0 : Int32) (Af 3)) = (yy_2300, yy_2301) := hL_35.trans hb_43
              have hX_42_0 : (dX9_changeTempers_l22 (Av 3) (-1 : Int32) ((6 - (0 : Int32).toInt).toNat + 1) (0 : Int32) (Af 3)).1 = yy_2300 := congrArg (fun z => z.1) hX_42
              have hX_42_1 : (dX9_changeTempers_l22 (Av 3) (-1 : Int32) ((6 - (0 : Int32).toInt).toNat + 1) (0 : Int32) (Af 3)).2 = yy_2301 := congrArg (fun z => z.2) hX_42
              have hF_44 : yy_2301 = (dX9_changeTempers (Af 3) (Av 3) x1) := by
                clear hP hD hS hl ih_32
                unfold dX9_changeTempers
                try rw [hX_42_0]
                try rw [hX_42_1]
                rw [if_pos c_1, if_neg c_2]
                try rfl
              exact retV hx hb hr hlk hP hD hS yy_2301 ⟨rfl, hF_44⟩ [0, 1, 2, 3, 4, 5, 6, 7, 8] rfl rfl dX9_changeTempers_65 (Nat.le_of_ble_eq_true rfl) (Nat.le_of_ble_eq_true rfl) rfl
            · skip
              refine lv_aload_n hx hb dX9_changeTempers_36 rfl (lv_at hl 2 rfl) ?_
              refine gf_X9_37 hx hb hts hown hK hP 0 rfl rfl dX9_changeTempers_37 ?_
              refine lv_iload_n hx hb dX9_changeTempers_40 rfl (lv_at hl 0 rfl) ?_
              refine lv_iconst (v := 0) hx hb dX9_changeTempers_41 (by decide) ?_
              refine lv_bipush (v := 20) hx hb dX9_changeTempers_42 (by decide) ?_
              refine lv_aload_n hx hb dX9_changeTempers_44 rfl (lv_at hl 2 rfl) ?_
              refine gf_X9_37 hx hb hts hown hK hP 0 rfl rfl dX9_changeTempers_45 ?_
              refine lv_iload_n hx hb dX9_changeTempers_48 rfl (lv_at hl 0 rfl) ?_
              have hi_45 : vp_in yy_2300 6 := by
                have z_1 := Int32.lt_iff_toInt_lt.mp c_1
                have z_2 := Int32.le_iff_toInt_le.mp (Int32.not_lt.mp c_2)
                have z_3 := Int32.lt_iff_toInt_lt.mp (Int32.not_le.mp c_37)
                have z_4 := Int32.lt_iff_toInt_lt.mp (Int32.not_le.mp c_41)
                have y_2 : (2 : Int32).toInt = 2 := by decide
                have y_5 : (5 : Int32).toInt = 5 := by decide
                have y_6 : (6 : Int32).toInt = 6 := by decide
                refine vp_in_iff.mpr ⟨?_, ?_⟩ <;> omega
              refine va_iald hx hb hK hP 3 0 rfl rfl hi_45 dX9_changeTempers_49 ?_
              refine lv_topi (fun x_46 ex_46 => ?_)
              refine lv_iload_n hx hb dX9_changeTempers_50 rfl (lv_at hl 1 rfl) ?_
              refine lv_iadd hx hb dX9_changeTempers_51 ?_
              refine lv_topi (fun x_47 ex_47 => ?_)
              refine va_mmin hx hb (hml.trans hl.1.symm) hown (hts _ k_780) (hts _ k_680) (hts _ k_114) (hts _ k_681) (Nat.le_of_ble_eq_true rfl) (Nat.le_of_ble_eq_true rfl) (Nat.le_of_ble_eq_true rfl) (Nat.le_of_ble_eq_true rfl) dX9_changeTempers_52 ?_
              refine lv_topi (fun x_48 ex_48 => ?_)
              have mx_48 := imin_f ex_48
              rw [show (20 : Int32).toInt = 20 by decide] at mx_48
              refine va_mmax hx hb (hml.trans hl.1.symm) hown (hts _ k_773) (hts _ k_774) (hts _ k_114) (hts _ k_775) (Nat.le_of_ble_eq_true rfl) (Nat.le_of_ble_eq_true rfl) (Nat.le_of_ble_eq_true rfl) (Nat.le_of_ble_eq_true rfl) dX9_changeTempers_55 ?_
              refine lv_topi (fun x_49 ex_49 => ?_)
              have mx_49 := imax_f ex_49
              rw [show (0 : Int32).toInt = 0 by decide] at mx_49
              have hi_50 : vp_in yy_2300 6 := by
                have z_1 := Int32.lt_iff_toInt_lt.mp c_1
                have z_2 := Int32.le_iff_toInt_le.mp (Int32.not_lt.mp c_2)
                have z_3 := Int32.lt_iff_toInt_lt.mp (Int32.not_le.mp c_37)
                have z_4 := Int32.lt_iff_toInt_lt.mp (Int32.not_le.mp c_41)
                have y_2 : (2 : Int32).toInt = 2 := by decide
                have y_5 : (5 : Int32).toInt = 5 := by decide
                have y_6 : (6 : Int32).toInt = 6 := by decide
                refine vp_in_iff.mpr ⟨?_, ?_⟩ <;> omega
              refine st_int hx hb hK hP hD hS 3 0 rfl rfl hi_50 dX9_changeTempers_58 (fun g_51 H locs eg_51 hP₀ hD₀ hS₀ => ?_)
              replace hP : va_P D classes [((Aa 0), .inr (9, [.int (Av 0), .int (Av 1), .int (Av 2), .int (Av 3), .int (Av 4), .int (Av 5), .ref (Aa 1), .ref (Aa 2), .ref (Aa 3), .ref (Aa 4), .ref (Aa 5), .ref (Aa 6), .ref (Aa 7), .ref (Aa 8)])), ((Aa 1), .inl (tc 0, 10, .inl (Af 1))), ((Aa 2), .inl (tc 0, 10, .inl (Af 2))), ((Aa 3), .inl (tc 0, 6, .inl g_51)), ((Aa 4), .inl (tc 0, 6, .inl (Af 4))), ((Aa 5), .inl (tc 0, 6, .inl (Af 5))), ((Aa 6), .inl (tc 0, 6, .inl (Af 6))), ((Aa 7), .inl (tc 0, 6, .inl (Af 7))), ((Aa 8), .inl (tc 0, 6, .inl (Af 8)))] H := hP₀
              replace hD : va_D A [((Aa 0), .inr (9, [.int (Av 0), .int (Av 1), .int (Av 2), .int (Av 3), .int (Av 4), .int (Av 5), .ref (Aa 1), .ref (Aa 2), .ref (Aa 3), .ref (Aa 4), .ref (Aa 5), .ref (Aa 6), .ref (Aa 7), .ref (Aa 8)])), ((Aa 1), .inl (tc 0, 10, .inl (Af 1))), ((Aa 2), .inl (tc 0, 10, .inl (Af 2))), ((Aa 3), .inl (tc 0, 6, .inl g_51)), ((Aa 4), .inl (tc 0, 6, .inl (Af 4))), ((Aa 5), .inl (tc 0, 6, .inl (Af 5))), ((Aa 6), .inl (tc 0, 6, .inl (Af 6))), ((Aa 7), .inl (tc 0, 6, .inl (Af 7))), ((Aa 8), .inl (tc 0, 6, .inl (Af 8)))] := hD₀
              replace hS := hS₀
              clear hP₀ hD₀ hS₀
              obtain ⟨x_52, ex_52⟩ : ∃ y : Int32, y = yy_2300 + 1 := ⟨_, rfl⟩
              refine lv_iinc (v := x_52) (lv' := [(3, .int x_52), (2, .int (-1)), (0, .ref (Aa 0)), (1, .int x1)]) hx hb dX9_changeTempers_59 hl (k := 0) rfl (by rw [ex_52]; rfl) (by decide) rfl (fun ls hl₀ => ?_)
              replace hl := hl₀
              clear hl₀
              refine lv_goto (tgt := 22) hx hb dX9_changeTempers_62 (by decide) ?_
              have hb_53 : 6 - (x_52 : Int32).toInt < 6 - (yy_2300 : Int32).toInt ∧ 1 ≤ 6 - (yy_2300 : Int32).toInt := by
                have z_1 := Int32.lt_iff_toInt_lt.mp c_1
                have z_2 := Int32.le_iff_toInt_le.mp (Int32.not_lt.mp c_2)
                have z_3 := Int32.lt_iff_toInt_lt.mp (Int32.not_le.mp c_37)
                have z_4 := Int32.lt_iff_toInt_lt.mp (Int32.not_le.mp c_41)
                have y_2 : (2 : Int32).toInt = 2 := by decide
                have y_5 : (5 : Int32).toInt = 5 := by decide
                have y_6 : (6 : Int32).toInt = 6 := by decide
                have y_1 : (1 : Int32).toInt = 1 := by decide
                have t_x_52 : x_52.toInt = (yy_2300 : Int32).toInt + (1 : Int32).toInt := by rw [ex_52]; exact add_toInt (by omega) (by omega)
                omega
              have hm_54 : (6 - (yy_2300 : Int32).toInt).toNat = (6 - (x_52 : Int32).toInt).toNat + 1 := by
                have z_1 := Int32.lt_iff_toInt_lt.mp c_1
                have z_2 := Int32.le_iff_toInt_le.mp (Int32.not_lt.mp c_2)
                have z_3 := Int32.lt_iff_toInt_lt.mp (Int32.not_le.mp c_37)
                have z_4 := Int32.lt_iff_toInt_lt.mp (Int32.not_le.mp c_41)
                have y_2 : (2 : Int32).toInt = 2 := by decide
                have y_5 : (5 : Int32).toInt = 5 := by decide
                have y_6 : (6 : Int32).toInt = 6 := by decide
                have y_1 : (1 : Int32).toInt = 1 := by decide
                have t_x_52 : x_52.toInt = (yy_2300 : Int32).toInt + (1 : Int32).toInt := by rw [ex_52]; exact add_toInt (by omega) (by omega)
                omega
              have hb_55 : dX9_changeTempers_l22 (Av 3) (-1 : Int32) ((6 - (yy_2300 : Int32).toInt).toNat + 1) yy_2300 yy_2301 = dX9_changeTempers_l22 (Av 3) (-1 : Int32) ((6 - (yy_2300 : Int32).toInt).toNat) x_52 g_51 := by
                clear hP hD hS hl ih_32
                replace ex_46 := ex_46.symm; subst ex_46
                replace ex_47 := ex_47.symm; subst ex_47
                replace ex_48 := ex_48.symm; subst ex_48
                replace ex_49 := ex_49.symm; subst ex_49
                replace eg_51 := eg_51.symm; subst eg_51
                replace ex_52 := ex_52.symm; subst ex_52
                rw [dX9_changeTempers_l22_s]
                rw [if_neg c_37, if_neg c_41]
                try rfl
              have hL_56 : (dX9_changeTempers_l22 (Av 3) (-1 : Int32) ((6 - (0 : Int32).toInt).toNat + 1) (0 : Int32) (Af 3)) = dX9_changeTempers_l22 (Av 3) (-1 : Int32) ((6 - (x_52 : Int32).toInt).toNat + 1) x_52 g_51 := by
                rw [hL_35, hb_55, hm_54]
              have ha_57 : 0 ≤ (x_52 : Int32).toInt := by
                have z_1 := Int32.lt_iff_toInt_lt.mp c_1
                have z_2 := Int32.le_iff_toInt_le.mp (Int32.not_lt.mp c_2)
                have z_3 := Int32.lt_iff_toInt_lt.mp (Int32.not_le.mp c_37)
                have z_4 := Int32.lt_iff_toInt_lt.mp (Int32.not_le.mp c_41)
                have y_2 : (2 : Int32).toInt = 2 := by decide
                have y_5 : (5 : Int32).toInt = 5 := by decide
                have y_6 : (6 : Int32).toInt = 6 := by decide
                have y_1 : (1 : Int32).toInt = 1 := by decide
                have t_x_52 : x_52.toInt = (yy_2300 : Int32).toInt + (1 : Int32).toInt := by rw [ex_52]; exact add_toInt (by omega) (by omega)
                omega
              exact ih_32 x_52 g_51 _ _ _ (by omega) hL_56 ha_57 (hP.sub [0, 1, 2, 3, 4, 5, 6, 7, 8] rfl) (hD.sub [0, 1, 2, 3, 4, 5, 6, 7, 8] rfl rfl) hS (lv_sub hl [0, 1, 2, 3] rfl)
      have ha_58 : 0 ≤ (0 : Int32).toInt := by
        have z_1 := Int32.lt_iff_toInt_lt.mp c_1
        have z_2 := Int32.le_iff_toInt_le.mp (Int32.not_lt.mp c_2)
        have y_2 : (2 : Int32).toInt = 2 := by decide
        have y_5 : (5 : Int32).toInt = 5 := by decide
        have y_0 : (0 : Int32).toInt = 0 := by decide
        omega
      exact loop_33 _ 0 (Af 3) _ _ _ (Nat.lt_succ_self _) rfl ha_58 hP hD hS hl
  · skip
    refine lv_iconst (v := 1) hx hb dX9_changeTempers_5 (by decide) ?_
    refine lv_goto (tgt := 19) hx hb dX9_changeTempers_6 (by decide) ?_
    refine lv_istore_n (lv' := [(2, .int 1), (0, .ref (Aa 0)), (1, .int x1)]) hx hb dX9_changeTempers_19 rfl hl (by decide) rfl (fun ls hl₀ => ?_)
    replace hl := hl₀
    clear hl₀
    refine lv_iconst (v := 0) hx hb dX9_changeTempers_20 (by decide) ?_
    refine lv_istore_n (lv' := [(3, .int 0), (2, .int 1), (0, .ref (Aa 0)), (1, .int x1)]) hx hb dX9_changeTempers_21 rfl hl (by decide) rfl (fun ls hl₀ => ?_)
    replace hl := hl₀
    clear hl₀
    have loop_61 : ∀ (n_59 : Nat) (yy_2300 : Int32) (yy_2301 : Nat → Int32) (H : Heap) (locs : List Loc) (ls : Array Slot), (6 - (yy_2300 : Int32).toInt).toNat < n_59 → (dX9_changeTempers_l22 (Av 3) (1 : Int32) ((6 - (0 : Int32).toInt).toNat + 1) (0 : Int32) (Af 3)) = dX9_changeTempers_l22 (Av 3) (1 : Int32) ((6 - (yy_2300 : Int32).toInt).toNat + 1) yy_2300 yy_2301 → (0 ≤ (yy_2300 : Int32).toInt) → va_P D classes [((Aa 0), .inr (9, [.int (Av 0), .int (Av 1), .int (Av 2), .int (Av 3), .int (Av 4), .int (Av 5), .ref (Aa 1), .ref (Aa 2), .ref (Aa 3), .ref (Aa 4), .ref (Aa 5), .ref (Aa 6), .ref (Aa 7), .ref (Aa 8)])), ((Aa 1), .inl (tc 0, 10, .inl (Af 1))), ((Aa 2), .inl (tc 0, 10, .inl (Af 2))), ((Aa 3), .inl (tc 0, 6, .inl yy_2301)), ((Aa 4), .inl (tc 0, 6, .inl (Af 4))), ((Aa 5), .inl (tc 0, 6, .inl (Af 5))), ((Aa 6), .inl (tc 0, 6, .inl (Af 6))), ((Aa 7), .inl (tc 0, 6, .inl (Af 7))), ((Aa 8), .inl (tc 0, 6, .inl (Af 8)))] H → va_D A [((Aa 0), .inr (9, [.int (Av 0), .int (Av 1), .int (Av 2), .int (Av 3), .int (Av 4), .int (Av 5), .ref (Aa 1), .ref (Aa 2), .ref (Aa 3), .ref (Aa 4), .ref (Aa 5), .ref (Aa 6), .ref (Aa 7), .ref (Aa 8)])), ((Aa 1), .inl (tc 0, 10, .inl (Af 1))), ((Aa 2), .inl (tc 0, 10, .inl (Af 2))), ((Aa 3), .inl (tc 0, 6, .inl yy_2301)), ((Aa 4), .inl (tc 0, 6, .inl (Af 4))), ((Aa 5), .inl (tc 0, 6, .inl (Af 5))), ((Aa 6), .inl (tc 0, 6, .inl (Af 6))), ((Aa 7), .inl (tc 0, 6, .inl (Af 7))), ((Aa 8), .inl (tc 0, 6, .inl (Af 8)))] → va_S A s.heap H locs → lv_has ls 4 [(3, .int yy_2300), (2, .int 1), (0, .ref (Aa 0)), (1, .int x1)] → W p l e ({ frames := 1, cells := 0, slots := 0, locals := 16 }) s m ([.ref (Aa 0), .int x1].toArray) below meth c H locs 0 0 (MQ below (QW (fun (v : Option Value) (oo0x1 : Nat → Int32) => v = none ∧ (DEq (oo0x1) (dX9_changeTempers (Af 3) (Av 3) x1))) (BW D (fun (oo0x1 : Nat → Int32) => [((Aa 0), .inr (9, [.int (Av 0), .int (Av 1), .int (Av 2), .int (Av 3), .int (Av 4), .int (Av 5), .ref (Aa 1), .ref (Aa 2), .ref (Aa 3), .ref (Aa 4), .ref (Aa 5), .ref (Aa 6), .ref (Aa 7), .ref (Aa 8)])), ((Aa 1), .inl (tc 0, 10, .inl (Af 1))), ((Aa 2), .inl (tc 0, 10, .inl (Af 2))), ((Aa 3), .inl (tc 0, 6, .inl oo0x1)), ((Aa 4), .inl (tc 0, 6, .inl (Af 4))), ((Aa 5), .inl (tc 0, 6, .inl (Af 5))), ((Aa 6), .inl (tc 0, 6, .inl (Af 6))), ((Aa 7), .inl (tc 0, 6, .inl (Af 7))), ((Aa 8), .inl (tc 0, 6, .inl (Af 8)))]) A) A) ([.ref (Aa 0), .int x1].toArray) s 0 0 A) (F0 m 22 ls []) := by
      clear hP hD hS hl
      intro n_59
      induction n_59 with
      | zero =>
        intro yy_2300 yy_2301 H locs ls h1
        exact absurd h1 (Nat.not_lt_zero _)
      | succ n_59 ih_60 =>
        intro yy_2300 yy_2301 H locs ls hn_64 hL_63 pf_62 hP hD hS hl
        refine lv_iload_n hx hb dX9_changeTempers_22 rfl (lv_at hl 0 rfl) ?_
        refine lv_aload_n hx hb dX9_changeTempers_23 rfl (lv_at hl 2 rfl) ?_
        refine gf_X9_21 hx hb hts hown hK hP 0 rfl rfl dX9_changeTempers_24 ?_
        refine lv_icmp_ge (tgt := 65) hx hb dX9_changeTempers_27 (by decide) (fun c_65 => ?_) (fun c_65 => ?_)
        · skip
          have hb_67 : dX9_changeTempers_l22 (Av 3) (1 : Int32) ((6 - (yy_2300 : Int32).toInt).toNat + 1) yy_2300 yy_2301 = (yy_2300, yy_2301) := by
            clear hP hD hS hl ih_60
            rw [dX9_changeTempers_l22_s]
            rw [if_pos c_65]
            try rfl
          have hX_66 : (dX9_changeTempers_l22 (Av 3) (1 : Int32) ((6 - (0 : Int32).toInt).toNat + 1) (0 : Int32) (Af 3)) = (yy_2300, yy_2301) := hL_63.trans hb_67
          have hX_66_0 : (dX9_changeTempers_l22 (Av 3) (1 : Int32) ((6 - (0 : Int32).toInt).toNat + 1) (0 : Int32) (Af 3)).1 = yy_2300 := congrArg (fun z => z.1) hX_66
          have hX_66_1 : (dX9_changeTempers_l22 (Av 3) (1 : Int32) ((6 - (0 : Int32).toInt).toNat + 1) (0 : Int32) (Af 3)).2 = yy_2301 := congrArg (fun z => z.2) hX_66
          have hF_68 : yy_2301 = (dX9_changeTempers (Af 3) (Av 3) x1) := by
            clear hP hD hS hl ih_60
            unfold dX9_changeTempers
            try rw [hX_66_0]
            try rw [hX_66_1]
            rw [if_neg c_1]
            try rfl
          exact retV hx hb hr hlk hP hD hS yy_2301 ⟨rfl, hF_68⟩ [0, 1, 2, 3, 4, 5, 6, 7, 8] rfl rfl dX9_changeTempers_65 (Nat.le_of_ble_eq_true rfl) (Nat.le_of_ble_eq_true rfl) rfl
        · skip
          refine lv_iload_n hx hb dX9_changeTempers_30 rfl (lv_at hl 0 rfl) ?_
          refine lv_bipush (v := 6) hx hb dX9_changeTempers_31 (by decide) ?_
          refine lv_icmp_ge (tgt := 65) hx hb dX9_changeTempers_33 (by decide) (fun c_69 => ?_) (fun c_69 => ?_)
          · skip
            have hb_71 : dX9_changeTempers_l22 (Av 3) (1 : Int32) ((6 - (yy_2300 : Int32).toInt).toNat + 1) yy_2300 yy_2301 = (yy_2300, yy_2301) := by
              clear hP hD hS hl ih_60
              rw [dX9_changeTempers_l22_s]
              rw [if_neg c_65, if_pos c_69]
              try rfl
            have hX_70 : (dX9_changeTempers_l22 (Av 3) (1 : Int32) ((6 - (0 : Int32).toInt).toNat + 1) (0 : Int32) (Af 3)) = (yy_2300, yy_2301) := hL_63.trans hb_71
            have hX_70_0 : (dX9_changeTempers_l22 (Av 3) (1 : Int32) ((6 - (0 : Int32).toInt).toNat + 1) (0 : Int32) (Af 3)).1 = yy_2300 := congrArg (fun z => z.1) hX_70
            have hX_70_1 : (dX9_changeTempers_l22 (Av 3) (1 : Int32) ((6 - (0 : Int32).toInt).toNat + 1) (0 : Int32) (Af 3)).2 = yy_2301 := congrArg (fun z => z.2) hX_70
            have hF_72 : yy_2301 = (dX9_changeTempers (Af 3) (Av 3) x1) := by
              clear hP hD hS hl ih_60
              unfold dX9_changeTempers
              try rw [hX_70_0]
              try rw [hX_70_1]
              rw [if_neg c_1]
              try rfl
            exact retV hx hb hr hlk hP hD hS yy_2301 ⟨rfl, hF_72⟩ [0, 1, 2, 3, 4, 5, 6, 7, 8] rfl rfl dX9_changeTempers_65 (Nat.le_of_ble_eq_true rfl) (Nat.le_of_ble_eq_true rfl) rfl
          · skip
            refine lv_aload_n hx hb dX9_changeTempers_36 rfl (lv_at hl 2 rfl) ?_
            refine gf_X9_37 hx hb hts hown hK hP 0 rfl rfl dX9_changeTempers_37 ?_
            refine lv_iload_n hx hb dX9_changeTempers_40 rfl (lv_at hl 0 rfl) ?_
            refine lv_iconst (v := 0) hx hb dX9_changeTempers_41 (by decide) ?_
            refine lv_bipush (v := 20) hx hb dX9_changeTempers_42 (by decide) ?_
            refine lv_aload_n hx hb dX9_changeTempers_44 rfl (lv_at hl 2 rfl) ?_
            refine gf_X9_37 hx hb hts hown hK hP 0 rfl rfl dX9_changeTempers_45 ?_
            refine lv_iload_n hx hb dX9_changeTempers_48 rfl (lv_at hl 0 rfl) ?_
            have hi_73 : vp_in yy_2300 6 := by
              have z_1 := Int32.le_iff_toInt_le.mp (Int32.not_lt.mp c_1)
              have z_2 := Int32.lt_iff_toInt_lt.mp (Int32.not_le.mp c_65)
              have z_3 := Int32.lt_iff_toInt_lt.mp (Int32.not_le.mp c_69)
              have y_5 : (5 : Int32).toInt = 5 := by decide
              have y_6 : (6 : Int32).toInt = 6 := by decide
              refine vp_in_iff.mpr ⟨?_, ?_⟩ <;> omega
            refine va_iald hx hb hK hP 3 0 rfl rfl hi_73 dX9_changeTempers_49 ?_
            refine lv_topi (fun x_74 ex_74 => ?_)
            refine lv_iload_n hx hb dX9_changeTempers_50 rfl (lv_at hl 1 rfl) ?_
            refine lv_iadd hx hb dX9_changeTempers_51 ?_
            refine lv_topi (fun x_75 ex_75 => ?_)
            refine va_mmin hx hb (hml.trans hl.1.symm) hown (hts _ k_780) (hts _ k_680) (hts _ k_114) (hts _ k_681) (Nat.le_of_ble_eq_true rfl) (Nat.le_of_ble_eq_true rfl) (Nat.le_of_ble_eq_true rfl) (Nat.le_of_ble_eq_true rfl) dX9_changeTempers_52 ?_
            refine lv_topi (fun x_76 ex_76 => ?_)
            have mx_76 := imin_f ex_76
            rw [show (20 : Int32).toInt = 20 by decide] at mx_76
            refine va_mmax hx hb (hml.trans hl.1.symm) hown (hts _ k_773) (hts _ k_774) (hts _ k_114) (hts _ k_775) (Nat.le_of_ble_eq_true rfl) (Nat.le_of_ble_eq_true rfl) (Nat.le_of_ble_eq_true rfl) (Nat.le_of_ble_eq_true rfl) dX9_changeTempers_55 ?_
            refine lv_topi (fun x_77 ex_77 => ?_)
            have mx_77 := imax_f ex_77
            rw [show (0 : Int32).toInt = 0 by decide] at mx_77
            have hi_78 : vp_in yy_2300 6 := by
              have z_1 := Int32.le_iff_toInt_le.mp (Int32.not_lt.mp c_1)
              have z_2 := Int32.lt_iff_toInt_lt.mp (Int32.not_le.mp c_65)
              have z_3 := Int32.lt_iff_toInt_lt.mp (Int32.not_le.mp c_69)
              have y_5 : (5 : Int32).toInt = 5 := by decide
              have y_6 : (6 : Int32).toInt = 6 := by decide
              refine vp_in_iff.mpr ⟨?_, ?_⟩ <;> omega
            refine st_int hx hb hK hP hD hS 3 0 rfl rfl hi_78 dX9_changeTempers_58 (fun g_79 H locs eg_79 hP₀ hD₀ hS₀ => ?_)
            replace hP : va_P D classes [((Aa 0), .inr (9, [.int (Av 0), .int (Av 1), .int (Av 2), .int (Av 3), .int (Av 4), .int (Av 5), .ref (Aa 1), .ref (Aa 2), .ref (Aa 3), .ref (Aa 4), .ref (Aa 5), .ref (Aa 6), .ref (Aa 7), .ref (Aa 8)])), ((Aa 1), .inl (tc 0, 10, .inl (Af 1))), ((Aa 2), .inl (tc 0, 10, .inl (Af 2))), ((Aa 3), .inl (tc 0, 6, .inl g_79)), ((Aa 4), .inl (tc 0, 6, .inl (Af 4))), ((Aa 5), .inl (tc 0, 6, .inl (Af 5))), ((Aa 6), .inl (tc 0, 6, .inl (Af 6))), ((Aa 7), .inl (tc 0, 6, .inl (Af 7))), ((Aa 8), .inl (tc 0, 6, .inl (Af 8)))] H := hP₀
            replace hD : va_D A [((Aa 0), .inr (9, [.int (Av 0), .int (Av 1), .int (Av 2), .int (Av 3), .int (Av 4), .int (Av 5), .ref (Aa 1), .ref (Aa 2), .ref (Aa 3), .ref (Aa 4), .ref (Aa 5), .ref (Aa 6), .ref (Aa 7), .ref (Aa 8)])), ((Aa 1), .inl (tc 0, 10, .inl (Af 1))), ((Aa 2), .inl (tc 0, 10, .inl (Af 2))), ((Aa 3), .inl (tc 0, 6, .inl g_79)), ((Aa 4), .inl (tc 0, 6, .inl (Af 4))), ((Aa 5), .inl (tc 0, 6, .inl (Af 5))), ((Aa 6), .inl (tc 0, 6, .inl (Af 6))), ((Aa 7), .inl (tc 0, 6, .inl (Af 7))), ((Aa 8), .inl (tc 0, 6, .inl (Af 8)))] := hD₀
            replace hS := hS₀
            clear hP₀ hD₀ hS₀
            obtain ⟨x_80, ex_80⟩ : ∃ y : Int32, y = yy_2300 + 1 := ⟨_, rfl⟩
            refine lv_iinc (v := x_80) (lv' := [(3, .int x_80), (2, .int 1), (0, .ref (Aa 0)), (1, .int x1)]) hx hb dX9_changeTempers_59 hl (k := 0) rfl (by rw [ex_80]; rfl) (by decide) rfl (fun ls hl₀ => ?_)
            replace hl := hl₀
            clear hl₀
            refine lv_goto (tgt := 22) hx hb dX9_changeTempers_62 (by decide) ?_
            have hb_81 : 6 - (x_80 : Int32).toInt < 6 - (yy_2300 : Int32).toInt ∧ 1 ≤ 6 - (yy_2300 : Int32).toInt := by
              have z_1 := Int32.le_iff_toInt_le.mp (Int32.not_lt.mp c_1)
              have z_2 := Int32.lt_iff_toInt_lt.mp (Int32.not_le.mp c_65)
              have z_3 := Int32.lt_iff_toInt_lt.mp (Int32.not_le.mp c_69)
              have y_5 : (5 : Int32).toInt = 5 := by decide
              have y_6 : (6 : Int32).toInt = 6 := by decide
              have y_1 : (1 : Int32).toInt = 1 := by decide
              have t_x_80 : x_80.toInt = (yy_2300 : Int32).toInt + (1 : Int32).toInt := by rw [ex_80]; exact add_toInt (by omega) (by omega)
              omega
            have hm_82 : (6 - (yy_2300 : Int32).toInt).toNat = (6 - (x_80 : Int32).toInt).toNat + 1 := by
              have z_1 := Int32.le_iff_toInt_le.mp (Int32.not_lt.mp c_1)
              have z_2 := Int32.lt_iff_toInt_lt.mp (Int32.not_le.mp c_65)
              have z_3 := Int32.lt_iff_toInt_lt.mp (Int32.not_le.mp c_69)
              have y_5 : (5 : Int32).toInt = 5 := by decide
              have y_6 : (6 : Int32).toInt = 6 := by decide
              have y_1 : (1 : Int32).toInt = 1 := by decide
              have t_x_80 : x_80.toInt = (yy_2300 : Int32).toInt + (1 : Int32).toInt := by rw [ex_80]; exact add_toInt (by omega) (by omega)
              omega
            have hb_83 : dX9_changeTempers_l22 (Av 3) (1 : Int32) ((6 - (yy_2300 : Int32).toInt).toNat + 1) yy_2300 yy_2301 = dX9_changeTempers_l22 (Av 3) (1 : Int32) ((6 - (yy_2300 : Int32).toInt).toNat) x_80 g_79 := by
              clear hP hD hS hl ih_60
              replace ex_74 := ex_74.symm; subst ex_74
              replace ex_75 := ex_75.symm; subst ex_75
              replace ex_76 := ex_76.symm; subst ex_76
              replace ex_77 := ex_77.symm; subst ex_77
              replace eg_79 := eg_79.symm; subst eg_79
              replace ex_80 := ex_80.symm; subst ex_80
              rw [dX9_changeTempers_l22_s]
              rw [if_neg c_65, if_neg c_69]
              try rfl
            have hL_84 : (dX9_changeTempers_l22 (Av 3) (1 : Int32) ((6 - (0 : Int32).toInt).toNat + 1) (0 : Int32) (Af 3)) = dX9_changeTempers_l22 (Av 3) (1 : Int32) ((6 - (x_80 : Int32).toInt).toNat + 1) x_80 g_79 := by
              rw [hL_63, hb_83, hm_82]
            have ha_85 : 0 ≤ (x_80 : Int32).toInt := by
              have z_1 := Int32.le_iff_toInt_le.mp (Int32.not_lt.mp c_1)
              have z_2 := Int32.lt_iff_toInt_lt.mp (Int32.not_le.mp c_65)
              have z_3 := Int32.lt_iff_toInt_lt.mp (Int32.not_le.mp c_69)
              have y_5 : (5 : Int32).toInt = 5 := by decide
              have y_6 : (6 : Int32).toInt = 6 := by decide
              have y_1 : (1 : Int32).toInt = 1 := by decide
              have t_x_80 : x_80.toInt = (yy_2300 : Int32).toInt + (1 : Int32).toInt := by rw [ex_80]; exact add_toInt (by omega) (by omega)
              omega
            exact ih_60 x_80 g_79 _ _ _ (by omega) hL_84 ha_85 (hP.sub [0, 1, 2, 3, 4, 5, 6, 7, 8] rfl) (hD.sub [0, 1, 2, 3, 4, 5, 6, 7, 8] rfl rfl) hS (lv_sub hl [0, 1, 2, 3] rfl)
    have ha_86 : 0 ≤ (0 : Int32).toInt := by
      have z_1 := Int32.le_iff_toInt_le.mp (Int32.not_lt.mp c_1)
      have y_5 : (5 : Int32).toInt = 5 := by decide
      have y_0 : (0 : Int32).toInt = 0 := by decide
      omega
    exact loop_61 _ 0 (Af 3) _ _ _ (Nat.lt_succ_self _) rfl ha_86 hP hD hS hl
set_option maxRecDepth 100000 in
theorem cu_dX9_changeTempers (l : Launch) (D : va_G) (tc : Nat → ClassId) (sk : (Nat → Nat) × (Nat → Nat)) (Aa_0 : Nat) (Aa_1 : Nat) (Aa_2 : Nat) (Aa_3 : Nat) (Aa_4 : Nat) (Aa_5 : Nat) (Aa_6 : Nat) (Aa_7 : Nat) (Aa_8 : Nat) (Av_0 : Int32) (Av_1 : Int32) (Av_2 : Int32) (Av_3 : Int32) (Av_4 : Int32) (Av_5 : Int32) (Af_1 : Nat → Int32) (Af_2 : Nat → Int32) (Af_3 : Nat → Int32) (Af_4 : Nat → Int32) (Af_5 : Nat → Int32) (Af_6 : Nat → Int32) (Af_7 : Nat → Int32) (Af_8 : Nat → Int32) (x1 : Int32)  : Ct l yX9_changeTempers cX9_changeTempers 4 none { frames := 1, cells := 0, slots := 0, locals := 16 } D tc sk [.ref Aa_0, .int x1] [(Aa_0, .inr (9, [.int Av_0, .int Av_1, .int Av_2, .int Av_3, .int Av_4, .int Av_5, .ref Aa_1, .ref Aa_2, .ref Aa_3, .ref Aa_4, .ref Aa_5, .ref Aa_6, .ref Aa_7, .ref Aa_8])), (Aa_1, .inl (tc 0, 10, .inl Af_1)), (Aa_2, .inl (tc 0, 10, .inl Af_2)), (Aa_3, .inl (tc 0, 6, .inl Af_3)), (Aa_4, .inl (tc 0, 6, .inl Af_4)), (Aa_5, .inl (tc 0, 6, .inl Af_5)), (Aa_6, .inl (tc 0, 6, .inl Af_6)), (Aa_7, .inl (tc 0, 6, .inl Af_7)), (Aa_8, .inl (tc 0, 6, .inl Af_8))] (fun (v : Option Value) (oo0x1 : Nat → Int32) => v = none ∧ (DEq (oo0x1) (dX9_changeTempers Af_3 Av_3 x1))) (fun (oo0x1 : Nat → Int32) => [(Aa_0, .inr (9, [.int Av_0, .int Av_1, .int Av_2, .int Av_3, .int Av_4, .int Av_5, .ref Aa_1, .ref Aa_2, .ref Aa_3, .ref Aa_4, .ref Aa_5, .ref Aa_6, .ref Aa_7, .ref Aa_8])), (Aa_1, .inl (tc 0, 10, .inl Af_1)), (Aa_2, .inl (tc 0, 10, .inl Af_2)), (Aa_3, .inl (tc 0, 6, .inl oo0x1)), (Aa_4, .inl (tc 0, 6, .inl Af_4)), (Aa_5, .inl (tc 0, 6, .inl Af_5)), (Aa_6, .inl (tc 0, 6, .inl Af_6)), (Aa_7, .inl (tc 0, 6, .inl Af_7)), (Aa_8, .inl (tc 0, 6, .inl Af_8))]) 0 0 :=
  ct_dX9_changeTempers l D tc sk (fun k => ([Aa_0, Aa_1, Aa_2, Aa_3, Aa_4, Aa_5, Aa_6, Aa_7, Aa_8] : List (Nat)).getD k 0) (fun k => ([Av_0, Av_1, Av_2, Av_3, Av_4, Av_5] : List (Int32)).getD k 0) (fun k => ([(fun _ => 0), Af_1, Af_2, Af_3, Af_4, Af_5, Af_6, Af_7, Af_8] : List (Nat → Int32)).getD k (fun _ => 0)) x1 
def dX9_copyFrom (Af_1 : Nat → Int32) (Af_2 : Nat → Int32) (Af_3 : Nat → Int32) (Af_4 : Nat → Int32) (Af_5 : Nat → Int32) (Af_6 : Nat → Int32) (Af_7 : Nat → Int32) (Af_8 : Nat → Int32) (Bf_1 : Nat → Int32) (Bf_2 : Nat → Int32) (Bf_3 : Nat → Int32) (Bf_4 : Nat → Int32) (Bf_5 : Nat → Int32) (Bf_6 : Nat → Int32) (Bf_7 : Nat → Int32) (Bf_8 : Nat → Int32) : (Nat → Int32) × (Nat → Int32) × (Nat → Int32) × (Nat → Int32) × (Nat → Int32) × (Nat → Int32) × (Nat → Int32) × (Nat → Int32) := ((va_cpy Bf_1 Af_1 ((0 : Int32)).toNatClampNeg ((0 : Int32)).toNatClampNeg ((10 : Int32)).toNatClampNeg), (va_cpy Bf_2 Af_2 ((0 : Int32)).toNatClampNeg ((0 : Int32)).toNatClampNeg ((10 : Int32)).toNatClampNeg), (va_cpy Bf_3 Af_3 ((0 : Int32)).toNatClampNeg ((0 : Int32)).toNatClampNeg ((6 : Int32)).toNatClampNeg), (va_cpy Bf_4 Af_4 ((0 : Int32)).toNatClampNeg ((0 : Int32)).toNatClampNeg ((6 : Int32)).toNatClampNeg), (va_cpy Bf_5 Af_5 ((0 : Int32)).toNatClampNeg ((0 : Int32)).toNatClampNeg ((6 : Int32)).toNatClampNeg), (va_cpy Bf_6 Af_6 ((0 : Int32)).toNatClampNeg ((0 : Int32)).toNatClampNeg ((6 : Int32)).toNatClampNeg), (va_cpy Bf_7 Af_7 ((0 : Int32)).toNatClampNeg ((0 : Int32)).toNatClampNeg ((6 : Int32)).toNatClampNeg), (va_cpy Bf_8 Af_8 ((0 : Int32)).toNatClampNeg ((0 : Int32)).toNatClampNeg ((6 : Int32)).toNatClampNeg))
set_option maxHeartbeats 4000000 in
set_option maxRecDepth 100000 in
theorem ct_dX9_copyFrom (l : Launch) (D : va_G) (tc : Nat → ClassId) (sk : (Nat → Nat) × (Nat → Nat)) (Aa : Nat → Nat) (Av : Nat → Int32) (Af : Nat → Nat → Int32) (Ba : Nat → Nat) (Bv : Nat → Int32) (Bf : Nat → Nat → Int32)  : Ct l yX9_copyFrom cX9_copyFrom 2 none { frames := 1, cells := 0, slots := 0, locals := 40 } D tc sk [.ref (Aa 0), .ref (Ba 0)] [((Aa 0), .inr (9, [.int (Av 0), .int (Av 1), .int (Av 2), .int (Av 3), .int (Av 4), .int (Av 5), .ref (Aa 1), .ref (Aa 2), .ref (Aa 3), .ref (Aa 4), .ref (Aa 5), .ref (Aa 6), .ref (Aa 7), .ref (Aa 8)])), ((Aa 1), .inl (tc 0, 10, .inl (Af 1))), ((Aa 2), .inl (tc 0, 10, .inl (Af 2))), ((Aa 3), .inl (tc 0, 6, .inl (Af 3))), ((Aa 4), .inl (tc 0, 6, .inl (Af 4))), ((Aa 5), .inl (tc 0, 6, .inl (Af 5))), ((Aa 6), .inl (tc 0, 6, .inl (Af 6))), ((Aa 7), .inl (tc 0, 6, .inl (Af 7))), ((Aa 8), .inl (tc 0, 6, .inl (Af 8))), ((Ba 0), .inr (9, [.int (Bv 0), .int (Bv 1), .int (Bv 2), .int (Bv 3), .int (Bv 4), .int (Bv 5), .ref (Ba 1), .ref (Ba 2), .ref (Ba 3), .ref (Ba 4), .ref (Ba 5), .ref (Ba 6), .ref (Ba 7), .ref (Ba 8)])), ((Ba 1), .inl (tc 0, 10, .inl (Bf 1))), ((Ba 2), .inl (tc 0, 10, .inl (Bf 2))), ((Ba 3), .inl (tc 0, 6, .inl (Bf 3))), ((Ba 4), .inl (tc 0, 6, .inl (Bf 4))), ((Ba 5), .inl (tc 0, 6, .inl (Bf 5))), ((Ba 6), .inl (tc 0, 6, .inl (Bf 6))), ((Ba 7), .inl (tc 0, 6, .inl (Bf 7))), ((Ba 8), .inl (tc 0, 6, .inl (Bf 8)))] (fun (v : Option Value) (u : (Nat → Int32) × (Nat → Int32) × (Nat → Int32) × (Nat → Int32) × (Nat → Int32) × (Nat → Int32) × (Nat → Int32) × (Nat → Int32)) => match u with | (oo0x1, oo0x2, oo0x3, oo0x4, oo0x5, oo0x6, oo0x7, oo0x8) => v = none ∧ (DEq ((oo0x1, oo0x2, oo0x3, oo0x4, oo0x5, oo0x6, oo0x7, oo0x8)) (dX9_copyFrom (Af 1) (Af 2) (Af 3) (Af 4) (Af 5) (Af 6) (Af 7) (Af 8) (Bf 1) (Bf 2) (Bf 3) (Bf 4) (Bf 5) (Bf 6) (Bf 7) (Bf 8)))) (fun (u : (Nat → Int32) × (Nat → Int32) × (Nat → Int32) × (Nat → Int32) × (Nat → Int32) × (Nat → Int32) × (Nat → Int32) × (Nat → Int32)) => match u with | (oo0x1, oo0x2, oo0x3, oo0x4, oo0x5, oo0x6, oo0x7, oo0x8) => [((Aa 0), .inr (9, [.int (Bv 0), .int (Bv 1), .int (Bv 2), .int (Bv 3), .int (Bv 4), .int (Bv 5), .ref (Aa 1), .ref (Aa 2), .ref (Aa 3), .ref (Aa 4), .ref (Aa 5), .ref (Aa 6), .ref (Aa 7), .ref (Aa 8)])), ((Aa 1), .inl (tc 0, 10, .inl oo0x1)), ((Aa 2), .inl (tc 0, 10, .inl oo0x2)), ((Aa 3), .inl (tc 0, 6, .inl oo0x3)), ((Aa 4), .inl (tc 0, 6, .inl oo0x4)), ((Aa 5), .inl (tc 0, 6, .inl oo0x5)), ((Aa 6), .inl (tc 0, 6, .inl oo0x6)), ((Aa 7), .inl (tc 0, 6, .inl oo0x7)), ((Aa 8), .inl (tc 0, 6, .inl oo0x8)), ((Ba 0), .inr (9, [.int (Bv 0), .int (Bv 1), .int (Bv 2), .int (Bv 3), .int (Bv 4), .int (Bv 5), .ref (Ba 1), .ref (Ba 2), .ref (Ba 3), .ref (Ba 4), .ref (Ba 5), .ref (Ba 6), .ref (Ba 7), .ref (Ba 8)])), ((Ba 1), .inl (tc 0, 10, .inl (Bf 1))), ((Ba 2), .inl (tc 0, 10, .inl (Bf 2))), ((Ba 3), .inl (tc 0, 6, .inl (Bf 3))), ((Ba 4), .inl (tc 0, 6, .inl (Bf 4))), ((Ba 5), .inl (tc 0, 6, .inl (Bf 5))), ((Ba 6), .inl (tc 0, 6, .inl (Bf 6))), ((Ba 7), .inl (tc 0, 6, .inl (Bf 7))), ((Ba 8), .inl (tc 0, 6, .inl (Bf 8)))]) 0 0 := by
  refine Ct.start (by decide) (Nat.le_of_ble_eq_true rfl) (fun p e s m below meth c A ls hx hb hr hlk hin hml hown hts hK hX hP hD hA hl hS => ?_)
  have hl : lv_has ls 2 [(0, .ref (Aa 0)), (1, .ref (Ba 0))] := hl
  refine lv_aload_n hx hb dX9_copyFrom_0 rfl (lv_at hl 0 rfl) ?_
  refine lv_aload_n hx hb dX9_copyFrom_1 rfl (lv_at hl 1 rfl) ?_
  refine gf_X9_9 hx hb hts hown hK hP 9 rfl rfl dX9_copyFrom_2 ?_
  refine pf_X9_9 hx hb hts hown hK hP hD hS 0 rfl (Nat.le_of_ble_eq_true rfl) rfl rfl dX9_copyFrom_5 (fun H locs hP₀ hD₀ hS₀ => ?_)
  replace hP : va_P D classes [((Aa 0), .inr (9, [.int (Bv 0), .int (Av 1), .int (Av 2), .int (Av 3), .int (Av 4), .int (Av 5), .ref (Aa 1), .ref (Aa 2), .ref (Aa 3), .ref (Aa 4), .ref (Aa 5), .ref (Aa 6), .ref (Aa 7), .ref (Aa 8)])), ((Aa 1), .inl (tc 0, 10, .inl (Af 1))), ((Aa 2), .inl (tc 0, 10, .inl (Af 2))), ((Aa 3), .inl (tc 0, 6, .inl (Af 3))), ((Aa 4), .inl (tc 0, 6, .inl (Af 4))), ((Aa 5), .inl (tc 0, 6, .inl (Af 5))), ((Aa 6), .inl (tc 0, 6, .inl (Af 6))), ((Aa 7), .inl (tc 0, 6, .inl (Af 7))), ((Aa 8), .inl (tc 0, 6, .inl (Af 8))), ((Ba 0), .inr (9, [.int (Bv 0), .int (Bv 1), .int (Bv 2), .int (Bv 3), .int (Bv 4), .int (Bv 5), .ref (Ba 1), .ref (Ba 2), .ref (Ba 3), .ref (Ba 4), .ref (Ba 5), .ref (Ba 6), .ref (Ba 7), .ref (Ba 8)])), ((Ba 1), .inl (tc 0, 10, .inl (Bf 1))), ((Ba 2), .inl (tc 0, 10, .inl (Bf 2))), ((Ba 3), .inl (tc 0, 6, .inl (Bf 3))), ((Ba 4), .inl (tc 0, 6, .inl (Bf 4))), ((Ba 5), .inl (tc 0, 6, .inl (Bf 5))), ((Ba 6), .inl (tc 0, 6, .inl (Bf 6))), ((Ba 7), .inl (tc 0, 6, .inl (Bf 7))), ((Ba 8), .inl (tc 0, 6, .inl (Bf 8)))] H := hP₀
  replace hD : va_D A [((Aa 0), .inr (9, [.int (Bv 0), .int (Av 1), .int (Av 2), .int (Av 3), .int (Av 4), .int (Av 5), .ref (Aa 1), .ref (Aa 2), .ref (Aa 3), .ref (Aa 4), .ref (Aa 5), .ref (Aa 6), .ref (Aa 7), .ref (Aa 8)])), ((Aa 1), .inl (tc 0, 10, .inl (Af 1))), ((Aa 2), .inl (tc 0, 10, .inl (Af 2))), ((Aa 3), .inl (tc 0, 6, .inl (Af 3))), ((Aa 4), .inl (tc 0, 6, .inl (Af 4))), ((Aa 5), .inl (tc 0, 6, .inl (Af 5))), ((Aa 6), .inl (tc 0, 6, .inl (Af 6))), ((Aa 7), .inl (tc 0, 6, .inl (Af 7))), ((Aa 8), .inl (tc 0, 6, .inl (Af 8))), ((Ba 0), .inr (9, [.int (Bv 0), .int (Bv 1), .int (Bv 2), .int (Bv 3), .int (Bv 4), .int (Bv 5), .ref (Ba 1), .ref (Ba 2), .ref (Ba 3), .ref (Ba 4), .ref (Ba 5), .ref (Ba 6), .ref (Ba 7), .ref (Ba 8)])), ((Ba 1), .inl (tc 0, 10, .inl (Bf 1))), ((Ba 2), .inl (tc 0, 10, .inl (Bf 2))), ((Ba 3), .inl (tc 0, 6, .inl (Bf 3))), ((Ba 4), .inl (tc 0, 6, .inl (Bf 4))), ((Ba 5), .inl (tc 0, 6, .inl (Bf 5))), ((Ba 6), .inl (tc 0, 6, .inl (Bf 6))), ((Ba 7), .inl (tc 0, 6, .inl (Bf 7))), ((Ba 8), .inl (tc 0, 6, .inl (Bf 8)))] := hD₀
  replace hS := hS₀
  clear hP₀ hD₀ hS₀
  refine lv_aload_n hx hb dX9_copyFrom_8 rfl (lv_at hl 0 rfl) ?_
  refine lv_aload_n hx hb dX9_copyFrom_9 rfl (lv_at hl 1 rfl) ?_
  refine gf_X9_15 hx hb hts hown hK hP 9 rfl rfl dX9_copyFrom_10 ?_
  refine pf_X9_15 hx hb hts hown hK hP hD hS 0 rfl (Nat.le_of_ble_eq_true rfl) rfl rfl dX9_copyFrom_13 (fun H locs hP₀ hD₀ hS₀ => ?_)
  replace hP : va_P D classes [((Aa 0), .inr (9, [.int (Bv 0), .int (Bv 1), .int (Av 2), .int (Av 3), .int (Av 4), .int (Av 5), .ref (Aa 1), .ref (Aa 2), .ref (Aa 3), .ref (Aa 4), .ref (Aa 5), .ref (Aa 6), .ref (Aa 7), .ref (Aa 8)])), ((Aa 1), .inl (tc 0, 10, .inl (Af 1))), ((Aa 2), .inl (tc 0, 10, .inl (Af 2))), ((Aa 3), .inl (tc 0, 6, .inl (Af 3))), ((Aa 4), .inl (tc 0, 6, .inl (Af 4))), ((Aa 5), .inl (tc 0, 6, .inl (Af 5))), ((Aa 6), .inl (tc 0, 6, .inl (Af 6))), ((Aa 7), .inl (tc 0, 6, .inl (Af 7))), ((Aa 8), .inl (tc 0, 6, .inl (Af 8))), ((Ba 0), .inr (9, [.int (Bv 0), .int (Bv 1), .int (Bv 2), .int (Bv 3), .int (Bv 4), .int (Bv 5), .ref (Ba 1), .ref (Ba 2), .ref (Ba 3), .ref (Ba 4), .ref (Ba 5), .ref (Ba 6), .ref (Ba 7), .ref (Ba 8)])), ((Ba 1), .inl (tc 0, 10, .inl (Bf 1))), ((Ba 2), .inl (tc 0, 10, .inl (Bf 2))), ((Ba 3), .inl (tc 0, 6, .inl (Bf 3))), ((Ba 4), .inl (tc 0, 6, .inl (Bf 4))), ((Ba 5), .inl (tc 0, 6, .inl (Bf 5))), ((Ba 6), .inl (tc 0, 6, .inl (Bf 6))), ((Ba 7), .inl (tc 0, 6, .inl (Bf 7))), ((Ba 8), .inl (tc 0, 6, .inl (Bf 8)))] H := hP₀
  replace hD : va_D A [((Aa 0), .inr (9, [.int (Bv 0), .int (Bv 1), .int (Av 2), .int (Av 3), .int (Av 4), .int (Av 5), .ref (Aa 1), .ref (Aa 2), .ref (Aa 3), .ref (Aa 4), .ref (Aa 5), .ref (Aa 6), .ref (Aa 7), .ref (Aa 8)])), ((Aa 1), .inl (tc 0, 10, .inl (Af 1))), ((Aa 2), .inl (tc 0, 10, .inl (Af 2))), ((Aa 3), .inl (tc 0, 6, .inl (Af 3))), ((Aa 4), .inl (tc 0, 6, .inl (Af 4))), ((Aa 5), .inl (tc 0, 6, .inl (Af 5))), ((Aa 6), .inl (tc 0, 6, .inl (Af 6))), ((Aa 7), .inl (tc 0, 6, .inl (Af 7))), ((Aa 8), .inl (tc 0, 6, .inl (Af 8))), ((Ba 0), .inr (9, [.int (Bv 0), .int (Bv 1), .int (Bv 2), .int (Bv 3), .int (Bv 4), .int (Bv 5), .ref (Ba 1), .ref (Ba 2), .ref (Ba 3), .ref (Ba 4), .ref (Ba 5), .ref (Ba 6), .ref (Ba 7), .ref (Ba 8)])), ((Ba 1), .inl (tc 0, 10, .inl (Bf 1))), ((Ba 2), .inl (tc 0, 10, .inl (Bf 2))), ((Ba 3), .inl (tc 0, 6, .inl (Bf 3))), ((Ba 4), .inl (tc 0, 6, .inl (Bf 4))), ((Ba 5), .inl (tc 0, 6, .inl (Bf 5))), ((Ba 6), .inl (tc 0, 6, .inl (Bf 6))), ((Ba 7), .inl (tc 0, 6, .inl (Bf 7))), ((Ba 8), .inl (tc 0, 6, .inl (Bf 8)))] := hD₀
  replace hS := hS₀
  clear hP₀ hD₀ hS₀
  refine lv_aload_n hx hb dX9_copyFrom_16 rfl (lv_at hl 0 rfl) ?_
  refine lv_aload_n hx hb dX9_copyFrom_17 rfl (lv_at hl 1 rfl) ?_
  refine gf_X9_18 hx hb hts hown hK hP 9 rfl rfl dX9_copyFrom_18 ?_
  refine pf_X9_18 hx hb hts hown hK hP hD hS 0 rfl (Nat.le_of_ble_eq_true rfl) rfl rfl dX9_copyFrom_21 (fun H locs hP₀ hD₀ hS₀ => ?_)
  replace hP : va_P D classes [((Aa 0), .inr (9, [.int (Bv 0), .int (Bv 1), .int (Bv 2), .int (Av 3), .int (Av 4), .int (Av 5), .ref (Aa 1), .ref (Aa 2), .ref (Aa 3), .ref (Aa 4), .ref (Aa 5), .ref (Aa 6), .ref (Aa 7), .ref (Aa 8)])), ((Aa 1), .inl (tc 0, 10, .inl (Af 1))), ((Aa 2), .inl (tc 0, 10, .inl (Af 2))), ((Aa 3), .inl (tc 0, 6, .inl (Af 3))), ((Aa 4), .inl (tc 0, 6, .inl (Af 4))), ((Aa 5), .inl (tc 0, 6, .inl (Af 5))), ((Aa 6), .inl (tc 0, 6, .inl (Af 6))), ((Aa 7), .inl (tc 0, 6, .inl (Af 7))), ((Aa 8), .inl (tc 0, 6, .inl (Af 8))), ((Ba 0), .inr (9, [.int (Bv 0), .int (Bv 1), .int (Bv 2), .int (Bv 3), .int (Bv 4), .int (Bv 5), .ref (Ba 1), .ref (Ba 2), .ref (Ba 3), .ref (Ba 4), .ref (Ba 5), .ref (Ba 6), .ref (Ba 7), .ref (Ba 8)])), ((Ba 1), .inl (tc 0, 10, .inl (Bf 1))), ((Ba 2), .inl (tc 0, 10, .inl (Bf 2))), ((Ba 3), .inl (tc 0, 6, .inl (Bf 3))), ((Ba 4), .inl (tc 0, 6, .inl (Bf 4))), ((Ba 5), .inl (tc 0, 6, .inl (Bf 5))), ((Ba 6), .inl (tc 0, 6, .inl (Bf 6))), ((Ba 7), .inl (tc 0, 6, .inl (Bf 7))), ((Ba 8), .inl (tc 0, 6, .inl (Bf 8)))] H := hP₀
  replace hD : va_D A [((Aa 0), .inr (9, [.int (Bv 0), .int (Bv 1), .int (Bv 2), .int (Av 3), .int (Av 4), .int (Av 5), .ref (Aa 1), .ref (Aa 2), .ref (Aa 3), .ref (Aa 4), .ref (Aa 5), .ref (Aa 6), .ref (Aa 7), .ref (Aa 8)])), ((Aa 1), .inl (tc 0, 10, .inl (Af 1))), ((Aa 2), .inl (tc 0, 10, .inl (Af 2))), ((Aa 3), .inl (tc 0, 6, .inl (Af 3))), ((Aa 4), .inl (tc 0, 6, .inl (Af 4))), ((Aa 5), .inl (tc 0, 6, .inl (Af 5))), ((Aa 6), .inl (tc 0, 6, .inl (Af 6))), ((Aa 7), .inl (tc 0, 6, .inl (Af 7))), ((Aa 8), .inl (tc 0, 6, .inl (Af 8))), ((Ba 0), .inr (9, [.int (Bv 0), .int (Bv 1), .int (Bv 2), .int (Bv 3), .int (Bv 4), .int (Bv 5), .ref (Ba 1), .ref (Ba 2), .ref (Ba 3), .ref (Ba 4), .ref (Ba 5), .ref (Ba 6), .ref (Ba 7), .ref (Ba 8)])), ((Ba 1), .inl (tc 0, 10, .inl (Bf 1))), ((Ba 2), .inl (tc 0, 10, .inl (Bf 2))), ((Ba 3), .inl (tc 0, 6, .inl (Bf 3))), ((Ba 4), .inl (tc 0, 6, .inl (Bf 4))), ((Ba 5), .inl (tc 0, 6, .inl (Bf 5))), ((Ba 6), .inl (tc 0, 6, .inl (Bf 6))), ((Ba 7), .inl (tc 0, 6, .inl (Bf 7))), ((Ba 8), .inl (tc 0, 6, .inl (Bf 8)))] := hD₀
  replace hS := hS₀
  clear hP₀ hD₀ hS₀
  refine lv_aload_n hx hb dX9_copyFrom_24 rfl (lv_at hl 0 rfl) ?_
  refine lv_aload_n hx hb dX9_copyFrom_25 rfl (lv_at hl 1 rfl) ?_
  refine gf_X9_21 hx hb hts hown hK hP 9 rfl rfl dX9_copyFrom_26 ?_
  refine pf_X9_21 hx hb hts hown hK hP hD hS 0 rfl (Nat.le_of_ble_eq_true rfl) rfl rfl dX9_copyFrom_29 (fun H locs hP₀ hD₀ hS₀ => ?_)
  replace hP : va_P D classes [((Aa 0), .inr (9, [.int (Bv 0), .int (Bv 1), .int (Bv 2), .int (Bv 3), .int (Av 4), .int (Av 5), .ref (Aa 1), .ref (Aa 2), .ref (Aa 3), .ref (Aa 4), .ref (Aa 5), .ref (Aa 6), .ref (Aa 7), .ref (Aa 8)])), ((Aa 1), .inl (tc 0, 10, .inl (Af 1))), ((Aa 2), .inl (tc 0, 10, .inl (Af 2))), ((Aa 3), .inl (tc 0, 6, .inl (Af 3))), ((Aa 4), .inl (tc 0, 6, .inl (Af 4))), ((Aa 5), .inl (tc 0, 6, .inl (Af 5))), ((Aa 6), .inl (tc 0, 6, .inl (Af 6))), ((Aa 7), .inl (tc 0, 6, .inl (Af 7))), ((Aa 8), .inl (tc 0, 6, .inl (Af 8))), ((Ba 0), .inr (9, [.int (Bv 0), .int (Bv 1), .int (Bv 2), .int (Bv 3), .int (Bv 4), .int (Bv 5), .ref (Ba 1), .ref (Ba 2), .ref (Ba 3), .ref (Ba 4), .ref (Ba 5), .ref (Ba 6), .ref (Ba 7), .ref (Ba 8)])), ((Ba 1), .inl (tc 0, 10, .inl (Bf 1))), ((Ba 2), .inl (tc 0, 10, .inl (Bf 2))), ((Ba 3), .inl (tc 0, 6, .inl (Bf 3))), ((Ba 4), .inl (tc 0, 6, .inl (Bf 4))), ((Ba 5), .inl (tc 0, 6, .inl (Bf 5))), ((Ba 6), .inl (tc 0, 6, .inl (Bf 6))), ((Ba 7), .inl (tc 0, 6, .inl (Bf 7))), ((Ba 8), .inl (tc 0, 6, .inl (Bf 8)))] H := hP₀
  replace hD : va_D A [((Aa 0), .inr (9, [.int (Bv 0), .int (Bv 1), .int (Bv 2), .int (Bv 3), .int (Av 4), .int (Av 5), .ref (Aa 1), .ref (Aa 2), .ref (Aa 3), .ref (Aa 4), .ref (Aa 5), .ref (Aa 6), .ref (Aa 7), .ref (Aa 8)])), ((Aa 1), .inl (tc 0, 10, .inl (Af 1))), ((Aa 2), .inl (tc 0, 10, .inl (Af 2))), ((Aa 3), .inl (tc 0, 6, .inl (Af 3))), ((Aa 4), .inl (tc 0, 6, .inl (Af 4))), ((Aa 5), .inl (tc 0, 6, .inl (Af 5))), ((Aa 6), .inl (tc 0, 6, .inl (Af 6))), ((Aa 7), .inl (tc 0, 6, .inl (Af 7))), ((Aa 8), .inl (tc 0, 6, .inl (Af 8))), ((Ba 0), .inr (9, [.int (Bv 0), .int (Bv 1), .int (Bv 2), .int (Bv 3), .int (Bv 4), .int (Bv 5), .ref (Ba 1), .ref (Ba 2), .ref (Ba 3), .ref (Ba 4), .ref (Ba 5), .ref (Ba 6), .ref (Ba 7), .ref (Ba 8)])), ((Ba 1), .inl (tc 0, 10, .inl (Bf 1))), ((Ba 2), .inl (tc 0, 10, .inl (Bf 2))), ((Ba 3), .inl (tc 0, 6, .inl (Bf 3))), ((Ba 4), .inl (tc 0, 6, .inl (Bf 4))), ((Ba 5), .inl (tc 0, 6, .inl (Bf 5))), ((Ba 6), .inl (tc 0, 6, .inl (Bf 6))), ((Ba 7), .inl (tc 0, 6, .inl (Bf 7))), ((Ba 8), .inl (tc 0, 6, .inl (Bf 8)))] := hD₀
  replace hS := hS₀
  clear hP₀ hD₀ hS₀
  refine lv_aload_n hx hb dX9_copyFrom_32 rfl (lv_at hl 0 rfl) ?_
  refine lv_aload_n hx hb dX9_copyFrom_33 rfl (lv_at hl 1 rfl) ?_
  refine gf_X9_24 hx hb hts hown hK hP 9 rfl rfl dX9_copyFrom_34 ?_
  refine pf_X9_24 hx hb hts hown hK hP hD hS 0 rfl (Nat.le_of_ble_eq_true rfl) rfl rfl dX9_copyFrom_37 (fun H locs hP₀ hD₀ hS₀ => ?_)
  replace hP : va_P D classes [((Aa 0), .inr (9, [.int (Bv 0), .int (Bv 1), .int (Bv 2), .int (Bv 3), .int (Bv 4), .int (Av 5), .ref (Aa 1), .ref (Aa 2), .ref (Aa 3), .ref (Aa 4), .ref (Aa 5), .ref (Aa 6), .ref (Aa 7), .ref (Aa 8)])), ((Aa 1), .inl (tc 0, 10, .inl (Af 1))), ((Aa 2), .inl (tc 0, 10, .inl (Af 2))), ((Aa 3), .inl (tc 0, 6, .inl (Af 3))), ((Aa 4), .inl (tc 0, 6, .inl (Af 4))), ((Aa 5), .inl (tc 0, 6, .inl (Af 5))), ((Aa 6), .inl (tc 0, 6, .inl (Af 6))), ((Aa 7), .inl (tc 0, 6, .inl (Af 7))), ((Aa 8), .inl (tc 0, 6, .inl (Af 8))), ((Ba 0), .inr (9, [.int (Bv 0), .int (Bv 1), .int (Bv 2), .int (Bv 3), .int (Bv 4), .int (Bv 5), .ref (Ba 1), .ref (Ba 2), .ref (Ba 3), .ref (Ba 4), .ref (Ba 5), .ref (Ba 6), .ref (Ba 7), .ref (Ba 8)])), ((Ba 1), .inl (tc 0, 10, .inl (Bf 1))), ((Ba 2), .inl (tc 0, 10, .inl (Bf 2))), ((Ba 3), .inl (tc 0, 6, .inl (Bf 3))), ((Ba 4), .inl (tc 0, 6, .inl (Bf 4))), ((Ba 5), .inl (tc 0, 6, .inl (Bf 5))), ((Ba 6), .inl (tc 0, 6, .inl (Bf 6))), ((Ba 7), .inl (tc 0, 6, .inl (Bf 7))), ((Ba 8), .inl (tc 0, 6, .inl (Bf 8)))] H := hP₀
  replace hD : va_D A [((Aa 0), .inr (9, [.int (Bv 0), .int (Bv 1), .int (Bv 2), .int (Bv 3), .int (Bv 4), .int (Av 5), .ref (Aa 1), .ref (Aa 2), .ref (Aa 3), .ref (Aa 4), .ref (Aa 5), .ref (Aa 6), .ref (Aa 7), .ref (Aa 8)])), ((Aa 1), .inl (tc 0, 10, .inl (Af 1))), ((Aa 2), .inl (tc 0, 10, .inl (Af 2))), ((Aa 3), .inl (tc 0, 6, .inl (Af 3))), ((Aa 4), .inl (tc 0, 6, .inl (Af 4))), ((Aa 5), .inl (tc 0, 6, .inl (Af 5))), ((Aa 6), .inl (tc 0, 6, .inl (Af 6))), ((Aa 7), .inl (tc 0, 6, .inl (Af 7))), ((Aa 8), .inl (tc 0, 6, .inl (Af 8))), ((Ba 0), .inr (9, [.int (Bv 0), .int (Bv 1), .int (Bv 2), .int (Bv 3), .int (Bv 4), .int (Bv 5), .ref (Ba 1), .ref (Ba 2), .ref (Ba 3), .ref (Ba 4), .ref (Ba 5), .ref (Ba 6), .ref (Ba 7), .ref (Ba 8)])), ((Ba 1), .inl (tc 0, 10, .inl (Bf 1))), ((Ba 2), .inl (tc 0, 10, .inl (Bf 2))), ((Ba 3), .inl (tc 0, 6, .inl (Bf 3))), ((Ba 4), .inl (tc 0, 6, .inl (Bf 4))), ((Ba 5), .inl (tc 0, 6, .inl (Bf 5))), ((Ba 6), .inl (tc 0, 6, .inl (Bf 6))), ((Ba 7), .inl (tc 0, 6, .inl (Bf 7))), ((Ba 8), .inl (tc 0, 6, .inl (Bf 8)))] := hD₀
  replace hS := hS₀
  clear hP₀ hD₀ hS₀
  refine lv_aload_n hx hb dX9_copyFrom_40 rfl (lv_at hl 0 rfl) ?_
  refine lv_aload_n hx hb dX9_copyFrom_41 rfl (lv_at hl 1 rfl) ?_
  refine gf_X9_27 hx hb hts hown hK hP 9 rfl rfl dX9_copyFrom_42 ?_
  refine pf_X9_27 hx hb hts hown hK hP hD hS 0 rfl (Nat.le_of_ble_eq_true rfl) rfl rfl dX9_copyFrom_45 (fun H locs hP₀ hD₀ hS₀ => ?_)
  replace hP : va_P D classes [((Aa 0), .inr (9, [.int (Bv 0), .int (Bv 1), .int (Bv 2), .int (Bv 3), .int (Bv 4), .int (Bv 5), .ref (Aa 1), .ref (Aa 2), .ref (Aa 3), .ref (Aa 4), .ref (Aa 5), .ref (Aa 6), .ref (Aa 7), .ref (Aa 8)])), ((Aa 1), .inl (tc 0, 10, .inl (Af 1))), ((Aa 2), .inl (tc 0, 10, .inl (Af 2))), ((Aa 3), .inl (tc 0, 6, .inl (Af 3))), ((Aa 4), .inl (tc 0, 6, .inl (Af 4))), ((Aa 5), .inl (tc 0, 6, .inl (Af 5))), ((Aa 6), .inl (tc 0, 6, .inl (Af 6))), ((Aa 7), .inl (tc 0, 6, .inl (Af 7))), ((Aa 8), .inl (tc 0, 6, .inl (Af 8))), ((Ba 0), .inr (9, [.int (Bv 0), .int (Bv 1), .int (Bv 2), .int (Bv 3), .int (Bv 4), .int (Bv 5), .ref (Ba 1), .ref (Ba 2), .ref (Ba 3), .ref (Ba 4), .ref (Ba 5), .ref (Ba 6), .ref (Ba 7), .ref (Ba 8)])), ((Ba 1), .inl (tc 0, 10, .inl (Bf 1))), ((Ba 2), .inl (tc 0, 10, .inl (Bf 2))), ((Ba 3), .inl (tc 0, 6, .inl (Bf 3))), ((Ba 4), .inl (tc 0, 6, .inl (Bf 4))), ((Ba 5), .inl (tc 0, 6, .inl (Bf 5))), ((Ba 6), .inl (tc 0, 6, .inl (Bf 6))), ((Ba 7), .inl (tc 0, 6, .inl (Bf 7))), ((Ba 8), .inl (tc 0, 6, .inl (Bf 8)))] H := hP₀
  replace hD : va_D A [((Aa 0), .inr (9, [.int (Bv 0), .int (Bv 1), .int (Bv 2), .int (Bv 3), .int (Bv 4), .int (Bv 5), .ref (Aa 1), .ref (Aa 2), .ref (Aa 3), .ref (Aa 4), .ref (Aa 5), .ref (Aa 6), .ref (Aa 7), .ref (Aa 8)])), ((Aa 1), .inl (tc 0, 10, .inl (Af 1))), ((Aa 2), .inl (tc 0, 10, .inl (Af 2))), ((Aa 3), .inl (tc 0, 6, .inl (Af 3))), ((Aa 4), .inl (tc 0, 6, .inl (Af 4))), ((Aa 5), .inl (tc 0, 6, .inl (Af 5))), ((Aa 6), .inl (tc 0, 6, .inl (Af 6))), ((Aa 7), .inl (tc 0, 6, .inl (Af 7))), ((Aa 8), .inl (tc 0, 6, .inl (Af 8))), ((Ba 0), .inr (9, [.int (Bv 0), .int (Bv 1), .int (Bv 2), .int (Bv 3), .int (Bv 4), .int (Bv 5), .ref (Ba 1), .ref (Ba 2), .ref (Ba 3), .ref (Ba 4), .ref (Ba 5), .ref (Ba 6), .ref (Ba 7), .ref (Ba 8)])), ((Ba 1), .inl (tc 0, 10, .inl (Bf 1))), ((Ba 2), .inl (tc 0, 10, .inl (Bf 2))), ((Ba 3), .inl (tc 0, 6, .inl (Bf 3))), ((Ba 4), .inl (tc 0, 6, .inl (Bf 4))), ((Ba 5), .inl (tc 0, 6, .inl (Bf 5))), ((Ba 6), .inl (tc 0, 6, .inl (Bf 6))), ((Ba 7), .inl (tc 0, 6, .inl (Bf 7))), ((Ba 8), .inl (tc 0, 6, .inl (Bf 8)))] := hD₀
  replace hS := hS₀
  clear hP₀ hD₀ hS₀
  refine lv_aload_n hx hb dX9_copyFrom_48 rfl (lv_at hl 1 rfl) ?_
  refine gf_X9_30 hx hb hts hown hK hP 9 rfl rfl dX9_copyFrom_49 ?_
  refine lv_iconst (v := 0) hx hb dX9_copyFrom_52 (by decide) ?_
  refine lv_aload_n hx hb dX9_copyFrom_53 rfl (lv_at hl 0 rfl) ?_
  refine gf_X9_30 hx hb hts hown hK hP 0 rfl rfl dX9_copyFrom_54 ?_
  refine lv_iconst (v := 0) hx hb dX9_copyFrom_57 (by decide) ?_
  refine lv_bipush (v := 10) hx hb dX9_copyFrom_58 (by decide) ?_
  refine cp_int hx hb (hml.trans hl.1.symm) hown (hts _ k_600) (hts _ k_602) (hts _ k_601) (hts _ k_111) hK hP hD hS 10 1 0 0 rfl rfl rfl rfl (by decide) (by decide) (by decide) (by decide) (by decide) (Nat.le_of_ble_eq_true rfl) (Nat.le_of_ble_eq_true rfl) dX9_copyFrom_60 (fun g_1 H locs eg_1 hP₀ hD₀ hS₀ => ?_)
  replace hP : va_P D classes [((Aa 0), .inr (9, [.int (Bv 0), .int (Bv 1), .int (Bv 2), .int (Bv 3), .int (Bv 4), .int (Bv 5), .ref (Aa 1), .ref (Aa 2), .ref (Aa 3), .ref (Aa 4), .ref (Aa 5), .ref (Aa 6), .ref (Aa 7), .ref (Aa 8)])), ((Aa 1), .inl (tc 0, 10, .inl g_1)), ((Aa 2), .inl (tc 0, 10, .inl (Af 2))), ((Aa 3), .inl (tc 0, 6, .inl (Af 3))), ((Aa 4), .inl (tc 0, 6, .inl (Af 4))), ((Aa 5), .inl (tc 0, 6, .inl (Af 5))), ((Aa 6), .inl (tc 0, 6, .inl (Af 6))), ((Aa 7), .inl (tc 0, 6, .inl (Af 7))), ((Aa 8), .inl (tc 0, 6, .inl (Af 8))), ((Ba 0), .inr (9, [.int (Bv 0), .int (Bv 1), .int (Bv 2), .int (Bv 3), .int (Bv 4), .int (Bv 5), .ref (Ba 1), .ref (Ba 2), .ref (Ba 3), .ref (Ba 4), .ref (Ba 5), .ref (Ba 6), .ref (Ba 7), .ref (Ba 8)])), ((Ba 1), .inl (tc 0, 10, .inl (Bf 1))), ((Ba 2), .inl (tc 0, 10, .inl (Bf 2))), ((Ba 3), .inl (tc 0, 6, .inl (Bf 3))), ((Ba 4), .inl (tc 0, 6, .inl (Bf 4))), ((Ba 5), .inl (tc 0, 6, .inl (Bf 5))), ((Ba 6), .inl (tc 0, 6, .inl (Bf 6))), ((Ba 7), .inl (tc 0, 6, .inl (Bf 7))), ((Ba 8), .inl (tc 0, 6, .inl (Bf 8)))] H := hP₀
  replace hD : va_D A [((Aa 0), .inr (9, [.int (Bv 0), .int (Bv 1), .int (Bv 2), .int (Bv 3), .int (Bv 4), .int (Bv 5), .ref (Aa 1), .ref (Aa 2), .ref (Aa 3), .ref (Aa 4), .ref (Aa 5), .ref (Aa 6), .ref (Aa 7), .ref (Aa 8)])), ((Aa 1), .inl (tc 0, 10, .inl g_1)), ((Aa 2), .inl (tc 0, 10, .inl (Af 2))), ((Aa 3), .inl (tc 0, 6, .inl (Af 3))), ((Aa 4), .inl (tc 0, 6, .inl (Af 4))), ((Aa 5), .inl (tc 0, 6, .inl (Af 5))), ((Aa 6), .inl (tc 0, 6, .inl (Af 6))), ((Aa 7), .inl (tc 0, 6, .inl (Af 7))), ((Aa 8), .inl (tc 0, 6, .inl (Af 8))), ((Ba 0), .inr (9, [.int (Bv 0), .int (Bv 1), .int (Bv 2), .int (Bv 3), .int (Bv 4), .int (Bv 5), .ref (Ba 1), .ref (Ba 2), .ref (Ba 3), .ref (Ba 4), .ref (Ba 5), .ref (Ba 6), .ref (Ba 7), .ref (Ba 8)])), ((Ba 1), .inl (tc 0, 10, .inl (Bf 1))), ((Ba 2), .inl (tc 0, 10, .inl (Bf 2))), ((Ba 3), .inl (tc 0, 6, .inl (Bf 3))), ((Ba 4), .inl (tc 0, 6, .inl (Bf 4))), ((Ba 5), .inl (tc 0, 6, .inl (Bf 5))), ((Ba 6), .inl (tc 0, 6, .inl (Bf 6))), ((Ba 7), .inl (tc 0, 6, .inl (Bf 7))), ((Ba 8), .inl (tc 0, 6, .inl (Bf 8)))] := hD₀
  replace hS := hS₀
  clear hP₀ hD₀ hS₀
  refine lv_aload_n hx hb dX9_copyFrom_63 rfl (lv_at hl 1 rfl) ?_
  refine gf_X9_34 hx hb hts hown hK hP 9 rfl rfl dX9_copyFrom_64 ?_
  refine lv_iconst (v := 0) hx hb dX9_copyFrom_67 (by decide) ?_
  refine lv_aload_n hx hb dX9_copyFrom_68 rfl (lv_at hl 0 rfl) ?_
  refine gf_X9_34 hx hb hts hown hK hP 0 rfl rfl dX9_copyFrom_69 ?_
  refine lv_iconst (v := 0) hx hb dX9_copyFrom_72 (by decide) ?_
  refine lv_bipush (v := 10) hx hb dX9_copyFrom_73 (by decide) ?_
  refine cp_int hx hb (hml.trans hl.1.symm) hown (hts _ k_600) (hts _ k_602) (hts _ k_601) (hts _ k_111) hK hP hD hS 11 2 0 0 rfl rfl rfl rfl (by decide) (by decide) (by decide) (by decide) (by decide) (Nat.le_of_ble_eq_true rfl) (Nat.le_of_ble_eq_true rfl) dX9_copyFrom_75 (fun g_2 H locs eg_2 hP₀ hD₀ hS₀ => ?_)
  replace hP : va_P D classes [((Aa 0), .inr (9, [.int (Bv 0), .int (Bv 1), .int (Bv 2), .int (Bv 3), .int (Bv 4), .int (Bv 5), .ref (Aa 1), .ref (Aa 2), .ref (Aa 3), .ref (Aa 4), .ref (Aa 5), .ref (Aa 6), .ref (Aa 7), .ref (Aa 8)])), ((Aa 1), .inl (tc 0, 10, .inl g_1)), ((Aa 2), .inl (tc 0, 10, .inl g_2)), ((Aa 3), .inl (tc 0, 6, .inl (Af 3))), ((Aa 4), .inl (tc 0, 6, .inl (Af 4))), ((Aa 5), .inl (tc 0, 6, .inl (Af 5))), ((Aa 6), .inl (tc 0, 6, .inl (Af 6))), ((Aa 7), .inl (tc 0, 6, .inl (Af 7))), ((Aa 8), .inl (tc 0, 6, .inl (Af 8))), ((Ba 0), .inr (9, [.int (Bv 0), .int (Bv 1), .int (Bv 2), .int (Bv 3), .int (Bv 4), .int (Bv 5), .ref (Ba 1), .ref (Ba 2), .ref (Ba 3), .ref (Ba 4), .ref (Ba 5), .ref (Ba 6), .ref (Ba 7), .ref (Ba 8)])), ((Ba 1), .inl (tc 0, 10, .inl (Bf 1))), ((Ba 2), .inl (tc 0, 10, .inl (Bf 2))), ((Ba 3), .inl (tc 0, 6, .inl (Bf 3))), ((Ba 4), .inl (tc 0, 6, .inl (Bf 4))), ((Ba 5), .inl (tc 0, 6, .inl (Bf 5))), ((Ba 6), .inl (tc 0, 6, .inl (Bf 6))), ((Ba 7), .inl (tc 0, 6, .inl (Bf 7))), ((Ba 8), .inl (tc 0, 6, .inl (Bf 8)))] H := hP₀
  replace hD : va_D A [((Aa 0), .inr (9, [.int (Bv 0), .int (Bv 1), .int (Bv 2), .int (Bv 3), .int (Bv 4), .int (Bv 5), .ref (Aa 1), .ref (Aa 2), .ref (Aa 3), .ref (Aa 4), .ref (Aa 5), .ref (Aa 6), .ref (Aa 7), .ref (Aa 8)])), ((Aa 1), .inl (tc 0, 10, .inl g_1)), ((Aa 2), .inl (tc 0, 10, .inl g_2)), ((Aa 3), .inl (tc 0, 6, .inl (Af 3))), ((Aa 4), .inl (tc 0, 6, .inl (Af 4))), ((Aa 5), .inl (tc 0, 6, .inl (Af 5))), ((Aa 6), .inl (tc 0, 6, .inl (Af 6))), ((Aa 7), .inl (tc 0, 6, .inl (Af 7))), ((Aa 8), .inl (tc 0, 6, .inl (Af 8))), ((Ba 0), .inr (9, [.int (Bv 0), .int (Bv 1), .int (Bv 2), .int (Bv 3), .int (Bv 4), .int (Bv 5), .ref (Ba 1), .ref (Ba 2), .ref (Ba 3), .ref (Ba 4), .ref (Ba 5), .ref (Ba 6), .ref (Ba 7), .ref (Ba 8)])), ((Ba 1), .inl (tc 0, 10, .inl (Bf 1))), ((Ba 2), .inl (tc 0, 10, .inl (Bf 2))), ((Ba 3), .inl (tc 0, 6, .inl (Bf 3))), ((Ba 4), .inl (tc 0, 6, .inl (Bf 4))), ((Ba 5), .inl (tc 0, 6, .inl (Bf 5))), ((Ba 6), .inl (tc 0, 6, .inl (Bf 6))), ((Ba 7), .inl (tc 0, 6, .inl (Bf 7))), ((Ba 8), .inl (tc 0, 6, .inl (Bf 8)))] := hD₀
  replace hS := hS₀
  clear hP₀ hD₀ hS₀
  refine lv_aload_n hx hb dX9_copyFrom_78 rfl (lv_at hl 1 rfl) ?_
  refine gf_X9_37 hx hb hts hown hK hP 9 rfl rfl dX9_copyFrom_79 ?_
  refine lv_iconst (v := 0) hx hb dX9_copyFrom_82 (by decide) ?_
  refine lv_aload_n hx hb dX9_copyFrom_83 rfl (lv_at hl 0 rfl) ?_
  refine gf_X9_37 hx hb hts hown hK hP 0 rfl rfl dX9_copyFrom_84 ?_
  refine lv_iconst (v := 0) hx hb dX9_copyFrom_87 (by decide) ?_
  refine lv_bipush (v := 6) hx hb dX9_copyFrom_88 (by decide) ?_
  refine cp_int hx hb (hml.trans hl.1.symm) hown (hts _ k_600) (hts _ k_602) (hts _ k_601) (hts _ k_111) hK hP hD hS 12 3 0 0 rfl rfl rfl rfl (by decide) (by decide) (by decide) (by decide) (by decide) (Nat.le_of_ble_eq_true rfl) (Nat.le_of_ble_eq_true rfl) dX9_copyFrom_90 (fun g_3 H locs eg_3 hP₀ hD₀ hS₀ => ?_)
  replace hP : va_P D classes [((Aa 0), .inr (9, [.int (Bv 0), .int (Bv 1), .int (Bv 2), .int (Bv 3), .int (Bv 4), .int (Bv 5), .ref (Aa 1), .ref (Aa 2), .ref (Aa 3), .ref (Aa 4), .ref (Aa 5), .ref (Aa 6), .ref (Aa 7), .ref (Aa 8)])), ((Aa 1), .inl (tc 0, 10, .inl g_1)), ((Aa 2), .inl (tc 0, 10, .inl g_2)), ((Aa 3), .inl (tc 0, 6, .inl g_3)), ((Aa 4), .inl (tc 0, 6, .inl (Af 4))), ((Aa 5), .inl (tc 0, 6, .inl (Af 5))), ((Aa 6), .inl (tc 0, 6, .inl (Af 6))), ((Aa 7), .inl (tc 0, 6, .inl (Af 7))), ((Aa 8), .inl (tc 0, 6, .inl (Af 8))), ((Ba 0), .inr (9, [.int (Bv 0), .int (Bv 1), .int (Bv 2), .int (Bv 3), .int (Bv 4), .int (Bv 5), .ref (Ba 1), .ref (Ba 2), .ref (Ba 3), .ref (Ba 4), .ref (Ba 5), .ref (Ba 6), .ref (Ba 7), .ref (Ba 8)])), ((Ba 1), .inl (tc 0, 10, .inl (Bf 1))), ((Ba 2), .inl (tc 0, 10, .inl (Bf 2))), ((Ba 3), .inl (tc 0, 6, .inl (Bf 3))), ((Ba 4), .inl (tc 0, 6, .inl (Bf 4))), ((Ba 5), .inl (tc 0, 6, .inl (Bf 5))), ((Ba 6), .inl (tc 0, 6, .inl (Bf 6))), ((Ba 7), .inl (tc 0, 6, .inl (Bf 7))), ((Ba 8), .inl (tc 0, 6, .inl (Bf 8)))] H := hP₀
  replace hD : va_D A [((Aa 0), .inr (9, [.int (Bv 0), .int (Bv 1), .int (Bv 2), .int (Bv 3), .int (Bv 4), .int (Bv 5), .ref (Aa 1), .ref (Aa 2), .ref (Aa 3), .ref (Aa 4), .ref (Aa 5), .ref (Aa 6), .ref (Aa 7), .ref (Aa 8)])), ((Aa 1), .inl (tc 0, 10, .inl g_1)), ((Aa 2), .inl (tc 0, 10, .inl g_2)), ((Aa 3), .inl (tc 0, 6, .inl g_3)), ((Aa 4), .inl (tc 0, 6, .inl (Af 4))), ((Aa 5), .inl (tc 0, 6, .inl (Af 5))), ((Aa 6), .inl (tc 0, 6, .inl (Af 6))), ((Aa 7), .inl (tc 0, 6, .inl (Af 7))), ((Aa 8), .inl (tc 0, 6, .inl (Af 8))), ((Ba 0), .inr (9, [.int (Bv 0), .int (Bv 1), .int (Bv 2), .int (Bv 3), .int (Bv 4), .int (Bv 5), .ref (Ba 1), .ref (Ba 2), .ref (Ba 3), .ref (Ba 4), .ref (Ba 5), .ref (Ba 6), .ref (Ba 7), .ref (Ba 8)])), ((Ba 1), .inl (tc 0, 10, .inl (Bf 1))), ((Ba 2), .inl (tc 0, 10, .inl (Bf 2))), ((Ba 3), .inl (tc 0, 6, .inl (Bf 3))), ((Ba 4), .inl (tc 0, 6, .inl (Bf 4))), ((Ba 5), .inl (tc 0, 6, .inl (Bf 5))), ((Ba 6), .inl (tc 0, 6, .inl (Bf 6))), ((Ba 7), .inl (tc 0, 6, .inl (Bf 7))), ((Ba 8), .inl (tc 0, 6, .inl (Bf 8)))] := hD₀
  replace hS := hS₀
  clear hP₀ hD₀ hS₀
  refine lv_aload_n hx hb dX9_copyFrom_93 rfl (lv_at hl 1 rfl) ?_
  refine gf_X9_40 hx hb hts hown hK hP 9 rfl rfl dX9_copyFrom_94 ?_
  refine lv_iconst (v := 0) hx hb dX9_copyFrom_97 (by decide) ?_
  refine lv_aload_n hx hb dX9_copyFrom_98 rfl (lv_at hl 0 rfl) ?_
  refine gf_X9_40 hx hb hts hown hK hP 0 rfl rfl dX9_copyFrom_99 ?_
  refine lv_iconst (v := 0) hx hb dX9_copyFrom_102 (by decide) ?_
  refine lv_bipush (v := 6) hx hb dX9_copyFrom_103 (by decide) ?_
  refine cp_int hx hb (hml.trans hl.1.symm) hown (hts _ k_600) (hts _ k_602) (hts _ k_601) (hts _ k_111) hK hP hD hS 13 4 0 0 rfl rfl rfl rfl (by decide) (by decide) (by decide) (by decide) (by decide) (Nat.le_of_ble_eq_true rfl) (Nat.le_of_ble_eq_true rfl) dX9_copyFrom_105 (fun g_4 H locs eg_4 hP₀ hD₀ hS₀ => ?_)
  replace hP : va_P D classes [((Aa 0), .inr (9, [.int (Bv 0), .int (Bv 1), .int (Bv 2), .int (Bv 3), .int (Bv 4), .int (Bv 5), .ref (Aa 1), .ref (Aa 2), .ref (Aa 3), .ref (Aa 4), .ref (Aa 5), .ref (Aa 6), .ref (Aa 7), .ref (Aa 8)])), ((Aa 1), .inl (tc 0, 10, .inl g_1)), ((Aa 2), .inl (tc 0, 10, .inl g_2)), ((Aa 3), .inl (tc 0, 6, .inl g_3)), ((Aa 4), .inl (tc 0, 6, .inl g_4)), ((Aa 5), .inl (tc 0, 6, .inl (Af 5))), ((Aa 6), .inl (tc 0, 6, .inl (Af 6))), ((Aa 7), .inl (tc 0, 6, .inl (Af 7))), ((Aa 8), .inl (tc 0, 6, .inl (Af 8))), ((Ba 0), .inr (9, [.int (Bv 0), .int (Bv 1), .int (Bv 2), .int (Bv 3), .int (Bv 4), .int (Bv 5), .ref (Ba 1), .ref (Ba 2), .ref (Ba 3), .ref (Ba 4), .ref (Ba 5), .ref (Ba 6), .ref (Ba 7), .ref (Ba 8)])), ((Ba 1), .inl (tc 0, 10, .inl (Bf 1))), ((Ba 2), .inl (tc 0, 10, .inl (Bf 2))), ((Ba 3), .inl (tc 0, 6, .inl (Bf 3))), ((Ba 4), .inl (tc 0, 6, .inl (Bf 4))), ((Ba 5), .inl (tc 0, 6, .inl (Bf 5))), ((Ba 6), .inl (tc 0, 6, .inl (Bf 6))), ((Ba 7), .inl (tc 0, 6, .inl (Bf 7))), ((Ba 8), .inl (tc 0, 6, .inl (Bf 8)))] H := hP₀
  replace hD : va_D A [((Aa 0), .inr (9, [.int (Bv 0), .int (Bv 1), .int (Bv 2), .int (Bv 3), .int (Bv 4), .int (Bv 5), .ref (Aa 1), .ref (Aa 2), .ref (Aa 3), .ref (Aa 4), .ref (Aa 5), .ref (Aa 6), .ref (Aa 7), .ref (Aa 8)])), ((Aa 1), .inl (tc 0, 10, .inl g_1)), ((Aa 2), .inl (tc 0, 10, .inl g_2)), ((Aa 3), .inl (tc 0, 6, .inl g_3)), ((Aa 4), .inl (tc 0, 6, .inl g_4)), ((Aa 5), .inl (tc 0, 6, .inl (Af 5))), ((Aa 6), .inl (tc 0, 6, .inl (Af 6))), ((Aa 7), .inl (tc 0, 6, .inl (Af 7))), ((Aa 8), .inl (tc 0, 6, .inl (Af 8))), ((Ba 0), .inr (9, [.int (Bv 0), .int (Bv 1), .int (Bv 2), .int (Bv 3), .int (Bv 4), .int (Bv 5), .ref (Ba 1), .ref (Ba 2), .ref (Ba 3), .ref (Ba 4), .ref (Ba 5), .ref (Ba 6), .ref (Ba 7), .ref (Ba 8)])), ((Ba 1), .inl (tc 0, 10, .inl (Bf 1))), ((Ba 2), .inl (tc 0, 10, .inl (Bf 2))), ((Ba 3), .inl (tc 0, 6, .inl (Bf 3))), ((Ba 4), .inl (tc 0, 6, .inl (Bf 4))), ((Ba 5), .inl (tc 0, 6, .inl (Bf 5))), ((Ba 6), .inl (tc 0, 6, .inl (Bf 6))), ((Ba 7), .inl (tc 0, 6, .inl (Bf 7))), ((Ba 8), .inl (tc 0, 6, .inl (Bf 8)))] := hD₀
  replace hS := hS₀
  clear hP₀ hD₀ hS₀
  refine lv_aload_n hx hb dX9_copyFrom_108 rfl (lv_at hl 1 rfl) ?_
  refine gf_X9_43 hx hb hts hown hK hP 9 rfl rfl dX9_copyFrom_109 ?_
  refine lv_iconst (v := 0) hx hb dX9_copyFrom_112 (by decide) ?_
  refine lv_aload_n hx hb dX9_copyFrom_113 rfl (lv_at hl 0 rfl) ?_
  refine gf_X9_43 hx hb hts hown hK hP 0 rfl rfl dX9_copyFrom_114 ?_
  refine lv_iconst (v := 0) hx hb dX9_copyFrom_117 (by decide) ?_
  refine lv_bipush (v := 6) hx hb dX9_copyFrom_118 (by decide) ?_
  refine cp_int hx hb (hml.trans hl.1.symm) hown (hts _ k_600) (hts _ k_602) (hts _ k_601) (hts _ k_111) hK hP hD hS 14 5 0 0 rfl rfl rfl rfl (by decide) (by decide) (by decide) (by decide) (by decide) (Nat.le_of_ble_eq_true rfl) (Nat.le_of_ble_eq_true rfl) dX9_copyFrom_120 (fun g_5 H locs eg_5 hP₀ hD₀ hS₀ => ?_)
  replace hP : va_P D classes [((Aa 0), .inr (9, [.int (Bv 0), .int (Bv 1), .int (Bv 2), .int (Bv 3), .int (Bv 4), .int (Bv 5), .ref (Aa 1), .ref (Aa 2), .ref (Aa 3), .ref (Aa 4), .ref (Aa 5), .ref (Aa 6), .ref (Aa 7), .ref (Aa 8)])), ((Aa 1), .inl (tc 0, 10, .inl g_1)), ((Aa 2), .inl (tc 0, 10, .inl g_2)), ((Aa 3), .inl (tc 0, 6, .inl g_3)), ((Aa 4), .inl (tc 0, 6, .inl g_4)), ((Aa 5), .inl (tc 0, 6, .inl g_5)), ((Aa 6), .inl (tc 0, 6, .inl (Af 6))), ((Aa 7), .inl (tc 0, 6, .inl (Af 7))), ((Aa 8), .inl (tc 0, 6, .inl (Af 8))), ((Ba 0), .inr (9, [.int (Bv 0), .int (Bv 1), .int (Bv 2), .int (Bv 3), .int (Bv 4), .int (Bv 5), .ref (Ba 1), .ref (Ba 2), .ref (Ba 3), .ref (Ba 4), .ref (Ba 5), .ref (Ba 6), .ref (Ba 7), .ref (Ba 8)])), ((Ba 1), .inl (tc 0, 10, .inl (Bf 1))), ((Ba 2), .inl (tc 0, 10, .inl (Bf 2))), ((Ba 3), .inl (tc 0, 6, .inl (Bf 3))), ((Ba 4), .inl (tc 0, 6, .inl (Bf 4))), ((Ba 5), .inl (tc 0, 6, .inl (Bf 5))), ((Ba 6), .inl (tc 0, 6, .inl (Bf 6))), ((Ba 7), .inl (tc 0, 6, .inl (Bf 7))), ((Ba 8), .inl (tc 0, 6, .inl (Bf 8)))] H := hP₀
  replace hD : va_D A [((Aa 0), .inr (9, [.int (Bv 0), .int (Bv 1), .int (Bv 2), .int (Bv 3), .int (Bv 4), .int (Bv 5), .ref (Aa 1), .ref (Aa 2), .ref (Aa 3), .ref (Aa 4), .ref (Aa 5), .ref (Aa 6), .ref (Aa 7), .ref (Aa 8)])), ((Aa 1), .inl (tc 0, 10, .inl g_1)), ((Aa 2), .inl (tc 0, 10, .inl g_2)), ((Aa 3), .inl (tc 0, 6, .inl g_3)), ((Aa 4), .inl (tc 0, 6, .inl g_4)), ((Aa 5), .inl (tc 0, 6, .inl g_5)), ((Aa 6), .inl (tc 0, 6, .inl (Af 6))), ((Aa 7), .inl (tc 0, 6, .inl (Af 7))), ((Aa 8), .inl (tc 0, 6, .inl (Af 8))), ((Ba 0), .inr (9, [.int (Bv 0), .int (Bv 1), .int (Bv 2), .int (Bv 3), .int (Bv 4), .int (Bv 5), .ref (Ba 1), .ref (Ba 2), .ref (Ba 3), .ref (Ba 4), .ref (Ba 5), .ref (Ba 6), .ref (Ba 7), .ref (Ba 8)])), ((Ba 1), .inl (tc 0, 10, .inl (Bf 1))), ((Ba 2), .inl (tc 0, 10, .inl (Bf 2))), ((Ba 3), .inl (tc 0, 6, .inl (Bf 3))), ((Ba 4), .inl (tc 0, 6, .inl (Bf 4))), ((Ba 5), .inl (tc 0, 6, .inl (Bf 5))), ((Ba 6), .inl (tc 0, 6, .inl (Bf 6))), ((Ba 7), .inl (tc 0, 6, .inl (Bf 7))), ((Ba 8), .inl (tc 0, 6, .inl (Bf 8)))] := hD₀
  replace hS := hS₀
  clear hP₀ hD₀ hS₀
  refine lv_aload_n hx hb dX9_copyFrom_123 rfl (lv_at hl 1 rfl) ?_
  refine gf_X9_46 hx hb hts hown hK hP 9 rfl rfl dX9_copyFrom_124 ?_
  refine lv_iconst (v := 0) hx hb dX9_copyFrom_127 (by decide) ?_
  refine lv_aload_n hx hb dX9_copyFrom_128 rfl (lv_at hl 0 rfl) ?_
  refine gf_X9_46 hx hb hts hown hK hP 0 rfl rfl dX9_copyFrom_129 ?_
  refine lv_iconst (v := 0) hx hb dX9_copyFrom_132 (by decide) ?_
  refine lv_bipush (v := 6) hx hb dX9_copyFrom_133 (by decide) ?_
  refine cp_int hx hb (hml.trans hl.1.symm) hown (hts _ k_600) (hts _ k_602) (hts _ k_601) (hts _ k_111) hK hP hD hS 15 6 0 0 rfl rfl rfl rfl (by decide) (by decide) (by decide) (by decide) (by decide) (Nat.le_of_ble_eq_true rfl) (Nat.le_of_ble_eq_true rfl) dX9_copyFrom_135 (fun g_6 H locs eg_6 hP₀ hD₀ hS₀ => ?_)
  replace hP : va_P D classes [((Aa 0), .inr (9, [.int (Bv 0), .int (Bv 1), .int (Bv 2), .int (Bv 3), .int (Bv 4), .int (Bv 5), .ref (Aa 1), .ref (Aa 2), .ref (Aa 3), .ref (Aa 4), .ref (Aa 5), .ref (Aa 6), .ref (Aa 7), .ref (Aa 8)])), ((Aa 1), .inl (tc 0, 10, .inl g_1)), ((Aa 2), .inl (tc 0, 10, .inl g_2)), ((Aa 3), .inl (tc 0, 6, .inl g_3)), ((Aa 4), .inl (tc 0, 6, .inl g_4)), ((Aa 5), .inl (tc 0, 6, .inl g_5)), ((Aa 6), .inl (tc 0, 6, .inl g_6)), ((Aa 7), .inl (tc 0, 6, .inl (Af 7))), ((Aa 8), .inl (tc 0, 6, .inl (Af 8))), ((Ba 0), .inr (9, [.int (Bv 0), .int (Bv 1), .int (Bv 2), .int (Bv 3), .int (Bv 4), .int (Bv 5), .ref (Ba 1), .ref (Ba 2), .ref (Ba 3), .ref (Ba 4), .ref (Ba 5), .ref (Ba 6), .ref (Ba 7), .ref (Ba 8)])), ((Ba 1), .inl (tc 0, 10, .inl (Bf 1))), ((Ba 2), .inl (tc 0, 10, .inl (Bf 2))), ((Ba 3), .inl (tc 0, 6, .inl (Bf 3))), ((Ba 4), .inl (tc 0, 6, .inl (Bf 4))), ((Ba 5), .inl (tc 0, 6, .inl (Bf 5))), ((Ba 6), .inl (tc 0, 6, .inl (Bf 6))), ((Ba 7), .inl (tc 0, 6, .inl (Bf 7))), ((Ba 8), .inl (tc 0, 6, .inl (Bf 8)))] H := hP₀
  replace hD : va_D A [((Aa 0), .inr (9, [.int (Bv 0), .int (Bv 1), .int (Bv 2), .int (Bv 3), .int (Bv 4), .int (Bv 5), .ref (Aa 1), .ref (Aa 2), .ref (Aa 3), .ref (Aa 4), .ref (Aa 5), .ref (Aa 6), .ref (Aa 7), .ref (Aa 8)])), ((Aa 1), .inl (tc 0, 10, .inl g_1)), ((Aa 2), .inl (tc 0, 10, .inl g_2)), ((Aa 3), .inl (tc 0, 6, .inl g_3)), ((Aa 4), .inl (tc 0, 6, .inl g_4)), ((Aa 5), .inl (tc 0, 6, .inl g_5)), ((Aa 6), .inl (tc 0, 6, .inl g_6)), ((Aa 7), .inl (tc 0, 6, .inl (Af 7))), ((Aa 8), .inl (tc 0, 6, .inl (Af 8))), ((Ba 0), .inr (9, [.int (Bv 0), .int (Bv 1), .int (Bv 2), .int (Bv 3), .int (Bv 4), .int (Bv 5), .ref (Ba 1), .ref (Ba 2), .ref (Ba 3), .ref (Ba 4), .ref (Ba 5), .ref (Ba 6), .ref (Ba 7), .ref (Ba 8)])), ((Ba 1), .inl (tc 0, 10, .inl (Bf 1))), ((Ba 2), .inl (tc 0, 10, .inl (Bf 2))), ((Ba 3), .inl (tc 0, 6, .inl (Bf 3))), ((Ba 4), .inl (tc 0, 6, .inl (Bf 4))), ((Ba 5), .inl (tc 0, 6, .inl (Bf 5))), ((Ba 6), .inl (tc 0, 6, .inl (Bf 6))), ((Ba 7), .inl (tc 0, 6, .inl (Bf 7))), ((Ba 8), .inl (tc 0, 6, .inl (Bf 8)))] := hD₀
  replace hS := hS₀
  clear hP₀ hD₀ hS₀
  refine lv_aload_n hx hb dX9_copyFrom_138 rfl (lv_at hl 1 rfl) ?_
  refine gf_X9_49 hx hb hts hown hK hP 9 rfl rfl dX9_copyFrom_139 ?_
  refine lv_iconst (v := 0) hx hb dX9_copyFrom_142 (by decide) ?_
  refine lv_aload_n hx hb dX9_copyFrom_143 rfl (lv_at hl 0 rfl) ?_
  refine gf_X9_49 hx hb hts hown hK hP 0 rfl rfl dX9_copyFrom_144 ?_
  refine lv_iconst (v := 0) hx hb dX9_copyFrom_147 (by decide) ?_
  refine lv_bipush (v := 6) hx hb dX9_copyFrom_148 (by decide) ?_
  refine cp_int hx hb (hml.trans hl.1.symm) hown (hts _ k_600) (hts _ k_602) (hts _ k_601) (hts _ k_111) hK hP hD hS 16 7 0 0 rfl rfl rfl rfl (by decide) (by decide) (by decide) (by decide) (by decide) (Nat.le_of_ble_eq_true rfl) (Nat.le_of_ble_eq_true rfl) dX9_copyFrom_150 (fun g_7 H locs eg_7 hP₀ hD₀ hS₀ => ?_)
  replace hP : va_P D classes [((Aa 0), .inr (9, [.int (Bv 0), .int (Bv 1), .int (Bv 2), .int (Bv 3), .int (Bv 4), .int (Bv 5), .ref (Aa 1), .ref (Aa 2), .ref (Aa 3), .ref (Aa 4), .ref (Aa 5), .ref (Aa 6), .ref (Aa 7), .ref (Aa 8)])), ((Aa 1), .inl (tc 0, 10, .inl g_1)), ((Aa 2), .inl (tc 0, 10, .inl g_2)), ((Aa 3), .inl (tc 0, 6, .inl g_3)), ((Aa 4), .inl (tc 0, 6, .inl g_4)), ((Aa 5), .inl (tc 0, 6, .inl g_5)), ((Aa 6), .inl (tc 0, 6, .inl g_6)), ((Aa 7), .inl (tc 0, 6, .inl g_7)), ((Aa 8), .inl (tc 0, 6, .inl (Af 8))), ((Ba 0), .inr (9, [.int (Bv 0), .int (Bv 1), .int (Bv 2), .int (Bv 3), .int (Bv 4), .int (Bv 5), .ref (Ba 1), .ref (Ba 2), .ref (Ba 3), .ref (Ba 4), .ref (Ba 5), .ref (Ba 6), .ref (Ba 7), .ref (Ba 8)])), ((Ba 1), .inl (tc 0, 10, .inl (Bf 1))), ((Ba 2), .inl (tc 0, 10, .inl (Bf 2))), ((Ba 3), .inl (tc 0, 6, .inl (Bf 3))), ((Ba 4), .inl (tc 0, 6, .inl (Bf 4))), ((Ba 5), .inl (tc 0, 6, .inl (Bf 5))), ((Ba 6), .inl (tc 0, 6, .inl (Bf 6))), ((Ba 7), .inl (tc 0, 6, .inl (Bf 7))), ((Ba 8), .inl (tc 0, 6, .inl (Bf 8)))] H := hP₀
  replace hD : va_D A [((Aa 0), .inr (9, [.int (Bv 0), .int (Bv 1), .int (Bv 2), .int (Bv 3), .int (Bv 4), .int (Bv 5), .ref (Aa 1), .ref (Aa 2), .ref (Aa 3), .ref (Aa 4), .ref (Aa 5), .ref (Aa 6), .ref (Aa 7), .ref (Aa 8)])), ((Aa 1), .inl (tc 0, 10, .inl g_1)), ((Aa 2), .inl (tc 0, 10, .inl g_2)), ((Aa 3), .inl (tc 0, 6, .inl g_3)), ((Aa 4), .inl (tc 0, 6, .inl g_4)), ((Aa 5), .inl (tc 0, 6, .inl g_5)), ((Aa 6), .inl (tc 0, 6, .inl g_6)), ((Aa 7), .inl (tc 0, 6, .inl g_7)), ((Aa 8), .inl (tc 0, 6, .inl (Af 8))), ((Ba 0), .inr (9, [.int (Bv 0), .int (Bv 1), .int (Bv 2), .int (Bv 3), .int (Bv 4), .int (Bv 5), .ref (Ba 1), .ref (Ba 2), .ref (Ba 3), .ref (Ba 4), .ref (Ba 5), .ref (Ba 6), .ref (Ba 7), .ref (Ba 8)])), ((Ba 1), .inl (tc 0, 10, .inl (Bf 1))), ((Ba 2), .inl (tc 0, 10, .inl (Bf 2))), ((Ba 3), .inl (tc 0, 6, .inl (Bf 3))), ((Ba 4), .inl (tc 0, 6, .inl (Bf 4))), ((Ba 5), .inl (tc 0, 6, .inl (Bf 5))), ((Ba 6), .inl (tc 0, 6, .inl (Bf 6))), ((Ba 7), .inl (tc 0, 6, .inl (Bf 7))), ((Ba 8), .inl (tc 0, 6, .inl (Bf 8)))] := hD₀
  replace hS := hS₀
  clear hP₀ hD₀ hS₀
  refine lv_aload_n hx hb dX9_copyFrom_153 rfl (lv_at hl 1 rfl) ?_
  refine gf_X9_52 hx hb hts hown hK hP 9 rfl rfl dX9_copyFrom_154 ?_
  refine lv_iconst (v := 0) hx hb dX9_copyFrom_157 (by decide) ?_
  refine lv_aload_n hx hb dX9_copyFrom_158 rfl (lv_at hl 0 rfl) ?_
  refine gf_X9_52 hx hb hts hown hK hP 0 rfl rfl dX9_copyFrom_159 ?_
  refine lv_iconst (v := 0) hx hb dX9_copyFrom_162 (by decide) ?_
  refine lv_bipush (v := 6) hx hb dX9_copyFrom_163 (by decide) ?_
  refine cp_int hx hb (hml.trans hl.1.symm) hown (hts _ k_600) (hts _ k_602) (hts _ k_601) (hts _ k_111) hK hP hD hS 17 8 0 0 rfl rfl rfl rfl (by decide) (by decide) (by decide) (by decide) (by decide) (Nat.le_of_ble_eq_true rfl) (Nat.le_of_ble_eq_true rfl) dX9_copyFrom_165 (fun g_8 H locs eg_8 hP₀ hD₀ hS₀ => ?_)
  replace hP : va_P D classes [((Aa 0), .inr (9, [.int (Bv 0), .int (Bv 1), .int (Bv 2), .int (Bv 3), .int (Bv 4), .int (Bv 5), .ref (Aa 1), .ref (Aa 2), .ref (Aa 3), .ref (Aa 4), .ref (Aa 5), .ref (Aa 6), .ref (Aa 7), .ref (Aa 8)])), ((Aa 1), .inl (tc 0, 10, .inl g_1)), ((Aa 2), .inl (tc 0, 10, .inl g_2)), ((Aa 3), .inl (tc 0, 6, .inl g_3)), ((Aa 4), .inl (tc 0, 6, .inl g_4)), ((Aa 5), .inl (tc 0, 6, .inl g_5)), ((Aa 6), .inl (tc 0, 6, .inl g_6)), ((Aa 7), .inl (tc 0, 6, .inl g_7)), ((Aa 8), .inl (tc 0, 6, .inl g_8)), ((Ba 0), .inr (9, [.int (Bv 0), .int (Bv 1), .int (Bv 2), .int (Bv 3), .int (Bv 4), .int (Bv 5), .ref (Ba 1), .ref (Ba 2), .ref (Ba 3), .ref (Ba 4), .ref (Ba 5), .ref (Ba 6), .ref (Ba 7), .ref (Ba 8)])), ((Ba 1), .inl (tc 0, 10, .inl (Bf 1))), ((Ba 2), .inl (tc 0, 10, .inl (Bf 2))), ((Ba 3), .inl (tc 0, 6, .inl (Bf 3))), ((Ba 4), .inl (tc 0, 6, .inl (Bf 4))), ((Ba 5), .inl (tc 0, 6, .inl (Bf 5))), ((Ba 6), .inl (tc 0, 6, .inl (Bf 6))), ((Ba 7), .inl (tc 0, 6, .inl (Bf 7))), ((Ba 8), .inl (tc 0, 6, .inl (Bf 8)))] H := hP₀
  replace hD : va_D A [((Aa 0), .inr (9, [.int (Bv 0), .int (Bv 1), .int (Bv 2), .int (Bv 3), .int (Bv 4), .int (Bv 5), .ref (Aa 1), .ref (Aa 2), .ref (Aa 3), .ref (Aa 4), .ref (Aa 5), .ref (Aa 6), .ref (Aa 7), .ref (Aa 8)])), ((Aa 1), .inl (tc 0, 10, .inl g_1)), ((Aa 2), .inl (tc 0, 10, .inl g_2)), ((Aa 3), .inl (tc 0, 6, .inl g_3)), ((Aa 4), .inl (tc 0, 6, .inl g_4)), ((Aa 5), .inl (tc 0, 6, .inl g_5)), ((Aa 6), .inl (tc 0, 6, .inl g_6)), ((Aa 7), .inl (tc 0, 6, .inl g_7)), ((Aa 8), .inl (tc 0, 6, .inl g_8)), ((Ba 0), .inr (9, [.int (Bv 0), .int (Bv 1), .int (Bv 2), .int (Bv 3), .int (Bv 4), .int (Bv 5), .ref (Ba 1), .ref (Ba 2), .ref (Ba 3), .ref (Ba 4), .ref (Ba 5), .ref (Ba 6), .ref (Ba 7), .ref (Ba 8)])), ((Ba 1), .inl (tc 0, 10, .inl (Bf 1))), ((Ba 2), .inl (tc 0, 10, .inl (Bf 2))), ((Ba 3), .inl (tc 0, 6, .inl (Bf 3))), ((Ba 4), .inl (tc 0, 6, .inl (Bf 4))), ((Ba 5), .inl (tc 0, 6, .inl (Bf 5))), ((Ba 6), .inl (tc 0, 6, .inl (Bf 6))), ((Ba 7), .inl (tc 0, 6, .inl (Bf 7))), ((Ba 8), .inl (tc 0, 6, .inl (Bf 8)))] := hD₀
  replace hS := hS₀
  clear hP₀ hD₀ hS₀
  have hF_9 : (g_1, g_2, g_3, g_4, g_5, g_6, g_7, g_8) = (dX9_copyFrom (Af 1) (Af 2) (Af 3) (Af 4) (Af 5) (Af 6) (Af 7) (Af 8) (Bf 1) (Bf 2) (Bf 3) (Bf 4) (Bf 5) (Bf 6) (Bf 7) (Bf 8)) := by
    clear hP hD hS hl
    replace eg_1 := eg_1.symm; subst eg_1
    replace eg_2 := eg_2.symm; subst eg_2
    replace eg_3 := eg_3.symm; subst eg_3
    replace eg_4 := eg_4.symm; subst eg_4
    replace eg_5 := eg_5.symm; subst eg_5
    replace eg_6 := eg_6.symm; subst eg_6
    replace eg_7 := eg_7.symm; subst eg_7
    replace eg_8 := eg_8.symm; subst eg_8
    unfold dX9_copyFrom
    try rfl
  exact retV hx hb hr hlk hP hD hS (g_1, g_2, g_3, g_4, g_5, g_6, g_7, g_8) ⟨rfl, hF_9⟩ [0, 1, 2, 3, 4, 5, 6, 7, 8, 9, 10, 11, 12, 13, 14, 15, 16, 17] rfl rfl dX9_copyFrom_168 (Nat.le_of_ble_eq_true rfl) (Nat.le_of_ble_eq_true rfl) rfl
set_option maxRecDepth 100000 in
theorem cu_dX9_copyFrom (l : Launch) (D : va_G) (tc : Nat → ClassId) (sk : (Nat → Nat) × (Nat → Nat)) (Aa_0 : Nat) (Aa_1 : Nat) (Aa_2 : Nat) (Aa_3 : Nat) (Aa_4 : Nat) (Aa_5 : Nat) (Aa_6 : Nat) (Aa_7 : Nat) (Aa_8 : Nat) (Av_0 : Int32) (Av_1 : Int32) (Av_2 : Int32) (Av_3 : Int32) (Av_4 : Int32) (Av_5 : Int32) (Af_1 : Nat → Int32) (Af_2 : Nat → Int32) (Af_3 : Nat → Int32) (Af_4 : Nat → Int32) (Af_5 : Nat → Int32) (Af_6 : Nat → Int32) (Af_7 : Nat → Int32) (Af_8 : Nat → Int32) (Ba_0 : Nat) (Ba_1 : Nat) (Ba_2 : Nat) (Ba_3 : Nat) (Ba_4 : Nat) (Ba_5 : Nat) (Ba_6 : Nat) (Ba_7 : Nat) (Ba_8 : Nat) (Bv_0 : Int32) (Bv_1 : Int32) (Bv_2 : Int32) (Bv_3 : Int32) (Bv_4 : Int32) (Bv_5 : Int32) (Bf_1 : Nat → Int32) (Bf_2 : Nat → Int32) (Bf_3 : Nat → Int32) (Bf_4 : Nat → Int32) (Bf_5 : Nat → Int32) (Bf_6 : Nat → Int32) (Bf_7 : Nat → Int32) (Bf_8 : Nat → Int32)  : Ct l yX9_copyFrom cX9_copyFrom 2 none { frames := 1, cells := 0, slots := 0, locals := 40 } D tc sk [.ref Aa_0, .ref Ba_0] [(Aa_0, .inr (9, [.int Av_0, .int Av_1, .int Av_2, .int Av_3, .int Av_4, .int Av_5, .ref Aa_1, .ref Aa_2, .ref Aa_3, .ref Aa_4, .ref Aa_5, .ref Aa_6, .ref Aa_7, .ref Aa_8])), (Aa_1, .inl (tc 0, 10, .inl Af_1)), (Aa_2, .inl (tc 0, 10, .inl Af_2)), (Aa_3, .inl (tc 0, 6, .inl Af_3)), (Aa_4, .inl (tc 0, 6, .inl Af_4)), (Aa_5, .inl (tc 0, 6, .inl Af_5)), (Aa_6, .inl (tc 0, 6, .inl Af_6)), (Aa_7, .inl (tc 0, 6, .inl Af_7)), (Aa_8, .inl (tc 0, 6, .inl Af_8)), (Ba_0, .inr (9, [.int Bv_0, .int Bv_1, .int Bv_2, .int Bv_3, .int Bv_4, .int Bv_5, .ref Ba_1, .ref Ba_2, .ref Ba_3, .ref Ba_4, .ref Ba_5, .ref Ba_6, .ref Ba_7, .ref Ba_8])), (Ba_1, .inl (tc 0, 10, .inl Bf_1)), (Ba_2, .inl (tc 0, 10, .inl Bf_2)), (Ba_3, .inl (tc 0, 6, .inl Bf_3)), (Ba_4, .inl (tc 0, 6, .inl Bf_4)), (Ba_5, .inl (tc 0, 6, .inl Bf_5)), (Ba_6, .inl (tc 0, 6, .inl Bf_6)), (Ba_7, .inl (tc 0, 6, .inl Bf_7)), (Ba_8, .inl (tc 0, 6, .inl Bf_8))] (fun (v : Option Value) (u : (Nat → Int32) × (Nat → Int32) × (Nat → Int32) × (Nat → Int32) × (Nat → Int32) × (Nat → Int32) × (Nat → Int32) × (Nat → Int32)) => match u with | (oo0x1, oo0x2, oo0x3, oo0x4, oo0x5, oo0x6, oo0x7, oo0x8) => v = none ∧ (DEq ((oo0x1, oo0x2, oo0x3, oo0x4, oo0x5, oo0x6, oo0x7, oo0x8)) (dX9_copyFrom Af_1 Af_2 Af_3 Af_4 Af_5 Af_6 Af_7 Af_8 Bf_1 Bf_2 Bf_3 Bf_4 Bf_5 Bf_6 Bf_7 Bf_8))) (fun (u : (Nat → Int32) × (Nat → Int32) × (Nat → Int32) × (Nat → Int32) × (Nat → Int32) × (Nat → Int32) × (Nat → Int32) × (Nat → Int32)) => match u with | (oo0x1, oo0x2, oo0x3, oo0x4, oo0x5, oo0x6, oo0x7, oo0x8) => [(Aa_0, .inr (9, [.int Bv_0, .int Bv_1, .int Bv_2, .int Bv_3, .int Bv_4, .int Bv_5, .ref Aa_1, .ref Aa_2, .ref Aa_3, .ref Aa_4, .ref Aa_5, .ref Aa_6, .ref Aa_7, .ref Aa_8])), (Aa_1, .inl (tc 0, 10, .inl oo0x1)), (Aa_2, .inl (tc 0, 10, .inl oo0x2)), (Aa_3, .inl (tc 0, 6, .inl oo0x3)), (Aa_4, .inl (tc 0, 6, .inl oo0x4)), (Aa_5, .inl (tc 0, 6, .inl oo0x5)), (Aa_6, .inl (tc 0, 6, .inl oo0x6)), (Aa_7, .inl (tc 0, 6, .inl oo0x7)), (Aa_8, .inl (tc 0, 6, .inl oo0x8)), (Ba_0, .inr (9, [.int Bv_0, .int Bv_1, .int Bv_2, .int Bv_3, .int Bv_4, .int Bv_5, .ref Ba_1, .ref Ba_2, .ref Ba_3, .ref Ba_4, .ref Ba_5, .ref Ba_6, .ref Ba_7, .ref Ba_8])), (Ba_1, .inl (tc 0, 10, .inl Bf_1)), (Ba_2, .inl (tc 0, 10, .inl Bf_2)), (Ba_3, .inl (tc 0, 6, .inl Bf_3)), (Ba_4, .inl (tc 0, 6, .inl Bf_4)), (Ba_5, .inl (tc 0, 6, .inl Bf_5)), (Ba_6, .inl (tc 0, 6, .inl Bf_6)), (Ba_7, .inl (tc 0, 6, .inl Bf_7)), (Ba_8, .inl (tc 0, 6, .inl Bf_8))]) 0 0 :=
  ct_dX9_copyFrom l D tc sk (fun k => ([Aa_0, Aa_1, Aa_2, Aa_3, Aa_4, Aa_5, Aa_6, Aa_7, Aa_8] : List (Nat)).getD k 0) (fun k => ([Av_0, Av_1, Av_2, Av_3, Av_4, Av_5] : List (Int32)).getD k 0) (fun k => ([(fun _ => 0), Af_1, Af_2, Af_3, Af_4, Af_5, Af_6, Af_7, Af_8] : List (Nat → Int32)).getD k (fun _ => 0)) (fun k => ([Ba_0, Ba_1, Ba_2, Ba_3, Ba_4, Ba_5, Ba_6, Ba_7, Ba_8] : List (Nat)).getD k 0) (fun k => ([Bv_0, Bv_1, Bv_2, Bv_3, Bv_4, Bv_5] : List (Int32)).getD k 0) (fun k => ([(fun _ => 0), Bf_1, Bf_2, Bf_3, Bf_4, Bf_5, Bf_6, Bf_7, Bf_8] : List (Nat → Int32)).getD k (fun _ => 0)) 
