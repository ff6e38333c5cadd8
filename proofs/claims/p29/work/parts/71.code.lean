set_option maxRecDepth 16384
/-! the operations of a text, as class and reference write them down -/
def ec_v (B : Nat → Int) (p : Nat) : Int := if pz_isD (B p) = true then pz_nv B p (pz_te B p - p) else 100000 + pz_wa B p pz_words 0
def ec_o (x : Int) : Int := if x = 43 then -12 else if x = 45 then -13 else if x = 42 then -14 else if x = 47 then -15 else if x = 37 then -16 else -1
def ec_w (w : Int) : List Int := if w = -1 then [] else [w]
def ec_S (B : Nat → Int) : Nat → Nat → Int → List Int
  | 0, _, w => ec_w w
  | k + 1, p, w => if ec_o (B p) = -1 then ec_w w else if ec_o (B p) = -12 ∨ ec_o (B p) = -13 then ec_w w ++ ec_v B (pz_nt B p) :: ec_S B k (pz_nt B (pz_nt B p)) (ec_o (B p)) else ec_v B (pz_nt B p) :: ec_o (B p) :: ec_S B k (pz_nt B (pz_nt B p)) w
def ec_sL (B : Nat → Int) (p : Nat) (w : Int) : List Int := ec_S B 401 p w
def ec_sum (B : Nat → Int) (p : Nat) : List Int := ec_v B p :: ec_sL B (pz_nt B p) (-1)
def ec_c (B : Nat → Int) (p : Nat) : Int := if B p = 60 then (if pz_te B p = p + 2 then -8 else -7) else if B p = 61 then -9 else (if pz_te B p = p + 2 then -10 else -11)
def ec_com (B : Nat → Int) (s : Nat × Nat) : List Int := ec_sum B s.1 ++ (match pz_sum B s with
    | .ok t => ec_sum B (pz_nt B t.1) ++ [ec_c B t.1]
    | .error _ => [])
def ec_or (o : Bool) : List Int := if o = true then [-6] else []
def ec_TL (B : Nat → Int) (f : Nat × Nat → Except Int (Nat × Nat)) (F : Nat × Nat → List Int) : Nat → Nat × Nat → Bool → List Int
  | 0, _, o => ec_or o
  | k + 1, s, o => if pz_wd B s.1 pz_and = true then F (pz_nx B s) ++ -5 :: (match f (pz_nx B s) with
      | .ok t => ec_TL B f F k t o
      | .error _ => []) else if pz_wd B s.1 pz_or = true then ec_or o ++ (F (pz_nx B s) ++ (match f (pz_nx B s) with
      | .ok t => ec_TL B f F k t true
      | .error _ => [])) else ec_or o
def ec_tst (B : Nat → Int) (f : Nat × Nat → Except Int (Nat × Nat)) (F : Nat × Nat → List Int) (s : Nat × Nat) : List Int := F s ++ (match f s with
    | .ok t => ec_TL B f F 401 t false
    | .error _ => [])
def ec_fact (B : Nat → Int) : Nat → Nat × Nat → List Int
  | 0, s => ec_com B s
  | m + 1, s => if pz_wd B s.1 pz_not = true then ec_fact B m (pz_nx B s) ++ [-4] else if B s.1 = 91 then ec_tst B (pz_fact B m) (ec_fact B m) (pz_nx B s) else ec_com B s
def ru_cl (B : Nat → Int) (s : Nat × Nat) : List Int × Option (List Int) := (ec_sum B (pz_nt B s.1), match pz_sum B (pz_nx B s) with
    | .ok t => if pz_wd B t.1 pz_if = true then some (ec_tst B (pz_fact B 10) (ec_fact B 10) (pz_nx B t)) else none
    | .error _ => none)
def ru_lp (B : Nat → Int) : Nat → (Nat × Nat) × Nat → RuA
  | 0, _ => []
  | k + 1, u => if B u.1.1 = 59 then ru_cl B (pz_nx B u.1) :: (match pz_cla B u.2 (pz_nx B u.1) with
      | .ok t => ru_lp B k (t, u.2 + 1)
      | .error _ => []) else []
def ru_of (B : Nat → Int) : RuA := ru_cl B (pz_sk B 0, 0) :: (match pz_cla B 0 (pz_sk B 0, 0) with
    | .ok t => ru_lp B 401 (t, 1)
    | .error _ => [])
/-! places go on -/
theorem pz_te_ge {B : Nat → Int} {p : Nat} : p ≤ pz_te B p := by
  by_cases h : B p = -1
  · unfold pz_te
    rw [h]
    exact Nat.le_refl _
  · exact Nat.le_of_succ_le (pz_te_gt h)
theorem pz_nt_ge {B : Nat → Int} {p : Nat} : p ≤ pz_nt B p := Nat.le_trans pz_te_ge (pz_run_ge _ _)
theorem ec_o_no {x : Int} : ec_o x = -1 ↔ ¬ (x = 43 ∨ x = 45 ∨ x = 42 ∨ x = 47 ∨ x = 37) := by
  unfold ec_o
  constructor
  · intro h z
    rcases z with rfl | rfl | rfl | rfl | rfl <;> exact absurd h (by decide)
  · intro h
    rw [if_neg (by omega), if_neg (by omega), if_neg (by omega), if_neg (by omega), if_neg (by omega)]
theorem ec_o_rg {x : Int} : ec_o x = -1 ∨ (-16 ≤ ec_o x ∧ ec_o x ≤ -12) := by
  unfold ec_o
  split
  · right; decide
  · split
    · right; decide
    · split
      · right; decide
      · split
        · right; decide
        · split
          · right; decide
          · left; rfl
theorem ec_o_ne {B : Nat → Int} {p : Nat} (h : ¬ ec_o (B p) = -1) : B p ≠ -1 := fun z => h (by rw [z]; decide)
/-! turns of a sum -/
theorem ec_S_big {B : Nat → Int} (hB : pz_fi B) : ∀ (k p : Nat) (w : Int), 400 ≤ p + k → ec_S B (k + 1) p w = ec_S B k p w
  | 0, p, w, h => by
    have e : ec_o (B p) = -1 := by rw [hB p (by omega)]; decide
    show (if ec_o (B p) = -1 then ec_w w else _) = ec_w w
    rw [if_pos e]
  | k + 1, p, w, h => by
    by_cases e : ec_o (B p) = -1
    · show (if ec_o (B p) = -1 then ec_w w else _) = (if ec_o (B p) = -1 then ec_w w else _)
      rw [if_pos e, if_pos e]
    · have h1 := pz_nt_gt (ec_o_ne e)
      have h2 := pz_nt_ge (B := B) (p := pz_nt B p)
      have h3 : ∀ v, ec_S B (k + 1) (pz_nt B (pz_nt B p)) v = ec_S B k (pz_nt B (pz_nt B p)) v := fun v => ec_S_big hB k _ v (by omega)
      show (if ec_o (B p) = -1 then ec_w w else if ec_o (B p) = -12 ∨ ec_o (B p) = -13 then ec_w w ++ ec_v B (pz_nt B p) :: ec_S B (k + 1) (pz_nt B (pz_nt B p)) (ec_o (B p)) else ec_v B (pz_nt B p) :: ec_o (B p) :: ec_S B (k + 1) (pz_nt B (pz_nt B p)) w) = (if ec_o (B p) = -1 then ec_w w else if ec_o (B p) = -12 ∨ ec_o (B p) = -13 then ec_w w ++ ec_v B (pz_nt B p) :: ec_S B k (pz_nt B (pz_nt B p)) (ec_o (B p)) else ec_v B (pz_nt B p) :: ec_o (B p) :: ec_S B k (pz_nt B (pz_nt B p)) w)
      rw [h3, h3]
theorem ec_sL_no {B : Nat → Int} {p : Nat} {w : Int} (h : ec_o (B p) = -1) : ec_sL B p w = ec_w w := by
  show (if ec_o (B p) = -1 then ec_w w else _) = ec_w w
  rw [if_pos h]
theorem ec_sL_pm {B : Nat → Int} (hB : pz_fi B) {p : Nat} {w : Int} (h : ec_o (B p) = -12 ∨ ec_o (B p) = -13) : ec_sL B p w = ec_w w ++ ec_v B (pz_nt B p) :: ec_sL B (pz_nt B (pz_nt B p)) (ec_o (B p)) := by
  have e : ec_S B 401 (pz_nt B (pz_nt B p)) (ec_o (B p)) = ec_S B 400 (pz_nt B (pz_nt B p)) (ec_o (B p)) := ec_S_big hB 400 _ _ (Nat.le_add_left _ _)
  show (if ec_o (B p) = -1 then ec_w w else if ec_o (B p) = -12 ∨ ec_o (B p) = -13 then ec_w w ++ ec_v B (pz_nt B p) :: ec_S B 400 (pz_nt B (pz_nt B p)) (ec_o (B p)) else _) = ec_w w ++ ec_v B (pz_nt B p) :: ec_S B 401 (pz_nt B (pz_nt B p)) (ec_o (B p))
  rw [if_neg (by omega), if_pos h, e]
theorem ec_sL_td {B : Nat → Int} (hB : pz_fi B) {p : Nat} {w : Int} (h0 : ¬ ec_o (B p) = -1) (h : ¬ (ec_o (B p) = -12 ∨ ec_o (B p) = -13)) : ec_sL B p w = ec_v B (pz_nt B p) :: ec_o (B p) :: ec_sL B (pz_nt B (pz_nt B p)) w := by
  have e : ec_S B 401 (pz_nt B (pz_nt B p)) w = ec_S B 400 (pz_nt B (pz_nt B p)) w := ec_S_big hB 400 _ _ (Nat.le_add_left _ _)
  show (if ec_o (B p) = -1 then ec_w w else if ec_o (B p) = -12 ∨ ec_o (B p) = -13 then _ else ec_v B (pz_nt B p) :: ec_o (B p) :: ec_S B 400 (pz_nt B (pz_nt B p)) w) = ec_v B (pz_nt B p) :: ec_o (B p) :: ec_S B 401 (pz_nt B (pz_nt B p)) w
  rw [if_neg h0, if_neg h, e]
/-! turns of a test -/
theorem ec_TL_big {B : Nat → Int} (hB : pz_fi B) {f : Nat × Nat → Except Int (Nat × Nat)} {F : Nat × Nat → List Int} (hf : ∀ s t, f s = .ok t → B s.1 ≠ -1 ∧ s.1 < t.1) : ∀ (k : Nat) (s : Nat × Nat) (o : Bool), 400 ≤ s.1 + k → ec_TL B f F (k + 1) s o = ec_TL B f F k s o
  | 0, s, o, h => by
    have h1 : ¬ pz_wd B s.1 pz_and = true := fun z => pz_and_ne (Or.inl z) (hB s.1 (by omega))
    have h2 : ¬ pz_wd B s.1 pz_or = true := fun z => pz_and_ne (Or.inr z) (hB s.1 (by omega))
    show (if pz_wd B s.1 pz_and = true then _ else if pz_wd B s.1 pz_or = true then _ else ec_or o) = ec_or o
    rw [if_neg h1, if_neg h2]
  | k + 1, s, o, h => by
    by_cases h1 : pz_wd B s.1 pz_and = true
    · have hb := pz_nt_gt (pz_and_ne (B := B) (p := s.1) (Or.inl h1))
      show (if pz_wd B s.1 pz_and = true then F (pz_nx B s) ++ -5 :: (match f (pz_nx B s) with | .ok t => ec_TL B f F (k + 1) t o | .error _ => []) else _) = (if pz_wd B s.1 pz_and = true then F (pz_nx B s) ++ -5 :: (match f (pz_nx B s) with | .ok t => ec_TL B f F k t o | .error _ => []) else _)
      rw [if_pos h1, if_pos h1]
      cases e : f (pz_nx B s) with
      | error z => rfl
      | ok t =>
        have h3 := (hf _ _ e).2
        have h4 : (pz_nx B s).1 = pz_nt B s.1 := rfl
        show F (pz_nx B s) ++ -5 :: ec_TL B f F (k + 1) t o = F (pz_nx B s) ++ -5 :: ec_TL B f F k t o
        rw [ec_TL_big hB hf k t o (by omega)]
    · by_cases h2 : pz_wd B s.1 pz_or = true
      · have hb := pz_nt_gt (pz_and_ne (B := B) (p := s.1) (Or.inr h2))
        show (if pz_wd B s.1 pz_and = true then _ else if pz_wd B s.1 pz_or = true then ec_or o ++ (F (pz_nx B s) ++ (match f (pz_nx B s) with | .ok t => ec_TL B f F (k + 1) t true | .error _ => [])) else _) = (if pz_wd B s.1 pz_and = true then _ else if pz_wd B s.1 pz_or = true then ec_or o ++ (F (pz_nx B s) ++ (match f (pz_nx B s) with | .ok t => ec_TL B f F k t true | .error _ => [])) else _)
        rw [if_neg h1, if_neg h1, if_pos h2, if_pos h2]
        cases e : f (pz_nx B s) with
        | error z => rfl
        | ok t =>
          have h3 := (hf _ _ e).2
          have h4 : (pz_nx B s).1 = pz_nt B s.1 := rfl
          show ec_or o ++ (F (pz_nx B s) ++ ec_TL B f F (k + 1) t true) = ec_or o ++ (F (pz_nx B s) ++ ec_TL B f F k t true)
          rw [ec_TL_big hB hf k t true (by omega)]
      · show (if pz_wd B s.1 pz_and = true then _ else if pz_wd B s.1 pz_or = true then _ else ec_or o) = (if pz_wd B s.1 pz_and = true then _ else if pz_wd B s.1 pz_or = true then _ else ec_or o)
        rw [if_neg h1, if_neg h2, if_neg h1, if_neg h2]
theorem ec_TL_and {B : Nat → Int} (hB : pz_fi B) {f : Nat × Nat → Except Int (Nat × Nat)} {F : Nat × Nat → List Int} (hf : ∀ s t, f s = .ok t → B s.1 ≠ -1 ∧ s.1 < t.1) {s t : Nat × Nat} {o : Bool} (h : pz_wd B s.1 pz_and = true) (e : f (pz_nx B s) = .ok t) : ec_TL B f F 401 s o = F (pz_nx B s) ++ -5 :: ec_TL B f F 401 t o := by
  show (if pz_wd B s.1 pz_and = true then F (pz_nx B s) ++ -5 :: (match f (pz_nx B s) with | .ok t => ec_TL B f F 400 t o | .error _ => []) else _) = _
  rw [if_pos h, e]
  show F (pz_nx B s) ++ -5 :: ec_TL B f F 400 t o = _
  rw [ec_TL_big hB hf 400 t o (Nat.le_add_left _ _)]
theorem ec_TL_or {B : Nat → Int} (hB : pz_fi B) {f : Nat × Nat → Except Int (Nat × Nat)} {F : Nat × Nat → List Int} (hf : ∀ s t, f s = .ok t → B s.1 ≠ -1 ∧ s.1 < t.1) {s t : Nat × Nat} {o : Bool} (h1 : ¬ pz_wd B s.1 pz_and = true) (h : pz_wd B s.1 pz_or = true) (e : f (pz_nx B s) = .ok t) : ec_TL B f F 401 s o = ec_or o ++ (F (pz_nx B s) ++ ec_TL B f F 401 t true) := by
  show (if pz_wd B s.1 pz_and = true then _ else if pz_wd B s.1 pz_or = true then ec_or o ++ (F (pz_nx B s) ++ (match f (pz_nx B s) with | .ok t => ec_TL B f F 400 t true | .error _ => [])) else _) = _
  rw [if_neg h1, if_pos h, e]
  show ec_or o ++ (F (pz_nx B s) ++ ec_TL B f F 400 t true) = _
  rw [ec_TL_big hB hf 400 t true (Nat.le_add_left _ _)]
theorem ec_TL_no {B : Nat → Int} {f : Nat × Nat → Except Int (Nat × Nat)} {F : Nat × Nat → List Int} {s : Nat × Nat} {o : Bool} (h1 : ¬ pz_wd B s.1 pz_and = true) (h2 : ¬ pz_wd B s.1 pz_or = true) : ec_TL B f F 401 s o = ec_or o := by
  show (if pz_wd B s.1 pz_and = true then _ else if pz_wd B s.1 pz_or = true then _ else ec_or o) = ec_or o
  rw [if_neg h1, if_neg h2]
/-! what has been read is of its kind, not too long, not too much -/
theorem pz_wa_ge0 {B : Nat → Int} {p : Nat} : ∀ (ws : List (List Int)) (k : Int), 0 ≤ k → -1 ≤ pz_wa B p ws k
  | [], k, _ => by show (-1 : Int) ≤ -1; omega
  | w :: t, k, h => by
    show -1 ≤ (if pz_wd B p w = true then k else pz_wa B p t (k + 1))
    by_cases z : pz_wd B p w = true
    · rw [if_pos z]; omega
    · rw [if_neg z]; exact pz_wa_ge0 t (k + 1) (by omega)
theorem pz_num_v {B : Nat → Int} {lo hi v : Int} {p : Nat} (h : pz_num B lo hi p = .ok v) : v = pz_nv B p (pz_te B p - p) ∧ lo ≤ v ∧ v ≤ hi := by
  unfold pz_num at h
  by_cases z : pz_isD (B p) = true
  · rw [if_pos z] at h
    by_cases y : 5 < pz_te B p - p
    · rw [if_pos y] at h; cases h
    · rw [if_neg y] at h
      by_cases x : pz_nv B p (pz_te B p - p) < lo ∨ hi < pz_nv B p (pz_te B p - p)
      · rw [if_pos x] at h; cases h
      · rw [if_neg x] at h; cases h; exact ⟨rfl, by omega⟩
  · rw [if_neg z] at h; cases h
theorem pz_cnt_ok {B : Nat → Int} {s t : Nat × Nat} (h : pz_cnt B s = .ok t) : t = (pz_nt B s.1, s.2 + 1) ∧ s.2 < 60 := by
  unfold pz_cnt at h
  by_cases z : 60 ≤ s.2
  · rw [if_pos z] at h; cases h
  · rw [if_neg z] at h; cases h; exact ⟨rfl, by omega⟩
theorem pz_wa_lt {B : Nat → Int} {p : Nat} : ∀ (ws : List (List Int)) (k : Int), 0 ≤ k → pz_wa B p ws k < k + (ws.length : Int)
  | [], k, h => by show (-1 : Int) < k + ((0 : Nat) : Int); omega
  | w :: t, k, h => by
    show (if pz_wd B p w = true then k else pz_wa B p t (k + 1)) < k + ((t.length + 1 : Nat) : Int)
    by_cases z : pz_wd B p w = true
    · rw [if_pos z]; omega
    · rw [if_neg z]
      have := pz_wa_lt (B := B) (p := p) t (k + 1) (by omega)
      omega
theorem pz_val_ok {B : Nat → Int} {s t : Nat × Nat} (h : pz_val B s = .ok t) : t = (pz_nt B s.1, s.2 + 1) ∧ s.2 < 60 ∧ 0 ≤ ec_v B s.1 ∧ ec_v B s.1 < 100013 := by
  unfold pz_val at h
  unfold ec_v
  by_cases z : pz_isD (B s.1) = true
  · rw [if_pos z] at h ⊢
    cases e : pz_num B 0 99999 s.1 with
    | error x => rw [e] at h; cases h
    | ok v =>
      rw [e] at h
      have h1 := pz_cnt_ok h
      have h2 := pz_num_v e
      exact ⟨h1.1, h1.2, by rw [← h2.1]; omega⟩
  · rw [if_neg z] at h ⊢
    by_cases y : pz_wa B s.1 pz_words 0 = -1
    · rw [if_pos y] at h; cases h
    · rw [if_neg y] at h
      have h1 := pz_cnt_ok h
      have h2 := pz_wa_ge0 (B := B) (p := s.1) pz_words 0 (Int.le_refl _)
      have h3 := pz_wa_lt (B := B) (p := s.1) pz_words 0 (Int.le_refl _)
      have h4 : (pz_words.length : Int) = 13 := by decide
      exact ⟨h1.1, h1.2, by omega⟩
def ec_wk (w : Int) (k : List Bool) : List Bool := if w = -1 then false :: k else false :: false :: k
def ec_w1 (w : Int) : Nat := if w = -1 then 0 else 1
theorem ev_k_v {o : Int} {k : List Bool} (h : 0 ≤ o ∧ o < 100013) : ev_k o k = some (false :: k) := (if_pos h.1).trans (if_pos h.2)
theorem ev_k_a {o : Int} {k : List Bool} (h : -16 ≤ o ∧ o ≤ -12) : ev_k o (false :: false :: k) = some (false :: k) := by
  unfold ev_k
  rw [if_neg (by omega), if_neg (by omega), if_neg (by omega), if_neg (by omega), if_pos h]
theorem ev_k_c {o : Int} {k : List Bool} (h : -11 ≤ o ∧ o ≤ -7) : ev_k o (false :: false :: k) = some (true :: k) := by
  unfold ev_k
  rw [if_neg (by omega), if_neg (by omega), if_neg (by omega), if_pos h]
theorem ev_k_b {o : Int} {k : List Bool} (h : o = -5 ∨ o = -6) : ev_k o (true :: true :: k) = some (true :: k) := by
  unfold ev_k
  rw [if_neg (by omega), if_neg (by omega), if_pos h]
theorem ev_k_n {k : List Bool} : ev_k (-4) (true :: k) = some (true :: k) := by
  unfold ev_k
  rw [if_neg (by decide), if_pos rfl]
theorem ev_t_c {o : Int} {c : List Int} {k k' : List Bool} (h : ev_k o k = some k') : ev_t (o :: c) k = ev_t c k' := by
  show (match ev_k o k with | none => none | some k1 => ev_t c k1) = _
  rw [h]
theorem ec_w_t {w : Int} {k : List Bool} (hw : w = -1 ∨ w = -12 ∨ w = -13) : ev_t (ec_w w) (ec_wk w k) = some (false :: k) ∧ ev_n (ec_w w) = 0 ∧ (ec_w w).length = ec_w1 w := by
  rcases hw with rfl | rfl | rfl
  · exact ⟨rfl, rfl, rfl⟩
  · refine ⟨?_, rfl, rfl⟩
    show ev_t [-12] (false :: false :: k) = _
    rw [ev_t_c (ev_k_a (by decide))]; rfl
  · refine ⟨?_, rfl, rfl⟩
    show ev_t [-13] (false :: false :: k) = _
    rw [ev_t_c (ev_k_a (by decide))]; rfl
theorem ec_S_t {B : Nat → Int} : ∀ (n : Nat) (s t : Nat × Nat) (w : Int) (k : List Bool), pz_it (pz_sF B) n s = .ok t → (w = -1 ∨ w = -12 ∨ w = -13) → s.2 ≤ 60 → ev_t (ec_S B n s.1 w) (ec_wk w k) = some (false :: k) ∧ ev_n (ec_S B n s.1 w) + s.2 ≤ t.2 ∧ (ec_S B n s.1 w).length + s.1 ≤ t.1 + ec_w1 w ∧ t.2 ≤ 60
  | 0, s, t, w, k, h, hw, h6 => by
    cases h
    obtain ⟨h1, h2, h3⟩ := ec_w_t (k := k) hw
    exact ⟨h1, by show ev_n (ec_w w) + s.2 ≤ s.2; omega, by show (ec_w w).length + s.1 ≤ s.1 + ec_w1 w; omega, h6⟩
  | n + 1, s, t, w, k, h, hw, h6 => by
    rw [pz_it] at h
    obtain ⟨w1, w2, w3⟩ := ec_w_t (k := k) hw
    by_cases e : ec_o (B s.1) = -1
    · have e1 : pz_sF B s = none := if_neg (ec_o_no.mp e)
      rw [e1] at h
      have h : (Except.ok s : Except Int (Nat × Nat)) = .ok t := h
      cases h
      have e2 : ec_S B (n + 1) s.1 w = ec_w w := if_pos e
      rw [e2]
      exact ⟨w1, by omega, by omega, h6⟩
    · have e1 : pz_sF B s = some (pz_val B (pz_nx B s)) := if_pos (Classical.byContradiction (fun z => e (ec_o_no.mpr z)))
      rw [e1] at h
      cases ev : pz_val B (pz_nx B s) with
      | error z => rw [ev] at h; cases h
      | ok sq1 =>
        rw [ev] at h
        have h : pz_it (pz_sF B) n sq1 = .ok t := h
        obtain ⟨v1, v2, v3⟩ := pz_val_ok ev
        have p1 := pz_nt_gt (ec_o_ne e)
        have q1 : (pz_nx B s).1 = pz_nt B s.1 := rfl
        have q2 : (pz_nx B s).2 = s.2 := rfl
        rw [q1, q2] at v1
        rw [q1] at v3
        have q3 : sq1.1 = pz_nt B (pz_nt B s.1) := by rw [v1]
        have q4 : sq1.2 = s.2 + 1 := by rw [v1]
        have p2 : pz_nt B s.1 + 1 ≤ pz_nt B (pz_nt B s.1) := by
          have := (pz_val_gt ev).2
          omega
        have ep : ev_p (ec_v B (pz_nt B s.1)) = 1 := if_pos v3.1
        by_cases o : ec_o (B s.1) = -12 ∨ ec_o (B s.1) = -13
        · have e2 : ec_S B (n + 1) s.1 w = ec_w w ++ ec_v B (pz_nt B s.1) :: ec_S B n (pz_nt B (pz_nt B s.1)) (ec_o (B s.1)) := (if_neg e).trans (if_pos o)
          obtain ⟨i1, i2, i3, i4⟩ := ec_S_t n sq1 t (ec_o (B s.1)) k h (Or.inr o) (by omega)
          rw [q3] at i1 i2 i3
          have k1 : ec_wk (ec_o (B s.1)) k = false :: false :: k := if_neg e
          have k2 : ec_w1 (ec_o (B s.1)) = 1 := if_neg e
          rw [k1] at i1
          rw [e2]
          refine ⟨?_, ?_, ?_, i4⟩
          · rw [ev_t_app _ _ _ _ w1, ev_t_c (ev_k_v v3)]; exact i1
          · rw [ev_n_app]
            show ev_n (ec_w w) + (ev_p (ec_v B (pz_nt B s.1)) + ev_n (ec_S B n (pz_nt B (pz_nt B s.1)) (ec_o (B s.1)))) + s.2 ≤ t.2
            omega
          · rw [List.length_append, List.length_cons]; omega
        · have e2 : ec_S B (n + 1) s.1 w = ec_v B (pz_nt B s.1) :: ec_o (B s.1) :: ec_S B n (pz_nt B (pz_nt B s.1)) w := (if_neg e).trans (if_neg o)
          obtain ⟨i1, i2, i3, i4⟩ := ec_S_t n sq1 t w k h hw (by omega)
          rw [q3] at i1 i2 i3
          have hr : -16 ≤ ec_o (B s.1) ∧ ec_o (B s.1) ≤ -12 := ec_o_rg.resolve_left e
          have en : ev_p (ec_o (B s.1)) = 0 := if_neg (by omega)
          rw [e2]
          refine ⟨?_, ?_, ?_, i4⟩
          · rw [ev_t_c (ev_k_v v3)]
            have hk : ∃ k2, ec_wk w k = false :: k2 := by
              rcases hw with rfl | rfl | rfl
              · exact ⟨_, rfl⟩
              · exact ⟨_, rfl⟩
              · exact ⟨_, rfl⟩
            obtain ⟨k2, hk⟩ := hk
            rw [hk, ev_t_c (ev_k_a hr), ← hk]
            exact i1
          · show ev_p (ec_v B (pz_nt B s.1)) + (ev_p (ec_o (B s.1)) + ev_n (ec_S B n (pz_nt B (pz_nt B s.1)) w)) + s.2 ≤ t.2
            omega
          · rw [List.length_cons, List.length_cons]; omega
/-- a piece of code that goes from s to t -/
def ec_gd (c : List Int) (s t : Nat × Nat) (b : Bool) : Prop := (∀ k, ev_t c k = some (b :: k)) ∧ ev_n c + s.2 ≤ t.2 ∧ c.length + s.1 ≤ t.1 ∧ t.2 ≤ 60
theorem ec_sum_gd {B : Nat → Int} {s t : Nat × Nat} (h : pz_sum B s = .ok t) : ec_gd (ec_sum B s.1) s t false := by
  unfold pz_sum at h
  cases ev : pz_val B s with
  | error z => rw [ev] at h; cases h
  | ok sq1 =>
    rw [ev] at h
    have h : pz_it (pz_sF B) 401 sq1 = .ok t := h
    obtain ⟨v1, v2, v3⟩ := pz_val_ok ev
    have q3 : sq1.1 = pz_nt B s.1 := by rw [v1]
    have q4 : sq1.2 = s.2 + 1 := by rw [v1]
    have p2 := (pz_val_gt ev).2
    have ep : ev_p (ec_v B s.1) = 1 := if_pos v3.1
    refine ⟨fun k => ?_, ?_, ?_, ?_⟩
    · have i := (ec_S_t 401 sq1 t (-1) k h (Or.inl rfl) (by omega)).1
      rw [q3] at i
      show ev_t (ec_v B s.1 :: ec_S B 401 (pz_nt B s.1) (-1)) k = _
      rw [ev_t_c (ev_k_v v3)]
      exact i
    · have i := (ec_S_t 401 sq1 t (-1) [] h (Or.inl rfl) (by omega)).2.1
      rw [q3] at i
      show ev_p (ec_v B s.1) + ev_n (ec_S B 401 (pz_nt B s.1) (-1)) + s.2 ≤ t.2
      omega
    · have i := (ec_S_t 401 sq1 t (-1) [] h (Or.inl rfl) (by omega)).2.2.1
      rw [q3] at i
      have e : ec_w1 (-1) = 0 := rfl
      show (ec_S B 401 (pz_nt B s.1) (-1)).length + 1 + s.1 ≤ t.1
      omega
    · exact (ec_S_t 401 sq1 t (-1) [] h (Or.inl rfl) (by omega)).2.2.2
theorem ec_c_rg {B : Nat → Int} {p : Nat} : -11 ≤ ec_c B p ∧ ec_c B p ≤ -7 := by
  unfold ec_c
  split
  · split <;> decide
  · split
    · decide
    · split <;> decide
theorem ec_com_gd {B : Nat → Int} {s t : Nat × Nat} (h : pz_com B s = .ok t) : ec_gd (ec_com B s) s t true := by
  unfold pz_com at h
  unfold ec_com
  cases e1 : pz_sum B s with
  | error z => rw [e1] at h; cases h
  | ok t1 =>
    rw [e1] at h
    have h : pz_b (pz_cmp B t1) (pz_sum B) = .ok t := h
    cases e2 : pz_cmp B t1 with
    | error z => rw [e2] at h; cases h
    | ok t2 =>
      rw [e2] at h
      have h : pz_sum B t2 = .ok t := h
      unfold pz_cmp at e2
      by_cases z : B t1.1 = 60 ∨ B t1.1 = 61 ∨ B t1.1 = 62
      · rw [if_pos z] at e2
        have hc := pz_cnt_ok e2
        have hp := pz_nt_gt (B := B) (p := t1.1) (by omega)
        have q1 : t2.1 = pz_nt B t1.1 := by rw [hc.1]
        have q2 : t2.2 = t1.2 + 1 := by rw [hc.1]
        obtain ⟨a1, a2, a3, a4⟩ := ec_sum_gd e1
        obtain ⟨b1, b2, b3, b4⟩ := ec_sum_gd h
        rw [q1] at b1 b2 b3
        have en : ev_p (ec_c B t1.1) = 0 := if_neg (by have := ec_c_rg (B := B) (p := t1.1); omega)
        show ec_gd (ec_sum B s.1 ++ (ec_sum B (pz_nt B t1.1) ++ [ec_c B t1.1])) s t true
        refine ⟨fun k => ?_, ?_, ?_, b4⟩
        · rw [ev_t_app _ _ _ _ (a1 k), ev_t_app _ _ _ _ (b1 (false :: k)), ev_t_c (ev_k_c ec_c_rg)]; rfl
        · rw [ev_n_app, ev_n_app]
          show ev_n (ec_sum B s.1) + (ev_n (ec_sum B (pz_nt B t1.1)) + (ev_p (ec_c B t1.1) + 0)) + s.2 ≤ t.2
          omega
        · rw [List.length_append, List.length_append, List.length_singleton]; omega
      · rw [if_neg z] at e2; cases e2
def ec_ok (o : Bool) (k : List Bool) : List Bool := if o = true then true :: true :: k else true :: k
def ec_o1 (o : Bool) : Nat := if o = true then 1 else 0
theorem ec_or_t {o : Bool} {k : List Bool} : ev_t (ec_or o) (ec_ok o k) = some (true :: k) ∧ ev_n (ec_or o) = 0 ∧ (ec_or o).length = ec_o1 o := by
  cases o with
  | false => exact ⟨rfl, rfl, rfl⟩
  | true =>
    refine ⟨?_, rfl, rfl⟩
    show ev_t [-6] (true :: true :: k) = _
    rw [ev_t_c (ev_k_b (Or.inr rfl))]; rfl
theorem ec_TL_t {B : Nat → Int} {f : Nat × Nat → Except Int (Nat × Nat)} {F : Nat × Nat → List Int} (hF : ∀ s t, f s = .ok t → s.2 ≤ 60 → ec_gd (F s) s t true) : ∀ (n : Nat) (s t : Nat × Nat) (o : Bool) (k : List Bool), pz_it (pz_tF B f) n s = .ok t → s.2 ≤ 60 → ev_t (ec_TL B f F n s o) (ec_ok o k) = some (true :: k) ∧ ev_n (ec_TL B f F n s o) + s.2 ≤ t.2 ∧ (ec_TL B f F n s o).length + s.1 ≤ t.1 + ec_o1 o ∧ t.2 ≤ 60
  | 0, s, t, o, k, h, h6 => by
    cases h
    obtain ⟨w1, w2, w3⟩ := ec_or_t (o := o) (k := k)
    exact ⟨w1, by show ev_n (ec_or o) + s.2 ≤ s.2; omega, by show (ec_or o).length + s.1 ≤ s.1 + ec_o1 o; omega, h6⟩
  | n + 1, s, t, o, k, h, h6 => by
    rw [pz_it] at h
    obtain ⟨w1, w2, w3⟩ := ec_or_t (o := o) (k := k)
    by_cases z : pz_wd B s.1 pz_and = true ∨ pz_wd B s.1 pz_or = true
    · have e1 : pz_tF B f s = some (f (pz_nx B s)) := if_pos z
      rw [e1] at h
      have p1 := pz_nt_gt (pz_and_ne z)
      have q1 : (pz_nx B s).1 = pz_nt B s.1 := rfl
      have q2 : (pz_nx B s).2 = s.2 := rfl
      cases ef : f (pz_nx B s) with
      | error y => rw [ef] at h; cases h
      | ok sq1 =>
        rw [ef] at h
        have h : pz_it (pz_tF B f) n sq1 = .ok t := h
        obtain ⟨a1, a2, a3, a4⟩ := hF _ _ ef (by omega)
        by_cases za : pz_wd B s.1 pz_and = true
        · have e2 : ec_TL B f F (n + 1) s o = F (pz_nx B s) ++ -5 :: ec_TL B f F n sq1 o := by
            show (if pz_wd B s.1 pz_and = true then F (pz_nx B s) ++ -5 :: (match f (pz_nx B s) with | .ok t => ec_TL B f F n t o | .error _ => []) else _) = _
            rw [if_pos za, ef]
          obtain ⟨i1, i2, i3, i4⟩ := ec_TL_t hF n sq1 t o k h a4
          rw [e2]
          refine ⟨?_, ?_, ?_, i4⟩
          · rw [ev_t_app _ _ _ _ (a1 _)]
            have hk : ∃ k2, ec_ok o k = true :: k2 := by cases o <;> exact ⟨_, rfl⟩
            obtain ⟨k2, hk⟩ := hk
            rw [hk, ev_t_c (ev_k_b (Or.inl rfl)), ← hk]
            exact i1
          · rw [ev_n_app]
            show ev_n (F (pz_nx B s)) + (0 + ev_n (ec_TL B f F n sq1 o)) + s.2 ≤ t.2
            omega
          · rw [List.length_append, List.length_cons]; omega
        · have zo : pz_wd B s.1 pz_or = true := z.resolve_left za
          have e2 : ec_TL B f F (n + 1) s o = ec_or o ++ (F (pz_nx B s) ++ ec_TL B f F n sq1 true) := by
            show (if pz_wd B s.1 pz_and = true then _ else if pz_wd B s.1 pz_or = true then ec_or o ++ (F (pz_nx B s) ++ (match f (pz_nx B s) with | .ok t => ec_TL B f F n t true | .error _ => [])) else _) = _
            rw [if_neg za, if_pos zo, ef]
          obtain ⟨i1, i2, i3, i4⟩ := ec_TL_t hF n sq1 t true k h a4
          have i1 : ev_t (ec_TL B f F n sq1 true) (true :: true :: k) = some (true :: k) := i1
          have i3 : (ec_TL B f F n sq1 true).length + sq1.1 ≤ t.1 + 1 := i3
          rw [e2]
          refine ⟨?_, ?_, ?_, i4⟩
          · rw [ev_t_app _ _ _ _ w1, ev_t_app _ _ _ _ (a1 _)]; exact i1
          · rw [ev_n_app, ev_n_app]; omega
          · rw [List.length_append, List.length_append]; omega
    · have e1 : pz_tF B f s = none := if_neg z
      rw [e1] at h
      have h : (Except.ok s : Except Int (Nat × Nat)) = .ok t := h
      cases h
      have e2 : ec_TL B f F (n + 1) s o = ec_or o := (if_neg (fun y => z (Or.inl y))).trans (if_neg (fun y => z (Or.inr y)))
      rw [e2]
      exact ⟨w1, by omega, by omega, h6⟩
theorem ec_tst_gd {B : Nat → Int} {f : Nat × Nat → Except Int (Nat × Nat)} {F : Nat × Nat → List Int} (hF : ∀ s t, f s = .ok t → s.2 ≤ 60 → ec_gd (F s) s t true) {s t : Nat × Nat} (h : pz_tst B f s = .ok t) (h6 : s.2 ≤ 60) : ec_gd (ec_tst B f F s) s t true := by
  unfold pz_tst at h
  unfold ec_tst
  cases ef : f s with
  | error y => rw [ef] at h; cases h
  | ok sq1 =>
    rw [ef] at h
    have h : pz_it (pz_tF B f) 401 sq1 = .ok t := h
    obtain ⟨a1, a2, a3, a4⟩ := hF _ _ ef h6
    show ec_gd (F s ++ ec_TL B f F 401 sq1 false) s t true
    refine ⟨fun k => ?_, ?_, ?_, ?_⟩
    · rw [ev_t_app _ _ _ _ (a1 k)]; exact (ec_TL_t hF 401 sq1 t false k h a4).1
    · have i := (ec_TL_t hF 401 sq1 t false [] h a4).2.1
      rw [ev_n_app]; omega
    · have i := (ec_TL_t hF 401 sq1 t false [] h a4).2.2.1
      have e : ec_o1 false = 0 := rfl
      rw [List.length_append]; omega
    · exact (ec_TL_t hF 401 sq1 t false [] h a4).2.2.2
theorem ec_fact_gd {B : Nat → Int} : ∀ (m : Nat) (s t : Nat × Nat), pz_fact B m s = .ok t → s.2 ≤ 60 → ec_gd (ec_fact B m s) s t true
  | 0, s, t, h, h6 => by
    unfold pz_fact at h
    by_cases z : pz_wd B s.1 pz_not = true ∨ B s.1 = 91
    · rw [if_pos z] at h; cases h
    · rw [if_neg z] at h; exact ec_com_gd h
  | m + 1, s, t, h, h6 => by
    unfold pz_fact at h
    unfold ec_fact
    by_cases z : pz_wd B s.1 pz_not = true
    · rw [if_pos z] at h ⊢
      have p1 := pz_nt_gt (pz_not_ne z)
      have q1 : (pz_nx B s).1 = pz_nt B s.1 := rfl
      have q2 : (pz_nx B s).2 = s.2 := rfl
      obtain ⟨a1, a2, a3, a4⟩ := ec_fact_gd m _ _ h (by omega)
      refine ⟨fun k => ?_, ?_, ?_, a4⟩
      · rw [ev_t_app _ _ _ _ (a1 k), ev_t_c ev_k_n]; rfl
      · rw [ev_n_app]
        show ev_n (ec_fact B m (pz_nx B s)) + (0 + 0) + s.2 ≤ t.2
        omega
      · rw [List.length_append, List.length_singleton]; omega
    · rw [if_neg z] at h ⊢
      by_cases y : B s.1 = 91
      · rw [if_pos y] at h ⊢
        have p1 := pz_nt_gt (B := B) (p := s.1) (by omega)
        have q1 : (pz_nx B s).1 = pz_nt B s.1 := rfl
        have q2 : (pz_nx B s).2 = s.2 := rfl
        cases e : pz_tst B (pz_fact B m) (pz_nx B s) with
        | error x => rw [e] at h; cases h
        | ok sq1 =>
          rw [e] at h
          have h : pz_rb B sq1 = .ok t := h
          unfold pz_rb at h
          by_cases x : B sq1.1 = 93
          · rw [if_pos x] at h
            cases h
            obtain ⟨a1, a2, a3, a4⟩ := ec_tst_gd (f := pz_fact B m) (F := ec_fact B m) (fun s t h h6 => ec_fact_gd m s t h h6) e (by omega)
            have q3 : (pz_nx B sq1).1 = pz_nt B sq1.1 := rfl
            have q4 : (pz_nx B sq1).2 = sq1.2 := rfl
            have p2 := pz_nt_ge (B := B) (p := sq1.1)
            exact ⟨a1, by omega, by omega, by omega⟩
          · rw [if_neg x] at h; cases h
      · rw [if_neg y] at h ⊢; exact ec_com_gd h
/-! a clause, a rule -/
def ru_1 (c : List Int × Option (List Int)) : List Int := match c with
  | (s, none) => s ++ [-2]
  | (s, some t) => s ++ (t ++ [-3])
theorem ru_fl_c {c : List Int × Option (List Int)} {cs : RuA} : ru_fl (c :: cs) = ru_1 c ++ ru_fl cs := by
  match c with
  | (s, none) => show s ++ -2 :: ru_fl cs = (s ++ [-2]) ++ ru_fl cs; rw [List.append_assoc]; rfl
  | (s, some t) => show s ++ (t ++ -3 :: ru_fl cs) = (s ++ (t ++ [-3])) ++ ru_fl cs; rw [List.append_assoc, List.append_assoc]; rfl
theorem ru_fl_app : ∀ (a b : RuA), ru_fl (a ++ b) = ru_fl a ++ ru_fl b
  | [], b => rfl
  | c :: a, b => by
    show ru_fl (c :: (a ++ b)) = ru_fl (c :: a) ++ ru_fl b
    rw [ru_fl_c, ru_fl_c, ru_fl_app a b, List.append_assoc]
theorem ru_cl_gd {B : Nat → Int} {l : Nat} {s t : Nat × Nat} (h : pz_cla B l s = .ok t) (h6 : s.2 ≤ 60) (cs : RuA) : (ru_ok cs → ru_ok (ru_cl B s :: cs)) ∧ (ru_1 (ru_cl B s)).length + s.1 ≤ t.1 ∧ s.2 ≤ t.2 ∧ t.2 ≤ 60 ∧ l ≠ 12 := by
  unfold pz_cla at h
  unfold ru_cl
  by_cases z : pz_wd B s.1 pz_buy = true
  · rw [if_pos z] at h
    have p1 := pz_nt_gt (B := B) (p := s.1) (pz_wd_ne z (by decide) (by decide))
    have q1 : (pz_nx B s).1 = pz_nt B s.1 := rfl
    have q2 : (pz_nx B s).2 = s.2 := rfl
    by_cases y : l = 12
    · rw [if_pos y] at h; cases h
    · rw [if_neg y] at h
      cases e : pz_sum B (pz_nx B s) with
      | error x => rw [e] at h; cases h
      | ok sq1 =>
        rw [e] at h
        obtain ⟨a1, a2, a3, a4⟩ := ec_sum_gd e
        rw [q1] at a1 a2 a3
        have h : (if pz_wd B sq1.1 pz_if = true then pz_tst B (pz_fact B 10) (pz_nx B sq1) else .ok sq1) = .ok t := h
        by_cases x : pz_wd B sq1.1 pz_if = true
        · rw [if_pos x] at h
          have e2 : (match (Except.ok sq1 : Except Int (Nat × Nat)) with | .ok t => if pz_wd B t.1 pz_if = true then some (ec_tst B (pz_fact B 10) (ec_fact B 10) (pz_nx B t)) else none | .error _ => none) = some (ec_tst B (pz_fact B 10) (ec_fact B 10) (pz_nx B sq1)) := if_pos x
          rw [e2]
          have p2 := pz_nt_gt (B := B) (p := sq1.1) (pz_wd_ne x (by decide) (by decide))
          have q3 : (pz_nx B sq1).1 = pz_nt B sq1.1 := rfl
          have q4 : (pz_nx B sq1).2 = sq1.2 := rfl
          obtain ⟨b1, b2, b3, b4⟩ := ec_tst_gd (f := pz_fact B 10) (F := ec_fact B 10) (fun s t h h6 => ec_fact_gd 10 s t h h6) h (by omega)
          refine ⟨fun hc => ⟨a1 [], b1 [], by omega, hc⟩, ?_, by omega, b4, y⟩
          show (ec_sum B (pz_nt B s.1) ++ (ec_tst B (pz_fact B 10) (ec_fact B 10) (pz_nx B sq1) ++ [-3])).length + s.1 ≤ t.1
          rw [List.length_append, List.length_append, List.length_singleton]; omega
        · rw [if_neg x] at h
          obtain rfl : sq1 = t := Except.ok.inj h
          have e2 : (match (Except.ok sq1 : Except Int (Nat × Nat)) with | .ok t => if pz_wd B t.1 pz_if = true then some (ec_tst B (pz_fact B 10) (ec_fact B 10) (pz_nx B t)) else none | .error _ => none) = none := if_neg x
          rw [e2]
          refine ⟨fun hc => ⟨a1 [], by omega, hc⟩, ?_, by omega, a4, y⟩
          show (ec_sum B (pz_nt B s.1) ++ [-2]).length + s.1 ≤ sq1.1
          rw [List.length_append, List.length_singleton]; omega
  · rw [if_neg z] at h; cases h
theorem ru_lp_big {B : Nat → Int} (hB : pz_fi B) : ∀ (k : Nat) (u : (Nat × Nat) × Nat), 400 ≤ u.1.1 + k → ru_lp B (k + 1) u = ru_lp B k u
  | 0, u, h => by
    have e : ¬ B u.1.1 = 59 := by rw [hB u.1.1 (by omega)]; decide
    show (if B u.1.1 = 59 then _ else []) = []
    rw [if_neg e]
  | k + 1, u, h => by
    by_cases z : B u.1.1 = 59
    · have p1 := pz_nt_gt (B := B) (p := u.1.1) (by omega)
      have q1 : (pz_nx B u.1).1 = pz_nt B u.1.1 := rfl
      show (if B u.1.1 = 59 then ru_cl B (pz_nx B u.1) :: (match pz_cla B u.2 (pz_nx B u.1) with | .ok t => ru_lp B (k + 1) (t, u.2 + 1) | .error _ => []) else []) = (if B u.1.1 = 59 then ru_cl B (pz_nx B u.1) :: (match pz_cla B u.2 (pz_nx B u.1) with | .ok t => ru_lp B k (t, u.2 + 1) | .error _ => []) else [])
      rw [if_pos z, if_pos z]
      cases e : pz_cla B u.2 (pz_nx B u.1) with
      | error y => rfl
      | ok t =>
        have h3 := (pz_cla_gt hB e).2
        show ru_cl B (pz_nx B u.1) :: ru_lp B (k + 1) (t, u.2 + 1) = ru_cl B (pz_nx B u.1) :: ru_lp B k (t, u.2 + 1)
        rw [ru_lp_big hB k (t, u.2 + 1) (by show 400 ≤ t.1 + k; omega)]
    · show (if B u.1.1 = 59 then _ else []) = (if B u.1.1 = 59 then _ else [])
      rw [if_neg z, if_neg z]
theorem ru_lp_on {B : Nat → Int} (hB : pz_fi B) {u : (Nat × Nat) × Nat} {t : Nat × Nat} (h : B u.1.1 = 59) (e : pz_cla B u.2 (pz_nx B u.1) = .ok t) : ru_lp B 401 u = ru_cl B (pz_nx B u.1) :: ru_lp B 401 (t, u.2 + 1) := by
  show (if B u.1.1 = 59 then ru_cl B (pz_nx B u.1) :: (match pz_cla B u.2 (pz_nx B u.1) with | .ok t => ru_lp B 400 (t, u.2 + 1) | .error _ => []) else []) = _
  rw [if_pos h, e]
  show ru_cl B (pz_nx B u.1) :: ru_lp B 400 (t, u.2 + 1) = _
  rw [ru_lp_big hB 400 (t, u.2 + 1) (Nat.le_add_left _ _)]
theorem ru_lp_no {B : Nat → Int} {u : (Nat × Nat) × Nat} (h : ¬ B u.1.1 = 59) : ru_lp B 401 u = [] := if_neg h
theorem ru_lp_gd {B : Nat → Int} : ∀ (n : Nat) (u w : (Nat × Nat) × Nat), pz_it (pz_rF B) n u = .ok w → u.1.2 ≤ 60 → u.2 ≤ 12 → ru_ok (ru_lp B n u) ∧ (ru_fl (ru_lp B n u)).length + u.1.1 ≤ w.1.1 ∧ (ru_lp B n u).length + u.2 ≤ 12
  | 0, u, w, h, _, hl => by cases h; exact ⟨trivial, by show 0 + u.1.1 ≤ u.1.1; omega, by show 0 + u.2 ≤ 12; omega⟩
  | n + 1, u, w, h, h6, hl => by
    rw [pz_it] at h
    by_cases z : B u.1.1 = 59
    · have e1 : pz_rF B u = some (pz_b (pz_cla B u.2 (pz_nx B u.1)) (fun t => .ok (t, u.2 + 1))) := if_pos z
      rw [e1] at h
      have p1 := pz_nt_gt (B := B) (p := u.1.1) (by omega)
      have q1 : (pz_nx B u.1).1 = pz_nt B u.1.1 := rfl
      have q2 : (pz_nx B u.1).2 = u.1.2 := rfl
      cases e : pz_cla B u.2 (pz_nx B u.1) with
      | error y => rw [e] at h; cases h
      | ok t =>
        rw [e] at h
        have h : pz_it (pz_rF B) n (t, u.2 + 1) = .ok w := h
        obtain ⟨a1, a2, a3, a4, a5⟩ := ru_cl_gd e (by omega) (ru_lp B n (t, u.2 + 1))
        obtain ⟨i1, i2, i3⟩ := ru_lp_gd n (t, u.2 + 1) w h a4 (by show u.2 + 1 ≤ 12; omega)
        have e2 : ru_lp B (n + 1) u = ru_cl B (pz_nx B u.1) :: ru_lp B n (t, u.2 + 1) := by
          show (if B u.1.1 = 59 then ru_cl B (pz_nx B u.1) :: (match pz_cla B u.2 (pz_nx B u.1) with | .ok t => ru_lp B n (t, u.2 + 1) | .error _ => []) else []) = _
          rw [if_pos z, e]
        have i2 : (ru_fl (ru_lp B n (t, u.2 + 1))).length + t.1 ≤ w.1.1 := i2
        have i3 : (ru_lp B n (t, u.2 + 1)).length + (u.2 + 1) ≤ 12 := i3
        rw [e2]
        refine ⟨a1 i1, ?_, ?_⟩
        · rw [ru_fl_c, List.length_append]; omega
        · rw [List.length_cons]; omega
    · have e1 : pz_rF B u = none := if_neg z
      rw [e1] at h
      have h : (Except.ok u : Except Int ((Nat × Nat) × Nat)) = .ok w := h
      cases h
      have e2 : ru_lp B (n + 1) u = [] := if_neg z
      rw [e2]
      exact ⟨trivial, by show 0 + u.1.1 ≤ u.1.1; omega, by show 0 + u.2 ≤ 12; omega⟩
theorem ru_of_gd {B : Nat → Int} {p : Nat} (h : pz_rule B = .ok p) : ru_ok (ru_of B) ∧ (ru_fl (ru_of B)).length ≤ p ∧ (ru_of B).length ≤ 12 := by
  unfold pz_rule at h
  unfold ru_of
  cases e : pz_cla B 0 (pz_sk B 0, 0) with
  | error y => rw [e] at h; cases h
  | ok t =>
    rw [e] at h
    have h : pz_b (pz_lp (pz_rF B) (t, 1)) (fun u => pz_end B u.1.1) = .ok p := h
    cases e2 : pz_lp (pz_rF B) (t, 1) with
    | error y => rw [e2] at h; cases h
    | ok w =>
      rw [e2] at h
      have h : pz_end B w.1.1 = .ok p := h
      have ep : w.1.1 = p := by
        unfold pz_end at h
        by_cases z : B w.1.1 = -1
        · rw [if_pos z] at h; cases h; rfl
        · rw [if_neg z] at h; cases h
      obtain ⟨a1, a2, a3, a4, a5⟩ := ru_cl_gd e (by show 0 ≤ 60; omega) (ru_lp B 401 (t, 1))
      obtain ⟨i1, i2, i3⟩ := ru_lp_gd 401 (t, 1) w e2 a4 (by show 1 ≤ 12; omega)
      have i2 : (ru_fl (ru_lp B 401 (t, 1))).length + t.1 ≤ w.1.1 := i2
      have i3 : (ru_lp B 401 (t, 1)).length + 1 ≤ 12 := i3
      show ru_ok (ru_cl B (pz_sk B 0, 0) :: ru_lp B 401 (t, 1)) ∧ (ru_fl (ru_cl B (pz_sk B 0, 0) :: ru_lp B 401 (t, 1))).length ≤ p ∧ (ru_cl B (pz_sk B 0, 0) :: ru_lp B 401 (t, 1)).length ≤ 12
      refine ⟨a1 i1, ?_, ?_⟩
      · rw [ru_fl_c, List.length_append]; omega
      · rw [List.length_cons]; omega
