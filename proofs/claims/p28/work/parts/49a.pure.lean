/-! the readers' language as functions of the bytes (-1 behind the last one): what class and reference have in common -/
def pz_run (P : Int → Bool) (B : Nat → Int) : Nat → Nat → Nat
  | 0, p => p
  | k + 1, p => if P (B p) = true then pz_run P B k (p + 1) else p
theorem pz_run_eq {P : Int → Bool} {B : Nat → Int} : ∀ (k p q : Nat), p ≤ q → q < p + k → (∀ i, p ≤ i → i < q → P (B i) = true) → ¬ P (B q) = true → pz_run P B k p = q
  | 0, p, q, h1, h2, h3, h4 => by omega
  | k + 1, p, q, h1, h2, h3, h4 => by
    unfold pz_run
    by_cases z : p = q
    · subst z; rw [if_neg h4]
    · rw [if_pos (h3 p (Nat.le_refl _) (by omega))]
      exact pz_run_eq k (p + 1) q (by omega) (by omega) (fun i a b => h3 i (by omega) b) h4
theorem pz_run_ge {P : Int → Bool} {B : Nat → Int} : ∀ (k p : Nat), p ≤ pz_run P B k p
  | 0, p => Nat.le_refl _
  | k + 1, p => by
    unfold pz_run
    by_cases z : P (B p) = true
    · rw [if_pos z]; exact Nat.le_trans (Nat.le_succ p) (pz_run_ge k (p + 1))
    · rw [if_neg z]; exact Nat.le_refl _
theorem pz_run_gt {P : Int → Bool} {B : Nat → Int} {k p : Nat} (h : P (B p) = true) : p + 1 ≤ pz_run P B (k + 1) p := by
  unfold pz_run
  rw [if_pos h]
  exact pz_run_ge k (p + 1)
def pz_isS (x : Int) : Bool := decide (x = 32)
def pz_isL (x : Int) : Bool := decide (97 ≤ x ∧ x ≤ 122)
def pz_isD (x : Int) : Bool := decide (48 ≤ x ∧ x ≤ 57)
def pz_sk (B : Nat → Int) (p : Nat) : Nat := pz_run pz_isS B 401 p
def pz_te (B : Nat → Int) (p : Nat) : Nat := if pz_isL (B p) = true then pz_run pz_isL B 401 p else if pz_isD (B p) = true then pz_run pz_isD B 401 p else if B p = -1 then p else if (B p = 60 ∨ B p = 62) ∧ B (p + 1) = 61 then p + 2 else p + 1
def pz_nt (B : Nat → Int) (p : Nat) : Nat := pz_sk B (pz_te B p)
theorem pz_te_gt {B : Nat → Int} {p : Nat} (h : B p ≠ -1) : p + 1 ≤ pz_te B p := by
  unfold pz_te
  split
  · exact pz_run_gt ‹_›
  · split
    · exact pz_run_gt ‹_›
    · split <;> omega
theorem pz_nt_gt {B : Nat → Int} {p : Nat} (h : B p ≠ -1) : p + 1 ≤ pz_nt B p := Nat.le_trans (pz_te_gt h) (pz_run_ge _ _)
def pz_b {S T : Type} (r : Except Int S) (f : S → Except Int T) : Except Int T := match r with
  | .error e => .error e
  | .ok s => f s
theorem pz_b_ok {S T : Type} {s : S} {f : S → Except Int T} : pz_b (.ok s) f = f s := rfl
theorem pz_b_er {S T : Type} {e : Int} {f : S → Except Int T} : pz_b (.error e) f = .error e := rfl
theorem pz_b_as {S T U : Type} {r : Except Int S} {f : S → Except Int T} {g : T → Except Int U} : pz_b (pz_b r f) g = pz_b r (fun s => pz_b (f s) g) := by cases r <;> rfl
theorem pz_b_id {S : Type} {r : Except Int S} : pz_b r .ok = r := by cases r <;> rfl
def pz_it {S : Type} (F : S → Option (Except Int S)) : Nat → S → Except Int S
  | 0, s => .ok s
  | k + 1, s => match F s with
    | none => .ok s
    | some r => pz_b r (pz_it F k)
/-- each turn of a loop goes on along the bytes -/
def pz_pr {S : Type} (pos : S → Nat) (F : S → Option (Except Int S)) : Prop := ∀ s r, F s = some r → pos s < 400 ∧ ∀ s', r = .ok s' → pos s < pos s'
theorem pz_it_big {S : Type} {pos : S → Nat} {F : S → Option (Except Int S)} (hF : pz_pr pos F) : ∀ (k : Nat) (s : S), 400 ≤ pos s + k → pz_it F (k + 1) s = pz_it F k s := by
  intro k
  induction k with
  | zero =>
    intro s h
    show (match F s with | none => Except.ok s | some r => pz_b r (pz_it F 0)) = Except.ok s
    cases e : F s with
    | none => rfl
    | some r => exact absurd (hF s r e).1 (by omega)
  | succ k ih =>
    intro s h
    show (match F s with | none => Except.ok s | some r => pz_b r (pz_it F (k + 1))) = (match F s with | none => Except.ok s | some r => pz_b r (pz_it F k))
    cases e : F s with
    | none => rfl
    | some r =>
      cases r with
      | error z => rfl
      | ok s' =>
        have := (hF s _ e).2 s' rfl
        exact ih s' (by omega)
def pz_lp {S : Type} (F : S → Option (Except Int S)) (s : S) : Except Int S := pz_it F 401 s
theorem pz_lp_no {S : Type} {F : S → Option (Except Int S)} {s : S} (h : F s = none) : pz_lp F s = .ok s := by
  show (match F s with | none => Except.ok s | some r => pz_b r (pz_it F 400)) = Except.ok s
  rw [h]
theorem pz_lp_on {S : Type} {pos : S → Nat} {F : S → Option (Except Int S)} (hF : pz_pr pos F) {s : S} {r : Except Int S} (h : F s = some r) : pz_lp F s = pz_b r (pz_lp F) := by
  show (match F s with | none => Except.ok s | some r => pz_b r (pz_it F 400)) = pz_b r (pz_it F 401)
  rw [h]
  cases r with
  | error z => show pz_b (Except.error z) (pz_it F 400) = _; rw [pz_b_er, pz_b_er]
  | ok s' =>
    have e : pz_it F (400 + 1) s' = pz_it F 400 s' := pz_it_big hF 400 s' (Nat.le_add_left _ _)
    have e' : (400 + 1 : Nat) = 401 := rfl
    rw [e'] at e
    show pz_b (Except.ok s') (pz_it F 400) = _
    rw [pz_b_ok, pz_b_ok, e]
/-- a loop goes on, or stays where it is -/
theorem pz_it_ge {S : Type} {pos : S → Nat} {F : S → Option (Except Int S)} (hF : pz_pr pos F) : ∀ (k : Nat) (s s' : S), pz_it F k s = .ok s' → pos s ≤ pos s' := by
  intro k
  induction k with
  | zero => intro s s' h; cases h; exact Nat.le_refl _
  | succ k ih =>
    intro s s' h
    have h : (match F s with | none => Except.ok s | some r => pz_b r (pz_it F k)) = Except.ok s' := h
    cases e : F s with
    | none => rw [e] at h; cases h; exact Nat.le_refl _
    | some r =>
      rw [e] at h
      cases r with
      | error z => cases h
      | ok s1 =>
        have h1 := (hF s _ e).2 s1 rfl
        have h2 := ih s1 s' h
        omega
theorem pz_lp_ge {S : Type} {pos : S → Nat} {F : S → Option (Except Int S)} (hF : pz_pr pos F) {s s' : S} (h : pz_lp F s = .ok s') : pos s ≤ pos s' := pz_it_ge hF 401 s s' h
/-- nothing stands behind the last byte -/
def pz_fi (B : Nat → Int) : Prop := ∀ k, 400 ≤ k → B k = -1
theorem pz_fi.lt {B : Nat → Int} (h : pz_fi B) {p : Nat} (hp : B p ≠ -1) : p < 400 := Nat.lt_of_not_le (fun z => hp (h p z))
def pz_er (k : Int) (p : Nat) : Int := 1 + 8 * (p : Int) + k
/-- the number of k digits from p on -/
def pz_nv (B : Nat → Int) (p : Nat) : Nat → Int
  | 0 => 0
  | k + 1 => 10 * pz_nv B p k + (B (p + k) - 48)
def pz_num (B : Nat → Int) (lo hi : Int) (p : Nat) : Except Int Int := if pz_isD (B p) = true then (if 5 < pz_te B p - p then .error (pz_er 1 p) else if pz_nv B p (pz_te B p - p) < lo ∨ hi < pz_nv B p (pz_te B p - p) then .error (pz_er 1 p) else .ok (pz_nv B p (pz_te B p - p))) else .error (pz_er 0 p)
def pz_wd (B : Nat → Int) (p : Nat) (w : List Int) : Bool := decide (pz_te B p = p + w.length ∧ ∀ i, i < w.length → B (p + i) = w.getD i 0)
/-- which of the words stands there -/
def pz_wa (B : Nat → Int) (p : Nat) : List (List Int) → Int → Int
  | [], _ => -1
  | w :: t, k => if pz_wd B p w = true then k else pz_wa B p t (k + 1)
theorem pz_wa_hit {B : Nat → Int} {p : Nat} : ∀ (ws : List (List Int)) (k : Int), 0 ≤ k → pz_wa B p ws k ≠ -1 → ∃ w ∈ ws, pz_wd B p w = true
  | [], k, _, h => absurd rfl h
  | w :: t, k, h0, h => by
    by_cases z : pz_wd B p w = true
    · exact ⟨w, List.mem_cons_self, z⟩
    · have e : pz_wa B p (w :: t) k = pz_wa B p t (k + 1) := by show (if _ then _ else _) = _; rw [if_neg z]
      rw [e] at h
      obtain ⟨v, hv, hw⟩ := pz_wa_hit t (k + 1) (by omega) h
      exact ⟨v, List.mem_cons_of_mem _ hv, hw⟩
def pz_buyer : List Int := [98, 117, 121, 101, 114]
def pz_words : List (List Int) := [pz_buyer, [116, 101, 109, 112, 101, 114], [103, 114, 97, 105, 110, 115], [119, 97, 105, 116, 115], [115, 116, 105, 108, 108], [110, 101, 120, 116], [115, 104, 101, 108, 102], [98, 111, 117, 103, 104, 116], [109, 101, 116], [115, 105, 110, 99, 101], [115, 111, 108, 100], [99, 108, 111, 99, 107], [100, 97, 121]]
def pz_book : List Int := [98, 111, 111, 107]
def pz_sky : List Int := [115, 107, 121]
def pz_watch : List Int := [119, 97, 116, 99, 104]
def pz_buy : List Int := [98, 117, 121]
def pz_if : List Int := [105, 102]
def pz_not : List Int := [110, 111, 116]
def pz_and : List Int := [97, 110, 100]
def pz_or : List Int := [111, 114]
/-- a word that is not empty stands on a byte -/
theorem pz_wd_ne {B : Nat → Int} {p : Nat} {w : List Int} (h : pz_wd B p w = true) (hw : 0 < w.length) (h1 : w.getD 0 0 ≠ -1) : B p ≠ -1 := by
  have := (of_decide_eq_true h).2 0 hw
  rw [Nat.add_zero] at this
  rw [this]
  exact h1
section PZ
variable (B : Nat → Int)
def pz_nx (s : Nat × Nat) : Nat × Nat := (pz_nt B s.1, s.2)
/-- one more that is counted: 60 are most -/
def pz_cnt (s : Nat × Nat) : Except Int (Nat × Nat) := if 60 ≤ s.2 then .error (pz_er 3 s.1) else .ok (pz_nt B s.1, s.2 + 1)
def pz_val (s : Nat × Nat) : Except Int (Nat × Nat) := if pz_isD (B s.1) = true then pz_b (pz_num B 0 99999 s.1) (fun _ => pz_cnt B s) else if pz_wa B s.1 pz_words 0 = -1 then .error (pz_er 0 s.1) else pz_cnt B s
def pz_op (x : Int) : Prop := x = 43 ∨ x = 45 ∨ x = 42 ∨ x = 47 ∨ x = 37
def pz_sF (s : Nat × Nat) : Option (Except Int (Nat × Nat)) := if B s.1 = 43 ∨ B s.1 = 45 ∨ B s.1 = 42 ∨ B s.1 = 47 ∨ B s.1 = 37 then some (pz_val B (pz_nx B s)) else none
def pz_sum (s : Nat × Nat) : Except Int (Nat × Nat) := pz_b (pz_val B s) (pz_lp (pz_sF B))
def pz_cmp (s : Nat × Nat) : Except Int (Nat × Nat) := if B s.1 = 60 ∨ B s.1 = 61 ∨ B s.1 = 62 then pz_cnt B s else .error (pz_er 0 s.1)
def pz_com (s : Nat × Nat) : Except Int (Nat × Nat) := pz_b (pz_b (pz_sum B s) (pz_cmp B)) (pz_sum B)
def pz_tF (f : Nat × Nat → Except Int (Nat × Nat)) (s : Nat × Nat) : Option (Except Int (Nat × Nat)) := if pz_wd B s.1 pz_and = true ∨ pz_wd B s.1 pz_or = true then some (f (pz_nx B s)) else none
def pz_rb (s : Nat × Nat) : Except Int (Nat × Nat) := if B s.1 = 93 then .ok (pz_nx B s) else .error (pz_er 0 s.1)
def pz_tst (f : Nat × Nat → Except Int (Nat × Nat)) (s : Nat × Nat) : Except Int (Nat × Nat) := pz_b (f s) (pz_lp (pz_tF B f))
def pz_fact : Nat → Nat × Nat → Except Int (Nat × Nat)
  | 0, s => if pz_wd B s.1 pz_not = true ∨ B s.1 = 91 then .error (pz_er 2 s.1) else pz_com B s
  | m + 1, s => if pz_wd B s.1 pz_not = true then pz_fact m (pz_nx B s) else if B s.1 = 91 then pz_b (pz_tst B (pz_fact m) (pz_nx B s)) (pz_rb B) else pz_com B s
/-- a clause: buy, a sum, and a test perhaps -/
def pz_cla (l : Nat) (s : Nat × Nat) : Except Int (Nat × Nat) := if pz_wd B s.1 pz_buy = true then (if l = 12 then .error (pz_er 4 s.1) else pz_b (pz_sum B (pz_nx B s)) (fun t => if pz_wd B t.1 pz_if = true then pz_tst B (pz_fact B 10) (pz_nx B t) else .ok t)) else .error (pz_er 0 s.1)
def pz_rF (u : (Nat × Nat) × Nat) : Option (Except Int ((Nat × Nat) × Nat)) := if B u.1.1 = 59 then some (pz_b (pz_cla B u.2 (pz_nx B u.1)) (fun t => .ok (t, u.2 + 1))) else none
def pz_end (p : Nat) : Except Int Nat := if B p = -1 then .ok p else .error (pz_er 0 p)
/-- a rule's text: the fault, or none -/
def pz_rule : Except Int Nat := pz_b (pz_b (pz_b (pz_cla B 0 (pz_sk B 0, 0)) (fun t => .ok (t, 1))) (pz_lp (pz_rF B))) (fun u => pz_end B u.1.1)
end PZ
/-! all of them go on along the bytes -/
section PZP
variable {B : Nat → Int}
theorem pz_cnt_gt {s t : Nat × Nat} (h : pz_cnt B s = .ok t) (hb : B s.1 ≠ -1) : s.1 < t.1 := by
  unfold pz_cnt at h
  by_cases z : 60 ≤ s.2
  · rw [if_pos z] at h; cases h
  · rw [if_neg z] at h; cases h; exact pz_nt_gt hb
theorem pz_isD_ne {x : Int} (h : pz_isD x = true) : x ≠ -1 := by
  have := of_decide_eq_true h
  omega
theorem pz_words_ne : ∀ w ∈ pz_words, 0 < w.length ∧ w.getD 0 0 ≠ -1 := by decide
theorem pz_val_gt {s t : Nat × Nat} (h : pz_val B s = .ok t) : B s.1 ≠ -1 ∧ s.1 < t.1 := by
  unfold pz_val at h
  by_cases z : pz_isD (B s.1) = true
  · rw [if_pos z] at h
    have hb := pz_isD_ne z
    cases e : pz_num B 0 99999 s.1 with
    | error x => rw [e] at h; cases h
    | ok x => rw [e] at h; exact ⟨hb, pz_cnt_gt h hb⟩
  · rw [if_neg z] at h
    by_cases y : pz_wa B s.1 pz_words 0 = -1
    · rw [if_pos y] at h; cases h
    · rw [if_neg y] at h
      obtain ⟨w, hw, hd⟩ := pz_wa_hit pz_words 0 (Int.le_refl _) y
      have hb := pz_wd_ne hd (pz_words_ne w hw).1 (pz_words_ne w hw).2
      exact ⟨hb, pz_cnt_gt h hb⟩
theorem pz_sF_pr (hB : pz_fi B) : pz_pr (fun s : Nat × Nat => s.1) (pz_sF B) := by
  intro s r h
  unfold pz_sF at h
  by_cases z : B s.1 = 43 ∨ B s.1 = 45 ∨ B s.1 = 42 ∨ B s.1 = 47 ∨ B s.1 = 37
  · rw [if_pos z] at h
    have hb : B s.1 ≠ -1 := by omega
    refine ⟨hB.lt hb, fun t ht => ?_⟩
    cases h
    have h1 := (pz_val_gt ht).2
    have h2 := pz_nt_gt hb
    have h3 : (pz_nx B s).1 = pz_nt B s.1 := rfl
    show s.1 < t.1
    omega
  · rw [if_neg z] at h; cases h
theorem pz_sum_gt (hB : pz_fi B) {s t : Nat × Nat} (h : pz_sum B s = .ok t) : B s.1 ≠ -1 ∧ s.1 < t.1 := by
  unfold pz_sum at h
  cases e : pz_val B s with
  | error x => rw [e] at h; cases h
  | ok s1 =>
    rw [e] at h
    have h1 := pz_val_gt e
    have h2 : s1.1 ≤ t.1 := pz_lp_ge (pz_sF_pr hB) h
    exact ⟨h1.1, by omega⟩
theorem pz_com_gt (hB : pz_fi B) {s t : Nat × Nat} (h : pz_com B s = .ok t) : B s.1 ≠ -1 ∧ s.1 < t.1 := by
  unfold pz_com at h
  cases e : pz_sum B s with
  | error x => rw [e] at h; cases h
  | ok s1 =>
    rw [e] at h
    have h1 := pz_sum_gt hB e
    have h : pz_b (pz_cmp B s1) (pz_sum B) = .ok t := h
    cases e2 : pz_cmp B s1 with
    | error x => rw [e2] at h; cases h
    | ok s2 =>
      rw [e2] at h
      have h3 := pz_sum_gt hB h
      unfold pz_cmp at e2
      by_cases z : B s1.1 = 60 ∨ B s1.1 = 61 ∨ B s1.1 = 62
      · rw [if_pos z] at e2
        have := pz_cnt_gt e2 (by omega)
        exact ⟨h1.1, by omega⟩
      · rw [if_neg z] at e2; cases e2
theorem pz_and_ne {p : Nat} (h : pz_wd B p pz_and = true ∨ pz_wd B p pz_or = true) : B p ≠ -1 := by
  rcases h with h | h
  · exact pz_wd_ne h (by decide) (by decide)
  · exact pz_wd_ne h (by decide) (by decide)
theorem pz_tF_pr (hB : pz_fi B) {f : Nat × Nat → Except Int (Nat × Nat)} (hf : ∀ s t, f s = .ok t → B s.1 ≠ -1 ∧ s.1 < t.1) : pz_pr (fun s : Nat × Nat => s.1) (pz_tF B f) := by
  intro s r h
  unfold pz_tF at h
  by_cases z : pz_wd B s.1 pz_and = true ∨ pz_wd B s.1 pz_or = true
  · rw [if_pos z] at h
    have hb : B s.1 ≠ -1 := pz_and_ne z
    refine ⟨hB.lt hb, fun t ht => ?_⟩
    cases h
    have h1 := (hf _ _ ht).2
    have h2 := pz_nt_gt hb
    have h3 : (pz_nx B s).1 = pz_nt B s.1 := rfl
    show s.1 < t.1
    omega
  · rw [if_neg z] at h; cases h
theorem pz_tst_gt (hB : pz_fi B) {f : Nat × Nat → Except Int (Nat × Nat)} (hf : ∀ s t, f s = .ok t → B s.1 ≠ -1 ∧ s.1 < t.1) {s t : Nat × Nat} (h : pz_tst B f s = .ok t) : B s.1 ≠ -1 ∧ s.1 < t.1 := by
  unfold pz_tst at h
  cases e : f s with
  | error x => rw [e] at h; cases h
  | ok s1 =>
    rw [e] at h
    have h1 := hf _ _ e
    have h2 : s1.1 ≤ t.1 := pz_lp_ge (pz_tF_pr hB hf) h
    exact ⟨h1.1, by omega⟩
theorem pz_not_ne {p : Nat} (h : pz_wd B p pz_not = true) : B p ≠ -1 := pz_wd_ne h (by decide) (by decide)
theorem pz_fact_gt (hB : pz_fi B) : ∀ (m : Nat) (s t : Nat × Nat), pz_fact B m s = .ok t → B s.1 ≠ -1 ∧ s.1 < t.1
  | 0, s, t, h => by
    unfold pz_fact at h
    by_cases z : pz_wd B s.1 pz_not = true ∨ B s.1 = 91
    · rw [if_pos z] at h; cases h
    · rw [if_neg z] at h; exact pz_com_gt hB h
  | m + 1, s, t, h => by
    unfold pz_fact at h
    by_cases z : pz_wd B s.1 pz_not = true
    · rw [if_pos z] at h
      have h1 := (pz_fact_gt hB m _ _ h).2
      have hb := pz_not_ne z
      have h2 := pz_nt_gt hb
      have h3 : (pz_nx B s).1 = pz_nt B s.1 := rfl
      exact ⟨hb, by omega⟩
    · rw [if_neg z] at h
      by_cases y : B s.1 = 91
      · rw [if_pos y] at h
        have hb : B s.1 ≠ -1 := by omega
        cases e : pz_tst B (pz_fact B m) (pz_nx B s) with
        | error x => rw [e] at h; cases h
        | ok s1 =>
          rw [e] at h
          have h1 := (pz_tst_gt hB (pz_fact_gt hB m) e).2
          have h : pz_rb B s1 = .ok t := h
          unfold pz_rb at h
          by_cases x : B s1.1 = 93
          · rw [if_pos x] at h
            cases h
            have h2 := pz_nt_gt hb
            have h3 : (pz_nx B s).1 = pz_nt B s.1 := rfl
            have h4 := pz_nt_gt (B := B) (p := s1.1) (by omega)
            have h5 : (pz_nx B s1).1 = pz_nt B s1.1 := rfl
            exact ⟨hb, by omega⟩
          · rw [if_neg x] at h; cases h
      · rw [if_neg y] at h; exact pz_com_gt hB h
/-! the loops' turns -/
theorem pz_sum_on (hB : pz_fi B) {s : Nat × Nat} (h : B s.1 = 43 ∨ B s.1 = 45 ∨ B s.1 = 42 ∨ B s.1 = 47 ∨ B s.1 = 37) : pz_lp (pz_sF B) s = pz_sum B (pz_nx B s) := pz_lp_on (pz_sF_pr hB) (if_pos h)
theorem pz_sum_no {s : Nat × Nat} (h : ¬ (B s.1 = 43 ∨ B s.1 = 45 ∨ B s.1 = 42 ∨ B s.1 = 47 ∨ B s.1 = 37)) : pz_lp (pz_sF B) s = .ok s := pz_lp_no (if_neg h)
theorem pz_tst_on (hB : pz_fi B) {m : Nat} {s : Nat × Nat} (h : pz_wd B s.1 pz_and = true ∨ pz_wd B s.1 pz_or = true) : pz_lp (pz_tF B (pz_fact B m)) s = pz_tst B (pz_fact B m) (pz_nx B s) := pz_lp_on (pz_tF_pr hB (pz_fact_gt hB m)) (if_pos h)
theorem pz_tst_no {f : Nat × Nat → Except Int (Nat × Nat)} {s : Nat × Nat} (h : ¬ (pz_wd B s.1 pz_and = true ∨ pz_wd B s.1 pz_or = true)) : pz_lp (pz_tF B f) s = .ok s := pz_lp_no (if_neg h)
/-! what is still to be read, by the brackets that are open: of each the depth that is left -/
def pz_K (B : Nat → Int) : List Nat → Except Int (Nat × Nat) → Except Int (Nat × Nat)
  | [], r => r
  | [m], r => pz_b r (pz_lp (pz_tF B (pz_fact B m)))
  | m :: m' :: ms, r => pz_K B (m' :: ms) (pz_b (pz_b r (pz_lp (pz_tF B (pz_fact B m)))) (pz_rb B))
theorem pz_K_er {e : Int} : ∀ (S : List Nat), pz_K B S (.error e) = .error e
  | [] => rfl
  | [_] => rfl
  | _ :: m' :: ms => pz_K_er (m' :: ms)
/-- a not: one level less is left -/
theorem pz_K_not {S : List Nat} {m : Nat} {s : Nat × Nat} (h : pz_wd B s.1 pz_not = true) : pz_K B S (pz_fact B (m + 1) s) = pz_K B S (pz_fact B m (pz_nx B s)) := by
  rw [show pz_fact B (m + 1) s = pz_fact B m (pz_nx B s) from if_pos h]
/-- a bracket opens -/
theorem pz_K_open {S : List Nat} {m m' : Nat} {s : Nat × Nat} (h : ¬ pz_wd B s.1 pz_not = true) (h1 : B s.1 = 91) : pz_K B (m' :: S) (pz_fact B (m + 1) s) = pz_K B (m :: m' :: S) (pz_fact B m (pz_nx B s)) := by
  rw [show pz_fact B (m + 1) s = pz_b (pz_tst B (pz_fact B m) (pz_nx B s)) (pz_rb B) from (if_neg h).trans (if_pos h1)]
  rfl
theorem pz_K_deep {S : List Nat} {s : Nat × Nat} (h : pz_wd B s.1 pz_not = true ∨ B s.1 = 91) : pz_K B S (pz_fact B 0 s) = .error (pz_er 2 s.1) := by
  rw [show pz_fact B 0 s = .error (pz_er 2 s.1) from if_pos h]
  exact pz_K_er S
theorem pz_K_com {S : List Nat} {m : Nat} {s : Nat × Nat} (h : ¬ pz_wd B s.1 pz_not = true) (h1 : ¬ B s.1 = 91) : pz_K B S (pz_fact B m s) = pz_K B S (pz_com B s) := by
  cases m with
  | zero => rw [show pz_fact B 0 s = pz_com B s from if_neg (by intro z; rcases z with z | z; exact h z; exact h1 z)]
  | succ m => rw [show pz_fact B (m + 1) s = pz_com B s from (if_neg h).trans (if_neg h1)]
/-- a bracket closes -/
theorem pz_K_close {S : List Nat} {m m' : Nat} {s : Nat × Nat} (h : B s.1 = 93) : pz_K B (m :: m' :: S) (.ok s) = pz_K B (m' :: S) (.ok (pz_nx B s)) := by
  have e : pz_lp (pz_tF B (pz_fact B m)) s = .ok s := pz_tst_no (fun z => by
    rcases z with z | z
    · have := (of_decide_eq_true z).2 0 (by decide)
      rw [Nat.add_zero, h] at this
      exact absurd this (by decide)
    · have := (of_decide_eq_true z).2 0 (by decide)
      rw [Nat.add_zero, h] at this
      exact absurd this (by decide))
  show pz_K B (m' :: S) (pz_b (pz_b (.ok s) (pz_lp (pz_tF B (pz_fact B m)))) (pz_rb B)) = _
  rw [show pz_b (Except.ok s) (pz_lp (pz_tF B (pz_fact B m))) = pz_lp (pz_tF B (pz_fact B m)) s from rfl, e]
  rw [show pz_b (Except.ok s) (pz_rb B) = pz_rb B s from rfl, show pz_rb B s = .ok (pz_nx B s) from if_pos h]
/-- and, or -/
theorem pz_K_and (hB : pz_fi B) {S : List Nat} {m : Nat} {s : Nat × Nat} (h : pz_wd B s.1 pz_and = true ∨ pz_wd B s.1 pz_or = true) : pz_K B (m :: S) (.ok s) = pz_K B (m :: S) (pz_fact B m (pz_nx B s)) := by
  have e := pz_tst_on hB (m := m) h
  cases S with
  | nil => exact e
  | cons m' S =>
    show pz_K B (m' :: S) (pz_b (pz_lp (pz_tF B (pz_fact B m)) s) (pz_rb B)) = pz_K B (m' :: S) (pz_b (pz_b (pz_fact B m (pz_nx B s)) (pz_lp (pz_tF B (pz_fact B m)))) (pz_rb B))
    rw [e]
    rfl
theorem pz_K_in {S : List Nat} {m m' : Nat} {s : Nat × Nat} (h : ¬ (pz_wd B s.1 pz_and = true ∨ pz_wd B s.1 pz_or = true)) (h1 : ¬ B s.1 = 93) : pz_K B (m :: m' :: S) (.ok s) = .error (pz_er 0 s.1) := by
  show pz_K B (m' :: S) (pz_b (pz_lp (pz_tF B (pz_fact B m)) s) (pz_rb B)) = _
  rw [pz_tst_no h]
  rw [show pz_b (Except.ok s) (pz_rb B) = pz_rb B s from rfl, show pz_rb B s = .error (pz_er 0 s.1) from if_neg h1]
  exact pz_K_er _
theorem pz_K_out {m : Nat} {s : Nat × Nat} (h : ¬ (pz_wd B s.1 pz_and = true ∨ pz_wd B s.1 pz_or = true)) : pz_K B [m] (.ok s) = .ok s := pz_tst_no h
end PZP
