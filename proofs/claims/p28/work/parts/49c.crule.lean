theorem TpR.okc {f : Nat → Int32} {n : Int32} {r : Except Int (Nat × Nat)} {a b c d : Int32} (h : TpR f n r a b c d) (hc : 0 ≤ c.toInt) : ∃ s, r = .ok s ∧ d.toInt = 0 ∧ a.toInt = (s.1 : Int) ∧ b.toInt = (pz_te (cB f n) s.1 : Int) ∧ c.toInt = cB f n s.1 := by
  cases r with
  | error e => have := h.2.2; omega
  | ok s => exact ⟨s, rfl, h⟩
theorem rNU_nd {f : Nat → Int32} {n : Int32} {r : Except Int (Nat × Nat)} {a b c d : Int32} {lo hi : Int} (h : TpR f n r a b c d) (hc : ¬ (48 ≤ c.toInt ∧ c.toInt ≤ 57)) : rNU (cB f n) lo hi r = rER 0 r := by
  cases r with
  | error e => rfl
  | ok s =>
    have h1 := h.2.2.2
    show pz_b (pz_num (cB f n) lo hi s.1) (fun _ => .ok s) = .error (pz_er 0 s.1)
    rw [show pz_num (cB f n) lo hi s.1 = .error (pz_er 0 s.1) from if_neg (fun z => hc (by rw [h1]; exact of_decide_eq_true z))]
    rfl
theorem NuV.nd {f : Nat → Int32} {n : Int32} {r : Except Int (Nat × Nat)} {a b c d v : Int32} {lo hi : Int} (h : TpR f n r a b c d) (hc : ¬ (48 ≤ c.toInt ∧ c.toInt ≤ 57)) : NuV (cB f n) lo hi r v := fun s x hs hx => by
  subst hs
  have h1 := h.2.2.2
  rw [show pz_num (cB f n) lo hi s.1 = .error (pz_er 0 s.1) from if_neg (fun z => hc (by rw [h1]; exact of_decide_eq_true z))] at hx
  cases hx
theorem num_dig {B : Nat → Int} {lo hi : Int} {p : Nat} (h : pz_isD (B p) = true) : pz_num B lo hi p = if 5 < pz_te B p - p then .error (pz_er 1 p) else if pz_nv B p (pz_te B p - p) < lo ∨ hi < pz_nv B p (pz_te B p - p) then .error (pz_er 1 p) else .ok (pz_nv B p (pz_te B p - p)) := if_pos h
theorem num_long {f : Nat → Int32} {n : Int32} {s : Nat × Nat} {a b c d : Int32} {lo hi : Int} (h : TpR f n (.ok s) a b c d) (hc : 48 ≤ c.toInt ∧ c.toInt ≤ 57) (hl : 5 < b.toInt - a.toInt) : pz_num (cB f n) lo hi s.1 = .error (pz_er 1 s.1) := by
  have h1 := h.2.2.2
  have h2 := h.2.1
  have h3 := h.2.2.1
  rw [num_dig (decide_eq_true (by rw [← h1]; exact hc)), if_pos (by omega)]
theorem num_val {f : Nat → Int32} {n : Int32} {s : Nat × Nat} {a b c d v : Int32} {lo hi : Int} (h : TpR f n (.ok s) a b c d) (hc : 48 ≤ c.toInt ∧ c.toInt ≤ 57) (hl : b.toInt - a.toInt ≤ 5) (hv : Nv (cB f n) a v b) : pz_num (cB f n) lo hi s.1 = if v.toInt < lo ∨ hi < v.toInt then .error (pz_er 1 s.1) else .ok v.toInt := by
  have h1 := h.2.2.2
  have h2 := h.2.1
  have h3 := h.2.2.1
  have h4 := hv.1
  rw [show a.toInt.toNat = s.1 by omega, show (b.toInt - a.toInt).toNat = pz_te (cB f n) s.1 - s.1 by omega] at h4
  rw [num_dig (decide_eq_true (by rw [← h1]; exact hc)), if_neg (by omega), ← h4]
theorem rNU_long {f : Nat → Int32} {n : Int32} {r : Except Int (Nat × Nat)} {a b c d : Int32} {lo hi : Int} (h : TpR f n r a b c d) (hc : 48 ≤ c.toInt ∧ c.toInt ≤ 57) (hl : 5 < b.toInt - a.toInt) : rNU (cB f n) lo hi r = rER 1 r := by
  obtain ⟨s, rfl, -⟩ := h.okc (by omega)
  show pz_b (pz_num (cB f n) lo hi s.1) (fun _ => .ok s) = .error (pz_er 1 s.1)
  rw [num_long h hc hl]
  rfl
theorem NuV.long {f : Nat → Int32} {n : Int32} {r : Except Int (Nat × Nat)} {a b c d v : Int32} {lo hi : Int} (h : TpR f n r a b c d) (hc : 48 ≤ c.toInt ∧ c.toInt ≤ 57) (hl : 5 < b.toInt - a.toInt) : NuV (cB f n) lo hi r v := fun s x hs hx => by
  subst hs
  rw [num_long h hc hl] at hx
  cases hx
theorem rNU_out {f : Nat → Int32} {n : Int32} {r : Except Int (Nat × Nat)} {a b c d v : Int32} {lo hi : Int} (h : TpR f n r a b c d) (hc : 48 ≤ c.toInt ∧ c.toInt ≤ 57) (hl : b.toInt - a.toInt ≤ 5) (hv : Nv (cB f n) a v b) (ho : v.toInt < lo ∨ hi < v.toInt) : rNU (cB f n) lo hi r = rER 1 r := by
  obtain ⟨s, rfl, -⟩ := h.okc (by omega)
  show pz_b (pz_num (cB f n) lo hi s.1) (fun _ => .ok s) = .error (pz_er 1 s.1)
  rw [num_val h hc hl hv, if_pos ho]
  rfl
theorem NuV.out {f : Nat → Int32} {n : Int32} {r : Except Int (Nat × Nat)} {a b c d v v' : Int32} {lo hi : Int} (h : TpR f n r a b c d) (hc : 48 ≤ c.toInt ∧ c.toInt ≤ 57) (hl : b.toInt - a.toInt ≤ 5) (hv : Nv (cB f n) a v b) (ho : v.toInt < lo ∨ hi < v.toInt) : NuV (cB f n) lo hi r v' := fun s x hs hx => by
  subst hs
  rw [num_val h hc hl hv, if_pos ho] at hx
  cases hx
theorem rNU_ok {f : Nat → Int32} {n : Int32} {r : Except Int (Nat × Nat)} {a b c d v : Int32} {lo hi : Int} (h : TpR f n r a b c d) (hc : 48 ≤ c.toInt ∧ c.toInt ≤ 57) (hl : b.toInt - a.toInt ≤ 5) (hv : Nv (cB f n) a v b) (ho : ¬ (v.toInt < lo ∨ hi < v.toInt)) : rNU (cB f n) lo hi r = r := by
  obtain ⟨s, rfl, -⟩ := h.okc (by omega)
  show pz_b (pz_num (cB f n) lo hi s.1) (fun _ => .ok s) = .ok s
  rw [num_val h hc hl hv, if_neg ho]
  rfl
theorem NuV.ok {f : Nat → Int32} {n : Int32} {r : Except Int (Nat × Nat)} {a b c d v : Int32} {lo hi : Int} (h : TpR f n r a b c d) (hc : 48 ≤ c.toInt ∧ c.toInt ≤ 57) (hl : b.toInt - a.toInt ≤ 5) (hv : Nv (cB f n) a v b) (ho : ¬ (v.toInt < lo ∨ hi < v.toInt)) : NuV (cB f n) lo hi r v := fun s x hs hx => by
  subst hs
  rw [num_val h hc hl hv, if_neg ho] at hx
  cases hx
  rfl
theorem TpR.dig {f : Nat → Int32} {n : Int32} {r : Except Int (Nat × Nat)} {a b c d i : Int32} (h : TpR f n r a b c d) (hc : 48 ≤ c.toInt ∧ c.toInt ≤ 57) (hi : a.toInt ≤ i.toInt ∧ i.toInt < b.toInt) : 48 ≤ cB f n i.toInt.toNat ∧ cB f n i.toInt.toNat ≤ 57 := by
  obtain ⟨s, rfl, h0, h1, h2, h3⟩ := h.okc (by omega)
  exact pz_te_dig (p := s.1) (decide_eq_true (by rw [← h3]; exact hc)) (by omega) (by omega)
def Ctd (r : Except Int (Nat × Nat)) (ct : Int32) : Prop := ∀ s, r = .ok s → ct.toInt = (s.2 : Int)
def rC1 (r : Except Int (Nat × Nat)) : Except Int (Nat × Nat) := pz_b r (fun s => if 60 ≤ s.2 then .error (pz_er 3 s.1) else .ok (s.1, s.2 + 1))
theorem Ctd.nx {B : Nat → Int} {r : Except Int (Nat × Nat)} {ct : Int32} (h : Ctd r ct) : Ctd (rNX B r) ct := fun s hs => by
  cases r with
  | error e => cases hs
  | ok t => cases hs; exact h t rfl
theorem Ctd.er {k : Int} {r : Except Int (Nat × Nat)} {ct : Int32} : Ctd (rER k r) ct := fun s hs => by cases r <;> cases hs
theorem Ctd.nu {B : Nat → Int} {lo hi : Int} {r : Except Int (Nat × Nat)} {ct : Int32} (h : Ctd r ct) : Ctd (rNU B lo hi r) ct := fun s hs => by
  cases r with
  | error e => cases hs
  | ok t =>
    have hs : pz_b (pz_num B lo hi t.1) (fun _ => .ok t) = .ok s := hs
    cases e : pz_num B lo hi t.1 with
    | error z => rw [e] at hs; cases hs
    | ok z => rw [e] at hs; cases hs; exact h s rfl
theorem Ctd.sk {B : Nat → Int} {r : Except Int (Nat × Nat)} {ct : Int32} (h : Ctd r ct) : Ctd (rSK B r) ct := fun s hs => by
  cases r with
  | error e => cases hs
  | ok t => cases hs; exact h t rfl
theorem rC1_hi {r : Except Int (Nat × Nat)} {ct : Int32} (h : Ctd r ct) (h60 : 60 ≤ ct.toInt) : rC1 r = rER 3 r := by
  cases r with
  | error e => rfl
  | ok s => exact if_pos (by have := h s rfl; omega)
theorem TpR.c1 {f : Nat → Int32} {n : Int32} {r : Except Int (Nat × Nat)} {a b c d ct : Int32} (h : TpR f n r a b c d) (hc : Ctd r ct) (h60 : ct.toInt < 60) : TpR f n (rC1 r) a b c d := by
  cases r with
  | error e => exact h
  | ok s =>
    have : rC1 (.ok s) = .ok (s.1, s.2 + 1) := if_neg (by have := hc s rfl; omega)
    rw [this]
    exact h
theorem Ctd.c1 {r : Except Int (Nat × Nat)} {ct ct' : Int32} (hc : Ctd r ct) (h : ct.toInt < 60 → ct'.toInt = ct.toInt + 1) : Ctd (rC1 r) ct' := fun s hs => by
  cases r with
  | error e => cases hs
  | ok t =>
    have hs : (if 60 ≤ t.2 then Except.error (pz_er 3 t.1) else Except.ok (t.1, t.2 + 1)) = Except.ok s := hs
    have h1 := hc t rfl
    by_cases z : 60 ≤ t.2
    · rw [if_pos z] at hs; cases hs
    · rw [if_neg z] at hs
      cases hs
      have := h (by omega)
      show ct'.toInt = ((t.2 + 1 : Nat) : Int)
      omega
theorem val_dig {f : Nat → Int32} {n : Int32} {r : Except Int (Nat × Nat)} {a b c d : Int32} (h : TpR f n r a b c d) (hc : 48 ≤ c.toInt ∧ c.toInt ≤ 57) : pz_b r (pz_val (cB f n)) = rNX (cB f n) (rC1 (rNU (cB f n) 0 99999 r)) := by
  obtain ⟨s, rfl, h0, h1, h2, h3⟩ := h.okc (by omega)
  show pz_val (cB f n) s = _
  unfold pz_val
  rw [if_pos (show pz_isD (cB f n s.1) = true from decide_eq_true (by rw [← h3]; exact hc))]
  show _ = rNX (cB f n) (rC1 (pz_b (pz_num (cB f n) 0 99999 s.1) (fun _ => .ok s)))
  cases pz_num (cB f n) 0 99999 s.1 with
  | error e => rfl
  | ok x =>
    show pz_cnt (cB f n) s = rNX (cB f n) (if 60 ≤ s.2 then .error (pz_er 3 s.1) else .ok (s.1, s.2 + 1))
    unfold pz_cnt
    by_cases z : 60 ≤ s.2
    · rw [if_pos z, if_pos z]; rfl
    · rw [if_neg z, if_neg z]; rfl
theorem val_no {f : Nat → Int32} {n : Int32} {r : Except Int (Nat × Nat)} {a b c d : Int32} (h : TpR f n r a b c d) (hc : ¬ (48 ≤ c.toInt ∧ c.toInt ≤ 57)) (hw : waR (cB f n) (wL 2) 0 r = -1) : pz_b r (pz_val (cB f n)) = rNX (cB f n) (rC1 (rER 0 r)) := by
  cases r with
  | error e => rfl
  | ok s =>
    have h3 := h.2.2.2
    show pz_val (cB f n) s = _
    unfold pz_val
    rw [wL2] at hw
    have hw := hw
    simp only [waR] at hw
    rw [if_neg (fun z => hc (by rw [h3]; exact of_decide_eq_true z)), if_pos hw]
    rfl
theorem val_wd {f : Nat → Int32} {n : Int32} {r : Except Int (Nat × Nat)} {a b c d : Int32} (h : TpR f n r a b c d) (hc : ¬ (48 ≤ c.toInt ∧ c.toInt ≤ 57)) (hw : ¬ waR (cB f n) (wL 2) 0 r = -1) : pz_b r (pz_val (cB f n)) = rNX (cB f n) (rC1 r) := by
  cases r with
  | error e => rfl
  | ok s =>
    have h3 := h.2.2.2
    show pz_val (cB f n) s = _
    unfold pz_val
    rw [wL2] at hw
    have hw := hw
    simp only [waR] at hw
    rw [if_neg (fun z => hc (by rw [h3]; exact of_decide_eq_true z)), if_neg hw]
    show pz_cnt (cB f n) s = rNX (cB f n) (if 60 ≤ s.2 then .error (pz_er 3 s.1) else .ok (s.1, s.2 + 1))
    unfold pz_cnt
    by_cases z : 60 ≤ s.2
    · rw [if_pos z, if_pos z]; rfl
    · rw [if_neg z, if_neg z]; rfl
def SmL (f : Nat → Int32) (n : Int32) (R : Except Int (Nat × Nat)) (a b c d ct i : Int32) : Prop := ∃ q, TpR f n q a b c d ∧ Ctd q ct ∧ R = pz_b q (pz_lp (pz_sF (cB f n))) ∧ ∀ s, q = .ok s → i.toInt ≤ (s.1 : Int)
theorem SmL.first {f : Nat → Int32} {n : Int32} {r : Except Int (Nat × Nat)} {a b c d ct : Int32} (h : TpR f n (pz_b r (pz_val (cB f n))) a b c d) (hc : Ctd (pz_b r (pz_val (cB f n))) ct) : SmL f n (pz_b r (pz_sum (cB f n))) a b c d ct 0 := ⟨_, h, hc, by cases r <;> rfl, fun s _ => Int.natCast_nonneg s.1⟩
theorem sum_turn {f : Nat → Int32} {n : Int32} {q : Except Int (Nat × Nat)} {a b c d : Int32} (hn : n.toInt ≤ 400) (h : TpR f n q a b c d) (hc : c.toInt = 43 ∨ c.toInt = 45 ∨ c.toInt = 42 ∨ c.toInt = 47 ∨ c.toInt = 37) : pz_b q (pz_lp (pz_sF (cB f n))) = pz_b (pz_b (rNX (cB f n) q) (pz_val (cB f n))) (pz_lp (pz_sF (cB f n))) := by
  obtain ⟨s, rfl, h0, h1, h2, h3⟩ := h.okc (by omega)
  rw [h3] at hc
  exact pz_sum_on (cB_fi hn) hc
theorem SmL.next {f : Nat → Int32} {n : Int32} {R q : Except Int (Nat × Nat)} {a b c d a' b' c' d' ct i i' : Int32} (hn : n.toInt ≤ 400) (hq : TpR f n q a b c d) (hR : R = pz_b q (pz_lp (pz_sF (cB f n)))) (hi : ∀ s, q = .ok s → i.toInt ≤ (s.1 : Int)) (hc : c.toInt = 43 ∨ c.toInt = 45 ∨ c.toInt = 42 ∨ c.toInt = 47 ∨ c.toInt = 37) (h : TpR f n (pz_b (rNX (cB f n) q) (pz_val (cB f n))) a' b' c' d') (hct : Ctd (pz_b (rNX (cB f n) q) (pz_val (cB f n))) ct) (hi' : i'.toInt = i.toInt + 1) : SmL f n R a' b' c' d' ct i' := by
  refine ⟨_, h, hct, hR.trans (sum_turn hn hq hc), fun t ht => ?_⟩
  obtain ⟨s, rfl, h0, h1, h2, h3⟩ := hq.okc (by omega)
  have e1 := hi s rfl
  have e2 := (pz_val_gt (show pz_val (cB f n) (pz_nx (cB f n) s) = .ok t from ht)).2
  have e3 := pz_nt_gt (B := cB f n) (p := s.1) (by omega)
  have e4 : (pz_nx (cB f n) s).1 = pz_nt (cB f n) s.1 := rfl
  omega
theorem sum_end {f : Nat → Int32} {n : Int32} {q : Except Int (Nat × Nat)} {a b c d i : Int32} (hn : n.toInt ≤ 400) (h : TpR f n q a b c d) (hi : ∀ s, q = .ok s → i.toInt ≤ (s.1 : Int)) (hc : 400 ≤ i.toInt ∨ ¬ (c.toInt = 43 ∨ c.toInt = 45 ∨ c.toInt = 42 ∨ c.toInt = 47 ∨ c.toInt = 37)) : pz_b q (pz_lp (pz_sF (cB f n))) = q := by
  cases q with
  | error e => rfl
  | ok s =>
    refine pz_sum_no (fun z => ?_)
    have h3 := h.2.2.2
    rcases hc with hc | hc
    · have h4 := hi s rfl
      rw [cB_out (by omega)] at z
      omega
    · rw [← h3] at z; exact hc z
theorem com_yes {f : Nat → Int32} {n : Int32} {q : Except Int (Nat × Nat)} {a b c d : Int32} (h : TpR f n q a b c d) (hc : 60 ≤ c.toInt ∧ c.toInt ≤ 62) : pz_b q (pz_cmp (cB f n)) = rNX (cB f n) (rC1 q) := by
  obtain ⟨s, rfl, h0, h1, h2, h3⟩ := h.okc (by omega)
  show pz_cmp (cB f n) s = rNX (cB f n) (if 60 ≤ s.2 then .error (pz_er 3 s.1) else .ok (s.1, s.2 + 1))
  unfold pz_cmp pz_cnt
  rw [if_pos (by omega)]
  by_cases z : 60 ≤ s.2
  · rw [if_pos z, if_pos z]; rfl
  · rw [if_neg z, if_neg z]; rfl
theorem com_no {f : Nat → Int32} {n : Int32} {q : Except Int (Nat × Nat)} {a b c d : Int32} (h : TpR f n q a b c d) (hc : ¬ (60 ≤ c.toInt ∧ c.toInt ≤ 62)) : pz_b q (pz_cmp (cB f n)) = rNX (cB f n) (rC1 (rER 0 q)) := by
  cases q with
  | error e => rfl
  | ok s =>
    have h3 := h.2.2.2
    show pz_cmp (cB f n) s = .error (pz_er 0 s.1)
    unfold pz_cmp
    rw [if_neg (by omega)]
theorem fact_com {B : Nat → Int} {m : Nat} {r : Except Int (Nat × Nat)} (h1 : NWd B pz_not r) (h2 : NSg B 91 r) : pz_b r (pz_fact B m) = pz_b (pz_b (pz_b r (pz_sum B)) (pz_cmp B)) (pz_sum B) := by
  cases r with
  | error e => rfl
  | ok s =>
    show pz_fact B m s = pz_com B s
    have z1 := h1 s rfl
    have z2 := h2 s rfl
    cases m with
    | zero => exact if_neg (fun z => z.elim z1 z2)
    | succ m => exact (if_neg z1).trans (if_neg z2)
theorem fact_deepN {B : Nat → Int} {r : Except Int (Nat × Nat)} (h1 : TWd B pz_not r) : pz_b r (pz_fact B 0) = rER 2 r := by
  obtain ⟨s, rfl, h⟩ := h1
  exact if_pos (Or.inl h)
theorem fact_deepB {B : Nat → Int} {r : Except Int (Nat × Nat)} (h1 : Sg B 91 r) : pz_b r (pz_fact B 0) = rER 2 r := by
  obtain ⟨s, rfl, h⟩ := h1
  exact if_pos (Or.inr h)
theorem fact_not {B : Nat → Int} {m : Nat} {r : Except Int (Nat × Nat)} (h1 : TWd B pz_not r) : pz_b r (pz_fact B (m + 1)) = pz_b (rNX B r) (pz_fact B m) := by
  obtain ⟨s, rfl, h⟩ := h1
  exact if_pos h
theorem fact_br {B : Nat → Int} {m : Nat} {r : Except Int (Nat × Nat)} (h1 : NWd B pz_not r) (h2 : Sg B 91 r) : pz_b r (pz_fact B (m + 1)) = pz_b (pz_b (rNX B r) (pz_tst B (pz_fact B m))) (pz_rb B) := by
  obtain ⟨s, rfl, h⟩ := h2
  exact (if_neg (h1 s rfl)).trans (if_pos h)
theorem rb_yes {B : Nat → Int} {r : Except Int (Nat × Nat)} (h : Sg B 93 r) : pz_b r (pz_rb B) = rNX B r := by
  obtain ⟨s, rfl, h⟩ := h
  exact if_pos h
theorem rb_no {B : Nat → Int} {r : Except Int (Nat × Nat)} (h : NSg B 93 r) : pz_b r (pz_rb B) = rER 0 r := by
  cases r with
  | error e => rfl
  | ok s => exact if_neg (h s rfl)
def TeL (f : Nat → Int32) (n : Int32) (m : Nat) (R : Except Int (Nat × Nat)) (a b c d ct i : Int32) : Prop := ∃ q, TpR f n q a b c d ∧ Ctd q ct ∧ R = pz_b q (pz_lp (pz_tF (cB f n) (pz_fact (cB f n) m))) ∧ ∀ s, q = .ok s → i.toInt ≤ (s.1 : Int)
theorem TeL.first {f : Nat → Int32} {n : Int32} {m : Nat} {r : Except Int (Nat × Nat)} {a b c d ct : Int32} (h : TpR f n (pz_b r (pz_fact (cB f n) m)) a b c d) (hc : Ctd (pz_b r (pz_fact (cB f n) m)) ct) : TeL f n m (pz_b r (pz_tst (cB f n) (pz_fact (cB f n) m))) a b c d ct 0 := by
  refine ⟨_, h, hc, by cases r <;> rfl, fun s _ => ?_⟩
  have : (0 : Int32).toInt = 0 := by decide
  omega
theorem tst_turn {f : Nat → Int32} {n : Int32} {m : Nat} {q : Except Int (Nat × Nat)} (hn : n.toInt ≤ 400) (hc : TWd (cB f n) pz_and q ∨ TWd (cB f n) pz_or q) : pz_b q (pz_lp (pz_tF (cB f n) (pz_fact (cB f n) m))) = pz_b (pz_b (rNX (cB f n) q) (pz_fact (cB f n) m)) (pz_lp (pz_tF (cB f n) (pz_fact (cB f n) m))) := by
  rcases hc with ⟨s, rfl, h⟩ | ⟨s, rfl, h⟩
  · exact pz_tst_on (cB_fi hn) (Or.inl h)
  · exact pz_tst_on (cB_fi hn) (Or.inr h)
theorem TeL.next {f : Nat → Int32} {n : Int32} {m : Nat} {R q : Except Int (Nat × Nat)} {a' b' c' d' ct i i' : Int32} (hn : n.toInt ≤ 400) (hR : R = pz_b q (pz_lp (pz_tF (cB f n) (pz_fact (cB f n) m)))) (hi : ∀ s, q = .ok s → i.toInt ≤ (s.1 : Int)) (hc : TWd (cB f n) pz_and q ∨ TWd (cB f n) pz_or q) (h : TpR f n (pz_b (rNX (cB f n) q) (pz_fact (cB f n) m)) a' b' c' d') (hct : Ctd (pz_b (rNX (cB f n) q) (pz_fact (cB f n) m)) ct) (hi' : i'.toInt = i.toInt + 1) : TeL f n m R a' b' c' d' ct i' := by
  refine ⟨_, h, hct, hR.trans (tst_turn hn hc), fun t ht => ?_⟩
  have key : ∀ s, q = .ok s → cB f n s.1 ≠ -1 → i'.toInt ≤ (t.1 : Int) := fun s hs hb => by
    subst hs
    have e1 := hi s rfl
    have e2 := (pz_fact_gt (cB_fi hn) m _ _ (show pz_fact (cB f n) m (pz_nx (cB f n) s) = .ok t from ht)).2
    have e3 := pz_nt_gt (B := cB f n) (p := s.1) hb
    have e4 : (pz_nx (cB f n) s).1 = pz_nt (cB f n) s.1 := rfl
    omega
  rcases hc with ⟨s, hs, h⟩ | ⟨s, hs, h⟩
  · exact key s hs (pz_and_ne (Or.inl h))
  · exact key s hs (pz_and_ne (Or.inr h))
theorem tst_end {f : Nat → Int32} {n : Int32} {m : Nat} {q : Except Int (Nat × Nat)} {i : Int32} (hn : n.toInt ≤ 400) (hi : ∀ s, q = .ok s → i.toInt ≤ (s.1 : Int)) (hc : 400 ≤ i.toInt ∨ (NWd (cB f n) pz_and q ∧ NWd (cB f n) pz_or q)) : pz_b q (pz_lp (pz_tF (cB f n) (pz_fact (cB f n) m))) = q := by
  cases q with
  | error e => rfl
  | ok s =>
    refine pz_tst_no (fun z => ?_)
    rcases hc with hc | hc
    · have h4 := hi s rfl
      exact pz_and_ne z (cB_out (by omega))
    · exact z.elim (hc.1 s rfl) (hc.2 s rfl)
def rTG (l : Nat) (r : Except Int (Nat × Nat)) : Except Int ((Nat × Nat) × Nat) := pz_b r (fun t => .ok (t, l))
def RuR (B : Nat → Int) : Except Int ((Nat × Nat) × Nat) := pz_b (rTG 1 (pz_cla B 0 (pz_sk B 0, 0))) (pz_lp (pz_rF B))
def RcL (f : Nat → Int32) (n : Int32) (a b c d ct l : Int32) : Prop := ∃ q, TpR f n q a b c d ∧ Ctd q ct ∧ ((l.toInt = 0 ∧ q = .ok (pz_sk (cB f n) 0, 0)) ∨ (1 ≤ l.toInt ∧ l.toInt ≤ 12 ∧ RuR (cB f n) = pz_b (rTG l.toInt.toNat q) (pz_lp (pz_rF (cB f n)))) ∨ (l.toInt = 13 ∧ ∃ e, q = .error e ∧ RuR (cB f n) = .error e))
theorem cla_no {B : Nat → Int} {l : Nat} {q : Except Int (Nat × Nat)} (h : NWd B pz_buy q) : pz_b q (pz_cla B l) = rER 0 q := by
  cases q with
  | error e => rfl
  | ok s => exact if_neg (h s rfl)
theorem cla_12 {B : Nat → Int} {l : Nat} {q : Except Int (Nat × Nat)} (h : TWd B pz_buy q) (hl : l = 12) : pz_b q (pz_cla B l) = rER 4 q := by
  obtain ⟨s, rfl, h⟩ := h
  exact (if_pos h).trans (if_pos hl)
theorem cla_if {B : Nat → Int} {l : Nat} {q : Except Int (Nat × Nat)} (h : TWd B pz_buy q) (hl : l ≠ 12) (h2 : TWd B pz_if (pz_b (rNX B q) (pz_sum B))) : pz_b q (pz_cla B l) = pz_b (rNX B (pz_b (rNX B q) (pz_sum B))) (pz_tst B (pz_fact B 10)) := by
  obtain ⟨s, rfl, h⟩ := h
  obtain ⟨t, ht, hw⟩ := h2
  have ht : pz_sum B (pz_nx B s) = .ok t := ht
  show pz_cla B l s = _
  unfold pz_cla
  rw [if_pos h, if_neg hl]
  show pz_b (pz_sum B (pz_nx B s)) _ = pz_b (rNX B (pz_sum B (pz_nx B s))) _
  rw [ht]
  exact if_pos hw
theorem cla_un {B : Nat → Int} {l : Nat} {q : Except Int (Nat × Nat)} (h : TWd B pz_buy q) (hl : l ≠ 12) (h2 : NWd B pz_if (pz_b (rNX B q) (pz_sum B))) : pz_b q (pz_cla B l) = pz_b (rNX B q) (pz_sum B) := by
  obtain ⟨s, rfl, h⟩ := h
  show pz_cla B l s = pz_sum B (pz_nx B s)
  unfold pz_cla
  rw [if_pos h, if_neg hl]
  cases e : pz_sum B (pz_nx B s) with
  | error z => rfl
  | ok t =>
    have := h2 t e
    exact if_neg this
theorem pz_cla_gt {B : Nat → Int} (hB : pz_fi B) {l : Nat} {s t : Nat × Nat} (h : pz_cla B l s = .ok t) : B s.1 ≠ -1 ∧ s.1 < t.1 := by
  unfold pz_cla at h
  by_cases z : pz_wd B s.1 pz_buy = true
  · rw [if_pos z] at h
    have hb : B s.1 ≠ -1 := pz_wd_ne z (by decide) (by decide)
    by_cases y : l = 12
    · rw [if_pos y] at h; cases h
    · rw [if_neg y] at h
      cases e : pz_sum B (pz_nx B s) with
      | error x => rw [e] at h; cases h
      | ok s1 =>
        rw [e] at h
        have h1 := (pz_sum_gt hB e).2
        have h2 := pz_nt_gt hb
        have h3 : (pz_nx B s).1 = pz_nt B s.1 := rfl
        have h : (if pz_wd B s1.1 pz_if = true then pz_tst B (pz_fact B 10) (pz_nx B s1) else .ok s1) = .ok t := h
        by_cases x : pz_wd B s1.1 pz_if = true
        · rw [if_pos x] at h
          have h4 := (pz_tst_gt hB (pz_fact_gt hB 10) h).2
          have h5 := pz_nt_gt (B := B) (p := s1.1) (pz_wd_ne x (by decide) (by decide))
          have h6 : (pz_nx B s1).1 = pz_nt B s1.1 := rfl
          exact ⟨hb, by omega⟩
        · rw [if_neg x] at h
          cases h
          exact ⟨hb, by omega⟩
  · rw [if_neg z] at h; cases h
theorem pz_cla_12 {B : Nat → Int} {s : Nat × Nat} : ∃ e, pz_cla B 12 s = .error e := by
  unfold pz_cla
  by_cases z : pz_wd B s.1 pz_buy = true
  · rw [if_pos z]; exact ⟨_, if_pos rfl⟩
  · rw [if_neg z]; exact ⟨_, rfl⟩
theorem pz_rF_pr {B : Nat → Int} (hB : pz_fi B) : pz_pr (fun u : (Nat × Nat) × Nat => u.1.1) (pz_rF B) := by
  intro u r h
  unfold pz_rF at h
  by_cases z : B u.1.1 = 59
  · rw [if_pos z] at h
    have hb : B u.1.1 ≠ -1 := by omega
    refine ⟨hB.lt hb, fun t ht => ?_⟩
    cases h
    cases e : pz_cla B u.2 (pz_nx B u.1) with
    | error x => rw [e] at ht; cases ht
    | ok s1 =>
      rw [e] at ht
      cases ht
      have h1 := (pz_cla_gt hB e).2
      have h2 := pz_nt_gt hb
      have h3 : (pz_nx B u.1).1 = pz_nt B u.1.1 := rfl
      show u.1.1 < s1.1
      omega
  · rw [if_neg z] at h; cases h
theorem RcL.start {f : Nat → Int32} {n : Int32} {a b c d : Int32} (h : TpR f n (rSK (cB f n) (.ok (0, 0))) a b c d) : RcL f n a b c d 0 0 := ⟨_, h, fun s hs => by cases hs; rfl, Or.inl ⟨by decide, rfl⟩⟩
theorem RcL.turn {f : Nat → Int32} {n : Int32} {q' : Except Int (Nat × Nat)} {a b c d ct l l' : Int32} (hl : 0 ≤ l.toInt ∧ l.toInt ≤ 12) (hl₀ : l'.toInt = l.toInt + 1) (h : TpR f n q' a b c d) (hct : Ctd q' ct) (h12 : l.toInt = 12 → ∃ e, q' = .error e) (hR : RuR (cB f n) = pz_b (rTG (l.toInt.toNat + 1) q') (pz_lp (pz_rF (cB f n)))) : RcL f n a b c d ct l' := by
  refine ⟨q', h, hct, Or.inr ?_⟩
  by_cases z : l.toInt = 12
  · right
    obtain ⟨e, rfl⟩ := h12 z
    exact ⟨by omega, e, rfl, hR⟩
  · left
    refine ⟨by omega, by omega, ?_⟩
    rw [show l'.toInt.toNat = l.toInt.toNat + 1 by omega]
    exact hR
theorem RcL.next0 {f : Nat → Int32} {n : Int32} {q : Except Int (Nat × Nat)} {a b c d ct l l' : Int32} (hl : l.toInt = 0) (hq : (l.toInt = 0 ∧ q = .ok (pz_sk (cB f n) 0, 0)) ∨ (1 ≤ l.toInt ∧ l.toInt ≤ 12 ∧ RuR (cB f n) = pz_b (rTG l.toInt.toNat q) (pz_lp (pz_rF (cB f n)))) ∨ (l.toInt = 13 ∧ ∃ e, q = .error e ∧ RuR (cB f n) = .error e)) (h : TpR f n (pz_b q (pz_cla (cB f n) l.toInt.toNat)) a b c d) (hct : Ctd (pz_b q (pz_cla (cB f n) l.toInt.toNat)) ct) (hl₀ : l'.toInt = l.toInt + 1) : RcL f n a b c d ct l' := by
  rcases hq with hq | hq | hq
  · obtain ⟨-, rfl⟩ := hq
    refine RcL.turn (by omega) hl₀ h hct (fun z => by omega) ?_
    rw [hl]
    rfl
  · omega
  · omega
theorem RcL.nextS {f : Nat → Int32} {n : Int32} {q : Except Int (Nat × Nat)} {a b c d ct l l' : Int32} (hn : n.toInt ≤ 400) (hl : 1 ≤ l.toInt ∧ l.toInt ≤ 12) (hs : Sg (cB f n) 59 q) (hq : (l.toInt = 0 ∧ q = .ok (pz_sk (cB f n) 0, 0)) ∨ (1 ≤ l.toInt ∧ l.toInt ≤ 12 ∧ RuR (cB f n) = pz_b (rTG l.toInt.toNat q) (pz_lp (pz_rF (cB f n)))) ∨ (l.toInt = 13 ∧ ∃ e, q = .error e ∧ RuR (cB f n) = .error e)) (h : TpR f n (pz_b (rNX (cB f n) q) (pz_cla (cB f n) l.toInt.toNat)) a b c d) (hct : Ctd (pz_b (rNX (cB f n) q) (pz_cla (cB f n) l.toInt.toNat)) ct) (hl₀ : l'.toInt = l.toInt + 1) : RcL f n a b c d ct l' := by
  obtain ⟨s, rfl, h59⟩ := hs
  rcases hq with hq | hq | hq
  · omega
  · refine RcL.turn (by omega) hl₀ h hct (fun z => ?_) ?_
    · rw [z]; exact pz_cla_12
    · rw [hq.2.2]
      exact pz_lp_on (pz_rF_pr (cB_fi hn)) (s := (s, l.toInt.toNat)) (if_pos h59)
  · omega
theorem RcL.fin {f : Nat → Int32} {n : Int32} {q : Except Int (Nat × Nat)} {l : Int32} (hq : (l.toInt = 0 ∧ q = .ok (pz_sk (cB f n) 0, 0)) ∨ (1 ≤ l.toInt ∧ l.toInt ≤ 12 ∧ RuR (cB f n) = pz_b (rTG l.toInt.toNat q) (pz_lp (pz_rF (cB f n)))) ∨ (l.toInt = 13 ∧ ∃ e, q = .error e ∧ RuR (cB f n) = .error e)) (h0 : ¬ l.toInt = 0) (hx : 12 < l.toInt ∨ NSg (cB f n) 59 q) : pz_rule (cB f n) = pz_b q (fun s => pz_end (cB f n) s.1) := by
  have e0 : pz_rule (cB f n) = pz_b (RuR (cB f n)) (fun u => pz_end (cB f n) u.1.1) := rfl
  rcases hq with hq | hq | hq
  · omega
  · rw [e0, hq.2.2]
    rcases hx with hx | hx
    · omega
    · cases q with
      | error e => rfl
      | ok s =>
        show pz_b (pz_lp (pz_rF (cB f n)) (s, l.toInt.toNat)) _ = _
        rw [pz_lp_no (F := pz_rF (cB f n)) (s := (s, l.toInt.toNat)) (if_neg (hx s rfl))]
        rfl
  · obtain ⟨-, e, rfl, he⟩ := hq
    rw [e0, he]
    rfl
def RuK (B : Nat → Int) : Prop := ∃ p, pz_rule B = .ok p
def RuF (B : Nat → Int) (d : Int32) : Prop := pz_rule B = .error d.toInt ∧ ¬ d.toInt = 0
theorem RuK.of {f : Nat → Int32} {n : Int32} {q : Except Int (Nat × Nat)} {a b c d : Int32} (hr : pz_rule (cB f n) = pz_b q (fun s => pz_end (cB f n) s.1)) (h : TpR f n (rEN (cB f n) q) a b c d) (hd : d.toInt = 0) : RuK (cB f n) := by
  obtain ⟨s, hs, -⟩ := h.fault0 hd
  cases q with
  | error e => cases hs
  | ok t =>
    have hs : pz_b (pz_end (cB f n) t.1) (fun _ => .ok t) = .ok s := hs
    have hr : pz_rule (cB f n) = pz_end (cB f n) t.1 := hr
    cases e : pz_end (cB f n) t.1 with
    | error z => rw [e] at hs; cases hs
    | ok z => exact ⟨z, hr.trans e⟩
theorem RuF.of {f : Nat → Int32} {n : Int32} {q : Except Int (Nat × Nat)} {a b c d : Int32} (hr : pz_rule (cB f n) = pz_b q (fun s => pz_end (cB f n) s.1)) (h : TpR f n (rEN (cB f n) q) a b c d) (hd : ¬ d.toInt = 0) : RuF (cB f n) d := by
  cases q with
  | error e => exact ⟨hr.trans (congrArg Except.error h.1.symm), hd⟩
  | ok t =>
    have hr : pz_rule (cB f n) = pz_end (cB f n) t.1 := hr
    have h : TpR f n (pz_b (pz_end (cB f n) t.1) (fun _ => .ok t)) a b c d := h
    cases e : pz_end (cB f n) t.1 with
    | error z => rw [e] at h; exact ⟨(hr.trans e).trans (congrArg Except.error h.1.symm), hd⟩
    | ok z => rw [e] at h; exact absurd h.1 hd
