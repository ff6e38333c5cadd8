set_option maxRecDepth 16384
def pz_bws : List (List Int) := [pz_book, pz_sky, pz_buyer, pz_watch]
abbrev BkU := (Nat × Nat) × Int × Int
def rN1 (B : Nat → Int) (a b : Int) (r : Except Int (Nat × Nat)) : Except Int (Nat × Nat) := rNX B (rNU B a b r)
def pz_bk (B : Nat → Int) (k : Int) (u : BkU) (r : Except Int (Nat × Nat)) : Except Int BkU := if k = 0 then pz_b (rN1 B 0 9 (rN1 B 0 99 r)) (fun s => pz_b (pz_num B 1 10 s.1) (fun v => .ok (pz_nx B s, v, u.2.2))) else if k = 1 then pz_b (rN1 B 0 9 (rN1 B 0 (u.2.1 - 1) r)) (fun s => .ok (s, u.2)) else if k = 2 then pz_b (rN1 B 0 9 (rN1 B 1 9 (rN1 B 0 20 r))) (fun s => .ok (s, u.2.1, u.2.2 + 1)) else pz_b (rN1 B 0 (u.2.2 - 1) (rN1 B 0 (u.2.1 - 1) r)) (fun s => .ok (s, u.2))
def pz_bcl (B : Nat → Int) (l : Nat) (u : BkU) : Except Int BkU := if pz_wa B u.1.1 pz_bws 0 = -1 then .error (pz_er 0 u.1.1) else if 40 ≤ l ∨ ¬ (pz_wa B u.1.1 pz_bws 0 = 0 ↔ l = 0) ∨ (pz_wa B u.1.1 pz_bws 0 = 2 ∧ 6 ≤ u.2.2) then .error (pz_er 4 u.1.1) else pz_bk B (pz_wa B u.1.1 pz_bws 0) u (.ok (pz_nx B u.1))
def pz_bF (B : Nat → Int) (w : BkU × Nat) : Option (Except Int (BkU × Nat)) := if B w.1.1.1 = 59 then some (pz_b (pz_bcl B w.2 (pz_nx B w.1.1, w.1.2)) (fun u => .ok (u, w.2 + 1))) else none
def bTG (l : Nat) (q : Except Int BkU) : Except Int (BkU × Nat) := pz_b q (fun u => .ok (u, l))
def pz_bRu (B : Nat → Int) : Except Int (BkU × Nat) := pz_b (bTG 1 (pz_bcl B 0 ((pz_sk B 0, 0), 0, 0))) (pz_lp (pz_bF B))
def bEN (B : Nat → Int) (q : Except Int BkU) : Except Int BkU := pz_b q (fun u => pz_b (pz_end B u.1.1) (fun _ => .ok u))
def pz_bookR (B : Nat → Int) : Except Int BkU := bEN B (pz_b (pz_bRu B) (fun w => .ok w.1))
theorem rN1_gt {B : Nat → Int} {a b : Int} {r : Except Int (Nat × Nat)} {t : Nat × Nat} (h : rN1 B a b r = .ok t) : ∃ s, r = .ok s ∧ s.1 < t.1 ∧ t = pz_nx B s ∧ ∃ v, pz_num B a b s.1 = .ok v := by
  cases r with
  | error e => cases h
  | ok s =>
    have h : pz_b (pz_b (pz_num B a b s.1) (fun _ => .ok s)) (fun s => .ok (pz_nx B s)) = .ok t := h
    cases e : pz_num B a b s.1 with
    | error z => rw [e] at h; cases h
    | ok v =>
      rw [e] at h
      cases h
      refine ⟨s, rfl, ?_, rfl, v, e⟩
      have hd : pz_isD (B s.1) = true := by
        by_cases z : pz_isD (B s.1) = true
        · exact z
        · exfalso
          rw [show pz_num B a b s.1 = .error (pz_er 0 s.1) from if_neg z] at e
          cases e
      exact pz_nt_gt (pz_isD_ne hd)
theorem pz_bws_ne : ∀ w ∈ pz_bws, 0 < w.length ∧ w.getD 0 0 ≠ -1 := by decide
theorem pz_bk_gt {B : Nat → Int} {k : Int} {u t : BkU} {s : Nat × Nat} (h : pz_bk B k u (.ok s) = .ok t) : s.1 < t.1.1 := by
  unfold pz_bk at h
  split at h
  · cases e : rN1 B 0 9 (rN1 B 0 99 (.ok s)) with
    | error z => rw [e] at h; cases h
    | ok s1 =>
      rw [e] at h
      have h : pz_b (pz_num B 1 10 s1.1) (fun v => Except.ok (pz_nx B s1, v, u.2.2)) = Except.ok t := h
      cases e2 : pz_num B 1 10 s1.1 with
      | error z => rw [e2] at h; cases h
      | ok v =>
        rw [e2] at h
        cases h
        obtain ⟨s2, h2, h3, -, -⟩ := rN1_gt e
        obtain ⟨s3, h4, h5, -, -⟩ := rN1_gt h2
        cases h4
        have h6 : rN1 B 1 10 (.ok s1) = .ok (pz_nx B s1) := by
          show pz_b (pz_b (pz_num B 1 10 s1.1) (fun _ => .ok s1)) (fun s => .ok (pz_nx B s)) = _
          rw [e2]; rfl
        obtain ⟨s4, h7, h8, -, -⟩ := rN1_gt h6
        cases h7
        show s.1 < (pz_nx B s1).1
        omega
  · split at h
    · cases e : rN1 B 0 9 (rN1 B 0 (u.2.1 - 1) (.ok s)) with
      | error z => rw [e] at h; cases h
      | ok s1 =>
        rw [e] at h
        cases h
        obtain ⟨s2, h2, h3, -, -⟩ := rN1_gt e
        obtain ⟨s3, h4, h5, -, -⟩ := rN1_gt h2
        cases h4
        show s.1 < s1.1
        omega
    · split at h
      · cases e : rN1 B 0 9 (rN1 B 1 9 (rN1 B 0 20 (.ok s))) with
        | error z => rw [e] at h; cases h
        | ok s1 =>
          rw [e] at h
          cases h
          obtain ⟨s2, h2, h3, -, -⟩ := rN1_gt e
          obtain ⟨s3, h4, h5, -, -⟩ := rN1_gt h2
          obtain ⟨s4, h6, h7, -, -⟩ := rN1_gt h4
          cases h6
          show s.1 < s1.1
          omega
      · cases e : rN1 B 0 (u.2.2 - 1) (rN1 B 0 (u.2.1 - 1) (.ok s)) with
        | error z => rw [e] at h; cases h
        | ok s1 =>
          rw [e] at h
          cases h
          obtain ⟨s2, h2, h3, -, -⟩ := rN1_gt e
          obtain ⟨s3, h4, h5, -, -⟩ := rN1_gt h2
          cases h4
          show s.1 < s1.1
          omega
theorem pz_bcl_gt {B : Nat → Int} {l : Nat} {u t : BkU} (h : pz_bcl B l u = .ok t) : B u.1.1 ≠ -1 ∧ u.1.1 < t.1.1 := by
  unfold pz_bcl at h
  by_cases z : pz_wa B u.1.1 pz_bws 0 = -1
  · rw [if_pos z] at h; cases h
  · rw [if_neg z] at h
    obtain ⟨w, hw, hd⟩ := pz_wa_hit pz_bws 0 (Int.le_refl _) z
    have hb := pz_wd_ne hd (pz_bws_ne w hw).1 (pz_bws_ne w hw).2
    refine ⟨hb, ?_⟩
    by_cases y : 40 ≤ l ∨ ¬ (pz_wa B u.1.1 pz_bws 0 = 0 ↔ l = 0) ∨ (pz_wa B u.1.1 pz_bws 0 = 2 ∧ 6 ≤ u.2.2)
    · rw [if_pos y] at h; cases h
    · rw [if_neg y] at h
      have h1 := pz_bk_gt h
      have h2 := pz_nt_gt hb
      have h3 : (pz_nx B u.1).1 = pz_nt B u.1.1 := rfl
      omega
theorem pz_bcl_40 {B : Nat → Int} {u : BkU} : ∃ e, pz_bcl B 40 u = .error e := by
  unfold pz_bcl
  by_cases z : pz_wa B u.1.1 pz_bws 0 = -1
  · rw [if_pos z]; exact ⟨_, rfl⟩
  · rw [if_neg z]; exact ⟨_, if_pos (Or.inl (Nat.le_refl _))⟩
theorem pz_bF_pr {B : Nat → Int} (hB : pz_fi B) : pz_pr (fun w : BkU × Nat => w.1.1.1) (pz_bF B) := by
  intro w r h
  unfold pz_bF at h
  by_cases z : B w.1.1.1 = 59
  · rw [if_pos z] at h
    have hb : B w.1.1.1 ≠ -1 := by omega
    refine ⟨hB.lt hb, fun t ht => ?_⟩
    cases h
    cases e : pz_bcl B w.2 (pz_nx B w.1.1, w.1.2) with
    | error x => rw [e] at ht; cases ht
    | ok s1 =>
      rw [e] at ht
      cases ht
      have h1 := (pz_bcl_gt e).2
      have h2 := pz_nt_gt hb
      have h3 : (pz_nx B w.1.1).1 = pz_nt B w.1.1.1 := rfl
      have h4 : ((pz_nx B w.1.1, w.1.2) : BkU).1.1 = (pz_nx B w.1.1).1 := rfl
      show w.1.1.1 < s1.1.1
      omega
  · rw [if_neg z] at h; cases h
def fstQ (q : Except Int BkU) : Except Int (Nat × Nat) := pz_b q (fun u => .ok u.1)
def BkQ (q : Except Int BkU) (rd bn : Int32) : Prop := ∀ u, q = .ok u → rd.toInt = u.2.1 ∧ bn.toInt = u.2.2 ∧ 0 ≤ u.2.1 ∧ u.2.1 ≤ 10
theorem num_rg {B : Nat → Int} {lo hi v : Int} {p : Nat} (h : pz_num B lo hi p = .ok v) : lo ≤ v ∧ v ≤ hi := by
  unfold pz_num at h
  by_cases z : pz_isD (B p) = true
  · rw [if_pos z] at h
    by_cases y : 5 < pz_te B p - p
    · rw [if_pos y] at h; cases h
    · rw [if_neg y] at h
      by_cases x : pz_nv B p (pz_te B p - p) < lo ∨ hi < pz_nv B p (pz_te B p - p)
      · rw [if_pos x] at h; cases h
      · rw [if_neg x] at h; cases h; omega
  · rw [if_neg z] at h; cases h
theorem rd_1 {rd : Int32} (h : 0 ≤ rd.toInt ∧ rd.toInt ≤ 10) : (rd - 1).toInt = rd.toInt - 1 := by
  have h1 : (1 : Int32).toInt = 1 := by decide
  rw [sub_toInt (by omega) (by omega), h1]
theorem BkQ.er {q : Except Int BkU} {k : Int} {l : Nat} {B : Nat → Int} {rd bn : Int32} (h : fstQ (pz_b q (pz_bcl B l)) = rER k (fstQ q)) : BkQ (pz_b q (pz_bcl B l)) rd bn := fun u hu => by
  rw [hu] at h
  cases q with
  | error e => cases hu
  | ok v => cases h
theorem bc_no {B : Nat → Int} {l : Nat} {q : Except Int BkU} (h : waR B (wL 0) 0 (fstQ q) = -1) : fstQ (pz_b q (pz_bcl B l)) = rER 0 (fstQ q) := by
  cases q with
  | error e => rfl
  | ok u =>
    have h : pz_wa B u.1.1 (wL 0) 0 = -1 := h
    rw [wL0] at h
    show fstQ (pz_bcl B l u) = _
    rw [show pz_bcl B l u = .error (pz_er 0 u.1.1) from if_pos h]
    rfl
theorem bc_bad {B : Nat → Int} {l : Nat} {q : Except Int BkU} {k : Int} {rd bn : Int32} (h : waR B (wL 0) 0 (fstQ q) = k) (hk : ¬ k = -1) (hq : BkQ q rd bn) (hb : 40 ≤ l ∨ ¬ (k = 0 ↔ l = 0) ∨ (k = 2 ∧ 6 ≤ bn.toInt)) : fstQ (pz_b q (pz_bcl B l)) = rER 4 (fstQ q) := by
  cases q with
  | error e => exact absurd h.symm hk
  | ok u =>
    have h : pz_wa B u.1.1 (wL 0) 0 = k := h
    rw [wL0] at h
    subst h
    have e := (hq u rfl).2.1
    show fstQ (pz_bcl B l u) = _
    rw [show pz_bcl B l u = .error (pz_er 4 u.1.1) from (if_neg hk).trans (if_pos (by rw [← e]; exact hb))]
    rfl
theorem bc_go {B : Nat → Int} {l : Nat} {q : Except Int BkU} {k : Int} {rd bn : Int32} (h : waR B (wL 0) 0 (fstQ q) = k) (hk : ¬ k = -1) (hq : BkQ q rd bn) (hb : ¬ (40 ≤ l ∨ ¬ (k = 0 ↔ l = 0) ∨ (k = 2 ∧ 6 ≤ bn.toInt))) : ∃ u, q = .ok u ∧ (rd.toInt = u.2.1 ∧ 0 ≤ u.2.1 ∧ u.2.1 ≤ 10) ∧ bn.toInt = u.2.2 ∧ pz_b q (pz_bcl B l) = pz_bk B k u (rNX B (fstQ q)) := by
  cases q with
  | error e => exact absurd h.symm hk
  | ok u =>
    have h : pz_wa B u.1.1 (wL 0) 0 = k := h
    rw [wL0] at h
    subst h
    have e := hq u rfl
    refine ⟨u, rfl, ⟨e.1, e.2.2⟩, e.2.1, ?_⟩
    exact (if_neg hk).trans (if_neg (by rw [← e.2.1]; exact hb))
theorem bc_0 {B : Nat → Int} {l : Nat} {q : Except Int BkU} {rd bn rd' : Int32} (h : waR B (wL 0) 0 (fstQ q) = 0) (hq : BkQ q rd bn) (hl : l = 0) (hv : NuV B 1 10 (rN1 B 0 9 (rN1 B 0 99 (rNX B (fstQ q)))) rd') : fstQ (pz_b q (pz_bcl B l)) = rN1 B 1 10 (rN1 B 0 9 (rN1 B 0 99 (rNX B (fstQ q)))) ∧ BkQ (pz_b q (pz_bcl B l)) rd' bn := by
  obtain ⟨u, rfl, h1, h2, h3⟩ := bc_go (l := l) h (by decide) hq (by rw [hl]; intro z; rcases z with z | z | z; omega; exact z (by simp); omega)
  rw [h3]
  have e : pz_bk B 0 u (rNX B (fstQ (.ok u))) = pz_b (rN1 B 0 9 (rN1 B 0 99 (rNX B (fstQ (.ok u))))) (fun s => pz_b (pz_num B 1 10 s.1) (fun v => .ok (pz_nx B s, v, u.2.2))) := if_pos rfl
  rw [e]
  generalize rN1 B 0 9 (rN1 B 0 99 (rNX B (fstQ (.ok u)))) = r at hv ⊢
  cases r with
  | error z => exact ⟨rfl, fun w hw => by cases hw⟩
  | ok s =>
    cases e2 : pz_num B 1 10 s.1 with
    | error z =>
      refine ⟨?_, fun w hw => ?_⟩
      · show fstQ (pz_b (pz_num B 1 10 s.1) _) = rNX B (pz_b (pz_num B 1 10 s.1) _)
        rw [e2]; rfl
      · have hw : pz_b (pz_num B 1 10 s.1) (fun v => Except.ok ((pz_nx B s, v, u.2.2) : BkU)) = .ok w := hw
        rw [e2] at hw; cases hw
    | ok v =>
      refine ⟨?_, fun w hw => ?_⟩
      · show fstQ (pz_b (pz_num B 1 10 s.1) _) = rNX B (pz_b (pz_num B 1 10 s.1) _)
        rw [e2]; rfl
      · have hw : pz_b (pz_num B 1 10 s.1) (fun v => Except.ok ((pz_nx B s, v, u.2.2) : BkU)) = .ok w := hw
        rw [e2] at hw
        cases hw
        exact ⟨hv s v rfl e2, h2, by have := num_rg e2; show 0 ≤ v ∧ v ≤ 10; omega⟩
theorem fstQ_b {r : Except Int (Nat × Nat)} {v : Int × Int} : fstQ (pz_b r (fun s => .ok (s, v))) = r := by cases r <;> rfl
theorem BkQ_b {r : Except Int (Nat × Nat)} {v : Int × Int} {rd bn : Int32} (h : rd.toInt = v.1 ∧ bn.toInt = v.2 ∧ 0 ≤ v.1 ∧ v.1 ≤ 10) : BkQ (pz_b r (fun s => .ok (s, v))) rd bn := fun u hu => by
  cases r with
  | error e => cases hu
  | ok s => cases hu; exact h
theorem bc_1 {B : Nat → Int} {l : Nat} {q : Except Int BkU} {rd bn : Int32} (h : waR B (wL 0) 0 (fstQ q) = 1) (hq : BkQ q rd bn) (hl : 1 ≤ l ∧ l < 40) : fstQ (pz_b q (pz_bcl B l)) = rN1 B 0 9 (rN1 B 0 (rd - 1).toInt (rNX B (fstQ q))) ∧ BkQ (pz_b q (pz_bcl B l)) rd bn := by
  obtain ⟨u, rfl, h1, h2, h3⟩ := bc_go (l := l) h (by decide) hq (by intro z; rcases z with z | z | z; omega; exact z ⟨fun y => by omega, fun y => by omega⟩; omega)
  rw [h3, show pz_bk B 1 u (rNX B (fstQ (.ok u))) = pz_b (rN1 B 0 9 (rN1 B 0 (u.2.1 - 1) (rNX B (fstQ (.ok u))))) (fun s => .ok (s, u.2)) from (if_neg (by decide)).trans (if_pos rfl), rd_1 (by omega), h1.1]
  exact ⟨fstQ_b, BkQ_b ⟨h1.1, h2, h1.2⟩⟩
theorem bc_2 {B : Nat → Int} {l : Nat} {q : Except Int BkU} {rd bn bn' : Int32} (h : waR B (wL 0) 0 (fstQ q) = 2) (hq : BkQ q rd bn) (hl : 1 ≤ l ∧ l < 40) (hb : bn.toInt < 6) (hn : bn'.toInt = bn.toInt + 1) : fstQ (pz_b q (pz_bcl B l)) = rN1 B 0 9 (rN1 B 1 9 (rN1 B 0 20 (rNX B (fstQ q)))) ∧ BkQ (pz_b q (pz_bcl B l)) rd bn' := by
  obtain ⟨u, rfl, h1, h2, h3⟩ := bc_go (l := l) h (by decide) hq (by intro z; rcases z with z | z | z; omega; exact z ⟨fun y => by omega, fun y => by omega⟩; omega)
  rw [h3, show pz_bk B 2 u (rNX B (fstQ (.ok u))) = pz_b (rN1 B 0 9 (rN1 B 1 9 (rN1 B 0 20 (rNX B (fstQ (.ok u)))))) (fun s => .ok (s, u.2.1, u.2.2 + 1)) from (if_neg (by decide)).trans ((if_neg (by decide)).trans (if_pos rfl))]
  exact ⟨fstQ_b, BkQ_b ⟨h1.1, (by show bn'.toInt = u.2.2 + 1; omega), h1.2⟩⟩
theorem bc_3 {B : Nat → Int} {l : Nat} {q : Except Int BkU} {k : Int} {rd bn : Int32} (h : waR B (wL 0) 0 (fstQ q) = k) (hk : 3 ≤ k) (hq : BkQ q rd bn) (hl : 1 ≤ l ∧ l < 40) : fstQ (pz_b q (pz_bcl B l)) = rN1 B 0 (bn.toInt - 1) (rN1 B 0 (rd - 1).toInt (rNX B (fstQ q))) ∧ BkQ (pz_b q (pz_bcl B l)) rd bn := by
  obtain ⟨u, rfl, h1, h2, h3⟩ := bc_go (l := l) h (by omega) hq (by intro z; rcases z with z | z | z; omega; exact z ⟨fun y => by omega, fun y => by omega⟩; omega)
  rw [h3, show pz_bk B k u (rNX B (fstQ (.ok u))) = pz_b (rN1 B 0 (u.2.2 - 1) (rN1 B 0 (u.2.1 - 1) (rNX B (fstQ (.ok u))))) (fun s => .ok (s, u.2)) from (if_neg (by omega)).trans ((if_neg (by omega)).trans (if_neg (by omega))), rd_1 (by omega), h1.1, h2]
  exact ⟨fstQ_b, BkQ_b ⟨h1.1, h2, h1.2⟩⟩
def BcL (f : Nat → Int32) (n : Int32) (a b c d rd bn l : Int32) : Prop := ∃ q, TpR f n (fstQ q) a b c d ∧ BkQ q rd bn ∧ ((l.toInt = 0 ∧ q = .ok ((pz_sk (cB f n) 0, 0), 0, 0)) ∨ (1 ≤ l.toInt ∧ l.toInt ≤ 40 ∧ pz_bRu (cB f n) = pz_b (bTG l.toInt.toNat q) (pz_lp (pz_bF (cB f n)))) ∨ (l.toInt = 41 ∧ ∃ e, q = .error e ∧ pz_bRu (cB f n) = .error e))
theorem BcL.start {f : Nat → Int32} {n : Int32} {a b c d rd bn l : Int32} (h : TpR f n (rSK (cB f n) (.ok (0, 0))) a b c d) (h1 : rd.toInt = 0) (h2 : bn.toInt = 0) (hl : l.toInt = 0) : BcL f n a b c d rd bn l := ⟨.ok ((pz_sk (cB f n) 0, 0), 0, 0), h, fun u hu => by cases hu; exact ⟨h1, h2, Int.le_refl _, (show (0 : Int) ≤ 10 by decide)⟩, Or.inl ⟨hl, rfl⟩⟩
theorem BcL.turn {f : Nat → Int32} {n : Int32} {q' : Except Int BkU} {a b c d rd bn l l' : Int32} (hl : 0 ≤ l.toInt ∧ l.toInt ≤ 40) (hl₀ : l'.toInt = l.toInt + 1) (h : TpR f n (fstQ q') a b c d) (hct : BkQ q' rd bn) (h12 : l.toInt = 40 → ∃ e, q' = .error e) (hR : pz_bRu (cB f n) = pz_b (bTG (l.toInt.toNat + 1) q') (pz_lp (pz_bF (cB f n)))) : BcL f n a b c d rd bn l' := by
  refine ⟨q', h, hct, Or.inr ?_⟩
  by_cases z : l.toInt = 40
  · right
    obtain ⟨e, rfl⟩ := h12 z
    exact ⟨by omega, e, rfl, hR⟩
  · left
    refine ⟨by omega, by omega, ?_⟩
    rw [show l'.toInt.toNat = l.toInt.toNat + 1 by omega]
    exact hR
theorem BcL.next0 {f : Nat → Int32} {n : Int32} {q : Except Int BkU} {a b c d rd bn l l' : Int32} (hl : l.toInt = 0) (hq : (l.toInt = 0 ∧ q = .ok ((pz_sk (cB f n) 0, 0), 0, 0)) ∨ (1 ≤ l.toInt ∧ l.toInt ≤ 40 ∧ pz_bRu (cB f n) = pz_b (bTG l.toInt.toNat q) (pz_lp (pz_bF (cB f n)))) ∨ (l.toInt = 41 ∧ ∃ e, q = .error e ∧ pz_bRu (cB f n) = .error e)) (h : TpR f n (fstQ (pz_b q (pz_bcl (cB f n) l.toInt.toNat))) a b c d) (hct : BkQ (pz_b q (pz_bcl (cB f n) l.toInt.toNat)) rd bn) (hl₀ : l'.toInt = l.toInt + 1) : BcL f n a b c d rd bn l' := by
  rcases hq with hq | hq | hq
  · obtain ⟨-, rfl⟩ := hq
    refine BcL.turn (by omega) hl₀ h hct (fun z => by omega) ?_
    rw [hl]
    rfl
  · omega
  · omega
def bNX (B : Nat → Int) (q : Except Int BkU) : Except Int BkU := pz_b q (fun u => .ok (pz_nx B u.1, u.2))
theorem fstQ_nx {B : Nat → Int} {q : Except Int BkU} : fstQ (bNX B q) = rNX B (fstQ q) := by cases q <;> rfl
theorem BkQ.nx {B : Nat → Int} {q : Except Int BkU} {rd bn : Int32} (h : BkQ q rd bn) : BkQ (bNX B q) rd bn := fun u hu => by
  cases q with
  | error e => cases hu
  | ok v => cases hu; exact h v rfl
theorem BcL.nextS {f : Nat → Int32} {n : Int32} {q : Except Int BkU} {a b c d rd bn l l' : Int32} (hn : n.toInt ≤ 400) (hl : 1 ≤ l.toInt ∧ l.toInt ≤ 40) (hs : Sg (cB f n) 59 (fstQ q)) (hq : (l.toInt = 0 ∧ q = .ok ((pz_sk (cB f n) 0, 0), 0, 0)) ∨ (1 ≤ l.toInt ∧ l.toInt ≤ 40 ∧ pz_bRu (cB f n) = pz_b (bTG l.toInt.toNat q) (pz_lp (pz_bF (cB f n)))) ∨ (l.toInt = 41 ∧ ∃ e, q = .error e ∧ pz_bRu (cB f n) = .error e)) (h : TpR f n (fstQ (pz_b (bNX (cB f n) q) (pz_bcl (cB f n) l.toInt.toNat))) a b c d) (hct : BkQ (pz_b (bNX (cB f n) q) (pz_bcl (cB f n) l.toInt.toNat)) rd bn) (hl₀ : l'.toInt = l.toInt + 1) : BcL f n a b c d rd bn l' := by
  obtain ⟨s, hs1, h59⟩ := hs
  cases q with
  | error e => cases hs1
  | ok u =>
    cases hs1
    rcases hq with hq | hq | hq
    · omega
    · refine BcL.turn (by omega) hl₀ h hct (fun z => ?_) ?_
      · rw [z]; exact pz_bcl_40
      · rw [hq.2.2]
        exact pz_lp_on (pz_bF_pr (cB_fi hn)) (s := (u, l.toInt.toNat)) (if_pos h59)
    · omega
theorem BcL.fin {f : Nat → Int32} {n : Int32} {q : Except Int BkU} {l : Int32} (hq : (l.toInt = 0 ∧ q = .ok ((pz_sk (cB f n) 0, 0), 0, 0)) ∨ (1 ≤ l.toInt ∧ l.toInt ≤ 40 ∧ pz_bRu (cB f n) = pz_b (bTG l.toInt.toNat q) (pz_lp (pz_bF (cB f n)))) ∨ (l.toInt = 41 ∧ ∃ e, q = .error e ∧ pz_bRu (cB f n) = .error e)) (h0 : ¬ l.toInt = 0) (hx : 40 < l.toInt ∨ NSg (cB f n) 59 (fstQ q)) : pz_bookR (cB f n) = bEN (cB f n) q := by
  have e0 : pz_bookR (cB f n) = bEN (cB f n) (pz_b (pz_bRu (cB f n)) (fun w => .ok w.1)) := rfl
  rcases hq with hq | hq | hq
  · omega
  · rw [e0, hq.2.2]
    rcases hx with hx | hx
    · omega
    · cases q with
      | error e => rfl
      | ok u =>
        show bEN (cB f n) (pz_b (pz_lp (pz_bF (cB f n)) (u, l.toInt.toNat)) _) = _
        rw [pz_lp_no (F := pz_bF (cB f n)) (s := (u, l.toInt.toNat)) (if_neg (hx u.1 rfl))]
        rfl
  · obtain ⟨-, e, rfl, he⟩ := hq
    rw [e0, he]
    rfl
def BkR (B : Nat → Int) (d bn : Int32) : Prop := (d.toInt = 0 ∧ ∃ u, pz_bookR B = .ok u ∧ bn.toInt = u.2.2) ∨ (¬ d.toInt = 0 ∧ pz_bookR B = .error d.toInt)
theorem fstQ_en {B : Nat → Int} {q : Except Int BkU} : fstQ (bEN B q) = rEN B (fstQ q) := by
  cases q with
  | error e => rfl
  | ok u =>
    show fstQ (pz_b (pz_end B u.1.1) _) = pz_b (pz_end B u.1.1) _
    cases pz_end B u.1.1 <;> rfl
theorem BkR.of {f : Nat → Int32} {n : Int32} {q : Except Int BkU} {a b c d rd bn : Int32} (hr : pz_bookR (cB f n) = bEN (cB f n) q) (h : TpR f n (rEN (cB f n) (fstQ q)) a b c d) (hq : BkQ q rd bn) : BkR (cB f n) d bn := by
  rw [← fstQ_en, ← hr] at h
  cases e : pz_bookR (cB f n) with
  | error z =>
    rw [e] at h
    have h1 := h.1
    have h2 := h.2.1
    exact Or.inr ⟨by rw [h1]; exact h2, by rw [e, h1]⟩
  | ok u =>
    rw [e] at h
    refine Or.inl ⟨h.1, u, e, ?_⟩
    rw [e] at hr
    cases q with
    | error z => cases hr
    | ok v =>
      have hr : Except.ok u = pz_b (pz_end (cB f n) v.1.1) (fun _ => .ok v) := hr
      cases e2 : pz_end (cB f n) v.1.1 with
      | error z => rw [e2] at hr; cases hr
      | ok z => rw [e2] at hr; cases hr; exact (hq u rfl).2.1
def FsQ (q : Except Int BkU) (r : Except Int (Nat × Nat)) : Prop := fstQ q = r
def RbC (B : Nat → Int) (r : Int32) : Prop := (∃ d : Int32, pz_bookR B = .error d.toInt ∧ r = -2 - d) ∨ ∃ u, pz_bookR B = .ok u ∧ r.toInt = u.2.2
theorem RbC.eq {B : Nat → Int} {r s : Int32} (h : RbC B r) (h2 : RbC B s) : r = s := by
  rcases h with ⟨d, h, e⟩ | ⟨u, h, e⟩ <;> rcases h2 with ⟨d', h', e'⟩ | ⟨u', h', e'⟩
  · rw [h] at h'
    have : d = d' := Int32.toInt_inj.mp (Except.error.inj h')
    rw [e, e', this]
  · rw [h] at h'; cases h'
  · rw [h] at h'; cases h'
  · rw [h] at h'
    cases h'
    exact Int32.toInt_inj.mp (e.trans e'.symm)
theorem BkR.er {B : Nat → Int} {d bn : Int32} (h : BkR B d bn) (hd : ¬ d.toInt = 0) : pz_bookR B = .error d.toInt := by
  rcases h with h | h
  · exact absurd h.1 hd
  · exact h.2
theorem BkR.ok {B : Nat → Int} {d bn : Int32} (h : BkR B d bn) (hd : d.toInt = 0) : ∃ u, pz_bookR B = .ok u ∧ bn.toInt = u.2.2 := by
  rcases h with h | h
  · exact h.2
  · exact absurd hd h.1
theorem pz_wa_ge {B : Nat → Int} {p : Nat} : ∀ (ws : List (List Int)) (k : Int), 0 ≤ k → -1 ≤ pz_wa B p ws k
  | [], k, _ => by show (-1 : Int) ≤ -1; omega
  | w :: t, k, h => by
    show -1 ≤ (if pz_wd B p w = true then k else pz_wa B p t (k + 1))
    by_cases z : pz_wd B p w = true
    · rw [if_pos z]; omega
    · rw [if_neg z]; exact pz_wa_ge t (k + 1) (by omega)
theorem waR_ge {B : Nat → Int} {ws : List (List Int)} {r : Except Int (Nat × Nat)} : -1 ≤ waR B ws 0 r := by
  cases r with
  | error e => exact Int.le_refl _
  | ok s => exact pz_wa_ge ws 0 (Int.le_refl _)
