set_option maxRecDepth 16384
def qz_u (C : Nat → Int) (k : Nat) (v : Int) : Nat → Int := fun j => if j = k then v else C j
theorem qz_u_at {C : Nat → Int} {k : Nat} {v : Int} : qz_u C k v k = v := if_pos rfl
theorem qz_u_ne {C : Nat → Int} {k j : Nat} {v : Int} (h : j ≠ k) : qz_u C k v j = C j := if_neg h
def qz_or (x v : Int) : Int := (Int32.ofInt x ||| ((1 : Int32) <<< (Int32.ofInt v &&& 31))).toInt
theorem qz_or_is {x v : Int32} : qz_or x.toInt v.toInt = (x ||| ((1 : Int32) <<< (v &&& 31))).toInt := by
  unfold qz_or
  rw [Int32.ofInt_toInt, Int32.ofInt_toInt]
abbrev QzU := (Nat × Nat) × (Nat → Int)
def qz_n {T : Type} (B : Nat → Int) (a b : Int) (r : Except Int (Nat × Nat)) (g : Int → Nat × Nat → Except Int T) : Except Int T := pz_b r (fun s => pz_b (pz_num B a b s.1) (fun v => g v (pz_nx B s)))
def qz_c0 (C : Nat → Int) (x y z : Int) : Nat → Int := qz_u (qz_u (qz_u (qz_u C 94 x) 1 y) 2 z) 0 1
def qz_c1 (C : Nat → Int) (x y : Int) : Nat → Int := qz_u C (74 + x.toNat) y
def qz_c2 (C : Nat → Int) (x y z : Int) : Nat → Int := qz_u (qz_u (qz_u (qz_u C (68 + (C 3).toNat) x) (56 + (C 3).toNat) y) (62 + (C 3).toNat) z) 3 (C 3 + 1)
def qz_c3 (C : Nat → Int) (x y : Int) : Nat → Int := qz_u C (84 + x.toNat) (qz_or (C (84 + x.toNat)) y)
def qz_k0 (B : Nat → Int) (C : Nat → Int) (r : Except Int (Nat × Nat)) : Except Int QzU := qz_n B 0 99 r (fun x s => qz_n B 0 9 (.ok s) (fun y t => qz_n B 1 10 (.ok t) (fun z u => .ok (u, qz_c0 C x y z))))
def qz_k1 (B : Nat → Int) (C : Nat → Int) (r : Except Int (Nat × Nat)) : Except Int QzU := qz_n B 0 (C 2 - 1) r (fun x s => qz_n B 0 9 (.ok s) (fun y t => .ok (t, qz_c1 C x y)))
def qz_k2 (B : Nat → Int) (C : Nat → Int) (r : Except Int (Nat × Nat)) : Except Int QzU := qz_n B 0 20 r (fun x s => qz_n B 1 9 (.ok s) (fun y t => qz_n B 0 9 (.ok t) (fun z u => .ok (u, qz_c2 C x y z))))
def qz_k3 (B : Nat → Int) (C : Nat → Int) (r : Except Int (Nat × Nat)) : Except Int QzU := qz_n B 0 (C 2 - 1) r (fun x s => qz_n B 0 (C 3 - 1) (.ok s) (fun y t => .ok (t, qz_c3 C x y)))
def qz_k (B : Nat → Int) (k : Int) (C : Nat → Int) (r : Except Int (Nat × Nat)) : Except Int QzU := if k = 0 then qz_k0 B C r else if k = 1 then qz_k1 B C r else if k = 2 then qz_k2 B C r else qz_k3 B C r
def qz_cl (B : Nat → Int) (l : Nat) (u : QzU) : Except Int QzU := if pz_wa B u.1.1 pz_bws 0 = -1 then .error (pz_er 0 u.1.1) else if 40 ≤ l ∨ ¬ (pz_wa B u.1.1 pz_bws 0 = 0 ↔ l = 0) ∨ (pz_wa B u.1.1 pz_bws 0 = 2 ∧ 6 ≤ u.2 3) then .error (pz_er 4 u.1.1) else qz_k B (pz_wa B u.1.1 pz_bws 0) u.2 (.ok (pz_nx B u.1))
def qz_F (B : Nat → Int) (w : QzU × Nat) : Option (Except Int (QzU × Nat)) := if B w.1.1.1 = 59 then some (pz_b (qz_cl B w.2 (pz_nx B w.1.1, w.1.2)) (fun u => .ok (u, w.2 + 1))) else none
def qTG (l : Nat) (q : Except Int QzU) : Except Int (QzU × Nat) := pz_b q (fun u => .ok (u, l))
def qz_0 : Nat → Int := fun _ => 0
def qz_Ru (B : Nat → Int) : Except Int (QzU × Nat) := pz_b (qTG 1 (qz_cl B 0 ((pz_sk B 0, 0), qz_0))) (pz_lp (qz_F B))
def qEN (B : Nat → Int) (q : Except Int QzU) : Except Int QzU := pz_b q (fun u => pz_b (pz_end B u.1.1) (fun _ => .ok u))
def qz_book (B : Nat → Int) : Except Int QzU := qEN B (pz_b (qz_Ru B) (fun w => .ok w.1))
def fsC (q : Except Int QzU) : Except Int (Nat × Nat) := pz_b q (fun u => .ok u.1)
theorem qz_n_fs {B : Nat → Int} {a b : Int} {r : Except Int (Nat × Nat)} {g : Int → Nat × Nat → Except Int QzU} {G : Except Int (Nat × Nat) → Except Int (Nat × Nat)} (h : ∀ v s, fsC (g v s) = G (.ok s)) (he : ∀ e, G (.error e) = .error e) : fsC (qz_n B a b r g) = G (rN1 B a b r) := by
  cases r with
  | error e => exact (he e).symm
  | ok s =>
    show fsC (pz_b (pz_num B a b s.1) (fun v => g v (pz_nx B s))) = G (pz_b (pz_b (pz_num B a b s.1) (fun _ => .ok s)) (fun s => .ok (pz_nx B s)))
    cases pz_num B a b s.1 with
    | error e => exact (he e).symm
    | ok v => exact h v (pz_nx B s)
theorem qz_k0_fs {B C : Nat → Int} {r : Except Int (Nat × Nat)} : fsC (qz_k0 B C r) = rN1 B 1 10 (rN1 B 0 9 (rN1 B 0 99 r)) := qz_n_fs (G := fun q => rN1 B 1 10 (rN1 B 0 9 q)) (fun _ _ => qz_n_fs (G := fun q => rN1 B 1 10 q) (fun _ _ => qz_n_fs (G := fun q => q) (fun _ _ => rfl) (fun _ => rfl)) (fun _ => rfl)) (fun _ => rfl)
theorem qz_k1_fs {B C : Nat → Int} {r : Except Int (Nat × Nat)} : fsC (qz_k1 B C r) = rN1 B 0 9 (rN1 B 0 (C 2 - 1) r) := qz_n_fs (G := fun q => rN1 B 0 9 q) (fun _ _ => qz_n_fs (G := fun q => q) (fun _ _ => rfl) (fun _ => rfl)) (fun _ => rfl)
theorem qz_k2_fs {B C : Nat → Int} {r : Except Int (Nat × Nat)} : fsC (qz_k2 B C r) = rN1 B 0 9 (rN1 B 1 9 (rN1 B 0 20 r)) := qz_n_fs (G := fun q => rN1 B 0 9 (rN1 B 1 9 q)) (fun _ _ => qz_n_fs (G := fun q => rN1 B 0 9 q) (fun _ _ => qz_n_fs (G := fun q => q) (fun _ _ => rfl) (fun _ => rfl)) (fun _ => rfl)) (fun _ => rfl)
theorem qz_k3_fs {B C : Nat → Int} {r : Except Int (Nat × Nat)} : fsC (qz_k3 B C r) = rN1 B 0 (C 3 - 1) (rN1 B 0 (C 2 - 1) r) := qz_n_fs (G := fun q => rN1 B 0 (C 3 - 1) q) (fun _ _ => qz_n_fs (G := fun q => q) (fun _ _ => rfl) (fun _ => rfl)) (fun _ => rfl)
theorem qz_k_0 {B C : Nat → Int} {k : Int} {r : Except Int (Nat × Nat)} (h : k = 0) : qz_k B k C r = qz_k0 B C r := if_pos h
theorem qz_k_1 {B C : Nat → Int} {k : Int} {r : Except Int (Nat × Nat)} (h : k = 1) : qz_k B k C r = qz_k1 B C r := (if_neg (by omega)).trans (if_pos h)
theorem qz_k_2 {B C : Nat → Int} {k : Int} {r : Except Int (Nat × Nat)} (h : k = 2) : qz_k B k C r = qz_k2 B C r := (if_neg (by omega)).trans ((if_neg (by omega)).trans (if_pos h))
theorem qz_k_3 {B C : Nat → Int} {k : Int} {r : Except Int (Nat × Nat)} (h : 3 ≤ k) : qz_k B k C r = qz_k3 B C r := (if_neg (by omega)).trans ((if_neg (by omega)).trans (if_neg (by omega)))
theorem qz_k_n {B C : Nat → Int} {k : Int} {r : Except Int (Nat × Nat)} (h : ¬ k = 0) (h1 : ¬ k = 1) (h2 : ¬ k = 2) : qz_k B k C r = qz_k3 B C r := (if_neg h).trans ((if_neg h1).trans (if_neg h2))
theorem fsC_ok {q : Except Int QzU} {t : QzU} (h : q = .ok t) : fsC q = .ok t.1 := by rw [h]; rfl
theorem rN1_lt {B : Nat → Int} {a b : Int} {r : Except Int (Nat × Nat)} {t : Nat × Nat} (h : rN1 B a b r = .ok t) : ∃ s, r = .ok s ∧ s.1 < t.1 := by
  obtain ⟨s, h1, h2, -, -⟩ := rN1_gt h
  exact ⟨s, h1, h2⟩
theorem rN1_l2 {B : Nat → Int} {a b a2 b2 : Int} {s t : Nat × Nat} (h : rN1 B a b (rN1 B a2 b2 (.ok s)) = .ok t) : s.1 < t.1 := by
  obtain ⟨s1, h1, h2⟩ := rN1_lt h
  obtain ⟨s2, h3, h4⟩ := rN1_lt h1
  cases h3
  omega
theorem rN1_l3 {B : Nat → Int} {a b a2 b2 a3 b3 : Int} {s t : Nat × Nat} (h : rN1 B a b (rN1 B a2 b2 (rN1 B a3 b3 (.ok s))) = .ok t) : s.1 < t.1 := by
  obtain ⟨s1, h1, h2⟩ := rN1_lt h
  have h3 := rN1_l2 h1
  omega
theorem qz_k_gt {B C : Nat → Int} {k : Int} {s : Nat × Nat} {t : QzU} (h : qz_k B k C (.ok s) = .ok t) : s.1 < t.1.1 := by
  by_cases z : k = 0
  · rw [qz_k_0 z] at h
    have h1 := fsC_ok h
    rw [qz_k0_fs] at h1
    exact rN1_l3 h1
  · by_cases z1 : k = 1
    · rw [qz_k_1 z1] at h
      have h1 := fsC_ok h
      rw [qz_k1_fs] at h1
      exact rN1_l2 h1
    · by_cases z2 : k = 2
      · rw [qz_k_2 z2] at h
        have h1 := fsC_ok h
        rw [qz_k2_fs] at h1
        exact rN1_l3 h1
      · rw [qz_k_n z z1 z2] at h
        have h1 := fsC_ok h
        rw [qz_k3_fs] at h1
        exact rN1_l2 h1
theorem qz_cl_gt {B : Nat → Int} {l : Nat} {u t : QzU} (h : qz_cl B l u = .ok t) : B u.1.1 ≠ -1 ∧ u.1.1 < t.1.1 := by
  unfold qz_cl at h
  by_cases z : pz_wa B u.1.1 pz_bws 0 = -1
  · rw [if_pos z] at h; cases h
  · rw [if_neg z] at h
    obtain ⟨w, hw, hd⟩ := pz_wa_hit pz_bws 0 (Int.le_refl _) z
    have hb := pz_wd_ne hd (pz_bws_ne w hw).1 (pz_bws_ne w hw).2
    refine ⟨hb, ?_⟩
    by_cases y : 40 ≤ l ∨ ¬ (pz_wa B u.1.1 pz_bws 0 = 0 ↔ l = 0) ∨ (pz_wa B u.1.1 pz_bws 0 = 2 ∧ 6 ≤ u.2 3)
    · rw [if_pos y] at h; cases h
    · rw [if_neg y] at h
      have h1 := qz_k_gt h
      have h2 := pz_nt_gt hb
      have h3 : (pz_nx B u.1).1 = pz_nt B u.1.1 := rfl
      omega
theorem qz_cl_40 {B : Nat → Int} {u : QzU} : ∃ e, qz_cl B 40 u = .error e := by
  unfold qz_cl
  by_cases z : pz_wa B u.1.1 pz_bws 0 = -1
  · rw [if_pos z]; exact ⟨_, rfl⟩
  · rw [if_neg z]; exact ⟨_, if_pos (Or.inl (Nat.le_refl _))⟩
theorem qz_F_pr {B : Nat → Int} (hB : pz_fi B) : pz_pr (fun w : QzU × Nat => w.1.1.1) (qz_F B) := by
  intro w r h
  unfold qz_F at h
  by_cases z : B w.1.1.1 = 59
  · rw [if_pos z] at h
    have hb : B w.1.1.1 ≠ -1 := by omega
    refine ⟨hB.lt hb, fun t ht => ?_⟩
    cases h
    cases e : qz_cl B w.2 (pz_nx B w.1.1, w.1.2) with
    | error x => rw [e] at ht; cases ht
    | ok s1 =>
      rw [e] at ht
      cases ht
      have h1 := (qz_cl_gt e).2
      have h2 := pz_nt_gt hb
      have h3 : (pz_nx B w.1.1).1 = pz_nt B w.1.1.1 := rfl
      have h4 : ((pz_nx B w.1.1, w.1.2) : QzU).1.1 = (pz_nx B w.1.1).1 := rfl
      show w.1.1.1 < s1.1.1
      omega
  · rw [if_neg z] at h; cases h
def QzG (l : Nat) (C : Nat → Int) : Prop := (l = 0 ∨ (C 0 = 1 ∧ 1 ≤ C 2)) ∧ (0 ≤ C 2 ∧ C 2 ≤ 10) ∧ (0 ≤ C 3 ∧ C 3 ≤ 6) ∧ (0 ≤ C 1 ∧ C 1 ≤ 9) ∧ (0 ≤ C 94 ∧ C 94 ≤ 99) ∧ ∀ b : Nat, b < 6 → (0 ≤ C (68 + b) ∧ C (68 + b) ≤ 20) ∧ 0 ≤ C (56 + b) ∧ C (56 + b) ≤ 9
theorem QzG.zero : QzG 0 qz_0 := by
  refine ⟨Or.inl rfl, ?_, ?_, ?_, ?_, fun b hb => ⟨?_, ?_⟩⟩ <;> exact ⟨Int.le_refl _, (by show (0 : Int) ≤ _; decide)⟩
theorem qz_n_ok {T : Type} {B : Nat → Int} {a b : Int} {r : Except Int (Nat × Nat)} {g : Int → Nat × Nat → Except Int T} {t : T} (h : qz_n B a b r g = .ok t) : ∃ s v, r = .ok s ∧ pz_num B a b s.1 = .ok v ∧ g v (pz_nx B s) = .ok t := by
  obtain ⟨s, h1, h2⟩ := pz_b_in h
  obtain ⟨v, h3, h4⟩ := pz_b_in h2
  exact ⟨s, v, h1, h3, h4⟩
theorem QzG.k {B C : Nat → Int} {k : Int} {l : Nat} {r : Except Int (Nat × Nat)} {t : QzU} (hc : QzG l C) (h : qz_k B k C r = .ok t) (hk : k = 0 ↔ l = 0) (h6 : ¬ (k = 2 ∧ 6 ≤ C 3)) : QzG (l + 1) t.2 := by
  obtain ⟨c0, c2, c3, c1, c94, cb⟩ := hc
  by_cases z : k = 0
  · rw [qz_k_0 z] at h
    obtain ⟨s1, x, -, n1, h⟩ := qz_n_ok h
    obtain ⟨s2, y, -, n2, h⟩ := qz_n_ok h
    obtain ⟨s3, w, -, n3, h⟩ := qz_n_ok h
    cases h
    have r1 := num_rg n1
    have r2 := num_rg n2
    have r3 := num_rg n3
    show QzG (l + 1) (qz_c0 C x y w)
    unfold qz_c0
    refine ⟨Or.inr ⟨qz_u_at, ?_⟩, ?_, ?_, ?_, ?_, fun b hb => ?_⟩
    · rw [qz_u_ne (by omega), qz_u_at]; exact r3.1
    · rw [qz_u_ne (by omega), qz_u_at]; omega
    · rw [qz_u_ne (by omega), qz_u_ne (by omega), qz_u_ne (by omega), qz_u_ne (by omega)]; exact c3
    · rw [qz_u_ne (by omega), qz_u_ne (by omega), qz_u_at]; exact r2
    · rw [qz_u_ne (by omega), qz_u_ne (by omega), qz_u_ne (by omega), qz_u_at]; exact r1
    · rw [qz_u_ne (by omega), qz_u_ne (by omega), qz_u_ne (by omega), qz_u_ne (by omega), qz_u_ne (by omega), qz_u_ne (by omega), qz_u_ne (by omega), qz_u_ne (by omega)]; exact cb b hb
  · have hl : C 0 = 1 ∧ 1 ≤ C 2 := by
      rcases c0 with c0 | c0
      · exact absurd (hk.mpr c0) z
      · exact c0
    by_cases z1 : k = 1
    · rw [qz_k_1 z1] at h
      obtain ⟨s1, x, -, n1, h⟩ := qz_n_ok h
      obtain ⟨s2, y, -, n2, h⟩ := qz_n_ok h
      cases h
      have r1 := num_rg n1
      have r2 := num_rg n2
      show QzG (l + 1) (qz_c1 C x y)
      unfold qz_c1
      refine ⟨Or.inr ?_, ?_, ?_, ?_, ?_, fun b hb => ?_⟩
      · rw [qz_u_ne (by omega), qz_u_ne (by omega)]; exact hl
      · rw [qz_u_ne (by omega)]; exact c2
      · rw [qz_u_ne (by omega)]; exact c3
      · rw [qz_u_ne (by omega)]; exact c1
      · rw [qz_u_ne (by omega)]; exact c94
      · rw [qz_u_ne (by omega), qz_u_ne (by omega)]; exact cb b hb
    · by_cases z2 : k = 2
      · rw [qz_k_2 z2] at h
        obtain ⟨s1, x, -, n1, h⟩ := qz_n_ok h
        obtain ⟨s2, y, -, n2, h⟩ := qz_n_ok h
        obtain ⟨s3, w, -, n3, h⟩ := qz_n_ok h
        cases h
        have r1 := num_rg n1
        have r2 := num_rg n2
        have r3 := num_rg n3
        have h5 : C 3 < 6 := by
          by_cases y6 : 6 ≤ C 3
          · exact absurd ⟨z2, y6⟩ h6
          · omega
        show QzG (l + 1) (qz_c2 C x y w)
        unfold qz_c2
        refine ⟨Or.inr ?_, ?_, ?_, ?_, ?_, fun b hb => ?_⟩
        · rw [qz_u_ne (by omega), qz_u_ne (by omega), qz_u_ne (by omega), qz_u_ne (by omega), qz_u_ne (by omega), qz_u_ne (by omega), qz_u_ne (by omega), qz_u_ne (by omega)]; exact hl
        · rw [qz_u_ne (by omega), qz_u_ne (by omega), qz_u_ne (by omega), qz_u_ne (by omega)]; exact c2
        · rw [qz_u_at]; omega
        · rw [qz_u_ne (by omega), qz_u_ne (by omega), qz_u_ne (by omega), qz_u_ne (by omega)]; exact c1
        · rw [qz_u_ne (by omega), qz_u_ne (by omega), qz_u_ne (by omega), qz_u_ne (by omega)]; exact c94
        · have hb1 := (cb b hb).1
          have hb2 := (cb b hb).2
          refine ⟨?_, ?_⟩
          · rw [qz_u_ne (by omega), qz_u_ne (by omega), qz_u_ne (by omega)]
            by_cases e : b = (C 3).toNat
            · rw [e, qz_u_at]; exact r1
            · rw [qz_u_ne (by omega)]; exact hb1
          · rw [qz_u_ne (by omega), qz_u_ne (by omega)]
            by_cases e : b = (C 3).toNat
            · rw [e, qz_u_at]; omega
            · rw [qz_u_ne (by omega), qz_u_ne (by omega)]; exact hb2
      · rw [qz_k_n z z1 z2] at h
        obtain ⟨s1, x, -, n1, h⟩ := qz_n_ok h
        obtain ⟨s2, y, -, n2, h⟩ := qz_n_ok h
        cases h
        have r1 := num_rg n1
        show QzG (l + 1) (qz_c3 C x y)
        unfold qz_c3
        refine ⟨Or.inr ?_, ?_, ?_, ?_, ?_, fun b hb => ?_⟩
        · rw [qz_u_ne (by omega), qz_u_ne (by omega)]; exact hl
        · rw [qz_u_ne (by omega)]; exact c2
        · rw [qz_u_ne (by omega)]; exact c3
        · rw [qz_u_ne (by omega)]; exact c1
        · by_cases e : 94 = 84 + x.toNat
          · omega
          · rw [qz_u_ne e]; exact c94
        · rw [qz_u_ne (by omega), qz_u_ne (by omega)]; exact cb b hb
theorem QzG.cl {B : Nat → Int} {l : Nat} {u t : QzU} (hc : QzG l u.2) (h : qz_cl B l u = .ok t) : QzG (l + 1) t.2 := by
  unfold qz_cl at h
  by_cases z : pz_wa B u.1.1 pz_bws 0 = -1
  · rw [if_pos z] at h; cases h
  · rw [if_neg z] at h
    by_cases y : 40 ≤ l ∨ ¬ (pz_wa B u.1.1 pz_bws 0 = 0 ↔ l = 0) ∨ (pz_wa B u.1.1 pz_bws 0 = 2 ∧ 6 ≤ u.2 3)
    · rw [if_pos y] at h; cases h
    · rw [if_neg y] at h
      exact hc.k h (Classical.byContradiction (fun q => y (Or.inr (Or.inl q)))) (fun q => y (Or.inr (Or.inr q)))
theorem QzG.it {B : Nat → Int} : ∀ (n : Nat) (w t : QzU × Nat), pz_it (qz_F B) n w = .ok t → 1 ≤ w.2 → QzG w.2 w.1.2 → 1 ≤ t.2 ∧ QzG t.2 t.1.2
  | 0, w, t, h, h1, hg => by cases h; exact ⟨h1, hg⟩
  | n + 1, w, t, h, h1, hg => by
    rw [pz_it] at h
    unfold qz_F at h
    by_cases z : B w.1.1.1 = 59
    · rw [if_pos z] at h
      have h : pz_b (pz_b (qz_cl B w.2 (pz_nx B w.1.1, w.1.2)) (fun u => Except.ok (u, w.2 + 1))) (pz_it (qz_F B) n) = Except.ok t := h
      cases e : qz_cl B w.2 (pz_nx B w.1.1, w.1.2) with
      | error x => rw [e] at h; cases h
      | ok u =>
        rw [e] at h
        exact QzG.it n (u, w.2 + 1) t h (Nat.le_add_left 1 w.2) (QzG.cl (u := (pz_nx B w.1.1, w.1.2)) hg e)
    · rw [if_neg z] at h
      have h : Except.ok w = Except.ok t := h
      cases h
      exact ⟨h1, hg⟩
theorem QzG.book {B : Nat → Int} {u : QzU} (h : qz_book B = .ok u) : QzG 1 u.2 := by
  have h : pz_b (pz_b (qz_Ru B) (fun w => Except.ok w.1)) (fun u => pz_b (pz_end B u.1.1) (fun _ => Except.ok u)) = Except.ok u := h
  cases e1 : qz_cl B 0 ((pz_sk B 0, 0), qz_0) with
  | error x =>
    have e : qz_Ru B = .error x := by unfold qz_Ru; rw [e1]; rfl
    rw [e] at h; cases h
  | ok v =>
    have e : qz_Ru B = pz_it (qz_F B) 401 (v, 1) := by unfold qz_Ru; rw [e1]; rfl
    rw [e] at h
    cases e2 : pz_it (qz_F B) 401 (v, 1) with
    | error x => rw [e2] at h; cases h
    | ok w =>
      rw [e2] at h
      have h : pz_b (pz_end B w.1.1.1) (fun _ => Except.ok w.1) = Except.ok u := h
      cases e3 : pz_end B w.1.1.1 with
      | error x => rw [e3] at h; cases h
      | ok p =>
        rw [e3] at h
        cases h
        obtain ⟨h1, h2, h3⟩ := QzG.it 401 (v, 1) w e2 (Nat.le_refl 1) (QzG.cl (u := ((pz_sk B 0, 0), qz_0)) QzG.zero e1)
        refine ⟨Or.inr ?_, h3⟩
        rcases h2 with q | q
        · omega
        · exact q
set_option maxRecDepth 16384
/-! the class's reader of the book: the shop as the text tells it -/
def ShC (v0 v1 v2 v3 v4 v5 : Int32) (f1 f2 f3 f4 f5 f6 f7 f8 : Nat → Int32) (C : Nat → Int) : Prop := (v0.toInt = C 94 ∧ v1.toInt = C 1 ∧ v2.toInt = C 2 ∧ v3.toInt = C 3 ∧ v4.toInt = 0 ∧ v5.toInt = 0) ∧ (∀ k : Nat, k < 10 → (f1 k).toInt = C (74 + k) ∧ (f2 k).toInt = C (84 + k)) ∧ ∀ b : Nat, b < 6 → (f3 b).toInt = C (68 + b) ∧ (f4 b).toInt = C (56 + b) ∧ (f5 b).toInt = C (62 + b) ∧ (f6 b).toInt = 0 ∧ (f7 b).toInt = 0 ∧ (f8 b).toInt = -1
def QcI (r : Except Int (Nat × Nat)) (v0 v1 v2 v3 v4 v5 : Int32) (f1 f2 f3 f4 f5 f6 f7 f8 : Nat → Int32) (C : Nat → Int) : Prop := ∀ s, r = .ok s → ShC v0 v1 v2 v3 v4 v5 f1 f2 f3 f4 f5 f6 f7 f8 C ∧ 0 ≤ C 2 ∧ C 2 ≤ 10
def QsQ (q : Except Int QzU) (v0 v1 v2 v3 v4 v5 : Int32) (f1 f2 f3 f4 f5 f6 f7 f8 : Nat → Int32) : Prop := ∀ u, q = .ok u → ShC v0 v1 v2 v3 v4 v5 f1 f2 f3 f4 f5 f6 f7 f8 u.2 ∧ 0 ≤ u.2 2 ∧ u.2 2 ≤ 10
def FsR (q : Except Int QzU) (r : Except Int (Nat × Nat)) : Prop := fsC q = r
def cnQ (q : Except Int QzU) : Nat → Int := match q with
  | .ok u => u.2
  | .error _ => qz_0
theorem cnQ_ok {u : QzU} : cnQ (.ok u) = u.2 := rfl
theorem rN1_is {B : Nat → Int} {a b v : Int} {r : Except Int (Nat × Nat)} {s : Nat × Nat} (hr : r = .ok s) (hn : pz_num B a b s.1 = .ok v) : rN1 B a b r = .ok (pz_nx B s) := by
  rw [hr]
  show pz_b (pz_b (pz_num B a b s.1) (fun _ => Except.ok s)) (fun s => Except.ok (pz_nx B s)) = _
  rw [hn]; rfl
section QCL
variable {B C : Nat → Int} {r rr : Except Int (Nat × Nat)} {q : Except Int QzU} {v0 v1 v2 v3 v4 v5 x y z i w : Int32} {f1 f2 f3 f4 f5 f6 f7 f8 f1₁ f2₁ f3₁ f4₁ f5₁ : Nat → Int32} {l : Nat}
theorem QsQ.ci (h : QsQ q v0 v1 v2 v3 v4 v5 f1 f2 f3 f4 f5 f6 f7 f8) (hq : FsR q rr) : QcI (rNX B rr) v0 v1 v2 v3 v4 v5 f1 f2 f3 f4 f5 f6 f7 f8 (cnQ q) := fun s hs => by
  unfold FsR at hq
  rw [← hq] at hs
  cases q with
  | error e => cases hs
  | ok u => exact h u rfl
theorem QsQ.b0 (h : QcI r v0 v1 v2 v3 v4 v5 f1 f2 f3 f4 f5 f6 f7 f8 C) (hx : NuV B 0 99 r x) (hy : NuV B 0 9 (rN1 B 0 99 r) y) (hz : NuV B 1 10 (rN1 B 0 9 (rN1 B 0 99 r)) z) : QsQ (qz_k0 B C r) x y z v3 v4 v5 f1 f2 f3 f4 f5 f6 f7 f8 := fun u hu => by
  obtain ⟨s1, a, h1, n1, hu⟩ := qz_n_ok hu
  obtain ⟨s2, b, h2, n2, hu⟩ := qz_n_ok hu
  obtain ⟨s3, c, h3, n3, hu⟩ := qz_n_ok hu
  cases h2
  cases h3
  cases hu
  have e1 := rN1_is h1 n1
  have e2 := rN1_is e1 n2
  have a1 : x.toInt = a := hx s1 a h1 n1
  have a2 : y.toInt = b := hy _ b e1 n2
  have a3 : z.toInt = c := hz _ c e2 n3
  have r3 := num_rg n3
  obtain ⟨⟨p0, p1, p2⟩, -, -⟩ := h s1 h1
  show ShC x y z v3 v4 v5 f1 f2 f3 f4 f5 f6 f7 f8 (qz_c0 C a b c) ∧ 0 ≤ qz_c0 C a b c 2 ∧ qz_c0 C a b c 2 ≤ 10
  have g2 : qz_c0 C a b c 2 = c := by unfold qz_c0; rw [qz_u_ne (by omega), qz_u_at]
  have gn : ∀ k : Nat, k ≠ 94 → k ≠ 1 → k ≠ 2 → k ≠ 0 → qz_c0 C a b c k = C k := fun k b1 b2 b3 b4 => by unfold qz_c0; rw [qz_u_ne b4, qz_u_ne b3, qz_u_ne b2, qz_u_ne b1]
  refine ⟨⟨⟨?_, ?_, ?_, ?_, p0.2.2.2.2⟩, fun k hk => ?_, fun k hk => ?_⟩, ?_⟩
  · rw [a1]; unfold qz_c0; rw [qz_u_ne (by omega), qz_u_ne (by omega), qz_u_ne (by omega), qz_u_at]
  · rw [a2]; unfold qz_c0; rw [qz_u_ne (by omega), qz_u_ne (by omega), qz_u_at]
  · rw [a3, g2]
  · rw [gn 3 (by omega) (by omega) (by omega) (by omega)]; exact p0.2.2.2.1
  · rw [gn (74 + k) (by omega) (by omega) (by omega) (by omega), gn (84 + k) (by omega) (by omega) (by omega) (by omega)]; exact p1 k hk
  · rw [gn (68 + k) (by omega) (by omega) (by omega) (by omega), gn (56 + k) (by omega) (by omega) (by omega) (by omega), gn (62 + k) (by omega) (by omega) (by omega) (by omega)]; exact p2 k hk
  · rw [g2]; omega
theorem rd_C (h : v2.toInt = C 2) (h0 : 0 ≤ C 2 ∧ C 2 ≤ 10) : (v2 - 1).toInt = C 2 - 1 := by
  rw [rd_1 (by omega), h]
theorem QsQ.b1 (h : QcI r v0 v1 v2 v3 v4 v5 f1 f2 f3 f4 f5 f6 f7 f8 C) (hx : NuV B 0 (v2 - 1).toInt r x) (hy : NuV B 0 9 (rN1 B 0 (v2 - 1).toInt r) y) (e : f1₁ = upd f1 x.toNatClampNeg y) : QsQ (qz_k1 B C r) v0 v1 v2 v3 v4 v5 f1₁ f2 f3 f4 f5 f6 f7 f8 := fun u hu => by
  obtain ⟨s1, a, h1, n1, hu⟩ := qz_n_ok hu
  obtain ⟨s2, b, h2, n2, hu⟩ := qz_n_ok hu
  cases h2
  cases hu
  obtain ⟨⟨p0, p1, p2⟩, p3⟩ := h s1 h1
  have ed := rd_C p0.2.2.1 p3
  rw [ed] at hx hy
  have e1 := rN1_is h1 n1
  have a1 : x.toInt = a := hx s1 a h1 n1
  have a2 : y.toInt = b := hy _ b e1 n2
  have r1 := num_rg n1
  show ShC v0 v1 v2 v3 v4 v5 f1₁ f2 f3 f4 f5 f6 f7 f8 (qz_c1 C a b) ∧ 0 ≤ qz_c1 C a b 2 ∧ qz_c1 C a b 2 ≤ 10
  have gn : ∀ k : Nat, k ≠ 74 + a.toNat → qz_c1 C a b k = C k := fun k b1 => qz_u_ne b1
  have ga : qz_c1 C a b (74 + a.toNat) = b := qz_u_at
  have ei : x.toNatClampNeg = a.toNat := by show x.toInt.toNat = a.toNat; rw [a1]
  refine ⟨⟨?_, fun k hk => ?_, fun k hk => ?_⟩, ?_⟩
  · rw [gn 94 (by omega), gn 1 (by omega), gn 2 (by omega), gn 3 (by omega)]; exact p0
  · rw [gn (84 + k) (by omega), e, ei]
    by_cases q1 : k = a.toNat
    · rw [q1, upd_at, ga]; exact ⟨a2, (p1 _ (by omega)).2⟩
    · rw [upd_ne q1, gn (74 + k) (by omega)]; exact p1 k hk
  · rw [gn (68 + k) (by omega), gn (56 + k) (by omega), gn (62 + k) (by omega)]; exact p2 k hk
  · rw [gn 2 (by omega)]; exact p3
theorem QsQ.n1 (h : QcI r v0 v1 v2 v3 v4 v5 f1 f2 f3 f4 f5 f6 f7 f8 C) (hx : NuV B 0 (v2 - 1).toInt r x) (hn : ¬ (0 ≤ x.toInt ∧ x.toInt < v2.toInt ∧ x.toInt < 10)) : QsQ (qz_k1 B C r) v0 v1 v2 v3 v4 v5 f1 f2 f3 f4 f5 f6 f7 f8 := fun u hu => by
  obtain ⟨s1, a, h1, n1, hu⟩ := qz_n_ok hu
  obtain ⟨⟨p0, p1, p2⟩, p3⟩ := h s1 h1
  have ed := rd_C p0.2.2.1 p3
  rw [ed] at hx
  have a1 : x.toInt = a := hx s1 a h1 n1
  have r1 := num_rg n1
  have e2 := p0.2.2.1
  exact absurd ⟨by omega, by omega, by omega⟩ hn
theorem QsQ.b2 (h : QcI r v0 v1 v2 v3 v4 v5 f1 f2 f3 f4 f5 f6 f7 f8 C) (hb : 0 ≤ v3.toInt ∧ v3.toInt < 6) (hx : NuV B 0 20 r x) (hy : NuV B 1 9 (rN1 B 0 20 r) y) (hz : NuV B 0 9 (rN1 B 1 9 (rN1 B 0 20 r)) z) (e3 : f3₁ = upd f3 v3.toNatClampNeg x) (e4 : f4₁ = upd f4 v3.toNatClampNeg y) (e5 : f5₁ = upd f5 v3.toNatClampNeg z) (hw : w.toInt = v3.toInt + 1) : QsQ (qz_k2 B C r) v0 v1 v2 w v4 v5 f1 f2 f3₁ f4₁ f5₁ f6 f7 f8 := fun u hu => by
  obtain ⟨s1, a, h1, n1, hu⟩ := qz_n_ok hu
  obtain ⟨s2, b, h2, n2, hu⟩ := qz_n_ok hu
  obtain ⟨s3, c, h3, n3, hu⟩ := qz_n_ok hu
  cases h2
  cases h3
  cases hu
  have g1 := rN1_is h1 n1
  have g2 := rN1_is g1 n2
  have a1 : x.toInt = a := hx s1 a h1 n1
  have a2 : y.toInt = b := hy _ b g1 n2
  have a3 : z.toInt = c := hz _ c g2 n3
  obtain ⟨⟨p0, p1, p2⟩, p3⟩ := h s1 h1
  have e0 : v3.toInt = C 3 := p0.2.2.2.1
  have ei : v3.toNatClampNeg = (C 3).toNat := by show v3.toInt.toNat = (C 3).toNat; rw [e0]
  have hm : (C 3).toNat < 6 := by omega
  generalize em : (C 3).toNat = m at ei hm
  show ShC v0 v1 v2 w v4 v5 f1 f2 f3₁ f4₁ f5₁ f6 f7 f8 (qz_c2 C a b c) ∧ 0 ≤ qz_c2 C a b c 2 ∧ qz_c2 C a b c 2 ≤ 10
  have gn : ∀ k : Nat, k ≠ 68 + m → k ≠ 56 + m → k ≠ 62 + m → k ≠ 3 → qz_c2 C a b c k = C k := fun k b1 b2 b3 b4 => by unfold qz_c2; rw [em, qz_u_ne b4, qz_u_ne b3, qz_u_ne b2, qz_u_ne b1]
  have ga : qz_c2 C a b c (68 + m) = a := by unfold qz_c2; rw [em, qz_u_ne (by omega), qz_u_ne (by omega), qz_u_ne (by omega), qz_u_at]
  have gb : qz_c2 C a b c (56 + m) = b := by unfold qz_c2; rw [em, qz_u_ne (by omega), qz_u_ne (by omega), qz_u_at]
  have gc : qz_c2 C a b c (62 + m) = c := by unfold qz_c2; rw [em, qz_u_ne (by omega), qz_u_at]
  have g3 : qz_c2 C a b c 3 = C 3 + 1 := by unfold qz_c2; rw [qz_u_at]
  refine ⟨⟨?_, fun k hk => ?_, fun k hk => ?_⟩, ?_⟩
  · rw [gn 94 (by omega) (by omega) (by omega) (by omega), gn 1 (by omega) (by omega) (by omega) (by omega), gn 2 (by omega) (by omega) (by omega) (by omega), g3, hw, e0]; exact ⟨p0.1, p0.2.1, p0.2.2.1, rfl, p0.2.2.2.2⟩
  · rw [gn (74 + k) (by omega) (by omega) (by omega) (by omega), gn (84 + k) (by omega) (by omega) (by omega) (by omega)]; exact p1 k hk
  · rw [e3, e4, e5, ei]
    by_cases q1 : k = m
    · rw [q1, upd_at, upd_at, upd_at, ga, gb, gc]; exact ⟨a1, a2, a3, (p2 _ hm).2.2.2⟩
    · rw [upd_ne q1, upd_ne q1, upd_ne q1, gn (68 + k) (by omega) (by omega) (by omega) (by omega), gn (56 + k) (by omega) (by omega) (by omega) (by omega), gn (62 + k) (by omega) (by omega) (by omega) (by omega)]; exact p2 k hk
  · rw [gn 2 (by omega) (by omega) (by omega) (by omega)]; exact p3
theorem QsQ.b3 (h : QcI r v0 v1 v2 v3 v4 v5 f1 f2 f3 f4 f5 f6 f7 f8 C) (hx : NuV B 0 (v2 - 1).toInt r x) (hy : NuV B 0 (v3.toInt - 1) (rN1 B 0 (v2 - 1).toInt r) y) (e : f2₁ = upd f2 x.toNatClampNeg (f2 x.toNatClampNeg ||| ((1 : Int32) <<< (y &&& 31)))) : QsQ (qz_k3 B C r) v0 v1 v2 v3 v4 v5 f1 f2₁ f3 f4 f5 f6 f7 f8 := fun u hu => by
  obtain ⟨s1, a, h1, n1, hu⟩ := qz_n_ok hu
  obtain ⟨s2, b, h2, n2, hu⟩ := qz_n_ok hu
  cases h2
  cases hu
  obtain ⟨⟨p0, p1, p2⟩, p3⟩ := h s1 h1
  have ed := rd_C p0.2.2.1 p3
  rw [ed] at hx hy
  rw [p0.2.2.2.1] at hy
  have e1 := rN1_is h1 n1
  have a1 : x.toInt = a := hx s1 a h1 n1
  have a2 : y.toInt = b := hy _ b e1 n2
  have r1 := num_rg n1
  show ShC v0 v1 v2 v3 v4 v5 f1 f2₁ f3 f4 f5 f6 f7 f8 (qz_c3 C a b) ∧ 0 ≤ qz_c3 C a b 2 ∧ qz_c3 C a b 2 ≤ 10
  have gn : ∀ k : Nat, k ≠ 84 + a.toNat → qz_c3 C a b k = C k := fun k b1 => qz_u_ne b1
  have ga : qz_c3 C a b (84 + a.toNat) = qz_or (C (84 + a.toNat)) b := qz_u_at
  have ei : x.toNatClampNeg = a.toNat := by show x.toInt.toNat = a.toNat; rw [a1]
  refine ⟨⟨?_, fun k hk => ?_, fun k hk => ?_⟩, ?_⟩
  · rw [gn 94 (by omega), gn 1 (by omega), gn 2 (by omega), gn 3 (by omega)]; exact p0
  · rw [gn (74 + k) (by omega), e, ei]
    by_cases q1 : k = a.toNat
    · rw [q1, upd_at, ga, ← (p1 _ (by omega)).2, ← a2, qz_or_is]; exact ⟨(p1 _ (by omega)).1, rfl⟩
    · rw [upd_ne q1, gn (84 + k) (by omega)]; exact p1 k hk
  · rw [gn (68 + k) (by omega), gn (56 + k) (by omega), gn (62 + k) (by omega)]; exact p2 k hk
  · rw [gn 2 (by omega)]; exact p3
theorem QsQ.n3 (h : QcI r v0 v1 v2 v3 v4 v5 f1 f2 f3 f4 f5 f6 f7 f8 C) (hx : NuV B 0 (v2 - 1).toInt r x) (hy : NuV B 0 (v3.toInt - 1) (rN1 B 0 (v2 - 1).toInt r) y) (hb : 0 ≤ v3.toInt ∧ v3.toInt ≤ 6) (hn : ¬ (0 ≤ x.toInt ∧ x.toInt < v2.toInt ∧ x.toInt < 10 ∧ 0 ≤ y.toInt ∧ y.toInt < v3.toInt ∧ y.toInt < 6)) : QsQ (qz_k3 B C r) v0 v1 v2 v3 v4 v5 f1 f2 f3 f4 f5 f6 f7 f8 := fun u hu => by
  obtain ⟨s1, a, h1, n1, hu⟩ := qz_n_ok hu
  obtain ⟨s2, b, h2, n2, hu⟩ := qz_n_ok hu
  cases h2
  obtain ⟨⟨p0, p1, p2⟩, p3⟩ := h s1 h1
  have ed := rd_C p0.2.2.1 p3
  rw [ed] at hx hy
  rw [p0.2.2.2.1] at hy
  have e1 := rN1_is h1 n1
  have a1 : x.toInt = a := hx s1 a h1 n1
  have a2 : y.toInt = b := hy _ b e1 n2
  have r1 := num_rg n1
  have r2 := num_rg n2
  have e2 := p0.2.2.1
  have e3 := p0.2.2.2.1
  exact absurd ⟨by omega, by omega, by omega, by omega, by omega, by omega⟩ hn
/-! a clause -/
theorem qc_no (h : waR B (wL 0) 0 (fsC q) = -1) : fsC (pz_b q (qz_cl B l)) = rER 0 (fsC q) := by
  cases q with
  | error e => rfl
  | ok u =>
    have h : pz_wa B u.1.1 (wL 0) 0 = -1 := h
    rw [wL0] at h
    show fsC (qz_cl B l u) = _
    rw [show qz_cl B l u = .error (pz_er 0 u.1.1) from if_pos h]
    rfl
theorem QsQ.er {k : Int} (h : fsC (pz_b q (qz_cl B l)) = rER k (fsC q)) : QsQ (pz_b q (qz_cl B l)) v0 v1 v2 v3 v4 v5 f1 f2 f3 f4 f5 f6 f7 f8 := fun u hu => by
  rw [hu] at h
  cases q with
  | error e => cases hu
  | ok v => cases h
theorem qc_bad {k : Int} (h : waR B (wL 0) 0 (fsC q) = k) (hk : ¬ k = -1) (hq : QsQ q v0 v1 v2 v3 v4 v5 f1 f2 f3 f4 f5 f6 f7 f8) (hb : 40 ≤ l ∨ ¬ (k = 0 ↔ l = 0) ∨ (k = 2 ∧ 6 ≤ v3.toInt)) : fsC (pz_b q (qz_cl B l)) = rER 4 (fsC q) := by
  cases q with
  | error e => exact absurd h.symm hk
  | ok u =>
    have h : pz_wa B u.1.1 (wL 0) 0 = k := h
    rw [wL0] at h
    subst h
    have e := (hq u rfl).1.1.2.2.2.1
    show fsC (qz_cl B l u) = _
    rw [show qz_cl B l u = .error (pz_er 4 u.1.1) from (if_neg hk).trans (if_pos (by rw [← e]; exact hb))]
    rfl
theorem qc_go {k : Int} (h : waR B (wL 0) 0 (fsC q) = k) (hk : ¬ k = -1) (hq : QsQ q v0 v1 v2 v3 v4 v5 f1 f2 f3 f4 f5 f6 f7 f8) (hb : ¬ (40 ≤ l ∨ ¬ (k = 0 ↔ l = 0) ∨ (k = 2 ∧ 6 ≤ v3.toInt))) : pz_b q (qz_cl B l) = qz_k B k (cnQ q) (rNX B (fsC q)) ∧ (v2.toInt = cnQ q 2 ∧ 0 ≤ cnQ q 2 ∧ cnQ q 2 ≤ 10) ∧ v3.toInt = cnQ q 3 := by
  cases q with
  | error e => exact absurd h.symm hk
  | ok u =>
    have h : pz_wa B u.1.1 (wL 0) 0 = k := h
    rw [wL0] at h
    subst h
    have e := hq u rfl
    refine ⟨?_, ⟨e.1.1.2.2.1, e.2⟩, e.1.1.2.2.2.1⟩
    exact (if_neg hk).trans (if_neg (by rw [← e.1.1.2.2.2.1]; exact hb))
theorem qc_0 (h : waR B (wL 0) 0 (fsC q) = 0) (hq : QsQ q v0 v1 v2 v3 v4 v5 f1 f2 f3 f4 f5 f6 f7 f8) (hl : l = 0) : pz_b q (qz_cl B l) = qz_k0 B (cnQ q) (rNX B (fsC q)) ∧ fsC (pz_b q (qz_cl B l)) = rN1 B 1 10 (rN1 B 0 9 (rN1 B 0 99 (rNX B (fsC q)))) := by
  obtain ⟨h1, -, -⟩ := qc_go (l := l) h (by decide) hq (by rw [hl]; intro y; rcases y with y | y | y; omega; exact y (by simp); omega)
  rw [h1, qz_k_0 rfl]
  exact ⟨rfl, qz_k0_fs⟩
theorem qc_1 (h : waR B (wL 0) 0 (fsC q) = 1) (hq : QsQ q v0 v1 v2 v3 v4 v5 f1 f2 f3 f4 f5 f6 f7 f8) (hl : 1 ≤ l ∧ l < 40) : pz_b q (qz_cl B l) = qz_k1 B (cnQ q) (rNX B (fsC q)) ∧ fsC (pz_b q (qz_cl B l)) = rN1 B 0 9 (rN1 B 0 (v2 - 1).toInt (rNX B (fsC q))) := by
  obtain ⟨h1, h2, -⟩ := qc_go (l := l) h (by decide) hq (by intro y; rcases y with y | y | y; omega; exact y ⟨fun y => by omega, fun y => by omega⟩; omega)
  rw [h1, qz_k_1 rfl, rd_C h2.1 h2.2]
  exact ⟨rfl, qz_k1_fs⟩
theorem qc_2 (h : waR B (wL 0) 0 (fsC q) = 2) (hq : QsQ q v0 v1 v2 v3 v4 v5 f1 f2 f3 f4 f5 f6 f7 f8) (hl : 1 ≤ l ∧ l < 40) (hb : v3.toInt < 6) : pz_b q (qz_cl B l) = qz_k2 B (cnQ q) (rNX B (fsC q)) ∧ fsC (pz_b q (qz_cl B l)) = rN1 B 0 9 (rN1 B 1 9 (rN1 B 0 20 (rNX B (fsC q)))) := by
  obtain ⟨h1, -, -⟩ := qc_go (l := l) h (by decide) hq (by intro y; rcases y with y | y | y; omega; exact y ⟨fun y => by omega, fun y => by omega⟩; omega)
  rw [h1, qz_k_2 rfl]
  exact ⟨rfl, qz_k2_fs⟩
theorem qc_3 {k : Int} (h : waR B (wL 0) 0 (fsC q) = k) (hk : 3 ≤ k) (hq : QsQ q v0 v1 v2 v3 v4 v5 f1 f2 f3 f4 f5 f6 f7 f8) (hl : 1 ≤ l ∧ l < 40) : pz_b q (qz_cl B l) = qz_k3 B (cnQ q) (rNX B (fsC q)) ∧ fsC (pz_b q (qz_cl B l)) = rN1 B 0 (v3.toInt - 1) (rN1 B 0 (v2 - 1).toInt (rNX B (fsC q))) := by
  obtain ⟨h1, h2, h3⟩ := qc_go (l := l) h (by omega) hq (by intro y; rcases y with y | y | y; omega; exact y ⟨fun y => by omega, fun y => by omega⟩; omega)
  rw [h1, qz_k_3 hk, rd_C h2.1 h2.2, h3]
  exact ⟨rfl, qz_k3_fs⟩
end QCL
/-! the class's loop -/
def QbH (B : Nat → Int) (q : Except Int QzU) (l : Int32) : Prop := (l.toInt = 0 ∧ q = .ok ((pz_sk B 0, 0), qz_0)) ∨ (1 ≤ l.toInt ∧ l.toInt ≤ 40 ∧ qz_Ru B = pz_b (qTG l.toInt.toNat q) (pz_lp (qz_F B))) ∨ (l.toInt = 41 ∧ ∃ e, q = .error e ∧ qz_Ru B = .error e)
def QbL (f : Nat → Int32) (n a b c d v0 v1 v2 v3 v4 v5 : Int32) (f1 f2 f3 f4 f5 f6 f7 f8 : Nat → Int32) (l : Int32) : Prop := ∃ q, TpR f n (fsC q) a b c d ∧ QsQ q v0 v1 v2 v3 v4 v5 f1 f2 f3 f4 f5 f6 f7 f8 ∧ QbH (cB f n) q l
section QBL
variable {f : Nat → Int32} {n a b c d v0 v1 v2 v3 v4 v5 l l' : Int32} {f1 f2 f3 f4 f5 f6 f7 f8 : Nat → Int32} {q q' : Except Int QzU}
theorem QbL.start (h : TpR f n (rSK (cB f n) (.ok (0, 0))) a b c d) (h1 : ShC v0 v1 v2 v3 v4 v5 f1 f2 f3 f4 f5 f6 f7 f8 qz_0) (hl : l.toInt = 0) : QbL f n a b c d v0 v1 v2 v3 v4 v5 f1 f2 f3 f4 f5 f6 f7 f8 l := ⟨.ok ((pz_sk (cB f n) 0, 0), qz_0), h, fun u hu => by cases hu; exact ⟨h1, Int.le_refl _, (show (0 : Int) ≤ 10 by decide)⟩, Or.inl ⟨hl, rfl⟩⟩
theorem QbL.turn (hl : 0 ≤ l.toInt ∧ l.toInt ≤ 40) (hl₀ : l'.toInt = l.toInt + 1) (h : TpR f n (fsC q') a b c d) (hct : QsQ q' v0 v1 v2 v3 v4 v5 f1 f2 f3 f4 f5 f6 f7 f8) (h12 : l.toInt = 40 → ∃ e, q' = .error e) (hR : qz_Ru (cB f n) = pz_b (qTG (l.toInt.toNat + 1) q') (pz_lp (qz_F (cB f n)))) : QbL f n a b c d v0 v1 v2 v3 v4 v5 f1 f2 f3 f4 f5 f6 f7 f8 l' := by
  refine ⟨q', h, hct, Or.inr ?_⟩
  by_cases z : l.toInt = 40
  · right
    obtain ⟨e, rfl⟩ := h12 z
    exact ⟨by omega, e, rfl, hR⟩
  · left
    refine ⟨by omega, by omega, ?_⟩
    rw [show l'.toInt.toNat = l.toInt.toNat + 1 by omega]
    exact hR
theorem QbL.next0 (hl : l.toInt = 0) (hq : QbH (cB f n) q l) (h : TpR f n (fsC (pz_b q (qz_cl (cB f n) l.toInt.toNat))) a b c d) (hct : QsQ (pz_b q (qz_cl (cB f n) l.toInt.toNat)) v0 v1 v2 v3 v4 v5 f1 f2 f3 f4 f5 f6 f7 f8) (hl₀ : l'.toInt = l.toInt + 1) : QbL f n a b c d v0 v1 v2 v3 v4 v5 f1 f2 f3 f4 f5 f6 f7 f8 l' := by
  rcases hq with hq | hq | hq
  · obtain ⟨-, rfl⟩ := hq
    refine QbL.turn (by omega) hl₀ h hct (fun z => by omega) ?_
    rw [hl]
    rfl
  · omega
  · omega
/-- behind a ; -/
def qNX (B : Nat → Int) (q : Except Int QzU) : Except Int QzU := pz_b q (fun u => .ok (pz_nx B u.1, u.2))
theorem fsC_nx {B : Nat → Int} {q : Except Int QzU} : fsC (qNX B q) = rNX B (fsC q) := by cases q <;> rfl
theorem QsQ.nx {B : Nat → Int} (h : QsQ q v0 v1 v2 v3 v4 v5 f1 f2 f3 f4 f5 f6 f7 f8) : QsQ (qNX B q) v0 v1 v2 v3 v4 v5 f1 f2 f3 f4 f5 f6 f7 f8 := fun u hu => by
  cases q with
  | error e => cases hu
  | ok v => cases hu; exact h v rfl
theorem QbL.nextS (hn : n.toInt ≤ 400) (hl : 1 ≤ l.toInt ∧ l.toInt ≤ 40) (hs : Sg (cB f n) 59 (fsC q)) (hq : QbH (cB f n) q l) (h : TpR f n (fsC (pz_b (qNX (cB f n) q) (qz_cl (cB f n) l.toInt.toNat))) a b c d) (hct : QsQ (pz_b (qNX (cB f n) q) (qz_cl (cB f n) l.toInt.toNat)) v0 v1 v2 v3 v4 v5 f1 f2 f3 f4 f5 f6 f7 f8) (hl₀ : l'.toInt = l.toInt + 1) : QbL f n a b c d v0 v1 v2 v3 v4 v5 f1 f2 f3 f4 f5 f6 f7 f8 l' := by
  obtain ⟨s, hs1, h59⟩ := hs
  cases q with
  | error e => cases hs1
  | ok u =>
    cases hs1
    rcases hq with hq | hq | hq
    · omega
    · refine QbL.turn (by omega) hl₀ h hct (fun z => ?_) ?_
      · rw [z]; exact qz_cl_40
      · rw [hq.2.2]
        exact pz_lp_on (qz_F_pr (cB_fi hn)) (s := (u, l.toInt.toNat)) (if_pos h59)
    · omega
theorem QbL.fin (hq : QbH (cB f n) q l) (h0 : ¬ l.toInt = 0) (hx : 40 < l.toInt ∨ NSg (cB f n) 59 (fsC q)) : qz_book (cB f n) = qEN (cB f n) q := by
  have e0 : qz_book (cB f n) = qEN (cB f n) (pz_b (qz_Ru (cB f n)) (fun w => .ok w.1)) := rfl
  rcases hq with hq | hq | hq
  · omega
  · rw [e0, hq.2.2]
    rcases hx with hx | hx
    · omega
    · cases q with
      | error e => rfl
      | ok u =>
        show qEN (cB f n) (pz_b (pz_lp (qz_F (cB f n)) (u, l.toInt.toNat)) _) = _
        rw [pz_lp_no (F := qz_F (cB f n)) (s := (u, l.toInt.toNat)) (if_neg (hx u.1 rfl))]
        rfl
  · obtain ⟨-, e, rfl, he⟩ := hq
    rw [e0, he]
    rfl
/-- the book is read: no fault and the shop as told, or the fault -/
def QkR (B : Nat → Int) (d v0 v1 v2 v3 v4 v5 : Int32) (f1 f2 f3 f4 f5 f6 f7 f8 : Nat → Int32) : Prop := (d.toInt = 0 ∧ ∃ u, qz_book B = .ok u ∧ ShC v0 v1 v2 v3 v4 v5 f1 f2 f3 f4 f5 f6 f7 f8 u.2) ∨ (¬ d.toInt = 0 ∧ qz_book B = .error d.toInt)
theorem fsC_en {B : Nat → Int} {q : Except Int QzU} : fsC (qEN B q) = rEN B (fsC q) := by
  cases q with
  | error e => rfl
  | ok u =>
    show fsC (pz_b (pz_end B u.1.1) _) = pz_b (pz_end B u.1.1) _
    cases pz_end B u.1.1 <;> rfl
theorem QkR.of (hr : qz_book (cB f n) = qEN (cB f n) q) (h : TpR f n (rEN (cB f n) (fsC q)) a b c d) (hq : QsQ q v0 v1 v2 v3 v4 v5 f1 f2 f3 f4 f5 f6 f7 f8) : QkR (cB f n) d v0 v1 v2 v3 v4 v5 f1 f2 f3 f4 f5 f6 f7 f8 := by
  rw [← fsC_en, ← hr] at h
  cases e : qz_book (cB f n) with
  | error z =>
    rw [e] at h
    have h1 := h.1
    have h2 := h.2.1
    exact Or.inr ⟨by rw [h1]; exact h2, by rw [e, h1]⟩
  | ok u =>
    rw [e] at h
    refine Or.inl ⟨h.1, u, e, ?_⟩
    rw [e] at hr
    cases q with
    | error z => cases hr
    | ok v =>
      have hr : Except.ok u = pz_b (pz_end (cB f n) v.1.1) (fun _ => .ok v) := hr
      cases e2 : pz_end (cB f n) v.1.1 with
      | error z => rw [e2] at hr; cases hr
      | ok z => rw [e2] at hr; cases hr; exact (hq u rfl).1
theorem QkR.er {B : Nat → Int} (h : QkR B d v0 v1 v2 v3 v4 v5 f1 f2 f3 f4 f5 f6 f7 f8) (hd : ¬ d.toInt = 0) : qz_book B = .error d.toInt := by
  rcases h with h | h
  · exact absurd h.1 hd
  · exact h.2
theorem QkR.ok {B : Nat → Int} (h : QkR B d v0 v1 v2 v3 v4 v5 f1 f2 f3 f4 f5 f6 f7 f8) (hd : d.toInt = 0) : ∃ u, qz_book B = .ok u ∧ ShC v0 v1 v2 v3 v4 v5 f1 f2 f3 f4 f5 f6 f7 f8 u.2 := by
  rcases h with h | h
  · exact h.2
  · exact absurd hd h.1
/-- a copy of the shop -/
theorem ShC.copy {C : Nat → Int} {g1 g2 g3 g4 g5 g6 g7 g8 : Nat → Int32} (h : ShC v0 v1 v2 v3 v4 v5 f1 f2 f3 f4 f5 f6 f7 f8 C) (e1 : ∀ k, k < 10 → g1 k = f1 k ∧ g2 k = f2 k) (e2 : ∀ b, b < 6 → g3 b = f3 b ∧ g4 b = f4 b ∧ g5 b = f5 b ∧ g6 b = f6 b ∧ g7 b = f7 b ∧ g8 b = f8 b) : ShC v0 v1 v2 v3 v4 v5 g1 g2 g3 g4 g5 g6 g7 g8 C := by
  refine ⟨h.1, fun k hk => ?_, fun b hb => ?_⟩
  · rw [(e1 k hk).1, (e1 k hk).2]; exact h.2.1 k hk
  · obtain ⟨p3, p4, p5, p6, p7, p8⟩ := e2 b hb
    rw [p3, p4, p5, p6, p7, p8]; exact h.2.2 b hb
end QBL
/-! clear -/
def Clr1 (f1 f2 : Nat → Int32) (k : Int32) : Prop := ∀ j : Nat, (j : Int) < k.toInt → (f1 j).toInt = 0 ∧ (f2 j).toInt = 0
def Clr2 (f3 f4 f5 f6 f7 f8 : Nat → Int32) (k : Int32) : Prop := ∀ j : Nat, (j : Int) < k.toInt → (f3 j).toInt = 0 ∧ (f4 j).toInt = 0 ∧ (f5 j).toInt = 0 ∧ (f6 j).toInt = 0 ∧ (f7 j).toInt = 0 ∧ (f8 j).toInt = -1
theorem cl_0 {f g : Nat → Int32} {k x : Int32} {j : Nat} {v : Int} (e : g = upd f k.toNatClampNeg x) (hk : 0 ≤ k.toInt) (hj : (j : Int) < k.toInt + 1) (hx : x.toInt = v) (h : (j : Int) < k.toInt → (f j).toInt = v) : (g j).toInt = v := by
  have ec : k.toNatClampNeg = k.toInt.toNat := rfl
  rw [e]
  by_cases z : j = k.toInt.toNat
  · rw [ec, z, upd_at]; exact hx
  · rw [ec, upd_ne z]; exact h (by omega)
theorem Clr1.nil {f1 f2 : Nat → Int32} {k : Int32} (hk : k.toInt = 0) : Clr1 f1 f2 k := fun j hj => by omega
theorem Clr2.nil {f3 f4 f5 f6 f7 f8 : Nat → Int32} {k : Int32} (hk : k.toInt = 0) : Clr2 f3 f4 f5 f6 f7 f8 k := fun j hj => by omega
theorem Clr1.step {f1 f2 g1 g2 : Nat → Int32} {k k' : Int32} (h : Clr1 f1 f2 k) (h0 : 0 ≤ k.toInt) (e1 : g1 = upd f1 k.toNatClampNeg 0) (e2 : g2 = upd f2 k.toNatClampNeg 0) (hk : k'.toInt = k.toInt + 1) : Clr1 g1 g2 k' := fun j hj => ⟨cl_0 e1 h0 (by omega) (by decide) (fun z => (h j z).1), cl_0 e2 h0 (by omega) (by decide) (fun z => (h j z).2)⟩
theorem Clr2.step {f3 f4 f5 f6 f7 f8 g3 g4 g5 g6 g7 g8 : Nat → Int32} {k k' : Int32} (h : Clr2 f3 f4 f5 f6 f7 f8 k) (h0 : 0 ≤ k.toInt) (e3 : g3 = upd f3 k.toNatClampNeg 0) (e4 : g4 = upd f4 k.toNatClampNeg 0) (e5 : g5 = upd f5 k.toNatClampNeg 0) (e6 : g6 = upd f6 k.toNatClampNeg 0) (e7 : g7 = upd f7 k.toNatClampNeg 0) (e8 : g8 = upd f8 k.toNatClampNeg (-1)) (hk : k'.toInt = k.toInt + 1) : Clr2 g3 g4 g5 g6 g7 g8 k' := fun j hj => ⟨cl_0 e3 h0 (by omega) (by decide) (fun z => (h j z).1), cl_0 e4 h0 (by omega) (by decide) (fun z => (h j z).2.1), cl_0 e5 h0 (by omega) (by decide) (fun z => (h j z).2.2.1), cl_0 e6 h0 (by omega) (by decide) (fun z => (h j z).2.2.2.1), cl_0 e7 h0 (by omega) (by decide) (fun z => (h j z).2.2.2.2.1), cl_0 e8 h0 (by omega) (by decide) (fun z => (h j z).2.2.2.2.2)⟩
theorem ShC.clear {f1 f2 f3 f4 f5 f6 f7 f8 : Nat → Int32} {k k' : Int32} (h1 : Clr1 f1 f2 k) (h2 : Clr2 f3 f4 f5 f6 f7 f8 k') (hk : 10 ≤ k.toInt) (hk' : 6 ≤ k'.toInt) : ShC 0 0 0 0 0 0 f1 f2 f3 f4 f5 f6 f7 f8 qz_0 := ⟨⟨by decide, by decide, by decide, by decide, by decide, by decide⟩, fun k hk => h1 k (by omega), fun b hb => h2 b (by omega)⟩
set_option maxRecDepth 16384
/-! the reference's reader of the book, with what it tells -/
def RdE (f : Nat → Int32) (C : Nat → Int) : Prop := ∀ k : Nat, k < 95 → (f k).toInt = C k
def QfO (q : Except Int QzU) (B : Nat → Int) (wr nx : Int32) (f : Nat → Int32) : Prop := ∃ C, q = .ok ((pz_sk B nx.toInt.toNat, 0), C) ∧ wr.toInt = 0 ∧ RdE f C
def QfE (q : Except Int QzU) (wr : Int32) : Prop := q = .error wr.toInt
section QRF
variable {B C : Nat → Int} {r : Except Int (Nat × Nat)} {q q' : Except Int QzU} {nx nx1 nx2 nx3 wr w0 w1 w2 a b c c1 c2 c3 i j x y : Int32} {f g g1 g2 g3 f' : Nat → Int32} {l : Nat}
theorem qz_n_at {T : Type} {lo hi : Int} {k : Int → Nat × Nat → Except Int T} (h : RgO r B w0 nx) (hn : NmO B lo hi nx a nx1 wr) : qz_n B lo hi r k = k a.toInt (pz_sk B nx1.toInt.toNat, 0) ∧ RgO (.ok (pz_sk B nx1.toInt.toNat, 0)) B wr nx1 ∧ lo ≤ a.toInt ∧ a.toInt ≤ hi := by
  obtain ⟨h1, h2, h3⟩ := hn
  refine ⟨?_, ⟨rfl, h3⟩, num_rg h1⟩
  rw [h.1]
  show pz_b (pz_num B lo hi (pz_sk B nx.toInt.toNat)) (fun v => k v (pz_nx B (pz_sk B nx.toInt.toNat, 0))) = _
  rw [h1]
  show k a.toInt (pz_sk B (pz_te B (pz_sk B nx.toInt.toNat)), 0) = _
  rw [show nx1.toInt.toNat = pz_te B (pz_sk B nx.toInt.toNat) by omega]
theorem qz_n_no {T : Type} {lo hi : Int} {k : Int → Nat × Nat → Except Int T} (h : RgO r B w0 nx) (hn : NmE B lo hi nx wr) : qz_n B lo hi r k = .error wr.toInt := by
  rw [h.1]
  show pz_b (pz_num B lo hi (pz_sk B nx.toInt.toNat)) (fun v => k v (pz_nx B (pz_sk B nx.toInt.toNat, 0))) = _
  unfold NmE at hn
  rw [hn]; rfl
/-! a cell that is written -/
theorem RdC.ne (h : RdC f g c) {k : Nat} (hk : (k : Int) ≠ c.toInt) (h0 : 0 ≤ c.toInt) : g k = f k := h k (by show k ≠ c.toInt.toNat; omega)
theorem RdE.cell (he : RdE f C) (hr : RdC f g c) {n : Nat} {v : Int} (hc : c.toInt = (n : Int)) (hv : (g c.toNatClampNeg).toInt = v) : RdE g (qz_u C n v) := fun k hk => by
  by_cases z : k = n
  · rw [z, qz_u_at, ← hv]
    have e : c.toNatClampNeg = n := by show c.toInt.toNat = n; omega
    rw [e]
  · rw [qz_u_ne z, hr.ne (by omega) (by omega)]; exact he k hk
theorem RdE.put (he : RdE f C) (e : g = upd f j.toNatClampNeg x) {n : Nat} {v : Int} (hj : j.toInt = (n : Int)) (hx : x.toInt = v) : RdE g (qz_u C n v) := by
  have ej : j.toNatClampNeg = n := by show j.toInt.toNat = n; omega
  intro k hk
  rw [e, ej]
  by_cases z : k = n
  · rw [z, qz_u_at, upd_at]; exact hx
  · rw [qz_u_ne z, upd_ne z]; exact he k hk
/-! BOOK -/
theorem bk0_1 (h0 : RgO r B w0 nx) (h1 : NmE B 0 99 nx wr) : QfE (qz_k0 B C r) wr := qz_n_no h0 h1
theorem bk0_2 (h0 : RgO r B w0 nx) (h1 : NmO B 0 99 nx a nx1 w1) (h2 : NmE B 0 9 nx1 wr) : QfE (qz_k0 B C r) wr := by
  obtain ⟨e1, s1, -⟩ := qz_n_at (k := fun x s => qz_n B 0 9 (.ok s) (fun y t => qz_n B 1 10 (.ok t) (fun z u => Except.ok ((u, qz_c0 C x y z) : QzU)))) h0 h1
  exact e1.trans (qz_n_no s1 h2)
theorem bk0_3 (h0 : RgO r B w0 nx) (h1 : NmO B 0 99 nx a nx1 w1) (h2 : NmO B 0 9 nx1 b nx2 w2) (h3 : NmE B 1 10 nx2 wr) : QfE (qz_k0 B C r) wr := by
  obtain ⟨e1, s1, -⟩ := qz_n_at (k := fun x s => qz_n B 0 9 (.ok s) (fun y t => qz_n B 1 10 (.ok t) (fun z u => Except.ok ((u, qz_c0 C x y z) : QzU)))) h0 h1
  obtain ⟨e2, s2, -⟩ := qz_n_at (k := fun y t => qz_n B 1 10 (.ok t) (fun z u => Except.ok ((u, qz_c0 C a.toInt y z) : QzU))) s1 h2
  exact e1.trans (e2.trans (qz_n_no s2 h3))
theorem bk0_ok (h0 : RgO r B w0 nx) (h1 : NmO B 0 99 nx (g1 c1.toNatClampNeg) nx1 w1) (h2 : NmO B 0 9 nx1 (g2 c2.toNatClampNeg) nx2 w2) (h3 : NmO B 1 10 nx2 (g3 c3.toNatClampNeg) nx3 wr) (he : RdE f C) (r1 : RdC f g1 c1) (r2 : RdC g1 g2 c2) (r3 : RdC g2 g3 c3) (e1 : c1.toInt = 94) (e2 : c2.toInt = 1) (e3 : c3.toInt = 2) (e : g = upd g3 j.toNatClampNeg x) (ej : j.toInt = 0) (ex : x.toInt = 1) : QfO (qz_k0 B C r) B wr nx3 g := by
  obtain ⟨q1, s1, -⟩ := qz_n_at (k := fun x s => qz_n B 0 9 (.ok s) (fun y t => qz_n B 1 10 (.ok t) (fun z u => Except.ok ((u, qz_c0 C x y z) : QzU)))) h0 h1
  obtain ⟨q2, s2, -⟩ := qz_n_at (k := fun y t => qz_n B 1 10 (.ok t) (fun z u => Except.ok ((u, qz_c0 C (g1 c1.toNatClampNeg).toInt y z) : QzU))) s1 h2
  obtain ⟨q3, s3, -⟩ := qz_n_at (k := fun z u => Except.ok ((u, qz_c0 C (g1 c1.toNatClampNeg).toInt (g2 c2.toNatClampNeg).toInt z) : QzU)) s2 h3
  exact ⟨_, q1.trans (q2.trans q3), s3.2, RdE.put (RdE.cell (RdE.cell (RdE.cell he r1 (n := 94) e1 rfl) r2 (n := 1) e2 rfl) r3 (n := 2) e3 rfl) e (n := 0) ej ex⟩
/-! SKY -/
theorem bk1_1 (h0 : RgO r B w0 nx) (h1 : NmE B 0 (C 2 - 1) nx wr) : QfE (qz_k1 B C r) wr := qz_n_no h0 h1
theorem bk1_2 (h0 : RgO r B w0 nx) (h1 : NmO B 0 (C 2 - 1) nx a nx1 w1) (h2 : NmE B 0 9 nx1 wr) : QfE (qz_k1 B C r) wr := by
  obtain ⟨e1, s1, -⟩ := qz_n_at (k := fun x s => qz_n B 0 9 (.ok s) (fun y t => Except.ok ((t, qz_c1 C x y) : QzU))) h0 h1
  exact e1.trans (qz_n_no s1 h2)
theorem bk1_ok (h0 : RgO r B w0 nx) (h1 : NmO B 0 (C 2 - 1) nx a nx1 w1) (h2 : NmO B 0 9 nx1 (g c.toNatClampNeg) nx2 wr) (he : RdE f C) (r1 : RdC f g c) (ec : c.toInt = 74 + a.toInt) : QfO (qz_k1 B C r) B wr nx2 g := by
  obtain ⟨q1, s1, l1⟩ := qz_n_at (k := fun x s => qz_n B 0 9 (.ok s) (fun y t => Except.ok ((t, qz_c1 C x y) : QzU))) h0 h1
  obtain ⟨q2, s2, -⟩ := qz_n_at (k := fun y t => Except.ok ((t, qz_c1 C a.toInt y) : QzU)) s1 h2
  exact ⟨_, q1.trans q2, s2.2, RdE.cell he r1 (n := 74 + a.toInt.toNat) (by omega) rfl⟩
/-! BUYER -/
theorem bk2_1 (h0 : RgO r B w0 nx) (h1 : NmE B 0 20 nx wr) : QfE (qz_k2 B C r) wr := qz_n_no h0 h1
theorem bk2_2 (h0 : RgO r B w0 nx) (h1 : NmO B 0 20 nx a nx1 w1) (h2 : NmE B 1 9 nx1 wr) : QfE (qz_k2 B C r) wr := by
  obtain ⟨e1, s1, -⟩ := qz_n_at (k := fun x s => qz_n B 1 9 (.ok s) (fun y t => qz_n B 0 9 (.ok t) (fun z u => Except.ok ((u, qz_c2 C x y z) : QzU)))) h0 h1
  exact e1.trans (qz_n_no s1 h2)
theorem bk2_3 (h0 : RgO r B w0 nx) (h1 : NmO B 0 20 nx a nx1 w1) (h2 : NmO B 1 9 nx1 b nx2 w2) (h3 : NmE B 0 9 nx2 wr) : QfE (qz_k2 B C r) wr := by
  obtain ⟨e1, s1, -⟩ := qz_n_at (k := fun x s => qz_n B 1 9 (.ok s) (fun y t => qz_n B 0 9 (.ok t) (fun z u => Except.ok ((u, qz_c2 C x y z) : QzU)))) h0 h1
  obtain ⟨e2, s2, -⟩ := qz_n_at (k := fun y t => qz_n B 0 9 (.ok t) (fun z u => Except.ok ((u, qz_c2 C a.toInt y z) : QzU))) s1 h2
  exact e1.trans (e2.trans (qz_n_no s2 h3))
theorem bk2_ok (h0 : RgO r B w0 nx) (h1 : NmO B 0 20 nx (g1 c1.toNatClampNeg) nx1 w1) (h2 : NmO B 1 9 nx1 (g2 c2.toNatClampNeg) nx2 w2) (h3 : NmO B 0 9 nx2 (g3 c3.toNatClampNeg) nx3 wr) (he : RdE f C) (r1 : RdC f g1 c1) (r2 : RdC g1 g2 c2) (r3 : RdC g2 g3 c3) (hb : 0 ≤ (f 3).toInt) (e1 : c1.toInt = 68 + (f 3).toInt) (e2 : c2.toInt = 56 + (f 3).toInt) (e3 : c3.toInt = 62 + (f 3).toInt) (e : g = upd g3 j.toNatClampNeg x) (ej : j.toInt = 3) (ex : x.toInt = (f 3).toInt + 1) : QfO (qz_k2 B C r) B wr nx3 g := by
  have e0 : (f 3).toInt = C 3 := he 3 (by decide)
  rw [e0] at hb e1 e2 e3 ex
  obtain ⟨q1, s1, -⟩ := qz_n_at (k := fun x s => qz_n B 1 9 (.ok s) (fun y t => qz_n B 0 9 (.ok t) (fun z u => Except.ok ((u, qz_c2 C x y z) : QzU)))) h0 h1
  obtain ⟨q2, s2, -⟩ := qz_n_at (k := fun y t => qz_n B 0 9 (.ok t) (fun z u => Except.ok ((u, qz_c2 C (g1 c1.toNatClampNeg).toInt y z) : QzU))) s1 h2
  obtain ⟨q3, s3, -⟩ := qz_n_at (k := fun z u => Except.ok ((u, qz_c2 C (g1 c1.toNatClampNeg).toInt (g2 c2.toNatClampNeg).toInt z) : QzU)) s2 h3
  exact ⟨_, q1.trans (q2.trans q3), s3.2, RdE.put (RdE.cell (RdE.cell (RdE.cell he r1 (n := 68 + (C 3).toNat) (by omega) rfl) r2 (n := 56 + (C 3).toNat) (by omega) rfl) r3 (n := 62 + (C 3).toNat) (by omega) rfl) e (n := 3) ej ex⟩
/-! WATCH -/
theorem bk3_1 (h0 : RgO r B w0 nx) (h1 : NmE B 0 (C 2 - 1) nx wr) : QfE (qz_k3 B C r) wr := qz_n_no h0 h1
theorem bk3_2 (h0 : RgO r B w0 nx) (h1 : NmO B 0 (C 2 - 1) nx a nx1 w1) (h2 : NmE B 0 (C 3 - 1) nx1 wr) : QfE (qz_k3 B C r) wr := by
  obtain ⟨e1, s1, -⟩ := qz_n_at (k := fun x s => qz_n B 0 (C 3 - 1) (.ok s) (fun y t => Except.ok ((t, qz_c3 C x y) : QzU))) h0 h1
  exact e1.trans (qz_n_no s1 h2)
theorem bk3_ok (h0 : RgO r B w0 nx) (h1 : NmO B 0 (C 2 - 1) nx a nx1 w1) (h2 : NmO B 0 (C 3 - 1) nx1 b nx2 wr) (he : RdE f C) (h10 : C 2 ≤ 10) (e : g = upd f i.toNatClampNeg (f i.toNatClampNeg ||| ((1 : Int32) <<< (b &&& 31)))) (ei : i.toInt = 84 + a.toInt) : QfO (qz_k3 B C r) B wr nx2 g := by
  obtain ⟨q1, s1, l1⟩ := qz_n_at (k := fun x s => qz_n B 0 (C 3 - 1) (.ok s) (fun y t => Except.ok ((t, qz_c3 C x y) : QzU))) h0 h1
  obtain ⟨q2, s2, -⟩ := qz_n_at (k := fun y t => Except.ok ((t, qz_c3 C a.toInt y) : QzU)) s1 h2
  refine ⟨_, q1.trans q2, s2.2, RdE.put he e (n := 84 + a.toInt.toNat) (by omega) ?_⟩
  have en : i.toNatClampNeg = 84 + a.toInt.toNat := by show i.toInt.toNat = _; omega
  rw [en, ← he (84 + a.toInt.toNat) (by omega), qz_or_is]
/-! a clause -/
def qCL (B : Nat → Int) (l : Nat) (nx : Int32) (C : Nat → Int) : Except Int QzU := qz_cl B l ((nx.toInt.toNat, 0), C)
theorem qCL_no (h : BkW B nx (-1)) (h0 : 0 ≤ nx.toInt) (hw : wr.toInt = 1 + 8 * nx.toInt) : QfE (qCL B l nx C) wr := by
  unfold QfE qCL
  rw [show qz_cl B l ((nx.toInt.toNat, 0), C) = .error (pz_er 0 nx.toInt.toNat) from if_pos h]
  congr 1
  unfold pz_er; omega
theorem qCL_bad {k : Int} (h : BkW B nx k) (hk : ¬ k = -1) (hb : 40 ≤ l ∨ ¬ (k = 0 ↔ l = 0) ∨ (k = 2 ∧ 6 ≤ C 3)) (h0 : 0 ≤ nx.toInt) (hw : wr.toInt = 1 + 8 * nx.toInt + 4) : QfE (qCL B l nx C) wr := by
  unfold QfE qCL
  unfold BkW at h
  subst h
  rw [show qz_cl B l ((nx.toInt.toNat, 0), C) = .error (pz_er 4 nx.toInt.toNat) from (if_neg hk).trans (if_pos hb)]
  congr 1
  unfold pz_er; omega
theorem qCL_go {k : Int} (h : BkW B nx k) (hk : ¬ k = -1) (hb : ¬ (40 ≤ l ∨ ¬ (k = 0 ↔ l = 0) ∨ (k = 2 ∧ 6 ≤ C 3))) : qCL B l nx C = qz_k B k C (pNX B nx) := by
  unfold qCL
  unfold BkW at h
  subst h
  exact (if_neg hk).trans (if_neg hb)
theorem qk_k0 (h : BkW B nx 0) (hl : l = 0) : qCL B l nx C = qz_k0 B C (pNX B nx) := by
  rw [qCL_go (l := l) h (by decide) (by rw [hl]; intro z; rcases z with z | z | z; omega; exact z (by simp); omega)]
  exact qz_k_0 rfl
theorem qk_k1 (h : BkW B nx 1) (hl : 1 ≤ l ∧ l < 40) : qCL B l nx C = qz_k1 B C (pNX B nx) := by
  rw [qCL_go (l := l) h (by decide) (by intro z; rcases z with z | z | z; omega; exact z ⟨fun y => by omega, fun y => by omega⟩; omega)]
  exact qz_k_1 rfl
theorem qk_k2 (h : BkW B nx 2) (hl : 1 ≤ l ∧ l < 40) (hb : C 3 < 6) : qCL B l nx C = qz_k2 B C (pNX B nx) := by
  rw [qCL_go (l := l) h (by decide) (by intro z; rcases z with z | z | z; omega; exact z ⟨fun y => by omega, fun y => by omega⟩; omega)]
  exact qz_k_2 rfl
theorem qk_k3 (h : BkW B nx 3) (hl : 1 ≤ l ∧ l < 40) : qCL B l nx C = qz_k3 B C (pNX B nx) := by
  rw [qCL_go (l := l) h (by decide) (by intro z; rcases z with z | z | z; omega; exact z ⟨fun y => by omega, fun y => by omega⟩; omega)]
  exact qz_k_3 (Int.le_refl _)
theorem QfO.eq (e : q = q') (h : QfO q' B wr nx f) : QfO q B wr nx f := e ▸ h
theorem QfE.eq (e : q = q') (h : QfE q' wr) : QfE q wr := e ▸ h
/-- a BOOK that cannot be told, or not so -/
def QoE (B C : Nat → Int) (nx r0 at' wr : Int32) : Prop := (0 < r0.toInt ∧ wr.toInt = 1 + 8 * at'.toInt + 4) ∨ (r0.toInt ≤ 0 ∧ QfE (qz_k0 B C (pNX B nx)) wr)
def QyE (B C : Nat → Int) (nx bn at' wr : Int32) : Prop := (bn.toInt = 6 ∧ wr.toInt = 1 + 8 * at'.toInt + 4) ∨ (¬ bn.toInt = 6 ∧ QfE (qz_k2 B C (pNX B nx)) wr)
/-! all clauses -/
def qCLs (B : Nat → Int) (l : Nat) (nx : Int32) (C : Nat → Int) : Except Int QzU := qz_cl B l ((pz_sk B nx.toInt.toNat, 0), C)
theorem qCLs_at (hs : SkR B nx nx1) : qCLs B l nx C = qCL B l nx1 C := by
  unfold qCLs qCL; rw [hs.nat]
def QaL (B : Nat → Int) (nx ln wr gd : Int32) (f : Nat → Int32) : Prop := (gd.toInt = 1 → ∃ C, wr.toInt = 0 ∧ RdE f C ∧ qz_Ru B = pz_lp (qz_F B) (((pz_sk B nx.toInt.toNat, 0), C), ln.toInt.toNat)) ∧ (gd.toInt = 0 → qz_book B = .error wr.toInt)
def QlR (B : Nat → Int) (l0 n0 : Int32) (C : Nat → Int) (gd wr nx : Int32) (f : Nat → Int32) : Prop := (gd.toInt = 1 → QfO (qCLs B l0.toInt.toNat n0 C) B wr nx f) ∧ (gd.toInt = 0 → QfE (qCLs B l0.toInt.toNat n0 C) wr)
theorem QaL.first {l0 nn gd ln : Int32} (hl : l0.toInt = 0) (hn : nn.toInt = 0) (h : QlR B l0 nn qz_0 gd wr nx f) (hl₀ : gd.toInt = 1 → ln.toInt = 1) : QaL B nx ln wr gd f := by
  have e : qz_Ru B = pz_b (qTG 1 (qCLs B l0.toInt.toNat nn qz_0)) (pz_lp (qz_F B)) := by
    unfold qCLs; rw [hl, hn]; rfl
  refine ⟨fun z => ?_, fun z => ?_⟩
  · obtain ⟨C', h3, h4, h5⟩ := h.1 z
    have h6 := hl₀ z
    refine ⟨C', h4, h5, ?_⟩
    rw [e, h3, show ln.toInt.toNat = 1 by omega]; rfl
  · have h3 := h.2 z
    unfold QfE at h3
    show qEN B (pz_b (qz_Ru B) _) = _
    rw [e, h3]; rfl
theorem QaL.next {ln gd' wr' nx' ln' n1 : Int32} (hB : pz_fi B) (h1 : qz_Ru B = pz_lp (qz_F B) (((pz_sk B nx.toInt.toNat, 0), C), ln.toInt.toNat)) (hs : SkR B nx n1) (h59 : B n1.toInt.toNat = 59) (hx : nx1.toInt = n1.toInt + 1) (hc : QlR B ln nx1 C gd' wr' nx' f') (hl₀ : gd'.toInt = 1 → ln'.toInt = ln.toInt + 1) (hl : 0 ≤ ln.toInt) : QaL B nx' ln' wr' gd' f' := by
  have h0 := hs.1
  have e1 : qz_F B (((pz_sk B nx.toInt.toNat, 0), C), ln.toInt.toNat) = some (pz_b (qCLs B ln.toInt.toNat nx1 C) (fun u => .ok (u, ln.toInt.toNat + 1))) := by
    unfold qz_F
    rw [if_pos (show B (pz_sk B nx.toInt.toNat) = 59 by rw [hs.nat]; exact h59)]
    show some (pz_b (qz_cl B ln.toInt.toNat (pz_nx B (pz_sk B nx.toInt.toNat, 0), C)) _) = _
    rw [show pz_nx B (pz_sk B nx.toInt.toNat, 0) = (pz_sk B nx1.toInt.toNat, 0) by
      show (pz_sk B (pz_te B (pz_sk B nx.toInt.toNat)), 0) = _
      rw [hs.nat, te_br (Or.inr (Or.inr h59)), show nx1.toInt.toNat = n1.toInt.toNat + 1 by omega]]
    rfl
  rw [pz_lp_on (qz_F_pr hB) e1] at h1
  refine ⟨fun z => ?_, fun z => ?_⟩
  · obtain ⟨C', h3, h4, h5⟩ := hc.1 z
    have h6 := hl₀ z
    refine ⟨C', h4, h5, ?_⟩
    rw [h1, h3, show ln'.toInt.toNat = ln.toInt.toNat + 1 by omega]; rfl
  · have h2 := hc.2 z
    unfold QfE at h2
    show qEN B (pz_b (qz_Ru B) _) = _
    rw [h1, h2]; rfl
/-- the book is read: no fault and the cells as told, or the fault -/
def QkM (B : Nat → Int) (wr : Int32) (f : Nat → Int32) : Prop := (wr.toInt = 0 ∧ ∃ u, qz_book B = .ok u ∧ RdE f u.2) ∨ (¬ wr.toInt = 0 ∧ qz_book B = .error wr.toInt)
theorem QaL.end {ln n1 : Int32} (h1 : qz_Ru B = pz_lp (qz_F B) (((pz_sk B nx.toInt.toNat, 0), C), ln.toInt.toNat)) (hs : SkR B nx n1) (h59 : ¬ B n1.toInt.toNat = 59) : qz_book B = qEN B (.ok ((n1.toInt.toNat, 0), C)) := by
  show qEN B (pz_b (qz_Ru B) _) = _
  rw [h1, pz_lp_no (F := qz_F B) (s := (((pz_sk B nx.toInt.toNat, 0), C), ln.toInt.toNat)) (if_neg (by show ¬ B (pz_sk B nx.toInt.toNat) = 59; rw [hs.nat]; exact h59)), hs.nat]
  rfl
theorem QkM.rbad {ln gd : Int32} (h : QaL B nx ln wr gd f) (hg : gd.toInt = 0) (hw : ¬ wr.toInt = 0) : QkM B wr f := Or.inr ⟨hw, h.2 hg⟩
theorem QkM.rend {ln gd n1 : Int32} (h : QaL B nx ln wr gd f) (hg : gd.toInt = 1) (hs : SkR B nx n1) (he : B n1.toInt.toNat = -1) : QkM B wr f := by
  obtain ⟨C', h1, h2, h3⟩ := h.1 hg
  refine Or.inl ⟨h1, ((n1.toInt.toNat, 0), C'), ?_, h2⟩
  rw [QaL.end h3 hs (by omega)]
  show pz_b (pz_end B n1.toInt.toNat) _ = _
  rw [show pz_end B n1.toInt.toNat = .ok n1.toInt.toNat from if_pos he]; rfl
theorem QkM.rmore {ln gd n1 wr' : Int32} (h : QaL B nx ln wr gd f) (hg : gd.toInt = 1) (hs : SkR B nx n1) (h59 : ¬ B n1.toInt.toNat = 59) (he : ¬ B n1.toInt.toNat = -1) (hw : wr'.toInt = 1 + 8 * n1.toInt) : QkM B wr' f := by
  have h0 := hs.1
  obtain ⟨C', h1, h2, h3⟩ := h.1 hg
  refine Or.inr ⟨by omega, ?_⟩
  rw [QaL.end h3 hs h59]
  show pz_b (pz_end B n1.toInt.toNat) _ = _
  rw [show pz_end B n1.toInt.toNat = .error (pz_er 0 n1.toInt.toNat) from if_neg he]
  show Except.error _ = _
  congr 1
  unfold pz_er; omega
theorem QkM.er (h : QkM B wr f) (hw : ¬ wr.toInt = 0) : qz_book B = .error wr.toInt := by
  rcases h with h | h
  · exact absurd h.1 hw
  · exact h.2
theorem QkM.ok (h : QkM B wr f) (hw : wr.toInt = 0) : ∃ u, qz_book B = .ok u ∧ RdE f u.2 := by
  rcases h with h | h
  · exact h.2
  · exact absurd hw h.1
theorem RdE.zero (h : ∀ k : Nat, k < 95 → (f k).toInt = 0) : RdE f qz_0 := fun k hk => h k hk
end QRF
set_option maxRecDepth 16384
/-! what is told (dr: cells as the reference numbers them), on both sides -/
def KyC (dr : Nat → Int) (a2 a3 : Int32) (f4 : Nat → Int32) : Prop := a2.toInt = dr 2 ∧ a3.toInt = dr 3 ∧ ∀ b : Nat, b < 6 → (f4 b).toInt = dr (56 + b)
def TbC (dr : Nat → Int) (v0 v1 v2 v3 v4 v5 : Int32) (f1 f2 f3 f4 f5 f6 f7 f8 : Nat → Int32) : Prop := dr 0 = 1 → ShC v0 v1 v2 v3 v4 v5 f1 f2 f3 f4 f5 f6 f7 f8 dr
def TnC (dr : Nat → Int) (n0 : Int32) (m1 m2 m3 : Nat → Int32) : Prop := n0.toInt = dr 125 ∧ (0 ≤ dr 125 ∧ dr 125 ≤ 10) ∧ ∀ k : Nat, (k : Int) < dr 125 → (m1 k).toInt = dr (95 + 3 * k) ∧ (m2 k).toInt = dr (96 + 3 * k) ∧ (m3 k).toInt = dr (97 + 3 * k)
/-- the reference's cells -/
def TdM (dr : Nat → Int) (s : Nat → Int32) : Prop := (∀ k : Nat, (k < 4 ∨ (56 ≤ k ∧ k < 95) ∨ k = 125) → (s k).toInt = dr k) ∧ (0 ≤ dr 125 ∧ dr 125 ≤ 10) ∧ ∀ k : Nat, (k : Int) < dr 125 → (s (95 + 3 * k)).toInt = dr (95 + 3 * k) ∧ (s (96 + 3 * k)).toInt = dr (96 + 3 * k) ∧ (s (97 + 3 * k)).toInt = dr (97 + 3 * k)
/-- what dr may be -/
def TdG (dr : Nat → Int) : Prop := ((dr 0 = 0 ∧ dr 2 = 0 ∧ dr 3 = 0) ∨ QzG 1 dr) ∧ (0 ≤ dr 125 ∧ dr 125 ≤ 10) ∧ ∀ k : Nat, (k : Int) < dr 125 → 0 ≤ dr (95 + 3 * k) ∧ dr (95 + 3 * k) ≤ 60
/-! the book is told -/
def bkT (C : Nat → Int) : Nat → Int := fun k => if k < 95 then C k else 0
theorem bkT_lo {C : Nat → Int} {k : Nat} (h : k < 95) : bkT C k = C k := if_pos h
theorem bkT_hi {C : Nat → Int} {k : Nat} (h : 95 ≤ k) : bkT C k = 0 := if_neg (by omega)
theorem QzG.bk {C : Nat → Int} {l : Nat} (h : QzG l C) : QzG l (bkT C) := by
  refine ⟨?_, ?_, ?_, ?_, ?_, fun b hb => ?_⟩
  · rw [bkT_lo (by decide), bkT_lo (by decide)]; exact h.1
  · rw [bkT_lo (by decide)]; exact h.2.1
  · rw [bkT_lo (by decide)]; exact h.2.2.1
  · rw [bkT_lo (by decide)]; exact h.2.2.2.1
  · rw [bkT_lo (by decide)]; exact h.2.2.2.2.1
  · rw [bkT_lo (by omega), bkT_lo (by omega)]; exact h.2.2.2.2.2 b hb
theorem TdG.bk {B : Nat → Int} {u : QzU} (h : qz_book B = .ok u) : TdG (bkT u.2) := by
  have e : bkT u.2 125 = 0 := bkT_hi (by decide)
  refine ⟨Or.inr (QzG.book h).bk, by rw [e]; decide, fun k hk => ?_⟩
  rw [e] at hk
  omega
theorem TdG.zero : TdG qz_0 := ⟨Or.inl ⟨rfl, rfl, rfl⟩, ⟨Int.le_refl _, (show (0 : Int) ≤ 10 by decide)⟩, fun k hk => by have hk : (k : Int) < 0 := hk; omega⟩
def BkS (B : Nat → Int) (r : Int32) (dr dr' : Nat → Int) : Prop := (∃ d : Int32, qz_book B = .error d.toInt ∧ r = -2 - d ∧ dr' = dr) ∨ ∃ u, qz_book B = .ok u ∧ r.toInt = u.2 3 ∧ dr' = bkT u.2
theorem BkS.det {B dr d1 d2 : Nat → Int} {r s : Int32} (h : BkS B r dr d1) (h2 : BkS B s dr d2) : r = s ∧ d1 = d2 := by
  rcases h with ⟨d, e1, e2, e3⟩ | ⟨u, e1, e2, e3⟩ <;> rcases h2 with ⟨d', g1, g2, g3⟩ | ⟨u', g1, g2, g3⟩
  · rw [e1] at g1
    have hd : d = d' := Int32.toInt_inj.mp (Except.error.inj g1)
    exact ⟨by rw [e2, g2, hd], e3.trans g3.symm⟩
  · rw [e1] at g1; cases g1
  · rw [e1] at g1; cases g1
  · rw [e1] at g1
    have hu : u = u' := Except.ok.inj g1
    exact ⟨Int32.toInt_inj.mp (by rw [e2, g2, hu]), by rw [e3, g3, hu]⟩
theorem BkS.good {B dr dr' : Nat → Int} {r : Int32} (h : BkS B r dr dr') (hg : TdG dr) : TdG dr' := by
  rcases h with ⟨d, -, -, e⟩ | ⟨u, e1, -, e⟩
  · rw [e]; exact hg
  · rw [e]; exact TdG.bk e1
/-! a note is told -/
def qz_nt (dr : Nat → Int) (n b x : Int) : Nat → Int := qz_u (qz_u (qz_u (qz_u dr (95 + 3 * (dr 125).toNat) n) (96 + 3 * (dr 125).toNat) b) (97 + 3 * (dr 125).toNat) x) 125 (dr 125 + 1)
theorem qz_nt_125 {dr : Nat → Int} {n b x : Int} : qz_nt dr n b x 125 = dr 125 + 1 := qz_u_at
theorem qz_nt_lo {dr : Nat → Int} {n b x : Int} {k : Nat} (h : k < 95) : qz_nt dr n b x k = dr k := by
  unfold qz_nt
  rw [qz_u_ne (by omega), qz_u_ne (by omega), qz_u_ne (by omega), qz_u_ne (by omega)]
theorem qz_nt_old {dr : Nat → Int} {n b x : Int} {k : Nat} (h : (k : Int) < dr 125) (h1 : dr 125 < 10) : qz_nt dr n b x (95 + 3 * k) = dr (95 + 3 * k) ∧ qz_nt dr n b x (96 + 3 * k) = dr (96 + 3 * k) ∧ qz_nt dr n b x (97 + 3 * k) = dr (97 + 3 * k) := by
  unfold qz_nt
  refine ⟨?_, ?_, ?_⟩ <;> rw [qz_u_ne (by omega), qz_u_ne (by omega), qz_u_ne (by omega), qz_u_ne (by omega)]
theorem qz_nt_new {dr : Nat → Int} {n b x : Int} {k : Nat} (h : (k : Int) = dr 125) (h1 : dr 125 < 10) : qz_nt dr n b x (95 + 3 * k) = n ∧ qz_nt dr n b x (96 + 3 * k) = b ∧ qz_nt dr n b x (97 + 3 * k) = x := by
  have e : (dr 125).toNat = k := by omega
  unfold qz_nt
  rw [e]
  refine ⟨?_, ?_, ?_⟩
  · rw [qz_u_ne (by omega), qz_u_ne (by omega), qz_u_ne (by omega), qz_u_at]
  · rw [qz_u_ne (by omega), qz_u_ne (by omega), qz_u_at]
  · rw [qz_u_ne (by omega), qz_u_at]
def NtS (x1 x2 x3 r : Int32) (dr dr' : Nat → Int) : Prop := (x1.toInt = -1 ∧ r.toInt = 0 ∧ dr' = qz_u dr 125 0) ∨ (¬ x1.toInt = -1 ∧ (x1.toInt < 0 ∨ 60 < x1.toInt ∨ x2.toInt < 0 ∨ dr 3 ≤ x2.toInt ∨ x3.toInt < 0 ∨ 1 < x3.toInt ∨ 10 ≤ dr 125) ∧ r.toInt = -2 ∧ dr' = dr) ∨ ((0 ≤ x1.toInt ∧ x1.toInt ≤ 60 ∧ 0 ≤ x2.toInt ∧ x2.toInt < dr 3 ∧ 0 ≤ x3.toInt ∧ x3.toInt ≤ 1 ∧ dr 125 < 10) ∧ r.toInt = dr 125 + 1 ∧ dr' = qz_nt dr x1.toInt x2.toInt x3.toInt)
theorem NtS.det {x1 x2 x3 r s : Int32} {dr d1 d2 : Nat → Int} (h : NtS x1 x2 x3 r dr d1) (h2 : NtS x1 x2 x3 s dr d2) : r = s ∧ d1 = d2 := by
  rcases h with ⟨a, b, c⟩ | ⟨a, p, b, c⟩ | ⟨p, b, c⟩ <;> rcases h2 with ⟨a', b', c'⟩ | ⟨a', p', b', c'⟩ | ⟨p', b', c'⟩
  · exact ⟨Int32.toInt_inj.mp (b.trans b'.symm), c.trans c'.symm⟩
  · exfalso; omega
  · exfalso; omega
  · exfalso; omega
  · exact ⟨Int32.toInt_inj.mp (b.trans b'.symm), c.trans c'.symm⟩
  · exfalso; omega
  · exfalso; omega
  · exfalso; omega
  · exact ⟨Int32.toInt_inj.mp (b.trans b'.symm), c.trans c'.symm⟩
theorem QzG.eq {C D : Nat → Int} {l : Nat} (h : QzG l C) (e : ∀ k, k < 95 → D k = C k) : QzG l D := by
  refine ⟨?_, ?_, ?_, ?_, ?_, fun b hb => ?_⟩
  · rw [e 0 (by decide), e 2 (by decide)]; exact h.1
  · rw [e 2 (by decide)]; exact h.2.1
  · rw [e 3 (by decide)]; exact h.2.2.1
  · rw [e 1 (by decide)]; exact h.2.2.2.1
  · rw [e 94 (by decide)]; exact h.2.2.2.2.1
  · rw [e (68 + b) (by omega), e (56 + b) (by omega)]; exact h.2.2.2.2.2 b hb
theorem TdG.lo {dr dr' : Nat → Int} (h : (dr 0 = 0 ∧ dr 2 = 0 ∧ dr 3 = 0) ∨ QzG 1 dr) (e : ∀ k, k < 95 → dr' k = dr k) : (dr' 0 = 0 ∧ dr' 2 = 0 ∧ dr' 3 = 0) ∨ QzG 1 dr' := by
  rcases h with h | h
  · left; rw [e 0 (by decide), e 2 (by decide), e 3 (by decide)]; exact h
  · exact Or.inr (h.eq e)
theorem NtS.lo {x1 x2 x3 r : Int32} {dr dr' : Nat → Int} (h : NtS x1 x2 x3 r dr dr') : ∀ k, k < 95 → dr' k = dr k := fun k hk => by
  rcases h with ⟨-, -, c⟩ | ⟨-, -, -, c⟩ | ⟨-, -, c⟩ <;> rw [c]
  · exact qz_u_ne (by omega)
  · exact qz_nt_lo hk
theorem NtS.good {x1 x2 x3 r : Int32} {dr dr' : Nat → Int} (h : NtS x1 x2 x3 r dr dr') (hg : TdG dr) : TdG dr' := by
  have hl := TdG.lo hg.1 h.lo
  obtain ⟨-, g1, g2⟩ := hg
  rcases h with ⟨-, -, c⟩ | ⟨-, -, -, c⟩ | ⟨p, -, c⟩
  · have e : dr' 125 = 0 := by rw [c]; exact qz_u_at
    exact ⟨hl, by rw [e]; decide, fun k hk => by rw [e] at hk; omega⟩
  · rw [c] at hl ⊢; exact ⟨hl, g1, g2⟩
  · have e : dr' 125 = dr 125 + 1 := by rw [c]; exact qz_nt_125
    refine ⟨hl, by rw [e]; omega, fun k hk => ?_⟩
    rw [e] at hk
    rw [c]
    by_cases z : (k : Int) = dr 125
    · rw [(qz_nt_new z (by omega)).1]; omega
    · rw [(qz_nt_old (by omega) (by omega)).1]; exact g2 k (by omega)
theorem KyC.lo {dr dr' : Nat → Int} {a2 a3 : Int32} {f4 : Nat → Int32} (h : KyC dr a2 a3 f4) (e : ∀ k, k < 95 → dr' k = dr k) : KyC dr' a2 a3 f4 := by
  refine ⟨?_, ?_, fun b hb => ?_⟩
  · rw [e 2 (by decide)]; exact h.1
  · rw [e 3 (by decide)]; exact h.2.1
  · rw [e (56 + b) (by omega)]; exact h.2.2 b hb
theorem ShC.lo {v0 v1 v2 v3 v4 v5 : Int32} {f1 f2 f3 f4 f5 f6 f7 f8 : Nat → Int32} {C D : Nat → Int} (h : ShC v0 v1 v2 v3 v4 v5 f1 f2 f3 f4 f5 f6 f7 f8 C) (e : ∀ k, k < 95 → D k = C k) : ShC v0 v1 v2 v3 v4 v5 f1 f2 f3 f4 f5 f6 f7 f8 D := by
  refine ⟨?_, fun k hk => ?_, fun b hb => ?_⟩
  · rw [e 94 (by decide), e 1 (by decide), e 2 (by decide), e 3 (by decide)]; exact h.1
  · rw [e (74 + k) (by omega), e (84 + k) (by omega)]; exact h.2.1 k hk
  · rw [e (68 + b) (by omega), e (56 + b) (by omega), e (62 + b) (by omega)]; exact h.2.2 b hb
theorem TbC.lo {dr dr' : Nat → Int} {v0 v1 v2 v3 v4 v5 : Int32} {f1 f2 f3 f4 f5 f6 f7 f8 : Nat → Int32} (h : TbC dr v0 v1 v2 v3 v4 v5 f1 f2 f3 f4 f5 f6 f7 f8) (e : ∀ k, k < 95 → dr' k = dr k) : TbC dr' v0 v1 v2 v3 v4 v5 f1 f2 f3 f4 f5 f6 f7 f8 := fun z => (h (by rw [← e 0 (by decide)]; exact z)).lo e
/-! the class: notes -/
def NtX (x1 x2 x3 r : Int32) (dr : Nat → Int) (n0 : Int32) (m1 m2 m3 : Nat → Int32) : Prop := ∃ dr', NtS x1 x2 x3 r dr dr' ∧ TnC dr' n0 m1 m2 m3
section TNC
variable {dr : Nat → Int} {n0 n0' a2 a3 x1 x2 x3 r : Int32} {m1 m2 m3 g1 g2 g3 f4 : Nat → Int32}
theorem TnC.add (h : TnC dr n0 m1 m2 m3) (h1 : 0 ≤ n0.toInt ∧ n0.toInt < 10) (e1 : g1 = upd m1 n0.toNatClampNeg x1) (e2 : g2 = upd m2 n0.toNatClampNeg x2) (e3 : g3 = upd m3 n0.toNatClampNeg x3) (hn : n0'.toInt = n0.toInt + 1) : TnC (qz_nt dr x1.toInt x2.toInt x3.toInt) n0' g1 g2 g3 := by
  obtain ⟨p, p1, p2⟩ := h
  have ec : n0.toNatClampNeg = n0.toInt.toNat := rfl
  refine ⟨by rw [qz_nt_125]; omega, by rw [qz_nt_125]; omega, fun k hk => ?_⟩
  rw [qz_nt_125] at hk
  rw [e1, e2, e3, ec]
  by_cases z : (k : Int) = dr 125
  · obtain ⟨q1, q2, q3⟩ := qz_nt_new (n := x1.toInt) (b := x2.toInt) (x := x3.toInt) z (by omega)
    rw [q1, q2, q3, show k = n0.toInt.toNat by omega, upd_at, upd_at, upd_at]
    exact ⟨rfl, rfl, rfl⟩
  · obtain ⟨q1, q2, q3⟩ := qz_nt_old (dr := dr) (n := x1.toInt) (b := x2.toInt) (x := x3.toInt) (k := k) (by omega) (by omega)
    rw [q1, q2, q3, upd_ne (by omega), upd_ne (by omega), upd_ne (by omega)]
    exact p2 k (by omega)
theorem NtX.none (h : TnC dr n0 m1 m2 m3) (hx : x1.toInt = -1) (hr : r.toInt = 0) (hn : n0'.toInt = 0) : NtX x1 x2 x3 r dr n0' m1 m2 m3 := by
  have e : qz_u dr 125 0 125 = 0 := qz_u_at
  exact ⟨_, Or.inl ⟨hx, hr, rfl⟩, by rw [e]; exact hn, by rw [e]; decide, fun k hk => by rw [e] at hk; omega⟩
theorem NtX.bad (h : TnC dr n0 m1 m2 m3) (hk : a3.toInt = dr 3) (hx : ¬ x1.toInt = -1) (hb : x1.toInt < 0 ∨ 60 < x1.toInt ∨ x2.toInt < 0 ∨ a3.toInt ≤ x2.toInt ∨ x3.toInt < 0 ∨ 1 < x3.toInt ∨ 10 ≤ n0.toInt) (hr : r.toInt = -2) : NtX x1 x2 x3 r dr n0 m1 m2 m3 := ⟨dr, Or.inr (Or.inl ⟨hx, by rw [← hk, ← h.1]; exact hb, hr, rfl⟩), h⟩
theorem NtX.add (h : TnC (qz_nt dr x1.toInt x2.toInt x3.toInt) n0' g1 g2 g3) (hk : a3.toInt = dr 3) (hb : 0 ≤ x1.toInt ∧ x1.toInt ≤ 60 ∧ 0 ≤ x2.toInt ∧ x2.toInt < a3.toInt ∧ 0 ≤ x3.toInt ∧ x3.toInt ≤ 1) (h0 : n0.toInt = dr 125) (h1 : n0.toInt < 10) (hr : r.toInt = n0.toInt + 1) : NtX x1 x2 x3 r dr n0' g1 g2 g3 := ⟨_, Or.inr (Or.inr ⟨⟨hb.1, hb.2.1, hb.2.2.1, by omega, hb.2.2.2.2.1, hb.2.2.2.2.2, by omega⟩, by omega, rfl⟩), h⟩
end TNC
/-! copies -/
def Cpy8 (g1 g2 g3 g4 g5 g6 g7 g8 f1 f2 f3 f4 f5 f6 f7 f8 : Nat → Int32) : Prop := (∀ k : Nat, k < 10 → g1 k = f1 k ∧ g2 k = f2 k) ∧ ∀ b : Nat, b < 6 → g3 b = f3 b ∧ g4 b = f4 b ∧ g5 b = f5 b ∧ g6 b = f6 b ∧ g7 b = f7 b ∧ g8 b = f8 b
def Cpy3 (g1 g2 g3 f1 f2 f3 : Nat → Int32) : Prop := ∀ k : Nat, k < 10 → g1 k = f1 k ∧ g2 k = f2 k ∧ g3 k = f3 k
theorem Cpy8.of {y1 y2 y3 y4 y5 y6 y7 y8 g1 g2 g3 g4 g5 g6 g7 g8 f1 f2 f3 f4 f5 f6 f7 f8 : Nat → Int32} (e1 : g1 = va_cpy f1 y1 (0 : Int32).toNatClampNeg (0 : Int32).toNatClampNeg (10 : Int32).toNatClampNeg) (e2 : g2 = va_cpy f2 y2 (0 : Int32).toNatClampNeg (0 : Int32).toNatClampNeg (10 : Int32).toNatClampNeg) (e3 : g3 = va_cpy f3 y3 (0 : Int32).toNatClampNeg (0 : Int32).toNatClampNeg (6 : Int32).toNatClampNeg) (e4 : g4 = va_cpy f4 y4 (0 : Int32).toNatClampNeg (0 : Int32).toNatClampNeg (6 : Int32).toNatClampNeg) (e5 : g5 = va_cpy f5 y5 (0 : Int32).toNatClampNeg (0 : Int32).toNatClampNeg (6 : Int32).toNatClampNeg) (e6 : g6 = va_cpy f6 y6 (0 : Int32).toNatClampNeg (0 : Int32).toNatClampNeg (6 : Int32).toNatClampNeg) (e7 : g7 = va_cpy f7 y7 (0 : Int32).toNatClampNeg (0 : Int32).toNatClampNeg (6 : Int32).toNatClampNeg) (e8 : g8 = va_cpy f8 y8 (0 : Int32).toNatClampNeg (0 : Int32).toNatClampNeg (6 : Int32).toNatClampNeg) : Cpy8 g1 g2 g3 g4 g5 g6 g7 g8 f1 f2 f3 f4 f5 f6 f7 f8 := by
  subst e1 e2 e3 e4 e5 e6 e7 e8
  exact ⟨fun k hk => ⟨cpy10 hk, cpy10 hk⟩, fun b hb => ⟨cpy6 hb, cpy6 hb, cpy6 hb, cpy6 hb, cpy6 hb, cpy6 hb⟩⟩
theorem Cpy3.of {y1 y2 y3 g1 g2 g3 f1 f2 f3 : Nat → Int32} (e1 : g1 = va_cpy f1 y1 (0 : Int32).toNatClampNeg (0 : Int32).toNatClampNeg (10 : Int32).toNatClampNeg) (e2 : g2 = va_cpy f2 y2 (0 : Int32).toNatClampNeg (0 : Int32).toNatClampNeg (10 : Int32).toNatClampNeg) (e3 : g3 = va_cpy f3 y3 (0 : Int32).toNatClampNeg (0 : Int32).toNatClampNeg (10 : Int32).toNatClampNeg) : Cpy3 g1 g2 g3 f1 f2 f3 := by
  subst e1 e2 e3
  exact fun k hk => ⟨cpy10 hk, cpy10 hk, cpy10 hk⟩
theorem KyC.cpy {dr : Nat → Int} {a2 a3 : Int32} {g1 g2 g3 g4 g5 g6 g7 g8 f1 f2 f3 f4 f5 f6 f7 f8 : Nat → Int32} (h : KyC dr a2 a3 f4) (c : Cpy8 g1 g2 g3 g4 g5 g6 g7 g8 f1 f2 f3 f4 f5 f6 f7 f8) : KyC dr a2 a3 g4 := ⟨h.1, h.2.1, fun b hb => by rw [(c.2 b hb).2.1]; exact h.2.2 b hb⟩
theorem TbC.cpy {dr : Nat → Int} {v0 v1 v2 v3 v4 v5 : Int32} {g1 g2 g3 g4 g5 g6 g7 g8 f1 f2 f3 f4 f5 f6 f7 f8 : Nat → Int32} (h : TbC dr v0 v1 v2 v3 v4 v5 f1 f2 f3 f4 f5 f6 f7 f8) (c : Cpy8 g1 g2 g3 g4 g5 g6 g7 g8 f1 f2 f3 f4 f5 f6 f7 f8) : TbC dr v0 v1 v2 v3 v4 v5 g1 g2 g3 g4 g5 g6 g7 g8 := fun z => (h z).copy c.1 c.2
theorem TnC.cpy {dr : Nat → Int} {n0 : Int32} {g1 g2 g3 f1 f2 f3 : Nat → Int32} (h : TnC dr n0 f1 f2 f3) (c : Cpy3 g1 g2 g3 f1 f2 f3) : TnC dr n0 g1 g2 g3 := ⟨h.1, h.2.1, fun k hk => by
  have h10 := h.2.1
  obtain ⟨p1, p2, p3⟩ := c k (by omega)
  rw [p1, p2, p3]; exact h.2.2 k hk⟩
/-! the class: the book is told -/
def BkZ (B : Nat → Int) (r : Int32) (dr : Nat → Int) (nx sz a2 a3 : Int32) (f4 : Nat → Int32) (v0 v1 v2 v3 v4 v5 : Int32) (g1 g2 g3 g4 g5 g6 g7 g8 : Nat → Int32) (n0 : Int32) (m1 m2 m3 : Nat → Int32) (nx' sz' : Int32) : Prop := ∃ dr', BkS B r dr dr' ∧ KyC dr' a2 a3 f4 ∧ TbC dr' v0 v1 v2 v3 v4 v5 g1 g2 g3 g4 g5 g6 g7 g8 ∧ TnC dr' n0 m1 m2 m3 ∧ ((nx' = nx ∧ sz' = sz ∧ dr' = dr) ∨ sz'.toInt = 0)
theorem ShC.ky {v0 v1 v2 v3 v4 v5 : Int32} {f1 f2 f3 f4 f5 f6 f7 f8 : Nat → Int32} {C : Nat → Int} (h : ShC v0 v1 v2 v3 v4 v5 f1 f2 f3 f4 f5 f6 f7 f8 C) : KyC C v2 v3 f4 := ⟨h.1.2.2.1, h.1.2.2.2.1, fun b hb => (h.2.2 b hb).2.1⟩
section BKZ
variable {B dr : Nat → Int} {d r a2 a3 nx sz nx' sz' v0 v1 v2 v3 v4 v5 w0 w1 w2 w3 w4 w5 n0 : Int32} {f4 g1 g2 g3 g4 g5 g6 g7 g8 h1 h2 h3 h4 h5 h6 h7 h8 q1 q2 q3 q4 q5 q6 q7 q8 m1 m2 m3 : Nat → Int32}
theorem BkZ.bad (h : QkR B d w0 w1 w2 w3 w4 w5 h1 h2 h3 h4 h5 h6 h7 h8) (hd : ¬ d.toInt = 0) (hr : r = -2 - d) (hk : KyC dr a2 a3 f4) (ht : TbC dr v0 v1 v2 v3 v4 v5 g1 g2 g3 g4 g5 g6 g7 g8) (hn : TnC dr n0 m1 m2 m3) : BkZ B r dr nx sz a2 a3 f4 v0 v1 v2 v3 v4 v5 g1 g2 g3 g4 g5 g6 g7 g8 n0 m1 m2 m3 nx sz := ⟨dr, Or.inl ⟨d, h.er hd, hr, rfl⟩, hk, ht, hn, Or.inl ⟨rfl, rfl, rfl⟩⟩
theorem BkZ.good (h : QkR B d w0 w1 w2 w3 w4 w5 h1 h2 h3 h4 h5 h6 h7 h8) (hd : d.toInt = 0) (cA : Cpy8 q1 q2 q3 q4 q5 q6 q7 q8 h1 h2 h3 h4 h5 h6 h7 h8) (cB : Cpy8 g1 g2 g3 g4 g5 g6 g7 g8 h1 h2 h3 h4 h5 h6 h7 h8) (hr : r = w3) (hn : n0.toInt = 0) (hs : sz'.toInt = 0) : BkZ B r dr nx sz w2 w3 q4 w0 w1 w2 w3 w4 w5 g1 g2 g3 g4 g5 g6 g7 g8 n0 m1 m2 m3 nx' sz' := by
  obtain ⟨u, e, hs'⟩ := h.ok hd
  have e2 : ShC w0 w1 w2 w3 w4 w5 h1 h2 h3 h4 h5 h6 h7 h8 (bkT u.2) := hs'.lo (fun k hk => bkT_lo hk)
  have e0 : bkT u.2 125 = 0 := bkT_hi (by decide)
  refine ⟨bkT u.2, Or.inr ⟨u, e, by rw [hr]; exact hs'.1.2.2.2.1, rfl⟩, e2.ky.cpy cA, fun _ => e2.copy cB.1 cB.2, ⟨by rw [e0]; exact hn, by rw [e0]; decide, fun k hk => by rw [e0] at hk; omega⟩, Or.inr hs⟩
end BKZ
/-! the class: the past -/
def RgK (dr : Nat → Int) (nx sz nx' sz' e2 e3 : Int32) (g4 : Nat → Int32) (e2' e3' : Int32) (g4' : Nat → Int32) : Prop := (nx' = nx ∧ sz' = sz ∧ e2' = e2 ∧ e3' = e3 ∧ g4' = g4) ∨ ((nx'.toInt = (nx.toInt + 1) % 20 ∧ sz'.toInt ≤ sz.toInt + 1 ∧ 0 ≤ sz'.toInt ∧ sz'.toInt ≤ 20) ∧ KyC dr e2' e3' g4')
def RgN (dr : Nat → Int) (nx sz nx' sz' e2' e3' : Int32) (g4' : Nat → Int32) : Prop := (nx'.toInt = (nx.toInt + 1) % 20 ∧ sz'.toInt ≤ sz.toInt + 1 ∧ 0 ≤ sz'.toInt ∧ sz'.toInt ≤ 20) ∧ KyC dr e2' e3' g4'
def GbK (dr : Nat → Int) (nx sz nx' sz' a2 a3 : Int32) (f4 : Nat → Int32) : Prop := ((nx' = nx ∧ sz' = sz) ∨ (0 < sz.toInt ∧ nx'.toInt = (nx.toInt + 19) % 20 ∧ sz'.toInt = sz.toInt - 1)) ∧ KyC dr a2 a3 f4
def KeE (dr : Nat → Int) (sz e2 e3 : Int32) (g4 : Nat → Int32) : Prop := 0 < sz.toInt → KyC dr e2 e3 g4
theorem RgN.k {dr : Nat → Int} {nx sz nx' sz' e2 e3 e2' e3' : Int32} {g4 g4' : Nat → Int32} (h : RgN dr nx sz nx' sz' e2' e3' g4') : RgK dr nx sz nx' sz' e2 e3 g4 e2' e3' g4' := Or.inr h
theorem RgK.same {dr : Nat → Int} {nx sz e2 e3 : Int32} {g4 : Nat → Int32} : RgK dr nx sz nx sz e2 e3 g4 e2 e3 g4 := Or.inl ⟨rfl, rfl, rfl, rfl, rfl⟩
def RinK (nx sz : Int32) (s : Nat → Prop) : Prop := ∀ k : Nat, k < 20 → (nx.toInt + 19 - (k : Int)) % 20 < sz.toInt → s k
theorem RinK.none {nx sz : Int32} {s : Nat → Prop} (h : sz.toInt ≤ 0) : RinK nx sz s := fun k _ hz => by omega
def pUp (s : Nat → Prop) (j : Nat) : Nat → Prop := fun k => k = j ∨ s k
theorem RinK.keep {nx sz nx' sz' : Int32} {s : Nat → Prop} {j : Nat} (h : RinK nx sz s) (hn : 0 ≤ nx.toInt ∧ nx.toInt < 20) (hj : j = nx.toInt.toNat) (h1 : nx'.toInt = (nx.toInt + 1) % 20) (h2 : sz'.toInt ≤ sz.toInt + 1) (h3 : sz'.toInt ≤ 20) : RinK nx' sz' (pUp s j) := fun k hk hz => by
  by_cases z : k = j
  · exact Or.inl z
  · exact Or.inr (h k hk (by omega))
theorem RinK.back {nx sz nx' sz' : Int32} {s : Nat → Prop} (h : RinK nx sz s) (hn : 0 ≤ nx.toInt ∧ nx.toInt < 20) (hs : sz.toInt ≤ 20) (h1 : nx'.toInt = (nx.toInt + 19) % 20) (h2 : sz'.toInt = sz.toInt - 1) : RinK nx' sz' s := fun k hk hz => h k hk (by omega)
theorem RinK.at {nx sz : Int32} {s : Nat → Prop} {j : Nat} (h : RinK nx sz s) (hn : 0 ≤ nx.toInt ∧ nx.toInt < 20) (hs : 0 < sz.toInt) (hj : j = ((nx.toInt + 19) % 20).toNat) : s j := h j (by omega) (by omega)
/-! the reference -/
theorem TdM.tl {dr : Nat → Int} {s t : Nat → Int32} (h : TdM dr s) (e : ∀ k : Nat, (k < 10 ∨ 56 ≤ k) → t k = s k) : TdM dr t := by
  refine ⟨fun k hk => ?_, h.2.1, fun k hk => ?_⟩
  · rw [e k (by omega)]; exact h.1 k hk
  · rw [e _ (by omega), e _ (by omega), e _ (by omega)]; exact h.2.2 k hk
theorem TdM.same {dr : Nat → Int} {s t : Nat → Int32} (h : TdM dr s) (e : ∀ k : Nat, k < 126 → t k = s k) : TdM dr t := by
  have h10 := h.2.1
  refine ⟨fun k hk => ?_, h.2.1, fun k hk => ?_⟩
  · rw [e k (by omega)]; exact h.1 k hk
  · rw [e _ (by omega), e _ (by omega), e _ (by omega)]; exact h.2.2 k hk
theorem TdM.book {C : Nat → Int} {s f : Nat → Int32} (hf : RdE f C) (e1 : ∀ k : Nat, k < 95 → (k < 10 ∨ 56 ≤ k) → s k = f k) (e2 : (s 125).toInt = 0) : TdM (bkT C) s := by
  have e0 : bkT C 125 = 0 := bkT_hi (by decide)
  refine ⟨fun k hk => ?_, by rw [e0]; decide, fun k hk => by rw [e0] at hk; omega⟩
  by_cases z : k = 125
  · rw [z, e2, e0]
  · rw [bkT_lo (by omega), e1 k (by omega) (by omega)]; exact hf k (by omega)
def NtY (x1 x2 x3 r : Int32) (dr : Nat → Int) (s : Nat → Int32) : Prop := ∃ dr', NtS x1 x2 x3 r dr dr' ∧ TdM dr' s
def BkY (B : Nat → Int) (r : Int32) (dr : Nat → Int) (s : Nat → Int32) : Prop := ∃ dr', BkS B r dr dr' ∧ TdM dr' s
section REF
variable {B dr : Nat → Int} {x1 x2 x3 r wr i1 i2 i3 i4 c : Int32} {s s1 s2 s3 s4 f : Nat → Int32}
theorem NtY.none (h : TdM dr s) (hx : x1.toInt = -1) (hr : r.toInt = 0) (e : s1 = upd s i1.toNatClampNeg c) (hi : i1.toInt = 125) (hc : c.toInt = 0) : NtY x1 x2 x3 r dr s1 := by
  have ei : i1.toNatClampNeg = 125 := by show i1.toInt.toNat = 125; omega
  have e0 : qz_u dr 125 0 125 = 0 := qz_u_at
  refine ⟨_, Or.inl ⟨hx, hr, rfl⟩, fun k hk => ?_, by rw [e0]; decide, fun k hk => by rw [e0] at hk; omega⟩
  rw [e, ei]
  by_cases z : k = 125
  · rw [z, upd_at, e0, hc]
  · rw [upd_ne z, qz_u_ne z]; exact h.1 k (by omega)
theorem NtY.bad (h : TdM dr s) (hx : ¬ x1.toInt = -1) (hb : x1.toInt < 0 ∨ 60 < x1.toInt ∨ x2.toInt < 0 ∨ (s 3).toInt ≤ x2.toInt ∨ x3.toInt < 0 ∨ 1 < x3.toInt ∨ 10 ≤ (s 125).toInt) (hr : r.toInt = -2) : NtY x1 x2 x3 r dr s := by
  have e3 := h.1 3 (by omega)
  have e5 := h.1 125 (by omega)
  exact ⟨dr, Or.inr (Or.inl ⟨hx, by rw [← e3, ← e5]; exact hb, hr, rfl⟩), h⟩
theorem NtY.add (h : TdM dr s) (hb : 0 ≤ x1.toInt ∧ x1.toInt ≤ 60 ∧ 0 ≤ x2.toInt ∧ x2.toInt < (s 3).toInt ∧ 0 ≤ x3.toInt ∧ x3.toInt ≤ 1) (hc : 0 ≤ (s 125).toInt ∧ (s 125).toInt < 10) (hr : r.toInt = (s 125).toInt + 1) (e1 : s1 = upd s i1.toNatClampNeg x1) (e2 : s2 = upd s1 i2.toNatClampNeg x2) (e3 : s3 = upd s2 i3.toNatClampNeg x3) (e4 : s4 = upd s3 i4.toNatClampNeg c) (h1 : i1.toInt = 95 + 3 * (s 125).toInt) (h2 : i2.toInt = 96 + 3 * (s 125).toInt) (h3 : i3.toInt = 97 + 3 * (s 125).toInt) (h4 : i4.toInt = 125) (h5 : c.toInt = (s 125).toInt + 1) : NtY x1 x2 x3 r dr s4 := by
  have d3 := h.1 3 (by omega)
  have d5 := h.1 125 (by omega)
  rw [d3] at hb
  rw [d5] at hc hr h1 h2 h3 h5
  have j1 : i1.toNatClampNeg = 95 + 3 * (dr 125).toNat := by show i1.toInt.toNat = _; omega
  have j2 : i2.toNatClampNeg = 96 + 3 * (dr 125).toNat := by show i2.toInt.toNat = _; omega
  have j3 : i3.toNatClampNeg = 97 + 3 * (dr 125).toNat := by show i3.toInt.toNat = _; omega
  have j4 : i4.toNatClampNeg = 125 := by show i4.toInt.toNat = _; omega
  have es : ∀ k : Nat, k ≠ 95 + 3 * (dr 125).toNat → k ≠ 96 + 3 * (dr 125).toNat → k ≠ 97 + 3 * (dr 125).toNat → k ≠ 125 → s4 k = s k := fun k a b c d => by rw [e4, e3, e2, e1, j1, j2, j3, j4, upd_ne d, upd_ne c, upd_ne b, upd_ne a]
  have hm : (dr 125).toNat < 10 := by omega
  refine ⟨_, Or.inr (Or.inr ⟨⟨hb.1, hb.2.1, hb.2.2.1, hb.2.2.2.1, hb.2.2.2.2.1, hb.2.2.2.2.2, by omega⟩, hr, rfl⟩), fun k hk => ?_, by rw [qz_nt_125]; omega, fun k hk => ?_⟩
  · by_cases z : k = 125
    · rw [z, qz_nt_125, e4, j4, upd_at]; exact h5
    · rw [qz_nt_lo (by omega), es k (by omega) (by omega) (by omega) z]; exact h.1 k hk
  · rw [qz_nt_125] at hk
    by_cases z : (k : Int) = dr 125
    · obtain ⟨q1, q2, q3⟩ := qz_nt_new (n := x1.toInt) (b := x2.toInt) (x := x3.toInt) z (by omega)
      have ek : k = (dr 125).toNat := by omega
      rw [q1, q2, q3, ek]
      refine ⟨?_, ?_, ?_⟩
      · rw [e4, j4, upd_ne (by omega), e3, j3, upd_ne (by omega), e2, j2, upd_ne (by omega), e1, j1, upd_at]
      · rw [e4, j4, upd_ne (by omega), e3, j3, upd_ne (by omega), e2, j2, upd_at]
      · rw [e4, j4, upd_ne (by omega), e3, j3, upd_at]
    · obtain ⟨q1, q2, q3⟩ := qz_nt_old (dr := dr) (n := x1.toInt) (b := x2.toInt) (x := x3.toInt) (k := k) (by omega) (by omega)
      rw [q1, q2, q3, es _ (by omega) (by omega) (by omega) (by omega), es _ (by omega) (by omega) (by omega) (by omega), es _ (by omega) (by omega) (by omega) (by omega)]
      exact h.2.2 k (by omega)
theorem BkY.bad (h : QkM B wr f) (hw : ¬ wr.toInt = 0) (hr : r = -2 - wr) (hd : TdM dr s) : BkY B r dr s := ⟨dr, Or.inl ⟨wr, h.er hw, hr, rfl⟩, hd⟩
theorem BkY.good (h : QkM B wr f) (hw : wr.toInt = 0) (hr : r.toInt = (f 3).toInt) (e1 : ∀ k : Nat, k < 95 → (k < 10 ∨ 56 ≤ k) → s k = f k) (e2 : (s 125).toInt = 0) : BkY B r dr s := by
  obtain ⟨u, e, hs⟩ := h.ok hw
  exact ⟨bkT u.2, Or.inr ⟨u, e, by rw [hr]; exact hs 3 (by decide), rfl⟩, TdM.book hs e1 e2⟩
end REF
