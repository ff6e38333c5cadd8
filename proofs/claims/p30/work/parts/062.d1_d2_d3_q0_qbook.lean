set_option maxRecDepth 16384
def qz_u (C : Nat → Int) (k : Nat) (v : Int) : Nat → Int := fun j => if j = k then v else C j
theorem qz_u_at {C : Nat → Int} {k : Nat} {v : Int} : qz_u C k v k = v := if_pos rfl
theorem qz_u_ne {C : Nat → Int} {k j : Nat} {v : Int} (h : j ≠ k) : qz_u C k v j = C j := if_neg h
def qz_or (x v : Int) : Int := (Int32.ofInt x ||| ((1 : Int32) <<< (Int32.ofInt v &&& 31))).toInt
theorem qz_or_is {x v : Int32} : qz_or x.toInt v.toInt = (x ||| ((1 : Int32) <<< (v &&& 31))).toInt := by
  unfold qz_or
  rw [Int32.ofInt_toInt, Int32.ofInt_toInt]
abbrev QzU := (Nat × Nat) × (Nat → Int)
def qz_n {T : Type} (B : Nat → Int) (a b : Int) (r : Except Int (Nat × Nat)) (g : Int → Nat × Nat → Except Int T) : Except Int T := pz_b r (fun s => pz_b (pz_num B a b s.1) (fun v => g v (pz_nx B s)))
def qz_c0 (C : Nat → Int) (x y z : Int) : Nat → Int := qz_u (qz_u (qz_u (qz_u C 94 x) 1 y) 2 z) 0 1
def qz_c1 (C : Nat → Int) (x y : Int) : Nat → Int := qz_u C (74 + x.toNat) y
def qz_c2 (C : Nat → Int) (x y z : Int) : Nat → Int := qz_u (qz_u (qz_u (qz_u C (68 + (C 3).toNat) x) (56 + (C 3).toNat) y) (62 + (C 3).toNat) z) 3 (C 3 + 1)
def qz_c3 (C : Nat → Int) (x y : Int) : Nat → Int := qz_u C (84 + x.toNat) (qz_or (C (84 + x.toNat)) y)
def qz_k0 (B : Nat → Int) (C : Nat → Int) (r : Except Int (Nat × Nat)) : Except Int QzU := qz_n B 0 99 r (fun x s => qz_n B 0 9 (.ok s) (fun y t => qz_n B 1 10 (.ok t) (fun z u => .ok (u, qz_c0 C x y z))))
def qz_k1 (B : Nat → Int) (C : Nat → Int) (r : Except Int (Nat × Nat)) : Except Int QzU := qz_n B 0 (C 2 - 1) r (fun x s => qz_n B 0 9 (.ok s) (fun y t => .ok (t, qz_c1 C x y)))
def qz_k2 (B : Nat → Int) (C : Nat → Int) (r : Except Int (Nat × Nat)) : Except Int QzU := qz_n B 0 20 r (fun x s => qz_n B 1 9 (.ok s) (fun y t => qz_n B 0 9 (.ok t) (fun z u => .ok (u, qz_c2 C x y z))))
def qz_k3 (B : Nat → Int) (C : Nat → Int) (r : Except Int (Nat × Nat)) : Except Int QzU := qz_n B 0 (C 2 - 1) r (fun x s => qz_n B 0 (C 3 - 1) (.ok s) (fun y t => .ok (t, qz_c3 C x y)))
def qz_k (B : Nat → Int) (k : Int) (C : Nat → Int) (r : Except Int (Nat × Nat)) : Except Int QzU := if k = 0 then qz_k0 B C r else if k = 1 then qz_k1 B C r else if k = 2 then qz_k2 B C r else qz_k3 B C r
def qz_cl (B : Nat → Int) (l : Nat) (u : QzU) : Except Int QzU := if pz_wa B u.1.1 pz_bws 0 = -1 then .error (pz_er 0 u.1.1) else if 40 ≤ l ∨ ¬ (pz_wa B u.1.1 pz_bws 0 = 0 ↔ l = 0) ∨ (pz_wa B u.1.1 pz_bws 0 = 2 ∧ 6 ≤ u.2 3) then .error (pz_er 4 u.1.1) else qz_k B (pz_wa B u.1.1 pz_bws 0) u.2 (.ok (pz_nx B u.1))
def qz_F (B : Nat → Int) (w : QzU × Nat) : Option (Except Int (QzU × Nat)) := if B w.1.1.1 = 59 then some (pz_b (qz_cl B w.2 (pz_nx B w.1.1, w.1.2)) (fun u => .ok (u, w.2 + 1))) else none
def qTG (l : Nat) (q : Except Int QzU) : Except Int (QzU × Nat) := pz_b q (fun u => .ok (u, l))
def qz_0 : Nat → Int := fun _ => 0
def qz_Ru (B : Nat → Int) : Except Int (QzU × Nat) := pz_b (qTG 1 (qz_cl B 0 ((pz_sk B 0, 0), qz_0))) (pz_lp (qz_F B))
def qEN (B : Nat → Int) (q : Except Int QzU) : Except Int QzU := pz_b q (fun u => pz_b (pz_end B u.1.1) (fun _ => .ok u))
def qz_book (B : Nat → Int) : Except Int QzU := qEN B (pz_b (qz_Ru B) (fun w => .ok w.1))
def fsC (q : Except Int QzU) : Except Int (Nat × Nat) := pz_b q (fun u => .ok u.1)
theorem qz_n_fs {B : Nat → Int} {a b : Int} {r : Except Int (Nat × Nat)} {g : Int → Nat × Nat → Except Int QzU} {G : Except Int (Nat × Nat) → Except Int (Nat × Nat)} (h : ∀ v s, fsC (g v s) = G (.ok s)) (he : ∀ e, G (.error e) = .error e) : fsC (qz_n B a b r g) = G (rN1 B a b r) := by
  cases r with
  | error e => exact (he e).symm
  | ok s =>
    show fsC (pz_b (pz_num B a b s.1) (fun v => g v (pz_nx B s))) = G (pz_b (pz_b (pz_num B a b s.1) (fun _ => .ok s)) (fun s => .ok (pz_nx B s)))
    cases pz_num B a b s.1 with
    | error e => exact (he e).symm
    | ok v => exact h v (pz_nx B s)
theorem qz_k0_fs {B C : Nat → Int} {r : Except Int (Nat × Nat)} : fsC (qz_k0 B C r) = rN1 B 1 10 (rN1 B 0 9 (rN1 B 0 99 r)) := qz_n_fs (G := fun q => rN1 B 1 10 (rN1 B 0 9 q)) (fun _ _ => qz_n_fs (G := fun q => rN1 B 1 10 q) (fun _ _ => qz_n_fs (G := fun q => q) (fun _ _ => rfl) (fun _ => rfl)) (fun _ => rfl)) (fun _ => rfl)
theorem qz_k1_fs {B C : Nat → Int} {r : Except Int (Nat × Nat)} : fsC (qz_k1 B C r) = rN1 B 0 9 (rN1 B 0 (C 2 - 1) r) := qz_n_fs (G := fun q => rN1 B 0 9 q) (fun _ _ => qz_n_fs (G := fun q => q) (fun _ _ => rfl) (fun _ => rfl)) (fun _ => rfl)
theorem qz_k2_fs {B C : Nat → Int} {r : Except Int (Nat × Nat)} : fsC (qz_k2 B C r) = rN1 B 0 9 (rN1 B 1 9 (rN1 B 0 20 r)) := qz_n_fs (G := fun q => rN1 B 0 9 (rN1 B 1 9 q)) (fun _ _ => qz_n_fs (G := fun q => rN1 B 0 9 q) (fun _ _ => qz_n_fs (G := fun q => q) (fun _ _ => rfl) (fun _ => rfl)) (fun _ => rfl)) (fun _ => rfl)
theorem qz_k3_fs {B C : Nat → Int} {r : Except Int (Nat × Nat)} : fsC (qz_k3 B C r) = rN1 B 0 (C 3 - 1) (rN1 B 0 (C 2 - 1) r) := qz_n_fs (G := fun q => rN1 B 0 (C 3 - 1) q) (fun _ _ => qz_n_fs (G := fun q => q) (fun _ _ => rfl) (fun _ => rfl)) (fun _ => rfl)
theorem qz_k_0 {B C : Nat → Int} {k : Int} {r : Except Int (Nat × Nat)} (h : k = 0) : qz_k B k C r = qz_k0 B C r := if_pos h
theorem qz_k_1 {B C : Nat → Int} {k : Int} {r : Except Int (Nat × Nat)} (h : k = 1) : qz_k B k C r = qz_k1 B C r := (if_neg (by omega)).trans (if_pos h)
theorem qz_k_2 {B C : Nat → Int} {k : Int} {r : Except Int (Nat × Nat)} (h : k = 2) : qz_k B k C r = qz_k2 B C r := (if_neg (by omega)).trans ((if_neg (by omega)).trans (if_pos h))
theorem qz_k_3 {B C : Nat → Int} {k : Int} {r : Except Int (Nat × Nat)} (h : 3 ≤ k) : qz_k B k C r = qz_k3 B C r := (if_neg (by omega)).trans ((if_neg (by omega)).trans (if_neg (by omega)))
theorem qz_k_n {B C : Nat → Int} {k : Int} {r : Except Int (Nat × Nat)} (h : ¬ k = 0) (h1 : ¬ k = 1) (h2 : ¬ k = 2) : qz_k B k C r = qz_k3 B C r := (if_neg h).trans ((if_neg h1).trans (if_neg h2))
theorem fsC_ok {q : Except Int QzU} {t : QzU} (h : q = .ok t) : fsC q = .ok t.1 := by rw [h]; rfl
theorem rN1_lt {B : Nat → Int} {a b : Int} {r : Except Int (Nat × Nat)} {t : Nat × Nat} (h : rN1 B a b r = .ok t) : ∃ s, r = .ok s ∧ s.1 < t.1 := by
  obtain ⟨s, h1, h2, -, -⟩ := rN1_gt h
  exact ⟨s, h1, h2⟩
theorem rN1_l2 {B : Nat → Int} {a b a2 b2 : Int} {s t : Nat × Nat} (h : rN1 B a b (rN1 B a2 b2 (.ok s)) = .ok t) : s.1 < t.1 := by
  obtain ⟨s1, h1, h2⟩ := rN1_lt h
  obtain ⟨s2, h3, h4⟩ := rN1_lt h1
  cases h3
  omega
theorem rN1_l3 {B : Nat → Int} {a b a2 b2 a3 b3 : Int} {s t : Nat × Nat} (h : rN1 B a b (rN1 B a2 b2 (rN1 B a3 b3 (.ok s))) = .ok t) : s.1 < t.1 := by
  obtain ⟨s1, h1, h2⟩ := rN1_lt h
  have h3 := rN1_l2 h1
  omega
theorem qz_k_gt {B C : Nat → Int} {k : Int} {s : Nat × Nat} {t : QzU} (h : qz_k B k C (.ok s) = .ok t) : s.1 < t.1.1 := by
  by_cases z : k = 0
  · rw [qz_k_0 z] at h
    have h1 := fsC_ok h
    rw [qz_k0_fs] at h1
    exact rN1_l3 h1
  · by_cases z1 : k = 1
    · rw [qz_k_1 z1] at h
      have h1 := fsC_ok h
      rw [qz_k1_fs] at h1
      exact rN1_l2 h1
    · by_cases z2 : k = 2
      · rw [qz_k_2 z2] at h
        have h1 := fsC_ok h
        rw [qz_k2_fs] at h1
        exact rN1_l3 h1
      · rw [qz_k_n z z1 z2] at h
        have h1 := fsC_ok h
        rw [qz_k3_fs] at h1
        exact rN1_l2 h1
theorem qz_cl_gt {B : Nat → Int} {l : Nat} {u t : QzU} (h : qz_cl B l u = .ok t) : B u.1.1 ≠ -1 ∧ u.1.1 < t.1.1 := by
  unfold qz_cl at h
  by_cases z : pz_wa B u.1.1 pz_bws 0 = -1
  · rw [if_pos z] at h; cases h
  · rw [if_neg z] at h
    obtain ⟨w, hw, hd⟩ := pz_wa_hit pz_bws 0 (Int.le_refl _) z
    have hb := pz_wd_ne hd (pz_bws_ne w hw).1 (pz_bws_ne w hw).2
    refine ⟨hb, ?_⟩
    by_cases y : 40 ≤ l ∨ ¬ (pz_wa B u.1.1 pz_bws 0 = 0 ↔ l = 0) ∨ (pz_wa B u.1.1 pz_bws 0 = 2 ∧ 6 ≤ u.2 3)
    · rw [if_pos y] at h; cases h
    · rw [if_neg y] at h
      have h1 := qz_k_gt h
      have h2 := pz_nt_gt hb
      have h3 : (pz_nx B u.1).1 = pz_nt B u.1.1 := rfl
      omega
theorem qz_cl_40 {B : Nat → Int} {u : QzU} : ∃ e, qz_cl B 40 u = .error e := by
  unfold qz_cl
  by_cases z : pz_wa B u.1.1 pz_bws 0 = -1
  · rw [if_pos z]; exact ⟨_, rfl⟩
  · rw [if_neg z]; exact ⟨_, if_pos (Or.inl (Nat.le_refl _))⟩
theorem qz_F_pr {B : Nat → Int} (hB : pz_fi B) : pz_pr (fun w : QzU × Nat => w.1.1.1) (qz_F B) := by
  intro w r h
  unfold qz_F at h
  by_cases z : B w.1.1.1 = 59
  · rw [if_pos z] at h
    have hb : B w.1.1.1 ≠ -1 := by omega
    refine ⟨hB.lt hb, fun t ht => ?_⟩
    cases h
    cases e : qz_cl B w.2 (pz_nx B w.1.1, w.1.2) with
    | error x => rw [e] at ht; cases ht
    | ok s1 =>
      rw [e] at ht
      cases ht
      have h1 := (qz_cl_gt e).2
      have h2 := pz_nt_gt hb
      have h3 : (pz_nx B w.1.1).1 = pz_nt B w.1.1.1 := rfl
      have h4 : ((pz_nx B w.1.1, w.1.2) : QzU).1.1 = (pz_nx B w.1.1).1 := rfl
      show w.1.1.1 < s1.1.1
      omega
  · rw [if_neg z] at h; cases h
def QzG (l : Nat) (C : Nat → Int) : Prop := (l = 0 ∨ (C 0 = 1 ∧ 1 ≤ C 2)) ∧ (0 ≤ C 2 ∧ C 2 ≤ 10) ∧ (0 ≤ C 3 ∧ C 3 ≤ 6) ∧ (0 ≤ C 1 ∧ C 1 ≤ 9) ∧ (0 ≤ C 94 ∧ C 94 ≤ 99) ∧ ∀ b : Nat, b < 6 → (0 ≤ C (68 + b) ∧ C (68 + b) ≤ 20) ∧ 0 ≤ C (56 + b) ∧ C (56 + b) ≤ 9
theorem QzG.zero : QzG 0 qz_0 := by
  refine ⟨Or.inl rfl, ?_, ?_, ?_, ?_, fun b hb => ⟨?_, ?_⟩⟩ <;> exact ⟨Int.le_refl _, (by show (0 : Int) ≤ _; decide)⟩
theorem qz_n_ok {T : Type} {B : Nat → Int} {a b : Int} {r : Except Int (Nat × Nat)} {g : Int → Nat × Nat → Except Int T} {t : T} (h : qz_n B a b r g = .ok t) : ∃ s v, r = .ok s ∧ pz_num B a b s.1 = .ok v ∧ g v (pz_nx B s) = .ok t := by
  obtain ⟨s, h1, h2⟩ := pz_b_in h
  obtain ⟨v, h3, h4⟩ := pz_b_in h2
  exact ⟨s, v, h1, h3, h4⟩
theorem QzG.k {B C : Nat → Int} {k : Int} {l : Nat} {r : Except Int (Nat × Nat)} {t : QzU} (hc : QzG l C) (h : qz_k B k C r = .ok t) (hk : k = 0 ↔ l = 0) (h6 : ¬ (k = 2 ∧ 6 ≤ C 3)) : QzG (l + 1) t.2 := by
  obtain ⟨c0, c2, c3, c1, c94, cb⟩ := hc
  by_cases z : k = 0
  · rw [qz_k_0 z] at h
    obtain ⟨s1, x, -, n1, h⟩ := qz_n_ok h
    obtain ⟨s2, y, -, n2, h⟩ := qz_n_ok h
    obtain ⟨s3, w, -, n3, h⟩ := qz_n_ok h
    cases h
    have r1 := num_rg n1
    have r2 := num_rg n2
    have r3 := num_rg n3
    show QzG (l + 1) (qz_c0 C x y w)
    unfold qz_c0
    refine ⟨Or.inr ⟨qz_u_at, ?_⟩, ?_, ?_, ?_, ?_, fun b hb => ?_⟩
    · rw [qz_u_ne (by omega), qz_u_at]; exact r3.1
    · rw [qz_u_ne (by omega), qz_u_at]; omega
    · rw [qz_u_ne (by omega), qz_u_ne (by omega), qz_u_ne (by omega), qz_u_ne (by omega)]; exact c3
    · rw [qz_u_ne (by omega), qz_u_ne (by omega), qz_u_at]; exact r2
    · rw [qz_u_ne (by omega), qz_u_ne (by omega), qz_u_ne (by omega), qz_u_at]; exact r1
    · rw [qz_u_ne (by omega), qz_u_ne (by omega), qz_u_ne (by omega), qz_u_ne (by omega), qz_u_ne (by omega), qz_u_ne (by omega), qz_u_ne (by omega), qz_u_ne (by omega)]; exact cb b hb
  · have hl : C 0 = 1 ∧ 1 ≤ C 2 := by
      rcases c0 with c0 | c0
      · exact absurd (hk.mpr c0) z
      · exact c0
    by_cases z1 : k = 1
    · rw [qz_k_1 z1] at h
      obtain ⟨s1, x, -, n1, h⟩ := qz_n_ok h
      obtain ⟨s2, y, -, n2, h⟩ := qz_n_ok h
      cases h
      have r1 := num_rg n1
      have r2 := num_rg n2
      show QzG (l + 1) (qz_c1 C x y)
      unfold qz_c1
      refine ⟨Or.inr ?_, ?_, ?_, ?_, ?_, fun b hb => ?_⟩
      · rw [qz_u_ne (by omega), qz_u_ne (by omega)]; exact hl
      · rw [qz_u_ne (by omega)]; exact c2
      · rw [qz_u_ne (by omega)]; exact c3
      · rw [qz_u_ne (by omega)]; exact c1
      · rw [qz_u_ne (by omega)]; exact c94
      · rw [qz_u_ne (by omega), qz_u_ne (by omega)]; exact cb b hb
    · by_cases z2 : k = 2
      · rw [qz_k_2 z2] at h
        obtain ⟨s1, x, -, n1, h⟩ := qz_n_ok h
        obtain ⟨s2, y, -, n2, h⟩ := qz_n_ok h
        obtain ⟨s3, w, -, n3, h⟩ := qz_n_ok h
        cases h
        have r1 := num_rg n1
        have r2 := num_rg n2
        have r3 := num_rg n3
        have h5 : C 3 < 6 := by
          by_cases y6 : 6 ≤ C 3
          · exact absurd ⟨z2, y6⟩ h6
          · omega
        show QzG (l + 1) (qz_c2 C x y w)
        unfold qz_c2
        refine ⟨Or.inr ?_, ?_, ?_, ?_, ?_, fun b hb => ?_⟩
        · rw [qz_u_ne (by omega), qz_u_ne (by omega), qz_u_ne (by omega), qz_u_ne (by omega), qz_u_ne (by omega), qz_u_ne (by omega), qz_u_ne (by omega), qz_u_ne (by omega)]; exact hl
        · rw [qz_u_ne (by omega), qz_u_ne (by omega), qz_u_ne (by omega), qz_u_ne (by omega)]; exact c2
        · rw [qz_u_at]; omega
        · rw [qz_u_ne (by omega), qz_u_ne (by omega), qz_u_ne (by omega), qz_u_ne (by omega)]; exact c1
        · rw [qz_u_ne (by omega), qz_u_ne (by omega), qz_u_ne (by omega), qz_u_ne (by omega)]; exact c94
        · have hb1 := (cb b hb).1
          have hb2 := (cb b hb).2
          refine ⟨?_, ?_⟩
          · rw [qz_u_ne (by omega), qz_u_ne (by omega), qz_u_ne (by omega)]
            by_cases e : b = (C 3).toNat
            · rw [e, qz_u_at]; exact r1
            · rw [qz_u_ne (by omega)]; exact hb1
          · rw [qz_u_ne (by omega), qz_u_ne (by omega)]
            by_cases e : b = (C 3).toNat
            · rw [e, qz_u_at]; omega
            · rw [qz_u_ne (by omega), qz_u_ne (by omega)]; exact hb2
      · rw [qz_k_n z z1 z2] at h
        obtain ⟨s1, x, -, n1, h⟩ := qz_n_ok h
        obtain ⟨s2, y, -, n2, h⟩ := qz_n_ok h
        cases h
        have r1 := num_rg n1
        show QzG (l + 1) (qz_c3 C x y)
        unfold qz_c3
        refine ⟨Or.inr ?_, ?_, ?_, ?_, ?_, fun b hb => ?_⟩
        · rw [qz_u_ne (by omega), qz_u_ne (by omega)]; exact hl
        · rw [qz_u_ne (by omega)]; exact c2
        · rw [qz_u_ne (by omega)]; exact c3
        · rw [qz_u_ne (by omega)]; exact c1
        · by_cases e : 94 = 84 + x.toNat
          · omega
          · rw [qz_u_ne e]; exact c94
        · rw [qz_u_ne (by omega), qz_u_ne (by omega)]; exact cb b hb
theorem QzG.cl {B : Nat → Int} {l : Nat} {u t : QzU} (hc : QzG l u.2) (h : qz_cl B l u = .ok t) : QzG (l + 1) t.2 := by
  unfold qz_cl at h
  by_cases z : pz_wa B u.1.1 pz_bws 0 = -1
  · rw [if_pos z] at h; cases h
  · rw [if_neg z] at h
    by_cases y : 40 ≤ l ∨ ¬ (pz_wa B u.1.1 pz_bws 0 = 0 ↔ l = 0) ∨ (pz_wa B u.1.1 pz_bws 0 = 2 ∧ 6 ≤ u.2 3)
    · rw [if_pos y] at h; cases h
    · rw [if_neg y] at h
      exact hc.k h (Classical.byContradiction (fun q => y (Or.inr (Or.inl q)))) (fun q => y (Or.inr (Or.inr q)))
theorem QzG.it {B : Nat → Int} : ∀ (n : Nat) (w t : QzU × Nat), pz_it (qz_F B) n w = .ok t → 1 ≤ w.2 → QzG w.2 w.1.2 → 1 ≤ t.2 ∧ QzG t.2 t.1.2
  | 0, w, t, h, h1, hg => by cases h; exact ⟨h1, hg⟩
  | n + 1, w, t, h, h1, hg => by
    rw [pz_it] at h
    unfold qz_F at h
    by_cases z : B w.1.1.1 = 59
    · rw [if_pos z] at h
      have h : pz_b (pz_b (qz_cl B w.2 (pz_nx B w.1.1, w.1.2)) (fun u => Except.ok (u, w.2 + 1))) (pz_it (qz_F B) n) = Except.ok t := h
      cases e : qz_cl B w.2 (pz_nx B w.1.1, w.1.2) with
      | error x => rw [e] at h; cases h
      | ok u =>
        rw [e] at h
        exact QzG.it n (u, w.2 + 1) t h (Nat.le_add_left 1 w.2) (QzG.cl (u := (pz_nx B w.1.1, w.1.2)) hg e)
    · rw [if_neg z] at h
      have h : Except.ok w = Except.ok t := h
      cases h
      exact ⟨h1, hg⟩
theorem QzG.book {B : Nat → Int} {u : QzU} (h : qz_book B = .ok u) : QzG 1 u.2 := by
  have h : pz_b (pz_b (qz_Ru B) (fun w => Except.ok w.1)) (fun u => pz_b (pz_end B u.1.1) (fun _ => Except.ok u)) = Except.ok u := h
  cases e1 : qz_cl B 0 ((pz_sk B 0, 0), qz_0) with
  | error x =>
    have e : qz_Ru B = .error x := by unfold qz_Ru; rw [e1]; rfl
    rw [e] at h; cases h
  | ok v =>
    have e : qz_Ru B = pz_it (qz_F B) 401 (v, 1) := by unfold qz_Ru; rw [e1]; rfl
    rw [e] at h
    cases e2 : pz_it (qz_F B) 401 (v, 1) with
    | error x => rw [e2] at h; cases h
    | ok w =>
      rw [e2] at h
      have h : pz_b (pz_end B w.1.1.1) (fun _ => Except.ok w.1) = Except.ok u := h
      cases e3 : pz_end B w.1.1.1 with
      | error x => rw [e3] at h; cases h
      | ok p =>
        rw [e3] at h
        cases h
        obtain ⟨h1, h2, h3⟩ := QzG.it 401 (v, 1) w e2 (Nat.le_refl 1) (QzG.cl (u := ((pz_sk B 0, 0), qz_0)) QzG.zero e1)
        refine ⟨Or.inr ?_, h3⟩
        rcases h2 with q | q
        · omega
        · exact q
set_option maxRecDepth 16384
/-! the class's reader of the book: the shop as the text tells it -/
def ShC (v0 v1 v2 v3 v4 v5 : Int32) (f1 f2 f3 f4 f5 f6 f7 f8 : Nat → Int32) (C : Nat → Int) : Prop := (v0.toInt = C 94 ∧ v1.toInt = C 1 ∧ v2.toInt = C 2 ∧ v3.toInt = C 3 ∧ v4.toInt = 0 ∧ v5.toInt = 0) ∧ (∀ k : Nat, k < 10 → (f1 k).toInt = C (74 + k) ∧ (f2 k).toInt = C (84 + k)) ∧ ∀ b : Nat, b < 6 → (f3 b).toInt = C (68 + b) ∧ (f4 b).toInt = C (56 + b) ∧ (f5 b).toInt = C (62 + b) ∧ (f6 b).toInt = 0 ∧ (f7 b).toInt = 0 ∧ (f8 b).toInt = -1
def QcI (r : Except Int (Nat × Nat)) (v0 v1 v2 v3 v4 v5 : Int32) (f1 f2 f3 f4 f5 f6 f7 f8 : Nat → Int32) (C : Nat → Int) : Prop := ∀ s, r = .ok s → ShC v0 v1 v2 v3 v4 v5 f1 f2 f3 f4 f5 f6 f7 f8 C ∧ 0 ≤ C 2 ∧ C 2 ≤ 10
def QsQ (q : Except Int QzU) (v0 v1 v2 v3 v4 v5 : Int32) (f1 f2 f3 f4 f5 f6 f7 f8 : Nat → Int32) : Prop := ∀ u, q = .ok u → ShC v0 v1 v2 v3 v4 v5 f1 f2 f3 f4 f5 f6 f7 f8 u.2 ∧ 0 ≤ u.2 2 ∧ u.2 2 ≤ 10
def FsR (q : Except Int QzU) (r : Except Int (Nat × Nat)) : Prop := fsC q = r
def cnQ (q : Except Int QzU) : Nat → Int := match q with
  | .ok u => u.2
  | .error _ => qz_0
theorem cnQ_ok {u : QzU} : cnQ (.ok u) = u.2 := rfl
theorem rN1_is {B : Nat → Int} {a b v : Int} {r : Except Int (Nat × Nat)} {s : Nat × Nat} (hr : r = .ok s) (hn : pz_num B a b s.1 = .ok v) : rN1 B a b r = .ok (pz_nx B s) := by
  rw [hr]
  show pz_b (pz_b (pz_num B a b s.1) (fun _ => Except.ok s)) (fun s => Except.ok (pz_nx B s)) = _
  rw [hn]; rfl
section QCL
variable {B C : Nat → Int} {r rr : Except Int (Nat × Nat)} {q : Except Int QzU} {v0 v1 v2 v3 v4 v5 x y z i w : Int32} {f1 f2 f3 f4 f5 f6 f7 f8 f1₁ f2₁ f3₁ f4₁ f5₁ : Nat → Int32} {l : Nat}
theorem QsQ.ci (h : QsQ q v0 v1 v2 v3 v4 v5 f1 f2 f3 f4 f5 f6 f7 f8) (hq : FsR q rr) : QcI (rNX B rr) v0 v1 v2 v3 v4 v5 f1 f2 f3 f4 f5 f6 f7 f8 (cnQ q) := fun s hs => by
  unfold FsR at hq
  rw [← hq] at hs
  cases q with
  | error e => cases hs
  | ok u => exact h u rfl
theorem QsQ.b0 (h : QcI r v0 v1 v2 v3 v4 v5 f1 f2 f3 f4 f5 f6 f7 f8 C) (hx : NuV B 0 99 r x) (hy : NuV B 0 9 (rN1 B 0 99 r) y) (hz : NuV B 1 10 (rN1 B 0 9 (rN1 B 0 99 r)) z) : QsQ (qz_k0 B C r) x y z v3 v4 v5 f1 f2 f3 f4 f5 f6 f7 f8 := fun u hu => by
  obtain ⟨s1, a, h1, n1, hu⟩ := qz_n_ok hu
  obtain ⟨s2, b, h2, n2, hu⟩ := qz_n_ok hu
  obtain ⟨s3, c, h3, n3, hu⟩ := qz_n_ok hu
  cases h2
  cases h3
  cases hu
  have e1 := rN1_is h1 n1
  have e2 := rN1_is e1 n2
  have a1 : x.toInt = a := hx s1 a h1 n1
  have a2 : y.toInt = b := hy _ b e1 n2
  have a3 : z.toInt = c := hz _ c e2 n3
  have r3 := num_rg n3
  obtain ⟨⟨p0, p1, p2⟩, -, -⟩ := h s1 h1
  show ShC x y z v3 v4 v5 f1 f2 f3 f4 f5 f6 f7 f8 (qz_c0 C a b c) ∧ 0 ≤ qz_c0 C a b c 2 ∧ qz_c0 C a b c 2 ≤ 10
  have g2 : qz_c0 C a b c 2 = c := by unfold qz_c0; rw [qz_u_ne (by omega), qz_u_at]
  have gn : ∀ k : Nat, k ≠ 94 → k ≠ 1 → k ≠ 2 → k ≠ 0 → qz_c0 C a b c k = C k := fun k b1 b2 b3 b4 => by unfold qz_c0; rw [qz_u_ne b4, qz_u_ne b3, qz_u_ne b2, qz_u_ne b1]
  refine ⟨⟨⟨?_, ?_, ?_, ?_, p0.2.2.2.2⟩, fun k hk => ?_, fun k hk => ?_⟩, ?_⟩
  · rw [a1]; unfold qz_c0; rw [qz_u_ne (by omega), qz_u_ne (by omega), qz_u_ne (by omega), qz_u_at]
  · rw [a2]; unfold qz_c0; rw [qz_u_ne (by omega), qz_u_ne (by omega), qz_u_at]
  · rw [a3, g2]
  · rw [gn 3 (by omega) (by omega) (by omega) (by omega)]; exact p0.2.2.2.1
  · rw [gn (74 + k) (by omega) (by omega) (by omega) (by omega), gn (84 + k) (by omega) (by omega) (by omega) (by omega)]; exact p1 k hk
  · rw [gn (68 + k) (by omega) (by omega) (by omega) (by omega), gn (56 + k) (by omega) (by omega) (by omega) (by omega), gn (62 + k) (by omega) (by omega) (by omega) (by omega)]; exact p2 k hk
  · rw [g2]; omega
theorem rd_C (h : v2.toInt = C 2) (h0 : 0 ≤ C 2 ∧ C 2 ≤ 10) : (v2 - 1).toInt = C 2 - 1 := by
  rw [rd_1 (by omega), h]
theorem QsQ.b1 (h : QcI r v0 v1 v2 v3 v4 v5 f1 f2 f3 f4 f5 f6 f7 f8 C) (hx : NuV B 0 (v2 - 1).toInt r x) (hy : NuV B 0 9 (rN1 B 0 (v2 - 1).toInt r) y) (e : f1₁ = upd f1 x.toNatClampNeg y) : QsQ (qz_k1 B C r) v0 v1 v2 v3 v4 v5 f1₁ f2 f3 f4 f5 f6 f7 f8 := fun u hu => by
  obtain ⟨s1, a, h1, n1, hu⟩ := qz_n_ok hu
  obtain ⟨s2, b, h2, n2, hu⟩ := qz_n_ok hu
  cases h2
  cases hu
  obtain ⟨⟨p0, p1, p2⟩, p3⟩ := h s1 h1
  have ed := rd_C p0.2.2.1 p3
  rw [ed] at hx hy
  have e1 := rN1_is h1 n1
  have a1 : x.toInt = a := hx s1 a h1 n1
  have a2 : y.toInt = b := hy _ b e1 n2
  have r1 := num_rg n1
  show ShC v0 v1 v2 v3 v4 v5 f1₁ f2 f3 f4 f5 f6 f7 f8 (qz_c1 C a b) ∧ 0 ≤ qz_c1 C a b 2 ∧ qz_c1 C a b 2 ≤ 10
  have gn : ∀ k : Nat, k ≠ 74 + a.toNat → qz_c1 C a b k = C k := fun k b1 => qz_u_ne b1
  have ga : qz_c1 C a b (74 + a.toNat) = b := qz_u_at
  have ei : x.toNatClampNeg = a.toNat := by show x.toInt.toNat = a.toNat; rw [a1]
  refine ⟨⟨?_, fun k hk => ?_, fun k hk => ?_⟩, ?_⟩
  · rw [gn 94 (by omega), gn 1 (by omega), gn 2 (by omega), gn 3 (by omega)]; exact p0
  · rw [gn (84 + k) (by omega), e, ei]
    by_cases q1 : k = a.toNat
    · rw [q1, upd_at, ga]; exact ⟨a2, (p1 _ (by omega)).2⟩
    · rw [upd_ne q1, gn (74 + k) (by omega)]; exact p1 k hk
  · rw [gn (68 + k) (by omega), gn (56 + k) (by omega), gn (62 + k) (by omega)]; exact p2 k hk
  · rw [gn 2 (by omega)]; exact p3
theorem QsQ.n1 (h : QcI r v0 v1 v2 v3 v4 v5 f1 f2 f3 f4 f5 f6 f7 f8 C) (hx : NuV B 0 (v2 - 1).toInt r x) (hn : ¬ (0 ≤ x.toInt ∧ x.toInt < v2.toInt ∧ x.toInt < 10)) : QsQ (qz_k1 B C r) v0 v1 v2 v3 v4 v5 f1 f2 f3 f4 f5 f6 f7 f8 := fun u hu => by
  obtain ⟨s1, a, h1, n1, hu⟩ := qz_n_ok hu
  obtain ⟨⟨p0, p1, p2⟩, p3⟩ := h s1 h1
  have ed := rd_C p0.2.2.1 p3
  rw [ed] at hx
  have a1 : x.toInt = a := hx s1 a h1 n1
  have r1 := num_rg n1
  have e2 := p0.2.2.1
  exact absurd ⟨by omega, by omega, by omega⟩ hn
theorem QsQ.b2 (h : QcI r v0 v1 v2 v3 v4 v5 f1 f2 f3 f4 f5 f6 f7 f8 C) (hb : 0 ≤ v3.toInt ∧ v3.toInt < 6) (hx : NuV B 0 20 r x) (hy : NuV B 1 9 (rN1 B 0 20 r) y) (hz : NuV B 0 9 (rN1 B 1 9 (rN1 B 0 20 r)) z) (e3 : f3₁ = upd f3 v3.toNatClampNeg x) (e4 : f4₁ = upd f4 v3.toNatClampNeg y) (e5 : f5₁ = upd f5 v3.toNatClampNeg z) (hw : w.toInt = v3.toInt + 1) : QsQ (qz_k2 B C r) v0 v1 v2 w v4 v5 f1 f2 f3₁ f4₁ f5₁ f6 f7 f8 := fun u hu => by
  obtain ⟨s1, a, h1, n1, hu⟩ := qz_n_ok hu
  obtain ⟨s2, b, h2, n2, hu⟩ := qz_n_ok hu
  obtain ⟨s3, c, h3, n3, hu⟩ := qz_n_ok hu
  cases h2
  cases h3
  cases hu
  have g1 := rN1_is h1 n1
  have g2 := rN1_is g1 n2
  have a1 : x.toInt = a := hx s1 a h1 n1
  have a2 : y.toInt = b := hy _ b g1 n2
  have a3 : z.toInt = c := hz _ c g2 n3
  obtain ⟨⟨p0, p1, p2⟩, p3⟩ := h s1 h1
  have e0 : v3.toInt = C 3 := p0.2.2.2.1
  have ei : v3.toNatClampNeg = (C 3).toNat := by show v3.toInt.toNat = (C 3).toNat; rw [e0]
  have hm : (C 3).toNat < 6 := by omega
  generalize em : (C 3).toNat = m at ei hm
  show ShC v0 v1 v2 w v4 v5 f1 f2 f3₁ f4₁ f5₁ f6 f7 f8 (qz_c2 C a b c) ∧ 0 ≤ qz_c2 C a b c 2 ∧ qz_c2 C a b c 2 ≤ 10
  have gn : ∀ k : Nat, k ≠ 68 + m → k ≠ 56 + m → k ≠ 62 + m → k ≠ 3 → qz_c2 C a b c k = C k := fun k b1 b2 b3 b4 => by unfold qz_c2; rw [em, qz_u_ne b4, qz_u_ne b3, qz_u_ne b2, qz_u_ne b1]
  have ga : qz_c2 C a b c (68 + m) = a := by unfold qz_c2; rw [em, qz_u_ne (by omega), qz_u_ne (by omega), qz_u_ne (by omega), qz_u_at]
  have gb : qz_c2 C a b c (56 + m) = b := by unfold qz_c2; rw [em, qz_u_ne (by omega), qz_u_ne (by omega), qz_u_at]
  have gc : qz_c2 C a b c (62 + m) = c := by unfold qz_c2; rw [em, qz_u_ne (by omega), qz_u_at]
  have g3 : qz_c2 C a b c 3 = C 3 + 1 := by unfold qz_c2; rw [qz_u_at]
  refine ⟨⟨?_, fun k hk => ?_, fun k hk => ?_⟩, ?_⟩
  · rw [gn 94 (by omega) (by omega) (by omega) (by omega), gn 1 (by omega) (by omega) (by omega) (by omega), gn 2 (by omega) (by omega) (by omega) (by omega), g3, hw, e0]; exact ⟨p0.1, p0.2.1, p0.2.2.1, rfl, p0.2.2.2.2⟩
  · rw [gn (74 + k) (by omega) (by omega) (by omega) (by omega), gn (84 + k) (by omega) (by omega) (by omega) (by omega)]; exact p1 k hk
  · rw [e3, e4, e5, ei]
    by_cases q1 : k = m
    · rw [q1, upd_at, upd_at, upd_at, ga, gb, gc]; exact ⟨a1, a2, a3, (p2 _ hm).2.2.2⟩
    · rw [upd_ne q1, upd_ne q1, upd_ne q1, gn (68 + k) (by omega) (by omega) (by omega) (by omega), gn (56 + k) (by omega) (by omega) (by omega) (by omega), gn (62 + k) (by omega) (by omega) (by omega) (by omega)]; exact p2 k hk
  · rw [gn 2 (by omega) (by omega) (by omega) (by omega)]; exact p3
theorem QsQ.b3 (h : QcI r v0 v1 v2 v3 v4 v5 f1 f2 f3 f4 f5 f6 f7 f8 C) (hx : NuV B 0 (v2 - 1).toInt r x) (hy : NuV B 0 (v3.toInt - 1) (rN1 B 0 (v2 - 1).toInt r) y) (e : f2₁ = upd f2 x.toNatClampNeg (f2 x.toNatClampNeg ||| ((1 : Int32) <<< (y &&& 31)))) : QsQ (qz_k3 B C r) v0 v1 v2 v3 v4 v5 f1 f2₁ f3 f4 f5 f6 f7 f8 := fun u hu => by
  obtain ⟨s1, a, h1, n1, hu⟩ := qz_n_ok hu
  obtain ⟨s2, b, h2, n2, hu⟩ := qz_n_ok hu
  cases h2
  cases hu
  obtain ⟨⟨p0, p1, p2⟩, p3⟩ := h s1 h1
  have ed := rd_C p0.2.2.1 p3
  rw [ed] at hx hy
  rw [p0.2.2.2.1] at hy
  have e1 := rN1_is h1 n1
  have a1 : x.toInt = a := hx s1 a h1 n1
  have a2 : y.toInt = b := hy _ b e1 n2
  have r1 := num_rg n1
  show ShC v0 v1 v2 v3 v4 v5 f1 f2₁ f3 f4 f5 f6 f7 f8 (qz_c3 C a b) ∧ 0 ≤ qz_c3 C a b 2 ∧ qz_c3 C a b 2 ≤ 10
  have gn : ∀ k : Nat, k ≠ 84 + a.toNat → qz_c3 C a b k = C k := fun k b1 => qz_u_ne b1
  have ga : qz_c3 C a b (84 + a.toNat) = qz_or (C (84 + a.toNat)) b := qz_u_at
  have ei : x.toNatClampNeg = a.toNat := by show x.toInt.toNat = a.toNat; rw [a1]
  refine ⟨⟨?_, fun k hk => ?_, fun k hk => ?_⟩, ?_⟩
  · rw [gn 94 (by omega), gn 1 (by omega), gn 2 (by omega), gn 3 (by omega)]; exact p0
  · rw [gn (74 + k) (by omega), e, ei]
    by_cases q1 : k = a.toNat
    · rw [q1, upd_at, ga, ← (p1 _ (by omega)).2, ← a2, qz_or_is]; exact ⟨(p1 _ (by omega)).1, rfl⟩
    · rw [upd_ne q1, gn (84 + k) (by omega)]; exact p1 k hk
  · rw [gn (68 + k) (by omega), gn (56 + k) (by omega), gn (62 + k) (by omega)]; exact p2 k hk
  · rw [gn 2 (by omega)]; exact p3
theorem QsQ.n3 (h : QcI r v0 v1 v2 v3 v4 v5 f1 f2 f3 f4 f5 f6 f7 f8 C) (hx : NuV B 0 (v2 - 1).toInt r x) (hy : NuV B 0 (v3.toInt - 1) (rN1 B 0 (v2 - 1).toInt r) y) (hb : 0 ≤ v3.toInt ∧ v3.toInt ≤ 6) (hn : ¬ (0 ≤ x.toInt ∧ x.toInt < v2.toInt ∧ x.toInt < 10 ∧ 0 ≤ y.toInt ∧ y.toInt < v3.toInt ∧ y.toInt < 6)) : QsQ (qz_k3 B C r) v0 v1 v2 v3 v4 v5 f1 f2 f3 f4 f5 f6 f7 f8 := fun u hu => by
  obtain ⟨s1, a, h1, n1, hu⟩ := qz_n_ok hu
  obtain ⟨s2, b, h2, n2, hu⟩ := qz_n_ok hu
  cases h2
  obtain ⟨⟨p0, p1, p2⟩, p3⟩ := h s1 h1
  have ed := rd_C p0.2.2.1 p3
  rw [ed] at hx hy
  rw [p0.2.2.2.1] at hy
  have e1 := rN1_is h1 n1
  have a1 : x.toInt = a := hx s1 a h1 n1
  have a2 : y.toInt = b := hy _ b e1 n2
  have r1 := num_rg n1
  have r2 := num_rg n2
  have e2 := p0.2.2.1
  have e3 := p0.2.2.2.1
  exact absurd ⟨by omega, by omega, by omega, by omega, by omega, by omega⟩ hn
/-! a clause -/
theorem qc_no (h : waR B (wL 0) 0 (fsC q) = -1) : fsC (pz_b q (qz_cl B l)) = rER 0 (fsC q) := by
  cases q with
  | error e => rfl
  | ok u =>
    have h : pz_wa B u.1.1 (wL 0) 0 = -1 := h
    rw [wL0] at h
    show fsC (qz_cl B l u) = _
    rw [show qz_cl B l u = .error (pz_er 0 u.1.1) from if_pos h]
    rfl
theorem QsQ.er {k : Int} (h : fsC (pz_b q (qz_cl B l)) = rER k (fsC q)) : QsQ (pz_b q (qz_cl B l)) v0 v1 v2 v3 v4 v5 f1 f2 f3 f4 f5 f6 f7 f8 := fun u hu => by
  rw [hu] at h
  cases q with
  | error e => cases hu
  | ok v => cases h
theorem qc_bad {k : Int} (h : waR B (wL 0) 0 (fsC q) = k) (hk : ¬ k = -1) (hq : QsQ q v0 v1 v2 v3 v4 v5 f1 f2 f3 f4 f5 f6 f7 f8) (hb : 40 ≤ l ∨ ¬ (k = 0 ↔ l = 0) ∨ (k = 2 ∧ 6 ≤ v3.toInt)) : fsC (pz_b q (qz_cl B l)) = rER 4 (fsC q) := by
  cases q with
  | error e => exact absurd h.symm hk
  | ok u =>
    have h : pz_wa B u.1.1 (wL 0) 0 = k := h
    rw [wL0] at h
    subst h
    have e := (hq u rfl).1.1.2.2.2.1
    show fsC (qz_cl B l u) = _
    rw [show qz_cl B l u = .error (pz_er 4 u.1.1) from (if_neg hk).trans (if_pos (by rw [← e]; exact hb))]
    rfl
theorem qc_go {k : Int} (h : waR B (wL 0) 0 (fsC q) = k) (hk : ¬ k = -1) (hq : QsQ q v0 v1 v2 v3 v4 v5 f1 f2 f3 f4 f5 f6 f7 f8) (hb : ¬ (40 ≤ l ∨ ¬ (k = 0 ↔ l = 0) ∨ (k = 2 ∧ 6 ≤ v3.toInt))) : pz_b q (qz_cl B l) = qz_k B k (cnQ q) (rNX B (fsC q)) ∧ (v2.toInt = cnQ q 2 ∧ 0 ≤ cnQ q 2 ∧ cnQ q 2 ≤ 10) ∧ v3.toInt = cnQ q 3 := by
  cases q with
  | error e => exact absurd h.symm hk
  | ok u =>
    have h : pz_wa B u.1.1 (wL 0) 0 = k := h
    rw [wL0] at h
    subst h
    have e := hq u rfl
    refine ⟨?_, ⟨e.1.1.2.2.1, e.2⟩, e.1.1.2.2.2.1⟩
    exact (if_neg hk).trans (if_neg (by rw [← e.1.1.2.2.2.1]; exact hb))
theorem qc_0 (h : waR B (wL 0) 0 (fsC q) = 0) (hq : QsQ q v0 v1 v2 v3 v4 v5 f1 f2 f3 f4 f5 f6 f7 f8) (hl : l = 0) : pz_b q (qz_cl B l) = qz_k0 B (cnQ q) (rNX B (fsC q)) ∧ fsC (pz_b q (qz_cl B l)) = rN1 B 1 10 (rN1 B 0 9 (rN1 B 0 99 (rNX B (fsC q)))) := by
  obtain ⟨h1, -, -⟩ := qc_go (l := l) h (by decide) hq (by rw [hl]; intro y; rcases y with y | y | y; omega; exact y (by simp); omega)
  rw [h1, qz_k_0 rfl]
  exact ⟨rfl, qz_k0_fs⟩
theorem qc_1 (h : waR B (wL 0) 0 (fsC q) = 1) (hq : QsQ q v0 v1 v2 v3 v4 v5 f1 f2 f3 f4 f5 f6 f7 f8) (hl : 1 ≤ l ∧ l < 40) : pz_b q (qz_cl B l) = qz_k1 B (cnQ q) (rNX B (fsC q)) ∧ fsC (pz_b q (qz_cl B l)) = rN1 B 0 9 (rN1 B 0 (v2 - 1).toInt (rNX B (fsC q))) := by
  obtain ⟨h1, h2, -⟩ := qc_go (l := l) h (by decide) hq (by intro y; rcases y with y | y | y; omega; exact y ⟨fun y => by omega, fun y => by omega⟩; omega)
  rw [h1, qz_k_1 rfl, rd_C h2.1 h2.2]
  exact ⟨rfl, qz_k1_fs⟩
theorem qc_2 (h : waR B (wL 0) 0 (fsC q) = 2) (hq : QsQ q v0 v1 v2 v3 v4 v5 f1 f2 f3 f4 f5 f6 f7 f8) (hl : 1 ≤ l ∧ l < 40) (hb : v3.toInt < 6) : pz_b q (qz_cl B l) = qz_k2 B (cnQ q) (rNX B (fsC q)) ∧ fsC (pz_b q (qz_cl B l)) = rN1 B 0 9 (rN1 B 1 9 (rN1 B 0 20 (rNX B (fsC q)))) := by
  obtain ⟨h1, -, -⟩ := qc_go (l := l) h (by decide) hq (by intro y; rcases y with y | y | y; omega; exact y ⟨fun y => by omega, fun y => by omega⟩; omega)
  rw [h1, qz_k_2 rfl]
  exact ⟨rfl, qz_k2_fs⟩
theorem qc_3 {k : Int} (h : waR B (wL 0) 0 (fsC q) = k) (hk : 3 ≤ k) (hq : QsQ q v0 v1 v2 v3 v4 v5 f1 f2 f3 f4 f5 f6 f7 f8) (hl : 1 ≤ l ∧ l < 40) : pz_b q (qz_cl B l) = qz_k3 B (cnQ q) (rNX B (fsC q)) ∧ fsC (pz_b q (qz_cl B l)) = rN1 B 0 (v3.toInt - 1) (rN1 B 0 (v2 - 1).toInt (rNX B (fsC q))) := by
  obtain ⟨h1, h2, h3⟩ := qc_go (l := l) h (by omega) hq (by intro y; rcases y with y | y | y; omega; exact y ⟨fun y => by omega, fun y => by omega⟩; omega)
  rw [h1, qz_k_3 hk, rd_C h2.1 h2.2, h3]
  exact ⟨rfl, qz_k3_fs⟩
end QCL
/-! the class's loop -/
def QbH (B : Nat → Int) (q : Except Int QzU) (l : Int32) : Prop := (l.toInt = 0 ∧ q = .ok ((pz_sk B 0, 0), qz_0)) ∨ (1 ≤ l.toInt ∧ l.toInt ≤ 40 ∧ qz_Ru B = pz_b (qTG l.toInt.toNat q) (pz_lp (qz_F B))) ∨ (l.toInt = 41 ∧ ∃ e, q = .error e ∧ qz_Ru B = .error e)
def QbL (f : Nat → Int32) (n a b c d v0 v1 v2 v3 v4 v5 : Int32) (f1 f2 f3 f4 f5 f6 f7 f8 : Nat → Int32) (l : Int32) : Prop := ∃ q, TpR f n (fsC q) a b c d ∧ QsQ q v0 v1 v2 v3 v4 v5 f1 f2 f3 f4 f5 f6 f7 f8 ∧ QbH (cB f n) q l
section QBL
variable {f : Nat → Int32} {n a b c d v0 v1 v2 v3 v4 v5 l l' : Int32} {f1 f2 f3 f4 f5 f6 f7 f8 : Nat → Int32} {q q' : Except Int QzU}
theorem QbL.start (h : TpR f n (rSK (cB f n) (.ok (0, 0))) a b c d) (h1 : ShC v0 v1 v2 v3 v4 v5 f1 f2 f3 f4 f5 f6 f7 f8 qz_0) (hl : l.toInt = 0) : QbL f n a b c d v0 v1 v2 v3 v4 v5 f1 f2 f3 f4 f5 f6 f7 f8 l := ⟨.ok ((pz_sk (cB f n) 0, 0), qz_0), h, fun u hu => by cases hu; exact ⟨h1, Int.le_refl _, (show (0 : Int) ≤ 10 by decide)⟩, Or.inl ⟨hl, rfl⟩⟩
theorem QbL.turn (hl : 0 ≤ l.toInt ∧ l.toInt ≤ 40) (hl₀ : l'.toInt = l.toInt + 1) (h : TpR f n (fsC q') a b c d) (hct : QsQ q' v0 v1 v2 v3 v4 v5 f1 f2 f3 f4 f5 f6 f7 f8) (h12 : l.toInt = 40 → ∃ e, q' = .error e) (hR : qz_Ru (cB f n) = pz_b (qTG (l.toInt.toNat + 1) q') (pz_lp (qz_F (cB f n)))) : QbL f n a b c d v0 v1 v2 v3 v4 v5 f1 f2 f3 f4 f5 f6 f7 f8 l' := by
  refine ⟨q', h, hct, Or.inr ?_⟩
  by_cases z : l.toInt = 40
  · right
    obtain ⟨e, rfl⟩ := h12 z
    exact ⟨by omega, e, rfl, hR⟩
  · left
    refine ⟨by omega, by omega, ?_⟩
    rw [show l'.toInt.toNat = l.toInt.toNat + 1 by omega]
    exact hR
theorem QbL.next0 (hl : l.toInt = 0) (hq : QbH (cB f n) q l) (h : TpR f n (fsC (pz_b q (qz_cl (cB f n) l.toInt.toNat))) a b c d) (hct : QsQ (pz_b q (qz_cl (cB f n) l.toInt.toNat)) v0 v1 v2 v3 v4 v5 f1 f2 f3 f4 f5 f6 f7 f8) (hl₀ : l'.toInt = l.toInt + 1) : QbL f n a b c d v0 v1 v2 v3 v4 v5 f1 f2 f3 f4 f5 f6 f7 f8 l' := by
  rcases hq with hq | hq | hq
  · obtain ⟨-, rfl⟩ := hq
    refine QbL.turn (by omega) hl₀ h hct (fun z => by omega) ?_
    rw [hl]
    rfl
  · omega
  · omega
/-- behind a ; -/
def qNX (B : Nat → Int) (q : Except Int QzU) : Except Int QzU := pz_b q (fun u => .ok (pz_nx B u.1, u.2))
theorem fsC_nx {B : Nat → Int} {q : Except Int QzU} : fsC (qNX B q) = rNX B (fsC q) := by cases q <;> rfl
theorem QsQ.nx {B : Nat → Int} (h : QsQ q v0 v1 v2 v3 v4 v5 f1 f2 f3 f4 f5 f6 f7 f8) : QsQ (qNX B q) v0 v1 v2 v3 v4 v5 f1 f2 f3 f4 f5 f6 f7 f8 := fun u hu => by
  cases q with
  | error e => cases hu
  | ok v => cases hu; exact h v rfl
theorem QbL.nextS (hn : n.toInt ≤ 400) (hl : 1 ≤ l.toInt ∧ l.toInt ≤ 40) (hs : Sg (cB f n) 59 (fsC q)) (hq : QbH (cB f n) q l) (h : TpR f n (fsC (pz_b (qNX (cB f n) q) (qz_cl (cB f n) l.toInt.toNat))) a b c d) (hct : QsQ (pz_b (qNX (cB f n) q) (qz_cl (cB f n) l.toInt.toNat)) v0 v1 v2 v3 v4 v5 f1 f2 f3 f4 f5 f6 f7 f8) (hl₀ : l'.toInt = l.toInt + 1) : QbL f n a b c d v0 v1 v2 v3 v4 v5 f1 f2 f3 f4 f5 f6 f7 f8 l' := by
  obtain ⟨s, hs1, h59⟩ := hs
  cases q with
  | error e => cases hs1
  | ok u =>
    cases hs1
    rcases hq with hq | hq | hq
    · omega
    · refine QbL.turn (by omega) hl₀ h hct (fun z => ?_) ?_
      · rw [z]; exact qz_cl_40
      · rw [hq.2.2]
        exact pz_lp_on (qz_F_pr (cB_fi hn)) (s := (u, l.toInt.toNat)) (if_pos h59)
    · omega
theorem QbL.fin (hq : QbH (cB f n) q l) (h0 : ¬ l.toInt = 0) (hx : 40 < l.toInt ∨ NSg (cB f n) 59 (fsC q)) : qz_book (cB f n) = qEN (cB f n) q := by
  have e0 : qz_book (cB f n) = qEN (cB f n) (pz_b (qz_Ru (cB f n)) (fun w => .ok w.1)) := rfl
  rcases hq with hq | hq | hq
  · omega
  · rw [e0, hq.2.2]
    rcases hx with hx | hx
    · omega
    · cases q with
      | error e => rfl
      | ok u =>
        show qEN (cB f n) (pz_b (pz_lp (qz_F (cB f n)) (u, l.toInt.toNat)) _) = _
        rw [pz_lp_no (F := qz_F (cB f n)) (s := (u, l.toInt.toNat)) (if_neg (hx u.1 rfl))]
        rfl
  · obtain ⟨-, e, rfl, he⟩ := hq
    rw [e0, he]
    rfl
/-- the book is read: no fault and the shop as told, or the fault -/
def QkR (B : Nat → Int) (d v0 v1 v2 v3 v4 v5 : Int32) (f1 f2 f3 f4 f5 f6 f7 f8 : Nat → Int32) : Prop := (d.toInt = 0 ∧ ∃ u, qz_book B = .ok u ∧ ShC v0 v1 v2 v3 v4 v5 f1 f2 f3 f4 f5 f6 f7 f8 u.2) ∨ (¬ d.toInt = 0 ∧ qz_book B = .error d.toInt)
theorem fsC_en {B : Nat → Int} {q : Except Int QzU} : fsC (qEN B q) = rEN B (fsC q) := by
  cases q with
  | error e => rfl
  | ok u =>
    show fsC (pz_b (pz_end B u.1.1) _) = pz_b (pz_end B u.1.1) _
    cases pz_end B u.1.1 <;> rfl
theorem QkR.of (hr : qz_book (cB f n) = qEN (cB f n) q) (h : TpR f n (rEN (cB f n) (fsC q)) a b c d) (hq : QsQ q v0 v1 v2 v3 v4 v5 f1 f2 f3 f4 f5 f6 f7 f8) : QkR (cB f n) d v0 v1 v2 v3 v4 v5 f1 f2 f3 f4 f5 f6 f7 f8 := by
  rw [← fsC_en, ← hr] at h
  cases e : qz_book (cB f n) with
  | error z =>
    rw [e] at h
    have h1 := h.1
    have h2 := h.2.1
    exact Or.inr ⟨by rw [h1]; exact h2, by rw [e, h1]⟩
  | ok u =>
    rw [e] at h
    refine Or.inl ⟨h.1, u, e, ?_⟩
    rw [e] at hr
    cases q with
    | error z => cases hr
    | ok v =>
      have hr : Except.ok u = pz_b (pz_end (cB f n) v.1.1) (fun _ => .ok v) := hr
      cases e2 : pz_end (cB f n) v.1.1 with
      | error z => rw [e2] at hr; cases hr
      | ok z => rw [e2] at hr; cases hr; exact (hq u rfl).1
theorem QkR.er {B : Nat → Int} (h : QkR B d v0 v1 v2 v3 v4 v5 f1 f2 f3 f4 f5 f6 f7 f8) (hd : ¬ d.toInt = 0) : qz_book B = .error d.toInt := by
  rcases h with h | h
  · exact absurd h.1 hd
  · exact h.2
theorem QkR.ok {B : Nat → Int} (h : QkR B d v0 v1 v2 v3 v4 v5 f1 f2 f3 f4 f5 f6 f7 f8) (hd : d.toInt = 0) : ∃ u, qz_book B = .ok u ∧ ShC v0 v1 v2 v3 v4 v5 f1 f2 f3 f4 f5 f6 f7 f8 u.2 := by
  rcases h with h | h
  · exact h.2
  · exact absurd hd h.1
/-- a copy of the shop -/
theorem ShC.copy {C : Nat → Int} {g1 g2 g3 g4 g5 g6 g7 g8 : Nat → Int32} (h : ShC v0 v1 v2 v3 v4 v5 f1 f2 f3 f4 f5 f6 f7 f8 C) (e1 : ∀ k, k < 10 → g1 k = f1 k ∧ g2 k = f2 k) (e2 : ∀ b, b < 6 → g3 b = f3 b ∧ g4 b = f4 b ∧ g5 b = f5 b ∧ g6 b = f6 b ∧ g7 b = f7 b ∧ g8 b = f8 b) : ShC v0 v1 v2 v3 v4 v5 g1 g2 g3 g4 g5 g6 g7 g8 C := by
  refine ⟨h.1, fun k hk => ?_, fun b hb => ?_⟩
  · rw [(e1 k hk).1, (e1 k hk).2]; exact h.2.1 k hk
  · obtain ⟨p3, p4, p5, p6, p7, p8⟩ := e2 b hb
    rw [p3, p4, p5, p6, p7, p8]; exact h.2.2 b hb
end QBL
/-! clear -/
def Clr1 (f1 f2 : Nat → Int32) (k : Int32) : Prop := ∀ j : Nat, (j : Int) < k.toInt → (f1 j).toInt = 0 ∧ (f2 j).toInt = 0
def Clr2 (f3 f4 f5 f6 f7 f8 : Nat → Int32) (k : Int32) : Prop := ∀ j : Nat, (j : Int) < k.toInt → (f3 j).toInt = 0 ∧ (f4 j).toInt = 0 ∧ (f5 j).toInt = 0 ∧ (f6 j).toInt = 0 ∧ (f7 j).toInt = 0 ∧ (f8 j).toInt = -1
theorem cl_0 {f g : Nat → Int32} {k x : Int32} {j : Nat} {v : Int} (e : g = upd f k.toNatClampNeg x) (hk : 0 ≤ k.toInt) (hj : (j : Int) < k.toInt + 1) (hx : x.toInt = v) (h : (j : Int) < k.toInt → (f j).toInt = v) : (g j).toInt = v := by
  have ec : k.toNatClampNeg = k.toInt.toNat := rfl
  rw [e]
  by_cases z : j = k.toInt.toNat
  · rw [ec, z, upd_at]; exact hx
  · rw [ec, upd_ne z]; exact h (by omega)
theorem Clr1.nil {f1 f2 : Nat → Int32} {k : Int32} (hk : k.toInt = 0) : Clr1 f1 f2 k := fun j hj => by omega
theorem Clr2.nil {f3 f4 f5 f6 f7 f8 : Nat → Int32} {k : Int32} (hk : k.toInt = 0) : Clr2 f3 f4 f5 f6 f7 f8 k := fun j hj => by omega
theorem Clr1.step {f1 f2 g1 g2 : Nat → Int32} {k k' : Int32} (h : Clr1 f1 f2 k) (h0 : 0 ≤ k.toInt) (e1 : g1 = upd f1 k.toNatClampNeg 0) (e2 : g2 = upd f2 k.toNatClampNeg 0) (hk : k'.toInt = k.toInt + 1) : Clr1 g1 g2 k' := fun j hj => ⟨cl_0 e1 h0 (by omega) (by decide) (fun z => (h j z).1), cl_0 e2 h0 (by omega) (by decide) (fun z => (h j z).2)⟩
theorem Clr2.step {f3 f4 f5 f6 f7 f8 g3 g4 g5 g6 g7 g8 : Nat → Int32} {k k' : Int32} (h : Clr2 f3 f4 f5 f6 f7 f8 k) (h0 : 0 ≤ k.toInt) (e3 : g3 = upd f3 k.toNatClampNeg 0) (e4 : g4 = upd f4 k.toNatClampNeg 0) (e5 : g5 = upd f5 k.toNatClampNeg 0) (e6 : g6 = upd f6 k.toNatClampNeg 0) (e7 : g7 = upd f7 k.toNatClampNeg 0) (e8 : g8 = upd f8 k.toNatClampNeg (-1)) (hk : k'.toInt = k.toInt + 1) : Clr2 g3 g4 g5 g6 g7 g8 k' := fun j hj => ⟨cl_0 e3 h0 (by omega) (by decide) (fun z => (h j z).1), cl_0 e4 h0 (by omega) (by decide) (fun z => (h j z).2.1), cl_0 e5 h0 (by omega) (by decide) (fun z => (h j z).2.2.1), cl_0 e6 h0 (by omega) (by decide) (fun z => (h j z).2.2.2.1), cl_0 e7 h0 (by omega) (by decide) (fun z => (h j z).2.2.2.2.1), cl_0 e8 h0 (by omega) (by decide) (fun z => (h j z).2.2.2.2.2)⟩
theorem ShC.clear {f1 f2 f3 f4 f5 f6 f7 f8 : Nat → Int32} {k k' : Int32} (h1 : Clr1 f1 f2 k) (h2 : Clr2 f3 f4 f5 f6 f7 f8 k') (hk : 10 ≤ k.toInt) (hk' : 6 ≤ k'.toInt) : ShC 0 0 0 0 0 0 f1 f2 f3 f4 f5 f6 f7 f8 qz_0 := ⟨⟨by decide, by decide, by decide, by decide, by decide, by decide⟩, fun k hk => h1 k (by omega), fun b hb => h2 b (by omega)⟩
set_option maxRecDepth 16384
/-! the reference's reader of the book, with what it tells -/
def RdE (f : Nat → Int32) (C : Nat → Int) : Prop := ∀ k : Nat, k < 95 → (f k).toInt = C k
def QfO (q : Except Int QzU) (B : Nat → Int) (wr nx : Int32) (f : Nat → Int32) : Prop := ∃ C, q = .ok ((pz_sk B nx.toInt.toNat, 0), C) ∧ wr.toInt = 0 ∧ RdE f C
def QfE (q : Except Int QzU) (wr : Int32) : Prop := q = .error wr.toInt
section QRF
variable {B C : Nat → Int} {r : Except Int (Nat × Nat)} {q q' : Except Int QzU} {nx nx1 nx2 nx3 wr w0 w1 w2 a b c c1 c2 c3 i j x y : Int32} {f g g1 g2 g3 f' : Nat → Int32} {l : Nat}
theorem qz_n_at {T : Type} {lo hi : Int} {k : Int → Nat × Nat → Except Int T} (h : RgO r B w0 nx) (hn : NmO B lo hi nx a nx1 wr) : qz_n B lo hi r k = k a.toInt (pz_sk B nx1.toInt.toNat, 0) ∧ RgO (.ok (pz_sk B nx1.toInt.toNat, 0)) B wr nx1 ∧ lo ≤ a.toInt ∧ a.toInt ≤ hi := by
  obtain ⟨h1, h2, h3⟩ := hn
  refine ⟨?_, ⟨rfl, h3⟩, num_rg h1⟩
  rw [h.1]
  show pz_b (pz_num B lo hi (pz_sk B nx.toInt.toNat)) (fun v => k v (pz_nx B (pz_sk B nx.toInt.toNat, 0))) = _
  rw [h1]
  show k a.toInt (pz_sk B (pz_te B (pz_sk B nx.toInt.toNat)), 0) = _
  rw [show nx1.toInt.toNat = pz_te B (pz_sk B nx.toInt.toNat) by omega]
theorem qz_n_no {T : Type} {lo hi : Int} {k : Int → Nat × Nat → Except Int T} (h : RgO r B w0 nx) (hn : NmE B lo hi nx wr) : qz_n B lo hi r k = .error wr.toInt := by
  rw [h.1]
  show pz_b (pz_num B lo hi (pz_sk B nx.toInt.toNat)) (fun v => k v (pz_nx B (pz_sk B nx.toInt.toNat, 0))) = _
  unfold NmE at hn
  rw [hn]; rfl
/-! a cell that is written -/
theorem RdC.ne (h : RdC f g c) {k : Nat} (hk : (k : Int) ≠ c.toInt) (h0 : 0 ≤ c.toInt) : g k = f k := h k (by show k ≠ c.toInt.toNat; omega)
theorem RdE.cell (he : RdE f C) (hr : RdC f g c) {n : Nat} {v : Int} (hc : c.toInt = (n : Int)) (hv : (g c.toNatClampNeg).toInt = v) : RdE g (qz_u C n v) := fun k hk => by
  by_cases z : k = n
  · rw [z, qz_u_at, ← hv]
    have e : c.toNatClampNeg = n := by show c.toInt.toNat = n; omega
    rw [e]
  · rw [qz_u_ne z, hr.ne (by omega) (by omega)]; exact he k hk
theorem RdE.put (he : RdE f C) (e : g = upd f j.toNatClampNeg x) {n : Nat} {v : Int} (hj : j.toInt = (n : Int)) (hx : x.toInt = v) : RdE g (qz_u C n v) := by
  have ej : j.toNatClampNeg = n := by show j.toInt.toNat = n; omega
  intro k hk
  rw [e, ej]
  by_cases z : k = n
  · rw [z, qz_u_at, upd_at]; exact hx
  · rw [qz_u_ne z, upd_ne z]; exact he k hk
/-! BOOK -/
theorem bk0_1 (h0 : RgO r B w0 nx) (h1 : NmE B 0 99 nx wr) : QfE (qz_k0 B C r) wr := qz_n_no h0 h1
theorem bk0_2 (h0 : RgO r B w0 nx) (h1 : NmO B 0 99 nx a nx1 w1) (h2 : NmE B 0 9 nx1 wr) : QfE (qz_k0 B C r) wr := by
  obtain ⟨e1, s1, -⟩ := qz_n_at (k := fun x s => qz_n B 0 9 (.ok s) (fun y t => qz_n B 1 10 (.ok t) (fun z u => Except.ok ((u, qz_c0 C x y z) : QzU)))) h0 h1
  exact e1.trans (qz_n_no s1 h2)
theorem bk0_3 (h0 : RgO r B w0 nx) (h1 : NmO B 0 99 nx a nx1 w1) (h2 : NmO B 0 9 nx1 b nx2 w2) (h3 : NmE B 1 10 nx2 wr) : QfE (qz_k0 B C r) wr := by
  obtain ⟨e1, s1, -⟩ := qz_n_at (k := fun x s => qz_n B 0 9 (.ok s) (fun y t => qz_n B 1 10 (.ok t) (fun z u => Except.ok ((u, qz_c0 C x y z) : QzU)))) h0 h1
  obtain ⟨e2, s2, -⟩ := qz_n_at (k := fun y t => qz_n B 1 10 (.ok t) (fun z u => Except.ok ((u, qz_c0 C a.toInt y z) : QzU))) s1 h2
  exact e1.trans (e2.trans (qz_n_no s2 h3))
theorem bk0_ok (h0 : RgO r B w0 nx) (h1 : NmO B 0 99 nx (g1 c1.toNatClampNeg) nx1 w1) (h2 : NmO B 0 9 nx1 (g2 c2.toNatClampNeg) nx2 w2) (h3 : NmO B 1 10 nx2 (g3 c3.toNatClampNeg) nx3 wr) (he : RdE f C) (r1 : RdC f g1 c1) (r2 : RdC g1 g2 c2) (r3 : RdC g2 g3 c3) (e1 : c1.toInt = 94) (e2 : c2.toInt = 1) (e3 : c3.toInt = 2) (e : g = upd g3 j.toNatClampNeg x) (ej : j.toInt = 0) (ex : x.toInt = 1) : QfO (qz_k0 B C r) B wr nx3 g := by
  obtain ⟨q1, s1, -⟩ := qz_n_at (k := fun x s => qz_n B 0 9 (.ok s) (fun y t => qz_n B 1 10 (.ok t) (fun z u => Except.ok ((u, qz_c0 C x y z) : QzU)))) h0 h1
  obtain ⟨q2, s2, -⟩ := qz_n_at (k := fun y t => qz_n B 1 10 (.ok t) (fun z u => Except.ok ((u, qz_c0 C (g1 c1.toNatClampNeg).toInt y z) : QzU))) s1 h2
  obtain ⟨q3, s3, -⟩ := qz_n_at (k := fun z u => Except.ok ((u, qz_c0 C (g1 c1.toNatClampNeg).toInt (g2 c2.toNatClampNeg).toInt z) : QzU)) s2 h3
  exact ⟨_, q1.trans (q2.trans q3), s3.2, RdE.put (RdE.cell (RdE.cell (RdE.cell he r1 (n := 94) e1 rfl) r2 (n := 1) e2 rfl) r3 (n := 2) e3 rfl) e (n := 0) ej ex⟩
/-! SKY -/
theorem bk1_1 (h0 : RgO r B w0 nx) (h1 : NmE B 0 (C 2 - 1) nx wr) : QfE (qz_k1 B C r) wr := qz_n_no h0 h1
theorem bk1_2 (h0 : RgO r B w0 nx) (h1 : NmO B 0 (C 2 - 1) nx a nx1 w1) (h2 : NmE B 0 9 nx1 wr) : QfE (qz_k1 B C r) wr := by
  obtain ⟨e1, s1, -⟩ := qz_n_at (k := fun x s => qz_n B 0 9 (.ok s) (fun y t => Except.ok ((t, qz_c1 C x y) : QzU))) h0 h1
  exact e1.trans (qz_n_no s1 h2)
theorem bk1_ok (h0 : RgO r B w0 nx) (h1 : NmO B 0 (C 2 - 1) nx a nx1 w1) (h2 : NmO B 0 9 nx1 (g c.toNatClampNeg) nx2 wr) (he : RdE f C) (r1 : RdC f g c) (ec : c.toInt = 74 + a.toInt) : QfO (qz_k1 B C r) B wr nx2 g := by
  obtain ⟨q1, s1, l1⟩ := qz_n_at (k := fun x s => qz_n B 0 9 (.ok s) (fun y t => Except.ok ((t, qz_c1 C x y) : QzU))) h0 h1
  obtain ⟨q2, s2, -⟩ := qz_n_at (k := fun y t => Except.ok ((t, qz_c1 C a.toInt y) : QzU)) s1 h2
  exact ⟨_, q1.trans q2, s2.2, RdE.cell he r1 (n := 74 + a.toInt.toNat) (by omega) rfl⟩
/-! BUYER -/
theorem bk2_1 (h0 : RgO r B w0 nx) (h1 : NmE B 0 20 nx wr) : QfE (qz_k2 B C r) wr := qz_n_no h0 h1
theorem bk2_2 (h0 : RgO r B w0 nx) (h1 : NmO B 0 20 nx a nx1 w1) (h2 : NmE B 1 9 nx1 wr) : QfE (qz_k2 B C r) wr := by
  obtain ⟨e1, s1, -⟩ := qz_n_at (k := fun x s => qz_n B 1 9 (.ok s) (fun y t => qz_n B 0 9 (.ok t) (fun z u => Except.ok ((u, qz_c2 C x y z) : QzU)))) h0 h1
  exact e1.trans (qz_n_no s1 h2)
theorem bk2_3 (h0 : RgO r B w0 nx) (h1 : NmO B 0 20 nx a nx1 w1) (h2 : NmO B 1 9 nx1 b nx2 w2) (h3 : NmE B 0 9 nx2 wr) : QfE (qz_k2 B C r) wr := by
  obtain ⟨e1, s1, -⟩ := qz_n_at (k := fun x s => qz_n B 1 9 (.ok s) (fun y t => qz_n B 0 9 (.ok t) (fun z u => Except.ok ((u, qz_c2 C x y z) : QzU)))) h0 h1
  obtain ⟨e2, s2, -⟩ := qz_n_at (k := fun y t => qz_n B 0 9 (.ok t) (fun z u => Except.ok ((u, qz_c2 C a.toInt y z) : QzU))) s1 h2
  exact e1.trans (e2.trans (qz_n_no s2 h3))
theorem bk2_ok (h0 : RgO r B w0 nx) (h1 : NmO B 0 20 nx (g1 c1.toNatClampNeg) nx1 w1) (h2 : NmO B 1 9 nx1 (g2 c2.toNatClampNeg) nx2 w2) (h3 : NmO B 0 9 nx2 (g3 c3.toNatClampNeg) nx3 wr) (he : RdE f C) (r1 : RdC f g1 c1) (r2 : RdC g1 g2 c2) (r3 : RdC g2 g3 c3) (hb : 0 ≤ (f 3).toInt) (e1 : c1.toInt = 68 + (f 3).toInt) (e2 : c2.toInt = 56 + (f 3).toInt) (e3 : c3.toInt = 62 + (f 3).toInt) (e : g = upd g3 j.toNatClampNeg x) (ej : j.toInt = 3) (ex : x.toInt = (f 3).toInt + 1) : QfO (qz_k2 B C r) B wr nx3 g := by
  have e0 : (f 3).toInt = C 3 := he 3 (by decide)
  rw [e0] at hb e1 e2 e3 ex
  obtain ⟨q1, s1, -⟩ := qz_n_at (k := fun x s => qz_n B 1 9 (.ok s) (fun y t => qz_n B 0 9 (.ok t) (fun z u => Except.ok ((u, qz_c2 C x y z) : QzU)))) h0 h1
  obtain ⟨q2, s2, -⟩ := qz_n_at (k := fun y t => qz_n B 0 9 (.ok t) (fun z u => Except.ok ((u, qz_c2 C (g1 c1.toNatClampNeg).toInt y z) : QzU))) s1 h2
  obtain ⟨q3, s3, -⟩ := qz_n_at (k := fun z u => Except.ok ((u, qz_c2 C (g1 c1.toNatClampNeg).toInt (g2 c2.toNatClampNeg).toInt z) : QzU)) s2 h3
  exact ⟨_, q1.trans (q2.trans q3), s3.2, RdE.put (RdE.cell (RdE.cell (RdE.cell he r1 (n := 68 + (C 3).toNat) (by omega) rfl) r2 (n := 56 + (C 3).toNat) (by omega) rfl) r3 (n := 62 + (C 3).toNat) (by omega) rfl) e (n := 3) ej ex⟩
/-! WATCH -/
theorem bk3_1 (h0 : RgO r B w0 nx) (h1 : NmE B 0 (C 2 - 1) nx wr) : QfE (qz_k3 B C r) wr := qz_n_no h0 h1
theorem bk3_2 (h0 : RgO r B w0 nx) (h1 : NmO B 0 (C 2 - 1) nx a nx1 w1) (h2 : NmE B 0 (C 3 - 1) nx1 wr) : QfE (qz_k3 B C r) wr := by
  obtain ⟨e1, s1, -⟩ := qz_n_at (k := fun x s => qz_n B 0 (C 3 - 1) (.ok s) (fun y t => Except.ok ((t, qz_c3 C x y) : QzU))) h0 h1
  exact e1.trans (qz_n_no s1 h2)
theorem bk3_ok (h0 : RgO r B w0 nx) (h1 : NmO B 0 (C 2 - 1) nx a nx1 w1) (h2 : NmO B 0 (C 3 - 1) nx1 b nx2 wr) (he : RdE f C) (h10 : C 2 ≤ 10) (e : g = upd f i.toNatClampNeg (f i.toNatClampNeg ||| ((1 : Int32) <<< (b &&& 31)))) (ei : i.toInt = 84 + a.toInt) : QfO (qz_k3 B C r) B wr nx2 g := by
  obtain ⟨q1, s1, l1⟩ := qz_n_at (k := fun x s => qz_n B 0 (C 3 - 1) (.ok s) (fun y t => Except.ok ((t, qz_c3 C x y) : QzU))) h0 h1
  obtain ⟨q2, s2, -⟩ := qz_n_at (k := fun y t => Except.ok ((t, qz_c3 C a.toInt y) : QzU)) s1 h2
  refine ⟨_, q1.trans q2, s2.2, RdE.put he e (n := 84 + a.toInt.toNat) (by omega) ?_⟩
  have en : i.toNatClampNeg = 84 + a.toInt.toNat := by show i.toInt.toNat = _; omega
  rw [en, ← he (84 + a.toInt.toNat) (by omega), qz_or_is]
/-! a clause -/
def qCL (B : Nat → Int) (l : Nat) (nx : Int32) (C : Nat → Int) : Except Int QzU := qz_cl B l ((nx.toInt.toNat, 0), C)
theorem qCL_no (h : BkW B nx (-1)) (h0 : 0 ≤ nx.toInt) (hw : wr.toInt = 1 + 8 * nx.toInt) : QfE (qCL B l nx C) wr := by
  unfold QfE qCL
  rw [show qz_cl B l ((nx.toInt.toNat, 0), C) = .error (pz_er 0 nx.toInt.toNat) from if_pos h]
  congr 1
  unfold pz_er; omega
theorem qCL_bad {k : Int} (h : BkW B nx k) (hk : ¬ k = -1) (hb : 40 ≤ l ∨ ¬ (k = 0 ↔ l = 0) ∨ (k = 2 ∧ 6 ≤ C 3)) (h0 : 0 ≤ nx.toInt) (hw : wr.toInt = 1 + 8 * nx.toInt + 4) : QfE (qCL B l nx C) wr := by
  unfold QfE qCL
  unfold BkW at h
  subst h
  rw [show qz_cl B l ((nx.toInt.toNat, 0), C) = .error (pz_er 4 nx.toInt.toNat) from (if_neg hk).trans (if_pos hb)]
  congr 1
  unfold pz_er; omega
theorem qCL_go {k : Int} (h : BkW B nx k) (hk : ¬ k = -1) (hb : ¬ (40 ≤ l ∨ ¬ (k = 0 ↔ l = 0) ∨ (k = 2 ∧ 6 ≤ C 3))) : qCL B l nx C = qz_k B k C (pNX B nx) := by
  unfold qCL
  unfold BkW at h
  subst h
  exact (if_neg hk).trans (if_neg hb)
theorem qk_k0 (h : BkW B nx 0) (hl : l = 0) : qCL B l nx C = qz_k0 B C (pNX B nx) := by
  rw [qCL_go (l := l) h (by decide) (by rw [hl]; intro z; rcases z with z | z | z; omega; exact z (by simp); omega)]
  exact qz_k_0 rfl
theorem qk_k1 (h : BkW B nx 1) (hl : 1 ≤ l ∧ l < 40) : qCL B l nx C = qz_k1 B C (pNX B nx) := by
  rw [qCL_go (l := l) h (by decide) (by intro z; rcases z with z | z | z; omega; exact z ⟨fun y => by omega, fun y => by omega⟩; omega)]
  exact qz_k_1 rfl
theorem qk_k2 (h : BkW B nx 2) (hl : 1 ≤ l ∧ l < 40) (hb : C 3 < 6) : qCL B l nx C = qz_k2 B C (pNX B nx) := by
  rw [qCL_go (l := l) h (by decide) (by intro z; rcases z with z | z | z; omega; exact z ⟨fun y => by omega, fun y => by omega⟩; omega)]
  exact qz_k_2 rfl
theorem qk_k3 (h : BkW B nx 3) (hl : 1 ≤ l ∧ l < 40) : qCL B l nx C = qz_k3 B C (pNX B nx) := by
  rw [qCL_go (l := l) h (by decide) (by intro z; rcases z with z | z | z; omega; exact z ⟨fun y => by omega, fun y => by omega⟩; omega)]
  exact qz_k_3 (Int.le_refl _)
theorem QfO.eq (e : q = q') (h : QfO q' B wr nx f) : QfO q B wr nx f := e ▸ h
theorem QfE.eq (e : q = q') (h : QfE q' wr) : QfE q wr := e ▸ h
/-- a BOOK that cannot be told, or not so -/
def QoE (B C : Nat → Int) (nx r0 at' wr : Int32) : Prop := (0 < r0.toInt ∧ wr.toInt = 1 + 8 * at'.toInt + 4) ∨ (r0.toInt ≤ 0 ∧ QfE (qz_k0 B C (pNX B nx)) wr)
def QyE (B C : Nat → Int) (nx bn at' wr : Int32) : Prop := (bn.toInt = 6 ∧ wr.toInt = 1 + 8 * at'.toInt + 4) ∨ (¬ bn.toInt = 6 ∧ QfE (qz_k2 B C (pNX B nx)) wr)
/-! all clauses -/
def qCLs (B : Nat → Int) (l : Nat) (nx : Int32) (C : Nat → Int) : Except Int QzU := qz_cl B l ((pz_sk B nx.toInt.toNat, 0), C)
theorem qCLs_at (hs : SkR B nx nx1) : qCLs B l nx C = qCL B l nx1 C := by
  unfold qCLs qCL; rw [hs.nat]
def QaL (B : Nat → Int) (nx ln wr gd : Int32) (f : Nat → Int32) : Prop := (gd.toInt = 1 → ∃ C, wr.toInt = 0 ∧ RdE f C ∧ qz_Ru B = pz_lp (qz_F B) (((pz_sk B nx.toInt.toNat, 0), C), ln.toInt.toNat)) ∧ (gd.toInt = 0 → qz_book B = .error wr.toInt)
def QlR (B : Nat → Int) (l0 n0 : Int32) (C : Nat → Int) (gd wr nx : Int32) (f : Nat → Int32) : Prop := (gd.toInt = 1 → QfO (qCLs B l0.toInt.toNat n0 C) B wr nx f) ∧ (gd.toInt = 0 → QfE (qCLs B l0.toInt.toNat n0 C) wr)
theorem QaL.first {l0 nn gd ln : Int32} (hl : l0.toInt = 0) (hn : nn.toInt = 0) (h : QlR B l0 nn qz_0 gd wr nx f) (hl₀ : gd.toInt = 1 → ln.toInt = 1) : QaL B nx ln wr gd f := by
  have e : qz_Ru B = pz_b (qTG 1 (qCLs B l0.toInt.toNat nn qz_0)) (pz_lp (qz_F B)) := by
    unfold qCLs; rw [hl, hn]; rfl
  refine ⟨fun z => ?_, fun z => ?_⟩
  · obtain ⟨C', h3, h4, h5⟩ := h.1 z
    have h6 := hl₀ z
    refine ⟨C', h4, h5, ?_⟩
    rw [e, h3, show ln.toInt.toNat = 1 by omega]; rfl
  · have h3 := h.2 z
    unfold QfE at h3
    show qEN B (pz_b (qz_Ru B) _) = _
    rw [e, h3]; rfl
theorem QaL.next {ln gd' wr' nx' ln' n1 : Int32} (hB : pz_fi B) (h1 : qz_Ru B = pz_lp (qz_F B) (((pz_sk B nx.toInt.toNat, 0), C), ln.toInt.toNat)) (hs : SkR B nx n1) (h59 : B n1.toInt.toNat = 59) (hx : nx1.toInt = n1.toInt + 1) (hc : QlR B ln nx1 C gd' wr' nx' f') (hl₀ : gd'.toInt = 1 → ln'.toInt = ln.toInt + 1) (hl : 0 ≤ ln.toInt) : QaL B nx' ln' wr' gd' f' := by
  have h0 := hs.1
  have e1 : qz_F B (((pz_sk B nx.toInt.toNat, 0), C), ln.toInt.toNat) = some (pz_b (qCLs B ln.toInt.toNat nx1 C) (fun u => .ok (u, ln.toInt.toNat + 1))) := by
    unfold qz_F
    rw [if_pos (show B (pz_sk B nx.toInt.toNat) = 59 by rw [hs.nat]; exact h59)]
    show some (pz_b (qz_cl B ln.toInt.toNat (pz_nx B (pz_sk B nx.toInt.toNat, 0), C)) _) = _
    rw [show pz_nx B (pz_sk B nx.toInt.toNat, 0) = (pz_sk B nx1.toInt.toNat, 0) by
      show (pz_sk B (pz_te B (pz_sk B nx.toInt.toNat)), 0) = _
      rw [hs.nat, te_br (Or.inr (Or.inr h59)), show nx1.toInt.toNat = n1.toInt.toNat + 1 by omega]]
    rfl
  rw [pz_lp_on (qz_F_pr hB) e1] at h1
  refine ⟨fun z => ?_, fun z => ?_⟩
  · obtain ⟨C', h3, h4, h5⟩ := hc.1 z
    have h6 := hl₀ z
    refine ⟨C', h4, h5, ?_⟩
    rw [h1, h3, show ln'.toInt.toNat = ln.toInt.toNat + 1 by omega]; rfl
  · have h2 := hc.2 z
    unfold QfE at h2
    show qEN B (pz_b (qz_Ru B) _) = _
    rw [h1, h2]; rfl
/-- the book is read: no fault and the cells as told, or the fault -/
def QkM (B : Nat → Int) (wr : Int32) (f : Nat → Int32) : Prop := (wr.toInt = 0 ∧ ∃ u, qz_book B = .ok u ∧ RdE f u.2) ∨ (¬ wr.toInt = 0 ∧ qz_book B = .error wr.toInt)
theorem QaL.end {ln n1 : Int32} (h1 : qz_Ru B = pz_lp (qz_F B) (((pz_sk B nx.toInt.toNat, 0), C), ln.toInt.toNat)) (hs : SkR B nx n1) (h59 : ¬ B n1.toInt.toNat = 59) : qz_book B = qEN B (.ok ((n1.toInt.toNat, 0), C)) := by
  show qEN B (pz_b (qz_Ru B) _) = _
  rw [h1, pz_lp_no (F := qz_F B) (s := (((pz_sk B nx.toInt.toNat, 0), C), ln.toInt.toNat)) (if_neg (by show ¬ B (pz_sk B nx.toInt.toNat) = 59; rw [hs.nat]; exact h59)), hs.nat]
  rfl
theorem QkM.rbad {ln gd : Int32} (h : QaL B nx ln wr gd f) (hg : gd.toInt = 0) (hw : ¬ wr.toInt = 0) : QkM B wr f := Or.inr ⟨hw, h.2 hg⟩
theorem QkM.rend {ln gd n1 : Int32} (h : QaL B nx ln wr gd f) (hg : gd.toInt = 1) (hs : SkR B nx n1) (he : B n1.toInt.toNat = -1) : QkM B wr f := by
  obtain ⟨C', h1, h2, h3⟩ := h.1 hg
  refine Or.inl ⟨h1, ((n1.toInt.toNat, 0), C'), ?_, h2⟩
  rw [QaL.end h3 hs (by omega)]
  show pz_b (pz_end B n1.toInt.toNat) _ = _
  rw [show pz_end B n1.toInt.toNat = .ok n1.toInt.toNat from if_pos he]; rfl
theorem QkM.rmore {ln gd n1 wr' : Int32} (h : QaL B nx ln wr gd f) (hg : gd.toInt = 1) (hs : SkR B nx n1) (h59 : ¬ B n1.toInt.toNat = 59) (he : ¬ B n1.toInt.toNat = -1) (hw : wr'.toInt = 1 + 8 * n1.toInt) : QkM B wr' f := by
  have h0 := hs.1
  obtain ⟨C', h1, h2, h3⟩ := h.1 hg
  refine Or.inr ⟨by omega, ?_⟩
  rw [QaL.end h3 hs h59]
  show pz_b (pz_end B n1.toInt.toNat) _ = _
  rw [show pz_end B n1.toInt.toNat = .error (pz_er 0 n1.toInt.toNat) from if_neg he]
  show Except.error _ = _
  congr 1
  unfold pz_er; omega
theorem QkM.er (h : QkM B wr f) (hw : ¬ wr.toInt = 0) : qz_book B = .error wr.toInt := by
  rcases h with h | h
  · exact absurd h.1 hw
  · exact h.2
theorem QkM.ok (h : QkM B wr f) (hw : wr.toInt = 0) : ∃ u, qz_book B = .ok u ∧ RdE f u.2 := by
  rcases h with h | h
  · exact h.2
  · exact absurd hw h.1
theorem RdE.zero (h : ∀ k : Nat, k < 95 → (f k).toInt = 0) : RdE f qz_0 := fun k hk => h k hk
end QRF
set_option maxHeartbeats 4000000 in
set_option maxRecDepth 100000 in
theorem ct_zX9_hasClock (l : Launch) (D : va_G) (tc : Nat → ClassId) (sk : (Nat → Nat) × (Nat → Nat)) (Aa : Nat → Nat) (Av : Nat → Int32) (Af : Nat → Nat → Int32) (x1 : Int32)  : Ct l yX9_hasClock cX9_hasClock 2 (some .boolean) { frames := 0, cells := 0, slots := 0, locals := 0 } D tc sk [.ref (Aa 0), .int x1] [((Aa 0), .inr (9, [.int (Av 0), .int (Av 1), .int (Av 2), .int (Av 3), .int (Av 4), .int (Av 5), .ref (Aa 1), .ref (Aa 2), .ref (Aa 3), .ref (Aa 4), .ref (Aa 5), .ref (Aa 6), .ref (Aa 7), .ref (Aa 8)])), ((Aa 1), .inl (tc 0, 10, .inl (Af 1))), ((Aa 2), .inl (tc 0, 10, .inl (Af 2))), ((Aa 3), .inl (tc 0, 6, .inl (Af 3))), ((Aa 4), .inl (tc 0, 6, .inl (Af 4))), ((Aa 5), .inl (tc 0, 6, .inl (Af 5))), ((Aa 6), .inl (tc 0, 6, .inl (Af 6))), ((Aa 7), .inl (tc 0, 6, .inl (Af 7))), ((Aa 8), .inl (tc 0, 6, .inl (Af 8)))] (fun (v : Option Value) (_ : Unit) => ∃ r : Int32, v = some (.int r) ∧ (((r.toInt = 0 ∧ ¬ (0 ≤ x1.toInt ∧ x1.toInt < (Av 2).toInt ∧ x1.toInt < 10)) ∨ (r.toInt = 1 ∧ (0 ≤ x1.toInt ∧ x1.toInt < (Av 2).toInt ∧ x1.toInt < 10))))) (fun (_ : Unit) => [((Aa 0), .inr (9, [.int (Av 0), .int (Av 1), .int (Av 2), .int (Av 3), .int (Av 4), .int (Av 5), .ref (Aa 1), .ref (Aa 2), .ref (Aa 3), .ref (Aa 4), .ref (Aa 5), .ref (Aa 6), .ref (Aa 7), .ref (Aa 8)])), ((Aa 1), .inl (tc 0, 10, .inl (Af 1))), ((Aa 2), .inl (tc 0, 10, .inl (Af 2))), ((Aa 3), .inl (tc 0, 6, .inl (Af 3))), ((Aa 4), .inl (tc 0, 6, .inl (Af 4))), ((Aa 5), .inl (tc 0, 6, .inl (Af 5))), ((Aa 6), .inl (tc 0, 6, .inl (Af 6))), ((Aa 7), .inl (tc 0, 6, .inl (Af 7))), ((Aa 8), .inl (tc 0, 6, .inl (Af 8)))]) 0 0 := by
  refine Ct.start (by decide) (Nat.le_of_ble_eq_true rfl) (fun p e s m below meth c A ls hx hb hr hlk hin hml hown hts hK hX hP hD hA hl hS => ?_)
  have hl : lv_has ls 2 [(0, .ref (Aa 0)), (1, .int x1)] := hl
  refine lv_iload_n hx hb dX9_hasClock_0 rfl (lv_at hl 1 rfl) ?_
  refine lv_if_lt (tgt := 22) hx hb dX9_hasClock_1 (by decide) (fun c_1 => ?_) (fun c_1 => ?_)
  · skip
    refine lv_iconst (v := 0) hx hb dX9_hasClock_22 (by decide) ?_
    have hp_2 : (((0 : Int32).toInt = 0 ∧ ¬ (0 ≤ x1.toInt ∧ x1.toInt < (Av 2).toInt ∧ x1.toInt < 10)) ∨ ((0 : Int32).toInt = 1 ∧ (0 ≤ x1.toInt ∧ x1.toInt < (Av 2).toInt ∧ x1.toInt < 10))) := by
      have z_1 := Int32.lt_iff_toInt_lt.mp c_1
      have y_0 : (0 : Int32).toInt = 0 := by decide
      omega
    exact retI (v := 0) hx hb hr hlk (rfl) hP hD hS () ⟨_, rfl, hp_2⟩ [0, 1, 2, 3, 4, 5, 6, 7, 8] rfl rfl dX9_hasClock_23 (Nat.le_of_ble_eq_true rfl) (Nat.le_of_ble_eq_true rfl) rfl
  · skip
    refine lv_iload_n hx hb dX9_hasClock_4 rfl (lv_at hl 1 rfl) ?_
    refine lv_aload_n hx hb dX9_hasClock_5 rfl (lv_at hl 0 rfl) ?_
    refine gf_X9_18 hx hb hts hown hK hP 0 rfl rfl dX9_hasClock_6 ?_
    refine lv_icmp_ge (tgt := 22) hx hb dX9_hasClock_9 (by decide) (fun c_3 => ?_) (fun c_3 => ?_)
    · skip
      refine lv_iconst (v := 0) hx hb dX9_hasClock_22 (by decide) ?_
      have hp_4 : (((0 : Int32).toInt = 0 ∧ ¬ (0 ≤ x1.toInt ∧ x1.toInt < (Av 2).toInt ∧ x1.toInt < 10)) ∨ ((0 : Int32).toInt = 1 ∧ (0 ≤ x1.toInt ∧ x1.toInt < (Av 2).toInt ∧ x1.toInt < 10))) := by
        have z_1 := Int32.le_iff_toInt_le.mp (Int32.not_lt.mp c_1)
        have z_2 := Int32.le_iff_toInt_le.mp c_3
        have y_0 : (0 : Int32).toInt = 0 := by decide
        omega
      exact retI (v := 0) hx hb hr hlk (rfl) hP hD hS () ⟨_, rfl, hp_4⟩ [0, 1, 2, 3, 4, 5, 6, 7, 8] rfl rfl dX9_hasClock_23 (Nat.le_of_ble_eq_true rfl) (Nat.le_of_ble_eq_true rfl) rfl
    · skip
      refine lv_iload_n hx hb dX9_hasClock_12 rfl (lv_at hl 1 rfl) ?_
      refine lv_bipush (v := 10) hx hb dX9_hasClock_13 (by decide) ?_
      refine lv_icmp_ge (tgt := 22) hx hb dX9_hasClock_15 (by decide) (fun c_5 => ?_) (fun c_5 => ?_)
      · skip
        refine lv_iconst (v := 0) hx hb dX9_hasClock_22 (by decide) ?_
        have hp_6 : (((0 : Int32).toInt = 0 ∧ ¬ (0 ≤ x1.toInt ∧ x1.toInt < (Av 2).toInt ∧ x1.toInt < 10)) ∨ ((0 : Int32).toInt = 1 ∧ (0 ≤ x1.toInt ∧ x1.toInt < (Av 2).toInt ∧ x1.toInt < 10))) := by
          have z_1 := Int32.le_iff_toInt_le.mp (Int32.not_lt.mp c_1)
          have z_2 := Int32.lt_iff_toInt_lt.mp (Int32.not_le.mp c_3)
          have z_3 := Int32.le_iff_toInt_le.mp c_5
          have y_0 : (0 : Int32).toInt = 0 := by decide
          have y_10 : (10 : Int32).toInt = 10 := by decide
          omega
        exact retI (v := 0) hx hb hr hlk (rfl) hP hD hS () ⟨_, rfl, hp_6⟩ [0, 1, 2, 3, 4, 5, 6, 7, 8] rfl rfl dX9_hasClock_23 (Nat.le_of_ble_eq_true rfl) (Nat.le_of_ble_eq_true rfl) rfl
      · skip
        refine lv_iconst (v := 1) hx hb dX9_hasClock_18 (by decide) ?_
        refine lv_goto (tgt := 23) hx hb dX9_hasClock_19 (by decide) ?_
        have hp_7 : (((1 : Int32).toInt = 0 ∧ ¬ (0 ≤ x1.toInt ∧ x1.toInt < (Av 2).toInt ∧ x1.toInt < 10)) ∨ ((1 : Int32).toInt = 1 ∧ (0 ≤ x1.toInt ∧ x1.toInt < (Av 2).toInt ∧ x1.toInt < 10))) := by
          have z_1 := Int32.le_iff_toInt_le.mp (Int32.not_lt.mp c_1)
          have z_2 := Int32.lt_iff_toInt_lt.mp (Int32.not_le.mp c_3)
          have z_3 := Int32.lt_iff_toInt_lt.mp (Int32.not_le.mp c_5)
          have y_0 : (0 : Int32).toInt = 0 := by decide
          have y_10 : (10 : Int32).toInt = 10 := by decide
          have y_1 : (1 : Int32).toInt = 1 := by decide
          have yr : (1 : Int32).toInt = 1 := by decide
          omega
        exact retI (v := 1) hx hb hr hlk (rfl) hP hD hS () ⟨_, rfl, hp_7⟩ [0, 1, 2, 3, 4, 5, 6, 7, 8] rfl rfl dX9_hasClock_23 (Nat.le_of_ble_eq_true rfl) (Nat.le_of_ble_eq_true rfl) rfl
set_option maxRecDepth 100000 in
theorem cu_zX9_hasClock (l : Launch) (D : va_G) (tc : Nat → ClassId) (sk : (Nat → Nat) × (Nat → Nat)) (Aa_0 : Nat) (Aa_1 : Nat) (Aa_2 : Nat) (Aa_3 : Nat) (Aa_4 : Nat) (Aa_5 : Nat) (Aa_6 : Nat) (Aa_7 : Nat) (Aa_8 : Nat) (Av_0 : Int32) (Av_1 : Int32) (Av_2 : Int32) (Av_3 : Int32) (Av_4 : Int32) (Av_5 : Int32) (Af_1 : Nat → Int32) (Af_2 : Nat → Int32) (Af_3 : Nat → Int32) (Af_4 : Nat → Int32) (Af_5 : Nat → Int32) (Af_6 : Nat → Int32) (Af_7 : Nat → Int32) (Af_8 : Nat → Int32) (x1 : Int32)  : Ct l yX9_hasClock cX9_hasClock 2 (some .boolean) { frames := 0, cells := 0, slots := 0, locals := 0 } D tc sk [.ref Aa_0, .int x1] [(Aa_0, .inr (9, [.int Av_0, .int Av_1, .int Av_2, .int Av_3, .int Av_4, .int Av_5, .ref Aa_1, .ref Aa_2, .ref Aa_3, .ref Aa_4, .ref Aa_5, .ref Aa_6, .ref Aa_7, .ref Aa_8])), (Aa_1, .inl (tc 0, 10, .inl Af_1)), (Aa_2, .inl (tc 0, 10, .inl Af_2)), (Aa_3, .inl (tc 0, 6, .inl Af_3)), (Aa_4, .inl (tc 0, 6, .inl Af_4)), (Aa_5, .inl (tc 0, 6, .inl Af_5)), (Aa_6, .inl (tc 0, 6, .inl Af_6)), (Aa_7, .inl (tc 0, 6, .inl Af_7)), (Aa_8, .inl (tc 0, 6, .inl Af_8))] (fun (v : Option Value) (_ : Unit) => ∃ r : Int32, v = some (.int r) ∧ (((r.toInt = 0 ∧ ¬ (0 ≤ x1.toInt ∧ x1.toInt < Av_2.toInt ∧ x1.toInt < 10)) ∨ (r.toInt = 1 ∧ (0 ≤ x1.toInt ∧ x1.toInt < Av_2.toInt ∧ x1.toInt < 10))))) (fun (_ : Unit) => [(Aa_0, .inr (9, [.int Av_0, .int Av_1, .int Av_2, .int Av_3, .int Av_4, .int Av_5, .ref Aa_1, .ref Aa_2, .ref Aa_3, .ref Aa_4, .ref Aa_5, .ref Aa_6, .ref Aa_7, .ref Aa_8])), (Aa_1, .inl (tc 0, 10, .inl Af_1)), (Aa_2, .inl (tc 0, 10, .inl Af_2)), (Aa_3, .inl (tc 0, 6, .inl Af_3)), (Aa_4, .inl (tc 0, 6, .inl Af_4)), (Aa_5, .inl (tc 0, 6, .inl Af_5)), (Aa_6, .inl (tc 0, 6, .inl Af_6)), (Aa_7, .inl (tc 0, 6, .inl Af_7)), (Aa_8, .inl (tc 0, 6, .inl Af_8))]) 0 0 :=
  ct_zX9_hasClock l D tc sk (fun k => ([Aa_0, Aa_1, Aa_2, Aa_3, Aa_4, Aa_5, Aa_6, Aa_7, Aa_8] : List (Nat)).getD k 0) (fun k => ([Av_0, Av_1, Av_2, Av_3, Av_4, Av_5] : List (Int32)).getD k 0) (fun k => ([(fun _ => 0), Af_1, Af_2, Af_3, Af_4, Af_5, Af_6, Af_7, Af_8] : List (Nat → Int32)).getD k (fun _ => 0)) x1 
set_option maxHeartbeats 4000000 in
set_option maxRecDepth 100000 in
theorem ct_zX9_hasBuyer (l : Launch) (D : va_G) (tc : Nat → ClassId) (sk : (Nat → Nat) × (Nat → Nat)) (Aa : Nat → Nat) (Av : Nat → Int32) (Af : Nat → Nat → Int32) (x1 : Int32)  : Ct l yX9_hasBuyer cX9_hasBuyer 2 (some .boolean) { frames := 0, cells := 0, slots := 0, locals := 0 } D tc sk [.ref (Aa 0), .int x1] [((Aa 0), .inr (9, [.int (Av 0), .int (Av 1), .int (Av 2), .int (Av 3), .int (Av 4), .int (Av 5), .ref (Aa 1), .ref (Aa 2), .ref (Aa 3), .ref (Aa 4), .ref (Aa 5), .ref (Aa 6), .ref (Aa 7), .ref (Aa 8)])), ((Aa 1), .inl (tc 0, 10, .inl (Af 1))), ((Aa 2), .inl (tc 0, 10, .inl (Af 2))), ((Aa 3), .inl (tc 0, 6, .inl (Af 3))), ((Aa 4), .inl (tc 0, 6, .inl (Af 4))), ((Aa 5), .inl (tc 0, 6, .inl (Af 5))), ((Aa 6), .inl (tc 0, 6, .inl (Af 6))), ((Aa 7), .inl (tc 0, 6, .inl (Af 7))), ((Aa 8), .inl (tc 0, 6, .inl (Af 8)))] (fun (v : Option Value) (_ : Unit) => ∃ r : Int32, v = some (.int r) ∧ (((r.toInt = 0 ∧ ¬ (0 ≤ x1.toInt ∧ x1.toInt < (Av 3).toInt ∧ x1.toInt < 6)) ∨ (r.toInt = 1 ∧ (0 ≤ x1.toInt ∧ x1.toInt < (Av 3).toInt ∧ x1.toInt < 6))))) (fun (_ : Unit) => [((Aa 0), .inr (9, [.int (Av 0), .int (Av 1), .int (Av 2), .int (Av 3), .int (Av 4), .int (Av 5), .ref (Aa 1), .ref (Aa 2), .ref (Aa 3), .ref (Aa 4), .ref (Aa 5), .ref (Aa 6), .ref (Aa 7), .ref (Aa 8)])), ((Aa 1), .inl (tc 0, 10, .inl (Af 1))), ((Aa 2), .inl (tc 0, 10, .inl (Af 2))), ((Aa 3), .inl (tc 0, 6, .inl (Af 3))), ((Aa 4), .inl (tc 0, 6, .inl (Af 4))), ((Aa 5), .inl (tc 0, 6, .inl (Af 5))), ((Aa 6), .inl (tc 0, 6, .inl (Af 6))), ((Aa 7), .inl (tc 0, 6, .inl (Af 7))), ((Aa 8), .inl (tc 0, 6, .inl (Af 8)))]) 0 0 := by
  refine Ct.start (by decide) (Nat.le_of_ble_eq_true rfl) (fun p e s m below meth c A ls hx hb hr hlk hin hml hown hts hK hX hP hD hA hl hS => ?_)
  have hl : lv_has ls 2 [(0, .ref (Aa 0)), (1, .int x1)] := hl
  refine lv_iload_n hx hb dX9_hasBuyer_0 rfl (lv_at hl 1 rfl) ?_
  refine lv_if_lt (tgt := 22) hx hb dX9_hasBuyer_1 (by decide) (fun c_1 => ?_) (fun c_1 => ?_)
  · skip
    refine lv_iconst (v := 0) hx hb dX9_hasBuyer_22 (by decide) ?_
    have hp_2 : (((0 : Int32).toInt = 0 ∧ ¬ (0 ≤ x1.toInt ∧ x1.toInt < (Av 3).toInt ∧ x1.toInt < 6)) ∨ ((0 : Int32).toInt = 1 ∧ (0 ≤ x1.toInt ∧ x1.toInt < (Av 3).toInt ∧ x1.toInt < 6))) := by
      have z_1 := Int32.lt_iff_toInt_lt.mp c_1
      have y_0 : (0 : Int32).toInt = 0 := by decide
      omega
    exact retI (v := 0) hx hb hr hlk (rfl) hP hD hS () ⟨_, rfl, hp_2⟩ [0, 1, 2, 3, 4, 5, 6, 7, 8] rfl rfl dX9_hasBuyer_23 (Nat.le_of_ble_eq_true rfl) (Nat.le_of_ble_eq_true rfl) rfl
  · skip
    refine lv_iload_n hx hb dX9_hasBuyer_4 rfl (lv_at hl 1 rfl) ?_
    refine lv_aload_n hx hb dX9_hasBuyer_5 rfl (lv_at hl 0 rfl) ?_
    refine gf_X9_21 hx hb hts hown hK hP 0 rfl rfl dX9_hasBuyer_6 ?_
    refine lv_icmp_ge (tgt := 22) hx hb dX9_hasBuyer_9 (by decide) (fun c_3 => ?_) (fun c_3 => ?_)
    · skip
      refine lv_iconst (v := 0) hx hb dX9_hasBuyer_22 (by decide) ?_
      have hp_4 : (((0 : Int32).toInt = 0 ∧ ¬ (0 ≤ x1.toInt ∧ x1.toInt < (Av 3).toInt ∧ x1.toInt < 6)) ∨ ((0 : Int32).toInt = 1 ∧ (0 ≤ x1.toInt ∧ x1.toInt < (Av 3).toInt ∧ x1.toInt < 6))) := by
        have z_1 := Int32.le_iff_toInt_le.mp (Int32.not_lt.mp c_1)
        have z_2 := Int32.le_iff_toInt_le.mp c_3
        have y_0 : (0 : Int32).toInt = 0 := by decide
        omega
      exact retI (v := 0) hx hb hr hlk (rfl) hP hD hS () ⟨_, rfl, hp_4⟩ [0, 1, 2, 3, 4, 5, 6, 7, 8] rfl rfl dX9_hasBuyer_23 (Nat.le_of_ble_eq_true rfl) (Nat.le_of_ble_eq_true rfl) rfl
    · skip
      refine lv_iload_n hx hb dX9_hasBuyer_12 rfl (lv_at hl 1 rfl) ?_
      refine lv_bipush (v := 6) hx hb dX9_hasBuyer_13 (by decide) ?_
      refine lv_icmp_ge (tgt := 22) hx hb dX9_hasBuyer_15 (by decide) (fun c_5 => ?_) (fun c_5 => ?_)
      · skip
        refine lv_iconst (v := 0) hx hb dX9_hasBuyer_22 (by decide) ?_
        have hp_6 : (((0 : Int32).toInt = 0 ∧ ¬ (0 ≤ x1.toInt ∧ x1.toInt < (Av 3).toInt ∧ x1.toInt < 6)) ∨ ((0 : Int32).toInt = 1 ∧ (0 ≤ x1.toInt ∧ x1.toInt < (Av 3).toInt ∧ x1.toInt < 6))) := by
          have z_1 := Int32.le_iff_toInt_le.mp (Int32.not_lt.mp c_1)
          have z_2 := Int32.lt_iff_toInt_lt.mp (Int32.not_le.mp c_3)
          have z_3 := Int32.le_iff_toInt_le.mp c_5
          have y_0 : (0 : Int32).toInt = 0 := by decide
          have y_6 : (6 : Int32).toInt = 6 := by decide
          omega
        exact retI (v := 0) hx hb hr hlk (rfl) hP hD hS () ⟨_, rfl, hp_6⟩ [0, 1, 2, 3, 4, 5, 6, 7, 8] rfl rfl dX9_hasBuyer_23 (Nat.le_of_ble_eq_true rfl) (Nat.le_of_ble_eq_true rfl) rfl
      · skip
        refine lv_iconst (v := 1) hx hb dX9_hasBuyer_18 (by decide) ?_
        refine lv_goto (tgt := 23) hx hb dX9_hasBuyer_19 (by decide) ?_
        have hp_7 : (((1 : Int32).toInt = 0 ∧ ¬ (0 ≤ x1.toInt ∧ x1.toInt < (Av 3).toInt ∧ x1.toInt < 6)) ∨ ((1 : Int32).toInt = 1 ∧ (0 ≤ x1.toInt ∧ x1.toInt < (Av 3).toInt ∧ x1.toInt < 6))) := by
          have z_1 := Int32.le_iff_toInt_le.mp (Int32.not_lt.mp c_1)
          have z_2 := Int32.lt_iff_toInt_lt.mp (Int32.not_le.mp c_3)
          have z_3 := Int32.lt_iff_toInt_lt.mp (Int32.not_le.mp c_5)
          have y_0 : (0 : Int32).toInt = 0 := by decide
          have y_6 : (6 : Int32).toInt = 6 := by decide
          have y_1 : (1 : Int32).toInt = 1 := by decide
          have yr : (1 : Int32).toInt = 1 := by decide
          omega
        exact retI (v := 1) hx hb hr hlk (rfl) hP hD hS () ⟨_, rfl, hp_7⟩ [0, 1, 2, 3, 4, 5, 6, 7, 8] rfl rfl dX9_hasBuyer_23 (Nat.le_of_ble_eq_true rfl) (Nat.le_of_ble_eq_true rfl) rfl
set_option maxRecDepth 100000 in
theorem cu_zX9_hasBuyer (l : Launch) (D : va_G) (tc : Nat → ClassId) (sk : (Nat → Nat) × (Nat → Nat)) (Aa_0 : Nat) (Aa_1 : Nat) (Aa_2 : Nat) (Aa_3 : Nat) (Aa_4 : Nat) (Aa_5 : Nat) (Aa_6 : Nat) (Aa_7 : Nat) (Aa_8 : Nat) (Av_0 : Int32) (Av_1 : Int32) (Av_2 : Int32) (Av_3 : Int32) (Av_4 : Int32) (Av_5 : Int32) (Af_1 : Nat → Int32) (Af_2 : Nat → Int32) (Af_3 : Nat → Int32) (Af_4 : Nat → Int32) (Af_5 : Nat → Int32) (Af_6 : Nat → Int32) (Af_7 : Nat → Int32) (Af_8 : Nat → Int32) (x1 : Int32)  : Ct l yX9_hasBuyer cX9_hasBuyer 2 (some .boolean) { frames := 0, cells := 0, slots := 0, locals := 0 } D tc sk [.ref Aa_0, .int x1] [(Aa_0, .inr (9, [.int Av_0, .int Av_1, .int Av_2, .int Av_3, .int Av_4, .int Av_5, .ref Aa_1, .ref Aa_2, .ref Aa_3, .ref Aa_4, .ref Aa_5, .ref Aa_6, .ref Aa_7, .ref Aa_8])), (Aa_1, .inl (tc 0, 10, .inl Af_1)), (Aa_2, .inl (tc 0, 10, .inl Af_2)), (Aa_3, .inl (tc 0, 6, .inl Af_3)), (Aa_4, .inl (tc 0, 6, .inl Af_4)), (Aa_5, .inl (tc 0, 6, .inl Af_5)), (Aa_6, .inl (tc 0, 6, .inl Af_6)), (Aa_7, .inl (tc 0, 6, .inl Af_7)), (Aa_8, .inl (tc 0, 6, .inl Af_8))] (fun (v : Option Value) (_ : Unit) => ∃ r : Int32, v = some (.int r) ∧ (((r.toInt = 0 ∧ ¬ (0 ≤ x1.toInt ∧ x1.toInt < Av_3.toInt ∧ x1.toInt < 6)) ∨ (r.toInt = 1 ∧ (0 ≤ x1.toInt ∧ x1.toInt < Av_3.toInt ∧ x1.toInt < 6))))) (fun (_ : Unit) => [(Aa_0, .inr (9, [.int Av_0, .int Av_1, .int Av_2, .int Av_3, .int Av_4, .int Av_5, .ref Aa_1, .ref Aa_2, .ref Aa_3, .ref Aa_4, .ref Aa_5, .ref Aa_6, .ref Aa_7, .ref Aa_8])), (Aa_1, .inl (tc 0, 10, .inl Af_1)), (Aa_2, .inl (tc 0, 10, .inl Af_2)), (Aa_3, .inl (tc 0, 6, .inl Af_3)), (Aa_4, .inl (tc 0, 6, .inl Af_4)), (Aa_5, .inl (tc 0, 6, .inl Af_5)), (Aa_6, .inl (tc 0, 6, .inl Af_6)), (Aa_7, .inl (tc 0, 6, .inl Af_7)), (Aa_8, .inl (tc 0, 6, .inl Af_8))]) 0 0 :=
  ct_zX9_hasBuyer l D tc sk (fun k => ([Aa_0, Aa_1, Aa_2, Aa_3, Aa_4, Aa_5, Aa_6, Aa_7, Aa_8] : List (Nat)).getD k 0) (fun k => ([Av_0, Av_1, Av_2, Av_3, Av_4, Av_5] : List (Int32)).getD k 0) (fun k => ([(fun _ => 0), Af_1, Af_2, Af_3, Af_4, Af_5, Af_6, Af_7, Af_8] : List (Nat → Int32)).getD k (fun _ => 0)) x1 
set_option maxHeartbeats 4000000 in
set_option maxRecDepth 100000 in
theorem ct_zX9_clear (l : Launch) (D : va_G) (tc : Nat → ClassId) (sk : (Nat → Nat) × (Nat → Nat)) (Aa : Nat → Nat) (Av : Nat → Int32) (Af : Nat → Nat → Int32)  : Ct l yX9_clear cX9_clear 2 none { frames := 0, cells := 0, slots := 0, locals := 0 } D tc sk [.ref (Aa 0)] [((Aa 0), .inr (9, [.int (Av 0), .int (Av 1), .int (Av 2), .int (Av 3), .int (Av 4), .int (Av 5), .ref (Aa 1), .ref (Aa 2), .ref (Aa 3), .ref (Aa 4), .ref (Aa 5), .ref (Aa 6), .ref (Aa 7), .ref (Aa 8)])), ((Aa 1), .inl (tc 0, 10, .inl (Af 1))), ((Aa 2), .inl (tc 0, 10, .inl (Af 2))), ((Aa 3), .inl (tc 0, 6, .inl (Af 3))), ((Aa 4), .inl (tc 0, 6, .inl (Af 4))), ((Aa 5), .inl (tc 0, 6, .inl (Af 5))), ((Aa 6), .inl (tc 0, 6, .inl (Af 6))), ((Aa 7), .inl (tc 0, 6, .inl (Af 7))), ((Aa 8), .inl (tc 0, 6, .inl (Af 8)))] (fun (v : Option Value) (u : (Nat → Int32) × (Nat → Int32) × (Nat → Int32) × (Nat → Int32) × (Nat → Int32) × (Nat → Int32) × (Nat → Int32) × (Nat → Int32)) => match u with | (oo0x1, oo0x2, oo0x3, oo0x4, oo0x5, oo0x6, oo0x7, oo0x8) => v = none ∧ (ShC 0 0 0 0 0 0 oo0x1 oo0x2 oo0x3 oo0x4 oo0x5 oo0x6 oo0x7 oo0x8 qz_0)) (fun (u : (Nat → Int32) × (Nat → Int32) × (Nat → Int32) × (Nat → Int32) × (Nat → Int32) × (Nat → Int32) × (Nat → Int32) × (Nat → Int32)) => match u with | (oo0x1, oo0x2, oo0x3, oo0x4, oo0x5, oo0x6, oo0x7, oo0x8) => [((Aa 0), .inr (9, [.int 0, .int 0, .int 0, .int 0, .int 0, .int 0, .ref (Aa 1), .ref (Aa 2), .ref (Aa 3), .ref (Aa 4), .ref (Aa 5), .ref (Aa 6), .ref (Aa 7), .ref (Aa 8)])), ((Aa 1), .inl (tc 0, 10, .inl oo0x1)), ((Aa 2), .inl (tc 0, 10, .inl oo0x2)), ((Aa 3), .inl (tc 0, 6, .inl oo0x3)), ((Aa 4), .inl (tc 0, 6, .inl oo0x4)), ((Aa 5), .inl (tc 0, 6, .inl oo0x5)), ((Aa 6), .inl (tc 0, 6, .inl oo0x6)), ((Aa 7), .inl (tc 0, 6, .inl oo0x7)), ((Aa 8), .inl (tc 0, 6, .inl oo0x8))]) 0 0 := by
  refine Ct.start (by decide) (Nat.le_of_ble_eq_true rfl) (fun p e s m below meth c A ls hx hb hr hlk hin hml hown hts hK hX hP hD hA hl hS => ?_)
  have hl : lv_has ls 2 [(0, .ref (Aa 0))] := hl
  refine lv_aload_n hx hb dX9_clear_0 rfl (lv_at hl 0 rfl) ?_
  refine lv_iconst (v := 0) hx hb dX9_clear_1 (by decide) ?_
  refine pf_X9_9 hx hb hts hown hK hP hD hS 0 rfl (Nat.le_of_ble_eq_true rfl) rfl rfl dX9_clear_2 (fun H locs hP₀ hD₀ hS₀ => ?_)
  replace hP : va_P D classes [((Aa 0), .inr (9, [.int 0, .int (Av 1), .int (Av 2), .int (Av 3), .int (Av 4), .int (Av 5), .ref (Aa 1), .ref (Aa 2), .ref (Aa 3), .ref (Aa 4), .ref (Aa 5), .ref (Aa 6), .ref (Aa 7), .ref (Aa 8)])), ((Aa 1), .inl (tc 0, 10, .inl (Af 1))), ((Aa 2), .inl (tc 0, 10, .inl (Af 2))), ((Aa 3), .inl (tc 0, 6, .inl (Af 3))), ((Aa 4), .inl (tc 0, 6, .inl (Af 4))), ((Aa 5), .inl (tc 0, 6, .inl (Af 5))), ((Aa 6), .inl (tc 0, 6, .inl (Af 6))), ((Aa 7), .inl (tc 0, 6, .inl (Af 7))), ((Aa 8), .inl (tc 0, 6, .inl (Af 8)))] H := hP₀
  replace hD : va_D A [((Aa 0), .inr (9, [.int 0, .int (Av 1), .int (Av 2), .int (Av 3), .int (Av 4), .int (Av 5), .ref (Aa 1), .ref (Aa 2), .ref (Aa 3), .ref (Aa 4), .ref (Aa 5), .ref (Aa 6), .ref (Aa 7), .ref (Aa 8)])), ((Aa 1), .inl (tc 0, 10, .inl (Af 1))), ((Aa 2), .inl (tc 0, 10, .inl (Af 2))), ((Aa 3), .inl (tc 0, 6, .inl (Af 3))), ((Aa 4), .inl (tc 0, 6, .inl (Af 4))), ((Aa 5), .inl (tc 0, 6, .inl (Af 5))), ((Aa 6), .inl (tc 0, 6, .inl (Af 6))), ((Aa 7), .inl (tc 0, 6, .inl (Af 7))), ((Aa 8), .inl (tc 0, 6, .inl (Af 8)))] := hD₀
  replace hS := hS₀
  clear hP₀ hD₀ hS₀
  refine lv_aload_n hx hb dX9_clear_5 rfl (lv_at hl 0 rfl) ?_
  refine lv_iconst (v := 0) hx hb dX9_clear_6 (by decide) ?_
  refine pf_X9_15 hx hb hts hown hK hP hD hS 0 rfl (Nat.le_of_ble_eq_true rfl) rfl rfl dX9_clear_7 (fun H locs hP₀ hD₀ hS₀ => ?_)
  replace hP : va_P D classes [((Aa 0), .inr (9, [.int 0, .int 0, .int (Av 2), .int (Av 3), .int (Av 4), .int (Av 5), .ref (Aa 1), .ref (Aa 2), .ref (Aa 3), .ref (Aa 4), .ref (Aa 5), .ref (Aa 6), .ref (Aa 7), .ref (Aa 8)])), ((Aa 1), .inl (tc 0, 10, .inl (Af 1))), ((Aa 2), .inl (tc 0, 10, .inl (Af 2))), ((Aa 3), .inl (tc 0, 6, .inl (Af 3))), ((Aa 4), .inl (tc 0, 6, .inl (Af 4))), ((Aa 5), .inl (tc 0, 6, .inl (Af 5))), ((Aa 6), .inl (tc 0, 6, .inl (Af 6))), ((Aa 7), .inl (tc 0, 6, .inl (Af 7))), ((Aa 8), .inl (tc 0, 6, .inl (Af 8)))] H := hP₀
  replace hD : va_D A [((Aa 0), .inr (9, [.int 0, .int 0, .int (Av 2), .int (Av 3), .int (Av 4), .int (Av 5), .ref (Aa 1), .ref (Aa 2), .ref (Aa 3), .ref (Aa 4), .ref (Aa 5), .ref (Aa 6), .ref (Aa 7), .ref (Aa 8)])), ((Aa 1), .inl (tc 0, 10, .inl (Af 1))), ((Aa 2), .inl (tc 0, 10, .inl (Af 2))), ((Aa 3), .inl (tc 0, 6, .inl (Af 3))), ((Aa 4), .inl (tc 0, 6, .inl (Af 4))), ((Aa 5), .inl (tc 0, 6, .inl (Af 5))), ((Aa 6), .inl (tc 0, 6, .inl (Af 6))), ((Aa 7), .inl (tc 0, 6, .inl (Af 7))), ((Aa 8), .inl (tc 0, 6, .inl (Af 8)))] := hD₀
  replace hS := hS₀
  clear hP₀ hD₀ hS₀
  refine lv_aload_n hx hb dX9_clear_10 rfl (lv_at hl 0 rfl) ?_
  refine lv_iconst (v := 0) hx hb dX9_clear_11 (by decide) ?_
  refine pf_X9_18 hx hb hts hown hK hP hD hS 0 rfl (Nat.le_of_ble_eq_true rfl) rfl rfl dX9_clear_12 (fun H locs hP₀ hD₀ hS₀ => ?_)
  replace hP : va_P D classes [((Aa 0), .inr (9, [.int 0, .int 0, .int 0, .int (Av 3), .int (Av 4), .int (Av 5), .ref (Aa 1), .ref (Aa 2), .ref (Aa 3), .ref (Aa 4), .ref (Aa 5), .ref (Aa 6), .ref (Aa 7), .ref (Aa 8)])), ((Aa 1), .inl (tc 0, 10, .inl (Af 1))), ((Aa 2), .inl (tc 0, 10, .inl (Af 2))), ((Aa 3), .inl (tc 0, 6, .inl (Af 3))), ((Aa 4), .inl (tc 0, 6, .inl (Af 4))), ((Aa 5), .inl (tc 0, 6, .inl (Af 5))), ((Aa 6), .inl (tc 0, 6, .inl (Af 6))), ((Aa 7), .inl (tc 0, 6, .inl (Af 7))), ((Aa 8), .inl (tc 0, 6, .inl (Af 8)))] H := hP₀
  replace hD : va_D A [((Aa 0), .inr (9, [.int 0, .int 0, .int 0, .int (Av 3), .int (Av 4), .int (Av 5), .ref (Aa 1), .ref (Aa 2), .ref (Aa 3), .ref (Aa 4), .ref (Aa 5), .ref (Aa 6), .ref (Aa 7), .ref (Aa 8)])), ((Aa 1), .inl (tc 0, 10, .inl (Af 1))), ((Aa 2), .inl (tc 0, 10, .inl (Af 2))), ((Aa 3), .inl (tc 0, 6, .inl (Af 3))), ((Aa 4), .inl (tc 0, 6, .inl (Af 4))), ((Aa 5), .inl (tc 0, 6, .inl (Af 5))), ((Aa 6), .inl (tc 0, 6, .inl (Af 6))), ((Aa 7), .inl (tc 0, 6, .inl (Af 7))), ((Aa 8), .inl (tc 0, 6, .inl (Af 8)))] := hD₀
  replace hS := hS₀
  clear hP₀ hD₀ hS₀
  refine lv_aload_n hx hb dX9_clear_15 rfl (lv_at hl 0 rfl) ?_
  refine lv_iconst (v := 0) hx hb dX9_clear_16 (by decide) ?_
  refine pf_X9_21 hx hb hts hown hK hP hD hS 0 rfl (Nat.le_of_ble_eq_true rfl) rfl rfl dX9_clear_17 (fun H locs hP₀ hD₀ hS₀ => ?_)
  replace hP : va_P D classes [((Aa 0), .inr (9, [.int 0, .int 0, .int 0, .int 0, .int (Av 4), .int (Av 5), .ref (Aa 1), .ref (Aa 2), .ref (Aa 3), .ref (Aa 4), .ref (Aa 5), .ref (Aa 6), .ref (Aa 7), .ref (Aa 8)])), ((Aa 1), .inl (tc 0, 10, .inl (Af 1))), ((Aa 2), .inl (tc 0, 10, .inl (Af 2))), ((Aa 3), .inl (tc 0, 6, .inl (Af 3))), ((Aa 4), .inl (tc 0, 6, .inl (Af 4))), ((Aa 5), .inl (tc 0, 6, .inl (Af 5))), ((Aa 6), .inl (tc 0, 6, .inl (Af 6))), ((Aa 7), .inl (tc 0, 6, .inl (Af 7))), ((Aa 8), .inl (tc 0, 6, .inl (Af 8)))] H := hP₀
  replace hD : va_D A [((Aa 0), .inr (9, [.int 0, .int 0, .int 0, .int 0, .int (Av 4), .int (Av 5), .ref (Aa 1), .ref (Aa 2), .ref (Aa 3), .ref (Aa 4), .ref (Aa 5), .ref (Aa 6), .ref (Aa 7), .ref (Aa 8)])), ((Aa 1), .inl (tc 0, 10, .inl (Af 1))), ((Aa 2), .inl (tc 0, 10, .inl (Af 2))), ((Aa 3), .inl (tc 0, 6, .inl (Af 3))), ((Aa 4), .inl (tc 0, 6, .inl (Af 4))), ((Aa 5), .inl (tc 0, 6, .inl (Af 5))), ((Aa 6), .inl (tc 0, 6, .inl (Af 6))), ((Aa 7), .inl (tc 0, 6, .inl (Af 7))), ((Aa 8), .inl (tc 0, 6, .inl (Af 8)))] := hD₀
  replace hS := hS₀
  clear hP₀ hD₀ hS₀
  refine lv_aload_n hx hb dX9_clear_20 rfl (lv_at hl 0 rfl) ?_
  refine lv_iconst (v := 0) hx hb dX9_clear_21 (by decide) ?_
  refine pf_X9_24 hx hb hts hown hK hP hD hS 0 rfl (Nat.le_of_ble_eq_true rfl) rfl rfl dX9_clear_22 (fun H locs hP₀ hD₀ hS₀ => ?_)
  replace hP : va_P D classes [((Aa 0), .inr (9, [.int 0, .int 0, .int 0, .int 0, .int 0, .int (Av 5), .ref (Aa 1), .ref (Aa 2), .ref (Aa 3), .ref (Aa 4), .ref (Aa 5), .ref (Aa 6), .ref (Aa 7), .ref (Aa 8)])), ((Aa 1), .inl (tc 0, 10, .inl (Af 1))), ((Aa 2), .inl (tc 0, 10, .inl (Af 2))), ((Aa 3), .inl (tc 0, 6, .inl (Af 3))), ((Aa 4), .inl (tc 0, 6, .inl (Af 4))), ((Aa 5), .inl (tc 0, 6, .inl (Af 5))), ((Aa 6), .inl (tc 0, 6, .inl (Af 6))), ((Aa 7), .inl (tc 0, 6, .inl (Af 7))), ((Aa 8), .inl (tc 0, 6, .inl (Af 8)))] H := hP₀
  replace hD : va_D A [((Aa 0), .inr (9, [.int 0, .int 0, .int 0, .int 0, .int 0, .int (Av 5), .ref (Aa 1), .ref (Aa 2), .ref (Aa 3), .ref (Aa 4), .ref (Aa 5), .ref (Aa 6), .ref (Aa 7), .ref (Aa 8)])), ((Aa 1), .inl (tc 0, 10, .inl (Af 1))), ((Aa 2), .inl (tc 0, 10, .inl (Af 2))), ((Aa 3), .inl (tc 0, 6, .inl (Af 3))), ((Aa 4), .inl (tc 0, 6, .inl (Af 4))), ((Aa 5), .inl (tc 0, 6, .inl (Af 5))), ((Aa 6), .inl (tc 0, 6, .inl (Af 6))), ((Aa 7), .inl (tc 0, 6, .inl (Af 7))), ((Aa 8), .inl (tc 0, 6, .inl (Af 8)))] := hD₀
  replace hS := hS₀
  clear hP₀ hD₀ hS₀
  refine lv_aload_n hx hb dX9_clear_25 rfl (lv_at hl 0 rfl) ?_
  refine lv_iconst (v := 0) hx hb dX9_clear_26 (by decide) ?_
  refine pf_X9_27 hx hb hts hown hK hP hD hS 0 rfl (Nat.le_of_ble_eq_true rfl) rfl rfl dX9_clear_27 (fun H locs hP₀ hD₀ hS₀ => ?_)
  replace hP : va_P D classes [((Aa 0), .inr (9, [.int 0, .int 0, .int 0, .int 0, .int 0, .int 0, .ref (Aa 1), .ref (Aa 2), .ref (Aa 3), .ref (Aa 4), .ref (Aa 5), .ref (Aa 6), .ref (Aa 7), .ref (Aa 8)])), ((Aa 1), .inl (tc 0, 10, .inl (Af 1))), ((Aa 2), .inl (tc 0, 10, .inl (Af 2))), ((Aa 3), .inl (tc 0, 6, .inl (Af 3))), ((Aa 4), .inl (tc 0, 6, .inl (Af 4))), ((Aa 5), .inl (tc 0, 6, .inl (Af 5))), ((Aa 6), .inl (tc 0, 6, .inl (Af 6))), ((Aa 7), .inl (tc 0, 6, .inl (Af 7))), ((Aa 8), .inl (tc 0, 6, .inl (Af 8)))] H := hP₀
  replace hD : va_D A [((Aa 0), .inr (9, [.int 0, .int 0, .int 0, .int 0, .int 0, .int 0, .ref (Aa 1), .ref (Aa 2), .ref (Aa 3), .ref (Aa 4), .ref (Aa 5), .ref (Aa 6), .ref (Aa 7), .ref (Aa 8)])), ((Aa 1), .inl (tc 0, 10, .inl (Af 1))), ((Aa 2), .inl (tc 0, 10, .inl (Af 2))), ((Aa 3), .inl (tc 0, 6, .inl (Af 3))), ((Aa 4), .inl (tc 0, 6, .inl (Af 4))), ((Aa 5), .inl (tc 0, 6, .inl (Af 5))), ((Aa 6), .inl (tc 0, 6, .inl (Af 6))), ((Aa 7), .inl (tc 0, 6, .inl (Af 7))), ((Aa 8), .inl (tc 0, 6, .inl (Af 8)))] := hD₀
  replace hS := hS₀
  clear hP₀ hD₀ hS₀
  refine lv_iconst (v := 0) hx hb dX9_clear_30 (by decide) ?_
  refine lv_istore_n (lv' := [(1, .int 0), (0, .ref (Aa 0))]) hx hb dX9_clear_31 rfl hl (by decide) rfl (fun ls hl₀ => ?_)
  replace hl := hl₀
  clear hl₀
  have loop_9 : ∀ (n_7 : Nat) (vy_4 : Int32) (vy_5 : Nat → Int32) (vy_6 : Nat → Int32) (H : Heap) (locs : List Loc) (ls : Array Slot), (10 - (vy_4 : Int32).toInt).toNat < n_7 → (0 ≤ (vy_4 : Int32).toInt) → (Clr1 vy_5 vy_6 vy_4) → va_P D classes [((Aa 0), .inr (9, [.int 0, .int 0, .int 0, .int 0, .int 0, .int 0, .ref (Aa 1), .ref (Aa 2), .ref (Aa 3), .ref (Aa 4), .ref (Aa 5), .ref (Aa 6), .ref (Aa 7), .ref (Aa 8)])), ((Aa 1), .inl (tc 0, 10, .inl vy_5)), ((Aa 2), .inl (tc 0, 10, .inl vy_6)), ((Aa 3), .inl (tc 0, 6, .inl (Af 3))), ((Aa 4), .inl (tc 0, 6, .inl (Af 4))), ((Aa 5), .inl (tc 0, 6, .inl (Af 5))), ((Aa 6), .inl (tc 0, 6, .inl (Af 6))), ((Aa 7), .inl (tc 0, 6, .inl (Af 7))), ((Aa 8), .inl (tc 0, 6, .inl (Af 8)))] H → va_D A [((Aa 0), .inr (9, [.int 0, .int 0, .int 0, .int 0, .int 0, .int 0, .ref (Aa 1), .ref (Aa 2), .ref (Aa 3), .ref (Aa 4), .ref (Aa 5), .ref (Aa 6), .ref (Aa 7), .ref (Aa 8)])), ((Aa 1), .inl (tc 0, 10, .inl vy_5)), ((Aa 2), .inl (tc 0, 10, .inl vy_6)), ((Aa 3), .inl (tc 0, 6, .inl (Af 3))), ((Aa 4), .inl (tc 0, 6, .inl (Af 4))), ((Aa 5), .inl (tc 0, 6, .inl (Af 5))), ((Aa 6), .inl (tc 0, 6, .inl (Af 6))), ((Aa 7), .inl (tc 0, 6, .inl (Af 7))), ((Aa 8), .inl (tc 0, 6, .inl (Af 8)))] → va_S A s.heap H locs → lv_has ls 2 [(1, .int vy_4), (0, .ref (Aa 0))] → W p l e ({ frames := 0, cells := 0, slots := 0, locals := 0 }) s m ([.ref (Aa 0)].toArray) below meth c H locs 0 0 (MQ below (QW (fun (v : Option Value) (u : (Nat → Int32) × (Nat → Int32) × (Nat → Int32) × (Nat → Int32) × (Nat → Int32) × (Nat → Int32) × (Nat → Int32) × (Nat → Int32)) => match u with | (oo0x1, oo0x2, oo0x3, oo0x4, oo0x5, oo0x6, oo0x7, oo0x8) => v = none ∧ (ShC 0 0 0 0 0 0 oo0x1 oo0x2 oo0x3 oo0x4 oo0x5 oo0x6 oo0x7 oo0x8 qz_0)) (BW D (fun (u : (Nat → Int32) × (Nat → Int32) × (Nat → Int32) × (Nat → Int32) × (Nat → Int32) × (Nat → Int32) × (Nat → Int32) × (Nat → Int32)) => match u with | (oo0x1, oo0x2, oo0x3, oo0x4, oo0x5, oo0x6, oo0x7, oo0x8) => [((Aa 0), .inr (9, [.int 0, .int 0, .int 0, .int 0, .int 0, .int 0, .ref (Aa 1), .ref (Aa 2), .ref (Aa 3), .ref (Aa 4), .ref (Aa 5), .ref (Aa 6), .ref (Aa 7), .ref (Aa 8)])), ((Aa 1), .inl (tc 0, 10, .inl oo0x1)), ((Aa 2), .inl (tc 0, 10, .inl oo0x2)), ((Aa 3), .inl (tc 0, 6, .inl oo0x3)), ((Aa 4), .inl (tc 0, 6, .inl oo0x4)), ((Aa 5), .inl (tc 0, 6, .inl oo0x5)), ((Aa 6), .inl (tc 0, 6, .inl oo0x6)), ((Aa 7), .inl (tc 0, 6, .inl oo0x7)), ((Aa 8), .inl (tc 0, 6, .inl oo0x8))]) A) A) ([.ref (Aa 0)].toArray) s 0 0 A) (F0 m 32 ls []) := by
    clear hP hD hS hl
    intro n_7
    induction n_7 with
    | zero =>
      intro vy_4 vy_5 vy_6 H locs ls h1
      exact absurd h1 (Nat.not_lt_zero _)
    | succ n_7 ih_8 =>
      intro vy_4 vy_5 vy_6 H locs ls hn_12 pf_10 pf_11 hP hD hS hl
      refine lv_iload_n hx hb dX9_clear_32 rfl (lv_at hl 0 rfl) ?_
      refine lv_bipush (v := 10) hx hb dX9_clear_33 (by decide) ?_
      refine lv_icmp_ge (tgt := 58) hx hb dX9_clear_35 (by decide) (fun c_13 => ?_) (fun c_13 => ?_)
      · skip
        refine lv_iconst (v := 0) hx hb dX9_clear_58 (by decide) ?_
        refine lv_istore_n (lv' := [(1, .int 0), (0, .ref (Aa 0))]) hx hb dX9_clear_59 rfl hl (by decide) rfl (fun ls hl₀ => ?_)
        replace hl := hl₀
        clear hl₀
        have loop_30 : ∀ (n_28 : Nat) (vy_21 : Int32) (vy_22 : Nat → Int32) (vy_23 : Nat → Int32) (vy_24 : Nat → Int32) (vy_25 : Nat → Int32) (vy_26 : Nat → Int32) (vy_27 : Nat → Int32) (H : Heap) (locs : List Loc) (ls : Array Slot), (6 - (vy_21 : Int32).toInt).toNat < n_28 → (0 ≤ (vy_21 : Int32).toInt) → (Clr2 vy_22 vy_23 vy_24 vy_25 vy_26 vy_27 vy_21) → va_P D classes [((Aa 0), .inr (9, [.int 0, .int 0, .int 0, .int 0, .int 0, .int 0, .ref (Aa 1), .ref (Aa 2), .ref (Aa 3), .ref (Aa 4), .ref (Aa 5), .ref (Aa 6), .ref (Aa 7), .ref (Aa 8)])), ((Aa 1), .inl (tc 0, 10, .inl vy_5)), ((Aa 2), .inl (tc 0, 10, .inl vy_6)), ((Aa 3), .inl (tc 0, 6, .inl vy_22)), ((Aa 4), .inl (tc 0, 6, .inl vy_23)), ((Aa 5), .inl (tc 0, 6, .inl vy_24)), ((Aa 6), .inl (tc 0, 6, .inl vy_25)), ((Aa 7), .inl (tc 0, 6, .inl vy_26)), ((Aa 8), .inl (tc 0, 6, .inl vy_27))] H → va_D A [((Aa 0), .inr (9, [.int 0, .int 0, .int 0, .int 0, .int 0, .int 0, .ref (Aa 1), .ref (Aa 2), .ref (Aa 3), .ref (Aa 4), .ref (Aa 5), .ref (Aa 6), .ref (Aa 7), .ref (Aa 8)])), ((Aa 1), .inl (tc 0, 10, .inl vy_5)), ((Aa 2), .inl (tc 0, 10, .inl vy_6)), ((Aa 3), .inl (tc 0, 6, .inl vy_22)), ((Aa 4), .inl (tc 0, 6, .inl vy_23)), ((Aa 5), .inl (tc 0, 6, .inl vy_24)), ((Aa 6), .inl (tc 0, 6, .inl vy_25)), ((Aa 7), .inl (tc 0, 6, .inl vy_26)), ((Aa 8), .inl (tc 0, 6, .inl vy_27))] → va_S A s.heap H locs → lv_has ls 2 [(1, .int vy_21), (0, .ref (Aa 0))] → W p l e ({ frames := 0, cells := 0, slots := 0, locals := 0 }) s m ([.ref (Aa 0)].toArray) below meth c H locs 0 0 (MQ below (QW (fun (v : Option Value) (u : (Nat → Int32) × (Nat → Int32) × (Nat → Int32) × (Nat → Int32) × (Nat → Int32) × (Nat → Int32) × (Nat → Int32) × (Nat → Int32)) => match u with | (oo0x1, oo0x2, oo0x3, oo0x4, oo0x5, oo0x6, oo0x7, oo0x8) => v = none ∧ (ShC 0 0 0 0 0 0 oo0x1 oo0x2 oo0x3 oo0x4 oo0x5 oo0x6 oo0x7 oo0x8 qz_0)) (BW D (fun (u : (Nat → Int32) × (Nat → Int32) × (Nat → Int32) × (Nat → Int32) × (Nat → Int32) × (Nat → Int32) × (Nat → Int32) × (Nat → Int32)) => match u with | (oo0x1, oo0x2, oo0x3, oo0x4, oo0x5, oo0x6, oo0x7, oo0x8) => [((Aa 0), .inr (9, [.int 0, .int 0, .int 0, .int 0, .int 0, .int 0, .ref (Aa 1), .ref (Aa 2), .ref (Aa 3), .ref (Aa 4), .ref (Aa 5), .ref (Aa 6), .ref (Aa 7), .ref (Aa 8)])), ((Aa 1), .inl (tc 0, 10, .inl oo0x1)), ((Aa 2), .inl (tc 0, 10, .inl oo0x2)), ((Aa 3), .inl (tc 0, 6, .inl oo0x3)), ((Aa 4), .inl (tc 0, 6, .inl oo0x4)), ((Aa 5), .inl (tc 0, 6, .inl oo0x5)), ((Aa 6), .inl (tc 0, 6, .inl oo0x6)), ((Aa 7), .inl (tc 0, 6, .inl oo0x7)), ((Aa 8), .inl (tc 0, 6, .inl oo0x8))]) A) A) ([.ref (Aa 0)].toArray) s 0 0 A) (F0 m 60 ls []) := by
          clear hP hD hS hl
          intro n_28
          induction n_28 with
          | zero =>
            intro vy_21 vy_22 vy_23 vy_24 vy_25 vy_26 vy_27 H locs ls h1
            exact absurd h1 (Nat.not_lt_zero _)
          | succ n_28 ih_29 =>
            intro vy_21 vy_22 vy_23 vy_24 vy_25 vy_26 vy_27 H locs ls hn_33 pf_31 pf_32 hP hD hS hl
            refine lv_iload_n hx hb dX9_clear_60 rfl (lv_at hl 0 rfl) ?_
            refine lv_bipush (v := 6) hx hb dX9_clear_61 (by decide) ?_
            refine lv_icmp_ge (tgt := 114) hx hb dX9_clear_63 (by decide) (fun c_34 => ?_) (fun c_34 => ?_)
            · skip
              have hr_35 : 10 ≤ (vy_4 : Int32).toInt := by
                have z_1 := Int32.le_iff_toInt_le.mp c_13
                have z_2 := Int32.le_iff_toInt_le.mp c_34
                have y_6 : (6 : Int32).toInt = 6 := by decide
                have y_10 : (10 : Int32).toInt = 10 := by decide
                omega
              have hr_36 : 6 ≤ (vy_21 : Int32).toInt := by
                have z_1 := Int32.le_iff_toInt_le.mp c_13
                have z_2 := Int32.le_iff_toInt_le.mp c_34
                have y_6 : (6 : Int32).toInt = 6 := by decide
                have y_10 : (10 : Int32).toInt = 10 := by decide
                omega
              exact retV hx hb hr hlk hP hD hS (vy_5, vy_6, vy_22, vy_23, vy_24, vy_25, vy_26, vy_27) ⟨rfl, (ShC.clear pf_11 pf_32 hr_35 hr_36)⟩ [0, 1, 2, 3, 4, 5, 6, 7, 8] rfl rfl dX9_clear_114 (Nat.le_of_ble_eq_true rfl) (Nat.le_of_ble_eq_true rfl) rfl
            · skip
              refine lv_aload_n hx hb dX9_clear_66 rfl (lv_at hl 1 rfl) ?_
              refine gf_X9_37 hx hb hts hown hK hP 0 rfl rfl dX9_clear_67 ?_
              refine lv_iload_n hx hb dX9_clear_70 rfl (lv_at hl 0 rfl) ?_
              refine lv_iconst (v := 0) hx hb dX9_clear_71 (by decide) ?_
              have hi_37 : vp_in vy_21 6 := by
                have z_1 := Int32.le_iff_toInt_le.mp c_13
                have z_2 := Int32.lt_iff_toInt_lt.mp (Int32.not_le.mp c_34)
                have y_6 : (6 : Int32).toInt = 6 := by decide
                have y_10 : (10 : Int32).toInt = 10 := by decide
                refine vp_in_iff.mpr ⟨?_, ?_⟩ <;> omega
              refine st_int hx hb hK hP hD hS 3 0 rfl rfl hi_37 dX9_clear_72 (fun g_38 H locs eg_38 hP₀ hD₀ hS₀ => ?_)
              replace hP : va_P D classes [((Aa 0), .inr (9, [.int 0, .int 0, .int 0, .int 0, .int 0, .int 0, .ref (Aa 1), .ref (Aa 2), .ref (Aa 3), .ref (Aa 4), .ref (Aa 5), .ref (Aa 6), .ref (Aa 7), .ref (Aa 8)])), ((Aa 1), .inl (tc 0, 10, .inl vy_5)), ((Aa 2), .inl (tc 0, 10, .inl vy_6)), ((Aa 3), .inl (tc 0, 6, .inl g_38)), ((Aa 4), .inl (tc 0, 6, .inl vy_23)), ((Aa 5), .inl (tc 0, 6, .inl vy_24)), ((Aa 6), .inl (tc 0, 6, .inl vy_25)), ((Aa 7), .inl (tc 0, 6, .inl vy_26)), ((Aa 8), .inl (tc 0, 6, .inl vy_27))] H := hP₀
              replace hD : va_D A [((Aa 0), .inr (9, [.int 0, .int 0, .int 0, .int 0, .int 0, .int 0, .ref (Aa 1), .ref (Aa 2), .ref (Aa 3), .ref (Aa 4), .ref (Aa 5), .ref (Aa 6), .ref (Aa 7), .ref (Aa 8)])), ((Aa 1), .inl (tc 0, 10, .inl vy_5)), ((Aa 2), .inl (tc 0, 10, .inl vy_6)), ((Aa 3), .inl (tc 0, 6, .inl g_38)), ((Aa 4), .inl (tc 0, 6, .inl vy_23)), ((Aa 5), .inl (tc 0, 6, .inl vy_24)), ((Aa 6), .inl (tc 0, 6, .inl vy_25)), ((Aa 7), .inl (tc 0, 6, .inl vy_26)), ((Aa 8), .inl (tc 0, 6, .inl vy_27))] := hD₀
              replace hS := hS₀
              clear hP₀ hD₀ hS₀
              refine lv_aload_n hx hb dX9_clear_73 rfl (lv_at hl 1 rfl) ?_
              refine gf_X9_40 hx hb hts hown hK hP 0 rfl rfl dX9_clear_74 ?_
              refine lv_iload_n hx hb dX9_clear_77 rfl (lv_at hl 0 rfl) ?_
              refine lv_iconst (v := 0) hx hb dX9_clear_78 (by decide) ?_
              have hi_39 : vp_in vy_21 6 := by
                have z_1 := Int32.le_iff_toInt_le.mp c_13
                have z_2 := Int32.lt_iff_toInt_lt.mp (Int32.not_le.mp c_34)
                have y_6 : (6 : Int32).toInt = 6 := by decide
                have y_10 : (10 : Int32).toInt = 10 := by decide
                refine vp_in_iff.mpr ⟨?_, ?_⟩ <;> omega
              refine st_int hx hb hK hP hD hS 4 0 rfl rfl hi_39 dX9_clear_79 (fun g_40 H locs eg_40 hP₀ hD₀ hS₀ => ?_)
              replace hP : va_P D classes [((Aa 0), .inr (9, [.int 0, .int 0, .int 0, .int 0, .int 0, .int 0, .ref (Aa 1), .ref (Aa 2), .ref (Aa 3), .ref (Aa 4), .ref (Aa 5), .ref (Aa 6), .ref (Aa 7), .ref (Aa 8)])), ((Aa 1), .inl (tc 0, 10, .inl vy_5)), ((Aa 2), .inl (tc 0, 10, .inl vy_6)), ((Aa 3), .inl (tc 0, 6, .inl g_38)), ((Aa 4), .inl (tc 0, 6, .inl g_40)), ((Aa 5), .inl (tc 0, 6, .inl vy_24)), ((Aa 6), .inl (tc 0, 6, .inl vy_25)), ((Aa 7), .inl (tc 0, 6, .inl vy_26)), ((Aa 8), .inl (tc 0, 6, .inl vy_27))] H := hP₀
              replace hD : va_D A [((Aa 0), .inr (9, [.int 0, .int 0, .int 0, .int 0, .int 0, .int 0, .ref (Aa 1), .ref (Aa 2), .ref (Aa 3), .ref (Aa 4), .ref (Aa 5), .ref (Aa 6), .ref (Aa 7), .ref (Aa 8)])), ((Aa 1), .inl (tc 0, 10, .inl vy_5)), ((Aa 2), .inl (tc 0, 10, .inl vy_6)), ((Aa 3), .inl (tc 0, 6, .inl g_38)), ((Aa 4), .inl (tc 0, 6, .inl g_40)), ((Aa 5), .inl (tc 0, 6, .inl vy_24)), ((Aa 6), .inl (tc 0, 6, .inl vy_25)), ((Aa 7), .inl (tc 0, 6, .inl vy_26)), ((Aa 8), .inl (tc 0, 6, .inl vy_27))] := hD₀
              replace hS := hS₀
              clear hP₀ hD₀ hS₀
              refine lv_aload_n hx hb dX9_clear_80 rfl (lv_at hl 1 rfl) ?_
              refine gf_X9_43 hx hb hts hown hK hP 0 rfl rfl dX9_clear_81 ?_
              refine lv_iload_n hx hb dX9_clear_84 rfl (lv_at hl 0 rfl) ?_
              refine lv_iconst (v := 0) hx hb dX9_clear_85 (by decide) ?_
              have hi_41 : vp_in vy_21 6 := by
                have z_1 := Int32.le_iff_toInt_le.mp c_13
                have z_2 := Int32.lt_iff_toInt_lt.mp (Int32.not_le.mp c_34)
                have y_6 : (6 : Int32).toInt = 6 := by decide
                have y_10 : (10 : Int32).toInt = 10 := by decide
                refine vp_in_iff.mpr ⟨?_, ?_⟩ <;> omega
              refine st_int hx hb hK hP hD hS 5 0 rfl rfl hi_41 dX9_clear_86 (fun g_42 H locs eg_42 hP₀ hD₀ hS₀ => ?_)
              replace hP : va_P D classes [((Aa 0), .inr (9, [.int 0, .int 0, .int 0, .int 0, .int 0, .int 0, .ref (Aa 1), .ref (Aa 2), .ref (Aa 3), .ref (Aa 4), .ref (Aa 5), .ref (Aa 6), .ref (Aa 7), .ref (Aa 8)])), ((Aa 1), .inl (tc 0, 10, .inl vy_5)), ((Aa 2), .inl (tc 0, 10, .inl vy_6)), ((Aa 3), .inl (tc 0, 6, .inl g_38)), ((Aa 4), .inl (tc 0, 6, .inl g_40)), ((Aa 5), .inl (tc 0, 6, .inl g_42)), ((Aa 6), .inl (tc 0, 6, .inl vy_25)), ((Aa 7), .inl (tc 0, 6, .inl vy_26)), ((Aa 8), .inl (tc 0, 6, .inl vy_27))] H := hP₀
              replace hD : va_D A [((Aa 0), .inr (9, [.int 0, .int 0, .int 0, .int 0, .int 0, .int 0, .ref (Aa 1), .ref (Aa 2), .ref (Aa 3), .ref (Aa 4), .ref (Aa 5), .ref (Aa 6), .ref (Aa 7), .ref (Aa 8)])), ((Aa 1), .inl (tc 0, 10, .inl vy_5)), ((Aa 2), .inl (tc 0, 10, .inl vy_6)), ((Aa 3), .inl (tc 0, 6, .inl g_38)), ((Aa 4), .inl (tc 0, 6, .inl g_40)), ((Aa 5), .inl (tc 0, 6, .inl g_42)), ((Aa 6), .inl (tc 0, 6, .inl vy_25)), ((Aa 7), .inl (tc 0, 6, .inl vy_26)), ((Aa 8), .inl (tc 0, 6, .inl vy_27))] := hD₀
              replace hS := hS₀
              clear hP₀ hD₀ hS₀
              refine lv_aload_n hx hb dX9_clear_87 rfl (lv_at hl 1 rfl) ?_
              refine gf_X9_46 hx hb hts hown hK hP 0 rfl rfl dX9_clear_88 ?_
              refine lv_iload_n hx hb dX9_clear_91 rfl (lv_at hl 0 rfl) ?_
              refine lv_iconst (v := 0) hx hb dX9_clear_92 (by decide) ?_
              have hi_43 : vp_in vy_21 6 := by
                have z_1 := Int32.le_iff_toInt_le.mp c_13
                have z_2 := Int32.lt_iff_toInt_lt.mp (Int32.not_le.mp c_34)
                have y_6 : (6 : Int32).toInt = 6 := by decide
                have y_10 : (10 : Int32).toInt = 10 := by decide
                refine vp_in_iff.mpr ⟨?_, ?_⟩ <;> omega
              refine st_int hx hb hK hP hD hS 6 0 rfl rfl hi_43 dX9_clear_93 (fun g_44 H locs eg_44 hP₀ hD₀ hS₀ => ?_)
              replace hP : va_P D classes [((Aa 0), .inr (9, [.int 0, .int 0, .int 0, .int 0, .int 0, .int 0, .ref (Aa 1), .ref (Aa 2), .ref (Aa 3), .ref (Aa 4), .ref (Aa 5), .ref (Aa 6), .ref (Aa 7), .ref (Aa 8)])), ((Aa 1), .inl (tc 0, 10, .inl vy_5)), ((Aa 2), .inl (tc 0, 10, .inl vy_6)), ((Aa 3), .inl (tc 0, 6, .inl g_38)), ((Aa 4), .inl (tc 0, 6, .inl g_40)), ((Aa 5), .inl (tc 0, 6, .inl g_42)), ((Aa 6), .inl (tc 0, 6, .inl g_44)), ((Aa 7), .inl (tc 0, 6, .inl vy_26)), ((Aa 8), .inl (tc 0, 6, .inl vy_27))] H := hP₀
              replace hD : va_D A [((Aa 0), .inr (9, [.int 0, .int 0, .int 0, .int 0, .int 0, .int 0, .ref (Aa 1), .ref (Aa 2), .ref (Aa 3), .ref (Aa 4), .ref (Aa 5), .ref (Aa 6), .ref (Aa 7), .ref (Aa 8)])), ((Aa 1), .inl (tc 0, 10, .inl vy_5)), ((Aa 2), .inl (tc 0, 10, .inl vy_6)), ((Aa 3), .inl (tc 0, 6, .inl g_38)), ((Aa 4), .inl (tc 0, 6, .inl g_40)), ((Aa 5), .inl (tc 0, 6, .inl g_42)), ((Aa 6), .inl (tc 0, 6, .inl g_44)), ((Aa 7), .inl (tc 0, 6, .inl vy_26)), ((Aa 8), .inl (tc 0, 6, .inl vy_27))] := hD₀
              replace hS := hS₀
              clear hP₀ hD₀ hS₀
              refine lv_aload_n hx hb dX9_clear_94 rfl (lv_at hl 1 rfl) ?_
              refine gf_X9_49 hx hb hts hown hK hP 0 rfl rfl dX9_clear_95 ?_
              refine lv_iload_n hx hb dX9_clear_98 rfl (lv_at hl 0 rfl) ?_
              refine lv_iconst (v := 0) hx hb dX9_clear_99 (by decide) ?_
              have hi_45 : vp_in vy_21 6 := by
                have z_1 := Int32.le_iff_toInt_le.mp c_13
                have z_2 := Int32.lt_iff_toInt_lt.mp (Int32.not_le.mp c_34)
                have y_6 : (6 : Int32).toInt = 6 := by decide
                have y_10 : (10 : Int32).toInt = 10 := by decide
                refine vp_in_iff.mpr ⟨?_, ?_⟩ <;> omega
              refine st_int hx hb hK hP hD hS 7 0 rfl rfl hi_45 dX9_clear_100 (fun g_46 H locs eg_46 hP₀ hD₀ hS₀ => ?_)
              replace hP : va_P D classes [((Aa 0), .inr (9, [.int 0, .int 0, .int 0, .int 0, .int 0, .int 0, .ref (Aa 1), .ref (Aa 2), .ref (Aa 3), .ref (Aa 4), .ref (Aa 5), .ref (Aa 6), .ref (Aa 7), .ref (Aa 8)])), ((Aa 1), .inl (tc 0, 10, .inl vy_5)), ((Aa 2), .inl (tc 0, 10, .inl vy_6)), ((Aa 3), .inl (tc 0, 6, .inl g_38)), ((Aa 4), .inl (tc 0, 6, .inl g_40)), ((Aa 5), .inl (tc 0, 6, .inl g_42)), ((Aa 6), .inl (tc 0, 6, .inl g_44)), ((Aa 7), .inl (tc 0, 6, .inl g_46)), ((Aa 8), .inl (tc 0, 6, .inl vy_27))] H := hP₀
              replace hD : va_D A [((Aa 0), .inr (9, [.int 0, .int 0, .int 0, .int 0, .int 0, .int 0, .ref (Aa 1), .ref (Aa 2), .ref (Aa 3), .ref (Aa 4), .ref (Aa 5), .ref (Aa 6), .ref (Aa 7), .ref (Aa 8)])), ((Aa 1), .inl (tc 0, 10, .inl vy_5)), ((Aa 2), .inl (tc 0, 10, .inl vy_6)), ((Aa 3), .inl (tc 0, 6, .inl g_38)), ((Aa 4), .inl (tc 0, 6, .inl g_40)), ((Aa 5), .inl (tc 0, 6, .inl g_42)), ((Aa 6), .inl (tc 0, 6, .inl g_44)), ((Aa 7), .inl (tc 0, 6, .inl g_46)), ((Aa 8), .inl (tc 0, 6, .inl vy_27))] := hD₀
              replace hS := hS₀
              clear hP₀ hD₀ hS₀
              refine lv_aload_n hx hb dX9_clear_101 rfl (lv_at hl 1 rfl) ?_
              refine gf_X9_52 hx hb hts hown hK hP 0 rfl rfl dX9_clear_102 ?_
              refine lv_iload_n hx hb dX9_clear_105 rfl (lv_at hl 0 rfl) ?_
              refine lv_iconst (v := (-1)) hx hb dX9_clear_106 (by decide) ?_
              have hi_47 : vp_in vy_21 6 := by
                have z_1 := Int32.le_iff_toInt_le.mp c_13
                have z_2 := Int32.lt_iff_toInt_lt.mp (Int32.not_le.mp c_34)
                have y_6 : (6 : Int32).toInt = 6 := by decide
                have y_10 : (10 : Int32).toInt = 10 := by decide
                refine vp_in_iff.mpr ⟨?_, ?_⟩ <;> omega
              refine st_int hx hb hK hP hD hS 8 0 rfl rfl hi_47 dX9_clear_107 (fun g_48 H locs eg_48 hP₀ hD₀ hS₀ => ?_)
              replace hP : va_P D classes [((Aa 0), .inr (9, [.int 0, .int 0, .int 0, .int 0, .int 0, .int 0, .ref (Aa 1), .ref (Aa 2), .ref (Aa 3), .ref (Aa 4), .ref (Aa 5), .ref (Aa 6), .ref (Aa 7), .ref (Aa 8)])), ((Aa 1), .inl (tc 0, 10, .inl vy_5)), ((Aa 2), .inl (tc 0, 10, .inl vy_6)), ((Aa 3), .inl (tc 0, 6, .inl g_38)), ((Aa 4), .inl (tc 0, 6, .inl g_40)), ((Aa 5), .inl (tc 0, 6, .inl g_42)), ((Aa 6), .inl (tc 0, 6, .inl g_44)), ((Aa 7), .inl (tc 0, 6, .inl g_46)), ((Aa 8), .inl (tc 0, 6, .inl g_48))] H := hP₀
              replace hD : va_D A [((Aa 0), .inr (9, [.int 0, .int 0, .int 0, .int 0, .int 0, .int 0, .ref (Aa 1), .ref (Aa 2), .ref (Aa 3), .ref (Aa 4), .ref (Aa 5), .ref (Aa 6), .ref (Aa 7), .ref (Aa 8)])), ((Aa 1), .inl (tc 0, 10, .inl vy_5)), ((Aa 2), .inl (tc 0, 10, .inl vy_6)), ((Aa 3), .inl (tc 0, 6, .inl g_38)), ((Aa 4), .inl (tc 0, 6, .inl g_40)), ((Aa 5), .inl (tc 0, 6, .inl g_42)), ((Aa 6), .inl (tc 0, 6, .inl g_44)), ((Aa 7), .inl (tc 0, 6, .inl g_46)), ((Aa 8), .inl (tc 0, 6, .inl g_48))] := hD₀
              replace hS := hS₀
              clear hP₀ hD₀ hS₀
              obtain ⟨x_49, ex_49⟩ : ∃ y : Int32, y = vy_21 + 1 := ⟨_, rfl⟩
              refine lv_iinc (v := x_49) (lv' := [(1, .int x_49), (0, .ref (Aa 0))]) hx hb dX9_clear_108 hl (k := 0) rfl (by rw [ex_49]; rfl) (by decide) rfl (fun ls hl₀ => ?_)
              replace hl := hl₀
              clear hl₀
              refine lv_goto (tgt := 60) hx hb dX9_clear_111 (by decide) ?_
              have hb_50 : 6 - (x_49 : Int32).toInt < 6 - (vy_21 : Int32).toInt ∧ 1 ≤ 6 - (vy_21 : Int32).toInt := by
                have z_1 := Int32.le_iff_toInt_le.mp c_13
                have z_2 := Int32.lt_iff_toInt_lt.mp (Int32.not_le.mp c_34)
                have y_6 : (6 : Int32).toInt = 6 := by decide
                have y_10 : (10 : Int32).toInt = 10 := by decide
                have y_1 : (1 : Int32).toInt = 1 := by decide
                have t_x_49 : x_49.toInt = (vy_21 : Int32).toInt + (1 : Int32).toInt := by rw [ex_49]; exact add_toInt (by omega) (by omega)
                omega
              have ha_51 : 0 ≤ (x_49 : Int32).toInt := by
                have z_1 := Int32.le_iff_toInt_le.mp c_13
                have z_2 := Int32.lt_iff_toInt_lt.mp (Int32.not_le.mp c_34)
                have y_6 : (6 : Int32).toInt = 6 := by decide
                have y_10 : (10 : Int32).toInt = 10 := by decide
                have y_1 : (1 : Int32).toInt = 1 := by decide
                have t_x_49 : x_49.toInt = (vy_21 : Int32).toInt + (1 : Int32).toInt := by rw [ex_49]; exact add_toInt (by omega) (by omega)
                omega
              have hr_52 : 0 ≤ (vy_21 : Int32).toInt := by
                have z_1 := Int32.le_iff_toInt_le.mp c_13
                have z_2 := Int32.lt_iff_toInt_lt.mp (Int32.not_le.mp c_34)
                have y_6 : (6 : Int32).toInt = 6 := by decide
                have y_10 : (10 : Int32).toInt = 10 := by decide
                omega
              have hi_53 : (x_49 : Int32).toInt = (vy_21 : Int32).toInt + 1 := by
                have z_1 := Int32.le_iff_toInt_le.mp c_13
                have z_2 := Int32.lt_iff_toInt_lt.mp (Int32.not_le.mp c_34)
                have y_6 : (6 : Int32).toInt = 6 := by decide
                have y_10 : (10 : Int32).toInt = 10 := by decide
                have y_1 : (1 : Int32).toInt = 1 := by decide
                have t_x_49 : x_49.toInt = (vy_21 : Int32).toInt + (1 : Int32).toInt := by rw [ex_49]; exact add_toInt (by omega) (by omega)
                omega
              exact ih_29 x_49 g_38 g_40 g_42 g_44 g_46 g_48 _ _ _ (by omega) ha_51 (Clr2.step pf_32 hr_52 eg_38 eg_40 eg_42 eg_44 eg_46 eg_48 hi_53) (hP.sub [0, 1, 2, 3, 4, 5, 6, 7, 8] rfl) (hD.sub [0, 1, 2, 3, 4, 5, 6, 7, 8] rfl rfl) hS (lv_sub hl [0, 1] rfl)
        have ha_54 : 0 ≤ (0 : Int32).toInt := by
          have z_1 := Int32.le_iff_toInt_le.mp c_13
          have y_10 : (10 : Int32).toInt = 10 := by decide
          have y_0 : (0 : Int32).toInt = 0 := by decide
          omega
        have hr_55 : (0 : Int32).toInt = 0 := by
          have z_1 := Int32.le_iff_toInt_le.mp c_13
          have y_10 : (10 : Int32).toInt = 10 := by decide
          have y_0 : (0 : Int32).toInt = 0 := by decide
          omega
        exact loop_30 _ 0 (Af 3) (Af 4) (Af 5) (Af 6) (Af 7) (Af 8) _ _ _ (Nat.lt_succ_self _) ha_54 (Clr2.nil hr_55) hP hD hS hl
      · skip
        refine lv_aload_n hx hb dX9_clear_38 rfl (lv_at hl 1 rfl) ?_
        refine gf_X9_30 hx hb hts hown hK hP 0 rfl rfl dX9_clear_39 ?_
        refine lv_iload_n hx hb dX9_clear_42 rfl (lv_at hl 0 rfl) ?_
        refine lv_iconst (v := 0) hx hb dX9_clear_43 (by decide) ?_
        have hi_56 : vp_in vy_4 10 := by
          have z_1 := Int32.lt_iff_toInt_lt.mp (Int32.not_le.mp c_13)
          have y_10 : (10 : Int32).toInt = 10 := by decide
          refine vp_in_iff.mpr ⟨?_, ?_⟩ <;> omega
        refine st_int hx hb hK hP hD hS 1 0 rfl rfl hi_56 dX9_clear_44 (fun g_57 H locs eg_57 hP₀ hD₀ hS₀ => ?_)
        replace hP : va_P D classes [((Aa 0), .inr (9, [.int 0, .int 0, .int 0, .int 0, .int 0, .int 0, .ref (Aa 1), .ref (Aa 2), .ref (Aa 3), .ref (Aa 4), .ref (Aa 5), .ref (Aa 6), .ref (Aa 7), .ref (Aa 8)])), ((Aa 1), .inl (tc 0, 10, .inl g_57)), ((Aa 2), .inl (tc 0, 10, .inl vy_6)), ((Aa 3), .inl (tc 0, 6, .inl (Af 3))), ((Aa 4), .inl (tc 0, 6, .inl (Af 4))), ((Aa 5), .inl (tc 0, 6, .inl (Af 5))), ((Aa 6), .inl (tc 0, 6, .inl (Af 6))), ((Aa 7), .inl (tc 0, 6, .inl (Af 7))), ((Aa 8), .inl (tc 0, 6, .inl (Af 8)))] H := hP₀
        replace hD : va_D A [((Aa 0), .inr (9, [.int 0, .int 0, .int 0, .int 0, .int 0, .int 0, .ref (Aa 1), .ref (Aa 2), .ref (Aa 3), .ref (Aa 4), .ref (Aa 5), .ref (Aa 6), .ref (Aa 7), .ref (Aa 8)])), ((Aa 1), .inl (tc 0, 10, .inl g_57)), ((Aa 2), .inl (tc 0, 10, .inl vy_6)), ((Aa 3), .inl (tc 0, 6, .inl (Af 3))), ((Aa 4), .inl (tc 0, 6, .inl (Af 4))), ((Aa 5), .inl (tc 0, 6, .inl (Af 5))), ((Aa 6), .inl (tc 0, 6, .inl (Af 6))), ((Aa 7), .inl (tc 0, 6, .inl (Af 7))), ((Aa 8), .inl (tc 0, 6, .inl (Af 8)))] := hD₀
        replace hS := hS₀
        clear hP₀ hD₀ hS₀
        refine lv_aload_n hx hb dX9_clear_45 rfl (lv_at hl 1 rfl) ?_
        refine gf_X9_34 hx hb hts hown hK hP 0 rfl rfl dX9_clear_46 ?_
        refine lv_iload_n hx hb dX9_clear_49 rfl (lv_at hl 0 rfl) ?_
        refine lv_iconst (v := 0) hx hb dX9_clear_50 (by decide) ?_
        have hi_58 : vp_in vy_4 10 := by
          have z_1 := Int32.lt_iff_toInt_lt.mp (Int32.not_le.mp c_13)
          have y_10 : (10 : Int32).toInt = 10 := by decide
          refine vp_in_iff.mpr ⟨?_, ?_⟩ <;> omega
        refine st_int hx hb hK hP hD hS 2 0 rfl rfl hi_58 dX9_clear_51 (fun g_59 H locs eg_59 hP₀ hD₀ hS₀ => ?_)
        replace hP : va_P D classes [((Aa 0), .inr (9, [.int 0, .int 0, .int 0, .int 0, .int 0, .int 0, .ref (Aa 1), .ref (Aa 2), .ref (Aa 3), .ref (Aa 4), .ref (Aa 5), .ref (Aa 6), .ref (Aa 7), .ref (Aa 8)])), ((Aa 1), .inl (tc 0, 10, .inl g_57)), ((Aa 2), .inl (tc 0, 10, .inl g_59)), ((Aa 3), .inl (tc 0, 6, .inl (Af 3))), ((Aa 4), .inl (tc 0, 6, .inl (Af 4))), ((Aa 5), .inl (tc 0, 6, .inl (Af 5))), ((Aa 6), .inl (tc 0, 6, .inl (Af 6))), ((Aa 7), .inl (tc 0, 6, .inl (Af 7))), ((Aa 8), .inl (tc 0, 6, .inl (Af 8)))] H := hP₀
        replace hD : va_D A [((Aa 0), .inr (9, [.int 0, .int 0, .int 0, .int 0, .int 0, .int 0, .ref (Aa 1), .ref (Aa 2), .ref (Aa 3), .ref (Aa 4), .ref (Aa 5), .ref (Aa 6), .ref (Aa 7), .ref (Aa 8)])), ((Aa 1), .inl (tc 0, 10, .inl g_57)), ((Aa 2), .inl (tc 0, 10, .inl g_59)), ((Aa 3), .inl (tc 0, 6, .inl (Af 3))), ((Aa 4), .inl (tc 0, 6, .inl (Af 4))), ((Aa 5), .inl (tc 0, 6, .inl (Af 5))), ((Aa 6), .inl (tc 0, 6, .inl (Af 6))), ((Aa 7), .inl (tc 0, 6, .inl (Af 7))), ((Aa 8), .inl (tc 0, 6, .inl (Af 8)))] := hD₀
        replace hS := hS₀
        clear hP₀ hD₀ hS₀
        obtain ⟨x_60, ex_60⟩ : ∃ y : Int32, y = vy_4 + 1 := ⟨_, rfl⟩
        refine lv_iinc (v := x_60) (lv' := [(1, .int x_60), (0, .ref (Aa 0))]) hx hb dX9_clear_52 hl (k := 0) rfl (by rw [ex_60]; rfl) (by decide) rfl (fun ls hl₀ => ?_)
        replace hl := hl₀
        clear hl₀
        refine lv_goto (tgt := 32) hx hb dX9_clear_55 (by decide) ?_
        have hb_61 : 10 - (x_60 : Int32).toInt < 10 - (vy_4 : Int32).toInt ∧ 1 ≤ 10 - (vy_4 : Int32).toInt := by
          have z_1 := Int32.lt_iff_toInt_lt.mp (Int32.not_le.mp c_13)
          have y_10 : (10 : Int32).toInt = 10 := by decide
          have y_1 : (1 : Int32).toInt = 1 := by decide
          have t_x_60 : x_60.toInt = (vy_4 : Int32).toInt + (1 : Int32).toInt := by rw [ex_60]; exact add_toInt (by omega) (by omega)
          omega
        have ha_62 : 0 ≤ (x_60 : Int32).toInt := by
          have z_1 := Int32.lt_iff_toInt_lt.mp (Int32.not_le.mp c_13)
          have y_10 : (10 : Int32).toInt = 10 := by decide
          have y_1 : (1 : Int32).toInt = 1 := by decide
          have t_x_60 : x_60.toInt = (vy_4 : Int32).toInt + (1 : Int32).toInt := by rw [ex_60]; exact add_toInt (by omega) (by omega)
          omega
        have hr_63 : 0 ≤ (vy_4 : Int32).toInt := by
          have z_1 := Int32.lt_iff_toInt_lt.mp (Int32.not_le.mp c_13)
          have y_10 : (10 : Int32).toInt = 10 := by decide
          omega
        have hi_64 : (x_60 : Int32).toInt = (vy_4 : Int32).toInt + 1 := by
          have z_1 := Int32.lt_iff_toInt_lt.mp (Int32.not_le.mp c_13)
          have y_10 : (10 : Int32).toInt = 10 := by decide
          have y_1 : (1 : Int32).toInt = 1 := by decide
          have t_x_60 : x_60.toInt = (vy_4 : Int32).toInt + (1 : Int32).toInt := by rw [ex_60]; exact add_toInt (by omega) (by omega)
          omega
        exact ih_8 x_60 g_57 g_59 _ _ _ (by omega) ha_62 (Clr1.step pf_11 hr_63 eg_57 eg_59 hi_64) (hP.sub [0, 1, 2, 3, 4, 5, 6, 7, 8] rfl) (hD.sub [0, 1, 2, 3, 4, 5, 6, 7, 8] rfl rfl) hS (lv_sub hl [0, 1] rfl)
  have ha_65 : 0 ≤ (0 : Int32).toInt := by
    have y_0 : (0 : Int32).toInt = 0 := by decide
    omega
  have hr_66 : (0 : Int32).toInt = 0 := by
    have y_0 : (0 : Int32).toInt = 0 := by decide
    omega
  exact loop_9 _ 0 (Af 1) (Af 2) _ _ _ (Nat.lt_succ_self _) ha_65 (Clr1.nil hr_66) hP hD hS hl
set_option maxRecDepth 100000 in
theorem cu_zX9_clear (l : Launch) (D : va_G) (tc : Nat → ClassId) (sk : (Nat → Nat) × (Nat → Nat)) (Aa_0 : Nat) (Aa_1 : Nat) (Aa_2 : Nat) (Aa_3 : Nat) (Aa_4 : Nat) (Aa_5 : Nat) (Aa_6 : Nat) (Aa_7 : Nat) (Aa_8 : Nat) (Av_0 : Int32) (Av_1 : Int32) (Av_2 : Int32) (Av_3 : Int32) (Av_4 : Int32) (Av_5 : Int32) (Af_1 : Nat → Int32) (Af_2 : Nat → Int32) (Af_3 : Nat → Int32) (Af_4 : Nat → Int32) (Af_5 : Nat → Int32) (Af_6 : Nat → Int32) (Af_7 : Nat → Int32) (Af_8 : Nat → Int32)  : Ct l yX9_clear cX9_clear 2 none { frames := 0, cells := 0, slots := 0, locals := 0 } D tc sk [.ref Aa_0] [(Aa_0, .inr (9, [.int Av_0, .int Av_1, .int Av_2, .int Av_3, .int Av_4, .int Av_5, .ref Aa_1, .ref Aa_2, .ref Aa_3, .ref Aa_4, .ref Aa_5, .ref Aa_6, .ref Aa_7, .ref Aa_8])), (Aa_1, .inl (tc 0, 10, .inl Af_1)), (Aa_2, .inl (tc 0, 10, .inl Af_2)), (Aa_3, .inl (tc 0, 6, .inl Af_3)), (Aa_4, .inl (tc 0, 6, .inl Af_4)), (Aa_5, .inl (tc 0, 6, .inl Af_5)), (Aa_6, .inl (tc 0, 6, .inl Af_6)), (Aa_7, .inl (tc 0, 6, .inl Af_7)), (Aa_8, .inl (tc 0, 6, .inl Af_8))] (fun (v : Option Value) (u : (Nat → Int32) × (Nat → Int32) × (Nat → Int32) × (Nat → Int32) × (Nat → Int32) × (Nat → Int32) × (Nat → Int32) × (Nat → Int32)) => match u with | (oo0x1, oo0x2, oo0x3, oo0x4, oo0x5, oo0x6, oo0x7, oo0x8) => v = none ∧ (ShC 0 0 0 0 0 0 oo0x1 oo0x2 oo0x3 oo0x4 oo0x5 oo0x6 oo0x7 oo0x8 qz_0)) (fun (u : (Nat → Int32) × (Nat → Int32) × (Nat → Int32) × (Nat → Int32) × (Nat → Int32) × (Nat → Int32) × (Nat → Int32) × (Nat → Int32)) => match u with | (oo0x1, oo0x2, oo0x3, oo0x4, oo0x5, oo0x6, oo0x7, oo0x8) => [(Aa_0, .inr (9, [.int 0, .int 0, .int 0, .int 0, .int 0, .int 0, .ref Aa_1, .ref Aa_2, .ref Aa_3, .ref Aa_4, .ref Aa_5, .ref Aa_6, .ref Aa_7, .ref Aa_8])), (Aa_1, .inl (tc 0, 10, .inl oo0x1)), (Aa_2, .inl (tc 0, 10, .inl oo0x2)), (Aa_3, .inl (tc 0, 6, .inl oo0x3)), (Aa_4, .inl (tc 0, 6, .inl oo0x4)), (Aa_5, .inl (tc 0, 6, .inl oo0x5)), (Aa_6, .inl (tc 0, 6, .inl oo0x6)), (Aa_7, .inl (tc 0, 6, .inl oo0x7)), (Aa_8, .inl (tc 0, 6, .inl oo0x8))]) 0 0 :=
  ct_zX9_clear l D tc sk (fun k => ([Aa_0, Aa_1, Aa_2, Aa_3, Aa_4, Aa_5, Aa_6, Aa_7, Aa_8] : List (Nat)).getD k 0) (fun k => ([Av_0, Av_1, Av_2, Av_3, Av_4, Av_5] : List (Int32)).getD k 0) (fun k => ([(fun _ => 0), Af_1, Af_2, Af_3, Af_4, Af_5, Af_6, Af_7, Af_8] : List (Nat → Int32)).getD k (fun _ => 0)) 
set_option maxHeartbeats 4000000 in
set_option maxRecDepth 100000 in
theorem ct_zX0_readBook (l : Launch) (D : va_G) (tc : Nat → ClassId) (sk : (Nat → Nat) × (Nat → Nat)) (Wa : Nat → Nat) (Aa : Nat → Nat) (Av : Nat → Int32) (Af : Nat → Nat → Int32) (Ta : Nat → Nat) (Tv : Nat → Int32) (Tf : Nat → Nat → Int32) (rr : Except Int (Nat × Nat)) (C : Nat → Int) (h_tape : 0 ≤ ((Tv 0) : Int32).toInt ∧ ((Tv 0) : Int32).toInt ≤ 400 ∧ 0 ≤ ((Tv 1) : Int32).toInt ∧ ((Tv 1) : Int32).toInt ≤ 400 ∧ 0 ≤ ((Tv 2) : Int32).toInt ∧ ((Tv 2) : Int32).toInt ≤ 400) (h_by : Byt (Tf 1)) (h_r : TpR (Tf 1) (Tv 0) rr (Tv 1) (Tv 2) (Tv 3) (Tv 4)) (h_bu : 0 ≤ ((Av 3) : Int32).toInt ∧ ((Av 3) : Int32).toInt ≤ 6) (h_c : QcI rr (Av 0) (Av 1) (Av 2) (Av 3) (Av 4) (Av 5) (Af 1) (Af 2) (Af 3) (Af 4) (Af 5) (Af 6) (Af 7) (Af 8) C) : Ct l yX0_readBook cX0_readBook 2 none { frames := 3, cells := 0, slots := 0, locals := 68 } D tc sk [.ref (Wa 0), .ref (Ta 0)] [((Wa 0), .inr (0, [.ref (Aa 0)])), ((Aa 0), .inr (9, [.int (Av 0), .int (Av 1), .int (Av 2), .int (Av 3), .int (Av 4), .int (Av 5), .ref (Aa 1), .ref (Aa 2), .ref (Aa 3), .ref (Aa 4), .ref (Aa 5), .ref (Aa 6), .ref (Aa 7), .ref (Aa 8)])), ((Aa 1), .inl (tc 0, 10, .inl (Af 1))), ((Aa 2), .inl (tc 0, 10, .inl (Af 2))), ((Aa 3), .inl (tc 0, 6, .inl (Af 3))), ((Aa 4), .inl (tc 0, 6, .inl (Af 4))), ((Aa 5), .inl (tc 0, 6, .inl (Af 5))), ((Aa 6), .inl (tc 0, 6, .inl (Af 6))), ((Aa 7), .inl (tc 0, 6, .inl (Af 7))), ((Aa 8), .inl (tc 0, 6, .inl (Af 8))), ((Ta 0), .inr (10, [.ref (Ta 1), .int (Tv 0), .int (Tv 1), .int (Tv 2), .int (Tv 3), .int (Tv 4)])), ((Ta 1), .inl (tc 0, 400, .inl (Tf 1)))] (fun (v : Option Value) (u : (Int32) × (Int32) × (Int32) × (Int32) × (Int32) × (Int32) × (Int32)) => match u with | (oo0x1, oo0x2, oo0x3, oo0x4, oo0x5, oo0x6, oo0x7) => v = none ∧ (0 ≤ ((Tv 0) : Int32).toInt ∧ ((Tv 0) : Int32).toInt ≤ 400 ∧ 0 ≤ (oo0x4 : Int32).toInt ∧ (oo0x4 : Int32).toInt ≤ 400 ∧ 0 ≤ (oo0x5 : Int32).toInt ∧ (oo0x5 : Int32).toInt ≤ 400) ∧ (0 ≤ ((Av 3) : Int32).toInt ∧ ((Av 3) : Int32).toInt ≤ 6) ∧ (TpR (Tf 1) (Tv 0) (rN1 (cB (Tf 1) (Tv 0)) 1 10 (rN1 (cB (Tf 1) (Tv 0)) 0 9 (rN1 (cB (Tf 1) (Tv 0)) 0 99 rr))) oo0x4 oo0x5 oo0x6 oo0x7) ∧ (QsQ (qz_k0 (cB (Tf 1) (Tv 0)) C rr) oo0x1 oo0x2 oo0x3 (Av 3) (Av 4) (Av 5) (Af 1) (Af 2) (Af 3) (Af 4) (Af 5) (Af 6) (Af 7) (Af 8))) (fun (u : (Int32) × (Int32) × (Int32) × (Int32) × (Int32) × (Int32) × (Int32)) => match u with | (oo0x1, oo0x2, oo0x3, oo0x4, oo0x5, oo0x6, oo0x7) => [((Wa 0), .inr (0, [.ref (Aa 0)])), ((Aa 0), .inr (9, [.int oo0x1, .int oo0x2, .int oo0x3, .int (Av 3), .int (Av 4), .int (Av 5), .ref (Aa 1), .ref (Aa 2), .ref (Aa 3), .ref (Aa 4), .ref (Aa 5), .ref (Aa 6), .ref (Aa 7), .ref (Aa 8)])), ((Aa 1), .inl (tc 0, 10, .inl (Af 1))), ((Aa 2), .inl (tc 0, 10, .inl (Af 2))), ((Aa 3), .inl (tc 0, 6, .inl (Af 3))), ((Aa 4), .inl (tc 0, 6, .inl (Af 4))), ((Aa 5), .inl (tc 0, 6, .inl (Af 5))), ((Aa 6), .inl (tc 0, 6, .inl (Af 6))), ((Aa 7), .inl (tc 0, 6, .inl (Af 7))), ((Aa 8), .inl (tc 0, 6, .inl (Af 8))), ((Ta 0), .inr (10, [.ref (Ta 1), .int (Tv 0), .int oo0x4, .int oo0x5, .int oo0x6, .int oo0x7])), ((Ta 1), .inl (tc 0, 400, .inl (Tf 1)))]) 0 0 := by
  refine Ct.start (by decide) (Nat.le_of_ble_eq_true rfl) (fun p e s m below meth c A ls hx hb hr hlk hin hml hown hts hK hX hP hD hA hl hS => ?_)
  have hl : lv_has ls 2 [(0, .ref (Wa 0)), (1, .ref (Ta 0))] := hl
  have tb_1 : TpB (rTE (cB (Tf 1) (Tv 0)) rr) (Tv 2) (Tv 4) := TpR.tb h_r
  refine lv_aload_n hx hb dX0_readBook_0 rfl (lv_at hl 0 rfl) ?_
  refine gf_X0_12 hx hb hts hown hK hP 0 rfl rfl dX0_readBook_1 ?_
  refine lv_aload_n hx hb dX0_readBook_4 rfl (lv_at hl 1 rfl) ?_
  refine lv_iconst (v := 0) hx hb dX0_readBook_5 (by decide) ?_
  refine lv_bipush (v := 99) hx hb dX0_readBook_6 (by decide) ?_
  have ha_2 : (0 : Int32).toInt = (0 : Int) := by
    have y_0 : (0 : Int32).toInt = 0 := by decide
    omega
  have ha_3 : (99 : Int32).toInt = (99 : Int) := by
    have y_99 : (99 : Int32).toInt = 99 := by decide
    omega
  refine cV (a := (Ta 0)) (As := [.int 0, .int 99]) (rest := [.ref (Aa 0)]) (wr := [((Wa 0), .inr (0, [.ref (Aa 0)])), ((Aa 0), .inr (9, [.int (Av 0), .int (Av 1), .int (Av 2), .int (Av 3), .int (Av 4), .int (Av 5), .ref (Aa 1), .ref (Aa 2), .ref (Aa 3), .ref (Aa 4), .ref (Aa 5), .ref (Aa 6), .ref (Aa 7), .ref (Aa 8)])), ((Aa 1), .inl (tc 0, 10, .inl (Af 1))), ((Aa 2), .inl (tc 0, 10, .inl (Af 2))), ((Aa 3), .inl (tc 0, 6, .inl (Af 3))), ((Aa 4), .inl (tc 0, 6, .inl (Af 4))), ((Aa 5), .inl (tc 0, 6, .inl (Af 5))), ((Aa 6), .inl (tc 0, 6, .inl (Af 6))), ((Aa 7), .inl (tc 0, 6, .inl (Af 7))), ((Aa 8), .inl (tc 0, 6, .inl (Af 8)))]) ⟨hx, hb, hml, hown, hts⟩ hK hX hA (cu_fX10_takeNumber l D tc sk (Ta 0) (Ta 1) (Tv 0) (Tv 1) (Tv 2) (Tv 3) (Tv 4) (Tf 1) 0 99 rr 0 99 h_tape h_by h_r ha_2 ha_3) k_566 k_563 k_564 k_565 k_96 pl_X10_takeNumber ⟨Nat.le_of_ble_eq_true rfl, Nat.le_of_ble_eq_true rfl⟩ rfl rfl (va_recv hK hP (ci := 10) (q0 := 10) rfl rfl) hP hD hS [10, 11] [0, 1, 2, 3, 4, 5, 6, 7, 8, 9] rfl rfl rfl rfl rfl (by decide) rfl hl.1 rfl (Nat.le_of_ble_eq_true rfl) dX0_readBook_8 ⟨Nat.le_of_ble_eq_true rfl, Nat.le_of_ble_eq_true rfl⟩ (fun v_4 u_5 H locs hv_6 hP₀ hD₀ hS₀ => ?_)
  obtain ⟨sv_7, sv_8, sv_9, sv_10⟩ := u_5
  obtain ⟨r_13, rfl, he_14, pf_11, pf_12⟩ := hv_6
  have he_14 : NuV (cB (Tf 1) (Tv 0)) (0 : Int) (99 : Int) rr r_13 := he_14
  have pf_11 : 0 ≤ ((Tv 0) : Int32).toInt ∧ ((Tv 0) : Int32).toInt ≤ 400 ∧ 0 ≤ (sv_7 : Int32).toInt ∧ (sv_7 : Int32).toInt ≤ 400 ∧ 0 ≤ (sv_8 : Int32).toInt ∧ (sv_8 : Int32).toInt ≤ 400 := pf_11
  have pf_12 : TpR (Tf 1) (Tv 0) (rNX (cB (Tf 1) (Tv 0)) (rNU (cB (Tf 1) (Tv 0)) (0 : Int) (99 : Int) rr)) sv_7 sv_8 sv_9 sv_10 := pf_12
  obtain ⟨ro_16, ero_16⟩ : ∃ z : Except Int (Nat × Nat), z = (rNX (cB (Tf 1) (Tv 0)) (rNU (cB (Tf 1) (Tv 0)) 0 99 rr)) := ⟨_, rfl⟩
  rw [← ero_16] at pf_12
  have tb_17 : TpB (rTE (cB (Tf 1) (Tv 0)) ro_16) sv_8 sv_10 := TpR.tb pf_12
  refine W.eq (g2 := F0 m 11 ls [.int r_13, .ref (Aa 0)]) rfl ?_
  replace hP : va_P D classes [((Wa 0), .inr (0, [.ref (Aa 0)])), ((Aa 0), .inr (9, [.int (Av 0), .int (Av 1), .int (Av 2), .int (Av 3), .int (Av 4), .int (Av 5), .ref (Aa 1), .ref (Aa 2), .ref (Aa 3), .ref (Aa 4), .ref (Aa 5), .ref (Aa 6), .ref (Aa 7), .ref (Aa 8)])), ((Aa 1), .inl (tc 0, 10, .inl (Af 1))), ((Aa 2), .inl (tc 0, 10, .inl (Af 2))), ((Aa 3), .inl (tc 0, 6, .inl (Af 3))), ((Aa 4), .inl (tc 0, 6, .inl (Af 4))), ((Aa 5), .inl (tc 0, 6, .inl (Af 5))), ((Aa 6), .inl (tc 0, 6, .inl (Af 6))), ((Aa 7), .inl (tc 0, 6, .inl (Af 7))), ((Aa 8), .inl (tc 0, 6, .inl (Af 8))), ((Ta 0), .inr (10, [.ref (Ta 1), .int (Tv 0), .int sv_7, .int sv_8, .int sv_9, .int sv_10])), ((Ta 1), .inl (tc 0, 400, .inl (Tf 1)))] H := hP₀
  replace hD : va_D A [((Wa 0), .inr (0, [.ref (Aa 0)])), ((Aa 0), .inr (9, [.int (Av 0), .int (Av 1), .int (Av 2), .int (Av 3), .int (Av 4), .int (Av 5), .ref (Aa 1), .ref (Aa 2), .ref (Aa 3), .ref (Aa 4), .ref (Aa 5), .ref (Aa 6), .ref (Aa 7), .ref (Aa 8)])), ((Aa 1), .inl (tc 0, 10, .inl (Af 1))), ((Aa 2), .inl (tc 0, 10, .inl (Af 2))), ((Aa 3), .inl (tc 0, 6, .inl (Af 3))), ((Aa 4), .inl (tc 0, 6, .inl (Af 4))), ((Aa 5), .inl (tc 0, 6, .inl (Af 5))), ((Aa 6), .inl (tc 0, 6, .inl (Af 6))), ((Aa 7), .inl (tc 0, 6, .inl (Af 7))), ((Aa 8), .inl (tc 0, 6, .inl (Af 8))), ((Ta 0), .inr (10, [.ref (Ta 1), .int (Tv 0), .int sv_7, .int sv_8, .int sv_9, .int sv_10])), ((Ta 1), .inl (tc 0, 400, .inl (Tf 1)))] := hD₀
  replace hS := hS₀
  clear hP₀ hD₀ hS₀
  refine pf_X0_74 hx hb hts hown hK hP hD hS 1 rfl (Nat.le_of_ble_eq_true rfl) rfl rfl dX0_readBook_11 (fun H locs hP₀ hD₀ hS₀ => ?_)
  replace hP : va_P D classes [((Wa 0), .inr (0, [.ref (Aa 0)])), ((Aa 0), .inr (9, [.int r_13, .int (Av 1), .int (Av 2), .int (Av 3), .int (Av 4), .int (Av 5), .ref (Aa 1), .ref (Aa 2), .ref (Aa 3), .ref (Aa 4), .ref (Aa 5), .ref (Aa 6), .ref (Aa 7), .ref (Aa 8)])), ((Aa 1), .inl (tc 0, 10, .inl (Af 1))), ((Aa 2), .inl (tc 0, 10, .inl (Af 2))), ((Aa 3), .inl (tc 0, 6, .inl (Af 3))), ((Aa 4), .inl (tc 0, 6, .inl (Af 4))), ((Aa 5), .inl (tc 0, 6, .inl (Af 5))), ((Aa 6), .inl (tc 0, 6, .inl (Af 6))), ((Aa 7), .inl (tc 0, 6, .inl (Af 7))), ((Aa 8), .inl (tc 0, 6, .inl (Af 8))), ((Ta 0), .inr (10, [.ref (Ta 1), .int (Tv 0), .int sv_7, .int sv_8, .int sv_9, .int sv_10])), ((Ta 1), .inl (tc 0, 400, .inl (Tf 1)))] H := hP₀
  replace hD : va_D A [((Wa 0), .inr (0, [.ref (Aa 0)])), ((Aa 0), .inr (9, [.int r_13, .int (Av 1), .int (Av 2), .int (Av 3), .int (Av 4), .int (Av 5), .ref (Aa 1), .ref (Aa 2), .ref (Aa 3), .ref (Aa 4), .ref (Aa 5), .ref (Aa 6), .ref (Aa 7), .ref (Aa 8)])), ((Aa 1), .inl (tc 0, 10, .inl (Af 1))), ((Aa 2), .inl (tc 0, 10, .inl (Af 2))), ((Aa 3), .inl (tc 0, 6, .inl (Af 3))), ((Aa 4), .inl (tc 0, 6, .inl (Af 4))), ((Aa 5), .inl (tc 0, 6, .inl (Af 5))), ((Aa 6), .inl (tc 0, 6, .inl (Af 6))), ((Aa 7), .inl (tc 0, 6, .inl (Af 7))), ((Aa 8), .inl (tc 0, 6, .inl (Af 8))), ((Ta 0), .inr (10, [.ref (Ta 1), .int (Tv 0), .int sv_7, .int sv_8, .int sv_9, .int sv_10])), ((Ta 1), .inl (tc 0, 400, .inl (Tf 1)))] := hD₀
  replace hS := hS₀
  clear hP₀ hD₀ hS₀
  refine lv_aload_n hx hb dX0_readBook_14 rfl (lv_at hl 0 rfl) ?_
  refine gf_X0_12 hx hb hts hown hK hP 0 rfl rfl dX0_readBook_15 ?_
  refine lv_aload_n hx hb dX0_readBook_18 rfl (lv_at hl 1 rfl) ?_
  refine lv_iconst (v := 0) hx hb dX0_readBook_19 (by decide) ?_
  refine lv_bipush (v := 9) hx hb dX0_readBook_20 (by decide) ?_
  have ha_18 : (0 : Int32).toInt = (0 : Int) := by
    have y_0 : (0 : Int32).toInt = 0 := by decide
    omega
  have ha_19 : (9 : Int32).toInt = (9 : Int) := by
    have y_9 : (9 : Int32).toInt = 9 := by decide
    omega
  refine cV (a := (Ta 0)) (As := [.int 0, .int 9]) (rest := [.ref (Aa 0)]) (wr := [((Wa 0), .inr (0, [.ref (Aa 0)])), ((Aa 0), .inr (9, [.int r_13, .int (Av 1), .int (Av 2), .int (Av 3), .int (Av 4), .int (Av 5), .ref (Aa 1), .ref (Aa 2), .ref (Aa 3), .ref (Aa 4), .ref (Aa 5), .ref (Aa 6), .ref (Aa 7), .ref (Aa 8)])), ((Aa 1), .inl (tc 0, 10, .inl (Af 1))), ((Aa 2), .inl (tc 0, 10, .inl (Af 2))), ((Aa 3), .inl (tc 0, 6, .inl (Af 3))), ((Aa 4), .inl (tc 0, 6, .inl (Af 4))), ((Aa 5), .inl (tc 0, 6, .inl (Af 5))), ((Aa 6), .inl (tc 0, 6, .inl (Af 6))), ((Aa 7), .inl (tc 0, 6, .inl (Af 7))), ((Aa 8), .inl (tc 0, 6, .inl (Af 8)))]) ⟨hx, hb, hml, hown, hts⟩ hK hX hA (cu_fX10_takeNumber l D tc sk (Ta 0) (Ta 1) (Tv 0) sv_7 sv_8 sv_9 sv_10 (Tf 1) 0 9 ro_16 0 9 pf_11 h_by pf_12 ha_18 ha_19) k_566 k_563 k_564 k_565 k_96 pl_X10_takeNumber ⟨Nat.le_of_ble_eq_true rfl, Nat.le_of_ble_eq_true rfl⟩ rfl rfl (va_recv hK hP (ci := 10) (q0 := 10) rfl rfl) hP hD hS [10, 11] [0, 1, 2, 3, 4, 5, 6, 7, 8, 9] rfl rfl rfl rfl rfl (by decide) rfl hl.1 rfl (Nat.le_of_ble_eq_true rfl) dX0_readBook_22 ⟨Nat.le_of_ble_eq_true rfl, Nat.le_of_ble_eq_true rfl⟩ (fun v_20 u_21 H locs hv_22 hP₀ hD₀ hS₀ => ?_)
  obtain ⟨sv_23, sv_24, sv_25, sv_26⟩ := u_21
  obtain ⟨r_29, rfl, he_30, pf_27, pf_28⟩ := hv_22
  have he_30 : NuV (cB (Tf 1) (Tv 0)) (0 : Int) (9 : Int) ro_16 r_29 := he_30
  have pf_27 : 0 ≤ ((Tv 0) : Int32).toInt ∧ ((Tv 0) : Int32).toInt ≤ 400 ∧ 0 ≤ (sv_23 : Int32).toInt ∧ (sv_23 : Int32).toInt ≤ 400 ∧ 0 ≤ (sv_24 : Int32).toInt ∧ (sv_24 : Int32).toInt ≤ 400 := pf_27
  have pf_28 : TpR (Tf 1) (Tv 0) (rNX (cB (Tf 1) (Tv 0)) (rNU (cB (Tf 1) (Tv 0)) (0 : Int) (9 : Int) ro_16)) sv_23 sv_24 sv_25 sv_26 := pf_28
  obtain ⟨ro_32, ero_32⟩ : ∃ z : Except Int (Nat × Nat), z = (rNX (cB (Tf 1) (Tv 0)) (rNU (cB (Tf 1) (Tv 0)) 0 9 ro_16)) := ⟨_, rfl⟩
  rw [← ero_32] at pf_28
  have tb_33 : TpB (rTE (cB (Tf 1) (Tv 0)) ro_32) sv_24 sv_26 := TpR.tb pf_28
  refine W.eq (g2 := F0 m 25 ls [.int r_29, .ref (Aa 0)]) rfl ?_
  replace hP : va_P D classes [((Wa 0), .inr (0, [.ref (Aa 0)])), ((Aa 0), .inr (9, [.int r_13, .int (Av 1), .int (Av 2), .int (Av 3), .int (Av 4), .int (Av 5), .ref (Aa 1), .ref (Aa 2), .ref (Aa 3), .ref (Aa 4), .ref (Aa 5), .ref (Aa 6), .ref (Aa 7), .ref (Aa 8)])), ((Aa 1), .inl (tc 0, 10, .inl (Af 1))), ((Aa 2), .inl (tc 0, 10, .inl (Af 2))), ((Aa 3), .inl (tc 0, 6, .inl (Af 3))), ((Aa 4), .inl (tc 0, 6, .inl (Af 4))), ((Aa 5), .inl (tc 0, 6, .inl (Af 5))), ((Aa 6), .inl (tc 0, 6, .inl (Af 6))), ((Aa 7), .inl (tc 0, 6, .inl (Af 7))), ((Aa 8), .inl (tc 0, 6, .inl (Af 8))), ((Ta 0), .inr (10, [.ref (Ta 1), .int (Tv 0), .int sv_23, .int sv_24, .int sv_25, .int sv_26])), ((Ta 1), .inl (tc 0, 400, .inl (Tf 1)))] H := hP₀
  replace hD : va_D A [((Wa 0), .inr (0, [.ref (Aa 0)])), ((Aa 0), .inr (9, [.int r_13, .int (Av 1), .int (Av 2), .int (Av 3), .int (Av 4), .int (Av 5), .ref (Aa 1), .ref (Aa 2), .ref (Aa 3), .ref (Aa 4), .ref (Aa 5), .ref (Aa 6), .ref (Aa 7), .ref (Aa 8)])), ((Aa 1), .inl (tc 0, 10, .inl (Af 1))), ((Aa 2), .inl (tc 0, 10, .inl (Af 2))), ((Aa 3), .inl (tc 0, 6, .inl (Af 3))), ((Aa 4), .inl (tc 0, 6, .inl (Af 4))), ((Aa 5), .inl (tc 0, 6, .inl (Af 5))), ((Aa 6), .inl (tc 0, 6, .inl (Af 6))), ((Aa 7), .inl (tc 0, 6, .inl (Af 7))), ((Aa 8), .inl (tc 0, 6, .inl (Af 8))), ((Ta 0), .inr (10, [.ref (Ta 1), .int (Tv 0), .int sv_23, .int sv_24, .int sv_25, .int sv_26])), ((Ta 1), .inl (tc 0, 400, .inl (Tf 1)))] := hD₀
  replace hS := hS₀
  clear hP₀ hD₀ hS₀
  refine pf_X0_77 hx hb hts hown hK hP hD hS 1 rfl (Nat.le_of_ble_eq_true rfl) rfl rfl dX0_readBook_25 (fun H locs hP₀ hD₀ hS₀ => ?_)
  replace hP : va_P D classes [((Wa 0), .inr (0, [.ref (Aa 0)])), ((Aa 0), .inr (9, [.int r_13, .int r_29, .int (Av 2), .int (Av 3), .int (Av 4), .int (Av 5), .ref (Aa 1), .ref (Aa 2), .ref (Aa 3), .ref (Aa 4), .ref (Aa 5), .ref (Aa 6), .ref (Aa 7), .ref (Aa 8)])), ((Aa 1), .inl (tc 0, 10, .inl (Af 1))), ((Aa 2), .inl (tc 0, 10, .inl (Af 2))), ((Aa 3), .inl (tc 0, 6, .inl (Af 3))), ((Aa 4), .inl (tc 0, 6, .inl (Af 4))), ((Aa 5), .inl (tc 0, 6, .inl (Af 5))), ((Aa 6), .inl (tc 0, 6, .inl (Af 6))), ((Aa 7), .inl (tc 0, 6, .inl (Af 7))), ((Aa 8), .inl (tc 0, 6, .inl (Af 8))), ((Ta 0), .inr (10, [.ref (Ta 1), .int (Tv 0), .int sv_23, .int sv_24, .int sv_25, .int sv_26])), ((Ta 1), .inl (tc 0, 400, .inl (Tf 1)))] H := hP₀
  replace hD : va_D A [((Wa 0), .inr (0, [.ref (Aa 0)])), ((Aa 0), .inr (9, [.int r_13, .int r_29, .int (Av 2), .int (Av 3), .int (Av 4), .int (Av 5), .ref (Aa 1), .ref (Aa 2), .ref (Aa 3), .ref (Aa 4), .ref (Aa 5), .ref (Aa 6), .ref (Aa 7), .ref (Aa 8)])), ((Aa 1), .inl (tc 0, 10, .inl (Af 1))), ((Aa 2), .inl (tc 0, 10, .inl (Af 2))), ((Aa 3), .inl (tc 0, 6, .inl (Af 3))), ((Aa 4), .inl (tc 0, 6, .inl (Af 4))), ((Aa 5), .inl (tc 0, 6, .inl (Af 5))), ((Aa 6), .inl (tc 0, 6, .inl (Af 6))), ((Aa 7), .inl (tc 0, 6, .inl (Af 7))), ((Aa 8), .inl (tc 0, 6, .inl (Af 8))), ((Ta 0), .inr (10, [.ref (Ta 1), .int (Tv 0), .int sv_23, .int sv_24, .int sv_25, .int sv_26])), ((Ta 1), .inl (tc 0, 400, .inl (Tf 1)))] := hD₀
  replace hS := hS₀
  clear hP₀ hD₀ hS₀
  refine lv_aload_n hx hb dX0_readBook_28 rfl (lv_at hl 0 rfl) ?_
  refine gf_X0_12 hx hb hts hown hK hP 0 rfl rfl dX0_readBook_29 ?_
  refine lv_aload_n hx hb dX0_readBook_32 rfl (lv_at hl 1 rfl) ?_
  refine lv_iconst (v := 1) hx hb dX0_readBook_33 (by decide) ?_
  refine lv_bipush (v := 10) hx hb dX0_readBook_34 (by decide) ?_
  have ha_34 : (1 : Int32).toInt = (1 : Int) := by
    have y_1 : (1 : Int32).toInt = 1 := by decide
    omega
  have ha_35 : (10 : Int32).toInt = (10 : Int) := by
    have y_10 : (10 : Int32).toInt = 10 := by decide
    omega
  refine cV (a := (Ta 0)) (As := [.int 1, .int 10]) (rest := [.ref (Aa 0)]) (wr := [((Wa 0), .inr (0, [.ref (Aa 0)])), ((Aa 0), .inr (9, [.int r_13, .int r_29, .int (Av 2), .int (Av 3), .int (Av 4), .int (Av 5), .ref (Aa 1), .ref (Aa 2), .ref (Aa 3), .ref (Aa 4), .ref (Aa 5), .ref (Aa 6), .ref (Aa 7), .ref (Aa 8)])), ((Aa 1), .inl (tc 0, 10, .inl (Af 1))), ((Aa 2), .inl (tc 0, 10, .inl (Af 2))), ((Aa 3), .inl (tc 0, 6, .inl (Af 3))), ((Aa 4), .inl (tc 0, 6, .inl (Af 4))), ((Aa 5), .inl (tc 0, 6, .inl (Af 5))), ((Aa 6), .inl (tc 0, 6, .inl (Af 6))), ((Aa 7), .inl (tc 0, 6, .inl (Af 7))), ((Aa 8), .inl (tc 0, 6, .inl (Af 8)))]) ⟨hx, hb, hml, hown, hts⟩ hK hX hA (cu_fX10_takeNumber l D tc sk (Ta 0) (Ta 1) (Tv 0) sv_23 sv_24 sv_25 sv_26 (Tf 1) 1 10 ro_32 1 10 pf_27 h_by pf_28 ha_34 ha_35) k_566 k_563 k_564 k_565 k_96 pl_X10_takeNumber ⟨Nat.le_of_ble_eq_true rfl, Nat.le_of_ble_eq_true rfl⟩ rfl rfl (va_recv hK hP (ci := 10) (q0 := 10) rfl rfl) hP hD hS [10, 11] [0, 1, 2, 3, 4, 5, 6, 7, 8, 9] rfl rfl rfl rfl rfl (by decide) rfl hl.1 rfl (Nat.le_of_ble_eq_true rfl) dX0_readBook_36 ⟨Nat.le_of_ble_eq_true rfl, Nat.le_of_ble_eq_true rfl⟩ (fun v_36 u_37 H locs hv_38 hP₀ hD₀ hS₀ => ?_)
  obtain ⟨sv_39, sv_40, sv_41, sv_42⟩ := u_37
  obtain ⟨r_45, rfl, he_46, pf_43, pf_44⟩ := hv_38
  have he_46 : NuV (cB (Tf 1) (Tv 0)) (1 : Int) (10 : Int) ro_32 r_45 := he_46
  have pf_43 : 0 ≤ ((Tv 0) : Int32).toInt ∧ ((Tv 0) : Int32).toInt ≤ 400 ∧ 0 ≤ (sv_39 : Int32).toInt ∧ (sv_39 : Int32).toInt ≤ 400 ∧ 0 ≤ (sv_40 : Int32).toInt ∧ (sv_40 : Int32).toInt ≤ 400 := pf_43
  have pf_44 : TpR (Tf 1) (Tv 0) (rNX (cB (Tf 1) (Tv 0)) (rNU (cB (Tf 1) (Tv 0)) (1 : Int) (10 : Int) ro_32)) sv_39 sv_40 sv_41 sv_42 := pf_44
  obtain ⟨ro_48, ero_48⟩ : ∃ z : Except Int (Nat × Nat), z = (rNX (cB (Tf 1) (Tv 0)) (rNU (cB (Tf 1) (Tv 0)) 1 10 ro_32)) := ⟨_, rfl⟩
  rw [← ero_48] at pf_44
  have tb_49 : TpB (rTE (cB (Tf 1) (Tv 0)) ro_48) sv_40 sv_42 := TpR.tb pf_44
  refine W.eq (g2 := F0 m 39 ls [.int r_45, .ref (Aa 0)]) rfl ?_
  replace hP : va_P D classes [((Wa 0), .inr (0, [.ref (Aa 0)])), ((Aa 0), .inr (9, [.int r_13, .int r_29, .int (Av 2), .int (Av 3), .int (Av 4), .int (Av 5), .ref (Aa 1), .ref (Aa 2), .ref (Aa 3), .ref (Aa 4), .ref (Aa 5), .ref (Aa 6), .ref (Aa 7), .ref (Aa 8)])), ((Aa 1), .inl (tc 0, 10, .inl (Af 1))), ((Aa 2), .inl (tc 0, 10, .inl (Af 2))), ((Aa 3), .inl (tc 0, 6, .inl (Af 3))), ((Aa 4), .inl (tc 0, 6, .inl (Af 4))), ((Aa 5), .inl (tc 0, 6, .inl (Af 5))), ((Aa 6), .inl (tc 0, 6, .inl (Af 6))), ((Aa 7), .inl (tc 0, 6, .inl (Af 7))), ((Aa 8), .inl (tc 0, 6, .inl (Af 8))), ((Ta 0), .inr (10, [.ref (Ta 1), .int (Tv 0), .int sv_39, .int sv_40, .int sv_41, .int sv_42])), ((Ta 1), .inl (tc 0, 400, .inl (Tf 1)))] H := hP₀
  replace hD : va_D A [((Wa 0), .inr (0, [.ref (Aa 0)])), ((Aa 0), .inr (9, [.int r_13, .int r_29, .int (Av 2), .int (Av 3), .int (Av 4), .int (Av 5), .ref (Aa 1), .ref (Aa 2), .ref (Aa 3), .ref (Aa 4), .ref (Aa 5), .ref (Aa 6), .ref (Aa 7), .ref (Aa 8)])), ((Aa 1), .inl (tc 0, 10, .inl (Af 1))), ((Aa 2), .inl (tc 0, 10, .inl (Af 2))), ((Aa 3), .inl (tc 0, 6, .inl (Af 3))), ((Aa 4), .inl (tc 0, 6, .inl (Af 4))), ((Aa 5), .inl (tc 0, 6, .inl (Af 5))), ((Aa 6), .inl (tc 0, 6, .inl (Af 6))), ((Aa 7), .inl (tc 0, 6, .inl (Af 7))), ((Aa 8), .inl (tc 0, 6, .inl (Af 8))), ((Ta 0), .inr (10, [.ref (Ta 1), .int (Tv 0), .int sv_39, .int sv_40, .int sv_41, .int sv_42])), ((Ta 1), .inl (tc 0, 400, .inl (Tf 1)))] := hD₀
  replace hS := hS₀
  clear hP₀ hD₀ hS₀
  refine pf_X0_80 hx hb hts hown hK hP hD hS 1 rfl (Nat.le_of_ble_eq_true rfl) rfl rfl dX0_readBook_39 (fun H locs hP₀ hD₀ hS₀ => ?_)
  replace hP : va_P D classes [((Wa 0), .inr (0, [.ref (Aa 0)])), ((Aa 0), .inr (9, [.int r_13, .int r_29, .int r_45, .int (Av 3), .int (Av 4), .int (Av 5), .ref (Aa 1), .ref (Aa 2), .ref (Aa 3), .ref (Aa 4), .ref (Aa 5), .ref (Aa 6), .ref (Aa 7), .ref (Aa 8)])), ((Aa 1), .inl (tc 0, 10, .inl (Af 1))), ((Aa 2), .inl (tc 0, 10, .inl (Af 2))), ((Aa 3), .inl (tc 0, 6, .inl (Af 3))), ((Aa 4), .inl (tc 0, 6, .inl (Af 4))), ((Aa 5), .inl (tc 0, 6, .inl (Af 5))), ((Aa 6), .inl (tc 0, 6, .inl (Af 6))), ((Aa 7), .inl (tc 0, 6, .inl (Af 7))), ((Aa 8), .inl (tc 0, 6, .inl (Af 8))), ((Ta 0), .inr (10, [.ref (Ta 1), .int (Tv 0), .int sv_39, .int sv_40, .int sv_41, .int sv_42])), ((Ta 1), .inl (tc 0, 400, .inl (Tf 1)))] H := hP₀
  replace hD : va_D A [((Wa 0), .inr (0, [.ref (Aa 0)])), ((Aa 0), .inr (9, [.int r_13, .int r_29, .int r_45, .int (Av 3), .int (Av 4), .int (Av 5), .ref (Aa 1), .ref (Aa 2), .ref (Aa 3), .ref (Aa 4), .ref (Aa 5), .ref (Aa 6), .ref (Aa 7), .ref (Aa 8)])), ((Aa 1), .inl (tc 0, 10, .inl (Af 1))), ((Aa 2), .inl (tc 0, 10, .inl (Af 2))), ((Aa 3), .inl (tc 0, 6, .inl (Af 3))), ((Aa 4), .inl (tc 0, 6, .inl (Af 4))), ((Aa 5), .inl (tc 0, 6, .inl (Af 5))), ((Aa 6), .inl (tc 0, 6, .inl (Af 6))), ((Aa 7), .inl (tc 0, 6, .inl (Af 7))), ((Aa 8), .inl (tc 0, 6, .inl (Af 8))), ((Ta 0), .inr (10, [.ref (Ta 1), .int (Tv 0), .int sv_39, .int sv_40, .int sv_41, .int sv_42])), ((Ta 1), .inl (tc 0, 400, .inl (Tf 1)))] := hD₀
  replace hS := hS₀
  clear hP₀ hD₀ hS₀
  have hu_50 : TpR (Tf 1) (Tv 0) (rNX (cB (Tf 1) (Tv 0)) (rNU (cB (Tf 1) (Tv 0)) 1 10 (rNX (cB (Tf 1) (Tv 0)) (rNU (cB (Tf 1) (Tv 0)) 0 9 (rNX (cB (Tf 1) (Tv 0)) (rNU (cB (Tf 1) (Tv 0)) 0 99 rr)))))) sv_39 sv_40 sv_41 sv_42 := by
    rw [← ero_16, ← ero_32, ← ero_48]
    exact pf_44
  have hf_51 : TpR (Tf 1) (Tv 0) (rN1 (cB (Tf 1) (Tv 0)) 1 10 (rN1 (cB (Tf 1) (Tv 0)) 0 9 (rN1 (cB (Tf 1) (Tv 0)) 0 99 rr))) sv_39 sv_40 sv_41 sv_42 := hu_50
  have hv_52 : NuV (cB (Tf 1) (Tv 0)) 0 99 rr r_13 := by
    have hq := he_14
    exact hq
  have hv_53 : NuV (cB (Tf 1) (Tv 0)) 0 9 (rN1 (cB (Tf 1) (Tv 0)) 0 99 rr) r_29 := by
    have hq := he_30
    rw [ero_16] at hq
    exact hq
  have hv_54 : NuV (cB (Tf 1) (Tv 0)) 1 10 (rN1 (cB (Tf 1) (Tv 0)) 0 9 (rN1 (cB (Tf 1) (Tv 0)) 0 99 rr)) r_45 := by
    have hq := he_46
    rw [ero_32, ero_16] at hq
    exact hq
  have hs_55 : QsQ (qz_k0 (cB (Tf 1) (Tv 0)) C rr) r_13 r_29 r_45 (Av 3) (Av 4) (Av 5) (Af 1) (Af 2) (Af 3) (Af 4) (Af 5) (Af 6) (Af 7) (Af 8) := QsQ.b0 h_c hv_52 hv_53 hv_54
  exact retV hx hb hr hlk hP hD hS (r_13, r_29, r_45, sv_39, sv_40, sv_41, sv_42) ⟨rfl, pf_43, h_bu, hf_51, hs_55⟩ [0, 1, 2, 3, 4, 5, 6, 7, 8, 9, 10, 11] rfl rfl dX0_readBook_42 (Nat.le_of_ble_eq_true rfl) (Nat.le_of_ble_eq_true rfl) rfl
set_option maxRecDepth 100000 in
theorem cu_zX0_readBook (l : Launch) (D : va_G) (tc : Nat → ClassId) (sk : (Nat → Nat) × (Nat → Nat)) (Wa_0 : Nat) (Aa_0 : Nat) (Aa_1 : Nat) (Aa_2 : Nat) (Aa_3 : Nat) (Aa_4 : Nat) (Aa_5 : Nat) (Aa_6 : Nat) (Aa_7 : Nat) (Aa_8 : Nat) (Av_0 : Int32) (Av_1 : Int32) (Av_2 : Int32) (Av_3 : Int32) (Av_4 : Int32) (Av_5 : Int32) (Af_1 : Nat → Int32) (Af_2 : Nat → Int32) (Af_3 : Nat → Int32) (Af_4 : Nat → Int32) (Af_5 : Nat → Int32) (Af_6 : Nat → Int32) (Af_7 : Nat → Int32) (Af_8 : Nat → Int32) (Ta_0 : Nat) (Ta_1 : Nat) (Tv_0 : Int32) (Tv_1 : Int32) (Tv_2 : Int32) (Tv_3 : Int32) (Tv_4 : Int32) (Tf_1 : Nat → Int32) (rr : Except Int (Nat × Nat)) (C : Nat → Int) (h_tape : 0 ≤ (Tv_0 : Int32).toInt ∧ (Tv_0 : Int32).toInt ≤ 400 ∧ 0 ≤ (Tv_1 : Int32).toInt ∧ (Tv_1 : Int32).toInt ≤ 400 ∧ 0 ≤ (Tv_2 : Int32).toInt ∧ (Tv_2 : Int32).toInt ≤ 400) (h_by : Byt Tf_1) (h_r : TpR Tf_1 Tv_0 rr Tv_1 Tv_2 Tv_3 Tv_4) (h_bu : 0 ≤ (Av_3 : Int32).toInt ∧ (Av_3 : Int32).toInt ≤ 6) (h_c : QcI rr Av_0 Av_1 Av_2 Av_3 Av_4 Av_5 Af_1 Af_2 Af_3 Af_4 Af_5 Af_6 Af_7 Af_8 C) : Ct l yX0_readBook cX0_readBook 2 none { frames := 3, cells := 0, slots := 0, locals := 68 } D tc sk [.ref Wa_0, .ref Ta_0] [(Wa_0, .inr (0, [.ref Aa_0])), (Aa_0, .inr (9, [.int Av_0, .int Av_1, .int Av_2, .int Av_3, .int Av_4, .int Av_5, .ref Aa_1, .ref Aa_2, .ref Aa_3, .ref Aa_4, .ref Aa_5, .ref Aa_6, .ref Aa_7, .ref Aa_8])), (Aa_1, .inl (tc 0, 10, .inl Af_1)), (Aa_2, .inl (tc 0, 10, .inl Af_2)), (Aa_3, .inl (tc 0, 6, .inl Af_3)), (Aa_4, .inl (tc 0, 6, .inl Af_4)), (Aa_5, .inl (tc 0, 6, .inl Af_5)), (Aa_6, .inl (tc 0, 6, .inl Af_6)), (Aa_7, .inl (tc 0, 6, .inl Af_7)), (Aa_8, .inl (tc 0, 6, .inl Af_8)), (Ta_0, .inr (10, [.ref Ta_1, .int Tv_0, .int Tv_1, .int Tv_2, .int Tv_3, .int Tv_4])), (Ta_1, .inl (tc 0, 400, .inl Tf_1))] (fun (v : Option Value) (u : (Int32) × (Int32) × (Int32) × (Int32) × (Int32) × (Int32) × (Int32)) => match u with | (oo0x1, oo0x2, oo0x3, oo0x4, oo0x5, oo0x6, oo0x7) => v = none ∧ (0 ≤ (Tv_0 : Int32).toInt ∧ (Tv_0 : Int32).toInt ≤ 400 ∧ 0 ≤ (oo0x4 : Int32).toInt ∧ (oo0x4 : Int32).toInt ≤ 400 ∧ 0 ≤ (oo0x5 : Int32).toInt ∧ (oo0x5 : Int32).toInt ≤ 400) ∧ (0 ≤ (Av_3 : Int32).toInt ∧ (Av_3 : Int32).toInt ≤ 6) ∧ (TpR Tf_1 Tv_0 (rN1 (cB Tf_1 Tv_0) 1 10 (rN1 (cB Tf_1 Tv_0) 0 9 (rN1 (cB Tf_1 Tv_0) 0 99 rr))) oo0x4 oo0x5 oo0x6 oo0x7) ∧ (QsQ (qz_k0 (cB Tf_1 Tv_0) C rr) oo0x1 oo0x2 oo0x3 Av_3 Av_4 Av_5 Af_1 Af_2 Af_3 Af_4 Af_5 Af_6 Af_7 Af_8)) (fun (u : (Int32) × (Int32) × (Int32) × (Int32) × (Int32) × (Int32) × (Int32)) => match u with | (oo0x1, oo0x2, oo0x3, oo0x4, oo0x5, oo0x6, oo0x7) => [(Wa_0, .inr (0, [.ref Aa_0])), (Aa_0, .inr (9, [.int oo0x1, .int oo0x2, .int oo0x3, .int Av_3, .int Av_4, .int Av_5, .ref Aa_1, .ref Aa_2, .ref Aa_3, .ref Aa_4, .ref Aa_5, .ref Aa_6, .ref Aa_7, .ref Aa_8])), (Aa_1, .inl (tc 0, 10, .inl Af_1)), (Aa_2, .inl (tc 0, 10, .inl Af_2)), (Aa_3, .inl (tc 0, 6, .inl Af_3)), (Aa_4, .inl (tc 0, 6, .inl Af_4)), (Aa_5, .inl (tc 0, 6, .inl Af_5)), (Aa_6, .inl (tc 0, 6, .inl Af_6)), (Aa_7, .inl (tc 0, 6, .inl Af_7)), (Aa_8, .inl (tc 0, 6, .inl Af_8)), (Ta_0, .inr (10, [.ref Ta_1, .int Tv_0, .int oo0x4, .int oo0x5, .int oo0x6, .int oo0x7])), (Ta_1, .inl (tc 0, 400, .inl Tf_1))]) 0 0 :=
  ct_zX0_readBook l D tc sk (fun k => ([Wa_0] : List (Nat)).getD k 0) (fun k => ([Aa_0, Aa_1, Aa_2, Aa_3, Aa_4, Aa_5, Aa_6, Aa_7, Aa_8] : List (Nat)).getD k 0) (fun k => ([Av_0, Av_1, Av_2, Av_3, Av_4, Av_5] : List (Int32)).getD k 0) (fun k => ([(fun _ => 0), Af_1, Af_2, Af_3, Af_4, Af_5, Af_6, Af_7, Af_8] : List (Nat → Int32)).getD k (fun _ => 0)) (fun k => ([Ta_0, Ta_1] : List (Nat)).getD k 0) (fun k => ([Tv_0, Tv_1, Tv_2, Tv_3, Tv_4] : List (Int32)).getD k 0) (fun k => ([(fun _ => 0), Tf_1] : List (Nat → Int32)).getD k (fun _ => 0)) rr C h_tape h_by h_r h_bu h_c
set_option maxHeartbeats 4000000 in
set_option maxRecDepth 100000 in
theorem ct_zX0_readSky (l : Launch) (D : va_G) (tc : Nat → ClassId) (sk : (Nat → Nat) × (Nat → Nat)) (Wa : Nat → Nat) (Aa : Nat → Nat) (Av : Nat → Int32) (Af : Nat → Nat → Int32) (Ta : Nat → Nat) (Tv : Nat → Int32) (Tf : Nat → Nat → Int32) (rr : Except Int (Nat × Nat)) (C : Nat → Int) (h_tape : 0 ≤ ((Tv 0) : Int32).toInt ∧ ((Tv 0) : Int32).toInt ≤ 400 ∧ 0 ≤ ((Tv 1) : Int32).toInt ∧ ((Tv 1) : Int32).toInt ≤ 400 ∧ 0 ≤ ((Tv 2) : Int32).toInt ∧ ((Tv 2) : Int32).toInt ≤ 400) (h_by : Byt (Tf 1)) (h_r : TpR (Tf 1) (Tv 0) rr (Tv 1) (Tv 2) (Tv 3) (Tv 4)) (h_bu : 0 ≤ ((Av 3) : Int32).toInt ∧ ((Av 3) : Int32).toInt ≤ 6) (h_c : QcI rr (Av 0) (Av 1) (Av 2) (Av 3) (Av 4) (Av 5) (Af 1) (Af 2) (Af 3) (Af 4) (Af 5) (Af 6) (Af 7) (Af 8) C) : Ct l yX0_readSky cX0_readSky 4 none { frames := 3, cells := 0, slots := 0, locals := 68 } D tc sk [.ref (Wa 0), .ref (Ta 0)] [((Wa 0), .inr (0, [.ref (Aa 0)])), ((Aa 0), .inr (9, [.int (Av 0), .int (Av 1), .int (Av 2), .int (Av 3), .int (Av 4), .int (Av 5), .ref (Aa 1), .ref (Aa 2), .ref (Aa 3), .ref (Aa 4), .ref (Aa 5), .ref (Aa 6), .ref (Aa 7), .ref (Aa 8)])), ((Aa 1), .inl (tc 0, 10, .inl (Af 1))), ((Aa 2), .inl (tc 0, 10, .inl (Af 2))), ((Aa 3), .inl (tc 0, 6, .inl (Af 3))), ((Aa 4), .inl (tc 0, 6, .inl (Af 4))), ((Aa 5), .inl (tc 0, 6, .inl (Af 5))), ((Aa 6), .inl (tc 0, 6, .inl (Af 6))), ((Aa 7), .inl (tc 0, 6, .inl (Af 7))), ((Aa 8), .inl (tc 0, 6, .inl (Af 8))), ((Ta 0), .inr (10, [.ref (Ta 1), .int (Tv 0), .int (Tv 1), .int (Tv 2), .int (Tv 3), .int (Tv 4)])), ((Ta 1), .inl (tc 0, 400, .inl (Tf 1)))] (fun (v : Option Value) (u : (Nat → Int32) × (Int32) × (Int32) × (Int32) × (Int32)) => match u with | (oo0x1, oo0x2, oo0x3, oo0x4, oo0x5) => v = none ∧ (0 ≤ ((Tv 0) : Int32).toInt ∧ ((Tv 0) : Int32).toInt ≤ 400 ∧ 0 ≤ (oo0x2 : Int32).toInt ∧ (oo0x2 : Int32).toInt ≤ 400 ∧ 0 ≤ (oo0x3 : Int32).toInt ∧ (oo0x3 : Int32).toInt ≤ 400) ∧ (0 ≤ ((Av 3) : Int32).toInt ∧ ((Av 3) : Int32).toInt ≤ 6) ∧ (TpR (Tf 1) (Tv 0) (rN1 (cB (Tf 1) (Tv 0)) 0 9 (rN1 (cB (Tf 1) (Tv 0)) 0 ((Av 2) - 1 : Int32).toInt rr)) oo0x2 oo0x3 oo0x4 oo0x5) ∧ (QsQ (qz_k1 (cB (Tf 1) (Tv 0)) C rr) (Av 0) (Av 1) (Av 2) (Av 3) (Av 4) (Av 5) oo0x1 (Af 2) (Af 3) (Af 4) (Af 5) (Af 6) (Af 7) (Af 8))) (fun (u : (Nat → Int32) × (Int32) × (Int32) × (Int32) × (Int32)) => match u with | (oo0x1, oo0x2, oo0x3, oo0x4, oo0x5) => [((Wa 0), .inr (0, [.ref (Aa 0)])), ((Aa 0), .inr (9, [.int (Av 0), .int (Av 1), .int (Av 2), .int (Av 3), .int (Av 4), .int (Av 5), .ref (Aa 1), .ref (Aa 2), .ref (Aa 3), .ref (Aa 4), .ref (Aa 5), .ref (Aa 6), .ref (Aa 7), .ref (Aa 8)])), ((Aa 1), .inl (tc 0, 10, .inl oo0x1)), ((Aa 2), .inl (tc 0, 10, .inl (Af 2))), ((Aa 3), .inl (tc 0, 6, .inl (Af 3))), ((Aa 4), .inl (tc 0, 6, .inl (Af 4))), ((Aa 5), .inl (tc 0, 6, .inl (Af 5))), ((Aa 6), .inl (tc 0, 6, .inl (Af 6))), ((Aa 7), .inl (tc 0, 6, .inl (Af 7))), ((Aa 8), .inl (tc 0, 6, .inl (Af 8))), ((Ta 0), .inr (10, [.ref (Ta 1), .int (Tv 0), .int oo0x2, .int oo0x3, .int oo0x4, .int oo0x5])), ((Ta 1), .inl (tc 0, 400, .inl (Tf 1)))]) 0 0 := by
  refine Ct.start (by decide) (Nat.le_of_ble_eq_true rfl) (fun p e s m below meth c A ls hx hb hr hlk hin hml hown hts hK hX hP hD hA hl hS => ?_)
  have hl : lv_has ls 4 [(0, .ref (Wa 0)), (1, .ref (Ta 0))] := hl
  have tb_1 : TpB (rTE (cB (Tf 1) (Tv 0)) rr) (Tv 2) (Tv 4) := TpR.tb h_r
  refine lv_aload_n hx hb dX0_readSky_0 rfl (lv_at hl 1 rfl) ?_
  refine lv_iconst (v := 0) hx hb dX0_readSky_1 (by decide) ?_
  refine lv_aload_n hx hb dX0_readSky_2 rfl (lv_at hl 0 rfl) ?_
  refine gf_X0_12 hx hb hts hown hK hP 0 rfl rfl dX0_readSky_3 ?_
  refine gf_X0_80 hx hb hts hown hK hP 1 rfl rfl dX0_readSky_6 ?_
  refine lv_iconst (v := 1) hx hb dX0_readSky_9 (by decide) ?_
  refine lv_isub hx hb dX0_readSky_10 ?_
  refine lv_topi (fun x_2 ex_2 => ?_)
  have ha_3 : (0 : Int32).toInt = (0 : Int) := by
    have y_0 : (0 : Int32).toInt = 0 := by decide
    omega
  refine cV (a := (Ta 0)) (As := [.int 0, .int x_2]) (rest := []) (wr := [((Wa 0), .inr (0, [.ref (Aa 0)])), ((Aa 0), .inr (9, [.int (Av 0), .int (Av 1), .int (Av 2), .int (Av 3), .int (Av 4), .int (Av 5), .ref (Aa 1), .ref (Aa 2), .ref (Aa 3), .ref (Aa 4), .ref (Aa 5), .ref (Aa 6), .ref (Aa 7), .ref (Aa 8)])), ((Aa 1), .inl (tc 0, 10, .inl (Af 1))), ((Aa 2), .inl (tc 0, 10, .inl (Af 2))), ((Aa 3), .inl (tc 0, 6, .inl (Af 3))), ((Aa 4), .inl (tc 0, 6, .inl (Af 4))), ((Aa 5), .inl (tc 0, 6, .inl (Af 5))), ((Aa 6), .inl (tc 0, 6, .inl (Af 6))), ((Aa 7), .inl (tc 0, 6, .inl (Af 7))), ((Aa 8), .inl (tc 0, 6, .inl (Af 8)))]) ⟨hx, hb, hml, hown, hts⟩ hK hX hA (cu_fX10_takeNumber l D tc sk (Ta 0) (Ta 1) (Tv 0) (Tv 1) (Tv 2) (Tv 3) (Tv 4) (Tf 1) 0 x_2 rr 0 (((Av 2) - 1 : Int32).toInt) h_tape h_by h_r ha_3 (congrArg Int32.toInt ex_2)) k_566 k_563 k_564 k_565 k_96 pl_X10_takeNumber ⟨Nat.le_of_ble_eq_true rfl, Nat.le_of_ble_eq_true rfl⟩ rfl rfl (va_recv hK hP (ci := 10) (q0 := 10) rfl rfl) hP hD hS [10, 11] [0, 1, 2, 3, 4, 5, 6, 7, 8, 9] rfl rfl rfl rfl rfl (by decide) rfl hl.1 rfl (Nat.le_of_ble_eq_true rfl) dX0_readSky_11 ⟨Nat.le_of_ble_eq_true rfl, Nat.le_of_ble_eq_true rfl⟩ (fun v_4 u_5 H locs hv_6 hP₀ hD₀ hS₀ => ?_)
  obtain ⟨sv_7, sv_8, sv_9, sv_10⟩ := u_5
  obtain ⟨r_13, rfl, he_14, pf_11, pf_12⟩ := hv_6
  have he_14 : NuV (cB (Tf 1) (Tv 0)) (0 : Int) ((Av 2) - 1 : Int32).toInt rr r_13 := he_14
  have pf_11 : 0 ≤ ((Tv 0) : Int32).toInt ∧ ((Tv 0) : Int32).toInt ≤ 400 ∧ 0 ≤ (sv_7 : Int32).toInt ∧ (sv_7 : Int32).toInt ≤ 400 ∧ 0 ≤ (sv_8 : Int32).toInt ∧ (sv_8 : Int32).toInt ≤ 400 := pf_11
  have pf_12 : TpR (Tf 1) (Tv 0) (rNX (cB (Tf 1) (Tv 0)) (rNU (cB (Tf 1) (Tv 0)) (0 : Int) ((Av 2) - 1 : Int32).toInt rr)) sv_7 sv_8 sv_9 sv_10 := pf_12
  obtain ⟨ro_16, ero_16⟩ : ∃ z : Except Int (Nat × Nat), z = (rNX (cB (Tf 1) (Tv 0)) (rNU (cB (Tf 1) (Tv 0)) 0 ((Av 2) - 1 : Int32).toInt rr)) := ⟨_, rfl⟩
  rw [← ero_16] at pf_12
  have tb_17 : TpB (rTE (cB (Tf 1) (Tv 0)) ro_16) sv_8 sv_10 := TpR.tb pf_12
  refine W.eq (g2 := F0 m 14 ls [.int r_13]) rfl ?_
  replace hP : va_P D classes [((Wa 0), .inr (0, [.ref (Aa 0)])), ((Aa 0), .inr (9, [.int (Av 0), .int (Av 1), .int (Av 2), .int (Av 3), .int (Av 4), .int (Av 5), .ref (Aa 1), .ref (Aa 2), .ref (Aa 3), .ref (Aa 4), .ref (Aa 5), .ref (Aa 6), .ref (Aa 7), .ref (Aa 8)])), ((Aa 1), .inl (tc 0, 10, .inl (Af 1))), ((Aa 2), .inl (tc 0, 10, .inl (Af 2))), ((Aa 3), .inl (tc 0, 6, .inl (Af 3))), ((Aa 4), .inl (tc 0, 6, .inl (Af 4))), ((Aa 5), .inl (tc 0, 6, .inl (Af 5))), ((Aa 6), .inl (tc 0, 6, .inl (Af 6))), ((Aa 7), .inl (tc 0, 6, .inl (Af 7))), ((Aa 8), .inl (tc 0, 6, .inl (Af 8))), ((Ta 0), .inr (10, [.ref (Ta 1), .int (Tv 0), .int sv_7, .int sv_8, .int sv_9, .int sv_10])), ((Ta 1), .inl (tc 0, 400, .inl (Tf 1)))] H := hP₀
  replace hD : va_D A [((Wa 0), .inr (0, [.ref (Aa 0)])), ((Aa 0), .inr (9, [.int (Av 0), .int (Av 1), .int (Av 2), .int (Av 3), .int (Av 4), .int (Av 5), .ref (Aa 1), .ref (Aa 2), .ref (Aa 3), .ref (Aa 4), .ref (Aa 5), .ref (Aa 6), .ref (Aa 7), .ref (Aa 8)])), ((Aa 1), .inl (tc 0, 10, .inl (Af 1))), ((Aa 2), .inl (tc 0, 10, .inl (Af 2))), ((Aa 3), .inl (tc 0, 6, .inl (Af 3))), ((Aa 4), .inl (tc 0, 6, .inl (Af 4))), ((Aa 5), .inl (tc 0, 6, .inl (Af 5))), ((Aa 6), .inl (tc 0, 6, .inl (Af 6))), ((Aa 7), .inl (tc 0, 6, .inl (Af 7))), ((Aa 8), .inl (tc 0, 6, .inl (Af 8))), ((Ta 0), .inr (10, [.ref (Ta 1), .int (Tv 0), .int sv_7, .int sv_8, .int sv_9, .int sv_10])), ((Ta 1), .inl (tc 0, 400, .inl (Tf 1)))] := hD₀
  replace hS := hS₀
  clear hP₀ hD₀ hS₀
  refine lv_istore_n (lv' := [(2, .int r_13), (0, .ref (Wa 0)), (1, .ref (Ta 0))]) hx hb dX0_readSky_14 rfl hl (by decide) rfl (fun ls hl₀ => ?_)
  replace hl := hl₀
  clear hl₀
  refine lv_aload_n hx hb dX0_readSky_15 rfl (lv_at hl 2 rfl) ?_
  refine lv_iconst (v := 0) hx hb dX0_readSky_16 (by decide) ?_
  refine lv_bipush (v := 9) hx hb dX0_readSky_17 (by decide) ?_
  have ha_18 : (0 : Int32).toInt = (0 : Int) := by
    have y_0 : (0 : Int32).toInt = 0 := by decide
    omega
  have ha_19 : (9 : Int32).toInt = (9 : Int) := by
    have y_9 : (9 : Int32).toInt = 9 := by decide
    omega
  refine cV (a := (Ta 0)) (As := [.int 0, .int 9]) (rest := []) (wr := [((Wa 0), .inr (0, [.ref (Aa 0)])), ((Aa 0), .inr (9, [.int (Av 0), .int (Av 1), .int (Av 2), .int (Av 3), .int (Av 4), .int (Av 5), .ref (Aa 1), .ref (Aa 2), .ref (Aa 3), .ref (Aa 4), .ref (Aa 5), .ref (Aa 6), .ref (Aa 7), .ref (Aa 8)])), ((Aa 1), .inl (tc 0, 10, .inl (Af 1))), ((Aa 2), .inl (tc 0, 10, .inl (Af 2))), ((Aa 3), .inl (tc 0, 6, .inl (Af 3))), ((Aa 4), .inl (tc 0, 6, .inl (Af 4))), ((Aa 5), .inl (tc 0, 6, .inl (Af 5))), ((Aa 6), .inl (tc 0, 6, .inl (Af 6))), ((Aa 7), .inl (tc 0, 6, .inl (Af 7))), ((Aa 8), .inl (tc 0, 6, .inl (Af 8)))]) ⟨hx, hb, hml, hown, hts⟩ hK hX hA (cu_fX10_takeNumber l D tc sk (Ta 0) (Ta 1) (Tv 0) sv_7 sv_8 sv_9 sv_10 (Tf 1) 0 9 ro_16 0 9 pf_11 h_by pf_12 ha_18 ha_19) k_566 k_563 k_564 k_565 k_96 pl_X10_takeNumber ⟨Nat.le_of_ble_eq_true rfl, Nat.le_of_ble_eq_true rfl⟩ rfl rfl (va_recv hK hP (ci := 10) (q0 := 10) rfl rfl) hP hD hS [10, 11] [0, 1, 2, 3, 4, 5, 6, 7, 8, 9] rfl rfl rfl rfl rfl (by decide) rfl hl.1 rfl (Nat.le_of_ble_eq_true rfl) dX0_readSky_19 ⟨Nat.le_of_ble_eq_true rfl, Nat.le_of_ble_eq_true rfl⟩ (fun v_20 u_21 H locs hv_22 hP₀ hD₀ hS₀ => ?_)
  obtain ⟨sv_23, sv_24, sv_25, sv_26⟩ := u_21
  obtain ⟨r_29, rfl, he_30, pf_27, pf_28⟩ := hv_22
  have he_30 : NuV (cB (Tf 1) (Tv 0)) (0 : Int) (9 : Int) ro_16 r_29 := he_30
  have pf_27 : 0 ≤ ((Tv 0) : Int32).toInt ∧ ((Tv 0) : Int32).toInt ≤ 400 ∧ 0 ≤ (sv_23 : Int32).toInt ∧ (sv_23 : Int32).toInt ≤ 400 ∧ 0 ≤ (sv_24 : Int32).toInt ∧ (sv_24 : Int32).toInt ≤ 400 := pf_27
  have pf_28 : TpR (Tf 1) (Tv 0) (rNX (cB (Tf 1) (Tv 0)) (rNU (cB (Tf 1) (Tv 0)) (0 : Int) (9 : Int) ro_16)) sv_23 sv_24 sv_25 sv_26 := pf_28
  obtain ⟨ro_32, ero_32⟩ : ∃ z : Except Int (Nat × Nat), z = (rNX (cB (Tf 1) (Tv 0)) (rNU (cB (Tf 1) (Tv 0)) 0 9 ro_16)) := ⟨_, rfl⟩
  rw [← ero_32] at pf_28
  have tb_33 : TpB (rTE (cB (Tf 1) (Tv 0)) ro_32) sv_24 sv_26 := TpR.tb pf_28
  refine W.eq (g2 := F0 m 22 ls [.int r_29]) rfl ?_
  replace hP : va_P D classes [((Wa 0), .inr (0, [.ref (Aa 0)])), ((Aa 0), .inr (9, [.int (Av 0), .int (Av 1), .int (Av 2), .int (Av 3), .int (Av 4), .int (Av 5), .ref (Aa 1), .ref (Aa 2), .ref (Aa 3), .ref (Aa 4), .ref (Aa 5), .ref (Aa 6), .ref (Aa 7), .ref (Aa 8)])), ((Aa 1), .inl (tc 0, 10, .inl (Af 1))), ((Aa 2), .inl (tc 0, 10, .inl (Af 2))), ((Aa 3), .inl (tc 0, 6, .inl (Af 3))), ((Aa 4), .inl (tc 0, 6, .inl (Af 4))), ((Aa 5), .inl (tc 0, 6, .inl (Af 5))), ((Aa 6), .inl (tc 0, 6, .inl (Af 6))), ((Aa 7), .inl (tc 0, 6, .inl (Af 7))), ((Aa 8), .inl (tc 0, 6, .inl (Af 8))), ((Ta 0), .inr (10, [.ref (Ta 1), .int (Tv 0), .int sv_23, .int sv_24, .int sv_25, .int sv_26])), ((Ta 1), .inl (tc 0, 400, .inl (Tf 1)))] H := hP₀
  replace hD : va_D A [((Wa 0), .inr (0, [.ref (Aa 0)])), ((Aa 0), .inr (9, [.int (Av 0), .int (Av 1), .int (Av 2), .int (Av 3), .int (Av 4), .int (Av 5), .ref (Aa 1), .ref (Aa 2), .ref (Aa 3), .ref (Aa 4), .ref (Aa 5), .ref (Aa 6), .ref (Aa 7), .ref (Aa 8)])), ((Aa 1), .inl (tc 0, 10, .inl (Af 1))), ((Aa 2), .inl (tc 0, 10, .inl (Af 2))), ((Aa 3), .inl (tc 0, 6, .inl (Af 3))), ((Aa 4), .inl (tc 0, 6, .inl (Af 4))), ((Aa 5), .inl (tc 0, 6, .inl (Af 5))), ((Aa 6), .inl (tc 0, 6, .inl (Af 6))), ((Aa 7), .inl (tc 0, 6, .inl (Af 7))), ((Aa 8), .inl (tc 0, 6, .inl (Af 8))), ((Ta 0), .inr (10, [.ref (Ta 1), .int (Tv 0), .int sv_23, .int sv_24, .int sv_25, .int sv_26])), ((Ta 1), .inl (tc 0, 400, .inl (Tf 1)))] := hD₀
  replace hS := hS₀
  clear hP₀ hD₀ hS₀
  refine lv_istore_n (lv' := [(3, .int r_29), (2, .int r_13), (0, .ref (Wa 0)), (1, .ref (Ta 0))]) hx hb dX0_readSky_22 rfl hl (by decide) rfl (fun ls hl₀ => ?_)
  replace hl := hl₀
  clear hl₀
  refine lv_aload_n hx hb dX0_readSky_23 rfl (lv_at hl 2 rfl) ?_
  refine gf_X0_12 hx hb hts hown hK hP 0 rfl rfl dX0_readSky_24 ?_
  refine lv_iload_n hx hb dX0_readSky_27 rfl (lv_at hl 1 rfl) ?_
  refine cV (a := (Aa 0)) (As := [.int r_13]) (rest := []) (wr := [((Wa 0), .inr (0, [.ref (Aa 0)])), ((Ta 0), .inr (10, [.ref (Ta 1), .int (Tv 0), .int sv_23, .int sv_24, .int sv_25, .int sv_26])), ((Ta 1), .inl (tc 0, 400, .inl (Tf 1)))]) ⟨hx, hb, hml, hown, hts⟩ hK hX hA (cu_zX9_hasClock l D tc sk (Aa 0) (Aa 1) (Aa 2) (Aa 3) (Aa 4) (Aa 5) (Aa 6) (Aa 7) (Aa 8) (Av 0) (Av 1) (Av 2) (Av 3) (Av 4) (Av 5) (Af 1) (Af 2) (Af 3) (Af 4) (Af 5) (Af 6) (Af 7) (Af 8) r_13) k_579 k_576 k_577 k_578 k_98 pl_X9_hasClock ⟨Nat.le_of_ble_eq_true rfl, Nat.le_of_ble_eq_true rfl⟩ rfl rfl (va_recv hK hP (ci := 9) (q0 := 1) rfl rfl) hP hD hS [1, 2, 3, 4, 5, 6, 7, 8, 9] [0, 10, 11] rfl rfl rfl rfl rfl (by decide) rfl hl.1 rfl (Nat.le_of_ble_eq_true rfl) dX0_readSky_28 ⟨Nat.le_of_ble_eq_true rfl, Nat.le_of_ble_eq_true rfl⟩ (fun v_34 u_35 H locs hv_36 hP₀ hD₀ hS₀ => ?_)
  obtain ⟨r_37, rfl, he_38⟩ := hv_36
  have he_38 : ((r_37.toInt = 0 ∧ ¬ (0 ≤ r_13.toInt ∧ r_13.toInt < (Av 2).toInt ∧ r_13.toInt < 10)) ∨ (r_37.toInt = 1 ∧ (0 ≤ r_13.toInt ∧ r_13.toInt < (Av 2).toInt ∧ r_13.toInt < 10))) := he_38
  refine W.eq (g2 := F0 m 31 ls [.int r_37]) rfl ?_
  replace hP : va_P D classes [((Wa 0), .inr (0, [.ref (Aa 0)])), ((Ta 0), .inr (10, [.ref (Ta 1), .int (Tv 0), .int sv_23, .int sv_24, .int sv_25, .int sv_26])), ((Ta 1), .inl (tc 0, 400, .inl (Tf 1))), ((Aa 0), .inr (9, [.int (Av 0), .int (Av 1), .int (Av 2), .int (Av 3), .int (Av 4), .int (Av 5), .ref (Aa 1), .ref (Aa 2), .ref (Aa 3), .ref (Aa 4), .ref (Aa 5), .ref (Aa 6), .ref (Aa 7), .ref (Aa 8)])), ((Aa 1), .inl (tc 0, 10, .inl (Af 1))), ((Aa 2), .inl (tc 0, 10, .inl (Af 2))), ((Aa 3), .inl (tc 0, 6, .inl (Af 3))), ((Aa 4), .inl (tc 0, 6, .inl (Af 4))), ((Aa 5), .inl (tc 0, 6, .inl (Af 5))), ((Aa 6), .inl (tc 0, 6, .inl (Af 6))), ((Aa 7), .inl (tc 0, 6, .inl (Af 7))), ((Aa 8), .inl (tc 0, 6, .inl (Af 8)))] H := hP₀
  replace hD : va_D A [((Wa 0), .inr (0, [.ref (Aa 0)])), ((Ta 0), .inr (10, [.ref (Ta 1), .int (Tv 0), .int sv_23, .int sv_24, .int sv_25, .int sv_26])), ((Ta 1), .inl (tc 0, 400, .inl (Tf 1))), ((Aa 0), .inr (9, [.int (Av 0), .int (Av 1), .int (Av 2), .int (Av 3), .int (Av 4), .int (Av 5), .ref (Aa 1), .ref (Aa 2), .ref (Aa 3), .ref (Aa 4), .ref (Aa 5), .ref (Aa 6), .ref (Aa 7), .ref (Aa 8)])), ((Aa 1), .inl (tc 0, 10, .inl (Af 1))), ((Aa 2), .inl (tc 0, 10, .inl (Af 2))), ((Aa 3), .inl (tc 0, 6, .inl (Af 3))), ((Aa 4), .inl (tc 0, 6, .inl (Af 4))), ((Aa 5), .inl (tc 0, 6, .inl (Af 5))), ((Aa 6), .inl (tc 0, 6, .inl (Af 6))), ((Aa 7), .inl (tc 0, 6, .inl (Af 7))), ((Aa 8), .inl (tc 0, 6, .inl (Af 8)))] := hD₀
  replace hS := hS₀
  clear hP₀ hD₀ hS₀
  refine lv_if_eq (tgt := 44) hx hb dX0_readSky_31 (by decide) (fun c_40 => ?_) (fun c_40 => ?_)
  · skip
    have hu_41 : TpR (Tf 1) (Tv 0) (rNX (cB (Tf 1) (Tv 0)) (rNU (cB (Tf 1) (Tv 0)) 0 9 (rNX (cB (Tf 1) (Tv 0)) (rNU (cB (Tf 1) (Tv 0)) 0 ((Av 2) - 1 : Int32).toInt rr)))) sv_23 sv_24 sv_25 sv_26 := by
      rw [← ero_16, ← ero_32]
      exact pf_28
    have hf_42 : TpR (Tf 1) (Tv 0) (rN1 (cB (Tf 1) (Tv 0)) 0 9 (rN1 (cB (Tf 1) (Tv 0)) 0 ((Av 2) - 1 : Int32).toInt rr)) sv_23 sv_24 sv_25 sv_26 := hu_41
    have hv_43 : NuV (cB (Tf 1) (Tv 0)) 0 ((Av 2) - 1 : Int32).toInt rr r_13 := by
      have hq := he_14
      exact hq
    have hv_44 : NuV (cB (Tf 1) (Tv 0)) 0 9 (rN1 (cB (Tf 1) (Tv 0)) 0 ((Av 2) - 1 : Int32).toInt rr) r_29 := by
      have hq := he_30
      rw [ero_16] at hq
      exact hq
    have hr_46 : ¬ (0 ≤ (r_13 : Int32).toInt ∧ (r_13 : Int32).toInt < (Av 2).toInt ∧ (r_13 : Int32).toInt < 10) := by
      have z_1 := congrArg Int32.toInt c_40
      have y_0 : (0 : Int32).toInt = 0 := by decide
      omega
    have hs_45 : QsQ (qz_k1 (cB (Tf 1) (Tv 0)) C rr) (Av 0) (Av 1) (Av 2) (Av 3) (Av 4) (Av 5) (Af 1) (Af 2) (Af 3) (Af 4) (Af 5) (Af 6) (Af 7) (Af 8) := QsQ.n1 h_c hv_43 hr_46
    exact retV hx hb hr hlk hP hD hS ((Af 1), sv_23, sv_24, sv_25, sv_26) ⟨rfl, pf_27, h_bu, hf_42, hs_45⟩ [0, 3, 4, 5, 6, 7, 8, 9, 10, 11, 1, 2] rfl rfl dX0_readSky_44 (Nat.le_of_ble_eq_true rfl) (Nat.le_of_ble_eq_true rfl) rfl
  · skip
    refine lv_aload_n hx hb dX0_readSky_34 rfl (lv_at hl 2 rfl) ?_
    refine gf_X0_12 hx hb hts hown hK hP 0 rfl rfl dX0_readSky_35 ?_
    refine gf_X0_87 hx hb hts hown hK hP 3 rfl rfl dX0_readSky_38 ?_
    refine lv_iload_n hx hb dX0_readSky_41 rfl (lv_at hl 1 rfl) ?_
    refine lv_iload_n hx hb dX0_readSky_42 rfl (lv_at hl 0 rfl) ?_
    have hi_47 : vp_in r_13 10 := by
      have z_1 : ¬ (r_37 : Int32).toInt = (0 : Int32).toInt := fun z => c_40 (Int32.toInt_inj.mp z)
      have y_0 : (0 : Int32).toInt = 0 := by decide
      refine vp_in_iff.mpr ⟨?_, ?_⟩ <;> omega
    refine st_int hx hb hK hP hD hS 4 0 rfl rfl hi_47 dX0_readSky_43 (fun g_48 H locs eg_48 hP₀ hD₀ hS₀ => ?_)
    replace hP : va_P D classes [((Wa 0), .inr (0, [.ref (Aa 0)])), ((Ta 0), .inr (10, [.ref (Ta 1), .int (Tv 0), .int sv_23, .int sv_24, .int sv_25, .int sv_26])), ((Ta 1), .inl (tc 0, 400, .inl (Tf 1))), ((Aa 0), .inr (9, [.int (Av 0), .int (Av 1), .int (Av 2), .int (Av 3), .int (Av 4), .int (Av 5), .ref (Aa 1), .ref (Aa 2), .ref (Aa 3), .ref (Aa 4), .ref (Aa 5), .ref (Aa 6), .ref (Aa 7), .ref (Aa 8)])), ((Aa 1), .inl (tc 0, 10, .inl g_48)), ((Aa 2), .inl (tc 0, 10, .inl (Af 2))), ((Aa 3), .inl (tc 0, 6, .inl (Af 3))), ((Aa 4), .inl (tc 0, 6, .inl (Af 4))), ((Aa 5), .inl (tc 0, 6, .inl (Af 5))), ((Aa 6), .inl (tc 0, 6, .inl (Af 6))), ((Aa 7), .inl (tc 0, 6, .inl (Af 7))), ((Aa 8), .inl (tc 0, 6, .inl (Af 8)))] H := hP₀
    replace hD : va_D A [((Wa 0), .inr (0, [.ref (Aa 0)])), ((Ta 0), .inr (10, [.ref (Ta 1), .int (Tv 0), .int sv_23, .int sv_24, .int sv_25, .int sv_26])), ((Ta 1), .inl (tc 0, 400, .inl (Tf 1))), ((Aa 0), .inr (9, [.int (Av 0), .int (Av 1), .int (Av 2), .int (Av 3), .int (Av 4), .int (Av 5), .ref (Aa 1), .ref (Aa 2), .ref (Aa 3), .ref (Aa 4), .ref (Aa 5), .ref (Aa 6), .ref (Aa 7), .ref (Aa 8)])), ((Aa 1), .inl (tc 0, 10, .inl g_48)), ((Aa 2), .inl (tc 0, 10, .inl (Af 2))), ((Aa 3), .inl (tc 0, 6, .inl (Af 3))), ((Aa 4), .inl (tc 0, 6, .inl (Af 4))), ((Aa 5), .inl (tc 0, 6, .inl (Af 5))), ((Aa 6), .inl (tc 0, 6, .inl (Af 6))), ((Aa 7), .inl (tc 0, 6, .inl (Af 7))), ((Aa 8), .inl (tc 0, 6, .inl (Af 8)))] := hD₀
    replace hS := hS₀
    clear hP₀ hD₀ hS₀
    have hu_49 : TpR (Tf 1) (Tv 0) (rNX (cB (Tf 1) (Tv 0)) (rNU (cB (Tf 1) (Tv 0)) 0 9 (rNX (cB (Tf 1) (Tv 0)) (rNU (cB (Tf 1) (Tv 0)) 0 ((Av 2) - 1 : Int32).toInt rr)))) sv_23 sv_24 sv_25 sv_26 := by
      rw [← ero_16, ← ero_32]
      exact pf_28
    have hf_50 : TpR (Tf 1) (Tv 0) (rN1 (cB (Tf 1) (Tv 0)) 0 9 (rN1 (cB (Tf 1) (Tv 0)) 0 ((Av 2) - 1 : Int32).toInt rr)) sv_23 sv_24 sv_25 sv_26 := hu_49
    have hv_51 : NuV (cB (Tf 1) (Tv 0)) 0 ((Av 2) - 1 : Int32).toInt rr r_13 := by
      have hq := he_14
      exact hq
    have hv_52 : NuV (cB (Tf 1) (Tv 0)) 0 9 (rN1 (cB (Tf 1) (Tv 0)) 0 ((Av 2) - 1 : Int32).toInt rr) r_29 := by
      have hq := he_30
      rw [ero_16] at hq
      exact hq
    have hs_53 : QsQ (qz_k1 (cB (Tf 1) (Tv 0)) C rr) (Av 0) (Av 1) (Av 2) (Av 3) (Av 4) (Av 5) g_48 (Af 2) (Af 3) (Af 4) (Af 5) (Af 6) (Af 7) (Af 8) := QsQ.b1 h_c hv_51 hv_52 eg_48
    exact retV hx hb hr hlk hP hD hS (g_48, sv_23, sv_24, sv_25, sv_26) ⟨rfl, pf_27, h_bu, hf_50, hs_53⟩ [0, 3, 4, 5, 6, 7, 8, 9, 10, 11, 1, 2] rfl rfl dX0_readSky_44 (Nat.le_of_ble_eq_true rfl) (Nat.le_of_ble_eq_true rfl) rfl
set_option maxRecDepth 100000 in
theorem cu_zX0_readSky (l : Launch) (D : va_G) (tc : Nat → ClassId) (sk : (Nat → Nat) × (Nat → Nat)) (Wa_0 : Nat) (Aa_0 : Nat) (Aa_1 : Nat) (Aa_2 : Nat) (Aa_3 : Nat) (Aa_4 : Nat) (Aa_5 : Nat) (Aa_6 : Nat) (Aa_7 : Nat) (Aa_8 : Nat) (Av_0 : Int32) (Av_1 : Int32) (Av_2 : Int32) (Av_3 : Int32) (Av_4 : Int32) (Av_5 : Int32) (Af_1 : Nat → Int32) (Af_2 : Nat → Int32) (Af_3 : Nat → Int32) (Af_4 : Nat → Int32) (Af_5 : Nat → Int32) (Af_6 : Nat → Int32) (Af_7 : Nat → Int32) (Af_8 : Nat → Int32) (Ta_0 : Nat) (Ta_1 : Nat) (Tv_0 : Int32) (Tv_1 : Int32) (Tv_2 : Int32) (Tv_3 : Int32) (Tv_4 : Int32) (Tf_1 : Nat → Int32) (rr : Except Int (Nat × Nat)) (C : Nat → Int) (h_tape : 0 ≤ (Tv_0 : Int32).toInt ∧ (Tv_0 : Int32).toInt ≤ 400 ∧ 0 ≤ (Tv_1 : Int32).toInt ∧ (Tv_1 : Int32).toInt ≤ 400 ∧ 0 ≤ (Tv_2 : Int32).toInt ∧ (Tv_2 : Int32).toInt ≤ 400) (h_by : Byt Tf_1) (h_r : TpR Tf_1 Tv_0 rr Tv_1 Tv_2 Tv_3 Tv_4) (h_bu : 0 ≤ (Av_3 : Int32).toInt ∧ (Av_3 : Int32).toInt ≤ 6) (h_c : QcI rr Av_0 Av_1 Av_2 Av_3 Av_4 Av_5 Af_1 Af_2 Af_3 Af_4 Af_5 Af_6 Af_7 Af_8 C) : Ct l yX0_readSky cX0_readSky 4 none { frames := 3, cells := 0, slots := 0, locals := 68 } D tc sk [.ref Wa_0, .ref Ta_0] [(Wa_0, .inr (0, [.ref Aa_0])), (Aa_0, .inr (9, [.int Av_0, .int Av_1, .int Av_2, .int Av_3, .int Av_4, .int Av_5, .ref Aa_1, .ref Aa_2, .ref Aa_3, .ref Aa_4, .ref Aa_5, .ref Aa_6, .ref Aa_7, .ref Aa_8])), (Aa_1, .inl (tc 0, 10, .inl Af_1)), (Aa_2, .inl (tc 0, 10, .inl Af_2)), (Aa_3, .inl (tc 0, 6, .inl Af_3)), (Aa_4, .inl (tc 0, 6, .inl Af_4)), (Aa_5, .inl (tc 0, 6, .inl Af_5)), (Aa_6, .inl (tc 0, 6, .inl Af_6)), (Aa_7, .inl (tc 0, 6, .inl Af_7)), (Aa_8, .inl (tc 0, 6, .inl Af_8)), (Ta_0, .inr (10, [.ref Ta_1, .int Tv_0, .int Tv_1, .int Tv_2, .int Tv_3, .int Tv_4])), (Ta_1, .inl (tc 0, 400, .inl Tf_1))] (fun (v : Option Value) (u : (Nat → Int32) × (Int32) × (Int32) × (Int32) × (Int32)) => match u with | (oo0x1, oo0x2, oo0x3, oo0x4, oo0x5) => v = none ∧ (0 ≤ (Tv_0 : Int32).toInt ∧ (Tv_0 : Int32).toInt ≤ 400 ∧ 0 ≤ (oo0x2 : Int32).toInt ∧ (oo0x2 : Int32).toInt ≤ 400 ∧ 0 ≤ (oo0x3 : Int32).toInt ∧ (oo0x3 : Int32).toInt ≤ 400) ∧ (0 ≤ (Av_3 : Int32).toInt ∧ (Av_3 : Int32).toInt ≤ 6) ∧ (TpR Tf_1 Tv_0 (rN1 (cB Tf_1 Tv_0) 0 9 (rN1 (cB Tf_1 Tv_0) 0 (Av_2 - 1 : Int32).toInt rr)) oo0x2 oo0x3 oo0x4 oo0x5) ∧ (QsQ (qz_k1 (cB Tf_1 Tv_0) C rr) Av_0 Av_1 Av_2 Av_3 Av_4 Av_5 oo0x1 Af_2 Af_3 Af_4 Af_5 Af_6 Af_7 Af_8)) (fun (u : (Nat → Int32) × (Int32) × (Int32) × (Int32) × (Int32)) => match u with | (oo0x1, oo0x2, oo0x3, oo0x4, oo0x5) => [(Wa_0, .inr (0, [.ref Aa_0])), (Aa_0, .inr (9, [.int Av_0, .int Av_1, .int Av_2, .int Av_3, .int Av_4, .int Av_5, .ref Aa_1, .ref Aa_2, .ref Aa_3, .ref Aa_4, .ref Aa_5, .ref Aa_6, .ref Aa_7, .ref Aa_8])), (Aa_1, .inl (tc 0, 10, .inl oo0x1)), (Aa_2, .inl (tc 0, 10, .inl Af_2)), (Aa_3, .inl (tc 0, 6, .inl Af_3)), (Aa_4, .inl (tc 0, 6, .inl Af_4)), (Aa_5, .inl (tc 0, 6, .inl Af_5)), (Aa_6, .inl (tc 0, 6, .inl Af_6)), (Aa_7, .inl (tc 0, 6, .inl Af_7)), (Aa_8, .inl (tc 0, 6, .inl Af_8)), (Ta_0, .inr (10, [.ref Ta_1, .int Tv_0, .int oo0x2, .int oo0x3, .int oo0x4, .int oo0x5])), (Ta_1, .inl (tc 0, 400, .inl Tf_1))]) 0 0 :=
  ct_zX0_readSky l D tc sk (fun k => ([Wa_0] : List (Nat)).getD k 0) (fun k => ([Aa_0, Aa_1, Aa_2, Aa_3, Aa_4, Aa_5, Aa_6, Aa_7, Aa_8] : List (Nat)).getD k 0) (fun k => ([Av_0, Av_1, Av_2, Av_3, Av_4, Av_5] : List (Int32)).getD k 0) (fun k => ([(fun _ => 0), Af_1, Af_2, Af_3, Af_4, Af_5, Af_6, Af_7, Af_8] : List (Nat → Int32)).getD k (fun _ => 0)) (fun k => ([Ta_0, Ta_1] : List (Nat)).getD k 0) (fun k => ([Tv_0, Tv_1, Tv_2, Tv_3, Tv_4] : List (Int32)).getD k 0) (fun k => ([(fun _ => 0), Tf_1] : List (Nat → Int32)).getD k (fun _ => 0)) rr C h_tape h_by h_r h_bu h_c
set_option maxHeartbeats 4000000 in
set_option maxRecDepth 100000 in
theorem ct_zX0_readBuyer (l : Launch) (D : va_G) (tc : Nat → ClassId) (sk : (Nat → Nat) × (Nat → Nat)) (Wa : Nat → Nat) (Aa : Nat → Nat) (Av : Nat → Int32) (Af : Nat → Nat → Int32) (Ta : Nat → Nat) (Tv : Nat → Int32) (Tf : Nat → Nat → Int32) (rr : Except Int (Nat × Nat)) (C : Nat → Int) (h_tape : 0 ≤ ((Tv 0) : Int32).toInt ∧ ((Tv 0) : Int32).toInt ≤ 400 ∧ 0 ≤ ((Tv 1) : Int32).toInt ∧ ((Tv 1) : Int32).toInt ≤ 400 ∧ 0 ≤ ((Tv 2) : Int32).toInt ∧ ((Tv 2) : Int32).toInt ≤ 400) (h_by : Byt (Tf 1)) (h_r : TpR (Tf 1) (Tv 0) rr (Tv 1) (Tv 2) (Tv 3) (Tv 4)) (h_b6 : 0 ≤ (Av 3).toInt ∧ (Av 3).toInt < 6) (h_c : QcI rr (Av 0) (Av 1) (Av 2) (Av 3) (Av 4) (Av 5) (Af 1) (Af 2) (Af 3) (Af 4) (Af 5) (Af 6) (Af 7) (Af 8) C) : Ct l yX0_readBuyer cX0_readBuyer 3 none { frames := 3, cells := 0, slots := 0, locals := 68 } D tc sk [.ref (Wa 0), .ref (Ta 0)] [((Wa 0), .inr (0, [.ref (Aa 0)])), ((Aa 0), .inr (9, [.int (Av 0), .int (Av 1), .int (Av 2), .int (Av 3), .int (Av 4), .int (Av 5), .ref (Aa 1), .ref (Aa 2), .ref (Aa 3), .ref (Aa 4), .ref (Aa 5), .ref (Aa 6), .ref (Aa 7), .ref (Aa 8)])), ((Aa 1), .inl (tc 0, 10, .inl (Af 1))), ((Aa 2), .inl (tc 0, 10, .inl (Af 2))), ((Aa 3), .inl (tc 0, 6, .inl (Af 3))), ((Aa 4), .inl (tc 0, 6, .inl (Af 4))), ((Aa 5), .inl (tc 0, 6, .inl (Af 5))), ((Aa 6), .inl (tc 0, 6, .inl (Af 6))), ((Aa 7), .inl (tc 0, 6, .inl (Af 7))), ((Aa 8), .inl (tc 0, 6, .inl (Af 8))), ((Ta 0), .inr (10, [.ref (Ta 1), .int (Tv 0), .int (Tv 1), .int (Tv 2), .int (Tv 3), .int (Tv 4)])), ((Ta 1), .inl (tc 0, 400, .inl (Tf 1)))] (fun (v : Option Value) (u : (Int32) × (Nat → Int32) × (Nat → Int32) × (Nat → Int32) × (Int32) × (Int32) × (Int32) × (Int32)) => match u with | (oo0x1, oo0x2, oo0x3, oo0x4, oo0x5, oo0x6, oo0x7, oo0x8) => v = none ∧ (0 ≤ ((Tv 0) : Int32).toInt ∧ ((Tv 0) : Int32).toInt ≤ 400 ∧ 0 ≤ (oo0x5 : Int32).toInt ∧ (oo0x5 : Int32).toInt ≤ 400 ∧ 0 ≤ (oo0x6 : Int32).toInt ∧ (oo0x6 : Int32).toInt ≤ 400) ∧ (0 ≤ (oo0x1 : Int32).toInt ∧ (oo0x1 : Int32).toInt ≤ 6) ∧ (TpR (Tf 1) (Tv 0) (rN1 (cB (Tf 1) (Tv 0)) 0 9 (rN1 (cB (Tf 1) (Tv 0)) 1 9 (rN1 (cB (Tf 1) (Tv 0)) 0 20 rr))) oo0x5 oo0x6 oo0x7 oo0x8) ∧ (QsQ (qz_k2 (cB (Tf 1) (Tv 0)) C rr) (Av 0) (Av 1) (Av 2) oo0x1 (Av 4) (Av 5) (Af 1) (Af 2) oo0x2 oo0x3 oo0x4 (Af 6) (Af 7) (Af 8))) (fun (u : (Int32) × (Nat → Int32) × (Nat → Int32) × (Nat → Int32) × (Int32) × (Int32) × (Int32) × (Int32)) => match u with | (oo0x1, oo0x2, oo0x3, oo0x4, oo0x5, oo0x6, oo0x7, oo0x8) => [((Wa 0), .inr (0, [.ref (Aa 0)])), ((Aa 0), .inr (9, [.int (Av 0), .int (Av 1), .int (Av 2), .int oo0x1, .int (Av 4), .int (Av 5), .ref (Aa 1), .ref (Aa 2), .ref (Aa 3), .ref (Aa 4), .ref (Aa 5), .ref (Aa 6), .ref (Aa 7), .ref (Aa 8)])), ((Aa 1), .inl (tc 0, 10, .inl (Af 1))), ((Aa 2), .inl (tc 0, 10, .inl (Af 2))), ((Aa 3), .inl (tc 0, 6, .inl oo0x2)), ((Aa 4), .inl (tc 0, 6, .inl oo0x3)), ((Aa 5), .inl (tc 0, 6, .inl oo0x4)), ((Aa 6), .inl (tc 0, 6, .inl (Af 6))), ((Aa 7), .inl (tc 0, 6, .inl (Af 7))), ((Aa 8), .inl (tc 0, 6, .inl (Af 8))), ((Ta 0), .inr (10, [.ref (Ta 1), .int (Tv 0), .int oo0x5, .int oo0x6, .int oo0x7, .int oo0x8])), ((Ta 1), .inl (tc 0, 400, .inl (Tf 1)))]) 0 0 := by
  refine Ct.start (by decide) (Nat.le_of_ble_eq_true rfl) (fun p e s m below meth c A ls hx hb hr hlk hin hml hown hts hK hX hP hD hA hl hS => ?_)
  have hl : lv_has ls 3 [(0, .ref (Wa 0)), (1, .ref (Ta 0))] := hl
  have tb_1 : TpB (rTE (cB (Tf 1) (Tv 0)) rr) (Tv 2) (Tv 4) := TpR.tb h_r
  refine lv_aload_n hx hb dX0_readBuyer_0 rfl (lv_at hl 0 rfl) ?_
  refine gf_X0_12 hx hb hts hown hK hP 0 rfl rfl dX0_readBuyer_1 ?_
  refine gf_X0_51 hx hb hts hown hK hP 1 rfl rfl dX0_readBuyer_4 ?_
  refine lv_istore_n (lv' := [(2, .int (Av 3)), (0, .ref (Wa 0)), (1, .ref (Ta 0))]) hx hb dX0_readBuyer_7 rfl hl (by decide) rfl (fun ls hl₀ => ?_)
  replace hl := hl₀
  clear hl₀
  refine lv_iload_n hx hb dX0_readBuyer_8 rfl (lv_at hl 0 rfl) ?_
  refine lv_if_lt (tgt := 18) hx hb dX0_readBuyer_9 (by decide) (fun c_2 => ?_) (fun c_2 => ?_)
  · skip
    exfalso
    have z_1 := Int32.lt_iff_toInt_lt.mp c_2
    have y_0 : (0 : Int32).toInt = 0 := by decide
    omega
  · skip
    refine lv_iload_n hx hb dX0_readBuyer_12 rfl (lv_at hl 0 rfl) ?_
    refine lv_bipush (v := 6) hx hb dX0_readBuyer_13 (by decide) ?_
    refine lv_icmp_lt (tgt := 19) hx hb dX0_readBuyer_15 (by decide) (fun c_3 => ?_) (fun c_3 => ?_)
    · skip
      refine lv_aload_n hx hb dX0_readBuyer_19 rfl (lv_at hl 1 rfl) ?_
      refine gf_X0_12 hx hb hts hown hK hP 0 rfl rfl dX0_readBuyer_20 ?_
      refine gf_X0_91 hx hb hts hown hK hP 1 rfl rfl dX0_readBuyer_23 ?_
      refine lv_iload_n hx hb dX0_readBuyer_26 rfl (lv_at hl 0 rfl) ?_
      refine lv_aload_n hx hb dX0_readBuyer_27 rfl (lv_at hl 2 rfl) ?_
      refine lv_iconst (v := 0) hx hb dX0_readBuyer_28 (by decide) ?_
      refine lv_bipush (v := 20) hx hb dX0_readBuyer_29 (by decide) ?_
      have ha_4 : (0 : Int32).toInt = (0 : Int) := by
        have z_1 := Int32.le_iff_toInt_le.mp (Int32.not_lt.mp c_2)
        have z_2 := Int32.lt_iff_toInt_lt.mp c_3
        have y_0 : (0 : Int32).toInt = 0 := by decide
        have y_6 : (6 : Int32).toInt = 6 := by decide
        omega
      have ha_5 : (20 : Int32).toInt = (20 : Int) := by
        have z_1 := Int32.le_iff_toInt_le.mp (Int32.not_lt.mp c_2)
        have z_2 := Int32.lt_iff_toInt_lt.mp c_3
        have y_0 : (0 : Int32).toInt = 0 := by decide
        have y_6 : (6 : Int32).toInt = 6 := by decide
        have y_20 : (20 : Int32).toInt = 20 := by decide
        omega
      refine cV (a := (Ta 0)) (As := [.int 0, .int 20]) (rest := [.int (Av 3), .ref (Aa 3)]) (wr := [((Wa 0), .inr (0, [.ref (Aa 0)])), ((Aa 0), .inr (9, [.int (Av 0), .int (Av 1), .int (Av 2), .int (Av 3), .int (Av 4), .int (Av 5), .ref (Aa 1), .ref (Aa 2), .ref (Aa 3), .ref (Aa 4), .ref (Aa 5), .ref (Aa 6), .ref (Aa 7), .ref (Aa 8)])), ((Aa 1), .inl (tc 0, 10, .inl (Af 1))), ((Aa 2), .inl (tc 0, 10, .inl (Af 2))), ((Aa 3), .inl (tc 0, 6, .inl (Af 3))), ((Aa 4), .inl (tc 0, 6, .inl (Af 4))), ((Aa 5), .inl (tc 0, 6, .inl (Af 5))), ((Aa 6), .inl (tc 0, 6, .inl (Af 6))), ((Aa 7), .inl (tc 0, 6, .inl (Af 7))), ((Aa 8), .inl (tc 0, 6, .inl (Af 8)))]) ⟨hx, hb, hml, hown, hts⟩ hK hX hA (cu_fX10_takeNumber l D tc sk (Ta 0) (Ta 1) (Tv 0) (Tv 1) (Tv 2) (Tv 3) (Tv 4) (Tf 1) 0 20 rr 0 20 h_tape h_by h_r ha_4 ha_5) k_566 k_563 k_564 k_565 k_96 pl_X10_takeNumber ⟨Nat.le_of_ble_eq_true rfl, Nat.le_of_ble_eq_true rfl⟩ rfl rfl (va_recv hK hP (ci := 10) (q0 := 10) rfl rfl) hP hD hS [10, 11] [0, 1, 2, 3, 4, 5, 6, 7, 8, 9] rfl rfl rfl rfl rfl (by decide) rfl hl.1 rfl (Nat.le_of_ble_eq_true rfl) dX0_readBuyer_31 ⟨Nat.le_of_ble_eq_true rfl, Nat.le_of_ble_eq_true rfl⟩ (fun v_6 u_7 H locs hv_8 hP₀ hD₀ hS₀ => ?_)
      obtain ⟨sv_9, sv_10, sv_11, sv_12⟩ := u_7
      obtain ⟨r_15, rfl, he_16, pf_13, pf_14⟩ := hv_8
      have he_16 : NuV (cB (Tf 1) (Tv 0)) (0 : Int) (20 : Int) rr r_15 := he_16
      have pf_13 : 0 ≤ ((Tv 0) : Int32).toInt ∧ ((Tv 0) : Int32).toInt ≤ 400 ∧ 0 ≤ (sv_9 : Int32).toInt ∧ (sv_9 : Int32).toInt ≤ 400 ∧ 0 ≤ (sv_10 : Int32).toInt ∧ (sv_10 : Int32).toInt ≤ 400 := pf_13
      have pf_14 : TpR (Tf 1) (Tv 0) (rNX (cB (Tf 1) (Tv 0)) (rNU (cB (Tf 1) (Tv 0)) (0 : Int) (20 : Int) rr)) sv_9 sv_10 sv_11 sv_12 := pf_14
      obtain ⟨ro_18, ero_18⟩ : ∃ z : Except Int (Nat × Nat), z = (rNX (cB (Tf 1) (Tv 0)) (rNU (cB (Tf 1) (Tv 0)) 0 20 rr)) := ⟨_, rfl⟩
      rw [← ero_18] at pf_14
      have tb_19 : TpB (rTE (cB (Tf 1) (Tv 0)) ro_18) sv_10 sv_12 := TpR.tb pf_14
      refine W.eq (g2 := F0 m 34 ls [.int r_15, .int (Av 3), .ref (Aa 3)]) rfl ?_
      replace hP : va_P D classes [((Wa 0), .inr (0, [.ref (Aa 0)])), ((Aa 0), .inr (9, [.int (Av 0), .int (Av 1), .int (Av 2), .int (Av 3), .int (Av 4), .int (Av 5), .ref (Aa 1), .ref (Aa 2), .ref (Aa 3), .ref (Aa 4), .ref (Aa 5), .ref (Aa 6), .ref (Aa 7), .ref (Aa 8)])), ((Aa 1), .inl (tc 0, 10, .inl (Af 1))), ((Aa 2), .inl (tc 0, 10, .inl (Af 2))), ((Aa 3), .inl (tc 0, 6, .inl (Af 3))), ((Aa 4), .inl (tc 0, 6, .inl (Af 4))), ((Aa 5), .inl (tc 0, 6, .inl (Af 5))), ((Aa 6), .inl (tc 0, 6, .inl (Af 6))), ((Aa 7), .inl (tc 0, 6, .inl (Af 7))), ((Aa 8), .inl (tc 0, 6, .inl (Af 8))), ((Ta 0), .inr (10, [.ref (Ta 1), .int (Tv 0), .int sv_9, .int sv_10, .int sv_11, .int sv_12])), ((Ta 1), .inl (tc 0, 400, .inl (Tf 1)))] H := hP₀
      replace hD : va_D A [((Wa 0), .inr (0, [.ref (Aa 0)])), ((Aa 0), .inr (9, [.int (Av 0), .int (Av 1), .int (Av 2), .int (Av 3), .int (Av 4), .int (Av 5), .ref (Aa 1), .ref (Aa 2), .ref (Aa 3), .ref (Aa 4), .ref (Aa 5), .ref (Aa 6), .ref (Aa 7), .ref (Aa 8)])), ((Aa 1), .inl (tc 0, 10, .inl (Af 1))), ((Aa 2), .inl (tc 0, 10, .inl (Af 2))), ((Aa 3), .inl (tc 0, 6, .inl (Af 3))), ((Aa 4), .inl (tc 0, 6, .inl (Af 4))), ((Aa 5), .inl (tc 0, 6, .inl (Af 5))), ((Aa 6), .inl (tc 0, 6, .inl (Af 6))), ((Aa 7), .inl (tc 0, 6, .inl (Af 7))), ((Aa 8), .inl (tc 0, 6, .inl (Af 8))), ((Ta 0), .inr (10, [.ref (Ta 1), .int (Tv 0), .int sv_9, .int sv_10, .int sv_11, .int sv_12])), ((Ta 1), .inl (tc 0, 400, .inl (Tf 1)))] := hD₀
      replace hS := hS₀
      clear hP₀ hD₀ hS₀
      have hi_20 : vp_in (Av 3) 6 := by
        have z_1 := Int32.le_iff_toInt_le.mp (Int32.not_lt.mp c_2)
        have z_2 := Int32.lt_iff_toInt_lt.mp c_3
        have y_0 : (0 : Int32).toInt = 0 := by decide
        have y_6 : (6 : Int32).toInt = 6 := by decide
        refine vp_in_iff.mpr ⟨?_, ?_⟩ <;> omega
      refine st_int hx hb hK hP hD hS 4 0 rfl rfl hi_20 dX0_readBuyer_34 (fun g_21 H locs eg_21 hP₀ hD₀ hS₀ => ?_)
      replace hP : va_P D classes [((Wa 0), .inr (0, [.ref (Aa 0)])), ((Aa 0), .inr (9, [.int (Av 0), .int (Av 1), .int (Av 2), .int (Av 3), .int (Av 4), .int (Av 5), .ref (Aa 1), .ref (Aa 2), .ref (Aa 3), .ref (Aa 4), .ref (Aa 5), .ref (Aa 6), .ref (Aa 7), .ref (Aa 8)])), ((Aa 1), .inl (tc 0, 10, .inl (Af 1))), ((Aa 2), .inl (tc 0, 10, .inl (Af 2))), ((Aa 3), .inl (tc 0, 6, .inl g_21)), ((Aa 4), .inl (tc 0, 6, .inl (Af 4))), ((Aa 5), .inl (tc 0, 6, .inl (Af 5))), ((Aa 6), .inl (tc 0, 6, .inl (Af 6))), ((Aa 7), .inl (tc 0, 6, .inl (Af 7))), ((Aa 8), .inl (tc 0, 6, .inl (Af 8))), ((Ta 0), .inr (10, [.ref (Ta 1), .int (Tv 0), .int sv_9, .int sv_10, .int sv_11, .int sv_12])), ((Ta 1), .inl (tc 0, 400, .inl (Tf 1)))] H := hP₀
      replace hD : va_D A [((Wa 0), .inr (0, [.ref (Aa 0)])), ((Aa 0), .inr (9, [.int (Av 0), .int (Av 1), .int (Av 2), .int (Av 3), .int (Av 4), .int (Av 5), .ref (Aa 1), .ref (Aa 2), .ref (Aa 3), .ref (Aa 4), .ref (Aa 5), .ref (Aa 6), .ref (Aa 7), .ref (Aa 8)])), ((Aa 1), .inl (tc 0, 10, .inl (Af 1))), ((Aa 2), .inl (tc 0, 10, .inl (Af 2))), ((Aa 3), .inl (tc 0, 6, .inl g_21)), ((Aa 4), .inl (tc 0, 6, .inl (Af 4))), ((Aa 5), .inl (tc 0, 6, .inl (Af 5))), ((Aa 6), .inl (tc 0, 6, .inl (Af 6))), ((Aa 7), .inl (tc 0, 6, .inl (Af 7))), ((Aa 8), .inl (tc 0, 6, .inl (Af 8))), ((Ta 0), .inr (10, [.ref (Ta 1), .int (Tv 0), .int sv_9, .int sv_10, .int sv_11, .int sv_12])), ((Ta 1), .inl (tc 0, 400, .inl (Tf 1)))] := hD₀
      replace hS := hS₀
      clear hP₀ hD₀ hS₀
      refine lv_aload_n hx hb dX0_readBuyer_35 rfl (lv_at hl 1 rfl) ?_
      refine gf_X0_12 hx hb hts hown hK hP 0 rfl rfl dX0_readBuyer_36 ?_
      refine gf_X0_94 hx hb hts hown hK hP 1 rfl rfl dX0_readBuyer_39 ?_
      refine lv_iload_n hx hb dX0_readBuyer_42 rfl (lv_at hl 0 rfl) ?_
      refine lv_aload_n hx hb dX0_readBuyer_43 rfl (lv_at hl 2 rfl) ?_
      refine lv_iconst (v := 1) hx hb dX0_readBuyer_44 (by decide) ?_
      refine lv_bipush (v := 9) hx hb dX0_readBuyer_45 (by decide) ?_
      have ha_22 : (1 : Int32).toInt = (1 : Int) := by
        have z_1 := Int32.le_iff_toInt_le.mp (Int32.not_lt.mp c_2)
        have z_2 := Int32.lt_iff_toInt_lt.mp c_3
        have y_0 : (0 : Int32).toInt = 0 := by decide
        have y_6 : (6 : Int32).toInt = 6 := by decide
        have y_1 : (1 : Int32).toInt = 1 := by decide
        omega
      have ha_23 : (9 : Int32).toInt = (9 : Int) := by
        have z_1 := Int32.le_iff_toInt_le.mp (Int32.not_lt.mp c_2)
        have z_2 := Int32.lt_iff_toInt_lt.mp c_3
        have y_0 : (0 : Int32).toInt = 0 := by decide
        have y_6 : (6 : Int32).toInt = 6 := by decide
        have y_9 : (9 : Int32).toInt = 9 := by decide
        omega
      refine cV (a := (Ta 0)) (As := [.int 1, .int 9]) (rest := [.int (Av 3), .ref (Aa 4)]) (wr := [((Wa 0), .inr (0, [.ref (Aa 0)])), ((Aa 0), .inr (9, [.int (Av 0), .int (Av 1), .int (Av 2), .int (Av 3), .int (Av 4), .int (Av 5), .ref (Aa 1), .ref (Aa 2), .ref (Aa 3), .ref (Aa 4), .ref (Aa 5), .ref (Aa 6), .ref (Aa 7), .ref (Aa 8)])), ((Aa 1), .inl (tc 0, 10, .inl (Af 1))), ((Aa 2), .inl (tc 0, 10, .inl (Af 2))), ((Aa 3), .inl (tc 0, 6, .inl g_21)), ((Aa 4), .inl (tc 0, 6, .inl (Af 4))), ((Aa 5), .inl (tc 0, 6, .inl (Af 5))), ((Aa 6), .inl (tc 0, 6, .inl (Af 6))), ((Aa 7), .inl (tc 0, 6, .inl (Af 7))), ((Aa 8), .inl (tc 0, 6, .inl (Af 8)))]) ⟨hx, hb, hml, hown, hts⟩ hK hX hA (cu_fX10_takeNumber l D tc sk (Ta 0) (Ta 1) (Tv 0) sv_9 sv_10 sv_11 sv_12 (Tf 1) 1 9 ro_18 1 9 pf_13 h_by pf_14 ha_22 ha_23) k_566 k_563 k_564 k_565 k_96 pl_X10_takeNumber ⟨Nat.le_of_ble_eq_true rfl, Nat.le_of_ble_eq_true rfl⟩ rfl rfl (va_recv hK hP (ci := 10) (q0 := 10) rfl rfl) hP hD hS [10, 11] [0, 1, 2, 3, 4, 5, 6, 7, 8, 9] rfl rfl rfl rfl rfl (by decide) rfl hl.1 rfl (Nat.le_of_ble_eq_true rfl) dX0_readBuyer_47 ⟨Nat.le_of_ble_eq_true rfl, Nat.le_of_ble_eq_true rfl⟩ (fun v_24 u_25 H locs hv_26 hP₀ hD₀ hS₀ => ?_)
      obtain ⟨sv_27, sv_28, sv_29, sv_30⟩ := u_25
      obtain ⟨r_33, rfl, he_34, pf_31, pf_32⟩ := hv_26
      have he_34 : NuV (cB (Tf 1) (Tv 0)) (1 : Int) (9 : Int) ro_18 r_33 := he_34
      have pf_31 : 0 ≤ ((Tv 0) : Int32).toInt ∧ ((Tv 0) : Int32).toInt ≤ 400 ∧ 0 ≤ (sv_27 : Int32).toInt ∧ (sv_27 : Int32).toInt ≤ 400 ∧ 0 ≤ (sv_28 : Int32).toInt ∧ (sv_28 : Int32).toInt ≤ 400 := pf_31
      have pf_32 : TpR (Tf 1) (Tv 0) (rNX (cB (Tf 1) (Tv 0)) (rNU (cB (Tf 1) (Tv 0)) (1 : Int) (9 : Int) ro_18)) sv_27 sv_28 sv_29 sv_30 := pf_32
      obtain ⟨ro_36, ero_36⟩ : ∃ z : Except Int (Nat × Nat), z = (rNX (cB (Tf 1) (Tv 0)) (rNU (cB (Tf 1) (Tv 0)) 1 9 ro_18)) := ⟨_, rfl⟩
      rw [← ero_36] at pf_32
      have tb_37 : TpB (rTE (cB (Tf 1) (Tv 0)) ro_36) sv_28 sv_30 := TpR.tb pf_32
      refine W.eq (g2 := F0 m 50 ls [.int r_33, .int (Av 3), .ref (Aa 4)]) rfl ?_
      replace hP : va_P D classes [((Wa 0), .inr (0, [.ref (Aa 0)])), ((Aa 0), .inr (9, [.int (Av 0), .int (Av 1), .int (Av 2), .int (Av 3), .int (Av 4), .int (Av 5), .ref (Aa 1), .ref (Aa 2), .ref (Aa 3), .ref (Aa 4), .ref (Aa 5), .ref (Aa 6), .ref (Aa 7), .ref (Aa 8)])), ((Aa 1), .inl (tc 0, 10, .inl (Af 1))), ((Aa 2), .inl (tc 0, 10, .inl (Af 2))), ((Aa 3), .inl (tc 0, 6, .inl g_21)), ((Aa 4), .inl (tc 0, 6, .inl (Af 4))), ((Aa 5), .inl (tc 0, 6, .inl (Af 5))), ((Aa 6), .inl (tc 0, 6, .inl (Af 6))), ((Aa 7), .inl (tc 0, 6, .inl (Af 7))), ((Aa 8), .inl (tc 0, 6, .inl (Af 8))), ((Ta 0), .inr (10, [.ref (Ta 1), .int (Tv 0), .int sv_27, .int sv_28, .int sv_29, .int sv_30])), ((Ta 1), .inl (tc 0, 400, .inl (Tf 1)))] H := hP₀
      replace hD : va_D A [((Wa 0), .inr (0, [.ref (Aa 0)])), ((Aa 0), .inr (9, [.int (Av 0), .int (Av 1), .int (Av 2), .int (Av 3), .int (Av 4), .int (Av 5), .ref (Aa 1), .ref (Aa 2), .ref (Aa 3), .ref (Aa 4), .ref (Aa 5), .ref (Aa 6), .ref (Aa 7), .ref (Aa 8)])), ((Aa 1), .inl (tc 0, 10, .inl (Af 1))), ((Aa 2), .inl (tc 0, 10, .inl (Af 2))), ((Aa 3), .inl (tc 0, 6, .inl g_21)), ((Aa 4), .inl (tc 0, 6, .inl (Af 4))), ((Aa 5), .inl (tc 0, 6, .inl (Af 5))), ((Aa 6), .inl (tc 0, 6, .inl (Af 6))), ((Aa 7), .inl (tc 0, 6, .inl (Af 7))), ((Aa 8), .inl (tc 0, 6, .inl (Af 8))), ((Ta 0), .inr (10, [.ref (Ta 1), .int (Tv 0), .int sv_27, .int sv_28, .int sv_29, .int sv_30])), ((Ta 1), .inl (tc 0, 400, .inl (Tf 1)))] := hD₀
      replace hS := hS₀
      clear hP₀ hD₀ hS₀
      have hi_38 : vp_in (Av 3) 6 := by
        have z_1 := Int32.le_iff_toInt_le.mp (Int32.not_lt.mp c_2)
        have z_2 := Int32.lt_iff_toInt_lt.mp c_3
        have y_0 : (0 : Int32).toInt = 0 := by decide
        have y_6 : (6 : Int32).toInt = 6 := by decide
        refine vp_in_iff.mpr ⟨?_, ?_⟩ <;> omega
      refine st_int hx hb hK hP hD hS 5 0 rfl rfl hi_38 dX0_readBuyer_50 (fun g_39 H locs eg_39 hP₀ hD₀ hS₀ => ?_)
      replace hP : va_P D classes [((Wa 0), .inr (0, [.ref (Aa 0)])), ((Aa 0), .inr (9, [.int (Av 0), .int (Av 1), .int (Av 2), .int (Av 3), .int (Av 4), .int (Av 5), .ref (Aa 1), .ref (Aa 2), .ref (Aa 3), .ref (Aa 4), .ref (Aa 5), .ref (Aa 6), .ref (Aa 7), .ref (Aa 8)])), ((Aa 1), .inl (tc 0, 10, .inl (Af 1))), ((Aa 2), .inl (tc 0, 10, .inl (Af 2))), ((Aa 3), .inl (tc 0, 6, .inl g_21)), ((Aa 4), .inl (tc 0, 6, .inl g_39)), ((Aa 5), .inl (tc 0, 6, .inl (Af 5))), ((Aa 6), .inl (tc 0, 6, .inl (Af 6))), ((Aa 7), .inl (tc 0, 6, .inl (Af 7))), ((Aa 8), .inl (tc 0, 6, .inl (Af 8))), ((Ta 0), .inr (10, [.ref (Ta 1), .int (Tv 0), .int sv_27, .int sv_28, .int sv_29, .int sv_30])), ((Ta 1), .inl (tc 0, 400, .inl (Tf 1)))] H := hP₀
      replace hD : va_D A [((Wa 0), .inr (0, [.ref (Aa 0)])), ((Aa 0), .inr (9, [.int (Av 0), .int (Av 1), .int (Av 2), .int (Av 3), .int (Av 4), .int (Av 5), .ref (Aa 1), .ref (Aa 2), .ref (Aa 3), .ref (Aa 4), .ref (Aa 5), .ref (Aa 6), .ref (Aa 7), .ref (Aa 8)])), ((Aa 1), .inl (tc 0, 10, .inl (Af 1))), ((Aa 2), .inl (tc 0, 10, .inl (Af 2))), ((Aa 3), .inl (tc 0, 6, .inl g_21)), ((Aa 4), .inl (tc 0, 6, .inl g_39)), ((Aa 5), .inl (tc 0, 6, .inl (Af 5))), ((Aa 6), .inl (tc 0, 6, .inl (Af 6))), ((Aa 7), .inl (tc 0, 6, .inl (Af 7))), ((Aa 8), .inl (tc 0, 6, .inl (Af 8))), ((Ta 0), .inr (10, [.ref (Ta 1), .int (Tv 0), .int sv_27, .int sv_28, .int sv_29, .int sv_30])), ((Ta 1), .inl (tc 0, 400, .inl (Tf 1)))] := hD₀
      replace hS := hS₀
      clear hP₀ hD₀ hS₀
      refine lv_aload_n hx hb dX0_readBuyer_51 rfl (lv_at hl 1 rfl) ?_
      refine gf_X0_12 hx hb hts hown hK hP 0 rfl rfl dX0_readBuyer_52 ?_
      refine gf_X0_97 hx hb hts hown hK hP 1 rfl rfl dX0_readBuyer_55 ?_
      refine lv_iload_n hx hb dX0_readBuyer_58 rfl (lv_at hl 0 rfl) ?_
      refine lv_aload_n hx hb dX0_readBuyer_59 rfl (lv_at hl 2 rfl) ?_
      refine lv_iconst (v := 0) hx hb dX0_readBuyer_60 (by decide) ?_
      refine lv_bipush (v := 9) hx hb dX0_readBuyer_61 (by decide) ?_
      have ha_40 : (0 : Int32).toInt = (0 : Int) := by
        have z_1 := Int32.le_iff_toInt_le.mp (Int32.not_lt.mp c_2)
        have z_2 := Int32.lt_iff_toInt_lt.mp c_3
        have y_0 : (0 : Int32).toInt = 0 := by decide
        have y_6 : (6 : Int32).toInt = 6 := by decide
        omega
      have ha_41 : (9 : Int32).toInt = (9 : Int) := by
        have z_1 := Int32.le_iff_toInt_le.mp (Int32.not_lt.mp c_2)
        have z_2 := Int32.lt_iff_toInt_lt.mp c_3
        have y_0 : (0 : Int32).toInt = 0 := by decide
        have y_6 : (6 : Int32).toInt = 6 := by decide
        have y_9 : (9 : Int32).toInt = 9 := by decide
        omega
      refine cV (a := (Ta 0)) (As := [.int 0, .int 9]) (rest := [.int (Av 3), .ref (Aa 5)]) (wr := [((Wa 0), .inr (0, [.ref (Aa 0)])), ((Aa 0), .inr (9, [.int (Av 0), .int (Av 1), .int (Av 2), .int (Av 3), .int (Av 4), .int (Av 5), .ref (Aa 1), .ref (Aa 2), .ref (Aa 3), .ref (Aa 4), .ref (Aa 5), .ref (Aa 6), .ref (Aa 7), .ref (Aa 8)])), ((Aa 1), .inl (tc 0, 10, .inl (Af 1))), ((Aa 2), .inl (tc 0, 10, .inl (Af 2))), ((Aa 3), .inl (tc 0, 6, .inl g_21)), ((Aa 4), .inl (tc 0, 6, .inl g_39)), ((Aa 5), .inl (tc 0, 6, .inl (Af 5))), ((Aa 6), .inl (tc 0, 6, .inl (Af 6))), ((Aa 7), .inl (tc 0, 6, .inl (Af 7))), ((Aa 8), .inl (tc 0, 6, .inl (Af 8)))]) ⟨hx, hb, hml, hown, hts⟩ hK hX hA (cu_fX10_takeNumber l D tc sk (Ta 0) (Ta 1) (Tv 0) sv_27 sv_28 sv_29 sv_30 (Tf 1) 0 9 ro_36 0 9 pf_31 h_by pf_32 ha_40 ha_41) k_566 k_563 k_564 k_565 k_96 pl_X10_takeNumber ⟨Nat.le_of_ble_eq_true rfl, Nat.le_of_ble_eq_true rfl⟩ rfl rfl (va_recv hK hP (ci := 10) (q0 := 10) rfl rfl) hP hD hS [10, 11] [0, 1, 2, 3, 4, 5, 6, 7, 8, 9] rfl rfl rfl rfl rfl (by decide) rfl hl.1 rfl (Nat.le_of_ble_eq_true rfl) dX0_readBuyer_63 ⟨Nat.le_of_ble_eq_true rfl, Nat.le_of_ble_eq_true rfl⟩ (fun v_42 u_43 H locs hv_44 hP₀ hD₀ hS₀ => ?_)
      obtain ⟨sv_45, sv_46, sv_47, sv_48⟩ := u_43
      obtain ⟨r_51, rfl, he_52, pf_49, pf_50⟩ := hv_44
      have he_52 : NuV (cB (Tf 1) (Tv 0)) (0 : Int) (9 : Int) ro_36 r_51 := he_52
      have pf_49 : 0 ≤ ((Tv 0) : Int32).toInt ∧ ((Tv 0) : Int32).toInt ≤ 400 ∧ 0 ≤ (sv_45 : Int32).toInt ∧ (sv_45 : Int32).toInt ≤ 400 ∧ 0 ≤ (sv_46 : Int32).toInt ∧ (sv_46 : Int32).toInt ≤ 400 := pf_49
      have pf_50 : TpR (Tf 1) (Tv 0) (rNX (cB (Tf 1) (Tv 0)) (rNU (cB (Tf 1) (Tv 0)) (0 : Int) (9 : Int) ro_36)) sv_45 sv_46 sv_47 sv_48 := pf_50
      obtain ⟨ro_54, ero_54⟩ : ∃ z : Except Int (Nat × Nat), z = (rNX (cB (Tf 1) (Tv 0)) (rNU (cB (Tf 1) (Tv 0)) 0 9 ro_36)) := ⟨_, rfl⟩
      rw [← ero_54] at pf_50
      have tb_55 : TpB (rTE (cB (Tf 1) (Tv 0)) ro_54) sv_46 sv_48 := TpR.tb pf_50
      refine W.eq (g2 := F0 m 66 ls [.int r_51, .int (Av 3), .ref (Aa 5)]) rfl ?_
      replace hP : va_P D classes [((Wa 0), .inr (0, [.ref (Aa 0)])), ((Aa 0), .inr (9, [.int (Av 0), .int (Av 1), .int (Av 2), .int (Av 3), .int (Av 4), .int (Av 5), .ref (Aa 1), .ref (Aa 2), .ref (Aa 3), .ref (Aa 4), .ref (Aa 5), .ref (Aa 6), .ref (Aa 7), .ref (Aa 8)])), ((Aa 1), .inl (tc 0, 10, .inl (Af 1))), ((Aa 2), .inl (tc 0, 10, .inl (Af 2))), ((Aa 3), .inl (tc 0, 6, .inl g_21)), ((Aa 4), .inl (tc 0, 6, .inl g_39)), ((Aa 5), .inl (tc 0, 6, .inl (Af 5))), ((Aa 6), .inl (tc 0, 6, .inl (Af 6))), ((Aa 7), .inl (tc 0, 6, .inl (Af 7))), ((Aa 8), .inl (tc 0, 6, .inl (Af 8))), ((Ta 0), .inr (10, [.ref (Ta 1), .int (Tv 0), .int sv_45, .int sv_46, .int sv_47, .int sv_48])), ((Ta 1), .inl (tc 0, 400, .inl (Tf 1)))] H := hP₀
      replace hD : va_D A [((Wa 0), .inr (0, [.ref (Aa 0)])), ((Aa 0), .inr (9, [.int (Av 0), .int (Av 1), .int (Av 2), .int (Av 3), .int (Av 4), .int (Av 5), .ref (Aa 1), .ref (Aa 2), .ref (Aa 3), .ref (Aa 4), .ref (Aa 5), .ref (Aa 6), .ref (Aa 7), .ref (Aa 8)])), ((Aa 1), .inl (tc 0, 10, .inl (Af 1))), ((Aa 2), .inl (tc 0, 10, .inl (Af 2))), ((Aa 3), .inl (tc 0, 6, .inl g_21)), ((Aa 4), .inl (tc 0, 6, .inl g_39)), ((Aa 5), .inl (tc 0, 6, .inl (Af 5))), ((Aa 6), .inl (tc 0, 6, .inl (Af 6))), ((Aa 7), .inl (tc 0, 6, .inl (Af 7))), ((Aa 8), .inl (tc 0, 6, .inl (Af 8))), ((Ta 0), .inr (10, [.ref (Ta 1), .int (Tv 0), .int sv_45, .int sv_46, .int sv_47, .int sv_48])), ((Ta 1), .inl (tc 0, 400, .inl (Tf 1)))] := hD₀
      replace hS := hS₀
      clear hP₀ hD₀ hS₀
      have hi_56 : vp_in (Av 3) 6 := by
        have z_1 := Int32.le_iff_toInt_le.mp (Int32.not_lt.mp c_2)
        have z_2 := Int32.lt_iff_toInt_lt.mp c_3
        have y_0 : (0 : Int32).toInt = 0 := by decide
        have y_6 : (6 : Int32).toInt = 6 := by decide
        refine vp_in_iff.mpr ⟨?_, ?_⟩ <;> omega
      refine st_int hx hb hK hP hD hS 6 0 rfl rfl hi_56 dX0_readBuyer_66 (fun g_57 H locs eg_57 hP₀ hD₀ hS₀ => ?_)
      replace hP : va_P D classes [((Wa 0), .inr (0, [.ref (Aa 0)])), ((Aa 0), .inr (9, [.int (Av 0), .int (Av 1), .int (Av 2), .int (Av 3), .int (Av 4), .int (Av 5), .ref (Aa 1), .ref (Aa 2), .ref (Aa 3), .ref (Aa 4), .ref (Aa 5), .ref (Aa 6), .ref (Aa 7), .ref (Aa 8)])), ((Aa 1), .inl (tc 0, 10, .inl (Af 1))), ((Aa 2), .inl (tc 0, 10, .inl (Af 2))), ((Aa 3), .inl (tc 0, 6, .inl g_21)), ((Aa 4), .inl (tc 0, 6, .inl g_39)), ((Aa 5), .inl (tc 0, 6, .inl g_57)), ((Aa 6), .inl (tc 0, 6, .inl (Af 6))), ((Aa 7), .inl (tc 0, 6, .inl (Af 7))), ((Aa 8), .inl (tc 0, 6, .inl (Af 8))), ((Ta 0), .inr (10, [.ref (Ta 1), .int (Tv 0), .int sv_45, .int sv_46, .int sv_47, .int sv_48])), ((Ta 1), .inl (tc 0, 400, .inl (Tf 1)))] H := hP₀
      replace hD : va_D A [((Wa 0), .inr (0, [.ref (Aa 0)])), ((Aa 0), .inr (9, [.int (Av 0), .int (Av 1), .int (Av 2), .int (Av 3), .int (Av 4), .int (Av 5), .ref (Aa 1), .ref (Aa 2), .ref (Aa 3), .ref (Aa 4), .ref (Aa 5), .ref (Aa 6), .ref (Aa 7), .ref (Aa 8)])), ((Aa 1), .inl (tc 0, 10, .inl (Af 1))), ((Aa 2), .inl (tc 0, 10, .inl (Af 2))), ((Aa 3), .inl (tc 0, 6, .inl g_21)), ((Aa 4), .inl (tc 0, 6, .inl g_39)), ((Aa 5), .inl (tc 0, 6, .inl g_57)), ((Aa 6), .inl (tc 0, 6, .inl (Af 6))), ((Aa 7), .inl (tc 0, 6, .inl (Af 7))), ((Aa 8), .inl (tc 0, 6, .inl (Af 8))), ((Ta 0), .inr (10, [.ref (Ta 1), .int (Tv 0), .int sv_45, .int sv_46, .int sv_47, .int sv_48])), ((Ta 1), .inl (tc 0, 400, .inl (Tf 1)))] := hD₀
      replace hS := hS₀
      clear hP₀ hD₀ hS₀
      refine lv_aload_n hx hb dX0_readBuyer_67 rfl (lv_at hl 1 rfl) ?_
      refine gf_X0_12 hx hb hts hown hK hP 0 rfl rfl dX0_readBuyer_68 ?_
      refine lv_dup hx hb dX0_readBuyer_71 rfl ?_
      refine gf_X0_51 hx hb hts hown hK hP 1 rfl rfl dX0_readBuyer_72 ?_
      refine lv_iconst (v := 1) hx hb dX0_readBuyer_75 (by decide) ?_
      refine lv_iadd hx hb dX0_readBuyer_76 ?_
      refine lv_topi (fun x_58 ex_58 => ?_)
      refine pf_X0_51 hx hb hts hown hK hP hD hS 1 rfl (Nat.le_of_ble_eq_true rfl) rfl rfl dX0_readBuyer_77 (fun H locs hP₀ hD₀ hS₀ => ?_)
      replace hP : va_P D classes [((Wa 0), .inr (0, [.ref (Aa 0)])), ((Aa 0), .inr (9, [.int (Av 0), .int (Av 1), .int (Av 2), .int x_58, .int (Av 4), .int (Av 5), .ref (Aa 1), .ref (Aa 2), .ref (Aa 3), .ref (Aa 4), .ref (Aa 5), .ref (Aa 6), .ref (Aa 7), .ref (Aa 8)])), ((Aa 1), .inl (tc 0, 10, .inl (Af 1))), ((Aa 2), .inl (tc 0, 10, .inl (Af 2))), ((Aa 3), .inl (tc 0, 6, .inl g_21)), ((Aa 4), .inl (tc 0, 6, .inl g_39)), ((Aa 5), .inl (tc 0, 6, .inl g_57)), ((Aa 6), .inl (tc 0, 6, .inl (Af 6))), ((Aa 7), .inl (tc 0, 6, .inl (Af 7))), ((Aa 8), .inl (tc 0, 6, .inl (Af 8))), ((Ta 0), .inr (10, [.ref (Ta 1), .int (Tv 0), .int sv_45, .int sv_46, .int sv_47, .int sv_48])), ((Ta 1), .inl (tc 0, 400, .inl (Tf 1)))] H := hP₀
      replace hD : va_D A [((Wa 0), .inr (0, [.ref (Aa 0)])), ((Aa 0), .inr (9, [.int (Av 0), .int (Av 1), .int (Av 2), .int x_58, .int (Av 4), .int (Av 5), .ref (Aa 1), .ref (Aa 2), .ref (Aa 3), .ref (Aa 4), .ref (Aa 5), .ref (Aa 6), .ref (Aa 7), .ref (Aa 8)])), ((Aa 1), .inl (tc 0, 10, .inl (Af 1))), ((Aa 2), .inl (tc 0, 10, .inl (Af 2))), ((Aa 3), .inl (tc 0, 6, .inl g_21)), ((Aa 4), .inl (tc 0, 6, .inl g_39)), ((Aa 5), .inl (tc 0, 6, .inl g_57)), ((Aa 6), .inl (tc 0, 6, .inl (Af 6))), ((Aa 7), .inl (tc 0, 6, .inl (Af 7))), ((Aa 8), .inl (tc 0, 6, .inl (Af 8))), ((Ta 0), .inr (10, [.ref (Ta 1), .int (Tv 0), .int sv_45, .int sv_46, .int sv_47, .int sv_48])), ((Ta 1), .inl (tc 0, 400, .inl (Tf 1)))] := hD₀
      replace hS := hS₀
      clear hP₀ hD₀ hS₀
      have ha_59 : 0 ≤ (x_58 : Int32).toInt ∧ (x_58 : Int32).toInt ≤ 6 := by
        have z_1 := Int32.le_iff_toInt_le.mp (Int32.not_lt.mp c_2)
        have z_2 := Int32.lt_iff_toInt_lt.mp c_3
        have y_0 : (0 : Int32).toInt = 0 := by decide
        have y_6 : (6 : Int32).toInt = 6 := by decide
        have y_1 : (1 : Int32).toInt = 1 := by decide
        have t_x_58 : x_58.toInt = ((Av 3) : Int32).toInt + (1 : Int32).toInt := by rw [ex_58]; exact add_toInt (by omega) (by omega)
        omega
      have hu_60 : TpR (Tf 1) (Tv 0) (rNX (cB (Tf 1) (Tv 0)) (rNU (cB (Tf 1) (Tv 0)) 0 9 (rNX (cB (Tf 1) (Tv 0)) (rNU (cB (Tf 1) (Tv 0)) 1 9 (rNX (cB (Tf 1) (Tv 0)) (rNU (cB (Tf 1) (Tv 0)) 0 20 rr)))))) sv_45 sv_46 sv_47 sv_48 := by
        rw [← ero_18, ← ero_36, ← ero_54]
        exact pf_50
      have hf_61 : TpR (Tf 1) (Tv 0) (rN1 (cB (Tf 1) (Tv 0)) 0 9 (rN1 (cB (Tf 1) (Tv 0)) 1 9 (rN1 (cB (Tf 1) (Tv 0)) 0 20 rr))) sv_45 sv_46 sv_47 sv_48 := hu_60
      have hv_62 : NuV (cB (Tf 1) (Tv 0)) 0 20 rr r_15 := by
        have hq := he_16
        exact hq
      have hv_63 : NuV (cB (Tf 1) (Tv 0)) 1 9 (rN1 (cB (Tf 1) (Tv 0)) 0 20 rr) r_33 := by
        have hq := he_34
        rw [ero_18] at hq
        exact hq
      have hv_64 : NuV (cB (Tf 1) (Tv 0)) 0 9 (rN1 (cB (Tf 1) (Tv 0)) 1 9 (rN1 (cB (Tf 1) (Tv 0)) 0 20 rr)) r_51 := by
        have hq := he_52
        rw [ero_36, ero_18] at hq
        exact hq
      have hi_66 : (x_58 : Int32).toInt = (Av 3).toInt + 1 := by
        have z_1 := Int32.le_iff_toInt_le.mp (Int32.not_lt.mp c_2)
        have z_2 := Int32.lt_iff_toInt_lt.mp c_3
        have y_0 : (0 : Int32).toInt = 0 := by decide
        have y_6 : (6 : Int32).toInt = 6 := by decide
        have y_1 : (1 : Int32).toInt = 1 := by decide
        have t_x_58 : x_58.toInt = ((Av 3) : Int32).toInt + (1 : Int32).toInt := by rw [ex_58]; exact add_toInt (by omega) (by omega)
        omega
      have hs_65 : QsQ (qz_k2 (cB (Tf 1) (Tv 0)) C rr) (Av 0) (Av 1) (Av 2) x_58 (Av 4) (Av 5) (Af 1) (Af 2) g_21 g_39 g_57 (Af 6) (Af 7) (Af 8) := QsQ.b2 h_c h_b6 hv_62 hv_63 hv_64 eg_21 eg_39 eg_57 hi_66
      exact retV hx hb hr hlk hP hD hS (x_58, g_21, g_39, g_57, sv_45, sv_46, sv_47, sv_48) ⟨rfl, pf_49, ha_59, hf_61, hs_65⟩ [0, 1, 2, 3, 4, 5, 6, 7, 8, 9, 10, 11] rfl rfl dX0_readBuyer_80 (Nat.le_of_ble_eq_true rfl) (Nat.le_of_ble_eq_true rfl) rfl
    · skip
      exfalso
      have z_1 := Int32.le_iff_toInt_le.mp (Int32.not_lt.mp c_2)
      have z_2 := Int32.le_iff_toInt_le.mp (Int32.not_lt.mp c_3)
      have y_0 : (0 : Int32).toInt = 0 := by decide
      have y_6 : (6 : Int32).toInt = 6 := by decide
      omega
set_option maxRecDepth 100000 in
theorem cu_zX0_readBuyer (l : Launch) (D : va_G) (tc : Nat → ClassId) (sk : (Nat → Nat) × (Nat → Nat)) (Wa_0 : Nat) (Aa_0 : Nat) (Aa_1 : Nat) (Aa_2 : Nat) (Aa_3 : Nat) (Aa_4 : Nat) (Aa_5 : Nat) (Aa_6 : Nat) (Aa_7 : Nat) (Aa_8 : Nat) (Av_0 : Int32) (Av_1 : Int32) (Av_2 : Int32) (Av_3 : Int32) (Av_4 : Int32) (Av_5 : Int32) (Af_1 : Nat → Int32) (Af_2 : Nat → Int32) (Af_3 : Nat → Int32) (Af_4 : Nat → Int32) (Af_5 : Nat → Int32) (Af_6 : Nat → Int32) (Af_7 : Nat → Int32) (Af_8 : Nat → Int32) (Ta_0 : Nat) (Ta_1 : Nat) (Tv_0 : Int32) (Tv_1 : Int32) (Tv_2 : Int32) (Tv_3 : Int32) (Tv_4 : Int32) (Tf_1 : Nat → Int32) (rr : Except Int (Nat × Nat)) (C : Nat → Int) (h_tape : 0 ≤ (Tv_0 : Int32).toInt ∧ (Tv_0 : Int32).toInt ≤ 400 ∧ 0 ≤ (Tv_1 : Int32).toInt ∧ (Tv_1 : Int32).toInt ≤ 400 ∧ 0 ≤ (Tv_2 : Int32).toInt ∧ (Tv_2 : Int32).toInt ≤ 400) (h_by : Byt Tf_1) (h_r : TpR Tf_1 Tv_0 rr Tv_1 Tv_2 Tv_3 Tv_4) (h_b6 : 0 ≤ Av_3.toInt ∧ Av_3.toInt < 6) (h_c : QcI rr Av_0 Av_1 Av_2 Av_3 Av_4 Av_5 Af_1 Af_2 Af_3 Af_4 Af_5 Af_6 Af_7 Af_8 C) : Ct l yX0_readBuyer cX0_readBuyer 3 none { frames := 3, cells := 0, slots := 0, locals := 68 } D tc sk [.ref Wa_0, .ref Ta_0] [(Wa_0, .inr (0, [.ref Aa_0])), (Aa_0, .inr (9, [.int Av_0, .int Av_1, .int Av_2, .int Av_3, .int Av_4, .int Av_5, .ref Aa_1, .ref Aa_2, .ref Aa_3, .ref Aa_4, .ref Aa_5, .ref Aa_6, .ref Aa_7, .ref Aa_8])), (Aa_1, .inl (tc 0, 10, .inl Af_1)), (Aa_2, .inl (tc 0, 10, .inl Af_2)), (Aa_3, .inl (tc 0, 6, .inl Af_3)), (Aa_4, .inl (tc 0, 6, .inl Af_4)), (Aa_5, .inl (tc 0, 6, .inl Af_5)), (Aa_6, .inl (tc 0, 6, .inl Af_6)), (Aa_7, .inl (tc 0, 6, .inl Af_7)), (Aa_8, .inl (tc 0, 6, .inl Af_8)), (Ta_0, .inr (10, [.ref Ta_1, .int Tv_0, .int Tv_1, .int Tv_2, .int Tv_3, .int Tv_4])), (Ta_1, .inl (tc 0, 400, .inl Tf_1))] (fun (v : Option Value) (u : (Int32) × (Nat → Int32) × (Nat → Int32) × (Nat → Int32) × (Int32) × (Int32) × (Int32) × (Int32)) => match u with | (oo0x1, oo0x2, oo0x3, oo0x4, oo0x5, oo0x6, oo0x7, oo0x8) => v = none ∧ (0 ≤ (Tv_0 : Int32).toInt ∧ (Tv_0 : Int32).toInt ≤ 400 ∧ 0 ≤ (oo0x5 : Int32).toInt ∧ (oo0x5 : Int32).toInt ≤ 400 ∧ 0 ≤ (oo0x6 : Int32).toInt ∧ (oo0x6 : Int32).toInt ≤ 400) ∧ (0 ≤ (oo0x1 : Int32).toInt ∧ (oo0x1 : Int32).toInt ≤ 6) ∧ (TpR Tf_1 Tv_0 (rN1 (cB Tf_1 Tv_0) 0 9 (rN1 (cB Tf_1 Tv_0) 1 9 (rN1 (cB Tf_1 Tv_0) 0 20 rr))) oo0x5 oo0x6 oo0x7 oo0x8) ∧ (QsQ (qz_k2 (cB Tf_1 Tv_0) C rr) Av_0 Av_1 Av_2 oo0x1 Av_4 Av_5 Af_1 Af_2 oo0x2 oo0x3 oo0x4 Af_6 Af_7 Af_8)) (fun (u : (Int32) × (Nat → Int32) × (Nat → Int32) × (Nat → Int32) × (Int32) × (Int32) × (Int32) × (Int32)) => match u with | (oo0x1, oo0x2, oo0x3, oo0x4, oo0x5, oo0x6, oo0x7, oo0x8) => [(Wa_0, .inr (0, [.ref Aa_0])), (Aa_0, .inr (9, [.int Av_0, .int Av_1, .int Av_2, .int oo0x1, .int Av_4, .int Av_5, .ref Aa_1, .ref Aa_2, .ref Aa_3, .ref Aa_4, .ref Aa_5, .ref Aa_6, .ref Aa_7, .ref Aa_8])), (Aa_1, .inl (tc 0, 10, .inl Af_1)), (Aa_2, .inl (tc 0, 10, .inl Af_2)), (Aa_3, .inl (tc 0, 6, .inl oo0x2)), (Aa_4, .inl (tc 0, 6, .inl oo0x3)), (Aa_5, .inl (tc 0, 6, .inl oo0x4)), (Aa_6, .inl (tc 0, 6, .inl Af_6)), (Aa_7, .inl (tc 0, 6, .inl Af_7)), (Aa_8, .inl (tc 0, 6, .inl Af_8)), (Ta_0, .inr (10, [.ref Ta_1, .int Tv_0, .int oo0x5, .int oo0x6, .int oo0x7, .int oo0x8])), (Ta_1, .inl (tc 0, 400, .inl Tf_1))]) 0 0 :=
  ct_zX0_readBuyer l D tc sk (fun k => ([Wa_0] : List (Nat)).getD k 0) (fun k => ([Aa_0, Aa_1, Aa_2, Aa_3, Aa_4, Aa_5, Aa_6, Aa_7, Aa_8] : List (Nat)).getD k 0) (fun k => ([Av_0, Av_1, Av_2, Av_3, Av_4, Av_5] : List (Int32)).getD k 0) (fun k => ([(fun _ => 0), Af_1, Af_2, Af_3, Af_4, Af_5, Af_6, Af_7, Af_8] : List (Nat → Int32)).getD k (fun _ => 0)) (fun k => ([Ta_0, Ta_1] : List (Nat)).getD k 0) (fun k => ([Tv_0, Tv_1, Tv_2, Tv_3, Tv_4] : List (Int32)).getD k 0) (fun k => ([(fun _ => 0), Tf_1] : List (Nat → Int32)).getD k (fun _ => 0)) rr C h_tape h_by h_r h_b6 h_c
set_option maxHeartbeats 4000000 in
set_option maxRecDepth 100000 in
theorem ct_zX0_readWatch (l : Launch) (D : va_G) (tc : Nat → ClassId) (sk : (Nat → Nat) × (Nat → Nat)) (Wa : Nat → Nat) (Aa : Nat → Nat) (Av : Nat → Int32) (Af : Nat → Nat → Int32) (Ta : Nat → Nat) (Tv : Nat → Int32) (Tf : Nat → Nat → Int32) (rr : Except Int (Nat × Nat)) (C : Nat → Int) (h_tape : 0 ≤ ((Tv 0) : Int32).toInt ∧ ((Tv 0) : Int32).toInt ≤ 400 ∧ 0 ≤ ((Tv 1) : Int32).toInt ∧ ((Tv 1) : Int32).toInt ≤ 400 ∧ 0 ≤ ((Tv 2) : Int32).toInt ∧ ((Tv 2) : Int32).toInt ≤ 400) (h_by : Byt (Tf 1)) (h_r : TpR (Tf 1) (Tv 0) rr (Tv 1) (Tv 2) (Tv 3) (Tv 4)) (h_bu : 0 ≤ ((Av 3) : Int32).toInt ∧ ((Av 3) : Int32).toInt ≤ 6) (h_c : QcI rr (Av 0) (Av 1) (Av 2) (Av 3) (Av 4) (Av 5) (Af 1) (Af 2) (Af 3) (Af 4) (Af 5) (Af 6) (Af 7) (Af 8) C) : Ct l yX0_readWatch cX0_readWatch 4 none { frames := 3, cells := 0, slots := 0, locals := 68 } D tc sk [.ref (Wa 0), .ref (Ta 0)] [((Wa 0), .inr (0, [.ref (Aa 0)])), ((Aa 0), .inr (9, [.int (Av 0), .int (Av 1), .int (Av 2), .int (Av 3), .int (Av 4), .int (Av 5), .ref (Aa 1), .ref (Aa 2), .ref (Aa 3), .ref (Aa 4), .ref (Aa 5), .ref (Aa 6), .ref (Aa 7), .ref (Aa 8)])), ((Aa 1), .inl (tc 0, 10, .inl (Af 1))), ((Aa 2), .inl (tc 0, 10, .inl (Af 2))), ((Aa 3), .inl (tc 0, 6, .inl (Af 3))), ((Aa 4), .inl (tc 0, 6, .inl (Af 4))), ((Aa 5), .inl (tc 0, 6, .inl (Af 5))), ((Aa 6), .inl (tc 0, 6, .inl (Af 6))), ((Aa 7), .inl (tc 0, 6, .inl (Af 7))), ((Aa 8), .inl (tc 0, 6, .inl (Af 8))), ((Ta 0), .inr (10, [.ref (Ta 1), .int (Tv 0), .int (Tv 1), .int (Tv 2), .int (Tv 3), .int (Tv 4)])), ((Ta 1), .inl (tc 0, 400, .inl (Tf 1)))] (fun (v : Option Value) (u : (Nat → Int32) × (Int32) × (Int32) × (Int32) × (Int32)) => match u with | (oo0x1, oo0x2, oo0x3, oo0x4, oo0x5) => v = none ∧ (0 ≤ ((Tv 0) : Int32).toInt ∧ ((Tv 0) : Int32).toInt ≤ 400 ∧ 0 ≤ (oo0x2 : Int32).toInt ∧ (oo0x2 : Int32).toInt ≤ 400 ∧ 0 ≤ (oo0x3 : Int32).toInt ∧ (oo0x3 : Int32).toInt ≤ 400) ∧ (0 ≤ ((Av 3) : Int32).toInt ∧ ((Av 3) : Int32).toInt ≤ 6) ∧ (TpR (Tf 1) (Tv 0) (rN1 (cB (Tf 1) (Tv 0)) 0 ((Av 3).toInt - 1) (rN1 (cB (Tf 1) (Tv 0)) 0 ((Av 2) - 1 : Int32).toInt rr)) oo0x2 oo0x3 oo0x4 oo0x5) ∧ (QsQ (qz_k3 (cB (Tf 1) (Tv 0)) C rr) (Av 0) (Av 1) (Av 2) (Av 3) (Av 4) (Av 5) (Af 1) oo0x1 (Af 3) (Af 4) (Af 5) (Af 6) (Af 7) (Af 8))) (fun (u : (Nat → Int32) × (Int32) × (Int32) × (Int32) × (Int32)) => match u with | (oo0x1, oo0x2, oo0x3, oo0x4, oo0x5) => [((Wa 0), .inr (0, [.ref (Aa 0)])), ((Aa 0), .inr (9, [.int (Av 0), .int (Av 1), .int (Av 2), .int (Av 3), .int (Av 4), .int (Av 5), .ref (Aa 1), .ref (Aa 2), .ref (Aa 3), .ref (Aa 4), .ref (Aa 5), .ref (Aa 6), .ref (Aa 7), .ref (Aa 8)])), ((Aa 1), .inl (tc 0, 10, .inl (Af 1))), ((Aa 2), .inl (tc 0, 10, .inl oo0x1)), ((Aa 3), .inl (tc 0, 6, .inl (Af 3))), ((Aa 4), .inl (tc 0, 6, .inl (Af 4))), ((Aa 5), .inl (tc 0, 6, .inl (Af 5))), ((Aa 6), .inl (tc 0, 6, .inl (Af 6))), ((Aa 7), .inl (tc 0, 6, .inl (Af 7))), ((Aa 8), .inl (tc 0, 6, .inl (Af 8))), ((Ta 0), .inr (10, [.ref (Ta 1), .int (Tv 0), .int oo0x2, .int oo0x3, .int oo0x4, .int oo0x5])), ((Ta 1), .inl (tc 0, 400, .inl (Tf 1)))]) 0 0 := by
  refine Ct.start (by decide) (Nat.le_of_ble_eq_true rfl) (fun p e s m below meth c A ls hx hb hr hlk hin hml hown hts hK hX hP hD hA hl hS => ?_)
  have hl : lv_has ls 4 [(0, .ref (Wa 0)), (1, .ref (Ta 0))] := hl
  have tb_1 : TpB (rTE (cB (Tf 1) (Tv 0)) rr) (Tv 2) (Tv 4) := TpR.tb h_r
  refine lv_aload_n hx hb dX0_readWatch_0 rfl (lv_at hl 1 rfl) ?_
  refine lv_iconst (v := 0) hx hb dX0_readWatch_1 (by decide) ?_
  refine lv_aload_n hx hb dX0_readWatch_2 rfl (lv_at hl 0 rfl) ?_
  refine gf_X0_12 hx hb hts hown hK hP 0 rfl rfl dX0_readWatch_3 ?_
  refine gf_X0_80 hx hb hts hown hK hP 1 rfl rfl dX0_readWatch_6 ?_
  refine lv_iconst (v := 1) hx hb dX0_readWatch_9 (by decide) ?_
  refine lv_isub hx hb dX0_readWatch_10 ?_
  refine lv_topi (fun x_2 ex_2 => ?_)
  have ha_3 : (0 : Int32).toInt = (0 : Int) := by
    have y_0 : (0 : Int32).toInt = 0 := by decide
    omega
  refine cV (a := (Ta 0)) (As := [.int 0, .int x_2]) (rest := []) (wr := [((Wa 0), .inr (0, [.ref (Aa 0)])), ((Aa 0), .inr (9, [.int (Av 0), .int (Av 1), .int (Av 2), .int (Av 3), .int (Av 4), .int (Av 5), .ref (Aa 1), .ref (Aa 2), .ref (Aa 3), .ref (Aa 4), .ref (Aa 5), .ref (Aa 6), .ref (Aa 7), .ref (Aa 8)])), ((Aa 1), .inl (tc 0, 10, .inl (Af 1))), ((Aa 2), .inl (tc 0, 10, .inl (Af 2))), ((Aa 3), .inl (tc 0, 6, .inl (Af 3))), ((Aa 4), .inl (tc 0, 6, .inl (Af 4))), ((Aa 5), .inl (tc 0, 6, .inl (Af 5))), ((Aa 6), .inl (tc 0, 6, .inl (Af 6))), ((Aa 7), .inl (tc 0, 6, .inl (Af 7))), ((Aa 8), .inl (tc 0, 6, .inl (Af 8)))]) ⟨hx, hb, hml, hown, hts⟩ hK hX hA (cu_fX10_takeNumber l D tc sk (Ta 0) (Ta 1) (Tv 0) (Tv 1) (Tv 2) (Tv 3) (Tv 4) (Tf 1) 0 x_2 rr 0 (((Av 2) - 1 : Int32).toInt) h_tape h_by h_r ha_3 (congrArg Int32.toInt ex_2)) k_566 k_563 k_564 k_565 k_96 pl_X10_takeNumber ⟨Nat.le_of_ble_eq_true rfl, Nat.le_of_ble_eq_true rfl⟩ rfl rfl (va_recv hK hP (ci := 10) (q0 := 10) rfl rfl) hP hD hS [10, 11] [0, 1, 2, 3, 4, 5, 6, 7, 8, 9] rfl rfl rfl rfl rfl (by decide) rfl hl.1 rfl (Nat.le_of_ble_eq_true rfl) dX0_readWatch_11 ⟨Nat.le_of_ble_eq_true rfl, Nat.le_of_ble_eq_true rfl⟩ (fun v_4 u_5 H locs hv_6 hP₀ hD₀ hS₀ => ?_)
  obtain ⟨sv_7, sv_8, sv_9, sv_10⟩ := u_5
  obtain ⟨r_13, rfl, he_14, pf_11, pf_12⟩ := hv_6
  have he_14 : NuV (cB (Tf 1) (Tv 0)) (0 : Int) ((Av 2) - 1 : Int32).toInt rr r_13 := he_14
  have pf_11 : 0 ≤ ((Tv 0) : Int32).toInt ∧ ((Tv 0) : Int32).toInt ≤ 400 ∧ 0 ≤ (sv_7 : Int32).toInt ∧ (sv_7 : Int32).toInt ≤ 400 ∧ 0 ≤ (sv_8 : Int32).toInt ∧ (sv_8 : Int32).toInt ≤ 400 := pf_11
  have pf_12 : TpR (Tf 1) (Tv 0) (rNX (cB (Tf 1) (Tv 0)) (rNU (cB (Tf 1) (Tv 0)) (0 : Int) ((Av 2) - 1 : Int32).toInt rr)) sv_7 sv_8 sv_9 sv_10 := pf_12
  obtain ⟨ro_16, ero_16⟩ : ∃ z : Except Int (Nat × Nat), z = (rNX (cB (Tf 1) (Tv 0)) (rNU (cB (Tf 1) (Tv 0)) 0 ((Av 2) - 1 : Int32).toInt rr)) := ⟨_, rfl⟩
  rw [← ero_16] at pf_12
  have tb_17 : TpB (rTE (cB (Tf 1) (Tv 0)) ro_16) sv_8 sv_10 := TpR.tb pf_12
  refine W.eq (g2 := F0 m 14 ls [.int r_13]) rfl ?_
  replace hP : va_P D classes [((Wa 0), .inr (0, [.ref (Aa 0)])), ((Aa 0), .inr (9, [.int (Av 0), .int (Av 1), .int (Av 2), .int (Av 3), .int (Av 4), .int (Av 5), .ref (Aa 1), .ref (Aa 2), .ref (Aa 3), .ref (Aa 4), .ref (Aa 5), .ref (Aa 6), .ref (Aa 7), .ref (Aa 8)])), ((Aa 1), .inl (tc 0, 10, .inl (Af 1))), ((Aa 2), .inl (tc 0, 10, .inl (Af 2))), ((Aa 3), .inl (tc 0, 6, .inl (Af 3))), ((Aa 4), .inl (tc 0, 6, .inl (Af 4))), ((Aa 5), .inl (tc 0, 6, .inl (Af 5))), ((Aa 6), .inl (tc 0, 6, .inl (Af 6))), ((Aa 7), .inl (tc 0, 6, .inl (Af 7))), ((Aa 8), .inl (tc 0, 6, .inl (Af 8))), ((Ta 0), .inr (10, [.ref (Ta 1), .int (Tv 0), .int sv_7, .int sv_8, .int sv_9, .int sv_10])), ((Ta 1), .inl (tc 0, 400, .inl (Tf 1)))] H := hP₀
  replace hD : va_D A [((Wa 0), .inr (0, [.ref (Aa 0)])), ((Aa 0), .inr (9, [.int (Av 0), .int (Av 1), .int (Av 2), .int (Av 3), .int (Av 4), .int (Av 5), .ref (Aa 1), .ref (Aa 2), .ref (Aa 3), .ref (Aa 4), .ref (Aa 5), .ref (Aa 6), .ref (Aa 7), .ref (Aa 8)])), ((Aa 1), .inl (tc 0, 10, .inl (Af 1))), ((Aa 2), .inl (tc 0, 10, .inl (Af 2))), ((Aa 3), .inl (tc 0, 6, .inl (Af 3))), ((Aa 4), .inl (tc 0, 6, .inl (Af 4))), ((Aa 5), .inl (tc 0, 6, .inl (Af 5))), ((Aa 6), .inl (tc 0, 6, .inl (Af 6))), ((Aa 7), .inl (tc 0, 6, .inl (Af 7))), ((Aa 8), .inl (tc 0, 6, .inl (Af 8))), ((Ta 0), .inr (10, [.ref (Ta 1), .int (Tv 0), .int sv_7, .int sv_8, .int sv_9, .int sv_10])), ((Ta 1), .inl (tc 0, 400, .inl (Tf 1)))] := hD₀
  replace hS := hS₀
  clear hP₀ hD₀ hS₀
  refine lv_istore_n (lv' := [(2, .int r_13), (0, .ref (Wa 0)), (1, .ref (Ta 0))]) hx hb dX0_readWatch_14 rfl hl (by decide) rfl (fun ls hl₀ => ?_)
  replace hl := hl₀
  clear hl₀
  refine lv_aload_n hx hb dX0_readWatch_15 rfl (lv_at hl 2 rfl) ?_
  refine lv_iconst (v := 0) hx hb dX0_readWatch_16 (by decide) ?_
  refine lv_aload_n hx hb dX0_readWatch_17 rfl (lv_at hl 1 rfl) ?_
  refine gf_X0_12 hx hb hts hown hK hP 0 rfl rfl dX0_readWatch_18 ?_
  refine gf_X0_51 hx hb hts hown hK hP 1 rfl rfl dX0_readWatch_21 ?_
  refine lv_iconst (v := 1) hx hb dX0_readWatch_24 (by decide) ?_
  refine lv_isub hx hb dX0_readWatch_25 ?_
  refine lv_topi (fun x_18 ex_18 => ?_)
  have ha_19 : (0 : Int32).toInt = (0 : Int) := by
    have y_0 : (0 : Int32).toInt = 0 := by decide
    omega
  have ha_20 : x_18.toInt = ((Av 3).toInt - 1) := by
    have y_1 : (1 : Int32).toInt = 1 := by decide
    have t_x_18 : x_18.toInt = ((Av 3) : Int32).toInt - (1 : Int32).toInt := by rw [ex_18]; exact sub_toInt (by omega) (by omega)
    omega
  refine cV (a := (Ta 0)) (As := [.int 0, .int x_18]) (rest := []) (wr := [((Wa 0), .inr (0, [.ref (Aa 0)])), ((Aa 0), .inr (9, [.int (Av 0), .int (Av 1), .int (Av 2), .int (Av 3), .int (Av 4), .int (Av 5), .ref (Aa 1), .ref (Aa 2), .ref (Aa 3), .ref (Aa 4), .ref (Aa 5), .ref (Aa 6), .ref (Aa 7), .ref (Aa 8)])), ((Aa 1), .inl (tc 0, 10, .inl (Af 1))), ((Aa 2), .inl (tc 0, 10, .inl (Af 2))), ((Aa 3), .inl (tc 0, 6, .inl (Af 3))), ((Aa 4), .inl (tc 0, 6, .inl (Af 4))), ((Aa 5), .inl (tc 0, 6, .inl (Af 5))), ((Aa 6), .inl (tc 0, 6, .inl (Af 6))), ((Aa 7), .inl (tc 0, 6, .inl (Af 7))), ((Aa 8), .inl (tc 0, 6, .inl (Af 8)))]) ⟨hx, hb, hml, hown, hts⟩ hK hX hA (cu_fX10_takeNumber l D tc sk (Ta 0) (Ta 1) (Tv 0) sv_7 sv_8 sv_9 sv_10 (Tf 1) 0 x_18 ro_16 0 ((Av 3).toInt - 1) pf_11 h_by pf_12 ha_19 ha_20) k_566 k_563 k_564 k_565 k_96 pl_X10_takeNumber ⟨Nat.le_of_ble_eq_true rfl, Nat.le_of_ble_eq_true rfl⟩ rfl rfl (va_recv hK hP (ci := 10) (q0 := 10) rfl rfl) hP hD hS [10, 11] [0, 1, 2, 3, 4, 5, 6, 7, 8, 9] rfl rfl rfl rfl rfl (by decide) rfl hl.1 rfl (Nat.le_of_ble_eq_true rfl) dX0_readWatch_26 ⟨Nat.le_of_ble_eq_true rfl, Nat.le_of_ble_eq_true rfl⟩ (fun v_21 u_22 H locs hv_23 hP₀ hD₀ hS₀ => ?_)
  obtain ⟨sv_24, sv_25, sv_26, sv_27⟩ := u_22
  obtain ⟨r_30, rfl, he_31, pf_28, pf_29⟩ := hv_23
  have he_31 : NuV (cB (Tf 1) (Tv 0)) (0 : Int) ((Av 3).toInt - 1) ro_16 r_30 := he_31
  have pf_28 : 0 ≤ ((Tv 0) : Int32).toInt ∧ ((Tv 0) : Int32).toInt ≤ 400 ∧ 0 ≤ (sv_24 : Int32).toInt ∧ (sv_24 : Int32).toInt ≤ 400 ∧ 0 ≤ (sv_25 : Int32).toInt ∧ (sv_25 : Int32).toInt ≤ 400 := pf_28
  have pf_29 : TpR (Tf 1) (Tv 0) (rNX (cB (Tf 1) (Tv 0)) (rNU (cB (Tf 1) (Tv 0)) (0 : Int) ((Av 3).toInt - 1) ro_16)) sv_24 sv_25 sv_26 sv_27 := pf_29
  obtain ⟨ro_33, ero_33⟩ : ∃ z : Except Int (Nat × Nat), z = (rNX (cB (Tf 1) (Tv 0)) (rNU (cB (Tf 1) (Tv 0)) 0 ((Av 3).toInt - 1) ro_16)) := ⟨_, rfl⟩
  rw [← ero_33] at pf_29
  have tb_34 : TpB (rTE (cB (Tf 1) (Tv 0)) ro_33) sv_25 sv_27 := TpR.tb pf_29
  refine W.eq (g2 := F0 m 29 ls [.int r_30]) rfl ?_
  replace hP : va_P D classes [((Wa 0), .inr (0, [.ref (Aa 0)])), ((Aa 0), .inr (9, [.int (Av 0), .int (Av 1), .int (Av 2), .int (Av 3), .int (Av 4), .int (Av 5), .ref (Aa 1), .ref (Aa 2), .ref (Aa 3), .ref (Aa 4), .ref (Aa 5), .ref (Aa 6), .ref (Aa 7), .ref (Aa 8)])), ((Aa 1), .inl (tc 0, 10, .inl (Af 1))), ((Aa 2), .inl (tc 0, 10, .inl (Af 2))), ((Aa 3), .inl (tc 0, 6, .inl (Af 3))), ((Aa 4), .inl (tc 0, 6, .inl (Af 4))), ((Aa 5), .inl (tc 0, 6, .inl (Af 5))), ((Aa 6), .inl (tc 0, 6, .inl (Af 6))), ((Aa 7), .inl (tc 0, 6, .inl (Af 7))), ((Aa 8), .inl (tc 0, 6, .inl (Af 8))), ((Ta 0), .inr (10, [.ref (Ta 1), .int (Tv 0), .int sv_24, .int sv_25, .int sv_26, .int sv_27])), ((Ta 1), .inl (tc 0, 400, .inl (Tf 1)))] H := hP₀
  replace hD : va_D A [((Wa 0), .inr (0, [.ref (Aa 0)])), ((Aa 0), .inr (9, [.int (Av 0), .int (Av 1), .int (Av 2), .int (Av 3), .int (Av 4), .int (Av 5), .ref (Aa 1), .ref (Aa 2), .ref (Aa 3), .ref (Aa 4), .ref (Aa 5), .ref (Aa 6), .ref (Aa 7), .ref (Aa 8)])), ((Aa 1), .inl (tc 0, 10, .inl (Af 1))), ((Aa 2), .inl (tc 0, 10, .inl (Af 2))), ((Aa 3), .inl (tc 0, 6, .inl (Af 3))), ((Aa 4), .inl (tc 0, 6, .inl (Af 4))), ((Aa 5), .inl (tc 0, 6, .inl (Af 5))), ((Aa 6), .inl (tc 0, 6, .inl (Af 6))), ((Aa 7), .inl (tc 0, 6, .inl (Af 7))), ((Aa 8), .inl (tc 0, 6, .inl (Af 8))), ((Ta 0), .inr (10, [.ref (Ta 1), .int (Tv 0), .int sv_24, .int sv_25, .int sv_26, .int sv_27])), ((Ta 1), .inl (tc 0, 400, .inl (Tf 1)))] := hD₀
  replace hS := hS₀
  clear hP₀ hD₀ hS₀
  refine lv_istore_n (lv' := [(3, .int r_30), (2, .int r_13), (0, .ref (Wa 0)), (1, .ref (Ta 0))]) hx hb dX0_readWatch_29 rfl hl (by decide) rfl (fun ls hl₀ => ?_)
  replace hl := hl₀
  clear hl₀
  refine lv_aload_n hx hb dX0_readWatch_30 rfl (lv_at hl 2 rfl) ?_
  refine gf_X0_12 hx hb hts hown hK hP 0 rfl rfl dX0_readWatch_31 ?_
  refine lv_iload_n hx hb dX0_readWatch_34 rfl (lv_at hl 1 rfl) ?_
  refine cV (a := (Aa 0)) (As := [.int r_13]) (rest := []) (wr := [((Wa 0), .inr (0, [.ref (Aa 0)])), ((Ta 0), .inr (10, [.ref (Ta 1), .int (Tv 0), .int sv_24, .int sv_25, .int sv_26, .int sv_27])), ((Ta 1), .inl (tc 0, 400, .inl (Tf 1)))]) ⟨hx, hb, hml, hown, hts⟩ hK hX hA (cu_zX9_hasClock l D tc sk (Aa 0) (Aa 1) (Aa 2) (Aa 3) (Aa 4) (Aa 5) (Aa 6) (Aa 7) (Aa 8) (Av 0) (Av 1) (Av 2) (Av 3) (Av 4) (Av 5) (Af 1) (Af 2) (Af 3) (Af 4) (Af 5) (Af 6) (Af 7) (Af 8) r_13) k_579 k_576 k_577 k_578 k_98 pl_X9_hasClock ⟨Nat.le_of_ble_eq_true rfl, Nat.le_of_ble_eq_true rfl⟩ rfl rfl (va_recv hK hP (ci := 9) (q0 := 1) rfl rfl) hP hD hS [1, 2, 3, 4, 5, 6, 7, 8, 9] [0, 10, 11] rfl rfl rfl rfl rfl (by decide) rfl hl.1 rfl (Nat.le_of_ble_eq_true rfl) dX0_readWatch_35 ⟨Nat.le_of_ble_eq_true rfl, Nat.le_of_ble_eq_true rfl⟩ (fun v_35 u_36 H locs hv_37 hP₀ hD₀ hS₀ => ?_)
  obtain ⟨r_38, rfl, he_39⟩ := hv_37
  have he_39 : ((r_38.toInt = 0 ∧ ¬ (0 ≤ r_13.toInt ∧ r_13.toInt < (Av 2).toInt ∧ r_13.toInt < 10)) ∨ (r_38.toInt = 1 ∧ (0 ≤ r_13.toInt ∧ r_13.toInt < (Av 2).toInt ∧ r_13.toInt < 10))) := he_39
  refine W.eq (g2 := F0 m 38 ls [.int r_38]) rfl ?_
  replace hP : va_P D classes [((Wa 0), .inr (0, [.ref (Aa 0)])), ((Ta 0), .inr (10, [.ref (Ta 1), .int (Tv 0), .int sv_24, .int sv_25, .int sv_26, .int sv_27])), ((Ta 1), .inl (tc 0, 400, .inl (Tf 1))), ((Aa 0), .inr (9, [.int (Av 0), .int (Av 1), .int (Av 2), .int (Av 3), .int (Av 4), .int (Av 5), .ref (Aa 1), .ref (Aa 2), .ref (Aa 3), .ref (Aa 4), .ref (Aa 5), .ref (Aa 6), .ref (Aa 7), .ref (Aa 8)])), ((Aa 1), .inl (tc 0, 10, .inl (Af 1))), ((Aa 2), .inl (tc 0, 10, .inl (Af 2))), ((Aa 3), .inl (tc 0, 6, .inl (Af 3))), ((Aa 4), .inl (tc 0, 6, .inl (Af 4))), ((Aa 5), .inl (tc 0, 6, .inl (Af 5))), ((Aa 6), .inl (tc 0, 6, .inl (Af 6))), ((Aa 7), .inl (tc 0, 6, .inl (Af 7))), ((Aa 8), .inl (tc 0, 6, .inl (Af 8)))] H := hP₀
  replace hD : va_D A [((Wa 0), .inr (0, [.ref (Aa 0)])), ((Ta 0), .inr (10, [.ref (Ta 1), .int (Tv 0), .int sv_24, .int sv_25, .int sv_26, .int sv_27])), ((Ta 1), .inl (tc 0, 400, .inl (Tf 1))), ((Aa 0), .inr (9, [.int (Av 0), .int (Av 1), .int (Av 2), .int (Av 3), .int (Av 4), .int (Av 5), .ref (Aa 1), .ref (Aa 2), .ref (Aa 3), .ref (Aa 4), .ref (Aa 5), .ref (Aa 6), .ref (Aa 7), .ref (Aa 8)])), ((Aa 1), .inl (tc 0, 10, .inl (Af 1))), ((Aa 2), .inl (tc 0, 10, .inl (Af 2))), ((Aa 3), .inl (tc 0, 6, .inl (Af 3))), ((Aa 4), .inl (tc 0, 6, .inl (Af 4))), ((Aa 5), .inl (tc 0, 6, .inl (Af 5))), ((Aa 6), .inl (tc 0, 6, .inl (Af 6))), ((Aa 7), .inl (tc 0, 6, .inl (Af 7))), ((Aa 8), .inl (tc 0, 6, .inl (Af 8)))] := hD₀
  replace hS := hS₀
  clear hP₀ hD₀ hS₀
  refine lv_if_eq (tgt := 67) hx hb dX0_readWatch_38 (by decide) (fun c_41 => ?_) (fun c_41 => ?_)
  · skip
    have hu_42 : TpR (Tf 1) (Tv 0) (rNX (cB (Tf 1) (Tv 0)) (rNU (cB (Tf 1) (Tv 0)) 0 ((Av 3).toInt - 1) (rNX (cB (Tf 1) (Tv 0)) (rNU (cB (Tf 1) (Tv 0)) 0 ((Av 2) - 1 : Int32).toInt rr)))) sv_24 sv_25 sv_26 sv_27 := by
      rw [← ero_16, ← ero_33]
      exact pf_29
    have hf_43 : TpR (Tf 1) (Tv 0) (rN1 (cB (Tf 1) (Tv 0)) 0 ((Av 3).toInt - 1) (rN1 (cB (Tf 1) (Tv 0)) 0 ((Av 2) - 1 : Int32).toInt rr)) sv_24 sv_25 sv_26 sv_27 := hu_42
    have hv_44 : NuV (cB (Tf 1) (Tv 0)) 0 ((Av 2) - 1 : Int32).toInt rr r_13 := by
      have hq := he_14
      exact hq
    have hv_45 : NuV (cB (Tf 1) (Tv 0)) 0 ((Av 3).toInt - 1) (rN1 (cB (Tf 1) (Tv 0)) 0 ((Av 2) - 1 : Int32).toInt rr) r_30 := by
      have hq := he_31
      rw [ero_16] at hq
      exact hq
    have hr_47 : ¬ (0 ≤ (r_13 : Int32).toInt ∧ (r_13 : Int32).toInt < (Av 2).toInt ∧ (r_13 : Int32).toInt < 10 ∧ 0 ≤ (r_30 : Int32).toInt ∧ (r_30 : Int32).toInt < (Av 3).toInt ∧ (r_30 : Int32).toInt < 6) := by
      have z_1 := congrArg Int32.toInt c_41
      have y_0 : (0 : Int32).toInt = 0 := by decide
      omega
    have hs_46 : QsQ (qz_k3 (cB (Tf 1) (Tv 0)) C rr) (Av 0) (Av 1) (Av 2) (Av 3) (Av 4) (Av 5) (Af 1) (Af 2) (Af 3) (Af 4) (Af 5) (Af 6) (Af 7) (Af 8) := QsQ.n3 h_c hv_44 hv_45 h_bu hr_47
    exact retV hx hb hr hlk hP hD hS ((Af 2), sv_24, sv_25, sv_26, sv_27) ⟨rfl, pf_28, h_bu, hf_43, hs_46⟩ [0, 3, 4, 5, 6, 7, 8, 9, 10, 11, 1, 2] rfl rfl dX0_readWatch_67 (Nat.le_of_ble_eq_true rfl) (Nat.le_of_ble_eq_true rfl) rfl
  · skip
    refine lv_aload_n hx hb dX0_readWatch_41 rfl (lv_at hl 2 rfl) ?_
    refine gf_X0_12 hx hb hts hown hK hP 0 rfl rfl dX0_readWatch_42 ?_
    refine lv_iload_n hx hb dX0_readWatch_45 rfl (lv_at hl 0 rfl) ?_
    refine cV (a := (Aa 0)) (As := [.int r_30]) (rest := []) (wr := [((Wa 0), .inr (0, [.ref (Aa 0)])), ((Ta 0), .inr (10, [.ref (Ta 1), .int (Tv 0), .int sv_24, .int sv_25, .int sv_26, .int sv_27])), ((Ta 1), .inl (tc 0, 400, .inl (Tf 1)))]) ⟨hx, hb, hml, hown, hts⟩ hK hX hA (cu_zX9_hasBuyer l D tc sk (Aa 0) (Aa 1) (Aa 2) (Aa 3) (Aa 4) (Aa 5) (Aa 6) (Aa 7) (Aa 8) (Av 0) (Av 1) (Av 2) (Av 3) (Av 4) (Av 5) (Af 1) (Af 2) (Af 3) (Af 4) (Af 5) (Af 6) (Af 7) (Af 8) r_30) k_591 k_588 k_589 k_590 k_98 pl_X9_hasBuyer ⟨Nat.le_of_ble_eq_true rfl, Nat.le_of_ble_eq_true rfl⟩ rfl rfl (va_recv hK hP (ci := 9) (q0 := 3) rfl rfl) hP hD hS [3, 4, 5, 6, 7, 8, 9, 10, 11] [0, 1, 2] rfl rfl rfl rfl rfl (by decide) rfl hl.1 rfl (Nat.le_of_ble_eq_true rfl) dX0_readWatch_46 ⟨Nat.le_of_ble_eq_true rfl, Nat.le_of_ble_eq_true rfl⟩ (fun v_48 u_49 H locs hv_50 hP₀ hD₀ hS₀ => ?_)
    obtain ⟨r_51, rfl, he_52⟩ := hv_50
    have he_52 : ((r_51.toInt = 0 ∧ ¬ (0 ≤ r_30.toInt ∧ r_30.toInt < (Av 3).toInt ∧ r_30.toInt < 6)) ∨ (r_51.toInt = 1 ∧ (0 ≤ r_30.toInt ∧ r_30.toInt < (Av 3).toInt ∧ r_30.toInt < 6))) := he_52
    refine W.eq (g2 := F0 m 49 ls [.int r_51]) rfl ?_
    replace hP : va_P D classes [((Wa 0), .inr (0, [.ref (Aa 0)])), ((Ta 0), .inr (10, [.ref (Ta 1), .int (Tv 0), .int sv_24, .int sv_25, .int sv_26, .int sv_27])), ((Ta 1), .inl (tc 0, 400, .inl (Tf 1))), ((Aa 0), .inr (9, [.int (Av 0), .int (Av 1), .int (Av 2), .int (Av 3), .int (Av 4), .int (Av 5), .ref (Aa 1), .ref (Aa 2), .ref (Aa 3), .ref (Aa 4), .ref (Aa 5), .ref (Aa 6), .ref (Aa 7), .ref (Aa 8)])), ((Aa 1), .inl (tc 0, 10, .inl (Af 1))), ((Aa 2), .inl (tc 0, 10, .inl (Af 2))), ((Aa 3), .inl (tc 0, 6, .inl (Af 3))), ((Aa 4), .inl (tc 0, 6, .inl (Af 4))), ((Aa 5), .inl (tc 0, 6, .inl (Af 5))), ((Aa 6), .inl (tc 0, 6, .inl (Af 6))), ((Aa 7), .inl (tc 0, 6, .inl (Af 7))), ((Aa 8), .inl (tc 0, 6, .inl (Af 8)))] H := hP₀
    replace hD : va_D A [((Wa 0), .inr (0, [.ref (Aa 0)])), ((Ta 0), .inr (10, [.ref (Ta 1), .int (Tv 0), .int sv_24, .int sv_25, .int sv_26, .int sv_27])), ((Ta 1), .inl (tc 0, 400, .inl (Tf 1))), ((Aa 0), .inr (9, [.int (Av 0), .int (Av 1), .int (Av 2), .int (Av 3), .int (Av 4), .int (Av 5), .ref (Aa 1), .ref (Aa 2), .ref (Aa 3), .ref (Aa 4), .ref (Aa 5), .ref (Aa 6), .ref (Aa 7), .ref (Aa 8)])), ((Aa 1), .inl (tc 0, 10, .inl (Af 1))), ((Aa 2), .inl (tc 0, 10, .inl (Af 2))), ((Aa 3), .inl (tc 0, 6, .inl (Af 3))), ((Aa 4), .inl (tc 0, 6, .inl (Af 4))), ((Aa 5), .inl (tc 0, 6, .inl (Af 5))), ((Aa 6), .inl (tc 0, 6, .inl (Af 6))), ((Aa 7), .inl (tc 0, 6, .inl (Af 7))), ((Aa 8), .inl (tc 0, 6, .inl (Af 8)))] := hD₀
    replace hS := hS₀
    clear hP₀ hD₀ hS₀
    refine lv_if_eq (tgt := 67) hx hb dX0_readWatch_49 (by decide) (fun c_54 => ?_) (fun c_54 => ?_)
    · skip
      have hu_55 : TpR (Tf 1) (Tv 0) (rNX (cB (Tf 1) (Tv 0)) (rNU (cB (Tf 1) (Tv 0)) 0 ((Av 3).toInt - 1) (rNX (cB (Tf 1) (Tv 0)) (rNU (cB (Tf 1) (Tv 0)) 0 ((Av 2) - 1 : Int32).toInt rr)))) sv_24 sv_25 sv_26 sv_27 := by
        rw [← ero_16, ← ero_33]
        exact pf_29
      have hf_56 : TpR (Tf 1) (Tv 0) (rN1 (cB (Tf 1) (Tv 0)) 0 ((Av 3).toInt - 1) (rN1 (cB (Tf 1) (Tv 0)) 0 ((Av 2) - 1 : Int32).toInt rr)) sv_24 sv_25 sv_26 sv_27 := hu_55
      have hv_57 : NuV (cB (Tf 1) (Tv 0)) 0 ((Av 2) - 1 : Int32).toInt rr r_13 := by
        have hq := he_14
        exact hq
      have hv_58 : NuV (cB (Tf 1) (Tv 0)) 0 ((Av 3).toInt - 1) (rN1 (cB (Tf 1) (Tv 0)) 0 ((Av 2) - 1 : Int32).toInt rr) r_30 := by
        have hq := he_31
        rw [ero_16] at hq
        exact hq
      have hr_60 : ¬ (0 ≤ (r_13 : Int32).toInt ∧ (r_13 : Int32).toInt < (Av 2).toInt ∧ (r_13 : Int32).toInt < 10 ∧ 0 ≤ (r_30 : Int32).toInt ∧ (r_30 : Int32).toInt < (Av 3).toInt ∧ (r_30 : Int32).toInt < 6) := by
        have z_1 : ¬ (r_38 : Int32).toInt = (0 : Int32).toInt := fun z => c_41 (Int32.toInt_inj.mp z)
        have z_2 := congrArg Int32.toInt c_54
        have y_0 : (0 : Int32).toInt = 0 := by decide
        omega
      have hs_59 : QsQ (qz_k3 (cB (Tf 1) (Tv 0)) C rr) (Av 0) (Av 1) (Av 2) (Av 3) (Av 4) (Av 5) (Af 1) (Af 2) (Af 3) (Af 4) (Af 5) (Af 6) (Af 7) (Af 8) := QsQ.n3 h_c hv_57 hv_58 h_bu hr_60
      exact retV hx hb hr hlk hP hD hS ((Af 2), sv_24, sv_25, sv_26, sv_27) ⟨rfl, pf_28, h_bu, hf_56, hs_59⟩ [0, 3, 4, 5, 6, 7, 8, 9, 10, 11, 1, 2] rfl rfl dX0_readWatch_67 (Nat.le_of_ble_eq_true rfl) (Nat.le_of_ble_eq_true rfl) rfl
    · skip
      refine lv_aload_n hx hb dX0_readWatch_52 rfl (lv_at hl 2 rfl) ?_
      refine gf_X0_12 hx hb hts hown hK hP 0 rfl rfl dX0_readWatch_53 ?_
      refine gf_X0_103 hx hb hts hown hK hP 3 rfl rfl dX0_readWatch_56 ?_
      refine lv_iload_n hx hb dX0_readWatch_59 rfl (lv_at hl 1 rfl) ?_
      refine lv_dup2_11 hx hb dX0_readWatch_60 rfl rfl ?_
      have hi_61 : vp_in r_13 10 := by
        have z_1 : ¬ (r_38 : Int32).toInt = (0 : Int32).toInt := fun z => c_41 (Int32.toInt_inj.mp z)
        have z_2 : ¬ (r_51 : Int32).toInt = (0 : Int32).toInt := fun z => c_54 (Int32.toInt_inj.mp z)
        have y_0 : (0 : Int32).toInt = 0 := by decide
        refine vp_in_iff.mpr ⟨?_, ?_⟩ <;> omega
      refine va_iald hx hb hK hP 5 0 rfl rfl hi_61 dX0_readWatch_61 ?_
      refine lv_topi (fun x_62 ex_62 => ?_)
      refine lv_iconst (v := 1) hx hb dX0_readWatch_62 (by decide) ?_
      refine lv_iload_n hx hb dX0_readWatch_63 rfl (lv_at hl 0 rfl) ?_
      refine lv_ishl hx hb dX0_readWatch_64 ?_
      refine lv_topi (fun x_63 ex_63 => ?_)
      refine lv_ior hx hb dX0_readWatch_65 ?_
      refine lv_topi (fun x_64 ex_64 => ?_)
      have hi_65 : vp_in r_13 10 := by
        have z_1 : ¬ (r_38 : Int32).toInt = (0 : Int32).toInt := fun z => c_41 (Int32.toInt_inj.mp z)
        have z_2 : ¬ (r_51 : Int32).toInt = (0 : Int32).toInt := fun z => c_54 (Int32.toInt_inj.mp z)
        have y_0 : (0 : Int32).toInt = 0 := by decide
        refine vp_in_iff.mpr ⟨?_, ?_⟩ <;> omega
      refine st_int hx hb hK hP hD hS 5 0 rfl rfl hi_65 dX0_readWatch_66 (fun g_66 H locs eg_66 hP₀ hD₀ hS₀ => ?_)
      replace hP : va_P D classes [((Wa 0), .inr (0, [.ref (Aa 0)])), ((Ta 0), .inr (10, [.ref (Ta 1), .int (Tv 0), .int sv_24, .int sv_25, .int sv_26, .int sv_27])), ((Ta 1), .inl (tc 0, 400, .inl (Tf 1))), ((Aa 0), .inr (9, [.int (Av 0), .int (Av 1), .int (Av 2), .int (Av 3), .int (Av 4), .int (Av 5), .ref (Aa 1), .ref (Aa 2), .ref (Aa 3), .ref (Aa 4), .ref (Aa 5), .ref (Aa 6), .ref (Aa 7), .ref (Aa 8)])), ((Aa 1), .inl (tc 0, 10, .inl (Af 1))), ((Aa 2), .inl (tc 0, 10, .inl g_66)), ((Aa 3), .inl (tc 0, 6, .inl (Af 3))), ((Aa 4), .inl (tc 0, 6, .inl (Af 4))), ((Aa 5), .inl (tc 0, 6, .inl (Af 5))), ((Aa 6), .inl (tc 0, 6, .inl (Af 6))), ((Aa 7), .inl (tc 0, 6, .inl (Af 7))), ((Aa 8), .inl (tc 0, 6, .inl (Af 8)))] H := hP₀
      replace hD : va_D A [((Wa 0), .inr (0, [.ref (Aa 0)])), ((Ta 0), .inr (10, [.ref (Ta 1), .int (Tv 0), .int sv_24, .int sv_25, .int sv_26, .int sv_27])), ((Ta 1), .inl (tc 0, 400, .inl (Tf 1))), ((Aa 0), .inr (9, [.int (Av 0), .int (Av 1), .int (Av 2), .int (Av 3), .int (Av 4), .int (Av 5), .ref (Aa 1), .ref (Aa 2), .ref (Aa 3), .ref (Aa 4), .ref (Aa 5), .ref (Aa 6), .ref (Aa 7), .ref (Aa 8)])), ((Aa 1), .inl (tc 0, 10, .inl (Af 1))), ((Aa 2), .inl (tc 0, 10, .inl g_66)), ((Aa 3), .inl (tc 0, 6, .inl (Af 3))), ((Aa 4), .inl (tc 0, 6, .inl (Af 4))), ((Aa 5), .inl (tc 0, 6, .inl (Af 5))), ((Aa 6), .inl (tc 0, 6, .inl (Af 6))), ((Aa 7), .inl (tc 0, 6, .inl (Af 7))), ((Aa 8), .inl (tc 0, 6, .inl (Af 8)))] := hD₀
      replace hS := hS₀
      clear hP₀ hD₀ hS₀
      have hu_67 : TpR (Tf 1) (Tv 0) (rNX (cB (Tf 1) (Tv 0)) (rNU (cB (Tf 1) (Tv 0)) 0 ((Av 3).toInt - 1) (rNX (cB (Tf 1) (Tv 0)) (rNU (cB (Tf 1) (Tv 0)) 0 ((Av 2) - 1 : Int32).toInt rr)))) sv_24 sv_25 sv_26 sv_27 := by
        rw [← ero_16, ← ero_33]
        exact pf_29
      have hf_68 : TpR (Tf 1) (Tv 0) (rN1 (cB (Tf 1) (Tv 0)) 0 ((Av 3).toInt - 1) (rN1 (cB (Tf 1) (Tv 0)) 0 ((Av 2) - 1 : Int32).toInt rr)) sv_24 sv_25 sv_26 sv_27 := hu_67
      have hv_69 : NuV (cB (Tf 1) (Tv 0)) 0 ((Av 2) - 1 : Int32).toInt rr r_13 := by
        have hq := he_14
        exact hq
      have hv_70 : NuV (cB (Tf 1) (Tv 0)) 0 ((Av 3).toInt - 1) (rN1 (cB (Tf 1) (Tv 0)) 0 ((Av 2) - 1 : Int32).toInt rr) r_30 := by
        have hq := he_31
        rw [ero_16] at hq
        exact hq
      have he_72 : g_66 = upd (Af 2) (r_13 : Int32).toNatClampNeg ((Af 2) (r_13 : Int32).toNatClampNeg ||| ((1 : Int32) <<< ((r_30 : Int32) &&& 31))) := by rw [eg_66, ex_64, ex_62, ex_63]
      have hs_71 : QsQ (qz_k3 (cB (Tf 1) (Tv 0)) C rr) (Av 0) (Av 1) (Av 2) (Av 3) (Av 4) (Av 5) (Af 1) g_66 (Af 3) (Af 4) (Af 5) (Af 6) (Af 7) (Af 8) := QsQ.b3 h_c hv_69 hv_70 he_72
      exact retV hx hb hr hlk hP hD hS (g_66, sv_24, sv_25, sv_26, sv_27) ⟨rfl, pf_28, h_bu, hf_68, hs_71⟩ [0, 3, 4, 5, 6, 7, 8, 9, 10, 11, 1, 2] rfl rfl dX0_readWatch_67 (Nat.le_of_ble_eq_true rfl) (Nat.le_of_ble_eq_true rfl) rfl
set_option maxRecDepth 100000 in
theorem cu_zX0_readWatch (l : Launch) (D : va_G) (tc : Nat → ClassId) (sk : (Nat → Nat) × (Nat → Nat)) (Wa_0 : Nat) (Aa_0 : Nat) (Aa_1 : Nat) (Aa_2 : Nat) (Aa_3 : Nat) (Aa_4 : Nat) (Aa_5 : Nat) (Aa_6 : Nat) (Aa_7 : Nat) (Aa_8 : Nat) (Av_0 : Int32) (Av_1 : Int32) (Av_2 : Int32) (Av_3 : Int32) (Av_4 : Int32) (Av_5 : Int32) (Af_1 : Nat → Int32) (Af_2 : Nat → Int32) (Af_3 : Nat → Int32) (Af_4 : Nat → Int32) (Af_5 : Nat → Int32) (Af_6 : Nat → Int32) (Af_7 : Nat → Int32) (Af_8 : Nat → Int32) (Ta_0 : Nat) (Ta_1 : Nat) (Tv_0 : Int32) (Tv_1 : Int32) (Tv_2 : Int32) (Tv_3 : Int32) (Tv_4 : Int32) (Tf_1 : Nat → Int32) (rr : Except Int (Nat × Nat)) (C : Nat → Int) (h_tape : 0 ≤ (Tv_0 : Int32).toInt ∧ (Tv_0 : Int32).toInt ≤ 400 ∧ 0 ≤ (Tv_1 : Int32).toInt ∧ (Tv_1 : Int32).toInt ≤ 400 ∧ 0 ≤ (Tv_2 : Int32).toInt ∧ (Tv_2 : Int32).toInt ≤ 400) (h_by : Byt Tf_1) (h_r : TpR Tf_1 Tv_0 rr Tv_1 Tv_2 Tv_3 Tv_4) (h_bu : 0 ≤ (Av_3 : Int32).toInt ∧ (Av_3 : Int32).toInt ≤ 6) (h_c : QcI rr Av_0 Av_1 Av_2 Av_3 Av_4 Av_5 Af_1 Af_2 Af_3 Af_4 Af_5 Af_6 Af_7 Af_8 C) : Ct l yX0_readWatch cX0_readWatch 4 none { frames := 3, cells := 0, slots := 0, locals := 68 } D tc sk [.ref Wa_0, .ref Ta_0] [(Wa_0, .inr (0, [.ref Aa_0])), (Aa_0, .inr (9, [.int Av_0, .int Av_1, .int Av_2, .int Av_3, .int Av_4, .int Av_5, .ref Aa_1, .ref Aa_2, .ref Aa_3, .ref Aa_4, .ref Aa_5, .ref Aa_6, .ref Aa_7, .ref Aa_8])), (Aa_1, .inl (tc 0, 10, .inl Af_1)), (Aa_2, .inl (tc 0, 10, .inl Af_2)), (Aa_3, .inl (tc 0, 6, .inl Af_3)), (Aa_4, .inl (tc 0, 6, .inl Af_4)), (Aa_5, .inl (tc 0, 6, .inl Af_5)), (Aa_6, .inl (tc 0, 6, .inl Af_6)), (Aa_7, .inl (tc 0, 6, .inl Af_7)), (Aa_8, .inl (tc 0, 6, .inl Af_8)), (Ta_0, .inr (10, [.ref Ta_1, .int Tv_0, .int Tv_1, .int Tv_2, .int Tv_3, .int Tv_4])), (Ta_1, .inl (tc 0, 400, .inl Tf_1))] (fun (v : Option Value) (u : (Nat → Int32) × (Int32) × (Int32) × (Int32) × (Int32)) => match u with | (oo0x1, oo0x2, oo0x3, oo0x4, oo0x5) => v = none ∧ (0 ≤ (Tv_0 : Int32).toInt ∧ (Tv_0 : Int32).toInt ≤ 400 ∧ 0 ≤ (oo0x2 : Int32).toInt ∧ (oo0x2 : Int32).toInt ≤ 400 ∧ 0 ≤ (oo0x3 : Int32).toInt ∧ (oo0x3 : Int32).toInt ≤ 400) ∧ (0 ≤ (Av_3 : Int32).toInt ∧ (Av_3 : Int32).toInt ≤ 6) ∧ (TpR Tf_1 Tv_0 (rN1 (cB Tf_1 Tv_0) 0 (Av_3.toInt - 1) (rN1 (cB Tf_1 Tv_0) 0 (Av_2 - 1 : Int32).toInt rr)) oo0x2 oo0x3 oo0x4 oo0x5) ∧ (QsQ (qz_k3 (cB Tf_1 Tv_0) C rr) Av_0 Av_1 Av_2 Av_3 Av_4 Av_5 Af_1 oo0x1 Af_3 Af_4 Af_5 Af_6 Af_7 Af_8)) (fun (u : (Nat → Int32) × (Int32) × (Int32) × (Int32) × (Int32)) => match u with | (oo0x1, oo0x2, oo0x3, oo0x4, oo0x5) => [(Wa_0, .inr (0, [.ref Aa_0])), (Aa_0, .inr (9, [.int Av_0, .int Av_1, .int Av_2, .int Av_3, .int Av_4, .int Av_5, .ref Aa_1, .ref Aa_2, .ref Aa_3, .ref Aa_4, .ref Aa_5, .ref Aa_6, .ref Aa_7, .ref Aa_8])), (Aa_1, .inl (tc 0, 10, .inl Af_1)), (Aa_2, .inl (tc 0, 10, .inl oo0x1)), (Aa_3, .inl (tc 0, 6, .inl Af_3)), (Aa_4, .inl (tc 0, 6, .inl Af_4)), (Aa_5, .inl (tc 0, 6, .inl Af_5)), (Aa_6, .inl (tc 0, 6, .inl Af_6)), (Aa_7, .inl (tc 0, 6, .inl Af_7)), (Aa_8, .inl (tc 0, 6, .inl Af_8)), (Ta_0, .inr (10, [.ref Ta_1, .int Tv_0, .int oo0x2, .int oo0x3, .int oo0x4, .int oo0x5])), (Ta_1, .inl (tc 0, 400, .inl Tf_1))]) 0 0 :=
  ct_zX0_readWatch l D tc sk (fun k => ([Wa_0] : List (Nat)).getD k 0) (fun k => ([Aa_0, Aa_1, Aa_2, Aa_3, Aa_4, Aa_5, Aa_6, Aa_7, Aa_8] : List (Nat)).getD k 0) (fun k => ([Av_0, Av_1, Av_2, Av_3, Av_4, Av_5] : List (Int32)).getD k 0) (fun k => ([(fun _ => 0), Af_1, Af_2, Af_3, Af_4, Af_5, Af_6, Af_7, Af_8] : List (Nat → Int32)).getD k (fun _ => 0)) (fun k => ([Ta_0, Ta_1] : List (Nat)).getD k 0) (fun k => ([Tv_0, Tv_1, Tv_2, Tv_3, Tv_4] : List (Int32)).getD k 0) (fun k => ([(fun _ => 0), Tf_1] : List (Nat → Int32)).getD k (fun _ => 0)) rr C h_tape h_by h_r h_bu h_c
