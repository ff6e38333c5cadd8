set_option maxRecDepth 16384
/-! the first that fits, how many, whether any -/
def fdU (F : Nat → Int32) : Nat → Nat → Int32 → Int32
  | 0, _, f => f
  | n + 1, i, f => if F i = 0 then fdU F n (i + 1) f else nI i - 1
theorem fdU_snoc {F : Nat → Int32} {f : Int32} : ∀ (n i : Nat), fdU F (n + 1) i f = fdU F n i (if F (i + n) = 0 then f else nI (i + n) - 1)
  | 0, i => by
    show (if F i = 0 then f else nI i - 1) = (if F (i + 0) = 0 then f else nI (i + 0) - 1)
    rw [Nat.add_zero]
  | n + 1, i => by
    have ih := fdU_snoc (F := F) (f := f) n (i + 1)
    rw [show i + 1 + n = i + (n + 1) by omega] at ih
    show (if F i = 0 then fdU F (n + 1) (i + 1) f else nI i - 1) = (if F i = 0 then fdU F n (i + 1) _ else nI i - 1)
    rw [ih]
theorem fdU_zero {F : Nat → Int32} {f : Int32} : ∀ (n i : Nat), (∀ k, i ≤ k → k < i + n → F k = 0) → fdU F n i f = f
  | 0, i, _ => rfl
  | n + 1, i, h => by
    show (if F i = 0 then fdU F n (i + 1) f else nI i - 1) = f
    rw [if_pos (h i (Nat.le_refl _) (by omega))]
    exact fdU_zero n (i + 1) (fun k a b => h k (by omega) (by omega))
theorem fdU_eq {F G : Nat → Int32} {f : Int32} : ∀ (n i : Nat), (∀ k, i ≤ k → k < i + n → F k = G k) → fdU F n i f = fdU G n i f
  | 0, i, _ => rfl
  | n + 1, i, h => by
    show (if F i = 0 then fdU F n (i + 1) f else nI i - 1) = (if G i = 0 then fdU G n (i + 1) f else nI i - 1)
    rw [h i (Nat.le_refl _) (by omega), fdU_eq n (i + 1) (fun k a b => h k (by omega) (by omega))]
theorem fdU_app {F : Nat → Int32} {f : Int32} : ∀ (m n i : Nat), fdU F (n + m) i f = fdU F n i (fdU F m (i + n) f)
  | m, 0, i => by
    show fdU F (0 + m) i f = fdU F m (i + 0) f
    rw [Nat.zero_add, Nat.add_zero]
  | m, n + 1, i => by
    have ih := fdU_app (F := F) (f := f) m n (i + 1)
    rw [show n + 1 + m = (n + m) + 1 by omega]
    show (if F i = 0 then fdU F (n + m) (i + 1) f else nI i - 1) = (if F i = 0 then fdU F n (i + 1) (fdU F m (i + (n + 1)) f) else nI i - 1)
    rw [ih, show i + 1 + n = i + (n + 1) by omega]
theorem FtE.first {F G : Nat → Int32} {q : Int32} {f : Int32} (h : FtE F G q) : fdU F 7 0 f = fdU G (q.toInt.toNat + 1) 0 f := by
  have hq := h.1
  obtain ⟨m, hm⟩ : ∃ m, 7 = (q.toInt.toNat + 1) + m := ⟨7 - (q.toInt.toNat + 1), by omega⟩
  rw [hm, fdU_app m (q.toInt.toNat + 1) 0, fdU_zero m _ (fun k a b => h.2.2 k (by omega) (by omega))]
  exact fdU_eq _ 0 (fun k a b => h.2.1 k (by omega))
theorem i32_nI {k : Int32} (h : 0 ≤ k.toInt) : k = nI k.toInt.toNat := by
  apply Int32.toInt_inj.mp
  rw [nI_toInt (by have := k.toInt_lt; omega)]
  omega
theorem fiL {F : Nat → Int32} : ∀ (n : Nat) (i : Int32), 0 ≤ i.toInt → i.toInt ≤ 7 → 7 - i.toInt < (n : Int) → (if (dX2_firstFitting_l2 F n i).1 = (1 : Int32) then (dX2_firstFitting_l2 F n i).2.1 else (-2 : Int32)) = fdU F (7 - i.toInt.toNat) i.toInt.toNat (-2)
  | 0, i, h0, h1, hn => by omega
  | n + 1, i, h0, h1, hn => by
    rw [dX2_firstFitting_l2_s]
    by_cases z : (7 : Int32) ≤ i
    · rw [if_pos z]
      rw [i32_leq, t_7] at z
      rw [show 7 - i.toInt.toNat = 0 by omega]
      show (if (0 : Int32) = 1 then _ else (-2 : Int32)) = -2
      rw [if_neg (by decide)]
    · have hi : i.toInt < 7 := by rw [i32_leq, t_7] at z; omega
      have en : (i + 1).toInt = i.toInt + 1 := by rw [ix_k rfl t_1 (by omega)]
      rw [if_neg z, show 7 - i.toInt.toNat = (7 - (i + 1).toInt.toNat) + 1 by omega]
      show _ = (if F i.toInt.toNat = 0 then fdU F (7 - (i + 1).toInt.toNat) (i.toInt.toNat + 1) (-2) else nI i.toInt.toNat - 1)
      by_cases y : F i.toNatClampNeg = 0
      · have y2 : F i.toInt.toNat = 0 := y
        rw [if_pos y, if_pos y2, show i.toInt.toNat + 1 = (i + 1).toInt.toNat by omega]
        exact fiL n (i + 1) (by omega) (by omega) (by omega)
      · have y2 : ¬ F i.toInt.toNat = 0 := y
        rw [if_neg y, if_neg y2, ← i32_nI h0]
        show (if (1 : Int32) = 1 then i - 1 else _) = _
        rw [if_pos rfl]
theorem first_is {F : Nat → Int32} : dX2_firstFitting F = fdU F 7 0 (-2) := by
  have h := fiL (F := F) ((7 - (0 : Int32).toInt).toNat + 1) 0 (by decide) (by decide) (by decide)
  unfold dX2_firstFitting
  exact h
section RUL
variable {g2 g4 g5 s kp ft wh G : Nat → Int32} {g8 g9 : Nat → Int64} {q tp fo gd : Int32}
theorem ruL (eG : (dX12_fillsFits g2 g4 g5 s kp ft wh g8 g9 q tp fo gd).2.2.2.2.2.1 = G) : ∀ (n : Nat) (k f m : Int32), -1 ≤ k.toInt → k.toInt ≤ 6 → k.toInt + 1 < (n : Int) → (dX12_ruled_l35 g2 g4 g5 s kp ft wh g8 g9 q tp fo gd n k f m).2 = (fdU G (k.toInt + 1).toNat 0 f, m + cntG G (k.toInt + 1).toNat)
  | 0, k, f, m, h0, h1, hn => by omega
  | n + 1, k, f, m, h0, h1, hn => by
    rw [dX12_ruled_l35_s, eG]
    by_cases z : k < (0 : Int32)
    · rw [if_pos z]
      rw [i32_lt, t_0] at z
      rw [show (k.toInt + 1).toNat = 0 by omega]
      show (f, m) = (f, m + 0)
      rw [Int32.add_zero]
    · have hk : 0 ≤ k.toInt := by rw [i32_lt, t_0] at z; omega
      have en : (k + (-1)).toInt = k.toInt - 1 := by rw [ix_k rfl t_m1 (by omega)]; omega
      have e1 : (k.toInt + 1).toNat = k.toInt.toNat + 1 := by omega
      have e2 : ((k + (-1)).toInt + 1).toNat = k.toInt.toNat := by omega
      have ih := fun f m => ruL eG n (k + (-1)) f m (by omega) (by omega) (by omega)
      rw [e2] at ih
      rw [if_neg z, e1, fdU_snoc, Nat.zero_add]
      show _ = (_, m + (cntG G k.toInt.toNat + (if G k.toInt.toNat = 0 then 0 else 1)))
      by_cases y : G k.toNatClampNeg = 0
      · have y2 : G k.toInt.toNat = 0 := y
        rw [if_pos y, if_pos y2, if_pos y2, ih, Int32.add_zero]
      · have y2 : ¬ G k.toInt.toNat = 0 := y
        rw [if_neg y, if_neg y2, if_neg y2, ih, ← i32_nI hk, Int32.add_assoc, Int32.add_comm 1 (cntG G k.toInt.toNat)]
theorem ruled_loop (hq : 0 ≤ q.toInt ∧ q.toInt ≤ 6) (eG : (dX12_fillsFits g2 g4 g5 s kp ft wh g8 g9 q tp fo gd).2.2.2.2.2.1 = G) : (dX12_ruled_l35 g2 g4 g5 s kp ft wh g8 g9 q tp fo gd (((q : Int32).toInt + 1).toNat + 1) q (-2) 0).2 = (fdU G (q.toInt.toNat + 1) 0 (-2), cntG G (q.toInt.toNat + 1)) := by
  rw [ruL eG _ q (-2) 0 (by omega) (by omega) (by omega), show (q.toInt + 1).toNat = q.toInt.toNat + 1 by omega, Int32.zero_add]
end RUL
/-! whether any fits -/
theorem cntG_rg {G : Nat → Int32} : ∀ m : Nat, m ≤ 7 → 0 ≤ (cntG G m).toInt ∧ (cntG G m).toInt ≤ (m : Int)
  | 0, _ => by show 0 ≤ (0 : Int32).toInt ∧ (0 : Int32).toInt ≤ 0; rw [t_0]; omega
  | m + 1, h => by
    have ih := cntG_rg (G := G) m (by omega)
    show 0 ≤ (cntG G m + (if G m = 0 then 0 else 1)).toInt ∧ (cntG G m + (if G m = 0 then 0 else 1)).toInt ≤ ((m + 1 : Nat) : Int)
    by_cases z : G m = 0
    · rw [if_pos z, Int32.add_zero]; omega
    · rw [if_neg z, ix_k rfl t_1 (by omega)]; omega
theorem cntG_z {G : Nat → Int32} : ∀ m : Nat, m ≤ 7 → ((cntG G m).toInt = 0 ↔ ∀ k, k < m → G k = 0)
  | 0, _ => ⟨fun _ k hk => absurd hk (Nat.not_lt_zero k), fun _ => t_0⟩
  | m + 1, h => by
    have ih := cntG_z (G := G) m (by omega)
    have hr := cntG_rg (G := G) m (by omega)
    show (cntG G m + (if G m = 0 then 0 else 1)).toInt = 0 ↔ _
    by_cases z : G m = 0
    · rw [if_pos z, Int32.add_zero, ih]
      exact ⟨fun a k hk => by
        by_cases y : k = m
        · rw [y]; exact z
        · exact a k (by omega), fun a k hk => a k (by omega)⟩
    · rw [if_neg z, ix_k rfl t_1 (by omega)]
      exact ⟨fun a => by omega, fun a => absurd (a m (by omega)) z⟩
theorem cn_ge {W F : Nat → Int32} {a d : Int32} : ∀ (n : Nat) (i acc : Int32), 0 ≤ i.toInt → i.toInt ≤ 7 → 7 - i.toInt < (n : Int) → 0 ≤ acc.toInt → acc.toInt ≤ i.toInt → acc.toInt ≤ (dX2_mostAlike_l16 W F a d n i acc).2.toInt ∧ (i.toInt ≤ a.toInt → a.toInt < 7 → ¬ F a.toNatClampNeg = 0 → acc.toInt + 1 ≤ (dX2_mostAlike_l16 W F a d n i acc).2.toInt)
  | 0, i, acc, h0, h1, hn, h2, h3 => by omega
  | n + 1, i, acc, h0, h1, hn, h2, h3 => by
    rw [dX2_mostAlike_l16_s]
    by_cases z : (7 : Int32) ≤ i
    · rw [if_pos z]
      rw [i32_leq, t_7] at z
      exact ⟨Int.le_refl _, fun a b => by omega⟩
    · have hi : i.toInt < 7 := by rw [i32_leq, t_7] at z; omega
      have en : (i + 1).toInt = i.toInt + 1 := by rw [ix_k rfl t_1 (by omega)]
      have ea : (acc + 1).toInt = acc.toInt + 1 := by rw [ix_k rfl t_1 (by omega)]
      have ih := cn_ge (W := W) (F := F) (a := a) (d := d) n (i + 1) acc (by omega) (by omega) (by omega) h2 (by omega)
      have ih1 := cn_ge (W := W) (F := F) (a := a) (d := d) n (i + 1) (acc + 1) (by omega) (by omega) (by omega) (by omega) (by omega)
      rw [if_neg z]
      by_cases y : F a.toNatClampNeg = 0
      · rw [if_pos y]; exact ⟨ih.1, fun _ _ c => absurd y c⟩
      · rw [if_neg y]
        by_cases x : F i.toNatClampNeg = 0
        · rw [if_pos x]
          refine ⟨ih.1, fun b c e => ?_⟩
          by_cases v : i.toInt = a.toInt
          · exact absurd (by rw [← Int32.toInt_inj.mp v]; exact x) y
          · exact ih.2 (by omega) c e
        · rw [if_neg x]
          by_cases w : dX2_whoOn W a d = dX2_whoOn W i d
          · rw [if_pos w]; exact ⟨by have := ih1.1; omega, fun b c e => by have := ih1.1; omega⟩
          · rw [if_neg w]
            refine ⟨ih.1, fun b c e => ?_⟩
            by_cases v : i.toInt = a.toInt
            · exact absurd (by rw [Int32.toInt_inj.mp v]) w
            · exact ih.2 (by omega) c e
theorem mo_ge {W F : Nat → Int32} {d : Int32} {k : Nat} (hk : k < 7) (hF : ¬ F k = 0) : ∀ (n : Nat) (a acc : Int32), 0 ≤ a.toInt → a.toInt ≤ 7 → 7 - a.toInt < (n : Int) → 0 ≤ acc.toInt → acc.toInt ≤ (dX2_mostAlike_l4 W F d n a acc).2.toInt ∧ (a.toInt ≤ (k : Int) → 1 ≤ (dX2_mostAlike_l4 W F d n a acc).2.toInt)
  | 0, a, acc, h0, h1, hn, h2 => by omega
  | n + 1, a, acc, h0, h1, hn, h2 => by
    rw [dX2_mostAlike_l4_s]
    by_cases z : (7 : Int32) ≤ a
    · rw [if_pos z]
      rw [i32_leq, t_7] at z
      exact ⟨Int.le_refl _, fun b => by omega⟩
    · have hi : a.toInt < 7 := by rw [i32_leq, t_7] at z; omega
      have en : (a + 1).toInt = a.toInt + 1 := by rw [ix_k rfl t_1 (by omega)]
      have hc := cn_ge (W := W) (F := F) (a := a) (d := d) ((7 - (0 : Int32).toInt).toNat + 1) 0 0 (by decide) (by decide) (by decide) (by decide) (by decide)
      rw [if_neg z]
      generalize (dX2_mostAlike_l16 W F a d ((7 - (0 : Int32).toInt).toNat + 1) 0 0).2 = x at hc ⊢
      rw [t_0] at hc
      by_cases y : acc < x
      · have y3 : acc.toInt < x.toInt := by rw [i32_lt] at y; exact y
        rw [if_pos y]
        have ih := mo_ge (W := W) (d := d) hk hF n (a + 1) x (by omega) (by omega) (by omega) (by omega)
        exact ⟨by have := ih.1; omega, fun b => by have := ih.1; omega⟩
      · have y3 : x.toInt ≤ acc.toInt := by rw [i32_lt] at y; omega
        rw [if_neg y]
        have ih := mo_ge (W := W) (d := d) hk hF n (a + 1) acc (by omega) (by omega) (by omega) h2
        refine ⟨ih.1, fun b => ?_⟩
        by_cases v : a.toInt = (k : Int)
        · have e : a.toNatClampNeg = k := by
            show a.toInt.toNat = k
            omega
          have := hc.2 (by omega) hi (by rw [e]; exact hF)
          have := ih.1
          omega
        · exact ih.2 (by omega)
theorem mo_z {W F : Nat → Int32} {d : Int32} (hF : ∀ k, k < 7 → F k = 0) : ∀ (n : Nat) (a : Int32), 0 ≤ a.toInt → a.toInt ≤ 7 → 7 - a.toInt < (n : Int) → (dX2_mostAlike_l4 W F d n a 0).2 = 0
  | 0, a, h0, h1, hn => by omega
  | n + 1, a, h0, h1, hn => by
    rw [dX2_mostAlike_l4_s]
    by_cases z : (7 : Int32) ≤ a
    · rw [if_pos z]
    · have hi : a.toInt < 7 := by rw [i32_leq, t_7] at z; omega
      have en : (a + 1).toInt = a.toInt + 1 := by rw [ix_k rfl t_1 (by omega)]
      have fa : F a.toNatClampNeg = 0 := hF a.toInt.toNat (by omega)
      rw [if_neg z, alZero fa _ 0 0 (by decide) (by decide) (by decide), if_neg (show ¬ (0 : Int32) < 0 by decide)]
      exact mo_z hF n (a + 1) (by omega) (by omega) (by omega)
theorem most_z {W F G V : Nat → Int32} {q d : Int32} (hF : FtE F G q) (hT : TbE W V (61 * q.toInt.toNat + 61)) (hd : 0 ≤ d.toInt ∧ d.toInt ≤ 60) : dX12_alikeAt G V q d = 0 ↔ cntG G (q.toInt.toNat + 1) = 0 := by
  have hq := hF.1
  rw [← most_is hF hT hd]
  have e0 : cntG G (q.toInt.toNat + 1) = 0 ↔ (cntG G (q.toInt.toNat + 1)).toInt = 0 := by
    rw [← Int32.toInt_inj, t_0]
  rw [e0, cntG_z _ (by omega)]
  constructor
  · intro h k hk
    by_cases z : G k = 0
    · exact z
    · exfalso
      have hk7 : ¬ F k = 0 := by rw [hF.2.1 k (by omega)]; exact z
      have h1 := (mo_ge (W := W) (d := d) (k := k) (by omega) hk7 ((7 - (0 : Int32).toInt).toNat + 1) 0 0 (by decide) (by decide) (by decide) (by decide)).2 (by rw [t_0]; omega)
      unfold dX2_mostAlike at h
      rw [h, t_0] at h1
      omega
  · intro h
    unfold dX2_mostAlike
    refine mo_z (fun k hk => ?_) _ 0 (by decide) (by decide) (by decide)
    by_cases z : (k : Int) ≤ q.toInt
    · rw [hF.2.1 k z]; exact h k (by omega)
    · exact hF.2.2 k (by omega) hk
set_option maxRecDepth 16384
/-! the class's readers of rules: what they write down (r: what has been read so far) -/
def CdK (f : Nat → Int32) (u : Int32) (r : Except Int (Nat × Nat)) (L : List Int) : Prop := ∀ s, r = .ok s → L.length ≤ 400 → u.toInt = (L.length : Int) ∧ CdE f L
/-- what is written behind a list, by what stands there -/
def Ap (r : Except Int (Nat × Nat)) (F : Nat × Nat → List Int) (L : List Int) : List Int := match r with
  | .ok s => L ++ F s
  | .error _ => L
def lval (B : Nat → Int) (s : Nat × Nat) : List Int := [ec_v B s.1]
def lsum (B : Nat → Int) (s : Nat × Nat) : List Int := ec_sum B s.1
def ltst (B : Nat → Int) (m : Nat) (s : Nat × Nat) : List Int := ec_tst B (pz_fact B m) (ec_fact B m) s
theorem pz_b_in {S T : Type} {r : Except Int S} {g : S → Except Int T} {t : T} (h : pz_b r g = .ok t) : ∃ s, r = .ok s ∧ g s = .ok t := by
  cases r with
  | error e => cases h
  | ok s => exact ⟨s, rfl, h⟩
section CDK
variable {f f' : Nat → Int32} {u u' x : Int32} {r q R : Except Int (Nat × Nat)} {L L' : List Int} {B : Nat → Int}
theorem CdK.b {g : Nat × Nat → Except Int (Nat × Nat)} (h : CdK f u r L) : CdK f u (pz_b r g) L := fun t ht hl => by
  obtain ⟨s, hs, -⟩ := pz_b_in ht
  exact h s hs hl
theorem CdK.nx (h : CdK f u r L) : CdK f u (rNX B r) L := CdK.b h
theorem CdK.sk (h : CdK f u r L) : CdK f u (rSK B r) L := CdK.b h
theorem CdK.nu {lo hi : Int} (h : CdK f u r L) : CdK f u (rNU B lo hi r) L := CdK.b h
theorem CdK.c1 (h : CdK f u r L) : CdK f u (rC1 r) L := CdK.b h
theorem CdK.en (h : CdK f u r L) : CdK f u (rEN B r) L := CdK.b h
theorem CdK.rb (h : CdK f u r L) : CdK f u (pz_b r (pz_rb B)) L := CdK.b h
theorem CdK.er {k : Int} : CdK f u (rER k r) L := fun s hs => by cases r <;> cases hs
theorem CdK.nil (hu : u.toInt = 0) : CdK f u r [] := fun _ _ _ => ⟨hu, fun i hi => absurd hi (Nat.not_lt_zero i)⟩
theorem CdE.put (h : CdE f L) (e : f' = upd f L.length x) : CdE f' (L ++ [x.toInt]) := fun i hi => by
  rw [List.length_append, List.length_singleton] at hi
  by_cases z : i < L.length
  · rw [e, upd_ne (by omega), List.getD_eq_getElem?_getD, List.getElem?_append_left z, ← List.getD_eq_getElem?_getD]
    exact h i z
  · have ei : i = L.length := by omega
    rw [e, ei, upd_at, List.getD_eq_getElem?_getD, List.getElem?_append_right (Nat.le_refl _), Nat.sub_self]
    rfl
theorem CdK.put (h : CdK f u r L) (e : f' = upd f u.toNatClampNeg x) (hu : u'.toInt = u.toInt + 1) : CdK f' u' r (L ++ [x.toInt]) := fun s hs hl => by
  rw [List.length_append, List.length_singleton] at hl
  obtain ⟨h1, h2⟩ := h s hs (by omega)
  have eu : u.toNatClampNeg = L.length := by
    show u.toInt.toNat = _
    omega
  rw [eu] at e
  refine ⟨?_, h2.put e⟩
  rw [List.length_append, List.length_singleton]
  omega
theorem CdK.full (h : CdK f u r L) (hu : 400 ≤ u.toInt) : CdK f u r (L ++ [x.toInt]) := fun s hs hl => by
  rw [List.length_append, List.length_singleton] at hl
  have := (h s hs (by omega)).1
  omega
theorem CdK.to (h : CdK f u q L) (e : R = q) (hl : ∀ t, R = .ok t → L' = L) : CdK f u R L' := fun t ht hn => by
  rw [hl t ht] at hn ⊢
  exact h t (e.symm.trans ht) hn
end CDK
/-! a value -/
theorem waR_rg {B : Nat → Int} {r : Except Int (Nat × Nat)} : -1 ≤ waR B (wL 2) 0 r ∧ waR B (wL 2) 0 r ≤ 12 := by
  rw [wL2]
  cases r with
  | error e => show (-1 : Int) ≤ -1 ∧ (-1 : Int) ≤ 12; omega
  | ok s =>
    have h2 := pz_wa_ge0 (B := B) (p := s.1) pz_words 0 (Int.le_refl _)
    have h3 := pz_wa_lt (B := B) (p := s.1) pz_words 0 (Int.le_refl _)
    have h4 : (pz_words.length : Int) = 13 := by decide
    show -1 ≤ pz_wa B s.1 pz_words 0 ∧ pz_wa B s.1 pz_words 0 ≤ 12
    omega
section VL
variable {f : Nat → Int32} {n : Int32} {r : Except Int (Nat × Nat)} {a b c d x : Int32} {ll : List Int}
theorem vl_dig (h : TpR f n r a b c d) (hc : 48 ≤ c.toInt ∧ c.toInt ≤ 57) (hv : NuV (cB f n) 0 99999 r x) : ∀ t, pz_b r (pz_val (cB f n)) = .ok t → Ap r (lval (cB f n)) ll = ll ++ [x.toInt] := fun t ht => by
  obtain ⟨s, rfl, hs⟩ := pz_b_in ht
  have h3 := h.2.2.2
  have hd : pz_isD (cB f n s.1) = true := decide_eq_true (by rw [← h3]; exact hc)
  unfold pz_val at hs
  rw [if_pos hd] at hs
  cases e : pz_num (cB f n) 0 99999 s.1 with
  | error z => rw [e] at hs; cases hs
  | ok v =>
    have hx := hv s v rfl e
    have h2 := (pz_num_v e).1
    show ll ++ [ec_v (cB f n) s.1] = ll ++ [x.toInt]
    rw [show ec_v (cB f n) s.1 = pz_nv (cB f n) s.1 (pz_te (cB f n) s.1 - s.1) from if_pos hd, hx, h2]
theorem vl_wd {w : Int32} (h : TpR f n r a b c d) (hc : ¬ (48 ≤ c.toInt ∧ c.toInt ≤ 57)) (hw : w.toInt = waR (cB f n) (wL 2) 0 r) (hx : x.toInt = 100000 + w.toInt) : ∀ t, pz_b r (pz_val (cB f n)) = .ok t → Ap r (lval (cB f n)) ll = ll ++ [x.toInt] := fun t ht => by
  obtain ⟨s, rfl, hs⟩ := pz_b_in ht
  have h3 := h.2.2.2
  have hd : ¬ pz_isD (cB f n s.1) = true := fun z => hc (by rw [h3]; exact of_decide_eq_true z)
  rw [wL2] at hw
  have hw : w.toInt = pz_wa (cB f n) s.1 pz_words 0 := hw
  show ll ++ [ec_v (cB f n) s.1] = ll ++ [x.toInt]
  rw [show ec_v (cB f n) s.1 = 100000 + pz_wa (cB f n) s.1 pz_words 0 from if_neg hd, hx, hw]
theorem vl_no {B : Nat → Int} {L' : List Int} (e : pz_b r (pz_val B) = rNX B (rC1 (rER 0 r))) : ∀ t, pz_b r (pz_val B) = .ok t → Ap r (lval B) ll = L' := fun t ht => by
  rw [e] at ht
  exfalso
  cases r <;> cases ht
end VL
/-! a sum -/
def SmC (f : Nat → Int32) (n : Int32) (R : Except Int (Nat × Nat)) (a b c d ct i : Int32) (cf : Nat → Int32) (cu w : Int32) (FL : List Int) : Prop := ∃ q, TpR f n q a b c d ∧ Ctd q ct ∧ R = pz_b q (pz_lp (pz_sF (cB f n))) ∧ (∀ s, q = .ok s → i.toInt ≤ (s.1 : Int)) ∧ ∃ L, CdK cf cu q L ∧ ∀ s, q = .ok s → FL = L ++ ec_sL (cB f n) s.1 w.toInt
section SMC
variable {f : Nat → Int32} {n : Int32} {r q R : Except Int (Nat × Nat)} {a b c d a' b' c' d' ct i i' : Int32} {cf : Nat → Int32} {cu w sg : Int32} {L FL ll : List Int}
theorem m1_t : (-1 : Int32).toInt = -1 := by decide
theorem SmC.first (h : TpR f n (pz_b r (pz_val (cB f n))) a b c d) (hc : Ctd (pz_b r (pz_val (cB f n))) ct) (hk : CdK cf cu (pz_b r (pz_val (cB f n))) (Ap r (lval (cB f n)) ll)) : SmC f n (pz_b r (pz_sum (cB f n))) a b c d ct 0 cf cu (-1) (Ap r (lsum (cB f n)) ll) := by
  refine ⟨_, h, hc, by cases r <;> rfl, fun s _ => Int.natCast_nonneg s.1, _, hk, fun t ht => ?_⟩
  obtain ⟨s, rfl, hs⟩ := pz_b_in ht
  have h1 := (pz_val_ok hs).1
  show ll ++ ec_sum (cB f n) s.1 = (ll ++ [ec_v (cB f n) s.1]) ++ ec_sL (cB f n) t.1 (-1 : Int32).toInt
  rw [h1, List.append_assoc, m1_t]
  rfl
/-- what stands behind an operator's value -/
theorem sm_bd (hq : TpR f n q a b c d) (hi : ∀ s, q = .ok s → i.toInt ≤ (s.1 : Int)) (hc : c.toInt = 43 ∨ c.toInt = 45 ∨ c.toInt = 42 ∨ c.toInt = 47 ∨ c.toInt = 37) (hi' : i'.toInt = i.toInt + 1) : ∀ t, pz_b (rNX (cB f n) q) (pz_val (cB f n)) = .ok t → i'.toInt ≤ (t.1 : Int) := fun t ht => by
  obtain ⟨s, rfl, h0, h1, h2, h3⟩ := hq.okc (by omega)
  have e1 := hi s rfl
  have e2 := (pz_val_gt (show pz_val (cB f n) (pz_nx (cB f n) s) = .ok t from ht)).2
  have e3 := pz_nt_gt (B := cB f n) (p := s.1) (by omega)
  have e4 : (pz_nx (cB f n) s).1 = pz_nt (cB f n) s.1 := rfl
  omega
theorem ec_o_op {x : Int} (h : ¬ ec_o x = -1) : x = 43 ∨ x = 45 ∨ x = 42 ∨ x = 47 ∨ x = 37 := by
  by_cases z : x = 43 ∨ x = 45 ∨ x = 42 ∨ x = 47 ∨ x = 37
  · exact z
  · exact absurd (ec_o_no.mpr z) h
theorem sm_at (hq : TpR f n q a b c d) (hsg : sg.toInt = ec_o c.toInt) (hne : ¬ sg.toInt = -1) : ∀ t, pz_b (rNX (cB f n) q) (pz_val (cB f n)) = .ok t → ∃ s, q = .ok s ∧ ec_o (cB f n s.1) = sg.toInt ∧ t.1 = pz_nt (cB f n) (pz_nt (cB f n) s.1) := fun t ht => by
  have ho := ec_o_op (x := c.toInt) (by omega)
  obtain ⟨s, rfl, h0, h1, h2, h3⟩ := hq.okc (by omega)
  refine ⟨s, rfl, by rw [← h3]; exact hsg.symm, ?_⟩
  have hv := (pz_val_ok (show pz_val (cB f n) (pz_nx (cB f n) s) = .ok t from ht)).1
  rw [hv]
  rfl
theorem SmC.pm0 (hn : n.toInt ≤ 400) (hq : TpR f n q a b c d) (hR : R = pz_b q (pz_lp (pz_sF (cB f n)))) (hi : ∀ s, q = .ok s → i.toInt ≤ (s.1 : Int)) (hL : ∀ s, q = .ok s → FL = L ++ ec_sL (cB f n) s.1 w.toInt) (hw : w.toInt = -1) (hsg : sg.toInt = ec_o c.toInt) (h12 : sg.toInt = -12 ∨ sg.toInt = -13) (h : TpR f n (pz_b (rNX (cB f n) q) (pz_val (cB f n))) a' b' c' d') (hct : Ctd (pz_b (rNX (cB f n) q) (pz_val (cB f n))) ct) (hk : CdK cf cu (pz_b (rNX (cB f n) q) (pz_val (cB f n))) (Ap (rNX (cB f n) q) (lval (cB f n)) L)) (hi' : i'.toInt = i.toInt + 1) : SmC f n R a' b' c' d' ct i' cf cu sg FL := by
  have hc := ec_o_op (x := c.toInt) (by omega)
  refine ⟨_, h, hct, hR.trans (sum_turn hn hq hc), sm_bd hq hi hc hi', _, hk, fun t ht => ?_⟩
  obtain ⟨s, rfl, e1, e2⟩ := sm_at hq hsg (by omega) t ht
  rw [hL s rfl, hw, ec_sL_pm (cB_fi hn) (by rw [e1]; exact h12), e1, e2]
  show L ++ ([] ++ ec_v (cB f n) (pz_nt (cB f n) s.1) :: _) = (L ++ [ec_v (cB f n) (pz_nt (cB f n) s.1)]) ++ _
  rw [List.append_assoc]
  rfl
theorem SmC.pm1 (hn : n.toInt ≤ 400) (hq : TpR f n q a b c d) (hR : R = pz_b q (pz_lp (pz_sF (cB f n)))) (hi : ∀ s, q = .ok s → i.toInt ≤ (s.1 : Int)) (hL : ∀ s, q = .ok s → FL = L ++ ec_sL (cB f n) s.1 w.toInt) (hw : ¬ w.toInt = -1) (hsg : sg.toInt = ec_o c.toInt) (h12 : sg.toInt = -12 ∨ sg.toInt = -13) (h : TpR f n (pz_b (rNX (cB f n) q) (pz_val (cB f n))) a' b' c' d') (hct : Ctd (pz_b (rNX (cB f n) q) (pz_val (cB f n))) ct) (hk : CdK cf cu (pz_b (rNX (cB f n) q) (pz_val (cB f n))) (Ap (rNX (cB f n) q) (lval (cB f n)) (L ++ [w.toInt]))) (hi' : i'.toInt = i.toInt + 1) : SmC f n R a' b' c' d' ct i' cf cu sg FL := by
  have hc := ec_o_op (x := c.toInt) (by omega)
  refine ⟨_, h, hct, hR.trans (sum_turn hn hq hc), sm_bd hq hi hc hi', _, hk, fun t ht => ?_⟩
  obtain ⟨s, rfl, e1, e2⟩ := sm_at hq hsg (by omega) t ht
  rw [hL s rfl, ec_sL_pm (cB_fi hn) (by rw [e1]; exact h12), e1, e2, show ec_w w.toInt = [w.toInt] from if_neg hw]
  show L ++ ([w.toInt] ++ ec_v (cB f n) (pz_nt (cB f n) s.1) :: _) = ((L ++ [w.toInt]) ++ [ec_v (cB f n) (pz_nt (cB f n) s.1)]) ++ _
  rw [List.append_assoc, List.append_assoc]
  rfl
theorem SmC.td (hn : n.toInt ≤ 400) (hq : TpR f n q a b c d) (hR : R = pz_b q (pz_lp (pz_sF (cB f n)))) (hi : ∀ s, q = .ok s → i.toInt ≤ (s.1 : Int)) (hL : ∀ s, q = .ok s → FL = L ++ ec_sL (cB f n) s.1 w.toInt) (hsg : sg.toInt = ec_o c.toInt) (hne : ¬ sg.toInt = -1) (h12 : ¬ (sg.toInt = -12 ∨ sg.toInt = -13)) (h : TpR f n (pz_b (rNX (cB f n) q) (pz_val (cB f n))) a' b' c' d') (hct : Ctd (pz_b (rNX (cB f n) q) (pz_val (cB f n))) ct) (hk : CdK cf cu (pz_b (rNX (cB f n) q) (pz_val (cB f n))) (Ap (rNX (cB f n) q) (lval (cB f n)) L ++ [sg.toInt])) (hi' : i'.toInt = i.toInt + 1) : SmC f n R a' b' c' d' ct i' cf cu w FL := by
  have hc := ec_o_op (x := c.toInt) (by omega)
  refine ⟨_, h, hct, hR.trans (sum_turn hn hq hc), sm_bd hq hi hc hi', _, hk, fun t ht => ?_⟩
  obtain ⟨s, rfl, e1, e2⟩ := sm_at hq hsg hne t ht
  rw [hL s rfl, ec_sL_td (cB_fi hn) (by rw [e1]; exact hne) (by rw [e1]; exact h12), e1, e2]
  show L ++ (ec_v (cB f n) (pz_nt (cB f n) s.1) :: sg.toInt :: _) = ((L ++ [ec_v (cB f n) (pz_nt (cB f n) s.1)]) ++ [sg.toInt]) ++ _
  rw [List.append_assoc, List.append_assoc]
  rfl
theorem sm_no (hn : n.toInt ≤ 400) (hq : TpR f n q a b c d) (hi : ∀ s, q = .ok s → i.toInt ≤ (s.1 : Int)) (hx : 400 ≤ i.toInt ∨ ¬ (c.toInt = 43 ∨ c.toInt = 45 ∨ c.toInt = 42 ∨ c.toInt = 47 ∨ c.toInt = 37)) : ∀ s, q = .ok s → ec_o (cB f n s.1) = -1 := fun s hs => by
  subst hs
  have h3 := hq.2.2.2
  rcases hx with hx | hx
  · have h4 := hi s rfl
    rw [cB_out (by omega)]
    decide
  · rw [← h3]; exact ec_o_no.mpr hx
theorem SmC.end0 (hn : n.toInt ≤ 400) (hq : TpR f n q a b c d) (hR : R = pz_b q (pz_lp (pz_sF (cB f n)))) (hi : ∀ s, q = .ok s → i.toInt ≤ (s.1 : Int)) (hL : ∀ s, q = .ok s → FL = L ++ ec_sL (cB f n) s.1 w.toInt) (hw : w.toInt = -1) (hx : 400 ≤ i.toInt ∨ ¬ (c.toInt = 43 ∨ c.toInt = 45 ∨ c.toInt = 42 ∨ c.toInt = 47 ∨ c.toInt = 37)) (hk : CdK cf cu q L) : CdK cf cu R FL := by
  have e := hR.trans (sum_end hn hq hi hx)
  refine CdK.to hk e (fun t ht => ?_)
  have hq2 := e.symm.trans ht
  rw [hL t hq2, ec_sL_no (sm_no hn hq hi hx t hq2), hw]
  exact List.append_nil L
theorem SmC.end1 (hn : n.toInt ≤ 400) (hq : TpR f n q a b c d) (hR : R = pz_b q (pz_lp (pz_sF (cB f n)))) (hi : ∀ s, q = .ok s → i.toInt ≤ (s.1 : Int)) (hL : ∀ s, q = .ok s → FL = L ++ ec_sL (cB f n) s.1 w.toInt) (hw : ¬ w.toInt = -1) (hx : 400 ≤ i.toInt ∨ ¬ (c.toInt = 43 ∨ c.toInt = 45 ∨ c.toInt = 42 ∨ c.toInt = 47 ∨ c.toInt = 37)) (hk : CdK cf cu q (L ++ [w.toInt])) : CdK cf cu R FL := by
  have e := hR.trans (sum_end hn hq hi hx)
  refine CdK.to hk e (fun t ht => ?_)
  have hq2 := e.symm.trans ht
  rw [hL t hq2, ec_sL_no (sm_no hn hq hi hx t hq2), show ec_w w.toInt = [w.toInt] from if_neg hw]
end SMC
/-! a fact -/
def ec_cc (c l : Int) : Int := if c = 60 then (if l = 2 then -8 else -7) else if c = 61 then -9 else (if l = 2 then -10 else -11)
section FCC
variable {f : Nat → Int32} {n : Int32} {r : Except Int (Nat × Nat)} {a b c d x : Int32} {ll : List Int} {B : Nat → Int} {m : Nat}
theorem ec_cc_is {s : Nat × Nat} (h : TpR f n (.ok s) a b c d) : ec_cc c.toInt (b.toInt - a.toInt) = ec_c (cB f n) s.1 := by
  have h1 := h.2.1
  have h2 := h.2.2.1
  have h3 := h.2.2.2
  unfold ec_cc ec_c
  rw [h3]
  by_cases z : pz_te (cB f n) s.1 = s.1 + 2
  · rw [if_pos (show b.toInt - a.toInt = 2 by omega), if_pos z, if_pos (show b.toInt - a.toInt = 2 by omega), if_pos z]
  · rw [if_neg (show ¬ b.toInt - a.toInt = 2 by omega), if_neg z, if_neg (show ¬ b.toInt - a.toInt = 2 by omega), if_neg z]
/-- a comparison, written down -/
theorem fl_com {q1 : Except Int (Nat × Nat)} (h1 : NWd (cB f n) pz_not r) (h2 : NSg (cB f n) 91 r) (e1 : q1 = pz_b r (pz_sum (cB f n))) (hq : TpR f n q1 a b c d) (hc : 60 ≤ c.toInt ∧ c.toInt ≤ 62) (hx : x.toInt = ec_cc c.toInt (b.toInt - a.toInt)) : ∀ t, pz_b r (pz_fact (cB f n) m) = .ok t → Ap r (ec_fact (cB f n) m) ll = Ap (rNX (cB f n) (rC1 q1)) (lsum (cB f n)) (Ap r (lsum (cB f n)) ll) ++ [x.toInt] := fun t ht => by
  obtain ⟨s, rfl, hs⟩ := pz_b_in ht
  have z1 := h1 s rfl
  have z2 := h2 s rfl
  have ef : ec_fact (cB f n) m s = ec_com (cB f n) s := by
    cases m with
    | zero => rfl
    | succ m => exact (if_neg z1).trans (if_neg z2)
  have ep : pz_fact (cB f n) m s = pz_com (cB f n) s := by
    cases m with
    | zero => exact if_neg (fun z => z.elim z1 z2)
    | succ m => exact (if_neg z1).trans (if_neg z2)
  have e1 : q1 = pz_sum (cB f n) s := e1
  rw [ep] at hs
  unfold pz_com at hs
  obtain ⟨s2, hs2, -⟩ := pz_b_in hs
  obtain ⟨s1, hs1, hc1⟩ := pz_b_in hs2
  rw [hs1] at e1
  subst e1
  have h3 := hq.2.2.2
  unfold pz_cmp at hc1
  rw [if_pos (by omega)] at hc1
  obtain ⟨-, h60⟩ := pz_cnt_ok hc1
  have er : rNX (cB f n) (rC1 (.ok s1)) = .ok (pz_nt (cB f n) s1.1, s1.2 + 1) := by
    show rNX (cB f n) (if 60 ≤ s1.2 then .error (pz_er 3 s1.1) else .ok (s1.1, s1.2 + 1)) = _
    rw [if_neg (by omega)]
    rfl
  rw [er]
  show ll ++ ec_fact (cB f n) m s = ((ll ++ ec_sum (cB f n) s.1) ++ ec_sum (cB f n) (pz_nt (cB f n) s1.1)) ++ [x.toInt]
  rw [ef, hx, ec_cc_is hq]
  unfold ec_com
  rw [hs1, List.append_assoc, List.append_assoc]
theorem fl_not (h1 : TWd B pz_not r) : ∀ t, pz_b r (pz_fact B (m + 1)) = .ok t → Ap r (ec_fact B (m + 1)) ll = Ap (rNX B r) (ec_fact B m) ll ++ [-4] := fun t ht => by
  obtain ⟨s, rfl, h⟩ := h1
  show ll ++ ec_fact B (m + 1) s = (ll ++ ec_fact B m (pz_nx B s)) ++ [-4]
  rw [show ec_fact B (m + 1) s = ec_fact B m (pz_nx B s) ++ [-4] from if_pos h, List.append_assoc]
theorem fl_br (h1 : NWd B pz_not r) (h2 : Sg B 91 r) : ∀ t, pz_b r (pz_fact B (m + 1)) = .ok t → Ap r (ec_fact B (m + 1)) ll = Ap (rNX B r) (ltst B m) ll := fun t ht => by
  obtain ⟨s, rfl, h⟩ := h2
  show ll ++ ec_fact B (m + 1) s = ll ++ ec_tst B (pz_fact B m) (ec_fact B m) (pz_nx B s)
  rw [show ec_fact B (m + 1) s = ec_tst B (pz_fact B m) (ec_fact B m) (pz_nx B s) from (if_neg (h1 s rfl)).trans (if_pos h)]
theorem fl_er {R : Except Int (Nat × Nat)} {k : Int} {L L' : List Int} (e : R = rER k r) : ∀ t, R = .ok t → L' = L := fun t ht => by
  rw [e] at ht
  exfalso
  cases r <;> cases ht
theorem fl_er2 {R : Except Int (Nat × Nat)} {k : Int} {g : Nat × Nat → Except Int (Nat × Nat)} {L L' : List Int} (e : R = pz_b (rER k r) g) : ∀ t, R = .ok t → L' = L := fun t ht => by
  rw [e] at ht
  exfalso
  cases r <;> cases ht
theorem fl_er3 {R : Except Int (Nat × Nat)} {k : Int} {g : Nat × Nat → Except Int (Nat × Nat)} {L L' : List Int} (e : R = pz_b (rNX B (rC1 (rER k r))) g) : ∀ t, R = .ok t → L' = L := fun t ht => by
  rw [e] at ht
  exfalso
  cases r <;> cases ht
end FCC
/-! a test -/
def TeC (f : Nat → Int32) (n : Int32) (m : Nat) (R : Except Int (Nat × Nat)) (a b c d ct i : Int32) (cf : Nat → Int32) (cu o : Int32) (FL : List Int) : Prop := ∃ q, TpR f n q a b c d ∧ Ctd q ct ∧ R = pz_b q (pz_lp (pz_tF (cB f n) (pz_fact (cB f n) m))) ∧ (∀ s, q = .ok s → i.toInt ≤ (s.1 : Int)) ∧ ∃ L, CdK cf cu q L ∧ ∀ s, q = .ok s → FL = L ++ ec_TL (cB f n) (pz_fact (cB f n) m) (ec_fact (cB f n) m) 401 s (decide (o.toInt = 1))
section TEC
variable {f : Nat → Int32} {n : Int32} {m : Nat} {r q R : Except Int (Nat × Nat)} {a b c d a' b' c' d' ct i i' : Int32} {cf : Nat → Int32} {cu o o' : Int32} {L FL ll : List Int}
theorem TeC.first (h : TpR f n (pz_b r (pz_fact (cB f n) m)) a b c d) (hc : Ctd (pz_b r (pz_fact (cB f n) m)) ct) (hk : CdK cf cu (pz_b r (pz_fact (cB f n) m)) (Ap r (ec_fact (cB f n) m) ll)) (ho : o.toInt = 0) : TeC f n m (pz_b r (pz_tst (cB f n) (pz_fact (cB f n) m))) a b c d ct 0 cf cu o (Ap r (ltst (cB f n) m) ll) := by
  refine ⟨_, h, hc, by cases r <;> rfl, fun s _ => Int.natCast_nonneg s.1, _, hk, fun t ht => ?_⟩
  obtain ⟨s, rfl, hs⟩ := pz_b_in ht
  rw [show decide (o.toInt = 1) = false from decide_eq_false (by omega)]
  show ll ++ ec_tst (cB f n) (pz_fact (cB f n) m) (ec_fact (cB f n) m) s = (ll ++ ec_fact (cB f n) m s) ++ _
  unfold ec_tst
  rw [hs, List.append_assoc]
theorem te_bd (hn : n.toInt ≤ 400) (hi : ∀ s, q = .ok s → i.toInt ≤ (s.1 : Int)) (hc : TWd (cB f n) pz_and q ∨ TWd (cB f n) pz_or q) (hi' : i'.toInt = i.toInt + 1) : ∀ t, pz_b (rNX (cB f n) q) (pz_fact (cB f n) m) = .ok t → i'.toInt ≤ (t.1 : Int) := fun t ht => by
  have key : ∀ s, q = .ok s → cB f n s.1 ≠ -1 → i'.toInt ≤ (t.1 : Int) := fun s hs hb => by
    subst hs
    have e1 := hi s rfl
    have e2 := (pz_fact_gt (cB_fi hn) m _ _ (show pz_fact (cB f n) m (pz_nx (cB f n) s) = .ok t from ht)).2
    have e3 := pz_nt_gt (B := cB f n) (p := s.1) hb
    have e4 : (pz_nx (cB f n) s).1 = pz_nt (cB f n) s.1 := rfl
    omega
  rcases hc with ⟨s, hs, h⟩ | ⟨s, hs, h⟩
  · exact key s hs (pz_and_ne (Or.inl h))
  · exact key s hs (pz_and_ne (Or.inr h))
theorem and_nor {B : Nat → Int} {p : Nat} (h : pz_wd B p pz_or = true) : ¬ pz_wd B p pz_and = true := fun z => by
  have h1 := (of_decide_eq_true h).1
  have h2 := (of_decide_eq_true z).1
  have e1 : pz_or.length = 2 := by decide
  have e2 : pz_and.length = 3 := by decide
  omega
theorem TeC.and (hn : n.toInt ≤ 400) (hR : R = pz_b q (pz_lp (pz_tF (cB f n) (pz_fact (cB f n) m)))) (hi : ∀ s, q = .ok s → i.toInt ≤ (s.1 : Int)) (hL : ∀ s, q = .ok s → FL = L ++ ec_TL (cB f n) (pz_fact (cB f n) m) (ec_fact (cB f n) m) 401 s (decide (o.toInt = 1))) (hc : TWd (cB f n) pz_and q) (h : TpR f n (pz_b (rNX (cB f n) q) (pz_fact (cB f n) m)) a' b' c' d') (hct : Ctd (pz_b (rNX (cB f n) q) (pz_fact (cB f n) m)) ct) (hk : CdK cf cu (pz_b (rNX (cB f n) q) (pz_fact (cB f n) m)) (Ap (rNX (cB f n) q) (ec_fact (cB f n) m) L ++ [-5])) (hi' : i'.toInt = i.toInt + 1) : TeC f n m R a' b' c' d' ct i' cf cu o FL := by
  refine ⟨_, h, hct, hR.trans (tst_turn hn (Or.inl hc)), te_bd hn hi (Or.inl hc) hi', _, hk, fun t ht => ?_⟩
  obtain ⟨s, rfl, hw⟩ := hc
  have ht : pz_fact (cB f n) m (pz_nx (cB f n) s) = .ok t := ht
  rw [hL s rfl, ec_TL_and (cB_fi hn) (pz_fact_gt (cB_fi hn) m) hw ht]
  show L ++ (ec_fact (cB f n) m (pz_nx (cB f n) s) ++ -5 :: _) = ((L ++ ec_fact (cB f n) m (pz_nx (cB f n) s)) ++ [-5]) ++ _
  rw [List.append_assoc, List.append_assoc]
  rfl
theorem TeC.or0 (hn : n.toInt ≤ 400) (hR : R = pz_b q (pz_lp (pz_tF (cB f n) (pz_fact (cB f n) m)))) (hi : ∀ s, q = .ok s → i.toInt ≤ (s.1 : Int)) (hL : ∀ s, q = .ok s → FL = L ++ ec_TL (cB f n) (pz_fact (cB f n) m) (ec_fact (cB f n) m) 401 s (decide (o.toInt = 1))) (ho : o.toInt = 0) (ho' : o'.toInt = 1) (hc : TWd (cB f n) pz_or q) (h : TpR f n (pz_b (rNX (cB f n) q) (pz_fact (cB f n) m)) a' b' c' d') (hct : Ctd (pz_b (rNX (cB f n) q) (pz_fact (cB f n) m)) ct) (hk : CdK cf cu (pz_b (rNX (cB f n) q) (pz_fact (cB f n) m)) (Ap (rNX (cB f n) q) (ec_fact (cB f n) m) L)) (hi' : i'.toInt = i.toInt + 1) : TeC f n m R a' b' c' d' ct i' cf cu o' FL := by
  refine ⟨_, h, hct, hR.trans (tst_turn hn (Or.inr hc)), te_bd hn hi (Or.inr hc) hi', _, hk, fun t ht => ?_⟩
  obtain ⟨s, rfl, hw⟩ := hc
  have ht : pz_fact (cB f n) m (pz_nx (cB f n) s) = .ok t := ht
  rw [hL s rfl, ec_TL_or (cB_fi hn) (pz_fact_gt (cB_fi hn) m) (and_nor hw) hw ht, show decide (o.toInt = 1) = false from decide_eq_false (by omega), show decide (o'.toInt = 1) = true from decide_eq_true ho']
  show L ++ ([] ++ (ec_fact (cB f n) m (pz_nx (cB f n) s) ++ _)) = (L ++ ec_fact (cB f n) m (pz_nx (cB f n) s)) ++ _
  rw [List.append_assoc]
  rfl
theorem TeC.or1 (hn : n.toInt ≤ 400) (hR : R = pz_b q (pz_lp (pz_tF (cB f n) (pz_fact (cB f n) m)))) (hi : ∀ s, q = .ok s → i.toInt ≤ (s.1 : Int)) (hL : ∀ s, q = .ok s → FL = L ++ ec_TL (cB f n) (pz_fact (cB f n) m) (ec_fact (cB f n) m) 401 s (decide (o.toInt = 1))) (ho : o.toInt = 1) (ho' : o'.toInt = 1) (hc : TWd (cB f n) pz_or q) (h : TpR f n (pz_b (rNX (cB f n) q) (pz_fact (cB f n) m)) a' b' c' d') (hct : Ctd (pz_b (rNX (cB f n) q) (pz_fact (cB f n) m)) ct) (hk : CdK cf cu (pz_b (rNX (cB f n) q) (pz_fact (cB f n) m)) (Ap (rNX (cB f n) q) (ec_fact (cB f n) m) (L ++ [-6]))) (hi' : i'.toInt = i.toInt + 1) : TeC f n m R a' b' c' d' ct i' cf cu o' FL := by
  refine ⟨_, h, hct, hR.trans (tst_turn hn (Or.inr hc)), te_bd hn hi (Or.inr hc) hi', _, hk, fun t ht => ?_⟩
  obtain ⟨s, rfl, hw⟩ := hc
  have ht : pz_fact (cB f n) m (pz_nx (cB f n) s) = .ok t := ht
  rw [hL s rfl, ec_TL_or (cB_fi hn) (pz_fact_gt (cB_fi hn) m) (and_nor hw) hw ht, show decide (o.toInt = 1) = true from decide_eq_true ho, show decide (o'.toInt = 1) = true from decide_eq_true ho']
  show L ++ ([-6] ++ (ec_fact (cB f n) m (pz_nx (cB f n) s) ++ _)) = ((L ++ [-6]) ++ ec_fact (cB f n) m (pz_nx (cB f n) s)) ++ _
  rw [List.append_assoc, List.append_assoc]
theorem te_no (hn : n.toInt ≤ 400) (hi : ∀ s, q = .ok s → i.toInt ≤ (s.1 : Int)) (hc : 400 ≤ i.toInt ∨ (NWd (cB f n) pz_and q ∧ NWd (cB f n) pz_or q)) : ∀ s, q = .ok s → ¬ pz_wd (cB f n) s.1 pz_and = true ∧ ¬ pz_wd (cB f n) s.1 pz_or = true := fun s hs => by
  rcases hc with hc | hc
  · have h4 := hi s hs
    exact ⟨fun z => pz_and_ne (Or.inl z) (cB_out (by omega)), fun z => pz_and_ne (Or.inr z) (cB_out (by omega))⟩
  · exact ⟨hc.1 s hs, hc.2 s hs⟩
theorem TeC.end0 (hn : n.toInt ≤ 400) (hR : R = pz_b q (pz_lp (pz_tF (cB f n) (pz_fact (cB f n) m)))) (hi : ∀ s, q = .ok s → i.toInt ≤ (s.1 : Int)) (hL : ∀ s, q = .ok s → FL = L ++ ec_TL (cB f n) (pz_fact (cB f n) m) (ec_fact (cB f n) m) 401 s (decide (o.toInt = 1))) (ho : o.toInt = 0) (hc : 400 ≤ i.toInt ∨ (NWd (cB f n) pz_and q ∧ NWd (cB f n) pz_or q)) (hk : CdK cf cu q L) : CdK cf cu R FL := by
  have e := hR.trans (tst_end hn hi hc)
  refine CdK.to hk e (fun t ht => ?_)
  have hq2 := e.symm.trans ht
  obtain ⟨n1, n2⟩ := te_no hn hi hc t hq2
  rw [hL t hq2, ec_TL_no n1 n2, show decide (o.toInt = 1) = false from decide_eq_false (by omega)]
  exact List.append_nil L
theorem TeC.end1 (hn : n.toInt ≤ 400) (hR : R = pz_b q (pz_lp (pz_tF (cB f n) (pz_fact (cB f n) m)))) (hi : ∀ s, q = .ok s → i.toInt ≤ (s.1 : Int)) (hL : ∀ s, q = .ok s → FL = L ++ ec_TL (cB f n) (pz_fact (cB f n) m) (ec_fact (cB f n) m) 401 s (decide (o.toInt = 1))) (ho : o.toInt = 1) (hc : 400 ≤ i.toInt ∨ (NWd (cB f n) pz_and q ∧ NWd (cB f n) pz_or q)) (hk : CdK cf cu q (L ++ [-6])) : CdK cf cu R FL := by
  have e := hR.trans (tst_end hn hi hc)
  refine CdK.to hk e (fun t ht => ?_)
  have hq2 := e.symm.trans ht
  obtain ⟨n1, n2⟩ := te_no hn hi hc t hq2
  rw [hL t hq2, ec_TL_no n1 n2, show decide (o.toInt = 1) = true from decide_eq_true ho]
  rfl
end TEC
/-! the clauses -/
def RcH (B : Nat → Int) (q : Except Int (Nat × Nat)) (l : Int32) : Prop := (l.toInt = 0 ∧ q = .ok (pz_sk B 0, 0)) ∨ (1 ≤ l.toInt ∧ l.toInt ≤ 12 ∧ RuR B = pz_b (rTG l.toInt.toNat q) (pz_lp (pz_rF B))) ∨ (l.toInt = 13 ∧ ∃ e, q = .error e ∧ RuR B = .error e)
def RcM (B : Nat → Int) (q : Except Int (Nat × Nat)) (l : Int32) (L : List Int) : Prop := (l.toInt = 0 → L = []) ∧ (1 ≤ l.toInt → ∀ s, q = .ok s → ru_fl (ru_of B) = L ++ ru_fl (ru_lp B 401 (s, l.toInt.toNat)))
def RcC (f : Nat → Int32) (n : Int32) (a b c d ct l : Int32) (cf : Nat → Int32) (cu : Int32) : Prop := ∃ q, TpR f n q a b c d ∧ Ctd q ct ∧ RcH (cB f n) q l ∧ ∃ L, CdK cf cu q L ∧ RcM (cB f n) q l L
theorem RcH.turn {B : Nat → Int} {q : Except Int (Nat × Nat)} {l l' : Int32} (hl : 0 ≤ l.toInt ∧ l.toInt ≤ 12) (hl₀ : l'.toInt = l.toInt + 1) (h12 : l.toInt = 12 → ∃ e, q = .error e) (hR : RuR B = pz_b (rTG (l.toInt.toNat + 1) q) (pz_lp (pz_rF B))) : RcH B q l' := by
  refine Or.inr ?_
  by_cases z : l.toInt = 12
  · right
    obtain ⟨e, rfl⟩ := h12 z
    exact ⟨by omega, e, rfl, hR⟩
  · left
    refine ⟨by omega, by omega, ?_⟩
    rw [show l'.toInt.toNat = l.toInt.toNat + 1 by omega]
    exact hR
section RCC
variable {f : Nat → Int32} {n : Int32} {q q0 : Except Int (Nat × Nat)} {a b c d ct l l' : Int32} {cf : Nat → Int32} {cu : Int32} {L L' : List Int} {B : Nat → Int} {k : Nat}
theorem RcC.start (h : TpR f n (rSK (cB f n) (.ok (0, 0))) a b c d) (hu : cu.toInt = 0) : RcC f n a b c d 0 0 cf cu := ⟨_, h, fun s hs => by cases hs; rfl, Or.inl ⟨by decide, rfl⟩, [], CdK.nil hu, fun _ => rfl, fun z => absurd z (by decide)⟩
theorem cl_un (hb : TWd B pz_buy q0) (hl : k ≠ 12) (h2 : NWd B pz_if (pz_b (rNX B q0) (pz_sum B))) : ∀ t, pz_b q0 (pz_cla B k) = .ok t → ∃ s0, q0 = .ok s0 ∧ Ap (rNX B q0) (lsum B) L ++ [-2] = L ++ ru_1 (ru_cl B s0) := fun t ht => by
  rw [cla_un hb hl h2] at ht
  obtain ⟨s, rfl, hs⟩ := hb
  refine ⟨s, rfl, ?_⟩
  have ht : pz_sum B (pz_nx B s) = .ok t := ht
  have h2 := h2 t ht
  have e : ru_cl B s = (ec_sum B (pz_nt B s.1), none) := by
    unfold ru_cl
    rw [ht]
    show (_, if pz_wd B t.1 pz_if = true then _ else none) = _
    rw [if_neg h2]
  rw [e]
  show (L ++ ec_sum B (pz_nt B s.1)) ++ [-2] = L ++ (ec_sum B (pz_nt B s.1) ++ [-2])
  rw [List.append_assoc]
theorem cl_if (hb : TWd B pz_buy q0) (hl : k ≠ 12) (h2 : TWd B pz_if (pz_b (rNX B q0) (pz_sum B))) : ∀ t, pz_b q0 (pz_cla B k) = .ok t → ∃ s0, q0 = .ok s0 ∧ Ap (rNX B (pz_b (rNX B q0) (pz_sum B))) (ltst B 10) (Ap (rNX B q0) (lsum B) L) ++ [-3] = L ++ ru_1 (ru_cl B s0) := fun t _ => by
  obtain ⟨s, rfl, hs⟩ := hb
  obtain ⟨u, hu, hw⟩ := h2
  refine ⟨s, rfl, ?_⟩
  have hu2 : pz_sum B (pz_nx B s) = .ok u := hu
  have e : ru_cl B s = (ec_sum B (pz_nt B s.1), some (ec_tst B (pz_fact B 10) (ec_fact B 10) (pz_nx B u))) := by
    unfold ru_cl
    rw [hu2]
    show (_, if pz_wd B u.1 pz_if = true then some (ec_tst B (pz_fact B 10) (ec_fact B 10) (pz_nx B u)) else none) = _
    rw [if_pos hw]
  rw [e, hu]
  show ((L ++ ec_sum B (pz_nt B s.1)) ++ ec_tst B (pz_fact B 10) (ec_fact B 10) (pz_nx B u)) ++ [-3] = L ++ (ec_sum B (pz_nt B s.1) ++ (ec_tst B (pz_fact B 10) (ec_fact B 10) (pz_nx B u) ++ [-3]))
  rw [List.append_assoc, List.append_assoc]
theorem cl_er {kk : Int} (e : pz_b q0 (pz_cla B k) = rER kk q0) : ∀ t, pz_b q0 (pz_cla B k) = .ok t → ∃ s0, q0 = .ok s0 ∧ L' = L ++ ru_1 (ru_cl B s0) := fun t ht => by
  rw [e] at ht
  exfalso
  cases q0 <;> cases ht
theorem RcC.next0 (hl : l.toInt = 0) (hq : RcH (cB f n) q l) (hM : RcM (cB f n) q l L) (h : TpR f n (pz_b q (pz_cla (cB f n) l.toInt.toNat)) a b c d) (hct : Ctd (pz_b q (pz_cla (cB f n) l.toInt.toNat)) ct) (hk : CdK cf cu (pz_b q (pz_cla (cB f n) l.toInt.toNat)) L') (hx : ∀ t, pz_b q (pz_cla (cB f n) l.toInt.toNat) = .ok t → ∃ s0, q = .ok s0 ∧ L' = L ++ ru_1 (ru_cl (cB f n) s0)) (hl₀ : l'.toInt = l.toInt + 1) : RcC f n a b c d ct l' cf cu := by
  rcases hq with hq | hq | hq
  · obtain ⟨-, rfl⟩ := hq
    refine ⟨_, h, hct, RcH.turn (by omega) hl₀ (fun z => by omega) ?_, L', hk, fun z => by omega, fun _ t ht => ?_⟩
    · rw [hl]; rfl
    · obtain ⟨s0, hs0, hL⟩ := hx t ht
      cases hs0
      rw [hL, hM.1 hl, show l'.toInt.toNat = 1 by omega]
      rw [hl] at ht
      have ht : pz_cla (cB f n) 0 (pz_sk (cB f n) 0, 0) = .ok t := ht
      unfold ru_of
      rw [ht]
      show ru_fl (ru_cl (cB f n) (pz_sk (cB f n) 0, 0) :: ru_lp (cB f n) 401 (t, 1)) = _
      rw [ru_fl_c]
      rfl
  · omega
  · omega
theorem RcC.nextS (hn : n.toInt ≤ 400) (hl : 1 ≤ l.toInt ∧ l.toInt ≤ 12) (hs : Sg (cB f n) 59 q) (hq : RcH (cB f n) q l) (hM : RcM (cB f n) q l L) (h : TpR f n (pz_b (rNX (cB f n) q) (pz_cla (cB f n) l.toInt.toNat)) a b c d) (hct : Ctd (pz_b (rNX (cB f n) q) (pz_cla (cB f n) l.toInt.toNat)) ct) (hk : CdK cf cu (pz_b (rNX (cB f n) q) (pz_cla (cB f n) l.toInt.toNat)) L') (hx : ∀ t, pz_b (rNX (cB f n) q) (pz_cla (cB f n) l.toInt.toNat) = .ok t → ∃ s0, rNX (cB f n) q = .ok s0 ∧ L' = L ++ ru_1 (ru_cl (cB f n) s0)) (hl₀ : l'.toInt = l.toInt + 1) : RcC f n a b c d ct l' cf cu := by
  obtain ⟨s, rfl, h59⟩ := hs
  rcases hq with hq | hq | hq
  · omega
  · refine ⟨_, h, hct, RcH.turn (by omega) hl₀ (fun z => ?_) ?_, L', hk, fun z => by omega, fun _ t ht => ?_⟩
    · rw [z]; exact pz_cla_12
    · rw [hq.2.2]
      exact pz_lp_on (pz_rF_pr (cB_fi hn)) (s := (s, l.toInt.toNat)) (if_pos h59)
    · obtain ⟨s0, hs0, hL⟩ := hx t ht
      have hs0 : (Except.ok (pz_nx (cB f n) s) : Except Int (Nat × Nat)) = .ok s0 := hs0
      cases hs0
      have ht : pz_cla (cB f n) l.toInt.toNat (pz_nx (cB f n) s) = .ok t := ht
      rw [hM.2 hl.1 s rfl, hL, ru_lp_on (u := (s, l.toInt.toNat)) (cB_fi hn) h59 ht, ru_fl_c, show l'.toInt.toNat = l.toInt.toNat + 1 by omega, List.append_assoc]
  · omega
/-- a copy of the first x -/
def CpO (f g : Nat → Int32) (m : Nat) (x : Int32) : Prop := (m : Int) = x.toInt ∧ ∀ k : Nat, k < m → g k = f k
theorem CpO.all {g : Nat → Int32} {x : Int32} (h : x.toInt = 400) : CpO g g 400 x := ⟨by omega, fun _ _ => rfl⟩
theorem CpO.part {g g' g0 : Nat → Int32} {x y : Int32} (e : g' = va_cpy g g0 (0 : Int32).toNatClampNeg (0 : Int32).toNatClampNeg y.toNatClampNeg) (hx : 0 ≤ x.toInt ∧ x.toInt ≤ 400) (hy : y.toInt = x.toInt) : CpO g g' x.toNatClampNeg x := by
  have h0 : (0 : Int32).toNatClampNeg = 0 := by decide
  have ex : x.toNatClampNeg = x.toInt.toNat := rfl
  have ey : y.toNatClampNeg = y.toInt.toNat := rfl
  refine ⟨by omega, fun k hk => ?_⟩
  rw [e, h0]
  unfold va_cpy
  rw [if_pos (show 0 ≤ k ∧ k < 0 + y.toNatClampNeg by omega), show 0 + (k - 0) = k by omega]
/-- a rule's text is read: the code of its length -/
def RuC (B : Nat → Int) (m : Nat) (g : Nat → Int32) : Prop := ∃ p, pz_rule B = .ok p ∧ p ≤ 400 ∧ m = (ru_fl (ru_of B)).length ∧ CdE g (ru_fl (ru_of B))
theorem RuC.of {g : Nat → Int32} {m : Nat} (hr : pz_rule (cB f n) = pz_b q (fun s => pz_end (cB f n) s.1)) (h : TpR f n (rEN (cB f n) q) a b c d) (hd : d.toInt = 0) (ha : a.toInt ≤ 400) (h0 : ¬ l.toInt = 0) (hq : RcH (cB f n) q l) (hx : 12 < l.toInt ∨ NSg (cB f n) 59 q) (hk : CdK cf cu q L) (hM : RcM (cB f n) q l L) (hc : CpO cf g m cu) : RuC (cB f n) m g := by
  obtain ⟨s, hs, h1, -⟩ := h.fault0 hd
  obtain ⟨t, rfl, ht⟩ := pz_b_in (show pz_b q (fun s => pz_b (pz_end (cB f n) s.1) (fun _ => .ok s)) = .ok s from hs)
  obtain ⟨p, hp, hs2⟩ := pz_b_in ht
  cases hs2
  have hp2 : pz_rule (cB f n) = .ok p := hr.trans hp
  have ep : p = s.1 := by
    unfold pz_end at hp
    by_cases z : cB f n s.1 = -1
    · rw [if_pos z] at hp; cases hp; rfl
    · rw [if_neg z] at hp; cases hp
  have hl : 1 ≤ l.toInt ∧ ¬ 12 < l.toInt := by
    rcases hq with hq | hq | hq
    · omega
    · omega
    · obtain ⟨-, e, he, -⟩ := hq; cases he
  have h59 : ¬ cB f n s.1 = 59 := by
    rcases hx with hx | hx
    · omega
    · exact hx s rfl
  have eL : ru_fl (ru_of (cB f n)) = L := by
    rw [hM.2 hl.1 s rfl, ru_lp_no (u := (s, l.toInt.toNat)) h59]
    exact List.append_nil L
  have hg := (ru_of_gd hp2).2.1
  rw [eL] at hg
  obtain ⟨k1, k2⟩ := hk s rfl (by omega)
  refine ⟨p, hp2, by omega, ?_, ?_⟩
  · have := hc.1; rw [eL]; omega
  · rw [eL]
    intro i hi
    rw [hc.2 i (by have := hc.1; omega)]
    exact k2 i hi
end RCC
set_option maxHeartbeats 4000000 in
set_option maxRecDepth 100000 in
theorem ct_kX7_put (l : Launch) (D : va_G) (tc : Nat → ClassId) (sk : (Nat → Nat) × (Nat → Nat)) (Va : Nat → Nat) (Vv : Nat → Int32) (Vf : Nat → Nat → Int32) (x1 : Int32) (rr : Except Int (Nat × Nat)) (ll : List Int) (h_u : 0 ≤ ((Vv 0) : Int32).toInt ∧ ((Vv 0) : Int32).toInt ≤ 400) (h_cd : CdK (Vf 1) (Vv 0) rr ll) : Ct l yX7_put cX7_put 2 none { frames := 0, cells := 0, slots := 0, locals := 0 } D tc sk [.ref (Va 0), .int x1] [((Va 0), .inr (7, [.ref (Va 1), .int (Vv 0), .int (Vv 1)])), ((Va 1), .inl (tc 0, 400, .inl (Vf 1)))] (fun (v : Option Value) (u : (Int32) × (Nat → Int32)) => match u with | (oo0x1, oo0x2) => v = none ∧ (0 ≤ (oo0x1 : Int32).toInt ∧ (oo0x1 : Int32).toInt ≤ 400) ∧ (CdK oo0x2 oo0x1 rr (ll ++ [x1.toInt]))) (fun (u : (Int32) × (Nat → Int32)) => match u with | (oo0x1, oo0x2) => [((Va 0), .inr (7, [.ref (Va 1), .int oo0x1, .int (Vv 1)])), ((Va 1), .inl (tc 0, 400, .inl oo0x2))]) 0 0 := by
  refine Ct.start (by decide) (Nat.le_of_ble_eq_true rfl) (fun p e s m below meth c A ls hx hb hr hlk hin hml hown hts hK hX hP hD hA hl hS => ?_)
  have hl : lv_has ls 2 [(0, .ref (Va 0)), (1, .int x1)] := hl
  refine lv_aload_n hx hb dX7_put_0 rfl (lv_at hl 0 rfl) ?_
  refine gf_X7_15 hx hb hts hown hK hP 0 rfl rfl dX7_put_1 ?_
  refine lv_if_lt (tgt := 39) hx hb dX7_put_4 (by decide) (fun c_1 => ?_) (fun c_1 => ?_)
  · skip
    have hr_2 : 400 ≤ (Vv 0).toInt := by
      have z_1 := Int32.lt_iff_toInt_lt.mp c_1
      have y_0 : (0 : Int32).toInt = 0 := by decide
      omega
    exact retV hx hb hr hlk hP hD hS ((Vv 0), (Vf 1)) ⟨rfl, h_u, (CdK.full h_cd hr_2)⟩ [0, 1] rfl rfl dX7_put_39 (Nat.le_of_ble_eq_true rfl) (Nat.le_of_ble_eq_true rfl) rfl
  · skip
    refine lv_aload_n hx hb dX7_put_7 rfl (lv_at hl 0 rfl) ?_
    refine gf_X7_15 hx hb hts hown hK hP 0 rfl rfl dX7_put_8 ?_
    refine lv_aload_n hx hb dX7_put_11 rfl (lv_at hl 0 rfl) ?_
    refine gf_X7_9 hx hb hts hown hK hP 0 rfl rfl dX7_put_12 ?_
    refine va_alen hx hb hK hP 1 0 rfl rfl (v := 400) rfl dX7_put_15 ?_
    refine lv_icmp_ge (tgt := 39) hx hb dX7_put_16 (by decide) (fun c_3 => ?_) (fun c_3 => ?_)
    · skip
      have hr_4 : 400 ≤ (Vv 0).toInt := by
        have z_1 := Int32.le_iff_toInt_le.mp (Int32.not_lt.mp c_1)
        have z_2 := Int32.le_iff_toInt_le.mp c_3
        have y_0 : (0 : Int32).toInt = 0 := by decide
        have y_400 : (400 : Int32).toInt = 400 := by decide
        omega
      exact retV hx hb hr hlk hP hD hS ((Vv 0), (Vf 1)) ⟨rfl, h_u, (CdK.full h_cd hr_4)⟩ [0, 1] rfl rfl dX7_put_39 (Nat.le_of_ble_eq_true rfl) (Nat.le_of_ble_eq_true rfl) rfl
    · skip
      refine lv_aload_n hx hb dX7_put_19 rfl (lv_at hl 0 rfl) ?_
      refine gf_X7_9 hx hb hts hown hK hP 0 rfl rfl dX7_put_20 ?_
      refine lv_aload_n hx hb dX7_put_23 rfl (lv_at hl 0 rfl) ?_
      refine gf_X7_15 hx hb hts hown hK hP 0 rfl rfl dX7_put_24 ?_
      refine lv_iload_n hx hb dX7_put_27 rfl (lv_at hl 1 rfl) ?_
      have hi_5 : vp_in (Vv 0) 400 := by
        have z_1 := Int32.le_iff_toInt_le.mp (Int32.not_lt.mp c_1)
        have z_2 := Int32.lt_iff_toInt_lt.mp (Int32.not_le.mp c_3)
        have y_0 : (0 : Int32).toInt = 0 := by decide
        have y_400 : (400 : Int32).toInt = 400 := by decide
        refine vp_in_iff.mpr ⟨?_, ?_⟩ <;> omega
      refine st_int hx hb hK hP hD hS 1 0 rfl rfl hi_5 dX7_put_28 (fun g_6 H locs eg_6 hP₀ hD₀ hS₀ => ?_)
      replace hP : va_P D classes [((Va 0), .inr (7, [.ref (Va 1), .int (Vv 0), .int (Vv 1)])), ((Va 1), .inl (tc 0, 400, .inl g_6))] H := hP₀
      replace hD : va_D A [((Va 0), .inr (7, [.ref (Va 1), .int (Vv 0), .int (Vv 1)])), ((Va 1), .inl (tc 0, 400, .inl g_6))] := hD₀
      replace hS := hS₀
      clear hP₀ hD₀ hS₀
      refine lv_aload_n hx hb dX7_put_29 rfl (lv_at hl 0 rfl) ?_
      refine lv_dup hx hb dX7_put_30 rfl ?_
      refine gf_X7_15 hx hb hts hown hK hP 0 rfl rfl dX7_put_31 ?_
      refine lv_iconst (v := 1) hx hb dX7_put_34 (by decide) ?_
      refine lv_iadd hx hb dX7_put_35 ?_
      refine lv_topi (fun x_7 ex_7 => ?_)
      refine pf_X7_15 hx hb hts hown hK hP hD hS 0 rfl (Nat.le_of_ble_eq_true rfl) rfl rfl dX7_put_36 (fun H locs hP₀ hD₀ hS₀ => ?_)
      replace hP : va_P D classes [((Va 0), .inr (7, [.ref (Va 1), .int x_7, .int (Vv 1)])), ((Va 1), .inl (tc 0, 400, .inl g_6))] H := hP₀
      replace hD : va_D A [((Va 0), .inr (7, [.ref (Va 1), .int x_7, .int (Vv 1)])), ((Va 1), .inl (tc 0, 400, .inl g_6))] := hD₀
      replace hS := hS₀
      clear hP₀ hD₀ hS₀
      have ha_8 : 0 ≤ (x_7 : Int32).toInt ∧ (x_7 : Int32).toInt ≤ 400 := by
        have z_1 := Int32.le_iff_toInt_le.mp (Int32.not_lt.mp c_1)
        have z_2 := Int32.lt_iff_toInt_lt.mp (Int32.not_le.mp c_3)
        have y_0 : (0 : Int32).toInt = 0 := by decide
        have y_400 : (400 : Int32).toInt = 400 := by decide
        have y_1 : (1 : Int32).toInt = 1 := by decide
        have t_x_7 : x_7.toInt = ((Vv 0) : Int32).toInt + (1 : Int32).toInt := by rw [ex_7]; exact add_toInt (by omega) (by omega)
        omega
      have hi_9 : (x_7 : Int32).toInt = (Vv 0).toInt + 1 := by
        have z_1 := Int32.le_iff_toInt_le.mp (Int32.not_lt.mp c_1)
        have z_2 := Int32.lt_iff_toInt_lt.mp (Int32.not_le.mp c_3)
        have y_0 : (0 : Int32).toInt = 0 := by decide
        have y_400 : (400 : Int32).toInt = 400 := by decide
        have y_1 : (1 : Int32).toInt = 1 := by decide
        have t_x_7 : x_7.toInt = ((Vv 0) : Int32).toInt + (1 : Int32).toInt := by rw [ex_7]; exact add_toInt (by omega) (by omega)
        omega
      exact retV hx hb hr hlk hP hD hS (x_7, g_6) ⟨rfl, ha_8, (CdK.put h_cd eg_6 hi_9)⟩ [0, 1] rfl rfl dX7_put_39 (Nat.le_of_ble_eq_true rfl) (Nat.le_of_ble_eq_true rfl) rfl
set_option maxRecDepth 100000 in
theorem cu_kX7_put (l : Launch) (D : va_G) (tc : Nat → ClassId) (sk : (Nat → Nat) × (Nat → Nat)) (Va_0 : Nat) (Va_1 : Nat) (Vv_0 : Int32) (Vv_1 : Int32) (Vf_1 : Nat → Int32) (x1 : Int32) (rr : Except Int (Nat × Nat)) (ll : List Int) (h_u : 0 ≤ (Vv_0 : Int32).toInt ∧ (Vv_0 : Int32).toInt ≤ 400) (h_cd : CdK Vf_1 Vv_0 rr ll) : Ct l yX7_put cX7_put 2 none { frames := 0, cells := 0, slots := 0, locals := 0 } D tc sk [.ref Va_0, .int x1] [(Va_0, .inr (7, [.ref Va_1, .int Vv_0, .int Vv_1])), (Va_1, .inl (tc 0, 400, .inl Vf_1))] (fun (v : Option Value) (u : (Int32) × (Nat → Int32)) => match u with | (oo0x1, oo0x2) => v = none ∧ (0 ≤ (oo0x1 : Int32).toInt ∧ (oo0x1 : Int32).toInt ≤ 400) ∧ (CdK oo0x2 oo0x1 rr (ll ++ [x1.toInt]))) (fun (u : (Int32) × (Nat → Int32)) => match u with | (oo0x1, oo0x2) => [(Va_0, .inr (7, [.ref Va_1, .int oo0x1, .int Vv_1])), (Va_1, .inl (tc 0, 400, .inl oo0x2))]) 0 0 :=
  ct_kX7_put l D tc sk (fun k => ([Va_0, Va_1] : List (Nat)).getD k 0) (fun k => ([Vv_0, Vv_1] : List (Int32)).getD k 0) (fun k => ([(fun _ => 0), Vf_1] : List (Nat → Int32)).getD k (fun _ => 0)) x1 rr ll h_u h_cd
set_option maxHeartbeats 4000000 in
set_option maxRecDepth 100000 in
theorem ct_kX7_arithmetic (l : Launch) (D : va_G) (tc : Nat → ClassId) (sk : (Nat → Nat) × (Nat → Nat)) (Ta : Nat → Nat) (Tv : Nat → Int32) (Tf : Nat → Nat → Int32) (h_tape : 0 ≤ ((Tv 0) : Int32).toInt ∧ ((Tv 0) : Int32).toInt ≤ 400 ∧ 0 ≤ ((Tv 1) : Int32).toInt ∧ ((Tv 1) : Int32).toInt ≤ 400 ∧ 0 ≤ ((Tv 2) : Int32).toInt ∧ ((Tv 2) : Int32).toInt ≤ 400) : Ct l yX7_arithmetic cX7_arithmetic 1 (some .int) { frames := 0, cells := 0, slots := 0, locals := 0 } D tc sk [.ref (Ta 0)] [((Ta 0), .inr (10, [.ref (Ta 1), .int (Tv 0), .int (Tv 1), .int (Tv 2), .int (Tv 3), .int (Tv 4)])), ((Ta 1), .inl (tc 0, 400, .inl (Tf 1)))] (fun (v : Option Value) (_ : Unit) => ∃ r : Int32, v = some (.int r) ∧ ((((r.toInt = -1 ∧ ¬ ((Tv 3).toInt = 43 ∨ (Tv 3).toInt = 45 ∨ (Tv 3).toInt = 42 ∨ (Tv 3).toInt = 47 ∨ (Tv 3).toInt = 37)) ∨ (r.toInt ≤ -12 ∧ ((Tv 3).toInt = 43 ∨ (Tv 3).toInt = 45 ∨ (Tv 3).toInt = 42 ∨ (Tv 3).toInt = 47 ∨ (Tv 3).toInt = 37))) ∧ r.toInt = ec_o (Tv 3).toInt))) (fun (_ : Unit) => [((Ta 0), .inr (10, [.ref (Ta 1), .int (Tv 0), .int (Tv 1), .int (Tv 2), .int (Tv 3), .int (Tv 4)])), ((Ta 1), .inl (tc 0, 400, .inl (Tf 1)))]) 0 0 := by
  refine Ct.start (by decide) (Nat.le_of_ble_eq_true rfl) (fun p e s m below meth c A ls hx hb hr hlk hin hml hown hts hK hX hP hD hA hl hS => ?_)
  have hl : lv_has ls 1 [(0, .ref (Ta 0))] := hl
  refine lv_aload_n hx hb dX7_arithmetic_0 rfl (lv_at hl 0 rfl) ?_
  refine gf_X7_86 hx hb hts hown hK hP 0 rfl rfl dX7_arithmetic_1 ?_
  refine lv_topi (fun x_1 ex_1 => ?_)
  by_cases c_2 : x_1 = 37
  · skip
    subst c_2
    have sw_c_2 := congrArg Int32.toInt ex_1
    have swy_c_2 : (37 : Int32).toInt = 37 := by decide
    refine lv_tableIn (off := 72) (tgt := 76) hx hb dX7_arithmetic_4 (by decide) (by decide) (by decide) (by decide) ?_
    refine lv_bipush (v := (-16)) hx hb dX7_arithmetic_76 (by decide) ?_
    have hp_3 : (((-16) : Int32).toInt = -1 ∧ ¬ ((Tv 3).toInt = 43 ∨ (Tv 3).toInt = 45 ∨ (Tv 3).toInt = 42 ∨ (Tv 3).toInt = 47 ∨ (Tv 3).toInt = 37)) ∨ (((-16) : Int32).toInt ≤ -12 ∧ ((Tv 3).toInt = 43 ∨ (Tv 3).toInt = 45 ∨ (Tv 3).toInt = 42 ∨ (Tv 3).toInt = 47 ∨ (Tv 3).toInt = 37)) := by
      have y_m16 : (-16 : Int32).toInt = -16 := by decide
      have yr : ((-16) : Int32).toInt = -16 := by decide
      omega
    have hp_4 : ((-16) : Int32).toInt = ec_o (Tv 3).toInt := by
      have hk : (Tv 3).toInt = 37 := by
        omega
      rw [hk]
      decide
    exact retI (v := (-16)) hx hb hr hlk (rfl) hP hD hS () ⟨_, rfl, ⟨hp_3, hp_4⟩⟩ [0, 1] rfl rfl dX7_arithmetic_78 (Nat.le_of_ble_eq_true rfl) (Nat.le_of_ble_eq_true rfl) rfl
  · skip
    by_cases c_5 : x_1 = 38
    · skip
      subst c_5
      have sw_c_5 := congrArg Int32.toInt ex_1
      have swy_c_5 : (38 : Int32).toInt = 38 := by decide
      refine lv_tableIn (off := 75) (tgt := 79) hx hb dX7_arithmetic_4 (by decide) (by decide) (by decide) (by decide) ?_
      refine lv_iconst (v := (-1)) hx hb dX7_arithmetic_79 (by decide) ?_
      have hp_6 : (((-1) : Int32).toInt = -1 ∧ ¬ ((Tv 3).toInt = 43 ∨ (Tv 3).toInt = 45 ∨ (Tv 3).toInt = 42 ∨ (Tv 3).toInt = 47 ∨ (Tv 3).toInt = 37)) ∨ (((-1) : Int32).toInt ≤ -12 ∧ ((Tv 3).toInt = 43 ∨ (Tv 3).toInt = 45 ∨ (Tv 3).toInt = 42 ∨ (Tv 3).toInt = 47 ∨ (Tv 3).toInt = 37)) := by
        have y_m1 : (-1 : Int32).toInt = -1 := by decide
        have yr : ((-1) : Int32).toInt = -1 := by decide
        omega
      have hp_7 : ((-1) : Int32).toInt = ec_o (Tv 3).toInt := by
        have yr : ((-1) : Int32).toInt = -1 := by decide
        have hz := hp_6
        have hq : ¬ ((Tv 3).toInt = 43 ∨ (Tv 3).toInt = 45 ∨ (Tv 3).toInt = 42 ∨ (Tv 3).toInt = 47 ∨ (Tv 3).toInt = 37) := by omega
        exact yr.trans (ec_o_no.mpr hq).symm
      exact retI (v := (-1)) hx hb hr hlk (rfl) hP hD hS () ⟨_, rfl, ⟨hp_6, hp_7⟩⟩ [0, 1] rfl rfl dX7_arithmetic_80 (Nat.le_of_ble_eq_true rfl) (Nat.le_of_ble_eq_true rfl) rfl
    · skip
      by_cases c_8 : x_1 = 39
      · skip
        subst c_8
        have sw_c_8 := congrArg Int32.toInt ex_1
        have swy_c_8 : (39 : Int32).toInt = 39 := by decide
        refine lv_tableIn (off := 75) (tgt := 79) hx hb dX7_arithmetic_4 (by decide) (by decide) (by decide) (by decide) ?_
        refine lv_iconst (v := (-1)) hx hb dX7_arithmetic_79 (by decide) ?_
        have hp_9 : (((-1) : Int32).toInt = -1 ∧ ¬ ((Tv 3).toInt = 43 ∨ (Tv 3).toInt = 45 ∨ (Tv 3).toInt = 42 ∨ (Tv 3).toInt = 47 ∨ (Tv 3).toInt = 37)) ∨ (((-1) : Int32).toInt ≤ -12 ∧ ((Tv 3).toInt = 43 ∨ (Tv 3).toInt = 45 ∨ (Tv 3).toInt = 42 ∨ (Tv 3).toInt = 47 ∨ (Tv 3).toInt = 37)) := by
          have y_m1 : (-1 : Int32).toInt = -1 := by decide
          have yr : ((-1) : Int32).toInt = -1 := by decide
          omega
        have hp_10 : ((-1) : Int32).toInt = ec_o (Tv 3).toInt := by
          have yr : ((-1) : Int32).toInt = -1 := by decide
          have hz := hp_9
          have hq : ¬ ((Tv 3).toInt = 43 ∨ (Tv 3).toInt = 45 ∨ (Tv 3).toInt = 42 ∨ (Tv 3).toInt = 47 ∨ (Tv 3).toInt = 37) := by omega
          exact yr.trans (ec_o_no.mpr hq).symm
        exact retI (v := (-1)) hx hb hr hlk (rfl) hP hD hS () ⟨_, rfl, ⟨hp_9, hp_10⟩⟩ [0, 1] rfl rfl dX7_arithmetic_80 (Nat.le_of_ble_eq_true rfl) (Nat.le_of_ble_eq_true rfl) rfl
      · skip
        by_cases c_11 : x_1 = 40
        · skip
          subst c_11
          have sw_c_11 := congrArg Int32.toInt ex_1
          have swy_c_11 : (40 : Int32).toInt = 40 := by decide
          refine lv_tableIn (off := 75) (tgt := 79) hx hb dX7_arithmetic_4 (by decide) (by decide) (by decide) (by decide) ?_
          refine lv_iconst (v := (-1)) hx hb dX7_arithmetic_79 (by decide) ?_
          have hp_12 : (((-1) : Int32).toInt = -1 ∧ ¬ ((Tv 3).toInt = 43 ∨ (Tv 3).toInt = 45 ∨ (Tv 3).toInt = 42 ∨ (Tv 3).toInt = 47 ∨ (Tv 3).toInt = 37)) ∨ (((-1) : Int32).toInt ≤ -12 ∧ ((Tv 3).toInt = 43 ∨ (Tv 3).toInt = 45 ∨ (Tv 3).toInt = 42 ∨ (Tv 3).toInt = 47 ∨ (Tv 3).toInt = 37)) := by
            have y_m1 : (-1 : Int32).toInt = -1 := by decide
            have yr : ((-1) : Int32).toInt = -1 := by decide
            omega
          have hp_13 : ((-1) : Int32).toInt = ec_o (Tv 3).toInt := by
            have yr : ((-1) : Int32).toInt = -1 := by decide
            have hz := hp_12
            have hq : ¬ ((Tv 3).toInt = 43 ∨ (Tv 3).toInt = 45 ∨ (Tv 3).toInt = 42 ∨ (Tv 3).toInt = 47 ∨ (Tv 3).toInt = 37) := by omega
            exact yr.trans (ec_o_no.mpr hq).symm
          exact retI (v := (-1)) hx hb hr hlk (rfl) hP hD hS () ⟨_, rfl, ⟨hp_12, hp_13⟩⟩ [0, 1] rfl rfl dX7_arithmetic_80 (Nat.le_of_ble_eq_true rfl) (Nat.le_of_ble_eq_true rfl) rfl
        · skip
          by_cases c_14 : x_1 = 41
          · skip
            subst c_14
            have sw_c_14 := congrArg Int32.toInt ex_1
            have swy_c_14 : (41 : Int32).toInt = 41 := by decide
            refine lv_tableIn (off := 75) (tgt := 79) hx hb dX7_arithmetic_4 (by decide) (by decide) (by decide) (by decide) ?_
            refine lv_iconst (v := (-1)) hx hb dX7_arithmetic_79 (by decide) ?_
            have hp_15 : (((-1) : Int32).toInt = -1 ∧ ¬ ((Tv 3).toInt = 43 ∨ (Tv 3).toInt = 45 ∨ (Tv 3).toInt = 42 ∨ (Tv 3).toInt = 47 ∨ (Tv 3).toInt = 37)) ∨ (((-1) : Int32).toInt ≤ -12 ∧ ((Tv 3).toInt = 43 ∨ (Tv 3).toInt = 45 ∨ (Tv 3).toInt = 42 ∨ (Tv 3).toInt = 47 ∨ (Tv 3).toInt = 37)) := by
              have y_m1 : (-1 : Int32).toInt = -1 := by decide
              have yr : ((-1) : Int32).toInt = -1 := by decide
              omega
            have hp_16 : ((-1) : Int32).toInt = ec_o (Tv 3).toInt := by
              have yr : ((-1) : Int32).toInt = -1 := by decide
              have hz := hp_15
              have hq : ¬ ((Tv 3).toInt = 43 ∨ (Tv 3).toInt = 45 ∨ (Tv 3).toInt = 42 ∨ (Tv 3).toInt = 47 ∨ (Tv 3).toInt = 37) := by omega
              exact yr.trans (ec_o_no.mpr hq).symm
            exact retI (v := (-1)) hx hb hr hlk (rfl) hP hD hS () ⟨_, rfl, ⟨hp_15, hp_16⟩⟩ [0, 1] rfl rfl dX7_arithmetic_80 (Nat.le_of_ble_eq_true rfl) (Nat.le_of_ble_eq_true rfl) rfl
          · skip
            by_cases c_17 : x_1 = 42
            · skip
              subst c_17
              have sw_c_17 := congrArg Int32.toInt ex_1
              have swy_c_17 : (42 : Int32).toInt = 42 := by decide
              refine lv_tableIn (off := 66) (tgt := 70) hx hb dX7_arithmetic_4 (by decide) (by decide) (by decide) (by decide) ?_
              refine lv_bipush (v := (-14)) hx hb dX7_arithmetic_70 (by decide) ?_
              have hp_18 : (((-14) : Int32).toInt = -1 ∧ ¬ ((Tv 3).toInt = 43 ∨ (Tv 3).toInt = 45 ∨ (Tv 3).toInt = 42 ∨ (Tv 3).toInt = 47 ∨ (Tv 3).toInt = 37)) ∨ (((-14) : Int32).toInt ≤ -12 ∧ ((Tv 3).toInt = 43 ∨ (Tv 3).toInt = 45 ∨ (Tv 3).toInt = 42 ∨ (Tv 3).toInt = 47 ∨ (Tv 3).toInt = 37)) := by
                have y_m14 : (-14 : Int32).toInt = -14 := by decide
                have yr : ((-14) : Int32).toInt = -14 := by decide
                omega
              have hp_19 : ((-14) : Int32).toInt = ec_o (Tv 3).toInt := by
                have hk : (Tv 3).toInt = 42 := by
                  omega
                rw [hk]
                decide
              exact retI (v := (-14)) hx hb hr hlk (rfl) hP hD hS () ⟨_, rfl, ⟨hp_18, hp_19⟩⟩ [0, 1] rfl rfl dX7_arithmetic_72 (Nat.le_of_ble_eq_true rfl) (Nat.le_of_ble_eq_true rfl) rfl
            · skip
              by_cases c_20 : x_1 = 43
              · skip
                subst c_20
                have sw_c_20 := congrArg Int32.toInt ex_1
                have swy_c_20 : (43 : Int32).toInt = 43 := by decide
                refine lv_tableIn (off := 60) (tgt := 64) hx hb dX7_arithmetic_4 (by decide) (by decide) (by decide) (by decide) ?_
                refine lv_bipush (v := (-12)) hx hb dX7_arithmetic_64 (by decide) ?_
                have hp_21 : (((-12) : Int32).toInt = -1 ∧ ¬ ((Tv 3).toInt = 43 ∨ (Tv 3).toInt = 45 ∨ (Tv 3).toInt = 42 ∨ (Tv 3).toInt = 47 ∨ (Tv 3).toInt = 37)) ∨ (((-12) : Int32).toInt ≤ -12 ∧ ((Tv 3).toInt = 43 ∨ (Tv 3).toInt = 45 ∨ (Tv 3).toInt = 42 ∨ (Tv 3).toInt = 47 ∨ (Tv 3).toInt = 37)) := by
                  have y_m12 : (-12 : Int32).toInt = -12 := by decide
                  have yr : ((-12) : Int32).toInt = -12 := by decide
                  omega
                have hp_22 : ((-12) : Int32).toInt = ec_o (Tv 3).toInt := by
                  have hk : (Tv 3).toInt = 43 := by
                    omega
                  rw [hk]
                  decide
                exact retI (v := (-12)) hx hb hr hlk (rfl) hP hD hS () ⟨_, rfl, ⟨hp_21, hp_22⟩⟩ [0, 1] rfl rfl dX7_arithmetic_66 (Nat.le_of_ble_eq_true rfl) (Nat.le_of_ble_eq_true rfl) rfl
              · skip
                by_cases c_23 : x_1 = 44
                · skip
                  subst c_23
                  have sw_c_23 := congrArg Int32.toInt ex_1
                  have swy_c_23 : (44 : Int32).toInt = 44 := by decide
                  refine lv_tableIn (off := 75) (tgt := 79) hx hb dX7_arithmetic_4 (by decide) (by decide) (by decide) (by decide) ?_
                  refine lv_iconst (v := (-1)) hx hb dX7_arithmetic_79 (by decide) ?_
                  have hp_24 : (((-1) : Int32).toInt = -1 ∧ ¬ ((Tv 3).toInt = 43 ∨ (Tv 3).toInt = 45 ∨ (Tv 3).toInt = 42 ∨ (Tv 3).toInt = 47 ∨ (Tv 3).toInt = 37)) ∨ (((-1) : Int32).toInt ≤ -12 ∧ ((Tv 3).toInt = 43 ∨ (Tv 3).toInt = 45 ∨ (Tv 3).toInt = 42 ∨ (Tv 3).toInt = 47 ∨ (Tv 3).toInt = 37)) := by
                    have y_m1 : (-1 : Int32).toInt = -1 := by decide
                    have yr : ((-1) : Int32).toInt = -1 := by decide
                    omega
                  have hp_25 : ((-1) : Int32).toInt = ec_o (Tv 3).toInt := by
                    have yr : ((-1) : Int32).toInt = -1 := by decide
                    have hz := hp_24
                    have hq : ¬ ((Tv 3).toInt = 43 ∨ (Tv 3).toInt = 45 ∨ (Tv 3).toInt = 42 ∨ (Tv 3).toInt = 47 ∨ (Tv 3).toInt = 37) := by omega
                    exact yr.trans (ec_o_no.mpr hq).symm
                  exact retI (v := (-1)) hx hb hr hlk (rfl) hP hD hS () ⟨_, rfl, ⟨hp_24, hp_25⟩⟩ [0, 1] rfl rfl dX7_arithmetic_80 (Nat.le_of_ble_eq_true rfl) (Nat.le_of_ble_eq_true rfl) rfl
                · skip
                  by_cases c_26 : x_1 = 45
                  · skip
                    subst c_26
                    have sw_c_26 := congrArg Int32.toInt ex_1
                    have swy_c_26 : (45 : Int32).toInt = 45 := by decide
                    refine lv_tableIn (off := 63) (tgt := 67) hx hb dX7_arithmetic_4 (by decide) (by decide) (by decide) (by decide) ?_
                    refine lv_bipush (v := (-13)) hx hb dX7_arithmetic_67 (by decide) ?_
                    have hp_27 : (((-13) : Int32).toInt = -1 ∧ ¬ ((Tv 3).toInt = 43 ∨ (Tv 3).toInt = 45 ∨ (Tv 3).toInt = 42 ∨ (Tv 3).toInt = 47 ∨ (Tv 3).toInt = 37)) ∨ (((-13) : Int32).toInt ≤ -12 ∧ ((Tv 3).toInt = 43 ∨ (Tv 3).toInt = 45 ∨ (Tv 3).toInt = 42 ∨ (Tv 3).toInt = 47 ∨ (Tv 3).toInt = 37)) := by
                      have y_m13 : (-13 : Int32).toInt = -13 := by decide
                      have yr : ((-13) : Int32).toInt = -13 := by decide
                      omega
                    have hp_28 : ((-13) : Int32).toInt = ec_o (Tv 3).toInt := by
                      have hk : (Tv 3).toInt = 45 := by
                        omega
                      rw [hk]
                      decide
                    exact retI (v := (-13)) hx hb hr hlk (rfl) hP hD hS () ⟨_, rfl, ⟨hp_27, hp_28⟩⟩ [0, 1] rfl rfl dX7_arithmetic_69 (Nat.le_of_ble_eq_true rfl) (Nat.le_of_ble_eq_true rfl) rfl
                  · skip
                    by_cases c_29 : x_1 = 46
                    · skip
                      subst c_29
                      have sw_c_29 := congrArg Int32.toInt ex_1
                      have swy_c_29 : (46 : Int32).toInt = 46 := by decide
                      refine lv_tableIn (off := 75) (tgt := 79) hx hb dX7_arithmetic_4 (by decide) (by decide) (by decide) (by decide) ?_
                      refine lv_iconst (v := (-1)) hx hb dX7_arithmetic_79 (by decide) ?_
                      have hp_30 : (((-1) : Int32).toInt = -1 ∧ ¬ ((Tv 3).toInt = 43 ∨ (Tv 3).toInt = 45 ∨ (Tv 3).toInt = 42 ∨ (Tv 3).toInt = 47 ∨ (Tv 3).toInt = 37)) ∨ (((-1) : Int32).toInt ≤ -12 ∧ ((Tv 3).toInt = 43 ∨ (Tv 3).toInt = 45 ∨ (Tv 3).toInt = 42 ∨ (Tv 3).toInt = 47 ∨ (Tv 3).toInt = 37)) := by
                        have y_m1 : (-1 : Int32).toInt = -1 := by decide
                        have yr : ((-1) : Int32).toInt = -1 := by decide
                        omega
                      have hp_31 : ((-1) : Int32).toInt = ec_o (Tv 3).toInt := by
                        have yr : ((-1) : Int32).toInt = -1 := by decide
                        have hz := hp_30
                        have hq : ¬ ((Tv 3).toInt = 43 ∨ (Tv 3).toInt = 45 ∨ (Tv 3).toInt = 42 ∨ (Tv 3).toInt = 47 ∨ (Tv 3).toInt = 37) := by omega
                        exact yr.trans (ec_o_no.mpr hq).symm
                      exact retI (v := (-1)) hx hb hr hlk (rfl) hP hD hS () ⟨_, rfl, ⟨hp_30, hp_31⟩⟩ [0, 1] rfl rfl dX7_arithmetic_80 (Nat.le_of_ble_eq_true rfl) (Nat.le_of_ble_eq_true rfl) rfl
                    · skip
                      by_cases c_32 : x_1 = 47
                      · skip
                        subst c_32
                        have sw_c_32 := congrArg Int32.toInt ex_1
                        have swy_c_32 : (47 : Int32).toInt = 47 := by decide
                        refine lv_tableIn (off := 69) (tgt := 73) hx hb dX7_arithmetic_4 (by decide) (by decide) (by decide) (by decide) ?_
                        refine lv_bipush (v := (-15)) hx hb dX7_arithmetic_73 (by decide) ?_
                        have hp_33 : (((-15) : Int32).toInt = -1 ∧ ¬ ((Tv 3).toInt = 43 ∨ (Tv 3).toInt = 45 ∨ (Tv 3).toInt = 42 ∨ (Tv 3).toInt = 47 ∨ (Tv 3).toInt = 37)) ∨ (((-15) : Int32).toInt ≤ -12 ∧ ((Tv 3).toInt = 43 ∨ (Tv 3).toInt = 45 ∨ (Tv 3).toInt = 42 ∨ (Tv 3).toInt = 47 ∨ (Tv 3).toInt = 37)) := by
                          have y_m15 : (-15 : Int32).toInt = -15 := by decide
                          have yr : ((-15) : Int32).toInt = -15 := by decide
                          omega
                        have hp_34 : ((-15) : Int32).toInt = ec_o (Tv 3).toInt := by
                          have hk : (Tv 3).toInt = 47 := by
                            omega
                          rw [hk]
                          decide
                        exact retI (v := (-15)) hx hb hr hlk (rfl) hP hD hS () ⟨_, rfl, ⟨hp_33, hp_34⟩⟩ [0, 1] rfl rfl dX7_arithmetic_75 (Nat.le_of_ble_eq_true rfl) (Nat.le_of_ble_eq_true rfl) rfl
                      · skip
                        have swo := congrArg Int32.toInt ex_1
                        have ho_35 : (x_1 : Int32).toInt < 37 ∨ 47 < (x_1 : Int32).toInt := by
                          have z_1 : ¬ (x_1 : Int32).toInt = (37 : Int32).toInt := fun z => c_2 (Int32.toInt_inj.mp z)
                          have z_2 : ¬ (x_1 : Int32).toInt = (38 : Int32).toInt := fun z => c_5 (Int32.toInt_inj.mp z)
                          have z_3 : ¬ (x_1 : Int32).toInt = (39 : Int32).toInt := fun z => c_8 (Int32.toInt_inj.mp z)
                          have z_4 : ¬ (x_1 : Int32).toInt = (40 : Int32).toInt := fun z => c_11 (Int32.toInt_inj.mp z)
                          have z_5 : ¬ (x_1 : Int32).toInt = (41 : Int32).toInt := fun z => c_14 (Int32.toInt_inj.mp z)
                          have z_6 : ¬ (x_1 : Int32).toInt = (42 : Int32).toInt := fun z => c_17 (Int32.toInt_inj.mp z)
                          have z_7 : ¬ (x_1 : Int32).toInt = (43 : Int32).toInt := fun z => c_20 (Int32.toInt_inj.mp z)
                          have z_8 : ¬ (x_1 : Int32).toInt = (44 : Int32).toInt := fun z => c_23 (Int32.toInt_inj.mp z)
                          have z_9 : ¬ (x_1 : Int32).toInt = (45 : Int32).toInt := fun z => c_26 (Int32.toInt_inj.mp z)
                          have z_10 : ¬ (x_1 : Int32).toInt = (46 : Int32).toInt := fun z => c_29 (Int32.toInt_inj.mp z)
                          have z_11 : ¬ (x_1 : Int32).toInt = (47 : Int32).toInt := fun z => c_32 (Int32.toInt_inj.mp z)
                          have y_37 : (37 : Int32).toInt = 37 := by decide
                          have y_38 : (38 : Int32).toInt = 38 := by decide
                          have y_39 : (39 : Int32).toInt = 39 := by decide
                          have y_40 : (40 : Int32).toInt = 40 := by decide
                          have y_41 : (41 : Int32).toInt = 41 := by decide
                          have y_42 : (42 : Int32).toInt = 42 := by decide
                          have y_43 : (43 : Int32).toInt = 43 := by decide
                          have y_44 : (44 : Int32).toInt = 44 := by decide
                          have y_45 : (45 : Int32).toInt = 45 := by decide
                          have y_46 : (46 : Int32).toInt = 46 := by decide
                          have y_47 : (47 : Int32).toInt = 47 := by decide
                          omega
                        refine lv_tableOut (tgt := 79) hx hb dX7_arithmetic_4 ho_35 (by decide) ?_
                        refine lv_iconst (v := (-1)) hx hb dX7_arithmetic_79 (by decide) ?_
                        have hp_36 : (((-1) : Int32).toInt = -1 ∧ ¬ ((Tv 3).toInt = 43 ∨ (Tv 3).toInt = 45 ∨ (Tv 3).toInt = 42 ∨ (Tv 3).toInt = 47 ∨ (Tv 3).toInt = 37)) ∨ (((-1) : Int32).toInt ≤ -12 ∧ ((Tv 3).toInt = 43 ∨ (Tv 3).toInt = 45 ∨ (Tv 3).toInt = 42 ∨ (Tv 3).toInt = 47 ∨ (Tv 3).toInt = 37)) := by
                          have z_1 : ¬ (x_1 : Int32).toInt = (37 : Int32).toInt := fun z => c_2 (Int32.toInt_inj.mp z)
                          have z_2 : ¬ (x_1 : Int32).toInt = (38 : Int32).toInt := fun z => c_5 (Int32.toInt_inj.mp z)
                          have z_3 : ¬ (x_1 : Int32).toInt = (39 : Int32).toInt := fun z => c_8 (Int32.toInt_inj.mp z)
                          have z_4 : ¬ (x_1 : Int32).toInt = (40 : Int32).toInt := fun z => c_11 (Int32.toInt_inj.mp z)
                          have z_5 : ¬ (x_1 : Int32).toInt = (41 : Int32).toInt := fun z => c_14 (Int32.toInt_inj.mp z)
                          have z_6 : ¬ (x_1 : Int32).toInt = (42 : Int32).toInt := fun z => c_17 (Int32.toInt_inj.mp z)
                          have z_7 : ¬ (x_1 : Int32).toInt = (43 : Int32).toInt := fun z => c_20 (Int32.toInt_inj.mp z)
                          have z_8 : ¬ (x_1 : Int32).toInt = (44 : Int32).toInt := fun z => c_23 (Int32.toInt_inj.mp z)
                          have z_9 : ¬ (x_1 : Int32).toInt = (45 : Int32).toInt := fun z => c_26 (Int32.toInt_inj.mp z)
                          have z_10 : ¬ (x_1 : Int32).toInt = (46 : Int32).toInt := fun z => c_29 (Int32.toInt_inj.mp z)
                          have z_11 : ¬ (x_1 : Int32).toInt = (47 : Int32).toInt := fun z => c_32 (Int32.toInt_inj.mp z)
                          have y_37 : (37 : Int32).toInt = 37 := by decide
                          have y_38 : (38 : Int32).toInt = 38 := by decide
                          have y_39 : (39 : Int32).toInt = 39 := by decide
                          have y_40 : (40 : Int32).toInt = 40 := by decide
                          have y_41 : (41 : Int32).toInt = 41 := by decide
                          have y_42 : (42 : Int32).toInt = 42 := by decide
                          have y_43 : (43 : Int32).toInt = 43 := by decide
                          have y_44 : (44 : Int32).toInt = 44 := by decide
                          have y_45 : (45 : Int32).toInt = 45 := by decide
                          have y_46 : (46 : Int32).toInt = 46 := by decide
                          have y_47 : (47 : Int32).toInt = 47 := by decide
                          have y_m1 : (-1 : Int32).toInt = -1 := by decide
                          have yr : ((-1) : Int32).toInt = -1 := by decide
                          omega
                        have hp_37 : ((-1) : Int32).toInt = ec_o (Tv 3).toInt := by
                          have yr : ((-1) : Int32).toInt = -1 := by decide
                          have hz := hp_36
                          have hq : ¬ ((Tv 3).toInt = 43 ∨ (Tv 3).toInt = 45 ∨ (Tv 3).toInt = 42 ∨ (Tv 3).toInt = 47 ∨ (Tv 3).toInt = 37) := by omega
                          exact yr.trans (ec_o_no.mpr hq).symm
                        exact retI (v := (-1)) hx hb hr hlk (rfl) hP hD hS () ⟨_, rfl, ⟨hp_36, hp_37⟩⟩ [0, 1] rfl rfl dX7_arithmetic_80 (Nat.le_of_ble_eq_true rfl) (Nat.le_of_ble_eq_true rfl) rfl
set_option maxRecDepth 100000 in
theorem cu_kX7_arithmetic (l : Launch) (D : va_G) (tc : Nat → ClassId) (sk : (Nat → Nat) × (Nat → Nat)) (Ta_0 : Nat) (Ta_1 : Nat) (Tv_0 : Int32) (Tv_1 : Int32) (Tv_2 : Int32) (Tv_3 : Int32) (Tv_4 : Int32) (Tf_1 : Nat → Int32) (h_tape : 0 ≤ (Tv_0 : Int32).toInt ∧ (Tv_0 : Int32).toInt ≤ 400 ∧ 0 ≤ (Tv_1 : Int32).toInt ∧ (Tv_1 : Int32).toInt ≤ 400 ∧ 0 ≤ (Tv_2 : Int32).toInt ∧ (Tv_2 : Int32).toInt ≤ 400) : Ct l yX7_arithmetic cX7_arithmetic 1 (some .int) { frames := 0, cells := 0, slots := 0, locals := 0 } D tc sk [.ref Ta_0] [(Ta_0, .inr (10, [.ref Ta_1, .int Tv_0, .int Tv_1, .int Tv_2, .int Tv_3, .int Tv_4])), (Ta_1, .inl (tc 0, 400, .inl Tf_1))] (fun (v : Option Value) (_ : Unit) => ∃ r : Int32, v = some (.int r) ∧ ((((r.toInt = -1 ∧ ¬ (Tv_3.toInt = 43 ∨ Tv_3.toInt = 45 ∨ Tv_3.toInt = 42 ∨ Tv_3.toInt = 47 ∨ Tv_3.toInt = 37)) ∨ (r.toInt ≤ -12 ∧ (Tv_3.toInt = 43 ∨ Tv_3.toInt = 45 ∨ Tv_3.toInt = 42 ∨ Tv_3.toInt = 47 ∨ Tv_3.toInt = 37))) ∧ r.toInt = ec_o Tv_3.toInt))) (fun (_ : Unit) => [(Ta_0, .inr (10, [.ref Ta_1, .int Tv_0, .int Tv_1, .int Tv_2, .int Tv_3, .int Tv_4])), (Ta_1, .inl (tc 0, 400, .inl Tf_1))]) 0 0 :=
  ct_kX7_arithmetic l D tc sk (fun k => ([Ta_0, Ta_1] : List (Nat)).getD k 0) (fun k => ([Tv_0, Tv_1, Tv_2, Tv_3, Tv_4] : List (Int32)).getD k 0) (fun k => ([(fun _ => 0), Tf_1] : List (Nat → Int32)).getD k (fun _ => 0)) h_tape
set_option maxHeartbeats 4000000 in
set_option maxRecDepth 100000 in
theorem ct_kX7_comparison (l : Launch) (D : va_G) (tc : Nat → ClassId) (sk : (Nat → Nat) × (Nat → Nat)) (Ta : Nat → Nat) (Tv : Nat → Int32) (Tf : Nat → Nat → Int32) (h_tape : 0 ≤ ((Tv 0) : Int32).toInt ∧ ((Tv 0) : Int32).toInt ≤ 400 ∧ 0 ≤ ((Tv 1) : Int32).toInt ∧ ((Tv 1) : Int32).toInt ≤ 400 ∧ 0 ≤ ((Tv 2) : Int32).toInt ∧ ((Tv 2) : Int32).toInt ≤ 400) : Ct l yX7_comparison cX7_comparison 2 (some .int) { frames := 0, cells := 0, slots := 0, locals := 0 } D tc sk [.ref (Ta 0)] [((Ta 0), .inr (10, [.ref (Ta 1), .int (Tv 0), .int (Tv 1), .int (Tv 2), .int (Tv 3), .int (Tv 4)])), ((Ta 1), .inl (tc 0, 400, .inl (Tf 1)))] (fun (v : Option Value) (_ : Unit) => ∃ r : Int32, v = some (.int r) ∧ ((((r.toInt = -1 ∧ ¬ (60 ≤ (Tv 3).toInt ∧ (Tv 3).toInt ≤ 62)) ∨ (r.toInt ≤ -7 ∧ 60 ≤ (Tv 3).toInt ∧ (Tv 3).toInt ≤ 62)) ∧ ((60 ≤ (Tv 3).toInt ∧ (Tv 3).toInt ≤ 62) → r.toInt = ec_cc (Tv 3).toInt ((Tv 2).toInt - (Tv 1).toInt))))) (fun (_ : Unit) => [((Ta 0), .inr (10, [.ref (Ta 1), .int (Tv 0), .int (Tv 1), .int (Tv 2), .int (Tv 3), .int (Tv 4)])), ((Ta 1), .inl (tc 0, 400, .inl (Tf 1)))]) 0 0 := by
  refine Ct.start (by decide) (Nat.le_of_ble_eq_true rfl) (fun p e s m below meth c A ls hx hb hr hlk hin hml hown hts hK hX hP hD hA hl hS => ?_)
  have hl : lv_has ls 2 [(0, .ref (Ta 0))] := hl
  refine lv_aload_n hx hb dX7_comparison_0 rfl (lv_at hl 0 rfl) ?_
  refine gf_X7_118 hx hb hts hown hK hP 0 rfl rfl dX7_comparison_1 ?_
  refine lv_aload_n hx hb dX7_comparison_4 rfl (lv_at hl 0 rfl) ?_
  refine gf_X7_121 hx hb hts hown hK hP 0 rfl rfl dX7_comparison_5 ?_
  refine lv_isub hx hb dX7_comparison_8 ?_
  refine lv_topi (fun x_1 ex_1 => ?_)
  refine lv_iconst (v := 2) hx hb dX7_comparison_9 (by decide) ?_
  refine lv_icmp_ne (tgt := 17) hx hb dX7_comparison_10 (by decide) (fun c_2 => ?_) (fun c_2 => ?_)
  · skip
    refine lv_iconst (v := 0) hx hb dX7_comparison_17 (by decide) ?_
    refine lv_istore_n (lv' := [(1, .int 0), (0, .ref (Ta 0))]) hx hb dX7_comparison_18 rfl hl (by decide) rfl (fun ls hl₀ => ?_)
    replace hl := hl₀
    clear hl₀
    refine lv_aload_n hx hb dX7_comparison_19 rfl (lv_at hl 1 rfl) ?_
    refine gf_X7_86 hx hb hts hown hK hP 0 rfl rfl dX7_comparison_20 ?_
    refine lv_topi (fun x_3 ex_3 => ?_)
    by_cases c_4 : x_3 = 60
    · skip
      subst c_4
      have sw_c_4 := congrArg Int32.toInt ex_3
      have swy_c_4 : (60 : Int32).toInt = 60 := by decide
      refine lv_tableIn (off := 25) (tgt := 48) hx hb dX7_comparison_23 (by decide) (by decide) (by decide) (by decide) ?_
      refine lv_iload_n hx hb dX7_comparison_48 rfl (lv_at hl 0 rfl) ?_
      refine lv_if_eq (tgt := 57) hx hb dX7_comparison_49 (by decide) (fun c_5 => ?_) (fun c_5 => absurd c_5 (by decide))
      refine lv_bipush (v := (-7)) hx hb dX7_comparison_57 (by decide) ?_
      have hp_6 : (((-7) : Int32).toInt = -1 ∧ ¬ (60 ≤ (Tv 3).toInt ∧ (Tv 3).toInt ≤ 62)) ∨ (((-7) : Int32).toInt ≤ -7 ∧ 60 ≤ (Tv 3).toInt ∧ (Tv 3).toInt ≤ 62) := by
        have z_1 : ¬ (x_1 : Int32).toInt = (2 : Int32).toInt := fun z => c_2 (Int32.toInt_inj.mp z)
        have y_2 : (2 : Int32).toInt = 2 := by decide
        have y_m7 : (-7 : Int32).toInt = -7 := by decide
        have t_x_1 : x_1.toInt = ((Tv 2) : Int32).toInt - ((Tv 1) : Int32).toInt := by rw [ex_1]; exact sub_toInt (by omega) (by omega)
        have yr : ((-7) : Int32).toInt = -7 := by decide
        omega
      have hp_7 : (60 ≤ (Tv 3).toInt ∧ (Tv 3).toInt ≤ 62) → ((-7) : Int32).toInt = ec_cc (Tv 3).toInt ((Tv 2).toInt - (Tv 1).toInt) := by
        intro hz
        have hk : (Tv 3).toInt = 60 := by
          have z_1 : ¬ (x_1 : Int32).toInt = (2 : Int32).toInt := fun z => c_2 (Int32.toInt_inj.mp z)
          have y_2 : (2 : Int32).toInt = 2 := by decide
          have t_x_1 : x_1.toInt = ((Tv 2) : Int32).toInt - ((Tv 1) : Int32).toInt := by rw [ex_1]; exact sub_toInt (by omega) (by omega)
          omega
        have yr : ((-7) : Int32).toInt = -7 := by decide
        unfold ec_cc
        rw [hk, yr]
        have hd : ¬ ((Tv 2).toInt - (Tv 1).toInt = 2) := by
          have z_1 : ¬ (x_1 : Int32).toInt = (2 : Int32).toInt := fun z => c_2 (Int32.toInt_inj.mp z)
          have y_2 : (2 : Int32).toInt = 2 := by decide
          have t_x_1 : x_1.toInt = ((Tv 2) : Int32).toInt - ((Tv 1) : Int32).toInt := by rw [ex_1]; exact sub_toInt (by omega) (by omega)
          omega
        simp only [if_neg hd]
        try decide
      exact retI (v := (-7)) hx hb hr hlk (rfl) hP hD hS () ⟨_, rfl, ⟨hp_6, hp_7⟩⟩ [0, 1] rfl rfl dX7_comparison_59 (Nat.le_of_ble_eq_true rfl) (Nat.le_of_ble_eq_true rfl) rfl
    · skip
      by_cases c_8 : x_3 = 61
      · skip
        subst c_8
        have sw_c_8 := congrArg Int32.toInt ex_3
        have swy_c_8 : (61 : Int32).toInt = 61 := by decide
        refine lv_tableIn (off := 37) (tgt := 60) hx hb dX7_comparison_23 (by decide) (by decide) (by decide) (by decide) ?_
        refine lv_bipush (v := (-9)) hx hb dX7_comparison_60 (by decide) ?_
        have hp_9 : (((-9) : Int32).toInt = -1 ∧ ¬ (60 ≤ (Tv 3).toInt ∧ (Tv 3).toInt ≤ 62)) ∨ (((-9) : Int32).toInt ≤ -7 ∧ 60 ≤ (Tv 3).toInt ∧ (Tv 3).toInt ≤ 62) := by
          have z_1 : ¬ (x_1 : Int32).toInt = (2 : Int32).toInt := fun z => c_2 (Int32.toInt_inj.mp z)
          have y_2 : (2 : Int32).toInt = 2 := by decide
          have y_m9 : (-9 : Int32).toInt = -9 := by decide
          have t_x_1 : x_1.toInt = ((Tv 2) : Int32).toInt - ((Tv 1) : Int32).toInt := by rw [ex_1]; exact sub_toInt (by omega) (by omega)
          have yr : ((-9) : Int32).toInt = -9 := by decide
          omega
        have hp_10 : (60 ≤ (Tv 3).toInt ∧ (Tv 3).toInt ≤ 62) → ((-9) : Int32).toInt = ec_cc (Tv 3).toInt ((Tv 2).toInt - (Tv 1).toInt) := by
          intro hz
          have hk : (Tv 3).toInt = 61 := by
            have z_1 : ¬ (x_1 : Int32).toInt = (2 : Int32).toInt := fun z => c_2 (Int32.toInt_inj.mp z)
            have y_2 : (2 : Int32).toInt = 2 := by decide
            have t_x_1 : x_1.toInt = ((Tv 2) : Int32).toInt - ((Tv 1) : Int32).toInt := by rw [ex_1]; exact sub_toInt (by omega) (by omega)
            omega
          have yr : ((-9) : Int32).toInt = -9 := by decide
          unfold ec_cc
          rw [hk, yr]
          rw [if_neg (show ¬ (61 : Int) = 60 by decide), if_pos (show (61 : Int) = 61 from rfl)]
        exact retI (v := (-9)) hx hb hr hlk (rfl) hP hD hS () ⟨_, rfl, ⟨hp_9, hp_10⟩⟩ [0, 1] rfl rfl dX7_comparison_62 (Nat.le_of_ble_eq_true rfl) (Nat.le_of_ble_eq_true rfl) rfl
      · skip
        by_cases c_11 : x_3 = 62
        · skip
          subst c_11
          have sw_c_11 := congrArg Int32.toInt ex_3
          have swy_c_11 : (62 : Int32).toInt = 62 := by decide
          refine lv_tableIn (off := 40) (tgt := 63) hx hb dX7_comparison_23 (by decide) (by decide) (by decide) (by decide) ?_
          refine lv_iload_n hx hb dX7_comparison_63 rfl (lv_at hl 0 rfl) ?_
          refine lv_if_eq (tgt := 72) hx hb dX7_comparison_64 (by decide) (fun c_12 => ?_) (fun c_12 => absurd c_12 (by decide))
          refine lv_bipush (v := (-11)) hx hb dX7_comparison_72 (by decide) ?_
          have hp_13 : (((-11) : Int32).toInt = -1 ∧ ¬ (60 ≤ (Tv 3).toInt ∧ (Tv 3).toInt ≤ 62)) ∨ (((-11) : Int32).toInt ≤ -7 ∧ 60 ≤ (Tv 3).toInt ∧ (Tv 3).toInt ≤ 62) := by
            have z_1 : ¬ (x_1 : Int32).toInt = (2 : Int32).toInt := fun z => c_2 (Int32.toInt_inj.mp z)
            have y_2 : (2 : Int32).toInt = 2 := by decide
            have y_m11 : (-11 : Int32).toInt = -11 := by decide
            have t_x_1 : x_1.toInt = ((Tv 2) : Int32).toInt - ((Tv 1) : Int32).toInt := by rw [ex_1]; exact sub_toInt (by omega) (by omega)
            have yr : ((-11) : Int32).toInt = -11 := by decide
            omega
          have hp_14 : (60 ≤ (Tv 3).toInt ∧ (Tv 3).toInt ≤ 62) → ((-11) : Int32).toInt = ec_cc (Tv 3).toInt ((Tv 2).toInt - (Tv 1).toInt) := by
            intro hz
            have hk : (Tv 3).toInt = 62 := by
              have z_1 : ¬ (x_1 : Int32).toInt = (2 : Int32).toInt := fun z => c_2 (Int32.toInt_inj.mp z)
              have y_2 : (2 : Int32).toInt = 2 := by decide
              have t_x_1 : x_1.toInt = ((Tv 2) : Int32).toInt - ((Tv 1) : Int32).toInt := by rw [ex_1]; exact sub_toInt (by omega) (by omega)
              omega
            have yr : ((-11) : Int32).toInt = -11 := by decide
            unfold ec_cc
            rw [hk, yr]
            have hd : ¬ ((Tv 2).toInt - (Tv 1).toInt = 2) := by
              have z_1 : ¬ (x_1 : Int32).toInt = (2 : Int32).toInt := fun z => c_2 (Int32.toInt_inj.mp z)
              have y_2 : (2 : Int32).toInt = 2 := by decide
              have t_x_1 : x_1.toInt = ((Tv 2) : Int32).toInt - ((Tv 1) : Int32).toInt := by rw [ex_1]; exact sub_toInt (by omega) (by omega)
              omega
            simp only [if_neg hd]
            try decide
          exact retI (v := (-11)) hx hb hr hlk (rfl) hP hD hS () ⟨_, rfl, ⟨hp_13, hp_14⟩⟩ [0, 1] rfl rfl dX7_comparison_74 (Nat.le_of_ble_eq_true rfl) (Nat.le_of_ble_eq_true rfl) rfl
        · skip
          have swo := congrArg Int32.toInt ex_3
          have ho_15 : (x_3 : Int32).toInt < 60 ∨ 62 < (x_3 : Int32).toInt := by
            have z_1 : ¬ (x_1 : Int32).toInt = (2 : Int32).toInt := fun z => c_2 (Int32.toInt_inj.mp z)
            have z_2 : ¬ (x_3 : Int32).toInt = (60 : Int32).toInt := fun z => c_4 (Int32.toInt_inj.mp z)
            have z_3 : ¬ (x_3 : Int32).toInt = (61 : Int32).toInt := fun z => c_8 (Int32.toInt_inj.mp z)
            have z_4 : ¬ (x_3 : Int32).toInt = (62 : Int32).toInt := fun z => c_11 (Int32.toInt_inj.mp z)
            have y_2 : (2 : Int32).toInt = 2 := by decide
            have y_60 : (60 : Int32).toInt = 60 := by decide
            have y_61 : (61 : Int32).toInt = 61 := by decide
            have y_62 : (62 : Int32).toInt = 62 := by decide
            have t_x_1 : x_1.toInt = ((Tv 2) : Int32).toInt - ((Tv 1) : Int32).toInt := by rw [ex_1]; exact sub_toInt (by omega) (by omega)
            omega
          refine lv_tableOut (tgt := 75) hx hb dX7_comparison_23 ho_15 (by decide) ?_
          refine lv_iconst (v := (-1)) hx hb dX7_comparison_75 (by decide) ?_
          have hp_16 : (((-1) : Int32).toInt = -1 ∧ ¬ (60 ≤ (Tv 3).toInt ∧ (Tv 3).toInt ≤ 62)) ∨ (((-1) : Int32).toInt ≤ -7 ∧ 60 ≤ (Tv 3).toInt ∧ (Tv 3).toInt ≤ 62) := by
            have z_1 : ¬ (x_1 : Int32).toInt = (2 : Int32).toInt := fun z => c_2 (Int32.toInt_inj.mp z)
            have z_2 : ¬ (x_3 : Int32).toInt = (60 : Int32).toInt := fun z => c_4 (Int32.toInt_inj.mp z)
            have z_3 : ¬ (x_3 : Int32).toInt = (61 : Int32).toInt := fun z => c_8 (Int32.toInt_inj.mp z)
            have z_4 : ¬ (x_3 : Int32).toInt = (62 : Int32).toInt := fun z => c_11 (Int32.toInt_inj.mp z)
            have y_2 : (2 : Int32).toInt = 2 := by decide
            have y_60 : (60 : Int32).toInt = 60 := by decide
            have y_61 : (61 : Int32).toInt = 61 := by decide
            have y_62 : (62 : Int32).toInt = 62 := by decide
            have y_m1 : (-1 : Int32).toInt = -1 := by decide
            have t_x_1 : x_1.toInt = ((Tv 2) : Int32).toInt - ((Tv 1) : Int32).toInt := by rw [ex_1]; exact sub_toInt (by omega) (by omega)
            have yr : ((-1) : Int32).toInt = -1 := by decide
            omega
          have hp_17 : (60 ≤ (Tv 3).toInt ∧ (Tv 3).toInt ≤ 62) → ((-1) : Int32).toInt = ec_cc (Tv 3).toInt ((Tv 2).toInt - (Tv 1).toInt) := by
            intro hz
            exfalso
            have yr : ((-1) : Int32).toInt = -1 := by decide
            have hy := hp_16
            omega
          exact retI (v := (-1)) hx hb hr hlk (rfl) hP hD hS () ⟨_, rfl, ⟨hp_16, hp_17⟩⟩ [0, 1] rfl rfl dX7_comparison_76 (Nat.le_of_ble_eq_true rfl) (Nat.le_of_ble_eq_true rfl) rfl
  · skip
    refine lv_iconst (v := 1) hx hb dX7_comparison_13 (by decide) ?_
    refine lv_goto (tgt := 18) hx hb dX7_comparison_14 (by decide) ?_
    refine lv_istore_n (lv' := [(1, .int 1), (0, .ref (Ta 0))]) hx hb dX7_comparison_18 rfl hl (by decide) rfl (fun ls hl₀ => ?_)
    replace hl := hl₀
    clear hl₀
    refine lv_aload_n hx hb dX7_comparison_19 rfl (lv_at hl 1 rfl) ?_
    refine gf_X7_86 hx hb hts hown hK hP 0 rfl rfl dX7_comparison_20 ?_
    refine lv_topi (fun x_18 ex_18 => ?_)
    by_cases c_19 : x_18 = 60
    · skip
      subst c_19
      have sw_c_19 := congrArg Int32.toInt ex_18
      have swy_c_19 : (60 : Int32).toInt = 60 := by decide
      refine lv_tableIn (off := 25) (tgt := 48) hx hb dX7_comparison_23 (by decide) (by decide) (by decide) (by decide) ?_
      refine lv_iload_n hx hb dX7_comparison_48 rfl (lv_at hl 0 rfl) ?_
      refine lv_if_eq (tgt := 57) hx hb dX7_comparison_49 (by decide) (fun c_20 => absurd c_20 (by decide)) (fun c_20 => ?_)
      refine lv_bipush (v := (-8)) hx hb dX7_comparison_52 (by decide) ?_
      refine lv_goto (tgt := 59) hx hb dX7_comparison_54 (by decide) ?_
      have hp_21 : (((-8) : Int32).toInt = -1 ∧ ¬ (60 ≤ (Tv 3).toInt ∧ (Tv 3).toInt ≤ 62)) ∨ (((-8) : Int32).toInt ≤ -7 ∧ 60 ≤ (Tv 3).toInt ∧ (Tv 3).toInt ≤ 62) := by
        have z_1 := congrArg Int32.toInt c_2
        have y_2 : (2 : Int32).toInt = 2 := by decide
        have y_m8 : (-8 : Int32).toInt = -8 := by decide
        have t_x_1 : x_1.toInt = ((Tv 2) : Int32).toInt - ((Tv 1) : Int32).toInt := by rw [ex_1]; exact sub_toInt (by omega) (by omega)
        have yr : ((-8) : Int32).toInt = -8 := by decide
        omega
      have hp_22 : (60 ≤ (Tv 3).toInt ∧ (Tv 3).toInt ≤ 62) → ((-8) : Int32).toInt = ec_cc (Tv 3).toInt ((Tv 2).toInt - (Tv 1).toInt) := by
        intro hz
        have hk : (Tv 3).toInt = 60 := by
          have z_1 := congrArg Int32.toInt c_2
          have y_2 : (2 : Int32).toInt = 2 := by decide
          have t_x_1 : x_1.toInt = ((Tv 2) : Int32).toInt - ((Tv 1) : Int32).toInt := by rw [ex_1]; exact sub_toInt (by omega) (by omega)
          omega
        have yr : ((-8) : Int32).toInt = -8 := by decide
        unfold ec_cc
        rw [hk, yr]
        have hd : ((Tv 2).toInt - (Tv 1).toInt = 2) := by
          have z_1 := congrArg Int32.toInt c_2
          have y_2 : (2 : Int32).toInt = 2 := by decide
          have t_x_1 : x_1.toInt = ((Tv 2) : Int32).toInt - ((Tv 1) : Int32).toInt := by rw [ex_1]; exact sub_toInt (by omega) (by omega)
          omega
        simp only [if_pos hd]
        try decide
      exact retI (v := (-8)) hx hb hr hlk (rfl) hP hD hS () ⟨_, rfl, ⟨hp_21, hp_22⟩⟩ [0, 1] rfl rfl dX7_comparison_59 (Nat.le_of_ble_eq_true rfl) (Nat.le_of_ble_eq_true rfl) rfl
    · skip
      by_cases c_23 : x_18 = 61
      · skip
        subst c_23
        have sw_c_23 := congrArg Int32.toInt ex_18
        have swy_c_23 : (61 : Int32).toInt = 61 := by decide
        refine lv_tableIn (off := 37) (tgt := 60) hx hb dX7_comparison_23 (by decide) (by decide) (by decide) (by decide) ?_
        refine lv_bipush (v := (-9)) hx hb dX7_comparison_60 (by decide) ?_
        have hp_24 : (((-9) : Int32).toInt = -1 ∧ ¬ (60 ≤ (Tv 3).toInt ∧ (Tv 3).toInt ≤ 62)) ∨ (((-9) : Int32).toInt ≤ -7 ∧ 60 ≤ (Tv 3).toInt ∧ (Tv 3).toInt ≤ 62) := by
          have z_1 := congrArg Int32.toInt c_2
          have y_2 : (2 : Int32).toInt = 2 := by decide
          have y_m9 : (-9 : Int32).toInt = -9 := by decide
          have t_x_1 : x_1.toInt = ((Tv 2) : Int32).toInt - ((Tv 1) : Int32).toInt := by rw [ex_1]; exact sub_toInt (by omega) (by omega)
          have yr : ((-9) : Int32).toInt = -9 := by decide
          omega
        have hp_25 : (60 ≤ (Tv 3).toInt ∧ (Tv 3).toInt ≤ 62) → ((-9) : Int32).toInt = ec_cc (Tv 3).toInt ((Tv 2).toInt - (Tv 1).toInt) := by
          intro hz
          have hk : (Tv 3).toInt = 61 := by
            have z_1 := congrArg Int32.toInt c_2
            have y_2 : (2 : Int32).toInt = 2 := by decide
            have t_x_1 : x_1.toInt = ((Tv 2) : Int32).toInt - ((Tv 1) : Int32).toInt := by rw [ex_1]; exact sub_toInt (by omega) (by omega)
            omega
          have yr : ((-9) : Int32).toInt = -9 := by decide
          unfold ec_cc
          rw [hk, yr]
          rw [if_neg (show ¬ (61 : Int) = 60 by decide), if_pos (show (61 : Int) = 61 from rfl)]
        exact retI (v := (-9)) hx hb hr hlk (rfl) hP hD hS () ⟨_, rfl, ⟨hp_24, hp_25⟩⟩ [0, 1] rfl rfl dX7_comparison_62 (Nat.le_of_ble_eq_true rfl) (Nat.le_of_ble_eq_true rfl) rfl
      · skip
        by_cases c_26 : x_18 = 62
        · skip
          subst c_26
          have sw_c_26 := congrArg Int32.toInt ex_18
          have swy_c_26 : (62 : Int32).toInt = 62 := by decide
          refine lv_tableIn (off := 40) (tgt := 63) hx hb dX7_comparison_23 (by decide) (by decide) (by decide) (by decide) ?_
          refine lv_iload_n hx hb dX7_comparison_63 rfl (lv_at hl 0 rfl) ?_
          refine lv_if_eq (tgt := 72) hx hb dX7_comparison_64 (by decide) (fun c_27 => absurd c_27 (by decide)) (fun c_27 => ?_)
          refine lv_bipush (v := (-10)) hx hb dX7_comparison_67 (by decide) ?_
          refine lv_goto (tgt := 74) hx hb dX7_comparison_69 (by decide) ?_
          have hp_28 : (((-10) : Int32).toInt = -1 ∧ ¬ (60 ≤ (Tv 3).toInt ∧ (Tv 3).toInt ≤ 62)) ∨ (((-10) : Int32).toInt ≤ -7 ∧ 60 ≤ (Tv 3).toInt ∧ (Tv 3).toInt ≤ 62) := by
            have z_1 := congrArg Int32.toInt c_2
            have y_2 : (2 : Int32).toInt = 2 := by decide
            have y_m10 : (-10 : Int32).toInt = -10 := by decide
            have t_x_1 : x_1.toInt = ((Tv 2) : Int32).toInt - ((Tv 1) : Int32).toInt := by rw [ex_1]; exact sub_toInt (by omega) (by omega)
            have yr : ((-10) : Int32).toInt = -10 := by decide
            omega
          have hp_29 : (60 ≤ (Tv 3).toInt ∧ (Tv 3).toInt ≤ 62) → ((-10) : Int32).toInt = ec_cc (Tv 3).toInt ((Tv 2).toInt - (Tv 1).toInt) := by
            intro hz
            have hk : (Tv 3).toInt = 62 := by
              have z_1 := congrArg Int32.toInt c_2
              have y_2 : (2 : Int32).toInt = 2 := by decide
              have t_x_1 : x_1.toInt = ((Tv 2) : Int32).toInt - ((Tv 1) : Int32).toInt := by rw [ex_1]; exact sub_toInt (by omega) (by omega)
              omega
            have yr : ((-10) : Int32).toInt = -10 := by decide
            unfold ec_cc
            rw [hk, yr]
            have hd : ((Tv 2).toInt - (Tv 1).toInt = 2) := by
              have z_1 := congrArg Int32.toInt c_2
              have y_2 : (2 : Int32).toInt = 2 := by decide
              have t_x_1 : x_1.toInt = ((Tv 2) : Int32).toInt - ((Tv 1) : Int32).toInt := by rw [ex_1]; exact sub_toInt (by omega) (by omega)
              omega
            simp only [if_pos hd]
            try decide
          exact retI (v := (-10)) hx hb hr hlk (rfl) hP hD hS () ⟨_, rfl, ⟨hp_28, hp_29⟩⟩ [0, 1] rfl rfl dX7_comparison_74 (Nat.le_of_ble_eq_true rfl) (Nat.le_of_ble_eq_true rfl) rfl
        · skip
          have swo := congrArg Int32.toInt ex_18
          have ho_30 : (x_18 : Int32).toInt < 60 ∨ 62 < (x_18 : Int32).toInt := by
            have z_1 := congrArg Int32.toInt c_2
            have z_2 : ¬ (x_18 : Int32).toInt = (60 : Int32).toInt := fun z => c_19 (Int32.toInt_inj.mp z)
            have z_3 : ¬ (x_18 : Int32).toInt = (61 : Int32).toInt := fun z => c_23 (Int32.toInt_inj.mp z)
            have z_4 : ¬ (x_18 : Int32).toInt = (62 : Int32).toInt := fun z => c_26 (Int32.toInt_inj.mp z)
            have y_2 : (2 : Int32).toInt = 2 := by decide
            have y_60 : (60 : Int32).toInt = 60 := by decide
            have y_61 : (61 : Int32).toInt = 61 := by decide
            have y_62 : (62 : Int32).toInt = 62 := by decide
            have t_x_1 : x_1.toInt = ((Tv 2) : Int32).toInt - ((Tv 1) : Int32).toInt := by rw [ex_1]; exact sub_toInt (by omega) (by omega)
            omega
          refine lv_tableOut (tgt := 75) hx hb dX7_comparison_23 ho_30 (by decide) ?_
          refine lv_iconst (v := (-1)) hx hb dX7_comparison_75 (by decide) ?_
          have hp_31 : (((-1) : Int32).toInt = -1 ∧ ¬ (60 ≤ (Tv 3).toInt ∧ (Tv 3).toInt ≤ 62)) ∨ (((-1) : Int32).toInt ≤ -7 ∧ 60 ≤ (Tv 3).toInt ∧ (Tv 3).toInt ≤ 62) := by
            have z_1 := congrArg Int32.toInt c_2
            have z_2 : ¬ (x_18 : Int32).toInt = (60 : Int32).toInt := fun z => c_19 (Int32.toInt_inj.mp z)
            have z_3 : ¬ (x_18 : Int32).toInt = (61 : Int32).toInt := fun z => c_23 (Int32.toInt_inj.mp z)
            have z_4 : ¬ (x_18 : Int32).toInt = (62 : Int32).toInt := fun z => c_26 (Int32.toInt_inj.mp z)
            have y_2 : (2 : Int32).toInt = 2 := by decide
            have y_60 : (60 : Int32).toInt = 60 := by decide
            have y_61 : (61 : Int32).toInt = 61 := by decide
            have y_62 : (62 : Int32).toInt = 62 := by decide
            have y_m1 : (-1 : Int32).toInt = -1 := by decide
            have t_x_1 : x_1.toInt = ((Tv 2) : Int32).toInt - ((Tv 1) : Int32).toInt := by rw [ex_1]; exact sub_toInt (by omega) (by omega)
            have yr : ((-1) : Int32).toInt = -1 := by decide
            omega
          have hp_32 : (60 ≤ (Tv 3).toInt ∧ (Tv 3).toInt ≤ 62) → ((-1) : Int32).toInt = ec_cc (Tv 3).toInt ((Tv 2).toInt - (Tv 1).toInt) := by
            intro hz
            exfalso
            have yr : ((-1) : Int32).toInt = -1 := by decide
            have hy := hp_31
            omega
          exact retI (v := (-1)) hx hb hr hlk (rfl) hP hD hS () ⟨_, rfl, ⟨hp_31, hp_32⟩⟩ [0, 1] rfl rfl dX7_comparison_76 (Nat.le_of_ble_eq_true rfl) (Nat.le_of_ble_eq_true rfl) rfl
set_option maxRecDepth 100000 in
theorem cu_kX7_comparison (l : Launch) (D : va_G) (tc : Nat → ClassId) (sk : (Nat → Nat) × (Nat → Nat)) (Ta_0 : Nat) (Ta_1 : Nat) (Tv_0 : Int32) (Tv_1 : Int32) (Tv_2 : Int32) (Tv_3 : Int32) (Tv_4 : Int32) (Tf_1 : Nat → Int32) (h_tape : 0 ≤ (Tv_0 : Int32).toInt ∧ (Tv_0 : Int32).toInt ≤ 400 ∧ 0 ≤ (Tv_1 : Int32).toInt ∧ (Tv_1 : Int32).toInt ≤ 400 ∧ 0 ≤ (Tv_2 : Int32).toInt ∧ (Tv_2 : Int32).toInt ≤ 400) : Ct l yX7_comparison cX7_comparison 2 (some .int) { frames := 0, cells := 0, slots := 0, locals := 0 } D tc sk [.ref Ta_0] [(Ta_0, .inr (10, [.ref Ta_1, .int Tv_0, .int Tv_1, .int Tv_2, .int Tv_3, .int Tv_4])), (Ta_1, .inl (tc 0, 400, .inl Tf_1))] (fun (v : Option Value) (_ : Unit) => ∃ r : Int32, v = some (.int r) ∧ ((((r.toInt = -1 ∧ ¬ (60 ≤ Tv_3.toInt ∧ Tv_3.toInt ≤ 62)) ∨ (r.toInt ≤ -7 ∧ 60 ≤ Tv_3.toInt ∧ Tv_3.toInt ≤ 62)) ∧ ((60 ≤ Tv_3.toInt ∧ Tv_3.toInt ≤ 62) → r.toInt = ec_cc Tv_3.toInt (Tv_2.toInt - Tv_1.toInt))))) (fun (_ : Unit) => [(Ta_0, .inr (10, [.ref Ta_1, .int Tv_0, .int Tv_1, .int Tv_2, .int Tv_3, .int Tv_4])), (Ta_1, .inl (tc 0, 400, .inl Tf_1))]) 0 0 :=
  ct_kX7_comparison l D tc sk (fun k => ([Ta_0, Ta_1] : List (Nat)).getD k 0) (fun k => ([Tv_0, Tv_1, Tv_2, Tv_3, Tv_4] : List (Int32)).getD k 0) (fun k => ([(fun _ => 0), Tf_1] : List (Nat → Int32)).getD k (fun _ => 0)) h_tape
set_option maxHeartbeats 4000000 in
set_option maxRecDepth 100000 in
theorem ct_kX7_readValue (l : Launch) (D : va_G) (tc : Nat → ClassId) (sk : (Nat → Nat) × (Nat → Nat)) (Va : Nat → Nat) (Vv : Nat → Int32) (Vf : Nat → Nat → Int32) (Ta : Nat → Nat) (Tv : Nat → Int32) (Tf : Nat → Nat → Int32) (rr : Except Int (Nat × Nat)) (ll : List Int) (h_tape : 0 ≤ ((Tv 0) : Int32).toInt ∧ ((Tv 0) : Int32).toInt ≤ 400 ∧ 0 ≤ ((Tv 1) : Int32).toInt ∧ ((Tv 1) : Int32).toInt ≤ 400 ∧ 0 ≤ ((Tv 2) : Int32).toInt ∧ ((Tv 2) : Int32).toInt ≤ 400) (h_u : 0 ≤ ((Vv 0) : Int32).toInt ∧ ((Vv 0) : Int32).toInt ≤ 400) (h_by : Byt (Tf 1)) (h_r : TpR (Tf 1) (Tv 0) rr (Tv 1) (Tv 2) (Tv 3) (Tv 4)) (h_ct : Ctd rr (Vv 1)) (h_cd : CdK (Vf 1) (Vv 0) rr ll) : Ct l yX7_readValue cX7_readValue 4 none { frames := 6, cells := 0, slots := 0, locals := 133 } D tc sk [.ref (Va 0), .ref (Ta 0)] [((Va 0), .inr (7, [.ref (Va 1), .int (Vv 0), .int (Vv 1)])), ((Va 1), .inl (tc 0, 400, .inl (Vf 1))), ((Ta 0), .inr (10, [.ref (Ta 1), .int (Tv 0), .int (Tv 1), .int (Tv 2), .int (Tv 3), .int (Tv 4)])), ((Ta 1), .inl (tc 0, 400, .inl (Tf 1)))] (fun (v : Option Value) (u : (Int32) × (Int32) × (Nat → Int32) × (Int32) × (Int32) × (Int32) × (Int32)) => match u with | (oo0x1, oo0x2, oo0x3, oo0x4, oo0x5, oo0x6, oo0x7) => v = none ∧ (0 ≤ ((Tv 0) : Int32).toInt ∧ ((Tv 0) : Int32).toInt ≤ 400 ∧ 0 ≤ (oo0x4 : Int32).toInt ∧ (oo0x4 : Int32).toInt ≤ 400 ∧ 0 ≤ (oo0x5 : Int32).toInt ∧ (oo0x5 : Int32).toInt ≤ 400) ∧ (0 ≤ (oo0x1 : Int32).toInt ∧ (oo0x1 : Int32).toInt ≤ 400) ∧ (TpR (Tf 1) (Tv 0) (pz_b rr (pz_val (cB (Tf 1) (Tv 0)))) oo0x4 oo0x5 oo0x6 oo0x7) ∧ (Ctd (pz_b rr (pz_val (cB (Tf 1) (Tv 0)))) oo0x2) ∧ (CdK oo0x3 oo0x1 (pz_b rr (pz_val (cB (Tf 1) (Tv 0)))) (Ap rr (lval (cB (Tf 1) (Tv 0))) ll))) (fun (u : (Int32) × (Int32) × (Nat → Int32) × (Int32) × (Int32) × (Int32) × (Int32)) => match u with | (oo0x1, oo0x2, oo0x3, oo0x4, oo0x5, oo0x6, oo0x7) => [((Va 0), .inr (7, [.ref (Va 1), .int oo0x1, .int oo0x2])), ((Va 1), .inl (tc 0, 400, .inl oo0x3)), ((Ta 0), .inr (10, [.ref (Ta 1), .int (Tv 0), .int oo0x4, .int oo0x5, .int oo0x6, .int oo0x7])), ((Ta 1), .inl (tc 0, 400, .inl (Tf 1)))]) 0 0 := by
  refine Ct.start (by decide) (Nat.le_of_ble_eq_true rfl) (fun p e s m below meth c A ls hx hb hr hlk hin hml hown hts hK hX hP hD hA hl hS => ?_)
  have hl : lv_has ls 4 [(0, .ref (Va 0)), (1, .ref (Ta 0))] := hl
  have tb_1 : TpB (rTE (cB (Tf 1) (Tv 0)) rr) (Tv 2) (Tv 4) := TpR.tb h_r
  refine lv_iconst (v := 0) hx hb dX7_readValue_0 (by decide) ?_
  refine lv_istore_n (lv' := [(2, .int 0), (0, .ref (Va 0)), (1, .ref (Ta 0))]) hx hb dX7_readValue_1 rfl hl (by decide) rfl (fun ls hl₀ => ?_)
  replace hl := hl₀
  clear hl₀
  refine lv_aload_n hx hb dX7_readValue_2 rfl (lv_at hl 2 rfl) ?_
  refine gf_X7_86 hx hb hts hown hK hP 2 rfl rfl dX7_readValue_3 ?_
  refine cS (As := [.int (Tv 3)]) (rest := []) (wr := [((Va 0), .inr (7, [.ref (Va 1), .int (Vv 0), .int (Vv 1)])), ((Va 1), .inl (tc 0, 400, .inl (Vf 1))), ((Ta 0), .inr (10, [.ref (Ta 1), .int (Tv 0), .int (Tv 1), .int (Tv 2), .int (Tv 3), .int (Tv 4)])), ((Ta 1), .inl (tc 0, 400, .inl (Tf 1)))]) ⟨hx, hb, hml, hown, hts⟩ hK hX hA (ct_fX10_isDigit l D tc sk (Tv 3)) k_488 k_629 k_487 k_96 pl_X10_isDigit ⟨Nat.le_of_ble_eq_true rfl, Nat.le_of_ble_eq_true rfl⟩ rfl rfl  hP hD hS [] [0, 1, 2, 3] rfl rfl rfl rfl rfl (by decide) rfl hl.1 rfl (Nat.le_of_ble_eq_true rfl) dX7_readValue_6 ⟨Nat.le_of_ble_eq_true rfl, Nat.le_of_ble_eq_true rfl⟩ (fun v_2 u_3 H locs hv_4 hP₀ hD₀ hS₀ => ?_)
  obtain ⟨r_5, rfl, he_6⟩ := hv_4
  have he_6 : ((r_5.toInt = 1 ∧ 48 ≤ (Tv 3).toInt ∧ (Tv 3).toInt ≤ 57) ∨ (r_5.toInt = 0 ∧ ((Tv 3).toInt < 48 ∨ 57 < (Tv 3).toInt))) := he_6
  refine W.eq (g2 := F0 m 9 ls [.int r_5]) rfl ?_
  replace hP : va_P D classes [((Va 0), .inr (7, [.ref (Va 1), .int (Vv 0), .int (Vv 1)])), ((Va 1), .inl (tc 0, 400, .inl (Vf 1))), ((Ta 0), .inr (10, [.ref (Ta 1), .int (Tv 0), .int (Tv 1), .int (Tv 2), .int (Tv 3), .int (Tv 4)])), ((Ta 1), .inl (tc 0, 400, .inl (Tf 1)))] H := hP₀
  replace hD : va_D A [((Va 0), .inr (7, [.ref (Va 1), .int (Vv 0), .int (Vv 1)])), ((Va 1), .inl (tc 0, 400, .inl (Vf 1))), ((Ta 0), .inr (10, [.ref (Ta 1), .int (Tv 0), .int (Tv 1), .int (Tv 2), .int (Tv 3), .int (Tv 4)])), ((Ta 1), .inl (tc 0, 400, .inl (Tf 1)))] := hD₀
  replace hS := hS₀
  clear hP₀ hD₀ hS₀
  refine lv_if_eq (tgt := 23) hx hb dX7_readValue_9 (by decide) (fun c_8 => ?_) (fun c_8 => ?_)
  · skip
    refine lv_aload_n hx hb dX7_readValue_23 rfl (lv_at hl 2 rfl) ?_
    refine va_ldcS hx hb hown (sx_2 hX) dX7_readValue_24 ?_
    have ha_9 : (2 : Nat) < 7 := by
      have z_1 := congrArg Int32.toInt c_8
      have y_0 : (0 : Int32).toInt = 0 := by decide
      have y_2 : (2 : Int32).toInt = 2 := by decide
      omega
    refine cV (a := (Ta 0)) (As := [.ref (sk.1 2)]) (rest := []) (wr := [((Va 0), .inr (7, [.ref (Va 1), .int (Vv 0), .int (Vv 1)])), ((Va 1), .inl (tc 0, 400, .inl (Vf 1)))]) ⟨hx, hb, hml, hown, hts⟩ hK hX hA (cu_fX10_wordAmong l D tc sk (Ta 0) (Ta 1) (Tv 0) (Tv 1) (Tv 2) (Tv 3) (Tv 4) (Tf 1) 2 rr ha_9 h_tape h_by h_r) k_501 k_633 k_499 k_500 k_96 pl_X10_wordAmong ⟨Nat.le_of_ble_eq_true rfl, Nat.le_of_ble_eq_true rfl⟩ rfl rfl (va_recv hK hP (ci := 10) (q0 := 2) rfl rfl) hP hD hS [2, 3] [0, 1] rfl rfl rfl rfl rfl (by decide) rfl hl.1 rfl (Nat.le_of_ble_eq_true rfl) dX7_readValue_26 ⟨Nat.le_of_ble_eq_true rfl, Nat.le_of_ble_eq_true rfl⟩ (fun v_10 u_11 H locs hv_12 hP₀ hD₀ hS₀ => ?_)
    obtain ⟨r_13, rfl, he_14⟩ := hv_12
    have he_14 : r_13.toInt = waR (cB (Tf 1) (Tv 0)) (wL (2 : Nat)) 0 rr := he_14
    refine W.eq (g2 := F0 m 29 ls [.int r_13]) rfl ?_
    replace hP : va_P D classes [((Va 0), .inr (7, [.ref (Va 1), .int (Vv 0), .int (Vv 1)])), ((Va 1), .inl (tc 0, 400, .inl (Vf 1))), ((Ta 0), .inr (10, [.ref (Ta 1), .int (Tv 0), .int (Tv 1), .int (Tv 2), .int (Tv 3), .int (Tv 4)])), ((Ta 1), .inl (tc 0, 400, .inl (Tf 1)))] H := hP₀
    replace hD : va_D A [((Va 0), .inr (7, [.ref (Va 1), .int (Vv 0), .int (Vv 1)])), ((Va 1), .inl (tc 0, 400, .inl (Vf 1))), ((Ta 0), .inr (10, [.ref (Ta 1), .int (Tv 0), .int (Tv 1), .int (Tv 2), .int (Tv 3), .int (Tv 4)])), ((Ta 1), .inl (tc 0, 400, .inl (Tf 1)))] := hD₀
    replace hS := hS₀
    clear hP₀ hD₀ hS₀
    have hrg := waR_rg (B := (cB (Tf 1) (Tv 0))) (r := rr)
    refine lv_istore_n (lv' := [(3, .int r_13), (2, .int 0), (0, .ref (Va 0)), (1, .ref (Ta 0))]) hx hb dX7_readValue_29 rfl hl (by decide) rfl (fun ls hl₀ => ?_)
    replace hl := hl₀
    clear hl₀
    refine lv_iload_n hx hb dX7_readValue_30 rfl (lv_at hl 0 rfl) ?_
    refine lv_iconst (v := (-1)) hx hb dX7_readValue_31 (by decide) ?_
    refine lv_icmp_ne (tgt := 43) hx hb dX7_readValue_32 (by decide) (fun c_16 => ?_) (fun c_16 => ?_)
    · skip
      refine lv_ldc hx hb hown (hts _ k_634) dX7_readValue_43 ?_
      refine lv_iload_n hx hb dX7_readValue_45 rfl (lv_at hl 0 rfl) ?_
      refine lv_iadd hx hb dX7_readValue_46 ?_
      refine lv_topi (fun x_17 ex_17 => ?_)
      refine lv_istore_n (lv' := [(2, .int x_17), (3, .int r_13), (0, .ref (Va 0)), (1, .ref (Ta 0))]) hx hb dX7_readValue_47 rfl hl (by decide) rfl (fun ls hl₀ => ?_)
      replace hl := hl₀
      clear hl₀
      refine lv_aload_n hx hb dX7_readValue_48 rfl (lv_at hl 2 rfl) ?_
      refine lv_aload_n hx hb dX7_readValue_49 rfl (lv_at hl 3 rfl) ?_
      refine cV (a := (Va 0)) (As := [.ref (Ta 0)]) (rest := []) (wr := []) ⟨hx, hb, hml, hown, hts⟩ hK hX hA (cu_fX7_countOne l D tc sk (Va 0) (Va 1) (Vv 0) (Vv 1) (Vf 1) (Ta 0) (Ta 1) (Tv 0) (Tv 1) (Tv 2) (Tv 3) (Tv 4) (Tf 1) rr h_tape h_u h_by h_r h_ct) k_638 k_635 k_637 k_9 k_99 pl_X7_countOne ⟨Nat.le_of_ble_eq_true rfl, Nat.le_of_ble_eq_true rfl⟩ rfl rfl (va_recv hK hP (ci := 7) (q0 := 0) rfl rfl) hP hD hS [0, 1, 2, 3] [] rfl rfl rfl rfl rfl (by decide) rfl hl.1 rfl (Nat.le_of_ble_eq_true rfl) dX7_readValue_50 ⟨Nat.le_of_ble_eq_true rfl, Nat.le_of_ble_eq_true rfl⟩ (fun v_18 u_19 H locs hv_20 hP₀ hD₀ hS₀ => ?_)
      obtain ⟨sv_21, sv_22, sv_23⟩ := u_19
      obtain ⟨rfl, pf_24, pf_25, pf_26, pf_27⟩ := hv_20
      have pf_24 : 0 ≤ ((Tv 0) : Int32).toInt ∧ ((Tv 0) : Int32).toInt ≤ 400 ∧ 0 ≤ ((Tv 1) : Int32).toInt ∧ ((Tv 1) : Int32).toInt ≤ 400 ∧ 0 ≤ ((Tv 2) : Int32).toInt ∧ ((Tv 2) : Int32).toInt ≤ 400 := pf_24
      have pf_25 : 0 ≤ ((Vv 0) : Int32).toInt ∧ ((Vv 0) : Int32).toInt ≤ 400 := pf_25
      have pf_26 : TpR (Tf 1) (Tv 0) (rC1 rr) (Tv 1) (Tv 2) sv_22 sv_23 := pf_26
      obtain ⟨ro_28, ero_28⟩ : ∃ z : Except Int (Nat × Nat), z = (rC1 rr) := ⟨_, rfl⟩
      rw [← ero_28] at pf_26
      have tb_29 : TpB (rTE (cB (Tf 1) (Tv 0)) ro_28) (Tv 2) sv_23 := TpR.tb pf_26
      have ck_30 : CdK (Vf 1) (Vv 0) ro_28 ll := by rw [ero_28]; exact (CdK.c1 h_cd)
      have pf_27 : Ctd (rC1 rr) sv_21 := pf_27
      rw [← ero_28] at pf_27
      refine W.eq (g2 := F0 m 53 ls []) rfl ?_
      replace hP : va_P D classes [((Va 0), .inr (7, [.ref (Va 1), .int (Vv 0), .int sv_21])), ((Va 1), .inl (tc 0, 400, .inl (Vf 1))), ((Ta 0), .inr (10, [.ref (Ta 1), .int (Tv 0), .int (Tv 1), .int (Tv 2), .int sv_22, .int sv_23])), ((Ta 1), .inl (tc 0, 400, .inl (Tf 1)))] H := hP₀
      replace hD : va_D A [((Va 0), .inr (7, [.ref (Va 1), .int (Vv 0), .int sv_21])), ((Va 1), .inl (tc 0, 400, .inl (Vf 1))), ((Ta 0), .inr (10, [.ref (Ta 1), .int (Tv 0), .int (Tv 1), .int (Tv 2), .int sv_22, .int sv_23])), ((Ta 1), .inl (tc 0, 400, .inl (Tf 1)))] := hD₀
      replace hS := hS₀
      clear hP₀ hD₀ hS₀
      refine lv_aload_n hx hb dX7_readValue_53 rfl (lv_at hl 2 rfl) ?_
      refine lv_iload_n hx hb dX7_readValue_54 rfl (lv_at hl 0 rfl) ?_
      refine cV (a := (Va 0)) (As := [.int x_17]) (rest := []) (wr := [((Ta 0), .inr (10, [.ref (Ta 1), .int (Tv 0), .int (Tv 1), .int (Tv 2), .int sv_22, .int sv_23])), ((Ta 1), .inl (tc 0, 400, .inl (Tf 1)))]) ⟨hx, hb, hml, hown, hts⟩ hK hX hA (cu_kX7_put l D tc sk (Va 0) (Va 1) (Vv 0) sv_21 (Vf 1) x_17 ro_28 ll pf_25 ck_30) k_642 k_639 k_641 k_10 k_99 pl_X7_put ⟨Nat.le_of_ble_eq_true rfl, Nat.le_of_ble_eq_true rfl⟩ rfl rfl (va_recv hK hP (ci := 7) (q0 := 0) rfl rfl) hP hD hS [0, 1] [2, 3] rfl rfl rfl rfl rfl (by decide) rfl hl.1 rfl (Nat.le_of_ble_eq_true rfl) dX7_readValue_55 ⟨Nat.le_of_ble_eq_true rfl, Nat.le_of_ble_eq_true rfl⟩ (fun v_31 u_32 H locs hv_33 hP₀ hD₀ hS₀ => ?_)
      obtain ⟨sv_34, sv_35⟩ := u_32
      obtain ⟨rfl, pf_36, pf_37⟩ := hv_33
      have pf_36 : 0 ≤ (sv_34 : Int32).toInt ∧ (sv_34 : Int32).toInt ≤ 400 := pf_36
      have pf_37 : CdK sv_35 sv_34 ro_28 (ll ++ [x_17.toInt]) := pf_37
      obtain ⟨ro_38, ero_38⟩ : ∃ z : List Int, z = (ll ++ [x_17.toInt]) := ⟨_, rfl⟩
      rw [← ero_38] at pf_37
      refine W.eq (g2 := F0 m 58 ls []) rfl ?_
      replace hP : va_P D classes [((Ta 0), .inr (10, [.ref (Ta 1), .int (Tv 0), .int (Tv 1), .int (Tv 2), .int sv_22, .int sv_23])), ((Ta 1), .inl (tc 0, 400, .inl (Tf 1))), ((Va 0), .inr (7, [.ref (Va 1), .int sv_34, .int sv_21])), ((Va 1), .inl (tc 0, 400, .inl sv_35))] H := hP₀
      replace hD : va_D A [((Ta 0), .inr (10, [.ref (Ta 1), .int (Tv 0), .int (Tv 1), .int (Tv 2), .int sv_22, .int sv_23])), ((Ta 1), .inl (tc 0, 400, .inl (Tf 1))), ((Va 0), .inr (7, [.ref (Va 1), .int sv_34, .int sv_21])), ((Va 1), .inl (tc 0, 400, .inl sv_35))] := hD₀
      replace hS := hS₀
      clear hP₀ hD₀ hS₀
      refine lv_aload_n hx hb dX7_readValue_58 rfl (lv_at hl 3 rfl) ?_
      refine cV (a := (Ta 0)) (As := []) (rest := []) (wr := [((Va 0), .inr (7, [.ref (Va 1), .int sv_34, .int sv_21])), ((Va 1), .inl (tc 0, 400, .inl sv_35))]) ⟨hx, hb, hml, hown, hts⟩ hK hX hA (cu_fX10_step l D tc sk (Ta 0) (Ta 1) (Tv 0) (Tv 1) (Tv 2) sv_22 sv_23 (Tf 1) (rTE (cB (Tf 1) (Tv 0)) ro_28) pf_24 h_by tb_29) k_478 k_620 k_476 k_477 k_96 pl_X10_step ⟨Nat.le_of_ble_eq_true rfl, Nat.le_of_ble_eq_true rfl⟩ rfl rfl (va_recv hK hP (ci := 10) (q0 := 0) rfl rfl) hP hD hS [0, 1] [2, 3] rfl rfl rfl rfl rfl (by decide) rfl hl.1 rfl (Nat.le_of_ble_eq_true rfl) dX7_readValue_59 ⟨Nat.le_of_ble_eq_true rfl, Nat.le_of_ble_eq_true rfl⟩ (fun v_39 u_40 H locs hv_41 hP₀ hD₀ hS₀ => ?_)
      obtain ⟨sv_42, sv_43, sv_44⟩ := u_40
      obtain ⟨rfl, pf_45, pf_46⟩ := hv_41
      have pf_45 : 0 ≤ ((Tv 0) : Int32).toInt ∧ ((Tv 0) : Int32).toInt ≤ 400 ∧ 0 ≤ (sv_42 : Int32).toInt ∧ (sv_42 : Int32).toInt ≤ 400 ∧ 0 ≤ (sv_43 : Int32).toInt ∧ (sv_43 : Int32).toInt ≤ 400 := pf_45
      have pf_46 : TpR (Tf 1) (Tv 0) (rSK (cB (Tf 1) (Tv 0)) (rTE (cB (Tf 1) (Tv 0)) ro_28)) sv_42 sv_43 sv_44 sv_23 := pf_46
      rw [rNX_eq] at pf_46
      obtain ⟨ro_47, ero_47⟩ : ∃ z : Except Int (Nat × Nat), z = (rNX (cB (Tf 1) (Tv 0)) ro_28) := ⟨_, rfl⟩
      rw [← ero_47] at pf_46
      have tb_48 : TpB (rTE (cB (Tf 1) (Tv 0)) ro_47) sv_43 sv_23 := TpR.tb pf_46
      have cd_49 : Ctd ro_47 sv_21 := by rw [ero_47]; exact (Ctd.nx pf_27)
      have ck_50 : CdK sv_35 sv_34 ro_47 ro_38 := by rw [ero_47]; exact (CdK.nx pf_37)
      refine W.eq (g2 := F0 m 62 ls []) rfl ?_
      replace hP : va_P D classes [((Va 0), .inr (7, [.ref (Va 1), .int sv_34, .int sv_21])), ((Va 1), .inl (tc 0, 400, .inl sv_35)), ((Ta 0), .inr (10, [.ref (Ta 1), .int (Tv 0), .int sv_42, .int sv_43, .int sv_44, .int sv_23])), ((Ta 1), .inl (tc 0, 400, .inl (Tf 1)))] H := hP₀
      replace hD : va_D A [((Va 0), .inr (7, [.ref (Va 1), .int sv_34, .int sv_21])), ((Va 1), .inl (tc 0, 400, .inl sv_35)), ((Ta 0), .inr (10, [.ref (Ta 1), .int (Tv 0), .int sv_42, .int sv_43, .int sv_44, .int sv_23])), ((Ta 1), .inl (tc 0, 400, .inl (Tf 1)))] := hD₀
      replace hS := hS₀
      clear hP₀ hD₀ hS₀
      have hf_51 : TpR (Tf 1) (Tv 0) (pz_b rr (pz_val (cB (Tf 1) (Tv 0)))) sv_42 sv_43 sv_44 sv_23 := by
        have hE_52 : (pz_b rr (pz_val (cB (Tf 1) (Tv 0)))) = ro_47 := by
          rw [ero_47, ero_28]
          have hr_53 : ¬ (48 ≤ (Tv 3).toInt ∧ (Tv 3).toInt ≤ 57) := by
            have z_1 := congrArg Int32.toInt c_8
            have z_2 : ¬ (r_13 : Int32).toInt = ((-1) : Int32).toInt := fun z => c_16 (Int32.toInt_inj.mp z)
            have y_m1 : (-1 : Int32).toInt = -1 := by decide
            have y_0 : (0 : Int32).toInt = 0 := by decide
            omega
          have hr_54 : ¬ (r_13 : Int32).toInt = -1 := by
            have z_1 := congrArg Int32.toInt c_8
            have z_2 : ¬ (r_13 : Int32).toInt = ((-1) : Int32).toInt := fun z => c_16 (Int32.toInt_inj.mp z)
            have y_m1 : (-1 : Int32).toInt = -1 := by decide
            have y_0 : (0 : Int32).toInt = 0 := by decide
            omega
          exact (val_wd h_r hr_53 (fun z => hr_54 (he_14.trans z)))
        rw [hE_52]
        exact pf_46
      have hf_55 : Ctd (pz_b rr (pz_val (cB (Tf 1) (Tv 0)))) sv_21 := by
        have hE_56 : (pz_b rr (pz_val (cB (Tf 1) (Tv 0)))) = ro_47 := by
          rw [ero_47, ero_28]
          have hr_57 : ¬ (48 ≤ (Tv 3).toInt ∧ (Tv 3).toInt ≤ 57) := by
            have z_1 := congrArg Int32.toInt c_8
            have z_2 : ¬ (r_13 : Int32).toInt = ((-1) : Int32).toInt := fun z => c_16 (Int32.toInt_inj.mp z)
            have y_m1 : (-1 : Int32).toInt = -1 := by decide
            have y_0 : (0 : Int32).toInt = 0 := by decide
            omega
          have hr_58 : ¬ (r_13 : Int32).toInt = -1 := by
            have z_1 := congrArg Int32.toInt c_8
            have z_2 : ¬ (r_13 : Int32).toInt = ((-1) : Int32).toInt := fun z => c_16 (Int32.toInt_inj.mp z)
            have y_m1 : (-1 : Int32).toInt = -1 := by decide
            have y_0 : (0 : Int32).toInt = 0 := by decide
            omega
          exact (val_wd h_r hr_57 (fun z => hr_58 (he_14.trans z)))
        rw [hE_56]
        exact cd_49
      have hE_59 : (pz_b rr (pz_val (cB (Tf 1) (Tv 0)))) = ro_47 := by
        rw [ero_47, ero_28]
        have hr_60 : ¬ (48 ≤ (Tv 3).toInt ∧ (Tv 3).toInt ≤ 57) := by
          have z_1 := congrArg Int32.toInt c_8
          have z_2 : ¬ (r_13 : Int32).toInt = ((-1) : Int32).toInt := fun z => c_16 (Int32.toInt_inj.mp z)
          have y_m1 : (-1 : Int32).toInt = -1 := by decide
          have y_0 : (0 : Int32).toInt = 0 := by decide
          omega
        have hr_61 : ¬ (r_13 : Int32).toInt = -1 := by
          have z_1 := congrArg Int32.toInt c_8
          have z_2 : ¬ (r_13 : Int32).toInt = ((-1) : Int32).toInt := fun z => c_16 (Int32.toInt_inj.mp z)
          have y_m1 : (-1 : Int32).toInt = -1 := by decide
          have y_0 : (0 : Int32).toInt = 0 := by decide
          omega
        exact (val_wd h_r hr_60 (fun z => hr_61 (he_14.trans z)))
      have hf_62 : CdK sv_35 sv_34 (pz_b rr (pz_val (cB (Tf 1) (Tv 0)))) (Ap rr (lval (cB (Tf 1) (Tv 0))) ll) := CdK.to ck_50 hE_59 (fun t ht => by
        rw [ero_38]
        have hr_63 : ¬ (48 ≤ (Tv 3).toInt ∧ (Tv 3).toInt ≤ 57) := by
          have z_1 := congrArg Int32.toInt c_8
          have z_2 : ¬ (r_13 : Int32).toInt = ((-1) : Int32).toInt := fun z => c_16 (Int32.toInt_inj.mp z)
          have y_m1 : (-1 : Int32).toInt = -1 := by decide
          have y_0 : (0 : Int32).toInt = 0 := by decide
          omega
        have hi_64 : (x_17 : Int32).toInt = 100000 + (r_13 : Int32).toInt := by
          have z_1 := congrArg Int32.toInt c_8
          have z_2 : ¬ (r_13 : Int32).toInt = ((-1) : Int32).toInt := fun z => c_16 (Int32.toInt_inj.mp z)
          have y_m1 : (-1 : Int32).toInt = -1 := by decide
          have y_0 : (0 : Int32).toInt = 0 := by decide
          have y_100000 : (100000 : Int32).toInt = 100000 := by decide
          have t_x_17 : x_17.toInt = (100000 : Int32).toInt + (r_13 : Int32).toInt := by rw [ex_17]; exact add_toInt (by omega) (by omega)
          omega
        exact (vl_wd h_r hr_63 he_14 hi_64) t ht)
      exact retV hx hb hr hlk hP hD hS (sv_34, sv_21, sv_35, sv_42, sv_43, sv_44, sv_23) ⟨rfl, pf_45, pf_36, hf_51, hf_55, hf_62⟩ [0, 1, 2, 3] rfl rfl dX7_readValue_62 (Nat.le_of_ble_eq_true rfl) (Nat.le_of_ble_eq_true rfl) rfl
    · skip
      refine lv_aload_n hx hb dX7_readValue_35 rfl (lv_at hl 3 rfl) ?_
      refine lv_iconst (v := 0) hx hb dX7_readValue_36 (by decide) ?_
      have ha_65 : 0 ≤ (0 : Int32).toInt ∧ (0 : Int32).toInt ≤ 4 := by
        have z_1 := congrArg Int32.toInt c_8
        have z_2 := congrArg Int32.toInt c_16
        have y_m1 : (-1 : Int32).toInt = -1 := by decide
        have y_0 : (0 : Int32).toInt = 0 := by decide
        omega
      have ha_66 : (0 : Int32).toInt = (0 : Int) := by
        have z_1 := congrArg Int32.toInt c_8
        have z_2 := congrArg Int32.toInt c_16
        have y_m1 : (-1 : Int32).toInt = -1 := by decide
        have y_0 : (0 : Int32).toInt = 0 := by decide
        omega
      refine cV (a := (Ta 0)) (As := [.int 0]) (rest := []) (wr := [((Va 0), .inr (7, [.ref (Va 1), .int (Vv 0), .int (Vv 1)])), ((Va 1), .inl (tc 0, 400, .inl (Vf 1)))]) ⟨hx, hb, hml, hown, hts⟩ hK hX hA (cu_fX10_fail l D tc sk (Ta 0) (Ta 1) (Tv 0) (Tv 1) (Tv 2) (Tv 3) (Tv 4) (Tf 1) 0 rr 0 h_tape h_r ha_65 ha_66) k_557 k_619 k_555 k_556 k_96 pl_X10_fail ⟨Nat.le_of_ble_eq_true rfl, Nat.le_of_ble_eq_true rfl⟩ rfl rfl (va_recv hK hP (ci := 10) (q0 := 2) rfl rfl) hP hD hS [2, 3] [0, 1] rfl rfl rfl rfl rfl (by decide) rfl hl.1 rfl (Nat.le_of_ble_eq_true rfl) dX7_readValue_37 ⟨Nat.le_of_ble_eq_true rfl, Nat.le_of_ble_eq_true rfl⟩ (fun v_67 u_68 H locs hv_69 hP₀ hD₀ hS₀ => ?_)
      obtain ⟨sv_70, sv_71⟩ := u_68
      obtain ⟨rfl, pf_72, pf_73⟩ := hv_69
      have pf_72 : 0 ≤ ((Tv 0) : Int32).toInt ∧ ((Tv 0) : Int32).toInt ≤ 400 ∧ 0 ≤ ((Tv 1) : Int32).toInt ∧ ((Tv 1) : Int32).toInt ≤ 400 ∧ 0 ≤ ((Tv 2) : Int32).toInt ∧ ((Tv 2) : Int32).toInt ≤ 400 := pf_72
      have pf_73 : TpR (Tf 1) (Tv 0) (rER (0 : Int) rr) (Tv 1) (Tv 2) sv_70 sv_71 := pf_73
      obtain ⟨ro_74, ero_74⟩ : ∃ z : Except Int (Nat × Nat), z = (rER 0 rr) := ⟨_, rfl⟩
      rw [← ero_74] at pf_73
      have tb_75 : TpB (rTE (cB (Tf 1) (Tv 0)) ro_74) (Tv 2) sv_71 := TpR.tb pf_73
      have cd_76 : Ctd ro_74 (Vv 1) := by rw [ero_74]; exact (Ctd.er)
      have ck_77 : CdK (Vf 1) (Vv 0) ro_74 ll := by rw [ero_74]; exact (CdK.er)
      refine W.eq (g2 := F0 m 40 ls []) rfl ?_
      replace hP : va_P D classes [((Va 0), .inr (7, [.ref (Va 1), .int (Vv 0), .int (Vv 1)])), ((Va 1), .inl (tc 0, 400, .inl (Vf 1))), ((Ta 0), .inr (10, [.ref (Ta 1), .int (Tv 0), .int (Tv 1), .int (Tv 2), .int sv_70, .int sv_71])), ((Ta 1), .inl (tc 0, 400, .inl (Tf 1)))] H := hP₀
      replace hD : va_D A [((Va 0), .inr (7, [.ref (Va 1), .int (Vv 0), .int (Vv 1)])), ((Va 1), .inl (tc 0, 400, .inl (Vf 1))), ((Ta 0), .inr (10, [.ref (Ta 1), .int (Tv 0), .int (Tv 1), .int (Tv 2), .int sv_70, .int sv_71])), ((Ta 1), .inl (tc 0, 400, .inl (Tf 1)))] := hD₀
      replace hS := hS₀
      clear hP₀ hD₀ hS₀
      refine lv_goto (tgt := 48) hx hb dX7_readValue_40 (by decide) ?_
      refine lv_aload_n hx hb dX7_readValue_48 rfl (lv_at hl 2 rfl) ?_
      refine lv_aload_n hx hb dX7_readValue_49 rfl (lv_at hl 3 rfl) ?_
      refine cV (a := (Va 0)) (As := [.ref (Ta 0)]) (rest := []) (wr := []) ⟨hx, hb, hml, hown, hts⟩ hK hX hA (cu_fX7_countOne l D tc sk (Va 0) (Va 1) (Vv 0) (Vv 1) (Vf 1) (Ta 0) (Ta 1) (Tv 0) (Tv 1) (Tv 2) sv_70 sv_71 (Tf 1) ro_74 pf_72 h_u h_by pf_73 cd_76) k_638 k_635 k_637 k_9 k_99 pl_X7_countOne ⟨Nat.le_of_ble_eq_true rfl, Nat.le_of_ble_eq_true rfl⟩ rfl rfl (va_recv hK hP (ci := 7) (q0 := 0) rfl rfl) hP hD hS [0, 1, 2, 3] [] rfl rfl rfl rfl rfl (by decide) rfl hl.1 rfl (Nat.le_of_ble_eq_true rfl) dX7_readValue_50 ⟨Nat.le_of_ble_eq_true rfl, Nat.le_of_ble_eq_true rfl⟩ (fun v_78 u_79 H locs hv_80 hP₀ hD₀ hS₀ => ?_)
      obtain ⟨sv_81, sv_82, sv_83⟩ := u_79
      obtain ⟨rfl, pf_84, pf_85, pf_86, pf_87⟩ := hv_80
      have pf_84 : 0 ≤ ((Tv 0) : Int32).toInt ∧ ((Tv 0) : Int32).toInt ≤ 400 ∧ 0 ≤ ((Tv 1) : Int32).toInt ∧ ((Tv 1) : Int32).toInt ≤ 400 ∧ 0 ≤ ((Tv 2) : Int32).toInt ∧ ((Tv 2) : Int32).toInt ≤ 400 := pf_84
      have pf_85 : 0 ≤ ((Vv 0) : Int32).toInt ∧ ((Vv 0) : Int32).toInt ≤ 400 := pf_85
      have pf_86 : TpR (Tf 1) (Tv 0) (rC1 ro_74) (Tv 1) (Tv 2) sv_82 sv_83 := pf_86
      obtain ⟨ro_88, ero_88⟩ : ∃ z : Except Int (Nat × Nat), z = (rC1 ro_74) := ⟨_, rfl⟩
      rw [← ero_88] at pf_86
      have tb_89 : TpB (rTE (cB (Tf 1) (Tv 0)) ro_88) (Tv 2) sv_83 := TpR.tb pf_86
      have ck_90 : CdK (Vf 1) (Vv 0) ro_88 ll := by rw [ero_88]; exact (CdK.c1 ck_77)
      have pf_87 : Ctd (rC1 ro_74) sv_81 := pf_87
      rw [← ero_88] at pf_87
      refine W.eq (g2 := F0 m 53 ls []) rfl ?_
      replace hP : va_P D classes [((Va 0), .inr (7, [.ref (Va 1), .int (Vv 0), .int sv_81])), ((Va 1), .inl (tc 0, 400, .inl (Vf 1))), ((Ta 0), .inr (10, [.ref (Ta 1), .int (Tv 0), .int (Tv 1), .int (Tv 2), .int sv_82, .int sv_83])), ((Ta 1), .inl (tc 0, 400, .inl (Tf 1)))] H := hP₀
      replace hD : va_D A [((Va 0), .inr (7, [.ref (Va 1), .int (Vv 0), .int sv_81])), ((Va 1), .inl (tc 0, 400, .inl (Vf 1))), ((Ta 0), .inr (10, [.ref (Ta 1), .int (Tv 0), .int (Tv 1), .int (Tv 2), .int sv_82, .int sv_83])), ((Ta 1), .inl (tc 0, 400, .inl (Tf 1)))] := hD₀
      replace hS := hS₀
      clear hP₀ hD₀ hS₀
      refine lv_aload_n hx hb dX7_readValue_53 rfl (lv_at hl 2 rfl) ?_
      refine lv_iload_n hx hb dX7_readValue_54 rfl (lv_at hl 1 rfl) ?_
      refine cV (a := (Va 0)) (As := [.int 0]) (rest := []) (wr := [((Ta 0), .inr (10, [.ref (Ta 1), .int (Tv 0), .int (Tv 1), .int (Tv 2), .int sv_82, .int sv_83])), ((Ta 1), .inl (tc 0, 400, .inl (Tf 1)))]) ⟨hx, hb, hml, hown, hts⟩ hK hX hA (cu_kX7_put l D tc sk (Va 0) (Va 1) (Vv 0) sv_81 (Vf 1) 0 ro_88 ll pf_85 ck_90) k_642 k_639 k_641 k_10 k_99 pl_X7_put ⟨Nat.le_of_ble_eq_true rfl, Nat.le_of_ble_eq_true rfl⟩ rfl rfl (va_recv hK hP (ci := 7) (q0 := 0) rfl rfl) hP hD hS [0, 1] [2, 3] rfl rfl rfl rfl rfl (by decide) rfl hl.1 rfl (Nat.le_of_ble_eq_true rfl) dX7_readValue_55 ⟨Nat.le_of_ble_eq_true rfl, Nat.le_of_ble_eq_true rfl⟩ (fun v_91 u_92 H locs hv_93 hP₀ hD₀ hS₀ => ?_)
      obtain ⟨sv_94, sv_95⟩ := u_92
      obtain ⟨rfl, pf_96, pf_97⟩ := hv_93
      have pf_96 : 0 ≤ (sv_94 : Int32).toInt ∧ (sv_94 : Int32).toInt ≤ 400 := pf_96
      have pf_97 : CdK sv_95 sv_94 ro_88 (ll ++ [(0 : Int32).toInt]) := pf_97
      rw [show (0 : Int32).toInt = 0 by decide] at pf_97
      obtain ⟨ro_98, ero_98⟩ : ∃ z : List Int, z = (ll ++ [0]) := ⟨_, rfl⟩
      rw [← ero_98] at pf_97
      refine W.eq (g2 := F0 m 58 ls []) rfl ?_
      replace hP : va_P D classes [((Ta 0), .inr (10, [.ref (Ta 1), .int (Tv 0), .int (Tv 1), .int (Tv 2), .int sv_82, .int sv_83])), ((Ta 1), .inl (tc 0, 400, .inl (Tf 1))), ((Va 0), .inr (7, [.ref (Va 1), .int sv_94, .int sv_81])), ((Va 1), .inl (tc 0, 400, .inl sv_95))] H := hP₀
      replace hD : va_D A [((Ta 0), .inr (10, [.ref (Ta 1), .int (Tv 0), .int (Tv 1), .int (Tv 2), .int sv_82, .int sv_83])), ((Ta 1), .inl (tc 0, 400, .inl (Tf 1))), ((Va 0), .inr (7, [.ref (Va 1), .int sv_94, .int sv_81])), ((Va 1), .inl (tc 0, 400, .inl sv_95))] := hD₀
      replace hS := hS₀
      clear hP₀ hD₀ hS₀
      refine lv_aload_n hx hb dX7_readValue_58 rfl (lv_at hl 3 rfl) ?_
      refine cV (a := (Ta 0)) (As := []) (rest := []) (wr := [((Va 0), .inr (7, [.ref (Va 1), .int sv_94, .int sv_81])), ((Va 1), .inl (tc 0, 400, .inl sv_95))]) ⟨hx, hb, hml, hown, hts⟩ hK hX hA (cu_fX10_step l D tc sk (Ta 0) (Ta 1) (Tv 0) (Tv 1) (Tv 2) sv_82 sv_83 (Tf 1) (rTE (cB (Tf 1) (Tv 0)) ro_88) pf_84 h_by tb_89) k_478 k_620 k_476 k_477 k_96 pl_X10_step ⟨Nat.le_of_ble_eq_true rfl, Nat.le_of_ble_eq_true rfl⟩ rfl rfl (va_recv hK hP (ci := 10) (q0 := 0) rfl rfl) hP hD hS [0, 1] [2, 3] rfl rfl rfl rfl rfl (by decide) rfl hl.1 rfl (Nat.le_of_ble_eq_true rfl) dX7_readValue_59 ⟨Nat.le_of_ble_eq_true rfl, Nat.le_of_ble_eq_true rfl⟩ (fun v_99 u_100 H locs hv_101 hP₀ hD₀ hS₀ => ?_)
      obtain ⟨sv_102, sv_103, sv_104⟩ := u_100
      obtain ⟨rfl, pf_105, pf_106⟩ := hv_101
      have pf_105 : 0 ≤ ((Tv 0) : Int32).toInt ∧ ((Tv 0) : Int32).toInt ≤ 400 ∧ 0 ≤ (sv_102 : Int32).toInt ∧ (sv_102 : Int32).toInt ≤ 400 ∧ 0 ≤ (sv_103 : Int32).toInt ∧ (sv_103 : Int32).toInt ≤ 400 := pf_105
      have pf_106 : TpR (Tf 1) (Tv 0) (rSK (cB (Tf 1) (Tv 0)) (rTE (cB (Tf 1) (Tv 0)) ro_88)) sv_102 sv_103 sv_104 sv_83 := pf_106
      rw [rNX_eq] at pf_106
      obtain ⟨ro_107, ero_107⟩ : ∃ z : Except Int (Nat × Nat), z = (rNX (cB (Tf 1) (Tv 0)) ro_88) := ⟨_, rfl⟩
      rw [← ero_107] at pf_106
      have tb_108 : TpB (rTE (cB (Tf 1) (Tv 0)) ro_107) sv_103 sv_83 := TpR.tb pf_106
      have cd_109 : Ctd ro_107 sv_81 := by rw [ero_107]; exact (Ctd.nx pf_87)
      have ck_110 : CdK sv_95 sv_94 ro_107 ro_98 := by rw [ero_107]; exact (CdK.nx pf_97)
      refine W.eq (g2 := F0 m 62 ls []) rfl ?_
      replace hP : va_P D classes [((Va 0), .inr (7, [.ref (Va 1), .int sv_94, .int sv_81])), ((Va 1), .inl (tc 0, 400, .inl sv_95)), ((Ta 0), .inr (10, [.ref (Ta 1), .int (Tv 0), .int sv_102, .int sv_103, .int sv_104, .int sv_83])), ((Ta 1), .inl (tc 0, 400, .inl (Tf 1)))] H := hP₀
      replace hD : va_D A [((Va 0), .inr (7, [.ref (Va 1), .int sv_94, .int sv_81])), ((Va 1), .inl (tc 0, 400, .inl sv_95)), ((Ta 0), .inr (10, [.ref (Ta 1), .int (Tv 0), .int sv_102, .int sv_103, .int sv_104, .int sv_83])), ((Ta 1), .inl (tc 0, 400, .inl (Tf 1)))] := hD₀
      replace hS := hS₀
      clear hP₀ hD₀ hS₀
      have hf_111 : TpR (Tf 1) (Tv 0) (pz_b rr (pz_val (cB (Tf 1) (Tv 0)))) sv_102 sv_103 sv_104 sv_83 := by
        have hE_112 : (pz_b rr (pz_val (cB (Tf 1) (Tv 0)))) = ro_107 := by
          rw [ero_107, ero_88, ero_74]
          have hr_113 : ¬ (48 ≤ (Tv 3).toInt ∧ (Tv 3).toInt ≤ 57) := by
            have z_1 := congrArg Int32.toInt c_8
            have z_2 := congrArg Int32.toInt c_16
            have y_m1 : (-1 : Int32).toInt = -1 := by decide
            have y_0 : (0 : Int32).toInt = 0 := by decide
            omega
          have hr_114 : (r_13 : Int32).toInt = -1 := by
            have z_1 := congrArg Int32.toInt c_8
            have z_2 := congrArg Int32.toInt c_16
            have y_m1 : (-1 : Int32).toInt = -1 := by decide
            have y_0 : (0 : Int32).toInt = 0 := by decide
            omega
          exact (val_no h_r hr_113 (he_14.symm.trans hr_114))
        rw [hE_112]
        exact pf_106
      have hf_115 : Ctd (pz_b rr (pz_val (cB (Tf 1) (Tv 0)))) sv_81 := by
        have hE_116 : (pz_b rr (pz_val (cB (Tf 1) (Tv 0)))) = ro_107 := by
          rw [ero_107, ero_88, ero_74]
          have hr_117 : ¬ (48 ≤ (Tv 3).toInt ∧ (Tv 3).toInt ≤ 57) := by
            have z_1 := congrArg Int32.toInt c_8
            have z_2 := congrArg Int32.toInt c_16
            have y_m1 : (-1 : Int32).toInt = -1 := by decide
            have y_0 : (0 : Int32).toInt = 0 := by decide
            omega
          have hr_118 : (r_13 : Int32).toInt = -1 := by
            have z_1 := congrArg Int32.toInt c_8
            have z_2 := congrArg Int32.toInt c_16
            have y_m1 : (-1 : Int32).toInt = -1 := by decide
            have y_0 : (0 : Int32).toInt = 0 := by decide
            omega
          exact (val_no h_r hr_117 (he_14.symm.trans hr_118))
        rw [hE_116]
        exact cd_109
      have hE_119 : (pz_b rr (pz_val (cB (Tf 1) (Tv 0)))) = ro_107 := by
        rw [ero_107, ero_88, ero_74]
        have hr_120 : ¬ (48 ≤ (Tv 3).toInt ∧ (Tv 3).toInt ≤ 57) := by
          have z_1 := congrArg Int32.toInt c_8
          have z_2 := congrArg Int32.toInt c_16
          have y_m1 : (-1 : Int32).toInt = -1 := by decide
          have y_0 : (0 : Int32).toInt = 0 := by decide
          omega
        have hr_121 : (r_13 : Int32).toInt = -1 := by
          have z_1 := congrArg Int32.toInt c_8
          have z_2 := congrArg Int32.toInt c_16
          have y_m1 : (-1 : Int32).toInt = -1 := by decide
          have y_0 : (0 : Int32).toInt = 0 := by decide
          omega
        exact (val_no h_r hr_120 (he_14.symm.trans hr_121))
      have hf_122 : CdK sv_95 sv_94 (pz_b rr (pz_val (cB (Tf 1) (Tv 0)))) (Ap rr (lval (cB (Tf 1) (Tv 0))) ll) := CdK.to ck_110 hE_119 (fun t ht => by
        rw [ero_98]
        have hr_123 : ¬ (48 ≤ (Tv 3).toInt ∧ (Tv 3).toInt ≤ 57) := by
          have z_1 := congrArg Int32.toInt c_8
          have z_2 := congrArg Int32.toInt c_16
          have y_m1 : (-1 : Int32).toInt = -1 := by decide
          have y_0 : (0 : Int32).toInt = 0 := by decide
          omega
        have hr_124 : (r_13 : Int32).toInt = -1 := by
          have z_1 := congrArg Int32.toInt c_8
          have z_2 := congrArg Int32.toInt c_16
          have y_m1 : (-1 : Int32).toInt = -1 := by decide
          have y_0 : (0 : Int32).toInt = 0 := by decide
          omega
        exact (vl_no (val_no h_r hr_123 (he_14.symm.trans hr_124))) t ht)
      exact retV hx hb hr hlk hP hD hS (sv_94, sv_81, sv_95, sv_102, sv_103, sv_104, sv_83) ⟨rfl, pf_105, pf_96, hf_111, hf_115, hf_122⟩ [0, 1, 2, 3] rfl rfl dX7_readValue_62 (Nat.le_of_ble_eq_true rfl) (Nat.le_of_ble_eq_true rfl) rfl
  · skip
    refine lv_aload_n hx hb dX7_readValue_12 rfl (lv_at hl 2 rfl) ?_
    refine lv_iconst (v := 0) hx hb dX7_readValue_13 (by decide) ?_
    refine lv_ldc hx hb hown (hts _ k_630) dX7_readValue_14 ?_
    have ha_125 : (0 : Int32).toInt = (0 : Int) := by
      have z_1 : ¬ (r_5 : Int32).toInt = (0 : Int32).toInt := fun z => c_8 (Int32.toInt_inj.mp z)
      have y_0 : (0 : Int32).toInt = 0 := by decide
      omega
    have ha_126 : (99999 : Int32).toInt = (99999 : Int) := by
      have z_1 : ¬ (r_5 : Int32).toInt = (0 : Int32).toInt := fun z => c_8 (Int32.toInt_inj.mp z)
      have y_0 : (0 : Int32).toInt = 0 := by decide
      have y_99999 : (99999 : Int32).toInt = 99999 := by decide
      omega
    refine cV (a := (Ta 0)) (As := [.int 0, .int 99999]) (rest := []) (wr := [((Va 0), .inr (7, [.ref (Va 1), .int (Vv 0), .int (Vv 1)])), ((Va 1), .inl (tc 0, 400, .inl (Vf 1)))]) ⟨hx, hb, hml, hown, hts⟩ hK hX hA (cu_fX10_numberHere l D tc sk (Ta 0) (Ta 1) (Tv 0) (Tv 1) (Tv 2) (Tv 3) (Tv 4) (Tf 1) 0 99999 rr 0 99999 h_tape h_by h_r ha_125 ha_126) k_570 k_631 k_568 k_569 k_96 pl_X10_numberHere ⟨Nat.le_of_ble_eq_true rfl, Nat.le_of_ble_eq_true rfl⟩ rfl rfl (va_recv hK hP (ci := 10) (q0 := 2) rfl rfl) hP hD hS [2, 3] [0, 1] rfl rfl rfl rfl rfl (by decide) rfl hl.1 rfl (Nat.le_of_ble_eq_true rfl) dX7_readValue_16 ⟨Nat.le_of_ble_eq_true rfl, Nat.le_of_ble_eq_true rfl⟩ (fun v_127 u_128 H locs hv_129 hP₀ hD₀ hS₀ => ?_)
    obtain ⟨sv_130, sv_131⟩ := u_128
    obtain ⟨r_134, rfl, he_135, pf_132, pf_133⟩ := hv_129
    have he_135 : NuV (cB (Tf 1) (Tv 0)) (0 : Int) (99999 : Int) rr r_134 := he_135
    have pf_132 : 0 ≤ ((Tv 0) : Int32).toInt ∧ ((Tv 0) : Int32).toInt ≤ 400 ∧ 0 ≤ ((Tv 1) : Int32).toInt ∧ ((Tv 1) : Int32).toInt ≤ 400 ∧ 0 ≤ ((Tv 2) : Int32).toInt ∧ ((Tv 2) : Int32).toInt ≤ 400 := pf_132
    have pf_133 : TpR (Tf 1) (Tv 0) (rNU (cB (Tf 1) (Tv 0)) (0 : Int) (99999 : Int) rr) (Tv 1) (Tv 2) sv_130 sv_131 := pf_133
    obtain ⟨ro_137, ero_137⟩ : ∃ z : Except Int (Nat × Nat), z = (rNU (cB (Tf 1) (Tv 0)) 0 99999 rr) := ⟨_, rfl⟩
    rw [← ero_137] at pf_133
    have tb_138 : TpB (rTE (cB (Tf 1) (Tv 0)) ro_137) (Tv 2) sv_131 := TpR.tb pf_133
    have cd_139 : Ctd ro_137 (Vv 1) := by rw [ero_137]; exact (Ctd.nu h_ct)
    have ck_140 : CdK (Vf 1) (Vv 0) ro_137 ll := by rw [ero_137]; exact (CdK.nu h_cd)
    refine W.eq (g2 := F0 m 19 ls [.int r_134]) rfl ?_
    replace hP : va_P D classes [((Va 0), .inr (7, [.ref (Va 1), .int (Vv 0), .int (Vv 1)])), ((Va 1), .inl (tc 0, 400, .inl (Vf 1))), ((Ta 0), .inr (10, [.ref (Ta 1), .int (Tv 0), .int (Tv 1), .int (Tv 2), .int sv_130, .int sv_131])), ((Ta 1), .inl (tc 0, 400, .inl (Tf 1)))] H := hP₀
    replace hD : va_D A [((Va 0), .inr (7, [.ref (Va 1), .int (Vv 0), .int (Vv 1)])), ((Va 1), .inl (tc 0, 400, .inl (Vf 1))), ((Ta 0), .inr (10, [.ref (Ta 1), .int (Tv 0), .int (Tv 1), .int (Tv 2), .int sv_130, .int sv_131])), ((Ta 1), .inl (tc 0, 400, .inl (Tf 1)))] := hD₀
    replace hS := hS₀
    clear hP₀ hD₀ hS₀
    refine lv_istore_n (lv' := [(2, .int r_134), (0, .ref (Va 0)), (1, .ref (Ta 0))]) hx hb dX7_readValue_19 rfl hl (by decide) rfl (fun ls hl₀ => ?_)
    replace hl := hl₀
    clear hl₀
    refine lv_goto (tgt := 48) hx hb dX7_readValue_20 (by decide) ?_
    refine lv_aload_n hx hb dX7_readValue_48 rfl (lv_at hl 1 rfl) ?_
    refine lv_aload_n hx hb dX7_readValue_49 rfl (lv_at hl 2 rfl) ?_
    refine cV (a := (Va 0)) (As := [.ref (Ta 0)]) (rest := []) (wr := []) ⟨hx, hb, hml, hown, hts⟩ hK hX hA (cu_fX7_countOne l D tc sk (Va 0) (Va 1) (Vv 0) (Vv 1) (Vf 1) (Ta 0) (Ta 1) (Tv 0) (Tv 1) (Tv 2) sv_130 sv_131 (Tf 1) ro_137 pf_132 h_u h_by pf_133 cd_139) k_638 k_635 k_637 k_9 k_99 pl_X7_countOne ⟨Nat.le_of_ble_eq_true rfl, Nat.le_of_ble_eq_true rfl⟩ rfl rfl (va_recv hK hP (ci := 7) (q0 := 0) rfl rfl) hP hD hS [0, 1, 2, 3] [] rfl rfl rfl rfl rfl (by decide) rfl hl.1 rfl (Nat.le_of_ble_eq_true rfl) dX7_readValue_50 ⟨Nat.le_of_ble_eq_true rfl, Nat.le_of_ble_eq_true rfl⟩ (fun v_141 u_142 H locs hv_143 hP₀ hD₀ hS₀ => ?_)
    obtain ⟨sv_144, sv_145, sv_146⟩ := u_142
    obtain ⟨rfl, pf_147, pf_148, pf_149, pf_150⟩ := hv_143
    have pf_147 : 0 ≤ ((Tv 0) : Int32).toInt ∧ ((Tv 0) : Int32).toInt ≤ 400 ∧ 0 ≤ ((Tv 1) : Int32).toInt ∧ ((Tv 1) : Int32).toInt ≤ 400 ∧ 0 ≤ ((Tv 2) : Int32).toInt ∧ ((Tv 2) : Int32).toInt ≤ 400 := pf_147
    have pf_148 : 0 ≤ ((Vv 0) : Int32).toInt ∧ ((Vv 0) : Int32).toInt ≤ 400 := pf_148
    have pf_149 : TpR (Tf 1) (Tv 0) (rC1 ro_137) (Tv 1) (Tv 2) sv_145 sv_146 := pf_149
    obtain ⟨ro_151, ero_151⟩ : ∃ z : Except Int (Nat × Nat), z = (rC1 ro_137) := ⟨_, rfl⟩
    rw [← ero_151] at pf_149
    have tb_152 : TpB (rTE (cB (Tf 1) (Tv 0)) ro_151) (Tv 2) sv_146 := TpR.tb pf_149
    have ck_153 : CdK (Vf 1) (Vv 0) ro_151 ll := by rw [ero_151]; exact (CdK.c1 ck_140)
    have pf_150 : Ctd (rC1 ro_137) sv_144 := pf_150
    rw [← ero_151] at pf_150
    refine W.eq (g2 := F0 m 53 ls []) rfl ?_
    replace hP : va_P D classes [((Va 0), .inr (7, [.ref (Va 1), .int (Vv 0), .int sv_144])), ((Va 1), .inl (tc 0, 400, .inl (Vf 1))), ((Ta 0), .inr (10, [.ref (Ta 1), .int (Tv 0), .int (Tv 1), .int (Tv 2), .int sv_145, .int sv_146])), ((Ta 1), .inl (tc 0, 400, .inl (Tf 1)))] H := hP₀
    replace hD : va_D A [((Va 0), .inr (7, [.ref (Va 1), .int (Vv 0), .int sv_144])), ((Va 1), .inl (tc 0, 400, .inl (Vf 1))), ((Ta 0), .inr (10, [.ref (Ta 1), .int (Tv 0), .int (Tv 1), .int (Tv 2), .int sv_145, .int sv_146])), ((Ta 1), .inl (tc 0, 400, .inl (Tf 1)))] := hD₀
    replace hS := hS₀
    clear hP₀ hD₀ hS₀
    refine lv_aload_n hx hb dX7_readValue_53 rfl (lv_at hl 1 rfl) ?_
    refine lv_iload_n hx hb dX7_readValue_54 rfl (lv_at hl 0 rfl) ?_
    refine cV (a := (Va 0)) (As := [.int r_134]) (rest := []) (wr := [((Ta 0), .inr (10, [.ref (Ta 1), .int (Tv 0), .int (Tv 1), .int (Tv 2), .int sv_145, .int sv_146])), ((Ta 1), .inl (tc 0, 400, .inl (Tf 1)))]) ⟨hx, hb, hml, hown, hts⟩ hK hX hA (cu_kX7_put l D tc sk (Va 0) (Va 1) (Vv 0) sv_144 (Vf 1) r_134 ro_151 ll pf_148 ck_153) k_642 k_639 k_641 k_10 k_99 pl_X7_put ⟨Nat.le_of_ble_eq_true rfl, Nat.le_of_ble_eq_true rfl⟩ rfl rfl (va_recv hK hP (ci := 7) (q0 := 0) rfl rfl) hP hD hS [0, 1] [2, 3] rfl rfl rfl rfl rfl (by decide) rfl hl.1 rfl (Nat.le_of_ble_eq_true rfl) dX7_readValue_55 ⟨Nat.le_of_ble_eq_true rfl, Nat.le_of_ble_eq_true rfl⟩ (fun v_154 u_155 H locs hv_156 hP₀ hD₀ hS₀ => ?_)
    obtain ⟨sv_157, sv_158⟩ := u_155
    obtain ⟨rfl, pf_159, pf_160⟩ := hv_156
    have pf_159 : 0 ≤ (sv_157 : Int32).toInt ∧ (sv_157 : Int32).toInt ≤ 400 := pf_159
    have pf_160 : CdK sv_158 sv_157 ro_151 (ll ++ [r_134.toInt]) := pf_160
    obtain ⟨ro_161, ero_161⟩ : ∃ z : List Int, z = (ll ++ [r_134.toInt]) := ⟨_, rfl⟩
    rw [← ero_161] at pf_160
    refine W.eq (g2 := F0 m 58 ls []) rfl ?_
    replace hP : va_P D classes [((Ta 0), .inr (10, [.ref (Ta 1), .int (Tv 0), .int (Tv 1), .int (Tv 2), .int sv_145, .int sv_146])), ((Ta 1), .inl (tc 0, 400, .inl (Tf 1))), ((Va 0), .inr (7, [.ref (Va 1), .int sv_157, .int sv_144])), ((Va 1), .inl (tc 0, 400, .inl sv_158))] H := hP₀
    replace hD : va_D A [((Ta 0), .inr (10, [.ref (Ta 1), .int (Tv 0), .int (Tv 1), .int (Tv 2), .int sv_145, .int sv_146])), ((Ta 1), .inl (tc 0, 400, .inl (Tf 1))), ((Va 0), .inr (7, [.ref (Va 1), .int sv_157, .int sv_144])), ((Va 1), .inl (tc 0, 400, .inl sv_158))] := hD₀
    replace hS := hS₀
    clear hP₀ hD₀ hS₀
    refine lv_aload_n hx hb dX7_readValue_58 rfl (lv_at hl 2 rfl) ?_
    refine cV (a := (Ta 0)) (As := []) (rest := []) (wr := [((Va 0), .inr (7, [.ref (Va 1), .int sv_157, .int sv_144])), ((Va 1), .inl (tc 0, 400, .inl sv_158))]) ⟨hx, hb, hml, hown, hts⟩ hK hX hA (cu_fX10_step l D tc sk (Ta 0) (Ta 1) (Tv 0) (Tv 1) (Tv 2) sv_145 sv_146 (Tf 1) (rTE (cB (Tf 1) (Tv 0)) ro_151) pf_147 h_by tb_152) k_478 k_620 k_476 k_477 k_96 pl_X10_step ⟨Nat.le_of_ble_eq_true rfl, Nat.le_of_ble_eq_true rfl⟩ rfl rfl (va_recv hK hP (ci := 10) (q0 := 0) rfl rfl) hP hD hS [0, 1] [2, 3] rfl rfl rfl rfl rfl (by decide) rfl hl.1 rfl (Nat.le_of_ble_eq_true rfl) dX7_readValue_59 ⟨Nat.le_of_ble_eq_true rfl, Nat.le_of_ble_eq_true rfl⟩ (fun v_162 u_163 H locs hv_164 hP₀ hD₀ hS₀ => ?_)
    obtain ⟨sv_165, sv_166, sv_167⟩ := u_163
    obtain ⟨rfl, pf_168, pf_169⟩ := hv_164
    have pf_168 : 0 ≤ ((Tv 0) : Int32).toInt ∧ ((Tv 0) : Int32).toInt ≤ 400 ∧ 0 ≤ (sv_165 : Int32).toInt ∧ (sv_165 : Int32).toInt ≤ 400 ∧ 0 ≤ (sv_166 : Int32).toInt ∧ (sv_166 : Int32).toInt ≤ 400 := pf_168
    have pf_169 : TpR (Tf 1) (Tv 0) (rSK (cB (Tf 1) (Tv 0)) (rTE (cB (Tf 1) (Tv 0)) ro_151)) sv_165 sv_166 sv_167 sv_146 := pf_169
    rw [rNX_eq] at pf_169
    obtain ⟨ro_170, ero_170⟩ : ∃ z : Except Int (Nat × Nat), z = (rNX (cB (Tf 1) (Tv 0)) ro_151) := ⟨_, rfl⟩
    rw [← ero_170] at pf_169
    have tb_171 : TpB (rTE (cB (Tf 1) (Tv 0)) ro_170) sv_166 sv_146 := TpR.tb pf_169
    have cd_172 : Ctd ro_170 sv_144 := by rw [ero_170]; exact (Ctd.nx pf_150)
    have ck_173 : CdK sv_158 sv_157 ro_170 ro_161 := by rw [ero_170]; exact (CdK.nx pf_160)
    refine W.eq (g2 := F0 m 62 ls []) rfl ?_
    replace hP : va_P D classes [((Va 0), .inr (7, [.ref (Va 1), .int sv_157, .int sv_144])), ((Va 1), .inl (tc 0, 400, .inl sv_158)), ((Ta 0), .inr (10, [.ref (Ta 1), .int (Tv 0), .int sv_165, .int sv_166, .int sv_167, .int sv_146])), ((Ta 1), .inl (tc 0, 400, .inl (Tf 1)))] H := hP₀
    replace hD : va_D A [((Va 0), .inr (7, [.ref (Va 1), .int sv_157, .int sv_144])), ((Va 1), .inl (tc 0, 400, .inl sv_158)), ((Ta 0), .inr (10, [.ref (Ta 1), .int (Tv 0), .int sv_165, .int sv_166, .int sv_167, .int sv_146])), ((Ta 1), .inl (tc 0, 400, .inl (Tf 1)))] := hD₀
    replace hS := hS₀
    clear hP₀ hD₀ hS₀
    have hf_174 : TpR (Tf 1) (Tv 0) (pz_b rr (pz_val (cB (Tf 1) (Tv 0)))) sv_165 sv_166 sv_167 sv_146 := by
      have hE_175 : (pz_b rr (pz_val (cB (Tf 1) (Tv 0)))) = ro_170 := by
        rw [ero_170, ero_151, ero_137]
        have hr_176 : 48 ≤ (Tv 3).toInt ∧ (Tv 3).toInt ≤ 57 := by
          have z_1 : ¬ (r_5 : Int32).toInt = (0 : Int32).toInt := fun z => c_8 (Int32.toInt_inj.mp z)
          have y_0 : (0 : Int32).toInt = 0 := by decide
          omega
        exact (val_dig h_r hr_176)
      rw [hE_175]
      exact pf_169
    have hf_177 : Ctd (pz_b rr (pz_val (cB (Tf 1) (Tv 0)))) sv_144 := by
      have hE_178 : (pz_b rr (pz_val (cB (Tf 1) (Tv 0)))) = ro_170 := by
        rw [ero_170, ero_151, ero_137]
        have hr_179 : 48 ≤ (Tv 3).toInt ∧ (Tv 3).toInt ≤ 57 := by
          have z_1 : ¬ (r_5 : Int32).toInt = (0 : Int32).toInt := fun z => c_8 (Int32.toInt_inj.mp z)
          have y_0 : (0 : Int32).toInt = 0 := by decide
          omega
        exact (val_dig h_r hr_179)
      rw [hE_178]
      exact cd_172
    have hE_180 : (pz_b rr (pz_val (cB (Tf 1) (Tv 0)))) = ro_170 := by
      rw [ero_170, ero_151, ero_137]
      have hr_181 : 48 ≤ (Tv 3).toInt ∧ (Tv 3).toInt ≤ 57 := by
        have z_1 : ¬ (r_5 : Int32).toInt = (0 : Int32).toInt := fun z => c_8 (Int32.toInt_inj.mp z)
        have y_0 : (0 : Int32).toInt = 0 := by decide
        omega
      exact (val_dig h_r hr_181)
    have hf_182 : CdK sv_158 sv_157 (pz_b rr (pz_val (cB (Tf 1) (Tv 0)))) (Ap rr (lval (cB (Tf 1) (Tv 0))) ll) := CdK.to ck_173 hE_180 (fun t ht => by
      rw [ero_161]
      have hr_183 : 48 ≤ (Tv 3).toInt ∧ (Tv 3).toInt ≤ 57 := by
        have z_1 : ¬ (r_5 : Int32).toInt = (0 : Int32).toInt := fun z => c_8 (Int32.toInt_inj.mp z)
        have y_0 : (0 : Int32).toInt = 0 := by decide
        omega
      exact (vl_dig h_r hr_183 he_135) t ht)
    exact retV hx hb hr hlk hP hD hS (sv_157, sv_144, sv_158, sv_165, sv_166, sv_167, sv_146) ⟨rfl, pf_168, pf_159, hf_174, hf_177, hf_182⟩ [0, 1, 2, 3] rfl rfl dX7_readValue_62 (Nat.le_of_ble_eq_true rfl) (Nat.le_of_ble_eq_true rfl) rfl
set_option maxRecDepth 100000 in
theorem cu_kX7_readValue (l : Launch) (D : va_G) (tc : Nat → ClassId) (sk : (Nat → Nat) × (Nat → Nat)) (Va_0 : Nat) (Va_1 : Nat) (Vv_0 : Int32) (Vv_1 : Int32) (Vf_1 : Nat → Int32) (Ta_0 : Nat) (Ta_1 : Nat) (Tv_0 : Int32) (Tv_1 : Int32) (Tv_2 : Int32) (Tv_3 : Int32) (Tv_4 : Int32) (Tf_1 : Nat → Int32) (rr : Except Int (Nat × Nat)) (ll : List Int) (h_tape : 0 ≤ (Tv_0 : Int32).toInt ∧ (Tv_0 : Int32).toInt ≤ 400 ∧ 0 ≤ (Tv_1 : Int32).toInt ∧ (Tv_1 : Int32).toInt ≤ 400 ∧ 0 ≤ (Tv_2 : Int32).toInt ∧ (Tv_2 : Int32).toInt ≤ 400) (h_u : 0 ≤ (Vv_0 : Int32).toInt ∧ (Vv_0 : Int32).toInt ≤ 400) (h_by : Byt Tf_1) (h_r : TpR Tf_1 Tv_0 rr Tv_1 Tv_2 Tv_3 Tv_4) (h_ct : Ctd rr Vv_1) (h_cd : CdK Vf_1 Vv_0 rr ll) : Ct l yX7_readValue cX7_readValue 4 none { frames := 6, cells := 0, slots := 0, locals := 133 } D tc sk [.ref Va_0, .ref Ta_0] [(Va_0, .inr (7, [.ref Va_1, .int Vv_0, .int Vv_1])), (Va_1, .inl (tc 0, 400, .inl Vf_1)), (Ta_0, .inr (10, [.ref Ta_1, .int Tv_0, .int Tv_1, .int Tv_2, .int Tv_3, .int Tv_4])), (Ta_1, .inl (tc 0, 400, .inl Tf_1))] (fun (v : Option Value) (u : (Int32) × (Int32) × (Nat → Int32) × (Int32) × (Int32) × (Int32) × (Int32)) => match u with | (oo0x1, oo0x2, oo0x3, oo0x4, oo0x5, oo0x6, oo0x7) => v = none ∧ (0 ≤ (Tv_0 : Int32).toInt ∧ (Tv_0 : Int32).toInt ≤ 400 ∧ 0 ≤ (oo0x4 : Int32).toInt ∧ (oo0x4 : Int32).toInt ≤ 400 ∧ 0 ≤ (oo0x5 : Int32).toInt ∧ (oo0x5 : Int32).toInt ≤ 400) ∧ (0 ≤ (oo0x1 : Int32).toInt ∧ (oo0x1 : Int32).toInt ≤ 400) ∧ (TpR Tf_1 Tv_0 (pz_b rr (pz_val (cB Tf_1 Tv_0))) oo0x4 oo0x5 oo0x6 oo0x7) ∧ (Ctd (pz_b rr (pz_val (cB Tf_1 Tv_0))) oo0x2) ∧ (CdK oo0x3 oo0x1 (pz_b rr (pz_val (cB Tf_1 Tv_0))) (Ap rr (lval (cB Tf_1 Tv_0)) ll))) (fun (u : (Int32) × (Int32) × (Nat → Int32) × (Int32) × (Int32) × (Int32) × (Int32)) => match u with | (oo0x1, oo0x2, oo0x3, oo0x4, oo0x5, oo0x6, oo0x7) => [(Va_0, .inr (7, [.ref Va_1, .int oo0x1, .int oo0x2])), (Va_1, .inl (tc 0, 400, .inl oo0x3)), (Ta_0, .inr (10, [.ref Ta_1, .int Tv_0, .int oo0x4, .int oo0x5, .int oo0x6, .int oo0x7])), (Ta_1, .inl (tc 0, 400, .inl Tf_1))]) 0 0 :=
  ct_kX7_readValue l D tc sk (fun k => ([Va_0, Va_1] : List (Nat)).getD k 0) (fun k => ([Vv_0, Vv_1] : List (Int32)).getD k 0) (fun k => ([(fun _ => 0), Vf_1] : List (Nat → Int32)).getD k (fun _ => 0)) (fun k => ([Ta_0, Ta_1] : List (Nat)).getD k 0) (fun k => ([Tv_0, Tv_1, Tv_2, Tv_3, Tv_4] : List (Int32)).getD k 0) (fun k => ([(fun _ => 0), Tf_1] : List (Nat → Int32)).getD k (fun _ => 0)) rr ll h_tape h_u h_by h_r h_ct h_cd
set_option maxHeartbeats 4000000 in
set_option maxRecDepth 100000 in
theorem ct_kX7_readSum (l : Launch) (D : va_G) (tc : Nat → ClassId) (sk : (Nat → Nat) × (Nat → Nat)) (Va : Nat → Nat) (Vv : Nat → Int32) (Vf : Nat → Nat → Int32) (Ta : Nat → Nat) (Tv : Nat → Int32) (Tf : Nat → Nat → Int32) (rr : Except Int (Nat × Nat)) (ll : List Int) (h_tape : 0 ≤ ((Tv 0) : Int32).toInt ∧ ((Tv 0) : Int32).toInt ≤ 400 ∧ 0 ≤ ((Tv 1) : Int32).toInt ∧ ((Tv 1) : Int32).toInt ≤ 400 ∧ 0 ≤ ((Tv 2) : Int32).toInt ∧ ((Tv 2) : Int32).toInt ≤ 400) (h_u : 0 ≤ ((Vv 0) : Int32).toInt ∧ ((Vv 0) : Int32).toInt ≤ 400) (h_by : Byt (Tf 1)) (h_r : TpR (Tf 1) (Tv 0) rr (Tv 1) (Tv 2) (Tv 3) (Tv 4)) (h_ct : Ctd rr (Vv 1)) (h_cd : CdK (Vf 1) (Vv 0) rr ll) : Ct l yX7_readSum cX7_readSum 5 none { frames := 7, cells := 0, slots := 0, locals := 156 } D tc sk [.ref (Va 0), .ref (Ta 0)] [((Va 0), .inr (7, [.ref (Va 1), .int (Vv 0), .int (Vv 1)])), ((Va 1), .inl (tc 0, 400, .inl (Vf 1))), ((Ta 0), .inr (10, [.ref (Ta 1), .int (Tv 0), .int (Tv 1), .int (Tv 2), .int (Tv 3), .int (Tv 4)])), ((Ta 1), .inl (tc 0, 400, .inl (Tf 1)))] (fun (v : Option Value) (u : (Int32) × (Int32) × (Nat → Int32) × (Int32) × (Int32) × (Int32) × (Int32)) => match u with | (oo0x1, oo0x2, oo0x3, oo0x4, oo0x5, oo0x6, oo0x7) => v = none ∧ (0 ≤ ((Tv 0) : Int32).toInt ∧ ((Tv 0) : Int32).toInt ≤ 400 ∧ 0 ≤ (oo0x4 : Int32).toInt ∧ (oo0x4 : Int32).toInt ≤ 400 ∧ 0 ≤ (oo0x5 : Int32).toInt ∧ (oo0x5 : Int32).toInt ≤ 400) ∧ (0 ≤ (oo0x1 : Int32).toInt ∧ (oo0x1 : Int32).toInt ≤ 400) ∧ (TpR (Tf 1) (Tv 0) (pz_b rr (pz_sum (cB (Tf 1) (Tv 0)))) oo0x4 oo0x5 oo0x6 oo0x7) ∧ (Ctd (pz_b rr (pz_sum (cB (Tf 1) (Tv 0)))) oo0x2) ∧ (CdK oo0x3 oo0x1 (pz_b rr (pz_sum (cB (Tf 1) (Tv 0)))) (Ap rr (lsum (cB (Tf 1) (Tv 0))) ll))) (fun (u : (Int32) × (Int32) × (Nat → Int32) × (Int32) × (Int32) × (Int32) × (Int32)) => match u with | (oo0x1, oo0x2, oo0x3, oo0x4, oo0x5, oo0x6, oo0x7) => [((Va 0), .inr (7, [.ref (Va 1), .int oo0x1, .int oo0x2])), ((Va 1), .inl (tc 0, 400, .inl oo0x3)), ((Ta 0), .inr (10, [.ref (Ta 1), .int (Tv 0), .int oo0x4, .int oo0x5, .int oo0x6, .int oo0x7])), ((Ta 1), .inl (tc 0, 400, .inl (Tf 1)))]) 0 0 := by
  refine Ct.start (by decide) (Nat.le_of_ble_eq_true rfl) (fun p e s m below meth c A ls hx hb hr hlk hin hml hown hts hK hX hP hD hA hl hS => ?_)
  have hl : lv_has ls 5 [(0, .ref (Va 0)), (1, .ref (Ta 0))] := hl
  have tb_1 : TpB (rTE (cB (Tf 1) (Tv 0)) rr) (Tv 2) (Tv 4) := TpR.tb h_r
  refine lv_aload_n hx hb dX7_readSum_0 rfl (lv_at hl 0 rfl) ?_
  refine lv_aload_n hx hb dX7_readSum_1 rfl (lv_at hl 1 rfl) ?_
  refine cV (a := (Va 0)) (As := [.ref (Ta 0)]) (rest := []) (wr := []) ⟨hx, hb, hml, hown, hts⟩ hK hX hA (cu_kX7_readValue l D tc sk (Va 0) (Va 1) (Vv 0) (Vv 1) (Vf 1) (Ta 0) (Ta 1) (Tv 0) (Tv 1) (Tv 2) (Tv 3) (Tv 4) (Tf 1) rr ll h_tape h_u h_by h_r h_ct h_cd) k_628 k_625 k_627 k_8 k_99 pl_X7_readValue ⟨Nat.le_of_ble_eq_true rfl, Nat.le_of_ble_eq_true rfl⟩ rfl rfl (va_recv hK hP (ci := 7) (q0 := 0) rfl rfl) hP hD hS [0, 1, 2, 3] [] rfl rfl rfl rfl rfl (by decide) rfl hl.1 rfl (Nat.le_of_ble_eq_true rfl) dX7_readSum_2 ⟨Nat.le_of_ble_eq_true rfl, Nat.le_of_ble_eq_true rfl⟩ (fun v_2 u_3 H locs hv_4 hP₀ hD₀ hS₀ => ?_)
  obtain ⟨sv_5, sv_6, sv_7, sv_8, sv_9, sv_10, sv_11⟩ := u_3
  obtain ⟨rfl, pf_12, pf_13, pf_14, pf_15, pf_16⟩ := hv_4
  have pf_12 : 0 ≤ ((Tv 0) : Int32).toInt ∧ ((Tv 0) : Int32).toInt ≤ 400 ∧ 0 ≤ (sv_8 : Int32).toInt ∧ (sv_8 : Int32).toInt ≤ 400 ∧ 0 ≤ (sv_9 : Int32).toInt ∧ (sv_9 : Int32).toInt ≤ 400 := pf_12
  have pf_13 : 0 ≤ (sv_5 : Int32).toInt ∧ (sv_5 : Int32).toInt ≤ 400 := pf_13
  have pf_14 : TpR (Tf 1) (Tv 0) (pz_b rr (pz_val (cB (Tf 1) (Tv 0)))) sv_8 sv_9 sv_10 sv_11 := pf_14
  obtain ⟨ro_17, ero_17⟩ : ∃ z : Except Int (Nat × Nat), z = (pz_b rr (pz_val (cB (Tf 1) (Tv 0)))) := ⟨_, rfl⟩
  rw [← ero_17] at pf_14
  have tb_18 : TpB (rTE (cB (Tf 1) (Tv 0)) ro_17) sv_9 sv_11 := TpR.tb pf_14
  have pf_15 : Ctd (pz_b rr (pz_val (cB (Tf 1) (Tv 0)))) sv_6 := pf_15
  rw [← ero_17] at pf_15
  have pf_16 : CdK sv_7 sv_5 (pz_b rr (pz_val (cB (Tf 1) (Tv 0)))) (Ap rr (lval (cB (Tf 1) (Tv 0))) ll) := pf_16
  rw [← ero_17] at pf_16
  obtain ⟨ro_19, ero_19⟩ : ∃ z : List Int, z = (Ap rr (lval (cB (Tf 1) (Tv 0))) ll) := ⟨_, rfl⟩
  rw [← ero_19] at pf_16
  refine W.eq (g2 := F0 m 5 ls []) rfl ?_
  replace hP : va_P D classes [((Va 0), .inr (7, [.ref (Va 1), .int sv_5, .int sv_6])), ((Va 1), .inl (tc 0, 400, .inl sv_7)), ((Ta 0), .inr (10, [.ref (Ta 1), .int (Tv 0), .int sv_8, .int sv_9, .int sv_10, .int sv_11])), ((Ta 1), .inl (tc 0, 400, .inl (Tf 1)))] H := hP₀
  replace hD : va_D A [((Va 0), .inr (7, [.ref (Va 1), .int sv_5, .int sv_6])), ((Va 1), .inl (tc 0, 400, .inl sv_7)), ((Ta 0), .inr (10, [.ref (Ta 1), .int (Tv 0), .int sv_8, .int sv_9, .int sv_10, .int sv_11])), ((Ta 1), .inl (tc 0, 400, .inl (Tf 1)))] := hD₀
  replace hS := hS₀
  clear hP₀ hD₀ hS₀
  refine lv_iconst (v := (-1)) hx hb dX7_readSum_5 (by decide) ?_
  refine lv_istore_n (lv' := [(2, .int (-1)), (0, .ref (Va 0)), (1, .ref (Ta 0))]) hx hb dX7_readSum_6 rfl hl (by decide) rfl (fun ls hl₀ => ?_)
  replace hl := hl₀
  clear hl₀
  refine lv_iconst (v := 0) hx hb dX7_readSum_7 (by decide) ?_
  refine lv_istore_n (lv' := [(3, .int 0), (2, .int (-1)), (0, .ref (Va 0)), (1, .ref (Ta 0))]) hx hb dX7_readSum_8 rfl hl (by decide) rfl (fun ls hl₀ => ?_)
  replace hl := hl₀
  clear hl₀
  have loop_40 : ∀ (n_38 : Nat) (vy_29 : Int32) (vy_30 : Int32) (vy_31 : Int32) (vy_32 : Int32) (vy_33 : Nat → Int32) (vy_34 : Int32) (vy_35 : Int32) (vy_36 : Int32) (vy_37 : Int32) (H : Heap) (locs : List Loc) (ls : Array Slot), (401 - (vy_29 : Int32).toInt).toNat < n_38 → (0 ≤ (vy_29 : Int32).toInt ∧ (vy_29 : Int32).toInt ≤ 400) → (0 ≤ ((Tv 0) : Int32).toInt ∧ ((Tv 0) : Int32).toInt ≤ 400 ∧ 0 ≤ (vy_34 : Int32).toInt ∧ (vy_34 : Int32).toInt ≤ 400 ∧ 0 ≤ (vy_35 : Int32).toInt ∧ (vy_35 : Int32).toInt ≤ 400) → (0 ≤ (vy_31 : Int32).toInt ∧ (vy_31 : Int32).toInt ≤ 400) → (SmC (Tf 1) (Tv 0) (pz_b rr (pz_sum (cB (Tf 1) (Tv 0)))) vy_34 vy_35 vy_36 vy_37 vy_32 vy_29 vy_33 vy_31 vy_30 (Ap rr (lsum (cB (Tf 1) (Tv 0))) ll)) → va_P D classes [((Va 0), .inr (7, [.ref (Va 1), .int vy_31, .int vy_32])), ((Va 1), .inl (tc 0, 400, .inl vy_33)), ((Ta 0), .inr (10, [.ref (Ta 1), .int (Tv 0), .int vy_34, .int vy_35, .int vy_36, .int vy_37])), ((Ta 1), .inl (tc 0, 400, .inl (Tf 1)))] H → va_D A [((Va 0), .inr (7, [.ref (Va 1), .int vy_31, .int vy_32])), ((Va 1), .inl (tc 0, 400, .inl vy_33)), ((Ta 0), .inr (10, [.ref (Ta 1), .int (Tv 0), .int vy_34, .int vy_35, .int vy_36, .int vy_37])), ((Ta 1), .inl (tc 0, 400, .inl (Tf 1)))] → va_S A s.heap H locs → lv_has ls 5 [(3, .int vy_29), (2, .int vy_30), (0, .ref (Va 0)), (1, .ref (Ta 0))] → W p l e ({ frames := 7, cells := 0, slots := 0, locals := 156 }) s m ([.ref (Va 0), .ref (Ta 0)].toArray) below meth c H locs 0 0 (MQ below (QW (fun (v : Option Value) (u : (Int32) × (Int32) × (Nat → Int32) × (Int32) × (Int32) × (Int32) × (Int32)) => match u with | (oo0x1, oo0x2, oo0x3, oo0x4, oo0x5, oo0x6, oo0x7) => v = none ∧ (0 ≤ ((Tv 0) : Int32).toInt ∧ ((Tv 0) : Int32).toInt ≤ 400 ∧ 0 ≤ (oo0x4 : Int32).toInt ∧ (oo0x4 : Int32).toInt ≤ 400 ∧ 0 ≤ (oo0x5 : Int32).toInt ∧ (oo0x5 : Int32).toInt ≤ 400) ∧ (0 ≤ (oo0x1 : Int32).toInt ∧ (oo0x1 : Int32).toInt ≤ 400) ∧ (TpR (Tf 1) (Tv 0) (pz_b rr (pz_sum (cB (Tf 1) (Tv 0)))) oo0x4 oo0x5 oo0x6 oo0x7) ∧ (Ctd (pz_b rr (pz_sum (cB (Tf 1) (Tv 0)))) oo0x2) ∧ (CdK oo0x3 oo0x1 (pz_b rr (pz_sum (cB (Tf 1) (Tv 0)))) (Ap rr (lsum (cB (Tf 1) (Tv 0))) ll))) (BW D (fun (u : (Int32) × (Int32) × (Nat → Int32) × (Int32) × (Int32) × (Int32) × (Int32)) => match u with | (oo0x1, oo0x2, oo0x3, oo0x4, oo0x5, oo0x6, oo0x7) => [((Va 0), .inr (7, [.ref (Va 1), .int oo0x1, .int oo0x2])), ((Va 1), .inl (tc 0, 400, .inl oo0x3)), ((Ta 0), .inr (10, [.ref (Ta 1), .int (Tv 0), .int oo0x4, .int oo0x5, .int oo0x6, .int oo0x7])), ((Ta 1), .inl (tc 0, 400, .inl (Tf 1)))]) A) A) ([.ref (Va 0), .ref (Ta 0)].toArray) s 0 0 A) (F0 m 9 ls []) := by
    clear hP hD hS hl
    intro n_38
    induction n_38 with
    | zero =>
      intro vy_29 vy_30 vy_31 vy_32 vy_33 vy_34 vy_35 vy_36 vy_37 H locs ls h1
      exact absurd h1 (Nat.not_lt_zero _)
    | succ n_38 ih_39 =>
      intro vy_29 vy_30 vy_31 vy_32 vy_33 vy_34 vy_35 vy_36 vy_37 H locs ls hn_45 pf_41 pf_42 pf_43 pf_44 hP hD hS hl
      obtain ⟨rq_46, pf_47, pf_48, pf_49, pf_50, lq_51, pf_52, pf_53⟩ := id pf_44
      have tb_54 : TpB (rTE (cB (Tf 1) (Tv 0)) rq_46) vy_35 vy_37 := TpR.tb pf_47
      refine lv_iload_n hx hb dX7_readSum_9 rfl (lv_at hl 0 rfl) ?_
      refine lv_sipush (v := 400) hx hb dX7_readSum_10 (by decide) ?_
      refine lv_icmp_ge (tgt := 86) hx hb dX7_readSum_13 (by decide) (fun c_55 => ?_) (fun c_55 => ?_)
      · skip
        refine lv_iload_n hx hb dX7_readSum_86 rfl (lv_at hl 1 rfl) ?_
        refine lv_iconst (v := (-1)) hx hb dX7_readSum_87 (by decide) ?_
        refine lv_icmp_eq (tgt := 96) hx hb dX7_readSum_88 (by decide) (fun c_56 => ?_) (fun c_56 => ?_)
        · skip
          have hf_57 : TpR (Tf 1) (Tv 0) (pz_b rr (pz_sum (cB (Tf 1) (Tv 0)))) vy_34 vy_35 vy_36 vy_37 := by
            have hr_58 : 400 ≤ (vy_29 : Int32).toInt ∨ ¬ ((vy_36 : Int32).toInt = 43 ∨ (vy_36 : Int32).toInt = 45 ∨ (vy_36 : Int32).toInt = 42 ∨ (vy_36 : Int32).toInt = 47 ∨ (vy_36 : Int32).toInt = 37) := by
              have z_1 := Int32.le_iff_toInt_le.mp c_55
              have z_2 := congrArg Int32.toInt c_56
              have y_m1 : (-1 : Int32).toInt = -1 := by decide
              have y_400 : (400 : Int32).toInt = 400 := by decide
              omega
            rw [pf_49, sum_end h_tape.2.1 pf_47 pf_50 hr_58]
            exact pf_47
          have hf_59 : Ctd (pz_b rr (pz_sum (cB (Tf 1) (Tv 0)))) vy_32 := by
            have hr_60 : 400 ≤ (vy_29 : Int32).toInt ∨ ¬ ((vy_36 : Int32).toInt = 43 ∨ (vy_36 : Int32).toInt = 45 ∨ (vy_36 : Int32).toInt = 42 ∨ (vy_36 : Int32).toInt = 47 ∨ (vy_36 : Int32).toInt = 37) := by
              have z_1 := Int32.le_iff_toInt_le.mp c_55
              have z_2 := congrArg Int32.toInt c_56
              have y_m1 : (-1 : Int32).toInt = -1 := by decide
              have y_400 : (400 : Int32).toInt = 400 := by decide
              omega
            rw [pf_49, sum_end h_tape.2.1 pf_47 pf_50 hr_60]
            exact pf_48
          have hr_61 : 400 ≤ (vy_29 : Int32).toInt ∨ ¬ ((vy_36 : Int32).toInt = 43 ∨ (vy_36 : Int32).toInt = 45 ∨ (vy_36 : Int32).toInt = 42 ∨ (vy_36 : Int32).toInt = 47 ∨ (vy_36 : Int32).toInt = 37) := by
            have z_1 := Int32.le_iff_toInt_le.mp c_55
            have z_2 := congrArg Int32.toInt c_56
            have y_m1 : (-1 : Int32).toInt = -1 := by decide
            have y_400 : (400 : Int32).toInt = 400 := by decide
            omega
          have hr_62 : (vy_30 : Int32).toInt = -1 := by
            have z_1 := Int32.le_iff_toInt_le.mp c_55
            have z_2 := congrArg Int32.toInt c_56
            have y_m1 : (-1 : Int32).toInt = -1 := by decide
            have y_400 : (400 : Int32).toInt = 400 := by decide
            omega
          exact retV hx hb hr hlk hP hD hS (vy_31, vy_32, vy_33, vy_34, vy_35, vy_36, vy_37) ⟨rfl, pf_42, pf_43, hf_57, hf_59, (SmC.end0 h_tape.2.1 pf_47 pf_49 pf_50 pf_53 hr_62 hr_61 pf_52)⟩ [0, 1, 2, 3] rfl rfl dX7_readSum_96 (Nat.le_of_ble_eq_true rfl) (Nat.le_of_ble_eq_true rfl) rfl
        · skip
          refine lv_aload_n hx hb dX7_readSum_91 rfl (lv_at hl 2 rfl) ?_
          refine lv_iload_n hx hb dX7_readSum_92 rfl (lv_at hl 1 rfl) ?_
          refine cV (a := (Va 0)) (As := [.int vy_30]) (rest := []) (wr := [((Ta 0), .inr (10, [.ref (Ta 1), .int (Tv 0), .int vy_34, .int vy_35, .int vy_36, .int vy_37])), ((Ta 1), .inl (tc 0, 400, .inl (Tf 1)))]) ⟨hx, hb, hml, hown, hts⟩ hK hX hA (cu_kX7_put l D tc sk (Va 0) (Va 1) vy_31 vy_32 vy_33 vy_30 rq_46 lq_51 pf_43 pf_52) k_642 k_639 k_641 k_10 k_99 pl_X7_put ⟨Nat.le_of_ble_eq_true rfl, Nat.le_of_ble_eq_true rfl⟩ rfl rfl (va_recv hK hP (ci := 7) (q0 := 0) rfl rfl) hP hD hS [0, 1] [2, 3] rfl rfl rfl rfl rfl (by decide) rfl hl.1 rfl (Nat.le_of_ble_eq_true rfl) dX7_readSum_93 ⟨Nat.le_of_ble_eq_true rfl, Nat.le_of_ble_eq_true rfl⟩ (fun v_63 u_64 H locs hv_65 hP₀ hD₀ hS₀ => ?_)
          obtain ⟨sv_66, sv_67⟩ := u_64
          obtain ⟨rfl, pf_68, pf_69⟩ := hv_65
          have pf_68 : 0 ≤ (sv_66 : Int32).toInt ∧ (sv_66 : Int32).toInt ≤ 400 := pf_68
          have pf_69 : CdK sv_67 sv_66 rq_46 (lq_51 ++ [vy_30.toInt]) := pf_69
          obtain ⟨ro_70, ero_70⟩ : ∃ z : List Int, z = (lq_51 ++ [vy_30.toInt]) := ⟨_, rfl⟩
          rw [← ero_70] at pf_69
          refine W.eq (g2 := F0 m 96 ls []) rfl ?_
          replace hP : va_P D classes [((Ta 0), .inr (10, [.ref (Ta 1), .int (Tv 0), .int vy_34, .int vy_35, .int vy_36, .int vy_37])), ((Ta 1), .inl (tc 0, 400, .inl (Tf 1))), ((Va 0), .inr (7, [.ref (Va 1), .int sv_66, .int vy_32])), ((Va 1), .inl (tc 0, 400, .inl sv_67))] H := hP₀
          replace hD : va_D A [((Ta 0), .inr (10, [.ref (Ta 1), .int (Tv 0), .int vy_34, .int vy_35, .int vy_36, .int vy_37])), ((Ta 1), .inl (tc 0, 400, .inl (Tf 1))), ((Va 0), .inr (7, [.ref (Va 1), .int sv_66, .int vy_32])), ((Va 1), .inl (tc 0, 400, .inl sv_67))] := hD₀
          replace hS := hS₀
          clear hP₀ hD₀ hS₀
          have hf_71 : TpR (Tf 1) (Tv 0) (pz_b rr (pz_sum (cB (Tf 1) (Tv 0)))) vy_34 vy_35 vy_36 vy_37 := by
            have hr_72 : 400 ≤ (vy_29 : Int32).toInt ∨ ¬ ((vy_36 : Int32).toInt = 43 ∨ (vy_36 : Int32).toInt = 45 ∨ (vy_36 : Int32).toInt = 42 ∨ (vy_36 : Int32).toInt = 47 ∨ (vy_36 : Int32).toInt = 37) := by
              have z_1 := Int32.le_iff_toInt_le.mp c_55
              have z_2 : ¬ (vy_30 : Int32).toInt = ((-1) : Int32).toInt := fun z => c_56 (Int32.toInt_inj.mp z)
              have y_m1 : (-1 : Int32).toInt = -1 := by decide
              have y_400 : (400 : Int32).toInt = 400 := by decide
              omega
            rw [pf_49, sum_end h_tape.2.1 pf_47 pf_50 hr_72]
            exact pf_47
          have hf_73 : Ctd (pz_b rr (pz_sum (cB (Tf 1) (Tv 0)))) vy_32 := by
            have hr_74 : 400 ≤ (vy_29 : Int32).toInt ∨ ¬ ((vy_36 : Int32).toInt = 43 ∨ (vy_36 : Int32).toInt = 45 ∨ (vy_36 : Int32).toInt = 42 ∨ (vy_36 : Int32).toInt = 47 ∨ (vy_36 : Int32).toInt = 37) := by
              have z_1 := Int32.le_iff_toInt_le.mp c_55
              have z_2 : ¬ (vy_30 : Int32).toInt = ((-1) : Int32).toInt := fun z => c_56 (Int32.toInt_inj.mp z)
              have y_m1 : (-1 : Int32).toInt = -1 := by decide
              have y_400 : (400 : Int32).toInt = 400 := by decide
              omega
            rw [pf_49, sum_end h_tape.2.1 pf_47 pf_50 hr_74]
            exact pf_48
          have hr_75 : 400 ≤ (vy_29 : Int32).toInt ∨ ¬ ((vy_36 : Int32).toInt = 43 ∨ (vy_36 : Int32).toInt = 45 ∨ (vy_36 : Int32).toInt = 42 ∨ (vy_36 : Int32).toInt = 47 ∨ (vy_36 : Int32).toInt = 37) := by
            have z_1 := Int32.le_iff_toInt_le.mp c_55
            have z_2 : ¬ (vy_30 : Int32).toInt = ((-1) : Int32).toInt := fun z => c_56 (Int32.toInt_inj.mp z)
            have y_m1 : (-1 : Int32).toInt = -1 := by decide
            have y_400 : (400 : Int32).toInt = 400 := by decide
            omega
          have hu_76 : CdK sv_67 sv_66 rq_46 (lq_51 ++ [vy_30.toInt]) := by
            rw [← ero_70]
            exact pf_69
          have hr_77 : ¬ (vy_30 : Int32).toInt = -1 := by
            have z_1 := Int32.le_iff_toInt_le.mp c_55
            have z_2 : ¬ (vy_30 : Int32).toInt = ((-1) : Int32).toInt := fun z => c_56 (Int32.toInt_inj.mp z)
            have y_m1 : (-1 : Int32).toInt = -1 := by decide
            have y_400 : (400 : Int32).toInt = 400 := by decide
            omega
          exact retV hx hb hr hlk hP hD hS (sv_66, vy_32, sv_67, vy_34, vy_35, vy_36, vy_37) ⟨rfl, pf_42, pf_68, hf_71, hf_73, (SmC.end1 h_tape.2.1 pf_47 pf_49 pf_50 pf_53 hr_77 hr_75 hu_76)⟩ [2, 3, 0, 1] rfl rfl dX7_readSum_96 (Nat.le_of_ble_eq_true rfl) (Nat.le_of_ble_eq_true rfl) rfl
      · skip
        refine lv_aload_n hx hb dX7_readSum_16 rfl (lv_at hl 3 rfl) ?_
        refine cS (As := [.ref (Ta 0)]) (rest := []) (wr := [((Va 0), .inr (7, [.ref (Va 1), .int vy_31, .int vy_32])), ((Va 1), .inl (tc 0, 400, .inl vy_33))]) ⟨hx, hb, hml, hown, hts⟩ hK hX hA (cu_kX7_arithmetic l D tc sk (Ta 0) (Ta 1) (Tv 0) vy_34 vy_35 vy_36 vy_37 (Tf 1) pf_42) k_645 k_643 k_644 k_99 pl_X7_arithmetic ⟨Nat.le_of_ble_eq_true rfl, Nat.le_of_ble_eq_true rfl⟩ rfl rfl  hP hD hS [2, 3] [0, 1] rfl rfl rfl rfl rfl (by decide) rfl hl.1 rfl (Nat.le_of_ble_eq_true rfl) dX7_readSum_17 ⟨Nat.le_of_ble_eq_true rfl, Nat.le_of_ble_eq_true rfl⟩ (fun v_78 u_79 H locs hv_80 hP₀ hD₀ hS₀ => ?_)
        obtain ⟨r_81, rfl, he_82⟩ := hv_80
        have he_82 : (((r_81.toInt = -1 ∧ ¬ (vy_36.toInt = 43 ∨ vy_36.toInt = 45 ∨ vy_36.toInt = 42 ∨ vy_36.toInt = 47 ∨ vy_36.toInt = 37)) ∨ (r_81.toInt ≤ -12 ∧ (vy_36.toInt = 43 ∨ vy_36.toInt = 45 ∨ vy_36.toInt = 42 ∨ vy_36.toInt = 47 ∨ vy_36.toInt = 37))) ∧ r_81.toInt = ec_o vy_36.toInt) := he_82
        refine W.eq (g2 := F0 m 20 ls [.int r_81]) rfl ?_
        replace hP : va_P D classes [((Va 0), .inr (7, [.ref (Va 1), .int vy_31, .int vy_32])), ((Va 1), .inl (tc 0, 400, .inl vy_33)), ((Ta 0), .inr (10, [.ref (Ta 1), .int (Tv 0), .int vy_34, .int vy_35, .int vy_36, .int vy_37])), ((Ta 1), .inl (tc 0, 400, .inl (Tf 1)))] H := hP₀
        replace hD : va_D A [((Va 0), .inr (7, [.ref (Va 1), .int vy_31, .int vy_32])), ((Va 1), .inl (tc 0, 400, .inl vy_33)), ((Ta 0), .inr (10, [.ref (Ta 1), .int (Tv 0), .int vy_34, .int vy_35, .int vy_36, .int vy_37])), ((Ta 1), .inl (tc 0, 400, .inl (Tf 1)))] := hD₀
        replace hS := hS₀
        clear hP₀ hD₀ hS₀
        refine lv_iconst (v := (-1)) hx hb dX7_readSum_20 (by decide) ?_
        refine lv_icmp_eq (tgt := 86) hx hb dX7_readSum_21 (by decide) (fun c_84 => ?_) (fun c_84 => ?_)
        · skip
          refine lv_iload_n hx hb dX7_readSum_86 rfl (lv_at hl 1 rfl) ?_
          refine lv_iconst (v := (-1)) hx hb dX7_readSum_87 (by decide) ?_
          refine lv_icmp_eq (tgt := 96) hx hb dX7_readSum_88 (by decide) (fun c_85 => ?_) (fun c_85 => ?_)
          · skip
            have hf_86 : TpR (Tf 1) (Tv 0) (pz_b rr (pz_sum (cB (Tf 1) (Tv 0)))) vy_34 vy_35 vy_36 vy_37 := by
              have hr_87 : 400 ≤ (vy_29 : Int32).toInt ∨ ¬ ((vy_36 : Int32).toInt = 43 ∨ (vy_36 : Int32).toInt = 45 ∨ (vy_36 : Int32).toInt = 42 ∨ (vy_36 : Int32).toInt = 47 ∨ (vy_36 : Int32).toInt = 37) := by
                have z_1 := Int32.lt_iff_toInt_lt.mp (Int32.not_le.mp c_55)
                have z_2 := congrArg Int32.toInt c_84
                have z_3 := congrArg Int32.toInt c_85
                have y_m1 : (-1 : Int32).toInt = -1 := by decide
                have y_400 : (400 : Int32).toInt = 400 := by decide
                omega
              rw [pf_49, sum_end h_tape.2.1 pf_47 pf_50 hr_87]
              exact pf_47
            have hf_88 : Ctd (pz_b rr (pz_sum (cB (Tf 1) (Tv 0)))) vy_32 := by
              have hr_89 : 400 ≤ (vy_29 : Int32).toInt ∨ ¬ ((vy_36 : Int32).toInt = 43 ∨ (vy_36 : Int32).toInt = 45 ∨ (vy_36 : Int32).toInt = 42 ∨ (vy_36 : Int32).toInt = 47 ∨ (vy_36 : Int32).toInt = 37) := by
                have z_1 := Int32.lt_iff_toInt_lt.mp (Int32.not_le.mp c_55)
                have z_2 := congrArg Int32.toInt c_84
                have z_3 := congrArg Int32.toInt c_85
                have y_m1 : (-1 : Int32).toInt = -1 := by decide
                have y_400 : (400 : Int32).toInt = 400 := by decide
                omega
              rw [pf_49, sum_end h_tape.2.1 pf_47 pf_50 hr_89]
              exact pf_48
            have hr_90 : 400 ≤ (vy_29 : Int32).toInt ∨ ¬ ((vy_36 : Int32).toInt = 43 ∨ (vy_36 : Int32).toInt = 45 ∨ (vy_36 : Int32).toInt = 42 ∨ (vy_36 : Int32).toInt = 47 ∨ (vy_36 : Int32).toInt = 37) := by
              have z_1 := Int32.lt_iff_toInt_lt.mp (Int32.not_le.mp c_55)
              have z_2 := congrArg Int32.toInt c_84
              have z_3 := congrArg Int32.toInt c_85
              have y_m1 : (-1 : Int32).toInt = -1 := by decide
              have y_400 : (400 : Int32).toInt = 400 := by decide
              omega
            have hr_91 : (vy_30 : Int32).toInt = -1 := by
              have z_1 := Int32.lt_iff_toInt_lt.mp (Int32.not_le.mp c_55)
              have z_2 := congrArg Int32.toInt c_84
              have z_3 := congrArg Int32.toInt c_85
              have y_m1 : (-1 : Int32).toInt = -1 := by decide
              have y_400 : (400 : Int32).toInt = 400 := by decide
              omega
            exact retV hx hb hr hlk hP hD hS (vy_31, vy_32, vy_33, vy_34, vy_35, vy_36, vy_37) ⟨rfl, pf_42, pf_43, hf_86, hf_88, (SmC.end0 h_tape.2.1 pf_47 pf_49 pf_50 pf_53 hr_91 hr_90 pf_52)⟩ [0, 1, 2, 3] rfl rfl dX7_readSum_96 (Nat.le_of_ble_eq_true rfl) (Nat.le_of_ble_eq_true rfl) rfl
          · skip
            refine lv_aload_n hx hb dX7_readSum_91 rfl (lv_at hl 2 rfl) ?_
            refine lv_iload_n hx hb dX7_readSum_92 rfl (lv_at hl 1 rfl) ?_
            refine cV (a := (Va 0)) (As := [.int vy_30]) (rest := []) (wr := [((Ta 0), .inr (10, [.ref (Ta 1), .int (Tv 0), .int vy_34, .int vy_35, .int vy_36, .int vy_37])), ((Ta 1), .inl (tc 0, 400, .inl (Tf 1)))]) ⟨hx, hb, hml, hown, hts⟩ hK hX hA (cu_kX7_put l D tc sk (Va 0) (Va 1) vy_31 vy_32 vy_33 vy_30 rq_46 lq_51 pf_43 pf_52) k_642 k_639 k_641 k_10 k_99 pl_X7_put ⟨Nat.le_of_ble_eq_true rfl, Nat.le_of_ble_eq_true rfl⟩ rfl rfl (va_recv hK hP (ci := 7) (q0 := 0) rfl rfl) hP hD hS [0, 1] [2, 3] rfl rfl rfl rfl rfl (by decide) rfl hl.1 rfl (Nat.le_of_ble_eq_true rfl) dX7_readSum_93 ⟨Nat.le_of_ble_eq_true rfl, Nat.le_of_ble_eq_true rfl⟩ (fun v_92 u_93 H locs hv_94 hP₀ hD₀ hS₀ => ?_)
            obtain ⟨sv_95, sv_96⟩ := u_93
            obtain ⟨rfl, pf_97, pf_98⟩ := hv_94
            have pf_97 : 0 ≤ (sv_95 : Int32).toInt ∧ (sv_95 : Int32).toInt ≤ 400 := pf_97
            have pf_98 : CdK sv_96 sv_95 rq_46 (lq_51 ++ [vy_30.toInt]) := pf_98
            obtain ⟨ro_99, ero_99⟩ : ∃ z : List Int, z = (lq_51 ++ [vy_30.toInt]) := ⟨_, rfl⟩
            rw [← ero_99] at pf_98
            refine W.eq (g2 := F0 m 96 ls []) rfl ?_
            replace hP : va_P D classes [((Ta 0), .inr (10, [.ref (Ta 1), .int (Tv 0), .int vy_34, .int vy_35, .int vy_36, .int vy_37])), ((Ta 1), .inl (tc 0, 400, .inl (Tf 1))), ((Va 0), .inr (7, [.ref (Va 1), .int sv_95, .int vy_32])), ((Va 1), .inl (tc 0, 400, .inl sv_96))] H := hP₀
            replace hD : va_D A [((Ta 0), .inr (10, [.ref (Ta 1), .int (Tv 0), .int vy_34, .int vy_35, .int vy_36, .int vy_37])), ((Ta 1), .inl (tc 0, 400, .inl (Tf 1))), ((Va 0), .inr (7, [.ref (Va 1), .int sv_95, .int vy_32])), ((Va 1), .inl (tc 0, 400, .inl sv_96))] := hD₀
            replace hS := hS₀
            clear hP₀ hD₀ hS₀
            have hf_100 : TpR (Tf 1) (Tv 0) (pz_b rr (pz_sum (cB (Tf 1) (Tv 0)))) vy_34 vy_35 vy_36 vy_37 := by
              have hr_101 : 400 ≤ (vy_29 : Int32).toInt ∨ ¬ ((vy_36 : Int32).toInt = 43 ∨ (vy_36 : Int32).toInt = 45 ∨ (vy_36 : Int32).toInt = 42 ∨ (vy_36 : Int32).toInt = 47 ∨ (vy_36 : Int32).toInt = 37) := by
                have z_1 := Int32.lt_iff_toInt_lt.mp (Int32.not_le.mp c_55)
                have z_2 := congrArg Int32.toInt c_84
                have z_3 : ¬ (vy_30 : Int32).toInt = ((-1) : Int32).toInt := fun z => c_85 (Int32.toInt_inj.mp z)
                have y_m1 : (-1 : Int32).toInt = -1 := by decide
                have y_400 : (400 : Int32).toInt = 400 := by decide
                omega
              rw [pf_49, sum_end h_tape.2.1 pf_47 pf_50 hr_101]
              exact pf_47
            have hf_102 : Ctd (pz_b rr (pz_sum (cB (Tf 1) (Tv 0)))) vy_32 := by
              have hr_103 : 400 ≤ (vy_29 : Int32).toInt ∨ ¬ ((vy_36 : Int32).toInt = 43 ∨ (vy_36 : Int32).toInt = 45 ∨ (vy_36 : Int32).toInt = 42 ∨ (vy_36 : Int32).toInt = 47 ∨ (vy_36 : Int32).toInt = 37) := by
                have z_1 := Int32.lt_iff_toInt_lt.mp (Int32.not_le.mp c_55)
                have z_2 := congrArg Int32.toInt c_84
                have z_3 : ¬ (vy_30 : Int32).toInt = ((-1) : Int32).toInt := fun z => c_85 (Int32.toInt_inj.mp z)
                have y_m1 : (-1 : Int32).toInt = -1 := by decide
                have y_400 : (400 : Int32).toInt = 400 := by decide
                omega
              rw [pf_49, sum_end h_tape.2.1 pf_47 pf_50 hr_103]
              exact pf_48
            have hr_104 : 400 ≤ (vy_29 : Int32).toInt ∨ ¬ ((vy_36 : Int32).toInt = 43 ∨ (vy_36 : Int32).toInt = 45 ∨ (vy_36 : Int32).toInt = 42 ∨ (vy_36 : Int32).toInt = 47 ∨ (vy_36 : Int32).toInt = 37) := by
              have z_1 := Int32.lt_iff_toInt_lt.mp (Int32.not_le.mp c_55)
              have z_2 := congrArg Int32.toInt c_84
              have z_3 : ¬ (vy_30 : Int32).toInt = ((-1) : Int32).toInt := fun z => c_85 (Int32.toInt_inj.mp z)
              have y_m1 : (-1 : Int32).toInt = -1 := by decide
              have y_400 : (400 : Int32).toInt = 400 := by decide
              omega
            have hu_105 : CdK sv_96 sv_95 rq_46 (lq_51 ++ [vy_30.toInt]) := by
              rw [← ero_99]
              exact pf_98
            have hr_106 : ¬ (vy_30 : Int32).toInt = -1 := by
              have z_1 := Int32.lt_iff_toInt_lt.mp (Int32.not_le.mp c_55)
              have z_2 := congrArg Int32.toInt c_84
              have z_3 : ¬ (vy_30 : Int32).toInt = ((-1) : Int32).toInt := fun z => c_85 (Int32.toInt_inj.mp z)
              have y_m1 : (-1 : Int32).toInt = -1 := by decide
              have y_400 : (400 : Int32).toInt = 400 := by decide
              omega
            exact retV hx hb hr hlk hP hD hS (sv_95, vy_32, sv_96, vy_34, vy_35, vy_36, vy_37) ⟨rfl, pf_42, pf_97, hf_100, hf_102, (SmC.end1 h_tape.2.1 pf_47 pf_49 pf_50 pf_53 hr_106 hr_104 hu_105)⟩ [2, 3, 0, 1] rfl rfl dX7_readSum_96 (Nat.le_of_ble_eq_true rfl) (Nat.le_of_ble_eq_true rfl) rfl
        · skip
          refine lv_aload_n hx hb dX7_readSum_24 rfl (lv_at hl 3 rfl) ?_
          refine cS (As := [.ref (Ta 0)]) (rest := []) (wr := [((Va 0), .inr (7, [.ref (Va 1), .int vy_31, .int vy_32])), ((Va 1), .inl (tc 0, 400, .inl vy_33))]) ⟨hx, hb, hml, hown, hts⟩ hK hX hA (cu_kX7_arithmetic l D tc sk (Ta 0) (Ta 1) (Tv 0) vy_34 vy_35 vy_36 vy_37 (Tf 1) pf_42) k_645 k_643 k_644 k_99 pl_X7_arithmetic ⟨Nat.le_of_ble_eq_true rfl, Nat.le_of_ble_eq_true rfl⟩ rfl rfl  hP hD hS [2, 3] [0, 1] rfl rfl rfl rfl rfl (by decide) rfl hl.1 rfl (Nat.le_of_ble_eq_true rfl) dX7_readSum_25 ⟨Nat.le_of_ble_eq_true rfl, Nat.le_of_ble_eq_true rfl⟩ (fun v_107 u_108 H locs hv_109 hP₀ hD₀ hS₀ => ?_)
          obtain ⟨r_110, rfl, he_111⟩ := hv_109
          have he_111 : (((r_110.toInt = -1 ∧ ¬ (vy_36.toInt = 43 ∨ vy_36.toInt = 45 ∨ vy_36.toInt = 42 ∨ vy_36.toInt = 47 ∨ vy_36.toInt = 37)) ∨ (r_110.toInt ≤ -12 ∧ (vy_36.toInt = 43 ∨ vy_36.toInt = 45 ∨ vy_36.toInt = 42 ∨ vy_36.toInt = 47 ∨ vy_36.toInt = 37))) ∧ r_110.toInt = ec_o vy_36.toInt) := he_111
          refine W.eq (g2 := F0 m 28 ls [.int r_110]) rfl ?_
          replace hP : va_P D classes [((Va 0), .inr (7, [.ref (Va 1), .int vy_31, .int vy_32])), ((Va 1), .inl (tc 0, 400, .inl vy_33)), ((Ta 0), .inr (10, [.ref (Ta 1), .int (Tv 0), .int vy_34, .int vy_35, .int vy_36, .int vy_37])), ((Ta 1), .inl (tc 0, 400, .inl (Tf 1)))] H := hP₀
          replace hD : va_D A [((Va 0), .inr (7, [.ref (Va 1), .int vy_31, .int vy_32])), ((Va 1), .inl (tc 0, 400, .inl vy_33)), ((Ta 0), .inr (10, [.ref (Ta 1), .int (Tv 0), .int vy_34, .int vy_35, .int vy_36, .int vy_37])), ((Ta 1), .inl (tc 0, 400, .inl (Tf 1)))] := hD₀
          replace hS := hS₀
          clear hP₀ hD₀ hS₀
          refine lv_istore (lv' := [(4, .int r_110), (3, .int vy_29), (2, .int vy_30), (0, .ref (Va 0)), (1, .ref (Ta 0))]) hx hb dX7_readSum_28 hl (by decide) rfl (fun ls hl₀ => ?_)
          replace hl := hl₀
          clear hl₀
          refine lv_aload_n hx hb dX7_readSum_30 rfl (lv_at hl 4 rfl) ?_
          refine cV (a := (Ta 0)) (As := []) (rest := []) (wr := [((Va 0), .inr (7, [.ref (Va 1), .int vy_31, .int vy_32])), ((Va 1), .inl (tc 0, 400, .inl vy_33))]) ⟨hx, hb, hml, hown, hts⟩ hK hX hA (cu_fX10_step l D tc sk (Ta 0) (Ta 1) (Tv 0) vy_34 vy_35 vy_36 vy_37 (Tf 1) (rTE (cB (Tf 1) (Tv 0)) rq_46) pf_42 h_by tb_54) k_478 k_620 k_476 k_477 k_96 pl_X10_step ⟨Nat.le_of_ble_eq_true rfl, Nat.le_of_ble_eq_true rfl⟩ rfl rfl (va_recv hK hP (ci := 10) (q0 := 2) rfl rfl) hP hD hS [2, 3] [0, 1] rfl rfl rfl rfl rfl (by decide) rfl hl.1 rfl (Nat.le_of_ble_eq_true rfl) dX7_readSum_31 ⟨Nat.le_of_ble_eq_true rfl, Nat.le_of_ble_eq_true rfl⟩ (fun v_113 u_114 H locs hv_115 hP₀ hD₀ hS₀ => ?_)
          obtain ⟨sv_116, sv_117, sv_118⟩ := u_114
          obtain ⟨rfl, pf_119, pf_120⟩ := hv_115
          have pf_119 : 0 ≤ ((Tv 0) : Int32).toInt ∧ ((Tv 0) : Int32).toInt ≤ 400 ∧ 0 ≤ (sv_116 : Int32).toInt ∧ (sv_116 : Int32).toInt ≤ 400 ∧ 0 ≤ (sv_117 : Int32).toInt ∧ (sv_117 : Int32).toInt ≤ 400 := pf_119
          have pf_120 : TpR (Tf 1) (Tv 0) (rSK (cB (Tf 1) (Tv 0)) (rTE (cB (Tf 1) (Tv 0)) rq_46)) sv_116 sv_117 sv_118 vy_37 := pf_120
          rw [rNX_eq] at pf_120
          obtain ⟨ro_121, ero_121⟩ : ∃ z : Except Int (Nat × Nat), z = (rNX (cB (Tf 1) (Tv 0)) rq_46) := ⟨_, rfl⟩
          rw [← ero_121] at pf_120
          have tb_122 : TpB (rTE (cB (Tf 1) (Tv 0)) ro_121) sv_117 vy_37 := TpR.tb pf_120
          have cd_123 : Ctd ro_121 vy_32 := by rw [ero_121]; exact (Ctd.nx pf_48)
          have ck_124 : CdK vy_33 vy_31 ro_121 lq_51 := by rw [ero_121]; exact (CdK.nx pf_52)
          refine W.eq (g2 := F0 m 34 ls []) rfl ?_
          replace hP : va_P D classes [((Va 0), .inr (7, [.ref (Va 1), .int vy_31, .int vy_32])), ((Va 1), .inl (tc 0, 400, .inl vy_33)), ((Ta 0), .inr (10, [.ref (Ta 1), .int (Tv 0), .int sv_116, .int sv_117, .int sv_118, .int vy_37])), ((Ta 1), .inl (tc 0, 400, .inl (Tf 1)))] H := hP₀
          replace hD : va_D A [((Va 0), .inr (7, [.ref (Va 1), .int vy_31, .int vy_32])), ((Va 1), .inl (tc 0, 400, .inl vy_33)), ((Ta 0), .inr (10, [.ref (Ta 1), .int (Tv 0), .int sv_116, .int sv_117, .int sv_118, .int vy_37])), ((Ta 1), .inl (tc 0, 400, .inl (Tf 1)))] := hD₀
          replace hS := hS₀
          clear hP₀ hD₀ hS₀
          refine lv_iload hx hb dX7_readSum_34 (lv_at hl 0 rfl) ?_
          refine lv_bipush (v := (-12)) hx hb dX7_readSum_36 (by decide) ?_
          refine lv_icmp_eq (tgt := 48) hx hb dX7_readSum_38 (by decide) (fun c_125 => ?_) (fun c_125 => ?_)
          · skip
            refine lv_iload_n hx hb dX7_readSum_48 rfl (lv_at hl 2 rfl) ?_
            refine lv_iconst (v := (-1)) hx hb dX7_readSum_49 (by decide) ?_
            refine lv_icmp_eq (tgt := 58) hx hb dX7_readSum_50 (by decide) (fun c_126 => ?_) (fun c_126 => ?_)
            · skip
              refine lv_iload hx hb dX7_readSum_58 (lv_at hl 0 rfl) ?_
              refine lv_istore_n (lv' := [(2, .int r_110), (4, .int r_110), (3, .int vy_29), (0, .ref (Va 0)), (1, .ref (Ta 0))]) hx hb dX7_readSum_60 rfl hl (by decide) rfl (fun ls hl₀ => ?_)
              replace hl := hl₀
              clear hl₀
              refine lv_aload_n hx hb dX7_readSum_61 rfl (lv_at hl 3 rfl) ?_
              refine lv_aload_n hx hb dX7_readSum_62 rfl (lv_at hl 4 rfl) ?_
              refine cV (a := (Va 0)) (As := [.ref (Ta 0)]) (rest := []) (wr := []) ⟨hx, hb, hml, hown, hts⟩ hK hX hA (cu_kX7_readValue l D tc sk (Va 0) (Va 1) vy_31 vy_32 vy_33 (Ta 0) (Ta 1) (Tv 0) sv_116 sv_117 sv_118 vy_37 (Tf 1) ro_121 lq_51 pf_119 pf_43 h_by pf_120 cd_123 ck_124) k_628 k_625 k_627 k_8 k_99 pl_X7_readValue ⟨Nat.le_of_ble_eq_true rfl, Nat.le_of_ble_eq_true rfl⟩ rfl rfl (va_recv hK hP (ci := 7) (q0 := 0) rfl rfl) hP hD hS [0, 1, 2, 3] [] rfl rfl rfl rfl rfl (by decide) rfl hl.1 rfl (Nat.le_of_ble_eq_true rfl) dX7_readSum_63 ⟨Nat.le_of_ble_eq_true rfl, Nat.le_of_ble_eq_true rfl⟩ (fun v_127 u_128 H locs hv_129 hP₀ hD₀ hS₀ => ?_)
              obtain ⟨sv_130, sv_131, sv_132, sv_133, sv_134, sv_135, sv_136⟩ := u_128
              obtain ⟨rfl, pf_137, pf_138, pf_139, pf_140, pf_141⟩ := hv_129
              have pf_137 : 0 ≤ ((Tv 0) : Int32).toInt ∧ ((Tv 0) : Int32).toInt ≤ 400 ∧ 0 ≤ (sv_133 : Int32).toInt ∧ (sv_133 : Int32).toInt ≤ 400 ∧ 0 ≤ (sv_134 : Int32).toInt ∧ (sv_134 : Int32).toInt ≤ 400 := pf_137
              have pf_138 : 0 ≤ (sv_130 : Int32).toInt ∧ (sv_130 : Int32).toInt ≤ 400 := pf_138
              have pf_139 : TpR (Tf 1) (Tv 0) (pz_b ro_121 (pz_val (cB (Tf 1) (Tv 0)))) sv_133 sv_134 sv_135 sv_136 := pf_139
              obtain ⟨ro_142, ero_142⟩ : ∃ z : Except Int (Nat × Nat), z = (pz_b ro_121 (pz_val (cB (Tf 1) (Tv 0)))) := ⟨_, rfl⟩
              rw [← ero_142] at pf_139
              have tb_143 : TpB (rTE (cB (Tf 1) (Tv 0)) ro_142) sv_134 sv_136 := TpR.tb pf_139
              have pf_140 : Ctd (pz_b ro_121 (pz_val (cB (Tf 1) (Tv 0)))) sv_131 := pf_140
              rw [← ero_142] at pf_140
              have pf_141 : CdK sv_132 sv_130 (pz_b ro_121 (pz_val (cB (Tf 1) (Tv 0)))) (Ap ro_121 (lval (cB (Tf 1) (Tv 0))) lq_51) := pf_141
              rw [← ero_142] at pf_141
              obtain ⟨ro_144, ero_144⟩ : ∃ z : List Int, z = (Ap ro_121 (lval (cB (Tf 1) (Tv 0))) lq_51) := ⟨_, rfl⟩
              rw [← ero_144] at pf_141
              refine W.eq (g2 := F0 m 66 ls []) rfl ?_
              replace hP : va_P D classes [((Va 0), .inr (7, [.ref (Va 1), .int sv_130, .int sv_131])), ((Va 1), .inl (tc 0, 400, .inl sv_132)), ((Ta 0), .inr (10, [.ref (Ta 1), .int (Tv 0), .int sv_133, .int sv_134, .int sv_135, .int sv_136])), ((Ta 1), .inl (tc 0, 400, .inl (Tf 1)))] H := hP₀
              replace hD : va_D A [((Va 0), .inr (7, [.ref (Va 1), .int sv_130, .int sv_131])), ((Va 1), .inl (tc 0, 400, .inl sv_132)), ((Ta 0), .inr (10, [.ref (Ta 1), .int (Tv 0), .int sv_133, .int sv_134, .int sv_135, .int sv_136])), ((Ta 1), .inl (tc 0, 400, .inl (Tf 1)))] := hD₀
              replace hS := hS₀
              clear hP₀ hD₀ hS₀
              refine lv_goto (tgt := 80) hx hb dX7_readSum_66 (by decide) ?_
              obtain ⟨x_145, ex_145⟩ : ∃ y : Int32, y = vy_29 + 1 := ⟨_, rfl⟩
              refine lv_iinc (v := x_145) (lv' := [(3, .int x_145), (2, .int r_110), (4, .int r_110), (0, .ref (Va 0)), (1, .ref (Ta 0))]) hx hb dX7_readSum_80 hl (k := 2) rfl (by rw [ex_145]; rfl) (by decide) rfl (fun ls hl₀ => ?_)
              replace hl := hl₀
              clear hl₀
              refine lv_goto (tgt := 9) hx hb dX7_readSum_83 (by decide) ?_
              have hb_146 : 401 - (x_145 : Int32).toInt < 401 - (vy_29 : Int32).toInt ∧ 1 ≤ 401 - (vy_29 : Int32).toInt := by
                have z_1 := Int32.lt_iff_toInt_lt.mp (Int32.not_le.mp c_55)
                have z_2 : ¬ (r_81 : Int32).toInt = ((-1) : Int32).toInt := fun z => c_84 (Int32.toInt_inj.mp z)
                have z_3 := congrArg Int32.toInt c_125
                have z_4 := congrArg Int32.toInt c_126
                have y_m12 : (-12 : Int32).toInt = -12 := by decide
                have y_m1 : (-1 : Int32).toInt = -1 := by decide
                have y_400 : (400 : Int32).toInt = 400 := by decide
                have y_1 : (1 : Int32).toInt = 1 := by decide
                have t_x_145 : x_145.toInt = (vy_29 : Int32).toInt + (1 : Int32).toInt := by rw [ex_145]; exact add_toInt (by omega) (by omega)
                omega
              have ha_147 : 0 ≤ (x_145 : Int32).toInt ∧ (x_145 : Int32).toInt ≤ 400 := by
                have z_1 := Int32.lt_iff_toInt_lt.mp (Int32.not_le.mp c_55)
                have z_2 : ¬ (r_81 : Int32).toInt = ((-1) : Int32).toInt := fun z => c_84 (Int32.toInt_inj.mp z)
                have z_3 := congrArg Int32.toInt c_125
                have z_4 := congrArg Int32.toInt c_126
                have y_m12 : (-12 : Int32).toInt = -12 := by decide
                have y_m1 : (-1 : Int32).toInt = -1 := by decide
                have y_400 : (400 : Int32).toInt = 400 := by decide
                have y_1 : (1 : Int32).toInt = 1 := by decide
                have t_x_145 : x_145.toInt = (vy_29 : Int32).toInt + (1 : Int32).toInt := by rw [ex_145]; exact add_toInt (by omega) (by omega)
                omega
              have hu_148 : TpR (Tf 1) (Tv 0) (pz_b (rNX (cB (Tf 1) (Tv 0)) rq_46) (pz_val (cB (Tf 1) (Tv 0)))) sv_133 sv_134 sv_135 sv_136 := by
                rw [← ero_121, ← ero_142]
                exact pf_139
              have hu_149 : Ctd (pz_b (rNX (cB (Tf 1) (Tv 0)) rq_46) (pz_val (cB (Tf 1) (Tv 0)))) sv_131 := by
                rw [← ero_121, ← ero_142]
                exact pf_140
              have hu_150 : CdK sv_132 sv_130 (pz_b (rNX (cB (Tf 1) (Tv 0)) rq_46) (pz_val (cB (Tf 1) (Tv 0)))) (Ap (rNX (cB (Tf 1) (Tv 0)) rq_46) (lval (cB (Tf 1) (Tv 0))) lq_51) := by
                rw [← ero_121, ← ero_142, ← ero_144]
                exact pf_141
              have hi_151 : (x_145 : Int32).toInt = (vy_29 : Int32).toInt + 1 := by
                have z_1 := Int32.lt_iff_toInt_lt.mp (Int32.not_le.mp c_55)
                have z_2 : ¬ (r_81 : Int32).toInt = ((-1) : Int32).toInt := fun z => c_84 (Int32.toInt_inj.mp z)
                have z_3 := congrArg Int32.toInt c_125
                have z_4 := congrArg Int32.toInt c_126
                have y_m12 : (-12 : Int32).toInt = -12 := by decide
                have y_m1 : (-1 : Int32).toInt = -1 := by decide
                have y_400 : (400 : Int32).toInt = 400 := by decide
                have y_1 : (1 : Int32).toInt = 1 := by decide
                have t_x_145 : x_145.toInt = (vy_29 : Int32).toInt + (1 : Int32).toInt := by rw [ex_145]; exact add_toInt (by omega) (by omega)
                omega
              have hr_152 : (vy_30 : Int32).toInt = -1 := by
                have z_1 := Int32.lt_iff_toInt_lt.mp (Int32.not_le.mp c_55)
                have z_2 : ¬ (r_81 : Int32).toInt = ((-1) : Int32).toInt := fun z => c_84 (Int32.toInt_inj.mp z)
                have z_3 := congrArg Int32.toInt c_125
                have z_4 := congrArg Int32.toInt c_126
                have y_m12 : (-12 : Int32).toInt = -12 := by decide
                have y_m1 : (-1 : Int32).toInt = -1 := by decide
                have y_400 : (400 : Int32).toInt = 400 := by decide
                omega
              have hr_153 : ((r_110 : Int32).toInt = -12 ∨ (r_110 : Int32).toInt = -13) := by
                have z_1 := Int32.lt_iff_toInt_lt.mp (Int32.not_le.mp c_55)
                have z_2 : ¬ (r_81 : Int32).toInt = ((-1) : Int32).toInt := fun z => c_84 (Int32.toInt_inj.mp z)
                have z_3 := congrArg Int32.toInt c_125
                have z_4 := congrArg Int32.toInt c_126
                have y_m12 : (-12 : Int32).toInt = -12 := by decide
                have y_m1 : (-1 : Int32).toInt = -1 := by decide
                have y_400 : (400 : Int32).toInt = 400 := by decide
                omega
              exact ih_39 x_145 r_110 sv_130 sv_131 sv_132 sv_133 sv_134 sv_135 sv_136 _ _ _ (by omega) ha_147 pf_137 pf_138 (SmC.pm0 h_tape.2.1 pf_47 pf_49 pf_50 pf_53 hr_152 he_111.2 hr_153 hu_148 hu_149 hu_150 hi_151) (hP.sub [0, 1, 2, 3] rfl) (hD.sub [0, 1, 2, 3] rfl rfl) hS (lv_sub hl [0, 1, 3, 4] rfl)
            · skip
              refine lv_aload_n hx hb dX7_readSum_53 rfl (lv_at hl 3 rfl) ?_
              refine lv_iload_n hx hb dX7_readSum_54 rfl (lv_at hl 2 rfl) ?_
              refine cV (a := (Va 0)) (As := [.int vy_30]) (rest := []) (wr := [((Ta 0), .inr (10, [.ref (Ta 1), .int (Tv 0), .int sv_116, .int sv_117, .int sv_118, .int vy_37])), ((Ta 1), .inl (tc 0, 400, .inl (Tf 1)))]) ⟨hx, hb, hml, hown, hts⟩ hK hX hA (cu_kX7_put l D tc sk (Va 0) (Va 1) vy_31 vy_32 vy_33 vy_30 ro_121 lq_51 pf_43 ck_124) k_642 k_639 k_641 k_10 k_99 pl_X7_put ⟨Nat.le_of_ble_eq_true rfl, Nat.le_of_ble_eq_true rfl⟩ rfl rfl (va_recv hK hP (ci := 7) (q0 := 0) rfl rfl) hP hD hS [0, 1] [2, 3] rfl rfl rfl rfl rfl (by decide) rfl hl.1 rfl (Nat.le_of_ble_eq_true rfl) dX7_readSum_55 ⟨Nat.le_of_ble_eq_true rfl, Nat.le_of_ble_eq_true rfl⟩ (fun v_154 u_155 H locs hv_156 hP₀ hD₀ hS₀ => ?_)
              obtain ⟨sv_157, sv_158⟩ := u_155
              obtain ⟨rfl, pf_159, pf_160⟩ := hv_156
              have pf_159 : 0 ≤ (sv_157 : Int32).toInt ∧ (sv_157 : Int32).toInt ≤ 400 := pf_159
              have pf_160 : CdK sv_158 sv_157 ro_121 (lq_51 ++ [vy_30.toInt]) := pf_160
              obtain ⟨ro_161, ero_161⟩ : ∃ z : List Int, z = (lq_51 ++ [vy_30.toInt]) := ⟨_, rfl⟩
              rw [← ero_161] at pf_160
              refine W.eq (g2 := F0 m 58 ls []) rfl ?_
              replace hP : va_P D classes [((Ta 0), .inr (10, [.ref (Ta 1), .int (Tv 0), .int sv_116, .int sv_117, .int sv_118, .int vy_37])), ((Ta 1), .inl (tc 0, 400, .inl (Tf 1))), ((Va 0), .inr (7, [.ref (Va 1), .int sv_157, .int vy_32])), ((Va 1), .inl (tc 0, 400, .inl sv_158))] H := hP₀
              replace hD : va_D A [((Ta 0), .inr (10, [.ref (Ta 1), .int (Tv 0), .int sv_116, .int sv_117, .int sv_118, .int vy_37])), ((Ta 1), .inl (tc 0, 400, .inl (Tf 1))), ((Va 0), .inr (7, [.ref (Va 1), .int sv_157, .int vy_32])), ((Va 1), .inl (tc 0, 400, .inl sv_158))] := hD₀
              replace hS := hS₀
              clear hP₀ hD₀ hS₀
              refine lv_iload hx hb dX7_readSum_58 (lv_at hl 0 rfl) ?_
              refine lv_istore_n (lv' := [(2, .int r_110), (4, .int r_110), (3, .int vy_29), (0, .ref (Va 0)), (1, .ref (Ta 0))]) hx hb dX7_readSum_60 rfl hl (by decide) rfl (fun ls hl₀ => ?_)
              replace hl := hl₀
              clear hl₀
              refine lv_aload_n hx hb dX7_readSum_61 rfl (lv_at hl 3 rfl) ?_
              refine lv_aload_n hx hb dX7_readSum_62 rfl (lv_at hl 4 rfl) ?_
              refine cV (a := (Va 0)) (As := [.ref (Ta 0)]) (rest := []) (wr := []) ⟨hx, hb, hml, hown, hts⟩ hK hX hA (cu_kX7_readValue l D tc sk (Va 0) (Va 1) sv_157 vy_32 sv_158 (Ta 0) (Ta 1) (Tv 0) sv_116 sv_117 sv_118 vy_37 (Tf 1) ro_121 ro_161 pf_119 pf_159 h_by pf_120 cd_123 pf_160) k_628 k_625 k_627 k_8 k_99 pl_X7_readValue ⟨Nat.le_of_ble_eq_true rfl, Nat.le_of_ble_eq_true rfl⟩ rfl rfl (va_recv hK hP (ci := 7) (q0 := 2) rfl rfl) hP hD hS [2, 3, 0, 1] [] rfl rfl rfl rfl rfl (by decide) rfl hl.1 rfl (Nat.le_of_ble_eq_true rfl) dX7_readSum_63 ⟨Nat.le_of_ble_eq_true rfl, Nat.le_of_ble_eq_true rfl⟩ (fun v_162 u_163 H locs hv_164 hP₀ hD₀ hS₀ => ?_)
              obtain ⟨sv_165, sv_166, sv_167, sv_168, sv_169, sv_170, sv_171⟩ := u_163
              obtain ⟨rfl, pf_172, pf_173, pf_174, pf_175, pf_176⟩ := hv_164
              have pf_172 : 0 ≤ ((Tv 0) : Int32).toInt ∧ ((Tv 0) : Int32).toInt ≤ 400 ∧ 0 ≤ (sv_168 : Int32).toInt ∧ (sv_168 : Int32).toInt ≤ 400 ∧ 0 ≤ (sv_169 : Int32).toInt ∧ (sv_169 : Int32).toInt ≤ 400 := pf_172
              have pf_173 : 0 ≤ (sv_165 : Int32).toInt ∧ (sv_165 : Int32).toInt ≤ 400 := pf_173
              have pf_174 : TpR (Tf 1) (Tv 0) (pz_b ro_121 (pz_val (cB (Tf 1) (Tv 0)))) sv_168 sv_169 sv_170 sv_171 := pf_174
              obtain ⟨ro_177, ero_177⟩ : ∃ z : Except Int (Nat × Nat), z = (pz_b ro_121 (pz_val (cB (Tf 1) (Tv 0)))) := ⟨_, rfl⟩
              rw [← ero_177] at pf_174
              have tb_178 : TpB (rTE (cB (Tf 1) (Tv 0)) ro_177) sv_169 sv_171 := TpR.tb pf_174
              have pf_175 : Ctd (pz_b ro_121 (pz_val (cB (Tf 1) (Tv 0)))) sv_166 := pf_175
              rw [← ero_177] at pf_175
              have pf_176 : CdK sv_167 sv_165 (pz_b ro_121 (pz_val (cB (Tf 1) (Tv 0)))) (Ap ro_121 (lval (cB (Tf 1) (Tv 0))) ro_161) := pf_176
              rw [← ero_177] at pf_176
              obtain ⟨ro_179, ero_179⟩ : ∃ z : List Int, z = (Ap ro_121 (lval (cB (Tf 1) (Tv 0))) ro_161) := ⟨_, rfl⟩
              rw [← ero_179] at pf_176
              refine W.eq (g2 := F0 m 66 ls []) rfl ?_
              replace hP : va_P D classes [((Va 0), .inr (7, [.ref (Va 1), .int sv_165, .int sv_166])), ((Va 1), .inl (tc 0, 400, .inl sv_167)), ((Ta 0), .inr (10, [.ref (Ta 1), .int (Tv 0), .int sv_168, .int sv_169, .int sv_170, .int sv_171])), ((Ta 1), .inl (tc 0, 400, .inl (Tf 1)))] H := hP₀
              replace hD : va_D A [((Va 0), .inr (7, [.ref (Va 1), .int sv_165, .int sv_166])), ((Va 1), .inl (tc 0, 400, .inl sv_167)), ((Ta 0), .inr (10, [.ref (Ta 1), .int (Tv 0), .int sv_168, .int sv_169, .int sv_170, .int sv_171])), ((Ta 1), .inl (tc 0, 400, .inl (Tf 1)))] := hD₀
              replace hS := hS₀
              clear hP₀ hD₀ hS₀
              refine lv_goto (tgt := 80) hx hb dX7_readSum_66 (by decide) ?_
              obtain ⟨x_180, ex_180⟩ : ∃ y : Int32, y = vy_29 + 1 := ⟨_, rfl⟩
              refine lv_iinc (v := x_180) (lv' := [(3, .int x_180), (2, .int r_110), (4, .int r_110), (0, .ref (Va 0)), (1, .ref (Ta 0))]) hx hb dX7_readSum_80 hl (k := 2) rfl (by rw [ex_180]; rfl) (by decide) rfl (fun ls hl₀ => ?_)
              replace hl := hl₀
              clear hl₀
              refine lv_goto (tgt := 9) hx hb dX7_readSum_83 (by decide) ?_
              have hb_181 : 401 - (x_180 : Int32).toInt < 401 - (vy_29 : Int32).toInt ∧ 1 ≤ 401 - (vy_29 : Int32).toInt := by
                have z_1 := Int32.lt_iff_toInt_lt.mp (Int32.not_le.mp c_55)
                have z_2 : ¬ (r_81 : Int32).toInt = ((-1) : Int32).toInt := fun z => c_84 (Int32.toInt_inj.mp z)
                have z_3 := congrArg Int32.toInt c_125
                have z_4 : ¬ (vy_30 : Int32).toInt = ((-1) : Int32).toInt := fun z => c_126 (Int32.toInt_inj.mp z)
                have y_m12 : (-12 : Int32).toInt = -12 := by decide
                have y_m1 : (-1 : Int32).toInt = -1 := by decide
                have y_400 : (400 : Int32).toInt = 400 := by decide
                have y_1 : (1 : Int32).toInt = 1 := by decide
                have t_x_180 : x_180.toInt = (vy_29 : Int32).toInt + (1 : Int32).toInt := by rw [ex_180]; exact add_toInt (by omega) (by omega)
                omega
              have ha_182 : 0 ≤ (x_180 : Int32).toInt ∧ (x_180 : Int32).toInt ≤ 400 := by
                have z_1 := Int32.lt_iff_toInt_lt.mp (Int32.not_le.mp c_55)
                have z_2 : ¬ (r_81 : Int32).toInt = ((-1) : Int32).toInt := fun z => c_84 (Int32.toInt_inj.mp z)
                have z_3 := congrArg Int32.toInt c_125
                have z_4 : ¬ (vy_30 : Int32).toInt = ((-1) : Int32).toInt := fun z => c_126 (Int32.toInt_inj.mp z)
                have y_m12 : (-12 : Int32).toInt = -12 := by decide
                have y_m1 : (-1 : Int32).toInt = -1 := by decide
                have y_400 : (400 : Int32).toInt = 400 := by decide
                have y_1 : (1 : Int32).toInt = 1 := by decide
                have t_x_180 : x_180.toInt = (vy_29 : Int32).toInt + (1 : Int32).toInt := by rw [ex_180]; exact add_toInt (by omega) (by omega)
                omega
              have hu_183 : TpR (Tf 1) (Tv 0) (pz_b (rNX (cB (Tf 1) (Tv 0)) rq_46) (pz_val (cB (Tf 1) (Tv 0)))) sv_168 sv_169 sv_170 sv_171 := by
                rw [← ero_121, ← ero_177]
                exact pf_174
              have hu_184 : Ctd (pz_b (rNX (cB (Tf 1) (Tv 0)) rq_46) (pz_val (cB (Tf 1) (Tv 0)))) sv_166 := by
                rw [← ero_121, ← ero_177]
                exact pf_175
              have hu_185 : CdK sv_167 sv_165 (pz_b (rNX (cB (Tf 1) (Tv 0)) rq_46) (pz_val (cB (Tf 1) (Tv 0)))) (Ap (rNX (cB (Tf 1) (Tv 0)) rq_46) (lval (cB (Tf 1) (Tv 0))) (lq_51 ++ [vy_30.toInt])) := by
                rw [← ero_121, ← ero_161, ← ero_177, ← ero_179]
                exact pf_176
              have hi_186 : (x_180 : Int32).toInt = (vy_29 : Int32).toInt + 1 := by
                have z_1 := Int32.lt_iff_toInt_lt.mp (Int32.not_le.mp c_55)
                have z_2 : ¬ (r_81 : Int32).toInt = ((-1) : Int32).toInt := fun z => c_84 (Int32.toInt_inj.mp z)
                have z_3 := congrArg Int32.toInt c_125
                have z_4 : ¬ (vy_30 : Int32).toInt = ((-1) : Int32).toInt := fun z => c_126 (Int32.toInt_inj.mp z)
                have y_m12 : (-12 : Int32).toInt = -12 := by decide
                have y_m1 : (-1 : Int32).toInt = -1 := by decide
                have y_400 : (400 : Int32).toInt = 400 := by decide
                have y_1 : (1 : Int32).toInt = 1 := by decide
                have t_x_180 : x_180.toInt = (vy_29 : Int32).toInt + (1 : Int32).toInt := by rw [ex_180]; exact add_toInt (by omega) (by omega)
                omega
              have hr_187 : ¬ (vy_30 : Int32).toInt = -1 := by
                have z_1 := Int32.lt_iff_toInt_lt.mp (Int32.not_le.mp c_55)
                have z_2 : ¬ (r_81 : Int32).toInt = ((-1) : Int32).toInt := fun z => c_84 (Int32.toInt_inj.mp z)
                have z_3 := congrArg Int32.toInt c_125
                have z_4 : ¬ (vy_30 : Int32).toInt = ((-1) : Int32).toInt := fun z => c_126 (Int32.toInt_inj.mp z)
                have y_m12 : (-12 : Int32).toInt = -12 := by decide
                have y_m1 : (-1 : Int32).toInt = -1 := by decide
                have y_400 : (400 : Int32).toInt = 400 := by decide
                omega
              have hr_188 : ((r_110 : Int32).toInt = -12 ∨ (r_110 : Int32).toInt = -13) := by
                have z_1 := Int32.lt_iff_toInt_lt.mp (Int32.not_le.mp c_55)
                have z_2 : ¬ (r_81 : Int32).toInt = ((-1) : Int32).toInt := fun z => c_84 (Int32.toInt_inj.mp z)
                have z_3 := congrArg Int32.toInt c_125
                have z_4 : ¬ (vy_30 : Int32).toInt = ((-1) : Int32).toInt := fun z => c_126 (Int32.toInt_inj.mp z)
                have y_m12 : (-12 : Int32).toInt = -12 := by decide
                have y_m1 : (-1 : Int32).toInt = -1 := by decide
                have y_400 : (400 : Int32).toInt = 400 := by decide
                omega
              exact ih_39 x_180 r_110 sv_165 sv_166 sv_167 sv_168 sv_169 sv_170 sv_171 _ _ _ (by omega) ha_182 pf_172 pf_173 (SmC.pm1 h_tape.2.1 pf_47 pf_49 pf_50 pf_53 hr_187 he_111.2 hr_188 hu_183 hu_184 hu_185 hi_186) (hP.sub [0, 1, 2, 3] rfl) (hD.sub [0, 1, 2, 3] rfl rfl) hS (lv_sub hl [0, 1, 3, 4] rfl)
          · skip
            refine lv_iload hx hb dX7_readSum_41 (lv_at hl 0 rfl) ?_
            refine lv_bipush (v := (-13)) hx hb dX7_readSum_43 (by decide) ?_
            refine lv_icmp_ne (tgt := 69) hx hb dX7_readSum_45 (by decide) (fun c_189 => ?_) (fun c_189 => ?_)
            · skip
              refine lv_aload_n hx hb dX7_readSum_69 rfl (lv_at hl 3 rfl) ?_
              refine lv_aload_n hx hb dX7_readSum_70 rfl (lv_at hl 4 rfl) ?_
              refine cV (a := (Va 0)) (As := [.ref (Ta 0)]) (rest := []) (wr := []) ⟨hx, hb, hml, hown, hts⟩ hK hX hA (cu_kX7_readValue l D tc sk (Va 0) (Va 1) vy_31 vy_32 vy_33 (Ta 0) (Ta 1) (Tv 0) sv_116 sv_117 sv_118 vy_37 (Tf 1) ro_121 lq_51 pf_119 pf_43 h_by pf_120 cd_123 ck_124) k_628 k_625 k_627 k_8 k_99 pl_X7_readValue ⟨Nat.le_of_ble_eq_true rfl, Nat.le_of_ble_eq_true rfl⟩ rfl rfl (va_recv hK hP (ci := 7) (q0 := 0) rfl rfl) hP hD hS [0, 1, 2, 3] [] rfl rfl rfl rfl rfl (by decide) rfl hl.1 rfl (Nat.le_of_ble_eq_true rfl) dX7_readSum_71 ⟨Nat.le_of_ble_eq_true rfl, Nat.le_of_ble_eq_true rfl⟩ (fun v_190 u_191 H locs hv_192 hP₀ hD₀ hS₀ => ?_)
              obtain ⟨sv_193, sv_194, sv_195, sv_196, sv_197, sv_198, sv_199⟩ := u_191
              obtain ⟨rfl, pf_200, pf_201, pf_202, pf_203, pf_204⟩ := hv_192
              have pf_200 : 0 ≤ ((Tv 0) : Int32).toInt ∧ ((Tv 0) : Int32).toInt ≤ 400 ∧ 0 ≤ (sv_196 : Int32).toInt ∧ (sv_196 : Int32).toInt ≤ 400 ∧ 0 ≤ (sv_197 : Int32).toInt ∧ (sv_197 : Int32).toInt ≤ 400 := pf_200
              have pf_201 : 0 ≤ (sv_193 : Int32).toInt ∧ (sv_193 : Int32).toInt ≤ 400 := pf_201
              have pf_202 : TpR (Tf 1) (Tv 0) (pz_b ro_121 (pz_val (cB (Tf 1) (Tv 0)))) sv_196 sv_197 sv_198 sv_199 := pf_202
              obtain ⟨ro_205, ero_205⟩ : ∃ z : Except Int (Nat × Nat), z = (pz_b ro_121 (pz_val (cB (Tf 1) (Tv 0)))) := ⟨_, rfl⟩
              rw [← ero_205] at pf_202
              have tb_206 : TpB (rTE (cB (Tf 1) (Tv 0)) ro_205) sv_197 sv_199 := TpR.tb pf_202
              have pf_203 : Ctd (pz_b ro_121 (pz_val (cB (Tf 1) (Tv 0)))) sv_194 := pf_203
              rw [← ero_205] at pf_203
              have pf_204 : CdK sv_195 sv_193 (pz_b ro_121 (pz_val (cB (Tf 1) (Tv 0)))) (Ap ro_121 (lval (cB (Tf 1) (Tv 0))) lq_51) := pf_204
              rw [← ero_205] at pf_204
              obtain ⟨ro_207, ero_207⟩ : ∃ z : List Int, z = (Ap ro_121 (lval (cB (Tf 1) (Tv 0))) lq_51) := ⟨_, rfl⟩
              rw [← ero_207] at pf_204
              refine W.eq (g2 := F0 m 74 ls []) rfl ?_
              replace hP : va_P D classes [((Va 0), .inr (7, [.ref (Va 1), .int sv_193, .int sv_194])), ((Va 1), .inl (tc 0, 400, .inl sv_195)), ((Ta 0), .inr (10, [.ref (Ta 1), .int (Tv 0), .int sv_196, .int sv_197, .int sv_198, .int sv_199])), ((Ta 1), .inl (tc 0, 400, .inl (Tf 1)))] H := hP₀
              replace hD : va_D A [((Va 0), .inr (7, [.ref (Va 1), .int sv_193, .int sv_194])), ((Va 1), .inl (tc 0, 400, .inl sv_195)), ((Ta 0), .inr (10, [.ref (Ta 1), .int (Tv 0), .int sv_196, .int sv_197, .int sv_198, .int sv_199])), ((Ta 1), .inl (tc 0, 400, .inl (Tf 1)))] := hD₀
              replace hS := hS₀
              clear hP₀ hD₀ hS₀
              refine lv_aload_n hx hb dX7_readSum_74 rfl (lv_at hl 3 rfl) ?_
              refine lv_iload hx hb dX7_readSum_75 (lv_at hl 0 rfl) ?_
              refine cV (a := (Va 0)) (As := [.int r_110]) (rest := []) (wr := [((Ta 0), .inr (10, [.ref (Ta 1), .int (Tv 0), .int sv_196, .int sv_197, .int sv_198, .int sv_199])), ((Ta 1), .inl (tc 0, 400, .inl (Tf 1)))]) ⟨hx, hb, hml, hown, hts⟩ hK hX hA (cu_kX7_put l D tc sk (Va 0) (Va 1) sv_193 sv_194 sv_195 r_110 ro_205 ro_207 pf_201 pf_204) k_642 k_639 k_641 k_10 k_99 pl_X7_put ⟨Nat.le_of_ble_eq_true rfl, Nat.le_of_ble_eq_true rfl⟩ rfl rfl (va_recv hK hP (ci := 7) (q0 := 0) rfl rfl) hP hD hS [0, 1] [2, 3] rfl rfl rfl rfl rfl (by decide) rfl hl.1 rfl (Nat.le_of_ble_eq_true rfl) dX7_readSum_77 ⟨Nat.le_of_ble_eq_true rfl, Nat.le_of_ble_eq_true rfl⟩ (fun v_208 u_209 H locs hv_210 hP₀ hD₀ hS₀ => ?_)
              obtain ⟨sv_211, sv_212⟩ := u_209
              obtain ⟨rfl, pf_213, pf_214⟩ := hv_210
              have pf_213 : 0 ≤ (sv_211 : Int32).toInt ∧ (sv_211 : Int32).toInt ≤ 400 := pf_213
              have pf_214 : CdK sv_212 sv_211 ro_205 (ro_207 ++ [r_110.toInt]) := pf_214
              obtain ⟨ro_215, ero_215⟩ : ∃ z : List Int, z = (ro_207 ++ [r_110.toInt]) := ⟨_, rfl⟩
              rw [← ero_215] at pf_214
              refine W.eq (g2 := F0 m 80 ls []) rfl ?_
              replace hP : va_P D classes [((Ta 0), .inr (10, [.ref (Ta 1), .int (Tv 0), .int sv_196, .int sv_197, .int sv_198, .int sv_199])), ((Ta 1), .inl (tc 0, 400, .inl (Tf 1))), ((Va 0), .inr (7, [.ref (Va 1), .int sv_211, .int sv_194])), ((Va 1), .inl (tc 0, 400, .inl sv_212))] H := hP₀
              replace hD : va_D A [((Ta 0), .inr (10, [.ref (Ta 1), .int (Tv 0), .int sv_196, .int sv_197, .int sv_198, .int sv_199])), ((Ta 1), .inl (tc 0, 400, .inl (Tf 1))), ((Va 0), .inr (7, [.ref (Va 1), .int sv_211, .int sv_194])), ((Va 1), .inl (tc 0, 400, .inl sv_212))] := hD₀
              replace hS := hS₀
              clear hP₀ hD₀ hS₀
              obtain ⟨x_216, ex_216⟩ : ∃ y : Int32, y = vy_29 + 1 := ⟨_, rfl⟩
              refine lv_iinc (v := x_216) (lv' := [(3, .int x_216), (4, .int r_110), (2, .int vy_30), (0, .ref (Va 0)), (1, .ref (Ta 0))]) hx hb dX7_readSum_80 hl (k := 1) rfl (by rw [ex_216]; rfl) (by decide) rfl (fun ls hl₀ => ?_)
              replace hl := hl₀
              clear hl₀
              refine lv_goto (tgt := 9) hx hb dX7_readSum_83 (by decide) ?_
              have hb_217 : 401 - (x_216 : Int32).toInt < 401 - (vy_29 : Int32).toInt ∧ 1 ≤ 401 - (vy_29 : Int32).toInt := by
                have z_1 := Int32.lt_iff_toInt_lt.mp (Int32.not_le.mp c_55)
                have z_2 : ¬ (r_81 : Int32).toInt = ((-1) : Int32).toInt := fun z => c_84 (Int32.toInt_inj.mp z)
                have z_3 : ¬ (r_110 : Int32).toInt = ((-12) : Int32).toInt := fun z => c_125 (Int32.toInt_inj.mp z)
                have z_4 : ¬ (r_110 : Int32).toInt = ((-13) : Int32).toInt := fun z => c_189 (Int32.toInt_inj.mp z)
                have y_m13 : (-13 : Int32).toInt = -13 := by decide
                have y_m12 : (-12 : Int32).toInt = -12 := by decide
                have y_m1 : (-1 : Int32).toInt = -1 := by decide
                have y_400 : (400 : Int32).toInt = 400 := by decide
                have y_1 : (1 : Int32).toInt = 1 := by decide
                have t_x_216 : x_216.toInt = (vy_29 : Int32).toInt + (1 : Int32).toInt := by rw [ex_216]; exact add_toInt (by omega) (by omega)
                omega
              have ha_218 : 0 ≤ (x_216 : Int32).toInt ∧ (x_216 : Int32).toInt ≤ 400 := by
                have z_1 := Int32.lt_iff_toInt_lt.mp (Int32.not_le.mp c_55)
                have z_2 : ¬ (r_81 : Int32).toInt = ((-1) : Int32).toInt := fun z => c_84 (Int32.toInt_inj.mp z)
                have z_3 : ¬ (r_110 : Int32).toInt = ((-12) : Int32).toInt := fun z => c_125 (Int32.toInt_inj.mp z)
                have z_4 : ¬ (r_110 : Int32).toInt = ((-13) : Int32).toInt := fun z => c_189 (Int32.toInt_inj.mp z)
                have y_m13 : (-13 : Int32).toInt = -13 := by decide
                have y_m12 : (-12 : Int32).toInt = -12 := by decide
                have y_m1 : (-1 : Int32).toInt = -1 := by decide
                have y_400 : (400 : Int32).toInt = 400 := by decide
                have y_1 : (1 : Int32).toInt = 1 := by decide
                have t_x_216 : x_216.toInt = (vy_29 : Int32).toInt + (1 : Int32).toInt := by rw [ex_216]; exact add_toInt (by omega) (by omega)
                omega
              have hu_219 : TpR (Tf 1) (Tv 0) (pz_b (rNX (cB (Tf 1) (Tv 0)) rq_46) (pz_val (cB (Tf 1) (Tv 0)))) sv_196 sv_197 sv_198 sv_199 := by
                rw [← ero_121, ← ero_205]
                exact pf_202
              have hu_220 : Ctd (pz_b (rNX (cB (Tf 1) (Tv 0)) rq_46) (pz_val (cB (Tf 1) (Tv 0)))) sv_194 := by
                rw [← ero_121, ← ero_205]
                exact pf_203
              have hu_221 : CdK sv_212 sv_211 (pz_b (rNX (cB (Tf 1) (Tv 0)) rq_46) (pz_val (cB (Tf 1) (Tv 0)))) ((Ap (rNX (cB (Tf 1) (Tv 0)) rq_46) (lval (cB (Tf 1) (Tv 0))) lq_51) ++ [r_110.toInt]) := by
                rw [← ero_121, ← ero_205, ← ero_207, ← ero_215]
                exact pf_214
              have hi_222 : (x_216 : Int32).toInt = (vy_29 : Int32).toInt + 1 := by
                have z_1 := Int32.lt_iff_toInt_lt.mp (Int32.not_le.mp c_55)
                have z_2 : ¬ (r_81 : Int32).toInt = ((-1) : Int32).toInt := fun z => c_84 (Int32.toInt_inj.mp z)
                have z_3 : ¬ (r_110 : Int32).toInt = ((-12) : Int32).toInt := fun z => c_125 (Int32.toInt_inj.mp z)
                have z_4 : ¬ (r_110 : Int32).toInt = ((-13) : Int32).toInt := fun z => c_189 (Int32.toInt_inj.mp z)
                have y_m13 : (-13 : Int32).toInt = -13 := by decide
                have y_m12 : (-12 : Int32).toInt = -12 := by decide
                have y_m1 : (-1 : Int32).toInt = -1 := by decide
                have y_400 : (400 : Int32).toInt = 400 := by decide
                have y_1 : (1 : Int32).toInt = 1 := by decide
                have t_x_216 : x_216.toInt = (vy_29 : Int32).toInt + (1 : Int32).toInt := by rw [ex_216]; exact add_toInt (by omega) (by omega)
                omega
              have hr_223 : ¬ (r_110 : Int32).toInt = -1 := by
                have z_1 := Int32.lt_iff_toInt_lt.mp (Int32.not_le.mp c_55)
                have z_2 : ¬ (r_81 : Int32).toInt = ((-1) : Int32).toInt := fun z => c_84 (Int32.toInt_inj.mp z)
                have z_3 : ¬ (r_110 : Int32).toInt = ((-12) : Int32).toInt := fun z => c_125 (Int32.toInt_inj.mp z)
                have z_4 : ¬ (r_110 : Int32).toInt = ((-13) : Int32).toInt := fun z => c_189 (Int32.toInt_inj.mp z)
                have y_m13 : (-13 : Int32).toInt = -13 := by decide
                have y_m12 : (-12 : Int32).toInt = -12 := by decide
                have y_m1 : (-1 : Int32).toInt = -1 := by decide
                have y_400 : (400 : Int32).toInt = 400 := by decide
                omega
              have hr_224 : ¬ ((r_110 : Int32).toInt = -12 ∨ (r_110 : Int32).toInt = -13) := by
                have z_1 := Int32.lt_iff_toInt_lt.mp (Int32.not_le.mp c_55)
                have z_2 : ¬ (r_81 : Int32).toInt = ((-1) : Int32).toInt := fun z => c_84 (Int32.toInt_inj.mp z)
                have z_3 : ¬ (r_110 : Int32).toInt = ((-12) : Int32).toInt := fun z => c_125 (Int32.toInt_inj.mp z)
                have z_4 : ¬ (r_110 : Int32).toInt = ((-13) : Int32).toInt := fun z => c_189 (Int32.toInt_inj.mp z)
                have y_m13 : (-13 : Int32).toInt = -13 := by decide
                have y_m12 : (-12 : Int32).toInt = -12 := by decide
                have y_m1 : (-1 : Int32).toInt = -1 := by decide
                have y_400 : (400 : Int32).toInt = 400 := by decide
                omega
              exact ih_39 x_216 vy_30 sv_211 sv_194 sv_212 sv_196 sv_197 sv_198 sv_199 _ _ _ (by omega) ha_218 pf_200 pf_213 (SmC.td h_tape.2.1 pf_47 pf_49 pf_50 pf_53 he_111.2 hr_223 hr_224 hu_219 hu_220 hu_221 hi_222) (hP.sub [2, 3, 0, 1] rfl) (hD.sub [2, 3, 0, 1] rfl rfl) hS (lv_sub hl [0, 2, 3, 4] rfl)
            · skip
              refine lv_iload_n hx hb dX7_readSum_48 rfl (lv_at hl 2 rfl) ?_
              refine lv_iconst (v := (-1)) hx hb dX7_readSum_49 (by decide) ?_
              refine lv_icmp_eq (tgt := 58) hx hb dX7_readSum_50 (by decide) (fun c_225 => ?_) (fun c_225 => ?_)
              · skip
                refine lv_iload hx hb dX7_readSum_58 (lv_at hl 0 rfl) ?_
                refine lv_istore_n (lv' := [(2, .int r_110), (4, .int r_110), (3, .int vy_29), (0, .ref (Va 0)), (1, .ref (Ta 0))]) hx hb dX7_readSum_60 rfl hl (by decide) rfl (fun ls hl₀ => ?_)
                replace hl := hl₀
                clear hl₀
                refine lv_aload_n hx hb dX7_readSum_61 rfl (lv_at hl 3 rfl) ?_
                refine lv_aload_n hx hb dX7_readSum_62 rfl (lv_at hl 4 rfl) ?_
                refine cV (a := (Va 0)) (As := [.ref (Ta 0)]) (rest := []) (wr := []) ⟨hx, hb, hml, hown, hts⟩ hK hX hA (cu_kX7_readValue l D tc sk (Va 0) (Va 1) vy_31 vy_32 vy_33 (Ta 0) (Ta 1) (Tv 0) sv_116 sv_117 sv_118 vy_37 (Tf 1) ro_121 lq_51 pf_119 pf_43 h_by pf_120 cd_123 ck_124) k_628 k_625 k_627 k_8 k_99 pl_X7_readValue ⟨Nat.le_of_ble_eq_true rfl, Nat.le_of_ble_eq_true rfl⟩ rfl rfl (va_recv hK hP (ci := 7) (q0 := 0) rfl rfl) hP hD hS [0, 1, 2, 3] [] rfl rfl rfl rfl rfl (by decide) rfl hl.1 rfl (Nat.le_of_ble_eq_true rfl) dX7_readSum_63 ⟨Nat.le_of_ble_eq_true rfl, Nat.le_of_ble_eq_true rfl⟩ (fun v_226 u_227 H locs hv_228 hP₀ hD₀ hS₀ => ?_)
                obtain ⟨sv_229, sv_230, sv_231, sv_232, sv_233, sv_234, sv_235⟩ := u_227
                obtain ⟨rfl, pf_236, pf_237, pf_238, pf_239, pf_240⟩ := hv_228
                have pf_236 : 0 ≤ ((Tv 0) : Int32).toInt ∧ ((Tv 0) : Int32).toInt ≤ 400 ∧ 0 ≤ (sv_232 : Int32).toInt ∧ (sv_232 : Int32).toInt ≤ 400 ∧ 0 ≤ (sv_233 : Int32).toInt ∧ (sv_233 : Int32).toInt ≤ 400 := pf_236
                have pf_237 : 0 ≤ (sv_229 : Int32).toInt ∧ (sv_229 : Int32).toInt ≤ 400 := pf_237
                have pf_238 : TpR (Tf 1) (Tv 0) (pz_b ro_121 (pz_val (cB (Tf 1) (Tv 0)))) sv_232 sv_233 sv_234 sv_235 := pf_238
                obtain ⟨ro_241, ero_241⟩ : ∃ z : Except Int (Nat × Nat), z = (pz_b ro_121 (pz_val (cB (Tf 1) (Tv 0)))) := ⟨_, rfl⟩
                rw [← ero_241] at pf_238
                have tb_242 : TpB (rTE (cB (Tf 1) (Tv 0)) ro_241) sv_233 sv_235 := TpR.tb pf_238
                have pf_239 : Ctd (pz_b ro_121 (pz_val (cB (Tf 1) (Tv 0)))) sv_230 := pf_239
                rw [← ero_241] at pf_239
                have pf_240 : CdK sv_231 sv_229 (pz_b ro_121 (pz_val (cB (Tf 1) (Tv 0)))) (Ap ro_121 (lval (cB (Tf 1) (Tv 0))) lq_51) := pf_240
                rw [← ero_241] at pf_240
                obtain ⟨ro_243, ero_243⟩ : ∃ z : List Int, z = (Ap ro_121 (lval (cB (Tf 1) (Tv 0))) lq_51) := ⟨_, rfl⟩
                rw [← ero_243] at pf_240
                refine W.eq (g2 := F0 m 66 ls []) rfl ?_
                replace hP : va_P D classes [((Va 0), .inr (7, [.ref (Va 1), .int sv_229, .int sv_230])), ((Va 1), .inl (tc 0, 400, .inl sv_231)), ((Ta 0), .inr (10, [.ref (Ta 1), .int (Tv 0), .int sv_232, .int sv_233, .int sv_234, .int sv_235])), ((Ta 1), .inl (tc 0, 400, .inl (Tf 1)))] H := hP₀
                replace hD : va_D A [((Va 0), .inr (7, [.ref (Va 1), .int sv_229, .int sv_230])), ((Va 1), .inl (tc 0, 400, .inl sv_231)), ((Ta 0), .inr (10, [.ref (Ta 1), .int (Tv 0), .int sv_232, .int sv_233, .int sv_234, .int sv_235])), ((Ta 1), .inl (tc 0, 400, .inl (Tf 1)))] := hD₀
                replace hS := hS₀
                clear hP₀ hD₀ hS₀
                refine lv_goto (tgt := 80) hx hb dX7_readSum_66 (by decide) ?_
                obtain ⟨x_244, ex_244⟩ : ∃ y : Int32, y = vy_29 + 1 := ⟨_, rfl⟩
                refine lv_iinc (v := x_244) (lv' := [(3, .int x_244), (2, .int r_110), (4, .int r_110), (0, .ref (Va 0)), (1, .ref (Ta 0))]) hx hb dX7_readSum_80 hl (k := 2) rfl (by rw [ex_244]; rfl) (by decide) rfl (fun ls hl₀ => ?_)
                replace hl := hl₀
                clear hl₀
                refine lv_goto (tgt := 9) hx hb dX7_readSum_83 (by decide) ?_
                have hb_245 : 401 - (x_244 : Int32).toInt < 401 - (vy_29 : Int32).toInt ∧ 1 ≤ 401 - (vy_29 : Int32).toInt := by
                  have z_1 := Int32.lt_iff_toInt_lt.mp (Int32.not_le.mp c_55)
                  have z_2 : ¬ (r_81 : Int32).toInt = ((-1) : Int32).toInt := fun z => c_84 (Int32.toInt_inj.mp z)
                  have z_3 : ¬ (r_110 : Int32).toInt = ((-12) : Int32).toInt := fun z => c_125 (Int32.toInt_inj.mp z)
                  have z_4 := congrArg Int32.toInt c_189
                  have z_5 := congrArg Int32.toInt c_225
                  have y_m13 : (-13 : Int32).toInt = -13 := by decide
                  have y_m12 : (-12 : Int32).toInt = -12 := by decide
                  have y_m1 : (-1 : Int32).toInt = -1 := by decide
                  have y_400 : (400 : Int32).toInt = 400 := by decide
                  have y_1 : (1 : Int32).toInt = 1 := by decide
                  have t_x_244 : x_244.toInt = (vy_29 : Int32).toInt + (1 : Int32).toInt := by rw [ex_244]; exact add_toInt (by omega) (by omega)
                  omega
                have ha_246 : 0 ≤ (x_244 : Int32).toInt ∧ (x_244 : Int32).toInt ≤ 400 := by
                  have z_1 := Int32.lt_iff_toInt_lt.mp (Int32.not_le.mp c_55)
                  have z_2 : ¬ (r_81 : Int32).toInt = ((-1) : Int32).toInt := fun z => c_84 (Int32.toInt_inj.mp z)
                  have z_3 : ¬ (r_110 : Int32).toInt = ((-12) : Int32).toInt := fun z => c_125 (Int32.toInt_inj.mp z)
                  have z_4 := congrArg Int32.toInt c_189
                  have z_5 := congrArg Int32.toInt c_225
                  have y_m13 : (-13 : Int32).toInt = -13 := by decide
                  have y_m12 : (-12 : Int32).toInt = -12 := by decide
                  have y_m1 : (-1 : Int32).toInt = -1 := by decide
                  have y_400 : (400 : Int32).toInt = 400 := by decide
                  have y_1 : (1 : Int32).toInt = 1 := by decide
                  have t_x_244 : x_244.toInt = (vy_29 : Int32).toInt + (1 : Int32).toInt := by rw [ex_244]; exact add_toInt (by omega) (by omega)
                  omega
                have hu_247 : TpR (Tf 1) (Tv 0) (pz_b (rNX (cB (Tf 1) (Tv 0)) rq_46) (pz_val (cB (Tf 1) (Tv 0)))) sv_232 sv_233 sv_234 sv_235 := by
                  rw [← ero_121, ← ero_241]
                  exact pf_238
                have hu_248 : Ctd (pz_b (rNX (cB (Tf 1) (Tv 0)) rq_46) (pz_val (cB (Tf 1) (Tv 0)))) sv_230 := by
                  rw [← ero_121, ← ero_241]
                  exact pf_239
                have hu_249 : CdK sv_231 sv_229 (pz_b (rNX (cB (Tf 1) (Tv 0)) rq_46) (pz_val (cB (Tf 1) (Tv 0)))) (Ap (rNX (cB (Tf 1) (Tv 0)) rq_46) (lval (cB (Tf 1) (Tv 0))) lq_51) := by
                  rw [← ero_121, ← ero_241, ← ero_243]
                  exact pf_240
                have hi_250 : (x_244 : Int32).toInt = (vy_29 : Int32).toInt + 1 := by
                  have z_1 := Int32.lt_iff_toInt_lt.mp (Int32.not_le.mp c_55)
                  have z_2 : ¬ (r_81 : Int32).toInt = ((-1) : Int32).toInt := fun z => c_84 (Int32.toInt_inj.mp z)
                  have z_3 : ¬ (r_110 : Int32).toInt = ((-12) : Int32).toInt := fun z => c_125 (Int32.toInt_inj.mp z)
                  have z_4 := congrArg Int32.toInt c_189
                  have z_5 := congrArg Int32.toInt c_225
                  have y_m13 : (-13 : Int32).toInt = -13 := by decide
                  have y_m12 : (-12 : Int32).toInt = -12 := by decide
                  have y_m1 : (-1 : Int32).toInt = -1 := by decide
                  have y_400 : (400 : Int32).toInt = 400 := by decide
                  have y_1 : (1 : Int32).toInt = 1 := by decide
                  have t_x_244 : x_244.toInt = (vy_29 : Int32).toInt + (1 : Int32).toInt := by rw [ex_244]; exact add_toInt (by omega) (by omega)
                  omega
                have hr_251 : (vy_30 : Int32).toInt = -1 := by
                  have z_1 := Int32.lt_iff_toInt_lt.mp (Int32.not_le.mp c_55)
                  have z_2 : ¬ (r_81 : Int32).toInt = ((-1) : Int32).toInt := fun z => c_84 (Int32.toInt_inj.mp z)
                  have z_3 : ¬ (r_110 : Int32).toInt = ((-12) : Int32).toInt := fun z => c_125 (Int32.toInt_inj.mp z)
                  have z_4 := congrArg Int32.toInt c_189
                  have z_5 := congrArg Int32.toInt c_225
                  have y_m13 : (-13 : Int32).toInt = -13 := by decide
                  have y_m12 : (-12 : Int32).toInt = -12 := by decide
                  have y_m1 : (-1 : Int32).toInt = -1 := by decide
                  have y_400 : (400 : Int32).toInt = 400 := by decide
                  omega
                have hr_252 : ((r_110 : Int32).toInt = -12 ∨ (r_110 : Int32).toInt = -13) := by
                  have z_1 := Int32.lt_iff_toInt_lt.mp (Int32.not_le.mp c_55)
                  have z_2 : ¬ (r_81 : Int32).toInt = ((-1) : Int32).toInt := fun z => c_84 (Int32.toInt_inj.mp z)
                  have z_3 : ¬ (r_110 : Int32).toInt = ((-12) : Int32).toInt := fun z => c_125 (Int32.toInt_inj.mp z)
                  have z_4 := congrArg Int32.toInt c_189
                  have z_5 := congrArg Int32.toInt c_225
                  have y_m13 : (-13 : Int32).toInt = -13 := by decide
                  have y_m12 : (-12 : Int32).toInt = -12 := by decide
                  have y_m1 : (-1 : Int32).toInt = -1 := by decide
                  have y_400 : (400 : Int32).toInt = 400 := by decide
                  omega
                exact ih_39 x_244 r_110 sv_229 sv_230 sv_231 sv_232 sv_233 sv_234 sv_235 _ _ _ (by omega) ha_246 pf_236 pf_237 (SmC.pm0 h_tape.2.1 pf_47 pf_49 pf_50 pf_53 hr_251 he_111.2 hr_252 hu_247 hu_248 hu_249 hi_250) (hP.sub [0, 1, 2, 3] rfl) (hD.sub [0, 1, 2, 3] rfl rfl) hS (lv_sub hl [0, 1, 3, 4] rfl)
              · skip
                refine lv_aload_n hx hb dX7_readSum_53 rfl (lv_at hl 3 rfl) ?_
                refine lv_iload_n hx hb dX7_readSum_54 rfl (lv_at hl 2 rfl) ?_
                refine cV (a := (Va 0)) (As := [.int vy_30]) (rest := []) (wr := [((Ta 0), .inr (10, [.ref (Ta 1), .int (Tv 0), .int sv_116, .int sv_117, .int sv_118, .int vy_37])), ((Ta 1), .inl (tc 0, 400, .inl (Tf 1)))]) ⟨hx, hb, hml, hown, hts⟩ hK hX hA (cu_kX7_put l D tc sk (Va 0) (Va 1) vy_31 vy_32 vy_33 vy_30 ro_121 lq_51 pf_43 ck_124) k_642 k_639 k_641 k_10 k_99 pl_X7_put ⟨Nat.le_of_ble_eq_true rfl, Nat.le_of_ble_eq_true rfl⟩ rfl rfl (va_recv hK hP (ci := 7) (q0 := 0) rfl rfl) hP hD hS [0, 1] [2, 3] rfl rfl rfl rfl rfl (by decide) rfl hl.1 rfl (Nat.le_of_ble_eq_true rfl) dX7_readSum_55 ⟨Nat.le_of_ble_eq_true rfl, Nat.le_of_ble_eq_true rfl⟩ (fun v_253 u_254 H locs hv_255 hP₀ hD₀ hS₀ => ?_)
                obtain ⟨sv_256, sv_257⟩ := u_254
                obtain ⟨rfl, pf_258, pf_259⟩ := hv_255
                have pf_258 : 0 ≤ (sv_256 : Int32).toInt ∧ (sv_256 : Int32).toInt ≤ 400 := pf_258
                have pf_259 : CdK sv_257 sv_256 ro_121 (lq_51 ++ [vy_30.toInt]) := pf_259
                obtain ⟨ro_260, ero_260⟩ : ∃ z : List Int, z = (lq_51 ++ [vy_30.toInt]) := ⟨_, rfl⟩
                rw [← ero_260] at pf_259
                refine W.eq (g2 := F0 m 58 ls []) rfl ?_
                replace hP : va_P D classes [((Ta 0), .inr (10, [.ref (Ta 1), .int (Tv 0), .int sv_116, .int sv_117, .int sv_118, .int vy_37])), ((Ta 1), .inl (tc 0, 400, .inl (Tf 1))), ((Va 0), .inr (7, [.ref (Va 1), .int sv_256, .int vy_32])), ((Va 1), .inl (tc 0, 400, .inl sv_257))] H := hP₀
                replace hD : va_D A [((Ta 0), .inr (10, [.ref (Ta 1), .int (Tv 0), .int sv_116, .int sv_117, .int sv_118, .int vy_37])), ((Ta 1), .inl (tc 0, 400, .inl (Tf 1))), ((Va 0), .inr (7, [.ref (Va 1), .int sv_256, .int vy_32])), ((Va 1), .inl (tc 0, 400, .inl sv_257))] := hD₀
                replace hS := hS₀
                clear hP₀ hD₀ hS₀
                refine lv_iload hx hb dX7_readSum_58 (lv_at hl 0 rfl) ?_
                refine lv_istore_n (lv' := [(2, .int r_110), (4, .int r_110), (3, .int vy_29), (0, .ref (Va 0)), (1, .ref (Ta 0))]) hx hb dX7_readSum_60 rfl hl (by decide) rfl (fun ls hl₀ => ?_)
                replace hl := hl₀
                clear hl₀
                refine lv_aload_n hx hb dX7_readSum_61 rfl (lv_at hl 3 rfl) ?_
                refine lv_aload_n hx hb dX7_readSum_62 rfl (lv_at hl 4 rfl) ?_
                refine cV (a := (Va 0)) (As := [.ref (Ta 0)]) (rest := []) (wr := []) ⟨hx, hb, hml, hown, hts⟩ hK hX hA (cu_kX7_readValue l D tc sk (Va 0) (Va 1) sv_256 vy_32 sv_257 (Ta 0) (Ta 1) (Tv 0) sv_116 sv_117 sv_118 vy_37 (Tf 1) ro_121 ro_260 pf_119 pf_258 h_by pf_120 cd_123 pf_259) k_628 k_625 k_627 k_8 k_99 pl_X7_readValue ⟨Nat.le_of_ble_eq_true rfl, Nat.le_of_ble_eq_true rfl⟩ rfl rfl (va_recv hK hP (ci := 7) (q0 := 2) rfl rfl) hP hD hS [2, 3, 0, 1] [] rfl rfl rfl rfl rfl (by decide) rfl hl.1 rfl (Nat.le_of_ble_eq_true rfl) dX7_readSum_63 ⟨Nat.le_of_ble_eq_true rfl, Nat.le_of_ble_eq_true rfl⟩ (fun v_261 u_262 H locs hv_263 hP₀ hD₀ hS₀ => ?_)
                obtain ⟨sv_264, sv_265, sv_266, sv_267, sv_268, sv_269, sv_270⟩ := u_262
                obtain ⟨rfl, pf_271, pf_272, pf_273, pf_274, pf_275⟩ := hv_263
                have pf_271 : 0 ≤ ((Tv 0) : Int32).toInt ∧ ((Tv 0) : Int32).toInt ≤ 400 ∧ 0 ≤ (sv_267 : Int32).toInt ∧ (sv_267 : Int32).toInt ≤ 400 ∧ 0 ≤ (sv_268 : Int32).toInt ∧ (sv_268 : Int32).toInt ≤ 400 := pf_271
                have pf_272 : 0 ≤ (sv_264 : Int32).toInt ∧ (sv_264 : Int32).toInt ≤ 400 := pf_272
                have pf_273 : TpR (Tf 1) (Tv 0) (pz_b ro_121 (pz_val (cB (Tf 1) (Tv 0)))) sv_267 sv_268 sv_269 sv_270 := pf_273
                obtain ⟨ro_276, ero_276⟩ : ∃ z : Except Int (Nat × Nat), z = (pz_b ro_121 (pz_val (cB (Tf 1) (Tv 0)))) := ⟨_, rfl⟩
                rw [← ero_276] at pf_273
                have tb_277 : TpB (rTE (cB (Tf 1) (Tv 0)) ro_276) sv_268 sv_270 := TpR.tb pf_273
                have pf_274 : Ctd (pz_b ro_121 (pz_val (cB (Tf 1) (Tv 0)))) sv_265 := pf_274
                rw [← ero_276] at pf_274
                have pf_275 : CdK sv_266 sv_264 (pz_b ro_121 (pz_val (cB (Tf 1) (Tv 0)))) (Ap ro_121 (lval (cB (Tf 1) (Tv 0))) ro_260) := pf_275
                rw [← ero_276] at pf_275
                obtain ⟨ro_278, ero_278⟩ : ∃ z : List Int, z = (Ap ro_121 (lval (cB (Tf 1) (Tv 0))) ro_260) := ⟨_, rfl⟩
                rw [← ero_278] at pf_275
                refine W.eq (g2 := F0 m 66 ls []) rfl ?_
                replace hP : va_P D classes [((Va 0), .inr (7, [.ref (Va 1), .int sv_264, .int sv_265])), ((Va 1), .inl (tc 0, 400, .inl sv_266)), ((Ta 0), .inr (10, [.ref (Ta 1), .int (Tv 0), .int sv_267, .int sv_268, .int sv_269, .int sv_270])), ((Ta 1), .inl (tc 0, 400, .inl (Tf 1)))] H := hP₀
                replace hD : va_D A [((Va 0), .inr (7, [.ref (Va 1), .int sv_264, .int sv_265])), ((Va 1), .inl (tc 0, 400, .inl sv_266)), ((Ta 0), .inr (10, [.ref (Ta 1), .int (Tv 0), .int sv_267, .int sv_268, .int sv_269, .int sv_270])), ((Ta 1), .inl (tc 0, 400, .inl (Tf 1)))] := hD₀
                replace hS := hS₀
                clear hP₀ hD₀ hS₀
                refine lv_goto (tgt := 80) hx hb dX7_readSum_66 (by decide) ?_
                obtain ⟨x_279, ex_279⟩ : ∃ y : Int32, y = vy_29 + 1 := ⟨_, rfl⟩
                refine lv_iinc (v := x_279) (lv' := [(3, .int x_279), (2, .int r_110), (4, .int r_110), (0, .ref (Va 0)), (1, .ref (Ta 0))]) hx hb dX7_readSum_80 hl (k := 2) rfl (by rw [ex_279]; rfl) (by decide) rfl (fun ls hl₀ => ?_)
                replace hl := hl₀
                clear hl₀
                refine lv_goto (tgt := 9) hx hb dX7_readSum_83 (by decide) ?_
                have hb_280 : 401 - (x_279 : Int32).toInt < 401 - (vy_29 : Int32).toInt ∧ 1 ≤ 401 - (vy_29 : Int32).toInt := by
                  have z_1 := Int32.lt_iff_toInt_lt.mp (Int32.not_le.mp c_55)
                  have z_2 : ¬ (r_81 : Int32).toInt = ((-1) : Int32).toInt := fun z => c_84 (Int32.toInt_inj.mp z)
                  have z_3 : ¬ (r_110 : Int32).toInt = ((-12) : Int32).toInt := fun z => c_125 (Int32.toInt_inj.mp z)
                  have z_4 := congrArg Int32.toInt c_189
                  have z_5 : ¬ (vy_30 : Int32).toInt = ((-1) : Int32).toInt := fun z => c_225 (Int32.toInt_inj.mp z)
                  have y_m13 : (-13 : Int32).toInt = -13 := by decide
                  have y_m12 : (-12 : Int32).toInt = -12 := by decide
                  have y_m1 : (-1 : Int32).toInt = -1 := by decide
                  have y_400 : (400 : Int32).toInt = 400 := by decide
                  have y_1 : (1 : Int32).toInt = 1 := by decide
                  have t_x_279 : x_279.toInt = (vy_29 : Int32).toInt + (1 : Int32).toInt := by rw [ex_279]; exact add_toInt (by omega) (by omega)
                  omega
                have ha_281 : 0 ≤ (x_279 : Int32).toInt ∧ (x_279 : Int32).toInt ≤ 400 := by
                  have z_1 := Int32.lt_iff_toInt_lt.mp (Int32.not_le.mp c_55)
                  have z_2 : ¬ (r_81 : Int32).toInt = ((-1) : Int32).toInt := fun z => c_84 (Int32.toInt_inj.mp z)
                  have z_3 : ¬ (r_110 : Int32).toInt = ((-12) : Int32).toInt := fun z => c_125 (Int32.toInt_inj.mp z)
                  have z_4 := congrArg Int32.toInt c_189
                  have z_5 : ¬ (vy_30 : Int32).toInt = ((-1) : Int32).toInt := fun z => c_225 (Int32.toInt_inj.mp z)
                  have y_m13 : (-13 : Int32).toInt = -13 := by decide
                  have y_m12 : (-12 : Int32).toInt = -12 := by decide
                  have y_m1 : (-1 : Int32).toInt = -1 := by decide
                  have y_400 : (400 : Int32).toInt = 400 := by decide
                  have y_1 : (1 : Int32).toInt = 1 := by decide
                  have t_x_279 : x_279.toInt = (vy_29 : Int32).toInt + (1 : Int32).toInt := by rw [ex_279]; exact add_toInt (by omega) (by omega)
                  omega
                have hu_282 : TpR (Tf 1) (Tv 0) (pz_b (rNX (cB (Tf 1) (Tv 0)) rq_46) (pz_val (cB (Tf 1) (Tv 0)))) sv_267 sv_268 sv_269 sv_270 := by
                  rw [← ero_121, ← ero_276]
                  exact pf_273
                have hu_283 : Ctd (pz_b (rNX (cB (Tf 1) (Tv 0)) rq_46) (pz_val (cB (Tf 1) (Tv 0)))) sv_265 := by
                  rw [← ero_121, ← ero_276]
                  exact pf_274
                have hu_284 : CdK sv_266 sv_264 (pz_b (rNX (cB (Tf 1) (Tv 0)) rq_46) (pz_val (cB (Tf 1) (Tv 0)))) (Ap (rNX (cB (Tf 1) (Tv 0)) rq_46) (lval (cB (Tf 1) (Tv 0))) (lq_51 ++ [vy_30.toInt])) := by
                  rw [← ero_121, ← ero_260, ← ero_276, ← ero_278]
                  exact pf_275
                have hi_285 : (x_279 : Int32).toInt = (vy_29 : Int32).toInt + 1 := by
                  have z_1 := Int32.lt_iff_toInt_lt.mp (Int32.not_le.mp c_55)
                  have z_2 : ¬ (r_81 : Int32).toInt = ((-1) : Int32).toInt := fun z => c_84 (Int32.toInt_inj.mp z)
                  have z_3 : ¬ (r_110 : Int32).toInt = ((-12) : Int32).toInt := fun z => c_125 (Int32.toInt_inj.mp z)
                  have z_4 := congrArg Int32.toInt c_189
                  have z_5 : ¬ (vy_30 : Int32).toInt = ((-1) : Int32).toInt := fun z => c_225 (Int32.toInt_inj.mp z)
                  have y_m13 : (-13 : Int32).toInt = -13 := by decide
                  have y_m12 : (-12 : Int32).toInt = -12 := by decide
                  have y_m1 : (-1 : Int32).toInt = -1 := by decide
                  have y_400 : (400 : Int32).toInt = 400 := by decide
                  have y_1 : (1 : Int32).toInt = 1 := by decide
                  have t_x_279 : x_279.toInt = (vy_29 : Int32).toInt + (1 : Int32).toInt := by rw [ex_279]; exact add_toInt (by omega) (by omega)
                  omega
                have hr_286 : ¬ (vy_30 : Int32).toInt = -1 := by
                  have z_1 := Int32.lt_iff_toInt_lt.mp (Int32.not_le.mp c_55)
                  have z_2 : ¬ (r_81 : Int32).toInt = ((-1) : Int32).toInt := fun z => c_84 (Int32.toInt_inj.mp z)
                  have z_3 : ¬ (r_110 : Int32).toInt = ((-12) : Int32).toInt := fun z => c_125 (Int32.toInt_inj.mp z)
                  have z_4 := congrArg Int32.toInt c_189
                  have z_5 : ¬ (vy_30 : Int32).toInt = ((-1) : Int32).toInt := fun z => c_225 (Int32.toInt_inj.mp z)
                  have y_m13 : (-13 : Int32).toInt = -13 := by decide
                  have y_m12 : (-12 : Int32).toInt = -12 := by decide
                  have y_m1 : (-1 : Int32).toInt = -1 := by decide
                  have y_400 : (400 : Int32).toInt = 400 := by decide
                  omega
                have hr_287 : ((r_110 : Int32).toInt = -12 ∨ (r_110 : Int32).toInt = -13) := by
                  have z_1 := Int32.lt_iff_toInt_lt.mp (Int32.not_le.mp c_55)
                  have z_2 : ¬ (r_81 : Int32).toInt = ((-1) : Int32).toInt := fun z => c_84 (Int32.toInt_inj.mp z)
                  have z_3 : ¬ (r_110 : Int32).toInt = ((-12) : Int32).toInt := fun z => c_125 (Int32.toInt_inj.mp z)
                  have z_4 := congrArg Int32.toInt c_189
                  have z_5 : ¬ (vy_30 : Int32).toInt = ((-1) : Int32).toInt := fun z => c_225 (Int32.toInt_inj.mp z)
                  have y_m13 : (-13 : Int32).toInt = -13 := by decide
                  have y_m12 : (-12 : Int32).toInt = -12 := by decide
                  have y_m1 : (-1 : Int32).toInt = -1 := by decide
                  have y_400 : (400 : Int32).toInt = 400 := by decide
                  omega
                exact ih_39 x_279 r_110 sv_264 sv_265 sv_266 sv_267 sv_268 sv_269 sv_270 _ _ _ (by omega) ha_281 pf_271 pf_272 (SmC.pm1 h_tape.2.1 pf_47 pf_49 pf_50 pf_53 hr_286 he_111.2 hr_287 hu_282 hu_283 hu_284 hi_285) (hP.sub [0, 1, 2, 3] rfl) (hD.sub [0, 1, 2, 3] rfl rfl) hS (lv_sub hl [0, 1, 3, 4] rfl)
  have ha_288 : 0 ≤ (0 : Int32).toInt ∧ (0 : Int32).toInt ≤ 400 := by
    have y_0 : (0 : Int32).toInt = 0 := by decide
    omega
  have hu_289 : TpR (Tf 1) (Tv 0) (pz_b rr (pz_val (cB (Tf 1) (Tv 0)))) sv_8 sv_9 sv_10 sv_11 := by
    rw [← ero_17]
    exact pf_14
  have hu_290 : Ctd (pz_b rr (pz_val (cB (Tf 1) (Tv 0)))) sv_6 := by
    rw [← ero_17]
    exact pf_15
  have hu_291 : CdK sv_7 sv_5 (pz_b rr (pz_val (cB (Tf 1) (Tv 0)))) (Ap rr (lval (cB (Tf 1) (Tv 0))) ll) := by
    rw [← ero_17, ← ero_19]
    exact pf_16
  exact loop_40 _ 0 (-1) sv_5 sv_6 sv_7 sv_8 sv_9 sv_10 sv_11 _ _ _ (Nat.lt_succ_self _) ha_288 pf_12 pf_13 (SmC.first hu_289 hu_290 hu_291) hP hD hS hl
set_option maxRecDepth 100000 in
theorem cu_kX7_readSum (l : Launch) (D : va_G) (tc : Nat → ClassId) (sk : (Nat → Nat) × (Nat → Nat)) (Va_0 : Nat) (Va_1 : Nat) (Vv_0 : Int32) (Vv_1 : Int32) (Vf_1 : Nat → Int32) (Ta_0 : Nat) (Ta_1 : Nat) (Tv_0 : Int32) (Tv_1 : Int32) (Tv_2 : Int32) (Tv_3 : Int32) (Tv_4 : Int32) (Tf_1 : Nat → Int32) (rr : Except Int (Nat × Nat)) (ll : List Int) (h_tape : 0 ≤ (Tv_0 : Int32).toInt ∧ (Tv_0 : Int32).toInt ≤ 400 ∧ 0 ≤ (Tv_1 : Int32).toInt ∧ (Tv_1 : Int32).toInt ≤ 400 ∧ 0 ≤ (Tv_2 : Int32).toInt ∧ (Tv_2 : Int32).toInt ≤ 400) (h_u : 0 ≤ (Vv_0 : Int32).toInt ∧ (Vv_0 : Int32).toInt ≤ 400) (h_by : Byt Tf_1) (h_r : TpR Tf_1 Tv_0 rr Tv_1 Tv_2 Tv_3 Tv_4) (h_ct : Ctd rr Vv_1) (h_cd : CdK Vf_1 Vv_0 rr ll) : Ct l yX7_readSum cX7_readSum 5 none { frames := 7, cells := 0, slots := 0, locals := 156 } D tc sk [.ref Va_0, .ref Ta_0] [(Va_0, .inr (7, [.ref Va_1, .int Vv_0, .int Vv_1])), (Va_1, .inl (tc 0, 400, .inl Vf_1)), (Ta_0, .inr (10, [.ref Ta_1, .int Tv_0, .int Tv_1, .int Tv_2, .int Tv_3, .int Tv_4])), (Ta_1, .inl (tc 0, 400, .inl Tf_1))] (fun (v : Option Value) (u : (Int32) × (Int32) × (Nat → Int32) × (Int32) × (Int32) × (Int32) × (Int32)) => match u with | (oo0x1, oo0x2, oo0x3, oo0x4, oo0x5, oo0x6, oo0x7) => v = none ∧ (0 ≤ (Tv_0 : Int32).toInt ∧ (Tv_0 : Int32).toInt ≤ 400 ∧ 0 ≤ (oo0x4 : Int32).toInt ∧ (oo0x4 : Int32).toInt ≤ 400 ∧ 0 ≤ (oo0x5 : Int32).toInt ∧ (oo0x5 : Int32).toInt ≤ 400) ∧ (0 ≤ (oo0x1 : Int32).toInt ∧ (oo0x1 : Int32).toInt ≤ 400) ∧ (TpR Tf_1 Tv_0 (pz_b rr (pz_sum (cB Tf_1 Tv_0))) oo0x4 oo0x5 oo0x6 oo0x7) ∧ (Ctd (pz_b rr (pz_sum (cB Tf_1 Tv_0))) oo0x2) ∧ (CdK oo0x3 oo0x1 (pz_b rr (pz_sum (cB Tf_1 Tv_0))) (Ap rr (lsum (cB Tf_1 Tv_0)) ll))) (fun (u : (Int32) × (Int32) × (Nat → Int32) × (Int32) × (Int32) × (Int32) × (Int32)) => match u with | (oo0x1, oo0x2, oo0x3, oo0x4, oo0x5, oo0x6, oo0x7) => [(Va_0, .inr (7, [.ref Va_1, .int oo0x1, .int oo0x2])), (Va_1, .inl (tc 0, 400, .inl oo0x3)), (Ta_0, .inr (10, [.ref Ta_1, .int Tv_0, .int oo0x4, .int oo0x5, .int oo0x6, .int oo0x7])), (Ta_1, .inl (tc 0, 400, .inl Tf_1))]) 0 0 :=
  ct_kX7_readSum l D tc sk (fun k => ([Va_0, Va_1] : List (Nat)).getD k 0) (fun k => ([Vv_0, Vv_1] : List (Int32)).getD k 0) (fun k => ([(fun _ => 0), Vf_1] : List (Nat → Int32)).getD k (fun _ => 0)) (fun k => ([Ta_0, Ta_1] : List (Nat)).getD k 0) (fun k => ([Tv_0, Tv_1, Tv_2, Tv_3, Tv_4] : List (Int32)).getD k 0) (fun k => ([(fun _ => 0), Tf_1] : List (Nat → Int32)).getD k (fun _ => 0)) rr ll h_tape h_u h_by h_r h_ct h_cd
