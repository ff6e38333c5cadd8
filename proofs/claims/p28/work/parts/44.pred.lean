def Ltr (f : Nat → Int32) (tp k : Int32) : Prop := k.toInt < tp.toInt ∧ 97 ≤ (f k.toNatClampNeg).toInt ∧ (f k.toNatClampNeg).toInt ≤ 122
def NLtr (f : Nat → Int32) (tp k : Int32) : Prop := ¬ Ltr f tp k
def Dgt (f : Nat → Int32) (tp k : Int32) : Prop := k.toInt < tp.toInt ∧ 48 ≤ (f k.toNatClampNeg).toInt ∧ (f k.toNatClampNeg).toInt ≤ 57
def NDgt (f : Nat → Int32) (tp k : Int32) : Prop := ¬ Dgt f tp k
def Adv (a b : Int32) : Prop := b = a ∨ a.toInt + 1 ≤ b.toInt
theorem Adv.ltr {f : Nat → Int32} {tp a b : Int32} (h : Adv a b) (h1 : Ltr f tp a) (h2 : NLtr f tp b) : a.toInt + 1 ≤ b.toInt := by
  rcases h with h | h
  · subst h; exact absurd h1 h2
  · exact h
theorem Adv.dgt {f : Nat → Int32} {tp a b : Int32} (h : Adv a b) (h1 : Dgt f tp a) (h2 : NDgt f tp b) : a.toInt + 1 ≤ b.toInt := by
  rcases h with h | h
  · subst h; exact absurd h1 h2
  · exact h
def LtN (f : Nat → Int32) (tp nx n : Int32) : Prop := 1 ≤ n.toInt → Ltr f tp nx
theorem LtN.step {f : Nat → Int32} {tp nx n n' x : Int32} (h : LtN f tp nx n) (h1 : Ltr f tp x) (hx : x.toInt = nx.toInt + n.toInt) (hn : 0 ≤ n.toInt) : LtN f tp nx n' := by
  intro _
  by_cases z : n.toInt = 0
  · have e : x = nx := Int32.toInt_inj.mp (by omega)
    rw [← e]; exact h1
  · exact h (by omega)
theorem dep_snoc (f : Nat → Int32) (n a d : Nat) : dep f (n + 1) a d = (dep f n a d).bind (fun e => stp (f (a + n)) e) := by
  induction n generalizing a d with
  | zero =>
    show (stp (f a) d).bind (fun e => dep f 0 (a + 1) e) = (some d).bind _
    cases h : stp (f a) d with
    | none => show none = stp (f (a + 0)) d; rw [Nat.add_zero, h]
    | some e => show some e = stp (f (a + 0)) d; rw [Nat.add_zero, h]
  | succ n ih =>
    show (stp (f a) d).bind (fun e => dep f (n + 1) (a + 1) e) = ((stp (f a) d).bind (fun e => dep f n (a + 1) e)).bind (fun e => stp (f (a + (n + 1))) e)
    cases stp (f a) d with
    | none => rfl
    | some e =>
      show dep f (n + 1) (a + 1) e = (dep f n (a + 1) e).bind _
      rw [ih, show a + 1 + n = a + (n + 1) by omega]
theorem dep_congr {f g : Nat → Int32} (n a d : Nat) (h : ∀ i, a ≤ i → i < a + n → g i = f i) : dep g n a d = dep f n a d := by
  induction n generalizing a d with
  | zero => rfl
  | succ n ih =>
    show (stp (g a) d).bind _ = (stp (f a) d).bind _
    rw [h a (Nat.le_refl _) (by omega)]
    congr 1
    funext e
    exact ih (a + 1) e (fun i h1 h2 => h i (by omega) (by omega))
def Agr (f g : Nat → Int32) (k : Int) : Prop := ∀ i : Nat, (i : Int) < k → g i = f i
theorem Agr.rf {f : Nat → Int32} {k : Int} : Agr f f k := fun _ _ => rfl
theorem Agr.trans {f g h : Nat → Int32} {k k2 k' : Int} (h1 : Agr f g k) (h2 : Agr g h k2) (hk : k' ≤ k ∧ k' ≤ k2) : Agr f h k' := fun i hi => (h2 i (by omega)).trans (h1 i (by omega))
theorem Agr.mono {f g : Nat → Int32} {k k' : Int} (h1 : Agr f g k) (hk : k' ≤ k) : Agr f g k' := fun i hi => h1 i (by omega)
def Cd (sg ln : Nat → Int32) (t b md : Int32) (d : Nat) : Prop := (0 ≤ t.toInt ∧ t.toInt ≤ 5 ∧ 0 ≤ b.toInt ∧ b.toInt ≤ (ln t.toNatClampNeg).toInt ∧ (ln t.toNatClampNeg).toInt ≤ 400 ∧ (d : Int) ≤ md.toInt ∧ md.toInt ≤ 60) ∧ dep sg ((ln t.toNatClampNeg).toInt.toNat - b.toInt.toNat) (400 * t.toInt.toNat + b.toInt.toNat) 0 = some d
theorem Cd.ar {sg ln : Nat → Int32} {t b md : Int32} {d : Nat} (h : Cd sg ln t b md d) : 0 ≤ t.toInt ∧ t.toInt ≤ 5 ∧ 0 ≤ b.toInt ∧ b.toInt ≤ (ln t.toNatClampNeg).toInt ∧ (ln t.toNatClampNeg).toInt ≤ 400 ∧ (d : Int) ≤ md.toInt ∧ md.toInt ≤ 60 := h.1
theorem Cd.mono {sg ln : Nat → Int32} {t b md md' : Int32} {d : Nat} (h : Cd sg ln t b md d) (hm : md.toInt ≤ md'.toInt ∧ md'.toInt ≤ 60) : Cd sg ln t b md' d := by
  obtain ⟨h1, h2⟩ := h
  exact ⟨by omega, h2⟩
theorem Cd.nil {sg ln : Nat → Int32} {t b md : Int32} (ht : 0 ≤ t.toInt ∧ t.toInt ≤ 5) (hb : b = ln t.toNatClampNeg) (h0 : 0 ≤ b.toInt ∧ b.toInt ≤ 400) (hm : 0 ≤ md.toInt ∧ md.toInt ≤ 60) : Cd sg ln t b md 0 := by
  subst hb
  refine ⟨by omega, ?_⟩
  rw [Nat.sub_self]
  rfl
def StpR (s v : Int32) (d e : Nat) : Prop := stp (s + 16 * v) d = some e
theorem Cd.put {sg sg' ln ln' : Nat → Int32} {t b md s v i x y : Int32} {d e : Nat} (h : Cd sg ln t b md d) (hs : StpR s v d e) (he : (e : Int) ≤ md.toInt) (e1 : sg' = upd sg i.toNatClampNeg x) (hi : i.toInt = 400 * t.toInt + (ln t.toNatClampNeg).toInt) (ex : x = s + 16 * v) (e2 : ln' = upd ln t.toNatClampNeg y) (hy : y.toInt = (ln t.toNatClampNeg).toInt + 1) (hL : (ln t.toNatClampNeg).toInt < 400) : Cd sg' ln' t b md e ∧ Agr sg sg' (400 * t.toInt + (ln t.toNatClampNeg).toInt) ∧ (ln' t.toNatClampNeg).toInt = (ln t.toNatClampNeg).toInt + 1 := by
  obtain ⟨h1, h2⟩ := h
  have ei : i.toNatClampNeg = 400 * t.toInt.toNat + (ln t.toNatClampNeg).toInt.toNat := by
    show i.toInt.toNat = _
    omega
  have el : ln' t.toNatClampNeg = y := by rw [e2, upd_at]
  have hag : ∀ j : Nat, j < 400 * t.toInt.toNat + (ln t.toNatClampNeg).toInt.toNat → sg' j = sg j := fun j hj => by rw [e1, ei, upd_ne (by omega)]
  refine ⟨⟨by rw [el]; omega, ?_⟩, fun j hj => hag j (by omega), by rw [el]; exact hy⟩
  rw [el]
  have en : y.toInt.toNat - b.toInt.toNat = ((ln t.toNatClampNeg).toInt.toNat - b.toInt.toNat) + 1 := by omega
  rw [en, dep_snoc, dep_congr (f := sg) (g := sg') _ _ _ (fun j hj1 hj2 => hag j (by omega)), h2]
  show stp (sg' _) d = some e
  have ea : 400 * t.toInt.toNat + b.toInt.toNat + ((ln t.toNatClampNeg).toInt.toNat - b.toInt.toNat) = i.toNatClampNeg := by omega
  rw [ea, e1, upd_at, ex]
  exact hs
theorem stp_op {s : Int32} {d : Nat} (h0 : ¬ (s &&& 15).toInt = 0) (h1 : ¬ (s &&& 15).toInt = 1) (h2 : ¬ (s &&& 15).toInt = 11) (hd : 2 ≤ d) : stp s d = some (d - 1) := by
  unfold stp
  rw [if_neg h0, if_neg h1, if_neg h2, if_pos hd]
theorem StpR.op {s : Int32} {d e : Nat} (hs : s = 2 ∨ s = 3 ∨ s = 4 ∨ s = 5 ∨ s = 6 ∨ s = 7 ∨ s = 8 ∨ s = 9 ∨ s = 10 ∨ s = 12 ∨ s = 13 ∨ s = 14) (hd : d = e + 1) (he : 1 ≤ e) : StpR s 0 d e := by
  unfold StpR
  have hh : ¬ ((s + 16 * 0) &&& 15).toInt = 0 ∧ ¬ ((s + 16 * 0) &&& 15).toInt = 1 ∧ ¬ ((s + 16 * 0) &&& 15).toInt = 11 := by
    rcases hs with rfl | rfl | rfl | rfl | rfl | rfl | rfl | rfl | rfl | rfl | rfl | rfl <;> decide
  rw [stp_op hh.1 hh.2.1 hh.2.2 (by omega), hd]
  rfl
theorem StpR.not {d : Nat} (hd : 1 ≤ d) : StpR 11 0 d d := by
  unfold StpR stp
  rw [if_neg (by decide), if_neg (by decide), if_pos (by decide), if_pos hd]
theorem and16 (n : Int32) : ((0 + 16 * n : Int32) &&& 15).toInt = 0 := by
  have e : ((0 + 16 * n : Int32) &&& 15) = 0 := by
    apply Int32.toBitVec_inj.mp
    apply BitVec.eq_of_toNat_eq
    have h1 : ((0 + 16 * n : Int32) &&& 15).toBitVec.toNat = (0 + 16 * n : Int32).toBitVec.toNat &&& 15 := rfl
    rw [h1, show (15 : Nat) = 2 ^ 4 - 1 from rfl, Nat.and_two_pow_sub_one_eq_mod]
    have h2 : (0 + 16 * n : Int32).toBitVec.toNat = (0 + (16 * n.toBitVec.toNat) % 2 ^ 32) % 2 ^ 32 := rfl
    rw [h2]
    show _ = 0
    omega
  rw [e]
  decide
theorem StpR.num {n : Int32} {d : Nat} (hd : (d : Int) < 60) : StpR 0 n d (d + 1) := by
  unfold StpR stp
  rw [if_pos (and16 n), if_pos (by omega)]
theorem StpR.word {w : Int32} {d : Nat} (hd : (d : Int) < 60) (h0 : 0 ≤ w.toInt ∧ w.toInt ≤ 12) : StpR 1 w d (d + 1) := by
  have e : ∀ k : Int32, w.toInt = k.toInt → w = k := fun k z => Int32.toInt_inj.mp z
  have hw : w = 0 ∨ w = 1 ∨ w = 2 ∨ w = 3 ∨ w = 4 ∨ w = 5 ∨ w = 6 ∨ w = 7 ∨ w = 8 ∨ w = 9 ∨ w = 10 ∨ w = 11 ∨ w = 12 := by
    have : w.toInt = 0 ∨ w.toInt = 1 ∨ w.toInt = 2 ∨ w.toInt = 3 ∨ w.toInt = 4 ∨ w.toInt = 5 ∨ w.toInt = 6 ∨ w.toInt = 7 ∨ w.toInt = 8 ∨ w.toInt = 9 ∨ w.toInt = 10 ∨ w.toInt = 11 ∨ w.toInt = 12 := by omega
    rcases this with z | z | z | z | z | z | z | z | z | z | z | z | z
    · exact .inl (e 0 (by rw [z]; decide))
    · exact .inr (.inl (e 1 (by rw [z]; decide)))
    · exact .inr (.inr (.inl (e 2 (by rw [z]; decide))))
    · exact .inr (.inr (.inr (.inl (e 3 (by rw [z]; decide)))))
    · exact .inr (.inr (.inr (.inr (.inl (e 4 (by rw [z]; decide))))))
    · exact .inr (.inr (.inr (.inr (.inr (.inl (e 5 (by rw [z]; decide)))))))
    · exact .inr (.inr (.inr (.inr (.inr (.inr (.inl (e 6 (by rw [z]; decide))))))))
    · exact .inr (.inr (.inr (.inr (.inr (.inr (.inr (.inl (e 7 (by rw [z]; decide)))))))))
    · exact .inr (.inr (.inr (.inr (.inr (.inr (.inr (.inr (.inl (e 8 (by rw [z]; decide))))))))))
    · exact .inr (.inr (.inr (.inr (.inr (.inr (.inr (.inr (.inr (.inl (e 9 (by rw [z]; decide)))))))))))
    · exact .inr (.inr (.inr (.inr (.inr (.inr (.inr (.inr (.inr (.inr (.inl (e 10 (by rw [z]; decide))))))))))))
    · exact .inr (.inr (.inr (.inr (.inr (.inr (.inr (.inr (.inr (.inr (.inr (.inl (e 11 (by rw [z]; decide)))))))))))))
    · exact .inr (.inr (.inr (.inr (.inr (.inr (.inr (.inr (.inr (.inr (.inr (.inr (e 12 (by rw [z]; decide)))))))))))))
  unfold StpR stp
  have h2 : ¬ ((1 + 16 * w : Int32) &&& 15).toInt = 0 ∧ ((1 + 16 * w : Int32) &&& 15).toInt = 1 ∧ 0 ≤ ((1 + 16 * w : Int32) >>> (4 &&& 31)).toInt ∧ ((1 + 16 * w : Int32) >>> (4 &&& 31)).toInt ≤ 12 := by
    rcases hw with rfl | rfl | rfl | rfl | rfl | rfl | rfl | rfl | rfl | rfl | rfl | rfl | rfl <;> decide
  rw [if_neg h2.1, if_pos h2.2.1, if_pos ⟨by omega, h2.2.2⟩]
def pnd (op : Nat → Int32) : Nat → Nat
  | 0 => 0
  | k + 1 => pnd op k + (if (op k).toInt = 12 ∨ (op k).toInt = 13 then 1 else 0)
theorem pnd_congr {op op' : Nat → Int32} (n : Nat) (h : ∀ i, i < n → op' i = op i) : pnd op' n = pnd op n := by
  induction n with
  | zero => rfl
  | succ n ih =>
    show pnd op' n + _ = pnd op n + _
    rw [ih (fun i hi => h i (by omega)), h n (by omega)]
def OpS (op : Nat → Int32) (n : Int32) (p : Nat) : Prop := (0 ≤ n.toInt ∧ n.toInt ≤ 400) ∧ (∀ k : Nat, (k : Int) < n.toInt → (op k).toInt = 11 ∨ (op k).toInt = 12 ∨ (op k).toInt = 13 ∨ (op k).toInt = 91) ∧ pnd op n.toInt.toNat = p
theorem OpS.ar {op : Nat → Int32} {n : Int32} {p : Nat} (h : OpS op n p) : 0 ≤ n.toInt ∧ n.toInt ≤ 400 := h.1
theorem OpS.nil {op : Nat → Int32} {n : Int32} (h : n.toInt = 0) : OpS op n 0 := ⟨by omega, fun k hk => by omega, by rw [h]; rfl⟩
theorem OpS.push {op op' : Nat → Int32} {n n' x : Int32} {p : Nat} (h : OpS op n p) (e : op' = upd op n.toNatClampNeg x) (hn : n'.toInt = n.toInt + 1) (hl : n.toInt < 400) (hx : x.toInt = 11 ∨ x.toInt = 12 ∨ x.toInt = 13 ∨ x.toInt = 91) : OpS op' n' (p + (if x.toInt = 12 ∨ x.toInt = 13 then 1 else 0)) := by
  obtain ⟨h1, h2, h3⟩ := h
  have en : n.toNatClampNeg = n.toInt.toNat := rfl
  subst e
  refine ⟨by omega, fun k hk => ?_, ?_⟩
  · by_cases z : k = n.toNatClampNeg
    · rw [z, upd_at]; exact hx
    · rw [upd_ne z]; exact h2 k (by omega)
  · have e1 : n'.toInt.toNat = n.toInt.toNat + 1 := by omega
    rw [e1]
    show pnd _ n.toInt.toNat + _ = _
    rw [pnd_congr (op := op) _ (fun i hi => upd_ne (by omega)), h3, show n.toInt.toNat = n.toNatClampNeg from rfl, upd_at]
theorem OpS.pop {op : Nat → Int32} {n n' : Int32} {p : Nat} (h : OpS op n p) (hn : n'.toInt = n.toInt - 1) (hl : 1 ≤ n.toInt) : OpS op n' (p - (if (op n'.toNatClampNeg).toInt = 12 ∨ (op n'.toNatClampNeg).toInt = 13 then 1 else 0)) ∧ (if (op n'.toNatClampNeg).toInt = 12 ∨ (op n'.toNatClampNeg).toInt = 13 then 1 else 0) ≤ p := by
  obtain ⟨h1, h2, h3⟩ := h
  have en : n'.toNatClampNeg = n'.toInt.toNat := rfl
  have e1 : n.toInt.toNat = n'.toNatClampNeg + 1 := by omega
  rw [e1] at h3
  have h4 : pnd op n'.toNatClampNeg + (if (op n'.toNatClampNeg).toInt = 12 ∨ (op n'.toNatClampNeg).toInt = 13 then 1 else 0) = p := h3
  exact ⟨⟨by omega, fun k hk => h2 k (by omega), by rw [← en]; omega⟩, by omega⟩
def LBR (op : Nat → Int32) (n : Int32) (sg ln : Nat → Int32) (t b md : Int32) : Prop := ∃ p : Nat, OpS op n p ∧ Cd sg ln t b md p
def LSR (op : Nat → Int32) (n : Int32) (sg ln : Nat → Int32) (t b md : Int32) : Prop := ∃ p : Nat, OpS op n p ∧ Cd sg ln t b md (p + 1)
theorem LBR.ar {op : Nat → Int32} {n : Int32} {sg ln : Nat → Int32} {t b md : Int32} (h : LBR op n sg ln t b md) : 0 ≤ n.toInt ∧ n.toInt ≤ 400 ∧ 0 ≤ t.toInt ∧ t.toInt ≤ 5 ∧ 0 ≤ (ln t.toNatClampNeg).toInt ∧ (ln t.toNatClampNeg).toInt ≤ 400 ∧ 0 ≤ md.toInt ∧ md.toInt ≤ 60 := by
  obtain ⟨p, h1, h2⟩ := h
  have := h1.1
  have := h2.1
  omega
theorem LSR.ar {op : Nat → Int32} {n : Int32} {sg ln : Nat → Int32} {t b md : Int32} (h : LSR op n sg ln t b md) : 0 ≤ n.toInt ∧ n.toInt ≤ 400 ∧ 0 ≤ t.toInt ∧ t.toInt ≤ 5 ∧ 0 ≤ (ln t.toNatClampNeg).toInt ∧ (ln t.toNatClampNeg).toInt ≤ 400 ∧ 0 ≤ md.toInt ∧ md.toInt ≤ 60 := by
  obtain ⟨p, h1, h2⟩ := h
  have := h1.1
  have := h2.1
  omega
theorem LSR.open2 {op op' : Nat → Int32} {n n' x : Int32} {sg ln : Nat → Int32} {t b md : Int32} (h : LSR op n sg ln t b md) (e : op' = upd op n.toNatClampNeg x) (hn : n'.toInt = n.toInt + 1) (hl : n.toInt < 400) (hx : x.toInt = 12 ∨ x.toInt = 13) : LBR op' n' sg ln t b md := by
  obtain ⟨p, h1, h2⟩ := h
  have h3 := h1.push e hn hl (by omega)
  rw [if_pos (by omega)] at h3
  exact ⟨p + 1, h3, h2⟩
theorem LSR.pop {op : Nat → Int32} {n n' x : Int32} {sg ln : Nat → Int32} {t b md : Int32} (h : LSR op n sg ln t b md) (hn : n'.toInt = n.toInt - 1) (hl : 1 ≤ n.toInt) (ex : x = op n'.toNatClampNeg) (hx : x.toInt = 11 ∨ x.toInt = 12 ∨ x.toInt = 13) : ∃ d e : Nat, Cd sg ln t b md d ∧ StpR x 0 d e ∧ (e : Int) ≤ md.toInt ∧ ∀ sg' ln', Cd sg' ln' t b md e → LSR op n' sg' ln' t b md := by
  obtain ⟨p, h1, h2⟩ := h
  obtain ⟨h3, h4⟩ := h1.pop hn hl
  rw [← ex] at h3 h4
  have hd := h2.1
  by_cases z : x.toInt = 11
  · have e : x = 11 := Int32.toInt_inj.mp (by rw [z]; decide)
    rw [if_neg (by omega)] at h3
    rw [Nat.sub_zero] at h3
    refine ⟨p + 1, p + 1, h2, ?_, by omega, fun sg' ln' hc => ⟨p, h3, hc⟩⟩
    rw [e]
    exact StpR.not (by omega)
  · have hq : x = 12 ∨ x = 13 := by
      rcases hx with q | q | q
      · exact absurd q z
      · exact .inl (Int32.toInt_inj.mp (by rw [q]; decide))
      · exact .inr (Int32.toInt_inj.mp (by rw [q]; decide))
    rw [if_pos (by omega)] at h3 h4
    refine ⟨p + 1, p, h2, StpR.op ?_ rfl h4, by omega, fun sg' ln' hc => ⟨p - 1, h3, ?_⟩⟩
    · rcases hq with q | q
      · exact .inr (.inr (.inr (.inr (.inr (.inr (.inr (.inr (.inr (.inl q)))))))))
      · exact .inr (.inr (.inr (.inr (.inr (.inr (.inr (.inr (.inr (.inr (.inl q))))))))))
    · rw [show p - 1 + 1 = p by omega]
      exact hc
def LdE (op : Nat → Int32) (n least : Int32) : Prop := n.toInt = 0 ∨ ((1 ≤ least.toInt → (op (n.toInt.toNat - 1)).toInt ≠ 13 ∧ (op (n.toInt.toNat - 1)).toInt ≠ 12 ∧ (op (n.toInt.toNat - 1)).toInt ≠ 11) ∨ 1 < least.toInt)
def InK (op : Nat → Int32) (n n' : Int32) : Prop := ∀ k : Nat, (k : Int) < n.toInt → (op k).toInt = 91 → (k : Int) < n'.toInt
def Ins (op : Nat → Int32) (n : Int32) : Prop := ∃ k : Nat, (k : Int) < n.toInt ∧ (op k).toInt = 91
def NIns (op : Nat → Int32) (n : Int32) : Prop := ∀ k : Nat, (k : Int) < n.toInt → (op k).toInt ≠ 91
theorem InK.rf {op : Nat → Int32} {n : Int32} : InK op n n := fun _ h _ => h
theorem InK.step {op : Nat → Int32} {n m m' x : Int32} (h : InK op n m) (ex : x = op m'.toNatClampNeg) (hx : x.toInt ≠ 91) (hm : m'.toInt = m.toInt - 1) (h0 : 0 ≤ m'.toInt) : InK op n m' := fun k hk hv => by
  have h1 := h k hk hv
  by_cases z : (k : Int) = m'.toInt
  · have e : m'.toNatClampNeg = k := clN z.symm
    rw [e] at ex
    rw [ex] at hx
    exact absurd hv hx
  · omega
theorem Ins.keep {op : Nat → Int32} {n n' : Int32} (h : Ins op n) (hk : InK op n n') : Ins op n' := by
  obtain ⟨k, h1, h2⟩ := h
  exact ⟨k, hk k h1 h2, h2⟩
theorem Ins.ar {op : Nat → Int32} {n : Int32} (h : Ins op n) : 1 ≤ n.toInt := by
  obtain ⟨k, h1, h2⟩ := h
  omega
theorem LSR.drop {op : Nat → Int32} {n n' least : Int32} {sg ln : Nat → Int32} {t b md : Int32} (h : LSR op n sg ln t b md) (hE : LdE op n least) (hl : least.toInt = 1) (h1 : 1 ≤ n.toInt) (hn : n'.toInt = n.toInt - 1) : LSR op n' sg ln t b md := by
  obtain ⟨p, h2, h3⟩ := h
  obtain ⟨h4, h5⟩ := h2.pop hn h1
  have e : n'.toNatClampNeg = n.toInt.toNat - 1 := by
    show n'.toInt.toNat = _
    omega
  have hz : (op n'.toNatClampNeg).toInt ≠ 13 ∧ (op n'.toNatClampNeg).toInt ≠ 12 ∧ (op n'.toNatClampNeg).toInt ≠ 11 := by
    rw [e]
    rcases hE with z | z | z
    · omega
    · exact z (by omega)
    · omega
  rw [if_neg (by omega), Nat.sub_zero] at h4
  exact ⟨p, h4, h3⟩
theorem LSR.fin {op : Nat → Int32} {n m least : Int32} {sg ln : Nat → Int32} {t b md : Int32} (h : LSR op n sg ln t b md) (hE : LdE op n least) (hl : least.toInt = 1) (hN : NIns op m) (hm : n.toInt ≤ m.toInt) : Cd sg ln t b md 1 := by
  obtain ⟨p, h2, h3⟩ := h
  have hz : n.toInt = 0 := by
    rcases hE with z | z | z
    · exact z
    · by_cases q : n.toInt = 0
      · exact q
      · have h0 := h2.1
        have hv := h2.2.1 (n.toInt.toNat - 1) (by omega)
        have hw := hN (n.toInt.toNat - 1) (by omega)
        have hq := z (by omega)
        omega
    · omega
  have hp := h2.2.2
  rw [hz] at hp
  have : p = 0 := hp.symm
  subst this
  exact h3
theorem NIns.step {op : Nat → Int32} {k k' x : Int32} (h : NIns op k) (ex : x = op k.toNatClampNeg) (hx : ¬ x.toInt = 91) (hk : k'.toInt = k.toInt + 1) (h0 : 0 ≤ k.toInt) : NIns op k' := fun j hj => by
  by_cases z : (j : Int) = k.toInt
  · rw [← clN z.symm, ← ex]; exact hx
  · exact h j (by omega)
def NSq (f : Nat → Int32) (tp a : Int32) : Prop := a.toInt < tp.toInt → ¬ (f a.toNatClampNeg).toInt = 32
def Stl (f : Nat → Int32) (tp a b : Int32) : Prop := a.toInt < tp.toInt → ¬ (f a.toNatClampNeg).toInt = 32 → b = a
theorem Stl.rf {f : Nat → Int32} {tp a : Int32} : Stl f tp a a := fun _ _ => rfl
theorem Stl.step {f : Nat → Int32} {tp a v v' x : Int32} (h : Stl f tp a v) (ex : x = f v.toNatClampNeg) (hx : x.toInt = 32) : Stl f tp a v' := fun h1 h2 => by
  have e := h h1 h2
  subst e
  rw [ex] at hx
  exact absurd hx h2
theorem Stl.or {f : Nat → Int32} {tp a b : Int32} (h : Stl f tp a b) (h1 : NSq f tp a) : tp.toInt ≤ a.toInt ∨ b.toInt = a.toInt := by
  by_cases z : a.toInt < tp.toInt
  · right; rw [h z (h1 z)]
  · left; omega
theorem Stl.ltr {f : Nat → Int32} {tp a b : Int32} (h : Stl f tp a b) (h1 : Ltr f tp a) : Ltr f tp b ∧ b.toInt = a.toInt := by
  have e := h h1.1 (by have := h1.2.1; omega)
  subst e
  exact ⟨h1, rfl⟩
def Pw (f : Nat → Int32) (tp a b : Int32) : Prop := Ltr f tp a → a.toInt + 1 ≤ b.toInt
theorem Pw.of {f : Nat → Int32} {tp a b : Int32} (h : Adv a b) (h2 : NLtr f tp b) : Pw f tp a b := fun h1 => h.ltr h1 h2
def RulP (sg cl cs : Nat → Int32) (t : Int32) (B : Int) : Prop := RulD sg cl cs t ∧ 0 ≤ (cs t.toInt.toNat).toInt ∧ ∀ c : Nat, (c : Int) < (cs t.toInt.toNat).toInt → (WFc sg t (cl (48 * t.toInt.toNat + 4 * c)) (cl (48 * t.toInt.toNat + 4 * c + 1)) ∧ (cl (48 * t.toInt.toNat + 4 * c + 1)).toInt ≤ B) ∧ (0 ≤ (cl (48 * t.toInt.toNat + 4 * c + 2)).toInt → WFc sg t (cl (48 * t.toInt.toNat + 4 * c + 2)) (cl (48 * t.toInt.toNat + 4 * c + 3)) ∧ (cl (48 * t.toInt.toNat + 4 * c + 3)).toInt ≤ B)
theorem WFc.agr {f g : Nat → Int32} {t b e : Int32} {k : Int} (h : WFc f t b e) (ha : Agr f g k) (ht : 0 ≤ t.toInt) (hk : 400 * t.toInt + e.toInt ≤ k) : WFc g t b e := by
  obtain ⟨h1, h2⟩ := h
  refine ⟨h1, ?_⟩
  rw [dep_congr (f := f) (g := g) _ _ _ (fun i hi1 hi2 => ha i (by omega))]
  exact h2
theorem RulD.agr {sg sg' cl cs : Nat → Int32} {n : Int32} {k : Int} (h : RulD sg cl cs n) (ha : Agr sg sg' k) (hk : 400 * n.toInt ≤ k) : RulD sg' cl cs n := fun t ht => by
  obtain ⟨h1, h2⟩ := h t ht
  refine ⟨h1, fun c hc T hT => ?_⟩
  obtain ⟨h3, h4⟩ := h2 c hc T hT
  have h5 := h3.1
  refine ⟨h3.agr ha (by omega) (by omega), fun hp => ?_⟩
  have h6 := h4 hp
  have h7 := h6.1
  exact h6.agr ha (by omega) (by omega)
theorem RulP.agr {sg sg' cl cs : Nat → Int32} {t : Int32} {B k : Int} (h : RulP sg cl cs t B) (ha : Agr sg sg' k) (ht : 0 ≤ t.toInt) (hk : 400 * t.toInt + B ≤ k) (hB : 0 ≤ B) : RulP sg' cl cs t B := by
  obtain ⟨h1, h0, h2⟩ := h
  refine ⟨h1.agr ha (by omega), h0, fun c hc => ?_⟩
  obtain ⟨⟨h3, h4⟩, h5⟩ := h2 c hc
  exact ⟨⟨h3.agr ha ht (by omega), h4⟩, fun hp => ⟨(h5 hp).1.agr ha ht (by have := (h5 hp).2; omega), (h5 hp).2⟩⟩
theorem RulD.cl {sg cl cl' cs : Nat → Int32} {n : Int32} {i : Nat} {x : Int32} (h : RulD sg cl cs n) (e : cl' = upd cl i x) (hi : 48 * n.toInt ≤ (i : Int)) : RulD sg cl' cs n := fun t ht => by
  obtain ⟨h1, h2⟩ := h t ht
  subst e
  refine ⟨h1, fun c hc T hT => ?_⟩
  rw [upd_ne (by omega), upd_ne (by omega), upd_ne (by omega), upd_ne (by omega)]
  exact h2 c hc T hT
theorem RulP.cl {sg cl cl' cs : Nat → Int32} {t : Int32} {B : Int} {i : Nat} {x : Int32} (h : RulP sg cl cs t B) (e : cl' = upd cl i x) (ht : 0 ≤ t.toInt) (hi : 48 * t.toInt + 4 * (cs t.toInt.toNat).toInt ≤ (i : Int)) : RulP sg cl' cs t B := by
  obtain ⟨h1, h0, h2⟩ := h
  refine ⟨h1.cl e (by omega), h0, fun c hc => ?_⟩
  subst e
  rw [upd_ne (by omega), upd_ne (by omega), upd_ne (by omega), upd_ne (by omega)]
  exact h2 c hc
theorem RulD.cs {sg cl cs cs' : Nat → Int32} {n : Int32} {i : Nat} {x : Int32} (h : RulD sg cl cs n) (e : cs' = upd cs i x) (hi : n.toInt ≤ (i : Int)) : RulD sg cl cs' n := fun t ht => by
  subst e
  rw [upd_ne (by omega)]
  exact h t ht
theorem RulP.mono {sg cl cs : Nat → Int32} {t : Int32} {B B' : Int} (h : RulP sg cl cs t B) (hB : B ≤ B') : RulP sg cl cs t B' := by
  obtain ⟨h1, h0, h2⟩ := h
  refine ⟨h1, h0, fun c hc => ?_⟩
  obtain ⟨⟨h3, h4⟩, h5⟩ := h2 c hc
  exact ⟨⟨h3, by omega⟩, fun hp => ⟨(h5 hp).1, by have := (h5 hp).2; omega⟩⟩
theorem RulP.snoc {sg cl cs cs' : Nat → Int32} {t : Int32} {B : Int} {y : Int32} (h : RulP sg cl cs t B) (ht : 0 ≤ t.toInt) (e : cs' = upd cs t.toNatClampNeg y) (hy : y.toInt = (cs t.toInt.toNat).toInt + 1)
    (w1 : WFc sg t (cl (48 * t.toInt.toNat + 4 * (cs t.toInt.toNat).toInt.toNat)) (cl (48 * t.toInt.toNat + 4 * (cs t.toInt.toNat).toInt.toNat + 1))) (b1 : (cl (48 * t.toInt.toNat + 4 * (cs t.toInt.toNat).toInt.toNat + 1)).toInt ≤ B)
    (w2 : 0 ≤ (cl (48 * t.toInt.toNat + 4 * (cs t.toInt.toNat).toInt.toNat + 2)).toInt → WFc sg t (cl (48 * t.toInt.toNat + 4 * (cs t.toInt.toNat).toInt.toNat + 2)) (cl (48 * t.toInt.toNat + 4 * (cs t.toInt.toNat).toInt.toNat + 3)) ∧ (cl (48 * t.toInt.toNat + 4 * (cs t.toInt.toNat).toInt.toNat + 3)).toInt ≤ B) : RulP sg cl cs' t B := by
  obtain ⟨h1, h0, h2⟩ := h
  have et : t.toNatClampNeg = t.toInt.toNat := rfl
  have ec : cs' t.toInt.toNat = y := by rw [e, et, upd_at]
  refine ⟨h1.cs e (by omega), by rw [ec]; omega, fun c hc => ?_⟩
  rw [ec] at hc
  by_cases z : (c : Int) = (cs t.toInt.toNat).toInt
  · have ez : c = (cs t.toInt.toNat).toInt.toNat := by omega
    rw [ez]
    exact ⟨⟨w1, b1⟩, w2⟩
  · exact h2 c (by omega)
theorem RulP.done {sg cl cs : Nat → Int32} {t n : Int32} {B : Int} (h : RulP sg cl cs t B) (ht : 0 ≤ t.toInt) (hn : n.toInt = t.toInt + 1) (hc : (cs t.toInt.toNat).toInt ≤ 12) : RulD sg cl cs n := fun q hq => by
  by_cases z : (q : Int) = t.toInt
  · have ez : q = t.toInt.toNat := by omega
    refine ⟨by rw [ez]; exact hc, fun c hc' T hT => ?_⟩
    have eT : T = t := Int32.toInt_inj.mp (by omega)
    rw [ez] at hc' ⊢
    rw [eT]
    obtain ⟨h3, h4⟩ := h.2.2 c hc'
    exact ⟨h3.1, fun hp => (h4 hp).1⟩
  · exact h.1 q (by omega)
theorem RulP.start {sg cl cs cs' : Nat → Int32} {t : Int32} {B : Int} {x : Int32} (h : RulD sg cl cs t) (ht : 0 ≤ t.toInt) (e : cs' = upd cs t.toNatClampNeg x) (hx : x.toInt = 0) : RulP sg cl cs' t B := by
  have et : t.toNatClampNeg = t.toInt.toNat := rfl
  have ec : cs' t.toInt.toNat = x := by rw [e, et, upd_at]
  refine ⟨h.cs e (by omega), by rw [ec]; omega, fun c hc => ?_⟩
  rw [ec] at hc
  omega
theorem Cd.wf {sg ln : Nat → Int32} {t b md e : Int32} (h : Cd sg ln t b md 1) (he : e = ln t.toNatClampNeg) : WFc sg t b e := by
  subst he
  obtain ⟨h1, h2⟩ := h
  exact ⟨by omega, h2⟩
def RdO (f : Nat → Int32) : Prop := (((f 0).toInt = 1 ∧ 1 ≤ (f 2).toInt ∧ (f 2).toInt ≤ 10) ∨ ((f 0).toInt = 0 ∧ (f 3).toInt = 0)) ∧ 0 ≤ (f 3).toInt ∧ (f 3).toInt ≤ 6
theorem RdO.ar {f : Nat → Int32} (h : RdO f) : (((f 0).toInt = 1 ∧ 1 ≤ (f 2).toInt ∧ (f 2).toInt ≤ 10) ∨ ((f 0).toInt = 0 ∧ (f 3).toInt = 0)) ∧ 0 ≤ (f 3).toInt ∧ (f 3).toInt ≤ 6 := h
def RdC (f g : Nat → Int32) (c : Int32) : Prop := ∀ i : Nat, i ≠ c.toNatClampNeg → g i = f i
theorem RdC.rf {f : Nat → Int32} {c : Int32} : RdC f f c := fun _ _ => rfl
theorem RdC.up {f g : Nat → Int32} {c x : Int32} (e : g = upd f c.toNatClampNeg x) : RdC f g c := fun i hi => by rw [e, upd_ne hi]
theorem RdC.at {f g : Nat → Int32} {c : Int32} (hc : RdC f g c) (i : Nat) (hi : (i : Int) ≠ c.toInt) (h0 : 0 ≤ c.toInt) : (g i).toInt = (f i).toInt := by
  have e : c.toNatClampNeg = c.toInt.toNat := rfl
  rw [hc i (by omega)]
theorem upd_toInt_ne {f g : Nat → Int32} {i j : Nat} {x : Int32} (e : g = upd f i x) (h : j ≠ i) : (g j).toInt = (f j).toInt := by rw [e, upd_ne h]
theorem upd_toInt_at {f g : Nat → Int32} {i : Nat} {x : Int32} (e : g = upd f i x) : (g i).toInt = x.toInt := by rw [e, upd_at]
theorem RdO.of {f : Nat → Int32} (h : (((f 0).toInt = 1 ∧ 1 ≤ (f 2).toInt ∧ (f 2).toInt ≤ 10) ∨ ((f 0).toInt = 0 ∧ (f 3).toInt = 0)) ∧ 0 ≤ (f 3).toInt ∧ (f 3).toInt ≤ 6) : RdO f := h
def Rd0 (f : Nat → Int32) (k : Int32) : Prop := ∀ i : Nat, (i : Int) < k.toInt → (f i).toInt = 0
theorem Rd0.step {f g : Nat → Int32} {k k' : Int32} (h : Rd0 f k) (e : g = upd f k.toNatClampNeg 0) (hk : k'.toInt = k.toInt + 1) (h0 : 0 ≤ k.toInt) : Rd0 g k' := fun i hi => by
  have en : k.toNatClampNeg = k.toInt.toNat := rfl
  by_cases z : i = k.toNatClampNeg
  · rw [e, z, upd_at]; decide
  · rw [e, upd_ne z]; exact h i (by omega)
theorem Rd0.done {f : Nat → Int32} {k : Int32} (h : Rd0 f k) (hk : 95 ≤ k.toInt) : RdO f := by
  have h0 := h 0 (by omega)
  have h3 := h 3 (by omega)
  exact ⟨Or.inr ⟨h0, h3⟩, by omega, by omega⟩
def SdK (g f : Nat → Int32) (k : Int32) : Prop := ∀ i : Nat, (i : Int) < k.toInt → (i < 95 → g i = f i) ∧ (95 ≤ i → (g i).toInt = 0)
theorem SdK.step {g g' f : Nat → Int32} {k k' x : Int32} (h : SdK g f k) (e : g' = upd g k.toNatClampNeg x) (hx : (k.toInt < 95 ∧ x = f k.toNatClampNeg) ∨ (95 ≤ k.toInt ∧ x.toInt = 0)) (hk : k'.toInt = k.toInt + 1) (h0 : 0 ≤ k.toInt) : SdK g' f k' := fun i hi => by
  have en : k.toNatClampNeg = k.toInt.toNat := rfl
  by_cases z : i = k.toNatClampNeg
  · rw [e, z, upd_at]
    rcases hx with ⟨q, hx⟩ | ⟨q, hx⟩
    · exact ⟨fun _ => hx, fun _ => by omega⟩
    · exact ⟨fun _ => by omega, fun _ => hx⟩
  · rw [e, upd_ne z]; exact h i (by omega)
theorem SdK.done {g f : Nat → Int32} {k : Int32} (h : SdK g f k) (hf : RdO f) (hk : 126 ≤ k.toInt) : SaiB g := by
  unfold RdO at hf
  have e0 := (h 0 (by omega)).1 (by decide)
  have e2 := (h 2 (by omega)).1 (by decide)
  have e3 := (h 3 (by omega)).1 (by decide)
  have e5 := (h 125 (by omega)).2 (by decide)
  refine ⟨⟨?_, ?_, ?_, ?_, ?_⟩, fun q hq => ?_⟩
  · rw [e0, e2, e3]; exact hf.1
  · rw [e3]; exact hf.2.1
  · rw [e3]; exact hf.2.2
  · omega
  · omega
  · have := (h (95 + 3 * q) (by omega)).2 (by omega)
    omega
theorem LdE.of {op : Nat → Int32} {n least i x : Int32} (ex : x = op i.toNatClampNeg) (hi : i.toInt = n.toInt - 1) (hn : 1 ≤ n.toInt) (h : (x.toInt ≠ 13 ∧ x.toInt ≠ 12 ∧ x.toInt ≠ 11) ∨ 1 < least.toInt) : LdE op n least := by
  have e : i.toNatClampNeg = n.toInt.toNat - 1 := by
    show i.toInt.toNat = _
    omega
  rw [e] at ex
  rcases h with h | h
  · right; left; intro _; rw [← ex]; exact h
  · right; right; exact h
theorem Ins.of {op : Nat → Int32} {n k x : Int32} (ex : x = op k.toNatClampNeg) (hx : x.toInt = 91) (hk : 0 ≤ k.toInt ∧ k.toInt < n.toInt) : Ins op n := by
  refine ⟨k.toInt.toNat, by omega, ?_⟩
  rw [ex] at hx
  exact hx
theorem NIns.ge {op : Nat → Int32} {n k : Int32} (h : NIns op k) (hk : n.toInt ≤ k.toInt) : NIns op n := fun j hj => h j (by omega)
theorem NIns.nil {op : Nat → Int32} {k : Int32} (hk : k.toInt = 0) : NIns op k := fun j hj => by omega
def LX (op : Nat → Int32) (n : Int32) (sg ln : Nat → Int32) (t b md g : Int32) : Prop := (g.toInt = 1 → LBR op n sg ln t b md) ∧ (g.toInt = 0 → LSR op n sg ln t b md)
def ClV (cl : Nat → Int32) (A j : Nat) (v : Int32) : Prop := cl (A + j) = v
theorem ClV.put {cl cl' : Nat → Int32} {A j : Nat} {i x : Int32} (e : cl' = upd cl i.toNatClampNeg x) (hi : i.toInt = (A : Int) + (j : Int)) : ClV cl' A j x := by
  unfold ClV
  rw [e, clN (i := i) (n := A + j) (by omega), upd_at]
theorem ClV.keep {cl cl' : Nat → Int32} {A j : Nat} {v i x : Int32} (h : ClV cl A j v) (e : cl' = upd cl i.toNatClampNeg x) (hi : ¬ i.toInt = (A : Int) + (j : Int)) (h0 : 0 ≤ i.toInt) : ClV cl' A j v := by
  have en : i.toNatClampNeg = i.toInt.toNat := rfl
  unfold ClV at *
  rw [e, upd_ne (by omega)]
  exact h
def RuG (sg cl cs : Nat → Int32) (t : Int32) (B : Int) (g : Int32) : Prop := g.toInt = 1 → RulP sg cl cs t B
def RdG (f : Nat → Int32) (g : Int32) : Prop := g.toInt = 1 → RdO f
