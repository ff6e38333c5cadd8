set_option maxRecDepth 16384
def Ltr (f : Nat → Int32) (tp k : Int32) : Prop := k.toInt < tp.toInt ∧ 97 ≤ (f k.toNatClampNeg).toInt ∧ (f k.toNatClampNeg).toInt ≤ 122
def NLtr (f : Nat → Int32) (tp k : Int32) : Prop := ¬ Ltr f tp k
def Dgt (f : Nat → Int32) (tp k : Int32) : Prop := k.toInt < tp.toInt ∧ 48 ≤ (f k.toNatClampNeg).toInt ∧ (f k.toNatClampNeg).toInt ≤ 57
def NDgt (f : Nat → Int32) (tp k : Int32) : Prop := ¬ Dgt f tp k
def Adv (a b : Int32) : Prop := b = a ∨ a.toInt + 1 ≤ b.toInt
theorem Adv.ltr {f : Nat → Int32} {tp a b : Int32} (h : Adv a b) (h1 : Ltr f tp a) (h2 : NLtr f tp b) : a.toInt + 1 ≤ b.toInt := by
  rcases h with h | h
  · subst h; exact absurd h1 h2
  · exact h
theorem Adv.dgt {f : Nat → Int32} {tp a b : Int32} (h : Adv a b) (h1 : Dgt f tp a) (h2 : NDgt f tp b) : a.toInt + 1 ≤ b.toInt := by
  rcases h with h | h
  · subst h; exact absurd h1 h2
  · exact h
def LtN (f : Nat → Int32) (tp nx n : Int32) : Prop := 1 ≤ n.toInt → Ltr f tp nx
theorem LtN.step {f : Nat → Int32} {tp nx n n' x : Int32} (h : LtN f tp nx n) (h1 : Ltr f tp x) (hx : x.toInt = nx.toInt + n.toInt) (hn : 0 ≤ n.toInt) : LtN f tp nx n' := by
  intro _
  by_cases z : n.toInt = 0
  · have e : x = nx := Int32.toInt_inj.mp (by omega)
    rw [← e]; exact h1
  · exact h (by omega)
theorem dep_snoc (f : Nat → Int32) (n a d : Nat) : dep f (n + 1) a d = (dep f n a d).bind (fun e => stp (f (a + n)) e) := by
  induction n generalizing a d with
  | zero =>
    show (stp (f a) d).bind (fun e => dep f 0 (a + 1) e) = (some d).bind _
    cases h : stp (f a) d with
    | none => show none = stp (f (a + 0)) d; rw [Nat.add_zero, h]
    | some e => show some e = stp (f (a + 0)) d; rw [Nat.add_zero, h]
  | succ n ih =>
    show (stp (f a) d).bind (fun e => dep f (n + 1) (a + 1) e) = ((stp (f a) d).bind (fun e => dep f n (a + 1) e)).bind (fun e => stp (f (a + (n + 1))) e)
    cases stp (f a) d with
    | none => rfl
    | some e =>
      show dep f (n + 1) (a + 1) e = (dep f n (a + 1) e).bind _
      rw [ih, show a + 1 + n = a + (n + 1) by omega]
theorem dep_congr {f g : Nat → Int32} (n a d : Nat) (h : ∀ i, a ≤ i → i < a + n → g i = f i) : dep g n a d = dep f n a d := by
  induction n generalizing a d with
  | zero => rfl
  | succ n ih =>
    show (stp (g a) d).bind _ = (stp (f a) d).bind _
    rw [h a (Nat.le_refl _) (by omega)]
    congr 1
    funext e
    exact ih (a + 1) e (fun i h1 h2 => h i (by omega) (by omega))
def Agr (f g : Nat → Int32) (k : Int) : Prop := ∀ i : Nat, (i : Int) < k → g i = f i
theorem Agr.rf {f : Nat → Int32} {k : Int} : Agr f f k := fun _ _ => rfl
theorem Agr.trans {f g h : Nat → Int32} {k k2 k' : Int} (h1 : Agr f g k) (h2 : Agr g h k2) (hk : k' ≤ k ∧ k' ≤ k2) : Agr f h k' := fun i hi => (h2 i (by omega)).trans (h1 i (by omega))
theorem Agr.mono {f g : Nat → Int32} {k k' : Int} (h1 : Agr f g k) (hk : k' ≤ k) : Agr f g k' := fun i hi => h1 i (by omega)
def Cd (sg ln : Nat → Int32) (t b md : Int32) (d : Nat) : Prop := (0 ≤ t.toInt ∧ t.toInt ≤ 5 ∧ 0 ≤ b.toInt ∧ b.toInt ≤ (ln t.toNatClampNeg).toInt ∧ (ln t.toNatClampNeg).toInt ≤ 400 ∧ (d : Int) ≤ md.toInt ∧ md.toInt ≤ 60) ∧ dep sg ((ln t.toNatClampNeg).toInt.toNat - b.toInt.toNat) (400 * t.toInt.toNat + b.toInt.toNat) 0 = some d
theorem Cd.ar {sg ln : Nat → Int32} {t b md : Int32} {d : Nat} (h : Cd sg ln t b md d) : 0 ≤ t.toInt ∧ t.toInt ≤ 5 ∧ 0 ≤ b.toInt ∧ b.toInt ≤ (ln t.toNatClampNeg).toInt ∧ (ln t.toNatClampNeg).toInt ≤ 400 ∧ (d : Int) ≤ md.toInt ∧ md.toInt ≤ 60 := h.1
theorem Cd.mono {sg ln : Nat → Int32} {t b md md' : Int32} {d : Nat} (h : Cd sg ln t b md d) (hm : md.toInt ≤ md'.toInt ∧ md'.toInt ≤ 60) : Cd sg ln t b md' d := by
  obtain ⟨h1, h2⟩ := h
  exact ⟨by omega, h2⟩
theorem Cd.nil {sg ln : Nat → Int32} {t b md : Int32} (ht : 0 ≤ t.toInt ∧ t.toInt ≤ 5) (hb : b = ln t.toNatClampNeg) (h0 : 0 ≤ b.toInt ∧ b.toInt ≤ 400) (hm : 0 ≤ md.toInt ∧ md.toInt ≤ 60) : Cd sg ln t b md 0 := by
  subst hb
  refine ⟨by omega, ?_⟩
  rw [Nat.sub_self]
  rfl
def StpR (s v : Int32) (d e : Nat) : Prop := stp (s + 16 * v) d = some e
theorem Cd.put {sg sg' ln ln' : Nat → Int32} {t b md s v i x y : Int32} {d e : Nat} (h : Cd sg ln t b md d) (hs : StpR s v d e) (he : (e : Int) ≤ md.toInt) (e1 : sg' = upd sg i.toNatClampNeg x) (hi : i.toInt = 400 * t.toInt + (ln t.toNatClampNeg).toInt) (ex : x = s + 16 * v) (e2 : ln' = upd ln t.toNatClampNeg y) (hy : y.toInt = (ln t.toNatClampNeg).toInt + 1) (hL : (ln t.toNatClampNeg).toInt < 400) : Cd sg' ln' t b md e ∧ Agr sg sg' (400 * t.toInt + (ln t.toNatClampNeg).toInt) ∧ (ln' t.toNatClampNeg).toInt = (ln t.toNatClampNeg).toInt + 1 := by
  obtain ⟨h1, h2⟩ := h
  have ei : i.toNatClampNeg = 400 * t.toInt.toNat + (ln t.toNatClampNeg).toInt.toNat := by
    show i.toInt.toNat = _
    omega
  have el : ln' t.toNatClampNeg = y := by rw [e2, upd_at]
  have hag : ∀ j : Nat, j < 400 * t.toInt.toNat + (ln t.toNatClampNeg).toInt.toNat → sg' j = sg j := fun j hj => by rw [e1, ei, upd_ne (by omega)]
  refine ⟨⟨by rw [el]; omega, ?_⟩, fun j hj => hag j (by omega), by rw [el]; exact hy⟩
  rw [el]
  have en : y.toInt.toNat - b.toInt.toNat = ((ln t.toNatClampNeg).toInt.toNat - b.toInt.toNat) + 1 := by omega
  rw [en, dep_snoc, dep_congr (f := sg) (g := sg') _ _ _ (fun j hj1 hj2 => hag j (by omega)), h2]
  show stp (sg' _) d = some e
  have ea : 400 * t.toInt.toNat + b.toInt.toNat + ((ln t.toNatClampNeg).toInt.toNat - b.toInt.toNat) = i.toNatClampNeg := by omega
  rw [ea, e1, upd_at, ex]
  exact hs
theorem stp_op {s : Int32} {d : Nat} (h0 : ¬ (s &&& 15).toInt = 0) (h1 : ¬ (s &&& 15).toInt = 1) (h2 : ¬ (s &&& 15).toInt = 11) (hd : 2 ≤ d) : stp s d = some (d - 1) := by
  unfold stp
  rw [if_neg h0, if_neg h1, if_neg h2, if_pos hd]
theorem StpR.op {s : Int32} {d e : Nat} (hs : s = 2 ∨ s = 3 ∨ s = 4 ∨ s = 5 ∨ s = 6 ∨ s = 7 ∨ s = 8 ∨ s = 9 ∨ s = 10 ∨ s = 12 ∨ s = 13 ∨ s = 14) (hd : d = e + 1) (he : 1 ≤ e) : StpR s 0 d e := by
  unfold StpR
  have hh : ¬ ((s + 16 * 0) &&& 15).toInt = 0 ∧ ¬ ((s + 16 * 0) &&& 15).toInt = 1 ∧ ¬ ((s + 16 * 0) &&& 15).toInt = 11 := by
    rcases hs with rfl | rfl | rfl | rfl | rfl | rfl | rfl | rfl | rfl | rfl | rfl | rfl <;> decide
  rw [stp_op hh.1 hh.2.1 hh.2.2 (by omega), hd]
  rfl
theorem StpR.not {d : Nat} (hd : 1 ≤ d) : StpR 11 0 d d := by
  unfold StpR stp
  rw [if_neg (by decide), if_neg (by decide), if_pos (by decide), if_pos hd]
theorem and16 (n : Int32) : ((0 + 16 * n : Int32) &&& 15).toInt = 0 := by
  have e : ((0 + 16 * n : Int32) &&& 15) = 0 := by
    apply Int32.toBitVec_inj.mp
    apply BitVec.eq_of_toNat_eq
    have h1 : ((0 + 16 * n : Int32) &&& 15).toBitVec.toNat = (0 + 16 * n : Int32).toBitVec.toNat &&& 15 := rfl
    rw [h1, show (15 : Nat) = 2 ^ 4 - 1 from rfl, Nat.and_two_pow_sub_one_eq_mod]
    have h2 : (0 + 16 * n : Int32).toBitVec.toNat = (0 + (16 * n.toBitVec.toNat) % 2 ^ 32) % 2 ^ 32 := rfl
    rw [h2]
    show _ = 0
    omega
  rw [e]
  decide
theorem StpR.num {n : Int32} {d : Nat} (hd : (d : Int) < 60) : StpR 0 n d (d + 1) := by
  unfold StpR stp
  rw [if_pos (and16 n), if_pos (by omega)]
theorem StpR.word {w : Int32} {d : Nat} (hd : (d : Int) < 60) (h0 : 0 ≤ w.toInt ∧ w.toInt ≤ 12) : StpR 1 w d (d + 1) := by
  have e : ∀ k : Int32, w.toInt = k.toInt → w = k := fun k z => Int32.toInt_inj.mp z
  have hw : w = 0 ∨ w = 1 ∨ w = 2 ∨ w = 3 ∨ w = 4 ∨ w = 5 ∨ w = 6 ∨ w = 7 ∨ w = 8 ∨ w = 9 ∨ w = 10 ∨ w = 11 ∨ w = 12 := by
    have : w.toInt = 0 ∨ w.toInt = 1 ∨ w.toInt = 2 ∨ w.toInt = 3 ∨ w.toInt = 4 ∨ w.toInt = 5 ∨ w.toInt = 6 ∨ w.toInt = 7 ∨ w.toInt = 8 ∨ w.toInt = 9 ∨ w.toInt = 10 ∨ w.toInt = 11 ∨ w.toInt = 12 := by omega
    rcases this with z | z | z | z | z | z | z | z | z | z | z | z | z
    · exact .inl (e 0 (by rw [z]; decide))
    · exact .inr (.inl (e 1 (by rw [z]; decide)))
    · exact .inr (.inr (.inl (e 2 (by rw [z]; decide))))
    · exact .inr (.inr (.inr (.inl (e 3 (by rw [z]; decide)))))
    · exact .inr (.inr (.inr (.inr (.inl (e 4 (by rw [z]; decide))))))
    · exact .inr (.inr (.inr (.inr (.inr (.inl (e 5 (by rw [z]; decide)))))))
    · exact .inr (.inr (.inr (.inr (.inr (.inr (.inl (e 6 (by rw [z]; decide))))))))
    · exact .inr (.inr (.inr (.inr (.inr (.inr (.inr (.inl (e 7 (by rw [z]; decide)))))))))
    · exact .inr (.inr (.inr (.inr (.inr (.inr (.inr (.inr (.inl (e 8 (by rw [z]; decide))))))))))
    · exact .inr (.inr (.inr (.inr (.inr (.inr (.inr (.inr (.inr (.inl (e 9 (by rw [z]; decide)))))))))))
    · exact .inr (.inr (.inr (.inr (.inr (.inr (.inr (.inr (.inr (.inr (.inl (e 10 (by rw [z]; decide))))))))))))
    · exact .inr (.inr (.inr (.inr (.inr (.inr (.inr (.inr (.inr (.inr (.inr (.inl (e 11 (by rw [z]; decide)))))))))))))
    · exact .inr (.inr (.inr (.inr (.inr (.inr (.inr (.inr (.inr (.inr (.inr (.inr (e 12 (by rw [z]; decide)))))))))))))
  unfold StpR stp
  have h2 : ¬ ((1 + 16 * w : Int32) &&& 15).toInt = 0 ∧ ((1 + 16 * w : Int32) &&& 15).toInt = 1 ∧ 0 ≤ ((1 + 16 * w : Int32) >>> (4 &&& 31)).toInt ∧ ((1 + 16 * w : Int32) >>> (4 &&& 31)).toInt ≤ 12 := by
    rcases hw with rfl | rfl | rfl | rfl | rfl | rfl | rfl | rfl | rfl | rfl | rfl | rfl | rfl <;> decide
  rw [if_neg h2.1, if_pos h2.2.1, if_pos ⟨by omega, h2.2.2⟩]
def pnd (op : Nat → Int32) : Nat → Nat
  | 0 => 0
  | k + 1 => pnd op k + (if (op k).toInt = 12 ∨ (op k).toInt = 13 then 1 else 0)
theorem pnd_congr {op op' : Nat → Int32} (n : Nat) (h : ∀ i, i < n → op' i = op i) : pnd op' n = pnd op n := by
  induction n with
  | zero => rfl
  | succ n ih =>
    show pnd op' n + _ = pnd op n + _
    rw [ih (fun i hi => h i (by omega)), h n (by omega)]
def OpS (op : Nat → Int32) (n : Int32) (p : Nat) : Prop := (0 ≤ n.toInt ∧ n.toInt ≤ 400) ∧ (∀ k : Nat, (k : Int) < n.toInt → (op k).toInt = 11 ∨ (op k).toInt = 12 ∨ (op k).toInt = 13 ∨ (op k).toInt = 91) ∧ pnd op n.toInt.toNat = p
theorem OpS.ar {op : Nat → Int32} {n : Int32} {p : Nat} (h : OpS op n p) : 0 ≤ n.toInt ∧ n.toInt ≤ 400 := h.1
theorem OpS.nil {op : Nat → Int32} {n : Int32} (h : n.toInt = 0) : OpS op n 0 := ⟨by omega, fun k hk => by omega, by rw [h]; rfl⟩
theorem OpS.push {op op' : Nat → Int32} {n n' x : Int32} {p : Nat} (h : OpS op n p) (e : op' = upd op n.toNatClampNeg x) (hn : n'.toInt = n.toInt + 1) (hl : n.toInt < 400) (hx : x.toInt = 11 ∨ x.toInt = 12 ∨ x.toInt = 13 ∨ x.toInt = 91) : OpS op' n' (p + (if x.toInt = 12 ∨ x.toInt = 13 then 1 else 0)) := by
  obtain ⟨h1, h2, h3⟩ := h
  have en : n.toNatClampNeg = n.toInt.toNat := rfl
  subst e
  refine ⟨by omega, fun k hk => ?_, ?_⟩
  · by_cases z : k = n.toNatClampNeg
    · rw [z, upd_at]; exact hx
    · rw [upd_ne z]; exact h2 k (by omega)
  · have e1 : n'.toInt.toNat = n.toInt.toNat + 1 := by omega
    rw [e1]
    show pnd _ n.toInt.toNat + _ = _
    rw [pnd_congr (op := op) _ (fun i hi => upd_ne (by omega)), h3, show n.toInt.toNat = n.toNatClampNeg from rfl, upd_at]
theorem OpS.pop {op : Nat → Int32} {n n' : Int32} {p : Nat} (h : OpS op n p) (hn : n'.toInt = n.toInt - 1) (hl : 1 ≤ n.toInt) : OpS op n' (p - (if (op n'.toNatClampNeg).toInt = 12 ∨ (op n'.toNatClampNeg).toInt = 13 then 1 else 0)) ∧ (if (op n'.toNatClampNeg).toInt = 12 ∨ (op n'.toNatClampNeg).toInt = 13 then 1 else 0) ≤ p := by
  obtain ⟨h1, h2, h3⟩ := h
  have en : n'.toNatClampNeg = n'.toInt.toNat := rfl
  have e1 : n.toInt.toNat = n'.toNatClampNeg + 1 := by omega
  rw [e1] at h3
  have h4 : pnd op n'.toNatClampNeg + (if (op n'.toNatClampNeg).toInt = 12 ∨ (op n'.toNatClampNeg).toInt = 13 then 1 else 0) = p := h3
  exact ⟨⟨by omega, fun k hk => h2 k (by omega), by rw [← en]; omega⟩, by omega⟩
def LBR (op : Nat → Int32) (n : Int32) (sg ln : Nat → Int32) (t b md : Int32) : Prop := ∃ p : Nat, OpS op n p ∧ Cd sg ln t b md p
def LSR (op : Nat → Int32) (n : Int32) (sg ln : Nat → Int32) (t b md : Int32) : Prop := ∃ p : Nat, OpS op n p ∧ Cd sg ln t b md (p + 1)
theorem LBR.ar {op : Nat → Int32} {n : Int32} {sg ln : Nat → Int32} {t b md : Int32} (h : LBR op n sg ln t b md) : 0 ≤ n.toInt ∧ n.toInt ≤ 400 ∧ 0 ≤ t.toInt ∧ t.toInt ≤ 5 ∧ 0 ≤ (ln t.toNatClampNeg).toInt ∧ (ln t.toNatClampNeg).toInt ≤ 400 ∧ 0 ≤ md.toInt ∧ md.toInt ≤ 60 := by
  obtain ⟨p, h1, h2⟩ := h
  have := h1.1
  have := h2.1
  omega
theorem LSR.ar {op : Nat → Int32} {n : Int32} {sg ln : Nat → Int32} {t b md : Int32} (h : LSR op n sg ln t b md) : 0 ≤ n.toInt ∧ n.toInt ≤ 400 ∧ 0 ≤ t.toInt ∧ t.toInt ≤ 5 ∧ 0 ≤ (ln t.toNatClampNeg).toInt ∧ (ln t.toNatClampNeg).toInt ≤ 400 ∧ 0 ≤ md.toInt ∧ md.toInt ≤ 60 := by
  obtain ⟨p, h1, h2⟩ := h
  have := h1.1
  have := h2.1
  omega
theorem LSR.open2 {op op' : Nat → Int32} {n n' x : Int32} {sg ln : Nat → Int32} {t b md : Int32} (h : LSR op n sg ln t b md) (e : op' = upd op n.toNatClampNeg x) (hn : n'.toInt = n.toInt + 1) (hl : n.toInt < 400) (hx : x.toInt = 12 ∨ x.toInt = 13) : LBR op' n' sg ln t b md := by
  obtain ⟨p, h1, h2⟩ := h
  have h3 := h1.push e hn hl (by omega)
  rw [if_pos (by omega)] at h3
  exact ⟨p + 1, h3, h2⟩
theorem LSR.pop {op : Nat → Int32} {n n' x : Int32} {sg ln : Nat → Int32} {t b md : Int32} (h : LSR op n sg ln t b md) (hn : n'.toInt = n.toInt - 1) (hl : 1 ≤ n.toInt) (ex : x = op n'.toNatClampNeg) (hx : x.toInt = 11 ∨ x.toInt = 12 ∨ x.toInt = 13) : ∃ d e : Nat, Cd sg ln t b md d ∧ StpR x 0 d e ∧ (e : Int) ≤ md.toInt ∧ ∀ sg' ln', Cd sg' ln' t b md e → LSR op n' sg' ln' t b md := by
  obtain ⟨p, h1, h2⟩ := h
  obtain ⟨h3, h4⟩ := h1.pop hn hl
  rw [← ex] at h3 h4
  have hd := h2.1
  by_cases z : x.toInt = 11
  · have e : x = 11 := Int32.toInt_inj.mp (by rw [z]; decide)
    rw [if_neg (by omega)] at h3
    rw [Nat.sub_zero] at h3
    refine ⟨p + 1, p + 1, h2, ?_, by omega, fun sg' ln' hc => ⟨p, h3, hc⟩⟩
    rw [e]
    exact StpR.not (by omega)
  · have hq : x = 12 ∨ x = 13 := by
      rcases hx with q | q | q
      · exact absurd q z
      · exact .inl (Int32.toInt_inj.mp (by rw [q]; decide))
      · exact .inr (Int32.toInt_inj.mp (by rw [q]; decide))
    rw [if_pos (by omega)] at h3 h4
    refine ⟨p + 1, p, h2, StpR.op ?_ rfl h4, by omega, fun sg' ln' hc => ⟨p - 1, h3, ?_⟩⟩
    · rcases hq with q | q
      · exact .inr (.inr (.inr (.inr (.inr (.inr (.inr (.inr (.inr (.inl q)))))))))
      · exact .inr (.inr (.inr (.inr (.inr (.inr (.inr (.inr (.inr (.inr (.inl q))))))))))
    · rw [show p - 1 + 1 = p by omega]
      exact hc
def LdE (op : Nat → Int32) (n least : Int32) : Prop := n.toInt = 0 ∨ ((1 ≤ least.toInt → (op (n.toInt.toNat - 1)).toInt ≠ 13 ∧ (op (n.toInt.toNat - 1)).toInt ≠ 12 ∧ (op (n.toInt.toNat - 1)).toInt ≠ 11) ∨ 1 < least.toInt)
def InK (op : Nat → Int32) (n n' : Int32) : Prop := ∀ k : Nat, (k : Int) < n.toInt → (op k).toInt = 91 → (k : Int) < n'.toInt
def Ins (op : Nat → Int32) (n : Int32) : Prop := ∃ k : Nat, (k : Int) < n.toInt ∧ (op k).toInt = 91
def NIns (op : Nat → Int32) (n : Int32) : Prop := ∀ k : Nat, (k : Int) < n.toInt → (op k).toInt ≠ 91
theorem InK.rf {op : Nat → Int32} {n : Int32} : InK op n n := fun _ h _ => h
theorem InK.step {op : Nat → Int32} {n m m' x : Int32} (h : InK op n m) (ex : x = op m'.toNatClampNeg) (hx : x.toInt ≠ 91) (hm : m'.toInt = m.toInt - 1) (h0 : 0 ≤ m'.toInt) : InK op n m' := fun k hk hv => by
  have h1 := h k hk hv
  by_cases z : (k : Int) = m'.toInt
  · have e : m'.toNatClampNeg = k := clN z.symm
    rw [e] at ex
    rw [ex] at hx
    exact absurd hv hx
  · omega
theorem Ins.keep {op : Nat → Int32} {n n' : Int32} (h : Ins op n) (hk : InK op n n') : Ins op n' := by
  obtain ⟨k, h1, h2⟩ := h
  exact ⟨k, hk k h1 h2, h2⟩
theorem Ins.ar {op : Nat → Int32} {n : Int32} (h : Ins op n) : 1 ≤ n.toInt := by
  obtain ⟨k, h1, h2⟩ := h
  omega
theorem LSR.drop {op : Nat → Int32} {n n' least : Int32} {sg ln : Nat → Int32} {t b md : Int32} (h : LSR op n sg ln t b md) (hE : LdE op n least) (hl : least.toInt = 1) (h1 : 1 ≤ n.toInt) (hn : n'.toInt = n.toInt - 1) : LSR op n' sg ln t b md := by
  obtain ⟨p, h2, h3⟩ := h
  obtain ⟨h4, h5⟩ := h2.pop hn h1
  have e : n'.toNatClampNeg = n.toInt.toNat - 1 := by
    show n'.toInt.toNat = _
    omega
  have hz : (op n'.toNatClampNeg).toInt ≠ 13 ∧ (op n'.toNatClampNeg).toInt ≠ 12 ∧ (op n'.toNatClampNeg).toInt ≠ 11 := by
    rw [e]
    rcases hE with z | z | z
    · omega
    · exact z (by omega)
    · omega
  rw [if_neg (by omega), Nat.sub_zero] at h4
  exact ⟨p, h4, h3⟩
theorem LSR.fin {op : Nat → Int32} {n m least : Int32} {sg ln : Nat → Int32} {t b md : Int32} (h : LSR op n sg ln t b md) (hE : LdE op n least) (hl : least.toInt = 1) (hN : NIns op m) (hm : n.toInt ≤ m.toInt) : Cd sg ln t b md 1 := by
  obtain ⟨p, h2, h3⟩ := h
  have hz : n.toInt = 0 := by
    rcases hE with z | z | z
    · exact z
    · by_cases q : n.toInt = 0
      · exact q
      · have h0 := h2.1
        have hv := h2.2.1 (n.toInt.toNat - 1) (by omega)
        have hw := hN (n.toInt.toNat - 1) (by omega)
        have hq := z (by omega)
        omega
    · omega
  have hp := h2.2.2
  rw [hz] at hp
  have : p = 0 := hp.symm
  subst this
  exact h3
theorem NIns.step {op : Nat → Int32} {k k' x : Int32} (h : NIns op k) (ex : x = op k.toNatClampNeg) (hx : ¬ x.toInt = 91) (hk : k'.toInt = k.toInt + 1) (h0 : 0 ≤ k.toInt) : NIns op k' := fun j hj => by
  by_cases z : (j : Int) = k.toInt
  · rw [← clN z.symm, ← ex]; exact hx
  · exact h j (by omega)
def NSq (f : Nat → Int32) (tp a : Int32) : Prop := a.toInt < tp.toInt → ¬ (f a.toNatClampNeg).toInt = 32
def Stl (f : Nat → Int32) (tp a b : Int32) : Prop := a.toInt < tp.toInt → ¬ (f a.toNatClampNeg).toInt = 32 → b = a
theorem Stl.rf {f : Nat → Int32} {tp a : Int32} : Stl f tp a a := fun _ _ => rfl
theorem Stl.step {f : Nat → Int32} {tp a v v' x : Int32} (h : Stl f tp a v) (ex : x = f v.toNatClampNeg) (hx : x.toInt = 32) : Stl f tp a v' := fun h1 h2 => by
  have e := h h1 h2
  subst e
  rw [ex] at hx
  exact absurd hx h2
theorem Stl.or {f : Nat → Int32} {tp a b : Int32} (h : Stl f tp a b) (h1 : NSq f tp a) : tp.toInt ≤ a.toInt ∨ b.toInt = a.toInt := by
  by_cases z : a.toInt < tp.toInt
  · right; rw [h z (h1 z)]
  · left; omega
theorem Stl.ltr {f : Nat → Int32} {tp a b : Int32} (h : Stl f tp a b) (h1 : Ltr f tp a) : Ltr f tp b ∧ b.toInt = a.toInt := by
  have e := h h1.1 (by have := h1.2.1; omega)
  subst e
  exact ⟨h1, rfl⟩
def Pw (f : Nat → Int32) (tp a b : Int32) : Prop := Ltr f tp a → a.toInt + 1 ≤ b.toInt
theorem Pw.of {f : Nat → Int32} {tp a b : Int32} (h : Adv a b) (h2 : NLtr f tp b) : Pw f tp a b := fun h1 => h.ltr h1 h2
def RulP (sg cl cs : Nat → Int32) (t : Int32) (B : Int) : Prop := RulD sg cl cs t ∧ 0 ≤ (cs t.toInt.toNat).toInt ∧ ∀ c : Nat, (c : Int) < (cs t.toInt.toNat).toInt → (WFc sg t (cl (48 * t.toInt.toNat + 4 * c)) (cl (48 * t.toInt.toNat + 4 * c + 1)) ∧ (cl (48 * t.toInt.toNat + 4 * c + 1)).toInt ≤ B) ∧ (0 ≤ (cl (48 * t.toInt.toNat + 4 * c + 2)).toInt → WFc sg t (cl (48 * t.toInt.toNat + 4 * c + 2)) (cl (48 * t.toInt.toNat + 4 * c + 3)) ∧ (cl (48 * t.toInt.toNat + 4 * c + 3)).toInt ≤ B)
theorem WFc.agr {f g : Nat → Int32} {t b e : Int32} {k : Int} (h : WFc f t b e) (ha : Agr f g k) (ht : 0 ≤ t.toInt) (hk : 400 * t.toInt + e.toInt ≤ k) : WFc g t b e := by
  obtain ⟨h1, h2⟩ := h
  refine ⟨h1, ?_⟩
  rw [dep_congr (f := f) (g := g) _ _ _ (fun i hi1 hi2 => ha i (by omega))]
  exact h2
theorem RulD.agr {sg sg' cl cs : Nat → Int32} {n : Int32} {k : Int} (h : RulD sg cl cs n) (ha : Agr sg sg' k) (hk : 400 * n.toInt ≤ k) : RulD sg' cl cs n := fun t ht => by
  obtain ⟨h1, h2⟩ := h t ht
  refine ⟨h1, fun c hc T hT => ?_⟩
  obtain ⟨h3, h4⟩ := h2 c hc T hT
  have h5 := h3.1
  refine ⟨h3.agr ha (by omega) (by omega), fun hp => ?_⟩
  have h6 := h4 hp
  have h7 := h6.1
  exact h6.agr ha (by omega) (by omega)
theorem RulP.agr {sg sg' cl cs : Nat → Int32} {t : Int32} {B k : Int} (h : RulP sg cl cs t B) (ha : Agr sg sg' k) (ht : 0 ≤ t.toInt) (hk : 400 * t.toInt + B ≤ k) (hB : 0 ≤ B) : RulP sg' cl cs t B := by
  obtain ⟨h1, h0, h2⟩ := h
  refine ⟨h1.agr ha (by omega), h0, fun c hc => ?_⟩
  obtain ⟨⟨h3, h4⟩, h5⟩ := h2 c hc
  exact ⟨⟨h3.agr ha ht (by omega), h4⟩, fun hp => ⟨(h5 hp).1.agr ha ht (by have := (h5 hp).2; omega), (h5 hp).2⟩⟩
theorem RulD.cl {sg cl cl' cs : Nat → Int32} {n : Int32} {i : Nat} {x : Int32} (h : RulD sg cl cs n) (e : cl' = upd cl i x) (hi : 48 * n.toInt ≤ (i : Int)) : RulD sg cl' cs n := fun t ht => by
  obtain ⟨h1, h2⟩ := h t ht
  subst e
  refine ⟨h1, fun c hc T hT => ?_⟩
  rw [upd_ne (by omega), upd_ne (by omega), upd_ne (by omega), upd_ne (by omega)]
  exact h2 c hc T hT
theorem RulP.cl {sg cl cl' cs : Nat → Int32} {t : Int32} {B : Int} {i : Nat} {x : Int32} (h : RulP sg cl cs t B) (e : cl' = upd cl i x) (ht : 0 ≤ t.toInt) (hi : 48 * t.toInt + 4 * (cs t.toInt.toNat).toInt ≤ (i : Int)) : RulP sg cl' cs t B := by
  obtain ⟨h1, h0, h2⟩ := h
  refine ⟨h1.cl e (by omega), h0, fun c hc => ?_⟩
  subst e
  rw [upd_ne (by omega), upd_ne (by omega), upd_ne (by omega), upd_ne (by omega)]
  exact h2 c hc
theorem RulD.cs {sg cl cs cs' : Nat → Int32} {n : Int32} {i : Nat} {x : Int32} (h : RulD sg cl cs n) (e : cs' = upd cs i x) (hi : n.toInt ≤ (i : Int)) : RulD sg cl cs' n := fun t ht => by
  subst e
  rw [upd_ne (by omega)]
  exact h t ht
theorem RulP.mono {sg cl cs : Nat → Int32} {t : Int32} {B B' : Int} (h : RulP sg cl cs t B) (hB : B ≤ B') : RulP sg cl cs t B' := by
  obtain ⟨h1, h0, h2⟩ := h
  refine ⟨h1, h0, fun c hc => ?_⟩
  obtain ⟨⟨h3, h4⟩, h5⟩ := h2 c hc
  exact ⟨⟨h3, by omega⟩, fun hp => ⟨(h5 hp).1, by have := (h5 hp).2; omega⟩⟩
theorem RulP.snoc {sg cl cs cs' : Nat → Int32} {t : Int32} {B : Int} {y : Int32} (h : RulP sg cl cs t B) (ht : 0 ≤ t.toInt) (e : cs' = upd cs t.toNatClampNeg y) (hy : y.toInt = (cs t.toInt.toNat).toInt + 1)
    (w1 : WFc sg t (cl (48 * t.toInt.toNat + 4 * (cs t.toInt.toNat).toInt.toNat)) (cl (48 * t.toInt.toNat + 4 * (cs t.toInt.toNat).toInt.toNat + 1))) (b1 : (cl (48 * t.toInt.toNat + 4 * (cs t.toInt.toNat).toInt.toNat + 1)).toInt ≤ B)
    (w2 : 0 ≤ (cl (48 * t.toInt.toNat + 4 * (cs t.toInt.toNat).toInt.toNat + 2)).toInt → WFc sg t (cl (48 * t.toInt.toNat + 4 * (cs t.toInt.toNat).toInt.toNat + 2)) (cl (48 * t.toInt.toNat + 4 * (cs t.toInt.toNat).toInt.toNat + 3)) ∧ (cl (48 * t.toInt.toNat + 4 * (cs t.toInt.toNat).toInt.toNat + 3)).toInt ≤ B) : RulP sg cl cs' t B := by
  obtain ⟨h1, h0, h2⟩ := h
  have et : t.toNatClampNeg = t.toInt.toNat := rfl
  have ec : cs' t.toInt.toNat = y := by rw [e, et, upd_at]
  refine ⟨h1.cs e (by omega), by rw [ec]; omega, fun c hc => ?_⟩
  rw [ec] at hc
  by_cases z : (c : Int) = (cs t.toInt.toNat).toInt
  · have ez : c = (cs t.toInt.toNat).toInt.toNat := by omega
    rw [ez]
    exact ⟨⟨w1, b1⟩, w2⟩
  · exact h2 c (by omega)
theorem RulP.done {sg cl cs : Nat → Int32} {t n : Int32} {B : Int} (h : RulP sg cl cs t B) (ht : 0 ≤ t.toInt) (hn : n.toInt = t.toInt + 1) (hc : (cs t.toInt.toNat).toInt ≤ 12) : RulD sg cl cs n := fun q hq => by
  by_cases z : (q : Int) = t.toInt
  · have ez : q = t.toInt.toNat := by omega
    refine ⟨by rw [ez]; exact hc, fun c hc' T hT => ?_⟩
    have eT : T = t := Int32.toInt_inj.mp (by omega)
    rw [ez] at hc' ⊢
    rw [eT]
    obtain ⟨h3, h4⟩ := h.2.2 c hc'
    exact ⟨h3.1, fun hp => (h4 hp).1⟩
  · exact h.1 q (by omega)
theorem RulP.start {sg cl cs cs' : Nat → Int32} {t : Int32} {B : Int} {x : Int32} (h : RulD sg cl cs t) (ht : 0 ≤ t.toInt) (e : cs' = upd cs t.toNatClampNeg x) (hx : x.toInt = 0) : RulP sg cl cs' t B := by
  have et : t.toNatClampNeg = t.toInt.toNat := rfl
  have ec : cs' t.toInt.toNat = x := by rw [e, et, upd_at]
  refine ⟨h.cs e (by omega), by rw [ec]; omega, fun c hc => ?_⟩
  rw [ec] at hc
  omega
theorem Cd.wf {sg ln : Nat → Int32} {t b md e : Int32} (h : Cd sg ln t b md 1) (he : e = ln t.toNatClampNeg) : WFc sg t b e := by
  subst he
  obtain ⟨h1, h2⟩ := h
  exact ⟨by omega, h2⟩
def RdO (f : Nat → Int32) : Prop := (((f 0).toInt = 1 ∧ 1 ≤ (f 2).toInt ∧ (f 2).toInt ≤ 10) ∨ ((f 0).toInt = 0 ∧ (f 3).toInt = 0)) ∧ 0 ≤ (f 3).toInt ∧ (f 3).toInt ≤ 6
theorem RdO.ar {f : Nat → Int32} (h : RdO f) : (((f 0).toInt = 1 ∧ 1 ≤ (f 2).toInt ∧ (f 2).toInt ≤ 10) ∨ ((f 0).toInt = 0 ∧ (f 3).toInt = 0)) ∧ 0 ≤ (f 3).toInt ∧ (f 3).toInt ≤ 6 := h
def RdC (f g : Nat → Int32) (c : Int32) : Prop := ∀ i : Nat, i ≠ c.toNatClampNeg → g i = f i
theorem RdC.rf {f : Nat → Int32} {c : Int32} : RdC f f c := fun _ _ => rfl
theorem RdC.up {f g : Nat → Int32} {c x : Int32} (e : g = upd f c.toNatClampNeg x) : RdC f g c := fun i hi => by rw [e, upd_ne hi]
theorem RdC.at {f g : Nat → Int32} {c : Int32} (hc : RdC f g c) (i : Nat) (hi : (i : Int) ≠ c.toInt) (h0 : 0 ≤ c.toInt) : (g i).toInt = (f i).toInt := by
  have e : c.toNatClampNeg = c.toInt.toNat := rfl
  rw [hc i (by omega)]
theorem upd_toInt_ne {f g : Nat → Int32} {i j : Nat} {x : Int32} (e : g = upd f i x) (h : j ≠ i) : (g j).toInt = (f j).toInt := by rw [e, upd_ne h]
theorem upd_toInt_at {f g : Nat → Int32} {i : Nat} {x : Int32} (e : g = upd f i x) : (g i).toInt = x.toInt := by rw [e, upd_at]
theorem RdO.of {f : Nat → Int32} (h : (((f 0).toInt = 1 ∧ 1 ≤ (f 2).toInt ∧ (f 2).toInt ≤ 10) ∨ ((f 0).toInt = 0 ∧ (f 3).toInt = 0)) ∧ 0 ≤ (f 3).toInt ∧ (f 3).toInt ≤ 6) : RdO f := h
def Rd0 (f : Nat → Int32) (k : Int32) : Prop := ∀ i : Nat, (i : Int) < k.toInt → (f i).toInt = 0
theorem Rd0.step {f g : Nat → Int32} {k k' : Int32} (h : Rd0 f k) (e : g = upd f k.toNatClampNeg 0) (hk : k'.toInt = k.toInt + 1) (h0 : 0 ≤ k.toInt) : Rd0 g k' := fun i hi => by
  have en : k.toNatClampNeg = k.toInt.toNat := rfl
  by_cases z : i = k.toNatClampNeg
  · rw [e, z, upd_at]; decide
  · rw [e, upd_ne z]; exact h i (by omega)
theorem Rd0.done {f : Nat → Int32} {k : Int32} (h : Rd0 f k) (hk : 95 ≤ k.toInt) : RdO f := by
  have h0 := h 0 (by omega)
  have h3 := h 3 (by omega)
  exact ⟨Or.inr ⟨h0, h3⟩, by omega, by omega⟩
def SdK (g f : Nat → Int32) (k : Int32) : Prop := ∀ i : Nat, (i : Int) < k.toInt → (i < 95 → g i = f i) ∧ (95 ≤ i → (g i).toInt = 0)
theorem SdK.step {g g' f : Nat → Int32} {k k' x : Int32} (h : SdK g f k) (e : g' = upd g k.toNatClampNeg x) (hx : (k.toInt < 95 ∧ x = f k.toNatClampNeg) ∨ (95 ≤ k.toInt ∧ x.toInt = 0)) (hk : k'.toInt = k.toInt + 1) (h0 : 0 ≤ k.toInt) : SdK g' f k' := fun i hi => by
  have en : k.toNatClampNeg = k.toInt.toNat := rfl
  by_cases z : i = k.toNatClampNeg
  · rw [e, z, upd_at]
    rcases hx with ⟨q, hx⟩ | ⟨q, hx⟩
    · exact ⟨fun _ => hx, fun _ => by omega⟩
    · exact ⟨fun _ => by omega, fun _ => hx⟩
  · rw [e, upd_ne z]; exact h i (by omega)
theorem SdK.done {g f : Nat → Int32} {k : Int32} (h : SdK g f k) (hf : RdO f) (hk : 126 ≤ k.toInt) : SaiB g := by
  unfold RdO at hf
  have e0 := (h 0 (by omega)).1 (by decide)
  have e2 := (h 2 (by omega)).1 (by decide)
  have e3 := (h 3 (by omega)).1 (by decide)
  have e5 := (h 125 (by omega)).2 (by decide)
  refine ⟨⟨?_, ?_, ?_, ?_, ?_⟩, fun q hq => ?_⟩
  · rw [e0, e2, e3]; exact hf.1
  · rw [e3]; exact hf.2.1
  · rw [e3]; exact hf.2.2
  · omega
  · omega
  · have := (h (95 + 3 * q) (by omega)).2 (by omega)
    omega
theorem LdE.of {op : Nat → Int32} {n least i x : Int32} (ex : x = op i.toNatClampNeg) (hi : i.toInt = n.toInt - 1) (hn : 1 ≤ n.toInt) (h : (x.toInt ≠ 13 ∧ x.toInt ≠ 12 ∧ x.toInt ≠ 11) ∨ 1 < least.toInt) : LdE op n least := by
  have e : i.toNatClampNeg = n.toInt.toNat - 1 := by
    show i.toInt.toNat = _
    omega
  rw [e] at ex
  rcases h with h | h
  · right; left; intro _; rw [← ex]; exact h
  · right; right; exact h
theorem Ins.of {op : Nat → Int32} {n k x : Int32} (ex : x = op k.toNatClampNeg) (hx : x.toInt = 91) (hk : 0 ≤ k.toInt ∧ k.toInt < n.toInt) : Ins op n := by
  refine ⟨k.toInt.toNat, by omega, ?_⟩
  rw [ex] at hx
  exact hx
theorem NIns.ge {op : Nat → Int32} {n k : Int32} (h : NIns op k) (hk : n.toInt ≤ k.toInt) : NIns op n := fun j hj => h j (by omega)
theorem NIns.nil {op : Nat → Int32} {k : Int32} (hk : k.toInt = 0) : NIns op k := fun j hj => by omega
def LX (op : Nat → Int32) (n : Int32) (sg ln : Nat → Int32) (t b md g : Int32) : Prop := (g.toInt = 1 → LBR op n sg ln t b md) ∧ (g.toInt = 0 → LSR op n sg ln t b md)
def ClV (cl : Nat → Int32) (A j : Nat) (v : Int32) : Prop := cl (A + j) = v
theorem ClV.put {cl cl' : Nat → Int32} {A j : Nat} {i x : Int32} (e : cl' = upd cl i.toNatClampNeg x) (hi : i.toInt = (A : Int) + (j : Int)) : ClV cl' A j x := by
  unfold ClV
  rw [e, clN (i := i) (n := A + j) (by omega), upd_at]
theorem ClV.keep {cl cl' : Nat → Int32} {A j : Nat} {v i x : Int32} (h : ClV cl A j v) (e : cl' = upd cl i.toNatClampNeg x) (hi : ¬ i.toInt = (A : Int) + (j : Int)) (h0 : 0 ≤ i.toInt) : ClV cl' A j v := by
  have en : i.toNatClampNeg = i.toInt.toNat := rfl
  unfold ClV at *
  rw [e, upd_ne (by omega)]
  exact h
def RuG (sg cl cs : Nat → Int32) (t : Int32) (B : Int) (g : Int32) : Prop := g.toInt = 1 → RulP sg cl cs t B
def RdG (f : Nat → Int32) (g : Int32) : Prop := g.toInt = 1 → RdO f
theorem dX12_compare_0 : decode cX12_compare 0 = .ok (.aload_n 0, 1) := by decide +kernel
theorem dX12_compare_1 : decode cX12_compare 1 = .ok (.invokevirtual 182, 3) := by decide +kernel
theorem dX12_compare_4 : decode cX12_compare 4 = .ok (.ifCond .ne 5, 3) := by decide +kernel
theorem dX12_compare_7 : decode cX12_compare 7 = .ok (.iconst 0, 1) := by decide +kernel
theorem dX12_compare_8 : decode cX12_compare 8 = .ok (.ireturn, 1) := by decide +kernel
theorem dX12_compare_9 : decode cX12_compare 9 = .ok (.aload_n 0, 1) := by decide +kernel
theorem dX12_compare_10 : decode cX12_compare 10 = .ok (.invokevirtual 90, 3) := by decide +kernel
theorem dX12_compare_13 : decode cX12_compare 13 = .ok (.istore_n 1, 1) := by decide +kernel
theorem dX12_compare_14 : decode cX12_compare 14 = .ok (.aload_n 0, 1) := by decide +kernel
theorem dX12_compare_15 : decode cX12_compare 15 = .ok (.getfield 87, 3) := by decide +kernel
theorem dX12_compare_18 : decode cX12_compare 18 = .ok (.istore_n 2, 1) := by decide +kernel
theorem dX12_compare_19 : decode cX12_compare 19 = .ok (.iload_n 1, 1) := by decide +kernel
theorem dX12_compare_20 : decode cX12_compare 20 = .ok (.bipush 60, 2) := by decide +kernel
theorem dX12_compare_22 : decode cX12_compare 22 = .ok (.if_icmp .eq 22, 3) := by decide +kernel
theorem dX12_compare_25 : decode cX12_compare 25 = .ok (.iload_n 1, 1) := by decide +kernel
theorem dX12_compare_26 : decode cX12_compare 26 = .ok (.bipush 61, 2) := by decide +kernel
theorem dX12_compare_28 : decode cX12_compare 28 = .ok (.if_icmp .eq 16, 3) := by decide +kernel
theorem dX12_compare_31 : decode cX12_compare 31 = .ok (.iload_n 1, 1) := by decide +kernel
theorem dX12_compare_32 : decode cX12_compare 32 = .ok (.bipush 62, 2) := by decide +kernel
theorem dX12_compare_34 : decode cX12_compare 34 = .ok (.if_icmp .eq 10, 3) := by decide +kernel
theorem dX12_compare_37 : decode cX12_compare 37 = .ok (.aload_n 0, 1) := by decide +kernel
theorem dX12_compare_38 : decode cX12_compare 38 = .ok (.iconst 0, 1) := by decide +kernel
theorem dX12_compare_39 : decode cX12_compare 39 = .ok (.iload_n 2, 1) := by decide +kernel
theorem dX12_compare_40 : decode cX12_compare 40 = .ok (.invokevirtual 108, 3) := by decide +kernel
theorem dX12_compare_43 : decode cX12_compare 43 = .ok (.ireturn, 1) := by decide +kernel
theorem dX12_compare_44 : decode cX12_compare 44 = .ok (.aload_n 0, 1) := by decide +kernel
theorem dX12_compare_45 : decode cX12_compare 45 = .ok (.dup, 1) := by decide +kernel
theorem dX12_compare_46 : decode cX12_compare 46 = .ok (.getfield 87, 3) := by decide +kernel
theorem dX12_compare_49 : decode cX12_compare 49 = .ok (.iconst 1, 1) := by decide +kernel
theorem dX12_compare_50 : decode cX12_compare 50 = .ok (.iadd, 1) := by decide +kernel
theorem dX12_compare_51 : decode cX12_compare 51 = .ok (.putfield 87, 3) := by decide +kernel
theorem dX12_compare_54 : decode cX12_compare 54 = .ok (.iload_n 1, 1) := by decide +kernel
theorem dX12_compare_55 : decode cX12_compare 55 = .ok (.bipush 61, 2) := by decide +kernel
theorem dX12_compare_57 : decode cX12_compare 57 = .ok (.if_icmp .eq 32, 3) := by decide +kernel
theorem dX12_compare_60 : decode cX12_compare 60 = .ok (.aload_n 0, 1) := by decide +kernel
theorem dX12_compare_61 : decode cX12_compare 61 = .ok (.getfield 87, 3) := by decide +kernel
theorem dX12_compare_64 : decode cX12_compare 64 = .ok (.aload_n 0, 1) := by decide +kernel
theorem dX12_compare_65 : decode cX12_compare 65 = .ok (.getfield 77, 3) := by decide +kernel
theorem dX12_compare_68 : decode cX12_compare 68 = .ok (.if_icmp .ge 21, 3) := by decide +kernel
theorem dX12_compare_71 : decode cX12_compare 71 = .ok (.aload_n 0, 1) := by decide +kernel
theorem dX12_compare_72 : decode cX12_compare 72 = .ok (.getfield 7, 3) := by decide +kernel
theorem dX12_compare_75 : decode cX12_compare 75 = .ok (.aload_n 0, 1) := by decide +kernel
theorem dX12_compare_76 : decode cX12_compare 76 = .ok (.getfield 87, 3) := by decide +kernel
theorem dX12_compare_79 : decode cX12_compare 79 = .ok (.baload, 1) := by decide +kernel
theorem dX12_compare_80 : decode cX12_compare 80 = .ok (.bipush 61, 2) := by decide +kernel
theorem dX12_compare_82 : decode cX12_compare 82 = .ok (.if_icmp .ne 7, 3) := by decide +kernel
theorem dX12_compare_85 : decode cX12_compare 85 = .ok (.iconst 1, 1) := by decide +kernel
theorem dX12_compare_86 : decode cX12_compare 86 = .ok (.goto 4, 3) := by decide +kernel
theorem dX12_compare_89 : decode cX12_compare 89 = .ok (.iconst 0, 1) := by decide +kernel
theorem dX12_compare_90 : decode cX12_compare 90 = .ok (.istore_n 3, 1) := by decide +kernel
theorem dX12_compare_91 : decode cX12_compare 91 = .ok (.iload_n 3, 1) := by decide +kernel
theorem dX12_compare_92 : decode cX12_compare 92 = .ok (.ifCond .eq 13, 3) := by decide +kernel
theorem dX12_compare_95 : decode cX12_compare 95 = .ok (.aload_n 0, 1) := by decide +kernel
theorem dX12_compare_96 : decode cX12_compare 96 = .ok (.dup, 1) := by decide +kernel
theorem dX12_compare_97 : decode cX12_compare 97 = .ok (.getfield 87, 3) := by decide +kernel
theorem dX12_compare_100 : decode cX12_compare 100 = .ok (.iconst 1, 1) := by decide +kernel
theorem dX12_compare_101 : decode cX12_compare 101 = .ok (.iadd, 1) := by decide +kernel
theorem dX12_compare_102 : decode cX12_compare 102 = .ok (.putfield 87, 3) := by decide +kernel
theorem dX12_compare_105 : decode cX12_compare 105 = .ok (.aload_n 0, 1) := by decide +kernel
theorem dX12_compare_106 : decode cX12_compare 106 = .ok (.iload_n 2, 1) := by decide +kernel
theorem dX12_compare_107 : decode cX12_compare 107 = .ok (.invokevirtual 169, 3) := by decide +kernel
theorem dX12_compare_110 : decode cX12_compare 110 = .ok (.ifCond .ne 5, 3) := by decide +kernel
theorem dX12_compare_113 : decode cX12_compare 113 = .ok (.iconst 0, 1) := by decide +kernel
theorem dX12_compare_114 : decode cX12_compare 114 = .ok (.ireturn, 1) := by decide +kernel
theorem dX12_compare_115 : decode cX12_compare 115 = .ok (.iload_n 1, 1) := by decide +kernel
theorem dX12_compare_116 : decode cX12_compare 116 = .ok (.bipush 60, 2) := by decide +kernel
theorem dX12_compare_118 : decode cX12_compare 118 = .ok (.if_icmp .ne 15, 3) := by decide +kernel
theorem dX12_compare_121 : decode cX12_compare 121 = .ok (.iload_n 3, 1) := by decide +kernel
theorem dX12_compare_122 : decode cX12_compare 122 = .ok (.ifCond .eq 7, 3) := by decide +kernel
theorem dX12_compare_125 : decode cX12_compare 125 = .ok (.iconst 1, 1) := by decide +kernel
theorem dX12_compare_126 : decode cX12_compare 126 = .ok (.goto 26, 3) := by decide +kernel
theorem dX12_compare_129 : decode cX12_compare 129 = .ok (.iconst 0, 1) := by decide +kernel
theorem dX12_compare_130 : decode cX12_compare 130 = .ok (.goto 22, 3) := by decide +kernel
theorem dX12_compare_133 : decode cX12_compare 133 = .ok (.iload_n 1, 1) := by decide +kernel
theorem dX12_compare_134 : decode cX12_compare 134 = .ok (.bipush 61, 2) := by decide +kernel
theorem dX12_compare_136 : decode cX12_compare 136 = .ok (.if_icmp .ne 7, 3) := by decide +kernel
theorem dX12_compare_139 : decode cX12_compare 139 = .ok (.iconst 2, 1) := by decide +kernel
theorem dX12_compare_140 : decode cX12_compare 140 = .ok (.goto 12, 3) := by decide +kernel
theorem dX12_compare_143 : decode cX12_compare 143 = .ok (.iload_n 3, 1) := by decide +kernel
theorem dX12_compare_144 : decode cX12_compare 144 = .ok (.ifCond .eq 7, 3) := by decide +kernel
theorem dX12_compare_147 : decode cX12_compare 147 = .ok (.iconst 3, 1) := by decide +kernel
theorem dX12_compare_148 : decode cX12_compare 148 = .ok (.goto 4, 3) := by decide +kernel
theorem dX12_compare_151 : decode cX12_compare 151 = .ok (.iconst 4, 1) := by decide +kernel
theorem dX12_compare_152 : decode cX12_compare 152 = .ok (.istore 4, 2) := by decide +kernel
theorem dX12_compare_154 : decode cX12_compare 154 = .ok (.aload_n 0, 1) := by decide +kernel
theorem dX12_compare_155 : decode cX12_compare 155 = .ok (.invokevirtual 182, 3) := by decide +kernel
theorem dX12_compare_158 : decode cX12_compare 158 = .ok (.ifCond .ne 5, 3) := by decide +kernel
theorem dX12_compare_161 : decode cX12_compare 161 = .ok (.iconst 0, 1) := by decide +kernel
theorem dX12_compare_162 : decode cX12_compare 162 = .ok (.ireturn, 1) := by decide +kernel
theorem dX12_compare_163 : decode cX12_compare 163 = .ok (.aload_n 0, 1) := by decide +kernel
theorem dX12_compare_164 : decode cX12_compare 164 = .ok (.bipush 6, 2) := by decide +kernel
theorem dX12_compare_166 : decode cX12_compare 166 = .ok (.iload 4, 2) := by decide +kernel
theorem dX12_compare_168 : decode cX12_compare 168 = .ok (.iadd, 1) := by decide +kernel
theorem dX12_compare_169 : decode cX12_compare 169 = .ok (.iconst 0, 1) := by decide +kernel
theorem dX12_compare_170 : decode cX12_compare 170 = .ok (.invokevirtual 161, 3) := by decide +kernel
theorem dX12_compare_173 : decode cX12_compare 173 = .ok (.iconst 1, 1) := by decide +kernel
theorem dX12_compare_174 : decode cX12_compare 174 = .ok (.ireturn, 1) := by decide +kernel
theorem dX12_fails_0 : decode cX12_fails 0 = .ok (.aload_n 0, 1) := by decide +kernel
theorem dX12_fails_1 : decode cX12_fails 1 = .ok (.getfield 84, 3) := by decide +kernel
theorem dX12_fails_4 : decode cX12_fails 4 = .ok (.ifCond .ne 15, 3) := by decide +kernel
theorem dX12_fails_7 : decode cX12_fails 7 = .ok (.aload_n 0, 1) := by decide +kernel
theorem dX12_fails_8 : decode cX12_fails 8 = .ok (.iconst 1, 1) := by decide +kernel
theorem dX12_fails_9 : decode cX12_fails 9 = .ok (.bipush 8, 2) := by decide +kernel
theorem dX12_fails_11 : decode cX12_fails 11 = .ok (.iload_n 2, 1) := by decide +kernel
theorem dX12_fails_12 : decode cX12_fails 12 = .ok (.imul, 1) := by decide +kernel
theorem dX12_fails_13 : decode cX12_fails 13 = .ok (.iadd, 1) := by decide +kernel
theorem dX12_fails_14 : decode cX12_fails 14 = .ok (.iload_n 1, 1) := by decide +kernel
theorem dX12_fails_15 : decode cX12_fails 15 = .ok (.iadd, 1) := by decide +kernel
theorem dX12_fails_16 : decode cX12_fails 16 = .ok (.putfield 84, 3) := by decide +kernel
theorem dX12_fails_19 : decode cX12_fails 19 = .ok (.iconst 0, 1) := by decide +kernel
theorem dX12_fails_20 : decode cX12_fails 20 = .ok (.ireturn, 1) := by decide +kernel
theorem dX12_isDigit_0 : decode cX12_isDigit 0 = .ok (.iload_n 1, 1) := by decide +kernel
theorem dX12_isDigit_1 : decode cX12_isDigit 1 = .ok (.aload_n 0, 1) := by decide +kernel
theorem dX12_isDigit_2 : decode cX12_isDigit 2 = .ok (.getfield 77, 3) := by decide +kernel
theorem dX12_isDigit_5 : decode cX12_isDigit 5 = .ok (.if_icmp .ge 29, 3) := by decide +kernel
theorem dX12_isDigit_8 : decode cX12_isDigit 8 = .ok (.aload_n 0, 1) := by decide +kernel
theorem dX12_isDigit_9 : decode cX12_isDigit 9 = .ok (.getfield 7, 3) := by decide +kernel
theorem dX12_isDigit_12 : decode cX12_isDigit 12 = .ok (.iload_n 1, 1) := by decide +kernel
theorem dX12_isDigit_13 : decode cX12_isDigit 13 = .ok (.baload, 1) := by decide +kernel
theorem dX12_isDigit_14 : decode cX12_isDigit 14 = .ok (.bipush 48, 2) := by decide +kernel
theorem dX12_isDigit_16 : decode cX12_isDigit 16 = .ok (.if_icmp .lt 18, 3) := by decide +kernel
theorem dX12_isDigit_19 : decode cX12_isDigit 19 = .ok (.aload_n 0, 1) := by decide +kernel
theorem dX12_isDigit_20 : decode cX12_isDigit 20 = .ok (.getfield 7, 3) := by decide +kernel
theorem dX12_isDigit_23 : decode cX12_isDigit 23 = .ok (.iload_n 1, 1) := by decide +kernel
theorem dX12_isDigit_24 : decode cX12_isDigit 24 = .ok (.baload, 1) := by decide +kernel
theorem dX12_isDigit_25 : decode cX12_isDigit 25 = .ok (.bipush 57, 2) := by decide +kernel
theorem dX12_isDigit_27 : decode cX12_isDigit 27 = .ok (.if_icmp .gt 7, 3) := by decide +kernel
theorem dX12_isDigit_30 : decode cX12_isDigit 30 = .ok (.iconst 1, 1) := by decide +kernel
theorem dX12_isDigit_31 : decode cX12_isDigit 31 = .ok (.goto 4, 3) := by decide +kernel
theorem dX12_isDigit_34 : decode cX12_isDigit 34 = .ok (.iconst 0, 1) := by decide +kernel
theorem dX12_isDigit_35 : decode cX12_isDigit 35 = .ok (.ireturn, 1) := by decide +kernel
theorem dX12_isLetter_0 : decode cX12_isLetter 0 = .ok (.iload_n 1, 1) := by decide +kernel
theorem dX12_isLetter_1 : decode cX12_isLetter 1 = .ok (.aload_n 0, 1) := by decide +kernel
theorem dX12_isLetter_2 : decode cX12_isLetter 2 = .ok (.getfield 77, 3) := by decide +kernel
theorem dX12_isLetter_5 : decode cX12_isLetter 5 = .ok (.if_icmp .ge 29, 3) := by decide +kernel
theorem dX12_isLetter_8 : decode cX12_isLetter 8 = .ok (.aload_n 0, 1) := by decide +kernel
theorem dX12_isLetter_9 : decode cX12_isLetter 9 = .ok (.getfield 7, 3) := by decide +kernel
theorem dX12_isLetter_12 : decode cX12_isLetter 12 = .ok (.iload_n 1, 1) := by decide +kernel
theorem dX12_isLetter_13 : decode cX12_isLetter 13 = .ok (.baload, 1) := by decide +kernel
theorem dX12_isLetter_14 : decode cX12_isLetter 14 = .ok (.bipush 97, 2) := by decide +kernel
theorem dX12_isLetter_16 : decode cX12_isLetter 16 = .ok (.if_icmp .lt 18, 3) := by decide +kernel
theorem dX12_isLetter_19 : decode cX12_isLetter 19 = .ok (.aload_n 0, 1) := by decide +kernel
theorem dX12_isLetter_20 : decode cX12_isLetter 20 = .ok (.getfield 7, 3) := by decide +kernel
theorem dX12_isLetter_23 : decode cX12_isLetter 23 = .ok (.iload_n 1, 1) := by decide +kernel
theorem dX12_isLetter_24 : decode cX12_isLetter 24 = .ok (.baload, 1) := by decide +kernel
theorem dX12_isLetter_25 : decode cX12_isLetter 25 = .ok (.bipush 122, 2) := by decide +kernel
theorem dX12_isLetter_27 : decode cX12_isLetter 27 = .ok (.if_icmp .gt 7, 3) := by decide +kernel
theorem dX12_isLetter_30 : decode cX12_isLetter 30 = .ok (.iconst 1, 1) := by decide +kernel
theorem dX12_isLetter_31 : decode cX12_isLetter 31 = .ok (.goto 4, 3) := by decide +kernel
theorem dX12_isLetter_34 : decode cX12_isLetter 34 = .ok (.iconst 0, 1) := by decide +kernel
theorem dX12_isLetter_35 : decode cX12_isLetter 35 = .ok (.ireturn, 1) := by decide +kernel
theorem dX12_isWord_0 : decode cX12_isWord 0 = .ok (.aload_n 0, 1) := by decide +kernel
theorem dX12_isWord_1 : decode cX12_isWord 1 = .ok (.invokevirtual 90, 3) := by decide +kernel
theorem dX12_isWord_4 : decode cX12_isWord 4 = .ok (.pop, 1) := by decide +kernel
theorem dX12_isWord_5 : decode cX12_isWord 5 = .ok (.lconst 0, 1) := by decide +kernel
theorem dX12_isWord_6 : decode cX12_isWord 6 = .ok (.lstore_n 3, 1) := by decide +kernel
theorem dX12_isWord_7 : decode cX12_isWord 7 = .ok (.iconst 0, 1) := by decide +kernel
theorem dX12_isWord_8 : decode cX12_isWord 8 = .ok (.istore 5, 2) := by decide +kernel
theorem dX12_isWord_10 : decode cX12_isWord 10 = .ok (.aload_n 0, 1) := by decide +kernel
theorem dX12_isWord_11 : decode cX12_isWord 11 = .ok (.aload_n 0, 1) := by decide +kernel
theorem dX12_isWord_12 : decode cX12_isWord 12 = .ok (.getfield 87, 3) := by decide +kernel
theorem dX12_isWord_15 : decode cX12_isWord 15 = .ok (.iload 5, 2) := by decide +kernel
theorem dX12_isWord_17 : decode cX12_isWord 17 = .ok (.iadd, 1) := by decide +kernel
theorem dX12_isWord_18 : decode cX12_isWord 18 = .ok (.invokevirtual 94, 3) := by decide +kernel
theorem dX12_isWord_21 : decode cX12_isWord 21 = .ok (.ifCond .eq 35, 3) := by decide +kernel
theorem dX12_isWord_24 : decode cX12_isWord 24 = .ok (.iload 5, 2) := by decide +kernel
theorem dX12_isWord_26 : decode cX12_isWord 26 = .ok (.bipush 8, 2) := by decide +kernel
theorem dX12_isWord_28 : decode cX12_isWord 28 = .ok (.if_icmp .ge 22, 3) := by decide +kernel
theorem dX12_isWord_31 : decode cX12_isWord 31 = .ok (.lload_n 3, 1) := by decide +kernel
theorem dX12_isWord_32 : decode cX12_isWord 32 = .ok (.bipush 8, 2) := by decide +kernel
theorem dX12_isWord_34 : decode cX12_isWord 34 = .ok (.lshl, 1) := by decide +kernel
theorem dX12_isWord_35 : decode cX12_isWord 35 = .ok (.aload_n 0, 1) := by decide +kernel
theorem dX12_isWord_36 : decode cX12_isWord 36 = .ok (.getfield 7, 3) := by decide +kernel
theorem dX12_isWord_39 : decode cX12_isWord 39 = .ok (.aload_n 0, 1) := by decide +kernel
theorem dX12_isWord_40 : decode cX12_isWord 40 = .ok (.getfield 87, 3) := by decide +kernel
theorem dX12_isWord_43 : decode cX12_isWord 43 = .ok (.iload 5, 2) := by decide +kernel
theorem dX12_isWord_45 : decode cX12_isWord 45 = .ok (.iadd, 1) := by decide +kernel
theorem dX12_isWord_46 : decode cX12_isWord 46 = .ok (.baload, 1) := by decide +kernel
theorem dX12_isWord_47 : decode cX12_isWord 47 = .ok (.i2l, 1) := by decide +kernel
theorem dX12_isWord_48 : decode cX12_isWord 48 = .ok (.lor, 1) := by decide +kernel
theorem dX12_isWord_49 : decode cX12_isWord 49 = .ok (.lstore_n 3, 1) := by decide +kernel
theorem dX12_isWord_50 : decode cX12_isWord 50 = .ok (.iinc 5 1, 3) := by decide +kernel
theorem dX12_isWord_53 : decode cX12_isWord 53 = .ok (.goto (-43), 3) := by decide +kernel
theorem dX12_isWord_56 : decode cX12_isWord 56 = .ok (.iload 5, 2) := by decide +kernel
theorem dX12_isWord_58 : decode cX12_isWord 58 = .ok (.ifCond .le 20, 3) := by decide +kernel
theorem dX12_isWord_61 : decode cX12_isWord 61 = .ok (.iload 5, 2) := by decide +kernel
theorem dX12_isWord_63 : decode cX12_isWord 63 = .ok (.bipush 8, 2) := by decide +kernel
theorem dX12_isWord_65 : decode cX12_isWord 65 = .ok (.if_icmp .ge 13, 3) := by decide +kernel
theorem dX12_isWord_68 : decode cX12_isWord 68 = .ok (.lload_n 3, 1) := by decide +kernel
theorem dX12_isWord_69 : decode cX12_isWord 69 = .ok (.lload_n 1, 1) := by decide +kernel
theorem dX12_isWord_70 : decode cX12_isWord 70 = .ok (.lcmp, 1) := by decide +kernel
theorem dX12_isWord_71 : decode cX12_isWord 71 = .ok (.ifCond .ne 7, 3) := by decide +kernel
theorem dX12_isWord_74 : decode cX12_isWord 74 = .ok (.iconst 1, 1) := by decide +kernel
theorem dX12_isWord_75 : decode cX12_isWord 75 = .ok (.goto 4, 3) := by decide +kernel
theorem dX12_isWord_78 : decode cX12_isWord 78 = .ok (.iconst 0, 1) := by decide +kernel
theorem dX12_isWord_79 : decode cX12_isWord 79 = .ok (.ireturn, 1) := by decide +kernel
theorem dX12_makes_0 : decode cX12_makes 0 = .ok (.aload_n 0, 1) := by decide +kernel
theorem dX12_makes_1 : decode cX12_makes 1 = .ok (.getfield 148, 3) := by decide +kernel
theorem dX12_makes_4 : decode cX12_makes 4 = .ok (.bipush 60, 2) := by decide +kernel
theorem dX12_makes_6 : decode cX12_makes 6 = .ok (.if_icmp .ne 10, 3) := by decide +kernel
theorem dX12_makes_9 : decode cX12_makes 9 = .ok (.aload_n 0, 1) := by decide +kernel
theorem dX12_makes_10 : decode cX12_makes 10 = .ok (.iconst 3, 1) := by decide +kernel
theorem dX12_makes_11 : decode cX12_makes 11 = .ok (.iload_n 1, 1) := by decide +kernel
theorem dX12_makes_12 : decode cX12_makes 12 = .ok (.invokevirtual 108, 3) := by decide +kernel
theorem dX12_makes_15 : decode cX12_makes 15 = .ok (.ireturn, 1) := by decide +kernel
theorem dX12_makes_16 : decode cX12_makes 16 = .ok (.aload_n 0, 1) := by decide +kernel
theorem dX12_makes_17 : decode cX12_makes 17 = .ok (.dup, 1) := by decide +kernel
theorem dX12_makes_18 : decode cX12_makes 18 = .ok (.getfield 148, 3) := by decide +kernel
theorem dX12_makes_21 : decode cX12_makes 21 = .ok (.iconst 1, 1) := by decide +kernel
theorem dX12_makes_22 : decode cX12_makes 22 = .ok (.iadd, 1) := by decide +kernel
theorem dX12_makes_23 : decode cX12_makes 23 = .ok (.putfield 148, 3) := by decide +kernel
theorem dX12_makes_26 : decode cX12_makes 26 = .ok (.iconst 1, 1) := by decide +kernel
theorem dX12_makes_27 : decode cX12_makes 27 = .ok (.ireturn, 1) := by decide +kernel
theorem dX12_numberHere_0 : decode cX12_numberHere 0 = .ok (.aload_n 0, 1) := by decide +kernel
theorem dX12_numberHere_1 : decode cX12_numberHere 1 = .ok (.invokevirtual 90, 3) := by decide +kernel
theorem dX12_numberHere_4 : decode cX12_numberHere 4 = .ok (.pop, 1) := by decide +kernel
theorem dX12_numberHere_5 : decode cX12_numberHere 5 = .ok (.aload_n 0, 1) := by decide +kernel
theorem dX12_numberHere_6 : decode cX12_numberHere 6 = .ok (.aload_n 0, 1) := by decide +kernel
theorem dX12_numberHere_7 : decode cX12_numberHere 7 = .ok (.getfield 87, 3) := by decide +kernel
theorem dX12_numberHere_10 : decode cX12_numberHere 10 = .ok (.invokevirtual 105, 3) := by decide +kernel
theorem dX12_numberHere_13 : decode cX12_numberHere 13 = .ok (.ifCond .ne 13, 3) := by decide +kernel
theorem dX12_numberHere_16 : decode cX12_numberHere 16 = .ok (.aload_n 0, 1) := by decide +kernel
theorem dX12_numberHere_17 : decode cX12_numberHere 17 = .ok (.iconst 0, 1) := by decide +kernel
theorem dX12_numberHere_18 : decode cX12_numberHere 18 = .ok (.aload_n 0, 1) := by decide +kernel
theorem dX12_numberHere_19 : decode cX12_numberHere 19 = .ok (.getfield 87, 3) := by decide +kernel
theorem dX12_numberHere_22 : decode cX12_numberHere 22 = .ok (.invokevirtual 108, 3) := by decide +kernel
theorem dX12_numberHere_25 : decode cX12_numberHere 25 = .ok (.ireturn, 1) := by decide +kernel
theorem dX12_numberHere_26 : decode cX12_numberHere 26 = .ok (.aload_n 0, 1) := by decide +kernel
theorem dX12_numberHere_27 : decode cX12_numberHere 27 = .ok (.getfield 87, 3) := by decide +kernel
theorem dX12_numberHere_30 : decode cX12_numberHere 30 = .ok (.istore_n 3, 1) := by decide +kernel
theorem dX12_numberHere_31 : decode cX12_numberHere 31 = .ok (.iconst 0, 1) := by decide +kernel
theorem dX12_numberHere_32 : decode cX12_numberHere 32 = .ok (.istore 4, 2) := by decide +kernel
theorem dX12_numberHere_34 : decode cX12_numberHere 34 = .ok (.aload_n 0, 1) := by decide +kernel
theorem dX12_numberHere_35 : decode cX12_numberHere 35 = .ok (.aload_n 0, 1) := by decide +kernel
theorem dX12_numberHere_36 : decode cX12_numberHere 36 = .ok (.getfield 87, 3) := by decide +kernel
theorem dX12_numberHere_39 : decode cX12_numberHere 39 = .ok (.invokevirtual 105, 3) := by decide +kernel
theorem dX12_numberHere_42 : decode cX12_numberHere 42 = .ok (.ifCond .eq 46, 3) := by decide +kernel
theorem dX12_numberHere_45 : decode cX12_numberHere 45 = .ok (.aload_n 0, 1) := by decide +kernel
theorem dX12_numberHere_46 : decode cX12_numberHere 46 = .ok (.getfield 87, 3) := by decide +kernel
theorem dX12_numberHere_49 : decode cX12_numberHere 49 = .ok (.iload_n 3, 1) := by decide +kernel
theorem dX12_numberHere_50 : decode cX12_numberHere 50 = .ok (.isub, 1) := by decide +kernel
theorem dX12_numberHere_51 : decode cX12_numberHere 51 = .ok (.iconst 5, 1) := by decide +kernel
theorem dX12_numberHere_52 : decode cX12_numberHere 52 = .ok (.if_icmp .ge 23, 3) := by decide +kernel
theorem dX12_numberHere_55 : decode cX12_numberHere 55 = .ok (.bipush 10, 2) := by decide +kernel
theorem dX12_numberHere_57 : decode cX12_numberHere 57 = .ok (.iload 4, 2) := by decide +kernel
theorem dX12_numberHere_59 : decode cX12_numberHere 59 = .ok (.imul, 1) := by decide +kernel
theorem dX12_numberHere_60 : decode cX12_numberHere 60 = .ok (.aload_n 0, 1) := by decide +kernel
theorem dX12_numberHere_61 : decode cX12_numberHere 61 = .ok (.getfield 7, 3) := by decide +kernel
theorem dX12_numberHere_64 : decode cX12_numberHere 64 = .ok (.aload_n 0, 1) := by decide +kernel
theorem dX12_numberHere_65 : decode cX12_numberHere 65 = .ok (.getfield 87, 3) := by decide +kernel
theorem dX12_numberHere_68 : decode cX12_numberHere 68 = .ok (.baload, 1) := by decide +kernel
theorem dX12_numberHere_69 : decode cX12_numberHere 69 = .ok (.iadd, 1) := by decide +kernel
theorem dX12_numberHere_70 : decode cX12_numberHere 70 = .ok (.bipush 48, 2) := by decide +kernel
theorem dX12_numberHere_72 : decode cX12_numberHere 72 = .ok (.isub, 1) := by decide +kernel
theorem dX12_numberHere_73 : decode cX12_numberHere 73 = .ok (.istore 4, 2) := by decide +kernel
theorem dX12_numberHere_75 : decode cX12_numberHere 75 = .ok (.aload_n 0, 1) := by decide +kernel
theorem dX12_numberHere_76 : decode cX12_numberHere 76 = .ok (.dup, 1) := by decide +kernel
theorem dX12_numberHere_77 : decode cX12_numberHere 77 = .ok (.getfield 87, 3) := by decide +kernel
theorem dX12_numberHere_80 : decode cX12_numberHere 80 = .ok (.iconst 1, 1) := by decide +kernel
theorem dX12_numberHere_81 : decode cX12_numberHere 81 = .ok (.iadd, 1) := by decide +kernel
theorem dX12_numberHere_82 : decode cX12_numberHere 82 = .ok (.putfield 87, 3) := by decide +kernel
theorem dX12_numberHere_85 : decode cX12_numberHere 85 = .ok (.goto (-51), 3) := by decide +kernel
theorem dX12_numberHere_88 : decode cX12_numberHere 88 = .ok (.aload_n 0, 1) := by decide +kernel
theorem dX12_numberHere_89 : decode cX12_numberHere 89 = .ok (.iload 4, 2) := by decide +kernel
theorem dX12_numberHere_91 : decode cX12_numberHere 91 = .ok (.putfield 112, 3) := by decide +kernel
theorem dX12_numberHere_94 : decode cX12_numberHere 94 = .ok (.aload_n 0, 1) := by decide +kernel
theorem dX12_numberHere_95 : decode cX12_numberHere 95 = .ok (.getfield 87, 3) := by decide +kernel
theorem dX12_numberHere_98 : decode cX12_numberHere 98 = .ok (.iload_n 3, 1) := by decide +kernel
theorem dX12_numberHere_99 : decode cX12_numberHere 99 = .ok (.isub, 1) := by decide +kernel
theorem dX12_numberHere_100 : decode cX12_numberHere 100 = .ok (.iconst 5, 1) := by decide +kernel
theorem dX12_numberHere_101 : decode cX12_numberHere 101 = .ok (.if_icmp .gt 16, 3) := by decide +kernel
theorem dX12_numberHere_104 : decode cX12_numberHere 104 = .ok (.iload 4, 2) := by decide +kernel
theorem dX12_numberHere_106 : decode cX12_numberHere 106 = .ok (.i2l, 1) := by decide +kernel
theorem dX12_numberHere_107 : decode cX12_numberHere 107 = .ok (.iload_n 1, 1) := by decide +kernel
theorem dX12_numberHere_108 : decode cX12_numberHere 108 = .ok (.i2l, 1) := by decide +kernel
theorem dX12_numberHere_109 : decode cX12_numberHere 109 = .ok (.iload_n 2, 1) := by decide +kernel
theorem dX12_numberHere_110 : decode cX12_numberHere 110 = .ok (.i2l, 1) := by decide +kernel
theorem dX12_numberHere_111 : decode cX12_numberHere 111 = .ok (.invokestatic 115, 3) := by decide +kernel
theorem dX12_numberHere_114 : decode cX12_numberHere 114 = .ok (.ifCond .ne 12, 3) := by decide +kernel
theorem dX12_numberHere_117 : decode cX12_numberHere 117 = .ok (.aload_n 0, 1) := by decide +kernel
theorem dX12_numberHere_118 : decode cX12_numberHere 118 = .ok (.iconst 1, 1) := by decide +kernel
theorem dX12_numberHere_119 : decode cX12_numberHere 119 = .ok (.iload_n 3, 1) := by decide +kernel
theorem dX12_numberHere_120 : decode cX12_numberHere 120 = .ok (.invokevirtual 108, 3) := by decide +kernel
theorem dX12_numberHere_123 : decode cX12_numberHere 123 = .ok (.ifCond .eq 7, 3) := by decide +kernel
theorem dX12_numberHere_126 : decode cX12_numberHere 126 = .ok (.iconst 1, 1) := by decide +kernel
theorem dX12_numberHere_127 : decode cX12_numberHere 127 = .ok (.goto 4, 3) := by decide +kernel
theorem dX12_numberHere_130 : decode cX12_numberHere 130 = .ok (.iconst 0, 1) := by decide +kernel
theorem dX12_numberHere_131 : decode cX12_numberHere 131 = .ok (.ireturn, 1) := by decide +kernel
theorem dX12_passWord_0 : decode cX12_passWord 0 = .ok (.aload_n 0, 1) := by decide +kernel
theorem dX12_passWord_1 : decode cX12_passWord 1 = .ok (.aload_n 0, 1) := by decide +kernel
theorem dX12_passWord_2 : decode cX12_passWord 2 = .ok (.getfield 87, 3) := by decide +kernel
theorem dX12_passWord_5 : decode cX12_passWord 5 = .ok (.invokevirtual 94, 3) := by decide +kernel
theorem dX12_passWord_8 : decode cX12_passWord 8 = .ok (.ifCond .eq 16, 3) := by decide +kernel
theorem dX12_passWord_11 : decode cX12_passWord 11 = .ok (.aload_n 0, 1) := by decide +kernel
theorem dX12_passWord_12 : decode cX12_passWord 12 = .ok (.dup, 1) := by decide +kernel
theorem dX12_passWord_13 : decode cX12_passWord 13 = .ok (.getfield 87, 3) := by decide +kernel
theorem dX12_passWord_16 : decode cX12_passWord 16 = .ok (.iconst 1, 1) := by decide +kernel
theorem dX12_passWord_17 : decode cX12_passWord 17 = .ok (.iadd, 1) := by decide +kernel
theorem dX12_passWord_18 : decode cX12_passWord 18 = .ok (.putfield 87, 3) := by decide +kernel
theorem dX12_passWord_21 : decode cX12_passWord 21 = .ok (.goto (-21), 3) := by decide +kernel
theorem dX12_passWord_24 : decode cX12_passWord 24 = .ok (.return_, 1) := by decide +kernel
theorem dX12_puts_0 : decode cX12_puts 0 = .ok (.aload_n 0, 1) := by decide +kernel
theorem dX12_puts_1 : decode cX12_puts 1 = .ok (.getfield 13, 3) := by decide +kernel
theorem dX12_puts_4 : decode cX12_puts 4 = .ok (.sipush 400, 3) := by decide +kernel
theorem dX12_puts_7 : decode cX12_puts 7 = .ok (.aload_n 0, 1) := by decide +kernel
theorem dX12_puts_8 : decode cX12_puts 8 = .ok (.getfield 145, 3) := by decide +kernel
theorem dX12_puts_11 : decode cX12_puts 11 = .ok (.imul, 1) := by decide +kernel
theorem dX12_puts_12 : decode cX12_puts 12 = .ok (.aload_n 0, 1) := by decide +kernel
theorem dX12_puts_13 : decode cX12_puts 13 = .ok (.getfield 17, 3) := by decide +kernel
theorem dX12_puts_16 : decode cX12_puts 16 = .ok (.aload_n 0, 1) := by decide +kernel
theorem dX12_puts_17 : decode cX12_puts 17 = .ok (.getfield 145, 3) := by decide +kernel
theorem dX12_puts_20 : decode cX12_puts 20 = .ok (.iaload, 1) := by decide +kernel
theorem dX12_puts_21 : decode cX12_puts 21 = .ok (.iadd, 1) := by decide +kernel
theorem dX12_puts_22 : decode cX12_puts 22 = .ok (.iload_n 1, 1) := by decide +kernel
theorem dX12_puts_23 : decode cX12_puts 23 = .ok (.bipush 16, 2) := by decide +kernel
theorem dX12_puts_25 : decode cX12_puts 25 = .ok (.iload_n 2, 1) := by decide +kernel
theorem dX12_puts_26 : decode cX12_puts 26 = .ok (.imul, 1) := by decide +kernel
theorem dX12_puts_27 : decode cX12_puts 27 = .ok (.iadd, 1) := by decide +kernel
theorem dX12_puts_28 : decode cX12_puts 28 = .ok (.iastore, 1) := by decide +kernel
theorem dX12_puts_29 : decode cX12_puts 29 = .ok (.aload_n 0, 1) := by decide +kernel
theorem dX12_puts_30 : decode cX12_puts 30 = .ok (.getfield 17, 3) := by decide +kernel
theorem dX12_puts_33 : decode cX12_puts 33 = .ok (.aload_n 0, 1) := by decide +kernel
theorem dX12_puts_34 : decode cX12_puts 34 = .ok (.getfield 145, 3) := by decide +kernel
theorem dX12_puts_37 : decode cX12_puts 37 = .ok (.dup2, 1) := by decide +kernel
theorem dX12_puts_38 : decode cX12_puts 38 = .ok (.iaload, 1) := by decide +kernel
theorem dX12_puts_39 : decode cX12_puts 39 = .ok (.iconst 1, 1) := by decide +kernel
theorem dX12_puts_40 : decode cX12_puts 40 = .ok (.iadd, 1) := by decide +kernel
theorem dX12_puts_41 : decode cX12_puts 41 = .ok (.iastore, 1) := by decide +kernel
theorem dX12_puts_42 : decode cX12_puts 42 = .ok (.return_, 1) := by decide +kernel
theorem dX12_see_0 : decode cX12_see 0 = .ok (.aload_n 0, 1) := by decide +kernel
theorem dX12_see_1 : decode cX12_see 1 = .ok (.getfield 87, 3) := by decide +kernel
theorem dX12_see_4 : decode cX12_see 4 = .ok (.aload_n 0, 1) := by decide +kernel
theorem dX12_see_5 : decode cX12_see 5 = .ok (.getfield 77, 3) := by decide +kernel
theorem dX12_see_8 : decode cX12_see 8 = .ok (.if_icmp .ge 30, 3) := by decide +kernel
theorem dX12_see_11 : decode cX12_see 11 = .ok (.aload_n 0, 1) := by decide +kernel
theorem dX12_see_12 : decode cX12_see 12 = .ok (.getfield 7, 3) := by decide +kernel
theorem dX12_see_15 : decode cX12_see 15 = .ok (.aload_n 0, 1) := by decide +kernel
theorem dX12_see_16 : decode cX12_see 16 = .ok (.getfield 87, 3) := by decide +kernel
theorem dX12_see_19 : decode cX12_see 19 = .ok (.baload, 1) := by decide +kernel
theorem dX12_see_20 : decode cX12_see 20 = .ok (.bipush 32, 2) := by decide +kernel
theorem dX12_see_22 : decode cX12_see 22 = .ok (.if_icmp .ne 16, 3) := by decide +kernel
theorem dX12_see_25 : decode cX12_see 25 = .ok (.aload_n 0, 1) := by decide +kernel
theorem dX12_see_26 : decode cX12_see 26 = .ok (.dup, 1) := by decide +kernel
theorem dX12_see_27 : decode cX12_see 27 = .ok (.getfield 87, 3) := by decide +kernel
theorem dX12_see_30 : decode cX12_see 30 = .ok (.iconst 1, 1) := by decide +kernel
theorem dX12_see_31 : decode cX12_see 31 = .ok (.iadd, 1) := by decide +kernel
theorem dX12_see_32 : decode cX12_see 32 = .ok (.putfield 87, 3) := by decide +kernel
theorem dX12_see_35 : decode cX12_see 35 = .ok (.goto (-35), 3) := by decide +kernel
theorem dX12_see_38 : decode cX12_see 38 = .ok (.aload_n 0, 1) := by decide +kernel
theorem dX12_see_39 : decode cX12_see 39 = .ok (.getfield 87, 3) := by decide +kernel
theorem dX12_see_42 : decode cX12_see 42 = .ok (.aload_n 0, 1) := by decide +kernel
theorem dX12_see_43 : decode cX12_see 43 = .ok (.getfield 77, 3) := by decide +kernel
theorem dX12_see_46 : decode cX12_see 46 = .ok (.if_icmp .ge 19, 3) := by decide +kernel
theorem dX12_see_49 : decode cX12_see 49 = .ok (.aload_n 0, 1) := by decide +kernel
theorem dX12_see_50 : decode cX12_see 50 = .ok (.getfield 7, 3) := by decide +kernel
theorem dX12_see_53 : decode cX12_see 53 = .ok (.aload_n 0, 1) := by decide +kernel
theorem dX12_see_54 : decode cX12_see 54 = .ok (.getfield 87, 3) := by decide +kernel
theorem dX12_see_57 : decode cX12_see 57 = .ok (.baload, 1) := by decide +kernel
theorem dX12_see_58 : decode cX12_see 58 = .ok (.sipush 255, 3) := by decide +kernel
theorem dX12_see_61 : decode cX12_see 61 = .ok (.iand, 1) := by decide +kernel
theorem dX12_see_62 : decode cX12_see 62 = .ok (.goto 4, 3) := by decide +kernel
theorem dX12_see_65 : decode cX12_see 65 = .ok (.iconst (-1), 1) := by decide +kernel
theorem dX12_see_66 : decode cX12_see 66 = .ok (.ireturn, 1) := by decide +kernel
theorem dX12_sum_0 : decode cX12_sum 0 = .ok (.aload_n 0, 1) := by decide +kernel
theorem dX12_sum_1 : decode cX12_sum 1 = .ok (.invokevirtual 179, 3) := by decide +kernel
theorem dX12_sum_4 : decode cX12_sum 4 = .ok (.ifCond .ne 5, 3) := by decide +kernel
theorem dX12_sum_7 : decode cX12_sum 7 = .ok (.iconst 0, 1) := by decide +kernel
theorem dX12_sum_8 : decode cX12_sum 8 = .ok (.ireturn, 1) := by decide +kernel
theorem dX12_sum_9 : decode cX12_sum 9 = .ok (.aload_n 0, 1) := by decide +kernel
theorem dX12_sum_10 : decode cX12_sum 10 = .ok (.invokevirtual 90, 3) := by decide +kernel
theorem dX12_sum_13 : decode cX12_sum 13 = .ok (.bipush 43, 2) := by decide +kernel
theorem dX12_sum_15 : decode cX12_sum 15 = .ok (.if_icmp .eq 12, 3) := by decide +kernel
theorem dX12_sum_18 : decode cX12_sum 18 = .ok (.aload_n 0, 1) := by decide +kernel
theorem dX12_sum_19 : decode cX12_sum 19 = .ok (.invokevirtual 90, 3) := by decide +kernel
theorem dX12_sum_22 : decode cX12_sum 22 = .ok (.bipush 45, 2) := by decide +kernel
theorem dX12_sum_24 : decode cX12_sum 24 = .ok (.if_icmp .ne 51, 3) := by decide +kernel
theorem dX12_sum_27 : decode cX12_sum 27 = .ok (.aload_n 0, 1) := by decide +kernel
theorem dX12_sum_28 : decode cX12_sum 28 = .ok (.getfield 7, 3) := by decide +kernel
theorem dX12_sum_31 : decode cX12_sum 31 = .ok (.aload_n 0, 1) := by decide +kernel
theorem dX12_sum_32 : decode cX12_sum 32 = .ok (.getfield 87, 3) := by decide +kernel
theorem dX12_sum_35 : decode cX12_sum 35 = .ok (.baload, 1) := by decide +kernel
theorem dX12_sum_36 : decode cX12_sum 36 = .ok (.bipush 43, 2) := by decide +kernel
theorem dX12_sum_38 : decode cX12_sum 38 = .ok (.if_icmp .ne 7, 3) := by decide +kernel
theorem dX12_sum_41 : decode cX12_sum 41 = .ok (.iconst 2, 1) := by decide +kernel
theorem dX12_sum_42 : decode cX12_sum 42 = .ok (.goto 4, 3) := by decide +kernel
theorem dX12_sum_45 : decode cX12_sum 45 = .ok (.iconst 3, 1) := by decide +kernel
theorem dX12_sum_46 : decode cX12_sum 46 = .ok (.istore_n 1, 1) := by decide +kernel
theorem dX12_sum_47 : decode cX12_sum 47 = .ok (.aload_n 0, 1) := by decide +kernel
theorem dX12_sum_48 : decode cX12_sum 48 = .ok (.dup, 1) := by decide +kernel
theorem dX12_sum_49 : decode cX12_sum 49 = .ok (.getfield 87, 3) := by decide +kernel
theorem dX12_sum_52 : decode cX12_sum 52 = .ok (.iconst 1, 1) := by decide +kernel
theorem dX12_sum_53 : decode cX12_sum 53 = .ok (.iadd, 1) := by decide +kernel
theorem dX12_sum_54 : decode cX12_sum 54 = .ok (.putfield 87, 3) := by decide +kernel
theorem dX12_sum_57 : decode cX12_sum 57 = .ok (.aload_n 0, 1) := by decide +kernel
theorem dX12_sum_58 : decode cX12_sum 58 = .ok (.invokevirtual 179, 3) := by decide +kernel
theorem dX12_sum_61 : decode cX12_sum 61 = .ok (.ifCond .ne 5, 3) := by decide +kernel
theorem dX12_sum_64 : decode cX12_sum 64 = .ok (.iconst 0, 1) := by decide +kernel
theorem dX12_sum_65 : decode cX12_sum 65 = .ok (.ireturn, 1) := by decide +kernel
theorem dX12_sum_66 : decode cX12_sum 66 = .ok (.aload_n 0, 1) := by decide +kernel
theorem dX12_sum_67 : decode cX12_sum 67 = .ok (.iload_n 1, 1) := by decide +kernel
theorem dX12_sum_68 : decode cX12_sum 68 = .ok (.iconst 0, 1) := by decide +kernel
theorem dX12_sum_69 : decode cX12_sum 69 = .ok (.invokevirtual 161, 3) := by decide +kernel
theorem dX12_sum_72 : decode cX12_sum 72 = .ok (.goto (-63), 3) := by decide +kernel
theorem dX12_sum_75 : decode cX12_sum 75 = .ok (.iconst 1, 1) := by decide +kernel
theorem dX12_sum_76 : decode cX12_sum 76 = .ok (.ireturn, 1) := by decide +kernel
theorem dX12_takesWord_0 : decode cX12_takesWord 0 = .ok (.aload_n 0, 1) := by decide +kernel
theorem dX12_takesWord_1 : decode cX12_takesWord 1 = .ok (.lload_n 1, 1) := by decide +kernel
theorem dX12_takesWord_2 : decode cX12_takesWord 2 = .ok (.invokevirtual 98, 3) := by decide +kernel
theorem dX12_takesWord_5 : decode cX12_takesWord 5 = .ok (.ifCond .ne 5, 3) := by decide +kernel
theorem dX12_takesWord_8 : decode cX12_takesWord 8 = .ok (.iconst 0, 1) := by decide +kernel
theorem dX12_takesWord_9 : decode cX12_takesWord 9 = .ok (.ireturn, 1) := by decide +kernel
theorem dX12_takesWord_10 : decode cX12_takesWord 10 = .ok (.aload_n 0, 1) := by decide +kernel
theorem dX12_takesWord_11 : decode cX12_takesWord 11 = .ok (.invokevirtual 102, 3) := by decide +kernel
theorem dX12_takesWord_14 : decode cX12_takesWord 14 = .ok (.iconst 1, 1) := by decide +kernel
theorem dX12_takesWord_15 : decode cX12_takesWord 15 = .ok (.ireturn, 1) := by decide +kernel
theorem dX12_term_0 : decode cX12_term 0 = .ok (.aload_n 0, 1) := by decide +kernel
theorem dX12_term_1 : decode cX12_term 1 = .ok (.invokevirtual 175, 3) := by decide +kernel
theorem dX12_term_4 : decode cX12_term 4 = .ok (.ifCond .ne 5, 3) := by decide +kernel
theorem dX12_term_7 : decode cX12_term 7 = .ok (.iconst 0, 1) := by decide +kernel
theorem dX12_term_8 : decode cX12_term 8 = .ok (.ireturn, 1) := by decide +kernel
theorem dX12_term_9 : decode cX12_term 9 = .ok (.aload_n 0, 1) := by decide +kernel
theorem dX12_term_10 : decode cX12_term 10 = .ok (.invokevirtual 90, 3) := by decide +kernel
theorem dX12_term_13 : decode cX12_term 13 = .ok (.bipush 42, 2) := by decide +kernel
theorem dX12_term_15 : decode cX12_term 15 = .ok (.if_icmp .eq 21, 3) := by decide +kernel
theorem dX12_term_18 : decode cX12_term 18 = .ok (.aload_n 0, 1) := by decide +kernel
theorem dX12_term_19 : decode cX12_term 19 = .ok (.invokevirtual 90, 3) := by decide +kernel
theorem dX12_term_22 : decode cX12_term 22 = .ok (.bipush 47, 2) := by decide +kernel
theorem dX12_term_24 : decode cX12_term 24 = .ok (.if_icmp .eq 12, 3) := by decide +kernel
theorem dX12_term_27 : decode cX12_term 27 = .ok (.aload_n 0, 1) := by decide +kernel
theorem dX12_term_28 : decode cX12_term 28 = .ok (.invokevirtual 90, 3) := by decide +kernel
theorem dX12_term_31 : decode cX12_term 31 = .ok (.bipush 37, 2) := by decide +kernel
theorem dX12_term_33 : decode cX12_term 33 = .ok (.if_icmp .ne 70, 3) := by decide +kernel
theorem dX12_term_36 : decode cX12_term 36 = .ok (.aload_n 0, 1) := by decide +kernel
theorem dX12_term_37 : decode cX12_term 37 = .ok (.getfield 7, 3) := by decide +kernel
theorem dX12_term_40 : decode cX12_term 40 = .ok (.aload_n 0, 1) := by decide +kernel
theorem dX12_term_41 : decode cX12_term 41 = .ok (.getfield 87, 3) := by decide +kernel
theorem dX12_term_44 : decode cX12_term 44 = .ok (.baload, 1) := by decide +kernel
theorem dX12_term_45 : decode cX12_term 45 = .ok (.bipush 42, 2) := by decide +kernel
theorem dX12_term_47 : decode cX12_term 47 = .ok (.if_icmp .ne 7, 3) := by decide +kernel
theorem dX12_term_50 : decode cX12_term 50 = .ok (.iconst 4, 1) := by decide +kernel
theorem dX12_term_51 : decode cX12_term 51 = .ok (.goto 23, 3) := by decide +kernel
theorem dX12_term_54 : decode cX12_term 54 = .ok (.aload_n 0, 1) := by decide +kernel
theorem dX12_term_55 : decode cX12_term 55 = .ok (.getfield 7, 3) := by decide +kernel
theorem dX12_term_58 : decode cX12_term 58 = .ok (.aload_n 0, 1) := by decide +kernel
theorem dX12_term_59 : decode cX12_term 59 = .ok (.getfield 87, 3) := by decide +kernel
theorem dX12_term_62 : decode cX12_term 62 = .ok (.baload, 1) := by decide +kernel
theorem dX12_term_63 : decode cX12_term 63 = .ok (.bipush 47, 2) := by decide +kernel
theorem dX12_term_65 : decode cX12_term 65 = .ok (.if_icmp .ne 7, 3) := by decide +kernel
theorem dX12_term_68 : decode cX12_term 68 = .ok (.iconst 5, 1) := by decide +kernel
theorem dX12_term_69 : decode cX12_term 69 = .ok (.goto 5, 3) := by decide +kernel
theorem dX12_term_72 : decode cX12_term 72 = .ok (.bipush 14, 2) := by decide +kernel
theorem dX12_term_74 : decode cX12_term 74 = .ok (.istore_n 1, 1) := by decide +kernel
theorem dX12_term_75 : decode cX12_term 75 = .ok (.aload_n 0, 1) := by decide +kernel
theorem dX12_term_76 : decode cX12_term 76 = .ok (.dup, 1) := by decide +kernel
theorem dX12_term_77 : decode cX12_term 77 = .ok (.getfield 87, 3) := by decide +kernel
theorem dX12_term_80 : decode cX12_term 80 = .ok (.iconst 1, 1) := by decide +kernel
theorem dX12_term_81 : decode cX12_term 81 = .ok (.iadd, 1) := by decide +kernel
theorem dX12_term_82 : decode cX12_term 82 = .ok (.putfield 87, 3) := by decide +kernel
theorem dX12_term_85 : decode cX12_term 85 = .ok (.aload_n 0, 1) := by decide +kernel
theorem dX12_term_86 : decode cX12_term 86 = .ok (.invokevirtual 175, 3) := by decide +kernel
theorem dX12_term_89 : decode cX12_term 89 = .ok (.ifCond .ne 5, 3) := by decide +kernel
theorem dX12_term_92 : decode cX12_term 92 = .ok (.iconst 0, 1) := by decide +kernel
theorem dX12_term_93 : decode cX12_term 93 = .ok (.ireturn, 1) := by decide +kernel
theorem dX12_term_94 : decode cX12_term 94 = .ok (.aload_n 0, 1) := by decide +kernel
theorem dX12_term_95 : decode cX12_term 95 = .ok (.iload_n 1, 1) := by decide +kernel
theorem dX12_term_96 : decode cX12_term 96 = .ok (.iconst 0, 1) := by decide +kernel
theorem dX12_term_97 : decode cX12_term 97 = .ok (.invokevirtual 161, 3) := by decide +kernel
theorem dX12_term_100 : decode cX12_term 100 = .ok (.goto (-91), 3) := by decide +kernel
theorem dX12_term_103 : decode cX12_term 103 = .ok (.iconst 1, 1) := by decide +kernel
theorem dX12_term_104 : decode cX12_term 104 = .ok (.ireturn, 1) := by decide +kernel
theorem dX12_value_0 : decode cX12_value 0 = .ok (.aload_n 0, 1) := by decide +kernel
theorem dX12_value_1 : decode cX12_value 1 = .ok (.invokevirtual 90, 3) := by decide +kernel
theorem dX12_value_4 : decode cX12_value 4 = .ok (.pop, 1) := by decide +kernel
theorem dX12_value_5 : decode cX12_value 5 = .ok (.aload_n 0, 1) := by decide +kernel
theorem dX12_value_6 : decode cX12_value 6 = .ok (.getfield 87, 3) := by decide +kernel
theorem dX12_value_9 : decode cX12_value 9 = .ok (.istore_n 1, 1) := by decide +kernel
theorem dX12_value_10 : decode cX12_value 10 = .ok (.aload_n 0, 1) := by decide +kernel
theorem dX12_value_11 : decode cX12_value 11 = .ok (.aload_n 0, 1) := by decide +kernel
theorem dX12_value_12 : decode cX12_value 12 = .ok (.getfield 87, 3) := by decide +kernel
theorem dX12_value_15 : decode cX12_value 15 = .ok (.invokevirtual 105, 3) := by decide +kernel
theorem dX12_value_18 : decode cX12_value 18 = .ok (.ifCond .eq 34, 3) := by decide +kernel
theorem dX12_value_21 : decode cX12_value 21 = .ok (.aload_n 0, 1) := by decide +kernel
theorem dX12_value_22 : decode cX12_value 22 = .ok (.iconst 0, 1) := by decide +kernel
theorem dX12_value_23 : decode cX12_value 23 = .ok (.ldc 165, 2) := by decide +kernel
theorem dX12_value_25 : decode cX12_value 25 = .ok (.invokevirtual 166, 3) := by decide +kernel
theorem dX12_value_28 : decode cX12_value 28 = .ok (.ifCond .eq 11, 3) := by decide +kernel
theorem dX12_value_31 : decode cX12_value 31 = .ok (.aload_n 0, 1) := by decide +kernel
theorem dX12_value_32 : decode cX12_value 32 = .ok (.iload_n 1, 1) := by decide +kernel
theorem dX12_value_33 : decode cX12_value 33 = .ok (.invokevirtual 169, 3) := by decide +kernel
theorem dX12_value_36 : decode cX12_value 36 = .ok (.ifCond .ne 5, 3) := by decide +kernel
theorem dX12_value_39 : decode cX12_value 39 = .ok (.iconst 0, 1) := by decide +kernel
theorem dX12_value_40 : decode cX12_value 40 = .ok (.ireturn, 1) := by decide +kernel
theorem dX12_value_41 : decode cX12_value 41 = .ok (.aload_n 0, 1) := by decide +kernel
theorem dX12_value_42 : decode cX12_value 42 = .ok (.iconst 0, 1) := by decide +kernel
theorem dX12_value_43 : decode cX12_value 43 = .ok (.aload_n 0, 1) := by decide +kernel
theorem dX12_value_44 : decode cX12_value 44 = .ok (.getfield 112, 3) := by decide +kernel
theorem dX12_value_47 : decode cX12_value 47 = .ok (.invokevirtual 161, 3) := by decide +kernel
theorem dX12_value_50 : decode cX12_value 50 = .ok (.iconst 1, 1) := by decide +kernel
theorem dX12_value_51 : decode cX12_value 51 = .ok (.ireturn, 1) := by decide +kernel
theorem dX12_value_52 : decode cX12_value 52 = .ok (.aload_n 0, 1) := by decide +kernel
theorem dX12_value_53 : decode cX12_value 53 = .ok (.invokevirtual 172, 3) := by decide +kernel
theorem dX12_value_56 : decode cX12_value 56 = .ok (.istore_n 2, 1) := by decide +kernel
theorem dX12_value_57 : decode cX12_value 57 = .ok (.iload_n 2, 1) := by decide +kernel
theorem dX12_value_58 : decode cX12_value 58 = .ok (.ifCond .ge 10, 3) := by decide +kernel
theorem dX12_value_61 : decode cX12_value 61 = .ok (.aload_n 0, 1) := by decide +kernel
theorem dX12_value_62 : decode cX12_value 62 = .ok (.iconst 0, 1) := by decide +kernel
theorem dX12_value_63 : decode cX12_value 63 = .ok (.iload_n 1, 1) := by decide +kernel
theorem dX12_value_64 : decode cX12_value 64 = .ok (.invokevirtual 108, 3) := by decide +kernel
theorem dX12_value_67 : decode cX12_value 67 = .ok (.ireturn, 1) := by decide +kernel
theorem dX12_value_68 : decode cX12_value 68 = .ok (.aload_n 0, 1) := by decide +kernel
theorem dX12_value_69 : decode cX12_value 69 = .ok (.iload_n 1, 1) := by decide +kernel
theorem dX12_value_70 : decode cX12_value 70 = .ok (.invokevirtual 169, 3) := by decide +kernel
theorem dX12_value_73 : decode cX12_value 73 = .ok (.ifCond .ne 5, 3) := by decide +kernel
theorem dX12_value_76 : decode cX12_value 76 = .ok (.iconst 0, 1) := by decide +kernel
theorem dX12_value_77 : decode cX12_value 77 = .ok (.ireturn, 1) := by decide +kernel
theorem dX12_value_78 : decode cX12_value 78 = .ok (.aload_n 0, 1) := by decide +kernel
theorem dX12_value_79 : decode cX12_value 79 = .ok (.invokevirtual 102, 3) := by decide +kernel
theorem dX12_value_82 : decode cX12_value 82 = .ok (.aload_n 0, 1) := by decide +kernel
theorem dX12_value_83 : decode cX12_value 83 = .ok (.iconst 1, 1) := by decide +kernel
theorem dX12_value_84 : decode cX12_value 84 = .ok (.iload_n 2, 1) := by decide +kernel
theorem dX12_value_85 : decode cX12_value 85 = .ok (.invokevirtual 161, 3) := by decide +kernel
theorem dX12_value_88 : decode cX12_value 88 = .ok (.iconst 1, 1) := by decide +kernel
theorem dX12_value_89 : decode cX12_value 89 = .ok (.ireturn, 1) := by decide +kernel
theorem dX12_wordHere_0 : decode cX12_wordHere 0 = .ok (.aload_n 0, 1) := by decide +kernel
theorem dX12_wordHere_1 : decode cX12_wordHere 1 = .ok (.ldc2_w 119, 3) := by decide +kernel
theorem dX12_wordHere_4 : decode cX12_wordHere 4 = .ok (.invokevirtual 98, 3) := by decide +kernel
theorem dX12_wordHere_7 : decode cX12_wordHere 7 = .ok (.ifCond .eq 5, 3) := by decide +kernel
theorem dX12_wordHere_10 : decode cX12_wordHere 10 = .ok (.iconst 0, 1) := by decide +kernel
theorem dX12_wordHere_11 : decode cX12_wordHere 11 = .ok (.ireturn, 1) := by decide +kernel
theorem dX12_wordHere_12 : decode cX12_wordHere 12 = .ok (.aload_n 0, 1) := by decide +kernel
theorem dX12_wordHere_13 : decode cX12_wordHere 13 = .ok (.ldc2_w 121, 3) := by decide +kernel
theorem dX12_wordHere_16 : decode cX12_wordHere 16 = .ok (.invokevirtual 98, 3) := by decide +kernel
theorem dX12_wordHere_19 : decode cX12_wordHere 19 = .ok (.ifCond .eq 5, 3) := by decide +kernel
theorem dX12_wordHere_22 : decode cX12_wordHere 22 = .ok (.iconst 1, 1) := by decide +kernel
theorem dX12_wordHere_23 : decode cX12_wordHere 23 = .ok (.ireturn, 1) := by decide +kernel
theorem dX12_wordHere_24 : decode cX12_wordHere 24 = .ok (.aload_n 0, 1) := by decide +kernel
theorem dX12_wordHere_25 : decode cX12_wordHere 25 = .ok (.ldc2_w 123, 3) := by decide +kernel
theorem dX12_wordHere_28 : decode cX12_wordHere 28 = .ok (.invokevirtual 98, 3) := by decide +kernel
theorem dX12_wordHere_31 : decode cX12_wordHere 31 = .ok (.ifCond .eq 5, 3) := by decide +kernel
theorem dX12_wordHere_34 : decode cX12_wordHere 34 = .ok (.iconst 2, 1) := by decide +kernel
theorem dX12_wordHere_35 : decode cX12_wordHere 35 = .ok (.ireturn, 1) := by decide +kernel
theorem dX12_wordHere_36 : decode cX12_wordHere 36 = .ok (.aload_n 0, 1) := by decide +kernel
theorem dX12_wordHere_37 : decode cX12_wordHere 37 = .ok (.ldc2_w 125, 3) := by decide +kernel
theorem dX12_wordHere_40 : decode cX12_wordHere 40 = .ok (.invokevirtual 98, 3) := by decide +kernel
theorem dX12_wordHere_43 : decode cX12_wordHere 43 = .ok (.ifCond .eq 5, 3) := by decide +kernel
theorem dX12_wordHere_46 : decode cX12_wordHere 46 = .ok (.iconst 3, 1) := by decide +kernel
theorem dX12_wordHere_47 : decode cX12_wordHere 47 = .ok (.ireturn, 1) := by decide +kernel
theorem dX12_wordHere_48 : decode cX12_wordHere 48 = .ok (.aload_n 0, 1) := by decide +kernel
theorem dX12_wordHere_49 : decode cX12_wordHere 49 = .ok (.ldc2_w 127, 3) := by decide +kernel
theorem dX12_wordHere_52 : decode cX12_wordHere 52 = .ok (.invokevirtual 98, 3) := by decide +kernel
theorem dX12_wordHere_55 : decode cX12_wordHere 55 = .ok (.ifCond .eq 5, 3) := by decide +kernel
theorem dX12_wordHere_58 : decode cX12_wordHere 58 = .ok (.iconst 4, 1) := by decide +kernel
theorem dX12_wordHere_59 : decode cX12_wordHere 59 = .ok (.ireturn, 1) := by decide +kernel
theorem dX12_wordHere_60 : decode cX12_wordHere 60 = .ok (.aload_n 0, 1) := by decide +kernel
theorem dX12_wordHere_61 : decode cX12_wordHere 61 = .ok (.ldc2_w 129, 3) := by decide +kernel
theorem dX12_wordHere_64 : decode cX12_wordHere 64 = .ok (.invokevirtual 98, 3) := by decide +kernel
theorem dX12_wordHere_67 : decode cX12_wordHere 67 = .ok (.ifCond .eq 5, 3) := by decide +kernel
theorem dX12_wordHere_70 : decode cX12_wordHere 70 = .ok (.iconst 5, 1) := by decide +kernel
theorem dX12_wordHere_71 : decode cX12_wordHere 71 = .ok (.ireturn, 1) := by decide +kernel
theorem dX12_wordHere_72 : decode cX12_wordHere 72 = .ok (.aload_n 0, 1) := by decide +kernel
theorem dX12_wordHere_73 : decode cX12_wordHere 73 = .ok (.ldc2_w 131, 3) := by decide +kernel
theorem dX12_wordHere_76 : decode cX12_wordHere 76 = .ok (.invokevirtual 98, 3) := by decide +kernel
theorem dX12_wordHere_79 : decode cX12_wordHere 79 = .ok (.ifCond .eq 6, 3) := by decide +kernel
theorem dX12_wordHere_82 : decode cX12_wordHere 82 = .ok (.bipush 6, 2) := by decide +kernel
theorem dX12_wordHere_84 : decode cX12_wordHere 84 = .ok (.ireturn, 1) := by decide +kernel
theorem dX12_wordHere_85 : decode cX12_wordHere 85 = .ok (.aload_n 0, 1) := by decide +kernel
theorem dX12_wordHere_86 : decode cX12_wordHere 86 = .ok (.ldc2_w 133, 3) := by decide +kernel
theorem dX12_wordHere_89 : decode cX12_wordHere 89 = .ok (.invokevirtual 98, 3) := by decide +kernel
theorem dX12_wordHere_92 : decode cX12_wordHere 92 = .ok (.ifCond .eq 6, 3) := by decide +kernel
theorem dX12_wordHere_95 : decode cX12_wordHere 95 = .ok (.bipush 7, 2) := by decide +kernel
theorem dX12_wordHere_97 : decode cX12_wordHere 97 = .ok (.ireturn, 1) := by decide +kernel
theorem dX12_wordHere_98 : decode cX12_wordHere 98 = .ok (.aload_n 0, 1) := by decide +kernel
theorem dX12_wordHere_99 : decode cX12_wordHere 99 = .ok (.ldc2_w 135, 3) := by decide +kernel
theorem dX12_wordHere_102 : decode cX12_wordHere 102 = .ok (.invokevirtual 98, 3) := by decide +kernel
theorem dX12_wordHere_105 : decode cX12_wordHere 105 = .ok (.ifCond .eq 6, 3) := by decide +kernel
theorem dX12_wordHere_108 : decode cX12_wordHere 108 = .ok (.bipush 8, 2) := by decide +kernel
theorem dX12_wordHere_110 : decode cX12_wordHere 110 = .ok (.ireturn, 1) := by decide +kernel
theorem dX12_wordHere_111 : decode cX12_wordHere 111 = .ok (.aload_n 0, 1) := by decide +kernel
theorem dX12_wordHere_112 : decode cX12_wordHere 112 = .ok (.ldc2_w 137, 3) := by decide +kernel
theorem dX12_wordHere_115 : decode cX12_wordHere 115 = .ok (.invokevirtual 98, 3) := by decide +kernel
theorem dX12_wordHere_118 : decode cX12_wordHere 118 = .ok (.ifCond .eq 6, 3) := by decide +kernel
theorem dX12_wordHere_121 : decode cX12_wordHere 121 = .ok (.bipush 9, 2) := by decide +kernel
theorem dX12_wordHere_123 : decode cX12_wordHere 123 = .ok (.ireturn, 1) := by decide +kernel
theorem dX12_wordHere_124 : decode cX12_wordHere 124 = .ok (.aload_n 0, 1) := by decide +kernel
theorem dX12_wordHere_125 : decode cX12_wordHere 125 = .ok (.ldc2_w 139, 3) := by decide +kernel
theorem dX12_wordHere_128 : decode cX12_wordHere 128 = .ok (.invokevirtual 98, 3) := by decide +kernel
theorem dX12_wordHere_131 : decode cX12_wordHere 131 = .ok (.ifCond .eq 6, 3) := by decide +kernel
theorem dX12_wordHere_134 : decode cX12_wordHere 134 = .ok (.bipush 10, 2) := by decide +kernel
theorem dX12_wordHere_136 : decode cX12_wordHere 136 = .ok (.ireturn, 1) := by decide +kernel
theorem dX12_wordHere_137 : decode cX12_wordHere 137 = .ok (.aload_n 0, 1) := by decide +kernel
theorem dX12_wordHere_138 : decode cX12_wordHere 138 = .ok (.ldc2_w 141, 3) := by decide +kernel
theorem dX12_wordHere_141 : decode cX12_wordHere 141 = .ok (.invokevirtual 98, 3) := by decide +kernel
theorem dX12_wordHere_144 : decode cX12_wordHere 144 = .ok (.ifCond .eq 8, 3) := by decide +kernel
theorem dX12_wordHere_147 : decode cX12_wordHere 147 = .ok (.bipush 11, 2) := by decide +kernel
theorem dX12_wordHere_149 : decode cX12_wordHere 149 = .ok (.goto 19, 3) := by decide +kernel
theorem dX12_wordHere_152 : decode cX12_wordHere 152 = .ok (.aload_n 0, 1) := by decide +kernel
theorem dX12_wordHere_153 : decode cX12_wordHere 153 = .ok (.ldc2_w 143, 3) := by decide +kernel
theorem dX12_wordHere_156 : decode cX12_wordHere 156 = .ok (.invokevirtual 98, 3) := by decide +kernel
theorem dX12_wordHere_159 : decode cX12_wordHere 159 = .ok (.ifCond .eq 8, 3) := by decide +kernel
theorem dX12_wordHere_162 : decode cX12_wordHere 162 = .ok (.bipush 12, 2) := by decide +kernel
theorem dX12_wordHere_164 : decode cX12_wordHere 164 = .ok (.goto 4, 3) := by decide +kernel
theorem dX12_wordHere_167 : decode cX12_wordHere 167 = .ok (.iconst (-1), 1) := by decide +kernel
theorem dX12_wordHere_168 : decode cX12_wordHere 168 = .ok (.ireturn, 1) := by decide +kernel
set_option maxHeartbeats 4000000 in
set_option maxRecDepth 100000 in
theorem ct_X12_isLetter (l : Launch) (D : va_G) (tc : Nat → ClassId) (sk : (Nat → Nat) × (Nat → Nat)) (Ma : Nat → Nat) (Mv : Nat → Int32) (Mf : Nat → Nat → Int32) (Mj : Nat → Int64) (x1 : Int32) (h_x : 0 ≤ x1.toInt) (h_t : (Mv 0).toInt ≤ 400) : Ct l yX12_isLetter cX12_isLetter 2 (some .boolean) { frames := 0, cells := 0, slots := 0, locals := 0 } D tc sk [.ref (Ma 0), .int x1] [((Ma 0), .inr (12, [.ref (Ma 1), .int (Mv 0), .int (Mv 1), .ref (Ma 2), .ref (Ma 3), .ref (Ma 4), .ref (Ma 5), .ref (Ma 6), .int (Mv 2), .int (Mv 3), .int (Mv 4), .int (Mv 5), .int (Mv 6), .int (Mv 7), .int (Mv 8), .ref (Ma 7), .int (Mv 9), .ref (Ma 8), .int (Mv 10), .ref (Ma 9), .ref (Ma 10), .int (Mv 11), .int (Mv 12), .int (Mv 13), .ref (Ma 11), .int (Mv 14), .ref (Ma 12), .ref (Ma 13), .ref (Ma 14), .ref (Ma 15), .ref (Ma 16), .long (Mj 0), .ref (Ma 17), .ref (Ma 18), .ref (Ma 19), .ref (Ma 20)])), ((Ma 1), .inl (tc 2, 400, .inl (Mf 1)))] (fun (v : Option Value) (_ : Unit) => ∃ r : Int32, v = some (.int r) ∧ ((r.toInt = 0 ∨ r.toInt = 1)) ∧ (r.toInt = 1 → (Ltr (Mf 1) (Mv 0) x1)) ∧ (r.toInt = 0 → (NLtr (Mf 1) (Mv 0) x1))) (fun (_ : Unit) => [((Ma 0), .inr (12, [.ref (Ma 1), .int (Mv 0), .int (Mv 1), .ref (Ma 2), .ref (Ma 3), .ref (Ma 4), .ref (Ma 5), .ref (Ma 6), .int (Mv 2), .int (Mv 3), .int (Mv 4), .int (Mv 5), .int (Mv 6), .int (Mv 7), .int (Mv 8), .ref (Ma 7), .int (Mv 9), .ref (Ma 8), .int (Mv 10), .ref (Ma 9), .ref (Ma 10), .int (Mv 11), .int (Mv 12), .int (Mv 13), .ref (Ma 11), .int (Mv 14), .ref (Ma 12), .ref (Ma 13), .ref (Ma 14), .ref (Ma 15), .ref (Ma 16), .long (Mj 0), .ref (Ma 17), .ref (Ma 18), .ref (Ma 19), .ref (Ma 20)])), ((Ma 1), .inl (tc 2, 400, .inl (Mf 1)))]) 0 0 := by
  refine Ct.start (by decide) (Nat.le_of_ble_eq_true rfl) (fun p e s m below meth c A ls hx hb hr hlk hin hml hown hts hK hX hP hD hA hl hS => ?_)
  have hl : lv_has ls 2 [(0, .ref (Ma 0)), (1, .int x1)] := hl
  refine lv_iload_n hx hb dX12_isLetter_0 rfl (lv_at hl 1 rfl) ?_
  refine lv_aload_n hx hb dX12_isLetter_1 rfl (lv_at hl 0 rfl) ?_
  refine gf_X12_77 hx hb hts hown hK hP 0 rfl rfl dX12_isLetter_2 ?_
  refine lv_icmp_ge (tgt := 34) hx hb dX12_isLetter_5 (by decide) (fun c_1 => ?_) (fun c_1 => ?_)
  · skip
    refine lv_iconst (v := 0) hx hb dX12_isLetter_34 (by decide) ?_
    have hp_2 : ((0 : Int32).toInt = 0 ∨ (0 : Int32).toInt = 1) := by
      have z_1 := Int32.le_iff_toInt_le.mp c_1
      have y_0 : (0 : Int32).toInt = 0 := by decide
      have yr : (0 : Int32).toInt = 0 := by decide
      omega
    have hm_3 : (0 : Int32).toInt = 0 → (NLtr (Mf 1) (Mv 0) x1) := by
      intro h1r
      have ha_4 : NLtr (Mf 1) (Mv 0) x1 := by
        unfold NLtr Ltr
        intro hz
        have z_1 := Int32.le_iff_toInt_le.mp c_1
        omega
      exact ha_4
    exact retI (v := 0) hx hb hr hlk (rfl) hP hD hS () ⟨_, rfl, hp_2, (fun h => absurd h (by decide)), hm_3⟩ [0, 1] rfl rfl dX12_isLetter_35 (Nat.le_of_ble_eq_true rfl) (Nat.le_of_ble_eq_true rfl) rfl
  · skip
    refine lv_aload_n hx hb dX12_isLetter_8 rfl (lv_at hl 0 rfl) ?_
    refine gf_X12_7 hx hb hts hown hK hP 0 rfl rfl dX12_isLetter_9 ?_
    refine lv_iload_n hx hb dX12_isLetter_12 rfl (lv_at hl 1 rfl) ?_
    have hi_5 : vp_in x1 400 := by
      have z_1 := Int32.lt_iff_toInt_lt.mp (Int32.not_le.mp c_1)
      refine vp_in_iff.mpr ⟨?_, ?_⟩ <;> omega
    refine va_bald hx hb hK hP 1 2 rfl rfl hi_5 dX12_isLetter_13 ?_
    refine lv_topi (fun x_6 ex_6 => ?_)
    have kx_6 : x_6.toInt = ((Mf 1) (x1 : Int32).toNatClampNeg).toInt := congrArg Int32.toInt ex_6
    refine lv_bipush (v := 97) hx hb dX12_isLetter_14 (by decide) ?_
    refine lv_icmp_lt (tgt := 34) hx hb dX12_isLetter_16 (by decide) (fun c_7 => ?_) (fun c_7 => ?_)
    · skip
      refine lv_iconst (v := 0) hx hb dX12_isLetter_34 (by decide) ?_
      have hp_8 : ((0 : Int32).toInt = 0 ∨ (0 : Int32).toInt = 1) := by
        have z_1 := Int32.lt_iff_toInt_lt.mp (Int32.not_le.mp c_1)
        have z_2 := Int32.lt_iff_toInt_lt.mp c_7
        have y_97 : (97 : Int32).toInt = 97 := by decide
        have y_0 : (0 : Int32).toInt = 0 := by decide
        have yr : (0 : Int32).toInt = 0 := by decide
        omega
      have hm_9 : (0 : Int32).toInt = 0 → (NLtr (Mf 1) (Mv 0) x1) := by
        intro h1r
        have ha_10 : NLtr (Mf 1) (Mv 0) x1 := by
          unfold NLtr Ltr
          intro hz
          have z_1 := Int32.lt_iff_toInt_lt.mp (Int32.not_le.mp c_1)
          have z_2 := Int32.lt_iff_toInt_lt.mp c_7
          have y_97 : (97 : Int32).toInt = 97 := by decide
          omega
        exact ha_10
      exact retI (v := 0) hx hb hr hlk (rfl) hP hD hS () ⟨_, rfl, hp_8, (fun h => absurd h (by decide)), hm_9⟩ [0, 1] rfl rfl dX12_isLetter_35 (Nat.le_of_ble_eq_true rfl) (Nat.le_of_ble_eq_true rfl) rfl
    · skip
      refine lv_aload_n hx hb dX12_isLetter_19 rfl (lv_at hl 0 rfl) ?_
      refine gf_X12_7 hx hb hts hown hK hP 0 rfl rfl dX12_isLetter_20 ?_
      refine lv_iload_n hx hb dX12_isLetter_23 rfl (lv_at hl 1 rfl) ?_
      have hi_11 : vp_in x1 400 := by
        have z_1 := Int32.lt_iff_toInt_lt.mp (Int32.not_le.mp c_1)
        have z_2 := Int32.le_iff_toInt_le.mp (Int32.not_lt.mp c_7)
        have y_97 : (97 : Int32).toInt = 97 := by decide
        refine vp_in_iff.mpr ⟨?_, ?_⟩ <;> omega
      refine va_bald hx hb hK hP 1 2 rfl rfl hi_11 dX12_isLetter_24 ?_
      refine lv_topi (fun x_12 ex_12 => ?_)
      have kx_12 : x_12.toInt = ((Mf 1) (x1 : Int32).toNatClampNeg).toInt := congrArg Int32.toInt ex_12
      refine lv_bipush (v := 122) hx hb dX12_isLetter_25 (by decide) ?_
      refine lv_icmp_gt (tgt := 34) hx hb dX12_isLetter_27 (by decide) (fun c_13 => ?_) (fun c_13 => ?_)
      · skip
        refine lv_iconst (v := 0) hx hb dX12_isLetter_34 (by decide) ?_
        have hp_14 : ((0 : Int32).toInt = 0 ∨ (0 : Int32).toInt = 1) := by
          have z_1 := Int32.lt_iff_toInt_lt.mp (Int32.not_le.mp c_1)
          have z_2 := Int32.le_iff_toInt_le.mp (Int32.not_lt.mp c_7)
          have z_3 := Int32.lt_iff_toInt_lt.mp c_13
          have y_97 : (97 : Int32).toInt = 97 := by decide
          have y_122 : (122 : Int32).toInt = 122 := by decide
          have y_0 : (0 : Int32).toInt = 0 := by decide
          have yr : (0 : Int32).toInt = 0 := by decide
          omega
        have hm_15 : (0 : Int32).toInt = 0 → (NLtr (Mf 1) (Mv 0) x1) := by
          intro h1r
          have ha_16 : NLtr (Mf 1) (Mv 0) x1 := by
            unfold NLtr Ltr
            intro hz
            have z_1 := Int32.lt_iff_toInt_lt.mp (Int32.not_le.mp c_1)
            have z_2 := Int32.le_iff_toInt_le.mp (Int32.not_lt.mp c_7)
            have z_3 := Int32.lt_iff_toInt_lt.mp c_13
            have y_97 : (97 : Int32).toInt = 97 := by decide
            have y_122 : (122 : Int32).toInt = 122 := by decide
            omega
          exact ha_16
        exact retI (v := 0) hx hb hr hlk (rfl) hP hD hS () ⟨_, rfl, hp_14, (fun h => absurd h (by decide)), hm_15⟩ [0, 1] rfl rfl dX12_isLetter_35 (Nat.le_of_ble_eq_true rfl) (Nat.le_of_ble_eq_true rfl) rfl
      · skip
        refine lv_iconst (v := 1) hx hb dX12_isLetter_30 (by decide) ?_
        refine lv_goto (tgt := 35) hx hb dX12_isLetter_31 (by decide) ?_
        have hp_17 : ((1 : Int32).toInt = 0 ∨ (1 : Int32).toInt = 1) := by
          have z_1 := Int32.lt_iff_toInt_lt.mp (Int32.not_le.mp c_1)
          have z_2 := Int32.le_iff_toInt_le.mp (Int32.not_lt.mp c_7)
          have z_3 := Int32.le_iff_toInt_le.mp (Int32.not_lt.mp c_13)
          have y_97 : (97 : Int32).toInt = 97 := by decide
          have y_122 : (122 : Int32).toInt = 122 := by decide
          have y_1 : (1 : Int32).toInt = 1 := by decide
          have yr : (1 : Int32).toInt = 1 := by decide
          omega
        have hm_18 : (1 : Int32).toInt = 1 → (Ltr (Mf 1) (Mv 0) x1) := by
          intro h1r
          have ha_19 : Ltr (Mf 1) (Mv 0) x1 := by
            unfold Ltr
            have z_1 := Int32.lt_iff_toInt_lt.mp (Int32.not_le.mp c_1)
            have z_2 := Int32.le_iff_toInt_le.mp (Int32.not_lt.mp c_7)
            have z_3 := Int32.le_iff_toInt_le.mp (Int32.not_lt.mp c_13)
            have y_97 : (97 : Int32).toInt = 97 := by decide
            have y_122 : (122 : Int32).toInt = 122 := by decide
            omega
          exact ha_19
        exact retI (v := 1) hx hb hr hlk (rfl) hP hD hS () ⟨_, rfl, hp_17, hm_18, (fun h => absurd h (by decide))⟩ [0, 1] rfl rfl dX12_isLetter_35 (Nat.le_of_ble_eq_true rfl) (Nat.le_of_ble_eq_true rfl) rfl
set_option maxRecDepth 100000 in
theorem cu_X12_isLetter (l : Launch) (D : va_G) (tc : Nat → ClassId) (sk : (Nat → Nat) × (Nat → Nat)) (Ma_0 : Nat) (Ma_1 : Nat) (Ma_2 : Nat) (Ma_3 : Nat) (Ma_4 : Nat) (Ma_5 : Nat) (Ma_6 : Nat) (Ma_7 : Nat) (Ma_8 : Nat) (Ma_9 : Nat) (Ma_10 : Nat) (Ma_11 : Nat) (Ma_12 : Nat) (Ma_13 : Nat) (Ma_14 : Nat) (Ma_15 : Nat) (Ma_16 : Nat) (Ma_17 : Nat) (Ma_18 : Nat) (Ma_19 : Nat) (Ma_20 : Nat) (Mv_0 : Int32) (Mv_1 : Int32) (Mv_2 : Int32) (Mv_3 : Int32) (Mv_4 : Int32) (Mv_5 : Int32) (Mv_6 : Int32) (Mv_7 : Int32) (Mv_8 : Int32) (Mv_9 : Int32) (Mv_10 : Int32) (Mv_11 : Int32) (Mv_12 : Int32) (Mv_13 : Int32) (Mv_14 : Int32) (Mf_1 : Nat → Int32) (Mj_0 : Int64) (x1 : Int32) (h_x : 0 ≤ x1.toInt) (h_t : Mv_0.toInt ≤ 400) : Ct l yX12_isLetter cX12_isLetter 2 (some .boolean) { frames := 0, cells := 0, slots := 0, locals := 0 } D tc sk [.ref Ma_0, .int x1] [(Ma_0, .inr (12, [.ref Ma_1, .int Mv_0, .int Mv_1, .ref Ma_2, .ref Ma_3, .ref Ma_4, .ref Ma_5, .ref Ma_6, .int Mv_2, .int Mv_3, .int Mv_4, .int Mv_5, .int Mv_6, .int Mv_7, .int Mv_8, .ref Ma_7, .int Mv_9, .ref Ma_8, .int Mv_10, .ref Ma_9, .ref Ma_10, .int Mv_11, .int Mv_12, .int Mv_13, .ref Ma_11, .int Mv_14, .ref Ma_12, .ref Ma_13, .ref Ma_14, .ref Ma_15, .ref Ma_16, .long Mj_0, .ref Ma_17, .ref Ma_18, .ref Ma_19, .ref Ma_20])), (Ma_1, .inl (tc 2, 400, .inl Mf_1))] (fun (v : Option Value) (_ : Unit) => ∃ r : Int32, v = some (.int r) ∧ ((r.toInt = 0 ∨ r.toInt = 1)) ∧ (r.toInt = 1 → (Ltr Mf_1 Mv_0 x1)) ∧ (r.toInt = 0 → (NLtr Mf_1 Mv_0 x1))) (fun (_ : Unit) => [(Ma_0, .inr (12, [.ref Ma_1, .int Mv_0, .int Mv_1, .ref Ma_2, .ref Ma_3, .ref Ma_4, .ref Ma_5, .ref Ma_6, .int Mv_2, .int Mv_3, .int Mv_4, .int Mv_5, .int Mv_6, .int Mv_7, .int Mv_8, .ref Ma_7, .int Mv_9, .ref Ma_8, .int Mv_10, .ref Ma_9, .ref Ma_10, .int Mv_11, .int Mv_12, .int Mv_13, .ref Ma_11, .int Mv_14, .ref Ma_12, .ref Ma_13, .ref Ma_14, .ref Ma_15, .ref Ma_16, .long Mj_0, .ref Ma_17, .ref Ma_18, .ref Ma_19, .ref Ma_20])), (Ma_1, .inl (tc 2, 400, .inl Mf_1))]) 0 0 :=
  ct_X12_isLetter l D tc sk (fun k => ([Ma_0, Ma_1, Ma_2, Ma_3, Ma_4, Ma_5, Ma_6, Ma_7, Ma_8, Ma_9, Ma_10, Ma_11, Ma_12, Ma_13, Ma_14, Ma_15, Ma_16, Ma_17, Ma_18, Ma_19, Ma_20] : List (Nat)).getD k 0) (fun k => ([Mv_0, Mv_1, Mv_2, Mv_3, Mv_4, Mv_5, Mv_6, Mv_7, Mv_8, Mv_9, Mv_10, Mv_11, Mv_12, Mv_13, Mv_14] : List (Int32)).getD k 0) (fun k => ([(fun _ => 0), Mf_1] : List (Nat → Int32)).getD k (fun _ => 0)) (fun k => ([Mj_0] : List (Int64)).getD k 0) x1 h_x h_t
set_option maxHeartbeats 4000000 in
set_option maxRecDepth 100000 in
theorem ct_X12_isDigit (l : Launch) (D : va_G) (tc : Nat → ClassId) (sk : (Nat → Nat) × (Nat → Nat)) (Ma : Nat → Nat) (Mv : Nat → Int32) (Mf : Nat → Nat → Int32) (Mj : Nat → Int64) (x1 : Int32) (h_x : 0 ≤ x1.toInt) (h_t : (Mv 0).toInt ≤ 400) : Ct l yX12_isDigit cX12_isDigit 2 (some .boolean) { frames := 0, cells := 0, slots := 0, locals := 0 } D tc sk [.ref (Ma 0), .int x1] [((Ma 0), .inr (12, [.ref (Ma 1), .int (Mv 0), .int (Mv 1), .ref (Ma 2), .ref (Ma 3), .ref (Ma 4), .ref (Ma 5), .ref (Ma 6), .int (Mv 2), .int (Mv 3), .int (Mv 4), .int (Mv 5), .int (Mv 6), .int (Mv 7), .int (Mv 8), .ref (Ma 7), .int (Mv 9), .ref (Ma 8), .int (Mv 10), .ref (Ma 9), .ref (Ma 10), .int (Mv 11), .int (Mv 12), .int (Mv 13), .ref (Ma 11), .int (Mv 14), .ref (Ma 12), .ref (Ma 13), .ref (Ma 14), .ref (Ma 15), .ref (Ma 16), .long (Mj 0), .ref (Ma 17), .ref (Ma 18), .ref (Ma 19), .ref (Ma 20)])), ((Ma 1), .inl (tc 2, 400, .inl (Mf 1)))] (fun (v : Option Value) (_ : Unit) => ∃ r : Int32, v = some (.int r) ∧ ((r.toInt = 0 ∨ r.toInt = 1)) ∧ (r.toInt = 1 → (Dgt (Mf 1) (Mv 0) x1)) ∧ (r.toInt = 0 → (NDgt (Mf 1) (Mv 0) x1))) (fun (_ : Unit) => [((Ma 0), .inr (12, [.ref (Ma 1), .int (Mv 0), .int (Mv 1), .ref (Ma 2), .ref (Ma 3), .ref (Ma 4), .ref (Ma 5), .ref (Ma 6), .int (Mv 2), .int (Mv 3), .int (Mv 4), .int (Mv 5), .int (Mv 6), .int (Mv 7), .int (Mv 8), .ref (Ma 7), .int (Mv 9), .ref (Ma 8), .int (Mv 10), .ref (Ma 9), .ref (Ma 10), .int (Mv 11), .int (Mv 12), .int (Mv 13), .ref (Ma 11), .int (Mv 14), .ref (Ma 12), .ref (Ma 13), .ref (Ma 14), .ref (Ma 15), .ref (Ma 16), .long (Mj 0), .ref (Ma 17), .ref (Ma 18), .ref (Ma 19), .ref (Ma 20)])), ((Ma 1), .inl (tc 2, 400, .inl (Mf 1)))]) 0 0 := by
  refine Ct.start (by decide) (Nat.le_of_ble_eq_true rfl) (fun p e s m below meth c A ls hx hb hr hlk hin hml hown hts hK hX hP hD hA hl hS => ?_)
  have hl : lv_has ls 2 [(0, .ref (Ma 0)), (1, .int x1)] := hl
  refine lv_iload_n hx hb dX12_isDigit_0 rfl (lv_at hl 1 rfl) ?_
  refine lv_aload_n hx hb dX12_isDigit_1 rfl (lv_at hl 0 rfl) ?_
  refine gf_X12_77 hx hb hts hown hK hP 0 rfl rfl dX12_isDigit_2 ?_
  refine lv_icmp_ge (tgt := 34) hx hb dX12_isDigit_5 (by decide) (fun c_1 => ?_) (fun c_1 => ?_)
  · skip
    refine lv_iconst (v := 0) hx hb dX12_isDigit_34 (by decide) ?_
    have hp_2 : ((0 : Int32).toInt = 0 ∨ (0 : Int32).toInt = 1) := by
      have z_1 := Int32.le_iff_toInt_le.mp c_1
      have y_0 : (0 : Int32).toInt = 0 := by decide
      have yr : (0 : Int32).toInt = 0 := by decide
      omega
    have hm_3 : (0 : Int32).toInt = 0 → (NDgt (Mf 1) (Mv 0) x1) := by
      intro h1r
      have ha_4 : NDgt (Mf 1) (Mv 0) x1 := by
        unfold NDgt Dgt
        intro hz
        have z_1 := Int32.le_iff_toInt_le.mp c_1
        omega
      exact ha_4
    exact retI (v := 0) hx hb hr hlk (rfl) hP hD hS () ⟨_, rfl, hp_2, (fun h => absurd h (by decide)), hm_3⟩ [0, 1] rfl rfl dX12_isDigit_35 (Nat.le_of_ble_eq_true rfl) (Nat.le_of_ble_eq_true rfl) rfl
  · skip
    refine lv_aload_n hx hb dX12_isDigit_8 rfl (lv_at hl 0 rfl) ?_
    refine gf_X12_7 hx hb hts hown hK hP 0 rfl rfl dX12_isDigit_9 ?_
    refine lv_iload_n hx hb dX12_isDigit_12 rfl (lv_at hl 1 rfl) ?_
    have hi_5 : vp_in x1 400 := by
      have z_1 := Int32.lt_iff_toInt_lt.mp (Int32.not_le.mp c_1)
      refine vp_in_iff.mpr ⟨?_, ?_⟩ <;> omega
    refine va_bald hx hb hK hP 1 2 rfl rfl hi_5 dX12_isDigit_13 ?_
    refine lv_topi (fun x_6 ex_6 => ?_)
    have kx_6 : x_6.toInt = ((Mf 1) (x1 : Int32).toNatClampNeg).toInt := congrArg Int32.toInt ex_6
    refine lv_bipush (v := 48) hx hb dX12_isDigit_14 (by decide) ?_
    refine lv_icmp_lt (tgt := 34) hx hb dX12_isDigit_16 (by decide) (fun c_7 => ?_) (fun c_7 => ?_)
    · skip
      refine lv_iconst (v := 0) hx hb dX12_isDigit_34 (by decide) ?_
      have hp_8 : ((0 : Int32).toInt = 0 ∨ (0 : Int32).toInt = 1) := by
        have z_1 := Int32.lt_iff_toInt_lt.mp (Int32.not_le.mp c_1)
        have z_2 := Int32.lt_iff_toInt_lt.mp c_7
        have y_48 : (48 : Int32).toInt = 48 := by decide
        have y_0 : (0 : Int32).toInt = 0 := by decide
        have yr : (0 : Int32).toInt = 0 := by decide
        omega
      have hm_9 : (0 : Int32).toInt = 0 → (NDgt (Mf 1) (Mv 0) x1) := by
        intro h1r
        have ha_10 : NDgt (Mf 1) (Mv 0) x1 := by
          unfold NDgt Dgt
          intro hz
          have z_1 := Int32.lt_iff_toInt_lt.mp (Int32.not_le.mp c_1)
          have z_2 := Int32.lt_iff_toInt_lt.mp c_7
          have y_48 : (48 : Int32).toInt = 48 := by decide
          omega
        exact ha_10
      exact retI (v := 0) hx hb hr hlk (rfl) hP hD hS () ⟨_, rfl, hp_8, (fun h => absurd h (by decide)), hm_9⟩ [0, 1] rfl rfl dX12_isDigit_35 (Nat.le_of_ble_eq_true rfl) (Nat.le_of_ble_eq_true rfl) rfl
    · skip
      refine lv_aload_n hx hb dX12_isDigit_19 rfl (lv_at hl 0 rfl) ?_
      refine gf_X12_7 hx hb hts hown hK hP 0 rfl rfl dX12_isDigit_20 ?_
      refine lv_iload_n hx hb dX12_isDigit_23 rfl (lv_at hl 1 rfl) ?_
      have hi_11 : vp_in x1 400 := by
        have z_1 := Int32.lt_iff_toInt_lt.mp (Int32.not_le.mp c_1)
        have z_2 := Int32.le_iff_toInt_le.mp (Int32.not_lt.mp c_7)
        have y_48 : (48 : Int32).toInt = 48 := by decide
        refine vp_in_iff.mpr ⟨?_, ?_⟩ <;> omega
      refine va_bald hx hb hK hP 1 2 rfl rfl hi_11 dX12_isDigit_24 ?_
      refine lv_topi (fun x_12 ex_12 => ?_)
      have kx_12 : x_12.toInt = ((Mf 1) (x1 : Int32).toNatClampNeg).toInt := congrArg Int32.toInt ex_12
      refine lv_bipush (v := 57) hx hb dX12_isDigit_25 (by decide) ?_
      refine lv_icmp_gt (tgt := 34) hx hb dX12_isDigit_27 (by decide) (fun c_13 => ?_) (fun c_13 => ?_)
      · skip
        refine lv_iconst (v := 0) hx hb dX12_isDigit_34 (by decide) ?_
        have hp_14 : ((0 : Int32).toInt = 0 ∨ (0 : Int32).toInt = 1) := by
          have z_1 := Int32.lt_iff_toInt_lt.mp (Int32.not_le.mp c_1)
          have z_2 := Int32.le_iff_toInt_le.mp (Int32.not_lt.mp c_7)
          have z_3 := Int32.lt_iff_toInt_lt.mp c_13
          have y_48 : (48 : Int32).toInt = 48 := by decide
          have y_57 : (57 : Int32).toInt = 57 := by decide
          have y_0 : (0 : Int32).toInt = 0 := by decide
          have yr : (0 : Int32).toInt = 0 := by decide
          omega
        have hm_15 : (0 : Int32).toInt = 0 → (NDgt (Mf 1) (Mv 0) x1) := by
          intro h1r
          have ha_16 : NDgt (Mf 1) (Mv 0) x1 := by
            unfold NDgt Dgt
            intro hz
            have z_1 := Int32.lt_iff_toInt_lt.mp (Int32.not_le.mp c_1)
            have z_2 := Int32.le_iff_toInt_le.mp (Int32.not_lt.mp c_7)
            have z_3 := Int32.lt_iff_toInt_lt.mp c_13
            have y_48 : (48 : Int32).toInt = 48 := by decide
            have y_57 : (57 : Int32).toInt = 57 := by decide
            omega
          exact ha_16
        exact retI (v := 0) hx hb hr hlk (rfl) hP hD hS () ⟨_, rfl, hp_14, (fun h => absurd h (by decide)), hm_15⟩ [0, 1] rfl rfl dX12_isDigit_35 (Nat.le_of_ble_eq_true rfl) (Nat.le_of_ble_eq_true rfl) rfl
      · skip
        refine lv_iconst (v := 1) hx hb dX12_isDigit_30 (by decide) ?_
        refine lv_goto (tgt := 35) hx hb dX12_isDigit_31 (by decide) ?_
        have hp_17 : ((1 : Int32).toInt = 0 ∨ (1 : Int32).toInt = 1) := by
          have z_1 := Int32.lt_iff_toInt_lt.mp (Int32.not_le.mp c_1)
          have z_2 := Int32.le_iff_toInt_le.mp (Int32.not_lt.mp c_7)
          have z_3 := Int32.le_iff_toInt_le.mp (Int32.not_lt.mp c_13)
          have y_48 : (48 : Int32).toInt = 48 := by decide
          have y_57 : (57 : Int32).toInt = 57 := by decide
          have y_1 : (1 : Int32).toInt = 1 := by decide
          have yr : (1 : Int32).toInt = 1 := by decide
          omega
        have hm_18 : (1 : Int32).toInt = 1 → (Dgt (Mf 1) (Mv 0) x1) := by
          intro h1r
          have ha_19 : Dgt (Mf 1) (Mv 0) x1 := by
            unfold Dgt
            have z_1 := Int32.lt_iff_toInt_lt.mp (Int32.not_le.mp c_1)
            have z_2 := Int32.le_iff_toInt_le.mp (Int32.not_lt.mp c_7)
            have z_3 := Int32.le_iff_toInt_le.mp (Int32.not_lt.mp c_13)
            have y_48 : (48 : Int32).toInt = 48 := by decide
            have y_57 : (57 : Int32).toInt = 57 := by decide
            omega
          exact ha_19
        exact retI (v := 1) hx hb hr hlk (rfl) hP hD hS () ⟨_, rfl, hp_17, hm_18, (fun h => absurd h (by decide))⟩ [0, 1] rfl rfl dX12_isDigit_35 (Nat.le_of_ble_eq_true rfl) (Nat.le_of_ble_eq_true rfl) rfl
set_option maxRecDepth 100000 in
theorem cu_X12_isDigit (l : Launch) (D : va_G) (tc : Nat → ClassId) (sk : (Nat → Nat) × (Nat → Nat)) (Ma_0 : Nat) (Ma_1 : Nat) (Ma_2 : Nat) (Ma_3 : Nat) (Ma_4 : Nat) (Ma_5 : Nat) (Ma_6 : Nat) (Ma_7 : Nat) (Ma_8 : Nat) (Ma_9 : Nat) (Ma_10 : Nat) (Ma_11 : Nat) (Ma_12 : Nat) (Ma_13 : Nat) (Ma_14 : Nat) (Ma_15 : Nat) (Ma_16 : Nat) (Ma_17 : Nat) (Ma_18 : Nat) (Ma_19 : Nat) (Ma_20 : Nat) (Mv_0 : Int32) (Mv_1 : Int32) (Mv_2 : Int32) (Mv_3 : Int32) (Mv_4 : Int32) (Mv_5 : Int32) (Mv_6 : Int32) (Mv_7 : Int32) (Mv_8 : Int32) (Mv_9 : Int32) (Mv_10 : Int32) (Mv_11 : Int32) (Mv_12 : Int32) (Mv_13 : Int32) (Mv_14 : Int32) (Mf_1 : Nat → Int32) (Mj_0 : Int64) (x1 : Int32) (h_x : 0 ≤ x1.toInt) (h_t : Mv_0.toInt ≤ 400) : Ct l yX12_isDigit cX12_isDigit 2 (some .boolean) { frames := 0, cells := 0, slots := 0, locals := 0 } D tc sk [.ref Ma_0, .int x1] [(Ma_0, .inr (12, [.ref Ma_1, .int Mv_0, .int Mv_1, .ref Ma_2, .ref Ma_3, .ref Ma_4, .ref Ma_5, .ref Ma_6, .int Mv_2, .int Mv_3, .int Mv_4, .int Mv_5, .int Mv_6, .int Mv_7, .int Mv_8, .ref Ma_7, .int Mv_9, .ref Ma_8, .int Mv_10, .ref Ma_9, .ref Ma_10, .int Mv_11, .int Mv_12, .int Mv_13, .ref Ma_11, .int Mv_14, .ref Ma_12, .ref Ma_13, .ref Ma_14, .ref Ma_15, .ref Ma_16, .long Mj_0, .ref Ma_17, .ref Ma_18, .ref Ma_19, .ref Ma_20])), (Ma_1, .inl (tc 2, 400, .inl Mf_1))] (fun (v : Option Value) (_ : Unit) => ∃ r : Int32, v = some (.int r) ∧ ((r.toInt = 0 ∨ r.toInt = 1)) ∧ (r.toInt = 1 → (Dgt Mf_1 Mv_0 x1)) ∧ (r.toInt = 0 → (NDgt Mf_1 Mv_0 x1))) (fun (_ : Unit) => [(Ma_0, .inr (12, [.ref Ma_1, .int Mv_0, .int Mv_1, .ref Ma_2, .ref Ma_3, .ref Ma_4, .ref Ma_5, .ref Ma_6, .int Mv_2, .int Mv_3, .int Mv_4, .int Mv_5, .int Mv_6, .int Mv_7, .int Mv_8, .ref Ma_7, .int Mv_9, .ref Ma_8, .int Mv_10, .ref Ma_9, .ref Ma_10, .int Mv_11, .int Mv_12, .int Mv_13, .ref Ma_11, .int Mv_14, .ref Ma_12, .ref Ma_13, .ref Ma_14, .ref Ma_15, .ref Ma_16, .long Mj_0, .ref Ma_17, .ref Ma_18, .ref Ma_19, .ref Ma_20])), (Ma_1, .inl (tc 2, 400, .inl Mf_1))]) 0 0 :=
  ct_X12_isDigit l D tc sk (fun k => ([Ma_0, Ma_1, Ma_2, Ma_3, Ma_4, Ma_5, Ma_6, Ma_7, Ma_8, Ma_9, Ma_10, Ma_11, Ma_12, Ma_13, Ma_14, Ma_15, Ma_16, Ma_17, Ma_18, Ma_19, Ma_20] : List (Nat)).getD k 0) (fun k => ([Mv_0, Mv_1, Mv_2, Mv_3, Mv_4, Mv_5, Mv_6, Mv_7, Mv_8, Mv_9, Mv_10, Mv_11, Mv_12, Mv_13, Mv_14] : List (Int32)).getD k 0) (fun k => ([(fun _ => 0), Mf_1] : List (Nat → Int32)).getD k (fun _ => 0)) (fun k => ([Mj_0] : List (Int64)).getD k 0) x1 h_x h_t
theorem dX12_closes_0 : decode cX12_closes 0 = .ok (.aload_n 0, 1) := by decide +kernel
theorem dX12_closes_1 : decode cX12_closes 1 = .ok (.iconst 3, 1) := by decide +kernel
theorem dX12_closes_2 : decode cX12_closes 2 = .ok (.invokevirtual 193, 3) := by decide +kernel
theorem dX12_closes_5 : decode cX12_closes 5 = .ok (.aload_n 0, 1) := by decide +kernel
theorem dX12_closes_6 : decode cX12_closes 6 = .ok (.invokevirtual 90, 3) := by decide +kernel
theorem dX12_closes_9 : decode cX12_closes 9 = .ok (.bipush 93, 2) := by decide +kernel
theorem dX12_closes_11 : decode cX12_closes 11 = .ok (.if_icmp .ne 53, 3) := by decide +kernel
theorem dX12_closes_14 : decode cX12_closes 14 = .ok (.aload_n 0, 1) := by decide +kernel
theorem dX12_closes_15 : decode cX12_closes 15 = .ok (.invokevirtual 196, 3) := by decide +kernel
theorem dX12_closes_18 : decode cX12_closes 18 = .ok (.ifCond .eq 46, 3) := by decide +kernel
theorem dX12_closes_21 : decode cX12_closes 21 = .ok (.aload_n 0, 1) := by decide +kernel
theorem dX12_closes_22 : decode cX12_closes 22 = .ok (.iconst 1, 1) := by decide +kernel
theorem dX12_closes_23 : decode cX12_closes 23 = .ok (.invokevirtual 193, 3) := by decide +kernel
theorem dX12_closes_26 : decode cX12_closes 26 = .ok (.aload_n 0, 1) := by decide +kernel
theorem dX12_closes_27 : decode cX12_closes 27 = .ok (.dup, 1) := by decide +kernel
theorem dX12_closes_28 : decode cX12_closes 28 = .ok (.getfield 154, 3) := by decide +kernel
theorem dX12_closes_31 : decode cX12_closes 31 = .ok (.iconst 1, 1) := by decide +kernel
theorem dX12_closes_32 : decode cX12_closes 32 = .ok (.isub, 1) := by decide +kernel
theorem dX12_closes_33 : decode cX12_closes 33 = .ok (.putfield 154, 3) := by decide +kernel
theorem dX12_closes_36 : decode cX12_closes 36 = .ok (.aload_n 0, 1) := by decide +kernel
theorem dX12_closes_37 : decode cX12_closes 37 = .ok (.dup, 1) := by decide +kernel
theorem dX12_closes_38 : decode cX12_closes 38 = .ok (.getfield 151, 3) := by decide +kernel
theorem dX12_closes_41 : decode cX12_closes 41 = .ok (.iconst 1, 1) := by decide +kernel
theorem dX12_closes_42 : decode cX12_closes 42 = .ok (.isub, 1) := by decide +kernel
theorem dX12_closes_43 : decode cX12_closes 43 = .ok (.putfield 151, 3) := by decide +kernel
theorem dX12_closes_46 : decode cX12_closes 46 = .ok (.aload_n 0, 1) := by decide +kernel
theorem dX12_closes_47 : decode cX12_closes 47 = .ok (.dup, 1) := by decide +kernel
theorem dX12_closes_48 : decode cX12_closes 48 = .ok (.getfield 87, 3) := by decide +kernel
theorem dX12_closes_51 : decode cX12_closes 51 = .ok (.iconst 1, 1) := by decide +kernel
theorem dX12_closes_52 : decode cX12_closes 52 = .ok (.iadd, 1) := by decide +kernel
theorem dX12_closes_53 : decode cX12_closes 53 = .ok (.putfield 87, 3) := by decide +kernel
theorem dX12_closes_56 : decode cX12_closes 56 = .ok (.aload_n 0, 1) := by decide +kernel
theorem dX12_closes_57 : decode cX12_closes 57 = .ok (.iconst 3, 1) := by decide +kernel
theorem dX12_closes_58 : decode cX12_closes 58 = .ok (.invokevirtual 193, 3) := by decide +kernel
theorem dX12_closes_61 : decode cX12_closes 61 = .ok (.goto (-56), 3) := by decide +kernel
theorem dX12_closes_64 : decode cX12_closes 64 = .ok (.return_, 1) := by decide +kernel
theorem dX12_fact_0 : decode cX12_fact 0 = .ok (.iconst 1, 1) := by decide +kernel
theorem dX12_fact_1 : decode cX12_fact 1 = .ok (.istore_n 1, 1) := by decide +kernel
theorem dX12_fact_2 : decode cX12_fact 2 = .ok (.iload_n 1, 1) := by decide +kernel
theorem dX12_fact_3 : decode cX12_fact 3 = .ok (.ifCond .eq 72, 3) := by decide +kernel
theorem dX12_fact_6 : decode cX12_fact 6 = .ok (.iconst 0, 1) := by decide +kernel
theorem dX12_fact_7 : decode cX12_fact 7 = .ok (.istore_n 1, 1) := by decide +kernel
theorem dX12_fact_8 : decode cX12_fact 8 = .ok (.aload_n 0, 1) := by decide +kernel
theorem dX12_fact_9 : decode cX12_fact 9 = .ok (.invokevirtual 90, 3) := by decide +kernel
theorem dX12_fact_12 : decode cX12_fact 12 = .ok (.istore_n 2, 1) := by decide +kernel
theorem dX12_fact_13 : decode cX12_fact 13 = .ok (.aload_n 0, 1) := by decide +kernel
theorem dX12_fact_14 : decode cX12_fact 14 = .ok (.ldc2_w 185, 3) := by decide +kernel
theorem dX12_fact_17 : decode cX12_fact 17 = .ok (.invokevirtual 98, 3) := by decide +kernel
theorem dX12_fact_20 : decode cX12_fact 20 = .ok (.ifCond .eq 23, 3) := by decide +kernel
theorem dX12_fact_23 : decode cX12_fact 23 = .ok (.aload_n 0, 1) := by decide +kernel
theorem dX12_fact_24 : decode cX12_fact 24 = .ok (.bipush 11, 2) := by decide +kernel
theorem dX12_fact_26 : decode cX12_fact 26 = .ok (.invokevirtual 187, 3) := by decide +kernel
theorem dX12_fact_29 : decode cX12_fact 29 = .ok (.ifCond .ne 5, 3) := by decide +kernel
theorem dX12_fact_32 : decode cX12_fact 32 = .ok (.iconst 0, 1) := by decide +kernel
theorem dX12_fact_33 : decode cX12_fact 33 = .ok (.ireturn, 1) := by decide +kernel
theorem dX12_fact_34 : decode cX12_fact 34 = .ok (.aload_n 0, 1) := by decide +kernel
theorem dX12_fact_35 : decode cX12_fact 35 = .ok (.invokevirtual 102, 3) := by decide +kernel
theorem dX12_fact_38 : decode cX12_fact 38 = .ok (.iconst 1, 1) := by decide +kernel
theorem dX12_fact_39 : decode cX12_fact 39 = .ok (.istore_n 1, 1) := by decide +kernel
theorem dX12_fact_40 : decode cX12_fact 40 = .ok (.goto 32, 3) := by decide +kernel
theorem dX12_fact_43 : decode cX12_fact 43 = .ok (.iload_n 2, 1) := by decide +kernel
theorem dX12_fact_44 : decode cX12_fact 44 = .ok (.bipush 91, 2) := by decide +kernel
theorem dX12_fact_46 : decode cX12_fact 46 = .ok (.if_icmp .ne 26, 3) := by decide +kernel
theorem dX12_fact_49 : decode cX12_fact 49 = .ok (.aload_n 0, 1) := by decide +kernel
theorem dX12_fact_50 : decode cX12_fact 50 = .ok (.bipush 91, 2) := by decide +kernel
theorem dX12_fact_52 : decode cX12_fact 52 = .ok (.invokevirtual 187, 3) := by decide +kernel
theorem dX12_fact_55 : decode cX12_fact 55 = .ok (.ifCond .ne 5, 3) := by decide +kernel
theorem dX12_fact_58 : decode cX12_fact 58 = .ok (.iconst 0, 1) := by decide +kernel
theorem dX12_fact_59 : decode cX12_fact 59 = .ok (.ireturn, 1) := by decide +kernel
theorem dX12_fact_60 : decode cX12_fact 60 = .ok (.aload_n 0, 1) := by decide +kernel
theorem dX12_fact_61 : decode cX12_fact 61 = .ok (.dup, 1) := by decide +kernel
theorem dX12_fact_62 : decode cX12_fact 62 = .ok (.getfield 87, 3) := by decide +kernel
theorem dX12_fact_65 : decode cX12_fact 65 = .ok (.iconst 1, 1) := by decide +kernel
theorem dX12_fact_66 : decode cX12_fact 66 = .ok (.iadd, 1) := by decide +kernel
theorem dX12_fact_67 : decode cX12_fact 67 = .ok (.putfield 87, 3) := by decide +kernel
theorem dX12_fact_70 : decode cX12_fact 70 = .ok (.iconst 1, 1) := by decide +kernel
theorem dX12_fact_71 : decode cX12_fact 71 = .ok (.istore_n 1, 1) := by decide +kernel
theorem dX12_fact_72 : decode cX12_fact 72 = .ok (.goto (-70), 3) := by decide +kernel
theorem dX12_fact_75 : decode cX12_fact 75 = .ok (.aload_n 0, 1) := by decide +kernel
theorem dX12_fact_76 : decode cX12_fact 76 = .ok (.invokevirtual 190, 3) := by decide +kernel
theorem dX12_fact_79 : decode cX12_fact 79 = .ok (.ireturn, 1) := by decide +kernel
theorem dX12_isInside_0 : decode cX12_isInside 0 = .ok (.iconst 0, 1) := by decide +kernel
theorem dX12_isInside_1 : decode cX12_isInside 1 = .ok (.istore_n 1, 1) := by decide +kernel
theorem dX12_isInside_2 : decode cX12_isInside 2 = .ok (.iload_n 1, 1) := by decide +kernel
theorem dX12_isInside_3 : decode cX12_isInside 3 = .ok (.aload_n 0, 1) := by decide +kernel
theorem dX12_isInside_4 : decode cX12_isInside 4 = .ok (.getfield 154, 3) := by decide +kernel
theorem dX12_isInside_7 : decode cX12_isInside 7 = .ok (.if_icmp .ge 22, 3) := by decide +kernel
theorem dX12_isInside_10 : decode cX12_isInside 10 = .ok (.aload_n 0, 1) := by decide +kernel
theorem dX12_isInside_11 : decode cX12_isInside 11 = .ok (.getfield 29, 3) := by decide +kernel
theorem dX12_isInside_14 : decode cX12_isInside 14 = .ok (.iload_n 1, 1) := by decide +kernel
theorem dX12_isInside_15 : decode cX12_isInside 15 = .ok (.iaload, 1) := by decide +kernel
theorem dX12_isInside_16 : decode cX12_isInside 16 = .ok (.bipush 91, 2) := by decide +kernel
theorem dX12_isInside_18 : decode cX12_isInside 18 = .ok (.if_icmp .ne 5, 3) := by decide +kernel
theorem dX12_isInside_21 : decode cX12_isInside 21 = .ok (.iconst 1, 1) := by decide +kernel
theorem dX12_isInside_22 : decode cX12_isInside 22 = .ok (.ireturn, 1) := by decide +kernel
theorem dX12_isInside_23 : decode cX12_isInside 23 = .ok (.iinc 1 1, 3) := by decide +kernel
theorem dX12_isInside_26 : decode cX12_isInside 26 = .ok (.goto (-24), 3) := by decide +kernel
theorem dX12_isInside_29 : decode cX12_isInside 29 = .ok (.iconst 0, 1) := by decide +kernel
theorem dX12_isInside_30 : decode cX12_isInside 30 = .ok (.ireturn, 1) := by decide +kernel
theorem dX12_layDown_0 : decode cX12_layDown 0 = .ok (.aload_n 0, 1) := by decide +kernel
theorem dX12_layDown_1 : decode cX12_layDown 1 = .ok (.getfield 154, 3) := by decide +kernel
theorem dX12_layDown_4 : decode cX12_layDown 4 = .ok (.ifCond .le 72, 3) := by decide +kernel
theorem dX12_layDown_7 : decode cX12_layDown 7 = .ok (.aload_n 0, 1) := by decide +kernel
theorem dX12_layDown_8 : decode cX12_layDown 8 = .ok (.getfield 29, 3) := by decide +kernel
theorem dX12_layDown_11 : decode cX12_layDown 11 = .ok (.aload_n 0, 1) := by decide +kernel
theorem dX12_layDown_12 : decode cX12_layDown 12 = .ok (.getfield 154, 3) := by decide +kernel
theorem dX12_layDown_15 : decode cX12_layDown 15 = .ok (.iconst 1, 1) := by decide +kernel
theorem dX12_layDown_16 : decode cX12_layDown 16 = .ok (.isub, 1) := by decide +kernel
theorem dX12_layDown_17 : decode cX12_layDown 17 = .ok (.iaload, 1) := by decide +kernel
theorem dX12_layDown_18 : decode cX12_layDown 18 = .ok (.invokestatic 157, 3) := by decide +kernel
theorem dX12_layDown_21 : decode cX12_layDown 21 = .ok (.iload_n 1, 1) := by decide +kernel
theorem dX12_layDown_22 : decode cX12_layDown 22 = .ok (.if_icmp .lt 54, 3) := by decide +kernel
theorem dX12_layDown_25 : decode cX12_layDown 25 = .ok (.aload_n 0, 1) := by decide +kernel
theorem dX12_layDown_26 : decode cX12_layDown 26 = .ok (.dup, 1) := by decide +kernel
theorem dX12_layDown_27 : decode cX12_layDown 27 = .ok (.getfield 154, 3) := by decide +kernel
theorem dX12_layDown_30 : decode cX12_layDown 30 = .ok (.iconst 1, 1) := by decide +kernel
theorem dX12_layDown_31 : decode cX12_layDown 31 = .ok (.isub, 1) := by decide +kernel
theorem dX12_layDown_32 : decode cX12_layDown 32 = .ok (.putfield 154, 3) := by decide +kernel
theorem dX12_layDown_35 : decode cX12_layDown 35 = .ok (.aload_n 0, 1) := by decide +kernel
theorem dX12_layDown_36 : decode cX12_layDown 36 = .ok (.aload_n 0, 1) := by decide +kernel
theorem dX12_layDown_37 : decode cX12_layDown 37 = .ok (.getfield 29, 3) := by decide +kernel
theorem dX12_layDown_40 : decode cX12_layDown 40 = .ok (.aload_n 0, 1) := by decide +kernel
theorem dX12_layDown_41 : decode cX12_layDown 41 = .ok (.getfield 154, 3) := by decide +kernel
theorem dX12_layDown_44 : decode cX12_layDown 44 = .ok (.iaload, 1) := by decide +kernel
theorem dX12_layDown_45 : decode cX12_layDown 45 = .ok (.iconst 0, 1) := by decide +kernel
theorem dX12_layDown_46 : decode cX12_layDown 46 = .ok (.invokevirtual 161, 3) := by decide +kernel
theorem dX12_layDown_49 : decode cX12_layDown 49 = .ok (.aload_n 0, 1) := by decide +kernel
theorem dX12_layDown_50 : decode cX12_layDown 50 = .ok (.getfield 29, 3) := by decide +kernel
theorem dX12_layDown_53 : decode cX12_layDown 53 = .ok (.aload_n 0, 1) := by decide +kernel
theorem dX12_layDown_54 : decode cX12_layDown 54 = .ok (.getfield 154, 3) := by decide +kernel
theorem dX12_layDown_57 : decode cX12_layDown 57 = .ok (.iaload, 1) := by decide +kernel
theorem dX12_layDown_58 : decode cX12_layDown 58 = .ok (.bipush 11, 2) := by decide +kernel
theorem dX12_layDown_60 : decode cX12_layDown 60 = .ok (.if_icmp .ne (-60), 3) := by decide +kernel
theorem dX12_layDown_63 : decode cX12_layDown 63 = .ok (.aload_n 0, 1) := by decide +kernel
theorem dX12_layDown_64 : decode cX12_layDown 64 = .ok (.dup, 1) := by decide +kernel
theorem dX12_layDown_65 : decode cX12_layDown 65 = .ok (.getfield 151, 3) := by decide +kernel
theorem dX12_layDown_68 : decode cX12_layDown 68 = .ok (.iconst 1, 1) := by decide +kernel
theorem dX12_layDown_69 : decode cX12_layDown 69 = .ok (.isub, 1) := by decide +kernel
theorem dX12_layDown_70 : decode cX12_layDown 70 = .ok (.putfield 151, 3) := by decide +kernel
theorem dX12_layDown_73 : decode cX12_layDown 73 = .ok (.goto (-73), 3) := by decide +kernel
theorem dX12_layDown_76 : decode cX12_layDown 76 = .ok (.return_, 1) := by decide +kernel
theorem dX12_opens_0 : decode cX12_opens 0 = .ok (.aload_n 0, 1) := by decide +kernel
theorem dX12_opens_1 : decode cX12_opens 1 = .ok (.getfield 151, 3) := by decide +kernel
theorem dX12_opens_4 : decode cX12_opens 4 = .ok (.bipush 10, 2) := by decide +kernel
theorem dX12_opens_6 : decode cX12_opens 6 = .ok (.if_icmp .ne 13, 3) := by decide +kernel
theorem dX12_opens_9 : decode cX12_opens 9 = .ok (.aload_n 0, 1) := by decide +kernel
theorem dX12_opens_10 : decode cX12_opens 10 = .ok (.iconst 2, 1) := by decide +kernel
theorem dX12_opens_11 : decode cX12_opens 11 = .ok (.aload_n 0, 1) := by decide +kernel
theorem dX12_opens_12 : decode cX12_opens 12 = .ok (.getfield 87, 3) := by decide +kernel
theorem dX12_opens_15 : decode cX12_opens 15 = .ok (.invokevirtual 108, 3) := by decide +kernel
theorem dX12_opens_18 : decode cX12_opens 18 = .ok (.ireturn, 1) := by decide +kernel
theorem dX12_opens_19 : decode cX12_opens 19 = .ok (.aload_n 0, 1) := by decide +kernel
theorem dX12_opens_20 : decode cX12_opens 20 = .ok (.dup, 1) := by decide +kernel
theorem dX12_opens_21 : decode cX12_opens 21 = .ok (.getfield 151, 3) := by decide +kernel
theorem dX12_opens_24 : decode cX12_opens 24 = .ok (.iconst 1, 1) := by decide +kernel
theorem dX12_opens_25 : decode cX12_opens 25 = .ok (.iadd, 1) := by decide +kernel
theorem dX12_opens_26 : decode cX12_opens 26 = .ok (.putfield 151, 3) := by decide +kernel
theorem dX12_opens_29 : decode cX12_opens 29 = .ok (.aload_n 0, 1) := by decide +kernel
theorem dX12_opens_30 : decode cX12_opens 30 = .ok (.getfield 29, 3) := by decide +kernel
theorem dX12_opens_33 : decode cX12_opens 33 = .ok (.aload_n 0, 1) := by decide +kernel
theorem dX12_opens_34 : decode cX12_opens 34 = .ok (.getfield 154, 3) := by decide +kernel
theorem dX12_opens_37 : decode cX12_opens 37 = .ok (.iload_n 1, 1) := by decide +kernel
theorem dX12_opens_38 : decode cX12_opens 38 = .ok (.iastore, 1) := by decide +kernel
theorem dX12_opens_39 : decode cX12_opens 39 = .ok (.aload_n 0, 1) := by decide +kernel
theorem dX12_opens_40 : decode cX12_opens 40 = .ok (.dup, 1) := by decide +kernel
theorem dX12_opens_41 : decode cX12_opens 41 = .ok (.getfield 154, 3) := by decide +kernel
theorem dX12_opens_44 : decode cX12_opens 44 = .ok (.iconst 1, 1) := by decide +kernel
theorem dX12_opens_45 : decode cX12_opens 45 = .ok (.iadd, 1) := by decide +kernel
theorem dX12_opens_46 : decode cX12_opens 46 = .ok (.putfield 154, 3) := by decide +kernel
theorem dX12_opens_49 : decode cX12_opens 49 = .ok (.iconst 1, 1) := by decide +kernel
theorem dX12_opens_50 : decode cX12_opens 50 = .ok (.ireturn, 1) := by decide +kernel
theorem dX12_strength_0 : decode cX12_strength 0 = .ok (.iload_n 0, 1) := by decide +kernel
theorem dX12_strength_1 : decode cX12_strength 1 = .ok (.bipush 13, 2) := by decide +kernel
theorem dX12_strength_3 : decode cX12_strength 3 = .ok (.if_icmp .ne 7, 3) := by decide +kernel
theorem dX12_strength_6 : decode cX12_strength 6 = .ok (.iconst 1, 1) := by decide +kernel
theorem dX12_strength_7 : decode cX12_strength 7 = .ok (.goto 24, 3) := by decide +kernel
theorem dX12_strength_10 : decode cX12_strength 10 = .ok (.iload_n 0, 1) := by decide +kernel
theorem dX12_strength_11 : decode cX12_strength 11 = .ok (.bipush 12, 2) := by decide +kernel
theorem dX12_strength_13 : decode cX12_strength 13 = .ok (.if_icmp .ne 7, 3) := by decide +kernel
theorem dX12_strength_16 : decode cX12_strength 16 = .ok (.iconst 2, 1) := by decide +kernel
theorem dX12_strength_17 : decode cX12_strength 17 = .ok (.goto 14, 3) := by decide +kernel
theorem dX12_strength_20 : decode cX12_strength 20 = .ok (.iload_n 0, 1) := by decide +kernel
theorem dX12_strength_21 : decode cX12_strength 21 = .ok (.bipush 11, 2) := by decide +kernel
theorem dX12_strength_23 : decode cX12_strength 23 = .ok (.if_icmp .ne 7, 3) := by decide +kernel
theorem dX12_strength_26 : decode cX12_strength 26 = .ok (.iconst 3, 1) := by decide +kernel
theorem dX12_strength_27 : decode cX12_strength 27 = .ok (.goto 4, 3) := by decide +kernel
theorem dX12_strength_30 : decode cX12_strength 30 = .ok (.iconst 0, 1) := by decide +kernel
theorem dX12_strength_31 : decode cX12_strength 31 = .ok (.ireturn, 1) := by decide +kernel
theorem dX12_tested_0 : decode cX12_tested 0 = .ok (.aload_n 0, 1) := by decide +kernel
theorem dX12_tested_1 : decode cX12_tested 1 = .ok (.iconst 0, 1) := by decide +kernel
theorem dX12_tested_2 : decode cX12_tested 2 = .ok (.putfield 154, 3) := by decide +kernel
theorem dX12_tested_5 : decode cX12_tested 5 = .ok (.aload_n 0, 1) := by decide +kernel
theorem dX12_tested_6 : decode cX12_tested 6 = .ok (.iconst 0, 1) := by decide +kernel
theorem dX12_tested_7 : decode cX12_tested 7 = .ok (.putfield 151, 3) := by decide +kernel
theorem dX12_tested_10 : decode cX12_tested 10 = .ok (.iconst 1, 1) := by decide +kernel
theorem dX12_tested_11 : decode cX12_tested 11 = .ok (.istore_n 1, 1) := by decide +kernel
theorem dX12_tested_12 : decode cX12_tested 12 = .ok (.iload_n 1, 1) := by decide +kernel
theorem dX12_tested_13 : decode cX12_tested 13 = .ok (.ifCond .eq 99, 3) := by decide +kernel
theorem dX12_tested_16 : decode cX12_tested 16 = .ok (.aload_n 0, 1) := by decide +kernel
theorem dX12_tested_17 : decode cX12_tested 17 = .ok (.invokevirtual 199, 3) := by decide +kernel
theorem dX12_tested_20 : decode cX12_tested 20 = .ok (.ifCond .ne 5, 3) := by decide +kernel
theorem dX12_tested_23 : decode cX12_tested 23 = .ok (.iconst 0, 1) := by decide +kernel
theorem dX12_tested_24 : decode cX12_tested 24 = .ok (.ireturn, 1) := by decide +kernel
theorem dX12_tested_25 : decode cX12_tested 25 = .ok (.aload_n 0, 1) := by decide +kernel
theorem dX12_tested_26 : decode cX12_tested 26 = .ok (.invokevirtual 202, 3) := by decide +kernel
theorem dX12_tested_29 : decode cX12_tested 29 = .ok (.aload_n 0, 1) := by decide +kernel
theorem dX12_tested_30 : decode cX12_tested 30 = .ok (.ldc2_w 205, 3) := by decide +kernel
theorem dX12_tested_33 : decode cX12_tested 33 = .ok (.invokevirtual 98, 3) := by decide +kernel
theorem dX12_tested_36 : decode cX12_tested 36 = .ok (.ifCond .ne 13, 3) := by decide +kernel
theorem dX12_tested_39 : decode cX12_tested 39 = .ok (.aload_n 0, 1) := by decide +kernel
theorem dX12_tested_40 : decode cX12_tested 40 = .ok (.ldc2_w 207, 3) := by decide +kernel
theorem dX12_tested_43 : decode cX12_tested 43 = .ok (.invokevirtual 98, 3) := by decide +kernel
theorem dX12_tested_46 : decode cX12_tested 46 = .ok (.ifCond .eq 7, 3) := by decide +kernel
theorem dX12_tested_49 : decode cX12_tested 49 = .ok (.iconst 1, 1) := by decide +kernel
theorem dX12_tested_50 : decode cX12_tested 50 = .ok (.goto 4, 3) := by decide +kernel
theorem dX12_tested_53 : decode cX12_tested 53 = .ok (.iconst 0, 1) := by decide +kernel
theorem dX12_tested_54 : decode cX12_tested 54 = .ok (.istore_n 1, 1) := by decide +kernel
theorem dX12_tested_55 : decode cX12_tested 55 = .ok (.iload_n 1, 1) := by decide +kernel
theorem dX12_tested_56 : decode cX12_tested 56 = .ok (.ifCond .eq (-44), 3) := by decide +kernel
theorem dX12_tested_59 : decode cX12_tested 59 = .ok (.aload_n 0, 1) := by decide +kernel
theorem dX12_tested_60 : decode cX12_tested 60 = .ok (.ldc2_w 205, 3) := by decide +kernel
theorem dX12_tested_63 : decode cX12_tested 63 = .ok (.invokevirtual 98, 3) := by decide +kernel
theorem dX12_tested_66 : decode cX12_tested 66 = .ok (.ifCond .eq 8, 3) := by decide +kernel
theorem dX12_tested_69 : decode cX12_tested 69 = .ok (.bipush 12, 2) := by decide +kernel
theorem dX12_tested_71 : decode cX12_tested 71 = .ok (.goto 5, 3) := by decide +kernel
theorem dX12_tested_74 : decode cX12_tested 74 = .ok (.bipush 13, 2) := by decide +kernel
theorem dX12_tested_76 : decode cX12_tested 76 = .ok (.istore_n 2, 1) := by decide +kernel
theorem dX12_tested_77 : decode cX12_tested 77 = .ok (.aload_n 0, 1) := by decide +kernel
theorem dX12_tested_78 : decode cX12_tested 78 = .ok (.invokevirtual 102, 3) := by decide +kernel
theorem dX12_tested_81 : decode cX12_tested 81 = .ok (.aload_n 0, 1) := by decide +kernel
theorem dX12_tested_82 : decode cX12_tested 82 = .ok (.iload_n 2, 1) := by decide +kernel
theorem dX12_tested_83 : decode cX12_tested 83 = .ok (.invokestatic 157, 3) := by decide +kernel
theorem dX12_tested_86 : decode cX12_tested 86 = .ok (.invokevirtual 193, 3) := by decide +kernel
theorem dX12_tested_89 : decode cX12_tested 89 = .ok (.aload_n 0, 1) := by decide +kernel
theorem dX12_tested_90 : decode cX12_tested 90 = .ok (.getfield 29, 3) := by decide +kernel
theorem dX12_tested_93 : decode cX12_tested 93 = .ok (.aload_n 0, 1) := by decide +kernel
theorem dX12_tested_94 : decode cX12_tested 94 = .ok (.getfield 154, 3) := by decide +kernel
theorem dX12_tested_97 : decode cX12_tested 97 = .ok (.iload_n 2, 1) := by decide +kernel
theorem dX12_tested_98 : decode cX12_tested 98 = .ok (.iastore, 1) := by decide +kernel
theorem dX12_tested_99 : decode cX12_tested 99 = .ok (.aload_n 0, 1) := by decide +kernel
theorem dX12_tested_100 : decode cX12_tested 100 = .ok (.dup, 1) := by decide +kernel
theorem dX12_tested_101 : decode cX12_tested 101 = .ok (.getfield 154, 3) := by decide +kernel
theorem dX12_tested_104 : decode cX12_tested 104 = .ok (.iconst 1, 1) := by decide +kernel
theorem dX12_tested_105 : decode cX12_tested 105 = .ok (.iadd, 1) := by decide +kernel
theorem dX12_tested_106 : decode cX12_tested 106 = .ok (.putfield 154, 3) := by decide +kernel
theorem dX12_tested_109 : decode cX12_tested 109 = .ok (.goto (-97), 3) := by decide +kernel
theorem dX12_tested_112 : decode cX12_tested 112 = .ok (.aload_n 0, 1) := by decide +kernel
theorem dX12_tested_113 : decode cX12_tested 113 = .ok (.invokevirtual 196, 3) := by decide +kernel
theorem dX12_tested_116 : decode cX12_tested 116 = .ok (.ifCond .eq 18, 3) := by decide +kernel
theorem dX12_tested_119 : decode cX12_tested 119 = .ok (.aload_n 0, 1) := by decide +kernel
theorem dX12_tested_120 : decode cX12_tested 120 = .ok (.invokevirtual 90, 3) := by decide +kernel
theorem dX12_tested_123 : decode cX12_tested 123 = .ok (.pop, 1) := by decide +kernel
theorem dX12_tested_124 : decode cX12_tested 124 = .ok (.aload_n 0, 1) := by decide +kernel
theorem dX12_tested_125 : decode cX12_tested 125 = .ok (.iconst 0, 1) := by decide +kernel
theorem dX12_tested_126 : decode cX12_tested 126 = .ok (.aload_n 0, 1) := by decide +kernel
theorem dX12_tested_127 : decode cX12_tested 127 = .ok (.getfield 87, 3) := by decide +kernel
theorem dX12_tested_130 : decode cX12_tested 130 = .ok (.invokevirtual 108, 3) := by decide +kernel
theorem dX12_tested_133 : decode cX12_tested 133 = .ok (.ireturn, 1) := by decide +kernel
theorem dX12_tested_134 : decode cX12_tested 134 = .ok (.aload_n 0, 1) := by decide +kernel
theorem dX12_tested_135 : decode cX12_tested 135 = .ok (.iconst 1, 1) := by decide +kernel
theorem dX12_tested_136 : decode cX12_tested 136 = .ok (.invokevirtual 193, 3) := by decide +kernel
theorem dX12_tested_139 : decode cX12_tested 139 = .ok (.iconst 1, 1) := by decide +kernel
theorem dX12_tested_140 : decode cX12_tested 140 = .ok (.ireturn, 1) := by decide +kernel
set_option maxHeartbeats 4000000 in
set_option maxRecDepth 100000 in
theorem ct_X12_strength (l : Launch) (D : va_G) (tc : Nat → ClassId) (sk : (Nat → Nat) × (Nat → Nat)) (x1 : Int32)  : Ct l yX12_strength cX12_strength 1 (some .int) { frames := 0, cells := 0, slots := 0, locals := 0 } D tc sk [.int x1] [] (fun (v : Option Value) (_ : Unit) => ∃ r : Int32, v = some (.int r) ∧ (((x1.toInt = 13 ∧ r.toInt = 1) ∨ (x1.toInt = 12 ∧ r.toInt = 2) ∨ (x1.toInt = 11 ∧ r.toInt = 3) ∨ (x1.toInt ≠ 13 ∧ x1.toInt ≠ 12 ∧ x1.toInt ≠ 11 ∧ r.toInt = 0)))) (fun (_ : Unit) => []) 0 0 := by
  refine Ct.start (by decide) (Nat.le_of_ble_eq_true rfl) (fun p e s m below meth c A ls hx hb hr hlk hin hml hown hts hK hX hP hD hA hl hS => ?_)
  have hl : lv_has ls 1 [(0, .int x1)] := hl
  refine lv_iload_n hx hb dX12_strength_0 rfl (lv_at hl 0 rfl) ?_
  refine lv_bipush (v := 13) hx hb dX12_strength_1 (by decide) ?_
  refine lv_icmp_ne (tgt := 10) hx hb dX12_strength_3 (by decide) (fun c_1 => ?_) (fun c_1 => ?_)
  · skip
    refine lv_iload_n hx hb dX12_strength_10 rfl (lv_at hl 0 rfl) ?_
    refine lv_bipush (v := 12) hx hb dX12_strength_11 (by decide) ?_
    refine lv_icmp_ne (tgt := 20) hx hb dX12_strength_13 (by decide) (fun c_2 => ?_) (fun c_2 => ?_)
    · skip
      refine lv_iload_n hx hb dX12_strength_20 rfl (lv_at hl 0 rfl) ?_
      refine lv_bipush (v := 11) hx hb dX12_strength_21 (by decide) ?_
      refine lv_icmp_ne (tgt := 30) hx hb dX12_strength_23 (by decide) (fun c_3 => ?_) (fun c_3 => ?_)
      · skip
        refine lv_iconst (v := 0) hx hb dX12_strength_30 (by decide) ?_
        have hp_4 : ((x1.toInt = 13 ∧ (0 : Int32).toInt = 1) ∨ (x1.toInt = 12 ∧ (0 : Int32).toInt = 2) ∨ (x1.toInt = 11 ∧ (0 : Int32).toInt = 3) ∨ (x1.toInt ≠ 13 ∧ x1.toInt ≠ 12 ∧ x1.toInt ≠ 11 ∧ (0 : Int32).toInt = 0)) := by
          have z_1 : ¬ (x1 : Int32).toInt = (13 : Int32).toInt := fun z => c_1 (Int32.toInt_inj.mp z)
          have z_2 : ¬ (x1 : Int32).toInt = (12 : Int32).toInt := fun z => c_2 (Int32.toInt_inj.mp z)
          have z_3 : ¬ (x1 : Int32).toInt = (11 : Int32).toInt := fun z => c_3 (Int32.toInt_inj.mp z)
          have y_11 : (11 : Int32).toInt = 11 := by decide
          have y_12 : (12 : Int32).toInt = 12 := by decide
          have y_13 : (13 : Int32).toInt = 13 := by decide
          have y_0 : (0 : Int32).toInt = 0 := by decide
          have yr : (0 : Int32).toInt = 0 := by decide
          omega
        exact retI (v := 0) hx hb hr hlk (rfl) hP hD hS () ⟨_, rfl, hp_4⟩ [] rfl rfl dX12_strength_31 (Nat.le_of_ble_eq_true rfl) (Nat.le_of_ble_eq_true rfl) rfl
      · skip
        refine lv_iconst (v := 3) hx hb dX12_strength_26 (by decide) ?_
        refine lv_goto (tgt := 31) hx hb dX12_strength_27 (by decide) ?_
        have hp_5 : ((x1.toInt = 13 ∧ (3 : Int32).toInt = 1) ∨ (x1.toInt = 12 ∧ (3 : Int32).toInt = 2) ∨ (x1.toInt = 11 ∧ (3 : Int32).toInt = 3) ∨ (x1.toInt ≠ 13 ∧ x1.toInt ≠ 12 ∧ x1.toInt ≠ 11 ∧ (3 : Int32).toInt = 0)) := by
          have z_1 : ¬ (x1 : Int32).toInt = (13 : Int32).toInt := fun z => c_1 (Int32.toInt_inj.mp z)
          have z_2 : ¬ (x1 : Int32).toInt = (12 : Int32).toInt := fun z => c_2 (Int32.toInt_inj.mp z)
          have z_3 := congrArg Int32.toInt c_3
          have y_11 : (11 : Int32).toInt = 11 := by decide
          have y_12 : (12 : Int32).toInt = 12 := by decide
          have y_13 : (13 : Int32).toInt = 13 := by decide
          have y_3 : (3 : Int32).toInt = 3 := by decide
          have yr : (3 : Int32).toInt = 3 := by decide
          omega
        exact retI (v := 3) hx hb hr hlk (rfl) hP hD hS () ⟨_, rfl, hp_5⟩ [] rfl rfl dX12_strength_31 (Nat.le_of_ble_eq_true rfl) (Nat.le_of_ble_eq_true rfl) rfl
    · skip
      refine lv_iconst (v := 2) hx hb dX12_strength_16 (by decide) ?_
      refine lv_goto (tgt := 31) hx hb dX12_strength_17 (by decide) ?_
      have hp_6 : ((x1.toInt = 13 ∧ (2 : Int32).toInt = 1) ∨ (x1.toInt = 12 ∧ (2 : Int32).toInt = 2) ∨ (x1.toInt = 11 ∧ (2 : Int32).toInt = 3) ∨ (x1.toInt ≠ 13 ∧ x1.toInt ≠ 12 ∧ x1.toInt ≠ 11 ∧ (2 : Int32).toInt = 0)) := by
        have z_1 : ¬ (x1 : Int32).toInt = (13 : Int32).toInt := fun z => c_1 (Int32.toInt_inj.mp z)
        have z_2 := congrArg Int32.toInt c_2
        have y_12 : (12 : Int32).toInt = 12 := by decide
        have y_13 : (13 : Int32).toInt = 13 := by decide
        have y_2 : (2 : Int32).toInt = 2 := by decide
        have yr : (2 : Int32).toInt = 2 := by decide
        omega
      exact retI (v := 2) hx hb hr hlk (rfl) hP hD hS () ⟨_, rfl, hp_6⟩ [] rfl rfl dX12_strength_31 (Nat.le_of_ble_eq_true rfl) (Nat.le_of_ble_eq_true rfl) rfl
  · skip
    refine lv_iconst (v := 1) hx hb dX12_strength_6 (by decide) ?_
    refine lv_goto (tgt := 31) hx hb dX12_strength_7 (by decide) ?_
    have hp_7 : ((x1.toInt = 13 ∧ (1 : Int32).toInt = 1) ∨ (x1.toInt = 12 ∧ (1 : Int32).toInt = 2) ∨ (x1.toInt = 11 ∧ (1 : Int32).toInt = 3) ∨ (x1.toInt ≠ 13 ∧ x1.toInt ≠ 12 ∧ x1.toInt ≠ 11 ∧ (1 : Int32).toInt = 0)) := by
      have z_1 := congrArg Int32.toInt c_1
      have y_13 : (13 : Int32).toInt = 13 := by decide
      have y_1 : (1 : Int32).toInt = 1 := by decide
      have yr : (1 : Int32).toInt = 1 := by decide
      omega
    exact retI (v := 1) hx hb hr hlk (rfl) hP hD hS () ⟨_, rfl, hp_7⟩ [] rfl rfl dX12_strength_31 (Nat.le_of_ble_eq_true rfl) (Nat.le_of_ble_eq_true rfl) rfl
set_option maxHeartbeats 4000000 in
set_option maxRecDepth 100000 in
theorem ct_X12_isInside (l : Launch) (D : va_G) (tc : Nat → ClassId) (sk : (Nat → Nat) × (Nat → Nat)) (Ma : Nat → Nat) (Mv : Nat → Int32) (Mf : Nat → Nat → Int32) (Mj : Nat → Int64) (h_o : 0 ≤ ((Mv 9) : Int32).toInt ∧ ((Mv 9) : Int32).toInt ≤ 400) : Ct l yX12_isInside cX12_isInside 2 (some .boolean) { frames := 0, cells := 0, slots := 0, locals := 0 } D tc sk [.ref (Ma 0)] [((Ma 0), .inr (12, [.ref (Ma 1), .int (Mv 0), .int (Mv 1), .ref (Ma 2), .ref (Ma 3), .ref (Ma 4), .ref (Ma 5), .ref (Ma 6), .int (Mv 2), .int (Mv 3), .int (Mv 4), .int (Mv 5), .int (Mv 6), .int (Mv 7), .int (Mv 8), .ref (Ma 7), .int (Mv 9), .ref (Ma 8), .int (Mv 10), .ref (Ma 9), .ref (Ma 10), .int (Mv 11), .int (Mv 12), .int (Mv 13), .ref (Ma 11), .int (Mv 14), .ref (Ma 12), .ref (Ma 13), .ref (Ma 14), .ref (Ma 15), .ref (Ma 16), .long (Mj 0), .ref (Ma 17), .ref (Ma 18), .ref (Ma 19), .ref (Ma 20)])), ((Ma 7), .inl (tc 0, 400, .inl (Mf 7)))] (fun (v : Option Value) (_ : Unit) => ∃ r : Int32, v = some (.int r) ∧ ((r.toInt = 0 ∨ r.toInt = 1)) ∧ (r.toInt = 1 → (Ins (Mf 7) (Mv 9))) ∧ (r.toInt = 0 → (NIns (Mf 7) (Mv 9)))) (fun (_ : Unit) => [((Ma 0), .inr (12, [.ref (Ma 1), .int (Mv 0), .int (Mv 1), .ref (Ma 2), .ref (Ma 3), .ref (Ma 4), .ref (Ma 5), .ref (Ma 6), .int (Mv 2), .int (Mv 3), .int (Mv 4), .int (Mv 5), .int (Mv 6), .int (Mv 7), .int (Mv 8), .ref (Ma 7), .int (Mv 9), .ref (Ma 8), .int (Mv 10), .ref (Ma 9), .ref (Ma 10), .int (Mv 11), .int (Mv 12), .int (Mv 13), .ref (Ma 11), .int (Mv 14), .ref (Ma 12), .ref (Ma 13), .ref (Ma 14), .ref (Ma 15), .ref (Ma 16), .long (Mj 0), .ref (Ma 17), .ref (Ma 18), .ref (Ma 19), .ref (Ma 20)])), ((Ma 7), .inl (tc 0, 400, .inl (Mf 7)))]) 0 0 := by
  refine Ct.start (by decide) (Nat.le_of_ble_eq_true rfl) (fun p e s m below meth c A ls hx hb hr hlk hin hml hown hts hK hX hP hD hA hl hS => ?_)
  have hl : lv_has ls 2 [(0, .ref (Ma 0))] := hl
  refine lv_iconst (v := 0) hx hb dX12_isInside_0 (by decide) ?_
  refine lv_istore_n (lv' := [(1, .int 0), (0, .ref (Ma 0))]) hx hb dX12_isInside_1 rfl hl (by decide) rfl (fun ls hl₀ => ?_)
  replace hl := hl₀
  clear hl₀
  have loop_5 : ∀ (n_3 : Nat) (vy_2 : Int32) (H : Heap) (locs : List Loc) (ls : Array Slot), (400 - (vy_2 : Int32).toInt).toNat < n_3 → (0 ≤ (vy_2 : Int32).toInt) → (NIns (Mf 7) vy_2) → va_P D classes [((Ma 0), .inr (12, [.ref (Ma 1), .int (Mv 0), .int (Mv 1), .ref (Ma 2), .ref (Ma 3), .ref (Ma 4), .ref (Ma 5), .ref (Ma 6), .int (Mv 2), .int (Mv 3), .int (Mv 4), .int (Mv 5), .int (Mv 6), .int (Mv 7), .int (Mv 8), .ref (Ma 7), .int (Mv 9), .ref (Ma 8), .int (Mv 10), .ref (Ma 9), .ref (Ma 10), .int (Mv 11), .int (Mv 12), .int (Mv 13), .ref (Ma 11), .int (Mv 14), .ref (Ma 12), .ref (Ma 13), .ref (Ma 14), .ref (Ma 15), .ref (Ma 16), .long (Mj 0), .ref (Ma 17), .ref (Ma 18), .ref (Ma 19), .ref (Ma 20)])), ((Ma 7), .inl (tc 0, 400, .inl (Mf 7)))] H → va_D A [((Ma 0), .inr (12, [.ref (Ma 1), .int (Mv 0), .int (Mv 1), .ref (Ma 2), .ref (Ma 3), .ref (Ma 4), .ref (Ma 5), .ref (Ma 6), .int (Mv 2), .int (Mv 3), .int (Mv 4), .int (Mv 5), .int (Mv 6), .int (Mv 7), .int (Mv 8), .ref (Ma 7), .int (Mv 9), .ref (Ma 8), .int (Mv 10), .ref (Ma 9), .ref (Ma 10), .int (Mv 11), .int (Mv 12), .int (Mv 13), .ref (Ma 11), .int (Mv 14), .ref (Ma 12), .ref (Ma 13), .ref (Ma 14), .ref (Ma 15), .ref (Ma 16), .long (Mj 0), .ref (Ma 17), .ref (Ma 18), .ref (Ma 19), .ref (Ma 20)])), ((Ma 7), .inl (tc 0, 400, .inl (Mf 7)))] → va_S A s.heap H locs → lv_has ls 2 [(1, .int vy_2), (0, .ref (Ma 0))] → W p l e ({ frames := 0, cells := 0, slots := 0, locals := 0 }) s m ([.ref (Ma 0)].toArray) below meth c H locs 0 0 (MQ below (QW (fun (v : Option Value) (_ : Unit) => ∃ r : Int32, v = some (.int r) ∧ ((r.toInt = 0 ∨ r.toInt = 1)) ∧ (r.toInt = 1 → (Ins (Mf 7) (Mv 9))) ∧ (r.toInt = 0 → (NIns (Mf 7) (Mv 9)))) (BW D (fun (_ : Unit) => [((Ma 0), .inr (12, [.ref (Ma 1), .int (Mv 0), .int (Mv 1), .ref (Ma 2), .ref (Ma 3), .ref (Ma 4), .ref (Ma 5), .ref (Ma 6), .int (Mv 2), .int (Mv 3), .int (Mv 4), .int (Mv 5), .int (Mv 6), .int (Mv 7), .int (Mv 8), .ref (Ma 7), .int (Mv 9), .ref (Ma 8), .int (Mv 10), .ref (Ma 9), .ref (Ma 10), .int (Mv 11), .int (Mv 12), .int (Mv 13), .ref (Ma 11), .int (Mv 14), .ref (Ma 12), .ref (Ma 13), .ref (Ma 14), .ref (Ma 15), .ref (Ma 16), .long (Mj 0), .ref (Ma 17), .ref (Ma 18), .ref (Ma 19), .ref (Ma 20)])), ((Ma 7), .inl (tc 0, 400, .inl (Mf 7)))]) A) A) ([.ref (Ma 0)].toArray) s 0 0 A) (F0 m 2 ls []) := by
    clear hP hD hS hl
    intro n_3
    induction n_3 with
    | zero =>
      intro vy_2 H locs ls h1
      exact absurd h1 (Nat.not_lt_zero _)
    | succ n_3 ih_4 =>
      intro vy_2 H locs ls hn_8 pf_6 pf_7 hP hD hS hl
      refine lv_iload_n hx hb dX12_isInside_2 rfl (lv_at hl 0 rfl) ?_
      refine lv_aload_n hx hb dX12_isInside_3 rfl (lv_at hl 1 rfl) ?_
      refine gf_X12_154 hx hb hts hown hK hP 0 rfl rfl dX12_isInside_4 ?_
      refine lv_icmp_ge (tgt := 29) hx hb dX12_isInside_7 (by decide) (fun c_9 => ?_) (fun c_9 => ?_)
      · skip
        refine lv_iconst (v := 0) hx hb dX12_isInside_29 (by decide) ?_
        have hp_10 : ((0 : Int32).toInt = 0 ∨ (0 : Int32).toInt = 1) := by
          have z_1 := Int32.le_iff_toInt_le.mp c_9
          have y_0 : (0 : Int32).toInt = 0 := by decide
          have yr : (0 : Int32).toInt = 0 := by decide
          omega
        have hm_11 : (0 : Int32).toInt = 0 → (NIns (Mf 7) (Mv 9)) := by
          intro h1r
          have hr_12 : ((Mv 9) : Int32).toInt ≤ (vy_2 : Int32).toInt := by
            have z_1 := Int32.le_iff_toInt_le.mp c_9
            omega
          exact (NIns.ge pf_7 hr_12)
        exact retI (v := 0) hx hb hr hlk (rfl) hP hD hS () ⟨_, rfl, hp_10, (fun h => absurd h (by decide)), hm_11⟩ [0, 1] rfl rfl dX12_isInside_30 (Nat.le_of_ble_eq_true rfl) (Nat.le_of_ble_eq_true rfl) rfl
      · skip
        refine lv_aload_n hx hb dX12_isInside_10 rfl (lv_at hl 1 rfl) ?_
        refine gf_X12_29 hx hb hts hown hK hP 0 rfl rfl dX12_isInside_11 ?_
        refine lv_iload_n hx hb dX12_isInside_14 rfl (lv_at hl 0 rfl) ?_
        have hi_13 : vp_in vy_2 400 := by
          have z_1 := Int32.lt_iff_toInt_lt.mp (Int32.not_le.mp c_9)
          refine vp_in_iff.mpr ⟨?_, ?_⟩ <;> omega
        refine va_iald hx hb hK hP 1 0 rfl rfl hi_13 dX12_isInside_15 ?_
        refine lv_topi (fun x_14 ex_14 => ?_)
        refine lv_bipush (v := 91) hx hb dX12_isInside_16 (by decide) ?_
        refine lv_icmp_ne (tgt := 23) hx hb dX12_isInside_18 (by decide) (fun c_15 => ?_) (fun c_15 => ?_)
        · skip
          obtain ⟨x_16, ex_16⟩ : ∃ y : Int32, y = vy_2 + 1 := ⟨_, rfl⟩
          refine lv_iinc (v := x_16) (lv' := [(1, .int x_16), (0, .ref (Ma 0))]) hx hb dX12_isInside_23 hl (k := 0) rfl (by rw [ex_16]; rfl) (by decide) rfl (fun ls hl₀ => ?_)
          replace hl := hl₀
          clear hl₀
          refine lv_goto (tgt := 2) hx hb dX12_isInside_26 (by decide) ?_
          have hb_17 : 400 - (x_16 : Int32).toInt < 400 - (vy_2 : Int32).toInt ∧ 1 ≤ 400 - (vy_2 : Int32).toInt := by
            have z_1 := Int32.lt_iff_toInt_lt.mp (Int32.not_le.mp c_9)
            have z_2 : ¬ (x_14 : Int32).toInt = (91 : Int32).toInt := fun z => c_15 (Int32.toInt_inj.mp z)
            have y_91 : (91 : Int32).toInt = 91 := by decide
            have y_1 : (1 : Int32).toInt = 1 := by decide
            have t_x_16 : x_16.toInt = (vy_2 : Int32).toInt + (1 : Int32).toInt := by rw [ex_16]; exact add_toInt (by omega) (by omega)
            refine ⟨?_, ?_⟩ <;> omega
          have ha_18 : 0 ≤ (x_16 : Int32).toInt := by
            have z_1 := Int32.lt_iff_toInt_lt.mp (Int32.not_le.mp c_9)
            have z_2 : ¬ (x_14 : Int32).toInt = (91 : Int32).toInt := fun z => c_15 (Int32.toInt_inj.mp z)
            have y_91 : (91 : Int32).toInt = 91 := by decide
            have y_1 : (1 : Int32).toInt = 1 := by decide
            have t_x_16 : x_16.toInt = (vy_2 : Int32).toInt + (1 : Int32).toInt := by rw [ex_16]; exact add_toInt (by omega) (by omega)
            omega
          have hr_19 : ¬ (x_14 : Int32).toInt = 91 := by
            have z_1 := Int32.lt_iff_toInt_lt.mp (Int32.not_le.mp c_9)
            have z_2 : ¬ (x_14 : Int32).toInt = (91 : Int32).toInt := fun z => c_15 (Int32.toInt_inj.mp z)
            have y_91 : (91 : Int32).toInt = 91 := by decide
            omega
          have hi_20 : (x_16 : Int32).toInt = (vy_2 : Int32).toInt + 1 := by
            have z_1 := Int32.lt_iff_toInt_lt.mp (Int32.not_le.mp c_9)
            have z_2 : ¬ (x_14 : Int32).toInt = (91 : Int32).toInt := fun z => c_15 (Int32.toInt_inj.mp z)
            have y_91 : (91 : Int32).toInt = 91 := by decide
            have y_1 : (1 : Int32).toInt = 1 := by decide
            have t_x_16 : x_16.toInt = (vy_2 : Int32).toInt + (1 : Int32).toInt := by rw [ex_16]; exact add_toInt (by omega) (by omega)
            omega
          have hr_21 : 0 ≤ (vy_2 : Int32).toInt := by
            have z_1 := Int32.lt_iff_toInt_lt.mp (Int32.not_le.mp c_9)
            have z_2 : ¬ (x_14 : Int32).toInt = (91 : Int32).toInt := fun z => c_15 (Int32.toInt_inj.mp z)
            have y_91 : (91 : Int32).toInt = 91 := by decide
            omega
          exact ih_4 x_16 _ _ _ (by omega) ha_18 (NIns.step pf_7 ex_14 hr_19 hi_20 hr_21) (hP.sub [0, 1] rfl) (hD.sub [0, 1] rfl rfl) hS (lv_sub hl [0, 1] rfl)
        · skip
          refine lv_iconst (v := 1) hx hb dX12_isInside_21 (by decide) ?_
          have hp_22 : ((1 : Int32).toInt = 0 ∨ (1 : Int32).toInt = 1) := by
            have z_1 := Int32.lt_iff_toInt_lt.mp (Int32.not_le.mp c_9)
            have z_2 := congrArg Int32.toInt c_15
            have y_91 : (91 : Int32).toInt = 91 := by decide
            have y_1 : (1 : Int32).toInt = 1 := by decide
            have yr : (1 : Int32).toInt = 1 := by decide
            omega
          have hm_23 : (1 : Int32).toInt = 1 → (Ins (Mf 7) (Mv 9)) := by
            intro h1r
            have hr_24 : (x_14 : Int32).toInt = 91 := by
              have z_1 := Int32.lt_iff_toInt_lt.mp (Int32.not_le.mp c_9)
              have z_2 := congrArg Int32.toInt c_15
              have y_91 : (91 : Int32).toInt = 91 := by decide
              omega
            have hr_25 : 0 ≤ (vy_2 : Int32).toInt ∧ (vy_2 : Int32).toInt < ((Mv 9) : Int32).toInt := by
              have z_1 := Int32.lt_iff_toInt_lt.mp (Int32.not_le.mp c_9)
              have z_2 := congrArg Int32.toInt c_15
              have y_91 : (91 : Int32).toInt = 91 := by decide
              refine ⟨?_, ?_⟩ <;> omega
            exact (Ins.of ex_14 hr_24 hr_25)
          exact retI (v := 1) hx hb hr hlk (rfl) hP hD hS () ⟨_, rfl, hp_22, hm_23, (fun h => absurd h (by decide))⟩ [0, 1] rfl rfl dX12_isInside_22 (Nat.le_of_ble_eq_true rfl) (Nat.le_of_ble_eq_true rfl) rfl
  have ha_26 : 0 ≤ (0 : Int32).toInt := by
    have y_0 : (0 : Int32).toInt = 0 := by decide
    omega
  exact loop_5 _ 0 _ _ _ (Nat.lt_succ_self _) ha_26 (NIns.nil (by decide)) hP hD hS hl
set_option maxRecDepth 100000 in
theorem cu_X12_isInside (l : Launch) (D : va_G) (tc : Nat → ClassId) (sk : (Nat → Nat) × (Nat → Nat)) (Ma_0 : Nat) (Ma_1 : Nat) (Ma_2 : Nat) (Ma_3 : Nat) (Ma_4 : Nat) (Ma_5 : Nat) (Ma_6 : Nat) (Ma_7 : Nat) (Ma_8 : Nat) (Ma_9 : Nat) (Ma_10 : Nat) (Ma_11 : Nat) (Ma_12 : Nat) (Ma_13 : Nat) (Ma_14 : Nat) (Ma_15 : Nat) (Ma_16 : Nat) (Ma_17 : Nat) (Ma_18 : Nat) (Ma_19 : Nat) (Ma_20 : Nat) (Mv_0 : Int32) (Mv_1 : Int32) (Mv_2 : Int32) (Mv_3 : Int32) (Mv_4 : Int32) (Mv_5 : Int32) (Mv_6 : Int32) (Mv_7 : Int32) (Mv_8 : Int32) (Mv_9 : Int32) (Mv_10 : Int32) (Mv_11 : Int32) (Mv_12 : Int32) (Mv_13 : Int32) (Mv_14 : Int32) (Mf_7 : Nat → Int32) (Mj_0 : Int64) (h_o : 0 ≤ (Mv_9 : Int32).toInt ∧ (Mv_9 : Int32).toInt ≤ 400) : Ct l yX12_isInside cX12_isInside 2 (some .boolean) { frames := 0, cells := 0, slots := 0, locals := 0 } D tc sk [.ref Ma_0] [(Ma_0, .inr (12, [.ref Ma_1, .int Mv_0, .int Mv_1, .ref Ma_2, .ref Ma_3, .ref Ma_4, .ref Ma_5, .ref Ma_6, .int Mv_2, .int Mv_3, .int Mv_4, .int Mv_5, .int Mv_6, .int Mv_7, .int Mv_8, .ref Ma_7, .int Mv_9, .ref Ma_8, .int Mv_10, .ref Ma_9, .ref Ma_10, .int Mv_11, .int Mv_12, .int Mv_13, .ref Ma_11, .int Mv_14, .ref Ma_12, .ref Ma_13, .ref Ma_14, .ref Ma_15, .ref Ma_16, .long Mj_0, .ref Ma_17, .ref Ma_18, .ref Ma_19, .ref Ma_20])), (Ma_7, .inl (tc 0, 400, .inl Mf_7))] (fun (v : Option Value) (_ : Unit) => ∃ r : Int32, v = some (.int r) ∧ ((r.toInt = 0 ∨ r.toInt = 1)) ∧ (r.toInt = 1 → (Ins Mf_7 Mv_9)) ∧ (r.toInt = 0 → (NIns Mf_7 Mv_9))) (fun (_ : Unit) => [(Ma_0, .inr (12, [.ref Ma_1, .int Mv_0, .int Mv_1, .ref Ma_2, .ref Ma_3, .ref Ma_4, .ref Ma_5, .ref Ma_6, .int Mv_2, .int Mv_3, .int Mv_4, .int Mv_5, .int Mv_6, .int Mv_7, .int Mv_8, .ref Ma_7, .int Mv_9, .ref Ma_8, .int Mv_10, .ref Ma_9, .ref Ma_10, .int Mv_11, .int Mv_12, .int Mv_13, .ref Ma_11, .int Mv_14, .ref Ma_12, .ref Ma_13, .ref Ma_14, .ref Ma_15, .ref Ma_16, .long Mj_0, .ref Ma_17, .ref Ma_18, .ref Ma_19, .ref Ma_20])), (Ma_7, .inl (tc 0, 400, .inl Mf_7))]) 0 0 :=
  ct_X12_isInside l D tc sk (fun k => ([Ma_0, Ma_1, Ma_2, Ma_3, Ma_4, Ma_5, Ma_6, Ma_7, Ma_8, Ma_9, Ma_10, Ma_11, Ma_12, Ma_13, Ma_14, Ma_15, Ma_16, Ma_17, Ma_18, Ma_19, Ma_20] : List (Nat)).getD k 0) (fun k => ([Mv_0, Mv_1, Mv_2, Mv_3, Mv_4, Mv_5, Mv_6, Mv_7, Mv_8, Mv_9, Mv_10, Mv_11, Mv_12, Mv_13, Mv_14] : List (Int32)).getD k 0) (fun k => ([(fun _ => 0), (fun _ => 0), (fun _ => 0), (fun _ => 0), (fun _ => 0), (fun _ => 0), (fun _ => 0), Mf_7] : List (Nat → Int32)).getD k (fun _ => 0)) (fun k => ([Mj_0] : List (Int64)).getD k 0) h_o
