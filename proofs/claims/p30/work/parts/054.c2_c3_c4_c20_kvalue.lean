set_option maxRecDepth 16384
/-! the reference's row of signs: what is written in it; values, terms, sums, comparisons -/
def SgC (sg ln : Nat → Int32) (tx : Int32) (L : List Int) : Prop := (ln tx.toNatClampNeg).toInt = (L.length : Int) ∧ L.length ≤ 400 ∧ ∀ j : Nat, j < L.length → (sg (400 * tx.toInt.toNat + j)).toInt = rE (L.getD j 0)
theorem gd_left {L M : List Int} {j : Nat} (h : j < L.length) : (L ++ M).getD j 0 = L.getD j 0 := by
  rw [List.getD_eq_getElem?_getD, List.getElem?_append_left h, ← List.getD_eq_getElem?_getD]
theorem gd_last {L : List Int} {o : Int} : (L ++ [o]).getD L.length 0 = o := by
  rw [List.getD_eq_getElem?_getD, List.getElem?_append_right (Nat.le_refl _), Nat.sub_self]
  rfl
theorem gd_right {L M : List Int} {j : Nat} : (L ++ M).getD (L.length + j) 0 = M.getD j 0 := by
  rw [List.getD_eq_getElem?_getD, List.getElem?_append_right (Nat.le_add_right _ _), Nat.add_sub_cancel_left, ← List.getD_eq_getElem?_getD]
theorem SgC.put {sg sg' ln ln' : Nat → Int32} {tx i x y : Int32} {L : List Int} {o : Int} (h : SgC sg ln tx L) (ht : 0 ≤ tx.toInt) (e1 : sg' = upd sg i.toNatClampNeg x) (hi : i.toInt = 400 * tx.toInt + (ln tx.toNatClampNeg).toInt) (hx : x.toInt = rE o) (e2 : ln' = upd ln tx.toNatClampNeg y) (hy : y.toInt = (ln tx.toNatClampNeg).toInt + 1) (hL : (ln tx.toNatClampNeg).toInt < 400) : SgC sg' ln' tx (L ++ [o]) := by
  obtain ⟨h1, h2, h3⟩ := h
  have ei : i.toNatClampNeg = 400 * tx.toInt.toNat + L.length := by
    show i.toInt.toNat = _
    omega
  refine ⟨?_, ?_, fun j hj => ?_⟩
  · rw [e2, upd_at, hy, h1, List.length_append, List.length_singleton]
    omega
  · rw [List.length_append, List.length_singleton]
    omega
  · rw [List.length_append, List.length_singleton] at hj
    rw [e1, ei]
    by_cases z : j < L.length
    · rw [upd_ne (by omega), gd_left z]
      exact h3 j z
    · have ej : j = L.length := by omega
      rw [ej, upd_at, gd_last]
      exact hx
theorem put_x {x x1 x2 : Int32} {o : Int} (ex : x = x1 + 16 * x2) (h1 : 0 ≤ x1.toInt ∧ x1.toInt ≤ 15) (h2 : 0 ≤ x2.toInt ∧ x2.toInt ≤ 100000) (ho : x1.toInt + 16 * x2.toInt = rE o) : x.toInt = rE o := by
  have h16 : (16 : Int32).toInt = 16 := by decide
  have e1 : ((16 : Int32) * x2).toInt = 16 * x2.toInt := by rw [mul_toInt (by rw [h16]; omega) (by rw [h16]; omega), h16]
  rw [ex, add_toInt (by rw [e1]; omega) (by rw [e1]; omega), e1]
  exact ho
theorem rE_num {v : Int} (h : 0 ≤ v ∧ v ≤ 99999) : rE v = 16 * v := by
  unfold rE
  rw [if_neg (by omega), if_pos h.1]
theorem rE_word {v : Int} (h : 0 ≤ v) : rE (100000 + v) = 1 + 16 * v := by
  unfold rE
  rw [if_pos (by omega)]
  omega
section RSUM
variable {B : Nat → Int} {sg ln : Nat → Int32} {tx nx nx1 nx2 n1 md md1 md2 wr wr2 w0 : Int32} {ll X X2 : List Int} {s : Nat × Nat} {o : Int}
/-- the number that is put: what stands there -/
theorem ec_v_num {lo hi : Int} {p : Nat} {nu : Int32} (hd : 48 ≤ B p ∧ B p ≤ 57) (h : pz_num B lo hi p = .ok nu.toInt) : ec_v B p = nu.toInt := by
  rw [show ec_v B p = pz_nv B p (pz_te B p - p) from if_pos (decide_eq_true hd)]
  exact (pz_num_v h).1.symm
theorem ec_v_word {p : Nat} (hd : ¬ (48 ≤ B p ∧ B p ≤ 57)) : ec_v B p = 100000 + pz_wa B p pz_words 0 := if_neg (fun z => hd (of_decide_eq_true z))
def TmC (ll : List Int) (B : Nat → Int) (s : Nat × Nat) (sg ln : Nat → Int32) (tx nx : Int32) : Prop := ∃ X, SgC sg ln tx (ll ++ X) ∧ ∀ w : Int, ec_v B s.1 :: ec_sL B (pz_nt B s.1) w = X ++ ec_sL B (pz_sk B nx.toInt.toNat) w
theorem rf_val (hv : RfO (pz_val B s) B wr nx md) : pz_sk B nx.toInt.toNat = pz_nt B s.1 := by
  obtain ⟨t, e, -, h1, -⟩ := hv
  rw [h1, (pz_val_ok e).1]
theorem TmC.first (hv : RfO (pz_val B s) B wr nx md) (h : SgC sg ln tx (ll ++ lval B s)) : TmC ll B s sg ln tx nx := ⟨lval B s, h, fun w => by rw [rf_val hv]; rfl⟩
theorem TmC.sk (h : TmC ll B s sg ln tx nx) (hs : SkR B nx n1) : TmC ll B s sg ln tx n1 := by
  obtain ⟨X, a, b⟩ := h
  exact ⟨X, a, fun w => by rw [hs.sk]; exact b w⟩
theorem op_at (hs : SkR B nx n1) (hop : B n1.toInt.toNat = 43 ∨ B n1.toInt.toNat = 45 ∨ B n1.toInt.toNat = 42 ∨ B n1.toInt.toNat = 47 ∨ B n1.toInt.toNat = 37) (h1 : nx1.toInt = n1.toInt + 1) : (St0 B nx1 md).1 = pz_nt B n1.toInt.toNat := by
  have h0 := hs.1
  show pz_sk B nx1.toInt.toNat = pz_sk B (pz_te B n1.toInt.toNat)
  rw [te_op hop, show nx1.toInt.toNat = n1.toInt.toNat + 1 by omega]
theorem TmC.next (hB : pz_fi B) (hE : ∀ w : Int, ec_v B s.1 :: ec_sL B (pz_nt B s.1) w = X ++ ec_sL B (pz_sk B nx.toInt.toNat) w) (hs : SkR B nx n1) (hop : B n1.toInt.toNat = 42 ∨ B n1.toInt.toNat = 47 ∨ B n1.toInt.toNat = 37) (ho : o = ec_o (B n1.toInt.toNat)) (h1 : nx1.toInt = n1.toInt + 1) (hv : RfO (pz_val B (St0 B nx1 md)) B wr2 nx2 md2) (hS : SgC sg ln tx (((ll ++ X) ++ lval B (St0 B nx1 md)) ++ [o])) : TmC ll B s sg ln tx nx2 := by
  have e1 := op_at (md := md) hs (by omega) h1
  have e2 := rf_val hv
  have hne : ¬ ec_o (B n1.toInt.toNat) = -1 ∧ ¬ (ec_o (B n1.toInt.toNat) = -12 ∨ ec_o (B n1.toInt.toNat) = -13) := by
    rcases hop with z | z | z <;> rw [z] <;> decide
  refine ⟨X ++ [ec_v B (St0 B nx1 md).1, o], ?_, fun w => ?_⟩
  · have e : ll ++ (X ++ [ec_v B (St0 B nx1 md).1, o]) = ((ll ++ X) ++ lval B (St0 B nx1 md)) ++ [o] := by
      unfold lval
      simp only [List.append_assoc, List.cons_append, List.nil_append]
    rw [e]; exact hS
  · rw [hE w, hs.nat, ec_sL_td hB hne.1 hne.2, e2, e1, ho, List.append_assoc]
    rfl
theorem ec_sL_wt (hB : pz_fi B) {p : Nat} {w : Int} (hm : ¬ (B p = 42 ∨ B p = 47 ∨ B p = 37)) : ec_sL B p w = ec_w w ++ ec_sL B p (-1) := by
  by_cases z : ec_o (B p) = -1
  · rw [ec_sL_no z, ec_sL_no z]
    exact (List.append_nil _).symm
  · have h := ec_o_op z
    have hp : ec_o (B p) = -12 ∨ ec_o (B p) = -13 := by
      rcases h with h | h | h | h | h
      · left; rw [h]; decide
      · right; rw [h]; decide
      · omega
      · omega
      · omega
    rw [ec_sL_pm hB hp, ec_sL_pm hB hp]
    rfl
def SmD (ll : List Int) (B : Nat → Int) (s : Nat × Nat) (sg ln : Nat → Int32) (tx nx : Int32) : Prop := ∃ X, SgC sg ln tx (ll ++ X) ∧ ec_sum B s.1 = X ++ ec_sL B (pz_sk B nx.toInt.toNat) (-1)
theorem SmD.first (h : TmC ll B s sg ln tx nx) : SmD ll B s sg ln tx nx := by
  obtain ⟨X, a, b⟩ := h
  exact ⟨X, a, b (-1)⟩
theorem SmD.next (hB : pz_fi B) (hE : ec_sum B s.1 = X ++ ec_sL B (pz_sk B nx.toInt.toNat) (-1)) (hs : SkR B nx n1) (hop : B n1.toInt.toNat = 43 ∨ B n1.toInt.toNat = 45) (ho : o = ec_o (B n1.toInt.toNat)) (h1 : nx1.toInt = n1.toInt + 1) (hT : ∀ w : Int, ec_v B (St0 B nx1 md).1 :: ec_sL B (pz_nt B (St0 B nx1 md).1) w = X2 ++ ec_sL B (pz_sk B nx2.toInt.toNat) w) (hm : ¬ (B (pz_sk B nx2.toInt.toNat) = 42 ∨ B (pz_sk B nx2.toInt.toNat) = 47 ∨ B (pz_sk B nx2.toInt.toNat) = 37)) (hS : SgC sg ln tx (((ll ++ X) ++ X2) ++ [o])) : SmD ll B s sg ln tx nx2 := by
  have e1 := op_at (md := md) hs (by omega) h1
  have hp : ec_o (B n1.toInt.toNat) = -12 ∨ ec_o (B n1.toInt.toNat) = -13 := by
    rcases hop with z | z
    · left; rw [z]; decide
    · right; rw [z]; decide
  refine ⟨X ++ (X2 ++ [o]), ?_, ?_⟩
  · have e : ll ++ (X ++ (X2 ++ [o])) = ((ll ++ X) ++ X2) ++ [o] := by simp only [List.append_assoc]
    rw [e]; exact hS
  · have h2 := hT o
    rw [e1, ec_sL_wt hB (w := o) hm, show ec_w o = [o] from if_neg (by omega)] at h2
    rw [hE, hs.nat, ec_sL_pm hB hp, ← ho]
    show X ++ ([] ++ ec_v B (pz_nt B n1.toInt.toNat) :: ec_sL B (pz_nt B (pz_nt B n1.toInt.toNat)) o) = _
    rw [List.nil_append, h2]
    simp only [List.append_assoc]
theorem SmD.fin (h : SmD ll B s sg ln tx nx) (hs : SkR B nx n1) (hm : ¬ (B (pz_sk B nx.toInt.toNat) = 42 ∨ B (pz_sk B nx.toInt.toNat) = 47 ∨ B (pz_sk B nx.toInt.toNat) = 37)) (hn : ¬ (B n1.toInt.toNat = 43 ∨ B n1.toInt.toNat = 45)) : SgC sg ln tx (ll ++ lsum B s) := by
  obtain ⟨X, a, b⟩ := h
  rw [hs.nat] at hm b
  have e : ec_o (B n1.toInt.toNat) = -1 := ec_o_no.mpr (by omega)
  rw [ec_sL_no e] at b
  have b : ec_sum B s.1 = X := b.trans (List.append_nil X)
  show SgC sg ln tx (ll ++ ec_sum B s.1)
  rw [b]; exact a
theorem ec_c_at (hs : SkR B nx n1) (ha : (nx1.toInt = n1.toInt + 1 ∧ ¬ ((B n1.toInt.toNat = 60 ∨ B n1.toInt.toNat = 62) ∧ B (n1.toInt.toNat + 1) = 61)) ∨ (nx1.toInt = n1.toInt + 2 ∧ (B n1.toInt.toNat = 60 ∨ B n1.toInt.toNat = 62) ∧ B (n1.toInt.toNat + 1) = 61)) (hk : (B n1.toInt.toNat = 60 ∧ nx1.toInt = n1.toInt + 1 ∧ o = -7) ∨ (B n1.toInt.toNat = 60 ∧ nx1.toInt = n1.toInt + 2 ∧ o = -8) ∨ (B n1.toInt.toNat = 61 ∧ o = -9) ∨ (B n1.toInt.toNat = 62 ∧ nx1.toInt = n1.toInt + 2 ∧ o = -10) ∨ (B n1.toInt.toNat = 62 ∧ nx1.toInt = n1.toInt + 1 ∧ o = -11)) : o = ec_c B n1.toInt.toNat := by
  have hc : B n1.toInt.toNat = 60 ∨ B n1.toInt.toNat = 61 ∨ B n1.toInt.toNat = 62 := by omega
  unfold ec_c
  rw [te_cmp hc]
  rcases ha with ⟨h1, h2⟩ | ⟨h1, h2⟩
  · rw [if_neg h2, if_neg (show ¬ n1.toInt.toNat + 1 = n1.toInt.toNat + 2 by omega), if_neg (show ¬ n1.toInt.toNat + 1 = n1.toInt.toNat + 2 by omega)]
    rcases hk with ⟨k1, k2, k3⟩ | ⟨k1, k2, k3⟩ | ⟨k1, k3⟩ | ⟨k1, k2, k3⟩ | ⟨k1, k2, k3⟩
    · rw [if_pos k1]; exact k3
    · omega
    · rw [if_neg (by omega), if_pos k1]; exact k3
    · omega
    · rw [if_neg (by omega), if_neg (by omega)]; exact k3
  · rw [if_pos h2, if_pos rfl, if_pos rfl]
    rcases hk with ⟨k1, k2, k3⟩ | ⟨k1, k2, k3⟩ | ⟨k1, k3⟩ | ⟨k1, k2, k3⟩ | ⟨k1, k2, k3⟩
    · omega
    · rw [if_pos k1]; exact k3
    · omega
    · rw [if_neg (by omega), if_neg (by omega)]; exact k3
    · omega
theorem com_ls (h : RfO (pz_sum B s) B w0 nx md) (hs : SkR B nx n1) (hc : B n1.toInt.toNat = 60 ∨ B n1.toInt.toNat = 61 ∨ B n1.toInt.toNat = 62) (ha : (nx1.toInt = n1.toInt + 1 ∧ ¬ ((B n1.toInt.toNat = 60 ∨ B n1.toInt.toNat = 62) ∧ B (n1.toInt.toNat + 1) = 61)) ∨ (nx1.toInt = n1.toInt + 2 ∧ (B n1.toInt.toNat = 60 ∨ B n1.toInt.toNat = 62) ∧ B (n1.toInt.toNat + 1) = 61)) (ho : o = ec_c B n1.toInt.toNat) : ll ++ ec_com B s = ((ll ++ lsum B s) ++ lsum B (St0 B nx1 md1)) ++ [o] := by
  have h0 := hs.1
  have et : nx1.toInt.toNat = pz_te B n1.toInt.toNat := by
    rw [te_cmp hc]
    rcases ha with ⟨h1, h2⟩ | ⟨h1, h2⟩
    · rw [if_neg h2]; omega
    · rw [if_pos h2]; omega
  have e1 : (St0 B nx1 md1).1 = pz_nt B n1.toInt.toNat := by
    show pz_sk B nx1.toInt.toNat = pz_sk B (pz_te B n1.toInt.toNat)
    rw [et]
  have e2 : ec_com B s = ec_sum B s.1 ++ (ec_sum B (pz_nt B n1.toInt.toNat) ++ [ec_c B n1.toInt.toNat]) := by
    unfold ec_com
    rw [h.st, St0.at hs]
  unfold lsum
  rw [e2, e1, ho]
  simp only [List.append_assoc]
end RSUM
set_option maxRecDepth 16384
/-! the reference's tests: what is open, and what is still to be written -/
abbrev Frm := List (Nat × List Int)
def opI (x : Int) : Int := if x = 11 then -4 else if x = 12 then -5 else -6
def stO (o : Int) : Int := if o = -4 then 3 else if o = -5 then 2 else 1
def fr_push (o : Int) : Frm → Frm
  | [] => []
  | x :: fs => (x.1, o :: x.2) :: fs
def fr_pushL : List Int → Frm → Frm
  | [], fr => fr
  | o :: X, fr => fr_push o (fr_pushL X fr)
def ok_fr (f : Nat → Int32) : Nat → Frm
  | 0 => [(10, [])]
  | k + 1 => if (f k).toInt = 91 then (10 - ((ok_os f k).2 + 1), []) :: ok_fr f k else fr_push (opI (f k).toInt) (ok_fr f k)
theorem ok_fr_91 {f : Nat → Int32} {k : Nat} (h : (f k).toInt = 91) : ok_fr f (k + 1) = (10 - ((ok_os f k).2 + 1), []) :: ok_fr f k := if_pos h
theorem ok_fr_no {f : Nat → Int32} {k : Nat} (h : ¬ (f k).toInt = 91) : ok_fr f (k + 1) = fr_push (opI (f k).toInt) (ok_fr f k) := if_neg h
theorem fr_push_fst {o : Int} {fr : Frm} : (fr_push o fr).map Prod.fst = fr.map Prod.fst := by cases fr <;> rfl
theorem ok_fr_fst {f : Nat → Int32} : ∀ n, (ok_fr f n).map Prod.fst = (ok_os f n).1
  | 0 => rfl
  | n + 1 => by
    by_cases h : (f n).toInt = 91
    · rw [ok_fr_91 h, ok_os_91 h, List.map_cons, ok_fr_fst n]
    · rw [ok_fr_no h, fr_push_fst, ok_fr_fst n]
      by_cases h2 : (f n).toInt = 11
      · rw [ok_os_11 h2]
      · rw [ok_os_no h2 h]
theorem ok_fr_eq {f g : Nat → Int32} : ∀ n, (∀ k, k < n → f k = g k) → ok_fr f n = ok_fr g n
  | 0, _ => rfl
  | n + 1, h => by
    have e := ok_fr_eq n (fun k hk => h k (by omega))
    have e2 := ok_os_eq n (fun k hk => h k (by omega))
    show (if (f n).toInt = 91 then (10 - ((ok_os f n).2 + 1), []) :: ok_fr f n else fr_push (opI (f n).toInt) (ok_fr f n)) = (if (g n).toInt = 91 then (10 - ((ok_os g n).2 + 1), []) :: ok_fr g n else fr_push (opI (g n).toInt) (ok_fr g n))
    rw [e, e2, h n (by omega)]
theorem ok_fr_ne {f : Nat → Int32} {n : Nat} : ok_fr f n ≠ [] := fun z => by
  have h := ok_fr_fst (f := f) n
  obtain ⟨m, S, e⟩ := ok_os_ne (f := f) n
  rw [z, e] at h
  cases h
theorem fr_push_ne {o : Int} {fr : Frm} (h : fr ≠ []) : fr_push o fr ≠ [] := by
  cases fr with
  | nil => exact absurd rfl h
  | cons x fs => exact List.cons_ne_nil _ _
theorem fr_pushL_ne {fr : Frm} (h : fr ≠ []) : ∀ X : List Int, fr_pushL X fr ≠ []
  | [] => h
  | _ :: X => fr_push_ne (fr_pushL_ne h X)
theorem fr_pushL_app {fr : Frm} {Y : List Int} : ∀ X : List Int, fr_pushL (X ++ Y) fr = fr_pushL X (fr_pushL Y fr)
  | [] => rfl
  | o :: X => congrArg (fr_push o) (fr_pushL_app X)
theorem fr_pushL_at {x : Nat × List Int} {fs : Frm} : ∀ X : List Int, fr_pushL X (x :: fs) = (x.1, X ++ x.2) :: fs
  | [] => rfl
  | o :: X => by
    show fr_push o (fr_pushL X (x :: fs)) = _
    rw [fr_pushL_at X]
    rfl
def nzP : List Int → List Int
  | [] => []
  | o :: P => if o = -6 then nzP P else o :: nzP P
def orP : List Int → Bool
  | [] => false
  | o :: P => if o = -6 then true else orP P
def shP : List Int → Prop
  | [] => True
  | o :: P => (o = -4 ∧ shP P) ∨ (o = -5 ∧ (P = [] ∨ P = [-6])) ∨ (o = -6 ∧ P = [])
def FrS : Frm → Prop
  | [] => True
  | x :: fs => shP x.2 ∧ FrS fs
theorem shP_all : ∀ P : List Int, shP P → nzP P ++ ec_or (orP P) = P
  | [], _ => rfl
  | o :: P, h => by
    rcases h with ⟨ho, h⟩ | ⟨ho, h⟩ | ⟨ho, h⟩
    · have ih := shP_all P h
      rw [ho]
      rw [show nzP (-4 :: P) = -4 :: nzP P from if_neg (by decide), show orP (-4 :: P) = orP P from if_neg (by decide), List.cons_append, ih]
    · rw [ho]
      rcases h with h | h
      · rw [h]; decide
      · rw [h]; decide
    · rw [ho, h]; decide
theorem shP_tail {o : Int} {P : List Int} (h : shP (o :: P)) : shP P := by
  rcases h with ⟨-, h⟩ | ⟨-, h⟩ | ⟨-, h⟩
  · exact h
  · rcases h with h | h
    · rw [h]; trivial
    · rw [h]; exact Or.inr (Or.inr ⟨rfl, rfl⟩)
  · rw [h]; trivial
theorem shP_app {P : List Int} : ∀ X : List Int, shP (X ++ P) → shP P
  | [], h => h
  | _ :: X, h => shP_app X (shP_tail h)
theorem FrS.down {X : List Int} {fr : Frm} (hne : fr ≠ []) (h : FrS (fr_pushL X fr)) : FrS fr := by
  cases fr with
  | nil => exact absurd rfl hne
  | cons x fs =>
    rw [fr_pushL_at X] at h
    exact ⟨shP_app X h.1, h.2⟩
/-- what is still to be written, a fact being done -/
def ec_K (B : Nat → Int) : Frm → Nat × Nat → List Int
  | [], _ => []
  | x :: fs, s => nzP x.2 ++ (ec_TL B (pz_fact B x.1) (ec_fact B x.1) 401 s (orP x.2) ++ (match pz_b (pz_lp (pz_tF B (pz_fact B x.1)) s) (pz_rb B) with
    | .ok t => ec_K B fs t
    | .error _ => []))
def ec_R (B : Nat → Int) (m : Nat) (fs : Frm) (s : Nat × Nat) : List Int := match pz_b (pz_lp (pz_tF B (pz_fact B m)) s) (pz_rb B) with
    | .ok t => ec_K B fs t
    | .error _ => []
section ECK
variable {B : Nat → Int} {m : Nat} {fs fr : Frm} {s t : Nat × Nat} {P X : List Int}
theorem ec_K_c {x : Nat × List Int} : ec_K B (x :: fs) s = nzP x.2 ++ (ec_TL B (pz_fact B x.1) (ec_fact B x.1) 401 s (orP x.2) ++ ec_R B x.1 fs s) := rfl
theorem ec_R_nil : ec_R B m [] s = [] := by
  unfold ec_R
  cases pz_b (pz_lp (pz_tF B (pz_fact B m)) s) (pz_rb B) <;> rfl
theorem ec_R_on (h : pz_lp (pz_tF B (pz_fact B m)) s = pz_lp (pz_tF B (pz_fact B m)) t) : ec_R B m fs s = ec_R B m fs t := by
  unfold ec_R
  rw [h]
theorem lp_turn (hB : pz_fi B) (hw : pz_wd B s.1 pz_and = true ∨ pz_wd B s.1 pz_or = true) (ht : pz_fact B m (pz_nx B s) = .ok t) : pz_lp (pz_tF B (pz_fact B m)) s = pz_lp (pz_tF B (pz_fact B m)) t := by
  rw [pz_tst_on hB hw]
  unfold pz_tst
  rw [ht]
  rfl
theorem nao_93 (h : B s.1 = 93) : ¬ pz_wd B s.1 pz_and = true ∧ ¬ pz_wd B s.1 pz_or = true := by
  refine ⟨fun z => ?_, fun z => ?_⟩
  · have := (of_decide_eq_true z).2 0 (by decide)
    rw [Nat.add_zero, h] at this
    exact absurd this (by decide)
  · have := (of_decide_eq_true z).2 0 (by decide)
    rw [Nat.add_zero, h] at this
    exact absurd this (by decide)
theorem ec_R_close (h : B s.1 = 93) : ec_R B m fs s = ec_K B fs (pz_nx B s) := by
  obtain ⟨n1, n2⟩ := nao_93 h
  have e1 : pz_lp (pz_tF B (pz_fact B m)) s = .ok s := pz_tst_no (fun z => z.elim n1 n2)
  have e2 : pz_rb B s = .ok (pz_nx B s) := if_pos h
  unfold ec_R
  rw [e1, show pz_b (Except.ok s) (pz_rb B) = pz_rb B s from rfl, e2]
theorem ec_K_push {o : Int} (ho : o ≠ -6) (hne : fr ≠ []) : ec_K B (fr_push o fr) s = o :: ec_K B fr s := by
  cases fr with
  | nil => exact absurd rfl hne
  | cons x fs =>
    show ec_K B ((x.1, o :: x.2) :: fs) s = _
    rw [ec_K_c, ec_K_c]
    show nzP (o :: x.2) ++ (ec_TL B (pz_fact B x.1) (ec_fact B x.1) 401 s (orP (o :: x.2)) ++ ec_R B x.1 fs s) = _
    rw [show nzP (o :: x.2) = o :: nzP x.2 from if_neg ho, show orP (o :: x.2) = orP x.2 from if_neg ho]
    rfl
theorem ec_K_pushL (hne : fr ≠ []) : ∀ X : List Int, (∀ o ∈ X, o ≠ -6) → ec_K B (fr_pushL X fr) s = X ++ ec_K B fr s
  | [], _ => rfl
  | o :: X, h => by
    show ec_K B (fr_push o (fr_pushL X fr)) s = _
    rw [ec_K_push (h o List.mem_cons_self) (fr_pushL_ne hne X), ec_K_pushL hne X (fun q hq => h q (List.mem_cons_of_mem _ hq))]
    rfl
/-- a bracket closes: all that waits in it is written -/
theorem ec_K_close (hP : shP P) (h : B s.1 = 93) : ec_K B ((m, P) :: fs) s = P ++ ec_K B fs (pz_nx B s) := by
  obtain ⟨n1, n2⟩ := nao_93 h
  rw [ec_K_c]
  show nzP P ++ (ec_TL B (pz_fact B m) (ec_fact B m) 401 s (orP P) ++ ec_R B m fs s) = _
  rw [ec_TL_no n1 n2, ec_R_close h, ← List.append_assoc, shP_all P hP]
/-- the end of a test -/
theorem ec_K_out (hP : shP P) (n1 : ¬ pz_wd B s.1 pz_and = true) (n2 : ¬ pz_wd B s.1 pz_or = true) : ec_K B [(m, P)] s = P := by
  rw [ec_K_c]
  show nzP P ++ (ec_TL B (pz_fact B m) (ec_fact B m) 401 s (orP P) ++ ec_R B m [] s) = _
  rw [ec_TL_no n1 n2, ec_R_nil, List.append_nil]
  exact shP_all P hP
/-- and: what waits is nothing, or an or -/
theorem ec_K_and (hB : pz_fi B) (hP : P = [] ∨ P = [-6]) (hw : pz_wd B s.1 pz_and = true) (ht : pz_fact B m (pz_nx B s) = .ok t) : ec_K B ((m, P) :: fs) s = ec_fact B m (pz_nx B s) ++ ec_K B ((m, -5 :: P) :: fs) t := by
  have e1 : nzP P = [] := by rcases hP with h | h <;> rw [h] <;> decide
  rw [ec_K_c, ec_K_c]
  show nzP P ++ (ec_TL B (pz_fact B m) (ec_fact B m) 401 s (orP P) ++ ec_R B m fs s) = ec_fact B m (pz_nx B s) ++ (nzP (-5 :: P) ++ (ec_TL B (pz_fact B m) (ec_fact B m) 401 t (orP (-5 :: P)) ++ ec_R B m fs t))
  rw [show nzP (-5 :: P) = -5 :: nzP P from if_neg (by decide), show orP (-5 :: P) = orP P from if_neg (by decide), e1, ec_TL_and hB (pz_fact_gt hB m) hw ht, ec_R_on (lp_turn hB (Or.inl hw) ht)]
  simp only [List.append_assoc, List.cons_append, List.nil_append]
/-- or: all that waits is written -/
theorem ec_K_or (hB : pz_fi B) (hP : shP P) (hw : pz_wd B s.1 pz_or = true) (ht : pz_fact B m (pz_nx B s) = .ok t) : ec_K B ((m, P) :: fs) s = P ++ (ec_fact B m (pz_nx B s) ++ ec_K B ((m, [-6]) :: fs) t) := by
  rw [ec_K_c, ec_K_c]
  show nzP P ++ (ec_TL B (pz_fact B m) (ec_fact B m) 401 s (orP P) ++ ec_R B m fs s) = P ++ (ec_fact B m (pz_nx B s) ++ (nzP [-6] ++ (ec_TL B (pz_fact B m) (ec_fact B m) 401 t (orP [-6]) ++ ec_R B m fs t)))
  rw [show nzP [-6] = [] by decide, show orP [-6] = true by decide, ec_TL_or hB (pz_fact_gt hB m) (and_nor hw) hw ht, ec_R_on (lp_turn hB (Or.inr hw) ht)]
  conv => rhs; rw [← shP_all P hP]
  simp only [List.append_assoc, List.cons_append, List.nil_append]
end ECK
theorem pz_K_ok {B : Nat → Int} {S : List Nat} {r : Except Int (Nat × Nat)} {u : Nat × Nat} (h : pz_K B S r = .ok u) : ∃ t, r = .ok t := by
  cases r with
  | error e => rw [pz_K_er] at h; cases h
  | ok t => exact ⟨t, rfl⟩
/-! laying down -/
def LdS (f : Nat → Int32) (n l : Int32) : Prop := n.toInt = 0 ∨ (((f (n.toInt.toNat - 1)).toInt = 13 → 1 < l.toInt) ∧ ((f (n.toInt.toNat - 1)).toInt = 12 → 2 < l.toInt) ∧ ((f (n.toInt.toNat - 1)).toInt = 11 → 3 < l.toInt))
theorem LdS.of {f : Nat → Int32} {n l i x : Int32} (ex : x = f i.toNatClampNeg) (hi : i.toInt = n.toInt - 1) (hn : 1 ≤ n.toInt) (h : (x.toInt = 13 → 1 < l.toInt) ∧ (x.toInt = 12 → 2 < l.toInt) ∧ (x.toInt = 11 → 3 < l.toInt)) : LdS f n l := by
  right
  have e : i.toNatClampNeg = n.toInt.toNat - 1 := by
    show i.toInt.toNat = _
    omega
  rw [← e, ← ex]; exact h
theorem LdS.one {f : Nat → Int32} {n l dp : Int32} (h : LdS f n l) (hl : l.toInt = 1) (ho : OsP f n dp) : ∃ m fs, ok_fr f n.toInt.toNat = (m, []) :: fs := by
  have hn := ho.1
  rcases h with h | ⟨a, b, c⟩
  · rw [show n.toInt.toNat = 0 by omega]; exact ⟨10, [], rfl⟩
  · by_cases z : n.toInt = 0
    · rw [show n.toInt.toNat = 0 by omega]; exact ⟨10, [], rfl⟩
    · have hk := ho.2.2.2.2 (n.toInt.toNat - 1) (by omega)
      have e : n.toInt.toNat = (n.toInt.toNat - 1) + 1 := by omega
      rw [e, ok_fr_91 (by omega)]
      exact ⟨_, _, rfl⟩
theorem LdS.two {f : Nat → Int32} {n l dp : Int32} (h : LdS f n l) (hl : l.toInt = 2) (ho : OsP f n dp) (hs : FrS (ok_fr f n.toInt.toNat)) : ∃ m P fs, ok_fr f n.toInt.toNat = (m, P) :: fs ∧ (P = [] ∨ P = [-6]) := by
  have hn := ho.1
  rcases h with h | ⟨a, b, c⟩
  · rw [show n.toInt.toNat = 0 by omega]; exact ⟨10, [], [], rfl, Or.inl rfl⟩
  · by_cases z : n.toInt = 0
    · rw [show n.toInt.toNat = 0 by omega]; exact ⟨10, [], [], rfl, Or.inl rfl⟩
    · have hk := ho.2.2.2.2 (n.toInt.toNat - 1) (by omega)
      have e : n.toInt.toNat = (n.toInt.toNat - 1) + 1 := by omega
      rw [e] at hs ⊢
      by_cases y : (f (n.toInt.toNat - 1)).toInt = 91
      · rw [ok_fr_91 y]
        exact ⟨_, _, _, rfl, Or.inl rfl⟩
      · have y13 : (f (n.toInt.toNat - 1)).toInt = 13 := by omega
        rw [ok_fr_no y, y13] at hs ⊢
        cases hfr : ok_fr f (n.toInt.toNat - 1) with
        | nil => exact absurd hfr ok_fr_ne
        | cons x fs =>
          rw [hfr] at hs
          have hs : shP (opI 13 :: x.2) ∧ FrS fs := hs
          have eo : opI 13 = -6 := by decide
          rw [eo] at hs
          refine ⟨x.1, -6 :: x.2, fs, ?_, ?_⟩
          · show (x.1, opI 13 :: x.2) :: fs = _
            rw [eo]
          · right
            rcases hs.1 with ⟨q, -⟩ | ⟨q, -⟩ | ⟨-, q⟩
            · exact absurd q (by decide)
            · exact absurd q (by decide)
            · rw [q]
def LdC (f : Nat → Int32) (n n' : Int32) (sg ln : Nat → Int32) (tx : Int32) (ll : List Int) (l : Int32) : Prop := ∃ X, SgC sg ln tx (ll ++ X) ∧ ok_fr f n.toInt.toNat = fr_pushL X (ok_fr f n'.toInt.toNat) ∧ ∀ o ∈ X, l.toInt ≤ stO o
theorem LdC.rf {f : Nat → Int32} {n : Int32} {sg ln : Nat → Int32} {tx l : Int32} {ll : List Int} (h : SgC sg ln tx ll) : LdC f n n sg ln tx ll l := ⟨[], by rw [List.append_nil]; exact h, rfl, fun o ho => by cases ho⟩
theorem rE_op {x : Int} (h : x = 11 ∨ x = 12 ∨ x = 13) : rE (opI x) = x := by
  rcases h with h | h | h <;> rw [h] <;> decide
theorem rE_opx {x v : Int32} (h : x.toInt = 11 ∨ x.toInt = 12 ∨ x.toInt = 13) (hv : v.toInt = 0) : x.toInt + 16 * v.toInt = rE (opI x.toInt) := by
  rw [rE_op h, hv]; omega
theorem LdC.step {f : Nat → Int32} {n0 n n' i x l : Int32} {sg ln : Nat → Int32} {tx : Int32} {ll X : List Int} (hX : ok_fr f n0.toInt.toNat = fr_pushL X (ok_fr f n.toInt.toNat)) (hO : ∀ o ∈ X, l.toInt ≤ stO o) (ex : x = f i.toNatClampNeg) (hi : i.toInt = n.toInt - 1) (hn : n'.toInt = n.toInt - 1) (h0 : 1 ≤ n.toInt) (hx : x.toInt = 11 ∨ x.toInt = 12 ∨ x.toInt = 13) (hs : (x.toInt = 13 → l.toInt ≤ 1) ∧ (x.toInt = 12 → l.toInt ≤ 2) ∧ (x.toInt = 11 → l.toInt ≤ 3)) (hS : SgC sg ln tx ((ll ++ X) ++ [opI x.toInt])) : LdC f n0 n' sg ln tx ll l := by
  refine ⟨X ++ [opI x.toInt], by rw [← List.append_assoc]; exact hS, ?_, fun o ho => ?_⟩
  · have e : i.toNatClampNeg = n'.toInt.toNat := by
      show i.toInt.toNat = _
      omega
    rw [e] at ex
    rw [hX, fr_pushL_app, show n.toInt.toNat = n'.toInt.toNat + 1 by omega, ok_fr_no (by rw [← ex]; omega), ← ex]
    rfl
  · rcases List.mem_append.mp ho with h | h
    · exact hO o h
    · rw [List.mem_singleton] at h
      rw [h]
      rcases hx with z | z | z <;> rw [z]
      · exact hs.2.2 z
      · exact hs.2.1 z
      · exact hs.1 z
/-! facts and tests, with what is written -/
section FCA
def FcA (TC : List Int) (R : Except Int (Nat × Nat)) (B : Nat → Int) (f : Nat → Int32) (n dp nx md : Int32) (sg ln : Nat → Int32) (tx : Int32) : Prop := ∃ L, SgC sg ln tx L ∧ FrS (ok_fr f n.toInt.toNat) ∧ ∀ u t, R = .ok u → pz_fact B (10 - dp.toInt.toNat) (St0 B nx md) = .ok t → TC = L ++ (ec_fact B (10 - dp.toInt.toNat) (St0 B nx md) ++ ec_K B (ok_fr f n.toInt.toNat) t)
def FcG (TC : List Int) (R : Except Int (Nat × Nat)) (B : Nat → Int) (f : Nat → Int32) (n nx md : Int32) (sg ln : Nat → Int32) (tx : Int32) : Prop := ∃ L, SgC sg ln tx L ∧ FrS (ok_fr f n.toInt.toNat) ∧ ∀ u t, R = .ok u → pz_com B (St0 B nx md) = .ok t → TC = L ++ (ec_com B (St0 B nx md) ++ ec_K B (ok_fr f n.toInt.toNat) t)
def FcB (TC : List Int) (R : Except Int (Nat × Nat)) (B : Nat → Int) (f : Nat → Int32) (n nx md : Int32) (sg ln : Nat → Int32) (tx : Int32) : Prop := ∃ L, SgC sg ln tx L ∧ FrS (ok_fr f n.toInt.toNat) ∧ ∀ u, R = .ok u → TC = L ++ ec_K B (ok_fr f n.toInt.toNat) (St0 B nx md)
def FcD (TC : List Int) (R : Except Int (Nat × Nat)) (B : Nat → Int) (f : Nat → Int32) (n dp nx md : Int32) (sg ln : Nat → Int32) (tx mo : Int32) : Prop := (mo.toInt = 1 → FcA TC R B f n dp nx md sg ln tx) ∧ (mo.toInt = 0 → FcG TC R B f n nx md sg ln tx)
/-- one more is open -/
def OpX (f : Nat → Int32) (n : Int32) (g : Nat → Int32) (n' x : Int32) : Prop := n'.toInt = n.toInt + 1 ∧ 0 ≤ n.toInt ∧ (∀ k : Nat, k < n.toInt.toNat → g k = f k) ∧ g n.toInt.toNat = x
variable {TC L X : List Int} {R : Except Int (Nat × Nat)} {B : Nat → Int} {f g : Nat → Int32} {n dp nx md mo n1 n' dp' nx' mo' x wr n2 n3 dp2 l : Int32} {sg ln sg' ln' : Nat → Int32} {tx : Int32}
theorem OpX.of (e : g = upd f n.toNatClampNeg x) (hn : n'.toInt = n.toInt + 1) (h0 : 0 ≤ n.toInt) : OpX f n g n' x := by
  have en : n.toNatClampNeg = n.toInt.toNat := rfl
  rw [en] at e
  exact ⟨hn, h0, fun k hk => by rw [e, upd_ne (by omega)], by rw [e, upd_at]⟩
theorem OpX.fr (h : OpX f n g n' x) (hx : ¬ x.toInt = 91) : ok_fr g n'.toInt.toNat = fr_push (opI x.toInt) (ok_fr f n.toInt.toNat) := by
  obtain ⟨h1, h0, h2, h3⟩ := h
  rw [show n'.toInt.toNat = n.toInt.toNat + 1 by omega, ok_fr_no (by rw [h3]; exact hx), h3, ok_fr_eq n.toInt.toNat h2]
theorem OpX.br (h : OpX f n g n' x) (hx : x.toInt = 91) (ho : OsP f n dp) (hd : dp'.toInt = dp.toInt + 1) : ok_fr g n'.toInt.toNat = (10 - dp'.toInt.toNat, []) :: ok_fr f n.toInt.toNat := by
  obtain ⟨h1, h0, h2, h3⟩ := h
  have h5 := ho.2.1
  rw [show n'.toInt.toNat = n.toInt.toNat + 1 by omega, ok_fr_91 (by rw [h3]; exact hx), ok_fr_eq n.toInt.toNat h2, ok_os_eq n.toInt.toNat h2, show dp'.toInt.toNat = (ok_os f n.toInt.toNat).2 + 1 by omega]
theorem FcD.first (h : FcA TC R B f n dp nx md sg ln tx) (hm : mo.toInt = 1) : FcD TC R B f n dp nx md sg ln tx mo := ⟨fun _ => h, fun z => by omega⟩
theorem FrS.push4 {fr : Frm} (h : FrS fr) : FrS (fr_push (-4) fr) := by
  cases fr with
  | nil => trivial
  | cons y fs => exact ⟨Or.inl ⟨rfl, h.1⟩, h.2⟩
theorem FcD.not (hI : FcI R B f n dp nx md wr) (h : FcD TC R B f n dp nx md sg ln tx mo) (hm : mo.toInt = 1) (hs : SkR B nx n1) (hw : pz_wd B n1.toInt.toNat pz_not = true) (ho : OpX f n g n' x) (hx : x.toInt = 11) (hd : dp'.toInt = dp.toInt + 1) (hc : dp'.toInt ≤ 10) (hp : PsR B n1 nx') (hm' : mo'.toInt = 1) : FcD TC R B g n' dp' nx' md sg ln tx mo' := by
  obtain ⟨L, hS, hF, hE⟩ := h.1 hm
  have hc0 := hI.1.ar
  have hl : 97 ≤ B n1.toInt.toNat ∧ B n1.toInt.toNat ≤ 122 := by
    have := (of_decide_eq_true hw).2 0 (by decide)
    rw [Nat.add_zero] at this
    rw [this]; decide
  have en : pz_nx B (St0 B nx md) = St0 B nx' md := nx_te (nx' := nx') hs (by have := hp.te hl; have h5 := hp; unfold PsR at h5; omega)
  have hw2 : pz_wd B (St0 B nx md).1 pz_not = true := by rw [St0.at hs]; exact hw
  have ed : 10 - dp.toInt.toNat = (10 - dp'.toInt.toNat) + 1 := by omega
  have ef := ho.fr (by omega)
  rw [hx, show opI 11 = -4 by decide] at ef
  refine FcD.first ⟨L, hS, by rw [ef]; exact hF.push4, fun u t hu ht => ?_⟩ hm'
  have e1 : pz_fact B (10 - dp.toInt.toNat) (St0 B nx md) = .ok t := by
    rw [ed, ← ht, ← en]
    exact if_pos hw2
  have e2 : ec_fact B (10 - dp.toInt.toNat) (St0 B nx md) = ec_fact B (10 - dp'.toInt.toNat) (St0 B nx' md) ++ [-4] := by
    rw [ed, ← en]
    exact if_pos hw2
  rw [hE u t hu e1, e2, ef, ec_K_push (by decide) ok_fr_ne]
  simp only [List.append_assoc, List.cons_append, List.nil_append]
theorem FcD.br (hI : FcI R B f n dp nx md wr) (h : FcD TC R B f n dp nx md sg ln tx mo) (hm : mo.toInt = 1) (hs : SkR B nx n1) (hw : ¬ pz_wd B n1.toInt.toNat pz_not = true) (hb : B n1.toInt.toNat = 91) (ho : OpX f n g n' x) (hx : x.toInt = 91) (hd : dp'.toInt = dp.toInt + 1) (hc : dp'.toInt ≤ 10) (hp : nx'.toInt = n1.toInt + 1) (hm' : mo'.toInt = 1) : FcD TC R B g n' dp' nx' md sg ln tx mo' := by
  obtain ⟨L, hS, hF, hE⟩ := h.1 hm
  have hc0 := hI.1.ar
  have h0 := hs.1
  have en : pz_nx B (St0 B nx md) = St0 B nx' md := nx_te (nx' := nx') hs (by rw [te_br (Or.inl hb)]; omega)
  have hw2 : ¬ pz_wd B (St0 B nx md).1 pz_not = true := by rw [St0.at hs]; exact hw
  have hb2 : B (St0 B nx md).1 = 91 := by rw [St0.at hs]; exact hb
  have ed : 10 - dp.toInt.toNat = (10 - dp'.toInt.toNat) + 1 := by omega
  have ef := ho.br hx hI.1 hd
  refine FcD.first ⟨L, hS, by rw [ef]; exact ⟨trivial, hF⟩, fun u t1 hu ht => ?_⟩ hm'
  have e1 : pz_fact B (10 - dp.toInt.toNat) (St0 B nx md) = pz_b (pz_tst B (pz_fact B (10 - dp'.toInt.toNat)) (pz_nx B (St0 B nx md))) (pz_rb B) := by
    rw [ed]
    exact (if_neg hw2).trans (if_pos hb2)
  have e2 : ec_fact B (10 - dp.toInt.toNat) (St0 B nx md) = ec_tst B (pz_fact B (10 - dp'.toInt.toNat)) (ec_fact B (10 - dp'.toInt.toNat)) (pz_nx B (St0 B nx md)) := by
    rw [ed]
    exact (if_neg hw2).trans (if_pos hb2)
  have e3 : pz_fact B (10 - dp.toInt.toNat) (St0 B nx md) = pz_b (pz_lp (pz_tF B (pz_fact B (10 - dp'.toInt.toNat))) t1) (pz_rb B) := by
    rw [e1, en]
    unfold pz_tst
    rw [ht]
    rfl
  have hR := hI.2.2
  rw [hu] at hR
  obtain ⟨t, ht2⟩ := pz_K_ok hR.symm
  rw [hE u t hu ht2, e2, ef, ec_K_c, en]
  rw [ht2] at e3
  unfold ec_tst ec_R
  rw [ht, ← e3]
  show L ++ ((ec_fact B (10 - dp'.toInt.toNat) (St0 B nx' md) ++ _) ++ _) = L ++ (ec_fact B (10 - dp'.toInt.toNat) (St0 B nx' md) ++ ([] ++ _))
  rw [List.nil_append, List.append_assoc]
  rfl
theorem FcD.com (hI : FcI R B f n dp nx md wr) (h : FcD TC R B f n dp nx md sg ln tx mo) (hm : mo.toInt = 1) (hs : SkR B nx n1) (hw : ¬ pz_wd B n1.toInt.toNat pz_not = true) (hb : ¬ B n1.toInt.toNat = 91) (hm' : mo'.toInt = 0) : FcD TC R B f n dp n1 md sg ln tx mo' := by
  obtain ⟨L, hS, hF, hE⟩ := h.1 hm
  refine ⟨fun z => by omega, fun _ => ⟨L, hS, hF, fun u t hu ht => ?_⟩⟩
  have hw2 : ¬ pz_wd B (St0 B nx md).1 pz_not = true := by rw [St0.at hs]; exact hw
  have hb2 : ¬ B (St0 B nx md).1 = 91 := by rw [St0.at hs]; exact hb
  rw [St0.sk hs] at ht ⊢
  have key : ∀ m : Nat, pz_fact B m (St0 B nx md) = pz_com B (St0 B nx md) ∧ ec_fact B m (St0 B nx md) = ec_com B (St0 B nx md) := fun m => by
    cases m with
    | zero => exact ⟨if_neg (fun z => z.elim hw2 hb2), rfl⟩
    | succ m => exact ⟨(if_neg hw2).trans (if_neg hb2), (if_neg hw2).trans (if_neg hb2)⟩
  rw [hE u t hu ((key _).1.trans ht), (key _).2]
theorem FcG.out {wr' nx' md' : Int32} (hF : FrS (ok_fr f n.toInt.toNat)) (hE : ∀ u t, R = .ok u → pz_com B (St0 B nx md) = .ok t → TC = L ++ (ec_com B (St0 B nx md) ++ ec_K B (ok_fr f n.toInt.toNat) t)) (hc : RfO (pz_com B (St0 B nx md)) B wr' nx' md') (hS : SgC sg ln tx (L ++ ec_com B (St0 B nx md))) : FcB TC R B f n nx' md' sg ln tx := ⟨_, hS, hF, fun u hu => by rw [hE u _ hu hc.st, List.append_assoc]⟩
theorem FcB.sk (h : FcB TC R B f n nx md sg ln tx) (hs : SkR B nx n1) : FcB TC R B f n n1 md sg ln tx := by
  obtain ⟨L, hS, hF, hE⟩ := h
  exact ⟨L, hS, hF, fun u hu => by rw [St0.sk hs]; exact hE u hu⟩
theorem FcB.ld (hF : FrS (ok_fr f n.toInt.toNat)) (hE : ∀ u, R = .ok u → TC = L ++ ec_K B (ok_fr f n.toInt.toNat) (St0 B nx md)) (hl : LdC f n n' sg ln tx L l) (h2 : 2 ≤ l.toInt) : FcB TC R B f n' nx md sg ln tx := by
  obtain ⟨X, hS, hX, hO⟩ := hl
  rw [hX] at hF hE
  have h6 : ∀ o ∈ X, o ≠ -6 := fun o ho z => by
    have := hO o ho
    rw [z, show stO (-6) = 1 by decide] at this
    omega
  exact ⟨L ++ X, hS, hF.down ok_fr_ne, fun u hu => by rw [hE u hu, ec_K_pushL ok_fr_ne X h6, List.append_assoc]⟩
theorem FcB.close (hF : FrS (ok_fr f n.toInt.toNat)) (hE : ∀ u, R = .ok u → TC = L ++ ec_K B (ok_fr f n.toInt.toNat) (St0 B nx md)) (hi : Ins f n) (ho : OsP f n2 dp2) (hp : LdP f n n2 dp2) (hl : LdC f n n2 sg ln tx L l) (hd : LdS f n2 l) (h1 : l.toInt = 1) (hn3 : n3.toInt = n2.toInt - 1) (hs : SkR B nx n1) (h93 : B n1.toInt.toNat = 93) (hx : nx'.toInt = n1.toInt + 1) : FcB TC R B f n3 nx' md sg ln tx := by
  have h0 := hs.1
  obtain ⟨X, hS, hX, hO⟩ := hl
  obtain ⟨m, m', S, e⟩ := ok_os_ins (f := f) n.toInt.toNat (by obtain ⟨k, a, b⟩ := hi; exact ⟨k, by omega, b⟩)
  rw [← hp.2] at e
  have hn0 := ho.1
  have hp1 : 1 ≤ n2.toInt := by
    refine Int.not_lt.mp (fun z => ?_)
    rw [show n2.toInt.toNat = 0 by omega] at e
    cases e
  have ht : (f n3.toInt.toNat).toInt = 91 := by
    have a := ho.2.2.2.2 (n2.toInt.toNat - 1) (by omega)
    rw [show n3.toInt.toNat = n2.toInt.toNat - 1 by omega]
    rcases hd with z | z
    · omega
    · omega
  have e2 : ok_fr f n2.toInt.toNat = (10 - ((ok_os f n3.toInt.toNat).2 + 1), []) :: ok_fr f n3.toInt.toNat := by
    rw [show n2.toInt.toNat = n3.toInt.toNat + 1 by omega, ok_fr_91 ht]
  have en : pz_nx B (St0 B nx md) = St0 B nx' md := nx_te (nx' := nx') hs (by rw [te_br (Or.inr (Or.inl h93))]; omega)
  rw [hX, e2, fr_pushL_at X] at hF hE
  have hF : shP (X ++ []) ∧ FrS (ok_fr f n3.toInt.toNat) := hF
  rw [List.append_nil] at hF
  refine ⟨L ++ X, hS, hF.2, fun u hu => ?_⟩
  rw [hE u hu]
  show L ++ ec_K B ((10 - ((ok_os f n3.toInt.toNat).2 + 1), X ++ []) :: ok_fr f n3.toInt.toNat) (St0 B nx md) = _
  rw [List.append_nil, ec_K_close hF.1 (by rw [St0.at hs]; exact h93), en, List.append_assoc]
/-! a test -/
def TsC (TC : List Int) (R : Except Int (Nat × Nat)) (B : Nat → Int) (f : Nat → Int32) (n dp nx md : Int32) (sg ln : Nat → Int32) (tx mo : Int32) : Prop := (mo.toInt = 1 → FcA TC R B f n dp nx md sg ln tx) ∧ (mo.toInt = 0 → FcB TC R B f n nx md sg ln tx)
theorem TsC.first {ll : List Int} (h : SgC sg ln tx ll) (hn : n.toInt = 0) (hd : dp.toInt = 0) (hm : mo.toInt = 1) : TsC (ll ++ ltst B 10 (St0 B nx md)) (pz_tst B (pz_fact B 10) (St0 B nx md)) B f n dp nx md sg ln tx mo := by
  refine ⟨fun _ => ⟨ll, h, ?_, fun u t hu ht => ?_⟩, fun z => by omega⟩
  · rw [show n.toInt.toNat = 0 by omega]; exact ⟨trivial, trivial⟩
  · rw [show n.toInt.toNat = 0 by omega]
    rw [show dp.toInt.toNat = 0 by omega] at ht ⊢
    have ht : pz_fact B 10 (St0 B nx md) = .ok t := ht
    show ll ++ ltst B 10 (St0 B nx md) = ll ++ (ec_fact B 10 (St0 B nx md) ++ ec_K B [(10, [])] t)
    unfold ltst ec_tst
    rw [ht, ec_K_c, ec_R_nil, List.append_nil]
    rfl
theorem fr_head {m0 : Nat} {S : List Nat} (h : (ok_os f n.toInt.toNat).1 = m0 :: S) : ∃ P fs, ok_fr f n.toInt.toNat = (m0, P) :: fs := by
  have e := ok_fr_fst (f := f) n.toInt.toNat
  rw [h] at e
  cases hfr : ok_fr f n.toInt.toNat with
  | nil => exact absurd hfr ok_fr_ne
  | cons y fs =>
    rw [hfr, List.map_cons] at e
    have e1 := (List.cons.inj e).1
    exact ⟨y.2, fs, by rw [← e1]⟩
theorem TsC.and (hB : pz_fi B) (hF : FrS (ok_fr f n.toInt.toNat)) (hE : ∀ u, R = .ok u → TC = L ++ ec_K B (ok_fr f n.toInt.toNat) (St0 B nx md)) (hs : SkR B nx n1) (hw : pz_wd B n1.toInt.toNat pz_and = true) (hp : PsR B n1 nx') (hl : LdP f n n2 dp2) (hc : LdC f n n2 sg ln tx L l) (hd : LdS f n2 l) (h2 : l.toInt = 2) (ht : T11 f n2) (ho : OpX f n2 g n3 x) (hx : x.toInt = 12) (hm : mo.toInt = 1) : TsC TC R B g n3 dp2 nx' md sg ln tx mo := by
  obtain ⟨L', hS₀, hF', hE'⟩ := FcB.ld (TC := TC) (R := R) (B := B) (nx := nx) (md := md) hF hE hc (by omega)
  obtain ⟨S, hh⟩ := hl.1.hd ht
  obtain ⟨P0, fs0, e0⟩ := fr_head hh
  obtain ⟨m, P, fs, e1, hP⟩ := hd.two h2 hl.1 hF'
  have e01 := e0.symm.trans e1
  have em := congrArg Prod.fst (List.cons.inj e01).1
  have em : 10 - dp2.toInt.toNat = m := em
  have hL : 97 ≤ B n1.toInt.toNat ∧ B n1.toInt.toNat ≤ 122 := by
    have := (of_decide_eq_true hw).2 0 (by decide); rw [Nat.add_zero] at this; rw [this]; decide
  have en : pz_nx B (St0 B nx md) = St0 B nx' md := nx_te (nx' := nx') hs (by have := hp.te hL; have h5 := hp; unfold PsR at h5; omega)
  have hw2 : pz_wd B (St0 B nx md).1 pz_and = true := by rw [St0.at hs]; exact hw
  have ef := ho.fr (by omega)
  rw [hx, show opI 12 = -5 by decide, e1] at ef
  have ef : ok_fr g n3.toInt.toNat = (m, -5 :: P) :: fs := ef
  rw [e1] at hF' hE'
  refine ⟨fun _ => ⟨L', hS₀, ?_, fun u t hu ht2 => ?_⟩, fun z => by omega⟩
  · rw [ef]
    refine ⟨Or.inr (Or.inl ⟨rfl, hP⟩), hF'.2⟩
  · rw [em] at ht2 ⊢
    rw [← en] at ht2 ⊢
    rw [hE' u hu, ec_K_and hB hP hw2 ht2, ef]
theorem TsC.or (hB : pz_fi B) (hF : FrS (ok_fr f n.toInt.toNat)) (hE : ∀ u, R = .ok u → TC = L ++ ec_K B (ok_fr f n.toInt.toNat) (St0 B nx md)) (hs : SkR B nx n1) (hw : pz_wd B n1.toInt.toNat pz_or = true) (hp : PsR B n1 nx') (hl : LdP f n n2 dp2) (hc : LdC f n n2 sg ln tx L l) (hd : LdS f n2 l) (h1 : l.toInt = 1) (ht : T11 f n2) (ho : OpX f n2 g n3 x) (hx : x.toInt = 13) (hm : mo.toInt = 1) : TsC TC R B g n3 dp2 nx' md sg ln tx mo := by
  obtain ⟨X, hS, hX, hO⟩ := hc
  obtain ⟨S, hh⟩ := hl.1.hd ht
  obtain ⟨P0, fs0, e0⟩ := fr_head hh
  obtain ⟨m, fs, e1⟩ := hd.one h1 hl.1
  have e01 := e0.symm.trans e1
  have em := congrArg Prod.fst (List.cons.inj e01).1
  have em : 10 - dp2.toInt.toNat = m := em
  have hL : 97 ≤ B n1.toInt.toNat ∧ B n1.toInt.toNat ≤ 122 := by
    have := (of_decide_eq_true hw).2 0 (by decide); rw [Nat.add_zero] at this; rw [this]; decide
  have en : pz_nx B (St0 B nx md) = St0 B nx' md := nx_te (nx' := nx') hs (by have := hp.te hL; have h5 := hp; unfold PsR at h5; omega)
  have hw2 : pz_wd B (St0 B nx md).1 pz_or = true := by rw [St0.at hs]; exact hw
  have ef := ho.fr (by omega)
  rw [hx, show opI 13 = -6 by decide, e1] at ef
  have ef : ok_fr g n3.toInt.toNat = (m, [-6]) :: fs := ef
  rw [hX, e1, fr_pushL_at X] at hF hE
  have hF : shP (X ++ []) ∧ FrS fs := hF
  rw [List.append_nil] at hF
  refine ⟨fun _ => ⟨L ++ X, hS, ?_, fun u t hu ht2 => ?_⟩, fun z => by omega⟩
  · rw [ef]
    exact ⟨Or.inr (Or.inr ⟨rfl, rfl⟩), hF.2⟩
  · rw [em] at ht2 ⊢
    rw [← en] at ht2 ⊢
    rw [hE u hu, ef]
    show L ++ ec_K B ((m, X ++ []) :: fs) (St0 B nx md) = _
    rw [List.append_nil, ec_K_or hB hF.1 hw2 ht2, List.append_assoc]
theorem TsC.no (h : FcB TC R B f n nx md sg ln tx) (hs : SkR B nx n1) (hm : mo.toInt = 0) : TsC TC R B f n dp n1 md sg ln tx mo := ⟨fun z => by omega, fun _ => h.sk hs⟩
theorem TsC.out (hF : FrS (ok_fr f n.toInt.toNat)) (hE : ∀ u, R = .ok u → TC = L ++ ec_K B (ok_fr f n.toInt.toNat) (St0 B nx md)) (hi : NIns f n) (hn0 : n'.toInt ≤ n.toInt) (ho : OsP f n' dp') (hc : LdC f n n' sg ln tx L l) (hd : LdS f n' l) (h1 : l.toInt = 1) (hna : NAo B (pz_sk B nx.toInt.toNat)) {u : Nat × Nat} (hR : R = .ok u) : SgC sg ln tx TC := by
  obtain ⟨X, hS, hX, hO⟩ := hc
  obtain ⟨m, fs, e1⟩ := hd.one h1 ho
  have e2 := ok_fr_fst (f := f) n'.toInt.toNat
  rw [e1, ok_os_nins n'.toInt.toNat (fun k hk => hi k (by omega)), List.map_cons] at e2
  have e3 : fs = [] := List.map_eq_nil_iff.mp (List.cons.inj e2).2
  rw [hX, e1, e3, fr_pushL_at X] at hF hE
  have hF : shP (X ++ []) ∧ True := hF
  rw [List.append_nil] at hF
  have h2 := hE u hR
  rw [show ((m, ([] : List Int)).1, X ++ (m, ([] : List Int)).2) = (m, X) by rw [List.append_nil], ec_K_out hF.1 (fun z => hna (Or.inl z)) (fun z => hna (Or.inr z))] at h2
  rw [h2]; exact hS
end FCA
set_option maxRecDepth 16384
/-! the reference's clauses: rows and where they lie in what is written -/
theorem Agr.up {f g : Nat → Int32} {i : Nat} {x : Int32} {k : Int} (e : g = upd f i x) (h : k ≤ (i : Int)) : Agr f g k := fun j hj => by
  rw [e, upd_ne (by omega)]
def Sub (ll : List Int) (p : Nat) (c : List Int) : Prop := p + c.length ≤ ll.length ∧ ∀ j : Nat, j < c.length → ll.getD (p + j) 0 = c.getD j 0
theorem Sub.app {ll M : List Int} {p : Nat} {c : List Int} (h : Sub ll p c) : Sub (ll ++ M) p c := by
  refine ⟨?_, fun j hj => ?_⟩
  · rw [List.length_append]; have := h.1; omega
  · have := h.1
    rw [gd_left (by omega)]; exact h.2 j hj
theorem Sub.at {ll c M : List Int} : Sub ((ll ++ c) ++ M) ll.length c := by
  refine ⟨?_, fun j hj => ?_⟩
  · rw [List.length_append, List.length_append]; omega
  · rw [gd_left (by rw [List.length_append]; omega), gd_right]
theorem Sub.end {ll c : List Int} : Sub (ll ++ c) ll.length c := by
  have h := Sub.at (ll := ll) (c := c) (M := [])
  rw [List.append_nil] at h
  exact h
def RoL (ll : List Int) (cl : Nat → Int32) (t c : Nat) (x : List Int × Option (List Int)) : Prop := (∃ p : Nat, (cl (48 * t + 4 * c)).toInt = (p : Int) ∧ (cl (48 * t + 4 * c + 1)).toInt = (p : Int) + (x.1.length : Int) ∧ Sub ll p x.1) ∧ match x.2 with
  | none => (cl (48 * t + 4 * c + 2)).toInt < 0
  | some u => ∃ q : Nat, (cl (48 * t + 4 * c + 2)).toInt = (q : Int) ∧ (cl (48 * t + 4 * c + 3)).toInt = (q : Int) + (u.length : Int) ∧ Sub ll q u
def RwL (cl cs : Nat → Int32) (tx : Int32) (ll : List Int) (Rs : RuA) : Prop := (cs tx.toInt.toNat).toInt = (Rs.length : Int) ∧ ∀ c : Nat, c < Rs.length → RoL ll cl tx.toInt.toNat c (Rs.getD c ([], none))
theorem RoL.app {ll M : List Int} {cl : Nat → Int32} {t c : Nat} {x : List Int × Option (List Int)} (h : RoL ll cl t c x) : RoL (ll ++ M) cl t c x := by
  obtain ⟨⟨p, p1, p2, p3⟩, h2⟩ := h
  refine ⟨⟨p, p1, p2, p3.app⟩, ?_⟩
  match x, h2 with
  | (s, none), h2 => exact h2
  | (s, some u), h2 =>
    obtain ⟨q, q1, q2, q3⟩ := h2
    exact ⟨q, q1, q2, q3.app⟩
theorem RoL.cl {ll : List Int} {cl cl' : Nat → Int32} {t c : Nat} {x : List Int × Option (List Int)} (h : RoL ll cl t c x) (e : ∀ j : Nat, j < 4 → cl' (48 * t + 4 * c + j) = cl (48 * t + 4 * c + j)) : RoL ll cl' t c x := by
  have e0 := e 0 (by omega)
  have e1 := e 1 (by omega)
  have e2 := e 2 (by omega)
  have e3 := e 3 (by omega)
  rw [Nat.add_zero] at e0
  obtain ⟨⟨p, p1, p2, p3⟩, h2⟩ := h
  refine ⟨⟨p, by rw [e0]; exact p1, by rw [e1]; exact p2, p3⟩, ?_⟩
  match x, h2 with
  | (s, none), h2 => show (cl' (48 * t + 4 * c + 2)).toInt < 0; rw [e2]; exact h2
  | (s, some u), h2 =>
    obtain ⟨q, q1, q2, q3⟩ := h2
    exact ⟨q, by rw [e2]; exact q1, by rw [e3]; exact q2, q3⟩
theorem RwL.cl {cl cl' cs : Nat → Int32} {tx : Int32} {ll : List Int} {Rs : RuA} {i : Nat} {x : Int32} (h : RwL cl cs tx ll Rs) (e : cl' = upd cl i x) (hi : 48 * tx.toInt.toNat + 4 * Rs.length ≤ i) : RwL cl' cs tx ll Rs := ⟨h.1, fun c hc => (h.2 c hc).cl (fun j hj => by rw [e, upd_ne (by omega)])⟩
theorem rs_last {Rs : RuA} {x : List Int × Option (List Int)} : (Rs ++ [x]).getD Rs.length ([], none) = x := by
  rw [List.getD_eq_getElem?_getD, List.getElem?_append_right (Nat.le_refl _), Nat.sub_self]
  rfl
theorem rs_left {Rs M : RuA} {c : Nat} (h : c < Rs.length) : (Rs ++ M).getD c ([], none) = Rs.getD c ([], none) := by
  rw [List.getD_eq_getElem?_getD, List.getElem?_append_left h, ← List.getD_eq_getElem?_getD]
theorem RwL.snoc {cl cs cs' : Nat → Int32} {tx y : Int32} {ll M : List Int} {Rs : RuA} {x : List Int × Option (List Int)} (h : RwL cl cs tx ll Rs) (e : cs' = upd cs tx.toNatClampNeg y) (hy : y.toInt = (cs tx.toInt.toNat).toInt + 1) (hx : RoL (ll ++ M) cl tx.toInt.toNat Rs.length x) : RwL cl cs' tx (ll ++ M) (Rs ++ [x]) := by
  have et : tx.toNatClampNeg = tx.toInt.toNat := rfl
  rw [et] at e
  have h1 := h.1
  refine ⟨?_, fun c hc => ?_⟩
  · rw [e, upd_at, hy, h1, List.length_append, List.length_singleton]; omega
  · rw [List.length_append, List.length_singleton] at hc
    by_cases z : c < Rs.length
    · rw [rs_left z]; exact (h.2 c z).app
    · rw [show c = Rs.length by omega, rs_last]; exact hx
theorem RoL.none {cl : Nat → Int32} {t A0 c : Nat} {ll s : List Int} {v0 v1 v2 : Int32} (hA : A0 = 48 * t + 4 * c) (e0 : cl A0 = v0) (e1 : cl (A0 + 1) = v1) (e2 : cl (A0 + 2) = v2) (h0 : v0.toInt = (ll.length : Int)) (h1 : v1.toInt = (ll.length : Int) + (s.length : Int)) (h2 : v2.toInt < 0) : RoL (ll ++ s) cl t c (s, none) := by
  subst hA
  exact ⟨⟨ll.length, by rw [e0]; exact h0, by rw [e1]; exact h1, Sub.end⟩, by show (cl (48 * t + 4 * c + 2)).toInt < 0; rw [e2]; exact h2⟩
theorem RoL.some {cl : Nat → Int32} {t A0 c : Nat} {ll s u : List Int} {v0 v1 v2 v3 : Int32} (hA : A0 = 48 * t + 4 * c) (e0 : cl A0 = v0) (e1 : cl (A0 + 1) = v1) (e2 : cl (A0 + 2) = v2) (e3 : cl (A0 + 3) = v3) (h0 : v0.toInt = (ll.length : Int)) (h1 : v1.toInt = (ll.length : Int) + (s.length : Int)) (h2 : v2.toInt = (ll.length : Int) + (s.length : Int)) (h3 : v3.toInt = (ll.length : Int) + (s.length : Int) + (u.length : Int)) : RoL (ll ++ (s ++ u)) cl t c (s, some u) := by
  subst hA
  refine ⟨⟨ll.length, by rw [e0]; exact h0, by rw [e1]; exact h1, ?_⟩, ?_⟩
  · rw [← List.append_assoc]; exact Sub.at
  · refine ⟨(ll ++ s).length, ?_, ?_, ?_⟩
    · rw [e2, h2, List.length_append]; omega
    · rw [e3, h3, List.length_append]; omega
    · rw [← List.append_assoc]; exact Sub.end
theorem SgC.nil {sg ln ln' : Nat → Int32} {tx y : Int32} (e : ln' = upd ln tx.toNatClampNeg y) (hy : y.toInt = 0) : SgC sg ln' tx [] := ⟨by rw [e, upd_at, hy]; rfl, by decide, fun j hj => absurd hj (Nat.not_lt_zero j)⟩
theorem RwL.nil {cl cs : Nat → Int32} {tx : Int32} {ll : List Int} (h : (cs tx.toInt.toNat).toInt = 0) : RwL cl cs tx ll [] := ⟨h, fun c hc => absurd hc (Nat.not_lt_zero c)⟩
/-- what is written, and the rows in it -/
def RwK (sg ln cl cs : Nat → Int32) (tx : Int32) (Rs : RuA) : Prop := ∃ L, SgC sg ln tx L ∧ RwL cl cs tx L Rs
section RWK
variable {B : Nat → Int} {sg ln cl cs : Nat → Int32} {tx nx md nx1 w2 nx2 md2 nx3 n1 gd wr ln0 : Int32} {Rs : RuA} {w : Int}
theorem cl_none (hw : w = pz_pl pz_if) (h0 : 0 ≤ nx.toInt) (hb : BwH B nx) (hp : PsR B nx nx1) (h : RfO (pz_sum B (St0 B nx1 md)) B w2 nx2 md2) (hn : NtW B w nx2 nx3) : ru_cl B (St0 B nx md) = (lsum B (St0 B nx1 md), none) := by
  subst hw
  have e1 := BuR.at (md := md) h0 hb hp
  have e2 : pz_nt B (St0 B nx md).1 = (St0 B nx1 md).1 := congrArg Prod.fst e1
  unfold ru_cl lsum
  rw [e1, e2, h.st]
  show (_, if pz_wd B (St0 B nx2 md2).1 pz_if = true then _ else none) = _
  rw [if_neg (by rw [St0.at hn.1]; exact fun z => hn.2 ((PkW.wd (by decide) (by decide) (by decide)).mpr z))]
theorem cl_some (hw : w = pz_pl pz_if) (h0 : 0 ≤ nx.toInt) (hb : BwH B nx) (hp : PsR B nx nx1) (h : RfO (pz_sum B (St0 B nx1 md)) B w2 nx2 md2) (hn : TkW B w nx2 nx3) : ru_cl B (St0 B nx md) = (lsum B (St0 B nx1 md), some (ltst B 10 (St0 B nx3 md2))) := by
  subst hw
  obtain ⟨n1, hs, hk, hp2⟩ := hn
  have hd := (PkW.wd (by decide) (by decide) (by decide)).mp hk
  have e1 := BuR.at (md := md) h0 hb hp
  have e2 : pz_nt B (St0 B nx md).1 = (St0 B nx1 md).1 := congrArg Prod.fst e1
  unfold ru_cl lsum
  rw [e1, e2, h.st]
  show (_, if pz_wd B (St0 B nx2 md2).1 pz_if = true then some (ec_tst B (pz_fact B 10) (ec_fact B 10) (pz_nx B (St0 B nx2 md2))) else none) = _
  rw [if_pos (by rw [St0.at hs]; exact hd), nx_ps hs (buy_let hd (by decide) (by decide)) hp2]
  rfl
theorem RwK.sk (h : RwK sg ln cl cs tx (Rs ++ [ru_cl B (St0 B n1 md)])) (hs : SkR B nx n1) : RwK sg ln cl cs tx (Rs ++ [ru_cl B (St0 B nx md)]) := by
  rw [← St0.sk hs]; exact h
/-- all clauses: those that are read, and those that are left -/
def RaK (B : Nat → Int) (sg ln cl cs : Nat → Int32) (tx nx md l gd : Int32) : Prop := gd.toInt = 1 → ∃ Rs, RwK sg ln cl cs tx Rs ∧ ru_of B = Rs ++ ru_lp B 401 (St0 B nx md, l.toInt.toNat)
theorem RaK.first {nx0 md0 l : Int32} (hn : nx0.toInt = 0) (hm : md0.toInt = 0) (hc : gd.toInt = 1 → RfO (pz_cla B 0 (St0 B nx0 md0)) B wr nx md) (h : gd.toInt = 1 → RwK sg ln cl cs tx ([] ++ [ru_cl B (St0 B nx0 md0)])) (hl : gd.toInt = 1 → l.toInt = 1) : RaK B sg ln cl cs tx nx md l gd := fun z => by
  refine ⟨_, h z, ?_⟩
  have e0 : St0 B nx0 md0 = (pz_sk B 0, 0) := by unfold St0; rw [hn, hm]; rfl
  have e1 := (hc z).st
  have e2 := hl z
  rw [e0] at e1 ⊢
  unfold ru_of
  rw [e1, show l.toInt.toNat = 1 by omega]
  rfl
theorem RaK.next {nxa mda la n1 nx1 wr' nx' md' l' gd' : Int32} {sg' ln' cl' cs' : Nat → Int32} (hB : pz_fi B) (hE : ru_of B = Rs ++ ru_lp B 401 (St0 B nxa mda, la.toInt.toNat)) (hs : SkR B nxa n1) (h59 : B n1.toInt.toNat = 59) (hx : nx1.toInt = n1.toInt + 1) (hc : gd'.toInt = 1 → RfO (pz_cla B la.toInt.toNat (St0 B nx1 mda)) B wr' nx' md') (h : gd'.toInt = 1 → RwK sg' ln' cl' cs' tx (Rs ++ [ru_cl B (St0 B nx1 mda)])) (hl : gd'.toInt = 1 → l'.toInt = la.toInt + 1) (h0 : 0 ≤ la.toInt) : RaK B sg' ln' cl' cs' tx nx' md' l' gd' := fun z => by
  refine ⟨_, h z, ?_⟩
  have hz := hs.1
  have en : pz_nx B (St0 B nxa mda) = St0 B nx1 mda := nx_te (nx' := nx1) hs (by rw [te_br (Or.inr (Or.inr h59))]; omega)
  have e1 := (hc z).st
  have e2 := hl z
  rw [hE, ru_lp_on (u := (St0 B nxa mda, la.toInt.toNat)) (t := St0 B nx' md') hB (by show B (St0 B nxa mda).1 = 59; rw [St0.at hs]; exact h59) (by show pz_cla B la.toInt.toNat (pz_nx B (St0 B nxa mda)) = _; rw [en]; exact e1), show l'.toInt.toNat = la.toInt.toNat + 1 by omega]
  show Rs ++ ru_cl B (pz_nx B (St0 B nxa mda)) :: _ = _
  rw [en, List.append_assoc]
  rfl
theorem RaK.end {nxa mda la n1 : Int32} (h : RaK B sg ln cl cs tx nxa mda la gd) (hg : gd.toInt = 1) (hs : SkR B nxa n1) (h59 : ¬ B n1.toInt.toNat = 59) : RwK sg ln cl cs tx (ru_of B) := by
  obtain ⟨Rs, h1, h2⟩ := h hg
  rw [h2, ru_lp_no (u := (St0 B nxa mda, la.toInt.toNat)) (by show ¬ B (St0 B nxa mda).1 = 59; rw [St0.at hs]; exact h59), List.append_nil]
  exact h1
end RWK
/-! all rules -/
def RwS (sg cl cs : Nat → Int32) (rl : Int32) (RL : List RuA) : Prop := rl.toInt = (RL.length : Int) ∧ ∀ t : Nat, t < RL.length → RwR sg cl cs t (RL.getD t [])
def rnL (B : Nat → Int) (RL : List RuA) (rl rl' : Int32) : List RuA := if rl'.toInt = rl.toInt then RL else RL ++ [ru_of B]
theorem RwK.row {sg ln cl cs : Nat → Int32} {tx : Int32} {R : RuA} (h : RwK sg ln cl cs tx R) (h12 : R.length ≤ 12) : RwR sg cl cs tx.toInt.toNat R := by
  obtain ⟨L, hS, hR⟩ := h
  refine ⟨hR.1, h12, fun c hc => ?_⟩
  have hS2 := hS.2.1
  have key : ∀ (p : Nat) (u : List Int), Sub L p u → RwE sg tx.toInt.toNat p u ∧ p + u.length ≤ 400 := fun p u hu => by
    have h1 := hu.1
    refine ⟨fun j hj => ?_, by omega⟩
    rw [← hu.2 j hj, Nat.add_assoc]
    exact hS.2.2 (p + j) (by omega)
  obtain ⟨⟨p, p1, p2, p3⟩, h2⟩ := hR.2 c hc
  have k1 := key p _ p3
  refine ⟨⟨p, p1, p2, by omega, k1.1⟩, ?_⟩
  generalize R.getD c ([], none) = x at h2 ⊢
  match x, h2 with
  | (s, none), h2 => exact h2
  | (s, some u), h2 =>
    obtain ⟨q, q1, q2, q3⟩ := h2
    have k2 := key q u q3
    exact ⟨q, q1, q2, by omega, k2.1⟩
theorem RwE.agr {sg sg' : Nat → Int32} {t p : Nat} {c : List Int} {k : Int} (h : RwE sg t p c) (ha : Agr sg sg' k) (hk : 400 * (t : Int) + 400 ≤ k) (hp : p + c.length ≤ 400) : RwE sg' t p c := fun j hj => by
  rw [ha _ (by omega)]; exact h j hj
theorem RwR.agr {sg sg' cl cl' cs cs' : Nat → Int32} {t : Nat} {R : RuA} {x : Int} (h : RwR sg cl cs t R) (h1 : Agr sg sg' (400 * x)) (h2 : Agr cl cl' (48 * x)) (h3 : Agr cs cs' x) (ht : (t : Int) < x) : RwR sg' cl' cs' t R := by
  have h12 := h.2.1
  refine ⟨by rw [h3 t ht]; exact h.1, h12, fun c hc => ?_⟩
  obtain ⟨⟨p, p1, p2, p3, p4⟩, q⟩ := h.2.2 c hc
  refine ⟨⟨p, by rw [h2 _ (by omega)]; exact p1, by rw [h2 _ (by omega)]; exact p2, by rw [h2 _ (by omega)]; exact p3, p4.agr h1 (by omega) (by omega)⟩, ?_⟩
  generalize R.getD c ([], none) = y at q ⊢
  match y, q with
  | (s, none), q => show (cl' (48 * t + 4 * c + 2)).toInt < 0; rw [h2 _ (by omega)]; exact q
  | (s, some u), q =>
    obtain ⟨q0, q1, q2, q3, q4⟩ := q
    exact ⟨q0, by rw [h2 _ (by omega)]; exact q1, by rw [h2 _ (by omega)]; exact q2, by rw [h2 _ (by omega)]; exact q3, q4.agr h1 (by omega) (by omega)⟩
theorem rl_last {RL : List RuA} {R : RuA} : (RL ++ [R]).getD RL.length [] = R := by
  rw [List.getD_eq_getElem?_getD, List.getElem?_append_right (Nat.le_refl _), Nat.sub_self]
  rfl
theorem rl_left {RL M : List RuA} {c : Nat} (h : c < RL.length) : (RL ++ M).getD c [] = RL.getD c [] := by
  rw [List.getD_eq_getElem?_getD, List.getElem?_append_left h, ← List.getD_eq_getElem?_getD]
theorem RwS.same {sg sg' cl cl' cs cs' : Nat → Int32} {rl rl' : Int32} {RL : List RuA} {B : Nat → Int} (h : RwS sg cl cs rl RL) (h1 : Agr sg sg' (400 * rl.toInt)) (h2 : Agr cl cl' (48 * rl.toInt)) (h3 : Agr cs cs' rl.toInt) (hr : rl'.toInt = rl.toInt) : RwS sg' cl' cs' rl' (rnL B RL rl rl') := by
  have e : rnL B RL rl rl' = RL := if_pos hr
  have h0 := h.1
  rw [e]
  exact ⟨by omega, fun t ht => (h.2 t ht).agr h1 h2 h3 (by omega)⟩
theorem RwS.more {sg sg' ln cl cl' cs cs' : Nat → Int32} {rl rl' : Int32} {RL : List RuA} {B : Nat → Int} (h : RwS sg cl cs rl RL) (h1 : Agr sg sg' (400 * rl.toInt)) (h2 : Agr cl cl' (48 * rl.toInt)) (h3 : Agr cs cs' rl.toInt) (hr : rl'.toInt = rl.toInt + 1) (hk : RwK sg' ln cl' cs' rl (ru_of B)) (hB : ∃ p, pz_rule B = .ok p) : RwS sg' cl' cs' rl' (rnL B RL rl rl') := by
  have e : rnL B RL rl rl' = RL ++ [ru_of B] := if_neg (by omega)
  have h0 := h.1
  obtain ⟨p, hp⟩ := hB
  rw [e]
  refine ⟨by rw [List.length_append, List.length_singleton]; omega, fun t ht => ?_⟩
  rw [List.length_append, List.length_singleton] at ht
  by_cases z : t < RL.length
  · rw [rl_left z]; exact (h.2 t z).agr h1 h2 h3 (by omega)
  · rw [show t = RL.length by omega, rl_last]
    have := hk.row (ru_of_gd hp).2.2
    rw [show rl.toInt.toNat = RL.length by omega] at this
    exact this
set_option maxHeartbeats 4000000 in
set_option maxRecDepth 100000 in
theorem ct_kX12_puts (l : Launch) (D : va_G) (tc : Nat → ClassId) (sk : (Nat → Nat) × (Nat → Nat)) (Ma : Nat → Nat) (Mv : Nat → Int32) (Mf : Nat → Nat → Int32) (Mj : Nat → Int64) (x1 : Int32) (x2 : Int32) (pb : Int32) (pm : Int32) (pd : Nat) (pe : Nat) (ll : List Int) (oo : Int) (h_cd : Cd (Mf 2) (Mf 3) (Mv 5) pb pm pd) (h_st : StpR x1 x2 pd pe) (h_e : (pe : Int) ≤ pm.toInt) (h_L : ((Mf 3) (Mv 5).toNatClampNeg).toInt < 400) (h_sg : SgC (Mf 2) (Mf 3) (Mv 5) ll) (h_oo : x1.toInt + 16 * x2.toInt = rE oo) (h_x1 : 0 ≤ x1.toInt ∧ x1.toInt ≤ 15) (h_x2 : 0 ≤ x2.toInt ∧ x2.toInt ≤ 100000) (h_tx : 0 ≤ (Mv 5).toInt) : Ct l yX12_puts cX12_puts 3 none { frames := 0, cells := 0, slots := 0, locals := 0 } D tc sk [.ref (Ma 0), .int x1, .int x2] [((Ma 0), .inr (12, [.ref (Ma 1), .int (Mv 0), .int (Mv 1), .ref (Ma 2), .ref (Ma 3), .ref (Ma 4), .ref (Ma 5), .ref (Ma 6), .int (Mv 2), .int (Mv 3), .int (Mv 4), .int (Mv 5), .int (Mv 6), .int (Mv 7), .int (Mv 8), .ref (Ma 7), .int (Mv 9), .ref (Ma 8), .int (Mv 10), .ref (Ma 9), .ref (Ma 10), .int (Mv 11), .int (Mv 12), .int (Mv 13), .ref (Ma 11), .int (Mv 14), .ref (Ma 12), .ref (Ma 13), .ref (Ma 14), .ref (Ma 15), .ref (Ma 16), .long (Mj 0), .ref (Ma 17), .ref (Ma 18), .ref (Ma 19), .ref (Ma 20)])), ((Ma 2), .inl (tc 0, 2400, .inl (Mf 2))), ((Ma 3), .inl (tc 0, 7, .inl (Mf 3)))] (fun (v : Option Value) (u : (Nat → Int32) × (Nat → Int32)) => match u with | (oo0x1, oo0x2) => v = none ∧ (Cd oo0x1 oo0x2 (Mv 5) pb pm pe) ∧ (Agr (Mf 2) oo0x1 (400 * ((Mv 5) : Int32).toInt + ((Mf 3) (Mv 5).toNatClampNeg).toInt)) ∧ ((oo0x2 (Mv 5).toNatClampNeg).toInt = ((Mf 3) (Mv 5).toNatClampNeg).toInt + 1) ∧ (SgC oo0x1 oo0x2 (Mv 5) (ll ++ [oo]))) (fun (u : (Nat → Int32) × (Nat → Int32)) => match u with | (oo0x1, oo0x2) => [((Ma 0), .inr (12, [.ref (Ma 1), .int (Mv 0), .int (Mv 1), .ref (Ma 2), .ref (Ma 3), .ref (Ma 4), .ref (Ma 5), .ref (Ma 6), .int (Mv 2), .int (Mv 3), .int (Mv 4), .int (Mv 5), .int (Mv 6), .int (Mv 7), .int (Mv 8), .ref (Ma 7), .int (Mv 9), .ref (Ma 8), .int (Mv 10), .ref (Ma 9), .ref (Ma 10), .int (Mv 11), .int (Mv 12), .int (Mv 13), .ref (Ma 11), .int (Mv 14), .ref (Ma 12), .ref (Ma 13), .ref (Ma 14), .ref (Ma 15), .ref (Ma 16), .long (Mj 0), .ref (Ma 17), .ref (Ma 18), .ref (Ma 19), .ref (Ma 20)])), ((Ma 2), .inl (tc 0, 2400, .inl oo0x1)), ((Ma 3), .inl (tc 0, 7, .inl oo0x2))]) 0 0 := by
  refine Ct.start (by decide) (Nat.le_of_ble_eq_true rfl) (fun p e s m below meth c A ls hx hb hr hlk hin hml hown hts hK hX hP hD hA hl hS => ?_)
  have hl : lv_has ls 3 [(0, .ref (Ma 0)), (1, .int x1), (2, .int x2)] := hl
  have ar_h_cd := Cd.ar h_cd
  refine lv_aload_n hx hb dX12_puts_0 rfl (lv_at hl 0 rfl) ?_
  refine gf_X12_13 hx hb hts hown hK hP 0 rfl rfl dX12_puts_1 ?_
  refine lv_sipush (v := 400) hx hb dX12_puts_4 (by decide) ?_
  refine lv_aload_n hx hb dX12_puts_7 rfl (lv_at hl 0 rfl) ?_
  refine gf_X12_145 hx hb hts hown hK hP 0 rfl rfl dX12_puts_8 ?_
  refine lv_imul hx hb dX12_puts_11 ?_
  refine lv_topi (fun x_1 ex_1 => ?_)
  refine lv_aload_n hx hb dX12_puts_12 rfl (lv_at hl 0 rfl) ?_
  refine gf_X12_17 hx hb hts hown hK hP 0 rfl rfl dX12_puts_13 ?_
  refine lv_aload_n hx hb dX12_puts_16 rfl (lv_at hl 0 rfl) ?_
  refine gf_X12_145 hx hb hts hown hK hP 0 rfl rfl dX12_puts_17 ?_
  have hi_2 : vp_in (Mv 5) 7 := by
    refine vp_in_iff.mpr ⟨?_, ?_⟩ <;> omega
  refine va_iald hx hb hK hP 2 0 rfl rfl hi_2 dX12_puts_20 ?_
  refine lv_topi (fun x_3 ex_3 => ?_)
  have kx_3 : x_3.toInt = ((Mf 3) ((Mv 5) : Int32).toNatClampNeg).toInt := congrArg Int32.toInt ex_3
  refine lv_iadd hx hb dX12_puts_21 ?_
  refine lv_topi (fun x_4 ex_4 => ?_)
  refine lv_iload_n hx hb dX12_puts_22 rfl (lv_at hl 1 rfl) ?_
  refine lv_bipush (v := 16) hx hb dX12_puts_23 (by decide) ?_
  refine lv_iload_n hx hb dX12_puts_25 rfl (lv_at hl 2 rfl) ?_
  refine lv_imul hx hb dX12_puts_26 ?_
  refine lv_topi (fun x_5 ex_5 => ?_)
  refine lv_iadd hx hb dX12_puts_27 ?_
  refine lv_topi (fun x_6 ex_6 => ?_)
  have hi_7 : vp_in x_4 2400 := by
    have y_400 : (400 : Int32).toInt = 400 := by decide
    have t_x_1 : x_1.toInt = (400 : Int32).toInt * ((Mv 5) : Int32).toInt := by rw [ex_1]; exact mul_toInt (by first | omega | (rw [y_400]; omega)) (by first | omega | (rw [y_400]; omega))
    rw [y_400] at t_x_1
    have t_x_4 : x_4.toInt = (x_1 : Int32).toInt + (x_3 : Int32).toInt := by rw [ex_4]; exact add_toInt (by omega) (by omega)
    refine vp_in_iff.mpr ⟨?_, ?_⟩ <;> omega
  refine st_int hx hb hK hP hD hS 1 0 rfl rfl hi_7 dX12_puts_28 (fun g_8 H locs eg_8 hP₀ hD₀ hS₀ => ?_)
  replace hP : va_P D classes [((Ma 0), .inr (12, [.ref (Ma 1), .int (Mv 0), .int (Mv 1), .ref (Ma 2), .ref (Ma 3), .ref (Ma 4), .ref (Ma 5), .ref (Ma 6), .int (Mv 2), .int (Mv 3), .int (Mv 4), .int (Mv 5), .int (Mv 6), .int (Mv 7), .int (Mv 8), .ref (Ma 7), .int (Mv 9), .ref (Ma 8), .int (Mv 10), .ref (Ma 9), .ref (Ma 10), .int (Mv 11), .int (Mv 12), .int (Mv 13), .ref (Ma 11), .int (Mv 14), .ref (Ma 12), .ref (Ma 13), .ref (Ma 14), .ref (Ma 15), .ref (Ma 16), .long (Mj 0), .ref (Ma 17), .ref (Ma 18), .ref (Ma 19), .ref (Ma 20)])), ((Ma 2), .inl (tc 0, 2400, .inl g_8)), ((Ma 3), .inl (tc 0, 7, .inl (Mf 3)))] H := hP₀
  replace hD : va_D A [((Ma 0), .inr (12, [.ref (Ma 1), .int (Mv 0), .int (Mv 1), .ref (Ma 2), .ref (Ma 3), .ref (Ma 4), .ref (Ma 5), .ref (Ma 6), .int (Mv 2), .int (Mv 3), .int (Mv 4), .int (Mv 5), .int (Mv 6), .int (Mv 7), .int (Mv 8), .ref (Ma 7), .int (Mv 9), .ref (Ma 8), .int (Mv 10), .ref (Ma 9), .ref (Ma 10), .int (Mv 11), .int (Mv 12), .int (Mv 13), .ref (Ma 11), .int (Mv 14), .ref (Ma 12), .ref (Ma 13), .ref (Ma 14), .ref (Ma 15), .ref (Ma 16), .long (Mj 0), .ref (Ma 17), .ref (Ma 18), .ref (Ma 19), .ref (Ma 20)])), ((Ma 2), .inl (tc 0, 2400, .inl g_8)), ((Ma 3), .inl (tc 0, 7, .inl (Mf 3)))] := hD₀
  replace hS := hS₀
  clear hP₀ hD₀ hS₀
  refine lv_aload_n hx hb dX12_puts_29 rfl (lv_at hl 0 rfl) ?_
  refine gf_X12_17 hx hb hts hown hK hP 0 rfl rfl dX12_puts_30 ?_
  refine lv_aload_n hx hb dX12_puts_33 rfl (lv_at hl 0 rfl) ?_
  refine gf_X12_145 hx hb hts hown hK hP 0 rfl rfl dX12_puts_34 ?_
  refine lv_dup2_11 hx hb dX12_puts_37 rfl rfl ?_
  have hi_9 : vp_in (Mv 5) 7 := by
    refine vp_in_iff.mpr ⟨?_, ?_⟩ <;> omega
  refine va_iald hx hb hK hP 2 0 rfl rfl hi_9 dX12_puts_38 ?_
  refine lv_topi (fun x_10 ex_10 => ?_)
  have kx_10 : x_10.toInt = ((Mf 3) ((Mv 5) : Int32).toNatClampNeg).toInt := congrArg Int32.toInt ex_10
  refine lv_iconst (v := 1) hx hb dX12_puts_39 (by decide) ?_
  refine lv_iadd hx hb dX12_puts_40 ?_
  refine lv_topi (fun x_11 ex_11 => ?_)
  have hi_12 : vp_in (Mv 5) 7 := by
    refine vp_in_iff.mpr ⟨?_, ?_⟩ <;> omega
  refine st_int hx hb hK hP hD hS 2 0 rfl rfl hi_12 dX12_puts_41 (fun g_13 H locs eg_13 hP₀ hD₀ hS₀ => ?_)
  replace hP : va_P D classes [((Ma 0), .inr (12, [.ref (Ma 1), .int (Mv 0), .int (Mv 1), .ref (Ma 2), .ref (Ma 3), .ref (Ma 4), .ref (Ma 5), .ref (Ma 6), .int (Mv 2), .int (Mv 3), .int (Mv 4), .int (Mv 5), .int (Mv 6), .int (Mv 7), .int (Mv 8), .ref (Ma 7), .int (Mv 9), .ref (Ma 8), .int (Mv 10), .ref (Ma 9), .ref (Ma 10), .int (Mv 11), .int (Mv 12), .int (Mv 13), .ref (Ma 11), .int (Mv 14), .ref (Ma 12), .ref (Ma 13), .ref (Ma 14), .ref (Ma 15), .ref (Ma 16), .long (Mj 0), .ref (Ma 17), .ref (Ma 18), .ref (Ma 19), .ref (Ma 20)])), ((Ma 2), .inl (tc 0, 2400, .inl g_8)), ((Ma 3), .inl (tc 0, 7, .inl g_13))] H := hP₀
  replace hD : va_D A [((Ma 0), .inr (12, [.ref (Ma 1), .int (Mv 0), .int (Mv 1), .ref (Ma 2), .ref (Ma 3), .ref (Ma 4), .ref (Ma 5), .ref (Ma 6), .int (Mv 2), .int (Mv 3), .int (Mv 4), .int (Mv 5), .int (Mv 6), .int (Mv 7), .int (Mv 8), .ref (Ma 7), .int (Mv 9), .ref (Ma 8), .int (Mv 10), .ref (Ma 9), .ref (Ma 10), .int (Mv 11), .int (Mv 12), .int (Mv 13), .ref (Ma 11), .int (Mv 14), .ref (Ma 12), .ref (Ma 13), .ref (Ma 14), .ref (Ma 15), .ref (Ma 16), .long (Mj 0), .ref (Ma 17), .ref (Ma 18), .ref (Ma 19), .ref (Ma 20)])), ((Ma 2), .inl (tc 0, 2400, .inl g_8)), ((Ma 3), .inl (tc 0, 7, .inl g_13))] := hD₀
  replace hS := hS₀
  clear hP₀ hD₀ hS₀
  have hx_14 : x_6 = x1 + 16 * x2 := by rw [ex_6, ex_5]
  have hi_15 : (x_4 : Int32).toInt = 400 * (Mv 5).toInt + ((Mf 3) (Mv 5).toNatClampNeg).toInt := by
    have y_400 : (400 : Int32).toInt = 400 := by decide
    have t_x_1 : x_1.toInt = (400 : Int32).toInt * ((Mv 5) : Int32).toInt := by rw [ex_1]; exact mul_toInt (by first | omega | (rw [y_400]; omega)) (by first | omega | (rw [y_400]; omega))
    rw [y_400] at t_x_1
    have t_x_4 : x_4.toInt = (x_1 : Int32).toInt + (x_3 : Int32).toInt := by rw [ex_4]; exact add_toInt (by omega) (by omega)
    omega
  have hi_16 : (x_11 : Int32).toInt = ((Mf 3) (Mv 5).toNatClampNeg).toInt + 1 := by
    have y_1 : (1 : Int32).toInt = 1 := by decide
    have t_x_11 : x_11.toInt = (x_10 : Int32).toInt + (1 : Int32).toInt := by rw [ex_11]; exact add_toInt (by omega) (by omega)
    omega
  have hc_17 := Cd.put h_cd h_st h_e eg_8 hi_15 hx_14 eg_13 hi_16 h_L
  obtain ⟨pf_18, pf_19, ar_20⟩ := hc_17
  have ar_pf_18 := Cd.ar pf_18
  have hx_21 : x_6 = x1 + 16 * x2 := by rw [ex_6, ex_5]
  have hi_22 : (x_4 : Int32).toInt = 400 * (Mv 5).toInt + ((Mf 3) (Mv 5).toNatClampNeg).toInt := by
    have y_400 : (400 : Int32).toInt = 400 := by decide
    have t_x_1 : x_1.toInt = (400 : Int32).toInt * ((Mv 5) : Int32).toInt := by rw [ex_1]; exact mul_toInt (by first | omega | (rw [y_400]; omega)) (by first | omega | (rw [y_400]; omega))
    rw [y_400] at t_x_1
    have t_x_4 : x_4.toInt = (x_1 : Int32).toInt + (x_3 : Int32).toInt := by rw [ex_4]; exact add_toInt (by omega) (by omega)
    omega
  have hi_23 : (x_11 : Int32).toInt = ((Mf 3) (Mv 5).toNatClampNeg).toInt + 1 := by
    have y_1 : (1 : Int32).toInt = 1 := by decide
    have t_x_11 : x_11.toInt = (x_10 : Int32).toInt + (1 : Int32).toInt := by rw [ex_11]; exact add_toInt (by omega) (by omega)
    omega
  have pf_24 : SgC g_8 g_13 (Mv 5) (ll ++ [oo]) := SgC.put h_sg h_tx eg_8 hi_22 (put_x hx_21 h_x1 h_x2 h_oo) eg_13 hi_23 h_L
  have ha_25 : (g_13 (Mv 5).toNatClampNeg).toInt = ((Mf 3) (Mv 5).toNatClampNeg).toInt + 1 := by
    omega
  exact retV hx hb hr hlk hP hD hS (g_8, g_13) ⟨rfl, pf_18, pf_19, ha_25, pf_24⟩ [0, 1, 2] rfl rfl dX12_puts_42 (Nat.le_of_ble_eq_true rfl) (Nat.le_of_ble_eq_true rfl) rfl
set_option maxRecDepth 100000 in
theorem cu_kX12_puts (l : Launch) (D : va_G) (tc : Nat → ClassId) (sk : (Nat → Nat) × (Nat → Nat)) (Ma_0 : Nat) (Ma_1 : Nat) (Ma_2 : Nat) (Ma_3 : Nat) (Ma_4 : Nat) (Ma_5 : Nat) (Ma_6 : Nat) (Ma_7 : Nat) (Ma_8 : Nat) (Ma_9 : Nat) (Ma_10 : Nat) (Ma_11 : Nat) (Ma_12 : Nat) (Ma_13 : Nat) (Ma_14 : Nat) (Ma_15 : Nat) (Ma_16 : Nat) (Ma_17 : Nat) (Ma_18 : Nat) (Ma_19 : Nat) (Ma_20 : Nat) (Mv_0 : Int32) (Mv_1 : Int32) (Mv_2 : Int32) (Mv_3 : Int32) (Mv_4 : Int32) (Mv_5 : Int32) (Mv_6 : Int32) (Mv_7 : Int32) (Mv_8 : Int32) (Mv_9 : Int32) (Mv_10 : Int32) (Mv_11 : Int32) (Mv_12 : Int32) (Mv_13 : Int32) (Mv_14 : Int32) (Mf_2 : Nat → Int32) (Mf_3 : Nat → Int32) (Mj_0 : Int64) (x1 : Int32) (x2 : Int32) (pb : Int32) (pm : Int32) (pd : Nat) (pe : Nat) (ll : List Int) (oo : Int) (h_cd : Cd Mf_2 Mf_3 Mv_5 pb pm pd) (h_st : StpR x1 x2 pd pe) (h_e : (pe : Int) ≤ pm.toInt) (h_L : (Mf_3 Mv_5.toNatClampNeg).toInt < 400) (h_sg : SgC Mf_2 Mf_3 Mv_5 ll) (h_oo : x1.toInt + 16 * x2.toInt = rE oo) (h_x1 : 0 ≤ x1.toInt ∧ x1.toInt ≤ 15) (h_x2 : 0 ≤ x2.toInt ∧ x2.toInt ≤ 100000) (h_tx : 0 ≤ Mv_5.toInt) : Ct l yX12_puts cX12_puts 3 none { frames := 0, cells := 0, slots := 0, locals := 0 } D tc sk [.ref Ma_0, .int x1, .int x2] [(Ma_0, .inr (12, [.ref Ma_1, .int Mv_0, .int Mv_1, .ref Ma_2, .ref Ma_3, .ref Ma_4, .ref Ma_5, .ref Ma_6, .int Mv_2, .int Mv_3, .int Mv_4, .int Mv_5, .int Mv_6, .int Mv_7, .int Mv_8, .ref Ma_7, .int Mv_9, .ref Ma_8, .int Mv_10, .ref Ma_9, .ref Ma_10, .int Mv_11, .int Mv_12, .int Mv_13, .ref Ma_11, .int Mv_14, .ref Ma_12, .ref Ma_13, .ref Ma_14, .ref Ma_15, .ref Ma_16, .long Mj_0, .ref Ma_17, .ref Ma_18, .ref Ma_19, .ref Ma_20])), (Ma_2, .inl (tc 0, 2400, .inl Mf_2)), (Ma_3, .inl (tc 0, 7, .inl Mf_3))] (fun (v : Option Value) (u : (Nat → Int32) × (Nat → Int32)) => match u with | (oo0x1, oo0x2) => v = none ∧ (Cd oo0x1 oo0x2 Mv_5 pb pm pe) ∧ (Agr Mf_2 oo0x1 (400 * (Mv_5 : Int32).toInt + (Mf_3 Mv_5.toNatClampNeg).toInt)) ∧ ((oo0x2 Mv_5.toNatClampNeg).toInt = (Mf_3 Mv_5.toNatClampNeg).toInt + 1) ∧ (SgC oo0x1 oo0x2 Mv_5 (ll ++ [oo]))) (fun (u : (Nat → Int32) × (Nat → Int32)) => match u with | (oo0x1, oo0x2) => [(Ma_0, .inr (12, [.ref Ma_1, .int Mv_0, .int Mv_1, .ref Ma_2, .ref Ma_3, .ref Ma_4, .ref Ma_5, .ref Ma_6, .int Mv_2, .int Mv_3, .int Mv_4, .int Mv_5, .int Mv_6, .int Mv_7, .int Mv_8, .ref Ma_7, .int Mv_9, .ref Ma_8, .int Mv_10, .ref Ma_9, .ref Ma_10, .int Mv_11, .int Mv_12, .int Mv_13, .ref Ma_11, .int Mv_14, .ref Ma_12, .ref Ma_13, .ref Ma_14, .ref Ma_15, .ref Ma_16, .long Mj_0, .ref Ma_17, .ref Ma_18, .ref Ma_19, .ref Ma_20])), (Ma_2, .inl (tc 0, 2400, .inl oo0x1)), (Ma_3, .inl (tc 0, 7, .inl oo0x2))]) 0 0 :=
  ct_kX12_puts l D tc sk (fun k => ([Ma_0, Ma_1, Ma_2, Ma_3, Ma_4, Ma_5, Ma_6, Ma_7, Ma_8, Ma_9, Ma_10, Ma_11, Ma_12, Ma_13, Ma_14, Ma_15, Ma_16, Ma_17, Ma_18, Ma_19, Ma_20] : List (Nat)).getD k 0) (fun k => ([Mv_0, Mv_1, Mv_2, Mv_3, Mv_4, Mv_5, Mv_6, Mv_7, Mv_8, Mv_9, Mv_10, Mv_11, Mv_12, Mv_13, Mv_14] : List (Int32)).getD k 0) (fun k => ([(fun _ => 0), (fun _ => 0), Mf_2, Mf_3] : List (Nat → Int32)).getD k (fun _ => 0)) (fun k => ([Mj_0] : List (Int64)).getD k 0) x1 x2 pb pm pd pe ll oo h_cd h_st h_e h_L h_sg h_oo h_x1 h_x2 h_tx
set_option maxHeartbeats 4000000 in
set_option maxRecDepth 100000 in
theorem ct_kX12_value (l : Launch) (D : va_G) (tc : Nat → ClassId) (sk : (Nat → Nat) × (Nat → Nat)) (Ma : Nat → Nat) (Mv : Nat → Int32) (Mf : Nat → Nat → Int32) (Mj : Nat → Int64) (b : Int32) (d : Nat) (ll : List Int) (h_nx : 0 ≤ ((Mv 2) : Int32).toInt ∧ ((Mv 2) : Int32).toInt ≤ ((Mv 0) : Int32).toInt ∧ ((Mv 0) : Int32).toInt ≤ 400) (h_cd : Cd (Mf 2) (Mf 3) (Mv 5) b (Mv 6) d) (h_L : ((Mf 3) (Mv 5).toNatClampNeg).toInt ≤ ((Mv 2) : Int32).toInt) (h_md : 0 ≤ ((Mv 6) : Int32).toInt ∧ ((Mv 6) : Int32).toInt ≤ 60) (h_bs : ByS (Mf 1)) (h_w : ((Mv 3) : Int32).toInt = 0) (h_sg : SgC (Mf 2) (Mf 3) (Mv 5) ll) : Ct l yX12_value cX12_value 3 (some .boolean) { frames := 3, cells := 0, slots := 0, locals := 66 } D tc sk [.ref (Ma 0)] [((Ma 0), .inr (12, [.ref (Ma 1), .int (Mv 0), .int (Mv 1), .ref (Ma 2), .ref (Ma 3), .ref (Ma 4), .ref (Ma 5), .ref (Ma 6), .int (Mv 2), .int (Mv 3), .int (Mv 4), .int (Mv 5), .int (Mv 6), .int (Mv 7), .int (Mv 8), .ref (Ma 7), .int (Mv 9), .ref (Ma 8), .int (Mv 10), .ref (Ma 9), .ref (Ma 10), .int (Mv 11), .int (Mv 12), .int (Mv 13), .ref (Ma 11), .int (Mv 14), .ref (Ma 12), .ref (Ma 13), .ref (Ma 14), .ref (Ma 15), .ref (Ma 16), .long (Mj 0), .ref (Ma 17), .ref (Ma 18), .ref (Ma 19), .ref (Ma 20)])), ((Ma 1), .inl (tc 2, 400, .inl (Mf 1))), ((Ma 2), .inl (tc 0, 2400, .inl (Mf 2))), ((Ma 3), .inl (tc 0, 7, .inl (Mf 3)))] (fun (v : Option Value) (u : (Int32) × (Int32) × (Int32) × (Int32) × (Nat → Int32) × (Nat → Int32)) => match u with | (oo0x1, oo0x2, oo0x3, oo0x4, oo0x5, oo0x6) => ∃ r : Int32, v = some (.int r) ∧ (((r.toInt = 0 ∧ ¬ (oo0x2 : Int32).toInt = 0) ∨ (r.toInt = 1 ∧ ((Mf 3) (Mv 5).toNatClampNeg).toInt + 1 ≤ (oo0x6 (Mv 5).toNatClampNeg).toInt ∧ (oo0x6 (Mv 5).toNatClampNeg).toInt + ((Mv 2) : Int32).toInt ≤ ((Mf 3) (Mv 5).toNatClampNeg).toInt + (oo0x1 : Int32).toInt ∧ ((Mv 2) : Int32).toInt + 1 ≤ (oo0x1 : Int32).toInt))) ∧ (((Mv 2) : Int32).toInt ≤ (oo0x1 : Int32).toInt ∧ (oo0x1 : Int32).toInt ≤ ((Mv 0) : Int32).toInt) ∧ (((Mv 6) : Int32).toInt ≤ (oo0x4 : Int32).toInt ∧ (oo0x4 : Int32).toInt ≤ 60) ∧ (Agr (Mf 2) oo0x5 (400 * ((Mv 5) : Int32).toInt + ((Mf 3) (Mv 5).toNatClampNeg).toInt)) ∧ (r.toInt = 1 → (Cd oo0x5 oo0x6 (Mv 5) b oo0x4 (d + 1)) ∧ (RfO (pz_val (rB (Mf 1) (Mv 0)) (St0 (rB (Mf 1) (Mv 0)) (Mv 2) (Mv 6))) (rB (Mf 1) (Mv 0)) oo0x2 oo0x1 oo0x4) ∧ (SgC oo0x5 oo0x6 (Mv 5) (ll ++ lval (rB (Mf 1) (Mv 0)) (St0 (rB (Mf 1) (Mv 0)) (Mv 2) (Mv 6))))) ∧ (r.toInt = 0 → (RfE (pz_val (rB (Mf 1) (Mv 0)) (St0 (rB (Mf 1) (Mv 0)) (Mv 2) (Mv 6))) oo0x2))) (fun (u : (Int32) × (Int32) × (Int32) × (Int32) × (Nat → Int32) × (Nat → Int32)) => match u with | (oo0x1, oo0x2, oo0x3, oo0x4, oo0x5, oo0x6) => [((Ma 0), .inr (12, [.ref (Ma 1), .int (Mv 0), .int (Mv 1), .ref (Ma 2), .ref (Ma 3), .ref (Ma 4), .ref (Ma 5), .ref (Ma 6), .int oo0x1, .int oo0x2, .int oo0x3, .int (Mv 5), .int oo0x4, .int (Mv 7), .int (Mv 8), .ref (Ma 7), .int (Mv 9), .ref (Ma 8), .int (Mv 10), .ref (Ma 9), .ref (Ma 10), .int (Mv 11), .int (Mv 12), .int (Mv 13), .ref (Ma 11), .int (Mv 14), .ref (Ma 12), .ref (Ma 13), .ref (Ma 14), .ref (Ma 15), .ref (Ma 16), .long (Mj 0), .ref (Ma 17), .ref (Ma 18), .ref (Ma 19), .ref (Ma 20)])), ((Ma 1), .inl (tc 2, 400, .inl (Mf 1))), ((Ma 2), .inl (tc 0, 2400, .inl oo0x5)), ((Ma 3), .inl (tc 0, 7, .inl oo0x6))]) 0 0 := by
  refine Ct.start (by decide) (Nat.le_of_ble_eq_true rfl) (fun p e s m below meth c A ls hx hb hr hlk hin hml hown hts hK hX hP hD hA hl hS => ?_)
  have hl : lv_has ls 3 [(0, .ref (Ma 0))] := hl
  have ar_h_cd := Cd.ar h_cd
  refine lv_aload_n hx hb dX12_value_0 rfl (lv_at hl 0 rfl) ?_
  refine cV (a := (Ma 0)) (As := []) (rest := []) (wr := [((Ma 2), .inl (tc 0, 2400, .inl (Mf 2))), ((Ma 3), .inl (tc 0, 7, .inl (Mf 3)))]) ⟨hx, hb, hml, hown, hts⟩ hK hX hA (cu_fX12_see l D tc sk (Ma 0) (Ma 1) (Ma 2) (Ma 3) (Ma 4) (Ma 5) (Ma 6) (Ma 7) (Ma 8) (Ma 9) (Ma 10) (Ma 11) (Ma 12) (Ma 13) (Ma 14) (Ma 15) (Ma 16) (Ma 17) (Ma 18) (Ma 19) (Ma 20) (Mv 0) (Mv 1) (Mv 2) (Mv 3) (Mv 4) (Mv 5) (Mv 6) (Mv 7) (Mv 8) (Mv 9) (Mv 10) (Mv 11) (Mv 12) (Mv 13) (Mv 14) (Mf 1) (Mj 0) h_nx h_bs) k_1211 k_1208 k_1210 k_27 k_106 pl_X12_see ⟨Nat.le_of_ble_eq_true rfl, Nat.le_of_ble_eq_true rfl⟩ rfl rfl (va_recv hK hP (ci := 12) (q0 := 0) rfl rfl) hP hD hS [0, 1] [2, 3] rfl rfl rfl rfl rfl (by decide) rfl hl.1 rfl (Nat.le_of_ble_eq_true rfl) dX12_value_1 ⟨Nat.le_of_ble_eq_true rfl, Nat.le_of_ble_eq_true rfl⟩ (fun v_1 u_2 H locs hv_3 hP₀ hD₀ hS₀ => ?_)
  obtain ⟨sv_4, rfl⟩ : ∃ z, z = u_2 := ⟨_, rfl⟩
  obtain ⟨r_9, rfl, he_10, pf_5, pf_6, pf_7, pf_8⟩ := hv_3
  have he_10 : (r_9.toInt = rB (Mf 1) (Mv 0) (sv_4 : Int32).toInt.toNat ∧ (r_9.toInt = -1 ∨ (sv_4 : Int32).toInt < (Mv 0).toInt)) := he_10
  have pf_5 : ((Mv 2) : Int32).toInt ≤ (sv_4 : Int32).toInt ∧ (sv_4 : Int32).toInt ≤ ((Mv 0) : Int32).toInt := pf_5
  have pf_6 : NSq (Mf 1) (Mv 0) sv_4 := pf_6
  have pf_7 : Stl (Mf 1) (Mv 0) (Mv 2) sv_4 := pf_7
  have pf_8 : SkR (rB (Mf 1) (Mv 0)) (Mv 2) sv_4 := pf_8
  refine W.eq (g2 := F0 m 4 ls [.int r_9]) rfl ?_
  replace hP : va_P D classes [((Ma 2), .inl (tc 0, 2400, .inl (Mf 2))), ((Ma 3), .inl (tc 0, 7, .inl (Mf 3))), ((Ma 0), .inr (12, [.ref (Ma 1), .int (Mv 0), .int (Mv 1), .ref (Ma 2), .ref (Ma 3), .ref (Ma 4), .ref (Ma 5), .ref (Ma 6), .int sv_4, .int (Mv 3), .int (Mv 4), .int (Mv 5), .int (Mv 6), .int (Mv 7), .int (Mv 8), .ref (Ma 7), .int (Mv 9), .ref (Ma 8), .int (Mv 10), .ref (Ma 9), .ref (Ma 10), .int (Mv 11), .int (Mv 12), .int (Mv 13), .ref (Ma 11), .int (Mv 14), .ref (Ma 12), .ref (Ma 13), .ref (Ma 14), .ref (Ma 15), .ref (Ma 16), .long (Mj 0), .ref (Ma 17), .ref (Ma 18), .ref (Ma 19), .ref (Ma 20)])), ((Ma 1), .inl (tc 2, 400, .inl (Mf 1)))] H := hP₀
  replace hD : va_D A [((Ma 2), .inl (tc 0, 2400, .inl (Mf 2))), ((Ma 3), .inl (tc 0, 7, .inl (Mf 3))), ((Ma 0), .inr (12, [.ref (Ma 1), .int (Mv 0), .int (Mv 1), .ref (Ma 2), .ref (Ma 3), .ref (Ma 4), .ref (Ma 5), .ref (Ma 6), .int sv_4, .int (Mv 3), .int (Mv 4), .int (Mv 5), .int (Mv 6), .int (Mv 7), .int (Mv 8), .ref (Ma 7), .int (Mv 9), .ref (Ma 8), .int (Mv 10), .ref (Ma 9), .ref (Ma 10), .int (Mv 11), .int (Mv 12), .int (Mv 13), .ref (Ma 11), .int (Mv 14), .ref (Ma 12), .ref (Ma 13), .ref (Ma 14), .ref (Ma 15), .ref (Ma 16), .long (Mj 0), .ref (Ma 17), .ref (Ma 18), .ref (Ma 19), .ref (Ma 20)])), ((Ma 1), .inl (tc 2, 400, .inl (Mf 1)))] := hD₀
  replace hS := hS₀
  clear hP₀ hD₀ hS₀
  refine lv_pop hx hb dX12_value_4 rfl ?_
  refine lv_aload_n hx hb dX12_value_5 rfl (lv_at hl 0 rfl) ?_
  refine gf_X12_87 hx hb hts hown hK hP 2 rfl rfl dX12_value_6 ?_
  refine lv_istore_n (lv' := [(1, .int sv_4), (0, .ref (Ma 0))]) hx hb dX12_value_9 rfl hl (by decide) rfl (fun ls hl₀ => ?_)
  replace hl := hl₀
  clear hl₀
  refine lv_aload_n hx hb dX12_value_10 rfl (lv_at hl 1 rfl) ?_
  refine lv_aload_n hx hb dX12_value_11 rfl (lv_at hl 1 rfl) ?_
  refine gf_X12_87 hx hb hts hown hK hP 2 rfl rfl dX12_value_12 ?_
  have ha_12 : 0 ≤ sv_4.toInt := by
    omega
  have ha_13 : (Mv 0).toInt ≤ 400 := by
    omega
  refine cV (a := (Ma 0)) (As := [.int sv_4]) (rest := []) (wr := [((Ma 2), .inl (tc 0, 2400, .inl (Mf 2))), ((Ma 3), .inl (tc 0, 7, .inl (Mf 3)))]) ⟨hx, hb, hml, hown, hts⟩ hK hX hA (cu_X12_isDigit l D tc sk (Ma 0) (Ma 1) (Ma 2) (Ma 3) (Ma 4) (Ma 5) (Ma 6) (Ma 7) (Ma 8) (Ma 9) (Ma 10) (Ma 11) (Ma 12) (Ma 13) (Ma 14) (Ma 15) (Ma 16) (Ma 17) (Ma 18) (Ma 19) (Ma 20) (Mv 0) (Mv 1) sv_4 (Mv 3) (Mv 4) (Mv 5) (Mv 6) (Mv 7) (Mv 8) (Mv 9) (Mv 10) (Mv 11) (Mv 12) (Mv 13) (Mv 14) (Mf 1) (Mj 0) sv_4 ha_12 ha_13) k_1256 k_1253 k_1255 k_37 k_106 pl_X12_isDigit ⟨Nat.le_of_ble_eq_true rfl, Nat.le_of_ble_eq_true rfl⟩ rfl rfl (va_recv hK hP (ci := 12) (q0 := 2) rfl rfl) hP hD hS [2, 3] [0, 1] rfl rfl rfl rfl rfl (by decide) rfl hl.1 rfl (Nat.le_of_ble_eq_true rfl) dX12_value_15 ⟨Nat.le_of_ble_eq_true rfl, Nat.le_of_ble_eq_true rfl⟩ (fun v_14 u_15 H locs hv_16 hP₀ hD₀ hS₀ => ?_)
  obtain ⟨r_17, rfl, he_18, hm_20, hm_21⟩ := hv_16
  have he_18 : (r_17.toInt = 0 ∨ r_17.toInt = 1) := he_18
  refine W.eq (g2 := F0 m 18 ls [.int r_17]) rfl ?_
  replace hP : va_P D classes [((Ma 2), .inl (tc 0, 2400, .inl (Mf 2))), ((Ma 3), .inl (tc 0, 7, .inl (Mf 3))), ((Ma 0), .inr (12, [.ref (Ma 1), .int (Mv 0), .int (Mv 1), .ref (Ma 2), .ref (Ma 3), .ref (Ma 4), .ref (Ma 5), .ref (Ma 6), .int sv_4, .int (Mv 3), .int (Mv 4), .int (Mv 5), .int (Mv 6), .int (Mv 7), .int (Mv 8), .ref (Ma 7), .int (Mv 9), .ref (Ma 8), .int (Mv 10), .ref (Ma 9), .ref (Ma 10), .int (Mv 11), .int (Mv 12), .int (Mv 13), .ref (Ma 11), .int (Mv 14), .ref (Ma 12), .ref (Ma 13), .ref (Ma 14), .ref (Ma 15), .ref (Ma 16), .long (Mj 0), .ref (Ma 17), .ref (Ma 18), .ref (Ma 19), .ref (Ma 20)])), ((Ma 1), .inl (tc 2, 400, .inl (Mf 1)))] H := hP₀
  replace hD : va_D A [((Ma 2), .inl (tc 0, 2400, .inl (Mf 2))), ((Ma 3), .inl (tc 0, 7, .inl (Mf 3))), ((Ma 0), .inr (12, [.ref (Ma 1), .int (Mv 0), .int (Mv 1), .ref (Ma 2), .ref (Ma 3), .ref (Ma 4), .ref (Ma 5), .ref (Ma 6), .int sv_4, .int (Mv 3), .int (Mv 4), .int (Mv 5), .int (Mv 6), .int (Mv 7), .int (Mv 8), .ref (Ma 7), .int (Mv 9), .ref (Ma 8), .int (Mv 10), .ref (Ma 9), .ref (Ma 10), .int (Mv 11), .int (Mv 12), .int (Mv 13), .ref (Ma 11), .int (Mv 14), .ref (Ma 12), .ref (Ma 13), .ref (Ma 14), .ref (Ma 15), .ref (Ma 16), .long (Mj 0), .ref (Ma 17), .ref (Ma 18), .ref (Ma 19), .ref (Ma 20)])), ((Ma 1), .inl (tc 2, 400, .inl (Mf 1)))] := hD₀
  replace hS := hS₀
  clear hP₀ hD₀ hS₀
  refine lv_if_eq (tgt := 52) hx hb dX12_value_18 (by decide) (fun c_22 => ?_) (fun c_22 => ?_)
  · skip
    have hz_24 : (r_17 : Int32).toInt = 0 := by
      have z_1 := congrArg Int32.toInt c_22
      have y_0 : (0 : Int32).toInt = 0 := by decide
      omega
    obtain pf_23 := hm_21 hz_24
    have pf_23 : NDgt (Mf 1) (Mv 0) sv_4 := pf_23
    have at_pf_23 : ¬ ((sv_4 : Int32).toInt < (Mv 0).toInt ∧ 48 ≤ ((Mf 1) (sv_4 : Int32).toInt.toNat).toInt ∧ ((Mf 1) (sv_4 : Int32).toInt.toNat).toInt ≤ 57) := pf_23
    refine lv_aload_n hx hb dX12_value_52 rfl (lv_at hl 1 rfl) ?_
    have ha_25 : 0 ≤ (sv_4 : Int32).toInt ∧ (sv_4 : Int32).toInt ≤ ((Mv 0) : Int32).toInt ∧ ((Mv 0) : Int32).toInt ≤ 400 := by
      have z_1 := congrArg Int32.toInt c_22
      have y_0 : (0 : Int32).toInt = 0 := by decide
      omega
    refine cV (a := (Ma 0)) (As := []) (rest := []) (wr := [((Ma 2), .inl (tc 0, 2400, .inl (Mf 2))), ((Ma 3), .inl (tc 0, 7, .inl (Mf 3)))]) ⟨hx, hb, hml, hown, hts⟩ hK hX hA (cu_fX12_wordHere l D tc sk (Ma 0) (Ma 1) (Ma 2) (Ma 3) (Ma 4) (Ma 5) (Ma 6) (Ma 7) (Ma 8) (Ma 9) (Ma 10) (Ma 11) (Ma 12) (Ma 13) (Ma 14) (Ma 15) (Ma 16) (Ma 17) (Ma 18) (Ma 19) (Ma 20) (Mv 0) (Mv 1) sv_4 (Mv 3) (Mv 4) (Mv 5) (Mv 6) (Mv 7) (Mv 8) (Mv 9) (Mv 10) (Mv 11) (Mv 12) (Mv 13) (Mv 14) (Mf 1) (Mj 0) ha_25 h_bs) k_1300 k_1297 k_1299 k_47 k_106 pl_X12_wordHere ⟨Nat.le_of_ble_eq_true rfl, Nat.le_of_ble_eq_true rfl⟩ rfl rfl (va_recv hK hP (ci := 12) (q0 := 2) rfl rfl) hP hD hS [2, 3] [0, 1] rfl rfl rfl rfl rfl (by decide) rfl hl.1 rfl (Nat.le_of_ble_eq_true rfl) dX12_value_53 ⟨Nat.le_of_ble_eq_true rfl, Nat.le_of_ble_eq_true rfl⟩ (fun v_26 u_27 H locs hv_28 hP₀ hD₀ hS₀ => ?_)
    obtain ⟨sv_29, rfl⟩ : ∃ z, z = u_27 := ⟨_, rfl⟩
    obtain ⟨r_32, rfl, he_33, pf_30, pf_31, hm_35⟩ := hv_28
    have he_33 : (r_32.toInt = pz_wa (rB (Mf 1) (Mv 0)) (pz_sk (rB (Mf 1) (Mv 0)) sv_4.toInt.toNat) pz_words 0 ∧ (r_32.toInt = -1 ∨ (0 ≤ r_32.toInt ∧ r_32.toInt ≤ 12))) := he_33
    have pf_30 : (sv_4 : Int32).toInt ≤ (sv_29 : Int32).toInt ∧ (sv_29 : Int32).toInt ≤ ((Mv 0) : Int32).toInt := pf_30
    have pf_31 : SkR (rB (Mf 1) (Mv 0)) sv_4 sv_29 := pf_31
    refine W.eq (g2 := F0 m 56 ls [.int r_32]) rfl ?_
    replace hP : va_P D classes [((Ma 2), .inl (tc 0, 2400, .inl (Mf 2))), ((Ma 3), .inl (tc 0, 7, .inl (Mf 3))), ((Ma 0), .inr (12, [.ref (Ma 1), .int (Mv 0), .int (Mv 1), .ref (Ma 2), .ref (Ma 3), .ref (Ma 4), .ref (Ma 5), .ref (Ma 6), .int sv_29, .int (Mv 3), .int (Mv 4), .int (Mv 5), .int (Mv 6), .int (Mv 7), .int (Mv 8), .ref (Ma 7), .int (Mv 9), .ref (Ma 8), .int (Mv 10), .ref (Ma 9), .ref (Ma 10), .int (Mv 11), .int (Mv 12), .int (Mv 13), .ref (Ma 11), .int (Mv 14), .ref (Ma 12), .ref (Ma 13), .ref (Ma 14), .ref (Ma 15), .ref (Ma 16), .long (Mj 0), .ref (Ma 17), .ref (Ma 18), .ref (Ma 19), .ref (Ma 20)])), ((Ma 1), .inl (tc 2, 400, .inl (Mf 1)))] H := hP₀
    replace hD : va_D A [((Ma 2), .inl (tc 0, 2400, .inl (Mf 2))), ((Ma 3), .inl (tc 0, 7, .inl (Mf 3))), ((Ma 0), .inr (12, [.ref (Ma 1), .int (Mv 0), .int (Mv 1), .ref (Ma 2), .ref (Ma 3), .ref (Ma 4), .ref (Ma 5), .ref (Ma 6), .int sv_29, .int (Mv 3), .int (Mv 4), .int (Mv 5), .int (Mv 6), .int (Mv 7), .int (Mv 8), .ref (Ma 7), .int (Mv 9), .ref (Ma 8), .int (Mv 10), .ref (Ma 9), .ref (Ma 10), .int (Mv 11), .int (Mv 12), .int (Mv 13), .ref (Ma 11), .int (Mv 14), .ref (Ma 12), .ref (Ma 13), .ref (Ma 14), .ref (Ma 15), .ref (Ma 16), .long (Mj 0), .ref (Ma 17), .ref (Ma 18), .ref (Ma 19), .ref (Ma 20)])), ((Ma 1), .inl (tc 2, 400, .inl (Mf 1)))] := hD₀
    replace hS := hS₀
    clear hP₀ hD₀ hS₀
    have hE_36 := SkR.eqB pf_8 pf_31
    refine lv_istore_n (lv' := [(2, .int r_32), (1, .int sv_4), (0, .ref (Ma 0))]) hx hb dX12_value_56 rfl hl (by decide) rfl (fun ls hl₀ => ?_)
    replace hl := hl₀
    clear hl₀
    refine lv_iload_n hx hb dX12_value_57 rfl (lv_at hl 0 rfl) ?_
    refine lv_if_ge (tgt := 68) hx hb dX12_value_58 (by decide) (fun c_37 => ?_) (fun c_37 => ?_)
    · skip
      have hz_39 : 0 ≤ (r_32 : Int32).toInt := by
        have z_1 := congrArg Int32.toInt c_22
        have z_2 := Int32.le_iff_toInt_le.mp c_37
        have y_0 : (0 : Int32).toInt = 0 := by decide
        omega
      obtain pf_38 := hm_35 hz_39
      have pf_38 : Ltr (Mf 1) (Mv 0) sv_29 := pf_38
      have ar_pf_38 := pf_38.1
      have at_pf_38 : 97 ≤ ((Mf 1) (sv_29 : Int32).toInt.toNat).toInt ∧ ((Mf 1) (sv_29 : Int32).toInt.toNat).toInt ≤ 122 := pf_38.2
      refine lv_aload_n hx hb dX12_value_68 rfl (lv_at hl 2 rfl) ?_
      refine lv_iload_n hx hb dX12_value_69 rfl (lv_at hl 1 rfl) ?_
      have ha_40 : 0 ≤ sv_4.toInt ∧ sv_4.toInt ≤ 400 := by
        have z_1 := congrArg Int32.toInt c_22
        have z_2 := Int32.le_iff_toInt_le.mp c_37
        have y_0 : (0 : Int32).toInt = 0 := by decide
        omega
      refine cV (a := (Ma 0)) (As := [.int sv_4]) (rest := []) (wr := [((Ma 2), .inl (tc 0, 2400, .inl (Mf 2))), ((Ma 3), .inl (tc 0, 7, .inl (Mf 3))), ((Ma 1), .inl (tc 2, 400, .inl (Mf 1)))]) ⟨hx, hb, hml, hown, hts⟩ hK hX hA (cu_fX12_makes l D tc sk (Ma 0) (Ma 1) (Ma 2) (Ma 3) (Ma 4) (Ma 5) (Ma 6) (Ma 7) (Ma 8) (Ma 9) (Ma 10) (Ma 11) (Ma 12) (Ma 13) (Ma 14) (Ma 15) (Ma 16) (Ma 17) (Ma 18) (Ma 19) (Ma 20) (Mv 0) (Mv 1) sv_29 (Mv 3) (Mv 4) (Mv 5) (Mv 6) (Mv 7) (Mv 8) (Mv 9) (Mv 10) (Mv 11) (Mv 12) (Mv 13) (Mv 14) (Mj 0) sv_4 ha_40 h_md h_w) k_1292 k_1289 k_1291 k_45 k_106 pl_X12_makes ⟨Nat.le_of_ble_eq_true rfl, Nat.le_of_ble_eq_true rfl⟩ rfl rfl (va_recv hK hP (ci := 12) (q0 := 2) rfl rfl) hP hD hS [2] [0, 1, 3] rfl rfl rfl rfl rfl (by decide) rfl hl.1 rfl (Nat.le_of_ble_eq_true rfl) dX12_value_70 ⟨Nat.le_of_ble_eq_true rfl, Nat.le_of_ble_eq_true rfl⟩ (fun v_41 u_42 H locs hv_43 hP₀ hD₀ hS₀ => ?_)
      obtain ⟨sv_44, sv_45⟩ := u_42
      obtain ⟨r_47, rfl, he_48, pf_46⟩ := hv_43
      have he_48 : ((r_47.toInt = 0 ∧ ¬ (sv_44 : Int32).toInt = 0 ∧ (Mv 6).toInt = 60 ∧ (sv_44 : Int32).toInt = 1 + 8 * sv_4.toInt + 3) ∨ (r_47.toInt = 1 ∧ (sv_45 : Int32).toInt = (Mv 6).toInt + 1 ∧ (Mv 6).toInt < 60 ∧ (sv_44 : Int32).toInt = 0)) := he_48
      have pf_46 : ((Mv 6) : Int32).toInt ≤ (sv_45 : Int32).toInt ∧ (sv_45 : Int32).toInt ≤ 60 := pf_46
      refine W.eq (g2 := F0 m 73 ls [.int r_47]) rfl ?_
      replace hP : va_P D classes [((Ma 2), .inl (tc 0, 2400, .inl (Mf 2))), ((Ma 3), .inl (tc 0, 7, .inl (Mf 3))), ((Ma 1), .inl (tc 2, 400, .inl (Mf 1))), ((Ma 0), .inr (12, [.ref (Ma 1), .int (Mv 0), .int (Mv 1), .ref (Ma 2), .ref (Ma 3), .ref (Ma 4), .ref (Ma 5), .ref (Ma 6), .int sv_29, .int sv_44, .int (Mv 4), .int (Mv 5), .int sv_45, .int (Mv 7), .int (Mv 8), .ref (Ma 7), .int (Mv 9), .ref (Ma 8), .int (Mv 10), .ref (Ma 9), .ref (Ma 10), .int (Mv 11), .int (Mv 12), .int (Mv 13), .ref (Ma 11), .int (Mv 14), .ref (Ma 12), .ref (Ma 13), .ref (Ma 14), .ref (Ma 15), .ref (Ma 16), .long (Mj 0), .ref (Ma 17), .ref (Ma 18), .ref (Ma 19), .ref (Ma 20)]))] H := hP₀
      replace hD : va_D A [((Ma 2), .inl (tc 0, 2400, .inl (Mf 2))), ((Ma 3), .inl (tc 0, 7, .inl (Mf 3))), ((Ma 1), .inl (tc 2, 400, .inl (Mf 1))), ((Ma 0), .inr (12, [.ref (Ma 1), .int (Mv 0), .int (Mv 1), .ref (Ma 2), .ref (Ma 3), .ref (Ma 4), .ref (Ma 5), .ref (Ma 6), .int sv_29, .int sv_44, .int (Mv 4), .int (Mv 5), .int sv_45, .int (Mv 7), .int (Mv 8), .ref (Ma 7), .int (Mv 9), .ref (Ma 8), .int (Mv 10), .ref (Ma 9), .ref (Ma 10), .int (Mv 11), .int (Mv 12), .int (Mv 13), .ref (Ma 11), .int (Mv 14), .ref (Ma 12), .ref (Ma 13), .ref (Ma 14), .ref (Ma 15), .ref (Ma 16), .long (Mj 0), .ref (Ma 17), .ref (Ma 18), .ref (Ma 19), .ref (Ma 20)]))] := hD₀
      replace hS := hS₀
      clear hP₀ hD₀ hS₀
      have hr_51 : ((Mv 6) : Int32).toInt ≤ (sv_45 : Int32).toInt ∧ (sv_45 : Int32).toInt ≤ 60 := by
        have z_1 := congrArg Int32.toInt c_22
        have z_2 := Int32.le_iff_toInt_le.mp c_37
        have y_0 : (0 : Int32).toInt = 0 := by decide
        omega
      have pf_50 : Cd (Mf 2) (Mf 3) (Mv 5) b sv_45 d := Cd.mono h_cd hr_51
      have ar_pf_50 := Cd.ar pf_50
      refine lv_if_ne (tgt := 78) hx hb dX12_value_73 (by decide) (fun c_52 => ?_) (fun c_52 => ?_)
      · skip
        refine lv_aload_n hx hb dX12_value_78 rfl (lv_at hl 2 rfl) ?_
        have ha_53 : 0 ≤ (sv_29 : Int32).toInt ∧ (sv_29 : Int32).toInt ≤ ((Mv 0) : Int32).toInt ∧ ((Mv 0) : Int32).toInt ≤ 400 := by
          have z_1 := congrArg Int32.toInt c_22
          have z_2 := Int32.le_iff_toInt_le.mp c_37
          have z_3 : ¬ (r_47 : Int32).toInt = (0 : Int32).toInt := fun z => c_52 (Int32.toInt_inj.mp z)
          have y_0 : (0 : Int32).toInt = 0 := by decide
          omega
        refine cV (a := (Ma 0)) (As := []) (rest := []) (wr := [((Ma 2), .inl (tc 0, 2400, .inl (Mf 2))), ((Ma 3), .inl (tc 0, 7, .inl (Mf 3)))]) ⟨hx, hb, hml, hown, hts⟩ hK hX hA (cu_fX12_passWord l D tc sk (Ma 0) (Ma 1) (Ma 2) (Ma 3) (Ma 4) (Ma 5) (Ma 6) (Ma 7) (Ma 8) (Ma 9) (Ma 10) (Ma 11) (Ma 12) (Ma 13) (Ma 14) (Ma 15) (Ma 16) (Ma 17) (Ma 18) (Ma 19) (Ma 20) (Mv 0) (Mv 1) sv_29 sv_44 (Mv 4) (Mv 5) sv_45 (Mv 7) (Mv 8) (Mv 9) (Mv 10) (Mv 11) (Mv 12) (Mv 13) (Mv 14) (Mf 1) (Mj 0) ha_53 h_bs) k_1244 k_1241 k_1243 k_34 k_106 pl_X12_passWord ⟨Nat.le_of_ble_eq_true rfl, Nat.le_of_ble_eq_true rfl⟩ rfl rfl (va_recv hK hP (ci := 12) (q0 := 3) rfl rfl) hP hD hS [3, 2] [0, 1] rfl rfl rfl rfl rfl (by decide) rfl hl.1 rfl (Nat.le_of_ble_eq_true rfl) dX12_value_79 ⟨Nat.le_of_ble_eq_true rfl, Nat.le_of_ble_eq_true rfl⟩ (fun v_54 u_55 H locs hv_56 hP₀ hD₀ hS₀ => ?_)
        obtain ⟨sv_57, rfl⟩ : ∃ z, z = u_55 := ⟨_, rfl⟩
        obtain ⟨rfl, pf_58, pf_59, pf_60⟩ := hv_56
        have pf_58 : (sv_29 : Int32).toInt ≤ (sv_57 : Int32).toInt ∧ (sv_57 : Int32).toInt ≤ ((Mv 0) : Int32).toInt := pf_58
        have pf_59 : Pw (Mf 1) (Mv 0) sv_29 sv_57 := pf_59
        have ar_pf_59 := pf_59 pf_38
        have pf_60 : PsR (rB (Mf 1) (Mv 0)) sv_29 sv_57 := pf_60
        refine W.eq (g2 := F0 m 82 ls []) rfl ?_
        replace hP : va_P D classes [((Ma 2), .inl (tc 0, 2400, .inl (Mf 2))), ((Ma 3), .inl (tc 0, 7, .inl (Mf 3))), ((Ma 0), .inr (12, [.ref (Ma 1), .int (Mv 0), .int (Mv 1), .ref (Ma 2), .ref (Ma 3), .ref (Ma 4), .ref (Ma 5), .ref (Ma 6), .int sv_57, .int sv_44, .int (Mv 4), .int (Mv 5), .int sv_45, .int (Mv 7), .int (Mv 8), .ref (Ma 7), .int (Mv 9), .ref (Ma 8), .int (Mv 10), .ref (Ma 9), .ref (Ma 10), .int (Mv 11), .int (Mv 12), .int (Mv 13), .ref (Ma 11), .int (Mv 14), .ref (Ma 12), .ref (Ma 13), .ref (Ma 14), .ref (Ma 15), .ref (Ma 16), .long (Mj 0), .ref (Ma 17), .ref (Ma 18), .ref (Ma 19), .ref (Ma 20)])), ((Ma 1), .inl (tc 2, 400, .inl (Mf 1)))] H := hP₀
        replace hD : va_D A [((Ma 2), .inl (tc 0, 2400, .inl (Mf 2))), ((Ma 3), .inl (tc 0, 7, .inl (Mf 3))), ((Ma 0), .inr (12, [.ref (Ma 1), .int (Mv 0), .int (Mv 1), .ref (Ma 2), .ref (Ma 3), .ref (Ma 4), .ref (Ma 5), .ref (Ma 6), .int sv_57, .int sv_44, .int (Mv 4), .int (Mv 5), .int sv_45, .int (Mv 7), .int (Mv 8), .ref (Ma 7), .int (Mv 9), .ref (Ma 8), .int (Mv 10), .ref (Ma 9), .ref (Ma 10), .int (Mv 11), .int (Mv 12), .int (Mv 13), .ref (Ma 11), .int (Mv 14), .ref (Ma 12), .ref (Ma 13), .ref (Ma 14), .ref (Ma 15), .ref (Ma 16), .long (Mj 0), .ref (Ma 17), .ref (Ma 18), .ref (Ma 19), .ref (Ma 20)])), ((Ma 1), .inl (tc 2, 400, .inl (Mf 1)))] := hD₀
        replace hS := hS₀
        clear hP₀ hD₀ hS₀
        refine lv_aload_n hx hb dX12_value_82 rfl (lv_at hl 2 rfl) ?_
        refine lv_iconst (v := 1) hx hb dX12_value_83 (by decide) ?_
        refine lv_iload_n hx hb dX12_value_84 rfl (lv_at hl 0 rfl) ?_
        have hr_61 : (d : Int) < 60 := by
          have z_1 := congrArg Int32.toInt c_22
          have z_2 := Int32.le_iff_toInt_le.mp c_37
          have z_3 : ¬ (r_47 : Int32).toInt = (0 : Int32).toInt := fun z => c_52 (Int32.toInt_inj.mp z)
          have y_0 : (0 : Int32).toInt = 0 := by decide
          omega
        have hr_62 : 0 ≤ (r_32 : Int32).toInt ∧ (r_32 : Int32).toInt ≤ 12 := by
          have z_1 := congrArg Int32.toInt c_22
          have z_2 := Int32.le_iff_toInt_le.mp c_37
          have z_3 : ¬ (r_47 : Int32).toInt = (0 : Int32).toInt := fun z => c_52 (Int32.toInt_inj.mp z)
          have y_0 : (0 : Int32).toInt = 0 := by decide
          omega
        have ha_63 : ((d + 1) : Int) ≤ sv_45.toInt := by
          have z_1 := congrArg Int32.toInt c_22
          have z_2 := Int32.le_iff_toInt_le.mp c_37
          have z_3 : ¬ (r_47 : Int32).toInt = (0 : Int32).toInt := fun z => c_52 (Int32.toInt_inj.mp z)
          have y_0 : (0 : Int32).toInt = 0 := by decide
          omega
        have ha_64 : ((Mf 3) (Mv 5).toNatClampNeg).toInt < 400 := by
          have z_1 := congrArg Int32.toInt c_22
          have z_2 := Int32.le_iff_toInt_le.mp c_37
          have z_3 : ¬ (r_47 : Int32).toInt = (0 : Int32).toInt := fun z => c_52 (Int32.toInt_inj.mp z)
          have y_0 : (0 : Int32).toInt = 0 := by decide
          omega
        have rg_66 := rB_rg (n := (Mv 0)) h_bs (sv_4 : Int32).toInt.toNat
        have hn_67 : ¬ (48 ≤ rB (Mf 1) (Mv 0) (sv_4 : Int32).toInt.toNat ∧ rB (Mf 1) (Mv 0) (sv_4 : Int32).toInt.toNat ≤ 57) := by
          have z_1 := congrArg Int32.toInt c_22
          have z_2 := Int32.le_iff_toInt_le.mp c_37
          have z_3 : ¬ (r_47 : Int32).toInt = (0 : Int32).toInt := fun z => c_52 (Int32.toInt_inj.mp z)
          have y_0 : (0 : Int32).toInt = 0 := by decide
          omega
        have hr_68 : 0 ≤ (r_32 : Int32).toInt := by
          have z_1 := congrArg Int32.toInt c_22
          have z_2 := Int32.le_iff_toInt_le.mp c_37
          have z_3 : ¬ (r_47 : Int32).toInt = (0 : Int32).toInt := fun z => c_52 (Int32.toInt_inj.mp z)
          have y_0 : (0 : Int32).toInt = 0 := by decide
          omega
        have ho_65 : (1 : Int32).toInt + 16 * (r_32 : Int32).toInt = rE (ec_v (rB (Mf 1) (Mv 0)) (St0 (rB (Mf 1) (Mv 0)) (Mv 2) (Mv 6)).1) := by
          have hq := he_33.1
          rw [(pf_8).2.1] at hq
          have hv : ec_v (rB (Mf 1) (Mv 0)) (St0 (rB (Mf 1) (Mv 0)) (Mv 2) (Mv 6)).1 = 100000 + (r_32 : Int32).toInt := by
            show ec_v (rB (Mf 1) (Mv 0)) (pz_sk (rB (Mf 1) (Mv 0)) (Mv 2).toInt.toNat) = _
            rw [SkR.nat pf_8, ec_v_word hn_67, hq]
          rw [hv, rE_word hr_68, show (1 : Int32).toInt = 1 by decide]
        have ha_69 : 0 ≤ (1 : Int32).toInt ∧ (1 : Int32).toInt ≤ 15 := by
          have z_1 := congrArg Int32.toInt c_22
          have z_2 := Int32.le_iff_toInt_le.mp c_37
          have z_3 : ¬ (r_47 : Int32).toInt = (0 : Int32).toInt := fun z => c_52 (Int32.toInt_inj.mp z)
          have y_0 : (0 : Int32).toInt = 0 := by decide
          have y_1 : (1 : Int32).toInt = 1 := by decide
          omega
        have ha_70 : 0 ≤ r_32.toInt ∧ r_32.toInt ≤ 100000 := by
          have z_1 := congrArg Int32.toInt c_22
          have z_2 := Int32.le_iff_toInt_le.mp c_37
          have z_3 : ¬ (r_47 : Int32).toInt = (0 : Int32).toInt := fun z => c_52 (Int32.toInt_inj.mp z)
          have y_0 : (0 : Int32).toInt = 0 := by decide
          omega
        have ha_71 : 0 ≤ (Mv 5).toInt := by
          have z_1 := congrArg Int32.toInt c_22
          have z_2 := Int32.le_iff_toInt_le.mp c_37
          have z_3 : ¬ (r_47 : Int32).toInt = (0 : Int32).toInt := fun z => c_52 (Int32.toInt_inj.mp z)
          have y_0 : (0 : Int32).toInt = 0 := by decide
          omega
        refine cV (a := (Ma 0)) (As := [.int 1, .int r_32]) (rest := []) (wr := [((Ma 1), .inl (tc 2, 400, .inl (Mf 1)))]) ⟨hx, hb, hml, hown, hts⟩ hK hX hA (cu_kX12_puts l D tc sk (Ma 0) (Ma 1) (Ma 2) (Ma 3) (Ma 4) (Ma 5) (Ma 6) (Ma 7) (Ma 8) (Ma 9) (Ma 10) (Ma 11) (Ma 12) (Ma 13) (Ma 14) (Ma 15) (Ma 16) (Ma 17) (Ma 18) (Ma 19) (Ma 20) (Mv 0) (Mv 1) sv_57 sv_44 (Mv 4) (Mv 5) sv_45 (Mv 7) (Mv 8) (Mv 9) (Mv 10) (Mv 11) (Mv 12) (Mv 13) (Mv 14) (Mf 2) (Mf 3) (Mj 0) 1 r_32 b sv_45 d (d + 1) ll (ec_v (rB (Mf 1) (Mv 0)) (St0 (rB (Mf 1) (Mv 0)) (Mv 2) (Mv 6)).1) pf_50 (StpR.word hr_61 hr_62) ha_63 ha_64 h_sg ho_65 ha_69 ha_70 ha_71) k_1296 k_1293 k_1295 k_46 k_106 pl_X12_puts ⟨Nat.le_of_ble_eq_true rfl, Nat.le_of_ble_eq_true rfl⟩ rfl rfl (va_recv hK hP (ci := 12) (q0 := 2) rfl rfl) hP hD hS [2, 0, 1] [3] rfl rfl rfl rfl rfl (by decide) rfl hl.1 rfl (Nat.le_of_ble_eq_true rfl) dX12_value_85 ⟨Nat.le_of_ble_eq_true rfl, Nat.le_of_ble_eq_true rfl⟩ (fun v_72 u_73 H locs hv_74 hP₀ hD₀ hS₀ => ?_)
        obtain ⟨sv_75, sv_76⟩ := u_73
        obtain ⟨rfl, pf_77, pf_78, pf_79, pf_80⟩ := hv_74
        have pf_77 : Cd sv_75 sv_76 (Mv 5) b sv_45 (d + 1) := pf_77
        have ar_pf_77 := Cd.ar pf_77
        have pf_78 : Agr (Mf 2) sv_75 (400 * ((Mv 5) : Int32).toInt + ((Mf 3) (Mv 5).toNatClampNeg).toInt) := pf_78
        have pf_79 : (sv_76 (Mv 5).toNatClampNeg).toInt = ((Mf 3) (Mv 5).toNatClampNeg).toInt + 1 := pf_79
        have pf_80 : SgC sv_75 sv_76 (Mv 5) (ll ++ [(ec_v (rB (Mf 1) (Mv 0)) (St0 (rB (Mf 1) (Mv 0)) (Mv 2) (Mv 6)).1)]) := pf_80
        obtain ⟨lo_81, elo_81⟩ : ∃ z : List Int, z = (ll ++ [(ec_v (rB (Mf 1) (Mv 0)) (St0 (rB (Mf 1) (Mv 0)) (Mv 2) (Mv 6)).1)]) := ⟨_, rfl⟩
        rw [← elo_81] at pf_80
        refine W.eq (g2 := F0 m 88 ls []) rfl ?_
        replace hP : va_P D classes [((Ma 1), .inl (tc 2, 400, .inl (Mf 1))), ((Ma 0), .inr (12, [.ref (Ma 1), .int (Mv 0), .int (Mv 1), .ref (Ma 2), .ref (Ma 3), .ref (Ma 4), .ref (Ma 5), .ref (Ma 6), .int sv_57, .int sv_44, .int (Mv 4), .int (Mv 5), .int sv_45, .int (Mv 7), .int (Mv 8), .ref (Ma 7), .int (Mv 9), .ref (Ma 8), .int (Mv 10), .ref (Ma 9), .ref (Ma 10), .int (Mv 11), .int (Mv 12), .int (Mv 13), .ref (Ma 11), .int (Mv 14), .ref (Ma 12), .ref (Ma 13), .ref (Ma 14), .ref (Ma 15), .ref (Ma 16), .long (Mj 0), .ref (Ma 17), .ref (Ma 18), .ref (Ma 19), .ref (Ma 20)])), ((Ma 2), .inl (tc 0, 2400, .inl sv_75)), ((Ma 3), .inl (tc 0, 7, .inl sv_76))] H := hP₀
        replace hD : va_D A [((Ma 1), .inl (tc 2, 400, .inl (Mf 1))), ((Ma 0), .inr (12, [.ref (Ma 1), .int (Mv 0), .int (Mv 1), .ref (Ma 2), .ref (Ma 3), .ref (Ma 4), .ref (Ma 5), .ref (Ma 6), .int sv_57, .int sv_44, .int (Mv 4), .int (Mv 5), .int sv_45, .int (Mv 7), .int (Mv 8), .ref (Ma 7), .int (Mv 9), .ref (Ma 8), .int (Mv 10), .ref (Ma 9), .ref (Ma 10), .int (Mv 11), .int (Mv 12), .int (Mv 13), .ref (Ma 11), .int (Mv 14), .ref (Ma 12), .ref (Ma 13), .ref (Ma 14), .ref (Ma 15), .ref (Ma 16), .long (Mj 0), .ref (Ma 17), .ref (Ma 18), .ref (Ma 19), .ref (Ma 20)])), ((Ma 2), .inl (tc 0, 2400, .inl sv_75)), ((Ma 3), .inl (tc 0, 7, .inl sv_76))] := hD₀
        replace hS := hS₀
        clear hP₀ hD₀ hS₀
        refine lv_iconst (v := 1) hx hb dX12_value_88 (by decide) ?_
        have ha_82 : ((Mv 2) : Int32).toInt ≤ (sv_57 : Int32).toInt ∧ (sv_57 : Int32).toInt ≤ ((Mv 0) : Int32).toInt := by
          have z_1 := congrArg Int32.toInt c_22
          have z_2 := Int32.le_iff_toInt_le.mp c_37
          have z_3 : ¬ (r_47 : Int32).toInt = (0 : Int32).toInt := fun z => c_52 (Int32.toInt_inj.mp z)
          have y_0 : (0 : Int32).toInt = 0 := by decide
          omega
        have hp_83 : (((1 : Int32).toInt = 0 ∧ ¬ (sv_44 : Int32).toInt = 0) ∨ ((1 : Int32).toInt = 1 ∧ ((Mf 3) (Mv 5).toNatClampNeg).toInt + 1 ≤ (sv_76 (Mv 5).toNatClampNeg).toInt ∧ (sv_76 (Mv 5).toNatClampNeg).toInt + ((Mv 2) : Int32).toInt ≤ ((Mf 3) (Mv 5).toNatClampNeg).toInt + (sv_57 : Int32).toInt ∧ ((Mv 2) : Int32).toInt + 1 ≤ (sv_57 : Int32).toInt)) := by
          have z_1 := congrArg Int32.toInt c_22
          have z_2 := Int32.le_iff_toInt_le.mp c_37
          have z_3 : ¬ (r_47 : Int32).toInt = (0 : Int32).toInt := fun z => c_52 (Int32.toInt_inj.mp z)
          have y_0 : (0 : Int32).toInt = 0 := by decide
          have y_1 : (1 : Int32).toInt = 1 := by decide
          have yr : (1 : Int32).toInt = 1 := by decide
          omega
        have hm_84 : (1 : Int32).toInt = 1 → (Cd sv_75 sv_76 (Mv 5) b sv_45 (d + 1)) ∧ (RfO (pz_val (rB (Mf 1) (Mv 0)) (St0 (rB (Mf 1) (Mv 0)) (Mv 2) (Mv 6))) (rB (Mf 1) (Mv 0)) sv_44 sv_57 sv_45) ∧ (SgC sv_75 sv_76 (Mv 5) (ll ++ lval (rB (Mf 1) (Mv 0)) (St0 (rB (Mf 1) (Mv 0)) (Mv 2) (Mv 6)))) := by
          intro h1r
          have hr_85 : 0 ≤ (sv_4 : Int32).toInt := by
            have z_1 := congrArg Int32.toInt c_22
            have z_2 := Int32.le_iff_toInt_le.mp c_37
            have z_3 : ¬ (r_47 : Int32).toInt = (0 : Int32).toInt := fun z => c_52 (Int32.toInt_inj.mp z)
            have y_0 : (0 : Int32).toInt = 0 := by decide
            omega
          have rg_86 := rB_rg (n := (Mv 0)) h_bs (sv_4 : Int32).toInt.toNat
          have hn_87 : ¬ (48 ≤ rB (Mf 1) (Mv 0) (sv_4 : Int32).toInt.toNat ∧ rB (Mf 1) (Mv 0) (sv_4 : Int32).toInt.toNat ≤ 57) := by
            have z_1 := congrArg Int32.toInt c_22
            have z_2 := Int32.le_iff_toInt_le.mp c_37
            have z_3 : ¬ (r_47 : Int32).toInt = (0 : Int32).toInt := fun z => c_52 (Int32.toInt_inj.mp z)
            have y_0 : (0 : Int32).toInt = 0 := by decide
            omega
          have hw_88 : (r_32 : Int32).toInt = pz_wa (rB (Mf 1) (Mv 0)) (sv_4 : Int32).toInt.toNat pz_words 0 := by
            have hq := he_33.1
            rw [(pf_8).2.1] at hq
            exact hq
          have hr_89 : ¬ (r_32 : Int32).toInt = -1 := by
            have z_1 := congrArg Int32.toInt c_22
            have z_2 := Int32.le_iff_toInt_le.mp c_37
            have z_3 : ¬ (r_47 : Int32).toInt = (0 : Int32).toInt := fun z => c_52 (Int32.toInt_inj.mp z)
            have y_0 : (0 : Int32).toInt = 0 := by decide
            omega
          have hq_90 : sv_29 = sv_4 := SkR.eq pf_8 pf_31
          have rg_91 := rB_rg (n := (Mv 0)) h_bs (sv_29 : Int32).toInt.toNat
          have hl_92 : 97 ≤ rB (Mf 1) (Mv 0) (sv_29 : Int32).toInt.toNat ∧ rB (Mf 1) (Mv 0) (sv_29 : Int32).toInt.toNat ≤ 122 := by
            have z_1 := congrArg Int32.toInt c_22
            have z_2 := Int32.le_iff_toInt_le.mp c_37
            have z_3 : ¬ (r_47 : Int32).toInt = (0 : Int32).toInt := fun z => c_52 (Int32.toInt_inj.mp z)
            have y_0 : (0 : Int32).toInt = 0 := by decide
            omega
          have hr_93 : 0 ≤ (Mv 6).toInt ∧ (Mv 6).toInt < 60 ∧ (sv_45 : Int32).toInt = (Mv 6).toInt + 1 := by
            have z_1 := congrArg Int32.toInt c_22
            have z_2 := Int32.le_iff_toInt_le.mp c_37
            have z_3 : ¬ (r_47 : Int32).toInt = (0 : Int32).toInt := fun z => c_52 (Int32.toInt_inj.mp z)
            have y_0 : (0 : Int32).toInt = 0 := by decide
            omega
          have hi_94 : (sv_44 : Int32).toInt = 0 := by
            have z_1 := congrArg Int32.toInt c_22
            have z_2 := Int32.le_iff_toInt_le.mp c_37
            have z_3 : ¬ (r_47 : Int32).toInt = (0 : Int32).toInt := fun z => c_52 (Int32.toInt_inj.mp z)
            have y_0 : (0 : Int32).toInt = 0 := by decide
            omega
          have hu_95 : SgC sv_75 sv_76 (Mv 5) (ll ++ [(ec_v (rB (Mf 1) (Mv 0)) (St0 (rB (Mf 1) (Mv 0)) (Mv 2) (Mv 6)).1)]) := by
            rw [← elo_81]
            exact pf_80
          have hs_96 : SgC sv_75 sv_76 (Mv 5) (ll ++ lval (rB (Mf 1) (Mv 0)) (St0 (rB (Mf 1) (Mv 0)) (Mv 2) (Mv 6))) := hu_95
          exact ⟨pf_77, (RfO.word pf_8 hn_87 (fun z => hr_89 (hw_88.trans z)) (hq_90 ▸ hl_92) (hq_90 ▸ pf_60) hr_93 hi_94), hs_96⟩
        exact retI (v := 1) hx hb hr hlk (rfl) hP hD hS (sv_57, sv_44, (Mv 4), sv_45, sv_75, sv_76) ⟨_, rfl, hp_83, ha_82, pf_46, pf_78, hm_84, (fun h => absurd h (by decide))⟩ [1, 0, 2, 3] rfl rfl dX12_value_89 (Nat.le_of_ble_eq_true rfl) (Nat.le_of_ble_eq_true rfl) rfl
      · skip
        refine lv_iconst (v := 0) hx hb dX12_value_76 (by decide) ?_
        have ha_97 : ((Mv 2) : Int32).toInt ≤ (sv_29 : Int32).toInt ∧ (sv_29 : Int32).toInt ≤ ((Mv 0) : Int32).toInt := by
          have z_1 := congrArg Int32.toInt c_22
          have z_2 := Int32.le_iff_toInt_le.mp c_37
          have z_3 := congrArg Int32.toInt c_52
          have y_0 : (0 : Int32).toInt = 0 := by decide
          omega
        have hp_98 : (((0 : Int32).toInt = 0 ∧ ¬ (sv_44 : Int32).toInt = 0) ∨ ((0 : Int32).toInt = 1 ∧ ((Mf 3) (Mv 5).toNatClampNeg).toInt + 1 ≤ ((Mf 3) (Mv 5).toNatClampNeg).toInt ∧ ((Mf 3) (Mv 5).toNatClampNeg).toInt + ((Mv 2) : Int32).toInt ≤ ((Mf 3) (Mv 5).toNatClampNeg).toInt + (sv_29 : Int32).toInt ∧ ((Mv 2) : Int32).toInt + 1 ≤ (sv_29 : Int32).toInt)) := by
          have z_1 := congrArg Int32.toInt c_22
          have z_2 := Int32.le_iff_toInt_le.mp c_37
          have z_3 := congrArg Int32.toInt c_52
          have y_0 : (0 : Int32).toInt = 0 := by decide
          omega
        have hm_99 : (0 : Int32).toInt = 0 → (RfE (pz_val (rB (Mf 1) (Mv 0)) (St0 (rB (Mf 1) (Mv 0)) (Mv 2) (Mv 6))) sv_44) := by
          intro h1r
          have hr_100 : 0 ≤ (sv_4 : Int32).toInt := by
            have z_1 := congrArg Int32.toInt c_22
            have z_2 := Int32.le_iff_toInt_le.mp c_37
            have z_3 := congrArg Int32.toInt c_52
            have y_0 : (0 : Int32).toInt = 0 := by decide
            omega
          have rg_101 := rB_rg (n := (Mv 0)) h_bs (sv_4 : Int32).toInt.toNat
          have hn_102 : ¬ (48 ≤ rB (Mf 1) (Mv 0) (sv_4 : Int32).toInt.toNat ∧ rB (Mf 1) (Mv 0) (sv_4 : Int32).toInt.toNat ≤ 57) := by
            have z_1 := congrArg Int32.toInt c_22
            have z_2 := Int32.le_iff_toInt_le.mp c_37
            have z_3 := congrArg Int32.toInt c_52
            have y_0 : (0 : Int32).toInt = 0 := by decide
            omega
          have hw_103 : (r_32 : Int32).toInt = pz_wa (rB (Mf 1) (Mv 0)) (sv_4 : Int32).toInt.toNat pz_words 0 := by
            have hq := he_33.1
            rw [(pf_8).2.1] at hq
            exact hq
          have hr_104 : ¬ (r_32 : Int32).toInt = -1 := by
            have z_1 := congrArg Int32.toInt c_22
            have z_2 := Int32.le_iff_toInt_le.mp c_37
            have z_3 := congrArg Int32.toInt c_52
            have y_0 : (0 : Int32).toInt = 0 := by decide
            omega
          have hr_105 : 60 ≤ (Mv 6).toInt := by
            have z_1 := congrArg Int32.toInt c_22
            have z_2 := Int32.le_iff_toInt_le.mp c_37
            have z_3 := congrArg Int32.toInt c_52
            have y_0 : (0 : Int32).toInt = 0 := by decide
            omega
          have hi_106 : (sv_44 : Int32).toInt = 1 + 8 * (sv_4 : Int32).toInt + 3 := by
            have z_1 := congrArg Int32.toInt c_22
            have z_2 := Int32.le_iff_toInt_le.mp c_37
            have z_3 := congrArg Int32.toInt c_52
            have y_0 : (0 : Int32).toInt = 0 := by decide
            omega
          exact (RfE.wordMax pf_8 hn_102 (fun z => hr_104 (hw_103.trans z)) hr_105 hr_100 hi_106)
        exact retI (v := 0) hx hb hr hlk (rfl) hP hD hS (sv_29, sv_44, (Mv 4), sv_45, (Mf 2), (Mf 3)) ⟨_, rfl, hp_98, ha_97, pf_46, (Agr.rf), (fun h => absurd h (by decide)), hm_99⟩ [3, 2, 0, 1] rfl rfl dX12_value_77 (Nat.le_of_ble_eq_true rfl) (Nat.le_of_ble_eq_true rfl) rfl
    · skip
      refine lv_aload_n hx hb dX12_value_61 rfl (lv_at hl 2 rfl) ?_
      refine lv_iconst (v := 0) hx hb dX12_value_62 (by decide) ?_
      refine lv_iload_n hx hb dX12_value_63 rfl (lv_at hl 1 rfl) ?_
      have ha_107 : 0 ≤ (0 : Int32).toInt ∧ (0 : Int32).toInt ≤ 4 := by
        have z_1 := congrArg Int32.toInt c_22
        have z_2 := Int32.lt_iff_toInt_lt.mp (Int32.not_le.mp c_37)
        have y_0 : (0 : Int32).toInt = 0 := by decide
        omega
      have ha_108 : 0 ≤ sv_4.toInt ∧ sv_4.toInt ≤ 400 := by
        have z_1 := congrArg Int32.toInt c_22
        have z_2 := Int32.lt_iff_toInt_lt.mp (Int32.not_le.mp c_37)
        have y_0 : (0 : Int32).toInt = 0 := by decide
        omega
      refine cV (a := (Ma 0)) (As := [.int 0, .int sv_4]) (rest := []) (wr := [((Ma 2), .inl (tc 0, 2400, .inl (Mf 2))), ((Ma 3), .inl (tc 0, 7, .inl (Mf 3))), ((Ma 1), .inl (tc 2, 400, .inl (Mf 1)))]) ⟨hx, hb, hml, hown, hts⟩ hK hX hA (cu_fX12_fails l D tc sk (Ma 0) (Ma 1) (Ma 2) (Ma 3) (Ma 4) (Ma 5) (Ma 6) (Ma 7) (Ma 8) (Ma 9) (Ma 10) (Ma 11) (Ma 12) (Ma 13) (Ma 14) (Ma 15) (Ma 16) (Ma 17) (Ma 18) (Ma 19) (Ma 20) (Mv 0) (Mv 1) sv_29 (Mv 3) (Mv 4) (Mv 5) (Mv 6) (Mv 7) (Mv 8) (Mv 9) (Mv 10) (Mv 11) (Mv 12) (Mv 13) (Mv 14) (Mj 0) 0 sv_4 ha_107 ha_108 h_w) k_1232 k_1229 k_1231 k_31 k_106 pl_X12_fails ⟨Nat.le_of_ble_eq_true rfl, Nat.le_of_ble_eq_true rfl⟩ rfl rfl (va_recv hK hP (ci := 12) (q0 := 2) rfl rfl) hP hD hS [2] [0, 1, 3] rfl rfl rfl rfl rfl (by decide) rfl hl.1 rfl (Nat.le_of_ble_eq_true rfl) dX12_value_64 ⟨Nat.le_of_ble_eq_true rfl, Nat.le_of_ble_eq_true rfl⟩ (fun v_109 u_110 H locs hv_111 hP₀ hD₀ hS₀ => ?_)
      obtain ⟨sv_112, rfl⟩ : ∃ z, z = u_110 := ⟨_, rfl⟩
      obtain ⟨r_115, rfl, he_116, pf_113, pf_114⟩ := hv_111
      have he_116 : r_115.toInt = 0 := he_116
      have pf_113 : ¬ (sv_112 : Int32).toInt = 0 := pf_113
      have pf_114 : (sv_112 : Int32).toInt = 1 + 8 * sv_4.toInt + (0 : Int32).toInt := pf_114
      refine W.eq (g2 := F0 m 67 ls [.int r_115]) rfl ?_
      replace hP : va_P D classes [((Ma 2), .inl (tc 0, 2400, .inl (Mf 2))), ((Ma 3), .inl (tc 0, 7, .inl (Mf 3))), ((Ma 1), .inl (tc 2, 400, .inl (Mf 1))), ((Ma 0), .inr (12, [.ref (Ma 1), .int (Mv 0), .int (Mv 1), .ref (Ma 2), .ref (Ma 3), .ref (Ma 4), .ref (Ma 5), .ref (Ma 6), .int sv_29, .int sv_112, .int (Mv 4), .int (Mv 5), .int (Mv 6), .int (Mv 7), .int (Mv 8), .ref (Ma 7), .int (Mv 9), .ref (Ma 8), .int (Mv 10), .ref (Ma 9), .ref (Ma 10), .int (Mv 11), .int (Mv 12), .int (Mv 13), .ref (Ma 11), .int (Mv 14), .ref (Ma 12), .ref (Ma 13), .ref (Ma 14), .ref (Ma 15), .ref (Ma 16), .long (Mj 0), .ref (Ma 17), .ref (Ma 18), .ref (Ma 19), .ref (Ma 20)]))] H := hP₀
      replace hD : va_D A [((Ma 2), .inl (tc 0, 2400, .inl (Mf 2))), ((Ma 3), .inl (tc 0, 7, .inl (Mf 3))), ((Ma 1), .inl (tc 2, 400, .inl (Mf 1))), ((Ma 0), .inr (12, [.ref (Ma 1), .int (Mv 0), .int (Mv 1), .ref (Ma 2), .ref (Ma 3), .ref (Ma 4), .ref (Ma 5), .ref (Ma 6), .int sv_29, .int sv_112, .int (Mv 4), .int (Mv 5), .int (Mv 6), .int (Mv 7), .int (Mv 8), .ref (Ma 7), .int (Mv 9), .ref (Ma 8), .int (Mv 10), .ref (Ma 9), .ref (Ma 10), .int (Mv 11), .int (Mv 12), .int (Mv 13), .ref (Ma 11), .int (Mv 14), .ref (Ma 12), .ref (Ma 13), .ref (Ma 14), .ref (Ma 15), .ref (Ma 16), .long (Mj 0), .ref (Ma 17), .ref (Ma 18), .ref (Ma 19), .ref (Ma 20)]))] := hD₀
      replace hS := hS₀
      clear hP₀ hD₀ hS₀
      have yf_118 : (0 : Int32).toInt = 0 := by decide
      have ha_119 : ((Mv 2) : Int32).toInt ≤ (sv_29 : Int32).toInt ∧ (sv_29 : Int32).toInt ≤ ((Mv 0) : Int32).toInt := by
        have z_1 := congrArg Int32.toInt c_22
        have z_2 := Int32.lt_iff_toInt_lt.mp (Int32.not_le.mp c_37)
        have y_0 : (0 : Int32).toInt = 0 := by decide
        omega
      have ha_120 : ((Mv 6) : Int32).toInt ≤ ((Mv 6) : Int32).toInt ∧ ((Mv 6) : Int32).toInt ≤ 60 := by
        have z_1 := congrArg Int32.toInt c_22
        have z_2 := Int32.lt_iff_toInt_lt.mp (Int32.not_le.mp c_37)
        have y_0 : (0 : Int32).toInt = 0 := by decide
        omega
      have hb_121 : (r_115 : Int32).toInt = 0 ∨ (r_115 : Int32).toInt = 1 := by
        have z_1 := congrArg Int32.toInt c_22
        have z_2 := Int32.lt_iff_toInt_lt.mp (Int32.not_le.mp c_37)
        have y_0 : (0 : Int32).toInt = 0 := by decide
        omega
      have hp_122 : (((r_115 : Int32).toInt = 0 ∧ ¬ (sv_112 : Int32).toInt = 0) ∨ ((r_115 : Int32).toInt = 1 ∧ ((Mf 3) (Mv 5).toNatClampNeg).toInt + 1 ≤ ((Mf 3) (Mv 5).toNatClampNeg).toInt ∧ ((Mf 3) (Mv 5).toNatClampNeg).toInt + ((Mv 2) : Int32).toInt ≤ ((Mf 3) (Mv 5).toNatClampNeg).toInt + (sv_29 : Int32).toInt ∧ ((Mv 2) : Int32).toInt + 1 ≤ (sv_29 : Int32).toInt)) := by
        have z_1 := congrArg Int32.toInt c_22
        have z_2 := Int32.lt_iff_toInt_lt.mp (Int32.not_le.mp c_37)
        have y_0 : (0 : Int32).toInt = 0 := by decide
        omega
      have hm_123 : (r_115 : Int32).toInt = 1 → (Cd (Mf 2) (Mf 3) (Mv 5) b (Mv 6) (d + 1)) ∧ (RfO (pz_val (rB (Mf 1) (Mv 0)) (St0 (rB (Mf 1) (Mv 0)) (Mv 2) (Mv 6))) (rB (Mf 1) (Mv 0)) sv_112 sv_29 (Mv 6)) ∧ (SgC (Mf 2) (Mf 3) (Mv 5) (ll ++ lval (rB (Mf 1) (Mv 0)) (St0 (rB (Mf 1) (Mv 0)) (Mv 2) (Mv 6)))) := by
        intro h1r
        exfalso
        have z_1 := congrArg Int32.toInt c_22
        have z_2 := Int32.lt_iff_toInt_lt.mp (Int32.not_le.mp c_37)
        have y_0 : (0 : Int32).toInt = 0 := by decide
        omega
      have hm_124 : (r_115 : Int32).toInt = 0 → (RfE (pz_val (rB (Mf 1) (Mv 0)) (St0 (rB (Mf 1) (Mv 0)) (Mv 2) (Mv 6))) sv_112) := by
        intro h1r
        have hr_125 : 0 ≤ (sv_4 : Int32).toInt := by
          have z_1 := congrArg Int32.toInt c_22
          have z_2 := Int32.lt_iff_toInt_lt.mp (Int32.not_le.mp c_37)
          have y_0 : (0 : Int32).toInt = 0 := by decide
          omega
        have rg_126 := rB_rg (n := (Mv 0)) h_bs (sv_4 : Int32).toInt.toNat
        have hn_127 : ¬ (48 ≤ rB (Mf 1) (Mv 0) (sv_4 : Int32).toInt.toNat ∧ rB (Mf 1) (Mv 0) (sv_4 : Int32).toInt.toNat ≤ 57) := by
          have z_1 := congrArg Int32.toInt c_22
          have z_2 := Int32.lt_iff_toInt_lt.mp (Int32.not_le.mp c_37)
          have y_0 : (0 : Int32).toInt = 0 := by decide
          omega
        have hw_128 : (r_32 : Int32).toInt = pz_wa (rB (Mf 1) (Mv 0)) (sv_4 : Int32).toInt.toNat pz_words 0 := by
          have hq := he_33.1
          rw [(pf_8).2.1] at hq
          exact hq
        have hr_129 : (r_32 : Int32).toInt = -1 := by
          have z_1 := congrArg Int32.toInt c_22
          have z_2 := Int32.lt_iff_toInt_lt.mp (Int32.not_le.mp c_37)
          have y_0 : (0 : Int32).toInt = 0 := by decide
          omega
        have hi_130 : (sv_112 : Int32).toInt = 1 + 8 * (sv_4 : Int32).toInt := by
          have z_1 := congrArg Int32.toInt c_22
          have z_2 := Int32.lt_iff_toInt_lt.mp (Int32.not_le.mp c_37)
          have y_0 : (0 : Int32).toInt = 0 := by decide
          omega
        exact (RfE.none pf_8 hn_127 (hw_128.symm.trans hr_129) hr_125 hi_130)
      exact retI (v := r_115) hx hb hr hlk (nar01 hb_121) hP hD hS (sv_29, sv_112, (Mv 4), (Mv 6), (Mf 2), (Mf 3)) ⟨_, rfl, hp_122, ha_119, ha_120, (Agr.rf), hm_123, hm_124⟩ [3, 2, 0, 1] rfl rfl dX12_value_67 (Nat.le_of_ble_eq_true rfl) (Nat.le_of_ble_eq_true rfl) rfl
  · skip
    have hz_132 : (r_17 : Int32).toInt = 1 := by
      have z_1 : ¬ (r_17 : Int32).toInt = (0 : Int32).toInt := fun z => c_22 (Int32.toInt_inj.mp z)
      have y_0 : (0 : Int32).toInt = 0 := by decide
      omega
    obtain pf_131 := hm_20 hz_132
    have pf_131 : Dgt (Mf 1) (Mv 0) sv_4 := pf_131
    have ar_pf_131 := pf_131.1
    have at_pf_131 : 48 ≤ ((Mf 1) (sv_4 : Int32).toInt.toNat).toInt ∧ ((Mf 1) (sv_4 : Int32).toInt.toNat).toInt ≤ 57 := pf_131.2
    refine lv_aload_n hx hb dX12_value_21 rfl (lv_at hl 1 rfl) ?_
    refine lv_iconst (v := 0) hx hb dX12_value_22 (by decide) ?_
    refine lv_ldc hx hb hown (hts _ k_1288) dX12_value_23 ?_
    have ha_133 : 0 ≤ (sv_4 : Int32).toInt ∧ (sv_4 : Int32).toInt ≤ ((Mv 0) : Int32).toInt ∧ ((Mv 0) : Int32).toInt ≤ 400 := by
      have z_1 : ¬ (r_17 : Int32).toInt = (0 : Int32).toInt := fun z => c_22 (Int32.toInt_inj.mp z)
      have y_0 : (0 : Int32).toInt = 0 := by decide
      omega
    refine cV (a := (Ma 0)) (As := [.int 0, .int 99999]) (rest := []) (wr := [((Ma 2), .inl (tc 0, 2400, .inl (Mf 2))), ((Ma 3), .inl (tc 0, 7, .inl (Mf 3)))]) ⟨hx, hb, hml, hown, hts⟩ hK hX hA (cu_fX12_numberHere l D tc sk (Ma 0) (Ma 1) (Ma 2) (Ma 3) (Ma 4) (Ma 5) (Ma 6) (Ma 7) (Ma 8) (Ma 9) (Ma 10) (Ma 11) (Ma 12) (Ma 13) (Ma 14) (Ma 15) (Ma 16) (Ma 17) (Ma 18) (Ma 19) (Ma 20) (Mv 0) (Mv 1) sv_4 (Mv 3) (Mv 4) (Mv 5) (Mv 6) (Mv 7) (Mv 8) (Mv 9) (Mv 10) (Mv 11) (Mv 12) (Mv 13) (Mv 14) (Mf 1) (Mj 0) 0 99999 ha_133 h_bs h_w) k_1252 k_1249 k_1251 k_36 k_106 pl_X12_numberHere ⟨Nat.le_of_ble_eq_true rfl, Nat.le_of_ble_eq_true rfl⟩ rfl rfl (va_recv hK hP (ci := 12) (q0 := 2) rfl rfl) hP hD hS [2, 3] [0, 1] rfl rfl rfl rfl rfl (by decide) rfl hl.1 rfl (Nat.le_of_ble_eq_true rfl) dX12_value_25 ⟨Nat.le_of_ble_eq_true rfl, Nat.le_of_ble_eq_true rfl⟩ (fun v_134 u_135 H locs hv_136 hP₀ hD₀ hS₀ => ?_)
    obtain ⟨sv_137, sv_138, sv_139⟩ := u_135
    obtain ⟨r_141, rfl, he_142, pf_140, hm_144, hm_145⟩ := hv_136
    have he_142 : ((r_141.toInt = 0 ∧ ¬ (sv_138 : Int32).toInt = 0) ∨ (r_141.toInt = 1 ∧ (0 : Int32).toInt ≤ (sv_139 : Int32).toInt ∧ (sv_139 : Int32).toInt ≤ (99999 : Int32).toInt ∧ sv_4.toInt + 1 ≤ (sv_137 : Int32).toInt)) := he_142
    have pf_140 : (sv_4 : Int32).toInt ≤ (sv_137 : Int32).toInt ∧ (sv_137 : Int32).toInt ≤ ((Mv 0) : Int32).toInt := pf_140
    refine W.eq (g2 := F0 m 28 ls [.int r_141]) rfl ?_
    replace hP : va_P D classes [((Ma 2), .inl (tc 0, 2400, .inl (Mf 2))), ((Ma 3), .inl (tc 0, 7, .inl (Mf 3))), ((Ma 0), .inr (12, [.ref (Ma 1), .int (Mv 0), .int (Mv 1), .ref (Ma 2), .ref (Ma 3), .ref (Ma 4), .ref (Ma 5), .ref (Ma 6), .int sv_137, .int sv_138, .int sv_139, .int (Mv 5), .int (Mv 6), .int (Mv 7), .int (Mv 8), .ref (Ma 7), .int (Mv 9), .ref (Ma 8), .int (Mv 10), .ref (Ma 9), .ref (Ma 10), .int (Mv 11), .int (Mv 12), .int (Mv 13), .ref (Ma 11), .int (Mv 14), .ref (Ma 12), .ref (Ma 13), .ref (Ma 14), .ref (Ma 15), .ref (Ma 16), .long (Mj 0), .ref (Ma 17), .ref (Ma 18), .ref (Ma 19), .ref (Ma 20)])), ((Ma 1), .inl (tc 2, 400, .inl (Mf 1)))] H := hP₀
    replace hD : va_D A [((Ma 2), .inl (tc 0, 2400, .inl (Mf 2))), ((Ma 3), .inl (tc 0, 7, .inl (Mf 3))), ((Ma 0), .inr (12, [.ref (Ma 1), .int (Mv 0), .int (Mv 1), .ref (Ma 2), .ref (Ma 3), .ref (Ma 4), .ref (Ma 5), .ref (Ma 6), .int sv_137, .int sv_138, .int sv_139, .int (Mv 5), .int (Mv 6), .int (Mv 7), .int (Mv 8), .ref (Ma 7), .int (Mv 9), .ref (Ma 8), .int (Mv 10), .ref (Ma 9), .ref (Ma 10), .int (Mv 11), .int (Mv 12), .int (Mv 13), .ref (Ma 11), .int (Mv 14), .ref (Ma 12), .ref (Ma 13), .ref (Ma 14), .ref (Ma 15), .ref (Ma 16), .long (Mj 0), .ref (Ma 17), .ref (Ma 18), .ref (Ma 19), .ref (Ma 20)])), ((Ma 1), .inl (tc 2, 400, .inl (Mf 1)))] := hD₀
    replace hS := hS₀
    clear hP₀ hD₀ hS₀
    refine lv_if_eq (tgt := 39) hx hb dX12_value_28 (by decide) (fun c_146 => ?_) (fun c_146 => ?_)
    · skip
      have hz_148 : (r_141 : Int32).toInt = 0 := by
        have z_1 : ¬ (r_17 : Int32).toInt = (0 : Int32).toInt := fun z => c_22 (Int32.toInt_inj.mp z)
        have z_2 := congrArg Int32.toInt c_146
        have y_0 : (0 : Int32).toInt = 0 := by decide
        omega
      obtain pf_147 := hm_145 hz_148
      have pf_147 : NmE (rB (Mf 1) (Mv 0)) (0 : Int32).toInt (99999 : Int32).toInt sv_4 sv_138 := pf_147
      refine lv_iconst (v := 0) hx hb dX12_value_39 (by decide) ?_
      have ha_149 : ((Mv 2) : Int32).toInt ≤ (sv_137 : Int32).toInt ∧ (sv_137 : Int32).toInt ≤ ((Mv 0) : Int32).toInt := by
        have z_1 : ¬ (r_17 : Int32).toInt = (0 : Int32).toInt := fun z => c_22 (Int32.toInt_inj.mp z)
        have z_2 := congrArg Int32.toInt c_146
        have y_0 : (0 : Int32).toInt = 0 := by decide
        omega
      have ha_150 : ((Mv 6) : Int32).toInt ≤ ((Mv 6) : Int32).toInt ∧ ((Mv 6) : Int32).toInt ≤ 60 := by
        have z_1 : ¬ (r_17 : Int32).toInt = (0 : Int32).toInt := fun z => c_22 (Int32.toInt_inj.mp z)
        have z_2 := congrArg Int32.toInt c_146
        have y_0 : (0 : Int32).toInt = 0 := by decide
        omega
      have hp_151 : (((0 : Int32).toInt = 0 ∧ ¬ (sv_138 : Int32).toInt = 0) ∨ ((0 : Int32).toInt = 1 ∧ ((Mf 3) (Mv 5).toNatClampNeg).toInt + 1 ≤ ((Mf 3) (Mv 5).toNatClampNeg).toInt ∧ ((Mf 3) (Mv 5).toNatClampNeg).toInt + ((Mv 2) : Int32).toInt ≤ ((Mf 3) (Mv 5).toNatClampNeg).toInt + (sv_137 : Int32).toInt ∧ ((Mv 2) : Int32).toInt + 1 ≤ (sv_137 : Int32).toInt)) := by
        have z_1 : ¬ (r_17 : Int32).toInt = (0 : Int32).toInt := fun z => c_22 (Int32.toInt_inj.mp z)
        have z_2 := congrArg Int32.toInt c_146
        have y_0 : (0 : Int32).toInt = 0 := by decide
        omega
      have hm_152 : (0 : Int32).toInt = 0 → (RfE (pz_val (rB (Mf 1) (Mv 0)) (St0 (rB (Mf 1) (Mv 0)) (Mv 2) (Mv 6))) sv_138) := by
        intro h1r
        have hr_153 : 0 ≤ (sv_4 : Int32).toInt := by
          have z_1 : ¬ (r_17 : Int32).toInt = (0 : Int32).toInt := fun z => c_22 (Int32.toInt_inj.mp z)
          have z_2 := congrArg Int32.toInt c_146
          have y_0 : (0 : Int32).toInt = 0 := by decide
          omega
        have rg_154 := rB_rg (n := (Mv 0)) h_bs (sv_4 : Int32).toInt.toNat
        have hl_155 : 48 ≤ rB (Mf 1) (Mv 0) (sv_4 : Int32).toInt.toNat ∧ rB (Mf 1) (Mv 0) (sv_4 : Int32).toInt.toNat ≤ 57 := by
          have z_1 : ¬ (r_17 : Int32).toInt = (0 : Int32).toInt := fun z => c_22 (Int32.toInt_inj.mp z)
          have z_2 := congrArg Int32.toInt c_146
          have y_0 : (0 : Int32).toInt = 0 := by decide
          omega
        exact (RfE.num pf_8 hl_155 (by have hq := pf_147; rw [show (0 : Int32).toInt = 0 by decide, show (99999 : Int32).toInt = 99999 by decide] at hq; exact hq))
      exact retI (v := 0) hx hb hr hlk (rfl) hP hD hS (sv_137, sv_138, sv_139, (Mv 6), (Mf 2), (Mf 3)) ⟨_, rfl, hp_151, ha_149, ha_150, (Agr.rf), (fun h => absurd h (by decide)), hm_152⟩ [2, 3, 0, 1] rfl rfl dX12_value_40 (Nat.le_of_ble_eq_true rfl) (Nat.le_of_ble_eq_true rfl) rfl
    · skip
      have hz_157 : (r_141 : Int32).toInt = 1 := by
        have z_1 : ¬ (r_17 : Int32).toInt = (0 : Int32).toInt := fun z => c_22 (Int32.toInt_inj.mp z)
        have z_2 : ¬ (r_141 : Int32).toInt = (0 : Int32).toInt := fun z => c_146 (Int32.toInt_inj.mp z)
        have y_0 : (0 : Int32).toInt = 0 := by decide
        omega
      obtain pf_156 := hm_144 hz_157
      have pf_156 : NmO (rB (Mf 1) (Mv 0)) (0 : Int32).toInt (99999 : Int32).toInt sv_4 sv_139 sv_137 sv_138 := pf_156
      have ar_pf_156 := pf_156.2.2
      refine lv_aload_n hx hb dX12_value_31 rfl (lv_at hl 1 rfl) ?_
      refine lv_iload_n hx hb dX12_value_32 rfl (lv_at hl 0 rfl) ?_
      have ha_158 : 0 ≤ sv_4.toInt ∧ sv_4.toInt ≤ 400 := by
        have z_1 : ¬ (r_17 : Int32).toInt = (0 : Int32).toInt := fun z => c_22 (Int32.toInt_inj.mp z)
        have z_2 : ¬ (r_141 : Int32).toInt = (0 : Int32).toInt := fun z => c_146 (Int32.toInt_inj.mp z)
        have y_0 : (0 : Int32).toInt = 0 := by decide
        omega
      have ha_159 : (sv_138 : Int32).toInt = 0 := by
        have z_1 : ¬ (r_17 : Int32).toInt = (0 : Int32).toInt := fun z => c_22 (Int32.toInt_inj.mp z)
        have z_2 : ¬ (r_141 : Int32).toInt = (0 : Int32).toInt := fun z => c_146 (Int32.toInt_inj.mp z)
        have y_0 : (0 : Int32).toInt = 0 := by decide
        omega
      refine cV (a := (Ma 0)) (As := [.int sv_4]) (rest := []) (wr := [((Ma 2), .inl (tc 0, 2400, .inl (Mf 2))), ((Ma 3), .inl (tc 0, 7, .inl (Mf 3))), ((Ma 1), .inl (tc 2, 400, .inl (Mf 1)))]) ⟨hx, hb, hml, hown, hts⟩ hK hX hA (cu_fX12_makes l D tc sk (Ma 0) (Ma 1) (Ma 2) (Ma 3) (Ma 4) (Ma 5) (Ma 6) (Ma 7) (Ma 8) (Ma 9) (Ma 10) (Ma 11) (Ma 12) (Ma 13) (Ma 14) (Ma 15) (Ma 16) (Ma 17) (Ma 18) (Ma 19) (Ma 20) (Mv 0) (Mv 1) sv_137 sv_138 sv_139 (Mv 5) (Mv 6) (Mv 7) (Mv 8) (Mv 9) (Mv 10) (Mv 11) (Mv 12) (Mv 13) (Mv 14) (Mj 0) sv_4 ha_158 h_md ha_159) k_1292 k_1289 k_1291 k_45 k_106 pl_X12_makes ⟨Nat.le_of_ble_eq_true rfl, Nat.le_of_ble_eq_true rfl⟩ rfl rfl (va_recv hK hP (ci := 12) (q0 := 2) rfl rfl) hP hD hS [2] [0, 1, 3] rfl rfl rfl rfl rfl (by decide) rfl hl.1 rfl (Nat.le_of_ble_eq_true rfl) dX12_value_33 ⟨Nat.le_of_ble_eq_true rfl, Nat.le_of_ble_eq_true rfl⟩ (fun v_160 u_161 H locs hv_162 hP₀ hD₀ hS₀ => ?_)
      obtain ⟨sv_163, sv_164⟩ := u_161
      obtain ⟨r_166, rfl, he_167, pf_165⟩ := hv_162
      have he_167 : ((r_166.toInt = 0 ∧ ¬ (sv_163 : Int32).toInt = 0 ∧ (Mv 6).toInt = 60 ∧ (sv_163 : Int32).toInt = 1 + 8 * sv_4.toInt + 3) ∨ (r_166.toInt = 1 ∧ (sv_164 : Int32).toInt = (Mv 6).toInt + 1 ∧ (Mv 6).toInt < 60 ∧ (sv_163 : Int32).toInt = 0)) := he_167
      have pf_165 : ((Mv 6) : Int32).toInt ≤ (sv_164 : Int32).toInt ∧ (sv_164 : Int32).toInt ≤ 60 := pf_165
      refine W.eq (g2 := F0 m 36 ls [.int r_166]) rfl ?_
      replace hP : va_P D classes [((Ma 2), .inl (tc 0, 2400, .inl (Mf 2))), ((Ma 3), .inl (tc 0, 7, .inl (Mf 3))), ((Ma 1), .inl (tc 2, 400, .inl (Mf 1))), ((Ma 0), .inr (12, [.ref (Ma 1), .int (Mv 0), .int (Mv 1), .ref (Ma 2), .ref (Ma 3), .ref (Ma 4), .ref (Ma 5), .ref (Ma 6), .int sv_137, .int sv_163, .int sv_139, .int (Mv 5), .int sv_164, .int (Mv 7), .int (Mv 8), .ref (Ma 7), .int (Mv 9), .ref (Ma 8), .int (Mv 10), .ref (Ma 9), .ref (Ma 10), .int (Mv 11), .int (Mv 12), .int (Mv 13), .ref (Ma 11), .int (Mv 14), .ref (Ma 12), .ref (Ma 13), .ref (Ma 14), .ref (Ma 15), .ref (Ma 16), .long (Mj 0), .ref (Ma 17), .ref (Ma 18), .ref (Ma 19), .ref (Ma 20)]))] H := hP₀
      replace hD : va_D A [((Ma 2), .inl (tc 0, 2400, .inl (Mf 2))), ((Ma 3), .inl (tc 0, 7, .inl (Mf 3))), ((Ma 1), .inl (tc 2, 400, .inl (Mf 1))), ((Ma 0), .inr (12, [.ref (Ma 1), .int (Mv 0), .int (Mv 1), .ref (Ma 2), .ref (Ma 3), .ref (Ma 4), .ref (Ma 5), .ref (Ma 6), .int sv_137, .int sv_163, .int sv_139, .int (Mv 5), .int sv_164, .int (Mv 7), .int (Mv 8), .ref (Ma 7), .int (Mv 9), .ref (Ma 8), .int (Mv 10), .ref (Ma 9), .ref (Ma 10), .int (Mv 11), .int (Mv 12), .int (Mv 13), .ref (Ma 11), .int (Mv 14), .ref (Ma 12), .ref (Ma 13), .ref (Ma 14), .ref (Ma 15), .ref (Ma 16), .long (Mj 0), .ref (Ma 17), .ref (Ma 18), .ref (Ma 19), .ref (Ma 20)]))] := hD₀
      replace hS := hS₀
      clear hP₀ hD₀ hS₀
      have hr_170 : ((Mv 6) : Int32).toInt ≤ (sv_164 : Int32).toInt ∧ (sv_164 : Int32).toInt ≤ 60 := by
        have z_1 : ¬ (r_17 : Int32).toInt = (0 : Int32).toInt := fun z => c_22 (Int32.toInt_inj.mp z)
        have z_2 : ¬ (r_141 : Int32).toInt = (0 : Int32).toInt := fun z => c_146 (Int32.toInt_inj.mp z)
        have y_0 : (0 : Int32).toInt = 0 := by decide
        omega
      have pf_169 : Cd (Mf 2) (Mf 3) (Mv 5) b sv_164 d := Cd.mono h_cd hr_170
      have ar_pf_169 := Cd.ar pf_169
      refine lv_if_ne (tgt := 41) hx hb dX12_value_36 (by decide) (fun c_171 => ?_) (fun c_171 => ?_)
      · skip
        refine lv_aload_n hx hb dX12_value_41 rfl (lv_at hl 1 rfl) ?_
        refine lv_iconst (v := 0) hx hb dX12_value_42 (by decide) ?_
        refine lv_aload_n hx hb dX12_value_43 rfl (lv_at hl 1 rfl) ?_
        refine gf_X12_112 hx hb hts hown hK hP 3 rfl rfl dX12_value_44 ?_
        have hr_172 : (d : Int) < 60 := by
          have z_1 : ¬ (r_17 : Int32).toInt = (0 : Int32).toInt := fun z => c_22 (Int32.toInt_inj.mp z)
          have z_2 : ¬ (r_141 : Int32).toInt = (0 : Int32).toInt := fun z => c_146 (Int32.toInt_inj.mp z)
          have z_3 : ¬ (r_166 : Int32).toInt = (0 : Int32).toInt := fun z => c_171 (Int32.toInt_inj.mp z)
          have y_0 : (0 : Int32).toInt = 0 := by decide
          omega
        have ha_173 : ((d + 1) : Int) ≤ sv_164.toInt := by
          have z_1 : ¬ (r_17 : Int32).toInt = (0 : Int32).toInt := fun z => c_22 (Int32.toInt_inj.mp z)
          have z_2 : ¬ (r_141 : Int32).toInt = (0 : Int32).toInt := fun z => c_146 (Int32.toInt_inj.mp z)
          have z_3 : ¬ (r_166 : Int32).toInt = (0 : Int32).toInt := fun z => c_171 (Int32.toInt_inj.mp z)
          have y_0 : (0 : Int32).toInt = 0 := by decide
          omega
        have ha_174 : ((Mf 3) (Mv 5).toNatClampNeg).toInt < 400 := by
          have z_1 : ¬ (r_17 : Int32).toInt = (0 : Int32).toInt := fun z => c_22 (Int32.toInt_inj.mp z)
          have z_2 : ¬ (r_141 : Int32).toInt = (0 : Int32).toInt := fun z => c_146 (Int32.toInt_inj.mp z)
          have z_3 : ¬ (r_166 : Int32).toInt = (0 : Int32).toInt := fun z => c_171 (Int32.toInt_inj.mp z)
          have y_0 : (0 : Int32).toInt = 0 := by decide
          omega
        have rg_176 := rB_rg (n := (Mv 0)) h_bs (sv_4 : Int32).toInt.toNat
        have hl_177 : 48 ≤ rB (Mf 1) (Mv 0) (sv_4 : Int32).toInt.toNat ∧ rB (Mf 1) (Mv 0) (sv_4 : Int32).toInt.toNat ≤ 57 := by
          have z_1 : ¬ (r_17 : Int32).toInt = (0 : Int32).toInt := fun z => c_22 (Int32.toInt_inj.mp z)
          have z_2 : ¬ (r_141 : Int32).toInt = (0 : Int32).toInt := fun z => c_146 (Int32.toInt_inj.mp z)
          have z_3 : ¬ (r_166 : Int32).toInt = (0 : Int32).toInt := fun z => c_171 (Int32.toInt_inj.mp z)
          have y_0 : (0 : Int32).toInt = 0 := by decide
          omega
        have t_99999 : (99999 : Int32).toInt = 99999 := by decide
        have hr_178 : 0 ≤ (sv_139 : Int32).toInt ∧ (sv_139 : Int32).toInt ≤ 99999 := by
          have z_1 : ¬ (r_17 : Int32).toInt = (0 : Int32).toInt := fun z => c_22 (Int32.toInt_inj.mp z)
          have z_2 : ¬ (r_141 : Int32).toInt = (0 : Int32).toInt := fun z => c_146 (Int32.toInt_inj.mp z)
          have z_3 : ¬ (r_166 : Int32).toInt = (0 : Int32).toInt := fun z => c_171 (Int32.toInt_inj.mp z)
          have y_0 : (0 : Int32).toInt = 0 := by decide
          omega
        have ho_175 : (0 : Int32).toInt + 16 * (sv_139 : Int32).toInt = rE (ec_v (rB (Mf 1) (Mv 0)) (St0 (rB (Mf 1) (Mv 0)) (Mv 2) (Mv 6)).1) := by
          have hq := (pf_156).1
          rw [show (0 : Int32).toInt = 0 by decide, show (99999 : Int32).toInt = 99999 by decide, (pf_8).2.1] at hq
          have hv : ec_v (rB (Mf 1) (Mv 0)) (St0 (rB (Mf 1) (Mv 0)) (Mv 2) (Mv 6)).1 = (sv_139 : Int32).toInt := by
            show ec_v (rB (Mf 1) (Mv 0)) (pz_sk (rB (Mf 1) (Mv 0)) (Mv 2).toInt.toNat) = _
            rw [SkR.nat pf_8]
            exact ec_v_num hl_177 hq
          rw [hv, rE_num hr_178, show (0 : Int32).toInt = 0 by decide]
          omega
        have ha_179 : 0 ≤ (0 : Int32).toInt ∧ (0 : Int32).toInt ≤ 15 := by
          have z_1 : ¬ (r_17 : Int32).toInt = (0 : Int32).toInt := fun z => c_22 (Int32.toInt_inj.mp z)
          have z_2 : ¬ (r_141 : Int32).toInt = (0 : Int32).toInt := fun z => c_146 (Int32.toInt_inj.mp z)
          have z_3 : ¬ (r_166 : Int32).toInt = (0 : Int32).toInt := fun z => c_171 (Int32.toInt_inj.mp z)
          have y_0 : (0 : Int32).toInt = 0 := by decide
          omega
        have ha_180 : 0 ≤ sv_139.toInt ∧ sv_139.toInt ≤ 100000 := by
          have z_1 : ¬ (r_17 : Int32).toInt = (0 : Int32).toInt := fun z => c_22 (Int32.toInt_inj.mp z)
          have z_2 : ¬ (r_141 : Int32).toInt = (0 : Int32).toInt := fun z => c_146 (Int32.toInt_inj.mp z)
          have z_3 : ¬ (r_166 : Int32).toInt = (0 : Int32).toInt := fun z => c_171 (Int32.toInt_inj.mp z)
          have y_0 : (0 : Int32).toInt = 0 := by decide
          omega
        have ha_181 : 0 ≤ (Mv 5).toInt := by
          have z_1 : ¬ (r_17 : Int32).toInt = (0 : Int32).toInt := fun z => c_22 (Int32.toInt_inj.mp z)
          have z_2 : ¬ (r_141 : Int32).toInt = (0 : Int32).toInt := fun z => c_146 (Int32.toInt_inj.mp z)
          have z_3 : ¬ (r_166 : Int32).toInt = (0 : Int32).toInt := fun z => c_171 (Int32.toInt_inj.mp z)
          have y_0 : (0 : Int32).toInt = 0 := by decide
          omega
        refine cV (a := (Ma 0)) (As := [.int 0, .int sv_139]) (rest := []) (wr := [((Ma 1), .inl (tc 2, 400, .inl (Mf 1)))]) ⟨hx, hb, hml, hown, hts⟩ hK hX hA (cu_kX12_puts l D tc sk (Ma 0) (Ma 1) (Ma 2) (Ma 3) (Ma 4) (Ma 5) (Ma 6) (Ma 7) (Ma 8) (Ma 9) (Ma 10) (Ma 11) (Ma 12) (Ma 13) (Ma 14) (Ma 15) (Ma 16) (Ma 17) (Ma 18) (Ma 19) (Ma 20) (Mv 0) (Mv 1) sv_137 sv_163 sv_139 (Mv 5) sv_164 (Mv 7) (Mv 8) (Mv 9) (Mv 10) (Mv 11) (Mv 12) (Mv 13) (Mv 14) (Mf 2) (Mf 3) (Mj 0) 0 sv_139 b sv_164 d (d + 1) ll (ec_v (rB (Mf 1) (Mv 0)) (St0 (rB (Mf 1) (Mv 0)) (Mv 2) (Mv 6)).1) pf_169 (StpR.num hr_172) ha_173 ha_174 h_sg ho_175 ha_179 ha_180 ha_181) k_1296 k_1293 k_1295 k_46 k_106 pl_X12_puts ⟨Nat.le_of_ble_eq_true rfl, Nat.le_of_ble_eq_true rfl⟩ rfl rfl (va_recv hK hP (ci := 12) (q0 := 3) rfl rfl) hP hD hS [3, 0, 1] [2] rfl rfl rfl rfl rfl (by decide) rfl hl.1 rfl (Nat.le_of_ble_eq_true rfl) dX12_value_47 ⟨Nat.le_of_ble_eq_true rfl, Nat.le_of_ble_eq_true rfl⟩ (fun v_182 u_183 H locs hv_184 hP₀ hD₀ hS₀ => ?_)
        obtain ⟨sv_185, sv_186⟩ := u_183
        obtain ⟨rfl, pf_187, pf_188, pf_189, pf_190⟩ := hv_184
        have pf_187 : Cd sv_185 sv_186 (Mv 5) b sv_164 (d + 1) := pf_187
        have ar_pf_187 := Cd.ar pf_187
        have pf_188 : Agr (Mf 2) sv_185 (400 * ((Mv 5) : Int32).toInt + ((Mf 3) (Mv 5).toNatClampNeg).toInt) := pf_188
        have pf_189 : (sv_186 (Mv 5).toNatClampNeg).toInt = ((Mf 3) (Mv 5).toNatClampNeg).toInt + 1 := pf_189
        have pf_190 : SgC sv_185 sv_186 (Mv 5) (ll ++ [(ec_v (rB (Mf 1) (Mv 0)) (St0 (rB (Mf 1) (Mv 0)) (Mv 2) (Mv 6)).1)]) := pf_190
        obtain ⟨lo_191, elo_191⟩ : ∃ z : List Int, z = (ll ++ [(ec_v (rB (Mf 1) (Mv 0)) (St0 (rB (Mf 1) (Mv 0)) (Mv 2) (Mv 6)).1)]) := ⟨_, rfl⟩
        rw [← elo_191] at pf_190
        refine W.eq (g2 := F0 m 50 ls []) rfl ?_
        replace hP : va_P D classes [((Ma 1), .inl (tc 2, 400, .inl (Mf 1))), ((Ma 0), .inr (12, [.ref (Ma 1), .int (Mv 0), .int (Mv 1), .ref (Ma 2), .ref (Ma 3), .ref (Ma 4), .ref (Ma 5), .ref (Ma 6), .int sv_137, .int sv_163, .int sv_139, .int (Mv 5), .int sv_164, .int (Mv 7), .int (Mv 8), .ref (Ma 7), .int (Mv 9), .ref (Ma 8), .int (Mv 10), .ref (Ma 9), .ref (Ma 10), .int (Mv 11), .int (Mv 12), .int (Mv 13), .ref (Ma 11), .int (Mv 14), .ref (Ma 12), .ref (Ma 13), .ref (Ma 14), .ref (Ma 15), .ref (Ma 16), .long (Mj 0), .ref (Ma 17), .ref (Ma 18), .ref (Ma 19), .ref (Ma 20)])), ((Ma 2), .inl (tc 0, 2400, .inl sv_185)), ((Ma 3), .inl (tc 0, 7, .inl sv_186))] H := hP₀
        replace hD : va_D A [((Ma 1), .inl (tc 2, 400, .inl (Mf 1))), ((Ma 0), .inr (12, [.ref (Ma 1), .int (Mv 0), .int (Mv 1), .ref (Ma 2), .ref (Ma 3), .ref (Ma 4), .ref (Ma 5), .ref (Ma 6), .int sv_137, .int sv_163, .int sv_139, .int (Mv 5), .int sv_164, .int (Mv 7), .int (Mv 8), .ref (Ma 7), .int (Mv 9), .ref (Ma 8), .int (Mv 10), .ref (Ma 9), .ref (Ma 10), .int (Mv 11), .int (Mv 12), .int (Mv 13), .ref (Ma 11), .int (Mv 14), .ref (Ma 12), .ref (Ma 13), .ref (Ma 14), .ref (Ma 15), .ref (Ma 16), .long (Mj 0), .ref (Ma 17), .ref (Ma 18), .ref (Ma 19), .ref (Ma 20)])), ((Ma 2), .inl (tc 0, 2400, .inl sv_185)), ((Ma 3), .inl (tc 0, 7, .inl sv_186))] := hD₀
        replace hS := hS₀
        clear hP₀ hD₀ hS₀
        refine lv_iconst (v := 1) hx hb dX12_value_50 (by decide) ?_
        have ha_192 : ((Mv 2) : Int32).toInt ≤ (sv_137 : Int32).toInt ∧ (sv_137 : Int32).toInt ≤ ((Mv 0) : Int32).toInt := by
          have z_1 : ¬ (r_17 : Int32).toInt = (0 : Int32).toInt := fun z => c_22 (Int32.toInt_inj.mp z)
          have z_2 : ¬ (r_141 : Int32).toInt = (0 : Int32).toInt := fun z => c_146 (Int32.toInt_inj.mp z)
          have z_3 : ¬ (r_166 : Int32).toInt = (0 : Int32).toInt := fun z => c_171 (Int32.toInt_inj.mp z)
          have y_0 : (0 : Int32).toInt = 0 := by decide
          omega
        have hp_193 : (((1 : Int32).toInt = 0 ∧ ¬ (sv_163 : Int32).toInt = 0) ∨ ((1 : Int32).toInt = 1 ∧ ((Mf 3) (Mv 5).toNatClampNeg).toInt + 1 ≤ (sv_186 (Mv 5).toNatClampNeg).toInt ∧ (sv_186 (Mv 5).toNatClampNeg).toInt + ((Mv 2) : Int32).toInt ≤ ((Mf 3) (Mv 5).toNatClampNeg).toInt + (sv_137 : Int32).toInt ∧ ((Mv 2) : Int32).toInt + 1 ≤ (sv_137 : Int32).toInt)) := by
          have z_1 : ¬ (r_17 : Int32).toInt = (0 : Int32).toInt := fun z => c_22 (Int32.toInt_inj.mp z)
          have z_2 : ¬ (r_141 : Int32).toInt = (0 : Int32).toInt := fun z => c_146 (Int32.toInt_inj.mp z)
          have z_3 : ¬ (r_166 : Int32).toInt = (0 : Int32).toInt := fun z => c_171 (Int32.toInt_inj.mp z)
          have y_0 : (0 : Int32).toInt = 0 := by decide
          have y_1 : (1 : Int32).toInt = 1 := by decide
          have yr : (1 : Int32).toInt = 1 := by decide
          omega
        have hm_194 : (1 : Int32).toInt = 1 → (Cd sv_185 sv_186 (Mv 5) b sv_164 (d + 1)) ∧ (RfO (pz_val (rB (Mf 1) (Mv 0)) (St0 (rB (Mf 1) (Mv 0)) (Mv 2) (Mv 6))) (rB (Mf 1) (Mv 0)) sv_163 sv_137 sv_164) ∧ (SgC sv_185 sv_186 (Mv 5) (ll ++ lval (rB (Mf 1) (Mv 0)) (St0 (rB (Mf 1) (Mv 0)) (Mv 2) (Mv 6)))) := by
          intro h1r
          have hr_195 : 0 ≤ (sv_4 : Int32).toInt := by
            have z_1 : ¬ (r_17 : Int32).toInt = (0 : Int32).toInt := fun z => c_22 (Int32.toInt_inj.mp z)
            have z_2 : ¬ (r_141 : Int32).toInt = (0 : Int32).toInt := fun z => c_146 (Int32.toInt_inj.mp z)
            have z_3 : ¬ (r_166 : Int32).toInt = (0 : Int32).toInt := fun z => c_171 (Int32.toInt_inj.mp z)
            have y_0 : (0 : Int32).toInt = 0 := by decide
            omega
          have rg_196 := rB_rg (n := (Mv 0)) h_bs (sv_4 : Int32).toInt.toNat
          have hl_197 : 48 ≤ rB (Mf 1) (Mv 0) (sv_4 : Int32).toInt.toNat ∧ rB (Mf 1) (Mv 0) (sv_4 : Int32).toInt.toNat ≤ 57 := by
            have z_1 : ¬ (r_17 : Int32).toInt = (0 : Int32).toInt := fun z => c_22 (Int32.toInt_inj.mp z)
            have z_2 : ¬ (r_141 : Int32).toInt = (0 : Int32).toInt := fun z => c_146 (Int32.toInt_inj.mp z)
            have z_3 : ¬ (r_166 : Int32).toInt = (0 : Int32).toInt := fun z => c_171 (Int32.toInt_inj.mp z)
            have y_0 : (0 : Int32).toInt = 0 := by decide
            omega
          have hr_198 : 0 ≤ (Mv 6).toInt ∧ (Mv 6).toInt < 60 ∧ (sv_164 : Int32).toInt = (Mv 6).toInt + 1 := by
            have z_1 : ¬ (r_17 : Int32).toInt = (0 : Int32).toInt := fun z => c_22 (Int32.toInt_inj.mp z)
            have z_2 : ¬ (r_141 : Int32).toInt = (0 : Int32).toInt := fun z => c_146 (Int32.toInt_inj.mp z)
            have z_3 : ¬ (r_166 : Int32).toInt = (0 : Int32).toInt := fun z => c_171 (Int32.toInt_inj.mp z)
            have y_0 : (0 : Int32).toInt = 0 := by decide
            omega
          have hi_199 : (sv_163 : Int32).toInt = 0 := by
            have z_1 : ¬ (r_17 : Int32).toInt = (0 : Int32).toInt := fun z => c_22 (Int32.toInt_inj.mp z)
            have z_2 : ¬ (r_141 : Int32).toInt = (0 : Int32).toInt := fun z => c_146 (Int32.toInt_inj.mp z)
            have z_3 : ¬ (r_166 : Int32).toInt = (0 : Int32).toInt := fun z => c_171 (Int32.toInt_inj.mp z)
            have y_0 : (0 : Int32).toInt = 0 := by decide
            omega
          have hu_200 : SgC sv_185 sv_186 (Mv 5) (ll ++ [(ec_v (rB (Mf 1) (Mv 0)) (St0 (rB (Mf 1) (Mv 0)) (Mv 2) (Mv 6)).1)]) := by
            rw [← elo_191]
            exact pf_190
          have hs_201 : SgC sv_185 sv_186 (Mv 5) (ll ++ lval (rB (Mf 1) (Mv 0)) (St0 (rB (Mf 1) (Mv 0)) (Mv 2) (Mv 6))) := hu_200
          exact ⟨pf_187, (RfO.num pf_8 hl_197 (by have hq := pf_156; rw [show (0 : Int32).toInt = 0 by decide, show (99999 : Int32).toInt = 99999 by decide] at hq; exact hq) hr_198 hi_199), hs_201⟩
        exact retI (v := 1) hx hb hr hlk (rfl) hP hD hS (sv_137, sv_163, sv_139, sv_164, sv_185, sv_186) ⟨_, rfl, hp_193, ha_192, pf_165, pf_188, hm_194, (fun h => absurd h (by decide))⟩ [1, 0, 2, 3] rfl rfl dX12_value_51 (Nat.le_of_ble_eq_true rfl) (Nat.le_of_ble_eq_true rfl) rfl
      · skip
        refine lv_iconst (v := 0) hx hb dX12_value_39 (by decide) ?_
        have ha_202 : ((Mv 2) : Int32).toInt ≤ (sv_137 : Int32).toInt ∧ (sv_137 : Int32).toInt ≤ ((Mv 0) : Int32).toInt := by
          have z_1 : ¬ (r_17 : Int32).toInt = (0 : Int32).toInt := fun z => c_22 (Int32.toInt_inj.mp z)
          have z_2 : ¬ (r_141 : Int32).toInt = (0 : Int32).toInt := fun z => c_146 (Int32.toInt_inj.mp z)
          have z_3 := congrArg Int32.toInt c_171
          have y_0 : (0 : Int32).toInt = 0 := by decide
          omega
        have hp_203 : (((0 : Int32).toInt = 0 ∧ ¬ (sv_163 : Int32).toInt = 0) ∨ ((0 : Int32).toInt = 1 ∧ ((Mf 3) (Mv 5).toNatClampNeg).toInt + 1 ≤ ((Mf 3) (Mv 5).toNatClampNeg).toInt ∧ ((Mf 3) (Mv 5).toNatClampNeg).toInt + ((Mv 2) : Int32).toInt ≤ ((Mf 3) (Mv 5).toNatClampNeg).toInt + (sv_137 : Int32).toInt ∧ ((Mv 2) : Int32).toInt + 1 ≤ (sv_137 : Int32).toInt)) := by
          have z_1 : ¬ (r_17 : Int32).toInt = (0 : Int32).toInt := fun z => c_22 (Int32.toInt_inj.mp z)
          have z_2 : ¬ (r_141 : Int32).toInt = (0 : Int32).toInt := fun z => c_146 (Int32.toInt_inj.mp z)
          have z_3 := congrArg Int32.toInt c_171
          have y_0 : (0 : Int32).toInt = 0 := by decide
          omega
        have hm_204 : (0 : Int32).toInt = 0 → (RfE (pz_val (rB (Mf 1) (Mv 0)) (St0 (rB (Mf 1) (Mv 0)) (Mv 2) (Mv 6))) sv_163) := by
          intro h1r
          have hr_205 : 0 ≤ (sv_4 : Int32).toInt := by
            have z_1 : ¬ (r_17 : Int32).toInt = (0 : Int32).toInt := fun z => c_22 (Int32.toInt_inj.mp z)
            have z_2 : ¬ (r_141 : Int32).toInt = (0 : Int32).toInt := fun z => c_146 (Int32.toInt_inj.mp z)
            have z_3 := congrArg Int32.toInt c_171
            have y_0 : (0 : Int32).toInt = 0 := by decide
            omega
          have rg_206 := rB_rg (n := (Mv 0)) h_bs (sv_4 : Int32).toInt.toNat
          have hl_207 : 48 ≤ rB (Mf 1) (Mv 0) (sv_4 : Int32).toInt.toNat ∧ rB (Mf 1) (Mv 0) (sv_4 : Int32).toInt.toNat ≤ 57 := by
            have z_1 : ¬ (r_17 : Int32).toInt = (0 : Int32).toInt := fun z => c_22 (Int32.toInt_inj.mp z)
            have z_2 : ¬ (r_141 : Int32).toInt = (0 : Int32).toInt := fun z => c_146 (Int32.toInt_inj.mp z)
            have z_3 := congrArg Int32.toInt c_171
            have y_0 : (0 : Int32).toInt = 0 := by decide
            omega
          have hr_208 : 60 ≤ (Mv 6).toInt := by
            have z_1 : ¬ (r_17 : Int32).toInt = (0 : Int32).toInt := fun z => c_22 (Int32.toInt_inj.mp z)
            have z_2 : ¬ (r_141 : Int32).toInt = (0 : Int32).toInt := fun z => c_146 (Int32.toInt_inj.mp z)
            have z_3 := congrArg Int32.toInt c_171
            have y_0 : (0 : Int32).toInt = 0 := by decide
            omega
          have hi_209 : (sv_163 : Int32).toInt = 1 + 8 * (sv_4 : Int32).toInt + 3 := by
            have z_1 : ¬ (r_17 : Int32).toInt = (0 : Int32).toInt := fun z => c_22 (Int32.toInt_inj.mp z)
            have z_2 : ¬ (r_141 : Int32).toInt = (0 : Int32).toInt := fun z => c_146 (Int32.toInt_inj.mp z)
            have z_3 := congrArg Int32.toInt c_171
            have y_0 : (0 : Int32).toInt = 0 := by decide
            omega
          exact (RfE.numMax pf_8 hl_207 (by have hq := pf_156; rw [show (0 : Int32).toInt = 0 by decide, show (99999 : Int32).toInt = 99999 by decide] at hq; exact hq) hr_208 hr_205 hi_209)
        exact retI (v := 0) hx hb hr hlk (rfl) hP hD hS (sv_137, sv_163, sv_139, sv_164, (Mf 2), (Mf 3)) ⟨_, rfl, hp_203, ha_202, pf_165, (Agr.rf), (fun h => absurd h (by decide)), hm_204⟩ [3, 2, 0, 1] rfl rfl dX12_value_40 (Nat.le_of_ble_eq_true rfl) (Nat.le_of_ble_eq_true rfl) rfl
set_option maxRecDepth 100000 in
theorem cu_kX12_value (l : Launch) (D : va_G) (tc : Nat → ClassId) (sk : (Nat → Nat) × (Nat → Nat)) (Ma_0 : Nat) (Ma_1 : Nat) (Ma_2 : Nat) (Ma_3 : Nat) (Ma_4 : Nat) (Ma_5 : Nat) (Ma_6 : Nat) (Ma_7 : Nat) (Ma_8 : Nat) (Ma_9 : Nat) (Ma_10 : Nat) (Ma_11 : Nat) (Ma_12 : Nat) (Ma_13 : Nat) (Ma_14 : Nat) (Ma_15 : Nat) (Ma_16 : Nat) (Ma_17 : Nat) (Ma_18 : Nat) (Ma_19 : Nat) (Ma_20 : Nat) (Mv_0 : Int32) (Mv_1 : Int32) (Mv_2 : Int32) (Mv_3 : Int32) (Mv_4 : Int32) (Mv_5 : Int32) (Mv_6 : Int32) (Mv_7 : Int32) (Mv_8 : Int32) (Mv_9 : Int32) (Mv_10 : Int32) (Mv_11 : Int32) (Mv_12 : Int32) (Mv_13 : Int32) (Mv_14 : Int32) (Mf_1 : Nat → Int32) (Mf_2 : Nat → Int32) (Mf_3 : Nat → Int32) (Mj_0 : Int64) (b : Int32) (d : Nat) (ll : List Int) (h_nx : 0 ≤ (Mv_2 : Int32).toInt ∧ (Mv_2 : Int32).toInt ≤ (Mv_0 : Int32).toInt ∧ (Mv_0 : Int32).toInt ≤ 400) (h_cd : Cd Mf_2 Mf_3 Mv_5 b Mv_6 d) (h_L : (Mf_3 Mv_5.toNatClampNeg).toInt ≤ (Mv_2 : Int32).toInt) (h_md : 0 ≤ (Mv_6 : Int32).toInt ∧ (Mv_6 : Int32).toInt ≤ 60) (h_bs : ByS Mf_1) (h_w : (Mv_3 : Int32).toInt = 0) (h_sg : SgC Mf_2 Mf_3 Mv_5 ll) : Ct l yX12_value cX12_value 3 (some .boolean) { frames := 3, cells := 0, slots := 0, locals := 66 } D tc sk [.ref Ma_0] [(Ma_0, .inr (12, [.ref Ma_1, .int Mv_0, .int Mv_1, .ref Ma_2, .ref Ma_3, .ref Ma_4, .ref Ma_5, .ref Ma_6, .int Mv_2, .int Mv_3, .int Mv_4, .int Mv_5, .int Mv_6, .int Mv_7, .int Mv_8, .ref Ma_7, .int Mv_9, .ref Ma_8, .int Mv_10, .ref Ma_9, .ref Ma_10, .int Mv_11, .int Mv_12, .int Mv_13, .ref Ma_11, .int Mv_14, .ref Ma_12, .ref Ma_13, .ref Ma_14, .ref Ma_15, .ref Ma_16, .long Mj_0, .ref Ma_17, .ref Ma_18, .ref Ma_19, .ref Ma_20])), (Ma_1, .inl (tc 2, 400, .inl Mf_1)), (Ma_2, .inl (tc 0, 2400, .inl Mf_2)), (Ma_3, .inl (tc 0, 7, .inl Mf_3))] (fun (v : Option Value) (u : (Int32) × (Int32) × (Int32) × (Int32) × (Nat → Int32) × (Nat → Int32)) => match u with | (oo0x1, oo0x2, oo0x3, oo0x4, oo0x5, oo0x6) => ∃ r : Int32, v = some (.int r) ∧ (((r.toInt = 0 ∧ ¬ (oo0x2 : Int32).toInt = 0) ∨ (r.toInt = 1 ∧ (Mf_3 Mv_5.toNatClampNeg).toInt + 1 ≤ (oo0x6 Mv_5.toNatClampNeg).toInt ∧ (oo0x6 Mv_5.toNatClampNeg).toInt + (Mv_2 : Int32).toInt ≤ (Mf_3 Mv_5.toNatClampNeg).toInt + (oo0x1 : Int32).toInt ∧ (Mv_2 : Int32).toInt + 1 ≤ (oo0x1 : Int32).toInt))) ∧ ((Mv_2 : Int32).toInt ≤ (oo0x1 : Int32).toInt ∧ (oo0x1 : Int32).toInt ≤ (Mv_0 : Int32).toInt) ∧ ((Mv_6 : Int32).toInt ≤ (oo0x4 : Int32).toInt ∧ (oo0x4 : Int32).toInt ≤ 60) ∧ (Agr Mf_2 oo0x5 (400 * (Mv_5 : Int32).toInt + (Mf_3 Mv_5.toNatClampNeg).toInt)) ∧ (r.toInt = 1 → (Cd oo0x5 oo0x6 Mv_5 b oo0x4 (d + 1)) ∧ (RfO (pz_val (rB Mf_1 Mv_0) (St0 (rB Mf_1 Mv_0) Mv_2 Mv_6)) (rB Mf_1 Mv_0) oo0x2 oo0x1 oo0x4) ∧ (SgC oo0x5 oo0x6 Mv_5 (ll ++ lval (rB Mf_1 Mv_0) (St0 (rB Mf_1 Mv_0) Mv_2 Mv_6)))) ∧ (r.toInt = 0 → (RfE (pz_val (rB Mf_1 Mv_0) (St0 (rB Mf_1 Mv_0) Mv_2 Mv_6)) oo0x2))) (fun (u : (Int32) × (Int32) × (Int32) × (Int32) × (Nat → Int32) × (Nat → Int32)) => match u with | (oo0x1, oo0x2, oo0x3, oo0x4, oo0x5, oo0x6) => [(Ma_0, .inr (12, [.ref Ma_1, .int Mv_0, .int Mv_1, .ref Ma_2, .ref Ma_3, .ref Ma_4, .ref Ma_5, .ref Ma_6, .int oo0x1, .int oo0x2, .int oo0x3, .int Mv_5, .int oo0x4, .int Mv_7, .int Mv_8, .ref Ma_7, .int Mv_9, .ref Ma_8, .int Mv_10, .ref Ma_9, .ref Ma_10, .int Mv_11, .int Mv_12, .int Mv_13, .ref Ma_11, .int Mv_14, .ref Ma_12, .ref Ma_13, .ref Ma_14, .ref Ma_15, .ref Ma_16, .long Mj_0, .ref Ma_17, .ref Ma_18, .ref Ma_19, .ref Ma_20])), (Ma_1, .inl (tc 2, 400, .inl Mf_1)), (Ma_2, .inl (tc 0, 2400, .inl oo0x5)), (Ma_3, .inl (tc 0, 7, .inl oo0x6))]) 0 0 :=
  ct_kX12_value l D tc sk (fun k => ([Ma_0, Ma_1, Ma_2, Ma_3, Ma_4, Ma_5, Ma_6, Ma_7, Ma_8, Ma_9, Ma_10, Ma_11, Ma_12, Ma_13, Ma_14, Ma_15, Ma_16, Ma_17, Ma_18, Ma_19, Ma_20] : List (Nat)).getD k 0) (fun k => ([Mv_0, Mv_1, Mv_2, Mv_3, Mv_4, Mv_5, Mv_6, Mv_7, Mv_8, Mv_9, Mv_10, Mv_11, Mv_12, Mv_13, Mv_14] : List (Int32)).getD k 0) (fun k => ([(fun _ => 0), Mf_1, Mf_2, Mf_3] : List (Nat → Int32)).getD k (fun _ => 0)) (fun k => ([Mj_0] : List (Int64)).getD k 0) b d ll h_nx h_cd h_L h_md h_bs h_w h_sg
