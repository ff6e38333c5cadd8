set_option maxRecDepth 16384
theorem wb_tb (n : Nat) : (lN n).toBitVec = BitVec.ofNat 64 n := rfl
theorem wb_inj {a b : Int64} (h : a.toBitVec = b.toBitVec) : a = b := Int64.toBitVec_inj.mp h
theorem wb_c : ∀ k, k < 64 → ((nI k).toInt64 &&& 63) = lN k := by decide +kernel
theorem wb_sm : ∀ k, k < 64 → (BitVec.ofNat 64 k).smod 64 = BitVec.ofNat 64 k := by decide +kernel
theorem wb_shl (n : Nat) {k : Nat} (hk : k < 64) : lN n <<< ((nI k).toInt64 &&& 63) = lN (n * 2 ^ k) := by
  rw [wb_c k hk]
  apply wb_inj
  rw [Int64.toBitVec_shiftLeft, wb_tb, wb_tb, wb_tb, wb_sm k hk]
  apply BitVec.eq_of_toNat_eq
  rw [BitVec.shiftLeft_eq', BitVec.toNat_shiftLeft, BitVec.toNat_ofNat, BitVec.toNat_ofNat, BitVec.toNat_ofNat, Nat.mod_eq_of_lt (show k < 2 ^ 64 by omega), Nat.shiftLeft_eq, Nat.mul_mod, Nat.mod_mod, ← Nat.mul_mod]
theorem u_tn {n : Nat} (h : n < 2 ^ 64) : (UInt64.ofNat n).toNat = n := Nat.mod_eq_of_lt h
theorem g_or {k p a b : Nat} (hp : 2 ^ k = p) (ha : a < p) (h : b * p + a < 2 ^ 64) : lN (b * p) ||| lN a = lN (b * p + a) := by
  subst hp
  have h1 : b * 2 ^ k ||| a = b * 2 ^ k + a := by rw [← Nat.shiftLeft_eq, Nat.shiftLeft_add_eq_or_of_lt ha]
  have h3 : UInt64.ofNat (b * 2 ^ k) ||| UInt64.ofNat a = UInt64.ofNat (b * 2 ^ k + a) := UInt64.toNat_inj.mp (by rw [UInt64.toNat_or, u_tn (by omega), u_tn (by omega), u_tn h, h1])
  have h2 := congrArg UInt64.toInt64 h3
  exact h2
def rB (f : Nat → Int32) (n : Int32) (k : Nat) : Int := if (k : Int) < n.toInt then (f k).toInt % 256 else -1
def ByS (f : Nat → Int32) : Prop := ∀ k : Nat, -128 ≤ (f k).toInt ∧ (f k).toInt ≤ 127
theorem rB_in {f : Nat → Int32} {n : Int32} {k : Nat} (h : (k : Int) < n.toInt) : rB f n k = (f k).toInt % 256 := if_pos h
theorem rB_out {f : Nat → Int32} {n : Int32} {k : Nat} (h : n.toInt ≤ (k : Int)) : rB f n k = -1 := if_neg (by omega)
theorem rB_fi {f : Nat → Int32} {n : Int32} (h : n.toInt ≤ 400) : pz_fi (rB f n) := fun k hk => rB_out (by omega)
theorem rB_rg {f : Nat → Int32} {n : Int32} (h : ByS f) (k : Nat) : ((k : Int) < n.toInt ∧ 0 ≤ rB f n k ∧ rB f n k ≤ 255 ∧ ((rB f n k = (f k).toInt ∧ rB f n k ≤ 127) ∨ (128 ≤ rB f n k ∧ (f k).toInt < 0))) ∨ (n.toInt ≤ (k : Int) ∧ rB f n k = -1) := by
  by_cases z : (k : Int) < n.toInt
  · left
    have := h k
    rw [rB_in z]
    omega
  · right; exact ⟨by omega, rB_out (by omega)⟩
def RnB (P : Int → Bool) (B : Nat → Int) (p q : Int) : Prop := p ≤ q ∧ ∀ i : Nat, p ≤ (i : Int) → (i : Int) < q → P (B i) = true
theorem RnB.rf {P : Int → Bool} {B : Nat → Int} {p : Int} : RnB P B p p := ⟨Int.le_refl _, fun i a b => by omega⟩
theorem RnB.st {P : Int → Bool} {B : Nat → Int} {p q q' : Int} (h : RnB P B p q) (h0 : 0 ≤ q) (hP : P (B q.toNat) = true) (hq : q' = q + 1) : RnB P B p q' := by
  have hp := h.1
  refine ⟨by omega, fun i a b => ?_⟩
  by_cases z : (i : Int) < q
  · exact h.2 i a z
  · rw [show i = q.toNat by omega]; exact hP
theorem RnB.run {P : Int → Bool} {B : Nat → Int} {p q : Int} (h : RnB P B p q) (h0 : 0 ≤ p) (h4 : q ≤ 400) (hq : ¬ P (B q.toNat) = true) : pz_run P B 401 p.toNat = q.toNat := by
  have hp := h.1
  exact pz_run_eq 401 _ _ (by omega) (by omega) (fun i a b => h.2 i (by omega) (by omega)) hq
theorem getD_ap {t s : List Int} {i : Nat} (h : i < t.length) : (t ++ s).getD i 0 = t.getD i 0 := by
  rw [List.getD_eq_getElem?_getD, List.getD_eq_getElem?_getD, List.getElem?_append_left h]
def pz_pk (B : Nat → Int) (p : Nat) : Nat → Int
  | 0 => 0
  | k + 1 => pz_pk B p k * 256 + B (p + k)
def pz_pl : List Int → Int
  | [] => 0
  | x :: t => x * 256 ^ t.length + pz_pl t
theorem pz_pl_snoc (x : Int) : ∀ t : List Int, pz_pl (t ++ [x]) = pz_pl t * 256 + x
  | [] => by simp [pz_pl]
  | y :: t => by
    have ih := pz_pl_snoc x t
    show y * 256 ^ (t ++ [x]).length + pz_pl (t ++ [x]) = (y * 256 ^ t.length + pz_pl t) * 256 + x
    rw [ih, List.length_append, List.length_singleton, Int.pow_succ, Int.add_mul, Int.mul_assoc]
    omega
theorem pz_pk_nn {B : Nat → Int} {p : Nat} : ∀ n : Nat, (∀ i, i < n → 97 ≤ B (p + i) ∧ B (p + i) ≤ 122) → 0 ≤ pz_pk B p n
  | 0, _ => Int.le_refl _
  | n + 1, h => by
    have h1 := pz_pk_nn n (fun i hi => h i (by omega))
    have h2 := h n (by omega)
    show 0 ≤ pz_pk B p n * 256 + B (p + n)
    omega
theorem pz_pl_nn : ∀ L : List Int, (∀ x ∈ L, 97 ≤ x ∧ x ≤ 122) → 0 ≤ pz_pl L
  | [], _ => Int.le_refl _
  | x :: t, h => by
    have h1 := pz_pl_nn t (fun y hy => h y (List.mem_cons_of_mem _ hy))
    have h2 := h x List.mem_cons_self
    have h3 : 0 ≤ x * 256 ^ t.length := Int.mul_nonneg (by omega) (Int.pow_nonneg (by decide))
    show 0 ≤ x * 256 ^ t.length + pz_pl t
    omega
theorem pz_pk_inj {B : Nat → Int} {p : Nat} : ∀ (n : Nat) (L : List Int), (∀ i, i < n → 97 ≤ B (p + i) ∧ B (p + i) ≤ 122) → (∀ x ∈ L, 97 ≤ x ∧ x ≤ 122) → pz_pk B p n = pz_pl L → n = L.length ∧ ∀ i, i < n → B (p + i) = L.getD i 0
  | 0, L, _, hL, e => by
    cases L with
    | nil => exact ⟨rfl, fun i hi => absurd hi (Nat.not_lt_zero i)⟩
    | cons x t =>
      exfalso
      have h1 := pz_pl_nn t (fun y hy => hL y (List.mem_cons_of_mem _ hy))
      have h2 := hL x List.mem_cons_self
      have h4 : (1 : Int) ≤ 256 ^ t.length := by
        have := Nat.pow_pos (n := t.length) (show 0 < 256 by decide)
        exact_mod_cast this
      have h3 : 97 * 1 ≤ x * 256 ^ t.length := Int.mul_le_mul h2.1 h4 (by decide) (by omega)
      have e : 0 = x * 256 ^ t.length + pz_pl t := e
      omega
  | n + 1, L, hB, hL, e => by
    have hb := hB n (by omega)
    have e : pz_pk B p n * 256 + B (p + n) = pz_pl L := e
    rcases List.eq_nil_or_concat L with rfl | ⟨t, x, rfl⟩
    · exfalso
      have h1 := pz_pk_nn (B := B) (p := p) n (fun i hi => hB i (by omega))
      have e : pz_pk B p n * 256 + B (p + n) = 0 := e
      omega
    · have hx := hL x (by simp)
      rw [List.concat_eq_append, pz_pl_snoc] at e
      have e1 : B (p + n) = x := by omega
      have e2 : pz_pk B p n = pz_pl t := by omega
      obtain ⟨h1, h2⟩ := pz_pk_inj n t (fun i hi => hB i (by omega)) (fun y hy => hL y (by simp [hy])) e2
      refine ⟨by simp [h1], fun i hi => ?_⟩
      by_cases z : i < n
      · rw [h2 i z, List.concat_eq_append, getD_ap (by omega)]
      · have : i = n := by omega
        subst this
        rw [e1, List.concat_eq_append, h1]
        simp
theorem pz_pk_of {B : Nat → Int} {p : Nat} (L : List Int) : (∀ i, i < L.length → B (p + i) = L.getD i 0) → pz_pk B p L.length = pz_pl L := by
  suffices h : ∀ (n : Nat) (L : List Int), L.length = n → (∀ i, i < L.length → B (p + i) = L.getD i 0) → pz_pk B p L.length = pz_pl L from h _ L rfl
  intro n
  induction n with
  | zero => intro L hL _; rw [List.eq_nil_of_length_eq_zero hL]; rfl
  | succ n ih =>
    intro L hL h
    rcases List.eq_nil_or_concat L with rfl | ⟨t, x, rfl⟩
    · simp at hL
    · rw [List.concat_eq_append] at *
      have ht : t.length = n := by simpa using hL
      have h1 := ih t ht (fun i hi => by rw [h i (by simp; omega), getD_ap hi])
      have h2 : B (p + t.length) = x := by rw [h t.length (by simp)]; simp
      rw [pz_pl_snoc, List.length_append, List.length_singleton]
      show pz_pk B p t.length * 256 + B (p + t.length) = _
      rw [h1, h2]
def PkW (B : Nat → Int) (p : Nat) (w : Int) : Prop := ∃ n : Nat, 1 ≤ n ∧ n ≤ 7 ∧ pz_run pz_isL B 401 p = p + n ∧ pz_pk B p n = w
theorem PkW.wd {B : Nat → Int} {p : Nat} {L : List Int} (hL : ∀ x ∈ L, 97 ≤ x ∧ x ≤ 122) (h1 : 1 ≤ L.length) (h7 : L.length ≤ 7) : PkW B p (pz_pl L) ↔ pz_wd B p L = true := by
  constructor
  · rintro ⟨n, hn1, hn7, hr, hp⟩
    have hB : ∀ i, i < n → 97 ≤ B (p + i) ∧ B (p + i) ≤ 122 := fun i hi => of_decide_eq_true (pz_run_all (P := pz_isL) (B := B) 401 p (p + i) (by omega) (by rw [hr]; omega))
    obtain ⟨e1, e2⟩ := pz_pk_inj n L hB hL hp
    subst e1
    refine decide_eq_true ⟨?_, e2⟩
    unfold pz_te
    rw [if_pos (show pz_isL (B p) = true from decide_eq_true (hB 0 (by omega)))]
    exact hr
  · intro h
    obtain ⟨h2, h3⟩ := of_decide_eq_true h
    have hl : ∀ i, i < L.length → 97 ≤ B (p + i) ∧ B (p + i) ≤ 122 := fun i hi => by
      rw [h3 i hi]
      refine hL _ ?_
      rw [List.getD_eq_getElem?_getD, List.getElem?_eq_getElem hi]
      exact List.getElem_mem hi
    refine ⟨L.length, h1, h7, ?_, pz_pk_of L h3⟩
    rw [← h2]
    unfold pz_te
    rw [if_pos (show pz_isL (B p) = true from decide_eq_true (hl 0 (by omega)))]
def RfO (r : Except Int (Nat × Nat)) (B : Nat → Int) (wr nx md : Int32) : Prop := ∃ s, r = .ok s ∧ wr.toInt = 0 ∧ pz_sk B nx.toInt.toNat = s.1 ∧ md.toInt = (s.2 : Int)
def RfE (r : Except Int (Nat × Nat)) (wr : Int32) : Prop := ∃ e, r = .error e ∧ wr.toInt = e
def St0 (B : Nat → Int) (nx md : Int32) : Nat × Nat := (pz_sk B nx.toInt.toNat, md.toInt.toNat)
def SkR (B : Nat → Int) (a b : Int32) : Prop := b.toInt = (pz_sk B a.toInt.toNat : Int) ∧ pz_sk B b.toInt.toNat = b.toInt.toNat ∧ ¬ B b.toInt.toNat = 32
theorem pz_sk_rf {B : Nat → Int} {p : Nat} (h : ¬ B p = 32) : pz_sk B p = p := pz_run_eq 401 p p (Nat.le_refl _) (by omega) (fun i a b => by omega) (fun z => h (of_decide_eq_true z))
theorem SkR.of {B : Nat → Int} {a b : Int32} (h : RnB pz_isS B a.toInt b.toInt) (h0 : 0 ≤ a.toInt) (h4 : b.toInt ≤ 400) (hn : ¬ B b.toInt.toNat = 32) : SkR B a b := by
  have hp := h.1
  refine ⟨?_, pz_sk_rf hn, hn⟩
  have e : pz_sk B a.toInt.toNat = b.toInt.toNat := h.run h0 h4 (fun z => hn (of_decide_eq_true z))
  rw [e]; omega
theorem SkR.sk {B : Nat → Int} {a b : Int32} (h : SkR B a b) : pz_sk B b.toInt.toNat = pz_sk B a.toInt.toNat := by
  have := h.1
  rw [h.2.1]; omega
theorem SkR.nat {B : Nat → Int} {a b : Int32} (h : SkR B a b) : pz_sk B a.toInt.toNat = b.toInt.toNat := by
  have := h.1
  omega
theorem SkR.trans {B : Nat → Int} {a b c : Int32} (h : SkR B a b) (h2 : SkR B b c) : SkR B a c := by
  refine ⟨?_, h2.2⟩
  rw [← h.sk]; exact h2.1
def PsR (B : Nat → Int) (a b : Int32) : Prop := b.toInt = (pz_run pz_isL B 401 a.toInt.toNat : Int)
theorem PsR.of {B : Nat → Int} {a b : Int32} (h : RnB pz_isL B a.toInt b.toInt) (h0 : 0 ≤ a.toInt) (h4 : b.toInt ≤ 400) (hn : ¬ (97 ≤ B b.toInt.toNat ∧ B b.toInt.toNat ≤ 122)) : PsR B a b := by
  have hp := h.1
  have e : pz_run pz_isL B 401 a.toInt.toNat = b.toInt.toNat := h.run h0 h4 (fun z => hn (of_decide_eq_true z))
  unfold PsR
  rw [e]; omega
theorem PsR.te {B : Nat → Int} {a b : Int32} (h : PsR B a b) (hL : 97 ≤ B a.toInt.toNat ∧ B a.toInt.toNat ≤ 122) : b.toInt.toNat = pz_te B a.toInt.toNat := by
  have := h
  unfold PsR at this
  unfold pz_te
  rw [if_pos (show pz_isL (B a.toInt.toNat) = true from decide_eq_true hL)]
  omega
def NPk (B : Nat → Int) (p : Nat) (w : Int) : Prop := ¬ PkW B p w
theorem and255 (y : Int32) : (y &&& 255).toInt = y.toInt % 256 := by
  have h1 : (y &&& 255).toBitVec.toNat = y.toBitVec.toNat % 256 := by
    show (y.toBitVec &&& 255#32).toNat = _
    rw [BitVec.toNat_and]
    exact Nat.and_two_pow_sub_one_eq_mod _ 8
  have h2 : (y &&& 255).toInt = ((y &&& 255).toBitVec.toNat : Int) := by
    show (y &&& 255).toBitVec.toInt = _
    rw [BitVec.toInt_eq_toNat_cond, if_pos (by omega)]
  have h3 : y.toInt = if 2 * y.toBitVec.toNat < 2 ^ 32 then (y.toBitVec.toNat : Int) else (y.toBitVec.toNat : Int) - ((2 ^ 32 : Nat) : Int) := BitVec.toInt_eq_toNat_cond y.toBitVec
  have h4 := y.toBitVec.isLt
  rw [h2, h1]
  split at h3 <;> omega
theorem nI_ofP {y : Int32} (h : 0 ≤ y.toInt) : y = nI y.toInt.toNat := by
  apply Int32.toInt_inj.mp
  rw [nI_toInt (by have := y.toInt_lt; omega)]
  omega
theorem lN_tI {k : Nat} (h : k < 2 ^ 63) : (lN k).toInt = (k : Int) := by
  show (BitVec.ofNat 64 k).toInt = (k : Int)
  rw [BitVec.toInt_eq_toNat_cond, BitVec.toNat_ofNat, Nat.mod_eq_of_lt (by omega), if_pos (by omega)]
theorem pz_pk_lt {B : Nat → Int} {p : Nat} : ∀ n : Nat, (∀ i, i < n → 97 ≤ B (p + i) ∧ B (p + i) ≤ 122) → pz_pk B p n < 256 ^ n
  | 0, _ => Int.zero_lt_one
  | n + 1, h => by
    have h1 := pz_pk_lt n (fun i hi => h i (by omega))
    have h2 := h n (by omega)
    show pz_pk B p n * 256 + B (p + n) < 256 ^ (n + 1)
    rw [Int.pow_succ]
    omega
def PkV (B : Nat → Int) (nx n : Int32) (v : Int64) : Prop := n.toInt ≤ 7 → v = lN (pz_pk B nx.toInt.toNat n.toInt.toNat).toNat
theorem PkV.nil {B : Nat → Int} {nx : Int32} : PkV B nx 0 0 := fun _ => rfl
theorem PkV.big {B : Nat → Int} {nx n : Int32} {v : Int64} (h : 8 ≤ n.toInt) : PkV B nx n v := fun z => by omega
theorem RnB.let {B : Nat → Int} {p q : Int} (h : RnB pz_isL B p q) (h0 : 0 ≤ p) : ∀ i : Nat, i < (q - p).toNat → 97 ≤ B (p.toNat + i) ∧ B (p.toNat + i) ≤ 122 := fun i hi => of_decide_eq_true (h.2 (p.toNat + i) (by omega) (by omega))
theorem PkV.st {B : Nat → Int} {nx n n' y : Int32} {v v' x1 : Int64} (h : PkV B nx n v) (hr : RnB pz_isL B nx.toInt (nx.toInt + n.toInt)) (h0 : 0 ≤ nx.toInt ∧ 0 ≤ n.toInt) (hy : y.toInt = B (nx.toInt.toNat + n.toInt.toNat)) (hL : 97 ≤ y.toInt ∧ y.toInt ≤ 122) (e1 : x1 = v <<< ((8 : Int32).toInt64 &&& 63)) (e2 : v' = x1 ||| y.toInt64) (hn : n'.toInt = n.toInt + 1) : PkV B nx n' v' := fun z => by
  have hv := h (by omega)
  have hlet : ∀ i, i < n.toInt.toNat → 97 ≤ B (nx.toInt.toNat + i) ∧ B (nx.toInt.toNat + i) ≤ 122 := fun i hi => hr.let h0.1 i (by omega)
  have h1 := pz_pk_nn n.toInt.toNat hlet
  have h2 := pz_pk_lt n.toInt.toNat hlet
  have h3 : (256 : Int) ^ n.toInt.toNat ≤ 256 ^ 6 := by
    have := Nat.pow_le_pow_right (n := 256) (by decide) (show n.toInt.toNat ≤ 6 by omega)
    have h4 : ((256 ^ n.toInt.toNat : Nat) : Int) ≤ ((256 ^ 6 : Nat) : Int) := Int.ofNat_le.mpr this
    rw [Int.natCast_pow, Int.natCast_pow] at h4
    exact h4
  obtain ⟨a, ha⟩ : ∃ a : Nat, (pz_pk B nx.toInt.toNat n.toInt.toNat).toNat = a := ⟨_, rfl⟩
  have ha2 : (a : Int) < 281474976710656 := by
    have : (256 : Int) ^ 6 = 281474976710656 := by decide
    omega
  rw [ha] at hv
  have e3 : y.toInt64 = lN y.toInt.toNat := by
    conv => lhs; rw [nI_ofP (y := y) (by omega)]
    exact nI_l (by omega)
  have e4 : lN a <<< ((8 : Int32).toInt64 &&& 63) = lN (a * 256) := wb_shl a (k := 8) (by decide)
  rw [e2, e1, hv, e3, e4, g_or (k := 8) (p := 256) rfl (by omega) (by omega)]
  congr 1
  rw [show n'.toInt.toNat = n.toInt.toNat + 1 by omega]
  show a * 256 + y.toInt.toNat = (pz_pk B nx.toInt.toNat n.toInt.toNat * 256 + B (nx.toInt.toNat + n.toInt.toNat)).toNat
  omega
theorem run_at {B : Nat → Int} {nx n : Int32} (hr : RnB pz_isL B nx.toInt (nx.toInt + n.toInt)) (h0 : 0 ≤ nx.toInt ∧ 0 ≤ n.toInt ∧ nx.toInt + n.toInt ≤ 400) (he : ¬ (97 ≤ B (nx.toInt + n.toInt).toNat ∧ B (nx.toInt + n.toInt).toNat ≤ 122)) : pz_run pz_isL B 401 nx.toInt.toNat = nx.toInt.toNat + n.toInt.toNat := by
  have := hr.run h0.1 h0.2.2 (fun z => he (of_decide_eq_true z))
  rw [this]; omega
theorem PkW.of {B : Nat → Int} {nx n : Int32} {v w : Int64} (h : PkV B nx n v) (hr : RnB pz_isL B nx.toInt (nx.toInt + n.toInt)) (h0 : 0 ≤ nx.toInt ∧ 0 ≤ n.toInt ∧ nx.toInt + n.toInt ≤ 400) (he : ¬ (97 ≤ B (nx.toInt + n.toInt).toNat ∧ B (nx.toInt + n.toInt).toNat ≤ 122)) (hn : 1 ≤ n.toInt ∧ n.toInt ≤ 7) (hw : v.toInt = w.toInt) : PkW B nx.toInt.toNat w.toInt := by
  have hlet : ∀ i, i < n.toInt.toNat → 97 ≤ B (nx.toInt.toNat + i) ∧ B (nx.toInt.toNat + i) ≤ 122 := fun i hi => hr.let h0.1 i (by omega)
  refine ⟨n.toInt.toNat, by omega, by omega, run_at hr h0 he, ?_⟩
  have h1 := pz_pk_nn n.toInt.toNat hlet
  have h2 := pz_pk_lt n.toInt.toNat hlet
  have h3 : (256 : Int) ^ n.toInt.toNat ≤ 256 ^ 7 := by
    have := Nat.pow_le_pow_right (n := 256) (by decide) (show n.toInt.toNat ≤ 7 by omega)
    have h4 : ((256 ^ n.toInt.toNat : Nat) : Int) ≤ ((256 ^ 7 : Nat) : Int) := Int.ofNat_le.mpr this
    rw [Int.natCast_pow, Int.natCast_pow] at h4
    exact h4
  have h4 : (256 : Int) ^ 7 = 72057594037927936 := by decide
  rw [← hw, h hn.2, lN_tI (by omega)]
  omega
theorem NPk.of {B : Nat → Int} {nx n : Int32} {v w : Int64} (h : PkV B nx n v) (hr : RnB pz_isL B nx.toInt (nx.toInt + n.toInt)) (h0 : 0 ≤ nx.toInt ∧ 0 ≤ n.toInt ∧ nx.toInt + n.toInt ≤ 400) (he : ¬ (97 ≤ B (nx.toInt + n.toInt).toNat ∧ B (nx.toInt + n.toInt).toNat ≤ 122)) (hn : n.toInt ≤ 0 ∨ 8 ≤ n.toInt ∨ (n.toInt ≤ 7 ∧ ¬ v.toInt = w.toInt)) : NPk B nx.toInt.toNat w.toInt := fun ⟨k, hk1, hk7, hk, hp⟩ => by
  have hlet : ∀ i, i < n.toInt.toNat → 97 ≤ B (nx.toInt.toNat + i) ∧ B (nx.toInt.toNat + i) ≤ 122 := fun i hi => hr.let h0.1 i (by omega)
  have e := run_at hr h0 he
  have ek : k = n.toInt.toNat := by omega
  subst ek
  rcases hn with hn | hn | hn
  · omega
  · omega
  · refine hn.2 ?_
    have h1 := pz_pk_nn n.toInt.toNat hlet
    have h2 := pz_pk_lt n.toInt.toNat hlet
    have h3 : (256 : Int) ^ n.toInt.toNat ≤ 256 ^ 7 := by
      have := Nat.pow_le_pow_right (n := 256) (by decide) (show n.toInt.toNat ≤ 7 by omega)
      have h4 : ((256 ^ n.toInt.toNat : Nat) : Int) ≤ ((256 ^ 7 : Nat) : Int) := Int.ofNat_le.mpr this
      rw [Int.natCast_pow, Int.natCast_pow] at h4
      exact h4
    have h4 : (256 : Int) ^ 7 = 72057594037927936 := by decide
    rw [h hn.1, lN_tI (by omega), ← hp]
    omega
def NvF (B : Nat → Int) (a v i : Int32) : Prop := (i.toInt - a.toInt ≤ 5 → Nv B a v i) ∧ 0 ≤ v.toInt ∧ v.toInt ≤ 99999
theorem NvF.nil {B : Nat → Int} {a : Int32} : NvF B a 0 a := ⟨fun _ => Nv.nil, by decide, by decide⟩
theorem NvF.st {B : Nat → Int} {a v v' i i' x : Int32} (h : NvF B a v i) (hi : 0 ≤ a.toInt ∧ a.toInt ≤ i.toInt) (h5 : i.toInt - a.toInt < 5) (hx : x.toInt = B i.toInt.toNat) (hd : 48 ≤ x.toInt ∧ x.toInt ≤ 57) (hv : v'.toInt = v.toInt * 10 + x.toInt - 48) (hi' : i'.toInt = i.toInt + 1) : NvF B a v' i' := by
  have h1 := Nv.st (h.1 (by omega)) hi hx hd hv hi'
  have h2 := Nv.ar (h.1 (by omega))
  have h3 := h2.2.2 (by omega)
  exact ⟨fun _ => h1, by omega, by omega⟩
theorem NvF.go {B : Nat → Int} {a v i i' : Int32} (h : NvF B a v i) (h5 : 5 ≤ i.toInt - a.toInt) (hi' : i'.toInt = i.toInt + 1) : NvF B a v i' := ⟨fun z => by omega, h.2⟩
def NmO (B : Nat → Int) (lo hi : Int) (nx nu nx' wr : Int32) : Prop := pz_num B lo hi (pz_sk B nx.toInt.toNat) = .ok nu.toInt ∧ nx'.toInt = (pz_te B (pz_sk B nx.toInt.toNat) : Int) ∧ wr.toInt = 0
def NmE (B : Nat → Int) (lo hi : Int) (nx wr : Int32) : Prop := pz_num B lo hi (pz_sk B nx.toInt.toNat) = .error wr.toInt
theorem te_run {B : Nat → Int} {at' nx : Int32} (h : RnB pz_isD B at'.toInt nx.toInt) (h0 : 0 ≤ at'.toInt) (h4 : nx.toInt ≤ 400) (h1 : 48 ≤ B at'.toInt.toNat ∧ B at'.toInt.toNat ≤ 57) (hn : ¬ (48 ≤ B nx.toInt.toNat ∧ B nx.toInt.toNat ≤ 57)) : pz_te B at'.toInt.toNat = nx.toInt.toNat := by
  unfold pz_te
  rw [if_neg (fun z => by have := of_decide_eq_true z; omega), if_pos (show pz_isD (B at'.toInt.toNat) = true from decide_eq_true h1)]
  exact h.run h0 h4 (fun z => hn (of_decide_eq_true z))
theorem NmE.nd {B : Nat → Int} {lo hi : Int} {nx nx' wr : Int32} (hs : SkR B nx nx') (hd : ¬ (48 ≤ B nx'.toInt.toNat ∧ B nx'.toInt.toNat ≤ 57)) (h0 : 0 ≤ nx'.toInt) (hw : wr.toInt = 1 + 8 * nx'.toInt) : NmE B lo hi nx wr := by
  unfold NmE
  rw [hs.nat]
  rw [show pz_num B lo hi nx'.toInt.toNat = .error (pz_er 0 nx'.toInt.toNat) from if_neg (fun z => hd (of_decide_eq_true z))]
  congr 1
  unfold pz_er; omega
theorem num_at {B : Nat → Int} {lo hi : Int} {at' nx v : Int32} (h : RnB pz_isD B at'.toInt nx.toInt) (h0 : 0 ≤ at'.toInt) (h4 : nx.toInt ≤ 400) (h1 : 48 ≤ B at'.toInt.toNat ∧ B at'.toInt.toNat ≤ 57) (hn : ¬ (48 ≤ B nx.toInt.toNat ∧ B nx.toInt.toNat ≤ 57)) (hv : NvF B at' v nx) : pz_num B lo hi at'.toInt.toNat = if 5 < nx.toInt - at'.toInt ∨ v.toInt < lo ∨ hi < v.toInt then (if 5 < nx.toInt - at'.toInt then .error (pz_er 1 at'.toInt.toNat) else .error (pz_er 1 at'.toInt.toNat)) else .ok v.toInt := by
  have hp := h.1
  rw [num_dig (decide_eq_true h1), te_run h h0 h4 h1 hn]
  by_cases z : 5 < nx.toInt - at'.toInt
  · rw [if_pos (by omega), if_pos (Or.inl z), if_pos z]
  · have e := (hv.1 (by omega)).1
    rw [if_neg (by omega), show nx.toInt.toNat - at'.toInt.toNat = (nx.toInt - at'.toInt).toNat by omega, ← e]
    by_cases y : v.toInt < lo ∨ hi < v.toInt
    · rw [if_pos y, if_pos (Or.inr y), if_neg z]
    · rw [if_neg y, if_neg (by omega)]
theorem NmE.of {B : Nat → Int} {lo hi : Int} {n0 at' nx v wr : Int32} (hs : SkR B n0 at') (h : RnB pz_isD B at'.toInt nx.toInt) (h0 : 0 ≤ at'.toInt) (h4 : nx.toInt ≤ 400) (h1 : 48 ≤ B at'.toInt.toNat ∧ B at'.toInt.toNat ≤ 57) (hn : ¬ (48 ≤ B nx.toInt.toNat ∧ B nx.toInt.toNat ≤ 57)) (hv : NvF B at' v nx) (ho : 5 < nx.toInt - at'.toInt ∨ v.toInt < lo ∨ hi < v.toInt) (hw : wr.toInt = 1 + 8 * at'.toInt + 1) : NmE B lo hi n0 wr := by
  unfold NmE
  rw [hs.nat, num_at h h0 h4 h1 hn hv, if_pos ho]
  have : wr.toInt = pz_er 1 at'.toInt.toNat := by unfold pz_er; omega
  rw [this]
  split <;> rfl
theorem NmO.of {B : Nat → Int} {lo hi : Int} {n0 at' nx v wr : Int32} (hs : SkR B n0 at') (h : RnB pz_isD B at'.toInt nx.toInt) (h0 : 0 ≤ at'.toInt) (h4 : nx.toInt ≤ 400) (h1 : 48 ≤ B at'.toInt.toNat ∧ B at'.toInt.toNat ≤ 57) (hn : ¬ (48 ≤ B nx.toInt.toNat ∧ B nx.toInt.toNat ≤ 57)) (hv : NvF B at' v nx) (ho : ¬ (5 < nx.toInt - at'.toInt ∨ v.toInt < lo ∨ hi < v.toInt)) (hw : wr.toInt = 0) : NmO B lo hi n0 v nx wr := by
  have hp := h.1
  refine ⟨?_, ?_, hw⟩
  · rw [hs.nat, num_at h h0 h4 h1 hn hv, if_neg ho]
  · rw [hs.nat, te_run h h0 h4 h1 hn]; omega
theorem val_num {B : Nat → Int} {p c : Nat} (h : 48 ≤ B p ∧ B p ≤ 57) : pz_val B (p, c) = pz_b (pz_num B 0 99999 p) (fun _ => pz_cnt B (p, c)) := if_pos (decide_eq_true h)
theorem val_word {B : Nat → Int} {p c : Nat} (h : ¬ (48 ≤ B p ∧ B p ≤ 57)) (hw : ¬ pz_wa B p pz_words 0 = -1) : pz_val B (p, c) = pz_cnt B (p, c) := (if_neg (fun z => h (of_decide_eq_true z))).trans (if_neg hw)
theorem val_none {B : Nat → Int} {p c : Nat} (h : ¬ (48 ≤ B p ∧ B p ≤ 57)) (hw : pz_wa B p pz_words 0 = -1) : pz_val B (p, c) = .error (pz_er 0 p) := (if_neg (fun z => h (of_decide_eq_true z))).trans (if_pos hw)
theorem RfE.num {B : Nat → Int} {nx n1 md wr : Int32} (hs : SkR B nx n1) (hd : 48 ≤ B n1.toInt.toNat ∧ B n1.toInt.toNat ≤ 57) (hn : NmE B 0 99999 n1 wr) : RfE (pz_val B (St0 B nx md)) wr := by
  unfold NmE at hn
  rw [hs.sk, hs.nat] at hn
  refine ⟨wr.toInt, ?_, rfl⟩
  unfold St0
  rw [hs.nat, val_num hd, hn]
  rfl
theorem cnt_max {B : Nat → Int} {p c : Nat} (h : 60 ≤ c) : pz_cnt B (p, c) = .error (pz_er 3 p) := if_pos h
theorem cnt_one {B : Nat → Int} {p c : Nat} (h : ¬ 60 ≤ c) : pz_cnt B (p, c) = .ok (pz_nt B p, c + 1) := if_neg h
theorem RfE.numMax {B : Nat → Int} {nx n1 n2 nu md wr0 wr : Int32} (hs : SkR B nx n1) (hd : 48 ≤ B n1.toInt.toNat ∧ B n1.toInt.toNat ≤ 57) (hn : NmO B 0 99999 n1 nu n2 wr0) (hm : 60 ≤ md.toInt) (h0 : 0 ≤ n1.toInt) (hw : wr.toInt = 1 + 8 * n1.toInt + 3) : RfE (pz_val B (St0 B nx md)) wr := by
  have hn := hn.1
  rw [hs.sk, hs.nat] at hn
  refine ⟨wr.toInt, ?_, rfl⟩
  unfold St0
  rw [hs.nat, val_num hd, hn]
  show pz_cnt B (n1.toInt.toNat, md.toInt.toNat) = _
  rw [cnt_max (by omega)]
  congr 1
  unfold pz_er; omega
theorem RfO.num {B : Nat → Int} {nx n1 n2 nu md md' wr0 wr : Int32} (hs : SkR B nx n1) (hd : 48 ≤ B n1.toInt.toNat ∧ B n1.toInt.toNat ≤ 57) (hn : NmO B 0 99999 n1 nu n2 wr0) (hm : 0 ≤ md.toInt ∧ md.toInt < 60 ∧ md'.toInt = md.toInt + 1) (hw : wr.toInt = 0) : RfO (pz_val B (St0 B nx md)) B wr n2 md' := by
  obtain ⟨h1, h2, -⟩ := hn
  rw [hs.sk, hs.nat] at h1 h2
  refine ⟨(pz_nt B n1.toInt.toNat, md.toInt.toNat + 1), ?_, hw, ?_, ?_⟩
  · unfold St0
    rw [hs.nat, val_num hd, h1]
    exact cnt_one (by omega)
  · show pz_sk B n2.toInt.toNat = pz_sk B (pz_te B n1.toInt.toNat)
    rw [show n2.toInt.toNat = pz_te B n1.toInt.toNat by omega]
  · show md'.toInt = ((md.toInt.toNat + 1 : Nat) : Int)
    omega
theorem RfE.none {B : Nat → Int} {nx n1 md wr : Int32} (hs : SkR B nx n1) (hd : ¬ (48 ≤ B n1.toInt.toNat ∧ B n1.toInt.toNat ≤ 57)) (hw : pz_wa B n1.toInt.toNat pz_words 0 = -1) (h0 : 0 ≤ n1.toInt) (he : wr.toInt = 1 + 8 * n1.toInt) : RfE (pz_val B (St0 B nx md)) wr := by
  refine ⟨wr.toInt, ?_, rfl⟩
  unfold St0
  rw [hs.nat, val_none hd hw]
  congr 1
  unfold pz_er; omega
theorem RfE.wordMax {B : Nat → Int} {nx n1 md wr : Int32} (hs : SkR B nx n1) (hd : ¬ (48 ≤ B n1.toInt.toNat ∧ B n1.toInt.toNat ≤ 57)) (hw : ¬ pz_wa B n1.toInt.toNat pz_words 0 = -1) (hm : 60 ≤ md.toInt) (h0 : 0 ≤ n1.toInt) (he : wr.toInt = 1 + 8 * n1.toInt + 3) : RfE (pz_val B (St0 B nx md)) wr := by
  refine ⟨wr.toInt, ?_, rfl⟩
  unfold St0
  rw [hs.nat, val_word hd hw, cnt_max (by omega)]
  congr 1
  unfold pz_er; omega
theorem RfO.word {B : Nat → Int} {nx n1 n2 md md' wr : Int32} (hs : SkR B nx n1) (hd : ¬ (48 ≤ B n1.toInt.toNat ∧ B n1.toInt.toNat ≤ 57)) (hw : ¬ pz_wa B n1.toInt.toNat pz_words 0 = -1) (hL : 97 ≤ B n1.toInt.toNat ∧ B n1.toInt.toNat ≤ 122) (hp : PsR B n1 n2) (hm : 0 ≤ md.toInt ∧ md.toInt < 60 ∧ md'.toInt = md.toInt + 1) (he : wr.toInt = 0) : RfO (pz_val B (St0 B nx md)) B wr n2 md' := by
  refine ⟨(pz_nt B n1.toInt.toNat, md.toInt.toNat + 1), ?_, he, ?_, ?_⟩
  · unfold St0
    rw [hs.nat, val_word hd hw]
    exact cnt_one (by omega)
  · show pz_sk B n2.toInt.toNat = pz_sk B (pz_te B n1.toInt.toNat)
    rw [hp.te hL]
  · show md'.toInt = ((md.toInt.toNat + 1 : Nat) : Int)
    omega
