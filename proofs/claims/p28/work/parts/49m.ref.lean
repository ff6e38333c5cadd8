set_option maxRecDepth 16384
theorem SkR.eq {B : Nat → Int} {a b c : Int32} (h : SkR B a b) (h2 : SkR B b c) : c = b := by
  apply Int32.toInt_inj.mp
  have h3 := h2.1
  have h4 := h.1
  rw [h.2.1] at h3
  omega
theorem SkR.eqB {B : Nat → Int} {a b c : Int32} (h : SkR B a b) (h2 : SkR B b c) : B c.toInt.toNat = B b.toInt.toNat ∧ c.toInt = b.toInt := by
  rw [h.eq h2]; exact ⟨rfl, rfl⟩
theorem SkR.self {B : Nat → Int} {a b : Int32} (h : SkR B a b) : SkR B b b := ⟨by have := h.1; rw [h.2.1]; omega, h.2⟩
theorem RfO.st {r : Except Int (Nat × Nat)} {B : Nat → Int} {wr nx md : Int32} (h : RfO r B wr nx md) : r = .ok (St0 B nx md) := by
  obtain ⟨s, rfl, -, h1, h2⟩ := h
  unfold St0
  rw [h1, show md.toInt.toNat = s.2 by omega]
theorem RfO.wr {r : Except Int (Nat × Nat)} {B : Nat → Int} {wr nx md : Int32} (h : RfO r B wr nx md) : wr.toInt = 0 := h.elim (fun _ z => z.2.1)
theorem RfO.of {r : Except Int (Nat × Nat)} {B : Nat → Int} {wr nx md : Int32} (h : r = .ok (St0 B nx md)) (hw : wr.toInt = 0) (hm : 0 ≤ md.toInt) : RfO r B wr nx md := ⟨St0 B nx md, h, hw, rfl, by show md.toInt = (md.toInt.toNat : Int); omega⟩
theorem St0.sk {B : Nat → Int} {nx n1 md : Int32} (h : SkR B nx n1) : St0 B n1 md = St0 B nx md := by
  unfold St0; rw [h.sk]
theorem St0.at {B : Nat → Int} {nx n1 md : Int32} (h : SkR B nx n1) : St0 B nx md = (n1.toInt.toNat, md.toInt.toNat) := by
  unfold St0; rw [h.nat]
theorem te_op {B : Nat → Int} {p : Nat} (h : B p = 43 ∨ B p = 45 ∨ B p = 42 ∨ B p = 47 ∨ B p = 37) : pz_te B p = p + 1 := by
  unfold pz_te
  rw [if_neg (show ¬ pz_isL (B p) = true from fun z => by have := of_decide_eq_true z; omega), if_neg (show ¬ pz_isD (B p) = true from fun z => by have := of_decide_eq_true z; omega), if_neg (by omega), if_neg (by omega)]
theorem nx_te {B : Nat → Int} {nx n1 nx' md : Int32} (hs : SkR B nx n1) (ht : nx'.toInt = (pz_te B n1.toInt.toNat : Int)) : pz_nx B (St0 B nx md) = St0 B nx' md := by
  rw [St0.at hs]
  show (pz_sk B (pz_te B n1.toInt.toNat), md.toInt.toNat) = (pz_sk B nx'.toInt.toNat, md.toInt.toNat)
  rw [show nx'.toInt.toNat = pz_te B n1.toInt.toNat by omega]
theorem nx_op {B : Nat → Int} {nx n1 nx' md : Int32} (hs : SkR B nx n1) (h : B n1.toInt.toNat = 43 ∨ B n1.toInt.toNat = 45 ∨ B n1.toInt.toNat = 42 ∨ B n1.toInt.toNat = 47 ∨ B n1.toInt.toNat = 37) (h1 : nx'.toInt = n1.toInt + 1) : pz_nx B (St0 B nx md) = St0 B nx' md := nx_te hs (by have := hs.1; rw [te_op h]; omega)
def TmL (R : Except Int (Nat × Nat)) (B : Nat → Int) (wr nx md : Int32) : Prop := wr.toInt = 0 ∧ R = pz_lp (pz_sF B) (St0 B nx md)
def TmO (R : Except Int (Nat × Nat)) (B : Nat → Int) (wr nx md : Int32) : Prop := TmL R B wr nx md ∧ ¬ (B (pz_sk B nx.toInt.toNat) = 42 ∨ B (pz_sk B nx.toInt.toNat) = 47 ∨ B (pz_sk B nx.toInt.toNat) = 37)
theorem TmL.first {B : Nat → Int} {s : Nat × Nat} {wr nx md : Int32} (h : RfO (pz_val B s) B wr nx md) : TmL (pz_sum B s) B wr nx md := ⟨h.elim (fun _ z => z.2.1), by unfold pz_sum; rw [h.st]; rfl⟩
theorem RfE.sum1 {B : Nat → Int} {s : Nat × Nat} {wr : Int32} (h : RfE (pz_val B s) wr) : RfE (pz_sum B s) wr := by
  obtain ⟨e, h1, h2⟩ := h
  exact ⟨e, by unfold pz_sum; rw [h1]; rfl, h2⟩
theorem TmL.go {R : Except Int (Nat × Nat)} {B : Nat → Int} {wr nx md n1 nx' : Int32} (hB : pz_fi B) (h : TmL R B wr nx md) (hs : SkR B nx n1) (hop : B n1.toInt.toNat = 43 ∨ B n1.toInt.toNat = 45 ∨ B n1.toInt.toNat = 42 ∨ B n1.toInt.toNat = 47 ∨ B n1.toInt.toNat = 37) (h1 : nx'.toInt = n1.toInt + 1) : R = pz_sum B (St0 B nx' md) := by
  rw [h.2, pz_sum_on hB (by rw [St0.at hs]; exact hop), nx_op hs hop h1]
theorem TmL.next {R : Except Int (Nat × Nat)} {B : Nat → Int} {wr nx md n1 nx' wr2 nx2 md2 : Int32} (hB : pz_fi B) (h : TmL R B wr nx md) (hs : SkR B nx n1) (hop : B n1.toInt.toNat = 43 ∨ B n1.toInt.toNat = 45 ∨ B n1.toInt.toNat = 42 ∨ B n1.toInt.toNat = 47 ∨ B n1.toInt.toNat = 37) (h1 : nx'.toInt = n1.toInt + 1) (hv : RfO (pz_val B (St0 B nx' md)) B wr2 nx2 md2) : TmL R B wr2 nx2 md2 := by
  rw [h.go hB hs hop h1]; exact TmL.first hv
theorem TmL.er {R : Except Int (Nat × Nat)} {B : Nat → Int} {wr nx md n1 nx' wr2 : Int32} (hB : pz_fi B) (h : TmL R B wr nx md) (hs : SkR B nx n1) (hop : B n1.toInt.toNat = 43 ∨ B n1.toInt.toNat = 45 ∨ B n1.toInt.toNat = 42 ∨ B n1.toInt.toNat = 47 ∨ B n1.toInt.toNat = 37) (h1 : nx'.toInt = n1.toInt + 1) (hv : RfE (pz_val B (St0 B nx' md)) wr2) : RfE R wr2 := by
  rw [h.go hB hs hop h1]; exact RfE.sum1 hv
theorem TmO.of {R : Except Int (Nat × Nat)} {B : Nat → Int} {wr nx md n1 : Int32} (h : TmL R B wr nx md) (hs : SkR B nx n1) (hn : ¬ (B n1.toInt.toNat = 42 ∨ B n1.toInt.toNat = 47 ∨ B n1.toInt.toNat = 37)) : TmO R B wr n1 md := by
  refine ⟨⟨h.1, ?_⟩, ?_⟩
  · rw [St0.sk hs]; exact h.2
  · rw [hs.2.1]; exact hn
theorem TmO.next {R : Except Int (Nat × Nat)} {B : Nat → Int} {wr nx md n1 nx' wr2 nx2 md2 : Int32} (hB : pz_fi B) (h : TmO R B wr nx md) (hs : SkR B nx n1) (hop : B n1.toInt.toNat = 43 ∨ B n1.toInt.toNat = 45) (h1 : nx'.toInt = n1.toInt + 1) (hv : TmO (pz_sum B (St0 B nx' md)) B wr2 nx2 md2) : TmO R B wr2 nx2 md2 := by
  rw [h.1.go hB hs (by omega) h1]; exact hv
theorem TmO.er {R : Except Int (Nat × Nat)} {B : Nat → Int} {wr nx md n1 nx' wr2 : Int32} (hB : pz_fi B) (h : TmO R B wr nx md) (hs : SkR B nx n1) (hop : B n1.toInt.toNat = 43 ∨ B n1.toInt.toNat = 45) (h1 : nx'.toInt = n1.toInt + 1) (hv : RfE (pz_sum B (St0 B nx' md)) wr2) : RfE R wr2 := by
  rw [h.1.go hB hs (by omega) h1]; exact hv
theorem TmO.fin {R : Except Int (Nat × Nat)} {B : Nat → Int} {wr nx md n1 : Int32} (h : TmO R B wr nx md) (hs : SkR B nx n1) (hn : ¬ (B n1.toInt.toNat = 43 ∨ B n1.toInt.toNat = 45)) (hm : 0 ≤ md.toInt) : RfO R B wr n1 md := by
  refine RfO.of ?_ h.1.1 hm
  have h2 := h.2
  rw [hs.nat] at h2
  rw [h.1.2, pz_sum_no (by rw [St0.at hs]; intro z; have z : B n1.toInt.toNat = 43 ∨ B n1.toInt.toNat = 45 ∨ B n1.toInt.toNat = 42 ∨ B n1.toInt.toNat = 47 ∨ B n1.toInt.toNat = 37 := z; omega), St0.sk hs]
theorem RfE.com1 {B : Nat → Int} {s : Nat × Nat} {wr : Int32} (h : RfE (pz_sum B s) wr) : RfE (pz_com B s) wr := by
  obtain ⟨e, h1, h2⟩ := h
  exact ⟨e, by unfold pz_com; rw [h1]; rfl, h2⟩
theorem com_at {B : Nat → Int} {s : Nat × Nat} {wr nx md n1 : Int32} (h : RfO (pz_sum B s) B wr nx md) (hs : SkR B nx n1) : pz_com B s = pz_b (pz_cmp B (n1.toInt.toNat, md.toInt.toNat)) (pz_sum B) := by
  unfold pz_com
  rw [h.st, St0.at hs]; rfl
theorem RfE.com0 {B : Nat → Int} {s : Nat × Nat} {w0 nx md n1 wr : Int32} (h : RfO (pz_sum B s) B w0 nx md) (hs : SkR B nx n1) (hc : ¬ (B n1.toInt.toNat = 60 ∨ B n1.toInt.toNat = 61 ∨ B n1.toInt.toNat = 62)) (hw : wr.toInt = 1 + 8 * n1.toInt) : RfE (pz_com B s) wr := by
  refine ⟨wr.toInt, ?_, rfl⟩
  have := hs.1
  rw [com_at h hs, show pz_cmp B (n1.toInt.toNat, md.toInt.toNat) = .error (pz_er 0 n1.toInt.toNat) from if_neg hc]
  show Except.error _ = _
  congr 1
  unfold pz_er; omega
theorem RfE.com3 {B : Nat → Int} {s : Nat × Nat} {w0 nx md n1 wr : Int32} (h : RfO (pz_sum B s) B w0 nx md) (hs : SkR B nx n1) (hc : B n1.toInt.toNat = 60 ∨ B n1.toInt.toNat = 61 ∨ B n1.toInt.toNat = 62) (hm : 60 ≤ md.toInt) (hw : wr.toInt = 1 + 8 * n1.toInt + 3) : RfE (pz_com B s) wr := by
  refine ⟨wr.toInt, ?_, rfl⟩
  have := hs.1
  rw [com_at h hs, show pz_cmp B (n1.toInt.toNat, md.toInt.toNat) = pz_cnt B (n1.toInt.toNat, md.toInt.toNat) from if_pos hc, cnt_max (by omega)]
  show Except.error _ = _
  congr 1
  unfold pz_er; omega
theorem te_cmp {B : Nat → Int} {p : Nat} (hc : B p = 60 ∨ B p = 61 ∨ B p = 62) : pz_te B p = if (B p = 60 ∨ B p = 62) ∧ B (p + 1) = 61 then p + 2 else p + 1 := by
  unfold pz_te
  rw [if_neg (show ¬ pz_isL (B p) = true from fun z => by have := of_decide_eq_true z; omega), if_neg (show ¬ pz_isD (B p) = true from fun z => by have := of_decide_eq_true z; omega), if_neg (by omega)]
theorem com_go {B : Nat → Int} {s : Nat × Nat} {w0 nx md n1 nx' md' : Int32} (h : RfO (pz_sum B s) B w0 nx md) (hs : SkR B nx n1) (hc : B n1.toInt.toNat = 60 ∨ B n1.toInt.toNat = 61 ∨ B n1.toInt.toNat = 62) (ha : (nx'.toInt = n1.toInt + 1 ∧ ¬ ((B n1.toInt.toNat = 60 ∨ B n1.toInt.toNat = 62) ∧ B (n1.toInt.toNat + 1) = 61)) ∨ (nx'.toInt = n1.toInt + 2 ∧ (B n1.toInt.toNat = 60 ∨ B n1.toInt.toNat = 62) ∧ B (n1.toInt.toNat + 1) = 61)) (hm : 0 ≤ md.toInt ∧ md.toInt < 60 ∧ md'.toInt = md.toInt + 1) : pz_com B s = pz_sum B (St0 B nx' md') := by
  have h0 := hs.1
  have et : nx'.toInt.toNat = pz_te B n1.toInt.toNat := by
    rw [te_cmp hc]
    rcases ha with ⟨h1, h2⟩ | ⟨h1, h2⟩
    · rw [if_neg h2]; omega
    · rw [if_pos h2]; omega
  rw [com_at h hs, show pz_cmp B (n1.toInt.toNat, md.toInt.toNat) = pz_cnt B (n1.toInt.toNat, md.toInt.toNat) from if_pos hc, cnt_one (by omega)]
  show pz_sum B (pz_nt B n1.toInt.toNat, md.toInt.toNat + 1) = pz_sum B (pz_sk B nx'.toInt.toNat, md'.toInt.toNat)
  rw [et, show md'.toInt.toNat = md.toInt.toNat + 1 by omega]
  rfl
theorem RfE.com2 {B : Nat → Int} {s : Nat × Nat} {w0 nx md n1 nx' md' wr : Int32} (h : RfO (pz_sum B s) B w0 nx md) (hs : SkR B nx n1) (hc : B n1.toInt.toNat = 60 ∨ B n1.toInt.toNat = 61 ∨ B n1.toInt.toNat = 62) (ha : (nx'.toInt = n1.toInt + 1 ∧ ¬ ((B n1.toInt.toNat = 60 ∨ B n1.toInt.toNat = 62) ∧ B (n1.toInt.toNat + 1) = 61)) ∨ (nx'.toInt = n1.toInt + 2 ∧ (B n1.toInt.toNat = 60 ∨ B n1.toInt.toNat = 62) ∧ B (n1.toInt.toNat + 1) = 61)) (hm : 0 ≤ md.toInt ∧ md.toInt < 60 ∧ md'.toInt = md.toInt + 1) (hv : RfE (pz_sum B (St0 B nx' md')) wr) : RfE (pz_com B s) wr := by
  rw [com_go h hs hc ha hm]; exact hv
theorem RfO.com {B : Nat → Int} {s : Nat × Nat} {w0 nx md n1 nx' md' wr nx2 md2 : Int32} (h : RfO (pz_sum B s) B w0 nx md) (hs : SkR B nx n1) (hc : B n1.toInt.toNat = 60 ∨ B n1.toInt.toNat = 61 ∨ B n1.toInt.toNat = 62) (ha : (nx'.toInt = n1.toInt + 1 ∧ ¬ ((B n1.toInt.toNat = 60 ∨ B n1.toInt.toNat = 62) ∧ B (n1.toInt.toNat + 1) = 61)) ∨ (nx'.toInt = n1.toInt + 2 ∧ (B n1.toInt.toNat = 60 ∨ B n1.toInt.toNat = 62) ∧ B (n1.toInt.toNat + 1) = 61)) (hm : 0 ≤ md.toInt ∧ md.toInt < 60 ∧ md'.toInt = md.toInt + 1) (hv : RfO (pz_sum B (St0 B nx' md')) B wr nx2 md2) : RfO (pz_com B s) B wr nx2 md2 := by
  rw [com_go h hs hc ha hm]; exact hv
