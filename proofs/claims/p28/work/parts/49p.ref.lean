set_option maxRecDepth 16384
theorem buy_let {B : Nat → Int} {p : Nat} {L : List Int} (h : pz_wd B p L = true) (hl : 0 < L.length) (h0 : 97 ≤ L.getD 0 0 ∧ L.getD 0 0 ≤ 122) : 97 ≤ B p ∧ B p ≤ 122 := by
  have := (of_decide_eq_true h).2 0 hl
  rw [Nat.add_zero] at this
  rw [this]; exact h0
theorem SkR.wd {B : Nat → Int} {a : Int32} (h0 : 0 ≤ a.toInt) (h : 97 ≤ B a.toInt.toNat ∧ B a.toInt.toNat ≤ 122) : SkR B a a := by
  have hn : ¬ B a.toInt.toNat = 32 := by omega
  exact ⟨by rw [pz_sk_rf hn]; omega, pz_sk_rf hn, hn⟩
def BwH (B : Nat → Int) (nx : Int32) : Prop := pz_wd B nx.toInt.toNat pz_buy = true
def TkW (B : Nat → Int) (w : Int) (nx nx' : Int32) : Prop := ∃ n1 : Int32, SkR B nx n1 ∧ PkW B n1.toInt.toNat w ∧ PsR B n1 nx'
def NtW (B : Nat → Int) (w : Int) (nx nx' : Int32) : Prop := SkR B nx nx' ∧ NPk B nx'.toInt.toNat w
def BuR (B : Nat → Int) (nx md : Int32) : Except Int (Nat × Nat) := pz_b (pz_sum B (pz_nx B (St0 B nx md))) (fun t => if pz_wd B t.1 pz_if = true then pz_tst B (pz_fact B 10) (pz_nx B t) else .ok t)
theorem nx_ps {B : Nat → Int} {nx n1 nx' md : Int32} (hs : SkR B nx n1) (hL : 97 ≤ B n1.toInt.toNat ∧ B n1.toInt.toNat ≤ 122) (hp : PsR B n1 nx') : pz_nx B (St0 B nx md) = St0 B nx' md := nx_te hs (by have := hp.te hL; have h5 := hp; unfold PsR at h5; omega)
theorem BuR.at {B : Nat → Int} {nx md nx' : Int32} (h0 : 0 ≤ nx.toInt) (hb : BwH B nx) (hp : PsR B nx nx') : pz_nx B (St0 B nx md) = St0 B nx' md := by
  have hL := buy_let hb (by decide) (by decide)
  exact nx_ps (SkR.wd h0 hL) hL hp
theorem BuR.er {B : Nat → Int} {nx md nx' wr : Int32} (h0 : 0 ≤ nx.toInt) (hb : BwH B nx) (hp : PsR B nx nx') (h : RfE (pz_sum B (St0 B nx' md)) wr) : RfE (BuR B nx md) wr := by
  obtain ⟨e, h1, h2⟩ := h
  refine ⟨e, ?_, h2⟩
  unfold BuR
  rw [BuR.at h0 hb hp, h1]; rfl
theorem BuR.go {B : Nat → Int} {nx md nx' w2 nx2 md2 : Int32} (h0 : 0 ≤ nx.toInt) (hb : BwH B nx) (hp : PsR B nx nx') (h : RfO (pz_sum B (St0 B nx' md)) B w2 nx2 md2) : BuR B nx md = if pz_wd B (St0 B nx2 md2).1 pz_if = true then pz_tst B (pz_fact B 10) (pz_nx B (St0 B nx2 md2)) else .ok (St0 B nx2 md2) := by
  unfold BuR
  rw [BuR.at h0 hb hp, h.st]; rfl
theorem BuR.no {B : Nat → Int} {nx md nx' w2 nx2 md2 nx3 : Int32} {w : Int} (hw : w = pz_pl pz_if) (h0 : 0 ≤ nx.toInt) (hb : BwH B nx) (hp : PsR B nx nx') (h : RfO (pz_sum B (St0 B nx' md)) B w2 nx2 md2) (hn : NtW B w nx2 nx3) (hm : 0 ≤ md2.toInt) : RfO (BuR B nx md) B w2 nx3 md2 := by
  subst hw
  refine RfO.of ?_ h.wr hm
  rw [BuR.go h0 hb hp h, St0.at hn.1, if_neg (fun z => hn.2 ((PkW.wd (by decide) (by decide) (by decide)).mpr z)), ← St0.at hn.1.self]
theorem BuR.if {B : Nat → Int} {nx md nx' w2 nx2 md2 nx3 : Int32} {w : Int} (hw : w = pz_pl pz_if) (h0 : 0 ≤ nx.toInt) (hb : BwH B nx) (hp : PsR B nx nx') (h : RfO (pz_sum B (St0 B nx' md)) B w2 nx2 md2) (hn : TkW B w nx2 nx3) : BuR B nx md = pz_tst B (pz_fact B 10) (St0 B nx3 md2) := by
  subst hw
  obtain ⟨n1, hs, hk, hp2⟩ := hn
  have hd := (PkW.wd (by decide) (by decide) (by decide)).mp hk
  rw [BuR.go h0 hb hp h, if_pos (by rw [St0.at hs]; exact hd), nx_ps hs (buy_let hd (by decide) (by decide)) hp2]
theorem RfO.eq {r r' : Except Int (Nat × Nat)} {B : Nat → Int} {wr nx md : Int32} (e : r = r') (h : RfO r' B wr nx md) : RfO r B wr nx md := e ▸ h
theorem RfE.eq {r r' : Except Int (Nat × Nat)} {wr : Int32} (e : r = r') (h : RfE r' wr) : RfE r wr := e ▸ h
theorem rcl_no {B : Nat → Int} {l : Nat} {nx md n1 wr : Int32} {w : Int} (hw : w = pz_pl pz_buy) (hs : SkR B nx n1) (h : NPk B n1.toInt.toNat w) (he : wr.toInt = 1 + 8 * n1.toInt) : RfE (pz_cla B l (St0 B nx md)) wr := by
  subst hw
  have h0 := hs.1
  refine ⟨wr.toInt, ?_, rfl⟩
  rw [St0.at hs, show pz_cla B l (n1.toInt.toNat, md.toInt.toNat) = .error (pz_er 0 n1.toInt.toNat) from if_neg (fun z => h ((PkW.wd (by decide) (by decide) (by decide)).mpr z))]
  congr 1
  unfold pz_er; omega
theorem rcl_12 {B : Nat → Int} {l : Nat} {nx md n1 wr : Int32} {w : Int} (hw : w = pz_pl pz_buy) (hs : SkR B nx n1) (h : PkW B n1.toInt.toNat w) (hl : l = 12) (he : wr.toInt = 1 + 8 * n1.toInt + 4) : RfE (pz_cla B l (St0 B nx md)) wr := by
  subst hw
  have h0 := hs.1
  have hd := (PkW.wd (by decide) (by decide) (by decide)).mp h
  refine ⟨wr.toInt, ?_, rfl⟩
  rw [St0.at hs, show pz_cla B l (n1.toInt.toNat, md.toInt.toNat) = .error (pz_er 4 n1.toInt.toNat) from (if_pos hd).trans (if_pos hl)]
  congr 1
  unfold pz_er; omega
theorem BwH.of {B : Nat → Int} {n1 : Int32} {w : Int} (hw : w = pz_pl pz_buy) (h : PkW B n1.toInt.toNat w) : BwH B n1 := by
  subst hw
  exact (PkW.wd (by decide) (by decide) (by decide)).mp h
theorem rcl_go {B : Nat → Int} {l : Nat} {nx md n1 : Int32} {w : Int} (hw : w = pz_pl pz_buy) (hs : SkR B nx n1) (h : PkW B n1.toInt.toNat w) (hl : ¬ l = 12) : pz_cla B l (St0 B nx md) = BuR B n1 md := by
  have hd := BwH.of hw h
  have e : pz_cla B l (St0 B nx md) = pz_b (pz_sum B (pz_nx B (St0 B nx md))) (fun t => if pz_wd B t.1 pz_if = true then pz_tst B (pz_fact B 10) (pz_nx B t) else .ok t) := by
    rw [St0.at hs]
    exact (if_pos hd).trans (if_neg hl)
  rw [e, ← St0.sk hs]; rfl
def RaL (B : Nat → Int) (nx md ln wr gd : Int32) : Prop := (gd.toInt = 1 → wr.toInt = 0 ∧ pz_rule B = pz_b (pz_lp (pz_rF B) (St0 B nx md, ln.toInt.toNat)) (fun u => pz_end B u.1.1)) ∧ (gd.toInt = 0 → pz_rule B = .error wr.toInt)
def ClR (B : Nat → Int) (l0 nx0 md0 gd wr nx md : Int32) : Prop := (gd.toInt = 1 → RfO (pz_cla B l0.toInt.toNat (St0 B nx0 md0)) B wr nx md) ∧ (gd.toInt = 0 → RfE (pz_cla B l0.toInt.toNat (St0 B nx0 md0)) wr)
theorem RaL.first {B : Nat → Int} {l0 nx0 md0 gd wr nx md ln : Int32} (hl : l0.toInt = 0) (hn : nx0.toInt = 0) (hm : md0.toInt = 0) (h : ClR B l0 nx0 md0 gd wr nx md) (hl₀ : gd.toInt = 1 → ln.toInt = 1) : RaL B nx md ln wr gd := by
  have e : pz_rule B = pz_b (pz_b (pz_b (pz_cla B l0.toInt.toNat (St0 B nx0 md0)) (fun t => .ok (t, 1))) (pz_lp (pz_rF B))) (fun u => pz_end B u.1.1) := by
    unfold St0; rw [hl, hn, hm]; rfl
  refine ⟨fun z => ?_, fun z => ?_⟩
  · have h1 := h.1 z
    refine ⟨h1.wr, ?_⟩
    have h2 := hl₀ z
    rw [e, h1.st, show ln.toInt.toNat = 1 by omega]; rfl
  · obtain ⟨x, h1, h2⟩ := h.2 z
    rw [e, h1, h2]; rfl
theorem RaL.next {B : Nat → Int} {nx md ln wr gd n1 nx1 gd' wr' nx' md' ln' : Int32} (hB : pz_fi B) (h : RaL B nx md ln wr gd) (hg : gd.toInt = 1) (hs : SkR B nx n1) (h59 : B n1.toInt.toNat = 59) (hx : nx1.toInt = n1.toInt + 1) (hc : ClR B ln nx1 md gd' wr' nx' md') (hl₀ : gd'.toInt = 1 → ln'.toInt = ln.toInt + 1) (hl : 0 ≤ ln.toInt) : RaL B nx' md' ln' wr' gd' := by
  have h0 := hs.1
  obtain ⟨-, h1⟩ := h.1 hg
  have e1 : pz_rF B (St0 B nx md, ln.toInt.toNat) = some (pz_b (pz_cla B ln.toInt.toNat (St0 B nx1 md)) (fun t => .ok (t, ln.toInt.toNat + 1))) := by
    have hz : B (St0 B nx md).1 = 59 := by rw [St0.at hs]; exact h59
    unfold pz_rF
    rw [if_pos hz]
    show some (pz_b (pz_cla B ln.toInt.toNat (pz_nx B (St0 B nx md))) _) = _
    rw [nx_te (nx' := nx1) hs (by rw [te_br (Or.inr (Or.inr h59))]; omega)]
  rw [pz_lp_on (pz_rF_pr hB) e1] at h1
  refine ⟨fun z => ?_, fun z => ?_⟩
  · have h2 := hc.1 z
    have h3 := hl₀ z
    refine ⟨h2.wr, ?_⟩
    rw [h1, h2.st, show ln'.toInt.toNat = ln.toInt.toNat + 1 by omega]; rfl
  · obtain ⟨x, h2, h3⟩ := hc.2 z
    rw [h1, h2, h3]; rfl
def RuE (B : Nat → Int) (wr : Int32) : Prop := (wr.toInt = 0 ∧ ∃ p, pz_rule B = .ok p) ∨ (¬ wr.toInt = 0 ∧ pz_rule B = .error wr.toInt)
theorem RuE.bad {B : Nat → Int} {nx md ln wr gd : Int32} (h : RaL B nx md ln wr gd) (hg : gd.toInt = 0) (hw : ¬ wr.toInt = 0) : RuE B wr := Or.inr ⟨hw, h.2 hg⟩
theorem RaL.end {B : Nat → Int} {nx md ln wr gd n1 : Int32} (h : RaL B nx md ln wr gd) (hg : gd.toInt = 1) (hs : SkR B nx n1) (h59 : ¬ B n1.toInt.toNat = 59) : pz_rule B = pz_end B n1.toInt.toNat := by
  obtain ⟨-, h1⟩ := h.1 hg
  have hz : pz_rF B (St0 B nx md, ln.toInt.toNat) = none := by
    unfold pz_rF
    rw [if_neg (by rw [St0.at hs]; exact h59)]
  rw [h1, pz_lp_no hz]
  show pz_end B (St0 B nx md).1 = _
  rw [St0.at hs]
theorem RuE.end {B : Nat → Int} {nx md ln wr gd n1 : Int32} (h : RaL B nx md ln wr gd) (hg : gd.toInt = 1) (hs : SkR B nx n1) (he : B n1.toInt.toNat = -1) : RuE B wr := by
  left
  refine ⟨(h.1 hg).1, n1.toInt.toNat, ?_⟩
  rw [h.end hg hs (by omega), show pz_end B n1.toInt.toNat = .ok n1.toInt.toNat from if_pos he]
theorem RuE.more {B : Nat → Int} {nx md ln wr gd n1 wr' : Int32} (h : RaL B nx md ln wr gd) (hg : gd.toInt = 1) (hs : SkR B nx n1) (h59 : ¬ B n1.toInt.toNat = 59) (he : ¬ B n1.toInt.toNat = -1) (hw : wr'.toInt = 1 + 8 * n1.toInt) : RuE B wr' := by
  right
  have h0 := hs.1
  refine ⟨by omega, ?_⟩
  rw [h.end hg hs h59, show pz_end B n1.toInt.toNat = .error (pz_er 0 n1.toInt.toNat) from if_neg he]
  congr 1
  unfold pz_er; omega
