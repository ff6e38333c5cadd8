set_option maxRecDepth 16384
theorem buy_let {B : Nat → Int} {p : Nat} {L : List Int} (h : pz_wd B p L = true) (hl : 0 < L.length) (h0 : 97 ≤ L.getD 0 0 ∧ L.getD 0 0 ≤ 122) : 97 ≤ B p ∧ B p ≤ 122 := by
  have := (of_decide_eq_true h).2 0 hl
  rw [Nat.add_zero] at this
  rw [this]; exact h0
theorem SkR.wd {B : Nat → Int} {a : Int32} (h0 : 0 ≤ a.toInt) (h : 97 ≤ B a.toInt.toNat ∧ B a.toInt.toNat ≤ 122) : SkR B a a := by
  have hn : ¬ B a.toInt.toNat = 32 := by omega
  exact ⟨by rw [pz_sk_rf hn]; omega, pz_sk_rf hn, hn⟩
def BwH (B : Nat → Int) (nx : Int32) : Prop := pz_wd B nx.toInt.toNat pz_buy = true
def TkW (B : Nat → Int) (w : Int) (nx nx' : Int32) : Prop := ∃ n1 : Int32, SkR B nx n1 ∧ PkW B n1.toInt.toNat w ∧ PsR B n1 nx'
def NtW (B : Nat → Int) (w : Int) (nx nx' : Int32) : Prop := SkR B nx nx' ∧ NPk B nx'.toInt.toNat w
def BuR (B : Nat → Int) (nx md : Int32) : Except Int (Nat × Nat) := pz_b (pz_sum B (pz_nx B (St0 B nx md))) (fun t => if pz_wd B t.1 pz_if = true then pz_tst B (pz_fact B 10) (pz_nx B t) else .ok t)
theorem nx_ps {B : Nat → Int} {nx n1 nx' md : Int32} (hs : SkR B nx n1) (hL : 97 ≤ B n1.toInt.toNat ∧ B n1.toInt.toNat ≤ 122) (hp : PsR B n1 nx') : pz_nx B (St0 B nx md) = St0 B nx' md := nx_te hs (by have := hp.te hL; have h5 := hp; unfold PsR at h5; omega)
theorem BuR.at {B : Nat → Int} {nx md nx' : Int32} (h0 : 0 ≤ nx.toInt) (hb : BwH B nx) (hp : PsR B nx nx') : pz_nx B (St0 B nx md) = St0 B nx' md := by
  have hL := buy_let hb (by decide) (by decide)
  exact nx_ps (SkR.wd h0 hL) hL hp
theorem BuR.er {B : Nat → Int} {nx md nx' wr : Int32} (h0 : 0 ≤ nx.toInt) (hb : BwH B nx) (hp : PsR B nx nx') (h : RfE (pz_sum B (St0 B nx' md)) wr) : RfE (BuR B nx md) wr := by
  obtain ⟨e, h1, h2⟩ := h
  refine ⟨e, ?_, h2⟩
  unfold BuR
  rw [BuR.at h0 hb hp, h1]; rfl
theorem BuR.go {B : Nat → Int} {nx md nx' w2 nx2 md2 : Int32} (h0 : 0 ≤ nx.toInt) (hb : BwH B nx) (hp : PsR B nx nx') (h : RfO (pz_sum B (St0 B nx' md)) B w2 nx2 md2) : BuR B nx md = if pz_wd B (St0 B nx2 md2).1 pz_if = true then pz_tst B (pz_fact B 10) (pz_nx B (St0 B nx2 md2)) else .ok (St0 B nx2 md2) := by
  unfold BuR
  rw [BuR.at h0 hb hp, h.st]; rfl
theorem BuR.no {B : Nat → Int} {nx md nx' w2 nx2 md2 nx3 : Int32} {w : Int} (hw : w = pz_pl pz_if) (h0 : 0 ≤ nx.toInt) (hb : BwH B nx) (hp : PsR B nx nx') (h : RfO (pz_sum B (St0 B nx' md)) B w2 nx2 md2) (hn : NtW B w nx2 nx3) (hm : 0 ≤ md2.toInt) : RfO (BuR B nx md) B w2 nx3 md2 := by
  subst hw
  refine RfO.of ?_ h.wr hm
  rw [BuR.go h0 hb hp h, St0.at hn.1, if_neg (fun z => hn.2 ((PkW.wd (by decide) (by decide) (by decide)).mpr z)), ← St0.at hn.1.self]
theorem BuR.if {B : Nat → Int} {nx md nx' w2 nx2 md2 nx3 : Int32} {w : Int} (hw : w = pz_pl pz_if) (h0 : 0 ≤ nx.toInt) (hb : BwH B nx) (hp : PsR B nx nx') (h : RfO (pz_sum B (St0 B nx' md)) B w2 nx2 md2) (hn : TkW B w nx2 nx3) : BuR B nx md = pz_tst B (pz_fact B 10) (St0 B nx3 md2) := by
  subst hw
  obtain ⟨n1, hs, hk, hp2⟩ := hn
  have hd := (PkW.wd (by decide) (by decide) (by decide)).mp hk
  rw [BuR.go h0 hb hp h, if_pos (by rw [St0.at hs]; exact hd), nx_ps hs (buy_let hd (by decide) (by decide)) hp2]
theorem RfO.eq {r r' : Except Int (Nat × Nat)} {B : Nat → Int} {wr nx md : Int32} (e : r = r') (h : RfO r' B wr nx md) : RfO r B wr nx md := e ▸ h
theorem RfE.eq {r r' : Except Int (Nat × Nat)} {wr : Int32} (e : r = r') (h : RfE r' wr) : RfE r wr := e ▸ h
theorem rcl_no {B : Nat → Int} {l : Nat} {nx md n1 wr : Int32} {w : Int} (hw : w = pz_pl pz_buy) (hs : SkR B nx n1) (h : NPk B n1.toInt.toNat w) (he : wr.toInt = 1 + 8 * n1.toInt) : RfE (pz_cla B l (St0 B nx md)) wr := by
  subst hw
  have h0 := hs.1
  refine ⟨wr.toInt, ?_, rfl⟩
  rw [St0.at hs, show pz_cla B l (n1.toInt.toNat, md.toInt.toNat) = .error (pz_er 0 n1.toInt.toNat) from if_neg (fun z => h ((PkW.wd (by decide) (by decide) (by decide)).mpr z))]
  congr 1
  unfold pz_er; omega
theorem rcl_12 {B : Nat → Int} {l : Nat} {nx md n1 wr : Int32} {w : Int} (hw : w = pz_pl pz_buy) (hs : SkR B nx n1) (h : PkW B n1.toInt.toNat w) (hl : l = 12) (he : wr.toInt = 1 + 8 * n1.toInt + 4) : RfE (pz_cla B l (St0 B nx md)) wr := by
  subst hw
  have h0 := hs.1
  have hd := (PkW.wd (by decide) (by decide) (by decide)).mp h
  refine ⟨wr.toInt, ?_, rfl⟩
  rw [St0.at hs, show pz_cla B l (n1.toInt.toNat, md.toInt.toNat) = .error (pz_er 4 n1.toInt.toNat) from (if_pos hd).trans (if_pos hl)]
  congr 1
  unfold pz_er; omega
theorem BwH.of {B : Nat → Int} {n1 : Int32} {w : Int} (hw : w = pz_pl pz_buy) (h : PkW B n1.toInt.toNat w) : BwH B n1 := by
  subst hw
  exact (PkW.wd (by decide) (by decide) (by decide)).mp h
theorem rcl_go {B : Nat → Int} {l : Nat} {nx md n1 : Int32} {w : Int} (hw : w = pz_pl pz_buy) (hs : SkR B nx n1) (h : PkW B n1.toInt.toNat w) (hl : ¬ l = 12) : pz_cla B l (St0 B nx md) = BuR B n1 md := by
  have hd := BwH.of hw h
  have e : pz_cla B l (St0 B nx md) = pz_b (pz_sum B (pz_nx B (St0 B nx md))) (fun t => if pz_wd B t.1 pz_if = true then pz_tst B (pz_fact B 10) (pz_nx B t) else .ok t) := by
    rw [St0.at hs]
    exact (if_pos hd).trans (if_neg hl)
  rw [e, ← St0.sk hs]; rfl
def RaL (B : Nat → Int) (nx md ln wr gd : Int32) : Prop := (gd.toInt = 1 → wr.toInt = 0 ∧ pz_rule B = pz_b (pz_lp (pz_rF B) (St0 B nx md, ln.toInt.toNat)) (fun u => pz_end B u.1.1)) ∧ (gd.toInt = 0 → pz_rule B = .error wr.toInt)
def ClR (B : Nat → Int) (l0 nx0 md0 gd wr nx md : Int32) : Prop := (gd.toInt = 1 → RfO (pz_cla B l0.toInt.toNat (St0 B nx0 md0)) B wr nx md) ∧ (gd.toInt = 0 → RfE (pz_cla B l0.toInt.toNat (St0 B nx0 md0)) wr)
theorem RaL.first {B : Nat → Int} {l0 nx0 md0 gd wr nx md ln : Int32} (hl : l0.toInt = 0) (hn : nx0.toInt = 0) (hm : md0.toInt = 0) (h : ClR B l0 nx0 md0 gd wr nx md) (hl₀ : gd.toInt = 1 → ln.toInt = 1) : RaL B nx md ln wr gd := by
  have e : pz_rule B = pz_b (pz_b (pz_b (pz_cla B l0.toInt.toNat (St0 B nx0 md0)) (fun t => .ok (t, 1))) (pz_lp (pz_rF B))) (fun u => pz_end B u.1.1) := by
    unfold St0; rw [hl, hn, hm]; rfl
  refine ⟨fun z => ?_, fun z => ?_⟩
  · have h1 := h.1 z
    refine ⟨h1.wr, ?_⟩
    have h2 := hl₀ z
    rw [e, h1.st, show ln.toInt.toNat = 1 by omega]; rfl
  · obtain ⟨x, h1, h2⟩ := h.2 z
    rw [e, h1, h2]; rfl
theorem RaL.next {B : Nat → Int} {nx md ln wr gd n1 nx1 gd' wr' nx' md' ln' : Int32} (hB : pz_fi B) (h : RaL B nx md ln wr gd) (hg : gd.toInt = 1) (hs : SkR B nx n1) (h59 : B n1.toInt.toNat = 59) (hx : nx1.toInt = n1.toInt + 1) (hc : ClR B ln nx1 md gd' wr' nx' md') (hl₀ : gd'.toInt = 1 → ln'.toInt = ln.toInt + 1) (hl : 0 ≤ ln.toInt) : RaL B nx' md' ln' wr' gd' := by
  have h0 := hs.1
  obtain ⟨-, h1⟩ := h.1 hg
  have e1 : pz_rF B (St0 B nx md, ln.toInt.toNat) = some (pz_b (pz_cla B ln.toInt.toNat (St0 B nx1 md)) (fun t => .ok (t, ln.toInt.toNat + 1))) := by
    have hz : B (St0 B nx md).1 = 59 := by rw [St0.at hs]; exact h59
    unfold pz_rF
    rw [if_pos hz]
    show some (pz_b (pz_cla B ln.toInt.toNat (pz_nx B (St0 B nx md))) _) = _
    rw [nx_te (nx' := nx1) hs (by rw [te_br (Or.inr (Or.inr h59))]; omega)]
  rw [pz_lp_on (pz_rF_pr hB) e1] at h1
  refine ⟨fun z => ?_, fun z => ?_⟩
  · have h2 := hc.1 z
    have h3 := hl₀ z
    refine ⟨h2.wr, ?_⟩
    rw [h1, h2.st, show ln'.toInt.toNat = ln.toInt.toNat + 1 by omega]; rfl
  · obtain ⟨x, h2, h3⟩ := hc.2 z
    rw [h1, h2, h3]; rfl
def RuE (B : Nat → Int) (wr : Int32) : Prop := (wr.toInt = 0 ∧ ∃ p, pz_rule B = .ok p) ∨ (¬ wr.toInt = 0 ∧ pz_rule B = .error wr.toInt)
theorem RuE.bad {B : Nat → Int} {nx md ln wr gd : Int32} (h : RaL B nx md ln wr gd) (hg : gd.toInt = 0) (hw : ¬ wr.toInt = 0) : RuE B wr := Or.inr ⟨hw, h.2 hg⟩
theorem RaL.end {B : Nat → Int} {nx md ln wr gd n1 : Int32} (h : RaL B nx md ln wr gd) (hg : gd.toInt = 1) (hs : SkR B nx n1) (h59 : ¬ B n1.toInt.toNat = 59) : pz_rule B = pz_end B n1.toInt.toNat := by
  obtain ⟨-, h1⟩ := h.1 hg
  have hz : pz_rF B (St0 B nx md, ln.toInt.toNat) = none := by
    unfold pz_rF
    rw [if_neg (by rw [St0.at hs]; exact h59)]
  rw [h1, pz_lp_no hz]
  show pz_end B (St0 B nx md).1 = _
  rw [St0.at hs]
theorem RuE.end {B : Nat → Int} {nx md ln wr gd n1 : Int32} (h : RaL B nx md ln wr gd) (hg : gd.toInt = 1) (hs : SkR B nx n1) (he : B n1.toInt.toNat = -1) : RuE B wr := by
  left
  refine ⟨(h.1 hg).1, n1.toInt.toNat, ?_⟩
  rw [h.end hg hs (by omega), show pz_end B n1.toInt.toNat = .ok n1.toInt.toNat from if_pos he]
theorem RuE.more {B : Nat → Int} {nx md ln wr gd n1 wr' : Int32} (h : RaL B nx md ln wr gd) (hg : gd.toInt = 1) (hs : SkR B nx n1) (h59 : ¬ B n1.toInt.toNat = 59) (he : ¬ B n1.toInt.toNat = -1) (hw : wr'.toInt = 1 + 8 * n1.toInt) : RuE B wr' := by
  right
  have h0 := hs.1
  refine ⟨by omega, ?_⟩
  rw [h.end hg hs h59, show pz_end B n1.toInt.toNat = .error (pz_er 0 n1.toInt.toNat) from if_neg he]
  congr 1
  unfold pz_er; omega
set_option maxHeartbeats 4000000 in
set_option maxRecDepth 100000 in
theorem ct_fX12_see (l : Launch) (D : va_G) (tc : Nat → ClassId) (sk : (Nat → Nat) × (Nat → Nat)) (Ma : Nat → Nat) (Mv : Nat → Int32) (Mf : Nat → Nat → Int32) (Mj : Nat → Int64) (h_nx : 0 ≤ ((Mv 2) : Int32).toInt ∧ ((Mv 2) : Int32).toInt ≤ ((Mv 0) : Int32).toInt ∧ ((Mv 0) : Int32).toInt ≤ 400) (h_bs : ByS (Mf 1)) : Ct l yX12_see cX12_see 1 (some .int) { frames := 0, cells := 0, slots := 0, locals := 0 } D tc sk [.ref (Ma 0)] [((Ma 0), .inr (12, [.ref (Ma 1), .int (Mv 0), .int (Mv 1), .ref (Ma 2), .ref (Ma 3), .ref (Ma 4), .ref (Ma 5), .ref (Ma 6), .int (Mv 2), .int (Mv 3), .int (Mv 4), .int (Mv 5), .int (Mv 6), .int (Mv 7), .int (Mv 8), .ref (Ma 7), .int (Mv 9), .ref (Ma 8), .int (Mv 10), .ref (Ma 9), .ref (Ma 10), .int (Mv 11), .int (Mv 12), .int (Mv 13), .ref (Ma 11), .int (Mv 14), .ref (Ma 12), .ref (Ma 13), .ref (Ma 14), .ref (Ma 15), .ref (Ma 16), .long (Mj 0), .ref (Ma 17), .ref (Ma 18), .ref (Ma 19), .ref (Ma 20)])), ((Ma 1), .inl (tc 2, 400, .inl (Mf 1)))] (fun (v : Option Value) (oo0x1 : Int32) => ∃ r : Int32, v = some (.int r) ∧ ((r.toInt = rB (Mf 1) (Mv 0) (oo0x1 : Int32).toInt.toNat ∧ (r.toInt = -1 ∨ (oo0x1 : Int32).toInt < (Mv 0).toInt))) ∧ (((Mv 2) : Int32).toInt ≤ (oo0x1 : Int32).toInt ∧ (oo0x1 : Int32).toInt ≤ ((Mv 0) : Int32).toInt) ∧ (NSq (Mf 1) (Mv 0) oo0x1) ∧ (Stl (Mf 1) (Mv 0) (Mv 2) oo0x1) ∧ (SkR (rB (Mf 1) (Mv 0)) (Mv 2) oo0x1)) (fun (oo0x1 : Int32) => [((Ma 0), .inr (12, [.ref (Ma 1), .int (Mv 0), .int (Mv 1), .ref (Ma 2), .ref (Ma 3), .ref (Ma 4), .ref (Ma 5), .ref (Ma 6), .int oo0x1, .int (Mv 3), .int (Mv 4), .int (Mv 5), .int (Mv 6), .int (Mv 7), .int (Mv 8), .ref (Ma 7), .int (Mv 9), .ref (Ma 8), .int (Mv 10), .ref (Ma 9), .ref (Ma 10), .int (Mv 11), .int (Mv 12), .int (Mv 13), .ref (Ma 11), .int (Mv 14), .ref (Ma 12), .ref (Ma 13), .ref (Ma 14), .ref (Ma 15), .ref (Ma 16), .long (Mj 0), .ref (Ma 17), .ref (Ma 18), .ref (Ma 19), .ref (Ma 20)])), ((Ma 1), .inl (tc 2, 400, .inl (Mf 1)))]) 0 0 := by
  refine Ct.start (by decide) (Nat.le_of_ble_eq_true rfl) (fun p e s m below meth c A ls hx hb hr hlk hin hml hown hts hK hX hP hD hA hl hS => ?_)
  have hl : lv_has ls 1 [(0, .ref (Ma 0))] := hl
  have loop_5 : ∀ (n_3 : Nat) (vy_2 : Int32) (H : Heap) (locs : List Loc) (ls : Array Slot), (400 - (vy_2 : Int32).toInt).toNat < n_3 → ((Mv 2).toInt ≤ (vy_2 : Int32).toInt ∧ (vy_2 : Int32).toInt ≤ (Mv 0).toInt) → (Stl (Mf 1) (Mv 0) (Mv 2) vy_2) → (RnB pz_isS (rB (Mf 1) (Mv 0)) ((Mv 2) : Int32).toInt (vy_2 : Int32).toInt) → va_P D classes [((Ma 0), .inr (12, [.ref (Ma 1), .int (Mv 0), .int (Mv 1), .ref (Ma 2), .ref (Ma 3), .ref (Ma 4), .ref (Ma 5), .ref (Ma 6), .int vy_2, .int (Mv 3), .int (Mv 4), .int (Mv 5), .int (Mv 6), .int (Mv 7), .int (Mv 8), .ref (Ma 7), .int (Mv 9), .ref (Ma 8), .int (Mv 10), .ref (Ma 9), .ref (Ma 10), .int (Mv 11), .int (Mv 12), .int (Mv 13), .ref (Ma 11), .int (Mv 14), .ref (Ma 12), .ref (Ma 13), .ref (Ma 14), .ref (Ma 15), .ref (Ma 16), .long (Mj 0), .ref (Ma 17), .ref (Ma 18), .ref (Ma 19), .ref (Ma 20)])), ((Ma 1), .inl (tc 2, 400, .inl (Mf 1)))] H → va_D A [((Ma 0), .inr (12, [.ref (Ma 1), .int (Mv 0), .int (Mv 1), .ref (Ma 2), .ref (Ma 3), .ref (Ma 4), .ref (Ma 5), .ref (Ma 6), .int vy_2, .int (Mv 3), .int (Mv 4), .int (Mv 5), .int (Mv 6), .int (Mv 7), .int (Mv 8), .ref (Ma 7), .int (Mv 9), .ref (Ma 8), .int (Mv 10), .ref (Ma 9), .ref (Ma 10), .int (Mv 11), .int (Mv 12), .int (Mv 13), .ref (Ma 11), .int (Mv 14), .ref (Ma 12), .ref (Ma 13), .ref (Ma 14), .ref (Ma 15), .ref (Ma 16), .long (Mj 0), .ref (Ma 17), .ref (Ma 18), .ref (Ma 19), .ref (Ma 20)])), ((Ma 1), .inl (tc 2, 400, .inl (Mf 1)))] → va_S A s.heap H locs → lv_has ls 1 [(0, .ref (Ma 0))] → W p l e ({ frames := 0, cells := 0, slots := 0, locals := 0 }) s m ([.ref (Ma 0)].toArray) below meth c H locs 0 0 (MQ below (QW (fun (v : Option Value) (oo0x1 : Int32) => ∃ r : Int32, v = some (.int r) ∧ ((r.toInt = rB (Mf 1) (Mv 0) (oo0x1 : Int32).toInt.toNat ∧ (r.toInt = -1 ∨ (oo0x1 : Int32).toInt < (Mv 0).toInt))) ∧ (((Mv 2) : Int32).toInt ≤ (oo0x1 : Int32).toInt ∧ (oo0x1 : Int32).toInt ≤ ((Mv 0) : Int32).toInt) ∧ (NSq (Mf 1) (Mv 0) oo0x1) ∧ (Stl (Mf 1) (Mv 0) (Mv 2) oo0x1) ∧ (SkR (rB (Mf 1) (Mv 0)) (Mv 2) oo0x1)) (BW D (fun (oo0x1 : Int32) => [((Ma 0), .inr (12, [.ref (Ma 1), .int (Mv 0), .int (Mv 1), .ref (Ma 2), .ref (Ma 3), .ref (Ma 4), .ref (Ma 5), .ref (Ma 6), .int oo0x1, .int (Mv 3), .int (Mv 4), .int (Mv 5), .int (Mv 6), .int (Mv 7), .int (Mv 8), .ref (Ma 7), .int (Mv 9), .ref (Ma 8), .int (Mv 10), .ref (Ma 9), .ref (Ma 10), .int (Mv 11), .int (Mv 12), .int (Mv 13), .ref (Ma 11), .int (Mv 14), .ref (Ma 12), .ref (Ma 13), .ref (Ma 14), .ref (Ma 15), .ref (Ma 16), .long (Mj 0), .ref (Ma 17), .ref (Ma 18), .ref (Ma 19), .ref (Ma 20)])), ((Ma 1), .inl (tc 2, 400, .inl (Mf 1)))]) A) A) ([.ref (Ma 0)].toArray) s 0 0 A) (F0 m 0 ls []) := by
    clear hP hD hS hl
    intro n_3
    induction n_3 with
    | zero =>
      intro vy_2 H locs ls h1
      exact absurd h1 (Nat.not_lt_zero _)
    | succ n_3 ih_4 =>
      intro vy_2 H locs ls hn_9 pf_6 pf_7 pf_8 hP hD hS hl
      refine lv_aload_n hx hb dX12_see_0 rfl (lv_at hl 0 rfl) ?_
      refine gf_X12_87 hx hb hts hown hK hP 0 rfl rfl dX12_see_1 ?_
      refine lv_aload_n hx hb dX12_see_4 rfl (lv_at hl 0 rfl) ?_
      refine gf_X12_77 hx hb hts hown hK hP 0 rfl rfl dX12_see_5 ?_
      refine lv_icmp_ge (tgt := 38) hx hb dX12_see_8 (by decide) (fun c_10 => ?_) (fun c_10 => ?_)
      · skip
        refine lv_aload_n hx hb dX12_see_38 rfl (lv_at hl 0 rfl) ?_
        refine gf_X12_87 hx hb hts hown hK hP 0 rfl rfl dX12_see_39 ?_
        refine lv_aload_n hx hb dX12_see_42 rfl (lv_at hl 0 rfl) ?_
        refine gf_X12_77 hx hb hts hown hK hP 0 rfl rfl dX12_see_43 ?_
        refine lv_icmp_ge (tgt := 65) hx hb dX12_see_46 (by decide) (fun c_11 => ?_) (fun c_11 => ?_)
        · skip
          refine lv_iconst (v := (-1)) hx hb dX12_see_65 (by decide) ?_
          have ha_12 : ((Mv 2) : Int32).toInt ≤ (vy_2 : Int32).toInt ∧ (vy_2 : Int32).toInt ≤ ((Mv 0) : Int32).toInt := by
            have z_1 := Int32.le_iff_toInt_le.mp c_10
            have z_2 := Int32.le_iff_toInt_le.mp c_11
            omega
          have ha_13 : NSq (Mf 1) (Mv 0) vy_2 := by
            intro hz hq
            have z_1 := Int32.le_iff_toInt_le.mp c_10
            have z_2 := Int32.le_iff_toInt_le.mp c_11
            omega
          have rg_14 := rB_rg (n := (Mv 0)) h_bs (vy_2 : Int32).toInt.toNat
          have hn_15 : ¬ rB (Mf 1) (Mv 0) (vy_2 : Int32).toInt.toNat = 32 := by
            have z_1 := Int32.le_iff_toInt_le.mp c_10
            have z_2 := Int32.le_iff_toInt_le.mp c_11
            omega
          have hr_16 : (vy_2 : Int32).toInt ≤ 400 := by
            have z_1 := Int32.le_iff_toInt_le.mp c_10
            have z_2 := Int32.le_iff_toInt_le.mp c_11
            omega
          have rg_17 := rB_rg (n := (Mv 0)) h_bs (vy_2 : Int32).toInt.toNat
          have hp_18 : ((-1) : Int32).toInt = rB (Mf 1) (Mv 0) (vy_2 : Int32).toInt.toNat := by
            have z_1 := Int32.le_iff_toInt_le.mp c_10
            have z_2 := Int32.le_iff_toInt_le.mp c_11
            have yr : (-1 : Int32).toInt = -1 := by decide
            omega
          have hp_19 : (((-1) : Int32).toInt = -1 ∨ (vy_2 : Int32).toInt < (Mv 0).toInt) := by
            have z_1 := Int32.le_iff_toInt_le.mp c_10
            have z_2 := Int32.le_iff_toInt_le.mp c_11
            have y_m1 : (-1 : Int32).toInt = -1 := by decide
            have yr : (-1 : Int32).toInt = -1 := by decide
            omega
          exact retI (v := (-1)) hx hb hr hlk (rfl) hP hD hS vy_2 ⟨_, rfl, ⟨hp_18, hp_19⟩, ha_12, ha_13, pf_7, (SkR.of pf_8 h_nx.1 hr_16 hn_15)⟩ [0, 1] rfl rfl dX12_see_66 (Nat.le_of_ble_eq_true rfl) (Nat.le_of_ble_eq_true rfl) rfl
        · skip
          refine lv_aload_n hx hb dX12_see_49 rfl (lv_at hl 0 rfl) ?_
          refine gf_X12_7 hx hb hts hown hK hP 0 rfl rfl dX12_see_50 ?_
          refine lv_aload_n hx hb dX12_see_53 rfl (lv_at hl 0 rfl) ?_
          refine gf_X12_87 hx hb hts hown hK hP 0 rfl rfl dX12_see_54 ?_
          have hi_20 : vp_in vy_2 400 := by
            have z_1 := Int32.le_iff_toInt_le.mp c_10
            have z_2 := Int32.lt_iff_toInt_lt.mp (Int32.not_le.mp c_11)
            refine vp_in_iff.mpr ⟨?_, ?_⟩ <;> omega
          refine va_bald hx hb hK hP 1 2 rfl rfl hi_20 dX12_see_57 ?_
          refine lv_topi (fun x_21 ex_21 => ?_)
          have kx_21 : x_21.toInt = ((Mf 1) (vy_2 : Int32).toInt.toNat).toInt := congrArg Int32.toInt ex_21
          have kcx_21 : x_21.toInt = ((Mf 1) (vy_2 : Int32).toNatClampNeg).toInt := congrArg Int32.toInt ex_21
          refine lv_sipush (v := 255) hx hb dX12_see_58 (by decide) ?_
          refine lv_iand hx hb dX12_see_61 ?_
          refine lv_topi (fun x_22 ex_22 => ?_)
          refine lv_goto (tgt := 66) hx hb dX12_see_62 (by decide) ?_
          have ha_23 : ((Mv 2) : Int32).toInt ≤ (vy_2 : Int32).toInt ∧ (vy_2 : Int32).toInt ≤ ((Mv 0) : Int32).toInt := by
            have z_1 := Int32.le_iff_toInt_le.mp c_10
            have z_2 := Int32.lt_iff_toInt_lt.mp (Int32.not_le.mp c_11)
            omega
          have ha_24 : NSq (Mf 1) (Mv 0) vy_2 := by
            intro hz hq
            have z_1 := Int32.le_iff_toInt_le.mp c_10
            have z_2 := Int32.lt_iff_toInt_lt.mp (Int32.not_le.mp c_11)
            omega
          have rg_25 := rB_rg (n := (Mv 0)) h_bs (vy_2 : Int32).toInt.toNat
          have hn_26 : ¬ rB (Mf 1) (Mv 0) (vy_2 : Int32).toInt.toNat = 32 := by
            have z_1 := Int32.le_iff_toInt_le.mp c_10
            have z_2 := Int32.lt_iff_toInt_lt.mp (Int32.not_le.mp c_11)
            omega
          have hr_27 : (vy_2 : Int32).toInt ≤ 400 := by
            have z_1 := Int32.le_iff_toInt_le.mp c_10
            have z_2 := Int32.lt_iff_toInt_lt.mp (Int32.not_le.mp c_11)
            omega
          have rg_28 := rB_rg (n := (Mv 0)) h_bs (vy_2 : Int32).toInt.toNat
          have hp_29 : (x_22 : Int32).toInt = rB (Mf 1) (Mv 0) (vy_2 : Int32).toInt.toNat := by
            rw [ex_22, and255]
            rw [rB_in (by
                have z_1 := Int32.le_iff_toInt_le.mp c_10
                have z_2 := Int32.lt_iff_toInt_lt.mp (Int32.not_le.mp c_11)
                omega)]
            rw [kx_21]
          have hp_30 : ((x_22 : Int32).toInt = -1 ∨ (vy_2 : Int32).toInt < (Mv 0).toInt) := by
            have z_1 := Int32.le_iff_toInt_le.mp c_10
            have z_2 := Int32.lt_iff_toInt_lt.mp (Int32.not_le.mp c_11)
            have yr : (-1 : Int32).toInt = -1 := by decide
            omega
          exact retI (v := x_22) hx hb hr hlk (rfl) hP hD hS vy_2 ⟨_, rfl, ⟨hp_29, hp_30⟩, ha_23, ha_24, pf_7, (SkR.of pf_8 h_nx.1 hr_27 hn_26)⟩ [0, 1] rfl rfl dX12_see_66 (Nat.le_of_ble_eq_true rfl) (Nat.le_of_ble_eq_true rfl) rfl
      · skip
        refine lv_aload_n hx hb dX12_see_11 rfl (lv_at hl 0 rfl) ?_
        refine gf_X12_7 hx hb hts hown hK hP 0 rfl rfl dX12_see_12 ?_
        refine lv_aload_n hx hb dX12_see_15 rfl (lv_at hl 0 rfl) ?_
        refine gf_X12_87 hx hb hts hown hK hP 0 rfl rfl dX12_see_16 ?_
        have hi_31 : vp_in vy_2 400 := by
          have z_1 := Int32.lt_iff_toInt_lt.mp (Int32.not_le.mp c_10)
          refine vp_in_iff.mpr ⟨?_, ?_⟩ <;> omega
        refine va_bald hx hb hK hP 1 2 rfl rfl hi_31 dX12_see_19 ?_
        refine lv_topi (fun x_32 ex_32 => ?_)
        have kx_32 : x_32.toInt = ((Mf 1) (vy_2 : Int32).toInt.toNat).toInt := congrArg Int32.toInt ex_32
        have kcx_32 : x_32.toInt = ((Mf 1) (vy_2 : Int32).toNatClampNeg).toInt := congrArg Int32.toInt ex_32
        refine lv_bipush (v := 32) hx hb dX12_see_20 (by decide) ?_
        refine lv_icmp_ne (tgt := 38) hx hb dX12_see_22 (by decide) (fun c_33 => ?_) (fun c_33 => ?_)
        · skip
          refine lv_aload_n hx hb dX12_see_38 rfl (lv_at hl 0 rfl) ?_
          refine gf_X12_87 hx hb hts hown hK hP 0 rfl rfl dX12_see_39 ?_
          refine lv_aload_n hx hb dX12_see_42 rfl (lv_at hl 0 rfl) ?_
          refine gf_X12_77 hx hb hts hown hK hP 0 rfl rfl dX12_see_43 ?_
          refine lv_icmp_ge (tgt := 65) hx hb dX12_see_46 (by decide) (fun c_34 => ?_) (fun c_34 => ?_)
          · skip
            refine lv_iconst (v := (-1)) hx hb dX12_see_65 (by decide) ?_
            have ha_35 : ((Mv 2) : Int32).toInt ≤ (vy_2 : Int32).toInt ∧ (vy_2 : Int32).toInt ≤ ((Mv 0) : Int32).toInt := by
              have z_1 := Int32.lt_iff_toInt_lt.mp (Int32.not_le.mp c_10)
              have z_2 : ¬ (x_32 : Int32).toInt = (32 : Int32).toInt := fun z => c_33 (Int32.toInt_inj.mp z)
              have z_3 := Int32.le_iff_toInt_le.mp c_34
              have y_32 : (32 : Int32).toInt = 32 := by decide
              omega
            have ha_36 : NSq (Mf 1) (Mv 0) vy_2 := by
              intro hz hq
              have z_1 := Int32.lt_iff_toInt_lt.mp (Int32.not_le.mp c_10)
              have z_2 : ¬ (x_32 : Int32).toInt = (32 : Int32).toInt := fun z => c_33 (Int32.toInt_inj.mp z)
              have z_3 := Int32.le_iff_toInt_le.mp c_34
              have y_32 : (32 : Int32).toInt = 32 := by decide
              omega
            have rg_37 := rB_rg (n := (Mv 0)) h_bs (vy_2 : Int32).toInt.toNat
            have hn_38 : ¬ rB (Mf 1) (Mv 0) (vy_2 : Int32).toInt.toNat = 32 := by
              have z_1 := Int32.lt_iff_toInt_lt.mp (Int32.not_le.mp c_10)
              have z_2 : ¬ (x_32 : Int32).toInt = (32 : Int32).toInt := fun z => c_33 (Int32.toInt_inj.mp z)
              have z_3 := Int32.le_iff_toInt_le.mp c_34
              have y_32 : (32 : Int32).toInt = 32 := by decide
              omega
            have hr_39 : (vy_2 : Int32).toInt ≤ 400 := by
              have z_1 := Int32.lt_iff_toInt_lt.mp (Int32.not_le.mp c_10)
              have z_2 : ¬ (x_32 : Int32).toInt = (32 : Int32).toInt := fun z => c_33 (Int32.toInt_inj.mp z)
              have z_3 := Int32.le_iff_toInt_le.mp c_34
              have y_32 : (32 : Int32).toInt = 32 := by decide
              omega
            have rg_40 := rB_rg (n := (Mv 0)) h_bs (vy_2 : Int32).toInt.toNat
            have hp_41 : ((-1) : Int32).toInt = rB (Mf 1) (Mv 0) (vy_2 : Int32).toInt.toNat := by
              have z_1 := Int32.lt_iff_toInt_lt.mp (Int32.not_le.mp c_10)
              have z_2 : ¬ (x_32 : Int32).toInt = (32 : Int32).toInt := fun z => c_33 (Int32.toInt_inj.mp z)
              have z_3 := Int32.le_iff_toInt_le.mp c_34
              have y_32 : (32 : Int32).toInt = 32 := by decide
              have yr : (-1 : Int32).toInt = -1 := by decide
              omega
            have hp_42 : (((-1) : Int32).toInt = -1 ∨ (vy_2 : Int32).toInt < (Mv 0).toInt) := by
              have z_1 := Int32.lt_iff_toInt_lt.mp (Int32.not_le.mp c_10)
              have z_2 : ¬ (x_32 : Int32).toInt = (32 : Int32).toInt := fun z => c_33 (Int32.toInt_inj.mp z)
              have z_3 := Int32.le_iff_toInt_le.mp c_34
              have y_32 : (32 : Int32).toInt = 32 := by decide
              have y_m1 : (-1 : Int32).toInt = -1 := by decide
              have yr : (-1 : Int32).toInt = -1 := by decide
              omega
            exact retI (v := (-1)) hx hb hr hlk (rfl) hP hD hS vy_2 ⟨_, rfl, ⟨hp_41, hp_42⟩, ha_35, ha_36, pf_7, (SkR.of pf_8 h_nx.1 hr_39 hn_38)⟩ [0, 1] rfl rfl dX12_see_66 (Nat.le_of_ble_eq_true rfl) (Nat.le_of_ble_eq_true rfl) rfl
          · skip
            refine lv_aload_n hx hb dX12_see_49 rfl (lv_at hl 0 rfl) ?_
            refine gf_X12_7 hx hb hts hown hK hP 0 rfl rfl dX12_see_50 ?_
            refine lv_aload_n hx hb dX12_see_53 rfl (lv_at hl 0 rfl) ?_
            refine gf_X12_87 hx hb hts hown hK hP 0 rfl rfl dX12_see_54 ?_
            have hi_43 : vp_in vy_2 400 := by
              have z_1 := Int32.lt_iff_toInt_lt.mp (Int32.not_le.mp c_10)
              have z_2 : ¬ (x_32 : Int32).toInt = (32 : Int32).toInt := fun z => c_33 (Int32.toInt_inj.mp z)
              have z_3 := Int32.lt_iff_toInt_lt.mp (Int32.not_le.mp c_34)
              have y_32 : (32 : Int32).toInt = 32 := by decide
              refine vp_in_iff.mpr ⟨?_, ?_⟩ <;> omega
            refine va_bald hx hb hK hP 1 2 rfl rfl hi_43 dX12_see_57 ?_
            refine lv_topi (fun x_44 ex_44 => ?_)
            have kx_44 : x_44.toInt = ((Mf 1) (vy_2 : Int32).toInt.toNat).toInt := congrArg Int32.toInt ex_44
            have kcx_44 : x_44.toInt = ((Mf 1) (vy_2 : Int32).toNatClampNeg).toInt := congrArg Int32.toInt ex_44
            refine lv_sipush (v := 255) hx hb dX12_see_58 (by decide) ?_
            refine lv_iand hx hb dX12_see_61 ?_
            refine lv_topi (fun x_45 ex_45 => ?_)
            refine lv_goto (tgt := 66) hx hb dX12_see_62 (by decide) ?_
            have ha_46 : ((Mv 2) : Int32).toInt ≤ (vy_2 : Int32).toInt ∧ (vy_2 : Int32).toInt ≤ ((Mv 0) : Int32).toInt := by
              have z_1 := Int32.lt_iff_toInt_lt.mp (Int32.not_le.mp c_10)
              have z_2 : ¬ (x_32 : Int32).toInt = (32 : Int32).toInt := fun z => c_33 (Int32.toInt_inj.mp z)
              have z_3 := Int32.lt_iff_toInt_lt.mp (Int32.not_le.mp c_34)
              have y_32 : (32 : Int32).toInt = 32 := by decide
              omega
            have ha_47 : NSq (Mf 1) (Mv 0) vy_2 := by
              intro hz hq
              have z_1 := Int32.lt_iff_toInt_lt.mp (Int32.not_le.mp c_10)
              have z_2 : ¬ (x_32 : Int32).toInt = (32 : Int32).toInt := fun z => c_33 (Int32.toInt_inj.mp z)
              have z_3 := Int32.lt_iff_toInt_lt.mp (Int32.not_le.mp c_34)
              have y_32 : (32 : Int32).toInt = 32 := by decide
              omega
            have rg_48 := rB_rg (n := (Mv 0)) h_bs (vy_2 : Int32).toInt.toNat
            have hn_49 : ¬ rB (Mf 1) (Mv 0) (vy_2 : Int32).toInt.toNat = 32 := by
              have z_1 := Int32.lt_iff_toInt_lt.mp (Int32.not_le.mp c_10)
              have z_2 : ¬ (x_32 : Int32).toInt = (32 : Int32).toInt := fun z => c_33 (Int32.toInt_inj.mp z)
              have z_3 := Int32.lt_iff_toInt_lt.mp (Int32.not_le.mp c_34)
              have y_32 : (32 : Int32).toInt = 32 := by decide
              omega
            have hr_50 : (vy_2 : Int32).toInt ≤ 400 := by
              have z_1 := Int32.lt_iff_toInt_lt.mp (Int32.not_le.mp c_10)
              have z_2 : ¬ (x_32 : Int32).toInt = (32 : Int32).toInt := fun z => c_33 (Int32.toInt_inj.mp z)
              have z_3 := Int32.lt_iff_toInt_lt.mp (Int32.not_le.mp c_34)
              have y_32 : (32 : Int32).toInt = 32 := by decide
              omega
            have rg_51 := rB_rg (n := (Mv 0)) h_bs (vy_2 : Int32).toInt.toNat
            have hp_52 : (x_45 : Int32).toInt = rB (Mf 1) (Mv 0) (vy_2 : Int32).toInt.toNat := by
              rw [ex_45, and255]
              rw [rB_in (by
                  have z_1 := Int32.lt_iff_toInt_lt.mp (Int32.not_le.mp c_10)
                  have z_2 : ¬ (x_32 : Int32).toInt = (32 : Int32).toInt := fun z => c_33 (Int32.toInt_inj.mp z)
                  have z_3 := Int32.lt_iff_toInt_lt.mp (Int32.not_le.mp c_34)
                  have y_32 : (32 : Int32).toInt = 32 := by decide
                  omega)]
              rw [kx_44]
            have hp_53 : ((x_45 : Int32).toInt = -1 ∨ (vy_2 : Int32).toInt < (Mv 0).toInt) := by
              have z_1 := Int32.lt_iff_toInt_lt.mp (Int32.not_le.mp c_10)
              have z_2 : ¬ (x_32 : Int32).toInt = (32 : Int32).toInt := fun z => c_33 (Int32.toInt_inj.mp z)
              have z_3 := Int32.lt_iff_toInt_lt.mp (Int32.not_le.mp c_34)
              have y_32 : (32 : Int32).toInt = 32 := by decide
              have yr : (-1 : Int32).toInt = -1 := by decide
              omega
            exact retI (v := x_45) hx hb hr hlk (rfl) hP hD hS vy_2 ⟨_, rfl, ⟨hp_52, hp_53⟩, ha_46, ha_47, pf_7, (SkR.of pf_8 h_nx.1 hr_50 hn_49)⟩ [0, 1] rfl rfl dX12_see_66 (Nat.le_of_ble_eq_true rfl) (Nat.le_of_ble_eq_true rfl) rfl
        · skip
          refine lv_aload_n hx hb dX12_see_25 rfl (lv_at hl 0 rfl) ?_
          refine lv_dup hx hb dX12_see_26 rfl ?_
          refine gf_X12_87 hx hb hts hown hK hP 0 rfl rfl dX12_see_27 ?_
          refine lv_iconst (v := 1) hx hb dX12_see_30 (by decide) ?_
          refine lv_iadd hx hb dX12_see_31 ?_
          refine lv_topi (fun x_54 ex_54 => ?_)
          refine pf_X12_87 hx hb hts hown hK hP hD hS 0 rfl (Nat.le_of_ble_eq_true rfl) rfl rfl dX12_see_32 (fun H locs hP₀ hD₀ hS₀ => ?_)
          replace hP : va_P D classes [((Ma 0), .inr (12, [.ref (Ma 1), .int (Mv 0), .int (Mv 1), .ref (Ma 2), .ref (Ma 3), .ref (Ma 4), .ref (Ma 5), .ref (Ma 6), .int x_54, .int (Mv 3), .int (Mv 4), .int (Mv 5), .int (Mv 6), .int (Mv 7), .int (Mv 8), .ref (Ma 7), .int (Mv 9), .ref (Ma 8), .int (Mv 10), .ref (Ma 9), .ref (Ma 10), .int (Mv 11), .int (Mv 12), .int (Mv 13), .ref (Ma 11), .int (Mv 14), .ref (Ma 12), .ref (Ma 13), .ref (Ma 14), .ref (Ma 15), .ref (Ma 16), .long (Mj 0), .ref (Ma 17), .ref (Ma 18), .ref (Ma 19), .ref (Ma 20)])), ((Ma 1), .inl (tc 2, 400, .inl (Mf 1)))] H := hP₀
          replace hD : va_D A [((Ma 0), .inr (12, [.ref (Ma 1), .int (Mv 0), .int (Mv 1), .ref (Ma 2), .ref (Ma 3), .ref (Ma 4), .ref (Ma 5), .ref (Ma 6), .int x_54, .int (Mv 3), .int (Mv 4), .int (Mv 5), .int (Mv 6), .int (Mv 7), .int (Mv 8), .ref (Ma 7), .int (Mv 9), .ref (Ma 8), .int (Mv 10), .ref (Ma 9), .ref (Ma 10), .int (Mv 11), .int (Mv 12), .int (Mv 13), .ref (Ma 11), .int (Mv 14), .ref (Ma 12), .ref (Ma 13), .ref (Ma 14), .ref (Ma 15), .ref (Ma 16), .long (Mj 0), .ref (Ma 17), .ref (Ma 18), .ref (Ma 19), .ref (Ma 20)])), ((Ma 1), .inl (tc 2, 400, .inl (Mf 1)))] := hD₀
          replace hS := hS₀
          clear hP₀ hD₀ hS₀
          have tp_x_54 : (x_54 : Int32).toInt = (vy_2 : Int32).toInt + 1 := by
            have z_1 := Int32.lt_iff_toInt_lt.mp (Int32.not_le.mp c_10)
            have z_2 := congrArg Int32.toInt c_33
            have y_32 : (32 : Int32).toInt = 32 := by decide
            have y_1 : (1 : Int32).toInt = 1 := by decide
            have t_x_54 : x_54.toInt = (vy_2 : Int32).toInt + (1 : Int32).toInt := by rw [ex_54]; exact add_toInt (by omega) (by omega)
            omega
          refine lv_goto (tgt := 0) hx hb dX12_see_35 (by decide) ?_
          have hb_55 : 400 - (x_54 : Int32).toInt < 400 - (vy_2 : Int32).toInt ∧ 1 ≤ 400 - (vy_2 : Int32).toInt := by
            have z_1 := Int32.lt_iff_toInt_lt.mp (Int32.not_le.mp c_10)
            have z_2 := congrArg Int32.toInt c_33
            have y_32 : (32 : Int32).toInt = 32 := by decide
            have y_1 : (1 : Int32).toInt = 1 := by decide
            have t_x_54 : x_54.toInt = (vy_2 : Int32).toInt + (1 : Int32).toInt := by rw [ex_54]; exact add_toInt (by omega) (by omega)
            omega
          have ha_56 : (Mv 2).toInt ≤ (x_54 : Int32).toInt ∧ (x_54 : Int32).toInt ≤ (Mv 0).toInt := by
            have z_1 := Int32.lt_iff_toInt_lt.mp (Int32.not_le.mp c_10)
            have z_2 := congrArg Int32.toInt c_33
            have y_32 : (32 : Int32).toInt = 32 := by decide
            have y_1 : (1 : Int32).toInt = 1 := by decide
            have t_x_54 : x_54.toInt = (vy_2 : Int32).toInt + (1 : Int32).toInt := by rw [ex_54]; exact add_toInt (by omega) (by omega)
            omega
          have hr_58 : (x_32 : Int32).toInt = 32 := by
            have z_1 := Int32.lt_iff_toInt_lt.mp (Int32.not_le.mp c_10)
            have z_2 := congrArg Int32.toInt c_33
            have y_32 : (32 : Int32).toInt = 32 := by decide
            omega
          have ha_57 : Stl (Mf 1) (Mv 0) (Mv 2) x_54 := Stl.step pf_7 ex_32 hr_58
          have rg_59 := rB_rg (n := (Mv 0)) h_bs (vy_2 : Int32).toInt.toNat
          have hb_60 : pz_isS (rB (Mf 1) (Mv 0) (vy_2 : Int32).toInt.toNat) = true := decide_eq_true (by
            have z_1 := Int32.lt_iff_toInt_lt.mp (Int32.not_le.mp c_10)
            have z_2 := congrArg Int32.toInt c_33
            have y_32 : (32 : Int32).toInt = 32 := by decide
            omega)
          have hq_61 : (x_54 : Int32).toInt = (vy_2 : Int32).toInt + 1 := by
            have z_1 := Int32.lt_iff_toInt_lt.mp (Int32.not_le.mp c_10)
            have z_2 := congrArg Int32.toInt c_33
            have y_32 : (32 : Int32).toInt = 32 := by decide
            have y_1 : (1 : Int32).toInt = 1 := by decide
            have t_x_54 : x_54.toInt = (vy_2 : Int32).toInt + (1 : Int32).toInt := by rw [ex_54]; exact add_toInt (by omega) (by omega)
            omega
          have hr_62 : 0 ≤ (vy_2 : Int32).toInt := by
            have z_1 := Int32.lt_iff_toInt_lt.mp (Int32.not_le.mp c_10)
            have z_2 := congrArg Int32.toInt c_33
            have y_32 : (32 : Int32).toInt = 32 := by decide
            omega
          exact ih_4 x_54 _ _ _ (by omega) ha_56 ha_57 (RnB.st pf_8 hr_62 hb_60 hq_61) (hP.sub [0, 1] rfl) (hD.sub [0, 1] rfl rfl) hS (lv_sub hl [0] rfl)
  have ha_63 : (Mv 2).toInt ≤ ((Mv 2) : Int32).toInt ∧ ((Mv 2) : Int32).toInt ≤ (Mv 0).toInt := by
    omega
  have ha_64 : Stl (Mf 1) (Mv 0) (Mv 2) (Mv 2) := Stl.rf
  exact loop_5 _ (Mv 2) _ _ _ (Nat.lt_succ_self _) ha_63 ha_64 (RnB.rf) hP hD hS hl
set_option maxRecDepth 100000 in
theorem cu_fX12_see (l : Launch) (D : va_G) (tc : Nat → ClassId) (sk : (Nat → Nat) × (Nat → Nat)) (Ma_0 : Nat) (Ma_1 : Nat) (Ma_2 : Nat) (Ma_3 : Nat) (Ma_4 : Nat) (Ma_5 : Nat) (Ma_6 : Nat) (Ma_7 : Nat) (Ma_8 : Nat) (Ma_9 : Nat) (Ma_10 : Nat) (Ma_11 : Nat) (Ma_12 : Nat) (Ma_13 : Nat) (Ma_14 : Nat) (Ma_15 : Nat) (Ma_16 : Nat) (Ma_17 : Nat) (Ma_18 : Nat) (Ma_19 : Nat) (Ma_20 : Nat) (Mv_0 : Int32) (Mv_1 : Int32) (Mv_2 : Int32) (Mv_3 : Int32) (Mv_4 : Int32) (Mv_5 : Int32) (Mv_6 : Int32) (Mv_7 : Int32) (Mv_8 : Int32) (Mv_9 : Int32) (Mv_10 : Int32) (Mv_11 : Int32) (Mv_12 : Int32) (Mv_13 : Int32) (Mv_14 : Int32) (Mf_1 : Nat → Int32) (Mj_0 : Int64) (h_nx : 0 ≤ (Mv_2 : Int32).toInt ∧ (Mv_2 : Int32).toInt ≤ (Mv_0 : Int32).toInt ∧ (Mv_0 : Int32).toInt ≤ 400) (h_bs : ByS Mf_1) : Ct l yX12_see cX12_see 1 (some .int) { frames := 0, cells := 0, slots := 0, locals := 0 } D tc sk [.ref Ma_0] [(Ma_0, .inr (12, [.ref Ma_1, .int Mv_0, .int Mv_1, .ref Ma_2, .ref Ma_3, .ref Ma_4, .ref Ma_5, .ref Ma_6, .int Mv_2, .int Mv_3, .int Mv_4, .int Mv_5, .int Mv_6, .int Mv_7, .int Mv_8, .ref Ma_7, .int Mv_9, .ref Ma_8, .int Mv_10, .ref Ma_9, .ref Ma_10, .int Mv_11, .int Mv_12, .int Mv_13, .ref Ma_11, .int Mv_14, .ref Ma_12, .ref Ma_13, .ref Ma_14, .ref Ma_15, .ref Ma_16, .long Mj_0, .ref Ma_17, .ref Ma_18, .ref Ma_19, .ref Ma_20])), (Ma_1, .inl (tc 2, 400, .inl Mf_1))] (fun (v : Option Value) (oo0x1 : Int32) => ∃ r : Int32, v = some (.int r) ∧ ((r.toInt = rB Mf_1 Mv_0 (oo0x1 : Int32).toInt.toNat ∧ (r.toInt = -1 ∨ (oo0x1 : Int32).toInt < Mv_0.toInt))) ∧ ((Mv_2 : Int32).toInt ≤ (oo0x1 : Int32).toInt ∧ (oo0x1 : Int32).toInt ≤ (Mv_0 : Int32).toInt) ∧ (NSq Mf_1 Mv_0 oo0x1) ∧ (Stl Mf_1 Mv_0 Mv_2 oo0x1) ∧ (SkR (rB Mf_1 Mv_0) Mv_2 oo0x1)) (fun (oo0x1 : Int32) => [(Ma_0, .inr (12, [.ref Ma_1, .int Mv_0, .int Mv_1, .ref Ma_2, .ref Ma_3, .ref Ma_4, .ref Ma_5, .ref Ma_6, .int oo0x1, .int Mv_3, .int Mv_4, .int Mv_5, .int Mv_6, .int Mv_7, .int Mv_8, .ref Ma_7, .int Mv_9, .ref Ma_8, .int Mv_10, .ref Ma_9, .ref Ma_10, .int Mv_11, .int Mv_12, .int Mv_13, .ref Ma_11, .int Mv_14, .ref Ma_12, .ref Ma_13, .ref Ma_14, .ref Ma_15, .ref Ma_16, .long Mj_0, .ref Ma_17, .ref Ma_18, .ref Ma_19, .ref Ma_20])), (Ma_1, .inl (tc 2, 400, .inl Mf_1))]) 0 0 :=
  ct_fX12_see l D tc sk (fun k => ([Ma_0, Ma_1, Ma_2, Ma_3, Ma_4, Ma_5, Ma_6, Ma_7, Ma_8, Ma_9, Ma_10, Ma_11, Ma_12, Ma_13, Ma_14, Ma_15, Ma_16, Ma_17, Ma_18, Ma_19, Ma_20] : List (Nat)).getD k 0) (fun k => ([Mv_0, Mv_1, Mv_2, Mv_3, Mv_4, Mv_5, Mv_6, Mv_7, Mv_8, Mv_9, Mv_10, Mv_11, Mv_12, Mv_13, Mv_14] : List (Int32)).getD k 0) (fun k => ([(fun _ => 0), Mf_1] : List (Nat → Int32)).getD k (fun _ => 0)) (fun k => ([Mj_0] : List (Int64)).getD k 0) h_nx h_bs
set_option maxHeartbeats 4000000 in
set_option maxRecDepth 100000 in
theorem ct_fX12_isWord (l : Launch) (D : va_G) (tc : Nat → ClassId) (sk : (Nat → Nat) × (Nat → Nat)) (Ma : Nat → Nat) (Mv : Nat → Int32) (Mf : Nat → Nat → Int32) (Mj : Nat → Int64) (w1 : Int64) (h_nx : 0 ≤ ((Mv 2) : Int32).toInt ∧ ((Mv 2) : Int32).toInt ≤ ((Mv 0) : Int32).toInt ∧ ((Mv 0) : Int32).toInt ≤ 400) (h_bs : ByS (Mf 1)) : Ct l yX12_isWord cX12_isWord 6 (some .boolean) { frames := 1, cells := 0, slots := 0, locals := 21 } D tc sk [.ref (Ma 0), .long w1] [((Ma 0), .inr (12, [.ref (Ma 1), .int (Mv 0), .int (Mv 1), .ref (Ma 2), .ref (Ma 3), .ref (Ma 4), .ref (Ma 5), .ref (Ma 6), .int (Mv 2), .int (Mv 3), .int (Mv 4), .int (Mv 5), .int (Mv 6), .int (Mv 7), .int (Mv 8), .ref (Ma 7), .int (Mv 9), .ref (Ma 8), .int (Mv 10), .ref (Ma 9), .ref (Ma 10), .int (Mv 11), .int (Mv 12), .int (Mv 13), .ref (Ma 11), .int (Mv 14), .ref (Ma 12), .ref (Ma 13), .ref (Ma 14), .ref (Ma 15), .ref (Ma 16), .long (Mj 0), .ref (Ma 17), .ref (Ma 18), .ref (Ma 19), .ref (Ma 20)])), ((Ma 1), .inl (tc 2, 400, .inl (Mf 1)))] (fun (v : Option Value) (oo0x1 : Int32) => ∃ r : Int32, v = some (.int r) ∧ ((r.toInt = 0 ∨ r.toInt = 1)) ∧ (((Mv 2) : Int32).toInt ≤ (oo0x1 : Int32).toInt ∧ (oo0x1 : Int32).toInt ≤ ((Mv 0) : Int32).toInt) ∧ (NSq (Mf 1) (Mv 0) oo0x1) ∧ (Stl (Mf 1) (Mv 0) (Mv 2) oo0x1) ∧ (SkR (rB (Mf 1) (Mv 0)) (Mv 2) oo0x1) ∧ (r.toInt = 1 → (Ltr (Mf 1) (Mv 0) oo0x1) ∧ (PkW (rB (Mf 1) (Mv 0)) ((oo0x1 : Int32).toInt.toNat) w1.toInt)) ∧ (r.toInt = 0 → (NPk (rB (Mf 1) (Mv 0)) ((oo0x1 : Int32).toInt.toNat) w1.toInt))) (fun (oo0x1 : Int32) => [((Ma 0), .inr (12, [.ref (Ma 1), .int (Mv 0), .int (Mv 1), .ref (Ma 2), .ref (Ma 3), .ref (Ma 4), .ref (Ma 5), .ref (Ma 6), .int oo0x1, .int (Mv 3), .int (Mv 4), .int (Mv 5), .int (Mv 6), .int (Mv 7), .int (Mv 8), .ref (Ma 7), .int (Mv 9), .ref (Ma 8), .int (Mv 10), .ref (Ma 9), .ref (Ma 10), .int (Mv 11), .int (Mv 12), .int (Mv 13), .ref (Ma 11), .int (Mv 14), .ref (Ma 12), .ref (Ma 13), .ref (Ma 14), .ref (Ma 15), .ref (Ma 16), .long (Mj 0), .ref (Ma 17), .ref (Ma 18), .ref (Ma 19), .ref (Ma 20)])), ((Ma 1), .inl (tc 2, 400, .inl (Mf 1)))]) 0 0 := by
  refine Ct.start (by decide) (Nat.le_of_ble_eq_true rfl) (fun p e s m below meth c A ls hx hb hr hlk hin hml hown hts hK hX hP hD hA hl hS => ?_)
  have hl : lv_has ls 6 [(0, .ref (Ma 0)), (1, .long w1)] := hl
  refine lv_aload_n hx hb dX12_isWord_0 rfl (lv_at hl 0 rfl) ?_
  refine cV (a := (Ma 0)) (As := []) (rest := []) (wr := []) ⟨hx, hb, hml, hown, hts⟩ hK hX hA (cu_fX12_see l D tc sk (Ma 0) (Ma 1) (Ma 2) (Ma 3) (Ma 4) (Ma 5) (Ma 6) (Ma 7) (Ma 8) (Ma 9) (Ma 10) (Ma 11) (Ma 12) (Ma 13) (Ma 14) (Ma 15) (Ma 16) (Ma 17) (Ma 18) (Ma 19) (Ma 20) (Mv 0) (Mv 1) (Mv 2) (Mv 3) (Mv 4) (Mv 5) (Mv 6) (Mv 7) (Mv 8) (Mv 9) (Mv 10) (Mv 11) (Mv 12) (Mv 13) (Mv 14) (Mf 1) (Mj 0) h_nx h_bs) k_1211 k_1208 k_1210 k_27 k_106 pl_X12_see ⟨Nat.le_of_ble_eq_true rfl, Nat.le_of_ble_eq_true rfl⟩ rfl rfl (va_recv hK hP (ci := 12) (q0 := 0) rfl rfl) hP hD hS [0, 1] [] rfl rfl rfl rfl rfl (by decide) rfl hl.1 rfl (Nat.le_of_ble_eq_true rfl) dX12_isWord_1 ⟨Nat.le_of_ble_eq_true rfl, Nat.le_of_ble_eq_true rfl⟩ (fun v_1 u_2 H locs hv_3 hP₀ hD₀ hS₀ => ?_)
  obtain ⟨sv_4, rfl⟩ : ∃ z, z = u_2 := ⟨_, rfl⟩
  obtain ⟨r_9, rfl, he_10, pf_5, pf_6, pf_7, pf_8⟩ := hv_3
  have he_10 : (r_9.toInt = rB (Mf 1) (Mv 0) (sv_4 : Int32).toInt.toNat ∧ (r_9.toInt = -1 ∨ (sv_4 : Int32).toInt < (Mv 0).toInt)) := he_10
  have pf_5 : ((Mv 2) : Int32).toInt ≤ (sv_4 : Int32).toInt ∧ (sv_4 : Int32).toInt ≤ ((Mv 0) : Int32).toInt := pf_5
  have pf_6 : NSq (Mf 1) (Mv 0) sv_4 := pf_6
  have pf_7 : Stl (Mf 1) (Mv 0) (Mv 2) sv_4 := pf_7
  have pf_8 : SkR (rB (Mf 1) (Mv 0)) (Mv 2) sv_4 := pf_8
  refine W.eq (g2 := F0 m 4 ls [.int r_9]) rfl ?_
  replace hP : va_P D classes [((Ma 0), .inr (12, [.ref (Ma 1), .int (Mv 0), .int (Mv 1), .ref (Ma 2), .ref (Ma 3), .ref (Ma 4), .ref (Ma 5), .ref (Ma 6), .int sv_4, .int (Mv 3), .int (Mv 4), .int (Mv 5), .int (Mv 6), .int (Mv 7), .int (Mv 8), .ref (Ma 7), .int (Mv 9), .ref (Ma 8), .int (Mv 10), .ref (Ma 9), .ref (Ma 10), .int (Mv 11), .int (Mv 12), .int (Mv 13), .ref (Ma 11), .int (Mv 14), .ref (Ma 12), .ref (Ma 13), .ref (Ma 14), .ref (Ma 15), .ref (Ma 16), .long (Mj 0), .ref (Ma 17), .ref (Ma 18), .ref (Ma 19), .ref (Ma 20)])), ((Ma 1), .inl (tc 2, 400, .inl (Mf 1)))] H := hP₀
  replace hD : va_D A [((Ma 0), .inr (12, [.ref (Ma 1), .int (Mv 0), .int (Mv 1), .ref (Ma 2), .ref (Ma 3), .ref (Ma 4), .ref (Ma 5), .ref (Ma 6), .int sv_4, .int (Mv 3), .int (Mv 4), .int (Mv 5), .int (Mv 6), .int (Mv 7), .int (Mv 8), .ref (Ma 7), .int (Mv 9), .ref (Ma 8), .int (Mv 10), .ref (Ma 9), .ref (Ma 10), .int (Mv 11), .int (Mv 12), .int (Mv 13), .ref (Ma 11), .int (Mv 14), .ref (Ma 12), .ref (Ma 13), .ref (Ma 14), .ref (Ma 15), .ref (Ma 16), .long (Mj 0), .ref (Ma 17), .ref (Ma 18), .ref (Ma 19), .ref (Ma 20)])), ((Ma 1), .inl (tc 2, 400, .inl (Mf 1)))] := hD₀
  replace hS := hS₀
  clear hP₀ hD₀ hS₀
  refine lv_pop hx hb dX12_isWord_4 rfl ?_
  refine lv_lconst (v := 0) hx hb dX12_isWord_5 (by decide) ?_
  refine lv_lstore_n (lv' := [(3, .long 0), (0, .ref (Ma 0)), (1, .long w1)]) hx hb dX12_isWord_6 rfl hl (by decide) rfl (fun ls hl₀ => ?_)
  replace hl := hl₀
  clear hl₀
  refine lv_iconst (v := 0) hx hb dX12_isWord_7 (by decide) ?_
  refine lv_istore (lv' := [(5, .int 0), (3, .long 0), (0, .ref (Ma 0)), (1, .long w1)]) hx hb dX12_isWord_8 hl (by decide) rfl (fun ls hl₀ => ?_)
  replace hl := hl₀
  clear hl₀
  have loop_18 : ∀ (n_16 : Nat) (vy_14 : Int32) (vy_15 : Int64) (H : Heap) (locs : List Loc) (ls : Array Slot), (401 - (vy_14 : Int32).toInt).toNat < n_16 → (0 ≤ (vy_14 : Int32).toInt ∧ (vy_14 : Int32).toInt ≤ 401 ∧ (sv_4 : Int32).toInt + (vy_14 : Int32).toInt ≤ (Mv 0).toInt) → (LtN (Mf 1) (Mv 0) sv_4 vy_14) → (RnB pz_isL (rB (Mf 1) (Mv 0)) (sv_4 : Int32).toInt ((sv_4 : Int32).toInt + (vy_14 : Int32).toInt)) → (PkV (rB (Mf 1) (Mv 0)) sv_4 vy_14 vy_15) → va_P D classes [((Ma 0), .inr (12, [.ref (Ma 1), .int (Mv 0), .int (Mv 1), .ref (Ma 2), .ref (Ma 3), .ref (Ma 4), .ref (Ma 5), .ref (Ma 6), .int sv_4, .int (Mv 3), .int (Mv 4), .int (Mv 5), .int (Mv 6), .int (Mv 7), .int (Mv 8), .ref (Ma 7), .int (Mv 9), .ref (Ma 8), .int (Mv 10), .ref (Ma 9), .ref (Ma 10), .int (Mv 11), .int (Mv 12), .int (Mv 13), .ref (Ma 11), .int (Mv 14), .ref (Ma 12), .ref (Ma 13), .ref (Ma 14), .ref (Ma 15), .ref (Ma 16), .long (Mj 0), .ref (Ma 17), .ref (Ma 18), .ref (Ma 19), .ref (Ma 20)])), ((Ma 1), .inl (tc 2, 400, .inl (Mf 1)))] H → va_D A [((Ma 0), .inr (12, [.ref (Ma 1), .int (Mv 0), .int (Mv 1), .ref (Ma 2), .ref (Ma 3), .ref (Ma 4), .ref (Ma 5), .ref (Ma 6), .int sv_4, .int (Mv 3), .int (Mv 4), .int (Mv 5), .int (Mv 6), .int (Mv 7), .int (Mv 8), .ref (Ma 7), .int (Mv 9), .ref (Ma 8), .int (Mv 10), .ref (Ma 9), .ref (Ma 10), .int (Mv 11), .int (Mv 12), .int (Mv 13), .ref (Ma 11), .int (Mv 14), .ref (Ma 12), .ref (Ma 13), .ref (Ma 14), .ref (Ma 15), .ref (Ma 16), .long (Mj 0), .ref (Ma 17), .ref (Ma 18), .ref (Ma 19), .ref (Ma 20)])), ((Ma 1), .inl (tc 2, 400, .inl (Mf 1)))] → va_S A s.heap H locs → lv_has ls 6 [(5, .int vy_14), (3, .long vy_15), (0, .ref (Ma 0)), (1, .long w1)] → W p l e ({ frames := 1, cells := 0, slots := 0, locals := 21 }) s m ([.ref (Ma 0), .long w1].toArray) below meth c H locs 0 0 (MQ below (QW (fun (v : Option Value) (oo0x1 : Int32) => ∃ r : Int32, v = some (.int r) ∧ ((r.toInt = 0 ∨ r.toInt = 1)) ∧ (((Mv 2) : Int32).toInt ≤ (oo0x1 : Int32).toInt ∧ (oo0x1 : Int32).toInt ≤ ((Mv 0) : Int32).toInt) ∧ (NSq (Mf 1) (Mv 0) oo0x1) ∧ (Stl (Mf 1) (Mv 0) (Mv 2) oo0x1) ∧ (SkR (rB (Mf 1) (Mv 0)) (Mv 2) oo0x1) ∧ (r.toInt = 1 → (Ltr (Mf 1) (Mv 0) oo0x1) ∧ (PkW (rB (Mf 1) (Mv 0)) ((oo0x1 : Int32).toInt.toNat) w1.toInt)) ∧ (r.toInt = 0 → (NPk (rB (Mf 1) (Mv 0)) ((oo0x1 : Int32).toInt.toNat) w1.toInt))) (BW D (fun (oo0x1 : Int32) => [((Ma 0), .inr (12, [.ref (Ma 1), .int (Mv 0), .int (Mv 1), .ref (Ma 2), .ref (Ma 3), .ref (Ma 4), .ref (Ma 5), .ref (Ma 6), .int oo0x1, .int (Mv 3), .int (Mv 4), .int (Mv 5), .int (Mv 6), .int (Mv 7), .int (Mv 8), .ref (Ma 7), .int (Mv 9), .ref (Ma 8), .int (Mv 10), .ref (Ma 9), .ref (Ma 10), .int (Mv 11), .int (Mv 12), .int (Mv 13), .ref (Ma 11), .int (Mv 14), .ref (Ma 12), .ref (Ma 13), .ref (Ma 14), .ref (Ma 15), .ref (Ma 16), .long (Mj 0), .ref (Ma 17), .ref (Ma 18), .ref (Ma 19), .ref (Ma 20)])), ((Ma 1), .inl (tc 2, 400, .inl (Mf 1)))]) A) A) ([.ref (Ma 0), .long w1].toArray) s 0 0 A) (F0 m 10 ls []) := by
    clear hP hD hS hl
    intro n_16
    induction n_16 with
    | zero =>
      intro vy_14 vy_15 H locs ls h1
      exact absurd h1 (Nat.not_lt_zero _)
    | succ n_16 ih_17 =>
      intro vy_14 vy_15 H locs ls hn_23 pf_19 pf_20 pf_21 pf_22 hP hD hS hl
      refine lv_aload_n hx hb dX12_isWord_10 rfl (lv_at hl 2 rfl) ?_
      refine lv_aload_n hx hb dX12_isWord_11 rfl (lv_at hl 2 rfl) ?_
      refine gf_X12_87 hx hb hts hown hK hP 0 rfl rfl dX12_isWord_12 ?_
      refine lv_iload hx hb dX12_isWord_15 (lv_at hl 0 rfl) ?_
      refine lv_iadd hx hb dX12_isWord_17 ?_
      refine lv_topi (fun x_24 ex_24 => ?_)
      have ha_25 : 0 ≤ x_24.toInt := by
        have t_x_24 : x_24.toInt = (sv_4 : Int32).toInt + (vy_14 : Int32).toInt := by rw [ex_24]; exact add_toInt (by omega) (by omega)
        omega
      have ha_26 : (Mv 0).toInt ≤ 400 := by
        have t_x_24 : x_24.toInt = (sv_4 : Int32).toInt + (vy_14 : Int32).toInt := by rw [ex_24]; exact add_toInt (by omega) (by omega)
        omega
      refine cV (a := (Ma 0)) (As := [.int x_24]) (rest := []) (wr := []) ⟨hx, hb, hml, hown, hts⟩ hK hX hA (cu_X12_isLetter l D tc sk (Ma 0) (Ma 1) (Ma 2) (Ma 3) (Ma 4) (Ma 5) (Ma 6) (Ma 7) (Ma 8) (Ma 9) (Ma 10) (Ma 11) (Ma 12) (Ma 13) (Ma 14) (Ma 15) (Ma 16) (Ma 17) (Ma 18) (Ma 19) (Ma 20) (Mv 0) (Mv 1) sv_4 (Mv 3) (Mv 4) (Mv 5) (Mv 6) (Mv 7) (Mv 8) (Mv 9) (Mv 10) (Mv 11) (Mv 12) (Mv 13) (Mv 14) (Mf 1) (Mj 0) x_24 ha_25 ha_26) k_1224 k_1221 k_1223 k_30 k_106 pl_X12_isLetter ⟨Nat.le_of_ble_eq_true rfl, Nat.le_of_ble_eq_true rfl⟩ rfl rfl (va_recv hK hP (ci := 12) (q0 := 0) rfl rfl) hP hD hS [0, 1] [] rfl rfl rfl rfl rfl (by decide) rfl hl.1 rfl (Nat.le_of_ble_eq_true rfl) dX12_isWord_18 ⟨Nat.le_of_ble_eq_true rfl, Nat.le_of_ble_eq_true rfl⟩ (fun v_27 u_28 H locs hv_29 hP₀ hD₀ hS₀ => ?_)
      obtain ⟨r_30, rfl, he_31, hm_33, hm_34⟩ := hv_29
      have he_31 : (r_30.toInt = 0 ∨ r_30.toInt = 1) := he_31
      refine W.eq (g2 := F0 m 21 ls [.int r_30]) rfl ?_
      replace hP : va_P D classes [((Ma 0), .inr (12, [.ref (Ma 1), .int (Mv 0), .int (Mv 1), .ref (Ma 2), .ref (Ma 3), .ref (Ma 4), .ref (Ma 5), .ref (Ma 6), .int sv_4, .int (Mv 3), .int (Mv 4), .int (Mv 5), .int (Mv 6), .int (Mv 7), .int (Mv 8), .ref (Ma 7), .int (Mv 9), .ref (Ma 8), .int (Mv 10), .ref (Ma 9), .ref (Ma 10), .int (Mv 11), .int (Mv 12), .int (Mv 13), .ref (Ma 11), .int (Mv 14), .ref (Ma 12), .ref (Ma 13), .ref (Ma 14), .ref (Ma 15), .ref (Ma 16), .long (Mj 0), .ref (Ma 17), .ref (Ma 18), .ref (Ma 19), .ref (Ma 20)])), ((Ma 1), .inl (tc 2, 400, .inl (Mf 1)))] H := hP₀
      replace hD : va_D A [((Ma 0), .inr (12, [.ref (Ma 1), .int (Mv 0), .int (Mv 1), .ref (Ma 2), .ref (Ma 3), .ref (Ma 4), .ref (Ma 5), .ref (Ma 6), .int sv_4, .int (Mv 3), .int (Mv 4), .int (Mv 5), .int (Mv 6), .int (Mv 7), .int (Mv 8), .ref (Ma 7), .int (Mv 9), .ref (Ma 8), .int (Mv 10), .ref (Ma 9), .ref (Ma 10), .int (Mv 11), .int (Mv 12), .int (Mv 13), .ref (Ma 11), .int (Mv 14), .ref (Ma 12), .ref (Ma 13), .ref (Ma 14), .ref (Ma 15), .ref (Ma 16), .long (Mj 0), .ref (Ma 17), .ref (Ma 18), .ref (Ma 19), .ref (Ma 20)])), ((Ma 1), .inl (tc 2, 400, .inl (Mf 1)))] := hD₀
      replace hS := hS₀
      clear hP₀ hD₀ hS₀
      refine lv_if_eq (tgt := 56) hx hb dX12_isWord_21 (by decide) (fun c_35 => ?_) (fun c_35 => ?_)
      · skip
        have hz_37 : (r_30 : Int32).toInt = 0 := by
          have z_1 := congrArg Int32.toInt c_35
          have y_0 : (0 : Int32).toInt = 0 := by decide
          have t_x_24 : x_24.toInt = (sv_4 : Int32).toInt + (vy_14 : Int32).toInt := by rw [ex_24]; exact add_toInt (by omega) (by omega)
          omega
        obtain pf_36 := hm_34 hz_37
        have pf_36 : NLtr (Mf 1) (Mv 0) x_24 := pf_36
        have at_pf_36 : ¬ ((x_24 : Int32).toInt < (Mv 0).toInt ∧ 97 ≤ ((Mf 1) (x_24 : Int32).toInt.toNat).toInt ∧ ((Mf 1) (x_24 : Int32).toInt.toNat).toInt ≤ 122) := pf_36
        refine lv_iload hx hb dX12_isWord_56 (lv_at hl 0 rfl) ?_
        refine lv_if_le (tgt := 78) hx hb dX12_isWord_58 (by decide) (fun c_38 => ?_) (fun c_38 => ?_)
        · skip
          refine lv_iconst (v := 0) hx hb dX12_isWord_78 (by decide) ?_
          have hp_39 : ((0 : Int32).toInt = 0 ∨ (0 : Int32).toInt = 1) := by
            have z_1 := congrArg Int32.toInt c_35
            have z_2 := Int32.le_iff_toInt_le.mp c_38
            have y_0 : (0 : Int32).toInt = 0 := by decide
            have t_x_24 : x_24.toInt = (sv_4 : Int32).toInt + (vy_14 : Int32).toInt := by rw [ex_24]; exact add_toInt (by omega) (by omega)
            omega
          have hm_40 : (0 : Int32).toInt = 0 → (NPk (rB (Mf 1) (Mv 0)) ((sv_4 : Int32).toInt.toNat) w1.toInt) := by
            intro h1r
            have hr_41 : 0 ≤ (sv_4 : Int32).toInt ∧ 0 ≤ (vy_14 : Int32).toInt ∧ (sv_4 : Int32).toInt + (vy_14 : Int32).toInt ≤ 400 := by
              have z_1 := congrArg Int32.toInt c_35
              have z_2 := Int32.le_iff_toInt_le.mp c_38
              have y_0 : (0 : Int32).toInt = 0 := by decide
              have t_x_24 : x_24.toInt = (sv_4 : Int32).toInt + (vy_14 : Int32).toInt := by rw [ex_24]; exact add_toInt (by omega) (by omega)
              omega
            have rg_42 := rB_rg (n := (Mv 0)) h_bs ((sv_4 : Int32).toInt + (vy_14 : Int32).toInt).toNat
            have hk_43 : (x_24 : Int32).toInt.toNat = ((sv_4 : Int32).toInt + (vy_14 : Int32).toInt).toNat := by
              have z_1 := congrArg Int32.toInt c_35
              have z_2 := Int32.le_iff_toInt_le.mp c_38
              have y_0 : (0 : Int32).toInt = 0 := by decide
              have t_x_24 : x_24.toInt = (sv_4 : Int32).toInt + (vy_14 : Int32).toInt := by rw [ex_24]; exact add_toInt (by omega) (by omega)
              omega
            have hz_44 : ¬ ((x_24 : Int32).toInt < (Mv 0).toInt ∧ 97 ≤ ((Mf 1) ((sv_4 : Int32).toInt + (vy_14 : Int32).toInt).toNat).toInt ∧ ((Mf 1) ((sv_4 : Int32).toInt + (vy_14 : Int32).toInt).toNat).toInt ≤ 122) := by rw [← hk_43]; exact pf_36
            have he2_45 : ¬ (97 ≤ rB (Mf 1) (Mv 0) ((sv_4 : Int32).toInt + (vy_14 : Int32).toInt).toNat ∧ rB (Mf 1) (Mv 0) ((sv_4 : Int32).toInt + (vy_14 : Int32).toInt).toNat ≤ 122) := by
              have z_1 := congrArg Int32.toInt c_35
              have z_2 := Int32.le_iff_toInt_le.mp c_38
              have y_0 : (0 : Int32).toInt = 0 := by decide
              have t_x_24 : x_24.toInt = (sv_4 : Int32).toInt + (vy_14 : Int32).toInt := by rw [ex_24]; exact add_toInt (by omega) (by omega)
              omega
            have hr_46 : (vy_14 : Int32).toInt ≤ 0 ∨ 8 ≤ (vy_14 : Int32).toInt ∨ ((vy_14 : Int32).toInt ≤ 7 ∧ ¬ (vy_15 : Int64).toInt = w1.toInt) := by
              have z_1 := congrArg Int32.toInt c_35
              have z_2 := Int32.le_iff_toInt_le.mp c_38
              have y_0 : (0 : Int32).toInt = 0 := by decide
              have t_x_24 : x_24.toInt = (sv_4 : Int32).toInt + (vy_14 : Int32).toInt := by rw [ex_24]; exact add_toInt (by omega) (by omega)
              omega
            exact (NPk.of pf_22 pf_21 hr_41 he2_45 hr_46)
          exact retI (v := 0) hx hb hr hlk (rfl) hP hD hS sv_4 ⟨_, rfl, hp_39, pf_5, pf_6, pf_7, pf_8, (fun h => absurd h (by decide)), hm_40⟩ [0, 1] rfl rfl dX12_isWord_79 (Nat.le_of_ble_eq_true rfl) (Nat.le_of_ble_eq_true rfl) rfl
        · skip
          refine lv_iload hx hb dX12_isWord_61 (lv_at hl 0 rfl) ?_
          refine lv_bipush (v := 8) hx hb dX12_isWord_63 (by decide) ?_
          refine lv_icmp_ge (tgt := 78) hx hb dX12_isWord_65 (by decide) (fun c_47 => ?_) (fun c_47 => ?_)
          · skip
            refine lv_iconst (v := 0) hx hb dX12_isWord_78 (by decide) ?_
            have hp_48 : ((0 : Int32).toInt = 0 ∨ (0 : Int32).toInt = 1) := by
              have z_1 := congrArg Int32.toInt c_35
              have z_2 := Int32.lt_iff_toInt_lt.mp (Int32.not_le.mp c_38)
              have z_3 := Int32.le_iff_toInt_le.mp c_47
              have y_0 : (0 : Int32).toInt = 0 := by decide
              have y_8 : (8 : Int32).toInt = 8 := by decide
              have t_x_24 : x_24.toInt = (sv_4 : Int32).toInt + (vy_14 : Int32).toInt := by rw [ex_24]; exact add_toInt (by omega) (by omega)
              omega
            have hm_49 : (0 : Int32).toInt = 0 → (NPk (rB (Mf 1) (Mv 0)) ((sv_4 : Int32).toInt.toNat) w1.toInt) := by
              intro h1r
              have hr_50 : 0 ≤ (sv_4 : Int32).toInt ∧ 0 ≤ (vy_14 : Int32).toInt ∧ (sv_4 : Int32).toInt + (vy_14 : Int32).toInt ≤ 400 := by
                have z_1 := congrArg Int32.toInt c_35
                have z_2 := Int32.lt_iff_toInt_lt.mp (Int32.not_le.mp c_38)
                have z_3 := Int32.le_iff_toInt_le.mp c_47
                have y_0 : (0 : Int32).toInt = 0 := by decide
                have y_8 : (8 : Int32).toInt = 8 := by decide
                have t_x_24 : x_24.toInt = (sv_4 : Int32).toInt + (vy_14 : Int32).toInt := by rw [ex_24]; exact add_toInt (by omega) (by omega)
                omega
              have rg_51 := rB_rg (n := (Mv 0)) h_bs ((sv_4 : Int32).toInt + (vy_14 : Int32).toInt).toNat
              have hk_52 : (x_24 : Int32).toInt.toNat = ((sv_4 : Int32).toInt + (vy_14 : Int32).toInt).toNat := by
                have z_1 := congrArg Int32.toInt c_35
                have z_2 := Int32.lt_iff_toInt_lt.mp (Int32.not_le.mp c_38)
                have z_3 := Int32.le_iff_toInt_le.mp c_47
                have y_0 : (0 : Int32).toInt = 0 := by decide
                have y_8 : (8 : Int32).toInt = 8 := by decide
                have t_x_24 : x_24.toInt = (sv_4 : Int32).toInt + (vy_14 : Int32).toInt := by rw [ex_24]; exact add_toInt (by omega) (by omega)
                omega
              have hz_53 : ¬ ((x_24 : Int32).toInt < (Mv 0).toInt ∧ 97 ≤ ((Mf 1) ((sv_4 : Int32).toInt + (vy_14 : Int32).toInt).toNat).toInt ∧ ((Mf 1) ((sv_4 : Int32).toInt + (vy_14 : Int32).toInt).toNat).toInt ≤ 122) := by rw [← hk_52]; exact pf_36
              have he2_54 : ¬ (97 ≤ rB (Mf 1) (Mv 0) ((sv_4 : Int32).toInt + (vy_14 : Int32).toInt).toNat ∧ rB (Mf 1) (Mv 0) ((sv_4 : Int32).toInt + (vy_14 : Int32).toInt).toNat ≤ 122) := by
                have z_1 := congrArg Int32.toInt c_35
                have z_2 := Int32.lt_iff_toInt_lt.mp (Int32.not_le.mp c_38)
                have z_3 := Int32.le_iff_toInt_le.mp c_47
                have y_0 : (0 : Int32).toInt = 0 := by decide
                have y_8 : (8 : Int32).toInt = 8 := by decide
                have t_x_24 : x_24.toInt = (sv_4 : Int32).toInt + (vy_14 : Int32).toInt := by rw [ex_24]; exact add_toInt (by omega) (by omega)
                omega
              have hr_55 : (vy_14 : Int32).toInt ≤ 0 ∨ 8 ≤ (vy_14 : Int32).toInt ∨ ((vy_14 : Int32).toInt ≤ 7 ∧ ¬ (vy_15 : Int64).toInt = w1.toInt) := by
                have z_1 := congrArg Int32.toInt c_35
                have z_2 := Int32.lt_iff_toInt_lt.mp (Int32.not_le.mp c_38)
                have z_3 := Int32.le_iff_toInt_le.mp c_47
                have y_0 : (0 : Int32).toInt = 0 := by decide
                have y_8 : (8 : Int32).toInt = 8 := by decide
                have t_x_24 : x_24.toInt = (sv_4 : Int32).toInt + (vy_14 : Int32).toInt := by rw [ex_24]; exact add_toInt (by omega) (by omega)
                omega
              exact (NPk.of pf_22 pf_21 hr_50 he2_54 hr_55)
            exact retI (v := 0) hx hb hr hlk (rfl) hP hD hS sv_4 ⟨_, rfl, hp_48, pf_5, pf_6, pf_7, pf_8, (fun h => absurd h (by decide)), hm_49⟩ [0, 1] rfl rfl dX12_isWord_79 (Nat.le_of_ble_eq_true rfl) (Nat.le_of_ble_eq_true rfl) rfl
          · skip
            refine lv_lload_n hx hb dX12_isWord_68 rfl (lv_at hl 1 rfl) ?_
            refine lv_lload_n hx hb dX12_isWord_69 rfl (lv_at hl 3 rfl) ?_
            refine W.lcmp hx hb dX12_isWord_70 ?_
            refine lv_topi (fun x_56 ex_56 => ?_)
            refine lv_if_ne (tgt := 78) hx hb dX12_isWord_71 (by decide) (fun c_57 => ?_) (fun c_57 => ?_)
            · skip
              have lz_58 : ¬ (vy_15 : Int64).toInt = (w1 : Int64).toInt := by have hc := c_57; rw [ex_56] at hc; exact fun z => hc ((lg_cmp_eq _ _).mpr (Int64.toInt_inj.mp z))
              refine lv_iconst (v := 0) hx hb dX12_isWord_78 (by decide) ?_
              have hp_59 : ((0 : Int32).toInt = 0 ∨ (0 : Int32).toInt = 1) := by
                have z_1 := congrArg Int32.toInt c_35
                have z_2 := Int32.lt_iff_toInt_lt.mp (Int32.not_le.mp c_38)
                have z_3 := Int32.lt_iff_toInt_lt.mp (Int32.not_le.mp c_47)
                have z_4 : ¬ (x_56 : Int32).toInt = (0 : Int32).toInt := fun z => c_57 (Int32.toInt_inj.mp z)
                have y_0 : (0 : Int32).toInt = 0 := by decide
                have y_8 : (8 : Int32).toInt = 8 := by decide
                have t_x_24 : x_24.toInt = (sv_4 : Int32).toInt + (vy_14 : Int32).toInt := by rw [ex_24]; exact add_toInt (by omega) (by omega)
                omega
              have hm_60 : (0 : Int32).toInt = 0 → (NPk (rB (Mf 1) (Mv 0)) ((sv_4 : Int32).toInt.toNat) w1.toInt) := by
                intro h1r
                have hr_61 : 0 ≤ (sv_4 : Int32).toInt ∧ 0 ≤ (vy_14 : Int32).toInt ∧ (sv_4 : Int32).toInt + (vy_14 : Int32).toInt ≤ 400 := by
                  have z_1 := congrArg Int32.toInt c_35
                  have z_2 := Int32.lt_iff_toInt_lt.mp (Int32.not_le.mp c_38)
                  have z_3 := Int32.lt_iff_toInt_lt.mp (Int32.not_le.mp c_47)
                  have z_4 : ¬ (x_56 : Int32).toInt = (0 : Int32).toInt := fun z => c_57 (Int32.toInt_inj.mp z)
                  have y_0 : (0 : Int32).toInt = 0 := by decide
                  have y_8 : (8 : Int32).toInt = 8 := by decide
                  have t_x_24 : x_24.toInt = (sv_4 : Int32).toInt + (vy_14 : Int32).toInt := by rw [ex_24]; exact add_toInt (by omega) (by omega)
                  omega
                have rg_62 := rB_rg (n := (Mv 0)) h_bs ((sv_4 : Int32).toInt + (vy_14 : Int32).toInt).toNat
                have hk_63 : (x_24 : Int32).toInt.toNat = ((sv_4 : Int32).toInt + (vy_14 : Int32).toInt).toNat := by
                  have z_1 := congrArg Int32.toInt c_35
                  have z_2 := Int32.lt_iff_toInt_lt.mp (Int32.not_le.mp c_38)
                  have z_3 := Int32.lt_iff_toInt_lt.mp (Int32.not_le.mp c_47)
                  have z_4 : ¬ (x_56 : Int32).toInt = (0 : Int32).toInt := fun z => c_57 (Int32.toInt_inj.mp z)
                  have y_0 : (0 : Int32).toInt = 0 := by decide
                  have y_8 : (8 : Int32).toInt = 8 := by decide
                  have t_x_24 : x_24.toInt = (sv_4 : Int32).toInt + (vy_14 : Int32).toInt := by rw [ex_24]; exact add_toInt (by omega) (by omega)
                  omega
                have hz_64 : ¬ ((x_24 : Int32).toInt < (Mv 0).toInt ∧ 97 ≤ ((Mf 1) ((sv_4 : Int32).toInt + (vy_14 : Int32).toInt).toNat).toInt ∧ ((Mf 1) ((sv_4 : Int32).toInt + (vy_14 : Int32).toInt).toNat).toInt ≤ 122) := by rw [← hk_63]; exact pf_36
                have he2_65 : ¬ (97 ≤ rB (Mf 1) (Mv 0) ((sv_4 : Int32).toInt + (vy_14 : Int32).toInt).toNat ∧ rB (Mf 1) (Mv 0) ((sv_4 : Int32).toInt + (vy_14 : Int32).toInt).toNat ≤ 122) := by
                  have z_1 := congrArg Int32.toInt c_35
                  have z_2 := Int32.lt_iff_toInt_lt.mp (Int32.not_le.mp c_38)
                  have z_3 := Int32.lt_iff_toInt_lt.mp (Int32.not_le.mp c_47)
                  have z_4 : ¬ (x_56 : Int32).toInt = (0 : Int32).toInt := fun z => c_57 (Int32.toInt_inj.mp z)
                  have y_0 : (0 : Int32).toInt = 0 := by decide
                  have y_8 : (8 : Int32).toInt = 8 := by decide
                  have t_x_24 : x_24.toInt = (sv_4 : Int32).toInt + (vy_14 : Int32).toInt := by rw [ex_24]; exact add_toInt (by omega) (by omega)
                  omega
                have hr_66 : (vy_14 : Int32).toInt ≤ 0 ∨ 8 ≤ (vy_14 : Int32).toInt ∨ ((vy_14 : Int32).toInt ≤ 7 ∧ ¬ (vy_15 : Int64).toInt = w1.toInt) := by
                  have z_1 := congrArg Int32.toInt c_35
                  have z_2 := Int32.lt_iff_toInt_lt.mp (Int32.not_le.mp c_38)
                  have z_3 := Int32.lt_iff_toInt_lt.mp (Int32.not_le.mp c_47)
                  have z_4 : ¬ (x_56 : Int32).toInt = (0 : Int32).toInt := fun z => c_57 (Int32.toInt_inj.mp z)
                  have y_0 : (0 : Int32).toInt = 0 := by decide
                  have y_8 : (8 : Int32).toInt = 8 := by decide
                  have t_x_24 : x_24.toInt = (sv_4 : Int32).toInt + (vy_14 : Int32).toInt := by rw [ex_24]; exact add_toInt (by omega) (by omega)
                  omega
                exact (NPk.of pf_22 pf_21 hr_61 he2_65 hr_66)
              exact retI (v := 0) hx hb hr hlk (rfl) hP hD hS sv_4 ⟨_, rfl, hp_59, pf_5, pf_6, pf_7, pf_8, (fun h => absurd h (by decide)), hm_60⟩ [0, 1] rfl rfl dX12_isWord_79 (Nat.le_of_ble_eq_true rfl) (Nat.le_of_ble_eq_true rfl) rfl
            · skip
              have lz_67 : (vy_15 : Int64).toInt = (w1 : Int64).toInt := by have hc := c_57; rw [ex_56] at hc; exact congrArg Int64.toInt ((lg_cmp_eq _ _).mp hc)
              refine lv_iconst (v := 1) hx hb dX12_isWord_74 (by decide) ?_
              refine lv_goto (tgt := 79) hx hb dX12_isWord_75 (by decide) ?_
              have hp_68 : ((1 : Int32).toInt = 0 ∨ (1 : Int32).toInt = 1) := by
                have z_1 := congrArg Int32.toInt c_35
                have z_2 := Int32.lt_iff_toInt_lt.mp (Int32.not_le.mp c_38)
                have z_3 := Int32.lt_iff_toInt_lt.mp (Int32.not_le.mp c_47)
                have z_4 := congrArg Int32.toInt c_57
                have y_0 : (0 : Int32).toInt = 0 := by decide
                have y_8 : (8 : Int32).toInt = 8 := by decide
                have y_1 : (1 : Int32).toInt = 1 := by decide
                have t_x_24 : x_24.toInt = (sv_4 : Int32).toInt + (vy_14 : Int32).toInt := by rw [ex_24]; exact add_toInt (by omega) (by omega)
                have yr : (1 : Int32).toInt = 1 := by decide
                omega
              have hm_69 : (1 : Int32).toInt = 1 → (Ltr (Mf 1) (Mv 0) sv_4) ∧ (PkW (rB (Mf 1) (Mv 0)) ((sv_4 : Int32).toInt.toNat) w1.toInt) := by
                intro h1r
                have hr_70 : 1 ≤ (vy_14 : Int32).toInt := by
                  have z_1 := congrArg Int32.toInt c_35
                  have z_2 := Int32.lt_iff_toInt_lt.mp (Int32.not_le.mp c_38)
                  have z_3 := Int32.lt_iff_toInt_lt.mp (Int32.not_le.mp c_47)
                  have z_4 := congrArg Int32.toInt c_57
                  have y_0 : (0 : Int32).toInt = 0 := by decide
                  have y_8 : (8 : Int32).toInt = 8 := by decide
                  have t_x_24 : x_24.toInt = (sv_4 : Int32).toInt + (vy_14 : Int32).toInt := by rw [ex_24]; exact add_toInt (by omega) (by omega)
                  omega
                have hr_71 : 0 ≤ (sv_4 : Int32).toInt ∧ 0 ≤ (vy_14 : Int32).toInt ∧ (sv_4 : Int32).toInt + (vy_14 : Int32).toInt ≤ 400 := by
                  have z_1 := congrArg Int32.toInt c_35
                  have z_2 := Int32.lt_iff_toInt_lt.mp (Int32.not_le.mp c_38)
                  have z_3 := Int32.lt_iff_toInt_lt.mp (Int32.not_le.mp c_47)
                  have z_4 := congrArg Int32.toInt c_57
                  have y_0 : (0 : Int32).toInt = 0 := by decide
                  have y_8 : (8 : Int32).toInt = 8 := by decide
                  have t_x_24 : x_24.toInt = (sv_4 : Int32).toInt + (vy_14 : Int32).toInt := by rw [ex_24]; exact add_toInt (by omega) (by omega)
                  omega
                have rg_72 := rB_rg (n := (Mv 0)) h_bs ((sv_4 : Int32).toInt + (vy_14 : Int32).toInt).toNat
                have hk_73 : (x_24 : Int32).toInt.toNat = ((sv_4 : Int32).toInt + (vy_14 : Int32).toInt).toNat := by
                  have z_1 := congrArg Int32.toInt c_35
                  have z_2 := Int32.lt_iff_toInt_lt.mp (Int32.not_le.mp c_38)
                  have z_3 := Int32.lt_iff_toInt_lt.mp (Int32.not_le.mp c_47)
                  have z_4 := congrArg Int32.toInt c_57
                  have y_0 : (0 : Int32).toInt = 0 := by decide
                  have y_8 : (8 : Int32).toInt = 8 := by decide
                  have t_x_24 : x_24.toInt = (sv_4 : Int32).toInt + (vy_14 : Int32).toInt := by rw [ex_24]; exact add_toInt (by omega) (by omega)
                  omega
                have hz_74 : ¬ ((x_24 : Int32).toInt < (Mv 0).toInt ∧ 97 ≤ ((Mf 1) ((sv_4 : Int32).toInt + (vy_14 : Int32).toInt).toNat).toInt ∧ ((Mf 1) ((sv_4 : Int32).toInt + (vy_14 : Int32).toInt).toNat).toInt ≤ 122) := by rw [← hk_73]; exact pf_36
                have he2_75 : ¬ (97 ≤ rB (Mf 1) (Mv 0) ((sv_4 : Int32).toInt + (vy_14 : Int32).toInt).toNat ∧ rB (Mf 1) (Mv 0) ((sv_4 : Int32).toInt + (vy_14 : Int32).toInt).toNat ≤ 122) := by
                  have z_1 := congrArg Int32.toInt c_35
                  have z_2 := Int32.lt_iff_toInt_lt.mp (Int32.not_le.mp c_38)
                  have z_3 := Int32.lt_iff_toInt_lt.mp (Int32.not_le.mp c_47)
                  have z_4 := congrArg Int32.toInt c_57
                  have y_0 : (0 : Int32).toInt = 0 := by decide
                  have y_8 : (8 : Int32).toInt = 8 := by decide
                  have t_x_24 : x_24.toInt = (sv_4 : Int32).toInt + (vy_14 : Int32).toInt := by rw [ex_24]; exact add_toInt (by omega) (by omega)
                  omega
                have hr_76 : 1 ≤ (vy_14 : Int32).toInt ∧ (vy_14 : Int32).toInt ≤ 7 := by
                  have z_1 := congrArg Int32.toInt c_35
                  have z_2 := Int32.lt_iff_toInt_lt.mp (Int32.not_le.mp c_38)
                  have z_3 := Int32.lt_iff_toInt_lt.mp (Int32.not_le.mp c_47)
                  have z_4 := congrArg Int32.toInt c_57
                  have y_0 : (0 : Int32).toInt = 0 := by decide
                  have y_8 : (8 : Int32).toInt = 8 := by decide
                  have t_x_24 : x_24.toInt = (sv_4 : Int32).toInt + (vy_14 : Int32).toInt := by rw [ex_24]; exact add_toInt (by omega) (by omega)
                  omega
                have hr_77 : (vy_15 : Int64).toInt = w1.toInt := by
                  have z_1 := congrArg Int32.toInt c_35
                  have z_2 := Int32.lt_iff_toInt_lt.mp (Int32.not_le.mp c_38)
                  have z_3 := Int32.lt_iff_toInt_lt.mp (Int32.not_le.mp c_47)
                  have z_4 := congrArg Int32.toInt c_57
                  have y_0 : (0 : Int32).toInt = 0 := by decide
                  have y_8 : (8 : Int32).toInt = 8 := by decide
                  have t_x_24 : x_24.toInt = (sv_4 : Int32).toInt + (vy_14 : Int32).toInt := by rw [ex_24]; exact add_toInt (by omega) (by omega)
                  omega
                exact ⟨(pf_20 hr_70), (PkW.of pf_22 pf_21 hr_71 he2_75 hr_76 hr_77)⟩
              exact retI (v := 1) hx hb hr hlk (rfl) hP hD hS sv_4 ⟨_, rfl, hp_68, pf_5, pf_6, pf_7, pf_8, hm_69, (fun h => absurd h (by decide))⟩ [0, 1] rfl rfl dX12_isWord_79 (Nat.le_of_ble_eq_true rfl) (Nat.le_of_ble_eq_true rfl) rfl
      · skip
        have hz_79 : (r_30 : Int32).toInt = 1 := by
          have z_1 : ¬ (r_30 : Int32).toInt = (0 : Int32).toInt := fun z => c_35 (Int32.toInt_inj.mp z)
          have y_0 : (0 : Int32).toInt = 0 := by decide
          have t_x_24 : x_24.toInt = (sv_4 : Int32).toInt + (vy_14 : Int32).toInt := by rw [ex_24]; exact add_toInt (by omega) (by omega)
          omega
        obtain pf_78 := hm_33 hz_79
        have pf_78 : Ltr (Mf 1) (Mv 0) x_24 := pf_78
        have ar_pf_78 := pf_78.1
        have at_pf_78 : 97 ≤ ((Mf 1) (x_24 : Int32).toInt.toNat).toInt ∧ ((Mf 1) (x_24 : Int32).toInt.toNat).toInt ≤ 122 := pf_78.2
        refine lv_iload hx hb dX12_isWord_24 (lv_at hl 0 rfl) ?_
        refine lv_bipush (v := 8) hx hb dX12_isWord_26 (by decide) ?_
        refine lv_icmp_ge (tgt := 50) hx hb dX12_isWord_28 (by decide) (fun c_80 => ?_) (fun c_80 => ?_)
        · skip
          obtain ⟨x_81, ex_81⟩ : ∃ y : Int32, y = vy_14 + 1 := ⟨_, rfl⟩
          refine lv_iinc (v := x_81) (lv' := [(5, .int x_81), (3, .long vy_15), (0, .ref (Ma 0)), (1, .long w1)]) hx hb dX12_isWord_50 hl (k := 0) rfl (by rw [ex_81]; rfl) (by decide) rfl (fun ls hl₀ => ?_)
          replace hl := hl₀
          clear hl₀
          refine lv_goto (tgt := 10) hx hb dX12_isWord_53 (by decide) ?_
          have hb_82 : 401 - (x_81 : Int32).toInt < 401 - (vy_14 : Int32).toInt ∧ 1 ≤ 401 - (vy_14 : Int32).toInt := by
            have z_1 : ¬ (r_30 : Int32).toInt = (0 : Int32).toInt := fun z => c_35 (Int32.toInt_inj.mp z)
            have z_2 := Int32.le_iff_toInt_le.mp c_80
            have y_0 : (0 : Int32).toInt = 0 := by decide
            have y_8 : (8 : Int32).toInt = 8 := by decide
            have y_1 : (1 : Int32).toInt = 1 := by decide
            have t_x_81 : x_81.toInt = (vy_14 : Int32).toInt + (1 : Int32).toInt := by rw [ex_81]; exact add_toInt (by omega) (by omega)
            have t_x_24 : x_24.toInt = (sv_4 : Int32).toInt + (vy_14 : Int32).toInt := by rw [ex_24]; exact add_toInt (by omega) (by omega)
            omega
          have ha_83 : 0 ≤ (x_81 : Int32).toInt ∧ (x_81 : Int32).toInt ≤ 401 ∧ (sv_4 : Int32).toInt + (x_81 : Int32).toInt ≤ (Mv 0).toInt := by
            have z_1 : ¬ (r_30 : Int32).toInt = (0 : Int32).toInt := fun z => c_35 (Int32.toInt_inj.mp z)
            have z_2 := Int32.le_iff_toInt_le.mp c_80
            have y_0 : (0 : Int32).toInt = 0 := by decide
            have y_8 : (8 : Int32).toInt = 8 := by decide
            have y_1 : (1 : Int32).toInt = 1 := by decide
            have t_x_81 : x_81.toInt = (vy_14 : Int32).toInt + (1 : Int32).toInt := by rw [ex_81]; exact add_toInt (by omega) (by omega)
            have t_x_24 : x_24.toInt = (sv_4 : Int32).toInt + (vy_14 : Int32).toInt := by rw [ex_24]; exact add_toInt (by omega) (by omega)
            omega
          have hi_85 : (x_24 : Int32).toInt = (sv_4 : Int32).toInt + (vy_14 : Int32).toInt := by
            have z_1 : ¬ (r_30 : Int32).toInt = (0 : Int32).toInt := fun z => c_35 (Int32.toInt_inj.mp z)
            have z_2 := Int32.le_iff_toInt_le.mp c_80
            have y_0 : (0 : Int32).toInt = 0 := by decide
            have y_8 : (8 : Int32).toInt = 8 := by decide
            have t_x_24 : x_24.toInt = (sv_4 : Int32).toInt + (vy_14 : Int32).toInt := by rw [ex_24]; exact add_toInt (by omega) (by omega)
            omega
          have hr_86 : 0 ≤ (vy_14 : Int32).toInt := by
            have z_1 : ¬ (r_30 : Int32).toInt = (0 : Int32).toInt := fun z => c_35 (Int32.toInt_inj.mp z)
            have z_2 := Int32.le_iff_toInt_le.mp c_80
            have y_0 : (0 : Int32).toInt = 0 := by decide
            have y_8 : (8 : Int32).toInt = 8 := by decide
            have t_x_24 : x_24.toInt = (sv_4 : Int32).toInt + (vy_14 : Int32).toInt := by rw [ex_24]; exact add_toInt (by omega) (by omega)
            omega
          have ha_84 : LtN (Mf 1) (Mv 0) sv_4 x_81 := LtN.step pf_20 pf_78 hi_85 hr_86
          have hk_87 : ((Mf 1) ((sv_4 : Int32).toInt + (vy_14 : Int32).toInt).toNat).toInt = ((Mf 1) (x_24 : Int32).toInt.toNat).toInt := congrArg (fun z => ((Mf 1) z).toInt) (by
            have z_1 : ¬ (r_30 : Int32).toInt = (0 : Int32).toInt := fun z => c_35 (Int32.toInt_inj.mp z)
            have z_2 := Int32.le_iff_toInt_le.mp c_80
            have y_0 : (0 : Int32).toInt = 0 := by decide
            have y_8 : (8 : Int32).toInt = 8 := by decide
            have t_x_24 : x_24.toInt = (sv_4 : Int32).toInt + (vy_14 : Int32).toInt := by rw [ex_24]; exact add_toInt (by omega) (by omega)
            omega)
          have rg_88 := rB_rg (n := (Mv 0)) h_bs ((sv_4 : Int32).toInt + (vy_14 : Int32).toInt).toNat
          have hb_89 : pz_isL (rB (Mf 1) (Mv 0) ((sv_4 : Int32).toInt + (vy_14 : Int32).toInt).toNat) = true := decide_eq_true (by
            have z_1 : ¬ (r_30 : Int32).toInt = (0 : Int32).toInt := fun z => c_35 (Int32.toInt_inj.mp z)
            have z_2 := Int32.le_iff_toInt_le.mp c_80
            have y_0 : (0 : Int32).toInt = 0 := by decide
            have y_8 : (8 : Int32).toInt = 8 := by decide
            have t_x_24 : x_24.toInt = (sv_4 : Int32).toInt + (vy_14 : Int32).toInt := by rw [ex_24]; exact add_toInt (by omega) (by omega)
            omega)
          have hq_90 : ((sv_4 : Int32).toInt + (x_81 : Int32).toInt) = ((sv_4 : Int32).toInt + (vy_14 : Int32).toInt) + 1 := by
            have z_1 : ¬ (r_30 : Int32).toInt = (0 : Int32).toInt := fun z => c_35 (Int32.toInt_inj.mp z)
            have z_2 := Int32.le_iff_toInt_le.mp c_80
            have y_0 : (0 : Int32).toInt = 0 := by decide
            have y_8 : (8 : Int32).toInt = 8 := by decide
            have y_1 : (1 : Int32).toInt = 1 := by decide
            have t_x_81 : x_81.toInt = (vy_14 : Int32).toInt + (1 : Int32).toInt := by rw [ex_81]; exact add_toInt (by omega) (by omega)
            have t_x_24 : x_24.toInt = (sv_4 : Int32).toInt + (vy_14 : Int32).toInt := by rw [ex_24]; exact add_toInt (by omega) (by omega)
            omega
          have hr_91 : 0 ≤ ((sv_4 : Int32).toInt + (vy_14 : Int32).toInt) := by
            have z_1 : ¬ (r_30 : Int32).toInt = (0 : Int32).toInt := fun z => c_35 (Int32.toInt_inj.mp z)
            have z_2 := Int32.le_iff_toInt_le.mp c_80
            have y_0 : (0 : Int32).toInt = 0 := by decide
            have y_8 : (8 : Int32).toInt = 8 := by decide
            have t_x_24 : x_24.toInt = (sv_4 : Int32).toInt + (vy_14 : Int32).toInt := by rw [ex_24]; exact add_toInt (by omega) (by omega)
            omega
          have hi_92 : (x_81 : Int32).toInt = (vy_14 : Int32).toInt + 1 := by
            have z_1 : ¬ (r_30 : Int32).toInt = (0 : Int32).toInt := fun z => c_35 (Int32.toInt_inj.mp z)
            have z_2 := Int32.le_iff_toInt_le.mp c_80
            have y_0 : (0 : Int32).toInt = 0 := by decide
            have y_8 : (8 : Int32).toInt = 8 := by decide
            have y_1 : (1 : Int32).toInt = 1 := by decide
            have t_x_81 : x_81.toInt = (vy_14 : Int32).toInt + (1 : Int32).toInt := by rw [ex_81]; exact add_toInt (by omega) (by omega)
            have t_x_24 : x_24.toInt = (sv_4 : Int32).toInt + (vy_14 : Int32).toInt := by rw [ex_24]; exact add_toInt (by omega) (by omega)
            omega
          have hr_93 : 8 ≤ (x_81 : Int32).toInt := by
            have z_1 : ¬ (r_30 : Int32).toInt = (0 : Int32).toInt := fun z => c_35 (Int32.toInt_inj.mp z)
            have z_2 := Int32.le_iff_toInt_le.mp c_80
            have y_0 : (0 : Int32).toInt = 0 := by decide
            have y_8 : (8 : Int32).toInt = 8 := by decide
            have y_1 : (1 : Int32).toInt = 1 := by decide
            have t_x_81 : x_81.toInt = (vy_14 : Int32).toInt + (1 : Int32).toInt := by rw [ex_81]; exact add_toInt (by omega) (by omega)
            have t_x_24 : x_24.toInt = (sv_4 : Int32).toInt + (vy_14 : Int32).toInt := by rw [ex_24]; exact add_toInt (by omega) (by omega)
            omega
          exact ih_17 x_81 vy_15 _ _ _ (by omega) ha_83 ha_84 (RnB.st pf_21 hr_91 hb_89 hq_90) (PkV.big hr_93) (hP.sub [0, 1] rfl) (hD.sub [0, 1] rfl rfl) hS (lv_sub hl [0, 1, 2, 3] rfl)
        · skip
          refine lv_lload_n hx hb dX12_isWord_31 rfl (lv_at hl 1 rfl) ?_
          refine lv_bipush (v := 8) hx hb dX12_isWord_32 (by decide) ?_
          obtain ⟨x_94, ex_94⟩ : ∃ y : Int64, y = vy_15 <<< (((8 : Int32)).toInt64 &&& 63) := ⟨_, rfl⟩
          refine lv_lshl (v := x_94) hx hb dX12_isWord_34 ex_94.symm ?_
          refine lv_aload_n hx hb dX12_isWord_35 rfl (lv_at hl 2 rfl) ?_
          refine gf_X12_7 hx hb hts hown hK hP 0 rfl rfl dX12_isWord_36 ?_
          refine lv_aload_n hx hb dX12_isWord_39 rfl (lv_at hl 2 rfl) ?_
          refine gf_X12_87 hx hb hts hown hK hP 0 rfl rfl dX12_isWord_40 ?_
          refine lv_iload hx hb dX12_isWord_43 (lv_at hl 0 rfl) ?_
          refine lv_iadd hx hb dX12_isWord_45 ?_
          refine lv_topi (fun x_95 ex_95 => ?_)
          have hi_96 : vp_in x_95 400 := by
            have z_1 : ¬ (r_30 : Int32).toInt = (0 : Int32).toInt := fun z => c_35 (Int32.toInt_inj.mp z)
            have z_2 := Int32.lt_iff_toInt_lt.mp (Int32.not_le.mp c_80)
            have y_0 : (0 : Int32).toInt = 0 := by decide
            have y_8 : (8 : Int32).toInt = 8 := by decide
            have t_x_95 : x_95.toInt = (sv_4 : Int32).toInt + (vy_14 : Int32).toInt := by rw [ex_95]; exact add_toInt (by omega) (by omega)
            have t_x_24 : x_24.toInt = (sv_4 : Int32).toInt + (vy_14 : Int32).toInt := by rw [ex_24]; exact add_toInt (by omega) (by omega)
            refine vp_in_iff.mpr ⟨?_, ?_⟩ <;> omega
          refine va_bald hx hb hK hP 1 2 rfl rfl hi_96 dX12_isWord_46 ?_
          refine lv_topi (fun x_97 ex_97 => ?_)
          have kx_97 : x_97.toInt = ((Mf 1) (x_95 : Int32).toInt.toNat).toInt := congrArg Int32.toInt ex_97
          have kcx_97 : x_97.toInt = ((Mf 1) (x_95 : Int32).toNatClampNeg).toInt := congrArg Int32.toInt ex_97
          refine lv_i2l (v := (x_97).toInt64) hx hb dX12_isWord_47 rfl ?_
          refine lv_lor hx hb dX12_isWord_48 ?_
          refine lv_topl (fun x_98 ex_98 => ?_)
          refine lv_lstore_n (lv' := [(3, .long x_98), (5, .int vy_14), (0, .ref (Ma 0)), (1, .long w1)]) hx hb dX12_isWord_49 rfl hl (by decide) rfl (fun ls hl₀ => ?_)
          replace hl := hl₀
          clear hl₀
          obtain ⟨x_99, ex_99⟩ : ∃ y : Int32, y = vy_14 + 1 := ⟨_, rfl⟩
          refine lv_iinc (v := x_99) (lv' := [(5, .int x_99), (3, .long x_98), (0, .ref (Ma 0)), (1, .long w1)]) hx hb dX12_isWord_50 hl (k := 1) rfl (by rw [ex_99]; rfl) (by decide) rfl (fun ls hl₀ => ?_)
          replace hl := hl₀
          clear hl₀
          refine lv_goto (tgt := 10) hx hb dX12_isWord_53 (by decide) ?_
          have hb_100 : 401 - (x_99 : Int32).toInt < 401 - (vy_14 : Int32).toInt ∧ 1 ≤ 401 - (vy_14 : Int32).toInt := by
            have z_1 : ¬ (r_30 : Int32).toInt = (0 : Int32).toInt := fun z => c_35 (Int32.toInt_inj.mp z)
            have z_2 := Int32.lt_iff_toInt_lt.mp (Int32.not_le.mp c_80)
            have y_0 : (0 : Int32).toInt = 0 := by decide
            have y_8 : (8 : Int32).toInt = 8 := by decide
            have y_1 : (1 : Int32).toInt = 1 := by decide
            have t_x_99 : x_99.toInt = (vy_14 : Int32).toInt + (1 : Int32).toInt := by rw [ex_99]; exact add_toInt (by omega) (by omega)
            have t_x_24 : x_24.toInt = (sv_4 : Int32).toInt + (vy_14 : Int32).toInt := by rw [ex_24]; exact add_toInt (by omega) (by omega)
            omega
          have ha_101 : 0 ≤ (x_99 : Int32).toInt ∧ (x_99 : Int32).toInt ≤ 401 ∧ (sv_4 : Int32).toInt + (x_99 : Int32).toInt ≤ (Mv 0).toInt := by
            have z_1 : ¬ (r_30 : Int32).toInt = (0 : Int32).toInt := fun z => c_35 (Int32.toInt_inj.mp z)
            have z_2 := Int32.lt_iff_toInt_lt.mp (Int32.not_le.mp c_80)
            have y_0 : (0 : Int32).toInt = 0 := by decide
            have y_8 : (8 : Int32).toInt = 8 := by decide
            have y_1 : (1 : Int32).toInt = 1 := by decide
            have t_x_99 : x_99.toInt = (vy_14 : Int32).toInt + (1 : Int32).toInt := by rw [ex_99]; exact add_toInt (by omega) (by omega)
            have t_x_24 : x_24.toInt = (sv_4 : Int32).toInt + (vy_14 : Int32).toInt := by rw [ex_24]; exact add_toInt (by omega) (by omega)
            omega
          have hi_103 : (x_24 : Int32).toInt = (sv_4 : Int32).toInt + (vy_14 : Int32).toInt := by
            have z_1 : ¬ (r_30 : Int32).toInt = (0 : Int32).toInt := fun z => c_35 (Int32.toInt_inj.mp z)
            have z_2 := Int32.lt_iff_toInt_lt.mp (Int32.not_le.mp c_80)
            have y_0 : (0 : Int32).toInt = 0 := by decide
            have y_8 : (8 : Int32).toInt = 8 := by decide
            have t_x_24 : x_24.toInt = (sv_4 : Int32).toInt + (vy_14 : Int32).toInt := by rw [ex_24]; exact add_toInt (by omega) (by omega)
            omega
          have hr_104 : 0 ≤ (vy_14 : Int32).toInt := by
            have z_1 : ¬ (r_30 : Int32).toInt = (0 : Int32).toInt := fun z => c_35 (Int32.toInt_inj.mp z)
            have z_2 := Int32.lt_iff_toInt_lt.mp (Int32.not_le.mp c_80)
            have y_0 : (0 : Int32).toInt = 0 := by decide
            have y_8 : (8 : Int32).toInt = 8 := by decide
            have t_x_24 : x_24.toInt = (sv_4 : Int32).toInt + (vy_14 : Int32).toInt := by rw [ex_24]; exact add_toInt (by omega) (by omega)
            omega
          have ha_102 : LtN (Mf 1) (Mv 0) sv_4 x_99 := LtN.step pf_20 pf_78 hi_103 hr_104
          have hk_105 : ((Mf 1) ((sv_4 : Int32).toInt + (vy_14 : Int32).toInt).toNat).toInt = ((Mf 1) (x_24 : Int32).toInt.toNat).toInt := congrArg (fun z => ((Mf 1) z).toInt) (by
            have z_1 : ¬ (r_30 : Int32).toInt = (0 : Int32).toInt := fun z => c_35 (Int32.toInt_inj.mp z)
            have z_2 := Int32.lt_iff_toInt_lt.mp (Int32.not_le.mp c_80)
            have y_0 : (0 : Int32).toInt = 0 := by decide
            have y_8 : (8 : Int32).toInt = 8 := by decide
            have t_x_24 : x_24.toInt = (sv_4 : Int32).toInt + (vy_14 : Int32).toInt := by rw [ex_24]; exact add_toInt (by omega) (by omega)
            omega)
          have rg_106 := rB_rg (n := (Mv 0)) h_bs ((sv_4 : Int32).toInt + (vy_14 : Int32).toInt).toNat
          have hb_107 : pz_isL (rB (Mf 1) (Mv 0) ((sv_4 : Int32).toInt + (vy_14 : Int32).toInt).toNat) = true := decide_eq_true (by
            have z_1 : ¬ (r_30 : Int32).toInt = (0 : Int32).toInt := fun z => c_35 (Int32.toInt_inj.mp z)
            have z_2 := Int32.lt_iff_toInt_lt.mp (Int32.not_le.mp c_80)
            have y_0 : (0 : Int32).toInt = 0 := by decide
            have y_8 : (8 : Int32).toInt = 8 := by decide
            have t_x_24 : x_24.toInt = (sv_4 : Int32).toInt + (vy_14 : Int32).toInt := by rw [ex_24]; exact add_toInt (by omega) (by omega)
            omega)
          have hq_108 : ((sv_4 : Int32).toInt + (x_99 : Int32).toInt) = ((sv_4 : Int32).toInt + (vy_14 : Int32).toInt) + 1 := by
            have z_1 : ¬ (r_30 : Int32).toInt = (0 : Int32).toInt := fun z => c_35 (Int32.toInt_inj.mp z)
            have z_2 := Int32.lt_iff_toInt_lt.mp (Int32.not_le.mp c_80)
            have y_0 : (0 : Int32).toInt = 0 := by decide
            have y_8 : (8 : Int32).toInt = 8 := by decide
            have y_1 : (1 : Int32).toInt = 1 := by decide
            have t_x_99 : x_99.toInt = (vy_14 : Int32).toInt + (1 : Int32).toInt := by rw [ex_99]; exact add_toInt (by omega) (by omega)
            have t_x_24 : x_24.toInt = (sv_4 : Int32).toInt + (vy_14 : Int32).toInt := by rw [ex_24]; exact add_toInt (by omega) (by omega)
            omega
          have hr_109 : 0 ≤ ((sv_4 : Int32).toInt + (vy_14 : Int32).toInt) := by
            have z_1 : ¬ (r_30 : Int32).toInt = (0 : Int32).toInt := fun z => c_35 (Int32.toInt_inj.mp z)
            have z_2 := Int32.lt_iff_toInt_lt.mp (Int32.not_le.mp c_80)
            have y_0 : (0 : Int32).toInt = 0 := by decide
            have y_8 : (8 : Int32).toInt = 8 := by decide
            have t_x_24 : x_24.toInt = (sv_4 : Int32).toInt + (vy_14 : Int32).toInt := by rw [ex_24]; exact add_toInt (by omega) (by omega)
            omega
          have hi_110 : (x_99 : Int32).toInt = (vy_14 : Int32).toInt + 1 := by
            have z_1 : ¬ (r_30 : Int32).toInt = (0 : Int32).toInt := fun z => c_35 (Int32.toInt_inj.mp z)
            have z_2 := Int32.lt_iff_toInt_lt.mp (Int32.not_le.mp c_80)
            have y_0 : (0 : Int32).toInt = 0 := by decide
            have y_8 : (8 : Int32).toInt = 8 := by decide
            have y_1 : (1 : Int32).toInt = 1 := by decide
            have t_x_99 : x_99.toInt = (vy_14 : Int32).toInt + (1 : Int32).toInt := by rw [ex_99]; exact add_toInt (by omega) (by omega)
            have t_x_24 : x_24.toInt = (sv_4 : Int32).toInt + (vy_14 : Int32).toInt := by rw [ex_24]; exact add_toInt (by omega) (by omega)
            omega
          have rg_111 := rB_rg (n := (Mv 0)) h_bs (x_95 : Int32).toInt.toNat
          have hk_112 : ((Mf 1) (x_24 : Int32).toInt.toNat).toInt = ((Mf 1) (x_95 : Int32).toInt.toNat).toInt := congrArg (fun z => ((Mf 1) z).toInt) (by
            have z_1 : ¬ (r_30 : Int32).toInt = (0 : Int32).toInt := fun z => c_35 (Int32.toInt_inj.mp z)
            have z_2 := Int32.lt_iff_toInt_lt.mp (Int32.not_le.mp c_80)
            have y_0 : (0 : Int32).toInt = 0 := by decide
            have y_8 : (8 : Int32).toInt = 8 := by decide
            have t_x_24 : x_24.toInt = (sv_4 : Int32).toInt + (vy_14 : Int32).toInt := by rw [ex_24]; exact add_toInt (by omega) (by omega)
            have t_x_95 : x_95.toInt = (sv_4 : Int32).toInt + (vy_14 : Int32).toInt := by rw [ex_95]; exact add_toInt (by omega) (by omega)
            omega)
          have hx_113 : (x_95 : Int32).toInt.toNat = (sv_4 : Int32).toInt.toNat + (vy_14 : Int32).toInt.toNat := by
            have z_1 : ¬ (r_30 : Int32).toInt = (0 : Int32).toInt := fun z => c_35 (Int32.toInt_inj.mp z)
            have z_2 := Int32.lt_iff_toInt_lt.mp (Int32.not_le.mp c_80)
            have y_0 : (0 : Int32).toInt = 0 := by decide
            have y_8 : (8 : Int32).toInt = 8 := by decide
            have t_x_95 : x_95.toInt = (sv_4 : Int32).toInt + (vy_14 : Int32).toInt := by rw [ex_95]; exact add_toInt (by omega) (by omega)
            have t_x_24 : x_24.toInt = (sv_4 : Int32).toInt + (vy_14 : Int32).toInt := by rw [ex_24]; exact add_toInt (by omega) (by omega)
            omega
          have hy_114 : (x_97 : Int32).toInt = rB (Mf 1) (Mv 0) ((sv_4 : Int32).toInt.toNat + (vy_14 : Int32).toInt.toNat) := by
            rw [← hx_113]
            have z_1 : ¬ (r_30 : Int32).toInt = (0 : Int32).toInt := fun z => c_35 (Int32.toInt_inj.mp z)
            have z_2 := Int32.lt_iff_toInt_lt.mp (Int32.not_le.mp c_80)
            have y_0 : (0 : Int32).toInt = 0 := by decide
            have y_8 : (8 : Int32).toInt = 8 := by decide
            have t_x_95 : x_95.toInt = (sv_4 : Int32).toInt + (vy_14 : Int32).toInt := by rw [ex_95]; exact add_toInt (by omega) (by omega)
            have t_x_24 : x_24.toInt = (sv_4 : Int32).toInt + (vy_14 : Int32).toInt := by rw [ex_24]; exact add_toInt (by omega) (by omega)
            omega
          have hr_115 : 0 ≤ (sv_4 : Int32).toInt ∧ 0 ≤ (vy_14 : Int32).toInt := by
            have z_1 : ¬ (r_30 : Int32).toInt = (0 : Int32).toInt := fun z => c_35 (Int32.toInt_inj.mp z)
            have z_2 := Int32.lt_iff_toInt_lt.mp (Int32.not_le.mp c_80)
            have y_0 : (0 : Int32).toInt = 0 := by decide
            have y_8 : (8 : Int32).toInt = 8 := by decide
            have t_x_24 : x_24.toInt = (sv_4 : Int32).toInt + (vy_14 : Int32).toInt := by rw [ex_24]; exact add_toInt (by omega) (by omega)
            omega
          have hr_116 : 97 ≤ (x_97 : Int32).toInt ∧ (x_97 : Int32).toInt ≤ 122 := by
            have z_1 : ¬ (r_30 : Int32).toInt = (0 : Int32).toInt := fun z => c_35 (Int32.toInt_inj.mp z)
            have z_2 := Int32.lt_iff_toInt_lt.mp (Int32.not_le.mp c_80)
            have y_0 : (0 : Int32).toInt = 0 := by decide
            have y_8 : (8 : Int32).toInt = 8 := by decide
            have t_x_24 : x_24.toInt = (sv_4 : Int32).toInt + (vy_14 : Int32).toInt := by rw [ex_24]; exact add_toInt (by omega) (by omega)
            omega
          exact ih_17 x_99 x_98 _ _ _ (by omega) ha_101 ha_102 (RnB.st pf_21 hr_109 hb_107 hq_108) (PkV.st pf_22 pf_21 hr_115 hy_114 hr_116 ex_94 ex_98 hi_110) (hP.sub [0, 1] rfl) (hD.sub [0, 1] rfl rfl) hS (lv_sub hl [0, 1, 2, 3] rfl)
  have ha_117 : 0 ≤ (0 : Int32).toInt ∧ (0 : Int32).toInt ≤ 401 ∧ (sv_4 : Int32).toInt + (0 : Int32).toInt ≤ (Mv 0).toInt := by
    have y_0 : (0 : Int32).toInt = 0 := by decide
    omega
  have ha_118 : LtN (Mf 1) (Mv 0) sv_4 0 := fun z => absurd z (by decide)
  have hq_119 : ((sv_4 : Int32).toInt + (0 : Int32).toInt) = (sv_4 : Int32).toInt := by
    have y_0 : (0 : Int32).toInt = 0 := by decide
    omega
  have hb_120 : RnB pz_isL (rB (Mf 1) (Mv 0)) (sv_4 : Int32).toInt ((sv_4 : Int32).toInt + (0 : Int32).toInt) := by rw [hq_119]; exact RnB.rf
  exact loop_18 _ 0 0 _ _ _ (Nat.lt_succ_self _) ha_117 ha_118 hb_120 (PkV.nil) hP hD hS hl
set_option maxRecDepth 100000 in
theorem cu_fX12_isWord (l : Launch) (D : va_G) (tc : Nat → ClassId) (sk : (Nat → Nat) × (Nat → Nat)) (Ma_0 : Nat) (Ma_1 : Nat) (Ma_2 : Nat) (Ma_3 : Nat) (Ma_4 : Nat) (Ma_5 : Nat) (Ma_6 : Nat) (Ma_7 : Nat) (Ma_8 : Nat) (Ma_9 : Nat) (Ma_10 : Nat) (Ma_11 : Nat) (Ma_12 : Nat) (Ma_13 : Nat) (Ma_14 : Nat) (Ma_15 : Nat) (Ma_16 : Nat) (Ma_17 : Nat) (Ma_18 : Nat) (Ma_19 : Nat) (Ma_20 : Nat) (Mv_0 : Int32) (Mv_1 : Int32) (Mv_2 : Int32) (Mv_3 : Int32) (Mv_4 : Int32) (Mv_5 : Int32) (Mv_6 : Int32) (Mv_7 : Int32) (Mv_8 : Int32) (Mv_9 : Int32) (Mv_10 : Int32) (Mv_11 : Int32) (Mv_12 : Int32) (Mv_13 : Int32) (Mv_14 : Int32) (Mf_1 : Nat → Int32) (Mj_0 : Int64) (w1 : Int64) (h_nx : 0 ≤ (Mv_2 : Int32).toInt ∧ (Mv_2 : Int32).toInt ≤ (Mv_0 : Int32).toInt ∧ (Mv_0 : Int32).toInt ≤ 400) (h_bs : ByS Mf_1) : Ct l yX12_isWord cX12_isWord 6 (some .boolean) { frames := 1, cells := 0, slots := 0, locals := 21 } D tc sk [.ref Ma_0, .long w1] [(Ma_0, .inr (12, [.ref Ma_1, .int Mv_0, .int Mv_1, .ref Ma_2, .ref Ma_3, .ref Ma_4, .ref Ma_5, .ref Ma_6, .int Mv_2, .int Mv_3, .int Mv_4, .int Mv_5, .int Mv_6, .int Mv_7, .int Mv_8, .ref Ma_7, .int Mv_9, .ref Ma_8, .int Mv_10, .ref Ma_9, .ref Ma_10, .int Mv_11, .int Mv_12, .int Mv_13, .ref Ma_11, .int Mv_14, .ref Ma_12, .ref Ma_13, .ref Ma_14, .ref Ma_15, .ref Ma_16, .long Mj_0, .ref Ma_17, .ref Ma_18, .ref Ma_19, .ref Ma_20])), (Ma_1, .inl (tc 2, 400, .inl Mf_1))] (fun (v : Option Value) (oo0x1 : Int32) => ∃ r : Int32, v = some (.int r) ∧ ((r.toInt = 0 ∨ r.toInt = 1)) ∧ ((Mv_2 : Int32).toInt ≤ (oo0x1 : Int32).toInt ∧ (oo0x1 : Int32).toInt ≤ (Mv_0 : Int32).toInt) ∧ (NSq Mf_1 Mv_0 oo0x1) ∧ (Stl Mf_1 Mv_0 Mv_2 oo0x1) ∧ (SkR (rB Mf_1 Mv_0) Mv_2 oo0x1) ∧ (r.toInt = 1 → (Ltr Mf_1 Mv_0 oo0x1) ∧ (PkW (rB Mf_1 Mv_0) ((oo0x1 : Int32).toInt.toNat) w1.toInt)) ∧ (r.toInt = 0 → (NPk (rB Mf_1 Mv_0) ((oo0x1 : Int32).toInt.toNat) w1.toInt))) (fun (oo0x1 : Int32) => [(Ma_0, .inr (12, [.ref Ma_1, .int Mv_0, .int Mv_1, .ref Ma_2, .ref Ma_3, .ref Ma_4, .ref Ma_5, .ref Ma_6, .int oo0x1, .int Mv_3, .int Mv_4, .int Mv_5, .int Mv_6, .int Mv_7, .int Mv_8, .ref Ma_7, .int Mv_9, .ref Ma_8, .int Mv_10, .ref Ma_9, .ref Ma_10, .int Mv_11, .int Mv_12, .int Mv_13, .ref Ma_11, .int Mv_14, .ref Ma_12, .ref Ma_13, .ref Ma_14, .ref Ma_15, .ref Ma_16, .long Mj_0, .ref Ma_17, .ref Ma_18, .ref Ma_19, .ref Ma_20])), (Ma_1, .inl (tc 2, 400, .inl Mf_1))]) 0 0 :=
  ct_fX12_isWord l D tc sk (fun k => ([Ma_0, Ma_1, Ma_2, Ma_3, Ma_4, Ma_5, Ma_6, Ma_7, Ma_8, Ma_9, Ma_10, Ma_11, Ma_12, Ma_13, Ma_14, Ma_15, Ma_16, Ma_17, Ma_18, Ma_19, Ma_20] : List (Nat)).getD k 0) (fun k => ([Mv_0, Mv_1, Mv_2, Mv_3, Mv_4, Mv_5, Mv_6, Mv_7, Mv_8, Mv_9, Mv_10, Mv_11, Mv_12, Mv_13, Mv_14] : List (Int32)).getD k 0) (fun k => ([(fun _ => 0), Mf_1] : List (Nat → Int32)).getD k (fun _ => 0)) (fun k => ([Mj_0] : List (Int64)).getD k 0) w1 h_nx h_bs
set_option maxHeartbeats 4000000 in
set_option maxRecDepth 100000 in
theorem ct_fX12_passWord (l : Launch) (D : va_G) (tc : Nat → ClassId) (sk : (Nat → Nat) × (Nat → Nat)) (Ma : Nat → Nat) (Mv : Nat → Int32) (Mf : Nat → Nat → Int32) (Mj : Nat → Int64) (h_nx : 0 ≤ ((Mv 2) : Int32).toInt ∧ ((Mv 2) : Int32).toInt ≤ ((Mv 0) : Int32).toInt ∧ ((Mv 0) : Int32).toInt ≤ 400) (h_bs : ByS (Mf 1)) : Ct l yX12_passWord cX12_passWord 1 none { frames := 1, cells := 0, slots := 0, locals := 21 } D tc sk [.ref (Ma 0)] [((Ma 0), .inr (12, [.ref (Ma 1), .int (Mv 0), .int (Mv 1), .ref (Ma 2), .ref (Ma 3), .ref (Ma 4), .ref (Ma 5), .ref (Ma 6), .int (Mv 2), .int (Mv 3), .int (Mv 4), .int (Mv 5), .int (Mv 6), .int (Mv 7), .int (Mv 8), .ref (Ma 7), .int (Mv 9), .ref (Ma 8), .int (Mv 10), .ref (Ma 9), .ref (Ma 10), .int (Mv 11), .int (Mv 12), .int (Mv 13), .ref (Ma 11), .int (Mv 14), .ref (Ma 12), .ref (Ma 13), .ref (Ma 14), .ref (Ma 15), .ref (Ma 16), .long (Mj 0), .ref (Ma 17), .ref (Ma 18), .ref (Ma 19), .ref (Ma 20)])), ((Ma 1), .inl (tc 2, 400, .inl (Mf 1)))] (fun (v : Option Value) (oo0x1 : Int32) => v = none ∧ (((Mv 2) : Int32).toInt ≤ (oo0x1 : Int32).toInt ∧ (oo0x1 : Int32).toInt ≤ ((Mv 0) : Int32).toInt) ∧ (Pw (Mf 1) (Mv 0) (Mv 2) oo0x1) ∧ (PsR (rB (Mf 1) (Mv 0)) (Mv 2) oo0x1)) (fun (oo0x1 : Int32) => [((Ma 0), .inr (12, [.ref (Ma 1), .int (Mv 0), .int (Mv 1), .ref (Ma 2), .ref (Ma 3), .ref (Ma 4), .ref (Ma 5), .ref (Ma 6), .int oo0x1, .int (Mv 3), .int (Mv 4), .int (Mv 5), .int (Mv 6), .int (Mv 7), .int (Mv 8), .ref (Ma 7), .int (Mv 9), .ref (Ma 8), .int (Mv 10), .ref (Ma 9), .ref (Ma 10), .int (Mv 11), .int (Mv 12), .int (Mv 13), .ref (Ma 11), .int (Mv 14), .ref (Ma 12), .ref (Ma 13), .ref (Ma 14), .ref (Ma 15), .ref (Ma 16), .long (Mj 0), .ref (Ma 17), .ref (Ma 18), .ref (Ma 19), .ref (Ma 20)])), ((Ma 1), .inl (tc 2, 400, .inl (Mf 1)))]) 0 0 := by
  refine Ct.start (by decide) (Nat.le_of_ble_eq_true rfl) (fun p e s m below meth c A ls hx hb hr hlk hin hml hown hts hK hX hP hD hA hl hS => ?_)
  have hl : lv_has ls 1 [(0, .ref (Ma 0))] := hl
  have loop_5 : ∀ (n_3 : Nat) (vy_2 : Int32) (H : Heap) (locs : List Loc) (ls : Array Slot), (400 - (vy_2 : Int32).toInt).toNat < n_3 → ((Mv 2).toInt ≤ (vy_2 : Int32).toInt ∧ (vy_2 : Int32).toInt ≤ (Mv 0).toInt) → (Adv (Mv 2) vy_2) → (RnB pz_isL (rB (Mf 1) (Mv 0)) ((Mv 2) : Int32).toInt (vy_2 : Int32).toInt) → va_P D classes [((Ma 0), .inr (12, [.ref (Ma 1), .int (Mv 0), .int (Mv 1), .ref (Ma 2), .ref (Ma 3), .ref (Ma 4), .ref (Ma 5), .ref (Ma 6), .int vy_2, .int (Mv 3), .int (Mv 4), .int (Mv 5), .int (Mv 6), .int (Mv 7), .int (Mv 8), .ref (Ma 7), .int (Mv 9), .ref (Ma 8), .int (Mv 10), .ref (Ma 9), .ref (Ma 10), .int (Mv 11), .int (Mv 12), .int (Mv 13), .ref (Ma 11), .int (Mv 14), .ref (Ma 12), .ref (Ma 13), .ref (Ma 14), .ref (Ma 15), .ref (Ma 16), .long (Mj 0), .ref (Ma 17), .ref (Ma 18), .ref (Ma 19), .ref (Ma 20)])), ((Ma 1), .inl (tc 2, 400, .inl (Mf 1)))] H → va_D A [((Ma 0), .inr (12, [.ref (Ma 1), .int (Mv 0), .int (Mv 1), .ref (Ma 2), .ref (Ma 3), .ref (Ma 4), .ref (Ma 5), .ref (Ma 6), .int vy_2, .int (Mv 3), .int (Mv 4), .int (Mv 5), .int (Mv 6), .int (Mv 7), .int (Mv 8), .ref (Ma 7), .int (Mv 9), .ref (Ma 8), .int (Mv 10), .ref (Ma 9), .ref (Ma 10), .int (Mv 11), .int (Mv 12), .int (Mv 13), .ref (Ma 11), .int (Mv 14), .ref (Ma 12), .ref (Ma 13), .ref (Ma 14), .ref (Ma 15), .ref (Ma 16), .long (Mj 0), .ref (Ma 17), .ref (Ma 18), .ref (Ma 19), .ref (Ma 20)])), ((Ma 1), .inl (tc 2, 400, .inl (Mf 1)))] → va_S A s.heap H locs → lv_has ls 1 [(0, .ref (Ma 0))] → W p l e ({ frames := 1, cells := 0, slots := 0, locals := 21 }) s m ([.ref (Ma 0)].toArray) below meth c H locs 0 0 (MQ below (QW (fun (v : Option Value) (oo0x1 : Int32) => v = none ∧ (((Mv 2) : Int32).toInt ≤ (oo0x1 : Int32).toInt ∧ (oo0x1 : Int32).toInt ≤ ((Mv 0) : Int32).toInt) ∧ (Pw (Mf 1) (Mv 0) (Mv 2) oo0x1) ∧ (PsR (rB (Mf 1) (Mv 0)) (Mv 2) oo0x1)) (BW D (fun (oo0x1 : Int32) => [((Ma 0), .inr (12, [.ref (Ma 1), .int (Mv 0), .int (Mv 1), .ref (Ma 2), .ref (Ma 3), .ref (Ma 4), .ref (Ma 5), .ref (Ma 6), .int oo0x1, .int (Mv 3), .int (Mv 4), .int (Mv 5), .int (Mv 6), .int (Mv 7), .int (Mv 8), .ref (Ma 7), .int (Mv 9), .ref (Ma 8), .int (Mv 10), .ref (Ma 9), .ref (Ma 10), .int (Mv 11), .int (Mv 12), .int (Mv 13), .ref (Ma 11), .int (Mv 14), .ref (Ma 12), .ref (Ma 13), .ref (Ma 14), .ref (Ma 15), .ref (Ma 16), .long (Mj 0), .ref (Ma 17), .ref (Ma 18), .ref (Ma 19), .ref (Ma 20)])), ((Ma 1), .inl (tc 2, 400, .inl (Mf 1)))]) A) A) ([.ref (Ma 0)].toArray) s 0 0 A) (F0 m 0 ls []) := by
    clear hP hD hS hl
    intro n_3
    induction n_3 with
    | zero =>
      intro vy_2 H locs ls h1
      exact absurd h1 (Nat.not_lt_zero _)
    | succ n_3 ih_4 =>
      intro vy_2 H locs ls hn_9 pf_6 pf_7 pf_8 hP hD hS hl
      refine lv_aload_n hx hb dX12_passWord_0 rfl (lv_at hl 0 rfl) ?_
      refine lv_aload_n hx hb dX12_passWord_1 rfl (lv_at hl 0 rfl) ?_
      refine gf_X12_87 hx hb hts hown hK hP 0 rfl rfl dX12_passWord_2 ?_
      have ha_10 : 0 ≤ vy_2.toInt := by
        omega
      have ha_11 : (Mv 0).toInt ≤ 400 := by
        omega
      refine cV (a := (Ma 0)) (As := [.int vy_2]) (rest := []) (wr := []) ⟨hx, hb, hml, hown, hts⟩ hK hX hA (cu_X12_isLetter l D tc sk (Ma 0) (Ma 1) (Ma 2) (Ma 3) (Ma 4) (Ma 5) (Ma 6) (Ma 7) (Ma 8) (Ma 9) (Ma 10) (Ma 11) (Ma 12) (Ma 13) (Ma 14) (Ma 15) (Ma 16) (Ma 17) (Ma 18) (Ma 19) (Ma 20) (Mv 0) (Mv 1) vy_2 (Mv 3) (Mv 4) (Mv 5) (Mv 6) (Mv 7) (Mv 8) (Mv 9) (Mv 10) (Mv 11) (Mv 12) (Mv 13) (Mv 14) (Mf 1) (Mj 0) vy_2 ha_10 ha_11) k_1224 k_1221 k_1223 k_30 k_106 pl_X12_isLetter ⟨Nat.le_of_ble_eq_true rfl, Nat.le_of_ble_eq_true rfl⟩ rfl rfl (va_recv hK hP (ci := 12) (q0 := 0) rfl rfl) hP hD hS [0, 1] [] rfl rfl rfl rfl rfl (by decide) rfl hl.1 rfl (Nat.le_of_ble_eq_true rfl) dX12_passWord_5 ⟨Nat.le_of_ble_eq_true rfl, Nat.le_of_ble_eq_true rfl⟩ (fun v_12 u_13 H locs hv_14 hP₀ hD₀ hS₀ => ?_)
      obtain ⟨r_15, rfl, he_16, hm_18, hm_19⟩ := hv_14
      have he_16 : (r_15.toInt = 0 ∨ r_15.toInt = 1) := he_16
      refine W.eq (g2 := F0 m 8 ls [.int r_15]) rfl ?_
      replace hP : va_P D classes [((Ma 0), .inr (12, [.ref (Ma 1), .int (Mv 0), .int (Mv 1), .ref (Ma 2), .ref (Ma 3), .ref (Ma 4), .ref (Ma 5), .ref (Ma 6), .int vy_2, .int (Mv 3), .int (Mv 4), .int (Mv 5), .int (Mv 6), .int (Mv 7), .int (Mv 8), .ref (Ma 7), .int (Mv 9), .ref (Ma 8), .int (Mv 10), .ref (Ma 9), .ref (Ma 10), .int (Mv 11), .int (Mv 12), .int (Mv 13), .ref (Ma 11), .int (Mv 14), .ref (Ma 12), .ref (Ma 13), .ref (Ma 14), .ref (Ma 15), .ref (Ma 16), .long (Mj 0), .ref (Ma 17), .ref (Ma 18), .ref (Ma 19), .ref (Ma 20)])), ((Ma 1), .inl (tc 2, 400, .inl (Mf 1)))] H := hP₀
      replace hD : va_D A [((Ma 0), .inr (12, [.ref (Ma 1), .int (Mv 0), .int (Mv 1), .ref (Ma 2), .ref (Ma 3), .ref (Ma 4), .ref (Ma 5), .ref (Ma 6), .int vy_2, .int (Mv 3), .int (Mv 4), .int (Mv 5), .int (Mv 6), .int (Mv 7), .int (Mv 8), .ref (Ma 7), .int (Mv 9), .ref (Ma 8), .int (Mv 10), .ref (Ma 9), .ref (Ma 10), .int (Mv 11), .int (Mv 12), .int (Mv 13), .ref (Ma 11), .int (Mv 14), .ref (Ma 12), .ref (Ma 13), .ref (Ma 14), .ref (Ma 15), .ref (Ma 16), .long (Mj 0), .ref (Ma 17), .ref (Ma 18), .ref (Ma 19), .ref (Ma 20)])), ((Ma 1), .inl (tc 2, 400, .inl (Mf 1)))] := hD₀
      replace hS := hS₀
      clear hP₀ hD₀ hS₀
      refine lv_if_eq (tgt := 24) hx hb dX12_passWord_8 (by decide) (fun c_20 => ?_) (fun c_20 => ?_)
      · skip
        have hz_22 : (r_15 : Int32).toInt = 0 := by
          have z_1 := congrArg Int32.toInt c_20
          have y_0 : (0 : Int32).toInt = 0 := by decide
          omega
        obtain pf_21 := hm_19 hz_22
        have pf_21 : NLtr (Mf 1) (Mv 0) vy_2 := pf_21
        have at_pf_21 : ¬ ((vy_2 : Int32).toInt < (Mv 0).toInt ∧ 97 ≤ ((Mf 1) (vy_2 : Int32).toInt.toNat).toInt ∧ ((Mf 1) (vy_2 : Int32).toInt.toNat).toInt ≤ 122) := pf_21
        have ha_23 : ((Mv 2) : Int32).toInt ≤ (vy_2 : Int32).toInt ∧ (vy_2 : Int32).toInt ≤ ((Mv 0) : Int32).toInt := by
          have z_1 := congrArg Int32.toInt c_20
          have y_0 : (0 : Int32).toInt = 0 := by decide
          omega
        have hr_24 : (vy_2 : Int32).toInt ≤ 400 := by
          have z_1 := congrArg Int32.toInt c_20
          have y_0 : (0 : Int32).toInt = 0 := by decide
          omega
        have rg_25 := rB_rg (n := (Mv 0)) h_bs (vy_2 : Int32).toInt.toNat
        have hn_26 : ¬ (97 ≤ rB (Mf 1) (Mv 0) (vy_2 : Int32).toInt.toNat ∧ rB (Mf 1) (Mv 0) (vy_2 : Int32).toInt.toNat ≤ 122) := by
          have z_1 := congrArg Int32.toInt c_20
          have y_0 : (0 : Int32).toInt = 0 := by decide
          omega
        exact retV hx hb hr hlk hP hD hS vy_2 ⟨rfl, ha_23, (Pw.of pf_7 pf_21), (PsR.of pf_8 h_nx.1 hr_24 hn_26)⟩ [0, 1] rfl rfl dX12_passWord_24 (Nat.le_of_ble_eq_true rfl) (Nat.le_of_ble_eq_true rfl) rfl
      · skip
        have hz_28 : (r_15 : Int32).toInt = 1 := by
          have z_1 : ¬ (r_15 : Int32).toInt = (0 : Int32).toInt := fun z => c_20 (Int32.toInt_inj.mp z)
          have y_0 : (0 : Int32).toInt = 0 := by decide
          omega
        obtain pf_27 := hm_18 hz_28
        have pf_27 : Ltr (Mf 1) (Mv 0) vy_2 := pf_27
        have ar_pf_27 := pf_27.1
        have at_pf_27 : 97 ≤ ((Mf 1) (vy_2 : Int32).toInt.toNat).toInt ∧ ((Mf 1) (vy_2 : Int32).toInt.toNat).toInt ≤ 122 := pf_27.2
        refine lv_aload_n hx hb dX12_passWord_11 rfl (lv_at hl 0 rfl) ?_
        refine lv_dup hx hb dX12_passWord_12 rfl ?_
        refine gf_X12_87 hx hb hts hown hK hP 0 rfl rfl dX12_passWord_13 ?_
        refine lv_iconst (v := 1) hx hb dX12_passWord_16 (by decide) ?_
        refine lv_iadd hx hb dX12_passWord_17 ?_
        refine lv_topi (fun x_29 ex_29 => ?_)
        refine pf_X12_87 hx hb hts hown hK hP hD hS 0 rfl (Nat.le_of_ble_eq_true rfl) rfl rfl dX12_passWord_18 (fun H locs hP₀ hD₀ hS₀ => ?_)
        replace hP : va_P D classes [((Ma 0), .inr (12, [.ref (Ma 1), .int (Mv 0), .int (Mv 1), .ref (Ma 2), .ref (Ma 3), .ref (Ma 4), .ref (Ma 5), .ref (Ma 6), .int x_29, .int (Mv 3), .int (Mv 4), .int (Mv 5), .int (Mv 6), .int (Mv 7), .int (Mv 8), .ref (Ma 7), .int (Mv 9), .ref (Ma 8), .int (Mv 10), .ref (Ma 9), .ref (Ma 10), .int (Mv 11), .int (Mv 12), .int (Mv 13), .ref (Ma 11), .int (Mv 14), .ref (Ma 12), .ref (Ma 13), .ref (Ma 14), .ref (Ma 15), .ref (Ma 16), .long (Mj 0), .ref (Ma 17), .ref (Ma 18), .ref (Ma 19), .ref (Ma 20)])), ((Ma 1), .inl (tc 2, 400, .inl (Mf 1)))] H := hP₀
        replace hD : va_D A [((Ma 0), .inr (12, [.ref (Ma 1), .int (Mv 0), .int (Mv 1), .ref (Ma 2), .ref (Ma 3), .ref (Ma 4), .ref (Ma 5), .ref (Ma 6), .int x_29, .int (Mv 3), .int (Mv 4), .int (Mv 5), .int (Mv 6), .int (Mv 7), .int (Mv 8), .ref (Ma 7), .int (Mv 9), .ref (Ma 8), .int (Mv 10), .ref (Ma 9), .ref (Ma 10), .int (Mv 11), .int (Mv 12), .int (Mv 13), .ref (Ma 11), .int (Mv 14), .ref (Ma 12), .ref (Ma 13), .ref (Ma 14), .ref (Ma 15), .ref (Ma 16), .long (Mj 0), .ref (Ma 17), .ref (Ma 18), .ref (Ma 19), .ref (Ma 20)])), ((Ma 1), .inl (tc 2, 400, .inl (Mf 1)))] := hD₀
        replace hS := hS₀
        clear hP₀ hD₀ hS₀
        have tp_x_29 : (x_29 : Int32).toInt = (vy_2 : Int32).toInt + 1 := by
          have z_1 : ¬ (r_15 : Int32).toInt = (0 : Int32).toInt := fun z => c_20 (Int32.toInt_inj.mp z)
          have y_0 : (0 : Int32).toInt = 0 := by decide
          have y_1 : (1 : Int32).toInt = 1 := by decide
          have t_x_29 : x_29.toInt = (vy_2 : Int32).toInt + (1 : Int32).toInt := by rw [ex_29]; exact add_toInt (by omega) (by omega)
          omega
        refine lv_goto (tgt := 0) hx hb dX12_passWord_21 (by decide) ?_
        have hb_30 : 400 - (x_29 : Int32).toInt < 400 - (vy_2 : Int32).toInt ∧ 1 ≤ 400 - (vy_2 : Int32).toInt := by
          have z_1 : ¬ (r_15 : Int32).toInt = (0 : Int32).toInt := fun z => c_20 (Int32.toInt_inj.mp z)
          have y_0 : (0 : Int32).toInt = 0 := by decide
          have y_1 : (1 : Int32).toInt = 1 := by decide
          have t_x_29 : x_29.toInt = (vy_2 : Int32).toInt + (1 : Int32).toInt := by rw [ex_29]; exact add_toInt (by omega) (by omega)
          omega
        have ha_31 : (Mv 2).toInt ≤ (x_29 : Int32).toInt ∧ (x_29 : Int32).toInt ≤ (Mv 0).toInt := by
          have z_1 : ¬ (r_15 : Int32).toInt = (0 : Int32).toInt := fun z => c_20 (Int32.toInt_inj.mp z)
          have y_0 : (0 : Int32).toInt = 0 := by decide
          have y_1 : (1 : Int32).toInt = 1 := by decide
          have t_x_29 : x_29.toInt = (vy_2 : Int32).toInt + (1 : Int32).toInt := by rw [ex_29]; exact add_toInt (by omega) (by omega)
          omega
        have hr_33 : ((Mv 2) : Int32).toInt + 1 ≤ (x_29 : Int32).toInt := by
          have z_1 : ¬ (r_15 : Int32).toInt = (0 : Int32).toInt := fun z => c_20 (Int32.toInt_inj.mp z)
          have y_0 : (0 : Int32).toInt = 0 := by decide
          have y_1 : (1 : Int32).toInt = 1 := by decide
          have t_x_29 : x_29.toInt = (vy_2 : Int32).toInt + (1 : Int32).toInt := by rw [ex_29]; exact add_toInt (by omega) (by omega)
          omega
        have ha_32 : Adv (Mv 2) x_29 := Or.inr hr_33
        have hk_34 : ((Mf 1) (vy_2 : Int32).toInt.toNat).toInt = ((Mf 1) (vy_2 : Int32).toInt.toNat).toInt := congrArg (fun z => ((Mf 1) z).toInt) (by
          have z_1 : ¬ (r_15 : Int32).toInt = (0 : Int32).toInt := fun z => c_20 (Int32.toInt_inj.mp z)
          have y_0 : (0 : Int32).toInt = 0 := by decide
          omega)
        have rg_35 := rB_rg (n := (Mv 0)) h_bs (vy_2 : Int32).toInt.toNat
        have hb_36 : pz_isL (rB (Mf 1) (Mv 0) (vy_2 : Int32).toInt.toNat) = true := decide_eq_true (by
          have z_1 : ¬ (r_15 : Int32).toInt = (0 : Int32).toInt := fun z => c_20 (Int32.toInt_inj.mp z)
          have y_0 : (0 : Int32).toInt = 0 := by decide
          omega)
        have hq_37 : (x_29 : Int32).toInt = (vy_2 : Int32).toInt + 1 := by
          have z_1 : ¬ (r_15 : Int32).toInt = (0 : Int32).toInt := fun z => c_20 (Int32.toInt_inj.mp z)
          have y_0 : (0 : Int32).toInt = 0 := by decide
          have y_1 : (1 : Int32).toInt = 1 := by decide
          have t_x_29 : x_29.toInt = (vy_2 : Int32).toInt + (1 : Int32).toInt := by rw [ex_29]; exact add_toInt (by omega) (by omega)
          omega
        have hr_38 : 0 ≤ (vy_2 : Int32).toInt := by
          have z_1 : ¬ (r_15 : Int32).toInt = (0 : Int32).toInt := fun z => c_20 (Int32.toInt_inj.mp z)
          have y_0 : (0 : Int32).toInt = 0 := by decide
          omega
        exact ih_4 x_29 _ _ _ (by omega) ha_31 ha_32 (RnB.st pf_8 hr_38 hb_36 hq_37) (hP.sub [0, 1] rfl) (hD.sub [0, 1] rfl rfl) hS (lv_sub hl [0] rfl)
  have ha_39 : (Mv 2).toInt ≤ ((Mv 2) : Int32).toInt ∧ ((Mv 2) : Int32).toInt ≤ (Mv 0).toInt := by
    omega
  have ha_40 : Adv (Mv 2) (Mv 2) := Or.inl rfl
  exact loop_5 _ (Mv 2) _ _ _ (Nat.lt_succ_self _) ha_39 ha_40 (RnB.rf) hP hD hS hl
set_option maxRecDepth 100000 in
theorem cu_fX12_passWord (l : Launch) (D : va_G) (tc : Nat → ClassId) (sk : (Nat → Nat) × (Nat → Nat)) (Ma_0 : Nat) (Ma_1 : Nat) (Ma_2 : Nat) (Ma_3 : Nat) (Ma_4 : Nat) (Ma_5 : Nat) (Ma_6 : Nat) (Ma_7 : Nat) (Ma_8 : Nat) (Ma_9 : Nat) (Ma_10 : Nat) (Ma_11 : Nat) (Ma_12 : Nat) (Ma_13 : Nat) (Ma_14 : Nat) (Ma_15 : Nat) (Ma_16 : Nat) (Ma_17 : Nat) (Ma_18 : Nat) (Ma_19 : Nat) (Ma_20 : Nat) (Mv_0 : Int32) (Mv_1 : Int32) (Mv_2 : Int32) (Mv_3 : Int32) (Mv_4 : Int32) (Mv_5 : Int32) (Mv_6 : Int32) (Mv_7 : Int32) (Mv_8 : Int32) (Mv_9 : Int32) (Mv_10 : Int32) (Mv_11 : Int32) (Mv_12 : Int32) (Mv_13 : Int32) (Mv_14 : Int32) (Mf_1 : Nat → Int32) (Mj_0 : Int64) (h_nx : 0 ≤ (Mv_2 : Int32).toInt ∧ (Mv_2 : Int32).toInt ≤ (Mv_0 : Int32).toInt ∧ (Mv_0 : Int32).toInt ≤ 400) (h_bs : ByS Mf_1) : Ct l yX12_passWord cX12_passWord 1 none { frames := 1, cells := 0, slots := 0, locals := 21 } D tc sk [.ref Ma_0] [(Ma_0, .inr (12, [.ref Ma_1, .int Mv_0, .int Mv_1, .ref Ma_2, .ref Ma_3, .ref Ma_4, .ref Ma_5, .ref Ma_6, .int Mv_2, .int Mv_3, .int Mv_4, .int Mv_5, .int Mv_6, .int Mv_7, .int Mv_8, .ref Ma_7, .int Mv_9, .ref Ma_8, .int Mv_10, .ref Ma_9, .ref Ma_10, .int Mv_11, .int Mv_12, .int Mv_13, .ref Ma_11, .int Mv_14, .ref Ma_12, .ref Ma_13, .ref Ma_14, .ref Ma_15, .ref Ma_16, .long Mj_0, .ref Ma_17, .ref Ma_18, .ref Ma_19, .ref Ma_20])), (Ma_1, .inl (tc 2, 400, .inl Mf_1))] (fun (v : Option Value) (oo0x1 : Int32) => v = none ∧ ((Mv_2 : Int32).toInt ≤ (oo0x1 : Int32).toInt ∧ (oo0x1 : Int32).toInt ≤ (Mv_0 : Int32).toInt) ∧ (Pw Mf_1 Mv_0 Mv_2 oo0x1) ∧ (PsR (rB Mf_1 Mv_0) Mv_2 oo0x1)) (fun (oo0x1 : Int32) => [(Ma_0, .inr (12, [.ref Ma_1, .int Mv_0, .int Mv_1, .ref Ma_2, .ref Ma_3, .ref Ma_4, .ref Ma_5, .ref Ma_6, .int oo0x1, .int Mv_3, .int Mv_4, .int Mv_5, .int Mv_6, .int Mv_7, .int Mv_8, .ref Ma_7, .int Mv_9, .ref Ma_8, .int Mv_10, .ref Ma_9, .ref Ma_10, .int Mv_11, .int Mv_12, .int Mv_13, .ref Ma_11, .int Mv_14, .ref Ma_12, .ref Ma_13, .ref Ma_14, .ref Ma_15, .ref Ma_16, .long Mj_0, .ref Ma_17, .ref Ma_18, .ref Ma_19, .ref Ma_20])), (Ma_1, .inl (tc 2, 400, .inl Mf_1))]) 0 0 :=
  ct_fX12_passWord l D tc sk (fun k => ([Ma_0, Ma_1, Ma_2, Ma_3, Ma_4, Ma_5, Ma_6, Ma_7, Ma_8, Ma_9, Ma_10, Ma_11, Ma_12, Ma_13, Ma_14, Ma_15, Ma_16, Ma_17, Ma_18, Ma_19, Ma_20] : List (Nat)).getD k 0) (fun k => ([Mv_0, Mv_1, Mv_2, Mv_3, Mv_4, Mv_5, Mv_6, Mv_7, Mv_8, Mv_9, Mv_10, Mv_11, Mv_12, Mv_13, Mv_14] : List (Int32)).getD k 0) (fun k => ([(fun _ => 0), Mf_1] : List (Nat → Int32)).getD k (fun _ => 0)) (fun k => ([Mj_0] : List (Int64)).getD k 0) h_nx h_bs
set_option maxHeartbeats 4000000 in
set_option maxRecDepth 100000 in
theorem ct_fX12_fails (l : Launch) (D : va_G) (tc : Nat → ClassId) (sk : (Nat → Nat) × (Nat → Nat)) (Ma : Nat → Nat) (Mv : Nat → Int32) (Mj : Nat → Int64) (x1 : Int32) (x2 : Int32) (h_k : 0 ≤ x1.toInt ∧ x1.toInt ≤ 4) (h_a : 0 ≤ x2.toInt ∧ x2.toInt ≤ 400) (h_w : ((Mv 3) : Int32).toInt = 0) : Ct l yX12_fails cX12_fails 3 (some .boolean) { frames := 0, cells := 0, slots := 0, locals := 0 } D tc sk [.ref (Ma 0), .int x1, .int x2] [((Ma 0), .inr (12, [.ref (Ma 1), .int (Mv 0), .int (Mv 1), .ref (Ma 2), .ref (Ma 3), .ref (Ma 4), .ref (Ma 5), .ref (Ma 6), .int (Mv 2), .int (Mv 3), .int (Mv 4), .int (Mv 5), .int (Mv 6), .int (Mv 7), .int (Mv 8), .ref (Ma 7), .int (Mv 9), .ref (Ma 8), .int (Mv 10), .ref (Ma 9), .ref (Ma 10), .int (Mv 11), .int (Mv 12), .int (Mv 13), .ref (Ma 11), .int (Mv 14), .ref (Ma 12), .ref (Ma 13), .ref (Ma 14), .ref (Ma 15), .ref (Ma 16), .long (Mj 0), .ref (Ma 17), .ref (Ma 18), .ref (Ma 19), .ref (Ma 20)]))] (fun (v : Option Value) (oo0x1 : Int32) => ∃ r : Int32, v = some (.int r) ∧ (r.toInt = 0) ∧ (¬ (oo0x1 : Int32).toInt = 0) ∧ ((oo0x1 : Int32).toInt = 1 + 8 * x2.toInt + x1.toInt)) (fun (oo0x1 : Int32) => [((Ma 0), .inr (12, [.ref (Ma 1), .int (Mv 0), .int (Mv 1), .ref (Ma 2), .ref (Ma 3), .ref (Ma 4), .ref (Ma 5), .ref (Ma 6), .int (Mv 2), .int oo0x1, .int (Mv 4), .int (Mv 5), .int (Mv 6), .int (Mv 7), .int (Mv 8), .ref (Ma 7), .int (Mv 9), .ref (Ma 8), .int (Mv 10), .ref (Ma 9), .ref (Ma 10), .int (Mv 11), .int (Mv 12), .int (Mv 13), .ref (Ma 11), .int (Mv 14), .ref (Ma 12), .ref (Ma 13), .ref (Ma 14), .ref (Ma 15), .ref (Ma 16), .long (Mj 0), .ref (Ma 17), .ref (Ma 18), .ref (Ma 19), .ref (Ma 20)]))]) 0 0 := by
  refine Ct.start (by decide) (Nat.le_of_ble_eq_true rfl) (fun p e s m below meth c A ls hx hb hr hlk hin hml hown hts hK hX hP hD hA hl hS => ?_)
  have hl : lv_has ls 3 [(0, .ref (Ma 0)), (1, .int x1), (2, .int x2)] := hl
  refine lv_aload_n hx hb dX12_fails_0 rfl (lv_at hl 0 rfl) ?_
  refine gf_X12_84 hx hb hts hown hK hP 0 rfl rfl dX12_fails_1 ?_
  refine lv_if_ne (tgt := 19) hx hb dX12_fails_4 (by decide) (fun c_1 => ?_) (fun c_1 => ?_)
  · skip
    refine lv_iconst (v := 0) hx hb dX12_fails_19 (by decide) ?_
    have ha_2 : ¬ ((Mv 3) : Int32).toInt = 0 := by
      have z_1 : ¬ ((Mv 3) : Int32).toInt = (0 : Int32).toInt := fun z => c_1 (Int32.toInt_inj.mp z)
      have y_0 : (0 : Int32).toInt = 0 := by decide
      omega
    have ha_3 : ((Mv 3) : Int32).toInt = 1 + 8 * x2.toInt + x1.toInt := by
      have z_1 : ¬ ((Mv 3) : Int32).toInt = (0 : Int32).toInt := fun z => c_1 (Int32.toInt_inj.mp z)
      have y_0 : (0 : Int32).toInt = 0 := by decide
      omega
    have hp_4 : (0 : Int32).toInt = 0 := by
      have z_1 : ¬ ((Mv 3) : Int32).toInt = (0 : Int32).toInt := fun z => c_1 (Int32.toInt_inj.mp z)
      have y_0 : (0 : Int32).toInt = 0 := by decide
      omega
    exact retI (v := 0) hx hb hr hlk (rfl) hP hD hS (Mv 3) ⟨_, rfl, hp_4, ha_2, ha_3⟩ [0] rfl rfl dX12_fails_20 (Nat.le_of_ble_eq_true rfl) (Nat.le_of_ble_eq_true rfl) rfl
  · skip
    refine lv_aload_n hx hb dX12_fails_7 rfl (lv_at hl 0 rfl) ?_
    refine lv_iconst (v := 1) hx hb dX12_fails_8 (by decide) ?_
    refine lv_bipush (v := 8) hx hb dX12_fails_9 (by decide) ?_
    refine lv_iload_n hx hb dX12_fails_11 rfl (lv_at hl 2 rfl) ?_
    refine lv_imul hx hb dX12_fails_12 ?_
    refine lv_topi (fun x_5 ex_5 => ?_)
    refine lv_iadd hx hb dX12_fails_13 ?_
    refine lv_topi (fun x_6 ex_6 => ?_)
    refine lv_iload_n hx hb dX12_fails_14 rfl (lv_at hl 1 rfl) ?_
    refine lv_iadd hx hb dX12_fails_15 ?_
    refine lv_topi (fun x_7 ex_7 => ?_)
    refine pf_X12_84 hx hb hts hown hK hP hD hS 0 rfl (Nat.le_of_ble_eq_true rfl) rfl rfl dX12_fails_16 (fun H locs hP₀ hD₀ hS₀ => ?_)
    replace hP : va_P D classes [((Ma 0), .inr (12, [.ref (Ma 1), .int (Mv 0), .int (Mv 1), .ref (Ma 2), .ref (Ma 3), .ref (Ma 4), .ref (Ma 5), .ref (Ma 6), .int (Mv 2), .int x_7, .int (Mv 4), .int (Mv 5), .int (Mv 6), .int (Mv 7), .int (Mv 8), .ref (Ma 7), .int (Mv 9), .ref (Ma 8), .int (Mv 10), .ref (Ma 9), .ref (Ma 10), .int (Mv 11), .int (Mv 12), .int (Mv 13), .ref (Ma 11), .int (Mv 14), .ref (Ma 12), .ref (Ma 13), .ref (Ma 14), .ref (Ma 15), .ref (Ma 16), .long (Mj 0), .ref (Ma 17), .ref (Ma 18), .ref (Ma 19), .ref (Ma 20)]))] H := hP₀
    replace hD : va_D A [((Ma 0), .inr (12, [.ref (Ma 1), .int (Mv 0), .int (Mv 1), .ref (Ma 2), .ref (Ma 3), .ref (Ma 4), .ref (Ma 5), .ref (Ma 6), .int (Mv 2), .int x_7, .int (Mv 4), .int (Mv 5), .int (Mv 6), .int (Mv 7), .int (Mv 8), .ref (Ma 7), .int (Mv 9), .ref (Ma 8), .int (Mv 10), .ref (Ma 9), .ref (Ma 10), .int (Mv 11), .int (Mv 12), .int (Mv 13), .ref (Ma 11), .int (Mv 14), .ref (Ma 12), .ref (Ma 13), .ref (Ma 14), .ref (Ma 15), .ref (Ma 16), .long (Mj 0), .ref (Ma 17), .ref (Ma 18), .ref (Ma 19), .ref (Ma 20)]))] := hD₀
    replace hS := hS₀
    clear hP₀ hD₀ hS₀
    refine lv_iconst (v := 0) hx hb dX12_fails_19 (by decide) ?_
    have ha_8 : ¬ (x_7 : Int32).toInt = 0 := by
      have z_1 := congrArg Int32.toInt c_1
      have y_0 : (0 : Int32).toInt = 0 := by decide
      have y_1 : (1 : Int32).toInt = 1 := by decide
      have y_8 : (8 : Int32).toInt = 8 := by decide
      have t_x_5 : x_5.toInt = (8 : Int32).toInt * (x2 : Int32).toInt := by rw [ex_5]; exact mul_toInt (by first | omega | (rw [y_8]; omega)) (by first | omega | (rw [y_8]; omega))
      rw [y_8] at t_x_5
      have t_x_6 : x_6.toInt = (1 : Int32).toInt + (x_5 : Int32).toInt := by rw [ex_6]; exact add_toInt (by omega) (by omega)
      have t_x_7 : x_7.toInt = (x_6 : Int32).toInt + (x1 : Int32).toInt := by rw [ex_7]; exact add_toInt (by omega) (by omega)
      omega
    have ha_9 : (x_7 : Int32).toInt = 1 + 8 * x2.toInt + x1.toInt := by
      have z_1 := congrArg Int32.toInt c_1
      have y_0 : (0 : Int32).toInt = 0 := by decide
      have y_1 : (1 : Int32).toInt = 1 := by decide
      have y_8 : (8 : Int32).toInt = 8 := by decide
      have t_x_5 : x_5.toInt = (8 : Int32).toInt * (x2 : Int32).toInt := by rw [ex_5]; exact mul_toInt (by first | omega | (rw [y_8]; omega)) (by first | omega | (rw [y_8]; omega))
      rw [y_8] at t_x_5
      have t_x_6 : x_6.toInt = (1 : Int32).toInt + (x_5 : Int32).toInt := by rw [ex_6]; exact add_toInt (by omega) (by omega)
      have t_x_7 : x_7.toInt = (x_6 : Int32).toInt + (x1 : Int32).toInt := by rw [ex_7]; exact add_toInt (by omega) (by omega)
      omega
    have hp_10 : (0 : Int32).toInt = 0 := by
      have z_1 := congrArg Int32.toInt c_1
      have y_0 : (0 : Int32).toInt = 0 := by decide
      omega
    exact retI (v := 0) hx hb hr hlk (rfl) hP hD hS x_7 ⟨_, rfl, hp_10, ha_8, ha_9⟩ [0] rfl rfl dX12_fails_20 (Nat.le_of_ble_eq_true rfl) (Nat.le_of_ble_eq_true rfl) rfl
set_option maxRecDepth 100000 in
theorem cu_fX12_fails (l : Launch) (D : va_G) (tc : Nat → ClassId) (sk : (Nat → Nat) × (Nat → Nat)) (Ma_0 : Nat) (Ma_1 : Nat) (Ma_2 : Nat) (Ma_3 : Nat) (Ma_4 : Nat) (Ma_5 : Nat) (Ma_6 : Nat) (Ma_7 : Nat) (Ma_8 : Nat) (Ma_9 : Nat) (Ma_10 : Nat) (Ma_11 : Nat) (Ma_12 : Nat) (Ma_13 : Nat) (Ma_14 : Nat) (Ma_15 : Nat) (Ma_16 : Nat) (Ma_17 : Nat) (Ma_18 : Nat) (Ma_19 : Nat) (Ma_20 : Nat) (Mv_0 : Int32) (Mv_1 : Int32) (Mv_2 : Int32) (Mv_3 : Int32) (Mv_4 : Int32) (Mv_5 : Int32) (Mv_6 : Int32) (Mv_7 : Int32) (Mv_8 : Int32) (Mv_9 : Int32) (Mv_10 : Int32) (Mv_11 : Int32) (Mv_12 : Int32) (Mv_13 : Int32) (Mv_14 : Int32) (Mj_0 : Int64) (x1 : Int32) (x2 : Int32) (h_k : 0 ≤ x1.toInt ∧ x1.toInt ≤ 4) (h_a : 0 ≤ x2.toInt ∧ x2.toInt ≤ 400) (h_w : (Mv_3 : Int32).toInt = 0) : Ct l yX12_fails cX12_fails 3 (some .boolean) { frames := 0, cells := 0, slots := 0, locals := 0 } D tc sk [.ref Ma_0, .int x1, .int x2] [(Ma_0, .inr (12, [.ref Ma_1, .int Mv_0, .int Mv_1, .ref Ma_2, .ref Ma_3, .ref Ma_4, .ref Ma_5, .ref Ma_6, .int Mv_2, .int Mv_3, .int Mv_4, .int Mv_5, .int Mv_6, .int Mv_7, .int Mv_8, .ref Ma_7, .int Mv_9, .ref Ma_8, .int Mv_10, .ref Ma_9, .ref Ma_10, .int Mv_11, .int Mv_12, .int Mv_13, .ref Ma_11, .int Mv_14, .ref Ma_12, .ref Ma_13, .ref Ma_14, .ref Ma_15, .ref Ma_16, .long Mj_0, .ref Ma_17, .ref Ma_18, .ref Ma_19, .ref Ma_20]))] (fun (v : Option Value) (oo0x1 : Int32) => ∃ r : Int32, v = some (.int r) ∧ (r.toInt = 0) ∧ (¬ (oo0x1 : Int32).toInt = 0) ∧ ((oo0x1 : Int32).toInt = 1 + 8 * x2.toInt + x1.toInt)) (fun (oo0x1 : Int32) => [(Ma_0, .inr (12, [.ref Ma_1, .int Mv_0, .int Mv_1, .ref Ma_2, .ref Ma_3, .ref Ma_4, .ref Ma_5, .ref Ma_6, .int Mv_2, .int oo0x1, .int Mv_4, .int Mv_5, .int Mv_6, .int Mv_7, .int Mv_8, .ref Ma_7, .int Mv_9, .ref Ma_8, .int Mv_10, .ref Ma_9, .ref Ma_10, .int Mv_11, .int Mv_12, .int Mv_13, .ref Ma_11, .int Mv_14, .ref Ma_12, .ref Ma_13, .ref Ma_14, .ref Ma_15, .ref Ma_16, .long Mj_0, .ref Ma_17, .ref Ma_18, .ref Ma_19, .ref Ma_20]))]) 0 0 :=
  ct_fX12_fails l D tc sk (fun k => ([Ma_0, Ma_1, Ma_2, Ma_3, Ma_4, Ma_5, Ma_6, Ma_7, Ma_8, Ma_9, Ma_10, Ma_11, Ma_12, Ma_13, Ma_14, Ma_15, Ma_16, Ma_17, Ma_18, Ma_19, Ma_20] : List (Nat)).getD k 0) (fun k => ([Mv_0, Mv_1, Mv_2, Mv_3, Mv_4, Mv_5, Mv_6, Mv_7, Mv_8, Mv_9, Mv_10, Mv_11, Mv_12, Mv_13, Mv_14] : List (Int32)).getD k 0) (fun k => ([Mj_0] : List (Int64)).getD k 0) x1 x2 h_k h_a h_w
set_option maxHeartbeats 4000000 in
set_option maxRecDepth 100000 in
theorem ct_fX12_numberHere (l : Launch) (D : va_G) (tc : Nat → ClassId) (sk : (Nat → Nat) × (Nat → Nat)) (Ma : Nat → Nat) (Mv : Nat → Int32) (Mf : Nat → Nat → Int32) (Mj : Nat → Int64) (x1 : Int32) (x2 : Int32) (h_nx : 0 ≤ ((Mv 2) : Int32).toInt ∧ ((Mv 2) : Int32).toInt ≤ ((Mv 0) : Int32).toInt ∧ ((Mv 0) : Int32).toInt ≤ 400) (h_bs : ByS (Mf 1)) (h_w : ((Mv 3) : Int32).toInt = 0) : Ct l yX12_numberHere cX12_numberHere 5 (some .boolean) { frames := 1, cells := 0, slots := 0, locals := 25 } D tc sk [.ref (Ma 0), .int x1, .int x2] [((Ma 0), .inr (12, [.ref (Ma 1), .int (Mv 0), .int (Mv 1), .ref (Ma 2), .ref (Ma 3), .ref (Ma 4), .ref (Ma 5), .ref (Ma 6), .int (Mv 2), .int (Mv 3), .int (Mv 4), .int (Mv 5), .int (Mv 6), .int (Mv 7), .int (Mv 8), .ref (Ma 7), .int (Mv 9), .ref (Ma 8), .int (Mv 10), .ref (Ma 9), .ref (Ma 10), .int (Mv 11), .int (Mv 12), .int (Mv 13), .ref (Ma 11), .int (Mv 14), .ref (Ma 12), .ref (Ma 13), .ref (Ma 14), .ref (Ma 15), .ref (Ma 16), .long (Mj 0), .ref (Ma 17), .ref (Ma 18), .ref (Ma 19), .ref (Ma 20)])), ((Ma 1), .inl (tc 2, 400, .inl (Mf 1)))] (fun (v : Option Value) (u : (Int32) × (Int32) × (Int32)) => match u with | (oo0x1, oo0x2, oo0x3) => ∃ r : Int32, v = some (.int r) ∧ (((r.toInt = 0 ∧ ¬ (oo0x2 : Int32).toInt = 0) ∨ (r.toInt = 1 ∧ x1.toInt ≤ (oo0x3 : Int32).toInt ∧ (oo0x3 : Int32).toInt ≤ x2.toInt ∧ (Mv 2).toInt + 1 ≤ (oo0x1 : Int32).toInt))) ∧ (((Mv 2) : Int32).toInt ≤ (oo0x1 : Int32).toInt ∧ (oo0x1 : Int32).toInt ≤ ((Mv 0) : Int32).toInt) ∧ (r.toInt = 1 → (NmO (rB (Mf 1) (Mv 0)) x1.toInt x2.toInt (Mv 2) oo0x3 oo0x1 oo0x2)) ∧ (r.toInt = 0 → (NmE (rB (Mf 1) (Mv 0)) x1.toInt x2.toInt (Mv 2) oo0x2))) (fun (u : (Int32) × (Int32) × (Int32)) => match u with | (oo0x1, oo0x2, oo0x3) => [((Ma 0), .inr (12, [.ref (Ma 1), .int (Mv 0), .int (Mv 1), .ref (Ma 2), .ref (Ma 3), .ref (Ma 4), .ref (Ma 5), .ref (Ma 6), .int oo0x1, .int oo0x2, .int oo0x3, .int (Mv 5), .int (Mv 6), .int (Mv 7), .int (Mv 8), .ref (Ma 7), .int (Mv 9), .ref (Ma 8), .int (Mv 10), .ref (Ma 9), .ref (Ma 10), .int (Mv 11), .int (Mv 12), .int (Mv 13), .ref (Ma 11), .int (Mv 14), .ref (Ma 12), .ref (Ma 13), .ref (Ma 14), .ref (Ma 15), .ref (Ma 16), .long (Mj 0), .ref (Ma 17), .ref (Ma 18), .ref (Ma 19), .ref (Ma 20)])), ((Ma 1), .inl (tc 2, 400, .inl (Mf 1)))]) 0 0 := by
  refine Ct.start (by decide) (Nat.le_of_ble_eq_true rfl) (fun p e s m below meth c A ls hx hb hr hlk hin hml hown hts hK hX hP hD hA hl hS => ?_)
  have hl : lv_has ls 5 [(0, .ref (Ma 0)), (1, .int x1), (2, .int x2)] := hl
  refine lv_aload_n hx hb dX12_numberHere_0 rfl (lv_at hl 0 rfl) ?_
  refine cV (a := (Ma 0)) (As := []) (rest := []) (wr := []) ⟨hx, hb, hml, hown, hts⟩ hK hX hA (cu_fX12_see l D tc sk (Ma 0) (Ma 1) (Ma 2) (Ma 3) (Ma 4) (Ma 5) (Ma 6) (Ma 7) (Ma 8) (Ma 9) (Ma 10) (Ma 11) (Ma 12) (Ma 13) (Ma 14) (Ma 15) (Ma 16) (Ma 17) (Ma 18) (Ma 19) (Ma 20) (Mv 0) (Mv 1) (Mv 2) (Mv 3) (Mv 4) (Mv 5) (Mv 6) (Mv 7) (Mv 8) (Mv 9) (Mv 10) (Mv 11) (Mv 12) (Mv 13) (Mv 14) (Mf 1) (Mj 0) h_nx h_bs) k_1211 k_1208 k_1210 k_27 k_106 pl_X12_see ⟨Nat.le_of_ble_eq_true rfl, Nat.le_of_ble_eq_true rfl⟩ rfl rfl (va_recv hK hP (ci := 12) (q0 := 0) rfl rfl) hP hD hS [0, 1] [] rfl rfl rfl rfl rfl (by decide) rfl hl.1 rfl (Nat.le_of_ble_eq_true rfl) dX12_numberHere_1 ⟨Nat.le_of_ble_eq_true rfl, Nat.le_of_ble_eq_true rfl⟩ (fun v_1 u_2 H locs hv_3 hP₀ hD₀ hS₀ => ?_)
  obtain ⟨sv_4, rfl⟩ : ∃ z, z = u_2 := ⟨_, rfl⟩
  obtain ⟨r_9, rfl, he_10, pf_5, pf_6, pf_7, pf_8⟩ := hv_3
  have he_10 : (r_9.toInt = rB (Mf 1) (Mv 0) (sv_4 : Int32).toInt.toNat ∧ (r_9.toInt = -1 ∨ (sv_4 : Int32).toInt < (Mv 0).toInt)) := he_10
  have pf_5 : ((Mv 2) : Int32).toInt ≤ (sv_4 : Int32).toInt ∧ (sv_4 : Int32).toInt ≤ ((Mv 0) : Int32).toInt := pf_5
  have pf_6 : NSq (Mf 1) (Mv 0) sv_4 := pf_6
  have pf_7 : Stl (Mf 1) (Mv 0) (Mv 2) sv_4 := pf_7
  have pf_8 : SkR (rB (Mf 1) (Mv 0)) (Mv 2) sv_4 := pf_8
  refine W.eq (g2 := F0 m 4 ls [.int r_9]) rfl ?_
  replace hP : va_P D classes [((Ma 0), .inr (12, [.ref (Ma 1), .int (Mv 0), .int (Mv 1), .ref (Ma 2), .ref (Ma 3), .ref (Ma 4), .ref (Ma 5), .ref (Ma 6), .int sv_4, .int (Mv 3), .int (Mv 4), .int (Mv 5), .int (Mv 6), .int (Mv 7), .int (Mv 8), .ref (Ma 7), .int (Mv 9), .ref (Ma 8), .int (Mv 10), .ref (Ma 9), .ref (Ma 10), .int (Mv 11), .int (Mv 12), .int (Mv 13), .ref (Ma 11), .int (Mv 14), .ref (Ma 12), .ref (Ma 13), .ref (Ma 14), .ref (Ma 15), .ref (Ma 16), .long (Mj 0), .ref (Ma 17), .ref (Ma 18), .ref (Ma 19), .ref (Ma 20)])), ((Ma 1), .inl (tc 2, 400, .inl (Mf 1)))] H := hP₀
  replace hD : va_D A [((Ma 0), .inr (12, [.ref (Ma 1), .int (Mv 0), .int (Mv 1), .ref (Ma 2), .ref (Ma 3), .ref (Ma 4), .ref (Ma 5), .ref (Ma 6), .int sv_4, .int (Mv 3), .int (Mv 4), .int (Mv 5), .int (Mv 6), .int (Mv 7), .int (Mv 8), .ref (Ma 7), .int (Mv 9), .ref (Ma 8), .int (Mv 10), .ref (Ma 9), .ref (Ma 10), .int (Mv 11), .int (Mv 12), .int (Mv 13), .ref (Ma 11), .int (Mv 14), .ref (Ma 12), .ref (Ma 13), .ref (Ma 14), .ref (Ma 15), .ref (Ma 16), .long (Mj 0), .ref (Ma 17), .ref (Ma 18), .ref (Ma 19), .ref (Ma 20)])), ((Ma 1), .inl (tc 2, 400, .inl (Mf 1)))] := hD₀
  replace hS := hS₀
  clear hP₀ hD₀ hS₀
  refine lv_pop hx hb dX12_numberHere_4 rfl ?_
  refine lv_aload_n hx hb dX12_numberHere_5 rfl (lv_at hl 0 rfl) ?_
  refine lv_aload_n hx hb dX12_numberHere_6 rfl (lv_at hl 0 rfl) ?_
  refine gf_X12_87 hx hb hts hown hK hP 0 rfl rfl dX12_numberHere_7 ?_
  have ha_12 : 0 ≤ sv_4.toInt := by
    omega
  have ha_13 : (Mv 0).toInt ≤ 400 := by
    omega
  refine cV (a := (Ma 0)) (As := [.int sv_4]) (rest := []) (wr := []) ⟨hx, hb, hml, hown, hts⟩ hK hX hA (cu_X12_isDigit l D tc sk (Ma 0) (Ma 1) (Ma 2) (Ma 3) (Ma 4) (Ma 5) (Ma 6) (Ma 7) (Ma 8) (Ma 9) (Ma 10) (Ma 11) (Ma 12) (Ma 13) (Ma 14) (Ma 15) (Ma 16) (Ma 17) (Ma 18) (Ma 19) (Ma 20) (Mv 0) (Mv 1) sv_4 (Mv 3) (Mv 4) (Mv 5) (Mv 6) (Mv 7) (Mv 8) (Mv 9) (Mv 10) (Mv 11) (Mv 12) (Mv 13) (Mv 14) (Mf 1) (Mj 0) sv_4 ha_12 ha_13) k_1256 k_1253 k_1255 k_37 k_106 pl_X12_isDigit ⟨Nat.le_of_ble_eq_true rfl, Nat.le_of_ble_eq_true rfl⟩ rfl rfl (va_recv hK hP (ci := 12) (q0 := 0) rfl rfl) hP hD hS [0, 1] [] rfl rfl rfl rfl rfl (by decide) rfl hl.1 rfl (Nat.le_of_ble_eq_true rfl) dX12_numberHere_10 ⟨Nat.le_of_ble_eq_true rfl, Nat.le_of_ble_eq_true rfl⟩ (fun v_14 u_15 H locs hv_16 hP₀ hD₀ hS₀ => ?_)
  obtain ⟨r_17, rfl, he_18, hm_20, hm_21⟩ := hv_16
  have he_18 : (r_17.toInt = 0 ∨ r_17.toInt = 1) := he_18
  refine W.eq (g2 := F0 m 13 ls [.int r_17]) rfl ?_
  replace hP : va_P D classes [((Ma 0), .inr (12, [.ref (Ma 1), .int (Mv 0), .int (Mv 1), .ref (Ma 2), .ref (Ma 3), .ref (Ma 4), .ref (Ma 5), .ref (Ma 6), .int sv_4, .int (Mv 3), .int (Mv 4), .int (Mv 5), .int (Mv 6), .int (Mv 7), .int (Mv 8), .ref (Ma 7), .int (Mv 9), .ref (Ma 8), .int (Mv 10), .ref (Ma 9), .ref (Ma 10), .int (Mv 11), .int (Mv 12), .int (Mv 13), .ref (Ma 11), .int (Mv 14), .ref (Ma 12), .ref (Ma 13), .ref (Ma 14), .ref (Ma 15), .ref (Ma 16), .long (Mj 0), .ref (Ma 17), .ref (Ma 18), .ref (Ma 19), .ref (Ma 20)])), ((Ma 1), .inl (tc 2, 400, .inl (Mf 1)))] H := hP₀
  replace hD : va_D A [((Ma 0), .inr (12, [.ref (Ma 1), .int (Mv 0), .int (Mv 1), .ref (Ma 2), .ref (Ma 3), .ref (Ma 4), .ref (Ma 5), .ref (Ma 6), .int sv_4, .int (Mv 3), .int (Mv 4), .int (Mv 5), .int (Mv 6), .int (Mv 7), .int (Mv 8), .ref (Ma 7), .int (Mv 9), .ref (Ma 8), .int (Mv 10), .ref (Ma 9), .ref (Ma 10), .int (Mv 11), .int (Mv 12), .int (Mv 13), .ref (Ma 11), .int (Mv 14), .ref (Ma 12), .ref (Ma 13), .ref (Ma 14), .ref (Ma 15), .ref (Ma 16), .long (Mj 0), .ref (Ma 17), .ref (Ma 18), .ref (Ma 19), .ref (Ma 20)])), ((Ma 1), .inl (tc 2, 400, .inl (Mf 1)))] := hD₀
  replace hS := hS₀
  clear hP₀ hD₀ hS₀
  refine lv_if_ne (tgt := 26) hx hb dX12_numberHere_13 (by decide) (fun c_22 => ?_) (fun c_22 => ?_)
  · skip
    have hz_24 : (r_17 : Int32).toInt = 1 := by
      have z_1 : ¬ (r_17 : Int32).toInt = (0 : Int32).toInt := fun z => c_22 (Int32.toInt_inj.mp z)
      have y_0 : (0 : Int32).toInt = 0 := by decide
      omega
    obtain pf_23 := hm_20 hz_24
    have pf_23 : Dgt (Mf 1) (Mv 0) sv_4 := pf_23
    have ar_pf_23 := pf_23.1
    have at_pf_23 : 48 ≤ ((Mf 1) (sv_4 : Int32).toInt.toNat).toInt ∧ ((Mf 1) (sv_4 : Int32).toInt.toNat).toInt ≤ 57 := pf_23.2
    refine lv_aload_n hx hb dX12_numberHere_26 rfl (lv_at hl 0 rfl) ?_
    refine gf_X12_87 hx hb hts hown hK hP 0 rfl rfl dX12_numberHere_27 ?_
    refine lv_istore_n (lv' := [(3, .int sv_4), (0, .ref (Ma 0)), (1, .int x1), (2, .int x2)]) hx hb dX12_numberHere_30 rfl hl (by decide) rfl (fun ls hl₀ => ?_)
    replace hl := hl₀
    clear hl₀
    refine lv_iconst (v := 0) hx hb dX12_numberHere_31 (by decide) ?_
    refine lv_istore (lv' := [(4, .int 0), (3, .int sv_4), (0, .ref (Ma 0)), (1, .int x1), (2, .int x2)]) hx hb dX12_numberHere_32 hl (by decide) rfl (fun ls hl₀ => ?_)
    replace hl := hl₀
    clear hl₀
    have loop_31 : ∀ (n_29 : Nat) (vy_27 : Int32) (vy_28 : Int32) (H : Heap) (locs : List Loc) (ls : Array Slot), (400 - (vy_27 : Int32).toInt).toNat < n_29 → ((sv_4 : Int32).toInt ≤ (vy_27 : Int32).toInt ∧ (vy_27 : Int32).toInt ≤ (Mv 0).toInt) → (Adv sv_4 vy_27) → (RnB pz_isD (rB (Mf 1) (Mv 0)) (sv_4 : Int32).toInt (vy_27 : Int32).toInt) → (NvF (rB (Mf 1) (Mv 0)) sv_4 vy_28 vy_27) → va_P D classes [((Ma 0), .inr (12, [.ref (Ma 1), .int (Mv 0), .int (Mv 1), .ref (Ma 2), .ref (Ma 3), .ref (Ma 4), .ref (Ma 5), .ref (Ma 6), .int vy_27, .int (Mv 3), .int (Mv 4), .int (Mv 5), .int (Mv 6), .int (Mv 7), .int (Mv 8), .ref (Ma 7), .int (Mv 9), .ref (Ma 8), .int (Mv 10), .ref (Ma 9), .ref (Ma 10), .int (Mv 11), .int (Mv 12), .int (Mv 13), .ref (Ma 11), .int (Mv 14), .ref (Ma 12), .ref (Ma 13), .ref (Ma 14), .ref (Ma 15), .ref (Ma 16), .long (Mj 0), .ref (Ma 17), .ref (Ma 18), .ref (Ma 19), .ref (Ma 20)])), ((Ma 1), .inl (tc 2, 400, .inl (Mf 1)))] H → va_D A [((Ma 0), .inr (12, [.ref (Ma 1), .int (Mv 0), .int (Mv 1), .ref (Ma 2), .ref (Ma 3), .ref (Ma 4), .ref (Ma 5), .ref (Ma 6), .int vy_27, .int (Mv 3), .int (Mv 4), .int (Mv 5), .int (Mv 6), .int (Mv 7), .int (Mv 8), .ref (Ma 7), .int (Mv 9), .ref (Ma 8), .int (Mv 10), .ref (Ma 9), .ref (Ma 10), .int (Mv 11), .int (Mv 12), .int (Mv 13), .ref (Ma 11), .int (Mv 14), .ref (Ma 12), .ref (Ma 13), .ref (Ma 14), .ref (Ma 15), .ref (Ma 16), .long (Mj 0), .ref (Ma 17), .ref (Ma 18), .ref (Ma 19), .ref (Ma 20)])), ((Ma 1), .inl (tc 2, 400, .inl (Mf 1)))] → va_S A s.heap H locs → lv_has ls 5 [(4, .int vy_28), (3, .int sv_4), (0, .ref (Ma 0)), (1, .int x1), (2, .int x2)] → W p l e ({ frames := 1, cells := 0, slots := 0, locals := 25 }) s m ([.ref (Ma 0), .int x1, .int x2].toArray) below meth c H locs 0 0 (MQ below (QW (fun (v : Option Value) (u : (Int32) × (Int32) × (Int32)) => match u with | (oo0x1, oo0x2, oo0x3) => ∃ r : Int32, v = some (.int r) ∧ (((r.toInt = 0 ∧ ¬ (oo0x2 : Int32).toInt = 0) ∨ (r.toInt = 1 ∧ x1.toInt ≤ (oo0x3 : Int32).toInt ∧ (oo0x3 : Int32).toInt ≤ x2.toInt ∧ (Mv 2).toInt + 1 ≤ (oo0x1 : Int32).toInt))) ∧ (((Mv 2) : Int32).toInt ≤ (oo0x1 : Int32).toInt ∧ (oo0x1 : Int32).toInt ≤ ((Mv 0) : Int32).toInt) ∧ (r.toInt = 1 → (NmO (rB (Mf 1) (Mv 0)) x1.toInt x2.toInt (Mv 2) oo0x3 oo0x1 oo0x2)) ∧ (r.toInt = 0 → (NmE (rB (Mf 1) (Mv 0)) x1.toInt x2.toInt (Mv 2) oo0x2))) (BW D (fun (u : (Int32) × (Int32) × (Int32)) => match u with | (oo0x1, oo0x2, oo0x3) => [((Ma 0), .inr (12, [.ref (Ma 1), .int (Mv 0), .int (Mv 1), .ref (Ma 2), .ref (Ma 3), .ref (Ma 4), .ref (Ma 5), .ref (Ma 6), .int oo0x1, .int oo0x2, .int oo0x3, .int (Mv 5), .int (Mv 6), .int (Mv 7), .int (Mv 8), .ref (Ma 7), .int (Mv 9), .ref (Ma 8), .int (Mv 10), .ref (Ma 9), .ref (Ma 10), .int (Mv 11), .int (Mv 12), .int (Mv 13), .ref (Ma 11), .int (Mv 14), .ref (Ma 12), .ref (Ma 13), .ref (Ma 14), .ref (Ma 15), .ref (Ma 16), .long (Mj 0), .ref (Ma 17), .ref (Ma 18), .ref (Ma 19), .ref (Ma 20)])), ((Ma 1), .inl (tc 2, 400, .inl (Mf 1)))]) A) A) ([.ref (Ma 0), .int x1, .int x2].toArray) s 0 0 A) (F0 m 34 ls []) := by
      clear hP hD hS hl
      intro n_29
      induction n_29 with
      | zero =>
        intro vy_27 vy_28 H locs ls h1
        exact absurd h1 (Nat.not_lt_zero _)
      | succ n_29 ih_30 =>
        intro vy_27 vy_28 H locs ls hn_36 pf_32 pf_33 pf_34 pf_35 hP hD hS hl
        have ar_pf_35 := pf_35.2
        refine lv_aload_n hx hb dX12_numberHere_34 rfl (lv_at hl 2 rfl) ?_
        refine lv_aload_n hx hb dX12_numberHere_35 rfl (lv_at hl 2 rfl) ?_
        refine gf_X12_87 hx hb hts hown hK hP 0 rfl rfl dX12_numberHere_36 ?_
        have ha_37 : 0 ≤ vy_27.toInt := by
          have z_1 : ¬ (r_17 : Int32).toInt = (0 : Int32).toInt := fun z => c_22 (Int32.toInt_inj.mp z)
          have y_0 : (0 : Int32).toInt = 0 := by decide
          omega
        have ha_38 : (Mv 0).toInt ≤ 400 := by
          have z_1 : ¬ (r_17 : Int32).toInt = (0 : Int32).toInt := fun z => c_22 (Int32.toInt_inj.mp z)
          have y_0 : (0 : Int32).toInt = 0 := by decide
          omega
        refine cV (a := (Ma 0)) (As := [.int vy_27]) (rest := []) (wr := []) ⟨hx, hb, hml, hown, hts⟩ hK hX hA (cu_X12_isDigit l D tc sk (Ma 0) (Ma 1) (Ma 2) (Ma 3) (Ma 4) (Ma 5) (Ma 6) (Ma 7) (Ma 8) (Ma 9) (Ma 10) (Ma 11) (Ma 12) (Ma 13) (Ma 14) (Ma 15) (Ma 16) (Ma 17) (Ma 18) (Ma 19) (Ma 20) (Mv 0) (Mv 1) vy_27 (Mv 3) (Mv 4) (Mv 5) (Mv 6) (Mv 7) (Mv 8) (Mv 9) (Mv 10) (Mv 11) (Mv 12) (Mv 13) (Mv 14) (Mf 1) (Mj 0) vy_27 ha_37 ha_38) k_1256 k_1253 k_1255 k_37 k_106 pl_X12_isDigit ⟨Nat.le_of_ble_eq_true rfl, Nat.le_of_ble_eq_true rfl⟩ rfl rfl (va_recv hK hP (ci := 12) (q0 := 0) rfl rfl) hP hD hS [0, 1] [] rfl rfl rfl rfl rfl (by decide) rfl hl.1 rfl (Nat.le_of_ble_eq_true rfl) dX12_numberHere_39 ⟨Nat.le_of_ble_eq_true rfl, Nat.le_of_ble_eq_true rfl⟩ (fun v_39 u_40 H locs hv_41 hP₀ hD₀ hS₀ => ?_)
        obtain ⟨r_42, rfl, he_43, hm_45, hm_46⟩ := hv_41
        have he_43 : (r_42.toInt = 0 ∨ r_42.toInt = 1) := he_43
        refine W.eq (g2 := F0 m 42 ls [.int r_42]) rfl ?_
        replace hP : va_P D classes [((Ma 0), .inr (12, [.ref (Ma 1), .int (Mv 0), .int (Mv 1), .ref (Ma 2), .ref (Ma 3), .ref (Ma 4), .ref (Ma 5), .ref (Ma 6), .int vy_27, .int (Mv 3), .int (Mv 4), .int (Mv 5), .int (Mv 6), .int (Mv 7), .int (Mv 8), .ref (Ma 7), .int (Mv 9), .ref (Ma 8), .int (Mv 10), .ref (Ma 9), .ref (Ma 10), .int (Mv 11), .int (Mv 12), .int (Mv 13), .ref (Ma 11), .int (Mv 14), .ref (Ma 12), .ref (Ma 13), .ref (Ma 14), .ref (Ma 15), .ref (Ma 16), .long (Mj 0), .ref (Ma 17), .ref (Ma 18), .ref (Ma 19), .ref (Ma 20)])), ((Ma 1), .inl (tc 2, 400, .inl (Mf 1)))] H := hP₀
        replace hD : va_D A [((Ma 0), .inr (12, [.ref (Ma 1), .int (Mv 0), .int (Mv 1), .ref (Ma 2), .ref (Ma 3), .ref (Ma 4), .ref (Ma 5), .ref (Ma 6), .int vy_27, .int (Mv 3), .int (Mv 4), .int (Mv 5), .int (Mv 6), .int (Mv 7), .int (Mv 8), .ref (Ma 7), .int (Mv 9), .ref (Ma 8), .int (Mv 10), .ref (Ma 9), .ref (Ma 10), .int (Mv 11), .int (Mv 12), .int (Mv 13), .ref (Ma 11), .int (Mv 14), .ref (Ma 12), .ref (Ma 13), .ref (Ma 14), .ref (Ma 15), .ref (Ma 16), .long (Mj 0), .ref (Ma 17), .ref (Ma 18), .ref (Ma 19), .ref (Ma 20)])), ((Ma 1), .inl (tc 2, 400, .inl (Mf 1)))] := hD₀
        replace hS := hS₀
        clear hP₀ hD₀ hS₀
        refine lv_if_eq (tgt := 88) hx hb dX12_numberHere_42 (by decide) (fun c_47 => ?_) (fun c_47 => ?_)
        · skip
          have hz_49 : (r_42 : Int32).toInt = 0 := by
            have z_1 : ¬ (r_17 : Int32).toInt = (0 : Int32).toInt := fun z => c_22 (Int32.toInt_inj.mp z)
            have z_2 := congrArg Int32.toInt c_47
            have y_0 : (0 : Int32).toInt = 0 := by decide
            omega
          obtain pf_48 := hm_46 hz_49
          have pf_48 : NDgt (Mf 1) (Mv 0) vy_27 := pf_48
          have ar_pf_48 := Adv.dgt pf_33 pf_23 pf_48
          have at_pf_48 : ¬ ((vy_27 : Int32).toInt < (Mv 0).toInt ∧ 48 ≤ ((Mf 1) (vy_27 : Int32).toInt.toNat).toInt ∧ ((Mf 1) (vy_27 : Int32).toInt.toNat).toInt ≤ 57) := pf_48
          refine lv_aload_n hx hb dX12_numberHere_88 rfl (lv_at hl 2 rfl) ?_
          refine lv_iload hx hb dX12_numberHere_89 (lv_at hl 0 rfl) ?_
          refine pf_X12_112 hx hb hts hown hK hP hD hS 0 rfl (Nat.le_of_ble_eq_true rfl) rfl rfl dX12_numberHere_91 (fun H locs hP₀ hD₀ hS₀ => ?_)
          replace hP : va_P D classes [((Ma 0), .inr (12, [.ref (Ma 1), .int (Mv 0), .int (Mv 1), .ref (Ma 2), .ref (Ma 3), .ref (Ma 4), .ref (Ma 5), .ref (Ma 6), .int vy_27, .int (Mv 3), .int vy_28, .int (Mv 5), .int (Mv 6), .int (Mv 7), .int (Mv 8), .ref (Ma 7), .int (Mv 9), .ref (Ma 8), .int (Mv 10), .ref (Ma 9), .ref (Ma 10), .int (Mv 11), .int (Mv 12), .int (Mv 13), .ref (Ma 11), .int (Mv 14), .ref (Ma 12), .ref (Ma 13), .ref (Ma 14), .ref (Ma 15), .ref (Ma 16), .long (Mj 0), .ref (Ma 17), .ref (Ma 18), .ref (Ma 19), .ref (Ma 20)])), ((Ma 1), .inl (tc 2, 400, .inl (Mf 1)))] H := hP₀
          replace hD : va_D A [((Ma 0), .inr (12, [.ref (Ma 1), .int (Mv 0), .int (Mv 1), .ref (Ma 2), .ref (Ma 3), .ref (Ma 4), .ref (Ma 5), .ref (Ma 6), .int vy_27, .int (Mv 3), .int vy_28, .int (Mv 5), .int (Mv 6), .int (Mv 7), .int (Mv 8), .ref (Ma 7), .int (Mv 9), .ref (Ma 8), .int (Mv 10), .ref (Ma 9), .ref (Ma 10), .int (Mv 11), .int (Mv 12), .int (Mv 13), .ref (Ma 11), .int (Mv 14), .ref (Ma 12), .ref (Ma 13), .ref (Ma 14), .ref (Ma 15), .ref (Ma 16), .long (Mj 0), .ref (Ma 17), .ref (Ma 18), .ref (Ma 19), .ref (Ma 20)])), ((Ma 1), .inl (tc 2, 400, .inl (Mf 1)))] := hD₀
          replace hS := hS₀
          clear hP₀ hD₀ hS₀
          refine lv_aload_n hx hb dX12_numberHere_94 rfl (lv_at hl 2 rfl) ?_
          refine gf_X12_87 hx hb hts hown hK hP 0 rfl rfl dX12_numberHere_95 ?_
          refine lv_iload_n hx hb dX12_numberHere_98 rfl (lv_at hl 1 rfl) ?_
          refine lv_isub hx hb dX12_numberHere_99 ?_
          refine lv_topi (fun x_50 ex_50 => ?_)
          refine lv_iconst (v := 5) hx hb dX12_numberHere_100 (by decide) ?_
          refine lv_icmp_gt (tgt := 117) hx hb dX12_numberHere_101 (by decide) (fun c_51 => ?_) (fun c_51 => ?_)
          · skip
            refine lv_aload_n hx hb dX12_numberHere_117 rfl (lv_at hl 2 rfl) ?_
            refine lv_iconst (v := 1) hx hb dX12_numberHere_118 (by decide) ?_
            refine lv_iload_n hx hb dX12_numberHere_119 rfl (lv_at hl 1 rfl) ?_
            have ha_52 : 0 ≤ (1 : Int32).toInt ∧ (1 : Int32).toInt ≤ 4 := by
              have z_1 : ¬ (r_17 : Int32).toInt = (0 : Int32).toInt := fun z => c_22 (Int32.toInt_inj.mp z)
              have z_2 := congrArg Int32.toInt c_47
              have z_3 := Int32.lt_iff_toInt_lt.mp c_51
              have y_0 : (0 : Int32).toInt = 0 := by decide
              have y_5 : (5 : Int32).toInt = 5 := by decide
              have y_1 : (1 : Int32).toInt = 1 := by decide
              have t_x_50 : x_50.toInt = (vy_27 : Int32).toInt - (sv_4 : Int32).toInt := by rw [ex_50]; exact sub_toInt (by omega) (by omega)
              omega
            have ha_53 : 0 ≤ sv_4.toInt ∧ sv_4.toInt ≤ 400 := by
              have z_1 : ¬ (r_17 : Int32).toInt = (0 : Int32).toInt := fun z => c_22 (Int32.toInt_inj.mp z)
              have z_2 := congrArg Int32.toInt c_47
              have z_3 := Int32.lt_iff_toInt_lt.mp c_51
              have y_0 : (0 : Int32).toInt = 0 := by decide
              have y_5 : (5 : Int32).toInt = 5 := by decide
              have t_x_50 : x_50.toInt = (vy_27 : Int32).toInt - (sv_4 : Int32).toInt := by rw [ex_50]; exact sub_toInt (by omega) (by omega)
              omega
            refine cV (a := (Ma 0)) (As := [.int 1, .int sv_4]) (rest := []) (wr := [((Ma 1), .inl (tc 2, 400, .inl (Mf 1)))]) ⟨hx, hb, hml, hown, hts⟩ hK hX hA (cu_fX12_fails l D tc sk (Ma 0) (Ma 1) (Ma 2) (Ma 3) (Ma 4) (Ma 5) (Ma 6) (Ma 7) (Ma 8) (Ma 9) (Ma 10) (Ma 11) (Ma 12) (Ma 13) (Ma 14) (Ma 15) (Ma 16) (Ma 17) (Ma 18) (Ma 19) (Ma 20) (Mv 0) (Mv 1) vy_27 (Mv 3) vy_28 (Mv 5) (Mv 6) (Mv 7) (Mv 8) (Mv 9) (Mv 10) (Mv 11) (Mv 12) (Mv 13) (Mv 14) (Mj 0) 1 sv_4 ha_52 ha_53 h_w) k_1232 k_1229 k_1231 k_31 k_106 pl_X12_fails ⟨Nat.le_of_ble_eq_true rfl, Nat.le_of_ble_eq_true rfl⟩ rfl rfl (va_recv hK hP (ci := 12) (q0 := 0) rfl rfl) hP hD hS [0] [1] rfl rfl rfl rfl rfl (by decide) rfl hl.1 rfl (Nat.le_of_ble_eq_true rfl) dX12_numberHere_120 ⟨Nat.le_of_ble_eq_true rfl, Nat.le_of_ble_eq_true rfl⟩ (fun v_54 u_55 H locs hv_56 hP₀ hD₀ hS₀ => ?_)
            obtain ⟨sv_57, rfl⟩ : ∃ z, z = u_55 := ⟨_, rfl⟩
            obtain ⟨r_60, rfl, he_61, pf_58, pf_59⟩ := hv_56
            have he_61 : r_60.toInt = 0 := he_61
            have pf_58 : ¬ (sv_57 : Int32).toInt = 0 := pf_58
            have pf_59 : (sv_57 : Int32).toInt = 1 + 8 * sv_4.toInt + (1 : Int32).toInt := pf_59
            refine W.eq (g2 := F0 m 123 ls [.int r_60]) rfl ?_
            replace hP : va_P D classes [((Ma 1), .inl (tc 2, 400, .inl (Mf 1))), ((Ma 0), .inr (12, [.ref (Ma 1), .int (Mv 0), .int (Mv 1), .ref (Ma 2), .ref (Ma 3), .ref (Ma 4), .ref (Ma 5), .ref (Ma 6), .int vy_27, .int sv_57, .int vy_28, .int (Mv 5), .int (Mv 6), .int (Mv 7), .int (Mv 8), .ref (Ma 7), .int (Mv 9), .ref (Ma 8), .int (Mv 10), .ref (Ma 9), .ref (Ma 10), .int (Mv 11), .int (Mv 12), .int (Mv 13), .ref (Ma 11), .int (Mv 14), .ref (Ma 12), .ref (Ma 13), .ref (Ma 14), .ref (Ma 15), .ref (Ma 16), .long (Mj 0), .ref (Ma 17), .ref (Ma 18), .ref (Ma 19), .ref (Ma 20)]))] H := hP₀
            replace hD : va_D A [((Ma 1), .inl (tc 2, 400, .inl (Mf 1))), ((Ma 0), .inr (12, [.ref (Ma 1), .int (Mv 0), .int (Mv 1), .ref (Ma 2), .ref (Ma 3), .ref (Ma 4), .ref (Ma 5), .ref (Ma 6), .int vy_27, .int sv_57, .int vy_28, .int (Mv 5), .int (Mv 6), .int (Mv 7), .int (Mv 8), .ref (Ma 7), .int (Mv 9), .ref (Ma 8), .int (Mv 10), .ref (Ma 9), .ref (Ma 10), .int (Mv 11), .int (Mv 12), .int (Mv 13), .ref (Ma 11), .int (Mv 14), .ref (Ma 12), .ref (Ma 13), .ref (Ma 14), .ref (Ma 15), .ref (Ma 16), .long (Mj 0), .ref (Ma 17), .ref (Ma 18), .ref (Ma 19), .ref (Ma 20)]))] := hD₀
            replace hS := hS₀
            clear hP₀ hD₀ hS₀
            have yf_63 : (1 : Int32).toInt = 1 := by decide
            refine lv_if_eq (tgt := 130) hx hb dX12_numberHere_123 (by decide) (fun c_64 => ?_) (fun c_64 => ?_)
            · skip
              refine lv_iconst (v := 0) hx hb dX12_numberHere_130 (by decide) ?_
              have ha_65 : ((Mv 2) : Int32).toInt ≤ (vy_27 : Int32).toInt ∧ (vy_27 : Int32).toInt ≤ ((Mv 0) : Int32).toInt := by
                have z_1 : ¬ (r_17 : Int32).toInt = (0 : Int32).toInt := fun z => c_22 (Int32.toInt_inj.mp z)
                have z_2 := congrArg Int32.toInt c_47
                have z_3 := Int32.lt_iff_toInt_lt.mp c_51
                have z_4 := congrArg Int32.toInt c_64
                have y_0 : (0 : Int32).toInt = 0 := by decide
                have y_5 : (5 : Int32).toInt = 5 := by decide
                have t_x_50 : x_50.toInt = (vy_27 : Int32).toInt - (sv_4 : Int32).toInt := by rw [ex_50]; exact sub_toInt (by omega) (by omega)
                omega
              have hp_66 : (((0 : Int32).toInt = 0 ∧ ¬ (sv_57 : Int32).toInt = 0) ∨ ((0 : Int32).toInt = 1 ∧ x1.toInt ≤ (vy_28 : Int32).toInt ∧ (vy_28 : Int32).toInt ≤ x2.toInt ∧ (Mv 2).toInt + 1 ≤ (vy_27 : Int32).toInt)) := by
                have z_1 : ¬ (r_17 : Int32).toInt = (0 : Int32).toInt := fun z => c_22 (Int32.toInt_inj.mp z)
                have z_2 := congrArg Int32.toInt c_47
                have z_3 := Int32.lt_iff_toInt_lt.mp c_51
                have z_4 := congrArg Int32.toInt c_64
                have y_0 : (0 : Int32).toInt = 0 := by decide
                have y_5 : (5 : Int32).toInt = 5 := by decide
                have t_x_50 : x_50.toInt = (vy_27 : Int32).toInt - (sv_4 : Int32).toInt := by rw [ex_50]; exact sub_toInt (by omega) (by omega)
                omega
              have hm_67 : (0 : Int32).toInt = 0 → (NmE (rB (Mf 1) (Mv 0)) x1.toInt x2.toInt (Mv 2) sv_57) := by
                intro h1r
                have hr_68 : 0 ≤ (sv_4 : Int32).toInt := by
                  have z_1 : ¬ (r_17 : Int32).toInt = (0 : Int32).toInt := fun z => c_22 (Int32.toInt_inj.mp z)
                  have z_2 := congrArg Int32.toInt c_47
                  have z_3 := Int32.lt_iff_toInt_lt.mp c_51
                  have z_4 := congrArg Int32.toInt c_64
                  have y_0 : (0 : Int32).toInt = 0 := by decide
                  have y_5 : (5 : Int32).toInt = 5 := by decide
                  have t_x_50 : x_50.toInt = (vy_27 : Int32).toInt - (sv_4 : Int32).toInt := by rw [ex_50]; exact sub_toInt (by omega) (by omega)
                  omega
                have hr_69 : (vy_27 : Int32).toInt ≤ 400 := by
                  have z_1 : ¬ (r_17 : Int32).toInt = (0 : Int32).toInt := fun z => c_22 (Int32.toInt_inj.mp z)
                  have z_2 := congrArg Int32.toInt c_47
                  have z_3 := Int32.lt_iff_toInt_lt.mp c_51
                  have z_4 := congrArg Int32.toInt c_64
                  have y_0 : (0 : Int32).toInt = 0 := by decide
                  have y_5 : (5 : Int32).toInt = 5 := by decide
                  have t_x_50 : x_50.toInt = (vy_27 : Int32).toInt - (sv_4 : Int32).toInt := by rw [ex_50]; exact sub_toInt (by omega) (by omega)
                  omega
                have rg_70 := rB_rg (n := (Mv 0)) h_bs (sv_4 : Int32).toInt.toNat
                have hl_71 : 48 ≤ rB (Mf 1) (Mv 0) (sv_4 : Int32).toInt.toNat ∧ rB (Mf 1) (Mv 0) (sv_4 : Int32).toInt.toNat ≤ 57 := by
                  have z_1 : ¬ (r_17 : Int32).toInt = (0 : Int32).toInt := fun z => c_22 (Int32.toInt_inj.mp z)
                  have z_2 := congrArg Int32.toInt c_47
                  have z_3 := Int32.lt_iff_toInt_lt.mp c_51
                  have z_4 := congrArg Int32.toInt c_64
                  have y_0 : (0 : Int32).toInt = 0 := by decide
                  have y_5 : (5 : Int32).toInt = 5 := by decide
                  have t_x_50 : x_50.toInt = (vy_27 : Int32).toInt - (sv_4 : Int32).toInt := by rw [ex_50]; exact sub_toInt (by omega) (by omega)
                  omega
                have rg_72 := rB_rg (n := (Mv 0)) h_bs (vy_27 : Int32).toInt.toNat
                have hn_73 : ¬ (48 ≤ rB (Mf 1) (Mv 0) (vy_27 : Int32).toInt.toNat ∧ rB (Mf 1) (Mv 0) (vy_27 : Int32).toInt.toNat ≤ 57) := by
                  have z_1 : ¬ (r_17 : Int32).toInt = (0 : Int32).toInt := fun z => c_22 (Int32.toInt_inj.mp z)
                  have z_2 := congrArg Int32.toInt c_47
                  have z_3 := Int32.lt_iff_toInt_lt.mp c_51
                  have z_4 := congrArg Int32.toInt c_64
                  have y_0 : (0 : Int32).toInt = 0 := by decide
                  have y_5 : (5 : Int32).toInt = 5 := by decide
                  have t_x_50 : x_50.toInt = (vy_27 : Int32).toInt - (sv_4 : Int32).toInt := by rw [ex_50]; exact sub_toInt (by omega) (by omega)
                  omega
                have hr_74 : (5 < (vy_27 : Int32).toInt - (sv_4 : Int32).toInt ∨ (vy_28 : Int32).toInt < x1.toInt ∨ x2.toInt < (vy_28 : Int32).toInt) := by
                  have z_1 : ¬ (r_17 : Int32).toInt = (0 : Int32).toInt := fun z => c_22 (Int32.toInt_inj.mp z)
                  have z_2 := congrArg Int32.toInt c_47
                  have z_3 := Int32.lt_iff_toInt_lt.mp c_51
                  have z_4 := congrArg Int32.toInt c_64
                  have y_0 : (0 : Int32).toInt = 0 := by decide
                  have y_5 : (5 : Int32).toInt = 5 := by decide
                  have t_x_50 : x_50.toInt = (vy_27 : Int32).toInt - (sv_4 : Int32).toInt := by rw [ex_50]; exact sub_toInt (by omega) (by omega)
                  omega
                have hi_75 : (sv_57 : Int32).toInt = 1 + 8 * (sv_4 : Int32).toInt + 1 := by
                  have z_1 : ¬ (r_17 : Int32).toInt = (0 : Int32).toInt := fun z => c_22 (Int32.toInt_inj.mp z)
                  have z_2 := congrArg Int32.toInt c_47
                  have z_3 := Int32.lt_iff_toInt_lt.mp c_51
                  have z_4 := congrArg Int32.toInt c_64
                  have y_0 : (0 : Int32).toInt = 0 := by decide
                  have y_5 : (5 : Int32).toInt = 5 := by decide
                  have t_x_50 : x_50.toInt = (vy_27 : Int32).toInt - (sv_4 : Int32).toInt := by rw [ex_50]; exact sub_toInt (by omega) (by omega)
                  omega
                exact (NmE.of pf_8 pf_34 hr_68 hr_69 hl_71 hn_73 pf_35 hr_74 hi_75)
              exact retI (v := 0) hx hb hr hlk (rfl) hP hD hS (vy_27, sv_57, vy_28) ⟨_, rfl, hp_66, ha_65, (fun h => absurd h (by decide)), hm_67⟩ [1, 0] rfl rfl dX12_numberHere_131 (Nat.le_of_ble_eq_true rfl) (Nat.le_of_ble_eq_true rfl) rfl
            · skip
              refine lv_iconst (v := 1) hx hb dX12_numberHere_126 (by decide) ?_
              refine lv_goto (tgt := 131) hx hb dX12_numberHere_127 (by decide) ?_
              have ha_76 : ((Mv 2) : Int32).toInt ≤ (vy_27 : Int32).toInt ∧ (vy_27 : Int32).toInt ≤ ((Mv 0) : Int32).toInt := by
                have z_1 : ¬ (r_17 : Int32).toInt = (0 : Int32).toInt := fun z => c_22 (Int32.toInt_inj.mp z)
                have z_2 := congrArg Int32.toInt c_47
                have z_3 := Int32.lt_iff_toInt_lt.mp c_51
                have z_4 : ¬ (r_60 : Int32).toInt = (0 : Int32).toInt := fun z => c_64 (Int32.toInt_inj.mp z)
                have y_0 : (0 : Int32).toInt = 0 := by decide
                have y_5 : (5 : Int32).toInt = 5 := by decide
                have t_x_50 : x_50.toInt = (vy_27 : Int32).toInt - (sv_4 : Int32).toInt := by rw [ex_50]; exact sub_toInt (by omega) (by omega)
                omega
              have hp_77 : (((1 : Int32).toInt = 0 ∧ ¬ (sv_57 : Int32).toInt = 0) ∨ ((1 : Int32).toInt = 1 ∧ x1.toInt ≤ (vy_28 : Int32).toInt ∧ (vy_28 : Int32).toInt ≤ x2.toInt ∧ (Mv 2).toInt + 1 ≤ (vy_27 : Int32).toInt)) := by
                have z_1 : ¬ (r_17 : Int32).toInt = (0 : Int32).toInt := fun z => c_22 (Int32.toInt_inj.mp z)
                have z_2 := congrArg Int32.toInt c_47
                have z_3 := Int32.lt_iff_toInt_lt.mp c_51
                have z_4 : ¬ (r_60 : Int32).toInt = (0 : Int32).toInt := fun z => c_64 (Int32.toInt_inj.mp z)
                have y_0 : (0 : Int32).toInt = 0 := by decide
                have y_5 : (5 : Int32).toInt = 5 := by decide
                have y_1 : (1 : Int32).toInt = 1 := by decide
                have t_x_50 : x_50.toInt = (vy_27 : Int32).toInt - (sv_4 : Int32).toInt := by rw [ex_50]; exact sub_toInt (by omega) (by omega)
                have yr : (1 : Int32).toInt = 1 := by decide
                omega
              have hm_78 : (1 : Int32).toInt = 1 → (NmO (rB (Mf 1) (Mv 0)) x1.toInt x2.toInt (Mv 2) vy_28 vy_27 sv_57) := by
                intro h1r
                have hr_79 : 0 ≤ (sv_4 : Int32).toInt := by
                  have z_1 : ¬ (r_17 : Int32).toInt = (0 : Int32).toInt := fun z => c_22 (Int32.toInt_inj.mp z)
                  have z_2 := congrArg Int32.toInt c_47
                  have z_3 := Int32.lt_iff_toInt_lt.mp c_51
                  have z_4 : ¬ (r_60 : Int32).toInt = (0 : Int32).toInt := fun z => c_64 (Int32.toInt_inj.mp z)
                  have y_0 : (0 : Int32).toInt = 0 := by decide
                  have y_5 : (5 : Int32).toInt = 5 := by decide
                  have t_x_50 : x_50.toInt = (vy_27 : Int32).toInt - (sv_4 : Int32).toInt := by rw [ex_50]; exact sub_toInt (by omega) (by omega)
                  omega
                have hr_80 : (vy_27 : Int32).toInt ≤ 400 := by
                  have z_1 : ¬ (r_17 : Int32).toInt = (0 : Int32).toInt := fun z => c_22 (Int32.toInt_inj.mp z)
                  have z_2 := congrArg Int32.toInt c_47
                  have z_3 := Int32.lt_iff_toInt_lt.mp c_51
                  have z_4 : ¬ (r_60 : Int32).toInt = (0 : Int32).toInt := fun z => c_64 (Int32.toInt_inj.mp z)
                  have y_0 : (0 : Int32).toInt = 0 := by decide
                  have y_5 : (5 : Int32).toInt = 5 := by decide
                  have t_x_50 : x_50.toInt = (vy_27 : Int32).toInt - (sv_4 : Int32).toInt := by rw [ex_50]; exact sub_toInt (by omega) (by omega)
                  omega
                have rg_81 := rB_rg (n := (Mv 0)) h_bs (sv_4 : Int32).toInt.toNat
                have hl_82 : 48 ≤ rB (Mf 1) (Mv 0) (sv_4 : Int32).toInt.toNat ∧ rB (Mf 1) (Mv 0) (sv_4 : Int32).toInt.toNat ≤ 57 := by
                  have z_1 : ¬ (r_17 : Int32).toInt = (0 : Int32).toInt := fun z => c_22 (Int32.toInt_inj.mp z)
                  have z_2 := congrArg Int32.toInt c_47
                  have z_3 := Int32.lt_iff_toInt_lt.mp c_51
                  have z_4 : ¬ (r_60 : Int32).toInt = (0 : Int32).toInt := fun z => c_64 (Int32.toInt_inj.mp z)
                  have y_0 : (0 : Int32).toInt = 0 := by decide
                  have y_5 : (5 : Int32).toInt = 5 := by decide
                  have t_x_50 : x_50.toInt = (vy_27 : Int32).toInt - (sv_4 : Int32).toInt := by rw [ex_50]; exact sub_toInt (by omega) (by omega)
                  omega
                have rg_83 := rB_rg (n := (Mv 0)) h_bs (vy_27 : Int32).toInt.toNat
                have hn_84 : ¬ (48 ≤ rB (Mf 1) (Mv 0) (vy_27 : Int32).toInt.toNat ∧ rB (Mf 1) (Mv 0) (vy_27 : Int32).toInt.toNat ≤ 57) := by
                  have z_1 : ¬ (r_17 : Int32).toInt = (0 : Int32).toInt := fun z => c_22 (Int32.toInt_inj.mp z)
                  have z_2 := congrArg Int32.toInt c_47
                  have z_3 := Int32.lt_iff_toInt_lt.mp c_51
                  have z_4 : ¬ (r_60 : Int32).toInt = (0 : Int32).toInt := fun z => c_64 (Int32.toInt_inj.mp z)
                  have y_0 : (0 : Int32).toInt = 0 := by decide
                  have y_5 : (5 : Int32).toInt = 5 := by decide
                  have t_x_50 : x_50.toInt = (vy_27 : Int32).toInt - (sv_4 : Int32).toInt := by rw [ex_50]; exact sub_toInt (by omega) (by omega)
                  omega
                have hr_85 : ¬ (5 < (vy_27 : Int32).toInt - (sv_4 : Int32).toInt ∨ (vy_28 : Int32).toInt < x1.toInt ∨ x2.toInt < (vy_28 : Int32).toInt) := by
                  have z_1 : ¬ (r_17 : Int32).toInt = (0 : Int32).toInt := fun z => c_22 (Int32.toInt_inj.mp z)
                  have z_2 := congrArg Int32.toInt c_47
                  have z_3 := Int32.lt_iff_toInt_lt.mp c_51
                  have z_4 : ¬ (r_60 : Int32).toInt = (0 : Int32).toInt := fun z => c_64 (Int32.toInt_inj.mp z)
                  have y_0 : (0 : Int32).toInt = 0 := by decide
                  have y_5 : (5 : Int32).toInt = 5 := by decide
                  have t_x_50 : x_50.toInt = (vy_27 : Int32).toInt - (sv_4 : Int32).toInt := by rw [ex_50]; exact sub_toInt (by omega) (by omega)
                  omega
                have hi_86 : (sv_57 : Int32).toInt = 0 := by
                  have z_1 : ¬ (r_17 : Int32).toInt = (0 : Int32).toInt := fun z => c_22 (Int32.toInt_inj.mp z)
                  have z_2 := congrArg Int32.toInt c_47
                  have z_3 := Int32.lt_iff_toInt_lt.mp c_51
                  have z_4 : ¬ (r_60 : Int32).toInt = (0 : Int32).toInt := fun z => c_64 (Int32.toInt_inj.mp z)
                  have y_0 : (0 : Int32).toInt = 0 := by decide
                  have y_5 : (5 : Int32).toInt = 5 := by decide
                  have t_x_50 : x_50.toInt = (vy_27 : Int32).toInt - (sv_4 : Int32).toInt := by rw [ex_50]; exact sub_toInt (by omega) (by omega)
                  omega
                exact (NmO.of pf_8 pf_34 hr_79 hr_80 hl_82 hn_84 pf_35 hr_85 hi_86)
              exact retI (v := 1) hx hb hr hlk (rfl) hP hD hS (vy_27, sv_57, vy_28) ⟨_, rfl, hp_77, ha_76, hm_78, (fun h => absurd h (by decide))⟩ [1, 0] rfl rfl dX12_numberHere_131 (Nat.le_of_ble_eq_true rfl) (Nat.le_of_ble_eq_true rfl) rfl
          · skip
            refine lv_iload hx hb dX12_numberHere_104 (lv_at hl 0 rfl) ?_
            refine lv_i2l (v := (vy_28).toInt64) hx hb dX12_numberHere_106 rfl ?_
            refine lv_iload_n hx hb dX12_numberHere_107 rfl (lv_at hl 3 rfl) ?_
            refine lv_i2l (v := (x1).toInt64) hx hb dX12_numberHere_108 rfl ?_
            refine lv_iload_n hx hb dX12_numberHere_109 rfl (lv_at hl 4 rfl) ?_
            refine lv_i2l (v := (x2).toInt64) hx hb dX12_numberHere_110 rfl ?_
            refine cS (As := [.long (vy_28).toInt64, .long (x1).toInt64, .long (x2).toInt64]) (rest := []) (wr := [((Ma 0), .inr (12, [.ref (Ma 1), .int (Mv 0), .int (Mv 1), .ref (Ma 2), .ref (Ma 3), .ref (Ma 4), .ref (Ma 5), .ref (Ma 6), .int vy_27, .int (Mv 3), .int vy_28, .int (Mv 5), .int (Mv 6), .int (Mv 7), .int (Mv 8), .ref (Ma 7), .int (Mv 9), .ref (Ma 8), .int (Mv 10), .ref (Ma 9), .ref (Ma 10), .int (Mv 11), .int (Mv 12), .int (Mv 13), .ref (Ma 11), .int (Mv 14), .ref (Ma 12), .ref (Ma 13), .ref (Ma 14), .ref (Ma 15), .ref (Ma 16), .long (Mj 0), .ref (Ma 17), .ref (Ma 18), .ref (Ma 19), .ref (Ma 20)])), ((Ma 1), .inl (tc 2, 400, .inl (Mf 1)))]) ⟨hx, hb, hml, hown, hts⟩ hK hX hA (ct_X12_in2 l D tc sk ((vy_28).toInt64) ((x1).toInt64) ((x2).toInt64)) k_1259 k_1257 k_1258 k_106 pl_X12_in ⟨Nat.le_of_ble_eq_true rfl, Nat.le_of_ble_eq_true rfl⟩ rfl rfl  hP hD hS [] [0, 1] rfl rfl rfl rfl rfl (by decide) rfl hl.1 rfl (Nat.le_of_ble_eq_true rfl) dX12_numberHere_111 ⟨Nat.le_of_ble_eq_true rfl, Nat.le_of_ble_eq_true rfl⟩ (fun v_87 u_88 H locs hv_89 hP₀ hD₀ hS₀ => ?_)
            obtain ⟨r_90, rfl, he_91⟩ := hv_89
            have he_91 : ((r_90.toInt = 0 ∧ ((vy_28).toInt64.toInt < (x1).toInt64.toInt ∨ (x2).toInt64.toInt < (vy_28).toInt64.toInt)) ∨ (r_90.toInt = 1 ∧ (x1).toInt64.toInt ≤ (vy_28).toInt64.toInt ∧ (vy_28).toInt64.toInt ≤ (x2).toInt64.toInt)) := he_91
            refine W.eq (g2 := F0 m 114 ls [.int r_90]) rfl ?_
            replace hP : va_P D classes [((Ma 0), .inr (12, [.ref (Ma 1), .int (Mv 0), .int (Mv 1), .ref (Ma 2), .ref (Ma 3), .ref (Ma 4), .ref (Ma 5), .ref (Ma 6), .int vy_27, .int (Mv 3), .int vy_28, .int (Mv 5), .int (Mv 6), .int (Mv 7), .int (Mv 8), .ref (Ma 7), .int (Mv 9), .ref (Ma 8), .int (Mv 10), .ref (Ma 9), .ref (Ma 10), .int (Mv 11), .int (Mv 12), .int (Mv 13), .ref (Ma 11), .int (Mv 14), .ref (Ma 12), .ref (Ma 13), .ref (Ma 14), .ref (Ma 15), .ref (Ma 16), .long (Mj 0), .ref (Ma 17), .ref (Ma 18), .ref (Ma 19), .ref (Ma 20)])), ((Ma 1), .inl (tc 2, 400, .inl (Mf 1)))] H := hP₀
            replace hD : va_D A [((Ma 0), .inr (12, [.ref (Ma 1), .int (Mv 0), .int (Mv 1), .ref (Ma 2), .ref (Ma 3), .ref (Ma 4), .ref (Ma 5), .ref (Ma 6), .int vy_27, .int (Mv 3), .int vy_28, .int (Mv 5), .int (Mv 6), .int (Mv 7), .int (Mv 8), .ref (Ma 7), .int (Mv 9), .ref (Ma 8), .int (Mv 10), .ref (Ma 9), .ref (Ma 10), .int (Mv 11), .int (Mv 12), .int (Mv 13), .ref (Ma 11), .int (Mv 14), .ref (Ma 12), .ref (Ma 13), .ref (Ma 14), .ref (Ma 15), .ref (Ma 16), .long (Mj 0), .ref (Ma 17), .ref (Ma 18), .ref (Ma 19), .ref (Ma 20)])), ((Ma 1), .inl (tc 2, 400, .inl (Mf 1)))] := hD₀
            replace hS := hS₀
            clear hP₀ hD₀ hS₀
            simp only [i32_64] at he_91
            refine lv_if_ne (tgt := 126) hx hb dX12_numberHere_114 (by decide) (fun c_93 => ?_) (fun c_93 => ?_)
            · skip
              refine lv_iconst (v := 1) hx hb dX12_numberHere_126 (by decide) ?_
              refine lv_goto (tgt := 131) hx hb dX12_numberHere_127 (by decide) ?_
              have ha_94 : ((Mv 2) : Int32).toInt ≤ (vy_27 : Int32).toInt ∧ (vy_27 : Int32).toInt ≤ ((Mv 0) : Int32).toInt := by
                have z_1 : ¬ (r_17 : Int32).toInt = (0 : Int32).toInt := fun z => c_22 (Int32.toInt_inj.mp z)
                have z_2 := congrArg Int32.toInt c_47
                have z_3 := Int32.le_iff_toInt_le.mp (Int32.not_lt.mp c_51)
                have z_4 : ¬ (r_90 : Int32).toInt = (0 : Int32).toInt := fun z => c_93 (Int32.toInt_inj.mp z)
                have y_0 : (0 : Int32).toInt = 0 := by decide
                have y_5 : (5 : Int32).toInt = 5 := by decide
                have t_x_50 : x_50.toInt = (vy_27 : Int32).toInt - (sv_4 : Int32).toInt := by rw [ex_50]; exact sub_toInt (by omega) (by omega)
                omega
              have hp_95 : (((1 : Int32).toInt = 0 ∧ ¬ ((Mv 3) : Int32).toInt = 0) ∨ ((1 : Int32).toInt = 1 ∧ x1.toInt ≤ (vy_28 : Int32).toInt ∧ (vy_28 : Int32).toInt ≤ x2.toInt ∧ (Mv 2).toInt + 1 ≤ (vy_27 : Int32).toInt)) := by
                have z_1 : ¬ (r_17 : Int32).toInt = (0 : Int32).toInt := fun z => c_22 (Int32.toInt_inj.mp z)
                have z_2 := congrArg Int32.toInt c_47
                have z_3 := Int32.le_iff_toInt_le.mp (Int32.not_lt.mp c_51)
                have z_4 : ¬ (r_90 : Int32).toInt = (0 : Int32).toInt := fun z => c_93 (Int32.toInt_inj.mp z)
                have y_0 : (0 : Int32).toInt = 0 := by decide
                have y_5 : (5 : Int32).toInt = 5 := by decide
                have y_1 : (1 : Int32).toInt = 1 := by decide
                have t_x_50 : x_50.toInt = (vy_27 : Int32).toInt - (sv_4 : Int32).toInt := by rw [ex_50]; exact sub_toInt (by omega) (by omega)
                have yr : (1 : Int32).toInt = 1 := by decide
                omega
              have hm_96 : (1 : Int32).toInt = 1 → (NmO (rB (Mf 1) (Mv 0)) x1.toInt x2.toInt (Mv 2) vy_28 vy_27 (Mv 3)) := by
                intro h1r
                have hr_97 : 0 ≤ (sv_4 : Int32).toInt := by
                  have z_1 : ¬ (r_17 : Int32).toInt = (0 : Int32).toInt := fun z => c_22 (Int32.toInt_inj.mp z)
                  have z_2 := congrArg Int32.toInt c_47
                  have z_3 := Int32.le_iff_toInt_le.mp (Int32.not_lt.mp c_51)
                  have z_4 : ¬ (r_90 : Int32).toInt = (0 : Int32).toInt := fun z => c_93 (Int32.toInt_inj.mp z)
                  have y_0 : (0 : Int32).toInt = 0 := by decide
                  have y_5 : (5 : Int32).toInt = 5 := by decide
                  have t_x_50 : x_50.toInt = (vy_27 : Int32).toInt - (sv_4 : Int32).toInt := by rw [ex_50]; exact sub_toInt (by omega) (by omega)
                  omega
                have hr_98 : (vy_27 : Int32).toInt ≤ 400 := by
                  have z_1 : ¬ (r_17 : Int32).toInt = (0 : Int32).toInt := fun z => c_22 (Int32.toInt_inj.mp z)
                  have z_2 := congrArg Int32.toInt c_47
                  have z_3 := Int32.le_iff_toInt_le.mp (Int32.not_lt.mp c_51)
                  have z_4 : ¬ (r_90 : Int32).toInt = (0 : Int32).toInt := fun z => c_93 (Int32.toInt_inj.mp z)
                  have y_0 : (0 : Int32).toInt = 0 := by decide
                  have y_5 : (5 : Int32).toInt = 5 := by decide
                  have t_x_50 : x_50.toInt = (vy_27 : Int32).toInt - (sv_4 : Int32).toInt := by rw [ex_50]; exact sub_toInt (by omega) (by omega)
                  omega
                have rg_99 := rB_rg (n := (Mv 0)) h_bs (sv_4 : Int32).toInt.toNat
                have hl_100 : 48 ≤ rB (Mf 1) (Mv 0) (sv_4 : Int32).toInt.toNat ∧ rB (Mf 1) (Mv 0) (sv_4 : Int32).toInt.toNat ≤ 57 := by
                  have z_1 : ¬ (r_17 : Int32).toInt = (0 : Int32).toInt := fun z => c_22 (Int32.toInt_inj.mp z)
                  have z_2 := congrArg Int32.toInt c_47
                  have z_3 := Int32.le_iff_toInt_le.mp (Int32.not_lt.mp c_51)
                  have z_4 : ¬ (r_90 : Int32).toInt = (0 : Int32).toInt := fun z => c_93 (Int32.toInt_inj.mp z)
                  have y_0 : (0 : Int32).toInt = 0 := by decide
                  have y_5 : (5 : Int32).toInt = 5 := by decide
                  have t_x_50 : x_50.toInt = (vy_27 : Int32).toInt - (sv_4 : Int32).toInt := by rw [ex_50]; exact sub_toInt (by omega) (by omega)
                  omega
                have rg_101 := rB_rg (n := (Mv 0)) h_bs (vy_27 : Int32).toInt.toNat
                have hn_102 : ¬ (48 ≤ rB (Mf 1) (Mv 0) (vy_27 : Int32).toInt.toNat ∧ rB (Mf 1) (Mv 0) (vy_27 : Int32).toInt.toNat ≤ 57) := by
                  have z_1 : ¬ (r_17 : Int32).toInt = (0 : Int32).toInt := fun z => c_22 (Int32.toInt_inj.mp z)
                  have z_2 := congrArg Int32.toInt c_47
                  have z_3 := Int32.le_iff_toInt_le.mp (Int32.not_lt.mp c_51)
                  have z_4 : ¬ (r_90 : Int32).toInt = (0 : Int32).toInt := fun z => c_93 (Int32.toInt_inj.mp z)
                  have y_0 : (0 : Int32).toInt = 0 := by decide
                  have y_5 : (5 : Int32).toInt = 5 := by decide
                  have t_x_50 : x_50.toInt = (vy_27 : Int32).toInt - (sv_4 : Int32).toInt := by rw [ex_50]; exact sub_toInt (by omega) (by omega)
                  omega
                have hr_103 : ¬ (5 < (vy_27 : Int32).toInt - (sv_4 : Int32).toInt ∨ (vy_28 : Int32).toInt < x1.toInt ∨ x2.toInt < (vy_28 : Int32).toInt) := by
                  have z_1 : ¬ (r_17 : Int32).toInt = (0 : Int32).toInt := fun z => c_22 (Int32.toInt_inj.mp z)
                  have z_2 := congrArg Int32.toInt c_47
                  have z_3 := Int32.le_iff_toInt_le.mp (Int32.not_lt.mp c_51)
                  have z_4 : ¬ (r_90 : Int32).toInt = (0 : Int32).toInt := fun z => c_93 (Int32.toInt_inj.mp z)
                  have y_0 : (0 : Int32).toInt = 0 := by decide
                  have y_5 : (5 : Int32).toInt = 5 := by decide
                  have t_x_50 : x_50.toInt = (vy_27 : Int32).toInt - (sv_4 : Int32).toInt := by rw [ex_50]; exact sub_toInt (by omega) (by omega)
                  omega
                have hi_104 : ((Mv 3) : Int32).toInt = 0 := by
                  have z_1 : ¬ (r_17 : Int32).toInt = (0 : Int32).toInt := fun z => c_22 (Int32.toInt_inj.mp z)
                  have z_2 := congrArg Int32.toInt c_47
                  have z_3 := Int32.le_iff_toInt_le.mp (Int32.not_lt.mp c_51)
                  have z_4 : ¬ (r_90 : Int32).toInt = (0 : Int32).toInt := fun z => c_93 (Int32.toInt_inj.mp z)
                  have y_0 : (0 : Int32).toInt = 0 := by decide
                  have y_5 : (5 : Int32).toInt = 5 := by decide
                  have t_x_50 : x_50.toInt = (vy_27 : Int32).toInt - (sv_4 : Int32).toInt := by rw [ex_50]; exact sub_toInt (by omega) (by omega)
                  omega
                exact (NmO.of pf_8 pf_34 hr_97 hr_98 hl_100 hn_102 pf_35 hr_103 hi_104)
              exact retI (v := 1) hx hb hr hlk (rfl) hP hD hS (vy_27, (Mv 3), vy_28) ⟨_, rfl, hp_95, ha_94, hm_96, (fun h => absurd h (by decide))⟩ [0, 1] rfl rfl dX12_numberHere_131 (Nat.le_of_ble_eq_true rfl) (Nat.le_of_ble_eq_true rfl) rfl
            · skip
              refine lv_aload_n hx hb dX12_numberHere_117 rfl (lv_at hl 2 rfl) ?_
              refine lv_iconst (v := 1) hx hb dX12_numberHere_118 (by decide) ?_
              refine lv_iload_n hx hb dX12_numberHere_119 rfl (lv_at hl 1 rfl) ?_
              have ha_105 : 0 ≤ (1 : Int32).toInt ∧ (1 : Int32).toInt ≤ 4 := by
                have z_1 : ¬ (r_17 : Int32).toInt = (0 : Int32).toInt := fun z => c_22 (Int32.toInt_inj.mp z)
                have z_2 := congrArg Int32.toInt c_47
                have z_3 := Int32.le_iff_toInt_le.mp (Int32.not_lt.mp c_51)
                have z_4 := congrArg Int32.toInt c_93
                have y_0 : (0 : Int32).toInt = 0 := by decide
                have y_5 : (5 : Int32).toInt = 5 := by decide
                have y_1 : (1 : Int32).toInt = 1 := by decide
                have t_x_50 : x_50.toInt = (vy_27 : Int32).toInt - (sv_4 : Int32).toInt := by rw [ex_50]; exact sub_toInt (by omega) (by omega)
                omega
              have ha_106 : 0 ≤ sv_4.toInt ∧ sv_4.toInt ≤ 400 := by
                have z_1 : ¬ (r_17 : Int32).toInt = (0 : Int32).toInt := fun z => c_22 (Int32.toInt_inj.mp z)
                have z_2 := congrArg Int32.toInt c_47
                have z_3 := Int32.le_iff_toInt_le.mp (Int32.not_lt.mp c_51)
                have z_4 := congrArg Int32.toInt c_93
                have y_0 : (0 : Int32).toInt = 0 := by decide
                have y_5 : (5 : Int32).toInt = 5 := by decide
                have t_x_50 : x_50.toInt = (vy_27 : Int32).toInt - (sv_4 : Int32).toInt := by rw [ex_50]; exact sub_toInt (by omega) (by omega)
                omega
              refine cV (a := (Ma 0)) (As := [.int 1, .int sv_4]) (rest := []) (wr := [((Ma 1), .inl (tc 2, 400, .inl (Mf 1)))]) ⟨hx, hb, hml, hown, hts⟩ hK hX hA (cu_fX12_fails l D tc sk (Ma 0) (Ma 1) (Ma 2) (Ma 3) (Ma 4) (Ma 5) (Ma 6) (Ma 7) (Ma 8) (Ma 9) (Ma 10) (Ma 11) (Ma 12) (Ma 13) (Ma 14) (Ma 15) (Ma 16) (Ma 17) (Ma 18) (Ma 19) (Ma 20) (Mv 0) (Mv 1) vy_27 (Mv 3) vy_28 (Mv 5) (Mv 6) (Mv 7) (Mv 8) (Mv 9) (Mv 10) (Mv 11) (Mv 12) (Mv 13) (Mv 14) (Mj 0) 1 sv_4 ha_105 ha_106 h_w) k_1232 k_1229 k_1231 k_31 k_106 pl_X12_fails ⟨Nat.le_of_ble_eq_true rfl, Nat.le_of_ble_eq_true rfl⟩ rfl rfl (va_recv hK hP (ci := 12) (q0 := 0) rfl rfl) hP hD hS [0] [1] rfl rfl rfl rfl rfl (by decide) rfl hl.1 rfl (Nat.le_of_ble_eq_true rfl) dX12_numberHere_120 ⟨Nat.le_of_ble_eq_true rfl, Nat.le_of_ble_eq_true rfl⟩ (fun v_107 u_108 H locs hv_109 hP₀ hD₀ hS₀ => ?_)
              obtain ⟨sv_110, rfl⟩ : ∃ z, z = u_108 := ⟨_, rfl⟩
              obtain ⟨r_113, rfl, he_114, pf_111, pf_112⟩ := hv_109
              have he_114 : r_113.toInt = 0 := he_114
              have pf_111 : ¬ (sv_110 : Int32).toInt = 0 := pf_111
              have pf_112 : (sv_110 : Int32).toInt = 1 + 8 * sv_4.toInt + (1 : Int32).toInt := pf_112
              refine W.eq (g2 := F0 m 123 ls [.int r_113]) rfl ?_
              replace hP : va_P D classes [((Ma 1), .inl (tc 2, 400, .inl (Mf 1))), ((Ma 0), .inr (12, [.ref (Ma 1), .int (Mv 0), .int (Mv 1), .ref (Ma 2), .ref (Ma 3), .ref (Ma 4), .ref (Ma 5), .ref (Ma 6), .int vy_27, .int sv_110, .int vy_28, .int (Mv 5), .int (Mv 6), .int (Mv 7), .int (Mv 8), .ref (Ma 7), .int (Mv 9), .ref (Ma 8), .int (Mv 10), .ref (Ma 9), .ref (Ma 10), .int (Mv 11), .int (Mv 12), .int (Mv 13), .ref (Ma 11), .int (Mv 14), .ref (Ma 12), .ref (Ma 13), .ref (Ma 14), .ref (Ma 15), .ref (Ma 16), .long (Mj 0), .ref (Ma 17), .ref (Ma 18), .ref (Ma 19), .ref (Ma 20)]))] H := hP₀
              replace hD : va_D A [((Ma 1), .inl (tc 2, 400, .inl (Mf 1))), ((Ma 0), .inr (12, [.ref (Ma 1), .int (Mv 0), .int (Mv 1), .ref (Ma 2), .ref (Ma 3), .ref (Ma 4), .ref (Ma 5), .ref (Ma 6), .int vy_27, .int sv_110, .int vy_28, .int (Mv 5), .int (Mv 6), .int (Mv 7), .int (Mv 8), .ref (Ma 7), .int (Mv 9), .ref (Ma 8), .int (Mv 10), .ref (Ma 9), .ref (Ma 10), .int (Mv 11), .int (Mv 12), .int (Mv 13), .ref (Ma 11), .int (Mv 14), .ref (Ma 12), .ref (Ma 13), .ref (Ma 14), .ref (Ma 15), .ref (Ma 16), .long (Mj 0), .ref (Ma 17), .ref (Ma 18), .ref (Ma 19), .ref (Ma 20)]))] := hD₀
              replace hS := hS₀
              clear hP₀ hD₀ hS₀
              have yf_116 : (1 : Int32).toInt = 1 := by decide
              refine lv_if_eq (tgt := 130) hx hb dX12_numberHere_123 (by decide) (fun c_117 => ?_) (fun c_117 => ?_)
              · skip
                refine lv_iconst (v := 0) hx hb dX12_numberHere_130 (by decide) ?_
                have ha_118 : ((Mv 2) : Int32).toInt ≤ (vy_27 : Int32).toInt ∧ (vy_27 : Int32).toInt ≤ ((Mv 0) : Int32).toInt := by
                  have z_1 : ¬ (r_17 : Int32).toInt = (0 : Int32).toInt := fun z => c_22 (Int32.toInt_inj.mp z)
                  have z_2 := congrArg Int32.toInt c_47
                  have z_3 := Int32.le_iff_toInt_le.mp (Int32.not_lt.mp c_51)
                  have z_4 := congrArg Int32.toInt c_93
                  have z_5 := congrArg Int32.toInt c_117
                  have y_0 : (0 : Int32).toInt = 0 := by decide
                  have y_5 : (5 : Int32).toInt = 5 := by decide
                  have t_x_50 : x_50.toInt = (vy_27 : Int32).toInt - (sv_4 : Int32).toInt := by rw [ex_50]; exact sub_toInt (by omega) (by omega)
                  omega
                have hp_119 : (((0 : Int32).toInt = 0 ∧ ¬ (sv_110 : Int32).toInt = 0) ∨ ((0 : Int32).toInt = 1 ∧ x1.toInt ≤ (vy_28 : Int32).toInt ∧ (vy_28 : Int32).toInt ≤ x2.toInt ∧ (Mv 2).toInt + 1 ≤ (vy_27 : Int32).toInt)) := by
                  have z_1 : ¬ (r_17 : Int32).toInt = (0 : Int32).toInt := fun z => c_22 (Int32.toInt_inj.mp z)
                  have z_2 := congrArg Int32.toInt c_47
                  have z_3 := Int32.le_iff_toInt_le.mp (Int32.not_lt.mp c_51)
                  have z_4 := congrArg Int32.toInt c_93
                  have z_5 := congrArg Int32.toInt c_117
                  have y_0 : (0 : Int32).toInt = 0 := by decide
                  have y_5 : (5 : Int32).toInt = 5 := by decide
                  have t_x_50 : x_50.toInt = (vy_27 : Int32).toInt - (sv_4 : Int32).toInt := by rw [ex_50]; exact sub_toInt (by omega) (by omega)
                  omega
                have hm_120 : (0 : Int32).toInt = 0 → (NmE (rB (Mf 1) (Mv 0)) x1.toInt x2.toInt (Mv 2) sv_110) := by
                  intro h1r
                  have hr_121 : 0 ≤ (sv_4 : Int32).toInt := by
                    have z_1 : ¬ (r_17 : Int32).toInt = (0 : Int32).toInt := fun z => c_22 (Int32.toInt_inj.mp z)
                    have z_2 := congrArg Int32.toInt c_47
                    have z_3 := Int32.le_iff_toInt_le.mp (Int32.not_lt.mp c_51)
                    have z_4 := congrArg Int32.toInt c_93
                    have z_5 := congrArg Int32.toInt c_117
                    have y_0 : (0 : Int32).toInt = 0 := by decide
                    have y_5 : (5 : Int32).toInt = 5 := by decide
                    have t_x_50 : x_50.toInt = (vy_27 : Int32).toInt - (sv_4 : Int32).toInt := by rw [ex_50]; exact sub_toInt (by omega) (by omega)
                    omega
                  have hr_122 : (vy_27 : Int32).toInt ≤ 400 := by
                    have z_1 : ¬ (r_17 : Int32).toInt = (0 : Int32).toInt := fun z => c_22 (Int32.toInt_inj.mp z)
                    have z_2 := congrArg Int32.toInt c_47
                    have z_3 := Int32.le_iff_toInt_le.mp (Int32.not_lt.mp c_51)
                    have z_4 := congrArg Int32.toInt c_93
                    have z_5 := congrArg Int32.toInt c_117
                    have y_0 : (0 : Int32).toInt = 0 := by decide
                    have y_5 : (5 : Int32).toInt = 5 := by decide
                    have t_x_50 : x_50.toInt = (vy_27 : Int32).toInt - (sv_4 : Int32).toInt := by rw [ex_50]; exact sub_toInt (by omega) (by omega)
                    omega
                  have rg_123 := rB_rg (n := (Mv 0)) h_bs (sv_4 : Int32).toInt.toNat
                  have hl_124 : 48 ≤ rB (Mf 1) (Mv 0) (sv_4 : Int32).toInt.toNat ∧ rB (Mf 1) (Mv 0) (sv_4 : Int32).toInt.toNat ≤ 57 := by
                    have z_1 : ¬ (r_17 : Int32).toInt = (0 : Int32).toInt := fun z => c_22 (Int32.toInt_inj.mp z)
                    have z_2 := congrArg Int32.toInt c_47
                    have z_3 := Int32.le_iff_toInt_le.mp (Int32.not_lt.mp c_51)
                    have z_4 := congrArg Int32.toInt c_93
                    have z_5 := congrArg Int32.toInt c_117
                    have y_0 : (0 : Int32).toInt = 0 := by decide
                    have y_5 : (5 : Int32).toInt = 5 := by decide
                    have t_x_50 : x_50.toInt = (vy_27 : Int32).toInt - (sv_4 : Int32).toInt := by rw [ex_50]; exact sub_toInt (by omega) (by omega)
                    omega
                  have rg_125 := rB_rg (n := (Mv 0)) h_bs (vy_27 : Int32).toInt.toNat
                  have hn_126 : ¬ (48 ≤ rB (Mf 1) (Mv 0) (vy_27 : Int32).toInt.toNat ∧ rB (Mf 1) (Mv 0) (vy_27 : Int32).toInt.toNat ≤ 57) := by
                    have z_1 : ¬ (r_17 : Int32).toInt = (0 : Int32).toInt := fun z => c_22 (Int32.toInt_inj.mp z)
                    have z_2 := congrArg Int32.toInt c_47
                    have z_3 := Int32.le_iff_toInt_le.mp (Int32.not_lt.mp c_51)
                    have z_4 := congrArg Int32.toInt c_93
                    have z_5 := congrArg Int32.toInt c_117
                    have y_0 : (0 : Int32).toInt = 0 := by decide
                    have y_5 : (5 : Int32).toInt = 5 := by decide
                    have t_x_50 : x_50.toInt = (vy_27 : Int32).toInt - (sv_4 : Int32).toInt := by rw [ex_50]; exact sub_toInt (by omega) (by omega)
                    omega
                  have hr_127 : (5 < (vy_27 : Int32).toInt - (sv_4 : Int32).toInt ∨ (vy_28 : Int32).toInt < x1.toInt ∨ x2.toInt < (vy_28 : Int32).toInt) := by
                    have z_1 : ¬ (r_17 : Int32).toInt = (0 : Int32).toInt := fun z => c_22 (Int32.toInt_inj.mp z)
                    have z_2 := congrArg Int32.toInt c_47
                    have z_3 := Int32.le_iff_toInt_le.mp (Int32.not_lt.mp c_51)
                    have z_4 := congrArg Int32.toInt c_93
                    have z_5 := congrArg Int32.toInt c_117
                    have y_0 : (0 : Int32).toInt = 0 := by decide
                    have y_5 : (5 : Int32).toInt = 5 := by decide
                    have t_x_50 : x_50.toInt = (vy_27 : Int32).toInt - (sv_4 : Int32).toInt := by rw [ex_50]; exact sub_toInt (by omega) (by omega)
                    omega
                  have hi_128 : (sv_110 : Int32).toInt = 1 + 8 * (sv_4 : Int32).toInt + 1 := by
                    have z_1 : ¬ (r_17 : Int32).toInt = (0 : Int32).toInt := fun z => c_22 (Int32.toInt_inj.mp z)
                    have z_2 := congrArg Int32.toInt c_47
                    have z_3 := Int32.le_iff_toInt_le.mp (Int32.not_lt.mp c_51)
                    have z_4 := congrArg Int32.toInt c_93
                    have z_5 := congrArg Int32.toInt c_117
                    have y_0 : (0 : Int32).toInt = 0 := by decide
                    have y_5 : (5 : Int32).toInt = 5 := by decide
                    have t_x_50 : x_50.toInt = (vy_27 : Int32).toInt - (sv_4 : Int32).toInt := by rw [ex_50]; exact sub_toInt (by omega) (by omega)
                    omega
                  exact (NmE.of pf_8 pf_34 hr_121 hr_122 hl_124 hn_126 pf_35 hr_127 hi_128)
                exact retI (v := 0) hx hb hr hlk (rfl) hP hD hS (vy_27, sv_110, vy_28) ⟨_, rfl, hp_119, ha_118, (fun h => absurd h (by decide)), hm_120⟩ [1, 0] rfl rfl dX12_numberHere_131 (Nat.le_of_ble_eq_true rfl) (Nat.le_of_ble_eq_true rfl) rfl
              · skip
                refine lv_iconst (v := 1) hx hb dX12_numberHere_126 (by decide) ?_
                refine lv_goto (tgt := 131) hx hb dX12_numberHere_127 (by decide) ?_
                have ha_129 : ((Mv 2) : Int32).toInt ≤ (vy_27 : Int32).toInt ∧ (vy_27 : Int32).toInt ≤ ((Mv 0) : Int32).toInt := by
                  have z_1 : ¬ (r_17 : Int32).toInt = (0 : Int32).toInt := fun z => c_22 (Int32.toInt_inj.mp z)
                  have z_2 := congrArg Int32.toInt c_47
                  have z_3 := Int32.le_iff_toInt_le.mp (Int32.not_lt.mp c_51)
                  have z_4 := congrArg Int32.toInt c_93
                  have z_5 : ¬ (r_113 : Int32).toInt = (0 : Int32).toInt := fun z => c_117 (Int32.toInt_inj.mp z)
                  have y_0 : (0 : Int32).toInt = 0 := by decide
                  have y_5 : (5 : Int32).toInt = 5 := by decide
                  have t_x_50 : x_50.toInt = (vy_27 : Int32).toInt - (sv_4 : Int32).toInt := by rw [ex_50]; exact sub_toInt (by omega) (by omega)
                  omega
                have hp_130 : (((1 : Int32).toInt = 0 ∧ ¬ (sv_110 : Int32).toInt = 0) ∨ ((1 : Int32).toInt = 1 ∧ x1.toInt ≤ (vy_28 : Int32).toInt ∧ (vy_28 : Int32).toInt ≤ x2.toInt ∧ (Mv 2).toInt + 1 ≤ (vy_27 : Int32).toInt)) := by
                  have z_1 : ¬ (r_17 : Int32).toInt = (0 : Int32).toInt := fun z => c_22 (Int32.toInt_inj.mp z)
                  have z_2 := congrArg Int32.toInt c_47
                  have z_3 := Int32.le_iff_toInt_le.mp (Int32.not_lt.mp c_51)
                  have z_4 := congrArg Int32.toInt c_93
                  have z_5 : ¬ (r_113 : Int32).toInt = (0 : Int32).toInt := fun z => c_117 (Int32.toInt_inj.mp z)
                  have y_0 : (0 : Int32).toInt = 0 := by decide
                  have y_5 : (5 : Int32).toInt = 5 := by decide
                  have y_1 : (1 : Int32).toInt = 1 := by decide
                  have t_x_50 : x_50.toInt = (vy_27 : Int32).toInt - (sv_4 : Int32).toInt := by rw [ex_50]; exact sub_toInt (by omega) (by omega)
                  have yr : (1 : Int32).toInt = 1 := by decide
                  omega
                have hm_131 : (1 : Int32).toInt = 1 → (NmO (rB (Mf 1) (Mv 0)) x1.toInt x2.toInt (Mv 2) vy_28 vy_27 sv_110) := by
                  intro h1r
                  have hr_132 : 0 ≤ (sv_4 : Int32).toInt := by
                    have z_1 : ¬ (r_17 : Int32).toInt = (0 : Int32).toInt := fun z => c_22 (Int32.toInt_inj.mp z)
                    have z_2 := congrArg Int32.toInt c_47
                    have z_3 := Int32.le_iff_toInt_le.mp (Int32.not_lt.mp c_51)
                    have z_4 := congrArg Int32.toInt c_93
                    have z_5 : ¬ (r_113 : Int32).toInt = (0 : Int32).toInt := fun z => c_117 (Int32.toInt_inj.mp z)
                    have y_0 : (0 : Int32).toInt = 0 := by decide
                    have y_5 : (5 : Int32).toInt = 5 := by decide
                    have t_x_50 : x_50.toInt = (vy_27 : Int32).toInt - (sv_4 : Int32).toInt := by rw [ex_50]; exact sub_toInt (by omega) (by omega)
                    omega
                  have hr_133 : (vy_27 : Int32).toInt ≤ 400 := by
                    have z_1 : ¬ (r_17 : Int32).toInt = (0 : Int32).toInt := fun z => c_22 (Int32.toInt_inj.mp z)
                    have z_2 := congrArg Int32.toInt c_47
                    have z_3 := Int32.le_iff_toInt_le.mp (Int32.not_lt.mp c_51)
                    have z_4 := congrArg Int32.toInt c_93
                    have z_5 : ¬ (r_113 : Int32).toInt = (0 : Int32).toInt := fun z => c_117 (Int32.toInt_inj.mp z)
                    have y_0 : (0 : Int32).toInt = 0 := by decide
                    have y_5 : (5 : Int32).toInt = 5 := by decide
                    have t_x_50 : x_50.toInt = (vy_27 : Int32).toInt - (sv_4 : Int32).toInt := by rw [ex_50]; exact sub_toInt (by omega) (by omega)
                    omega
                  have rg_134 := rB_rg (n := (Mv 0)) h_bs (sv_4 : Int32).toInt.toNat
                  have hl_135 : 48 ≤ rB (Mf 1) (Mv 0) (sv_4 : Int32).toInt.toNat ∧ rB (Mf 1) (Mv 0) (sv_4 : Int32).toInt.toNat ≤ 57 := by
                    have z_1 : ¬ (r_17 : Int32).toInt = (0 : Int32).toInt := fun z => c_22 (Int32.toInt_inj.mp z)
                    have z_2 := congrArg Int32.toInt c_47
                    have z_3 := Int32.le_iff_toInt_le.mp (Int32.not_lt.mp c_51)
                    have z_4 := congrArg Int32.toInt c_93
                    have z_5 : ¬ (r_113 : Int32).toInt = (0 : Int32).toInt := fun z => c_117 (Int32.toInt_inj.mp z)
                    have y_0 : (0 : Int32).toInt = 0 := by decide
                    have y_5 : (5 : Int32).toInt = 5 := by decide
                    have t_x_50 : x_50.toInt = (vy_27 : Int32).toInt - (sv_4 : Int32).toInt := by rw [ex_50]; exact sub_toInt (by omega) (by omega)
                    omega
                  have rg_136 := rB_rg (n := (Mv 0)) h_bs (vy_27 : Int32).toInt.toNat
                  have hn_137 : ¬ (48 ≤ rB (Mf 1) (Mv 0) (vy_27 : Int32).toInt.toNat ∧ rB (Mf 1) (Mv 0) (vy_27 : Int32).toInt.toNat ≤ 57) := by
                    have z_1 : ¬ (r_17 : Int32).toInt = (0 : Int32).toInt := fun z => c_22 (Int32.toInt_inj.mp z)
                    have z_2 := congrArg Int32.toInt c_47
                    have z_3 := Int32.le_iff_toInt_le.mp (Int32.not_lt.mp c_51)
                    have z_4 := congrArg Int32.toInt c_93
                    have z_5 : ¬ (r_113 : Int32).toInt = (0 : Int32).toInt := fun z => c_117 (Int32.toInt_inj.mp z)
                    have y_0 : (0 : Int32).toInt = 0 := by decide
                    have y_5 : (5 : Int32).toInt = 5 := by decide
                    have t_x_50 : x_50.toInt = (vy_27 : Int32).toInt - (sv_4 : Int32).toInt := by rw [ex_50]; exact sub_toInt (by omega) (by omega)
                    omega
                  have hr_138 : ¬ (5 < (vy_27 : Int32).toInt - (sv_4 : Int32).toInt ∨ (vy_28 : Int32).toInt < x1.toInt ∨ x2.toInt < (vy_28 : Int32).toInt) := by
                    have z_1 : ¬ (r_17 : Int32).toInt = (0 : Int32).toInt := fun z => c_22 (Int32.toInt_inj.mp z)
                    have z_2 := congrArg Int32.toInt c_47
                    have z_3 := Int32.le_iff_toInt_le.mp (Int32.not_lt.mp c_51)
                    have z_4 := congrArg Int32.toInt c_93
                    have z_5 : ¬ (r_113 : Int32).toInt = (0 : Int32).toInt := fun z => c_117 (Int32.toInt_inj.mp z)
                    have y_0 : (0 : Int32).toInt = 0 := by decide
                    have y_5 : (5 : Int32).toInt = 5 := by decide
                    have t_x_50 : x_50.toInt = (vy_27 : Int32).toInt - (sv_4 : Int32).toInt := by rw [ex_50]; exact sub_toInt (by omega) (by omega)
                    omega
                  have hi_139 : (sv_110 : Int32).toInt = 0 := by
                    have z_1 : ¬ (r_17 : Int32).toInt = (0 : Int32).toInt := fun z => c_22 (Int32.toInt_inj.mp z)
                    have z_2 := congrArg Int32.toInt c_47
                    have z_3 := Int32.le_iff_toInt_le.mp (Int32.not_lt.mp c_51)
                    have z_4 := congrArg Int32.toInt c_93
                    have z_5 : ¬ (r_113 : Int32).toInt = (0 : Int32).toInt := fun z => c_117 (Int32.toInt_inj.mp z)
                    have y_0 : (0 : Int32).toInt = 0 := by decide
                    have y_5 : (5 : Int32).toInt = 5 := by decide
                    have t_x_50 : x_50.toInt = (vy_27 : Int32).toInt - (sv_4 : Int32).toInt := by rw [ex_50]; exact sub_toInt (by omega) (by omega)
                    omega
                  exact (NmO.of pf_8 pf_34 hr_132 hr_133 hl_135 hn_137 pf_35 hr_138 hi_139)
                exact retI (v := 1) hx hb hr hlk (rfl) hP hD hS (vy_27, sv_110, vy_28) ⟨_, rfl, hp_130, ha_129, hm_131, (fun h => absurd h (by decide))⟩ [1, 0] rfl rfl dX12_numberHere_131 (Nat.le_of_ble_eq_true rfl) (Nat.le_of_ble_eq_true rfl) rfl
        · skip
          have hz_141 : (r_42 : Int32).toInt = 1 := by
            have z_1 : ¬ (r_17 : Int32).toInt = (0 : Int32).toInt := fun z => c_22 (Int32.toInt_inj.mp z)
            have z_2 : ¬ (r_42 : Int32).toInt = (0 : Int32).toInt := fun z => c_47 (Int32.toInt_inj.mp z)
            have y_0 : (0 : Int32).toInt = 0 := by decide
            omega
          obtain pf_140 := hm_45 hz_141
          have pf_140 : Dgt (Mf 1) (Mv 0) vy_27 := pf_140
          have ar_pf_140 := pf_140.1
          have at_pf_140 : 48 ≤ ((Mf 1) (vy_27 : Int32).toInt.toNat).toInt ∧ ((Mf 1) (vy_27 : Int32).toInt.toNat).toInt ≤ 57 := pf_140.2
          refine lv_aload_n hx hb dX12_numberHere_45 rfl (lv_at hl 2 rfl) ?_
          refine gf_X12_87 hx hb hts hown hK hP 0 rfl rfl dX12_numberHere_46 ?_
          refine lv_iload_n hx hb dX12_numberHere_49 rfl (lv_at hl 1 rfl) ?_
          refine lv_isub hx hb dX12_numberHere_50 ?_
          refine lv_topi (fun x_142 ex_142 => ?_)
          refine lv_iconst (v := 5) hx hb dX12_numberHere_51 (by decide) ?_
          refine lv_icmp_ge (tgt := 75) hx hb dX12_numberHere_52 (by decide) (fun c_143 => ?_) (fun c_143 => ?_)
          · skip
            refine lv_aload_n hx hb dX12_numberHere_75 rfl (lv_at hl 2 rfl) ?_
            refine lv_dup hx hb dX12_numberHere_76 rfl ?_
            refine gf_X12_87 hx hb hts hown hK hP 0 rfl rfl dX12_numberHere_77 ?_
            refine lv_iconst (v := 1) hx hb dX12_numberHere_80 (by decide) ?_
            refine lv_iadd hx hb dX12_numberHere_81 ?_
            refine lv_topi (fun x_144 ex_144 => ?_)
            refine pf_X12_87 hx hb hts hown hK hP hD hS 0 rfl (Nat.le_of_ble_eq_true rfl) rfl rfl dX12_numberHere_82 (fun H locs hP₀ hD₀ hS₀ => ?_)
            replace hP : va_P D classes [((Ma 0), .inr (12, [.ref (Ma 1), .int (Mv 0), .int (Mv 1), .ref (Ma 2), .ref (Ma 3), .ref (Ma 4), .ref (Ma 5), .ref (Ma 6), .int x_144, .int (Mv 3), .int (Mv 4), .int (Mv 5), .int (Mv 6), .int (Mv 7), .int (Mv 8), .ref (Ma 7), .int (Mv 9), .ref (Ma 8), .int (Mv 10), .ref (Ma 9), .ref (Ma 10), .int (Mv 11), .int (Mv 12), .int (Mv 13), .ref (Ma 11), .int (Mv 14), .ref (Ma 12), .ref (Ma 13), .ref (Ma 14), .ref (Ma 15), .ref (Ma 16), .long (Mj 0), .ref (Ma 17), .ref (Ma 18), .ref (Ma 19), .ref (Ma 20)])), ((Ma 1), .inl (tc 2, 400, .inl (Mf 1)))] H := hP₀
            replace hD : va_D A [((Ma 0), .inr (12, [.ref (Ma 1), .int (Mv 0), .int (Mv 1), .ref (Ma 2), .ref (Ma 3), .ref (Ma 4), .ref (Ma 5), .ref (Ma 6), .int x_144, .int (Mv 3), .int (Mv 4), .int (Mv 5), .int (Mv 6), .int (Mv 7), .int (Mv 8), .ref (Ma 7), .int (Mv 9), .ref (Ma 8), .int (Mv 10), .ref (Ma 9), .ref (Ma 10), .int (Mv 11), .int (Mv 12), .int (Mv 13), .ref (Ma 11), .int (Mv 14), .ref (Ma 12), .ref (Ma 13), .ref (Ma 14), .ref (Ma 15), .ref (Ma 16), .long (Mj 0), .ref (Ma 17), .ref (Ma 18), .ref (Ma 19), .ref (Ma 20)])), ((Ma 1), .inl (tc 2, 400, .inl (Mf 1)))] := hD₀
            replace hS := hS₀
            clear hP₀ hD₀ hS₀
            have tp_x_144 : (x_144 : Int32).toInt = (vy_27 : Int32).toInt + 1 := by
              have z_1 : ¬ (r_17 : Int32).toInt = (0 : Int32).toInt := fun z => c_22 (Int32.toInt_inj.mp z)
              have z_2 : ¬ (r_42 : Int32).toInt = (0 : Int32).toInt := fun z => c_47 (Int32.toInt_inj.mp z)
              have z_3 := Int32.le_iff_toInt_le.mp c_143
              have y_0 : (0 : Int32).toInt = 0 := by decide
              have y_5 : (5 : Int32).toInt = 5 := by decide
              have y_1 : (1 : Int32).toInt = 1 := by decide
              have t_x_144 : x_144.toInt = (vy_27 : Int32).toInt + (1 : Int32).toInt := by rw [ex_144]; exact add_toInt (by omega) (by omega)
              have t_x_142 : x_142.toInt = (vy_27 : Int32).toInt - (sv_4 : Int32).toInt := by rw [ex_142]; exact sub_toInt (by omega) (by omega)
              omega
            refine lv_goto (tgt := 34) hx hb dX12_numberHere_85 (by decide) ?_
            have hb_145 : 400 - (x_144 : Int32).toInt < 400 - (vy_27 : Int32).toInt ∧ 1 ≤ 400 - (vy_27 : Int32).toInt := by
              have z_1 : ¬ (r_17 : Int32).toInt = (0 : Int32).toInt := fun z => c_22 (Int32.toInt_inj.mp z)
              have z_2 : ¬ (r_42 : Int32).toInt = (0 : Int32).toInt := fun z => c_47 (Int32.toInt_inj.mp z)
              have z_3 := Int32.le_iff_toInt_le.mp c_143
              have y_0 : (0 : Int32).toInt = 0 := by decide
              have y_5 : (5 : Int32).toInt = 5 := by decide
              have y_1 : (1 : Int32).toInt = 1 := by decide
              have t_x_144 : x_144.toInt = (vy_27 : Int32).toInt + (1 : Int32).toInt := by rw [ex_144]; exact add_toInt (by omega) (by omega)
              have t_x_142 : x_142.toInt = (vy_27 : Int32).toInt - (sv_4 : Int32).toInt := by rw [ex_142]; exact sub_toInt (by omega) (by omega)
              omega
            have ha_146 : (sv_4 : Int32).toInt ≤ (x_144 : Int32).toInt ∧ (x_144 : Int32).toInt ≤ (Mv 0).toInt := by
              have z_1 : ¬ (r_17 : Int32).toInt = (0 : Int32).toInt := fun z => c_22 (Int32.toInt_inj.mp z)
              have z_2 : ¬ (r_42 : Int32).toInt = (0 : Int32).toInt := fun z => c_47 (Int32.toInt_inj.mp z)
              have z_3 := Int32.le_iff_toInt_le.mp c_143
              have y_0 : (0 : Int32).toInt = 0 := by decide
              have y_5 : (5 : Int32).toInt = 5 := by decide
              have y_1 : (1 : Int32).toInt = 1 := by decide
              have t_x_144 : x_144.toInt = (vy_27 : Int32).toInt + (1 : Int32).toInt := by rw [ex_144]; exact add_toInt (by omega) (by omega)
              have t_x_142 : x_142.toInt = (vy_27 : Int32).toInt - (sv_4 : Int32).toInt := by rw [ex_142]; exact sub_toInt (by omega) (by omega)
              omega
            have hr_148 : (sv_4 : Int32).toInt + 1 ≤ (x_144 : Int32).toInt := by
              have z_1 : ¬ (r_17 : Int32).toInt = (0 : Int32).toInt := fun z => c_22 (Int32.toInt_inj.mp z)
              have z_2 : ¬ (r_42 : Int32).toInt = (0 : Int32).toInt := fun z => c_47 (Int32.toInt_inj.mp z)
              have z_3 := Int32.le_iff_toInt_le.mp c_143
              have y_0 : (0 : Int32).toInt = 0 := by decide
              have y_5 : (5 : Int32).toInt = 5 := by decide
              have y_1 : (1 : Int32).toInt = 1 := by decide
              have t_x_144 : x_144.toInt = (vy_27 : Int32).toInt + (1 : Int32).toInt := by rw [ex_144]; exact add_toInt (by omega) (by omega)
              have t_x_142 : x_142.toInt = (vy_27 : Int32).toInt - (sv_4 : Int32).toInt := by rw [ex_142]; exact sub_toInt (by omega) (by omega)
              omega
            have ha_147 : Adv sv_4 x_144 := Or.inr hr_148
            have hk_149 : ((Mf 1) (vy_27 : Int32).toInt.toNat).toInt = ((Mf 1) (vy_27 : Int32).toInt.toNat).toInt := congrArg (fun z => ((Mf 1) z).toInt) (by
              have z_1 : ¬ (r_17 : Int32).toInt = (0 : Int32).toInt := fun z => c_22 (Int32.toInt_inj.mp z)
              have z_2 : ¬ (r_42 : Int32).toInt = (0 : Int32).toInt := fun z => c_47 (Int32.toInt_inj.mp z)
              have z_3 := Int32.le_iff_toInt_le.mp c_143
              have y_0 : (0 : Int32).toInt = 0 := by decide
              have y_5 : (5 : Int32).toInt = 5 := by decide
              have t_x_142 : x_142.toInt = (vy_27 : Int32).toInt - (sv_4 : Int32).toInt := by rw [ex_142]; exact sub_toInt (by omega) (by omega)
              omega)
            have rg_150 := rB_rg (n := (Mv 0)) h_bs (vy_27 : Int32).toInt.toNat
            have hb_151 : pz_isD (rB (Mf 1) (Mv 0) (vy_27 : Int32).toInt.toNat) = true := decide_eq_true (by
              have z_1 : ¬ (r_17 : Int32).toInt = (0 : Int32).toInt := fun z => c_22 (Int32.toInt_inj.mp z)
              have z_2 : ¬ (r_42 : Int32).toInt = (0 : Int32).toInt := fun z => c_47 (Int32.toInt_inj.mp z)
              have z_3 := Int32.le_iff_toInt_le.mp c_143
              have y_0 : (0 : Int32).toInt = 0 := by decide
              have y_5 : (5 : Int32).toInt = 5 := by decide
              have t_x_142 : x_142.toInt = (vy_27 : Int32).toInt - (sv_4 : Int32).toInt := by rw [ex_142]; exact sub_toInt (by omega) (by omega)
              omega)
            have hq_152 : (x_144 : Int32).toInt = (vy_27 : Int32).toInt + 1 := by
              have z_1 : ¬ (r_17 : Int32).toInt = (0 : Int32).toInt := fun z => c_22 (Int32.toInt_inj.mp z)
              have z_2 : ¬ (r_42 : Int32).toInt = (0 : Int32).toInt := fun z => c_47 (Int32.toInt_inj.mp z)
              have z_3 := Int32.le_iff_toInt_le.mp c_143
              have y_0 : (0 : Int32).toInt = 0 := by decide
              have y_5 : (5 : Int32).toInt = 5 := by decide
              have y_1 : (1 : Int32).toInt = 1 := by decide
              have t_x_144 : x_144.toInt = (vy_27 : Int32).toInt + (1 : Int32).toInt := by rw [ex_144]; exact add_toInt (by omega) (by omega)
              have t_x_142 : x_142.toInt = (vy_27 : Int32).toInt - (sv_4 : Int32).toInt := by rw [ex_142]; exact sub_toInt (by omega) (by omega)
              omega
            have hr_153 : 0 ≤ (vy_27 : Int32).toInt := by
              have z_1 : ¬ (r_17 : Int32).toInt = (0 : Int32).toInt := fun z => c_22 (Int32.toInt_inj.mp z)
              have z_2 : ¬ (r_42 : Int32).toInt = (0 : Int32).toInt := fun z => c_47 (Int32.toInt_inj.mp z)
              have z_3 := Int32.le_iff_toInt_le.mp c_143
              have y_0 : (0 : Int32).toInt = 0 := by decide
              have y_5 : (5 : Int32).toInt = 5 := by decide
              have t_x_142 : x_142.toInt = (vy_27 : Int32).toInt - (sv_4 : Int32).toInt := by rw [ex_142]; exact sub_toInt (by omega) (by omega)
              omega
            have hi_154 : (x_144 : Int32).toInt = (vy_27 : Int32).toInt + 1 := by
              have z_1 : ¬ (r_17 : Int32).toInt = (0 : Int32).toInt := fun z => c_22 (Int32.toInt_inj.mp z)
              have z_2 : ¬ (r_42 : Int32).toInt = (0 : Int32).toInt := fun z => c_47 (Int32.toInt_inj.mp z)
              have z_3 := Int32.le_iff_toInt_le.mp c_143
              have y_0 : (0 : Int32).toInt = 0 := by decide
              have y_5 : (5 : Int32).toInt = 5 := by decide
              have y_1 : (1 : Int32).toInt = 1 := by decide
              have t_x_144 : x_144.toInt = (vy_27 : Int32).toInt + (1 : Int32).toInt := by rw [ex_144]; exact add_toInt (by omega) (by omega)
              have t_x_142 : x_142.toInt = (vy_27 : Int32).toInt - (sv_4 : Int32).toInt := by rw [ex_142]; exact sub_toInt (by omega) (by omega)
              omega
            have hr_155 : 5 ≤ (vy_27 : Int32).toInt - (sv_4 : Int32).toInt := by
              have z_1 : ¬ (r_17 : Int32).toInt = (0 : Int32).toInt := fun z => c_22 (Int32.toInt_inj.mp z)
              have z_2 : ¬ (r_42 : Int32).toInt = (0 : Int32).toInt := fun z => c_47 (Int32.toInt_inj.mp z)
              have z_3 := Int32.le_iff_toInt_le.mp c_143
              have y_0 : (0 : Int32).toInt = 0 := by decide
              have y_5 : (5 : Int32).toInt = 5 := by decide
              have t_x_142 : x_142.toInt = (vy_27 : Int32).toInt - (sv_4 : Int32).toInt := by rw [ex_142]; exact sub_toInt (by omega) (by omega)
              omega
            exact ih_30 x_144 vy_28 _ _ _ (by omega) ha_146 ha_147 (RnB.st pf_34 hr_153 hb_151 hq_152) (NvF.go pf_35 hr_155 hi_154) (hP.sub [0, 1] rfl) (hD.sub [0, 1] rfl rfl) hS (lv_sub hl [0, 1, 2, 3, 4] rfl)
          · skip
            refine lv_bipush (v := 10) hx hb dX12_numberHere_55 (by decide) ?_
            refine lv_iload hx hb dX12_numberHere_57 (lv_at hl 0 rfl) ?_
            refine lv_imul hx hb dX12_numberHere_59 ?_
            refine lv_topi (fun x_156 ex_156 => ?_)
            refine lv_aload_n hx hb dX12_numberHere_60 rfl (lv_at hl 2 rfl) ?_
            refine gf_X12_7 hx hb hts hown hK hP 0 rfl rfl dX12_numberHere_61 ?_
            refine lv_aload_n hx hb dX12_numberHere_64 rfl (lv_at hl 2 rfl) ?_
            refine gf_X12_87 hx hb hts hown hK hP 0 rfl rfl dX12_numberHere_65 ?_
            have hi_157 : vp_in vy_27 400 := by
              have z_1 : ¬ (r_17 : Int32).toInt = (0 : Int32).toInt := fun z => c_22 (Int32.toInt_inj.mp z)
              have z_2 : ¬ (r_42 : Int32).toInt = (0 : Int32).toInt := fun z => c_47 (Int32.toInt_inj.mp z)
              have z_3 := Int32.lt_iff_toInt_lt.mp (Int32.not_le.mp c_143)
              have y_0 : (0 : Int32).toInt = 0 := by decide
              have y_5 : (5 : Int32).toInt = 5 := by decide
              have t_x_142 : x_142.toInt = (vy_27 : Int32).toInt - (sv_4 : Int32).toInt := by rw [ex_142]; exact sub_toInt (by omega) (by omega)
              refine vp_in_iff.mpr ⟨?_, ?_⟩ <;> omega
            refine va_bald hx hb hK hP 1 2 rfl rfl hi_157 dX12_numberHere_68 ?_
            refine lv_topi (fun x_158 ex_158 => ?_)
            have kx_158 : x_158.toInt = ((Mf 1) (vy_27 : Int32).toInt.toNat).toInt := congrArg Int32.toInt ex_158
            have kcx_158 : x_158.toInt = ((Mf 1) (vy_27 : Int32).toNatClampNeg).toInt := congrArg Int32.toInt ex_158
            refine lv_iadd hx hb dX12_numberHere_69 ?_
            refine lv_topi (fun x_159 ex_159 => ?_)
            refine lv_bipush (v := 48) hx hb dX12_numberHere_70 (by decide) ?_
            refine lv_isub hx hb dX12_numberHere_72 ?_
            refine lv_topi (fun x_160 ex_160 => ?_)
            refine lv_istore (lv' := [(4, .int x_160), (3, .int sv_4), (0, .ref (Ma 0)), (1, .int x1), (2, .int x2)]) hx hb dX12_numberHere_73 hl (by decide) rfl (fun ls hl₀ => ?_)
            replace hl := hl₀
            clear hl₀
            refine lv_aload_n hx hb dX12_numberHere_75 rfl (lv_at hl 2 rfl) ?_
            refine lv_dup hx hb dX12_numberHere_76 rfl ?_
            refine gf_X12_87 hx hb hts hown hK hP 0 rfl rfl dX12_numberHere_77 ?_
            refine lv_iconst (v := 1) hx hb dX12_numberHere_80 (by decide) ?_
            refine lv_iadd hx hb dX12_numberHere_81 ?_
            refine lv_topi (fun x_161 ex_161 => ?_)
            refine pf_X12_87 hx hb hts hown hK hP hD hS 0 rfl (Nat.le_of_ble_eq_true rfl) rfl rfl dX12_numberHere_82 (fun H locs hP₀ hD₀ hS₀ => ?_)
            replace hP : va_P D classes [((Ma 0), .inr (12, [.ref (Ma 1), .int (Mv 0), .int (Mv 1), .ref (Ma 2), .ref (Ma 3), .ref (Ma 4), .ref (Ma 5), .ref (Ma 6), .int x_161, .int (Mv 3), .int (Mv 4), .int (Mv 5), .int (Mv 6), .int (Mv 7), .int (Mv 8), .ref (Ma 7), .int (Mv 9), .ref (Ma 8), .int (Mv 10), .ref (Ma 9), .ref (Ma 10), .int (Mv 11), .int (Mv 12), .int (Mv 13), .ref (Ma 11), .int (Mv 14), .ref (Ma 12), .ref (Ma 13), .ref (Ma 14), .ref (Ma 15), .ref (Ma 16), .long (Mj 0), .ref (Ma 17), .ref (Ma 18), .ref (Ma 19), .ref (Ma 20)])), ((Ma 1), .inl (tc 2, 400, .inl (Mf 1)))] H := hP₀
            replace hD : va_D A [((Ma 0), .inr (12, [.ref (Ma 1), .int (Mv 0), .int (Mv 1), .ref (Ma 2), .ref (Ma 3), .ref (Ma 4), .ref (Ma 5), .ref (Ma 6), .int x_161, .int (Mv 3), .int (Mv 4), .int (Mv 5), .int (Mv 6), .int (Mv 7), .int (Mv 8), .ref (Ma 7), .int (Mv 9), .ref (Ma 8), .int (Mv 10), .ref (Ma 9), .ref (Ma 10), .int (Mv 11), .int (Mv 12), .int (Mv 13), .ref (Ma 11), .int (Mv 14), .ref (Ma 12), .ref (Ma 13), .ref (Ma 14), .ref (Ma 15), .ref (Ma 16), .long (Mj 0), .ref (Ma 17), .ref (Ma 18), .ref (Ma 19), .ref (Ma 20)])), ((Ma 1), .inl (tc 2, 400, .inl (Mf 1)))] := hD₀
            replace hS := hS₀
            clear hP₀ hD₀ hS₀
            have tp_x_161 : (x_161 : Int32).toInt = (vy_27 : Int32).toInt + 1 := by
              have z_1 : ¬ (r_17 : Int32).toInt = (0 : Int32).toInt := fun z => c_22 (Int32.toInt_inj.mp z)
              have z_2 : ¬ (r_42 : Int32).toInt = (0 : Int32).toInt := fun z => c_47 (Int32.toInt_inj.mp z)
              have z_3 := Int32.lt_iff_toInt_lt.mp (Int32.not_le.mp c_143)
              have y_0 : (0 : Int32).toInt = 0 := by decide
              have y_5 : (5 : Int32).toInt = 5 := by decide
              have y_1 : (1 : Int32).toInt = 1 := by decide
              have t_x_161 : x_161.toInt = (vy_27 : Int32).toInt + (1 : Int32).toInt := by rw [ex_161]; exact add_toInt (by omega) (by omega)
              have t_x_142 : x_142.toInt = (vy_27 : Int32).toInt - (sv_4 : Int32).toInt := by rw [ex_142]; exact sub_toInt (by omega) (by omega)
              omega
            refine lv_goto (tgt := 34) hx hb dX12_numberHere_85 (by decide) ?_
            have hb_162 : 400 - (x_161 : Int32).toInt < 400 - (vy_27 : Int32).toInt ∧ 1 ≤ 400 - (vy_27 : Int32).toInt := by
              have z_1 : ¬ (r_17 : Int32).toInt = (0 : Int32).toInt := fun z => c_22 (Int32.toInt_inj.mp z)
              have z_2 : ¬ (r_42 : Int32).toInt = (0 : Int32).toInt := fun z => c_47 (Int32.toInt_inj.mp z)
              have z_3 := Int32.lt_iff_toInt_lt.mp (Int32.not_le.mp c_143)
              have y_0 : (0 : Int32).toInt = 0 := by decide
              have y_5 : (5 : Int32).toInt = 5 := by decide
              have y_1 : (1 : Int32).toInt = 1 := by decide
              have t_x_161 : x_161.toInt = (vy_27 : Int32).toInt + (1 : Int32).toInt := by rw [ex_161]; exact add_toInt (by omega) (by omega)
              have t_x_142 : x_142.toInt = (vy_27 : Int32).toInt - (sv_4 : Int32).toInt := by rw [ex_142]; exact sub_toInt (by omega) (by omega)
              omega
            have ha_163 : (sv_4 : Int32).toInt ≤ (x_161 : Int32).toInt ∧ (x_161 : Int32).toInt ≤ (Mv 0).toInt := by
              have z_1 : ¬ (r_17 : Int32).toInt = (0 : Int32).toInt := fun z => c_22 (Int32.toInt_inj.mp z)
              have z_2 : ¬ (r_42 : Int32).toInt = (0 : Int32).toInt := fun z => c_47 (Int32.toInt_inj.mp z)
              have z_3 := Int32.lt_iff_toInt_lt.mp (Int32.not_le.mp c_143)
              have y_0 : (0 : Int32).toInt = 0 := by decide
              have y_5 : (5 : Int32).toInt = 5 := by decide
              have y_1 : (1 : Int32).toInt = 1 := by decide
              have t_x_161 : x_161.toInt = (vy_27 : Int32).toInt + (1 : Int32).toInt := by rw [ex_161]; exact add_toInt (by omega) (by omega)
              have t_x_142 : x_142.toInt = (vy_27 : Int32).toInt - (sv_4 : Int32).toInt := by rw [ex_142]; exact sub_toInt (by omega) (by omega)
              omega
            have hr_165 : (sv_4 : Int32).toInt + 1 ≤ (x_161 : Int32).toInt := by
              have z_1 : ¬ (r_17 : Int32).toInt = (0 : Int32).toInt := fun z => c_22 (Int32.toInt_inj.mp z)
              have z_2 : ¬ (r_42 : Int32).toInt = (0 : Int32).toInt := fun z => c_47 (Int32.toInt_inj.mp z)
              have z_3 := Int32.lt_iff_toInt_lt.mp (Int32.not_le.mp c_143)
              have y_0 : (0 : Int32).toInt = 0 := by decide
              have y_5 : (5 : Int32).toInt = 5 := by decide
              have y_1 : (1 : Int32).toInt = 1 := by decide
              have t_x_161 : x_161.toInt = (vy_27 : Int32).toInt + (1 : Int32).toInt := by rw [ex_161]; exact add_toInt (by omega) (by omega)
              have t_x_142 : x_142.toInt = (vy_27 : Int32).toInt - (sv_4 : Int32).toInt := by rw [ex_142]; exact sub_toInt (by omega) (by omega)
              omega
            have ha_164 : Adv sv_4 x_161 := Or.inr hr_165
            have hk_166 : ((Mf 1) (vy_27 : Int32).toInt.toNat).toInt = ((Mf 1) (vy_27 : Int32).toInt.toNat).toInt := congrArg (fun z => ((Mf 1) z).toInt) (by
              have z_1 : ¬ (r_17 : Int32).toInt = (0 : Int32).toInt := fun z => c_22 (Int32.toInt_inj.mp z)
              have z_2 : ¬ (r_42 : Int32).toInt = (0 : Int32).toInt := fun z => c_47 (Int32.toInt_inj.mp z)
              have z_3 := Int32.lt_iff_toInt_lt.mp (Int32.not_le.mp c_143)
              have y_0 : (0 : Int32).toInt = 0 := by decide
              have y_5 : (5 : Int32).toInt = 5 := by decide
              have t_x_142 : x_142.toInt = (vy_27 : Int32).toInt - (sv_4 : Int32).toInt := by rw [ex_142]; exact sub_toInt (by omega) (by omega)
              omega)
            have rg_167 := rB_rg (n := (Mv 0)) h_bs (vy_27 : Int32).toInt.toNat
            have hb_168 : pz_isD (rB (Mf 1) (Mv 0) (vy_27 : Int32).toInt.toNat) = true := decide_eq_true (by
              have z_1 : ¬ (r_17 : Int32).toInt = (0 : Int32).toInt := fun z => c_22 (Int32.toInt_inj.mp z)
              have z_2 : ¬ (r_42 : Int32).toInt = (0 : Int32).toInt := fun z => c_47 (Int32.toInt_inj.mp z)
              have z_3 := Int32.lt_iff_toInt_lt.mp (Int32.not_le.mp c_143)
              have y_0 : (0 : Int32).toInt = 0 := by decide
              have y_5 : (5 : Int32).toInt = 5 := by decide
              have t_x_142 : x_142.toInt = (vy_27 : Int32).toInt - (sv_4 : Int32).toInt := by rw [ex_142]; exact sub_toInt (by omega) (by omega)
              omega)
            have hq_169 : (x_161 : Int32).toInt = (vy_27 : Int32).toInt + 1 := by
              have z_1 : ¬ (r_17 : Int32).toInt = (0 : Int32).toInt := fun z => c_22 (Int32.toInt_inj.mp z)
              have z_2 : ¬ (r_42 : Int32).toInt = (0 : Int32).toInt := fun z => c_47 (Int32.toInt_inj.mp z)
              have z_3 := Int32.lt_iff_toInt_lt.mp (Int32.not_le.mp c_143)
              have y_0 : (0 : Int32).toInt = 0 := by decide
              have y_5 : (5 : Int32).toInt = 5 := by decide
              have y_1 : (1 : Int32).toInt = 1 := by decide
              have t_x_161 : x_161.toInt = (vy_27 : Int32).toInt + (1 : Int32).toInt := by rw [ex_161]; exact add_toInt (by omega) (by omega)
              have t_x_142 : x_142.toInt = (vy_27 : Int32).toInt - (sv_4 : Int32).toInt := by rw [ex_142]; exact sub_toInt (by omega) (by omega)
              omega
            have hr_170 : 0 ≤ (vy_27 : Int32).toInt := by
              have z_1 : ¬ (r_17 : Int32).toInt = (0 : Int32).toInt := fun z => c_22 (Int32.toInt_inj.mp z)
              have z_2 : ¬ (r_42 : Int32).toInt = (0 : Int32).toInt := fun z => c_47 (Int32.toInt_inj.mp z)
              have z_3 := Int32.lt_iff_toInt_lt.mp (Int32.not_le.mp c_143)
              have y_0 : (0 : Int32).toInt = 0 := by decide
              have y_5 : (5 : Int32).toInt = 5 := by decide
              have t_x_142 : x_142.toInt = (vy_27 : Int32).toInt - (sv_4 : Int32).toInt := by rw [ex_142]; exact sub_toInt (by omega) (by omega)
              omega
            have hi_171 : (x_161 : Int32).toInt = (vy_27 : Int32).toInt + 1 := by
              have z_1 : ¬ (r_17 : Int32).toInt = (0 : Int32).toInt := fun z => c_22 (Int32.toInt_inj.mp z)
              have z_2 : ¬ (r_42 : Int32).toInt = (0 : Int32).toInt := fun z => c_47 (Int32.toInt_inj.mp z)
              have z_3 := Int32.lt_iff_toInt_lt.mp (Int32.not_le.mp c_143)
              have y_0 : (0 : Int32).toInt = 0 := by decide
              have y_5 : (5 : Int32).toInt = 5 := by decide
              have y_1 : (1 : Int32).toInt = 1 := by decide
              have t_x_161 : x_161.toInt = (vy_27 : Int32).toInt + (1 : Int32).toInt := by rw [ex_161]; exact add_toInt (by omega) (by omega)
              have t_x_142 : x_142.toInt = (vy_27 : Int32).toInt - (sv_4 : Int32).toInt := by rw [ex_142]; exact sub_toInt (by omega) (by omega)
              omega
            have rg_172 := rB_rg (n := (Mv 0)) h_bs (vy_27 : Int32).toInt.toNat
            have hy_173 : (x_158 : Int32).toInt = rB (Mf 1) (Mv 0) (vy_27 : Int32).toInt.toNat := by
              have z_1 : ¬ (r_17 : Int32).toInt = (0 : Int32).toInt := fun z => c_22 (Int32.toInt_inj.mp z)
              have z_2 : ¬ (r_42 : Int32).toInt = (0 : Int32).toInt := fun z => c_47 (Int32.toInt_inj.mp z)
              have z_3 := Int32.lt_iff_toInt_lt.mp (Int32.not_le.mp c_143)
              have y_0 : (0 : Int32).toInt = 0 := by decide
              have y_5 : (5 : Int32).toInt = 5 := by decide
              have t_x_142 : x_142.toInt = (vy_27 : Int32).toInt - (sv_4 : Int32).toInt := by rw [ex_142]; exact sub_toInt (by omega) (by omega)
              omega
            have hr_174 : 0 ≤ (sv_4 : Int32).toInt ∧ (sv_4 : Int32).toInt ≤ (vy_27 : Int32).toInt := by
              have z_1 : ¬ (r_17 : Int32).toInt = (0 : Int32).toInt := fun z => c_22 (Int32.toInt_inj.mp z)
              have z_2 : ¬ (r_42 : Int32).toInt = (0 : Int32).toInt := fun z => c_47 (Int32.toInt_inj.mp z)
              have z_3 := Int32.lt_iff_toInt_lt.mp (Int32.not_le.mp c_143)
              have y_0 : (0 : Int32).toInt = 0 := by decide
              have y_5 : (5 : Int32).toInt = 5 := by decide
              have t_x_142 : x_142.toInt = (vy_27 : Int32).toInt - (sv_4 : Int32).toInt := by rw [ex_142]; exact sub_toInt (by omega) (by omega)
              omega
            have hr_175 : (vy_27 : Int32).toInt - (sv_4 : Int32).toInt < 5 := by
              have z_1 : ¬ (r_17 : Int32).toInt = (0 : Int32).toInt := fun z => c_22 (Int32.toInt_inj.mp z)
              have z_2 : ¬ (r_42 : Int32).toInt = (0 : Int32).toInt := fun z => c_47 (Int32.toInt_inj.mp z)
              have z_3 := Int32.lt_iff_toInt_lt.mp (Int32.not_le.mp c_143)
              have y_0 : (0 : Int32).toInt = 0 := by decide
              have y_5 : (5 : Int32).toInt = 5 := by decide
              have t_x_142 : x_142.toInt = (vy_27 : Int32).toInt - (sv_4 : Int32).toInt := by rw [ex_142]; exact sub_toInt (by omega) (by omega)
              omega
            have hr_176 : 48 ≤ (x_158 : Int32).toInt ∧ (x_158 : Int32).toInt ≤ 57 := by
              have z_1 : ¬ (r_17 : Int32).toInt = (0 : Int32).toInt := fun z => c_22 (Int32.toInt_inj.mp z)
              have z_2 : ¬ (r_42 : Int32).toInt = (0 : Int32).toInt := fun z => c_47 (Int32.toInt_inj.mp z)
              have z_3 := Int32.lt_iff_toInt_lt.mp (Int32.not_le.mp c_143)
              have y_0 : (0 : Int32).toInt = 0 := by decide
              have y_5 : (5 : Int32).toInt = 5 := by decide
              have t_x_142 : x_142.toInt = (vy_27 : Int32).toInt - (sv_4 : Int32).toInt := by rw [ex_142]; exact sub_toInt (by omega) (by omega)
              omega
            have hi_177 : (x_160 : Int32).toInt = (vy_28 : Int32).toInt * 10 + (x_158 : Int32).toInt - 48 := by
              have z_1 : ¬ (r_17 : Int32).toInt = (0 : Int32).toInt := fun z => c_22 (Int32.toInt_inj.mp z)
              have z_2 : ¬ (r_42 : Int32).toInt = (0 : Int32).toInt := fun z => c_47 (Int32.toInt_inj.mp z)
              have z_3 := Int32.lt_iff_toInt_lt.mp (Int32.not_le.mp c_143)
              have y_0 : (0 : Int32).toInt = 0 := by decide
              have y_5 : (5 : Int32).toInt = 5 := by decide
              have y_10 : (10 : Int32).toInt = 10 := by decide
              have y_48 : (48 : Int32).toInt = 48 := by decide
              have t_x_156 : x_156.toInt = (10 : Int32).toInt * (vy_28 : Int32).toInt := by rw [ex_156]; exact mul_toInt (by first | omega | (rw [y_10]; omega)) (by first | omega | (rw [y_10]; omega))
              rw [y_10] at t_x_156
              have t_x_159 : x_159.toInt = (x_156 : Int32).toInt + (x_158 : Int32).toInt := by rw [ex_159]; exact add_toInt (by omega) (by omega)
              have t_x_160 : x_160.toInt = (x_159 : Int32).toInt - (48 : Int32).toInt := by rw [ex_160]; exact sub_toInt (by omega) (by omega)
              have t_x_142 : x_142.toInt = (vy_27 : Int32).toInt - (sv_4 : Int32).toInt := by rw [ex_142]; exact sub_toInt (by omega) (by omega)
              omega
            exact ih_30 x_161 x_160 _ _ _ (by omega) ha_163 ha_164 (RnB.st pf_34 hr_170 hb_168 hq_169) (NvF.st pf_35 hr_174 hr_175 hy_173 hr_176 hi_177 hi_171) (hP.sub [0, 1] rfl) (hD.sub [0, 1] rfl rfl) hS (lv_sub hl [0, 1, 2, 3, 4] rfl)
    have ha_178 : (sv_4 : Int32).toInt ≤ (sv_4 : Int32).toInt ∧ (sv_4 : Int32).toInt ≤ (Mv 0).toInt := by
      have z_1 : ¬ (r_17 : Int32).toInt = (0 : Int32).toInt := fun z => c_22 (Int32.toInt_inj.mp z)
      have y_0 : (0 : Int32).toInt = 0 := by decide
      omega
    have ha_179 : Adv sv_4 sv_4 := Or.inl rfl
    exact loop_31 _ sv_4 0 _ _ _ (Nat.lt_succ_self _) ha_178 ha_179 (RnB.rf) (NvF.nil) hP hD hS hl
  · skip
    have hz_181 : (r_17 : Int32).toInt = 0 := by
      have z_1 := congrArg Int32.toInt c_22
      have y_0 : (0 : Int32).toInt = 0 := by decide
      omega
    obtain pf_180 := hm_21 hz_181
    have pf_180 : NDgt (Mf 1) (Mv 0) sv_4 := pf_180
    have at_pf_180 : ¬ ((sv_4 : Int32).toInt < (Mv 0).toInt ∧ 48 ≤ ((Mf 1) (sv_4 : Int32).toInt.toNat).toInt ∧ ((Mf 1) (sv_4 : Int32).toInt.toNat).toInt ≤ 57) := pf_180
    refine lv_aload_n hx hb dX12_numberHere_16 rfl (lv_at hl 0 rfl) ?_
    refine lv_iconst (v := 0) hx hb dX12_numberHere_17 (by decide) ?_
    refine lv_aload_n hx hb dX12_numberHere_18 rfl (lv_at hl 0 rfl) ?_
    refine gf_X12_87 hx hb hts hown hK hP 0 rfl rfl dX12_numberHere_19 ?_
    have ha_182 : 0 ≤ (0 : Int32).toInt ∧ (0 : Int32).toInt ≤ 4 := by
      have z_1 := congrArg Int32.toInt c_22
      have y_0 : (0 : Int32).toInt = 0 := by decide
      omega
    have ha_183 : 0 ≤ sv_4.toInt ∧ sv_4.toInt ≤ 400 := by
      have z_1 := congrArg Int32.toInt c_22
      have y_0 : (0 : Int32).toInt = 0 := by decide
      omega
    refine cV (a := (Ma 0)) (As := [.int 0, .int sv_4]) (rest := []) (wr := [((Ma 1), .inl (tc 2, 400, .inl (Mf 1)))]) ⟨hx, hb, hml, hown, hts⟩ hK hX hA (cu_fX12_fails l D tc sk (Ma 0) (Ma 1) (Ma 2) (Ma 3) (Ma 4) (Ma 5) (Ma 6) (Ma 7) (Ma 8) (Ma 9) (Ma 10) (Ma 11) (Ma 12) (Ma 13) (Ma 14) (Ma 15) (Ma 16) (Ma 17) (Ma 18) (Ma 19) (Ma 20) (Mv 0) (Mv 1) sv_4 (Mv 3) (Mv 4) (Mv 5) (Mv 6) (Mv 7) (Mv 8) (Mv 9) (Mv 10) (Mv 11) (Mv 12) (Mv 13) (Mv 14) (Mj 0) 0 sv_4 ha_182 ha_183 h_w) k_1232 k_1229 k_1231 k_31 k_106 pl_X12_fails ⟨Nat.le_of_ble_eq_true rfl, Nat.le_of_ble_eq_true rfl⟩ rfl rfl (va_recv hK hP (ci := 12) (q0 := 0) rfl rfl) hP hD hS [0] [1] rfl rfl rfl rfl rfl (by decide) rfl hl.1 rfl (Nat.le_of_ble_eq_true rfl) dX12_numberHere_22 ⟨Nat.le_of_ble_eq_true rfl, Nat.le_of_ble_eq_true rfl⟩ (fun v_184 u_185 H locs hv_186 hP₀ hD₀ hS₀ => ?_)
    obtain ⟨sv_187, rfl⟩ : ∃ z, z = u_185 := ⟨_, rfl⟩
    obtain ⟨r_190, rfl, he_191, pf_188, pf_189⟩ := hv_186
    have he_191 : r_190.toInt = 0 := he_191
    have pf_188 : ¬ (sv_187 : Int32).toInt = 0 := pf_188
    have pf_189 : (sv_187 : Int32).toInt = 1 + 8 * sv_4.toInt + (0 : Int32).toInt := pf_189
    refine W.eq (g2 := F0 m 25 ls [.int r_190]) rfl ?_
    replace hP : va_P D classes [((Ma 1), .inl (tc 2, 400, .inl (Mf 1))), ((Ma 0), .inr (12, [.ref (Ma 1), .int (Mv 0), .int (Mv 1), .ref (Ma 2), .ref (Ma 3), .ref (Ma 4), .ref (Ma 5), .ref (Ma 6), .int sv_4, .int sv_187, .int (Mv 4), .int (Mv 5), .int (Mv 6), .int (Mv 7), .int (Mv 8), .ref (Ma 7), .int (Mv 9), .ref (Ma 8), .int (Mv 10), .ref (Ma 9), .ref (Ma 10), .int (Mv 11), .int (Mv 12), .int (Mv 13), .ref (Ma 11), .int (Mv 14), .ref (Ma 12), .ref (Ma 13), .ref (Ma 14), .ref (Ma 15), .ref (Ma 16), .long (Mj 0), .ref (Ma 17), .ref (Ma 18), .ref (Ma 19), .ref (Ma 20)]))] H := hP₀
    replace hD : va_D A [((Ma 1), .inl (tc 2, 400, .inl (Mf 1))), ((Ma 0), .inr (12, [.ref (Ma 1), .int (Mv 0), .int (Mv 1), .ref (Ma 2), .ref (Ma 3), .ref (Ma 4), .ref (Ma 5), .ref (Ma 6), .int sv_4, .int sv_187, .int (Mv 4), .int (Mv 5), .int (Mv 6), .int (Mv 7), .int (Mv 8), .ref (Ma 7), .int (Mv 9), .ref (Ma 8), .int (Mv 10), .ref (Ma 9), .ref (Ma 10), .int (Mv 11), .int (Mv 12), .int (Mv 13), .ref (Ma 11), .int (Mv 14), .ref (Ma 12), .ref (Ma 13), .ref (Ma 14), .ref (Ma 15), .ref (Ma 16), .long (Mj 0), .ref (Ma 17), .ref (Ma 18), .ref (Ma 19), .ref (Ma 20)]))] := hD₀
    replace hS := hS₀
    clear hP₀ hD₀ hS₀
    have yf_193 : (0 : Int32).toInt = 0 := by decide
    have hb_194 : (r_190 : Int32).toInt = 0 ∨ (r_190 : Int32).toInt = 1 := by
      have z_1 := congrArg Int32.toInt c_22
      have y_0 : (0 : Int32).toInt = 0 := by decide
      omega
    have hp_195 : (((r_190 : Int32).toInt = 0 ∧ ¬ (sv_187 : Int32).toInt = 0) ∨ ((r_190 : Int32).toInt = 1 ∧ x1.toInt ≤ ((Mv 4) : Int32).toInt ∧ ((Mv 4) : Int32).toInt ≤ x2.toInt ∧ (Mv 2).toInt + 1 ≤ (sv_4 : Int32).toInt)) := by
      have z_1 := congrArg Int32.toInt c_22
      have y_0 : (0 : Int32).toInt = 0 := by decide
      omega
    have hm_196 : (r_190 : Int32).toInt = 1 → (NmO (rB (Mf 1) (Mv 0)) x1.toInt x2.toInt (Mv 2) (Mv 4) sv_4 sv_187) := by
      intro h1r
      exfalso
      have z_1 := congrArg Int32.toInt c_22
      have y_0 : (0 : Int32).toInt = 0 := by decide
      omega
    have hm_197 : (r_190 : Int32).toInt = 0 → (NmE (rB (Mf 1) (Mv 0)) x1.toInt x2.toInt (Mv 2) sv_187) := by
      intro h1r
      have rg_198 := rB_rg (n := (Mv 0)) h_bs (sv_4 : Int32).toInt.toNat
      have hn_199 : ¬ (48 ≤ rB (Mf 1) (Mv 0) (sv_4 : Int32).toInt.toNat ∧ rB (Mf 1) (Mv 0) (sv_4 : Int32).toInt.toNat ≤ 57) := by
        have z_1 := congrArg Int32.toInt c_22
        have y_0 : (0 : Int32).toInt = 0 := by decide
        omega
      have hr_200 : 0 ≤ (sv_4 : Int32).toInt := by
        have z_1 := congrArg Int32.toInt c_22
        have y_0 : (0 : Int32).toInt = 0 := by decide
        omega
      have hi_201 : (sv_187 : Int32).toInt = 1 + 8 * (sv_4 : Int32).toInt := by
        have z_1 := congrArg Int32.toInt c_22
        have y_0 : (0 : Int32).toInt = 0 := by decide
        omega
      exact (NmE.nd pf_8 hn_199 hr_200 hi_201)
    exact retI (v := r_190) hx hb hr hlk (nar01 hb_194) hP hD hS (sv_4, sv_187, (Mv 4)) ⟨_, rfl, hp_195, pf_5, hm_196, hm_197⟩ [1, 0] rfl rfl dX12_numberHere_25 (Nat.le_of_ble_eq_true rfl) (Nat.le_of_ble_eq_true rfl) rfl
set_option maxRecDepth 100000 in
theorem cu_fX12_numberHere (l : Launch) (D : va_G) (tc : Nat → ClassId) (sk : (Nat → Nat) × (Nat → Nat)) (Ma_0 : Nat) (Ma_1 : Nat) (Ma_2 : Nat) (Ma_3 : Nat) (Ma_4 : Nat) (Ma_5 : Nat) (Ma_6 : Nat) (Ma_7 : Nat) (Ma_8 : Nat) (Ma_9 : Nat) (Ma_10 : Nat) (Ma_11 : Nat) (Ma_12 : Nat) (Ma_13 : Nat) (Ma_14 : Nat) (Ma_15 : Nat) (Ma_16 : Nat) (Ma_17 : Nat) (Ma_18 : Nat) (Ma_19 : Nat) (Ma_20 : Nat) (Mv_0 : Int32) (Mv_1 : Int32) (Mv_2 : Int32) (Mv_3 : Int32) (Mv_4 : Int32) (Mv_5 : Int32) (Mv_6 : Int32) (Mv_7 : Int32) (Mv_8 : Int32) (Mv_9 : Int32) (Mv_10 : Int32) (Mv_11 : Int32) (Mv_12 : Int32) (Mv_13 : Int32) (Mv_14 : Int32) (Mf_1 : Nat → Int32) (Mj_0 : Int64) (x1 : Int32) (x2 : Int32) (h_nx : 0 ≤ (Mv_2 : Int32).toInt ∧ (Mv_2 : Int32).toInt ≤ (Mv_0 : Int32).toInt ∧ (Mv_0 : Int32).toInt ≤ 400) (h_bs : ByS Mf_1) (h_w : (Mv_3 : Int32).toInt = 0) : Ct l yX12_numberHere cX12_numberHere 5 (some .boolean) { frames := 1, cells := 0, slots := 0, locals := 25 } D tc sk [.ref Ma_0, .int x1, .int x2] [(Ma_0, .inr (12, [.ref Ma_1, .int Mv_0, .int Mv_1, .ref Ma_2, .ref Ma_3, .ref Ma_4, .ref Ma_5, .ref Ma_6, .int Mv_2, .int Mv_3, .int Mv_4, .int Mv_5, .int Mv_6, .int Mv_7, .int Mv_8, .ref Ma_7, .int Mv_9, .ref Ma_8, .int Mv_10, .ref Ma_9, .ref Ma_10, .int Mv_11, .int Mv_12, .int Mv_13, .ref Ma_11, .int Mv_14, .ref Ma_12, .ref Ma_13, .ref Ma_14, .ref Ma_15, .ref Ma_16, .long Mj_0, .ref Ma_17, .ref Ma_18, .ref Ma_19, .ref Ma_20])), (Ma_1, .inl (tc 2, 400, .inl Mf_1))] (fun (v : Option Value) (u : (Int32) × (Int32) × (Int32)) => match u with | (oo0x1, oo0x2, oo0x3) => ∃ r : Int32, v = some (.int r) ∧ (((r.toInt = 0 ∧ ¬ (oo0x2 : Int32).toInt = 0) ∨ (r.toInt = 1 ∧ x1.toInt ≤ (oo0x3 : Int32).toInt ∧ (oo0x3 : Int32).toInt ≤ x2.toInt ∧ Mv_2.toInt + 1 ≤ (oo0x1 : Int32).toInt))) ∧ ((Mv_2 : Int32).toInt ≤ (oo0x1 : Int32).toInt ∧ (oo0x1 : Int32).toInt ≤ (Mv_0 : Int32).toInt) ∧ (r.toInt = 1 → (NmO (rB Mf_1 Mv_0) x1.toInt x2.toInt Mv_2 oo0x3 oo0x1 oo0x2)) ∧ (r.toInt = 0 → (NmE (rB Mf_1 Mv_0) x1.toInt x2.toInt Mv_2 oo0x2))) (fun (u : (Int32) × (Int32) × (Int32)) => match u with | (oo0x1, oo0x2, oo0x3) => [(Ma_0, .inr (12, [.ref Ma_1, .int Mv_0, .int Mv_1, .ref Ma_2, .ref Ma_3, .ref Ma_4, .ref Ma_5, .ref Ma_6, .int oo0x1, .int oo0x2, .int oo0x3, .int Mv_5, .int Mv_6, .int Mv_7, .int Mv_8, .ref Ma_7, .int Mv_9, .ref Ma_8, .int Mv_10, .ref Ma_9, .ref Ma_10, .int Mv_11, .int Mv_12, .int Mv_13, .ref Ma_11, .int Mv_14, .ref Ma_12, .ref Ma_13, .ref Ma_14, .ref Ma_15, .ref Ma_16, .long Mj_0, .ref Ma_17, .ref Ma_18, .ref Ma_19, .ref Ma_20])), (Ma_1, .inl (tc 2, 400, .inl Mf_1))]) 0 0 :=
  ct_fX12_numberHere l D tc sk (fun k => ([Ma_0, Ma_1, Ma_2, Ma_3, Ma_4, Ma_5, Ma_6, Ma_7, Ma_8, Ma_9, Ma_10, Ma_11, Ma_12, Ma_13, Ma_14, Ma_15, Ma_16, Ma_17, Ma_18, Ma_19, Ma_20] : List (Nat)).getD k 0) (fun k => ([Mv_0, Mv_1, Mv_2, Mv_3, Mv_4, Mv_5, Mv_6, Mv_7, Mv_8, Mv_9, Mv_10, Mv_11, Mv_12, Mv_13, Mv_14] : List (Int32)).getD k 0) (fun k => ([(fun _ => 0), Mf_1] : List (Nat → Int32)).getD k (fun _ => 0)) (fun k => ([Mj_0] : List (Int64)).getD k 0) x1 x2 h_nx h_bs h_w
set_option maxHeartbeats 4000000 in
set_option maxRecDepth 100000 in
theorem ct_fX12_wordHere (l : Launch) (D : va_G) (tc : Nat → ClassId) (sk : (Nat → Nat) × (Nat → Nat)) (Ma : Nat → Nat) (Mv : Nat → Int32) (Mf : Nat → Nat → Int32) (Mj : Nat → Int64) (h_nx : 0 ≤ ((Mv 2) : Int32).toInt ∧ ((Mv 2) : Int32).toInt ≤ ((Mv 0) : Int32).toInt ∧ ((Mv 0) : Int32).toInt ≤ 400) (h_bs : ByS (Mf 1)) : Ct l yX12_wordHere cX12_wordHere 1 (some .int) { frames := 2, cells := 0, slots := 0, locals := 46 } D tc sk [.ref (Ma 0)] [((Ma 0), .inr (12, [.ref (Ma 1), .int (Mv 0), .int (Mv 1), .ref (Ma 2), .ref (Ma 3), .ref (Ma 4), .ref (Ma 5), .ref (Ma 6), .int (Mv 2), .int (Mv 3), .int (Mv 4), .int (Mv 5), .int (Mv 6), .int (Mv 7), .int (Mv 8), .ref (Ma 7), .int (Mv 9), .ref (Ma 8), .int (Mv 10), .ref (Ma 9), .ref (Ma 10), .int (Mv 11), .int (Mv 12), .int (Mv 13), .ref (Ma 11), .int (Mv 14), .ref (Ma 12), .ref (Ma 13), .ref (Ma 14), .ref (Ma 15), .ref (Ma 16), .long (Mj 0), .ref (Ma 17), .ref (Ma 18), .ref (Ma 19), .ref (Ma 20)])), ((Ma 1), .inl (tc 2, 400, .inl (Mf 1)))] (fun (v : Option Value) (oo0x1 : Int32) => ∃ r : Int32, v = some (.int r) ∧ ((r.toInt = pz_wa (rB (Mf 1) (Mv 0)) (pz_sk (rB (Mf 1) (Mv 0)) (Mv 2).toInt.toNat) pz_words 0 ∧ (r.toInt = -1 ∨ (0 ≤ r.toInt ∧ r.toInt ≤ 12)))) ∧ (((Mv 2) : Int32).toInt ≤ (oo0x1 : Int32).toInt ∧ (oo0x1 : Int32).toInt ≤ ((Mv 0) : Int32).toInt) ∧ (SkR (rB (Mf 1) (Mv 0)) (Mv 2) oo0x1) ∧ (0 ≤ r.toInt → (Ltr (Mf 1) (Mv 0) oo0x1))) (fun (oo0x1 : Int32) => [((Ma 0), .inr (12, [.ref (Ma 1), .int (Mv 0), .int (Mv 1), .ref (Ma 2), .ref (Ma 3), .ref (Ma 4), .ref (Ma 5), .ref (Ma 6), .int oo0x1, .int (Mv 3), .int (Mv 4), .int (Mv 5), .int (Mv 6), .int (Mv 7), .int (Mv 8), .ref (Ma 7), .int (Mv 9), .ref (Ma 8), .int (Mv 10), .ref (Ma 9), .ref (Ma 10), .int (Mv 11), .int (Mv 12), .int (Mv 13), .ref (Ma 11), .int (Mv 14), .ref (Ma 12), .ref (Ma 13), .ref (Ma 14), .ref (Ma 15), .ref (Ma 16), .long (Mj 0), .ref (Ma 17), .ref (Ma 18), .ref (Ma 19), .ref (Ma 20)])), ((Ma 1), .inl (tc 2, 400, .inl (Mf 1)))]) 0 0 := by
  refine Ct.start (by decide) (Nat.le_of_ble_eq_true rfl) (fun p e s m below meth c A ls hx hb hr hlk hin hml hown hts hK hX hP hD hA hl hS => ?_)
  have hl : lv_has ls 1 [(0, .ref (Ma 0))] := hl
  refine lv_aload_n hx hb dX12_wordHere_0 rfl (lv_at hl 0 rfl) ?_
  refine lv_ldc2 hx hb hown (hts _ k_1226) dX12_wordHere_1 ?_
  refine cV (a := (Ma 0)) (As := [.long 422877685106]) (rest := []) (wr := []) ⟨hx, hb, hml, hown, hts⟩ hK hX hA (cu_fX12_isWord l D tc sk (Ma 0) (Ma 1) (Ma 2) (Ma 3) (Ma 4) (Ma 5) (Ma 6) (Ma 7) (Ma 8) (Ma 9) (Ma 10) (Ma 11) (Ma 12) (Ma 13) (Ma 14) (Ma 15) (Ma 16) (Ma 17) (Ma 18) (Ma 19) (Ma 20) (Mv 0) (Mv 1) (Mv 2) (Mv 3) (Mv 4) (Mv 5) (Mv 6) (Mv 7) (Mv 8) (Mv 9) (Mv 10) (Mv 11) (Mv 12) (Mv 13) (Mv 14) (Mf 1) (Mj 0) 422877685106 h_nx h_bs) k_1220 k_1217 k_1219 k_29 k_106 pl_X12_isWord ⟨Nat.le_of_ble_eq_true rfl, Nat.le_of_ble_eq_true rfl⟩ rfl rfl (va_recv hK hP (ci := 12) (q0 := 0) rfl rfl) hP hD hS [0, 1] [] rfl rfl rfl rfl rfl (by decide) rfl hl.1 rfl (Nat.le_of_ble_eq_true rfl) dX12_wordHere_4 ⟨Nat.le_of_ble_eq_true rfl, Nat.le_of_ble_eq_true rfl⟩ (fun v_1 u_2 H locs hv_3 hP₀ hD₀ hS₀ => ?_)
  obtain ⟨sv_4, rfl⟩ : ∃ z, z = u_2 := ⟨_, rfl⟩
  obtain ⟨r_9, rfl, he_10, pf_5, pf_6, pf_7, pf_8, hm_12, hm_13⟩ := hv_3
  have he_10 : (r_9.toInt = 0 ∨ r_9.toInt = 1) := he_10
  have pf_5 : ((Mv 2) : Int32).toInt ≤ (sv_4 : Int32).toInt ∧ (sv_4 : Int32).toInt ≤ ((Mv 0) : Int32).toInt := pf_5
  have pf_6 : NSq (Mf 1) (Mv 0) sv_4 := pf_6
  have pf_7 : Stl (Mf 1) (Mv 0) (Mv 2) sv_4 := pf_7
  have pf_8 : SkR (rB (Mf 1) (Mv 0)) (Mv 2) sv_4 := pf_8
  refine W.eq (g2 := F0 m 7 ls [.int r_9]) rfl ?_
  replace hP : va_P D classes [((Ma 0), .inr (12, [.ref (Ma 1), .int (Mv 0), .int (Mv 1), .ref (Ma 2), .ref (Ma 3), .ref (Ma 4), .ref (Ma 5), .ref (Ma 6), .int sv_4, .int (Mv 3), .int (Mv 4), .int (Mv 5), .int (Mv 6), .int (Mv 7), .int (Mv 8), .ref (Ma 7), .int (Mv 9), .ref (Ma 8), .int (Mv 10), .ref (Ma 9), .ref (Ma 10), .int (Mv 11), .int (Mv 12), .int (Mv 13), .ref (Ma 11), .int (Mv 14), .ref (Ma 12), .ref (Ma 13), .ref (Ma 14), .ref (Ma 15), .ref (Ma 16), .long (Mj 0), .ref (Ma 17), .ref (Ma 18), .ref (Ma 19), .ref (Ma 20)])), ((Ma 1), .inl (tc 2, 400, .inl (Mf 1)))] H := hP₀
  replace hD : va_D A [((Ma 0), .inr (12, [.ref (Ma 1), .int (Mv 0), .int (Mv 1), .ref (Ma 2), .ref (Ma 3), .ref (Ma 4), .ref (Ma 5), .ref (Ma 6), .int sv_4, .int (Mv 3), .int (Mv 4), .int (Mv 5), .int (Mv 6), .int (Mv 7), .int (Mv 8), .ref (Ma 7), .int (Mv 9), .ref (Ma 8), .int (Mv 10), .ref (Ma 9), .ref (Ma 10), .int (Mv 11), .int (Mv 12), .int (Mv 13), .ref (Ma 11), .int (Mv 14), .ref (Ma 12), .ref (Ma 13), .ref (Ma 14), .ref (Ma 15), .ref (Ma 16), .long (Mj 0), .ref (Ma 17), .ref (Ma 18), .ref (Ma 19), .ref (Ma 20)])), ((Ma 1), .inl (tc 2, 400, .inl (Mf 1)))] := hD₀
  replace hS := hS₀
  clear hP₀ hD₀ hS₀
  refine lv_if_eq (tgt := 12) hx hb dX12_wordHere_7 (by decide) (fun c_14 => ?_) (fun c_14 => ?_)
  · skip
    have hz_16 : (r_9 : Int32).toInt = 0 := by
      have z_1 := congrArg Int32.toInt c_14
      have y_0 : (0 : Int32).toInt = 0 := by decide
      omega
    obtain pf_15 := hm_13 hz_16
    have pf_15 : NPk (rB (Mf 1) (Mv 0)) ((sv_4 : Int32).toInt.toNat) (422877685106 : Int64).toInt := pf_15
    refine lv_aload_n hx hb dX12_wordHere_12 rfl (lv_at hl 0 rfl) ?_
    refine lv_ldc2 hx hb hown (hts _ k_1301) dX12_wordHere_13 ?_
    have ha_17 : 0 ≤ (sv_4 : Int32).toInt ∧ (sv_4 : Int32).toInt ≤ ((Mv 0) : Int32).toInt ∧ ((Mv 0) : Int32).toInt ≤ 400 := by
      have z_1 := congrArg Int32.toInt c_14
      have y_0 : (0 : Int32).toInt = 0 := by decide
      omega
    refine cV (a := (Ma 0)) (As := [.long 127978976601458]) (rest := []) (wr := []) ⟨hx, hb, hml, hown, hts⟩ hK hX hA (cu_fX12_isWord l D tc sk (Ma 0) (Ma 1) (Ma 2) (Ma 3) (Ma 4) (Ma 5) (Ma 6) (Ma 7) (Ma 8) (Ma 9) (Ma 10) (Ma 11) (Ma 12) (Ma 13) (Ma 14) (Ma 15) (Ma 16) (Ma 17) (Ma 18) (Ma 19) (Ma 20) (Mv 0) (Mv 1) sv_4 (Mv 3) (Mv 4) (Mv 5) (Mv 6) (Mv 7) (Mv 8) (Mv 9) (Mv 10) (Mv 11) (Mv 12) (Mv 13) (Mv 14) (Mf 1) (Mj 0) 127978976601458 ha_17 h_bs) k_1220 k_1217 k_1219 k_29 k_106 pl_X12_isWord ⟨Nat.le_of_ble_eq_true rfl, Nat.le_of_ble_eq_true rfl⟩ rfl rfl (va_recv hK hP (ci := 12) (q0 := 0) rfl rfl) hP hD hS [0, 1] [] rfl rfl rfl rfl rfl (by decide) rfl hl.1 rfl (Nat.le_of_ble_eq_true rfl) dX12_wordHere_16 ⟨Nat.le_of_ble_eq_true rfl, Nat.le_of_ble_eq_true rfl⟩ (fun v_18 u_19 H locs hv_20 hP₀ hD₀ hS₀ => ?_)
    obtain ⟨sv_21, rfl⟩ : ∃ z, z = u_19 := ⟨_, rfl⟩
    obtain ⟨r_26, rfl, he_27, pf_22, pf_23, pf_24, pf_25, hm_29, hm_30⟩ := hv_20
    have he_27 : (r_26.toInt = 0 ∨ r_26.toInt = 1) := he_27
    have pf_22 : (sv_4 : Int32).toInt ≤ (sv_21 : Int32).toInt ∧ (sv_21 : Int32).toInt ≤ ((Mv 0) : Int32).toInt := pf_22
    have pf_23 : NSq (Mf 1) (Mv 0) sv_21 := pf_23
    have pf_24 : Stl (Mf 1) (Mv 0) sv_4 sv_21 := pf_24
    have ar_pf_24 := Stl.or pf_24 pf_6
    have pf_25 : SkR (rB (Mf 1) (Mv 0)) sv_4 sv_21 := pf_25
    refine W.eq (g2 := F0 m 19 ls [.int r_26]) rfl ?_
    replace hP : va_P D classes [((Ma 0), .inr (12, [.ref (Ma 1), .int (Mv 0), .int (Mv 1), .ref (Ma 2), .ref (Ma 3), .ref (Ma 4), .ref (Ma 5), .ref (Ma 6), .int sv_21, .int (Mv 3), .int (Mv 4), .int (Mv 5), .int (Mv 6), .int (Mv 7), .int (Mv 8), .ref (Ma 7), .int (Mv 9), .ref (Ma 8), .int (Mv 10), .ref (Ma 9), .ref (Ma 10), .int (Mv 11), .int (Mv 12), .int (Mv 13), .ref (Ma 11), .int (Mv 14), .ref (Ma 12), .ref (Ma 13), .ref (Ma 14), .ref (Ma 15), .ref (Ma 16), .long (Mj 0), .ref (Ma 17), .ref (Ma 18), .ref (Ma 19), .ref (Ma 20)])), ((Ma 1), .inl (tc 2, 400, .inl (Mf 1)))] H := hP₀
    replace hD : va_D A [((Ma 0), .inr (12, [.ref (Ma 1), .int (Mv 0), .int (Mv 1), .ref (Ma 2), .ref (Ma 3), .ref (Ma 4), .ref (Ma 5), .ref (Ma 6), .int sv_21, .int (Mv 3), .int (Mv 4), .int (Mv 5), .int (Mv 6), .int (Mv 7), .int (Mv 8), .ref (Ma 7), .int (Mv 9), .ref (Ma 8), .int (Mv 10), .ref (Ma 9), .ref (Ma 10), .int (Mv 11), .int (Mv 12), .int (Mv 13), .ref (Ma 11), .int (Mv 14), .ref (Ma 12), .ref (Ma 13), .ref (Ma 14), .ref (Ma 15), .ref (Ma 16), .long (Mj 0), .ref (Ma 17), .ref (Ma 18), .ref (Ma 19), .ref (Ma 20)])), ((Ma 1), .inl (tc 2, 400, .inl (Mf 1)))] := hD₀
    replace hS := hS₀
    clear hP₀ hD₀ hS₀
    refine lv_if_eq (tgt := 24) hx hb dX12_wordHere_19 (by decide) (fun c_31 => ?_) (fun c_31 => ?_)
    · skip
      have hz_33 : (r_26 : Int32).toInt = 0 := by
        have z_1 := congrArg Int32.toInt c_14
        have z_2 := congrArg Int32.toInt c_31
        have y_0 : (0 : Int32).toInt = 0 := by decide
        omega
      obtain pf_32 := hm_30 hz_33
      have pf_32 : NPk (rB (Mf 1) (Mv 0)) ((sv_21 : Int32).toInt.toNat) (127978976601458 : Int64).toInt := pf_32
      refine lv_aload_n hx hb dX12_wordHere_24 rfl (lv_at hl 0 rfl) ?_
      refine lv_ldc2 hx hb hown (hts _ k_1302) dX12_wordHere_25 ?_
      have ha_34 : 0 ≤ (sv_21 : Int32).toInt ∧ (sv_21 : Int32).toInt ≤ ((Mv 0) : Int32).toInt ∧ ((Mv 0) : Int32).toInt ≤ 400 := by
        have z_1 := congrArg Int32.toInt c_14
        have z_2 := congrArg Int32.toInt c_31
        have y_0 : (0 : Int32).toInt = 0 := by decide
        omega
      refine cV (a := (Ma 0)) (As := [.long 113740958232179]) (rest := []) (wr := []) ⟨hx, hb, hml, hown, hts⟩ hK hX hA (cu_fX12_isWord l D tc sk (Ma 0) (Ma 1) (Ma 2) (Ma 3) (Ma 4) (Ma 5) (Ma 6) (Ma 7) (Ma 8) (Ma 9) (Ma 10) (Ma 11) (Ma 12) (Ma 13) (Ma 14) (Ma 15) (Ma 16) (Ma 17) (Ma 18) (Ma 19) (Ma 20) (Mv 0) (Mv 1) sv_21 (Mv 3) (Mv 4) (Mv 5) (Mv 6) (Mv 7) (Mv 8) (Mv 9) (Mv 10) (Mv 11) (Mv 12) (Mv 13) (Mv 14) (Mf 1) (Mj 0) 113740958232179 ha_34 h_bs) k_1220 k_1217 k_1219 k_29 k_106 pl_X12_isWord ⟨Nat.le_of_ble_eq_true rfl, Nat.le_of_ble_eq_true rfl⟩ rfl rfl (va_recv hK hP (ci := 12) (q0 := 0) rfl rfl) hP hD hS [0, 1] [] rfl rfl rfl rfl rfl (by decide) rfl hl.1 rfl (Nat.le_of_ble_eq_true rfl) dX12_wordHere_28 ⟨Nat.le_of_ble_eq_true rfl, Nat.le_of_ble_eq_true rfl⟩ (fun v_35 u_36 H locs hv_37 hP₀ hD₀ hS₀ => ?_)
      obtain ⟨sv_38, rfl⟩ : ∃ z, z = u_36 := ⟨_, rfl⟩
      obtain ⟨r_43, rfl, he_44, pf_39, pf_40, pf_41, pf_42, hm_46, hm_47⟩ := hv_37
      have he_44 : (r_43.toInt = 0 ∨ r_43.toInt = 1) := he_44
      have pf_39 : (sv_21 : Int32).toInt ≤ (sv_38 : Int32).toInt ∧ (sv_38 : Int32).toInt ≤ ((Mv 0) : Int32).toInt := pf_39
      have pf_40 : NSq (Mf 1) (Mv 0) sv_38 := pf_40
      have pf_41 : Stl (Mf 1) (Mv 0) sv_21 sv_38 := pf_41
      have ar_pf_41 := Stl.or pf_41 pf_23
      have pf_42 : SkR (rB (Mf 1) (Mv 0)) sv_21 sv_38 := pf_42
      refine W.eq (g2 := F0 m 31 ls [.int r_43]) rfl ?_
      replace hP : va_P D classes [((Ma 0), .inr (12, [.ref (Ma 1), .int (Mv 0), .int (Mv 1), .ref (Ma 2), .ref (Ma 3), .ref (Ma 4), .ref (Ma 5), .ref (Ma 6), .int sv_38, .int (Mv 3), .int (Mv 4), .int (Mv 5), .int (Mv 6), .int (Mv 7), .int (Mv 8), .ref (Ma 7), .int (Mv 9), .ref (Ma 8), .int (Mv 10), .ref (Ma 9), .ref (Ma 10), .int (Mv 11), .int (Mv 12), .int (Mv 13), .ref (Ma 11), .int (Mv 14), .ref (Ma 12), .ref (Ma 13), .ref (Ma 14), .ref (Ma 15), .ref (Ma 16), .long (Mj 0), .ref (Ma 17), .ref (Ma 18), .ref (Ma 19), .ref (Ma 20)])), ((Ma 1), .inl (tc 2, 400, .inl (Mf 1)))] H := hP₀
      replace hD : va_D A [((Ma 0), .inr (12, [.ref (Ma 1), .int (Mv 0), .int (Mv 1), .ref (Ma 2), .ref (Ma 3), .ref (Ma 4), .ref (Ma 5), .ref (Ma 6), .int sv_38, .int (Mv 3), .int (Mv 4), .int (Mv 5), .int (Mv 6), .int (Mv 7), .int (Mv 8), .ref (Ma 7), .int (Mv 9), .ref (Ma 8), .int (Mv 10), .ref (Ma 9), .ref (Ma 10), .int (Mv 11), .int (Mv 12), .int (Mv 13), .ref (Ma 11), .int (Mv 14), .ref (Ma 12), .ref (Ma 13), .ref (Ma 14), .ref (Ma 15), .ref (Ma 16), .long (Mj 0), .ref (Ma 17), .ref (Ma 18), .ref (Ma 19), .ref (Ma 20)])), ((Ma 1), .inl (tc 2, 400, .inl (Mf 1)))] := hD₀
      replace hS := hS₀
      clear hP₀ hD₀ hS₀
      refine lv_if_eq (tgt := 36) hx hb dX12_wordHere_31 (by decide) (fun c_48 => ?_) (fun c_48 => ?_)
      · skip
        have hz_50 : (r_43 : Int32).toInt = 0 := by
          have z_1 := congrArg Int32.toInt c_14
          have z_2 := congrArg Int32.toInt c_31
          have z_3 := congrArg Int32.toInt c_48
          have y_0 : (0 : Int32).toInt = 0 := by decide
          omega
        obtain pf_49 := hm_47 hz_50
        have pf_49 : NPk (rB (Mf 1) (Mv 0)) ((sv_38 : Int32).toInt.toNat) (113740958232179 : Int64).toInt := pf_49
        refine lv_aload_n hx hb dX12_wordHere_36 rfl (lv_at hl 0 rfl) ?_
        refine lv_ldc2 hx hb hown (hts _ k_1303) dX12_wordHere_37 ?_
        have ha_51 : 0 ≤ (sv_38 : Int32).toInt ∧ (sv_38 : Int32).toInt ≤ ((Mv 0) : Int32).toInt ∧ ((Mv 0) : Int32).toInt ≤ 400 := by
          have z_1 := congrArg Int32.toInt c_14
          have z_2 := congrArg Int32.toInt c_31
          have z_3 := congrArg Int32.toInt c_48
          have y_0 : (0 : Int32).toInt = 0 := by decide
          omega
        refine cV (a := (Ma 0)) (As := [.long 512735409267]) (rest := []) (wr := []) ⟨hx, hb, hml, hown, hts⟩ hK hX hA (cu_fX12_isWord l D tc sk (Ma 0) (Ma 1) (Ma 2) (Ma 3) (Ma 4) (Ma 5) (Ma 6) (Ma 7) (Ma 8) (Ma 9) (Ma 10) (Ma 11) (Ma 12) (Ma 13) (Ma 14) (Ma 15) (Ma 16) (Ma 17) (Ma 18) (Ma 19) (Ma 20) (Mv 0) (Mv 1) sv_38 (Mv 3) (Mv 4) (Mv 5) (Mv 6) (Mv 7) (Mv 8) (Mv 9) (Mv 10) (Mv 11) (Mv 12) (Mv 13) (Mv 14) (Mf 1) (Mj 0) 512735409267 ha_51 h_bs) k_1220 k_1217 k_1219 k_29 k_106 pl_X12_isWord ⟨Nat.le_of_ble_eq_true rfl, Nat.le_of_ble_eq_true rfl⟩ rfl rfl (va_recv hK hP (ci := 12) (q0 := 0) rfl rfl) hP hD hS [0, 1] [] rfl rfl rfl rfl rfl (by decide) rfl hl.1 rfl (Nat.le_of_ble_eq_true rfl) dX12_wordHere_40 ⟨Nat.le_of_ble_eq_true rfl, Nat.le_of_ble_eq_true rfl⟩ (fun v_52 u_53 H locs hv_54 hP₀ hD₀ hS₀ => ?_)
        obtain ⟨sv_55, rfl⟩ : ∃ z, z = u_53 := ⟨_, rfl⟩
        obtain ⟨r_60, rfl, he_61, pf_56, pf_57, pf_58, pf_59, hm_63, hm_64⟩ := hv_54
        have he_61 : (r_60.toInt = 0 ∨ r_60.toInt = 1) := he_61
        have pf_56 : (sv_38 : Int32).toInt ≤ (sv_55 : Int32).toInt ∧ (sv_55 : Int32).toInt ≤ ((Mv 0) : Int32).toInt := pf_56
        have pf_57 : NSq (Mf 1) (Mv 0) sv_55 := pf_57
        have pf_58 : Stl (Mf 1) (Mv 0) sv_38 sv_55 := pf_58
        have ar_pf_58 := Stl.or pf_58 pf_40
        have pf_59 : SkR (rB (Mf 1) (Mv 0)) sv_38 sv_55 := pf_59
        refine W.eq (g2 := F0 m 43 ls [.int r_60]) rfl ?_
        replace hP : va_P D classes [((Ma 0), .inr (12, [.ref (Ma 1), .int (Mv 0), .int (Mv 1), .ref (Ma 2), .ref (Ma 3), .ref (Ma 4), .ref (Ma 5), .ref (Ma 6), .int sv_55, .int (Mv 3), .int (Mv 4), .int (Mv 5), .int (Mv 6), .int (Mv 7), .int (Mv 8), .ref (Ma 7), .int (Mv 9), .ref (Ma 8), .int (Mv 10), .ref (Ma 9), .ref (Ma 10), .int (Mv 11), .int (Mv 12), .int (Mv 13), .ref (Ma 11), .int (Mv 14), .ref (Ma 12), .ref (Ma 13), .ref (Ma 14), .ref (Ma 15), .ref (Ma 16), .long (Mj 0), .ref (Ma 17), .ref (Ma 18), .ref (Ma 19), .ref (Ma 20)])), ((Ma 1), .inl (tc 2, 400, .inl (Mf 1)))] H := hP₀
        replace hD : va_D A [((Ma 0), .inr (12, [.ref (Ma 1), .int (Mv 0), .int (Mv 1), .ref (Ma 2), .ref (Ma 3), .ref (Ma 4), .ref (Ma 5), .ref (Ma 6), .int sv_55, .int (Mv 3), .int (Mv 4), .int (Mv 5), .int (Mv 6), .int (Mv 7), .int (Mv 8), .ref (Ma 7), .int (Mv 9), .ref (Ma 8), .int (Mv 10), .ref (Ma 9), .ref (Ma 10), .int (Mv 11), .int (Mv 12), .int (Mv 13), .ref (Ma 11), .int (Mv 14), .ref (Ma 12), .ref (Ma 13), .ref (Ma 14), .ref (Ma 15), .ref (Ma 16), .long (Mj 0), .ref (Ma 17), .ref (Ma 18), .ref (Ma 19), .ref (Ma 20)])), ((Ma 1), .inl (tc 2, 400, .inl (Mf 1)))] := hD₀
        replace hS := hS₀
        clear hP₀ hD₀ hS₀
        refine lv_if_eq (tgt := 48) hx hb dX12_wordHere_43 (by decide) (fun c_65 => ?_) (fun c_65 => ?_)
        · skip
          have hz_67 : (r_60 : Int32).toInt = 0 := by
            have z_1 := congrArg Int32.toInt c_14
            have z_2 := congrArg Int32.toInt c_31
            have z_3 := congrArg Int32.toInt c_48
            have z_4 := congrArg Int32.toInt c_65
            have y_0 : (0 : Int32).toInt = 0 := by decide
            omega
          obtain pf_66 := hm_64 hz_67
          have pf_66 : NPk (rB (Mf 1) (Mv 0)) ((sv_55 : Int32).toInt.toNat) (512735409267 : Int64).toInt := pf_66
          refine lv_aload_n hx hb dX12_wordHere_48 rfl (lv_at hl 0 rfl) ?_
          refine lv_ldc2 hx hb hown (hts _ k_1304) dX12_wordHere_49 ?_
          have ha_68 : 0 ≤ (sv_55 : Int32).toInt ∧ (sv_55 : Int32).toInt ≤ ((Mv 0) : Int32).toInt ∧ ((Mv 0) : Int32).toInt ≤ 400 := by
            have z_1 := congrArg Int32.toInt c_14
            have z_2 := congrArg Int32.toInt c_31
            have z_3 := congrArg Int32.toInt c_48
            have z_4 := congrArg Int32.toInt c_65
            have y_0 : (0 : Int32).toInt = 0 := by decide
            omega
          refine cV (a := (Ma 0)) (As := [.long 495874305132]) (rest := []) (wr := []) ⟨hx, hb, hml, hown, hts⟩ hK hX hA (cu_fX12_isWord l D tc sk (Ma 0) (Ma 1) (Ma 2) (Ma 3) (Ma 4) (Ma 5) (Ma 6) (Ma 7) (Ma 8) (Ma 9) (Ma 10) (Ma 11) (Ma 12) (Ma 13) (Ma 14) (Ma 15) (Ma 16) (Ma 17) (Ma 18) (Ma 19) (Ma 20) (Mv 0) (Mv 1) sv_55 (Mv 3) (Mv 4) (Mv 5) (Mv 6) (Mv 7) (Mv 8) (Mv 9) (Mv 10) (Mv 11) (Mv 12) (Mv 13) (Mv 14) (Mf 1) (Mj 0) 495874305132 ha_68 h_bs) k_1220 k_1217 k_1219 k_29 k_106 pl_X12_isWord ⟨Nat.le_of_ble_eq_true rfl, Nat.le_of_ble_eq_true rfl⟩ rfl rfl (va_recv hK hP (ci := 12) (q0 := 0) rfl rfl) hP hD hS [0, 1] [] rfl rfl rfl rfl rfl (by decide) rfl hl.1 rfl (Nat.le_of_ble_eq_true rfl) dX12_wordHere_52 ⟨Nat.le_of_ble_eq_true rfl, Nat.le_of_ble_eq_true rfl⟩ (fun v_69 u_70 H locs hv_71 hP₀ hD₀ hS₀ => ?_)
          obtain ⟨sv_72, rfl⟩ : ∃ z, z = u_70 := ⟨_, rfl⟩
          obtain ⟨r_77, rfl, he_78, pf_73, pf_74, pf_75, pf_76, hm_80, hm_81⟩ := hv_71
          have he_78 : (r_77.toInt = 0 ∨ r_77.toInt = 1) := he_78
          have pf_73 : (sv_55 : Int32).toInt ≤ (sv_72 : Int32).toInt ∧ (sv_72 : Int32).toInt ≤ ((Mv 0) : Int32).toInt := pf_73
          have pf_74 : NSq (Mf 1) (Mv 0) sv_72 := pf_74
          have pf_75 : Stl (Mf 1) (Mv 0) sv_55 sv_72 := pf_75
          have ar_pf_75 := Stl.or pf_75 pf_57
          have pf_76 : SkR (rB (Mf 1) (Mv 0)) sv_55 sv_72 := pf_76
          refine W.eq (g2 := F0 m 55 ls [.int r_77]) rfl ?_
          replace hP : va_P D classes [((Ma 0), .inr (12, [.ref (Ma 1), .int (Mv 0), .int (Mv 1), .ref (Ma 2), .ref (Ma 3), .ref (Ma 4), .ref (Ma 5), .ref (Ma 6), .int sv_72, .int (Mv 3), .int (Mv 4), .int (Mv 5), .int (Mv 6), .int (Mv 7), .int (Mv 8), .ref (Ma 7), .int (Mv 9), .ref (Ma 8), .int (Mv 10), .ref (Ma 9), .ref (Ma 10), .int (Mv 11), .int (Mv 12), .int (Mv 13), .ref (Ma 11), .int (Mv 14), .ref (Ma 12), .ref (Ma 13), .ref (Ma 14), .ref (Ma 15), .ref (Ma 16), .long (Mj 0), .ref (Ma 17), .ref (Ma 18), .ref (Ma 19), .ref (Ma 20)])), ((Ma 1), .inl (tc 2, 400, .inl (Mf 1)))] H := hP₀
          replace hD : va_D A [((Ma 0), .inr (12, [.ref (Ma 1), .int (Mv 0), .int (Mv 1), .ref (Ma 2), .ref (Ma 3), .ref (Ma 4), .ref (Ma 5), .ref (Ma 6), .int sv_72, .int (Mv 3), .int (Mv 4), .int (Mv 5), .int (Mv 6), .int (Mv 7), .int (Mv 8), .ref (Ma 7), .int (Mv 9), .ref (Ma 8), .int (Mv 10), .ref (Ma 9), .ref (Ma 10), .int (Mv 11), .int (Mv 12), .int (Mv 13), .ref (Ma 11), .int (Mv 14), .ref (Ma 12), .ref (Ma 13), .ref (Ma 14), .ref (Ma 15), .ref (Ma 16), .long (Mj 0), .ref (Ma 17), .ref (Ma 18), .ref (Ma 19), .ref (Ma 20)])), ((Ma 1), .inl (tc 2, 400, .inl (Mf 1)))] := hD₀
          replace hS := hS₀
          clear hP₀ hD₀ hS₀
          refine lv_if_eq (tgt := 60) hx hb dX12_wordHere_55 (by decide) (fun c_82 => ?_) (fun c_82 => ?_)
          · skip
            have hz_84 : (r_77 : Int32).toInt = 0 := by
              have z_1 := congrArg Int32.toInt c_14
              have z_2 := congrArg Int32.toInt c_31
              have z_3 := congrArg Int32.toInt c_48
              have z_4 := congrArg Int32.toInt c_65
              have z_5 := congrArg Int32.toInt c_82
              have y_0 : (0 : Int32).toInt = 0 := by decide
              omega
            obtain pf_83 := hm_81 hz_84
            have pf_83 : NPk (rB (Mf 1) (Mv 0)) ((sv_72 : Int32).toInt.toNat) (495874305132 : Int64).toInt := pf_83
            refine lv_aload_n hx hb dX12_wordHere_60 rfl (lv_at hl 0 rfl) ?_
            refine lv_ldc2 hx hb hown (hts _ k_1305) dX12_wordHere_61 ?_
            have ha_85 : 0 ≤ (sv_72 : Int32).toInt ∧ (sv_72 : Int32).toInt ≤ ((Mv 0) : Int32).toInt ∧ ((Mv 0) : Int32).toInt ≤ 400 := by
              have z_1 := congrArg Int32.toInt c_14
              have z_2 := congrArg Int32.toInt c_31
              have z_3 := congrArg Int32.toInt c_48
              have z_4 := congrArg Int32.toInt c_65
              have z_5 := congrArg Int32.toInt c_82
              have y_0 : (0 : Int32).toInt = 0 := by decide
              omega
            refine cV (a := (Ma 0)) (As := [.long 1852143732]) (rest := []) (wr := []) ⟨hx, hb, hml, hown, hts⟩ hK hX hA (cu_fX12_isWord l D tc sk (Ma 0) (Ma 1) (Ma 2) (Ma 3) (Ma 4) (Ma 5) (Ma 6) (Ma 7) (Ma 8) (Ma 9) (Ma 10) (Ma 11) (Ma 12) (Ma 13) (Ma 14) (Ma 15) (Ma 16) (Ma 17) (Ma 18) (Ma 19) (Ma 20) (Mv 0) (Mv 1) sv_72 (Mv 3) (Mv 4) (Mv 5) (Mv 6) (Mv 7) (Mv 8) (Mv 9) (Mv 10) (Mv 11) (Mv 12) (Mv 13) (Mv 14) (Mf 1) (Mj 0) 1852143732 ha_85 h_bs) k_1220 k_1217 k_1219 k_29 k_106 pl_X12_isWord ⟨Nat.le_of_ble_eq_true rfl, Nat.le_of_ble_eq_true rfl⟩ rfl rfl (va_recv hK hP (ci := 12) (q0 := 0) rfl rfl) hP hD hS [0, 1] [] rfl rfl rfl rfl rfl (by decide) rfl hl.1 rfl (Nat.le_of_ble_eq_true rfl) dX12_wordHere_64 ⟨Nat.le_of_ble_eq_true rfl, Nat.le_of_ble_eq_true rfl⟩ (fun v_86 u_87 H locs hv_88 hP₀ hD₀ hS₀ => ?_)
            obtain ⟨sv_89, rfl⟩ : ∃ z, z = u_87 := ⟨_, rfl⟩
            obtain ⟨r_94, rfl, he_95, pf_90, pf_91, pf_92, pf_93, hm_97, hm_98⟩ := hv_88
            have he_95 : (r_94.toInt = 0 ∨ r_94.toInt = 1) := he_95
            have pf_90 : (sv_72 : Int32).toInt ≤ (sv_89 : Int32).toInt ∧ (sv_89 : Int32).toInt ≤ ((Mv 0) : Int32).toInt := pf_90
            have pf_91 : NSq (Mf 1) (Mv 0) sv_89 := pf_91
            have pf_92 : Stl (Mf 1) (Mv 0) sv_72 sv_89 := pf_92
            have ar_pf_92 := Stl.or pf_92 pf_74
            have pf_93 : SkR (rB (Mf 1) (Mv 0)) sv_72 sv_89 := pf_93
            refine W.eq (g2 := F0 m 67 ls [.int r_94]) rfl ?_
            replace hP : va_P D classes [((Ma 0), .inr (12, [.ref (Ma 1), .int (Mv 0), .int (Mv 1), .ref (Ma 2), .ref (Ma 3), .ref (Ma 4), .ref (Ma 5), .ref (Ma 6), .int sv_89, .int (Mv 3), .int (Mv 4), .int (Mv 5), .int (Mv 6), .int (Mv 7), .int (Mv 8), .ref (Ma 7), .int (Mv 9), .ref (Ma 8), .int (Mv 10), .ref (Ma 9), .ref (Ma 10), .int (Mv 11), .int (Mv 12), .int (Mv 13), .ref (Ma 11), .int (Mv 14), .ref (Ma 12), .ref (Ma 13), .ref (Ma 14), .ref (Ma 15), .ref (Ma 16), .long (Mj 0), .ref (Ma 17), .ref (Ma 18), .ref (Ma 19), .ref (Ma 20)])), ((Ma 1), .inl (tc 2, 400, .inl (Mf 1)))] H := hP₀
            replace hD : va_D A [((Ma 0), .inr (12, [.ref (Ma 1), .int (Mv 0), .int (Mv 1), .ref (Ma 2), .ref (Ma 3), .ref (Ma 4), .ref (Ma 5), .ref (Ma 6), .int sv_89, .int (Mv 3), .int (Mv 4), .int (Mv 5), .int (Mv 6), .int (Mv 7), .int (Mv 8), .ref (Ma 7), .int (Mv 9), .ref (Ma 8), .int (Mv 10), .ref (Ma 9), .ref (Ma 10), .int (Mv 11), .int (Mv 12), .int (Mv 13), .ref (Ma 11), .int (Mv 14), .ref (Ma 12), .ref (Ma 13), .ref (Ma 14), .ref (Ma 15), .ref (Ma 16), .long (Mj 0), .ref (Ma 17), .ref (Ma 18), .ref (Ma 19), .ref (Ma 20)])), ((Ma 1), .inl (tc 2, 400, .inl (Mf 1)))] := hD₀
            replace hS := hS₀
            clear hP₀ hD₀ hS₀
            refine lv_if_eq (tgt := 72) hx hb dX12_wordHere_67 (by decide) (fun c_99 => ?_) (fun c_99 => ?_)
            · skip
              have hz_101 : (r_94 : Int32).toInt = 0 := by
                have z_1 := congrArg Int32.toInt c_14
                have z_2 := congrArg Int32.toInt c_31
                have z_3 := congrArg Int32.toInt c_48
                have z_4 := congrArg Int32.toInt c_65
                have z_5 := congrArg Int32.toInt c_82
                have z_6 := congrArg Int32.toInt c_99
                have y_0 : (0 : Int32).toInt = 0 := by decide
                omega
              obtain pf_100 := hm_98 hz_101
              have pf_100 : NPk (rB (Mf 1) (Mv 0)) ((sv_89 : Int32).toInt.toNat) (1852143732 : Int64).toInt := pf_100
              refine lv_aload_n hx hb dX12_wordHere_72 rfl (lv_at hl 0 rfl) ?_
              refine lv_ldc2 hx hb hown (hts _ k_1306) dX12_wordHere_73 ?_
              have ha_102 : 0 ≤ (sv_89 : Int32).toInt ∧ (sv_89 : Int32).toInt ≤ ((Mv 0) : Int32).toInt ∧ ((Mv 0) : Int32).toInt ≤ 400 := by
                have z_1 := congrArg Int32.toInt c_14
                have z_2 := congrArg Int32.toInt c_31
                have z_3 := congrArg Int32.toInt c_48
                have z_4 := congrArg Int32.toInt c_65
                have z_5 := congrArg Int32.toInt c_82
                have z_6 := congrArg Int32.toInt c_99
                have y_0 : (0 : Int32).toInt = 0 := by decide
                omega
              refine cV (a := (Ma 0)) (As := [.long 495672716390]) (rest := []) (wr := []) ⟨hx, hb, hml, hown, hts⟩ hK hX hA (cu_fX12_isWord l D tc sk (Ma 0) (Ma 1) (Ma 2) (Ma 3) (Ma 4) (Ma 5) (Ma 6) (Ma 7) (Ma 8) (Ma 9) (Ma 10) (Ma 11) (Ma 12) (Ma 13) (Ma 14) (Ma 15) (Ma 16) (Ma 17) (Ma 18) (Ma 19) (Ma 20) (Mv 0) (Mv 1) sv_89 (Mv 3) (Mv 4) (Mv 5) (Mv 6) (Mv 7) (Mv 8) (Mv 9) (Mv 10) (Mv 11) (Mv 12) (Mv 13) (Mv 14) (Mf 1) (Mj 0) 495672716390 ha_102 h_bs) k_1220 k_1217 k_1219 k_29 k_106 pl_X12_isWord ⟨Nat.le_of_ble_eq_true rfl, Nat.le_of_ble_eq_true rfl⟩ rfl rfl (va_recv hK hP (ci := 12) (q0 := 0) rfl rfl) hP hD hS [0, 1] [] rfl rfl rfl rfl rfl (by decide) rfl hl.1 rfl (Nat.le_of_ble_eq_true rfl) dX12_wordHere_76 ⟨Nat.le_of_ble_eq_true rfl, Nat.le_of_ble_eq_true rfl⟩ (fun v_103 u_104 H locs hv_105 hP₀ hD₀ hS₀ => ?_)
              obtain ⟨sv_106, rfl⟩ : ∃ z, z = u_104 := ⟨_, rfl⟩
              obtain ⟨r_111, rfl, he_112, pf_107, pf_108, pf_109, pf_110, hm_114, hm_115⟩ := hv_105
              have he_112 : (r_111.toInt = 0 ∨ r_111.toInt = 1) := he_112
              have pf_107 : (sv_89 : Int32).toInt ≤ (sv_106 : Int32).toInt ∧ (sv_106 : Int32).toInt ≤ ((Mv 0) : Int32).toInt := pf_107
              have pf_108 : NSq (Mf 1) (Mv 0) sv_106 := pf_108
              have pf_109 : Stl (Mf 1) (Mv 0) sv_89 sv_106 := pf_109
              have ar_pf_109 := Stl.or pf_109 pf_91
              have pf_110 : SkR (rB (Mf 1) (Mv 0)) sv_89 sv_106 := pf_110
              refine W.eq (g2 := F0 m 79 ls [.int r_111]) rfl ?_
              replace hP : va_P D classes [((Ma 0), .inr (12, [.ref (Ma 1), .int (Mv 0), .int (Mv 1), .ref (Ma 2), .ref (Ma 3), .ref (Ma 4), .ref (Ma 5), .ref (Ma 6), .int sv_106, .int (Mv 3), .int (Mv 4), .int (Mv 5), .int (Mv 6), .int (Mv 7), .int (Mv 8), .ref (Ma 7), .int (Mv 9), .ref (Ma 8), .int (Mv 10), .ref (Ma 9), .ref (Ma 10), .int (Mv 11), .int (Mv 12), .int (Mv 13), .ref (Ma 11), .int (Mv 14), .ref (Ma 12), .ref (Ma 13), .ref (Ma 14), .ref (Ma 15), .ref (Ma 16), .long (Mj 0), .ref (Ma 17), .ref (Ma 18), .ref (Ma 19), .ref (Ma 20)])), ((Ma 1), .inl (tc 2, 400, .inl (Mf 1)))] H := hP₀
              replace hD : va_D A [((Ma 0), .inr (12, [.ref (Ma 1), .int (Mv 0), .int (Mv 1), .ref (Ma 2), .ref (Ma 3), .ref (Ma 4), .ref (Ma 5), .ref (Ma 6), .int sv_106, .int (Mv 3), .int (Mv 4), .int (Mv 5), .int (Mv 6), .int (Mv 7), .int (Mv 8), .ref (Ma 7), .int (Mv 9), .ref (Ma 8), .int (Mv 10), .ref (Ma 9), .ref (Ma 10), .int (Mv 11), .int (Mv 12), .int (Mv 13), .ref (Ma 11), .int (Mv 14), .ref (Ma 12), .ref (Ma 13), .ref (Ma 14), .ref (Ma 15), .ref (Ma 16), .long (Mj 0), .ref (Ma 17), .ref (Ma 18), .ref (Ma 19), .ref (Ma 20)])), ((Ma 1), .inl (tc 2, 400, .inl (Mf 1)))] := hD₀
              replace hS := hS₀
              clear hP₀ hD₀ hS₀
              refine lv_if_eq (tgt := 85) hx hb dX12_wordHere_79 (by decide) (fun c_116 => ?_) (fun c_116 => ?_)
              · skip
                have hz_118 : (r_111 : Int32).toInt = 0 := by
                  have z_1 := congrArg Int32.toInt c_14
                  have z_2 := congrArg Int32.toInt c_31
                  have z_3 := congrArg Int32.toInt c_48
                  have z_4 := congrArg Int32.toInt c_65
                  have z_5 := congrArg Int32.toInt c_82
                  have z_6 := congrArg Int32.toInt c_99
                  have z_7 := congrArg Int32.toInt c_116
                  have y_0 : (0 : Int32).toInt = 0 := by decide
                  omega
                obtain pf_117 := hm_115 hz_118
                have pf_117 : NPk (rB (Mf 1) (Mv 0)) ((sv_106 : Int32).toInt.toNat) (495672716390 : Int64).toInt := pf_117
                refine lv_aload_n hx hb dX12_wordHere_85 rfl (lv_at hl 0 rfl) ?_
                refine lv_ldc2 hx hb hown (hts _ k_1307) dX12_wordHere_86 ?_
                have ha_119 : 0 ≤ (sv_106 : Int32).toInt ∧ (sv_106 : Int32).toInt ≤ ((Mv 0) : Int32).toInt ∧ ((Mv 0) : Int32).toInt ≤ 400 := by
                  have z_1 := congrArg Int32.toInt c_14
                  have z_2 := congrArg Int32.toInt c_31
                  have z_3 := congrArg Int32.toInt c_48
                  have z_4 := congrArg Int32.toInt c_65
                  have z_5 := congrArg Int32.toInt c_82
                  have z_6 := congrArg Int32.toInt c_99
                  have z_7 := congrArg Int32.toInt c_116
                  have y_0 : (0 : Int32).toInt = 0 := by decide
                  omega
                refine cV (a := (Ma 0)) (As := [.long 108230850603124]) (rest := []) (wr := []) ⟨hx, hb, hml, hown, hts⟩ hK hX hA (cu_fX12_isWord l D tc sk (Ma 0) (Ma 1) (Ma 2) (Ma 3) (Ma 4) (Ma 5) (Ma 6) (Ma 7) (Ma 8) (Ma 9) (Ma 10) (Ma 11) (Ma 12) (Ma 13) (Ma 14) (Ma 15) (Ma 16) (Ma 17) (Ma 18) (Ma 19) (Ma 20) (Mv 0) (Mv 1) sv_106 (Mv 3) (Mv 4) (Mv 5) (Mv 6) (Mv 7) (Mv 8) (Mv 9) (Mv 10) (Mv 11) (Mv 12) (Mv 13) (Mv 14) (Mf 1) (Mj 0) 108230850603124 ha_119 h_bs) k_1220 k_1217 k_1219 k_29 k_106 pl_X12_isWord ⟨Nat.le_of_ble_eq_true rfl, Nat.le_of_ble_eq_true rfl⟩ rfl rfl (va_recv hK hP (ci := 12) (q0 := 0) rfl rfl) hP hD hS [0, 1] [] rfl rfl rfl rfl rfl (by decide) rfl hl.1 rfl (Nat.le_of_ble_eq_true rfl) dX12_wordHere_89 ⟨Nat.le_of_ble_eq_true rfl, Nat.le_of_ble_eq_true rfl⟩ (fun v_120 u_121 H locs hv_122 hP₀ hD₀ hS₀ => ?_)
                obtain ⟨sv_123, rfl⟩ : ∃ z, z = u_121 := ⟨_, rfl⟩
                obtain ⟨r_128, rfl, he_129, pf_124, pf_125, pf_126, pf_127, hm_131, hm_132⟩ := hv_122
                have he_129 : (r_128.toInt = 0 ∨ r_128.toInt = 1) := he_129
                have pf_124 : (sv_106 : Int32).toInt ≤ (sv_123 : Int32).toInt ∧ (sv_123 : Int32).toInt ≤ ((Mv 0) : Int32).toInt := pf_124
                have pf_125 : NSq (Mf 1) (Mv 0) sv_123 := pf_125
                have pf_126 : Stl (Mf 1) (Mv 0) sv_106 sv_123 := pf_126
                have ar_pf_126 := Stl.or pf_126 pf_108
                have pf_127 : SkR (rB (Mf 1) (Mv 0)) sv_106 sv_123 := pf_127
                refine W.eq (g2 := F0 m 92 ls [.int r_128]) rfl ?_
                replace hP : va_P D classes [((Ma 0), .inr (12, [.ref (Ma 1), .int (Mv 0), .int (Mv 1), .ref (Ma 2), .ref (Ma 3), .ref (Ma 4), .ref (Ma 5), .ref (Ma 6), .int sv_123, .int (Mv 3), .int (Mv 4), .int (Mv 5), .int (Mv 6), .int (Mv 7), .int (Mv 8), .ref (Ma 7), .int (Mv 9), .ref (Ma 8), .int (Mv 10), .ref (Ma 9), .ref (Ma 10), .int (Mv 11), .int (Mv 12), .int (Mv 13), .ref (Ma 11), .int (Mv 14), .ref (Ma 12), .ref (Ma 13), .ref (Ma 14), .ref (Ma 15), .ref (Ma 16), .long (Mj 0), .ref (Ma 17), .ref (Ma 18), .ref (Ma 19), .ref (Ma 20)])), ((Ma 1), .inl (tc 2, 400, .inl (Mf 1)))] H := hP₀
                replace hD : va_D A [((Ma 0), .inr (12, [.ref (Ma 1), .int (Mv 0), .int (Mv 1), .ref (Ma 2), .ref (Ma 3), .ref (Ma 4), .ref (Ma 5), .ref (Ma 6), .int sv_123, .int (Mv 3), .int (Mv 4), .int (Mv 5), .int (Mv 6), .int (Mv 7), .int (Mv 8), .ref (Ma 7), .int (Mv 9), .ref (Ma 8), .int (Mv 10), .ref (Ma 9), .ref (Ma 10), .int (Mv 11), .int (Mv 12), .int (Mv 13), .ref (Ma 11), .int (Mv 14), .ref (Ma 12), .ref (Ma 13), .ref (Ma 14), .ref (Ma 15), .ref (Ma 16), .long (Mj 0), .ref (Ma 17), .ref (Ma 18), .ref (Ma 19), .ref (Ma 20)])), ((Ma 1), .inl (tc 2, 400, .inl (Mf 1)))] := hD₀
                replace hS := hS₀
                clear hP₀ hD₀ hS₀
                refine lv_if_eq (tgt := 98) hx hb dX12_wordHere_92 (by decide) (fun c_133 => ?_) (fun c_133 => ?_)
                · skip
                  have hz_135 : (r_128 : Int32).toInt = 0 := by
                    have z_1 := congrArg Int32.toInt c_14
                    have z_2 := congrArg Int32.toInt c_31
                    have z_3 := congrArg Int32.toInt c_48
                    have z_4 := congrArg Int32.toInt c_65
                    have z_5 := congrArg Int32.toInt c_82
                    have z_6 := congrArg Int32.toInt c_99
                    have z_7 := congrArg Int32.toInt c_116
                    have z_8 := congrArg Int32.toInt c_133
                    have y_0 : (0 : Int32).toInt = 0 := by decide
                    omega
                  obtain pf_134 := hm_132 hz_135
                  have pf_134 : NPk (rB (Mf 1) (Mv 0)) ((sv_123 : Int32).toInt.toNat) (108230850603124 : Int64).toInt := pf_134
                  refine lv_aload_n hx hb dX12_wordHere_98 rfl (lv_at hl 0 rfl) ?_
                  refine lv_ldc2 hx hb hown (hts _ k_1308) dX12_wordHere_99 ?_
                  have ha_136 : 0 ≤ (sv_123 : Int32).toInt ∧ (sv_123 : Int32).toInt ≤ ((Mv 0) : Int32).toInt ∧ ((Mv 0) : Int32).toInt ≤ 400 := by
                    have z_1 := congrArg Int32.toInt c_14
                    have z_2 := congrArg Int32.toInt c_31
                    have z_3 := congrArg Int32.toInt c_48
                    have z_4 := congrArg Int32.toInt c_65
                    have z_5 := congrArg Int32.toInt c_82
                    have z_6 := congrArg Int32.toInt c_99
                    have z_7 := congrArg Int32.toInt c_116
                    have z_8 := congrArg Int32.toInt c_133
                    have y_0 : (0 : Int32).toInt = 0 := by decide
                    omega
                  refine cV (a := (Ma 0)) (As := [.long 7169396]) (rest := []) (wr := []) ⟨hx, hb, hml, hown, hts⟩ hK hX hA (cu_fX12_isWord l D tc sk (Ma 0) (Ma 1) (Ma 2) (Ma 3) (Ma 4) (Ma 5) (Ma 6) (Ma 7) (Ma 8) (Ma 9) (Ma 10) (Ma 11) (Ma 12) (Ma 13) (Ma 14) (Ma 15) (Ma 16) (Ma 17) (Ma 18) (Ma 19) (Ma 20) (Mv 0) (Mv 1) sv_123 (Mv 3) (Mv 4) (Mv 5) (Mv 6) (Mv 7) (Mv 8) (Mv 9) (Mv 10) (Mv 11) (Mv 12) (Mv 13) (Mv 14) (Mf 1) (Mj 0) 7169396 ha_136 h_bs) k_1220 k_1217 k_1219 k_29 k_106 pl_X12_isWord ⟨Nat.le_of_ble_eq_true rfl, Nat.le_of_ble_eq_true rfl⟩ rfl rfl (va_recv hK hP (ci := 12) (q0 := 0) rfl rfl) hP hD hS [0, 1] [] rfl rfl rfl rfl rfl (by decide) rfl hl.1 rfl (Nat.le_of_ble_eq_true rfl) dX12_wordHere_102 ⟨Nat.le_of_ble_eq_true rfl, Nat.le_of_ble_eq_true rfl⟩ (fun v_137 u_138 H locs hv_139 hP₀ hD₀ hS₀ => ?_)
                  obtain ⟨sv_140, rfl⟩ : ∃ z, z = u_138 := ⟨_, rfl⟩
                  obtain ⟨r_145, rfl, he_146, pf_141, pf_142, pf_143, pf_144, hm_148, hm_149⟩ := hv_139
                  have he_146 : (r_145.toInt = 0 ∨ r_145.toInt = 1) := he_146
                  have pf_141 : (sv_123 : Int32).toInt ≤ (sv_140 : Int32).toInt ∧ (sv_140 : Int32).toInt ≤ ((Mv 0) : Int32).toInt := pf_141
                  have pf_142 : NSq (Mf 1) (Mv 0) sv_140 := pf_142
                  have pf_143 : Stl (Mf 1) (Mv 0) sv_123 sv_140 := pf_143
                  have ar_pf_143 := Stl.or pf_143 pf_125
                  have pf_144 : SkR (rB (Mf 1) (Mv 0)) sv_123 sv_140 := pf_144
                  refine W.eq (g2 := F0 m 105 ls [.int r_145]) rfl ?_
                  replace hP : va_P D classes [((Ma 0), .inr (12, [.ref (Ma 1), .int (Mv 0), .int (Mv 1), .ref (Ma 2), .ref (Ma 3), .ref (Ma 4), .ref (Ma 5), .ref (Ma 6), .int sv_140, .int (Mv 3), .int (Mv 4), .int (Mv 5), .int (Mv 6), .int (Mv 7), .int (Mv 8), .ref (Ma 7), .int (Mv 9), .ref (Ma 8), .int (Mv 10), .ref (Ma 9), .ref (Ma 10), .int (Mv 11), .int (Mv 12), .int (Mv 13), .ref (Ma 11), .int (Mv 14), .ref (Ma 12), .ref (Ma 13), .ref (Ma 14), .ref (Ma 15), .ref (Ma 16), .long (Mj 0), .ref (Ma 17), .ref (Ma 18), .ref (Ma 19), .ref (Ma 20)])), ((Ma 1), .inl (tc 2, 400, .inl (Mf 1)))] H := hP₀
                  replace hD : va_D A [((Ma 0), .inr (12, [.ref (Ma 1), .int (Mv 0), .int (Mv 1), .ref (Ma 2), .ref (Ma 3), .ref (Ma 4), .ref (Ma 5), .ref (Ma 6), .int sv_140, .int (Mv 3), .int (Mv 4), .int (Mv 5), .int (Mv 6), .int (Mv 7), .int (Mv 8), .ref (Ma 7), .int (Mv 9), .ref (Ma 8), .int (Mv 10), .ref (Ma 9), .ref (Ma 10), .int (Mv 11), .int (Mv 12), .int (Mv 13), .ref (Ma 11), .int (Mv 14), .ref (Ma 12), .ref (Ma 13), .ref (Ma 14), .ref (Ma 15), .ref (Ma 16), .long (Mj 0), .ref (Ma 17), .ref (Ma 18), .ref (Ma 19), .ref (Ma 20)])), ((Ma 1), .inl (tc 2, 400, .inl (Mf 1)))] := hD₀
                  replace hS := hS₀
                  clear hP₀ hD₀ hS₀
                  refine lv_if_eq (tgt := 111) hx hb dX12_wordHere_105 (by decide) (fun c_150 => ?_) (fun c_150 => ?_)
                  · skip
                    have hz_152 : (r_145 : Int32).toInt = 0 := by
                      have z_1 := congrArg Int32.toInt c_14
                      have z_2 := congrArg Int32.toInt c_31
                      have z_3 := congrArg Int32.toInt c_48
                      have z_4 := congrArg Int32.toInt c_65
                      have z_5 := congrArg Int32.toInt c_82
                      have z_6 := congrArg Int32.toInt c_99
                      have z_7 := congrArg Int32.toInt c_116
                      have z_8 := congrArg Int32.toInt c_133
                      have z_9 := congrArg Int32.toInt c_150
                      have y_0 : (0 : Int32).toInt = 0 := by decide
                      omega
                    obtain pf_151 := hm_149 hz_152
                    have pf_151 : NPk (rB (Mf 1) (Mv 0)) ((sv_140 : Int32).toInt.toNat) (7169396 : Int64).toInt := pf_151
                    refine lv_aload_n hx hb dX12_wordHere_111 rfl (lv_at hl 0 rfl) ?_
                    refine lv_ldc2 hx hb hown (hts _ k_1309) dX12_wordHere_112 ?_
                    have ha_153 : 0 ≤ (sv_140 : Int32).toInt ∧ (sv_140 : Int32).toInt ≤ ((Mv 0) : Int32).toInt ∧ ((Mv 0) : Int32).toInt ≤ 400 := by
                      have z_1 := congrArg Int32.toInt c_14
                      have z_2 := congrArg Int32.toInt c_31
                      have z_3 := congrArg Int32.toInt c_48
                      have z_4 := congrArg Int32.toInt c_65
                      have z_5 := congrArg Int32.toInt c_82
                      have z_6 := congrArg Int32.toInt c_99
                      have z_7 := congrArg Int32.toInt c_116
                      have z_8 := congrArg Int32.toInt c_133
                      have z_9 := congrArg Int32.toInt c_150
                      have y_0 : (0 : Int32).toInt = 0 := by decide
                      omega
                    refine cV (a := (Ma 0)) (As := [.long 495690081125]) (rest := []) (wr := []) ⟨hx, hb, hml, hown, hts⟩ hK hX hA (cu_fX12_isWord l D tc sk (Ma 0) (Ma 1) (Ma 2) (Ma 3) (Ma 4) (Ma 5) (Ma 6) (Ma 7) (Ma 8) (Ma 9) (Ma 10) (Ma 11) (Ma 12) (Ma 13) (Ma 14) (Ma 15) (Ma 16) (Ma 17) (Ma 18) (Ma 19) (Ma 20) (Mv 0) (Mv 1) sv_140 (Mv 3) (Mv 4) (Mv 5) (Mv 6) (Mv 7) (Mv 8) (Mv 9) (Mv 10) (Mv 11) (Mv 12) (Mv 13) (Mv 14) (Mf 1) (Mj 0) 495690081125 ha_153 h_bs) k_1220 k_1217 k_1219 k_29 k_106 pl_X12_isWord ⟨Nat.le_of_ble_eq_true rfl, Nat.le_of_ble_eq_true rfl⟩ rfl rfl (va_recv hK hP (ci := 12) (q0 := 0) rfl rfl) hP hD hS [0, 1] [] rfl rfl rfl rfl rfl (by decide) rfl hl.1 rfl (Nat.le_of_ble_eq_true rfl) dX12_wordHere_115 ⟨Nat.le_of_ble_eq_true rfl, Nat.le_of_ble_eq_true rfl⟩ (fun v_154 u_155 H locs hv_156 hP₀ hD₀ hS₀ => ?_)
                    obtain ⟨sv_157, rfl⟩ : ∃ z, z = u_155 := ⟨_, rfl⟩
                    obtain ⟨r_162, rfl, he_163, pf_158, pf_159, pf_160, pf_161, hm_165, hm_166⟩ := hv_156
                    have he_163 : (r_162.toInt = 0 ∨ r_162.toInt = 1) := he_163
                    have pf_158 : (sv_140 : Int32).toInt ≤ (sv_157 : Int32).toInt ∧ (sv_157 : Int32).toInt ≤ ((Mv 0) : Int32).toInt := pf_158
                    have pf_159 : NSq (Mf 1) (Mv 0) sv_157 := pf_159
                    have pf_160 : Stl (Mf 1) (Mv 0) sv_140 sv_157 := pf_160
                    have ar_pf_160 := Stl.or pf_160 pf_142
                    have pf_161 : SkR (rB (Mf 1) (Mv 0)) sv_140 sv_157 := pf_161
                    refine W.eq (g2 := F0 m 118 ls [.int r_162]) rfl ?_
                    replace hP : va_P D classes [((Ma 0), .inr (12, [.ref (Ma 1), .int (Mv 0), .int (Mv 1), .ref (Ma 2), .ref (Ma 3), .ref (Ma 4), .ref (Ma 5), .ref (Ma 6), .int sv_157, .int (Mv 3), .int (Mv 4), .int (Mv 5), .int (Mv 6), .int (Mv 7), .int (Mv 8), .ref (Ma 7), .int (Mv 9), .ref (Ma 8), .int (Mv 10), .ref (Ma 9), .ref (Ma 10), .int (Mv 11), .int (Mv 12), .int (Mv 13), .ref (Ma 11), .int (Mv 14), .ref (Ma 12), .ref (Ma 13), .ref (Ma 14), .ref (Ma 15), .ref (Ma 16), .long (Mj 0), .ref (Ma 17), .ref (Ma 18), .ref (Ma 19), .ref (Ma 20)])), ((Ma 1), .inl (tc 2, 400, .inl (Mf 1)))] H := hP₀
                    replace hD : va_D A [((Ma 0), .inr (12, [.ref (Ma 1), .int (Mv 0), .int (Mv 1), .ref (Ma 2), .ref (Ma 3), .ref (Ma 4), .ref (Ma 5), .ref (Ma 6), .int sv_157, .int (Mv 3), .int (Mv 4), .int (Mv 5), .int (Mv 6), .int (Mv 7), .int (Mv 8), .ref (Ma 7), .int (Mv 9), .ref (Ma 8), .int (Mv 10), .ref (Ma 9), .ref (Ma 10), .int (Mv 11), .int (Mv 12), .int (Mv 13), .ref (Ma 11), .int (Mv 14), .ref (Ma 12), .ref (Ma 13), .ref (Ma 14), .ref (Ma 15), .ref (Ma 16), .long (Mj 0), .ref (Ma 17), .ref (Ma 18), .ref (Ma 19), .ref (Ma 20)])), ((Ma 1), .inl (tc 2, 400, .inl (Mf 1)))] := hD₀
                    replace hS := hS₀
                    clear hP₀ hD₀ hS₀
                    refine lv_if_eq (tgt := 124) hx hb dX12_wordHere_118 (by decide) (fun c_167 => ?_) (fun c_167 => ?_)
                    · skip
                      have hz_169 : (r_162 : Int32).toInt = 0 := by
                        have z_1 := congrArg Int32.toInt c_14
                        have z_2 := congrArg Int32.toInt c_31
                        have z_3 := congrArg Int32.toInt c_48
                        have z_4 := congrArg Int32.toInt c_65
                        have z_5 := congrArg Int32.toInt c_82
                        have z_6 := congrArg Int32.toInt c_99
                        have z_7 := congrArg Int32.toInt c_116
                        have z_8 := congrArg Int32.toInt c_133
                        have z_9 := congrArg Int32.toInt c_150
                        have z_10 := congrArg Int32.toInt c_167
                        have y_0 : (0 : Int32).toInt = 0 := by decide
                        omega
                      obtain pf_168 := hm_166 hz_169
                      have pf_168 : NPk (rB (Mf 1) (Mv 0)) ((sv_157 : Int32).toInt.toNat) (495690081125 : Int64).toInt := pf_168
                      refine lv_aload_n hx hb dX12_wordHere_124 rfl (lv_at hl 0 rfl) ?_
                      refine lv_ldc2 hx hb hown (hts _ k_1310) dX12_wordHere_125 ?_
                      have ha_170 : 0 ≤ (sv_157 : Int32).toInt ∧ (sv_157 : Int32).toInt ≤ ((Mv 0) : Int32).toInt ∧ ((Mv 0) : Int32).toInt ≤ 400 := by
                        have z_1 := congrArg Int32.toInt c_14
                        have z_2 := congrArg Int32.toInt c_31
                        have z_3 := congrArg Int32.toInt c_48
                        have z_4 := congrArg Int32.toInt c_65
                        have z_5 := congrArg Int32.toInt c_82
                        have z_6 := congrArg Int32.toInt c_99
                        have z_7 := congrArg Int32.toInt c_116
                        have z_8 := congrArg Int32.toInt c_133
                        have z_9 := congrArg Int32.toInt c_150
                        have z_10 := congrArg Int32.toInt c_167
                        have y_0 : (0 : Int32).toInt = 0 := by decide
                        omega
                      refine cV (a := (Ma 0)) (As := [.long 1936682084]) (rest := []) (wr := []) ⟨hx, hb, hml, hown, hts⟩ hK hX hA (cu_fX12_isWord l D tc sk (Ma 0) (Ma 1) (Ma 2) (Ma 3) (Ma 4) (Ma 5) (Ma 6) (Ma 7) (Ma 8) (Ma 9) (Ma 10) (Ma 11) (Ma 12) (Ma 13) (Ma 14) (Ma 15) (Ma 16) (Ma 17) (Ma 18) (Ma 19) (Ma 20) (Mv 0) (Mv 1) sv_157 (Mv 3) (Mv 4) (Mv 5) (Mv 6) (Mv 7) (Mv 8) (Mv 9) (Mv 10) (Mv 11) (Mv 12) (Mv 13) (Mv 14) (Mf 1) (Mj 0) 1936682084 ha_170 h_bs) k_1220 k_1217 k_1219 k_29 k_106 pl_X12_isWord ⟨Nat.le_of_ble_eq_true rfl, Nat.le_of_ble_eq_true rfl⟩ rfl rfl (va_recv hK hP (ci := 12) (q0 := 0) rfl rfl) hP hD hS [0, 1] [] rfl rfl rfl rfl rfl (by decide) rfl hl.1 rfl (Nat.le_of_ble_eq_true rfl) dX12_wordHere_128 ⟨Nat.le_of_ble_eq_true rfl, Nat.le_of_ble_eq_true rfl⟩ (fun v_171 u_172 H locs hv_173 hP₀ hD₀ hS₀ => ?_)
                      obtain ⟨sv_174, rfl⟩ : ∃ z, z = u_172 := ⟨_, rfl⟩
                      obtain ⟨r_179, rfl, he_180, pf_175, pf_176, pf_177, pf_178, hm_182, hm_183⟩ := hv_173
                      have he_180 : (r_179.toInt = 0 ∨ r_179.toInt = 1) := he_180
                      have pf_175 : (sv_157 : Int32).toInt ≤ (sv_174 : Int32).toInt ∧ (sv_174 : Int32).toInt ≤ ((Mv 0) : Int32).toInt := pf_175
                      have pf_176 : NSq (Mf 1) (Mv 0) sv_174 := pf_176
                      have pf_177 : Stl (Mf 1) (Mv 0) sv_157 sv_174 := pf_177
                      have ar_pf_177 := Stl.or pf_177 pf_159
                      have pf_178 : SkR (rB (Mf 1) (Mv 0)) sv_157 sv_174 := pf_178
                      refine W.eq (g2 := F0 m 131 ls [.int r_179]) rfl ?_
                      replace hP : va_P D classes [((Ma 0), .inr (12, [.ref (Ma 1), .int (Mv 0), .int (Mv 1), .ref (Ma 2), .ref (Ma 3), .ref (Ma 4), .ref (Ma 5), .ref (Ma 6), .int sv_174, .int (Mv 3), .int (Mv 4), .int (Mv 5), .int (Mv 6), .int (Mv 7), .int (Mv 8), .ref (Ma 7), .int (Mv 9), .ref (Ma 8), .int (Mv 10), .ref (Ma 9), .ref (Ma 10), .int (Mv 11), .int (Mv 12), .int (Mv 13), .ref (Ma 11), .int (Mv 14), .ref (Ma 12), .ref (Ma 13), .ref (Ma 14), .ref (Ma 15), .ref (Ma 16), .long (Mj 0), .ref (Ma 17), .ref (Ma 18), .ref (Ma 19), .ref (Ma 20)])), ((Ma 1), .inl (tc 2, 400, .inl (Mf 1)))] H := hP₀
                      replace hD : va_D A [((Ma 0), .inr (12, [.ref (Ma 1), .int (Mv 0), .int (Mv 1), .ref (Ma 2), .ref (Ma 3), .ref (Ma 4), .ref (Ma 5), .ref (Ma 6), .int sv_174, .int (Mv 3), .int (Mv 4), .int (Mv 5), .int (Mv 6), .int (Mv 7), .int (Mv 8), .ref (Ma 7), .int (Mv 9), .ref (Ma 8), .int (Mv 10), .ref (Ma 9), .ref (Ma 10), .int (Mv 11), .int (Mv 12), .int (Mv 13), .ref (Ma 11), .int (Mv 14), .ref (Ma 12), .ref (Ma 13), .ref (Ma 14), .ref (Ma 15), .ref (Ma 16), .long (Mj 0), .ref (Ma 17), .ref (Ma 18), .ref (Ma 19), .ref (Ma 20)])), ((Ma 1), .inl (tc 2, 400, .inl (Mf 1)))] := hD₀
                      replace hS := hS₀
                      clear hP₀ hD₀ hS₀
                      refine lv_if_eq (tgt := 137) hx hb dX12_wordHere_131 (by decide) (fun c_184 => ?_) (fun c_184 => ?_)
                      · skip
                        have hz_186 : (r_179 : Int32).toInt = 0 := by
                          have z_1 := congrArg Int32.toInt c_14
                          have z_2 := congrArg Int32.toInt c_31
                          have z_3 := congrArg Int32.toInt c_48
                          have z_4 := congrArg Int32.toInt c_65
                          have z_5 := congrArg Int32.toInt c_82
                          have z_6 := congrArg Int32.toInt c_99
                          have z_7 := congrArg Int32.toInt c_116
                          have z_8 := congrArg Int32.toInt c_133
                          have z_9 := congrArg Int32.toInt c_150
                          have z_10 := congrArg Int32.toInt c_167
                          have z_11 := congrArg Int32.toInt c_184
                          have y_0 : (0 : Int32).toInt = 0 := by decide
                          omega
                        obtain pf_185 := hm_183 hz_186
                        have pf_185 : NPk (rB (Mf 1) (Mv 0)) ((sv_174 : Int32).toInt.toNat) (1936682084 : Int64).toInt := pf_185
                        refine lv_aload_n hx hb dX12_wordHere_137 rfl (lv_at hl 0 rfl) ?_
                        refine lv_ldc2 hx hb hown (hts _ k_1311) dX12_wordHere_138 ?_
                        have ha_187 : 0 ≤ (sv_174 : Int32).toInt ∧ (sv_174 : Int32).toInt ≤ ((Mv 0) : Int32).toInt ∧ ((Mv 0) : Int32).toInt ≤ 400 := by
                          have z_1 := congrArg Int32.toInt c_14
                          have z_2 := congrArg Int32.toInt c_31
                          have z_3 := congrArg Int32.toInt c_48
                          have z_4 := congrArg Int32.toInt c_65
                          have z_5 := congrArg Int32.toInt c_82
                          have z_6 := congrArg Int32.toInt c_99
                          have z_7 := congrArg Int32.toInt c_116
                          have z_8 := congrArg Int32.toInt c_133
                          have z_9 := congrArg Int32.toInt c_150
                          have z_10 := congrArg Int32.toInt c_167
                          have z_11 := congrArg Int32.toInt c_184
                          have y_0 : (0 : Int32).toInt = 0 := by decide
                          omega
                        refine cV (a := (Ma 0)) (As := [.long 427021001579]) (rest := []) (wr := []) ⟨hx, hb, hml, hown, hts⟩ hK hX hA (cu_fX12_isWord l D tc sk (Ma 0) (Ma 1) (Ma 2) (Ma 3) (Ma 4) (Ma 5) (Ma 6) (Ma 7) (Ma 8) (Ma 9) (Ma 10) (Ma 11) (Ma 12) (Ma 13) (Ma 14) (Ma 15) (Ma 16) (Ma 17) (Ma 18) (Ma 19) (Ma 20) (Mv 0) (Mv 1) sv_174 (Mv 3) (Mv 4) (Mv 5) (Mv 6) (Mv 7) (Mv 8) (Mv 9) (Mv 10) (Mv 11) (Mv 12) (Mv 13) (Mv 14) (Mf 1) (Mj 0) 427021001579 ha_187 h_bs) k_1220 k_1217 k_1219 k_29 k_106 pl_X12_isWord ⟨Nat.le_of_ble_eq_true rfl, Nat.le_of_ble_eq_true rfl⟩ rfl rfl (va_recv hK hP (ci := 12) (q0 := 0) rfl rfl) hP hD hS [0, 1] [] rfl rfl rfl rfl rfl (by decide) rfl hl.1 rfl (Nat.le_of_ble_eq_true rfl) dX12_wordHere_141 ⟨Nat.le_of_ble_eq_true rfl, Nat.le_of_ble_eq_true rfl⟩ (fun v_188 u_189 H locs hv_190 hP₀ hD₀ hS₀ => ?_)
                        obtain ⟨sv_191, rfl⟩ : ∃ z, z = u_189 := ⟨_, rfl⟩
                        obtain ⟨r_196, rfl, he_197, pf_192, pf_193, pf_194, pf_195, hm_199, hm_200⟩ := hv_190
                        have he_197 : (r_196.toInt = 0 ∨ r_196.toInt = 1) := he_197
                        have pf_192 : (sv_174 : Int32).toInt ≤ (sv_191 : Int32).toInt ∧ (sv_191 : Int32).toInt ≤ ((Mv 0) : Int32).toInt := pf_192
                        have pf_193 : NSq (Mf 1) (Mv 0) sv_191 := pf_193
                        have pf_194 : Stl (Mf 1) (Mv 0) sv_174 sv_191 := pf_194
                        have ar_pf_194 := Stl.or pf_194 pf_176
                        have pf_195 : SkR (rB (Mf 1) (Mv 0)) sv_174 sv_191 := pf_195
                        refine W.eq (g2 := F0 m 144 ls [.int r_196]) rfl ?_
                        replace hP : va_P D classes [((Ma 0), .inr (12, [.ref (Ma 1), .int (Mv 0), .int (Mv 1), .ref (Ma 2), .ref (Ma 3), .ref (Ma 4), .ref (Ma 5), .ref (Ma 6), .int sv_191, .int (Mv 3), .int (Mv 4), .int (Mv 5), .int (Mv 6), .int (Mv 7), .int (Mv 8), .ref (Ma 7), .int (Mv 9), .ref (Ma 8), .int (Mv 10), .ref (Ma 9), .ref (Ma 10), .int (Mv 11), .int (Mv 12), .int (Mv 13), .ref (Ma 11), .int (Mv 14), .ref (Ma 12), .ref (Ma 13), .ref (Ma 14), .ref (Ma 15), .ref (Ma 16), .long (Mj 0), .ref (Ma 17), .ref (Ma 18), .ref (Ma 19), .ref (Ma 20)])), ((Ma 1), .inl (tc 2, 400, .inl (Mf 1)))] H := hP₀
                        replace hD : va_D A [((Ma 0), .inr (12, [.ref (Ma 1), .int (Mv 0), .int (Mv 1), .ref (Ma 2), .ref (Ma 3), .ref (Ma 4), .ref (Ma 5), .ref (Ma 6), .int sv_191, .int (Mv 3), .int (Mv 4), .int (Mv 5), .int (Mv 6), .int (Mv 7), .int (Mv 8), .ref (Ma 7), .int (Mv 9), .ref (Ma 8), .int (Mv 10), .ref (Ma 9), .ref (Ma 10), .int (Mv 11), .int (Mv 12), .int (Mv 13), .ref (Ma 11), .int (Mv 14), .ref (Ma 12), .ref (Ma 13), .ref (Ma 14), .ref (Ma 15), .ref (Ma 16), .long (Mj 0), .ref (Ma 17), .ref (Ma 18), .ref (Ma 19), .ref (Ma 20)])), ((Ma 1), .inl (tc 2, 400, .inl (Mf 1)))] := hD₀
                        replace hS := hS₀
                        clear hP₀ hD₀ hS₀
                        refine lv_if_eq (tgt := 152) hx hb dX12_wordHere_144 (by decide) (fun c_201 => ?_) (fun c_201 => ?_)
                        · skip
                          have hz_203 : (r_196 : Int32).toInt = 0 := by
                            have z_1 := congrArg Int32.toInt c_14
                            have z_2 := congrArg Int32.toInt c_31
                            have z_3 := congrArg Int32.toInt c_48
                            have z_4 := congrArg Int32.toInt c_65
                            have z_5 := congrArg Int32.toInt c_82
                            have z_6 := congrArg Int32.toInt c_99
                            have z_7 := congrArg Int32.toInt c_116
                            have z_8 := congrArg Int32.toInt c_133
                            have z_9 := congrArg Int32.toInt c_150
                            have z_10 := congrArg Int32.toInt c_167
                            have z_11 := congrArg Int32.toInt c_184
                            have z_12 := congrArg Int32.toInt c_201
                            have y_0 : (0 : Int32).toInt = 0 := by decide
                            omega
                          obtain pf_202 := hm_200 hz_203
                          have pf_202 : NPk (rB (Mf 1) (Mv 0)) ((sv_191 : Int32).toInt.toNat) (427021001579 : Int64).toInt := pf_202
                          refine lv_aload_n hx hb dX12_wordHere_152 rfl (lv_at hl 0 rfl) ?_
                          refine lv_ldc2 hx hb hown (hts _ k_1312) dX12_wordHere_153 ?_
                          have ha_204 : 0 ≤ (sv_191 : Int32).toInt ∧ (sv_191 : Int32).toInt ≤ ((Mv 0) : Int32).toInt ∧ ((Mv 0) : Int32).toInt ≤ 400 := by
                            have z_1 := congrArg Int32.toInt c_14
                            have z_2 := congrArg Int32.toInt c_31
                            have z_3 := congrArg Int32.toInt c_48
                            have z_4 := congrArg Int32.toInt c_65
                            have z_5 := congrArg Int32.toInt c_82
                            have z_6 := congrArg Int32.toInt c_99
                            have z_7 := congrArg Int32.toInt c_116
                            have z_8 := congrArg Int32.toInt c_133
                            have z_9 := congrArg Int32.toInt c_150
                            have z_10 := congrArg Int32.toInt c_167
                            have z_11 := congrArg Int32.toInt c_184
                            have z_12 := congrArg Int32.toInt c_201
                            have y_0 : (0 : Int32).toInt = 0 := by decide
                            omega
                          refine cV (a := (Ma 0)) (As := [.long 6578553]) (rest := []) (wr := []) ⟨hx, hb, hml, hown, hts⟩ hK hX hA (cu_fX12_isWord l D tc sk (Ma 0) (Ma 1) (Ma 2) (Ma 3) (Ma 4) (Ma 5) (Ma 6) (Ma 7) (Ma 8) (Ma 9) (Ma 10) (Ma 11) (Ma 12) (Ma 13) (Ma 14) (Ma 15) (Ma 16) (Ma 17) (Ma 18) (Ma 19) (Ma 20) (Mv 0) (Mv 1) sv_191 (Mv 3) (Mv 4) (Mv 5) (Mv 6) (Mv 7) (Mv 8) (Mv 9) (Mv 10) (Mv 11) (Mv 12) (Mv 13) (Mv 14) (Mf 1) (Mj 0) 6578553 ha_204 h_bs) k_1220 k_1217 k_1219 k_29 k_106 pl_X12_isWord ⟨Nat.le_of_ble_eq_true rfl, Nat.le_of_ble_eq_true rfl⟩ rfl rfl (va_recv hK hP (ci := 12) (q0 := 0) rfl rfl) hP hD hS [0, 1] [] rfl rfl rfl rfl rfl (by decide) rfl hl.1 rfl (Nat.le_of_ble_eq_true rfl) dX12_wordHere_156 ⟨Nat.le_of_ble_eq_true rfl, Nat.le_of_ble_eq_true rfl⟩ (fun v_205 u_206 H locs hv_207 hP₀ hD₀ hS₀ => ?_)
                          obtain ⟨sv_208, rfl⟩ : ∃ z, z = u_206 := ⟨_, rfl⟩
                          obtain ⟨r_213, rfl, he_214, pf_209, pf_210, pf_211, pf_212, hm_216, hm_217⟩ := hv_207
                          have he_214 : (r_213.toInt = 0 ∨ r_213.toInt = 1) := he_214
                          have pf_209 : (sv_191 : Int32).toInt ≤ (sv_208 : Int32).toInt ∧ (sv_208 : Int32).toInt ≤ ((Mv 0) : Int32).toInt := pf_209
                          have pf_210 : NSq (Mf 1) (Mv 0) sv_208 := pf_210
                          have pf_211 : Stl (Mf 1) (Mv 0) sv_191 sv_208 := pf_211
                          have ar_pf_211 := Stl.or pf_211 pf_193
                          have pf_212 : SkR (rB (Mf 1) (Mv 0)) sv_191 sv_208 := pf_212
                          refine W.eq (g2 := F0 m 159 ls [.int r_213]) rfl ?_
                          replace hP : va_P D classes [((Ma 0), .inr (12, [.ref (Ma 1), .int (Mv 0), .int (Mv 1), .ref (Ma 2), .ref (Ma 3), .ref (Ma 4), .ref (Ma 5), .ref (Ma 6), .int sv_208, .int (Mv 3), .int (Mv 4), .int (Mv 5), .int (Mv 6), .int (Mv 7), .int (Mv 8), .ref (Ma 7), .int (Mv 9), .ref (Ma 8), .int (Mv 10), .ref (Ma 9), .ref (Ma 10), .int (Mv 11), .int (Mv 12), .int (Mv 13), .ref (Ma 11), .int (Mv 14), .ref (Ma 12), .ref (Ma 13), .ref (Ma 14), .ref (Ma 15), .ref (Ma 16), .long (Mj 0), .ref (Ma 17), .ref (Ma 18), .ref (Ma 19), .ref (Ma 20)])), ((Ma 1), .inl (tc 2, 400, .inl (Mf 1)))] H := hP₀
                          replace hD : va_D A [((Ma 0), .inr (12, [.ref (Ma 1), .int (Mv 0), .int (Mv 1), .ref (Ma 2), .ref (Ma 3), .ref (Ma 4), .ref (Ma 5), .ref (Ma 6), .int sv_208, .int (Mv 3), .int (Mv 4), .int (Mv 5), .int (Mv 6), .int (Mv 7), .int (Mv 8), .ref (Ma 7), .int (Mv 9), .ref (Ma 8), .int (Mv 10), .ref (Ma 9), .ref (Ma 10), .int (Mv 11), .int (Mv 12), .int (Mv 13), .ref (Ma 11), .int (Mv 14), .ref (Ma 12), .ref (Ma 13), .ref (Ma 14), .ref (Ma 15), .ref (Ma 16), .long (Mj 0), .ref (Ma 17), .ref (Ma 18), .ref (Ma 19), .ref (Ma 20)])), ((Ma 1), .inl (tc 2, 400, .inl (Mf 1)))] := hD₀
                          replace hS := hS₀
                          clear hP₀ hD₀ hS₀
                          refine lv_if_eq (tgt := 167) hx hb dX12_wordHere_159 (by decide) (fun c_218 => ?_) (fun c_218 => ?_)
                          · skip
                            have hz_220 : (r_213 : Int32).toInt = 0 := by
                              have z_1 := congrArg Int32.toInt c_14
                              have z_2 := congrArg Int32.toInt c_31
                              have z_3 := congrArg Int32.toInt c_48
                              have z_4 := congrArg Int32.toInt c_65
                              have z_5 := congrArg Int32.toInt c_82
                              have z_6 := congrArg Int32.toInt c_99
                              have z_7 := congrArg Int32.toInt c_116
                              have z_8 := congrArg Int32.toInt c_133
                              have z_9 := congrArg Int32.toInt c_150
                              have z_10 := congrArg Int32.toInt c_167
                              have z_11 := congrArg Int32.toInt c_184
                              have z_12 := congrArg Int32.toInt c_201
                              have z_13 := congrArg Int32.toInt c_218
                              have y_0 : (0 : Int32).toInt = 0 := by decide
                              omega
                            obtain pf_219 := hm_217 hz_220
                            have pf_219 : NPk (rB (Mf 1) (Mv 0)) ((sv_208 : Int32).toInt.toNat) (6578553 : Int64).toInt := pf_219
                            refine lv_iconst (v := (-1)) hx hb dX12_wordHere_167 (by decide) ?_
                            have ha_221 : ((Mv 2) : Int32).toInt ≤ (sv_208 : Int32).toInt ∧ (sv_208 : Int32).toInt ≤ ((Mv 0) : Int32).toInt := by
                              have z_1 := congrArg Int32.toInt c_14
                              have z_2 := congrArg Int32.toInt c_31
                              have z_3 := congrArg Int32.toInt c_48
                              have z_4 := congrArg Int32.toInt c_65
                              have z_5 := congrArg Int32.toInt c_82
                              have z_6 := congrArg Int32.toInt c_99
                              have z_7 := congrArg Int32.toInt c_116
                              have z_8 := congrArg Int32.toInt c_133
                              have z_9 := congrArg Int32.toInt c_150
                              have z_10 := congrArg Int32.toInt c_167
                              have z_11 := congrArg Int32.toInt c_184
                              have z_12 := congrArg Int32.toInt c_201
                              have z_13 := congrArg Int32.toInt c_218
                              have y_0 : (0 : Int32).toInt = 0 := by decide
                              omega
                            have hs_222 : SkR (rB (Mf 1) (Mv 0)) (Mv 2) sv_208 := (SkR.trans (SkR.trans (SkR.trans (SkR.trans (SkR.trans (SkR.trans (SkR.trans (SkR.trans (SkR.trans (SkR.trans (SkR.trans (SkR.trans pf_8 pf_25) pf_42) pf_59) pf_76) pf_93) pf_110) pf_127) pf_144) pf_161) pf_178) pf_195) pf_212)
                            have hw_223 : ¬ pz_wd (rB (Mf 1) (Mv 0)) (pz_sk (rB (Mf 1) (Mv 0)) (Mv 2).toInt.toNat) pz_buyer = true := by
                              rw [SkR.nat pf_8]
                              have hq := pf_15
                              rw [show (422877685106 : Int64).toInt = pz_pl pz_buyer by decide] at hq
                              exact fun z => hq ((PkW.wd (by decide) (by decide) (by decide)).mpr z)
                            have hw_224 : ¬ pz_wd (rB (Mf 1) (Mv 0)) (pz_sk (rB (Mf 1) (Mv 0)) (Mv 2).toInt.toNat) [116, 101, 109, 112, 101, 114] = true := by
                              rw [SkR.nat (SkR.trans pf_8 pf_25)]
                              have hq := pf_32
                              rw [show (127978976601458 : Int64).toInt = pz_pl [116, 101, 109, 112, 101, 114] by decide] at hq
                              exact fun z => hq ((PkW.wd (by decide) (by decide) (by decide)).mpr z)
                            have hw_225 : ¬ pz_wd (rB (Mf 1) (Mv 0)) (pz_sk (rB (Mf 1) (Mv 0)) (Mv 2).toInt.toNat) [103, 114, 97, 105, 110, 115] = true := by
                              rw [SkR.nat (SkR.trans (SkR.trans pf_8 pf_25) pf_42)]
                              have hq := pf_49
                              rw [show (113740958232179 : Int64).toInt = pz_pl [103, 114, 97, 105, 110, 115] by decide] at hq
                              exact fun z => hq ((PkW.wd (by decide) (by decide) (by decide)).mpr z)
                            have hw_226 : ¬ pz_wd (rB (Mf 1) (Mv 0)) (pz_sk (rB (Mf 1) (Mv 0)) (Mv 2).toInt.toNat) [119, 97, 105, 116, 115] = true := by
                              rw [SkR.nat (SkR.trans (SkR.trans (SkR.trans pf_8 pf_25) pf_42) pf_59)]
                              have hq := pf_66
                              rw [show (512735409267 : Int64).toInt = pz_pl [119, 97, 105, 116, 115] by decide] at hq
                              exact fun z => hq ((PkW.wd (by decide) (by decide) (by decide)).mpr z)
                            have hw_227 : ¬ pz_wd (rB (Mf 1) (Mv 0)) (pz_sk (rB (Mf 1) (Mv 0)) (Mv 2).toInt.toNat) [115, 116, 105, 108, 108] = true := by
                              rw [SkR.nat (SkR.trans (SkR.trans (SkR.trans (SkR.trans pf_8 pf_25) pf_42) pf_59) pf_76)]
                              have hq := pf_83
                              rw [show (495874305132 : Int64).toInt = pz_pl [115, 116, 105, 108, 108] by decide] at hq
                              exact fun z => hq ((PkW.wd (by decide) (by decide) (by decide)).mpr z)
                            have hw_228 : ¬ pz_wd (rB (Mf 1) (Mv 0)) (pz_sk (rB (Mf 1) (Mv 0)) (Mv 2).toInt.toNat) [110, 101, 120, 116] = true := by
                              rw [SkR.nat (SkR.trans (SkR.trans (SkR.trans (SkR.trans (SkR.trans pf_8 pf_25) pf_42) pf_59) pf_76) pf_93)]
                              have hq := pf_100
                              rw [show (1852143732 : Int64).toInt = pz_pl [110, 101, 120, 116] by decide] at hq
                              exact fun z => hq ((PkW.wd (by decide) (by decide) (by decide)).mpr z)
                            have hw_229 : ¬ pz_wd (rB (Mf 1) (Mv 0)) (pz_sk (rB (Mf 1) (Mv 0)) (Mv 2).toInt.toNat) [115, 104, 101, 108, 102] = true := by
                              rw [SkR.nat (SkR.trans (SkR.trans (SkR.trans (SkR.trans (SkR.trans (SkR.trans pf_8 pf_25) pf_42) pf_59) pf_76) pf_93) pf_110)]
                              have hq := pf_117
                              rw [show (495672716390 : Int64).toInt = pz_pl [115, 104, 101, 108, 102] by decide] at hq
                              exact fun z => hq ((PkW.wd (by decide) (by decide) (by decide)).mpr z)
                            have hw_230 : ¬ pz_wd (rB (Mf 1) (Mv 0)) (pz_sk (rB (Mf 1) (Mv 0)) (Mv 2).toInt.toNat) [98, 111, 117, 103, 104, 116] = true := by
                              rw [SkR.nat (SkR.trans (SkR.trans (SkR.trans (SkR.trans (SkR.trans (SkR.trans (SkR.trans pf_8 pf_25) pf_42) pf_59) pf_76) pf_93) pf_110) pf_127)]
                              have hq := pf_134
                              rw [show (108230850603124 : Int64).toInt = pz_pl [98, 111, 117, 103, 104, 116] by decide] at hq
                              exact fun z => hq ((PkW.wd (by decide) (by decide) (by decide)).mpr z)
                            have hw_231 : ¬ pz_wd (rB (Mf 1) (Mv 0)) (pz_sk (rB (Mf 1) (Mv 0)) (Mv 2).toInt.toNat) [109, 101, 116] = true := by
                              rw [SkR.nat (SkR.trans (SkR.trans (SkR.trans (SkR.trans (SkR.trans (SkR.trans (SkR.trans (SkR.trans pf_8 pf_25) pf_42) pf_59) pf_76) pf_93) pf_110) pf_127) pf_144)]
                              have hq := pf_151
                              rw [show (7169396 : Int64).toInt = pz_pl [109, 101, 116] by decide] at hq
                              exact fun z => hq ((PkW.wd (by decide) (by decide) (by decide)).mpr z)
                            have hw_232 : ¬ pz_wd (rB (Mf 1) (Mv 0)) (pz_sk (rB (Mf 1) (Mv 0)) (Mv 2).toInt.toNat) [115, 105, 110, 99, 101] = true := by
                              rw [SkR.nat (SkR.trans (SkR.trans (SkR.trans (SkR.trans (SkR.trans (SkR.trans (SkR.trans (SkR.trans (SkR.trans pf_8 pf_25) pf_42) pf_59) pf_76) pf_93) pf_110) pf_127) pf_144) pf_161)]
                              have hq := pf_168
                              rw [show (495690081125 : Int64).toInt = pz_pl [115, 105, 110, 99, 101] by decide] at hq
                              exact fun z => hq ((PkW.wd (by decide) (by decide) (by decide)).mpr z)
                            have hw_233 : ¬ pz_wd (rB (Mf 1) (Mv 0)) (pz_sk (rB (Mf 1) (Mv 0)) (Mv 2).toInt.toNat) [115, 111, 108, 100] = true := by
                              rw [SkR.nat (SkR.trans (SkR.trans (SkR.trans (SkR.trans (SkR.trans (SkR.trans (SkR.trans (SkR.trans (SkR.trans (SkR.trans pf_8 pf_25) pf_42) pf_59) pf_76) pf_93) pf_110) pf_127) pf_144) pf_161) pf_178)]
                              have hq := pf_185
                              rw [show (1936682084 : Int64).toInt = pz_pl [115, 111, 108, 100] by decide] at hq
                              exact fun z => hq ((PkW.wd (by decide) (by decide) (by decide)).mpr z)
                            have hw_234 : ¬ pz_wd (rB (Mf 1) (Mv 0)) (pz_sk (rB (Mf 1) (Mv 0)) (Mv 2).toInt.toNat) [99, 108, 111, 99, 107] = true := by
                              rw [SkR.nat (SkR.trans (SkR.trans (SkR.trans (SkR.trans (SkR.trans (SkR.trans (SkR.trans (SkR.trans (SkR.trans (SkR.trans (SkR.trans pf_8 pf_25) pf_42) pf_59) pf_76) pf_93) pf_110) pf_127) pf_144) pf_161) pf_178) pf_195)]
                              have hq := pf_202
                              rw [show (427021001579 : Int64).toInt = pz_pl [99, 108, 111, 99, 107] by decide] at hq
                              exact fun z => hq ((PkW.wd (by decide) (by decide) (by decide)).mpr z)
                            have hw_235 : ¬ pz_wd (rB (Mf 1) (Mv 0)) (pz_sk (rB (Mf 1) (Mv 0)) (Mv 2).toInt.toNat) [100, 97, 121] = true := by
                              rw [SkR.nat hs_222]
                              have hq := pf_219
                              rw [show (6578553 : Int64).toInt = pz_pl [100, 97, 121] by decide] at hq
                              exact fun z => hq ((PkW.wd (by decide) (by decide) (by decide)).mpr z)
                            have hp_236 : ((-1) : Int32).toInt = pz_wa (rB (Mf 1) (Mv 0)) (pz_sk (rB (Mf 1) (Mv 0)) (Mv 2).toInt.toNat) pz_words 0 := by
                              rw [show ((-1) : Int32).toInt = -1 by decide]
                              unfold pz_words
                              simp only [pz_wa]
                              rw [if_neg hw_223, if_neg hw_224, if_neg hw_225, if_neg hw_226, if_neg hw_227, if_neg hw_228, if_neg hw_229, if_neg hw_230, if_neg hw_231, if_neg hw_232, if_neg hw_233, if_neg hw_234, if_neg hw_235]
                              all_goals omega
                            have hp_237 : (((-1) : Int32).toInt = -1 ∨ (0 ≤ ((-1) : Int32).toInt ∧ ((-1) : Int32).toInt ≤ 12)) := by decide
                            exact retI (v := (-1)) hx hb hr hlk (rfl) hP hD hS sv_208 ⟨_, rfl, ⟨hp_236, hp_237⟩, ha_221, hs_222, (fun h => absurd h (by decide))⟩ [0, 1] rfl rfl dX12_wordHere_168 (Nat.le_of_ble_eq_true rfl) (Nat.le_of_ble_eq_true rfl) rfl
                          · skip
                            have hz_240 : (r_213 : Int32).toInt = 1 := by
                              have z_1 := congrArg Int32.toInt c_14
                              have z_2 := congrArg Int32.toInt c_31
                              have z_3 := congrArg Int32.toInt c_48
                              have z_4 := congrArg Int32.toInt c_65
                              have z_5 := congrArg Int32.toInt c_82
                              have z_6 := congrArg Int32.toInt c_99
                              have z_7 := congrArg Int32.toInt c_116
                              have z_8 := congrArg Int32.toInt c_133
                              have z_9 := congrArg Int32.toInt c_150
                              have z_10 := congrArg Int32.toInt c_167
                              have z_11 := congrArg Int32.toInt c_184
                              have z_12 := congrArg Int32.toInt c_201
                              have z_13 : ¬ (r_213 : Int32).toInt = (0 : Int32).toInt := fun z => c_218 (Int32.toInt_inj.mp z)
                              have y_0 : (0 : Int32).toInt = 0 := by decide
                              omega
                            obtain ⟨pf_238, pf_239⟩ := hm_216 hz_240
                            have pf_238 : Ltr (Mf 1) (Mv 0) sv_208 := pf_238
                            have ar_pf_238 := pf_238.1
                            have at_pf_238 : 97 ≤ ((Mf 1) (sv_208 : Int32).toInt.toNat).toInt ∧ ((Mf 1) (sv_208 : Int32).toInt.toNat).toInt ≤ 122 := pf_238.2
                            have pf_239 : PkW (rB (Mf 1) (Mv 0)) ((sv_208 : Int32).toInt.toNat) (6578553 : Int64).toInt := pf_239
                            refine lv_bipush (v := 12) hx hb dX12_wordHere_162 (by decide) ?_
                            refine lv_goto (tgt := 168) hx hb dX12_wordHere_164 (by decide) ?_
                            have ha_241 : ((Mv 2) : Int32).toInt ≤ (sv_208 : Int32).toInt ∧ (sv_208 : Int32).toInt ≤ ((Mv 0) : Int32).toInt := by
                              have z_1 := congrArg Int32.toInt c_14
                              have z_2 := congrArg Int32.toInt c_31
                              have z_3 := congrArg Int32.toInt c_48
                              have z_4 := congrArg Int32.toInt c_65
                              have z_5 := congrArg Int32.toInt c_82
                              have z_6 := congrArg Int32.toInt c_99
                              have z_7 := congrArg Int32.toInt c_116
                              have z_8 := congrArg Int32.toInt c_133
                              have z_9 := congrArg Int32.toInt c_150
                              have z_10 := congrArg Int32.toInt c_167
                              have z_11 := congrArg Int32.toInt c_184
                              have z_12 := congrArg Int32.toInt c_201
                              have z_13 : ¬ (r_213 : Int32).toInt = (0 : Int32).toInt := fun z => c_218 (Int32.toInt_inj.mp z)
                              have y_0 : (0 : Int32).toInt = 0 := by decide
                              omega
                            have hs_242 : SkR (rB (Mf 1) (Mv 0)) (Mv 2) sv_208 := (SkR.trans (SkR.trans (SkR.trans (SkR.trans (SkR.trans (SkR.trans (SkR.trans (SkR.trans (SkR.trans (SkR.trans (SkR.trans (SkR.trans pf_8 pf_25) pf_42) pf_59) pf_76) pf_93) pf_110) pf_127) pf_144) pf_161) pf_178) pf_195) pf_212)
                            have hw_243 : ¬ pz_wd (rB (Mf 1) (Mv 0)) (pz_sk (rB (Mf 1) (Mv 0)) (Mv 2).toInt.toNat) pz_buyer = true := by
                              rw [SkR.nat pf_8]
                              have hq := pf_15
                              rw [show (422877685106 : Int64).toInt = pz_pl pz_buyer by decide] at hq
                              exact fun z => hq ((PkW.wd (by decide) (by decide) (by decide)).mpr z)
                            have hw_244 : ¬ pz_wd (rB (Mf 1) (Mv 0)) (pz_sk (rB (Mf 1) (Mv 0)) (Mv 2).toInt.toNat) [116, 101, 109, 112, 101, 114] = true := by
                              rw [SkR.nat (SkR.trans pf_8 pf_25)]
                              have hq := pf_32
                              rw [show (127978976601458 : Int64).toInt = pz_pl [116, 101, 109, 112, 101, 114] by decide] at hq
                              exact fun z => hq ((PkW.wd (by decide) (by decide) (by decide)).mpr z)
                            have hw_245 : ¬ pz_wd (rB (Mf 1) (Mv 0)) (pz_sk (rB (Mf 1) (Mv 0)) (Mv 2).toInt.toNat) [103, 114, 97, 105, 110, 115] = true := by
                              rw [SkR.nat (SkR.trans (SkR.trans pf_8 pf_25) pf_42)]
                              have hq := pf_49
                              rw [show (113740958232179 : Int64).toInt = pz_pl [103, 114, 97, 105, 110, 115] by decide] at hq
                              exact fun z => hq ((PkW.wd (by decide) (by decide) (by decide)).mpr z)
                            have hw_246 : ¬ pz_wd (rB (Mf 1) (Mv 0)) (pz_sk (rB (Mf 1) (Mv 0)) (Mv 2).toInt.toNat) [119, 97, 105, 116, 115] = true := by
                              rw [SkR.nat (SkR.trans (SkR.trans (SkR.trans pf_8 pf_25) pf_42) pf_59)]
                              have hq := pf_66
                              rw [show (512735409267 : Int64).toInt = pz_pl [119, 97, 105, 116, 115] by decide] at hq
                              exact fun z => hq ((PkW.wd (by decide) (by decide) (by decide)).mpr z)
                            have hw_247 : ¬ pz_wd (rB (Mf 1) (Mv 0)) (pz_sk (rB (Mf 1) (Mv 0)) (Mv 2).toInt.toNat) [115, 116, 105, 108, 108] = true := by
                              rw [SkR.nat (SkR.trans (SkR.trans (SkR.trans (SkR.trans pf_8 pf_25) pf_42) pf_59) pf_76)]
                              have hq := pf_83
                              rw [show (495874305132 : Int64).toInt = pz_pl [115, 116, 105, 108, 108] by decide] at hq
                              exact fun z => hq ((PkW.wd (by decide) (by decide) (by decide)).mpr z)
                            have hw_248 : ¬ pz_wd (rB (Mf 1) (Mv 0)) (pz_sk (rB (Mf 1) (Mv 0)) (Mv 2).toInt.toNat) [110, 101, 120, 116] = true := by
                              rw [SkR.nat (SkR.trans (SkR.trans (SkR.trans (SkR.trans (SkR.trans pf_8 pf_25) pf_42) pf_59) pf_76) pf_93)]
                              have hq := pf_100
                              rw [show (1852143732 : Int64).toInt = pz_pl [110, 101, 120, 116] by decide] at hq
                              exact fun z => hq ((PkW.wd (by decide) (by decide) (by decide)).mpr z)
                            have hw_249 : ¬ pz_wd (rB (Mf 1) (Mv 0)) (pz_sk (rB (Mf 1) (Mv 0)) (Mv 2).toInt.toNat) [115, 104, 101, 108, 102] = true := by
                              rw [SkR.nat (SkR.trans (SkR.trans (SkR.trans (SkR.trans (SkR.trans (SkR.trans pf_8 pf_25) pf_42) pf_59) pf_76) pf_93) pf_110)]
                              have hq := pf_117
                              rw [show (495672716390 : Int64).toInt = pz_pl [115, 104, 101, 108, 102] by decide] at hq
                              exact fun z => hq ((PkW.wd (by decide) (by decide) (by decide)).mpr z)
                            have hw_250 : ¬ pz_wd (rB (Mf 1) (Mv 0)) (pz_sk (rB (Mf 1) (Mv 0)) (Mv 2).toInt.toNat) [98, 111, 117, 103, 104, 116] = true := by
                              rw [SkR.nat (SkR.trans (SkR.trans (SkR.trans (SkR.trans (SkR.trans (SkR.trans (SkR.trans pf_8 pf_25) pf_42) pf_59) pf_76) pf_93) pf_110) pf_127)]
                              have hq := pf_134
                              rw [show (108230850603124 : Int64).toInt = pz_pl [98, 111, 117, 103, 104, 116] by decide] at hq
                              exact fun z => hq ((PkW.wd (by decide) (by decide) (by decide)).mpr z)
                            have hw_251 : ¬ pz_wd (rB (Mf 1) (Mv 0)) (pz_sk (rB (Mf 1) (Mv 0)) (Mv 2).toInt.toNat) [109, 101, 116] = true := by
                              rw [SkR.nat (SkR.trans (SkR.trans (SkR.trans (SkR.trans (SkR.trans (SkR.trans (SkR.trans (SkR.trans pf_8 pf_25) pf_42) pf_59) pf_76) pf_93) pf_110) pf_127) pf_144)]
                              have hq := pf_151
                              rw [show (7169396 : Int64).toInt = pz_pl [109, 101, 116] by decide] at hq
                              exact fun z => hq ((PkW.wd (by decide) (by decide) (by decide)).mpr z)
                            have hw_252 : ¬ pz_wd (rB (Mf 1) (Mv 0)) (pz_sk (rB (Mf 1) (Mv 0)) (Mv 2).toInt.toNat) [115, 105, 110, 99, 101] = true := by
                              rw [SkR.nat (SkR.trans (SkR.trans (SkR.trans (SkR.trans (SkR.trans (SkR.trans (SkR.trans (SkR.trans (SkR.trans pf_8 pf_25) pf_42) pf_59) pf_76) pf_93) pf_110) pf_127) pf_144) pf_161)]
                              have hq := pf_168
                              rw [show (495690081125 : Int64).toInt = pz_pl [115, 105, 110, 99, 101] by decide] at hq
                              exact fun z => hq ((PkW.wd (by decide) (by decide) (by decide)).mpr z)
                            have hw_253 : ¬ pz_wd (rB (Mf 1) (Mv 0)) (pz_sk (rB (Mf 1) (Mv 0)) (Mv 2).toInt.toNat) [115, 111, 108, 100] = true := by
                              rw [SkR.nat (SkR.trans (SkR.trans (SkR.trans (SkR.trans (SkR.trans (SkR.trans (SkR.trans (SkR.trans (SkR.trans (SkR.trans pf_8 pf_25) pf_42) pf_59) pf_76) pf_93) pf_110) pf_127) pf_144) pf_161) pf_178)]
                              have hq := pf_185
                              rw [show (1936682084 : Int64).toInt = pz_pl [115, 111, 108, 100] by decide] at hq
                              exact fun z => hq ((PkW.wd (by decide) (by decide) (by decide)).mpr z)
                            have hw_254 : ¬ pz_wd (rB (Mf 1) (Mv 0)) (pz_sk (rB (Mf 1) (Mv 0)) (Mv 2).toInt.toNat) [99, 108, 111, 99, 107] = true := by
                              rw [SkR.nat (SkR.trans (SkR.trans (SkR.trans (SkR.trans (SkR.trans (SkR.trans (SkR.trans (SkR.trans (SkR.trans (SkR.trans (SkR.trans pf_8 pf_25) pf_42) pf_59) pf_76) pf_93) pf_110) pf_127) pf_144) pf_161) pf_178) pf_195)]
                              have hq := pf_202
                              rw [show (427021001579 : Int64).toInt = pz_pl [99, 108, 111, 99, 107] by decide] at hq
                              exact fun z => hq ((PkW.wd (by decide) (by decide) (by decide)).mpr z)
                            have hw_255 : pz_wd (rB (Mf 1) (Mv 0)) (pz_sk (rB (Mf 1) (Mv 0)) (Mv 2).toInt.toNat) [100, 97, 121] = true := by
                              rw [SkR.nat hs_242]
                              have hq := pf_239
                              rw [show (6578553 : Int64).toInt = pz_pl [100, 97, 121] by decide] at hq
                              exact (PkW.wd (by decide) (by decide) (by decide)).mp hq
                            have hp_256 : (12 : Int32).toInt = pz_wa (rB (Mf 1) (Mv 0)) (pz_sk (rB (Mf 1) (Mv 0)) (Mv 2).toInt.toNat) pz_words 0 := by
                              rw [show (12 : Int32).toInt = 12 by decide]
                              unfold pz_words
                              simp only [pz_wa]
                              rw [if_neg hw_243, if_neg hw_244, if_neg hw_245, if_neg hw_246, if_neg hw_247, if_neg hw_248, if_neg hw_249, if_neg hw_250, if_neg hw_251, if_neg hw_252, if_neg hw_253, if_neg hw_254, if_pos hw_255]
                              all_goals omega
                            have hp_257 : ((12 : Int32).toInt = -1 ∨ (0 ≤ (12 : Int32).toInt ∧ (12 : Int32).toInt ≤ 12)) := by decide
                            have hm_258 : 0 ≤ (12 : Int32).toInt → (Ltr (Mf 1) (Mv 0) sv_208) := by
                              intro h1r
                              exact pf_238
                            exact retI (v := 12) hx hb hr hlk (rfl) hP hD hS sv_208 ⟨_, rfl, ⟨hp_256, hp_257⟩, ha_241, hs_242, hm_258⟩ [0, 1] rfl rfl dX12_wordHere_168 (Nat.le_of_ble_eq_true rfl) (Nat.le_of_ble_eq_true rfl) rfl
                        · skip
                          have hz_261 : (r_196 : Int32).toInt = 1 := by
                            have z_1 := congrArg Int32.toInt c_14
                            have z_2 := congrArg Int32.toInt c_31
                            have z_3 := congrArg Int32.toInt c_48
                            have z_4 := congrArg Int32.toInt c_65
                            have z_5 := congrArg Int32.toInt c_82
                            have z_6 := congrArg Int32.toInt c_99
                            have z_7 := congrArg Int32.toInt c_116
                            have z_8 := congrArg Int32.toInt c_133
                            have z_9 := congrArg Int32.toInt c_150
                            have z_10 := congrArg Int32.toInt c_167
                            have z_11 := congrArg Int32.toInt c_184
                            have z_12 : ¬ (r_196 : Int32).toInt = (0 : Int32).toInt := fun z => c_201 (Int32.toInt_inj.mp z)
                            have y_0 : (0 : Int32).toInt = 0 := by decide
                            omega
                          obtain ⟨pf_259, pf_260⟩ := hm_199 hz_261
                          have pf_259 : Ltr (Mf 1) (Mv 0) sv_191 := pf_259
                          have ar_pf_259 := pf_259.1
                          have at_pf_259 : 97 ≤ ((Mf 1) (sv_191 : Int32).toInt.toNat).toInt ∧ ((Mf 1) (sv_191 : Int32).toInt.toNat).toInt ≤ 122 := pf_259.2
                          have pf_260 : PkW (rB (Mf 1) (Mv 0)) ((sv_191 : Int32).toInt.toNat) (427021001579 : Int64).toInt := pf_260
                          refine lv_bipush (v := 11) hx hb dX12_wordHere_147 (by decide) ?_
                          refine lv_goto (tgt := 168) hx hb dX12_wordHere_149 (by decide) ?_
                          have ha_262 : ((Mv 2) : Int32).toInt ≤ (sv_191 : Int32).toInt ∧ (sv_191 : Int32).toInt ≤ ((Mv 0) : Int32).toInt := by
                            have z_1 := congrArg Int32.toInt c_14
                            have z_2 := congrArg Int32.toInt c_31
                            have z_3 := congrArg Int32.toInt c_48
                            have z_4 := congrArg Int32.toInt c_65
                            have z_5 := congrArg Int32.toInt c_82
                            have z_6 := congrArg Int32.toInt c_99
                            have z_7 := congrArg Int32.toInt c_116
                            have z_8 := congrArg Int32.toInt c_133
                            have z_9 := congrArg Int32.toInt c_150
                            have z_10 := congrArg Int32.toInt c_167
                            have z_11 := congrArg Int32.toInt c_184
                            have z_12 : ¬ (r_196 : Int32).toInt = (0 : Int32).toInt := fun z => c_201 (Int32.toInt_inj.mp z)
                            have y_0 : (0 : Int32).toInt = 0 := by decide
                            omega
                          have hs_263 : SkR (rB (Mf 1) (Mv 0)) (Mv 2) sv_191 := (SkR.trans (SkR.trans (SkR.trans (SkR.trans (SkR.trans (SkR.trans (SkR.trans (SkR.trans (SkR.trans (SkR.trans (SkR.trans pf_8 pf_25) pf_42) pf_59) pf_76) pf_93) pf_110) pf_127) pf_144) pf_161) pf_178) pf_195)
                          have hw_264 : ¬ pz_wd (rB (Mf 1) (Mv 0)) (pz_sk (rB (Mf 1) (Mv 0)) (Mv 2).toInt.toNat) pz_buyer = true := by
                            rw [SkR.nat pf_8]
                            have hq := pf_15
                            rw [show (422877685106 : Int64).toInt = pz_pl pz_buyer by decide] at hq
                            exact fun z => hq ((PkW.wd (by decide) (by decide) (by decide)).mpr z)
                          have hw_265 : ¬ pz_wd (rB (Mf 1) (Mv 0)) (pz_sk (rB (Mf 1) (Mv 0)) (Mv 2).toInt.toNat) [116, 101, 109, 112, 101, 114] = true := by
                            rw [SkR.nat (SkR.trans pf_8 pf_25)]
                            have hq := pf_32
                            rw [show (127978976601458 : Int64).toInt = pz_pl [116, 101, 109, 112, 101, 114] by decide] at hq
                            exact fun z => hq ((PkW.wd (by decide) (by decide) (by decide)).mpr z)
                          have hw_266 : ¬ pz_wd (rB (Mf 1) (Mv 0)) (pz_sk (rB (Mf 1) (Mv 0)) (Mv 2).toInt.toNat) [103, 114, 97, 105, 110, 115] = true := by
                            rw [SkR.nat (SkR.trans (SkR.trans pf_8 pf_25) pf_42)]
                            have hq := pf_49
                            rw [show (113740958232179 : Int64).toInt = pz_pl [103, 114, 97, 105, 110, 115] by decide] at hq
                            exact fun z => hq ((PkW.wd (by decide) (by decide) (by decide)).mpr z)
                          have hw_267 : ¬ pz_wd (rB (Mf 1) (Mv 0)) (pz_sk (rB (Mf 1) (Mv 0)) (Mv 2).toInt.toNat) [119, 97, 105, 116, 115] = true := by
                            rw [SkR.nat (SkR.trans (SkR.trans (SkR.trans pf_8 pf_25) pf_42) pf_59)]
                            have hq := pf_66
                            rw [show (512735409267 : Int64).toInt = pz_pl [119, 97, 105, 116, 115] by decide] at hq
                            exact fun z => hq ((PkW.wd (by decide) (by decide) (by decide)).mpr z)
                          have hw_268 : ¬ pz_wd (rB (Mf 1) (Mv 0)) (pz_sk (rB (Mf 1) (Mv 0)) (Mv 2).toInt.toNat) [115, 116, 105, 108, 108] = true := by
                            rw [SkR.nat (SkR.trans (SkR.trans (SkR.trans (SkR.trans pf_8 pf_25) pf_42) pf_59) pf_76)]
                            have hq := pf_83
                            rw [show (495874305132 : Int64).toInt = pz_pl [115, 116, 105, 108, 108] by decide] at hq
                            exact fun z => hq ((PkW.wd (by decide) (by decide) (by decide)).mpr z)
                          have hw_269 : ¬ pz_wd (rB (Mf 1) (Mv 0)) (pz_sk (rB (Mf 1) (Mv 0)) (Mv 2).toInt.toNat) [110, 101, 120, 116] = true := by
                            rw [SkR.nat (SkR.trans (SkR.trans (SkR.trans (SkR.trans (SkR.trans pf_8 pf_25) pf_42) pf_59) pf_76) pf_93)]
                            have hq := pf_100
                            rw [show (1852143732 : Int64).toInt = pz_pl [110, 101, 120, 116] by decide] at hq
                            exact fun z => hq ((PkW.wd (by decide) (by decide) (by decide)).mpr z)
                          have hw_270 : ¬ pz_wd (rB (Mf 1) (Mv 0)) (pz_sk (rB (Mf 1) (Mv 0)) (Mv 2).toInt.toNat) [115, 104, 101, 108, 102] = true := by
                            rw [SkR.nat (SkR.trans (SkR.trans (SkR.trans (SkR.trans (SkR.trans (SkR.trans pf_8 pf_25) pf_42) pf_59) pf_76) pf_93) pf_110)]
                            have hq := pf_117
                            rw [show (495672716390 : Int64).toInt = pz_pl [115, 104, 101, 108, 102] by decide] at hq
                            exact fun z => hq ((PkW.wd (by decide) (by decide) (by decide)).mpr z)
                          have hw_271 : ¬ pz_wd (rB (Mf 1) (Mv 0)) (pz_sk (rB (Mf 1) (Mv 0)) (Mv 2).toInt.toNat) [98, 111, 117, 103, 104, 116] = true := by
                            rw [SkR.nat (SkR.trans (SkR.trans (SkR.trans (SkR.trans (SkR.trans (SkR.trans (SkR.trans pf_8 pf_25) pf_42) pf_59) pf_76) pf_93) pf_110) pf_127)]
                            have hq := pf_134
                            rw [show (108230850603124 : Int64).toInt = pz_pl [98, 111, 117, 103, 104, 116] by decide] at hq
                            exact fun z => hq ((PkW.wd (by decide) (by decide) (by decide)).mpr z)
                          have hw_272 : ¬ pz_wd (rB (Mf 1) (Mv 0)) (pz_sk (rB (Mf 1) (Mv 0)) (Mv 2).toInt.toNat) [109, 101, 116] = true := by
                            rw [SkR.nat (SkR.trans (SkR.trans (SkR.trans (SkR.trans (SkR.trans (SkR.trans (SkR.trans (SkR.trans pf_8 pf_25) pf_42) pf_59) pf_76) pf_93) pf_110) pf_127) pf_144)]
                            have hq := pf_151
                            rw [show (7169396 : Int64).toInt = pz_pl [109, 101, 116] by decide] at hq
                            exact fun z => hq ((PkW.wd (by decide) (by decide) (by decide)).mpr z)
                          have hw_273 : ¬ pz_wd (rB (Mf 1) (Mv 0)) (pz_sk (rB (Mf 1) (Mv 0)) (Mv 2).toInt.toNat) [115, 105, 110, 99, 101] = true := by
                            rw [SkR.nat (SkR.trans (SkR.trans (SkR.trans (SkR.trans (SkR.trans (SkR.trans (SkR.trans (SkR.trans (SkR.trans pf_8 pf_25) pf_42) pf_59) pf_76) pf_93) pf_110) pf_127) pf_144) pf_161)]
                            have hq := pf_168
                            rw [show (495690081125 : Int64).toInt = pz_pl [115, 105, 110, 99, 101] by decide] at hq
                            exact fun z => hq ((PkW.wd (by decide) (by decide) (by decide)).mpr z)
                          have hw_274 : ¬ pz_wd (rB (Mf 1) (Mv 0)) (pz_sk (rB (Mf 1) (Mv 0)) (Mv 2).toInt.toNat) [115, 111, 108, 100] = true := by
                            rw [SkR.nat (SkR.trans (SkR.trans (SkR.trans (SkR.trans (SkR.trans (SkR.trans (SkR.trans (SkR.trans (SkR.trans (SkR.trans pf_8 pf_25) pf_42) pf_59) pf_76) pf_93) pf_110) pf_127) pf_144) pf_161) pf_178)]
                            have hq := pf_185
                            rw [show (1936682084 : Int64).toInt = pz_pl [115, 111, 108, 100] by decide] at hq
                            exact fun z => hq ((PkW.wd (by decide) (by decide) (by decide)).mpr z)
                          have hw_275 : pz_wd (rB (Mf 1) (Mv 0)) (pz_sk (rB (Mf 1) (Mv 0)) (Mv 2).toInt.toNat) [99, 108, 111, 99, 107] = true := by
                            rw [SkR.nat hs_263]
                            have hq := pf_260
                            rw [show (427021001579 : Int64).toInt = pz_pl [99, 108, 111, 99, 107] by decide] at hq
                            exact (PkW.wd (by decide) (by decide) (by decide)).mp hq
                          have hp_276 : (11 : Int32).toInt = pz_wa (rB (Mf 1) (Mv 0)) (pz_sk (rB (Mf 1) (Mv 0)) (Mv 2).toInt.toNat) pz_words 0 := by
                            rw [show (11 : Int32).toInt = 11 by decide]
                            unfold pz_words
                            simp only [pz_wa]
                            rw [if_neg hw_264, if_neg hw_265, if_neg hw_266, if_neg hw_267, if_neg hw_268, if_neg hw_269, if_neg hw_270, if_neg hw_271, if_neg hw_272, if_neg hw_273, if_neg hw_274, if_pos hw_275]
                            all_goals omega
                          have hp_277 : ((11 : Int32).toInt = -1 ∨ (0 ≤ (11 : Int32).toInt ∧ (11 : Int32).toInt ≤ 12)) := by decide
                          have hm_278 : 0 ≤ (11 : Int32).toInt → (Ltr (Mf 1) (Mv 0) sv_191) := by
                            intro h1r
                            exact pf_259
                          exact retI (v := 11) hx hb hr hlk (rfl) hP hD hS sv_191 ⟨_, rfl, ⟨hp_276, hp_277⟩, ha_262, hs_263, hm_278⟩ [0, 1] rfl rfl dX12_wordHere_168 (Nat.le_of_ble_eq_true rfl) (Nat.le_of_ble_eq_true rfl) rfl
                      · skip
                        have hz_281 : (r_179 : Int32).toInt = 1 := by
                          have z_1 := congrArg Int32.toInt c_14
                          have z_2 := congrArg Int32.toInt c_31
                          have z_3 := congrArg Int32.toInt c_48
                          have z_4 := congrArg Int32.toInt c_65
                          have z_5 := congrArg Int32.toInt c_82
                          have z_6 := congrArg Int32.toInt c_99
                          have z_7 := congrArg Int32.toInt c_116
                          have z_8 := congrArg Int32.toInt c_133
                          have z_9 := congrArg Int32.toInt c_150
                          have z_10 := congrArg Int32.toInt c_167
                          have z_11 : ¬ (r_179 : Int32).toInt = (0 : Int32).toInt := fun z => c_184 (Int32.toInt_inj.mp z)
                          have y_0 : (0 : Int32).toInt = 0 := by decide
                          omega
                        obtain ⟨pf_279, pf_280⟩ := hm_182 hz_281
                        have pf_279 : Ltr (Mf 1) (Mv 0) sv_174 := pf_279
                        have ar_pf_279 := pf_279.1
                        have at_pf_279 : 97 ≤ ((Mf 1) (sv_174 : Int32).toInt.toNat).toInt ∧ ((Mf 1) (sv_174 : Int32).toInt.toNat).toInt ≤ 122 := pf_279.2
                        have pf_280 : PkW (rB (Mf 1) (Mv 0)) ((sv_174 : Int32).toInt.toNat) (1936682084 : Int64).toInt := pf_280
                        refine lv_bipush (v := 10) hx hb dX12_wordHere_134 (by decide) ?_
                        have ha_282 : ((Mv 2) : Int32).toInt ≤ (sv_174 : Int32).toInt ∧ (sv_174 : Int32).toInt ≤ ((Mv 0) : Int32).toInt := by
                          have z_1 := congrArg Int32.toInt c_14
                          have z_2 := congrArg Int32.toInt c_31
                          have z_3 := congrArg Int32.toInt c_48
                          have z_4 := congrArg Int32.toInt c_65
                          have z_5 := congrArg Int32.toInt c_82
                          have z_6 := congrArg Int32.toInt c_99
                          have z_7 := congrArg Int32.toInt c_116
                          have z_8 := congrArg Int32.toInt c_133
                          have z_9 := congrArg Int32.toInt c_150
                          have z_10 := congrArg Int32.toInt c_167
                          have z_11 : ¬ (r_179 : Int32).toInt = (0 : Int32).toInt := fun z => c_184 (Int32.toInt_inj.mp z)
                          have y_0 : (0 : Int32).toInt = 0 := by decide
                          omega
                        have hs_283 : SkR (rB (Mf 1) (Mv 0)) (Mv 2) sv_174 := (SkR.trans (SkR.trans (SkR.trans (SkR.trans (SkR.trans (SkR.trans (SkR.trans (SkR.trans (SkR.trans (SkR.trans pf_8 pf_25) pf_42) pf_59) pf_76) pf_93) pf_110) pf_127) pf_144) pf_161) pf_178)
                        have hw_284 : ¬ pz_wd (rB (Mf 1) (Mv 0)) (pz_sk (rB (Mf 1) (Mv 0)) (Mv 2).toInt.toNat) pz_buyer = true := by
                          rw [SkR.nat pf_8]
                          have hq := pf_15
                          rw [show (422877685106 : Int64).toInt = pz_pl pz_buyer by decide] at hq
                          exact fun z => hq ((PkW.wd (by decide) (by decide) (by decide)).mpr z)
                        have hw_285 : ¬ pz_wd (rB (Mf 1) (Mv 0)) (pz_sk (rB (Mf 1) (Mv 0)) (Mv 2).toInt.toNat) [116, 101, 109, 112, 101, 114] = true := by
                          rw [SkR.nat (SkR.trans pf_8 pf_25)]
                          have hq := pf_32
                          rw [show (127978976601458 : Int64).toInt = pz_pl [116, 101, 109, 112, 101, 114] by decide] at hq
                          exact fun z => hq ((PkW.wd (by decide) (by decide) (by decide)).mpr z)
                        have hw_286 : ¬ pz_wd (rB (Mf 1) (Mv 0)) (pz_sk (rB (Mf 1) (Mv 0)) (Mv 2).toInt.toNat) [103, 114, 97, 105, 110, 115] = true := by
                          rw [SkR.nat (SkR.trans (SkR.trans pf_8 pf_25) pf_42)]
                          have hq := pf_49
                          rw [show (113740958232179 : Int64).toInt = pz_pl [103, 114, 97, 105, 110, 115] by decide] at hq
                          exact fun z => hq ((PkW.wd (by decide) (by decide) (by decide)).mpr z)
                        have hw_287 : ¬ pz_wd (rB (Mf 1) (Mv 0)) (pz_sk (rB (Mf 1) (Mv 0)) (Mv 2).toInt.toNat) [119, 97, 105, 116, 115] = true := by
                          rw [SkR.nat (SkR.trans (SkR.trans (SkR.trans pf_8 pf_25) pf_42) pf_59)]
                          have hq := pf_66
                          rw [show (512735409267 : Int64).toInt = pz_pl [119, 97, 105, 116, 115] by decide] at hq
                          exact fun z => hq ((PkW.wd (by decide) (by decide) (by decide)).mpr z)
                        have hw_288 : ¬ pz_wd (rB (Mf 1) (Mv 0)) (pz_sk (rB (Mf 1) (Mv 0)) (Mv 2).toInt.toNat) [115, 116, 105, 108, 108] = true := by
                          rw [SkR.nat (SkR.trans (SkR.trans (SkR.trans (SkR.trans pf_8 pf_25) pf_42) pf_59) pf_76)]
                          have hq := pf_83
                          rw [show (495874305132 : Int64).toInt = pz_pl [115, 116, 105, 108, 108] by decide] at hq
                          exact fun z => hq ((PkW.wd (by decide) (by decide) (by decide)).mpr z)
                        have hw_289 : ¬ pz_wd (rB (Mf 1) (Mv 0)) (pz_sk (rB (Mf 1) (Mv 0)) (Mv 2).toInt.toNat) [110, 101, 120, 116] = true := by
                          rw [SkR.nat (SkR.trans (SkR.trans (SkR.trans (SkR.trans (SkR.trans pf_8 pf_25) pf_42) pf_59) pf_76) pf_93)]
                          have hq := pf_100
                          rw [show (1852143732 : Int64).toInt = pz_pl [110, 101, 120, 116] by decide] at hq
                          exact fun z => hq ((PkW.wd (by decide) (by decide) (by decide)).mpr z)
                        have hw_290 : ¬ pz_wd (rB (Mf 1) (Mv 0)) (pz_sk (rB (Mf 1) (Mv 0)) (Mv 2).toInt.toNat) [115, 104, 101, 108, 102] = true := by
                          rw [SkR.nat (SkR.trans (SkR.trans (SkR.trans (SkR.trans (SkR.trans (SkR.trans pf_8 pf_25) pf_42) pf_59) pf_76) pf_93) pf_110)]
                          have hq := pf_117
                          rw [show (495672716390 : Int64).toInt = pz_pl [115, 104, 101, 108, 102] by decide] at hq
                          exact fun z => hq ((PkW.wd (by decide) (by decide) (by decide)).mpr z)
                        have hw_291 : ¬ pz_wd (rB (Mf 1) (Mv 0)) (pz_sk (rB (Mf 1) (Mv 0)) (Mv 2).toInt.toNat) [98, 111, 117, 103, 104, 116] = true := by
                          rw [SkR.nat (SkR.trans (SkR.trans (SkR.trans (SkR.trans (SkR.trans (SkR.trans (SkR.trans pf_8 pf_25) pf_42) pf_59) pf_76) pf_93) pf_110) pf_127)]
                          have hq := pf_134
                          rw [show (108230850603124 : Int64).toInt = pz_pl [98, 111, 117, 103, 104, 116] by decide] at hq
                          exact fun z => hq ((PkW.wd (by decide) (by decide) (by decide)).mpr z)
                        have hw_292 : ¬ pz_wd (rB (Mf 1) (Mv 0)) (pz_sk (rB (Mf 1) (Mv 0)) (Mv 2).toInt.toNat) [109, 101, 116] = true := by
                          rw [SkR.nat (SkR.trans (SkR.trans (SkR.trans (SkR.trans (SkR.trans (SkR.trans (SkR.trans (SkR.trans pf_8 pf_25) pf_42) pf_59) pf_76) pf_93) pf_110) pf_127) pf_144)]
                          have hq := pf_151
                          rw [show (7169396 : Int64).toInt = pz_pl [109, 101, 116] by decide] at hq
                          exact fun z => hq ((PkW.wd (by decide) (by decide) (by decide)).mpr z)
                        have hw_293 : ¬ pz_wd (rB (Mf 1) (Mv 0)) (pz_sk (rB (Mf 1) (Mv 0)) (Mv 2).toInt.toNat) [115, 105, 110, 99, 101] = true := by
                          rw [SkR.nat (SkR.trans (SkR.trans (SkR.trans (SkR.trans (SkR.trans (SkR.trans (SkR.trans (SkR.trans (SkR.trans pf_8 pf_25) pf_42) pf_59) pf_76) pf_93) pf_110) pf_127) pf_144) pf_161)]
                          have hq := pf_168
                          rw [show (495690081125 : Int64).toInt = pz_pl [115, 105, 110, 99, 101] by decide] at hq
                          exact fun z => hq ((PkW.wd (by decide) (by decide) (by decide)).mpr z)
                        have hw_294 : pz_wd (rB (Mf 1) (Mv 0)) (pz_sk (rB (Mf 1) (Mv 0)) (Mv 2).toInt.toNat) [115, 111, 108, 100] = true := by
                          rw [SkR.nat hs_283]
                          have hq := pf_280
                          rw [show (1936682084 : Int64).toInt = pz_pl [115, 111, 108, 100] by decide] at hq
                          exact (PkW.wd (by decide) (by decide) (by decide)).mp hq
                        have hp_295 : (10 : Int32).toInt = pz_wa (rB (Mf 1) (Mv 0)) (pz_sk (rB (Mf 1) (Mv 0)) (Mv 2).toInt.toNat) pz_words 0 := by
                          rw [show (10 : Int32).toInt = 10 by decide]
                          unfold pz_words
                          simp only [pz_wa]
                          rw [if_neg hw_284, if_neg hw_285, if_neg hw_286, if_neg hw_287, if_neg hw_288, if_neg hw_289, if_neg hw_290, if_neg hw_291, if_neg hw_292, if_neg hw_293, if_pos hw_294]
                          all_goals omega
                        have hp_296 : ((10 : Int32).toInt = -1 ∨ (0 ≤ (10 : Int32).toInt ∧ (10 : Int32).toInt ≤ 12)) := by decide
                        have hm_297 : 0 ≤ (10 : Int32).toInt → (Ltr (Mf 1) (Mv 0) sv_174) := by
                          intro h1r
                          exact pf_279
                        exact retI (v := 10) hx hb hr hlk (rfl) hP hD hS sv_174 ⟨_, rfl, ⟨hp_295, hp_296⟩, ha_282, hs_283, hm_297⟩ [0, 1] rfl rfl dX12_wordHere_136 (Nat.le_of_ble_eq_true rfl) (Nat.le_of_ble_eq_true rfl) rfl
                    · skip
                      have hz_300 : (r_162 : Int32).toInt = 1 := by
                        have z_1 := congrArg Int32.toInt c_14
                        have z_2 := congrArg Int32.toInt c_31
                        have z_3 := congrArg Int32.toInt c_48
                        have z_4 := congrArg Int32.toInt c_65
                        have z_5 := congrArg Int32.toInt c_82
                        have z_6 := congrArg Int32.toInt c_99
                        have z_7 := congrArg Int32.toInt c_116
                        have z_8 := congrArg Int32.toInt c_133
                        have z_9 := congrArg Int32.toInt c_150
                        have z_10 : ¬ (r_162 : Int32).toInt = (0 : Int32).toInt := fun z => c_167 (Int32.toInt_inj.mp z)
                        have y_0 : (0 : Int32).toInt = 0 := by decide
                        omega
                      obtain ⟨pf_298, pf_299⟩ := hm_165 hz_300
                      have pf_298 : Ltr (Mf 1) (Mv 0) sv_157 := pf_298
                      have ar_pf_298 := pf_298.1
                      have at_pf_298 : 97 ≤ ((Mf 1) (sv_157 : Int32).toInt.toNat).toInt ∧ ((Mf 1) (sv_157 : Int32).toInt.toNat).toInt ≤ 122 := pf_298.2
                      have pf_299 : PkW (rB (Mf 1) (Mv 0)) ((sv_157 : Int32).toInt.toNat) (495690081125 : Int64).toInt := pf_299
                      refine lv_bipush (v := 9) hx hb dX12_wordHere_121 (by decide) ?_
                      have ha_301 : ((Mv 2) : Int32).toInt ≤ (sv_157 : Int32).toInt ∧ (sv_157 : Int32).toInt ≤ ((Mv 0) : Int32).toInt := by
                        have z_1 := congrArg Int32.toInt c_14
                        have z_2 := congrArg Int32.toInt c_31
                        have z_3 := congrArg Int32.toInt c_48
                        have z_4 := congrArg Int32.toInt c_65
                        have z_5 := congrArg Int32.toInt c_82
                        have z_6 := congrArg Int32.toInt c_99
                        have z_7 := congrArg Int32.toInt c_116
                        have z_8 := congrArg Int32.toInt c_133
                        have z_9 := congrArg Int32.toInt c_150
                        have z_10 : ¬ (r_162 : Int32).toInt = (0 : Int32).toInt := fun z => c_167 (Int32.toInt_inj.mp z)
                        have y_0 : (0 : Int32).toInt = 0 := by decide
                        omega
                      have hs_302 : SkR (rB (Mf 1) (Mv 0)) (Mv 2) sv_157 := (SkR.trans (SkR.trans (SkR.trans (SkR.trans (SkR.trans (SkR.trans (SkR.trans (SkR.trans (SkR.trans pf_8 pf_25) pf_42) pf_59) pf_76) pf_93) pf_110) pf_127) pf_144) pf_161)
                      have hw_303 : ¬ pz_wd (rB (Mf 1) (Mv 0)) (pz_sk (rB (Mf 1) (Mv 0)) (Mv 2).toInt.toNat) pz_buyer = true := by
                        rw [SkR.nat pf_8]
                        have hq := pf_15
                        rw [show (422877685106 : Int64).toInt = pz_pl pz_buyer by decide] at hq
                        exact fun z => hq ((PkW.wd (by decide) (by decide) (by decide)).mpr z)
                      have hw_304 : ¬ pz_wd (rB (Mf 1) (Mv 0)) (pz_sk (rB (Mf 1) (Mv 0)) (Mv 2).toInt.toNat) [116, 101, 109, 112, 101, 114] = true := by
                        rw [SkR.nat (SkR.trans pf_8 pf_25)]
                        have hq := pf_32
                        rw [show (127978976601458 : Int64).toInt = pz_pl [116, 101, 109, 112, 101, 114] by decide] at hq
                        exact fun z => hq ((PkW.wd (by decide) (by decide) (by decide)).mpr z)
                      have hw_305 : ¬ pz_wd (rB (Mf 1) (Mv 0)) (pz_sk (rB (Mf 1) (Mv 0)) (Mv 2).toInt.toNat) [103, 114, 97, 105, 110, 115] = true := by
                        rw [SkR.nat (SkR.trans (SkR.trans pf_8 pf_25) pf_42)]
                        have hq := pf_49
                        rw [show (113740958232179 : Int64).toInt = pz_pl [103, 114, 97, 105, 110, 115] by decide] at hq
                        exact fun z => hq ((PkW.wd (by decide) (by decide) (by decide)).mpr z)
                      have hw_306 : ¬ pz_wd (rB (Mf 1) (Mv 0)) (pz_sk (rB (Mf 1) (Mv 0)) (Mv 2).toInt.toNat) [119, 97, 105, 116, 115] = true := by
                        rw [SkR.nat (SkR.trans (SkR.trans (SkR.trans pf_8 pf_25) pf_42) pf_59)]
                        have hq := pf_66
                        rw [show (512735409267 : Int64).toInt = pz_pl [119, 97, 105, 116, 115] by decide] at hq
                        exact fun z => hq ((PkW.wd (by decide) (by decide) (by decide)).mpr z)
                      have hw_307 : ¬ pz_wd (rB (Mf 1) (Mv 0)) (pz_sk (rB (Mf 1) (Mv 0)) (Mv 2).toInt.toNat) [115, 116, 105, 108, 108] = true := by
                        rw [SkR.nat (SkR.trans (SkR.trans (SkR.trans (SkR.trans pf_8 pf_25) pf_42) pf_59) pf_76)]
                        have hq := pf_83
                        rw [show (495874305132 : Int64).toInt = pz_pl [115, 116, 105, 108, 108] by decide] at hq
                        exact fun z => hq ((PkW.wd (by decide) (by decide) (by decide)).mpr z)
                      have hw_308 : ¬ pz_wd (rB (Mf 1) (Mv 0)) (pz_sk (rB (Mf 1) (Mv 0)) (Mv 2).toInt.toNat) [110, 101, 120, 116] = true := by
                        rw [SkR.nat (SkR.trans (SkR.trans (SkR.trans (SkR.trans (SkR.trans pf_8 pf_25) pf_42) pf_59) pf_76) pf_93)]
                        have hq := pf_100
                        rw [show (1852143732 : Int64).toInt = pz_pl [110, 101, 120, 116] by decide] at hq
                        exact fun z => hq ((PkW.wd (by decide) (by decide) (by decide)).mpr z)
                      have hw_309 : ¬ pz_wd (rB (Mf 1) (Mv 0)) (pz_sk (rB (Mf 1) (Mv 0)) (Mv 2).toInt.toNat) [115, 104, 101, 108, 102] = true := by
                        rw [SkR.nat (SkR.trans (SkR.trans (SkR.trans (SkR.trans (SkR.trans (SkR.trans pf_8 pf_25) pf_42) pf_59) pf_76) pf_93) pf_110)]
                        have hq := pf_117
                        rw [show (495672716390 : Int64).toInt = pz_pl [115, 104, 101, 108, 102] by decide] at hq
                        exact fun z => hq ((PkW.wd (by decide) (by decide) (by decide)).mpr z)
                      have hw_310 : ¬ pz_wd (rB (Mf 1) (Mv 0)) (pz_sk (rB (Mf 1) (Mv 0)) (Mv 2).toInt.toNat) [98, 111, 117, 103, 104, 116] = true := by
                        rw [SkR.nat (SkR.trans (SkR.trans (SkR.trans (SkR.trans (SkR.trans (SkR.trans (SkR.trans pf_8 pf_25) pf_42) pf_59) pf_76) pf_93) pf_110) pf_127)]
                        have hq := pf_134
                        rw [show (108230850603124 : Int64).toInt = pz_pl [98, 111, 117, 103, 104, 116] by decide] at hq
                        exact fun z => hq ((PkW.wd (by decide) (by decide) (by decide)).mpr z)
                      have hw_311 : ¬ pz_wd (rB (Mf 1) (Mv 0)) (pz_sk (rB (Mf 1) (Mv 0)) (Mv 2).toInt.toNat) [109, 101, 116] = true := by
                        rw [SkR.nat (SkR.trans (SkR.trans (SkR.trans (SkR.trans (SkR.trans (SkR.trans (SkR.trans (SkR.trans pf_8 pf_25) pf_42) pf_59) pf_76) pf_93) pf_110) pf_127) pf_144)]
                        have hq := pf_151
                        rw [show (7169396 : Int64).toInt = pz_pl [109, 101, 116] by decide] at hq
                        exact fun z => hq ((PkW.wd (by decide) (by decide) (by decide)).mpr z)
                      have hw_312 : pz_wd (rB (Mf 1) (Mv 0)) (pz_sk (rB (Mf 1) (Mv 0)) (Mv 2).toInt.toNat) [115, 105, 110, 99, 101] = true := by
                        rw [SkR.nat hs_302]
                        have hq := pf_299
                        rw [show (495690081125 : Int64).toInt = pz_pl [115, 105, 110, 99, 101] by decide] at hq
                        exact (PkW.wd (by decide) (by decide) (by decide)).mp hq
                      have hp_313 : (9 : Int32).toInt = pz_wa (rB (Mf 1) (Mv 0)) (pz_sk (rB (Mf 1) (Mv 0)) (Mv 2).toInt.toNat) pz_words 0 := by
                        rw [show (9 : Int32).toInt = 9 by decide]
                        unfold pz_words
                        simp only [pz_wa]
                        rw [if_neg hw_303, if_neg hw_304, if_neg hw_305, if_neg hw_306, if_neg hw_307, if_neg hw_308, if_neg hw_309, if_neg hw_310, if_neg hw_311, if_pos hw_312]
                        all_goals omega
                      have hp_314 : ((9 : Int32).toInt = -1 ∨ (0 ≤ (9 : Int32).toInt ∧ (9 : Int32).toInt ≤ 12)) := by decide
                      have hm_315 : 0 ≤ (9 : Int32).toInt → (Ltr (Mf 1) (Mv 0) sv_157) := by
                        intro h1r
                        exact pf_298
                      exact retI (v := 9) hx hb hr hlk (rfl) hP hD hS sv_157 ⟨_, rfl, ⟨hp_313, hp_314⟩, ha_301, hs_302, hm_315⟩ [0, 1] rfl rfl dX12_wordHere_123 (Nat.le_of_ble_eq_true rfl) (Nat.le_of_ble_eq_true rfl) rfl
                  · skip
                    have hz_318 : (r_145 : Int32).toInt = 1 := by
                      have z_1 := congrArg Int32.toInt c_14
                      have z_2 := congrArg Int32.toInt c_31
                      have z_3 := congrArg Int32.toInt c_48
                      have z_4 := congrArg Int32.toInt c_65
                      have z_5 := congrArg Int32.toInt c_82
                      have z_6 := congrArg Int32.toInt c_99
                      have z_7 := congrArg Int32.toInt c_116
                      have z_8 := congrArg Int32.toInt c_133
                      have z_9 : ¬ (r_145 : Int32).toInt = (0 : Int32).toInt := fun z => c_150 (Int32.toInt_inj.mp z)
                      have y_0 : (0 : Int32).toInt = 0 := by decide
                      omega
                    obtain ⟨pf_316, pf_317⟩ := hm_148 hz_318
                    have pf_316 : Ltr (Mf 1) (Mv 0) sv_140 := pf_316
                    have ar_pf_316 := pf_316.1
                    have at_pf_316 : 97 ≤ ((Mf 1) (sv_140 : Int32).toInt.toNat).toInt ∧ ((Mf 1) (sv_140 : Int32).toInt.toNat).toInt ≤ 122 := pf_316.2
                    have pf_317 : PkW (rB (Mf 1) (Mv 0)) ((sv_140 : Int32).toInt.toNat) (7169396 : Int64).toInt := pf_317
                    refine lv_bipush (v := 8) hx hb dX12_wordHere_108 (by decide) ?_
                    have ha_319 : ((Mv 2) : Int32).toInt ≤ (sv_140 : Int32).toInt ∧ (sv_140 : Int32).toInt ≤ ((Mv 0) : Int32).toInt := by
                      have z_1 := congrArg Int32.toInt c_14
                      have z_2 := congrArg Int32.toInt c_31
                      have z_3 := congrArg Int32.toInt c_48
                      have z_4 := congrArg Int32.toInt c_65
                      have z_5 := congrArg Int32.toInt c_82
                      have z_6 := congrArg Int32.toInt c_99
                      have z_7 := congrArg Int32.toInt c_116
                      have z_8 := congrArg Int32.toInt c_133
                      have z_9 : ¬ (r_145 : Int32).toInt = (0 : Int32).toInt := fun z => c_150 (Int32.toInt_inj.mp z)
                      have y_0 : (0 : Int32).toInt = 0 := by decide
                      omega
                    have hs_320 : SkR (rB (Mf 1) (Mv 0)) (Mv 2) sv_140 := (SkR.trans (SkR.trans (SkR.trans (SkR.trans (SkR.trans (SkR.trans (SkR.trans (SkR.trans pf_8 pf_25) pf_42) pf_59) pf_76) pf_93) pf_110) pf_127) pf_144)
                    have hw_321 : ¬ pz_wd (rB (Mf 1) (Mv 0)) (pz_sk (rB (Mf 1) (Mv 0)) (Mv 2).toInt.toNat) pz_buyer = true := by
                      rw [SkR.nat pf_8]
                      have hq := pf_15
                      rw [show (422877685106 : Int64).toInt = pz_pl pz_buyer by decide] at hq
                      exact fun z => hq ((PkW.wd (by decide) (by decide) (by decide)).mpr z)
                    have hw_322 : ¬ pz_wd (rB (Mf 1) (Mv 0)) (pz_sk (rB (Mf 1) (Mv 0)) (Mv 2).toInt.toNat) [116, 101, 109, 112, 101, 114] = true := by
                      rw [SkR.nat (SkR.trans pf_8 pf_25)]
                      have hq := pf_32
                      rw [show (127978976601458 : Int64).toInt = pz_pl [116, 101, 109, 112, 101, 114] by decide] at hq
                      exact fun z => hq ((PkW.wd (by decide) (by decide) (by decide)).mpr z)
                    have hw_323 : ¬ pz_wd (rB (Mf 1) (Mv 0)) (pz_sk (rB (Mf 1) (Mv 0)) (Mv 2).toInt.toNat) [103, 114, 97, 105, 110, 115] = true := by
                      rw [SkR.nat (SkR.trans (SkR.trans pf_8 pf_25) pf_42)]
                      have hq := pf_49
                      rw [show (113740958232179 : Int64).toInt = pz_pl [103, 114, 97, 105, 110, 115] by decide] at hq
                      exact fun z => hq ((PkW.wd (by decide) (by decide) (by decide)).mpr z)
                    have hw_324 : ¬ pz_wd (rB (Mf 1) (Mv 0)) (pz_sk (rB (Mf 1) (Mv 0)) (Mv 2).toInt.toNat) [119, 97, 105, 116, 115] = true := by
                      rw [SkR.nat (SkR.trans (SkR.trans (SkR.trans pf_8 pf_25) pf_42) pf_59)]
                      have hq := pf_66
                      rw [show (512735409267 : Int64).toInt = pz_pl [119, 97, 105, 116, 115] by decide] at hq
                      exact fun z => hq ((PkW.wd (by decide) (by decide) (by decide)).mpr z)
                    have hw_325 : ¬ pz_wd (rB (Mf 1) (Mv 0)) (pz_sk (rB (Mf 1) (Mv 0)) (Mv 2).toInt.toNat) [115, 116, 105, 108, 108] = true := by
                      rw [SkR.nat (SkR.trans (SkR.trans (SkR.trans (SkR.trans pf_8 pf_25) pf_42) pf_59) pf_76)]
                      have hq := pf_83
                      rw [show (495874305132 : Int64).toInt = pz_pl [115, 116, 105, 108, 108] by decide] at hq
                      exact fun z => hq ((PkW.wd (by decide) (by decide) (by decide)).mpr z)
                    have hw_326 : ¬ pz_wd (rB (Mf 1) (Mv 0)) (pz_sk (rB (Mf 1) (Mv 0)) (Mv 2).toInt.toNat) [110, 101, 120, 116] = true := by
                      rw [SkR.nat (SkR.trans (SkR.trans (SkR.trans (SkR.trans (SkR.trans pf_8 pf_25) pf_42) pf_59) pf_76) pf_93)]
                      have hq := pf_100
                      rw [show (1852143732 : Int64).toInt = pz_pl [110, 101, 120, 116] by decide] at hq
                      exact fun z => hq ((PkW.wd (by decide) (by decide) (by decide)).mpr z)
                    have hw_327 : ¬ pz_wd (rB (Mf 1) (Mv 0)) (pz_sk (rB (Mf 1) (Mv 0)) (Mv 2).toInt.toNat) [115, 104, 101, 108, 102] = true := by
                      rw [SkR.nat (SkR.trans (SkR.trans (SkR.trans (SkR.trans (SkR.trans (SkR.trans pf_8 pf_25) pf_42) pf_59) pf_76) pf_93) pf_110)]
                      have hq := pf_117
                      rw [show (495672716390 : Int64).toInt = pz_pl [115, 104, 101, 108, 102] by decide] at hq
                      exact fun z => hq ((PkW.wd (by decide) (by decide) (by decide)).mpr z)
                    have hw_328 : ¬ pz_wd (rB (Mf 1) (Mv 0)) (pz_sk (rB (Mf 1) (Mv 0)) (Mv 2).toInt.toNat) [98, 111, 117, 103, 104, 116] = true := by
                      rw [SkR.nat (SkR.trans (SkR.trans (SkR.trans (SkR.trans (SkR.trans (SkR.trans (SkR.trans pf_8 pf_25) pf_42) pf_59) pf_76) pf_93) pf_110) pf_127)]
                      have hq := pf_134
                      rw [show (108230850603124 : Int64).toInt = pz_pl [98, 111, 117, 103, 104, 116] by decide] at hq
                      exact fun z => hq ((PkW.wd (by decide) (by decide) (by decide)).mpr z)
                    have hw_329 : pz_wd (rB (Mf 1) (Mv 0)) (pz_sk (rB (Mf 1) (Mv 0)) (Mv 2).toInt.toNat) [109, 101, 116] = true := by
                      rw [SkR.nat hs_320]
                      have hq := pf_317
                      rw [show (7169396 : Int64).toInt = pz_pl [109, 101, 116] by decide] at hq
                      exact (PkW.wd (by decide) (by decide) (by decide)).mp hq
                    have hp_330 : (8 : Int32).toInt = pz_wa (rB (Mf 1) (Mv 0)) (pz_sk (rB (Mf 1) (Mv 0)) (Mv 2).toInt.toNat) pz_words 0 := by
                      rw [show (8 : Int32).toInt = 8 by decide]
                      unfold pz_words
                      simp only [pz_wa]
                      rw [if_neg hw_321, if_neg hw_322, if_neg hw_323, if_neg hw_324, if_neg hw_325, if_neg hw_326, if_neg hw_327, if_neg hw_328, if_pos hw_329]
                      all_goals omega
                    have hp_331 : ((8 : Int32).toInt = -1 ∨ (0 ≤ (8 : Int32).toInt ∧ (8 : Int32).toInt ≤ 12)) := by decide
                    have hm_332 : 0 ≤ (8 : Int32).toInt → (Ltr (Mf 1) (Mv 0) sv_140) := by
                      intro h1r
                      exact pf_316
                    exact retI (v := 8) hx hb hr hlk (rfl) hP hD hS sv_140 ⟨_, rfl, ⟨hp_330, hp_331⟩, ha_319, hs_320, hm_332⟩ [0, 1] rfl rfl dX12_wordHere_110 (Nat.le_of_ble_eq_true rfl) (Nat.le_of_ble_eq_true rfl) rfl
                · skip
                  have hz_335 : (r_128 : Int32).toInt = 1 := by
                    have z_1 := congrArg Int32.toInt c_14
                    have z_2 := congrArg Int32.toInt c_31
                    have z_3 := congrArg Int32.toInt c_48
                    have z_4 := congrArg Int32.toInt c_65
                    have z_5 := congrArg Int32.toInt c_82
                    have z_6 := congrArg Int32.toInt c_99
                    have z_7 := congrArg Int32.toInt c_116
                    have z_8 : ¬ (r_128 : Int32).toInt = (0 : Int32).toInt := fun z => c_133 (Int32.toInt_inj.mp z)
                    have y_0 : (0 : Int32).toInt = 0 := by decide
                    omega
                  obtain ⟨pf_333, pf_334⟩ := hm_131 hz_335
                  have pf_333 : Ltr (Mf 1) (Mv 0) sv_123 := pf_333
                  have ar_pf_333 := pf_333.1
                  have at_pf_333 : 97 ≤ ((Mf 1) (sv_123 : Int32).toInt.toNat).toInt ∧ ((Mf 1) (sv_123 : Int32).toInt.toNat).toInt ≤ 122 := pf_333.2
                  have pf_334 : PkW (rB (Mf 1) (Mv 0)) ((sv_123 : Int32).toInt.toNat) (108230850603124 : Int64).toInt := pf_334
                  refine lv_bipush (v := 7) hx hb dX12_wordHere_95 (by decide) ?_
                  have ha_336 : ((Mv 2) : Int32).toInt ≤ (sv_123 : Int32).toInt ∧ (sv_123 : Int32).toInt ≤ ((Mv 0) : Int32).toInt := by
                    have z_1 := congrArg Int32.toInt c_14
                    have z_2 := congrArg Int32.toInt c_31
                    have z_3 := congrArg Int32.toInt c_48
                    have z_4 := congrArg Int32.toInt c_65
                    have z_5 := congrArg Int32.toInt c_82
                    have z_6 := congrArg Int32.toInt c_99
                    have z_7 := congrArg Int32.toInt c_116
                    have z_8 : ¬ (r_128 : Int32).toInt = (0 : Int32).toInt := fun z => c_133 (Int32.toInt_inj.mp z)
                    have y_0 : (0 : Int32).toInt = 0 := by decide
                    omega
                  have hs_337 : SkR (rB (Mf 1) (Mv 0)) (Mv 2) sv_123 := (SkR.trans (SkR.trans (SkR.trans (SkR.trans (SkR.trans (SkR.trans (SkR.trans pf_8 pf_25) pf_42) pf_59) pf_76) pf_93) pf_110) pf_127)
                  have hw_338 : ¬ pz_wd (rB (Mf 1) (Mv 0)) (pz_sk (rB (Mf 1) (Mv 0)) (Mv 2).toInt.toNat) pz_buyer = true := by
                    rw [SkR.nat pf_8]
                    have hq := pf_15
                    rw [show (422877685106 : Int64).toInt = pz_pl pz_buyer by decide] at hq
                    exact fun z => hq ((PkW.wd (by decide) (by decide) (by decide)).mpr z)
                  have hw_339 : ¬ pz_wd (rB (Mf 1) (Mv 0)) (pz_sk (rB (Mf 1) (Mv 0)) (Mv 2).toInt.toNat) [116, 101, 109, 112, 101, 114] = true := by
                    rw [SkR.nat (SkR.trans pf_8 pf_25)]
                    have hq := pf_32
                    rw [show (127978976601458 : Int64).toInt = pz_pl [116, 101, 109, 112, 101, 114] by decide] at hq
                    exact fun z => hq ((PkW.wd (by decide) (by decide) (by decide)).mpr z)
                  have hw_340 : ¬ pz_wd (rB (Mf 1) (Mv 0)) (pz_sk (rB (Mf 1) (Mv 0)) (Mv 2).toInt.toNat) [103, 114, 97, 105, 110, 115] = true := by
                    rw [SkR.nat (SkR.trans (SkR.trans pf_8 pf_25) pf_42)]
                    have hq := pf_49
                    rw [show (113740958232179 : Int64).toInt = pz_pl [103, 114, 97, 105, 110, 115] by decide] at hq
                    exact fun z => hq ((PkW.wd (by decide) (by decide) (by decide)).mpr z)
                  have hw_341 : ¬ pz_wd (rB (Mf 1) (Mv 0)) (pz_sk (rB (Mf 1) (Mv 0)) (Mv 2).toInt.toNat) [119, 97, 105, 116, 115] = true := by
                    rw [SkR.nat (SkR.trans (SkR.trans (SkR.trans pf_8 pf_25) pf_42) pf_59)]
                    have hq := pf_66
                    rw [show (512735409267 : Int64).toInt = pz_pl [119, 97, 105, 116, 115] by decide] at hq
                    exact fun z => hq ((PkW.wd (by decide) (by decide) (by decide)).mpr z)
                  have hw_342 : ¬ pz_wd (rB (Mf 1) (Mv 0)) (pz_sk (rB (Mf 1) (Mv 0)) (Mv 2).toInt.toNat) [115, 116, 105, 108, 108] = true := by
                    rw [SkR.nat (SkR.trans (SkR.trans (SkR.trans (SkR.trans pf_8 pf_25) pf_42) pf_59) pf_76)]
                    have hq := pf_83
                    rw [show (495874305132 : Int64).toInt = pz_pl [115, 116, 105, 108, 108] by decide] at hq
                    exact fun z => hq ((PkW.wd (by decide) (by decide) (by decide)).mpr z)
                  have hw_343 : ¬ pz_wd (rB (Mf 1) (Mv 0)) (pz_sk (rB (Mf 1) (Mv 0)) (Mv 2).toInt.toNat) [110, 101, 120, 116] = true := by
                    rw [SkR.nat (SkR.trans (SkR.trans (SkR.trans (SkR.trans (SkR.trans pf_8 pf_25) pf_42) pf_59) pf_76) pf_93)]
                    have hq := pf_100
                    rw [show (1852143732 : Int64).toInt = pz_pl [110, 101, 120, 116] by decide] at hq
                    exact fun z => hq ((PkW.wd (by decide) (by decide) (by decide)).mpr z)
                  have hw_344 : ¬ pz_wd (rB (Mf 1) (Mv 0)) (pz_sk (rB (Mf 1) (Mv 0)) (Mv 2).toInt.toNat) [115, 104, 101, 108, 102] = true := by
                    rw [SkR.nat (SkR.trans (SkR.trans (SkR.trans (SkR.trans (SkR.trans (SkR.trans pf_8 pf_25) pf_42) pf_59) pf_76) pf_93) pf_110)]
                    have hq := pf_117
                    rw [show (495672716390 : Int64).toInt = pz_pl [115, 104, 101, 108, 102] by decide] at hq
                    exact fun z => hq ((PkW.wd (by decide) (by decide) (by decide)).mpr z)
                  have hw_345 : pz_wd (rB (Mf 1) (Mv 0)) (pz_sk (rB (Mf 1) (Mv 0)) (Mv 2).toInt.toNat) [98, 111, 117, 103, 104, 116] = true := by
                    rw [SkR.nat hs_337]
                    have hq := pf_334
                    rw [show (108230850603124 : Int64).toInt = pz_pl [98, 111, 117, 103, 104, 116] by decide] at hq
                    exact (PkW.wd (by decide) (by decide) (by decide)).mp hq
                  have hp_346 : (7 : Int32).toInt = pz_wa (rB (Mf 1) (Mv 0)) (pz_sk (rB (Mf 1) (Mv 0)) (Mv 2).toInt.toNat) pz_words 0 := by
                    rw [show (7 : Int32).toInt = 7 by decide]
                    unfold pz_words
                    simp only [pz_wa]
                    rw [if_neg hw_338, if_neg hw_339, if_neg hw_340, if_neg hw_341, if_neg hw_342, if_neg hw_343, if_neg hw_344, if_pos hw_345]
                    all_goals omega
                  have hp_347 : ((7 : Int32).toInt = -1 ∨ (0 ≤ (7 : Int32).toInt ∧ (7 : Int32).toInt ≤ 12)) := by decide
                  have hm_348 : 0 ≤ (7 : Int32).toInt → (Ltr (Mf 1) (Mv 0) sv_123) := by
                    intro h1r
                    exact pf_333
                  exact retI (v := 7) hx hb hr hlk (rfl) hP hD hS sv_123 ⟨_, rfl, ⟨hp_346, hp_347⟩, ha_336, hs_337, hm_348⟩ [0, 1] rfl rfl dX12_wordHere_97 (Nat.le_of_ble_eq_true rfl) (Nat.le_of_ble_eq_true rfl) rfl
              · skip
                have hz_351 : (r_111 : Int32).toInt = 1 := by
                  have z_1 := congrArg Int32.toInt c_14
                  have z_2 := congrArg Int32.toInt c_31
                  have z_3 := congrArg Int32.toInt c_48
                  have z_4 := congrArg Int32.toInt c_65
                  have z_5 := congrArg Int32.toInt c_82
                  have z_6 := congrArg Int32.toInt c_99
                  have z_7 : ¬ (r_111 : Int32).toInt = (0 : Int32).toInt := fun z => c_116 (Int32.toInt_inj.mp z)
                  have y_0 : (0 : Int32).toInt = 0 := by decide
                  omega
                obtain ⟨pf_349, pf_350⟩ := hm_114 hz_351
                have pf_349 : Ltr (Mf 1) (Mv 0) sv_106 := pf_349
                have ar_pf_349 := pf_349.1
                have at_pf_349 : 97 ≤ ((Mf 1) (sv_106 : Int32).toInt.toNat).toInt ∧ ((Mf 1) (sv_106 : Int32).toInt.toNat).toInt ≤ 122 := pf_349.2
                have pf_350 : PkW (rB (Mf 1) (Mv 0)) ((sv_106 : Int32).toInt.toNat) (495672716390 : Int64).toInt := pf_350
                refine lv_bipush (v := 6) hx hb dX12_wordHere_82 (by decide) ?_
                have ha_352 : ((Mv 2) : Int32).toInt ≤ (sv_106 : Int32).toInt ∧ (sv_106 : Int32).toInt ≤ ((Mv 0) : Int32).toInt := by
                  have z_1 := congrArg Int32.toInt c_14
                  have z_2 := congrArg Int32.toInt c_31
                  have z_3 := congrArg Int32.toInt c_48
                  have z_4 := congrArg Int32.toInt c_65
                  have z_5 := congrArg Int32.toInt c_82
                  have z_6 := congrArg Int32.toInt c_99
                  have z_7 : ¬ (r_111 : Int32).toInt = (0 : Int32).toInt := fun z => c_116 (Int32.toInt_inj.mp z)
                  have y_0 : (0 : Int32).toInt = 0 := by decide
                  omega
                have hs_353 : SkR (rB (Mf 1) (Mv 0)) (Mv 2) sv_106 := (SkR.trans (SkR.trans (SkR.trans (SkR.trans (SkR.trans (SkR.trans pf_8 pf_25) pf_42) pf_59) pf_76) pf_93) pf_110)
                have hw_354 : ¬ pz_wd (rB (Mf 1) (Mv 0)) (pz_sk (rB (Mf 1) (Mv 0)) (Mv 2).toInt.toNat) pz_buyer = true := by
                  rw [SkR.nat pf_8]
                  have hq := pf_15
                  rw [show (422877685106 : Int64).toInt = pz_pl pz_buyer by decide] at hq
                  exact fun z => hq ((PkW.wd (by decide) (by decide) (by decide)).mpr z)
                have hw_355 : ¬ pz_wd (rB (Mf 1) (Mv 0)) (pz_sk (rB (Mf 1) (Mv 0)) (Mv 2).toInt.toNat) [116, 101, 109, 112, 101, 114] = true := by
                  rw [SkR.nat (SkR.trans pf_8 pf_25)]
                  have hq := pf_32
                  rw [show (127978976601458 : Int64).toInt = pz_pl [116, 101, 109, 112, 101, 114] by decide] at hq
                  exact fun z => hq ((PkW.wd (by decide) (by decide) (by decide)).mpr z)
                have hw_356 : ¬ pz_wd (rB (Mf 1) (Mv 0)) (pz_sk (rB (Mf 1) (Mv 0)) (Mv 2).toInt.toNat) [103, 114, 97, 105, 110, 115] = true := by
                  rw [SkR.nat (SkR.trans (SkR.trans pf_8 pf_25) pf_42)]
                  have hq := pf_49
                  rw [show (113740958232179 : Int64).toInt = pz_pl [103, 114, 97, 105, 110, 115] by decide] at hq
                  exact fun z => hq ((PkW.wd (by decide) (by decide) (by decide)).mpr z)
                have hw_357 : ¬ pz_wd (rB (Mf 1) (Mv 0)) (pz_sk (rB (Mf 1) (Mv 0)) (Mv 2).toInt.toNat) [119, 97, 105, 116, 115] = true := by
                  rw [SkR.nat (SkR.trans (SkR.trans (SkR.trans pf_8 pf_25) pf_42) pf_59)]
                  have hq := pf_66
                  rw [show (512735409267 : Int64).toInt = pz_pl [119, 97, 105, 116, 115] by decide] at hq
                  exact fun z => hq ((PkW.wd (by decide) (by decide) (by decide)).mpr z)
                have hw_358 : ¬ pz_wd (rB (Mf 1) (Mv 0)) (pz_sk (rB (Mf 1) (Mv 0)) (Mv 2).toInt.toNat) [115, 116, 105, 108, 108] = true := by
                  rw [SkR.nat (SkR.trans (SkR.trans (SkR.trans (SkR.trans pf_8 pf_25) pf_42) pf_59) pf_76)]
                  have hq := pf_83
                  rw [show (495874305132 : Int64).toInt = pz_pl [115, 116, 105, 108, 108] by decide] at hq
                  exact fun z => hq ((PkW.wd (by decide) (by decide) (by decide)).mpr z)
                have hw_359 : ¬ pz_wd (rB (Mf 1) (Mv 0)) (pz_sk (rB (Mf 1) (Mv 0)) (Mv 2).toInt.toNat) [110, 101, 120, 116] = true := by
                  rw [SkR.nat (SkR.trans (SkR.trans (SkR.trans (SkR.trans (SkR.trans pf_8 pf_25) pf_42) pf_59) pf_76) pf_93)]
                  have hq := pf_100
                  rw [show (1852143732 : Int64).toInt = pz_pl [110, 101, 120, 116] by decide] at hq
                  exact fun z => hq ((PkW.wd (by decide) (by decide) (by decide)).mpr z)
                have hw_360 : pz_wd (rB (Mf 1) (Mv 0)) (pz_sk (rB (Mf 1) (Mv 0)) (Mv 2).toInt.toNat) [115, 104, 101, 108, 102] = true := by
                  rw [SkR.nat hs_353]
                  have hq := pf_350
                  rw [show (495672716390 : Int64).toInt = pz_pl [115, 104, 101, 108, 102] by decide] at hq
                  exact (PkW.wd (by decide) (by decide) (by decide)).mp hq
                have hp_361 : (6 : Int32).toInt = pz_wa (rB (Mf 1) (Mv 0)) (pz_sk (rB (Mf 1) (Mv 0)) (Mv 2).toInt.toNat) pz_words 0 := by
                  rw [show (6 : Int32).toInt = 6 by decide]
                  unfold pz_words
                  simp only [pz_wa]
                  rw [if_neg hw_354, if_neg hw_355, if_neg hw_356, if_neg hw_357, if_neg hw_358, if_neg hw_359, if_pos hw_360]
                  all_goals omega
                have hp_362 : ((6 : Int32).toInt = -1 ∨ (0 ≤ (6 : Int32).toInt ∧ (6 : Int32).toInt ≤ 12)) := by decide
                have hm_363 : 0 ≤ (6 : Int32).toInt → (Ltr (Mf 1) (Mv 0) sv_106) := by
                  intro h1r
                  exact pf_349
                exact retI (v := 6) hx hb hr hlk (rfl) hP hD hS sv_106 ⟨_, rfl, ⟨hp_361, hp_362⟩, ha_352, hs_353, hm_363⟩ [0, 1] rfl rfl dX12_wordHere_84 (Nat.le_of_ble_eq_true rfl) (Nat.le_of_ble_eq_true rfl) rfl
            · skip
              have hz_366 : (r_94 : Int32).toInt = 1 := by
                have z_1 := congrArg Int32.toInt c_14
                have z_2 := congrArg Int32.toInt c_31
                have z_3 := congrArg Int32.toInt c_48
                have z_4 := congrArg Int32.toInt c_65
                have z_5 := congrArg Int32.toInt c_82
                have z_6 : ¬ (r_94 : Int32).toInt = (0 : Int32).toInt := fun z => c_99 (Int32.toInt_inj.mp z)
                have y_0 : (0 : Int32).toInt = 0 := by decide
                omega
              obtain ⟨pf_364, pf_365⟩ := hm_97 hz_366
              have pf_364 : Ltr (Mf 1) (Mv 0) sv_89 := pf_364
              have ar_pf_364 := pf_364.1
              have at_pf_364 : 97 ≤ ((Mf 1) (sv_89 : Int32).toInt.toNat).toInt ∧ ((Mf 1) (sv_89 : Int32).toInt.toNat).toInt ≤ 122 := pf_364.2
              have pf_365 : PkW (rB (Mf 1) (Mv 0)) ((sv_89 : Int32).toInt.toNat) (1852143732 : Int64).toInt := pf_365
              refine lv_iconst (v := 5) hx hb dX12_wordHere_70 (by decide) ?_
              have ha_367 : ((Mv 2) : Int32).toInt ≤ (sv_89 : Int32).toInt ∧ (sv_89 : Int32).toInt ≤ ((Mv 0) : Int32).toInt := by
                have z_1 := congrArg Int32.toInt c_14
                have z_2 := congrArg Int32.toInt c_31
                have z_3 := congrArg Int32.toInt c_48
                have z_4 := congrArg Int32.toInt c_65
                have z_5 := congrArg Int32.toInt c_82
                have z_6 : ¬ (r_94 : Int32).toInt = (0 : Int32).toInt := fun z => c_99 (Int32.toInt_inj.mp z)
                have y_0 : (0 : Int32).toInt = 0 := by decide
                omega
              have hs_368 : SkR (rB (Mf 1) (Mv 0)) (Mv 2) sv_89 := (SkR.trans (SkR.trans (SkR.trans (SkR.trans (SkR.trans pf_8 pf_25) pf_42) pf_59) pf_76) pf_93)
              have hw_369 : ¬ pz_wd (rB (Mf 1) (Mv 0)) (pz_sk (rB (Mf 1) (Mv 0)) (Mv 2).toInt.toNat) pz_buyer = true := by
                rw [SkR.nat pf_8]
                have hq := pf_15
                rw [show (422877685106 : Int64).toInt = pz_pl pz_buyer by decide] at hq
                exact fun z => hq ((PkW.wd (by decide) (by decide) (by decide)).mpr z)
              have hw_370 : ¬ pz_wd (rB (Mf 1) (Mv 0)) (pz_sk (rB (Mf 1) (Mv 0)) (Mv 2).toInt.toNat) [116, 101, 109, 112, 101, 114] = true := by
                rw [SkR.nat (SkR.trans pf_8 pf_25)]
                have hq := pf_32
                rw [show (127978976601458 : Int64).toInt = pz_pl [116, 101, 109, 112, 101, 114] by decide] at hq
                exact fun z => hq ((PkW.wd (by decide) (by decide) (by decide)).mpr z)
              have hw_371 : ¬ pz_wd (rB (Mf 1) (Mv 0)) (pz_sk (rB (Mf 1) (Mv 0)) (Mv 2).toInt.toNat) [103, 114, 97, 105, 110, 115] = true := by
                rw [SkR.nat (SkR.trans (SkR.trans pf_8 pf_25) pf_42)]
                have hq := pf_49
                rw [show (113740958232179 : Int64).toInt = pz_pl [103, 114, 97, 105, 110, 115] by decide] at hq
                exact fun z => hq ((PkW.wd (by decide) (by decide) (by decide)).mpr z)
              have hw_372 : ¬ pz_wd (rB (Mf 1) (Mv 0)) (pz_sk (rB (Mf 1) (Mv 0)) (Mv 2).toInt.toNat) [119, 97, 105, 116, 115] = true := by
                rw [SkR.nat (SkR.trans (SkR.trans (SkR.trans pf_8 pf_25) pf_42) pf_59)]
                have hq := pf_66
                rw [show (512735409267 : Int64).toInt = pz_pl [119, 97, 105, 116, 115] by decide] at hq
                exact fun z => hq ((PkW.wd (by decide) (by decide) (by decide)).mpr z)
              have hw_373 : ¬ pz_wd (rB (Mf 1) (Mv 0)) (pz_sk (rB (Mf 1) (Mv 0)) (Mv 2).toInt.toNat) [115, 116, 105, 108, 108] = true := by
                rw [SkR.nat (SkR.trans (SkR.trans (SkR.trans (SkR.trans pf_8 pf_25) pf_42) pf_59) pf_76)]
                have hq := pf_83
                rw [show (495874305132 : Int64).toInt = pz_pl [115, 116, 105, 108, 108] by decide] at hq
                exact fun z => hq ((PkW.wd (by decide) (by decide) (by decide)).mpr z)
              have hw_374 : pz_wd (rB (Mf 1) (Mv 0)) (pz_sk (rB (Mf 1) (Mv 0)) (Mv 2).toInt.toNat) [110, 101, 120, 116] = true := by
                rw [SkR.nat hs_368]
                have hq := pf_365
                rw [show (1852143732 : Int64).toInt = pz_pl [110, 101, 120, 116] by decide] at hq
                exact (PkW.wd (by decide) (by decide) (by decide)).mp hq
              have hp_375 : (5 : Int32).toInt = pz_wa (rB (Mf 1) (Mv 0)) (pz_sk (rB (Mf 1) (Mv 0)) (Mv 2).toInt.toNat) pz_words 0 := by
                rw [show (5 : Int32).toInt = 5 by decide]
                unfold pz_words
                simp only [pz_wa]
                rw [if_neg hw_369, if_neg hw_370, if_neg hw_371, if_neg hw_372, if_neg hw_373, if_pos hw_374]
                all_goals omega
              have hp_376 : ((5 : Int32).toInt = -1 ∨ (0 ≤ (5 : Int32).toInt ∧ (5 : Int32).toInt ≤ 12)) := by decide
              have hm_377 : 0 ≤ (5 : Int32).toInt → (Ltr (Mf 1) (Mv 0) sv_89) := by
                intro h1r
                exact pf_364
              exact retI (v := 5) hx hb hr hlk (rfl) hP hD hS sv_89 ⟨_, rfl, ⟨hp_375, hp_376⟩, ha_367, hs_368, hm_377⟩ [0, 1] rfl rfl dX12_wordHere_71 (Nat.le_of_ble_eq_true rfl) (Nat.le_of_ble_eq_true rfl) rfl
          · skip
            have hz_380 : (r_77 : Int32).toInt = 1 := by
              have z_1 := congrArg Int32.toInt c_14
              have z_2 := congrArg Int32.toInt c_31
              have z_3 := congrArg Int32.toInt c_48
              have z_4 := congrArg Int32.toInt c_65
              have z_5 : ¬ (r_77 : Int32).toInt = (0 : Int32).toInt := fun z => c_82 (Int32.toInt_inj.mp z)
              have y_0 : (0 : Int32).toInt = 0 := by decide
              omega
            obtain ⟨pf_378, pf_379⟩ := hm_80 hz_380
            have pf_378 : Ltr (Mf 1) (Mv 0) sv_72 := pf_378
            have ar_pf_378 := pf_378.1
            have at_pf_378 : 97 ≤ ((Mf 1) (sv_72 : Int32).toInt.toNat).toInt ∧ ((Mf 1) (sv_72 : Int32).toInt.toNat).toInt ≤ 122 := pf_378.2
            have pf_379 : PkW (rB (Mf 1) (Mv 0)) ((sv_72 : Int32).toInt.toNat) (495874305132 : Int64).toInt := pf_379
            refine lv_iconst (v := 4) hx hb dX12_wordHere_58 (by decide) ?_
            have ha_381 : ((Mv 2) : Int32).toInt ≤ (sv_72 : Int32).toInt ∧ (sv_72 : Int32).toInt ≤ ((Mv 0) : Int32).toInt := by
              have z_1 := congrArg Int32.toInt c_14
              have z_2 := congrArg Int32.toInt c_31
              have z_3 := congrArg Int32.toInt c_48
              have z_4 := congrArg Int32.toInt c_65
              have z_5 : ¬ (r_77 : Int32).toInt = (0 : Int32).toInt := fun z => c_82 (Int32.toInt_inj.mp z)
              have y_0 : (0 : Int32).toInt = 0 := by decide
              omega
            have hs_382 : SkR (rB (Mf 1) (Mv 0)) (Mv 2) sv_72 := (SkR.trans (SkR.trans (SkR.trans (SkR.trans pf_8 pf_25) pf_42) pf_59) pf_76)
            have hw_383 : ¬ pz_wd (rB (Mf 1) (Mv 0)) (pz_sk (rB (Mf 1) (Mv 0)) (Mv 2).toInt.toNat) pz_buyer = true := by
              rw [SkR.nat pf_8]
              have hq := pf_15
              rw [show (422877685106 : Int64).toInt = pz_pl pz_buyer by decide] at hq
              exact fun z => hq ((PkW.wd (by decide) (by decide) (by decide)).mpr z)
            have hw_384 : ¬ pz_wd (rB (Mf 1) (Mv 0)) (pz_sk (rB (Mf 1) (Mv 0)) (Mv 2).toInt.toNat) [116, 101, 109, 112, 101, 114] = true := by
              rw [SkR.nat (SkR.trans pf_8 pf_25)]
              have hq := pf_32
              rw [show (127978976601458 : Int64).toInt = pz_pl [116, 101, 109, 112, 101, 114] by decide] at hq
              exact fun z => hq ((PkW.wd (by decide) (by decide) (by decide)).mpr z)
            have hw_385 : ¬ pz_wd (rB (Mf 1) (Mv 0)) (pz_sk (rB (Mf 1) (Mv 0)) (Mv 2).toInt.toNat) [103, 114, 97, 105, 110, 115] = true := by
              rw [SkR.nat (SkR.trans (SkR.trans pf_8 pf_25) pf_42)]
              have hq := pf_49
              rw [show (113740958232179 : Int64).toInt = pz_pl [103, 114, 97, 105, 110, 115] by decide] at hq
              exact fun z => hq ((PkW.wd (by decide) (by decide) (by decide)).mpr z)
            have hw_386 : ¬ pz_wd (rB (Mf 1) (Mv 0)) (pz_sk (rB (Mf 1) (Mv 0)) (Mv 2).toInt.toNat) [119, 97, 105, 116, 115] = true := by
              rw [SkR.nat (SkR.trans (SkR.trans (SkR.trans pf_8 pf_25) pf_42) pf_59)]
              have hq := pf_66
              rw [show (512735409267 : Int64).toInt = pz_pl [119, 97, 105, 116, 115] by decide] at hq
              exact fun z => hq ((PkW.wd (by decide) (by decide) (by decide)).mpr z)
            have hw_387 : pz_wd (rB (Mf 1) (Mv 0)) (pz_sk (rB (Mf 1) (Mv 0)) (Mv 2).toInt.toNat) [115, 116, 105, 108, 108] = true := by
              rw [SkR.nat hs_382]
              have hq := pf_379
              rw [show (495874305132 : Int64).toInt = pz_pl [115, 116, 105, 108, 108] by decide] at hq
              exact (PkW.wd (by decide) (by decide) (by decide)).mp hq
            have hp_388 : (4 : Int32).toInt = pz_wa (rB (Mf 1) (Mv 0)) (pz_sk (rB (Mf 1) (Mv 0)) (Mv 2).toInt.toNat) pz_words 0 := by
              rw [show (4 : Int32).toInt = 4 by decide]
              unfold pz_words
              simp only [pz_wa]
              rw [if_neg hw_383, if_neg hw_384, if_neg hw_385, if_neg hw_386, if_pos hw_387]
              all_goals omega
            have hp_389 : ((4 : Int32).toInt = -1 ∨ (0 ≤ (4 : Int32).toInt ∧ (4 : Int32).toInt ≤ 12)) := by decide
            have hm_390 : 0 ≤ (4 : Int32).toInt → (Ltr (Mf 1) (Mv 0) sv_72) := by
              intro h1r
              exact pf_378
            exact retI (v := 4) hx hb hr hlk (rfl) hP hD hS sv_72 ⟨_, rfl, ⟨hp_388, hp_389⟩, ha_381, hs_382, hm_390⟩ [0, 1] rfl rfl dX12_wordHere_59 (Nat.le_of_ble_eq_true rfl) (Nat.le_of_ble_eq_true rfl) rfl
        · skip
          have hz_393 : (r_60 : Int32).toInt = 1 := by
            have z_1 := congrArg Int32.toInt c_14
            have z_2 := congrArg Int32.toInt c_31
            have z_3 := congrArg Int32.toInt c_48
            have z_4 : ¬ (r_60 : Int32).toInt = (0 : Int32).toInt := fun z => c_65 (Int32.toInt_inj.mp z)
            have y_0 : (0 : Int32).toInt = 0 := by decide
            omega
          obtain ⟨pf_391, pf_392⟩ := hm_63 hz_393
          have pf_391 : Ltr (Mf 1) (Mv 0) sv_55 := pf_391
          have ar_pf_391 := pf_391.1
          have at_pf_391 : 97 ≤ ((Mf 1) (sv_55 : Int32).toInt.toNat).toInt ∧ ((Mf 1) (sv_55 : Int32).toInt.toNat).toInt ≤ 122 := pf_391.2
          have pf_392 : PkW (rB (Mf 1) (Mv 0)) ((sv_55 : Int32).toInt.toNat) (512735409267 : Int64).toInt := pf_392
          refine lv_iconst (v := 3) hx hb dX12_wordHere_46 (by decide) ?_
          have ha_394 : ((Mv 2) : Int32).toInt ≤ (sv_55 : Int32).toInt ∧ (sv_55 : Int32).toInt ≤ ((Mv 0) : Int32).toInt := by
            have z_1 := congrArg Int32.toInt c_14
            have z_2 := congrArg Int32.toInt c_31
            have z_3 := congrArg Int32.toInt c_48
            have z_4 : ¬ (r_60 : Int32).toInt = (0 : Int32).toInt := fun z => c_65 (Int32.toInt_inj.mp z)
            have y_0 : (0 : Int32).toInt = 0 := by decide
            omega
          have hs_395 : SkR (rB (Mf 1) (Mv 0)) (Mv 2) sv_55 := (SkR.trans (SkR.trans (SkR.trans pf_8 pf_25) pf_42) pf_59)
          have hw_396 : ¬ pz_wd (rB (Mf 1) (Mv 0)) (pz_sk (rB (Mf 1) (Mv 0)) (Mv 2).toInt.toNat) pz_buyer = true := by
            rw [SkR.nat pf_8]
            have hq := pf_15
            rw [show (422877685106 : Int64).toInt = pz_pl pz_buyer by decide] at hq
            exact fun z => hq ((PkW.wd (by decide) (by decide) (by decide)).mpr z)
          have hw_397 : ¬ pz_wd (rB (Mf 1) (Mv 0)) (pz_sk (rB (Mf 1) (Mv 0)) (Mv 2).toInt.toNat) [116, 101, 109, 112, 101, 114] = true := by
            rw [SkR.nat (SkR.trans pf_8 pf_25)]
            have hq := pf_32
            rw [show (127978976601458 : Int64).toInt = pz_pl [116, 101, 109, 112, 101, 114] by decide] at hq
            exact fun z => hq ((PkW.wd (by decide) (by decide) (by decide)).mpr z)
          have hw_398 : ¬ pz_wd (rB (Mf 1) (Mv 0)) (pz_sk (rB (Mf 1) (Mv 0)) (Mv 2).toInt.toNat) [103, 114, 97, 105, 110, 115] = true := by
            rw [SkR.nat (SkR.trans (SkR.trans pf_8 pf_25) pf_42)]
            have hq := pf_49
            rw [show (113740958232179 : Int64).toInt = pz_pl [103, 114, 97, 105, 110, 115] by decide] at hq
            exact fun z => hq ((PkW.wd (by decide) (by decide) (by decide)).mpr z)
          have hw_399 : pz_wd (rB (Mf 1) (Mv 0)) (pz_sk (rB (Mf 1) (Mv 0)) (Mv 2).toInt.toNat) [119, 97, 105, 116, 115] = true := by
            rw [SkR.nat hs_395]
            have hq := pf_392
            rw [show (512735409267 : Int64).toInt = pz_pl [119, 97, 105, 116, 115] by decide] at hq
            exact (PkW.wd (by decide) (by decide) (by decide)).mp hq
          have hp_400 : (3 : Int32).toInt = pz_wa (rB (Mf 1) (Mv 0)) (pz_sk (rB (Mf 1) (Mv 0)) (Mv 2).toInt.toNat) pz_words 0 := by
            rw [show (3 : Int32).toInt = 3 by decide]
            unfold pz_words
            simp only [pz_wa]
            rw [if_neg hw_396, if_neg hw_397, if_neg hw_398, if_pos hw_399]
            all_goals omega
          have hp_401 : ((3 : Int32).toInt = -1 ∨ (0 ≤ (3 : Int32).toInt ∧ (3 : Int32).toInt ≤ 12)) := by decide
          have hm_402 : 0 ≤ (3 : Int32).toInt → (Ltr (Mf 1) (Mv 0) sv_55) := by
            intro h1r
            exact pf_391
          exact retI (v := 3) hx hb hr hlk (rfl) hP hD hS sv_55 ⟨_, rfl, ⟨hp_400, hp_401⟩, ha_394, hs_395, hm_402⟩ [0, 1] rfl rfl dX12_wordHere_47 (Nat.le_of_ble_eq_true rfl) (Nat.le_of_ble_eq_true rfl) rfl
      · skip
        have hz_405 : (r_43 : Int32).toInt = 1 := by
          have z_1 := congrArg Int32.toInt c_14
          have z_2 := congrArg Int32.toInt c_31
          have z_3 : ¬ (r_43 : Int32).toInt = (0 : Int32).toInt := fun z => c_48 (Int32.toInt_inj.mp z)
          have y_0 : (0 : Int32).toInt = 0 := by decide
          omega
        obtain ⟨pf_403, pf_404⟩ := hm_46 hz_405
        have pf_403 : Ltr (Mf 1) (Mv 0) sv_38 := pf_403
        have ar_pf_403 := pf_403.1
        have at_pf_403 : 97 ≤ ((Mf 1) (sv_38 : Int32).toInt.toNat).toInt ∧ ((Mf 1) (sv_38 : Int32).toInt.toNat).toInt ≤ 122 := pf_403.2
        have pf_404 : PkW (rB (Mf 1) (Mv 0)) ((sv_38 : Int32).toInt.toNat) (113740958232179 : Int64).toInt := pf_404
        refine lv_iconst (v := 2) hx hb dX12_wordHere_34 (by decide) ?_
        have ha_406 : ((Mv 2) : Int32).toInt ≤ (sv_38 : Int32).toInt ∧ (sv_38 : Int32).toInt ≤ ((Mv 0) : Int32).toInt := by
          have z_1 := congrArg Int32.toInt c_14
          have z_2 := congrArg Int32.toInt c_31
          have z_3 : ¬ (r_43 : Int32).toInt = (0 : Int32).toInt := fun z => c_48 (Int32.toInt_inj.mp z)
          have y_0 : (0 : Int32).toInt = 0 := by decide
          omega
        have hs_407 : SkR (rB (Mf 1) (Mv 0)) (Mv 2) sv_38 := (SkR.trans (SkR.trans pf_8 pf_25) pf_42)
        have hw_408 : ¬ pz_wd (rB (Mf 1) (Mv 0)) (pz_sk (rB (Mf 1) (Mv 0)) (Mv 2).toInt.toNat) pz_buyer = true := by
          rw [SkR.nat pf_8]
          have hq := pf_15
          rw [show (422877685106 : Int64).toInt = pz_pl pz_buyer by decide] at hq
          exact fun z => hq ((PkW.wd (by decide) (by decide) (by decide)).mpr z)
        have hw_409 : ¬ pz_wd (rB (Mf 1) (Mv 0)) (pz_sk (rB (Mf 1) (Mv 0)) (Mv 2).toInt.toNat) [116, 101, 109, 112, 101, 114] = true := by
          rw [SkR.nat (SkR.trans pf_8 pf_25)]
          have hq := pf_32
          rw [show (127978976601458 : Int64).toInt = pz_pl [116, 101, 109, 112, 101, 114] by decide] at hq
          exact fun z => hq ((PkW.wd (by decide) (by decide) (by decide)).mpr z)
        have hw_410 : pz_wd (rB (Mf 1) (Mv 0)) (pz_sk (rB (Mf 1) (Mv 0)) (Mv 2).toInt.toNat) [103, 114, 97, 105, 110, 115] = true := by
          rw [SkR.nat hs_407]
          have hq := pf_404
          rw [show (113740958232179 : Int64).toInt = pz_pl [103, 114, 97, 105, 110, 115] by decide] at hq
          exact (PkW.wd (by decide) (by decide) (by decide)).mp hq
        have hp_411 : (2 : Int32).toInt = pz_wa (rB (Mf 1) (Mv 0)) (pz_sk (rB (Mf 1) (Mv 0)) (Mv 2).toInt.toNat) pz_words 0 := by
          rw [show (2 : Int32).toInt = 2 by decide]
          unfold pz_words
          simp only [pz_wa]
          rw [if_neg hw_408, if_neg hw_409, if_pos hw_410]
          all_goals omega
        have hp_412 : ((2 : Int32).toInt = -1 ∨ (0 ≤ (2 : Int32).toInt ∧ (2 : Int32).toInt ≤ 12)) := by decide
        have hm_413 : 0 ≤ (2 : Int32).toInt → (Ltr (Mf 1) (Mv 0) sv_38) := by
          intro h1r
          exact pf_403
        exact retI (v := 2) hx hb hr hlk (rfl) hP hD hS sv_38 ⟨_, rfl, ⟨hp_411, hp_412⟩, ha_406, hs_407, hm_413⟩ [0, 1] rfl rfl dX12_wordHere_35 (Nat.le_of_ble_eq_true rfl) (Nat.le_of_ble_eq_true rfl) rfl
    · skip
      have hz_416 : (r_26 : Int32).toInt = 1 := by
        have z_1 := congrArg Int32.toInt c_14
        have z_2 : ¬ (r_26 : Int32).toInt = (0 : Int32).toInt := fun z => c_31 (Int32.toInt_inj.mp z)
        have y_0 : (0 : Int32).toInt = 0 := by decide
        omega
      obtain ⟨pf_414, pf_415⟩ := hm_29 hz_416
      have pf_414 : Ltr (Mf 1) (Mv 0) sv_21 := pf_414
      have ar_pf_414 := pf_414.1
      have at_pf_414 : 97 ≤ ((Mf 1) (sv_21 : Int32).toInt.toNat).toInt ∧ ((Mf 1) (sv_21 : Int32).toInt.toNat).toInt ≤ 122 := pf_414.2
      have pf_415 : PkW (rB (Mf 1) (Mv 0)) ((sv_21 : Int32).toInt.toNat) (127978976601458 : Int64).toInt := pf_415
      refine lv_iconst (v := 1) hx hb dX12_wordHere_22 (by decide) ?_
      have ha_417 : ((Mv 2) : Int32).toInt ≤ (sv_21 : Int32).toInt ∧ (sv_21 : Int32).toInt ≤ ((Mv 0) : Int32).toInt := by
        have z_1 := congrArg Int32.toInt c_14
        have z_2 : ¬ (r_26 : Int32).toInt = (0 : Int32).toInt := fun z => c_31 (Int32.toInt_inj.mp z)
        have y_0 : (0 : Int32).toInt = 0 := by decide
        omega
      have hs_418 : SkR (rB (Mf 1) (Mv 0)) (Mv 2) sv_21 := (SkR.trans pf_8 pf_25)
      have hw_419 : ¬ pz_wd (rB (Mf 1) (Mv 0)) (pz_sk (rB (Mf 1) (Mv 0)) (Mv 2).toInt.toNat) pz_buyer = true := by
        rw [SkR.nat pf_8]
        have hq := pf_15
        rw [show (422877685106 : Int64).toInt = pz_pl pz_buyer by decide] at hq
        exact fun z => hq ((PkW.wd (by decide) (by decide) (by decide)).mpr z)
      have hw_420 : pz_wd (rB (Mf 1) (Mv 0)) (pz_sk (rB (Mf 1) (Mv 0)) (Mv 2).toInt.toNat) [116, 101, 109, 112, 101, 114] = true := by
        rw [SkR.nat hs_418]
        have hq := pf_415
        rw [show (127978976601458 : Int64).toInt = pz_pl [116, 101, 109, 112, 101, 114] by decide] at hq
        exact (PkW.wd (by decide) (by decide) (by decide)).mp hq
      have hp_421 : (1 : Int32).toInt = pz_wa (rB (Mf 1) (Mv 0)) (pz_sk (rB (Mf 1) (Mv 0)) (Mv 2).toInt.toNat) pz_words 0 := by
        rw [show (1 : Int32).toInt = 1 by decide]
        unfold pz_words
        simp only [pz_wa]
        rw [if_neg hw_419, if_pos hw_420]
        all_goals omega
      have hp_422 : ((1 : Int32).toInt = -1 ∨ (0 ≤ (1 : Int32).toInt ∧ (1 : Int32).toInt ≤ 12)) := by decide
      have hm_423 : 0 ≤ (1 : Int32).toInt → (Ltr (Mf 1) (Mv 0) sv_21) := by
        intro h1r
        exact pf_414
      exact retI (v := 1) hx hb hr hlk (rfl) hP hD hS sv_21 ⟨_, rfl, ⟨hp_421, hp_422⟩, ha_417, hs_418, hm_423⟩ [0, 1] rfl rfl dX12_wordHere_23 (Nat.le_of_ble_eq_true rfl) (Nat.le_of_ble_eq_true rfl) rfl
  · skip
    have hz_426 : (r_9 : Int32).toInt = 1 := by
      have z_1 : ¬ (r_9 : Int32).toInt = (0 : Int32).toInt := fun z => c_14 (Int32.toInt_inj.mp z)
      have y_0 : (0 : Int32).toInt = 0 := by decide
      omega
    obtain ⟨pf_424, pf_425⟩ := hm_12 hz_426
    have pf_424 : Ltr (Mf 1) (Mv 0) sv_4 := pf_424
    have ar_pf_424 := pf_424.1
    have at_pf_424 : 97 ≤ ((Mf 1) (sv_4 : Int32).toInt.toNat).toInt ∧ ((Mf 1) (sv_4 : Int32).toInt.toNat).toInt ≤ 122 := pf_424.2
    have pf_425 : PkW (rB (Mf 1) (Mv 0)) ((sv_4 : Int32).toInt.toNat) (422877685106 : Int64).toInt := pf_425
    refine lv_iconst (v := 0) hx hb dX12_wordHere_10 (by decide) ?_
    have hw_427 : pz_wd (rB (Mf 1) (Mv 0)) (pz_sk (rB (Mf 1) (Mv 0)) (Mv 2).toInt.toNat) pz_buyer = true := by
      rw [SkR.nat pf_8]
      have hq := pf_425
      rw [show (422877685106 : Int64).toInt = pz_pl pz_buyer by decide] at hq
      exact (PkW.wd (by decide) (by decide) (by decide)).mp hq
    have hp_428 : (0 : Int32).toInt = pz_wa (rB (Mf 1) (Mv 0)) (pz_sk (rB (Mf 1) (Mv 0)) (Mv 2).toInt.toNat) pz_words 0 := by
      rw [show (0 : Int32).toInt = 0 by decide]
      unfold pz_words
      simp only [pz_wa]
      rw [if_pos hw_427]
      all_goals omega
    have hp_429 : ((0 : Int32).toInt = -1 ∨ (0 ≤ (0 : Int32).toInt ∧ (0 : Int32).toInt ≤ 12)) := by decide
    have hm_430 : 0 ≤ (0 : Int32).toInt → (Ltr (Mf 1) (Mv 0) sv_4) := by
      intro h1r
      exact pf_424
    exact retI (v := 0) hx hb hr hlk (rfl) hP hD hS sv_4 ⟨_, rfl, ⟨hp_428, hp_429⟩, pf_5, pf_8, hm_430⟩ [0, 1] rfl rfl dX12_wordHere_11 (Nat.le_of_ble_eq_true rfl) (Nat.le_of_ble_eq_true rfl) rfl
set_option maxRecDepth 100000 in
theorem cu_fX12_wordHere (l : Launch) (D : va_G) (tc : Nat → ClassId) (sk : (Nat → Nat) × (Nat → Nat)) (Ma_0 : Nat) (Ma_1 : Nat) (Ma_2 : Nat) (Ma_3 : Nat) (Ma_4 : Nat) (Ma_5 : Nat) (Ma_6 : Nat) (Ma_7 : Nat) (Ma_8 : Nat) (Ma_9 : Nat) (Ma_10 : Nat) (Ma_11 : Nat) (Ma_12 : Nat) (Ma_13 : Nat) (Ma_14 : Nat) (Ma_15 : Nat) (Ma_16 : Nat) (Ma_17 : Nat) (Ma_18 : Nat) (Ma_19 : Nat) (Ma_20 : Nat) (Mv_0 : Int32) (Mv_1 : Int32) (Mv_2 : Int32) (Mv_3 : Int32) (Mv_4 : Int32) (Mv_5 : Int32) (Mv_6 : Int32) (Mv_7 : Int32) (Mv_8 : Int32) (Mv_9 : Int32) (Mv_10 : Int32) (Mv_11 : Int32) (Mv_12 : Int32) (Mv_13 : Int32) (Mv_14 : Int32) (Mf_1 : Nat → Int32) (Mj_0 : Int64) (h_nx : 0 ≤ (Mv_2 : Int32).toInt ∧ (Mv_2 : Int32).toInt ≤ (Mv_0 : Int32).toInt ∧ (Mv_0 : Int32).toInt ≤ 400) (h_bs : ByS Mf_1) : Ct l yX12_wordHere cX12_wordHere 1 (some .int) { frames := 2, cells := 0, slots := 0, locals := 46 } D tc sk [.ref Ma_0] [(Ma_0, .inr (12, [.ref Ma_1, .int Mv_0, .int Mv_1, .ref Ma_2, .ref Ma_3, .ref Ma_4, .ref Ma_5, .ref Ma_6, .int Mv_2, .int Mv_3, .int Mv_4, .int Mv_5, .int Mv_6, .int Mv_7, .int Mv_8, .ref Ma_7, .int Mv_9, .ref Ma_8, .int Mv_10, .ref Ma_9, .ref Ma_10, .int Mv_11, .int Mv_12, .int Mv_13, .ref Ma_11, .int Mv_14, .ref Ma_12, .ref Ma_13, .ref Ma_14, .ref Ma_15, .ref Ma_16, .long Mj_0, .ref Ma_17, .ref Ma_18, .ref Ma_19, .ref Ma_20])), (Ma_1, .inl (tc 2, 400, .inl Mf_1))] (fun (v : Option Value) (oo0x1 : Int32) => ∃ r : Int32, v = some (.int r) ∧ ((r.toInt = pz_wa (rB Mf_1 Mv_0) (pz_sk (rB Mf_1 Mv_0) Mv_2.toInt.toNat) pz_words 0 ∧ (r.toInt = -1 ∨ (0 ≤ r.toInt ∧ r.toInt ≤ 12)))) ∧ ((Mv_2 : Int32).toInt ≤ (oo0x1 : Int32).toInt ∧ (oo0x1 : Int32).toInt ≤ (Mv_0 : Int32).toInt) ∧ (SkR (rB Mf_1 Mv_0) Mv_2 oo0x1) ∧ (0 ≤ r.toInt → (Ltr Mf_1 Mv_0 oo0x1))) (fun (oo0x1 : Int32) => [(Ma_0, .inr (12, [.ref Ma_1, .int Mv_0, .int Mv_1, .ref Ma_2, .ref Ma_3, .ref Ma_4, .ref Ma_5, .ref Ma_6, .int oo0x1, .int Mv_3, .int Mv_4, .int Mv_5, .int Mv_6, .int Mv_7, .int Mv_8, .ref Ma_7, .int Mv_9, .ref Ma_8, .int Mv_10, .ref Ma_9, .ref Ma_10, .int Mv_11, .int Mv_12, .int Mv_13, .ref Ma_11, .int Mv_14, .ref Ma_12, .ref Ma_13, .ref Ma_14, .ref Ma_15, .ref Ma_16, .long Mj_0, .ref Ma_17, .ref Ma_18, .ref Ma_19, .ref Ma_20])), (Ma_1, .inl (tc 2, 400, .inl Mf_1))]) 0 0 :=
  ct_fX12_wordHere l D tc sk (fun k => ([Ma_0, Ma_1, Ma_2, Ma_3, Ma_4, Ma_5, Ma_6, Ma_7, Ma_8, Ma_9, Ma_10, Ma_11, Ma_12, Ma_13, Ma_14, Ma_15, Ma_16, Ma_17, Ma_18, Ma_19, Ma_20] : List (Nat)).getD k 0) (fun k => ([Mv_0, Mv_1, Mv_2, Mv_3, Mv_4, Mv_5, Mv_6, Mv_7, Mv_8, Mv_9, Mv_10, Mv_11, Mv_12, Mv_13, Mv_14] : List (Int32)).getD k 0) (fun k => ([(fun _ => 0), Mf_1] : List (Nat → Int32)).getD k (fun _ => 0)) (fun k => ([Mj_0] : List (Int64)).getD k 0) h_nx h_bs
set_option maxHeartbeats 4000000 in
set_option maxRecDepth 100000 in
theorem ct_fX12_makes (l : Launch) (D : va_G) (tc : Nat → ClassId) (sk : (Nat → Nat) × (Nat → Nat)) (Ma : Nat → Nat) (Mv : Nat → Int32) (Mj : Nat → Int64) (x1 : Int32) (h_at : 0 ≤ x1.toInt ∧ x1.toInt ≤ 400) (h_md : 0 ≤ ((Mv 6) : Int32).toInt ∧ ((Mv 6) : Int32).toInt ≤ 60) (h_w : ((Mv 3) : Int32).toInt = 0) : Ct l yX12_makes cX12_makes 2 (some .boolean) { frames := 1, cells := 0, slots := 0, locals := 22 } D tc sk [.ref (Ma 0), .int x1] [((Ma 0), .inr (12, [.ref (Ma 1), .int (Mv 0), .int (Mv 1), .ref (Ma 2), .ref (Ma 3), .ref (Ma 4), .ref (Ma 5), .ref (Ma 6), .int (Mv 2), .int (Mv 3), .int (Mv 4), .int (Mv 5), .int (Mv 6), .int (Mv 7), .int (Mv 8), .ref (Ma 7), .int (Mv 9), .ref (Ma 8), .int (Mv 10), .ref (Ma 9), .ref (Ma 10), .int (Mv 11), .int (Mv 12), .int (Mv 13), .ref (Ma 11), .int (Mv 14), .ref (Ma 12), .ref (Ma 13), .ref (Ma 14), .ref (Ma 15), .ref (Ma 16), .long (Mj 0), .ref (Ma 17), .ref (Ma 18), .ref (Ma 19), .ref (Ma 20)]))] (fun (v : Option Value) (u : (Int32) × (Int32)) => match u with | (oo0x1, oo0x2) => ∃ r : Int32, v = some (.int r) ∧ (((r.toInt = 0 ∧ ¬ (oo0x1 : Int32).toInt = 0 ∧ (Mv 6).toInt = 60 ∧ (oo0x1 : Int32).toInt = 1 + 8 * x1.toInt + 3) ∨ (r.toInt = 1 ∧ (oo0x2 : Int32).toInt = (Mv 6).toInt + 1 ∧ (Mv 6).toInt < 60 ∧ (oo0x1 : Int32).toInt = 0))) ∧ (((Mv 6) : Int32).toInt ≤ (oo0x2 : Int32).toInt ∧ (oo0x2 : Int32).toInt ≤ 60)) (fun (u : (Int32) × (Int32)) => match u with | (oo0x1, oo0x2) => [((Ma 0), .inr (12, [.ref (Ma 1), .int (Mv 0), .int (Mv 1), .ref (Ma 2), .ref (Ma 3), .ref (Ma 4), .ref (Ma 5), .ref (Ma 6), .int (Mv 2), .int oo0x1, .int (Mv 4), .int (Mv 5), .int oo0x2, .int (Mv 7), .int (Mv 8), .ref (Ma 7), .int (Mv 9), .ref (Ma 8), .int (Mv 10), .ref (Ma 9), .ref (Ma 10), .int (Mv 11), .int (Mv 12), .int (Mv 13), .ref (Ma 11), .int (Mv 14), .ref (Ma 12), .ref (Ma 13), .ref (Ma 14), .ref (Ma 15), .ref (Ma 16), .long (Mj 0), .ref (Ma 17), .ref (Ma 18), .ref (Ma 19), .ref (Ma 20)]))]) 0 0 := by
  refine Ct.start (by decide) (Nat.le_of_ble_eq_true rfl) (fun p e s m below meth c A ls hx hb hr hlk hin hml hown hts hK hX hP hD hA hl hS => ?_)
  have hl : lv_has ls 2 [(0, .ref (Ma 0)), (1, .int x1)] := hl
  refine lv_aload_n hx hb dX12_makes_0 rfl (lv_at hl 0 rfl) ?_
  refine gf_X12_148 hx hb hts hown hK hP 0 rfl rfl dX12_makes_1 ?_
  refine lv_bipush (v := 60) hx hb dX12_makes_4 (by decide) ?_
  refine lv_icmp_ne (tgt := 16) hx hb dX12_makes_6 (by decide) (fun c_1 => ?_) (fun c_1 => ?_)
  · skip
    refine lv_aload_n hx hb dX12_makes_16 rfl (lv_at hl 0 rfl) ?_
    refine lv_dup hx hb dX12_makes_17 rfl ?_
    refine gf_X12_148 hx hb hts hown hK hP 0 rfl rfl dX12_makes_18 ?_
    refine lv_iconst (v := 1) hx hb dX12_makes_21 (by decide) ?_
    refine lv_iadd hx hb dX12_makes_22 ?_
    refine lv_topi (fun x_2 ex_2 => ?_)
    refine pf_X12_148 hx hb hts hown hK hP hD hS 0 rfl (Nat.le_of_ble_eq_true rfl) rfl rfl dX12_makes_23 (fun H locs hP₀ hD₀ hS₀ => ?_)
    replace hP : va_P D classes [((Ma 0), .inr (12, [.ref (Ma 1), .int (Mv 0), .int (Mv 1), .ref (Ma 2), .ref (Ma 3), .ref (Ma 4), .ref (Ma 5), .ref (Ma 6), .int (Mv 2), .int (Mv 3), .int (Mv 4), .int (Mv 5), .int x_2, .int (Mv 7), .int (Mv 8), .ref (Ma 7), .int (Mv 9), .ref (Ma 8), .int (Mv 10), .ref (Ma 9), .ref (Ma 10), .int (Mv 11), .int (Mv 12), .int (Mv 13), .ref (Ma 11), .int (Mv 14), .ref (Ma 12), .ref (Ma 13), .ref (Ma 14), .ref (Ma 15), .ref (Ma 16), .long (Mj 0), .ref (Ma 17), .ref (Ma 18), .ref (Ma 19), .ref (Ma 20)]))] H := hP₀
    replace hD : va_D A [((Ma 0), .inr (12, [.ref (Ma 1), .int (Mv 0), .int (Mv 1), .ref (Ma 2), .ref (Ma 3), .ref (Ma 4), .ref (Ma 5), .ref (Ma 6), .int (Mv 2), .int (Mv 3), .int (Mv 4), .int (Mv 5), .int x_2, .int (Mv 7), .int (Mv 8), .ref (Ma 7), .int (Mv 9), .ref (Ma 8), .int (Mv 10), .ref (Ma 9), .ref (Ma 10), .int (Mv 11), .int (Mv 12), .int (Mv 13), .ref (Ma 11), .int (Mv 14), .ref (Ma 12), .ref (Ma 13), .ref (Ma 14), .ref (Ma 15), .ref (Ma 16), .long (Mj 0), .ref (Ma 17), .ref (Ma 18), .ref (Ma 19), .ref (Ma 20)]))] := hD₀
    replace hS := hS₀
    clear hP₀ hD₀ hS₀
    have tp_x_2 : (x_2 : Int32).toInt = ((Mv 6) : Int32).toInt + 1 := by
      have z_1 : ¬ ((Mv 6) : Int32).toInt = (60 : Int32).toInt := fun z => c_1 (Int32.toInt_inj.mp z)
      have y_60 : (60 : Int32).toInt = 60 := by decide
      have y_1 : (1 : Int32).toInt = 1 := by decide
      have t_x_2 : x_2.toInt = ((Mv 6) : Int32).toInt + (1 : Int32).toInt := by rw [ex_2]; exact add_toInt (by omega) (by omega)
      omega
    refine lv_iconst (v := 1) hx hb dX12_makes_26 (by decide) ?_
    have ha_3 : ((Mv 6) : Int32).toInt ≤ (x_2 : Int32).toInt ∧ (x_2 : Int32).toInt ≤ 60 := by
      have z_1 : ¬ ((Mv 6) : Int32).toInt = (60 : Int32).toInt := fun z => c_1 (Int32.toInt_inj.mp z)
      have y_60 : (60 : Int32).toInt = 60 := by decide
      have y_1 : (1 : Int32).toInt = 1 := by decide
      have t_x_2 : x_2.toInt = ((Mv 6) : Int32).toInt + (1 : Int32).toInt := by rw [ex_2]; exact add_toInt (by omega) (by omega)
      omega
    have hp_4 : (((1 : Int32).toInt = 0 ∧ ¬ ((Mv 3) : Int32).toInt = 0 ∧ (Mv 6).toInt = 60 ∧ ((Mv 3) : Int32).toInt = 1 + 8 * x1.toInt + 3) ∨ ((1 : Int32).toInt = 1 ∧ (x_2 : Int32).toInt = (Mv 6).toInt + 1 ∧ (Mv 6).toInt < 60 ∧ ((Mv 3) : Int32).toInt = 0)) := by
      have z_1 : ¬ ((Mv 6) : Int32).toInt = (60 : Int32).toInt := fun z => c_1 (Int32.toInt_inj.mp z)
      have y_60 : (60 : Int32).toInt = 60 := by decide
      have y_1 : (1 : Int32).toInt = 1 := by decide
      have t_x_2 : x_2.toInt = ((Mv 6) : Int32).toInt + (1 : Int32).toInt := by rw [ex_2]; exact add_toInt (by omega) (by omega)
      have yr : (1 : Int32).toInt = 1 := by decide
      omega
    exact retI (v := 1) hx hb hr hlk (rfl) hP hD hS ((Mv 3), x_2) ⟨_, rfl, hp_4, ha_3⟩ [0] rfl rfl dX12_makes_27 (Nat.le_of_ble_eq_true rfl) (Nat.le_of_ble_eq_true rfl) rfl
  · skip
    refine lv_aload_n hx hb dX12_makes_9 rfl (lv_at hl 0 rfl) ?_
    refine lv_iconst (v := 3) hx hb dX12_makes_10 (by decide) ?_
    refine lv_iload_n hx hb dX12_makes_11 rfl (lv_at hl 1 rfl) ?_
    have ha_5 : 0 ≤ (3 : Int32).toInt ∧ (3 : Int32).toInt ≤ 4 := by
      have z_1 := congrArg Int32.toInt c_1
      have y_60 : (60 : Int32).toInt = 60 := by decide
      have y_3 : (3 : Int32).toInt = 3 := by decide
      omega
    refine cV (a := (Ma 0)) (As := [.int 3, .int x1]) (rest := []) (wr := []) ⟨hx, hb, hml, hown, hts⟩ hK hX hA (cu_fX12_fails l D tc sk (Ma 0) (Ma 1) (Ma 2) (Ma 3) (Ma 4) (Ma 5) (Ma 6) (Ma 7) (Ma 8) (Ma 9) (Ma 10) (Ma 11) (Ma 12) (Ma 13) (Ma 14) (Ma 15) (Ma 16) (Ma 17) (Ma 18) (Ma 19) (Ma 20) (Mv 0) (Mv 1) (Mv 2) (Mv 3) (Mv 4) (Mv 5) (Mv 6) (Mv 7) (Mv 8) (Mv 9) (Mv 10) (Mv 11) (Mv 12) (Mv 13) (Mv 14) (Mj 0) 3 x1 ha_5 h_at h_w) k_1232 k_1229 k_1231 k_31 k_106 pl_X12_fails ⟨Nat.le_of_ble_eq_true rfl, Nat.le_of_ble_eq_true rfl⟩ rfl rfl (va_recv hK hP (ci := 12) (q0 := 0) rfl rfl) hP hD hS [0] [] rfl rfl rfl rfl rfl (by decide) rfl hl.1 rfl (Nat.le_of_ble_eq_true rfl) dX12_makes_12 ⟨Nat.le_of_ble_eq_true rfl, Nat.le_of_ble_eq_true rfl⟩ (fun v_6 u_7 H locs hv_8 hP₀ hD₀ hS₀ => ?_)
    obtain ⟨sv_9, rfl⟩ : ∃ z, z = u_7 := ⟨_, rfl⟩
    obtain ⟨r_12, rfl, he_13, pf_10, pf_11⟩ := hv_8
    have he_13 : r_12.toInt = 0 := he_13
    have pf_10 : ¬ (sv_9 : Int32).toInt = 0 := pf_10
    have pf_11 : (sv_9 : Int32).toInt = 1 + 8 * x1.toInt + (3 : Int32).toInt := pf_11
    refine W.eq (g2 := F0 m 15 ls [.int r_12]) rfl ?_
    replace hP : va_P D classes [((Ma 0), .inr (12, [.ref (Ma 1), .int (Mv 0), .int (Mv 1), .ref (Ma 2), .ref (Ma 3), .ref (Ma 4), .ref (Ma 5), .ref (Ma 6), .int (Mv 2), .int sv_9, .int (Mv 4), .int (Mv 5), .int (Mv 6), .int (Mv 7), .int (Mv 8), .ref (Ma 7), .int (Mv 9), .ref (Ma 8), .int (Mv 10), .ref (Ma 9), .ref (Ma 10), .int (Mv 11), .int (Mv 12), .int (Mv 13), .ref (Ma 11), .int (Mv 14), .ref (Ma 12), .ref (Ma 13), .ref (Ma 14), .ref (Ma 15), .ref (Ma 16), .long (Mj 0), .ref (Ma 17), .ref (Ma 18), .ref (Ma 19), .ref (Ma 20)]))] H := hP₀
    replace hD : va_D A [((Ma 0), .inr (12, [.ref (Ma 1), .int (Mv 0), .int (Mv 1), .ref (Ma 2), .ref (Ma 3), .ref (Ma 4), .ref (Ma 5), .ref (Ma 6), .int (Mv 2), .int sv_9, .int (Mv 4), .int (Mv 5), .int (Mv 6), .int (Mv 7), .int (Mv 8), .ref (Ma 7), .int (Mv 9), .ref (Ma 8), .int (Mv 10), .ref (Ma 9), .ref (Ma 10), .int (Mv 11), .int (Mv 12), .int (Mv 13), .ref (Ma 11), .int (Mv 14), .ref (Ma 12), .ref (Ma 13), .ref (Ma 14), .ref (Ma 15), .ref (Ma 16), .long (Mj 0), .ref (Ma 17), .ref (Ma 18), .ref (Ma 19), .ref (Ma 20)]))] := hD₀
    replace hS := hS₀
    clear hP₀ hD₀ hS₀
    have yf_15 : (3 : Int32).toInt = 3 := by decide
    have ha_16 : ((Mv 6) : Int32).toInt ≤ ((Mv 6) : Int32).toInt ∧ ((Mv 6) : Int32).toInt ≤ 60 := by
      have z_1 := congrArg Int32.toInt c_1
      have y_60 : (60 : Int32).toInt = 60 := by decide
      omega
    have hb_17 : (r_12 : Int32).toInt = 0 ∨ (r_12 : Int32).toInt = 1 := by
      have z_1 := congrArg Int32.toInt c_1
      have y_60 : (60 : Int32).toInt = 60 := by decide
      omega
    have hp_18 : (((r_12 : Int32).toInt = 0 ∧ ¬ (sv_9 : Int32).toInt = 0 ∧ (Mv 6).toInt = 60 ∧ (sv_9 : Int32).toInt = 1 + 8 * x1.toInt + 3) ∨ ((r_12 : Int32).toInt = 1 ∧ ((Mv 6) : Int32).toInt = (Mv 6).toInt + 1 ∧ (Mv 6).toInt < 60 ∧ (sv_9 : Int32).toInt = 0)) := by
      have z_1 := congrArg Int32.toInt c_1
      have y_60 : (60 : Int32).toInt = 60 := by decide
      omega
    exact retI (v := r_12) hx hb hr hlk (nar01 hb_17) hP hD hS (sv_9, (Mv 6)) ⟨_, rfl, hp_18, ha_16⟩ [0] rfl rfl dX12_makes_15 (Nat.le_of_ble_eq_true rfl) (Nat.le_of_ble_eq_true rfl) rfl
set_option maxRecDepth 100000 in
theorem cu_fX12_makes (l : Launch) (D : va_G) (tc : Nat → ClassId) (sk : (Nat → Nat) × (Nat → Nat)) (Ma_0 : Nat) (Ma_1 : Nat) (Ma_2 : Nat) (Ma_3 : Nat) (Ma_4 : Nat) (Ma_5 : Nat) (Ma_6 : Nat) (Ma_7 : Nat) (Ma_8 : Nat) (Ma_9 : Nat) (Ma_10 : Nat) (Ma_11 : Nat) (Ma_12 : Nat) (Ma_13 : Nat) (Ma_14 : Nat) (Ma_15 : Nat) (Ma_16 : Nat) (Ma_17 : Nat) (Ma_18 : Nat) (Ma_19 : Nat) (Ma_20 : Nat) (Mv_0 : Int32) (Mv_1 : Int32) (Mv_2 : Int32) (Mv_3 : Int32) (Mv_4 : Int32) (Mv_5 : Int32) (Mv_6 : Int32) (Mv_7 : Int32) (Mv_8 : Int32) (Mv_9 : Int32) (Mv_10 : Int32) (Mv_11 : Int32) (Mv_12 : Int32) (Mv_13 : Int32) (Mv_14 : Int32) (Mj_0 : Int64) (x1 : Int32) (h_at : 0 ≤ x1.toInt ∧ x1.toInt ≤ 400) (h_md : 0 ≤ (Mv_6 : Int32).toInt ∧ (Mv_6 : Int32).toInt ≤ 60) (h_w : (Mv_3 : Int32).toInt = 0) : Ct l yX12_makes cX12_makes 2 (some .boolean) { frames := 1, cells := 0, slots := 0, locals := 22 } D tc sk [.ref Ma_0, .int x1] [(Ma_0, .inr (12, [.ref Ma_1, .int Mv_0, .int Mv_1, .ref Ma_2, .ref Ma_3, .ref Ma_4, .ref Ma_5, .ref Ma_6, .int Mv_2, .int Mv_3, .int Mv_4, .int Mv_5, .int Mv_6, .int Mv_7, .int Mv_8, .ref Ma_7, .int Mv_9, .ref Ma_8, .int Mv_10, .ref Ma_9, .ref Ma_10, .int Mv_11, .int Mv_12, .int Mv_13, .ref Ma_11, .int Mv_14, .ref Ma_12, .ref Ma_13, .ref Ma_14, .ref Ma_15, .ref Ma_16, .long Mj_0, .ref Ma_17, .ref Ma_18, .ref Ma_19, .ref Ma_20]))] (fun (v : Option Value) (u : (Int32) × (Int32)) => match u with | (oo0x1, oo0x2) => ∃ r : Int32, v = some (.int r) ∧ (((r.toInt = 0 ∧ ¬ (oo0x1 : Int32).toInt = 0 ∧ Mv_6.toInt = 60 ∧ (oo0x1 : Int32).toInt = 1 + 8 * x1.toInt + 3) ∨ (r.toInt = 1 ∧ (oo0x2 : Int32).toInt = Mv_6.toInt + 1 ∧ Mv_6.toInt < 60 ∧ (oo0x1 : Int32).toInt = 0))) ∧ ((Mv_6 : Int32).toInt ≤ (oo0x2 : Int32).toInt ∧ (oo0x2 : Int32).toInt ≤ 60)) (fun (u : (Int32) × (Int32)) => match u with | (oo0x1, oo0x2) => [(Ma_0, .inr (12, [.ref Ma_1, .int Mv_0, .int Mv_1, .ref Ma_2, .ref Ma_3, .ref Ma_4, .ref Ma_5, .ref Ma_6, .int Mv_2, .int oo0x1, .int Mv_4, .int Mv_5, .int oo0x2, .int Mv_7, .int Mv_8, .ref Ma_7, .int Mv_9, .ref Ma_8, .int Mv_10, .ref Ma_9, .ref Ma_10, .int Mv_11, .int Mv_12, .int Mv_13, .ref Ma_11, .int Mv_14, .ref Ma_12, .ref Ma_13, .ref Ma_14, .ref Ma_15, .ref Ma_16, .long Mj_0, .ref Ma_17, .ref Ma_18, .ref Ma_19, .ref Ma_20]))]) 0 0 :=
  ct_fX12_makes l D tc sk (fun k => ([Ma_0, Ma_1, Ma_2, Ma_3, Ma_4, Ma_5, Ma_6, Ma_7, Ma_8, Ma_9, Ma_10, Ma_11, Ma_12, Ma_13, Ma_14, Ma_15, Ma_16, Ma_17, Ma_18, Ma_19, Ma_20] : List (Nat)).getD k 0) (fun k => ([Mv_0, Mv_1, Mv_2, Mv_3, Mv_4, Mv_5, Mv_6, Mv_7, Mv_8, Mv_9, Mv_10, Mv_11, Mv_12, Mv_13, Mv_14] : List (Int32)).getD k 0) (fun k => ([Mj_0] : List (Int64)).getD k 0) x1 h_at h_md h_w
