set_option maxRecDepth 16384
def pz_bws : List (List Int) := [pz_book, pz_sky, pz_buyer, pz_watch]
abbrev BkU := (Nat × Nat) × Int × Int
def rN1 (B : Nat → Int) (a b : Int) (r : Except Int (Nat × Nat)) : Except Int (Nat × Nat) := rNX B (rNU B a b r)
def pz_bk (B : Nat → Int) (k : Int) (u : BkU) (r : Except Int (Nat × Nat)) : Except Int BkU := if k = 0 then pz_b (rN1 B 0 9 (rN1 B 0 99 r)) (fun s => pz_b (pz_num B 1 10 s.1) (fun v => .ok (pz_nx B s, v, u.2.2))) else if k = 1 then pz_b (rN1 B 0 9 (rN1 B 0 (u.2.1 - 1) r)) (fun s => .ok (s, u.2)) else if k = 2 then pz_b (rN1 B 0 9 (rN1 B 1 9 (rN1 B 0 20 r))) (fun s => .ok (s, u.2.1, u.2.2 + 1)) else pz_b (rN1 B 0 (u.2.2 - 1) (rN1 B 0 (u.2.1 - 1) r)) (fun s => .ok (s, u.2))
def pz_bcl (B : Nat → Int) (l : Nat) (u : BkU) : Except Int BkU := if pz_wa B u.1.1 pz_bws 0 = -1 then .error (pz_er 0 u.1.1) else if 40 ≤ l ∨ ¬ (pz_wa B u.1.1 pz_bws 0 = 0 ↔ l = 0) ∨ (pz_wa B u.1.1 pz_bws 0 = 2 ∧ 6 ≤ u.2.2) then .error (pz_er 4 u.1.1) else pz_bk B (pz_wa B u.1.1 pz_bws 0) u (.ok (pz_nx B u.1))
def pz_bF (B : Nat → Int) (w : BkU × Nat) : Option (Except Int (BkU × Nat)) := if B w.1.1.1 = 59 then some (pz_b (pz_bcl B w.2 (pz_nx B w.1.1, w.1.2)) (fun u => .ok (u, w.2 + 1))) else none
def bTG (l : Nat) (q : Except Int BkU) : Except Int (BkU × Nat) := pz_b q (fun u => .ok (u, l))
def pz_bRu (B : Nat → Int) : Except Int (BkU × Nat) := pz_b (bTG 1 (pz_bcl B 0 ((pz_sk B 0, 0), 0, 0))) (pz_lp (pz_bF B))
def bEN (B : Nat → Int) (q : Except Int BkU) : Except Int BkU := pz_b q (fun u => pz_b (pz_end B u.1.1) (fun _ => .ok u))
def pz_bookR (B : Nat → Int) : Except Int BkU := bEN B (pz_b (pz_bRu B) (fun w => .ok w.1))
theorem rN1_gt {B : Nat → Int} {a b : Int} {r : Except Int (Nat × Nat)} {t : Nat × Nat} (h : rN1 B a b r = .ok t) : ∃ s, r = .ok s ∧ s.1 < t.1 ∧ t = pz_nx B s ∧ ∃ v, pz_num B a b s.1 = .ok v := by
  cases r with
  | error e => cases h
  | ok s =>
    have h : pz_b (pz_b (pz_num B a b s.1) (fun _ => .ok s)) (fun s => .ok (pz_nx B s)) = .ok t := h
    cases e : pz_num B a b s.1 with
    | error z => rw [e] at h; cases h
    | ok v =>
      rw [e] at h
      cases h
      refine ⟨s, rfl, ?_, rfl, v, e⟩
      have hd : pz_isD (B s.1) = true := by
        by_cases z : pz_isD (B s.1) = true
        · exact z
        · exfalso
          rw [show pz_num B a b s.1 = .error (pz_er 0 s.1) from if_neg z] at e
          cases e
      exact pz_nt_gt (pz_isD_ne hd)
theorem pz_bws_ne : ∀ w ∈ pz_bws, 0 < w.length ∧ w.getD 0 0 ≠ -1 := by decide
def fstQ (q : Except Int BkU) : Except Int (Nat × Nat) := pz_b q (fun u => .ok u.1)
def BkQ (q : Except Int BkU) (rd bn : Int32) : Prop := ∀ u, q = .ok u → rd.toInt = u.2.1 ∧ bn.toInt = u.2.2 ∧ 0 ≤ u.2.1 ∧ u.2.1 ≤ 10
theorem num_rg {B : Nat → Int} {lo hi v : Int} {p : Nat} (h : pz_num B lo hi p = .ok v) : lo ≤ v ∧ v ≤ hi := by
  unfold pz_num at h
  by_cases z : pz_isD (B p) = true
  · rw [if_pos z] at h
    by_cases y : 5 < pz_te B p - p
    · rw [if_pos y] at h; cases h
    · rw [if_neg y] at h
      by_cases x : pz_nv B p (pz_te B p - p) < lo ∨ hi < pz_nv B p (pz_te B p - p)
      · rw [if_pos x] at h; cases h
      · rw [if_neg x] at h; cases h; omega
  · rw [if_neg z] at h; cases h
theorem rd_1 {rd : Int32} (h : 0 ≤ rd.toInt ∧ rd.toInt ≤ 10) : (rd - 1).toInt = rd.toInt - 1 := by
  have h1 : (1 : Int32).toInt = 1 := by decide
  rw [sub_toInt (by omega) (by omega), h1]
theorem BkQ.er {q : Except Int BkU} {k : Int} {l : Nat} {B : Nat → Int} {rd bn : Int32} (h : fstQ (pz_b q (pz_bcl B l)) = rER k (fstQ q)) : BkQ (pz_b q (pz_bcl B l)) rd bn := fun u hu => by
  rw [hu] at h
  cases q with
  | error e => cases hu
  | ok v => cases h
def BcL (f : Nat → Int32) (n : Int32) (a b c d rd bn l : Int32) : Prop := ∃ q, TpR f n (fstQ q) a b c d ∧ BkQ q rd bn ∧ ((l.toInt = 0 ∧ q = .ok ((pz_sk (cB f n) 0, 0), 0, 0)) ∨ (1 ≤ l.toInt ∧ l.toInt ≤ 40 ∧ pz_bRu (cB f n) = pz_b (bTG l.toInt.toNat q) (pz_lp (pz_bF (cB f n)))) ∨ (l.toInt = 41 ∧ ∃ e, q = .error e ∧ pz_bRu (cB f n) = .error e))
theorem BcL.fin {f : Nat → Int32} {n : Int32} {q : Except Int BkU} {l : Int32} (hq : (l.toInt = 0 ∧ q = .ok ((pz_sk (cB f n) 0, 0), 0, 0)) ∨ (1 ≤ l.toInt ∧ l.toInt ≤ 40 ∧ pz_bRu (cB f n) = pz_b (bTG l.toInt.toNat q) (pz_lp (pz_bF (cB f n)))) ∨ (l.toInt = 41 ∧ ∃ e, q = .error e ∧ pz_bRu (cB f n) = .error e)) (h0 : ¬ l.toInt = 0) (hx : 40 < l.toInt ∨ NSg (cB f n) 59 (fstQ q)) : pz_bookR (cB f n) = bEN (cB f n) q := by
  have e0 : pz_bookR (cB f n) = bEN (cB f n) (pz_b (pz_bRu (cB f n)) (fun w => .ok w.1)) := rfl
  rcases hq with hq | hq | hq
  · omega
  · rw [e0, hq.2.2]
    rcases hx with hx | hx
    · omega
    · cases q with
      | error e => rfl
      | ok u =>
        show bEN (cB f n) (pz_b (pz_lp (pz_bF (cB f n)) (u, l.toInt.toNat)) _) = _
        rw [pz_lp_no (F := pz_bF (cB f n)) (s := (u, l.toInt.toNat)) (if_neg (hx u.1 rfl))]
        rfl
  · obtain ⟨-, e, rfl, he⟩ := hq
    rw [e0, he]
    rfl
def BkR (B : Nat → Int) (d bn : Int32) : Prop := (d.toInt = 0 ∧ ∃ u, pz_bookR B = .ok u ∧ bn.toInt = u.2.2) ∨ (¬ d.toInt = 0 ∧ pz_bookR B = .error d.toInt)
theorem fstQ_en {B : Nat → Int} {q : Except Int BkU} : fstQ (bEN B q) = rEN B (fstQ q) := by
  cases q with
  | error e => rfl
  | ok u =>
    show fstQ (pz_b (pz_end B u.1.1) _) = pz_b (pz_end B u.1.1) _
    cases pz_end B u.1.1 <;> rfl
theorem BkR.of {f : Nat → Int32} {n : Int32} {q : Except Int BkU} {a b c d rd bn : Int32} (hr : pz_bookR (cB f n) = bEN (cB f n) q) (h : TpR f n (rEN (cB f n) (fstQ q)) a b c d) (hq : BkQ q rd bn) : BkR (cB f n) d bn := by
  rw [← fstQ_en, ← hr] at h
  cases e : pz_bookR (cB f n) with
  | error z =>
    rw [e] at h
    have h1 := h.1
    have h2 := h.2.1
    exact Or.inr ⟨by rw [h1]; exact h2, by rw [e, h1]⟩
  | ok u =>
    rw [e] at h
    refine Or.inl ⟨h.1, u, e, ?_⟩
    rw [e] at hr
    cases q with
    | error z => cases hr
    | ok v =>
      have hr : Except.ok u = pz_b (pz_end (cB f n) v.1.1) (fun _ => .ok v) := hr
      cases e2 : pz_end (cB f n) v.1.1 with
      | error z => rw [e2] at hr; cases hr
      | ok z => rw [e2] at hr; cases hr; exact (hq u rfl).2.1
def RbC (B : Nat → Int) (r : Int32) : Prop := (∃ d : Int32, pz_bookR B = .error d.toInt ∧ r = -2 - d) ∨ ∃ u, pz_bookR B = .ok u ∧ r.toInt = u.2.2
theorem RbC.eq {B : Nat → Int} {r s : Int32} (h : RbC B r) (h2 : RbC B s) : r = s := by
  rcases h with ⟨d, h, e⟩ | ⟨u, h, e⟩ <;> rcases h2 with ⟨d', h', e'⟩ | ⟨u', h', e'⟩
  · rw [h] at h'
    have : d = d' := Int32.toInt_inj.mp (Except.error.inj h')
    rw [e, e', this]
  · rw [h] at h'; cases h'
  · rw [h] at h'; cases h'
  · rw [h] at h'
    cases h'
    exact Int32.toInt_inj.mp (e.trans e'.symm)
theorem BkR.er {B : Nat → Int} {d bn : Int32} (h : BkR B d bn) (hd : ¬ d.toInt = 0) : pz_bookR B = .error d.toInt := by
  rcases h with h | h
  · exact absurd h.1 hd
  · exact h.2
theorem BkR.ok {B : Nat → Int} {d bn : Int32} (h : BkR B d bn) (hd : d.toInt = 0) : ∃ u, pz_bookR B = .ok u ∧ bn.toInt = u.2.2 := by
  rcases h with h | h
  · exact h.2
  · exact absurd hd h.1
theorem pz_wa_ge {B : Nat → Int} {p : Nat} : ∀ (ws : List (List Int)) (k : Int), 0 ≤ k → -1 ≤ pz_wa B p ws k
  | [], k, _ => by show (-1 : Int) ≤ -1; omega
  | w :: t, k, h => by
    show -1 ≤ (if pz_wd B p w = true then k else pz_wa B p t (k + 1))
    by_cases z : pz_wd B p w = true
    · rw [if_pos z]; omega
    · rw [if_neg z]; exact pz_wa_ge t (k + 1) (by omega)
theorem waR_ge {B : Nat → Int} {ws : List (List Int)} {r : Except Int (Nat × Nat)} : -1 ≤ waR B ws 0 r := by
  cases r with
  | error e => exact Int.le_refl _
  | ok s => exact pz_wa_ge ws 0 (Int.le_refl _)
def RgO (r : Except Int (Nat × Nat)) (B : Nat → Int) (wr nx : Int32) : Prop := r = .ok (pz_sk B nx.toInt.toNat, 0) ∧ wr.toInt = 0
def RgE (r : Except Int (Nat × Nat)) (wr : Int32) : Prop := r = .error wr.toInt
def LtH (B : Nat → Int) (nx : Int32) : Prop := 0 ≤ nx.toInt ∧ 97 ≤ B nx.toInt.toNat ∧ B nx.toInt.toNat ≤ 122
def pNX (B : Nat → Int) (nx : Int32) : Except Int (Nat × Nat) := .ok (pz_nx B (nx.toInt.toNat, 0))
theorem RgO.ps {B : Nat → Int} {wr nx nx' : Int32} (h : LtH B nx) (hp : PsR B nx nx') (hw : wr.toInt = 0) : RgO (pNX B nx) B wr nx' := by
  refine ⟨?_, hw⟩
  have e := hp.te h.2
  show Except.ok (pz_sk B (pz_te B nx.toInt.toNat), 0) = _
  rw [e]
def BfO (q : Except Int BkU) (B : Nat → Int) (wr nx rd bn : Int32) : Prop := q = .ok ((pz_sk B nx.toInt.toNat, 0), rd.toInt, bn.toInt) ∧ wr.toInt = 0
def BfE (q : Except Int BkU) (wr : Int32) : Prop := q = .error wr.toInt
def BkW (B : Nat → Int) (nx : Int32) (k : Int) : Prop := pz_wa B nx.toInt.toNat pz_bws 0 = k
theorem bws_0 {B : Nat → Int} {p : Nat} (h : pz_wd B p pz_book = true) : pz_wa B p pz_bws 0 = 0 := by
  unfold pz_bws; simp only [pz_wa]; rw [if_pos h]
theorem bws_1 {B : Nat → Int} {p : Nat} (h : ¬ pz_wd B p pz_book = true) (h1 : pz_wd B p pz_sky = true) : pz_wa B p pz_bws 0 = 1 := by
  unfold pz_bws; simp only [pz_wa]; rw [if_neg h, if_pos h1]; rfl
theorem bws_2 {B : Nat → Int} {p : Nat} (h : ¬ pz_wd B p pz_book = true) (h1 : ¬ pz_wd B p pz_sky = true) (h2 : pz_wd B p pz_buyer = true) : pz_wa B p pz_bws 0 = 2 := by
  unfold pz_bws; simp only [pz_wa]; rw [if_neg h, if_neg h1, if_pos h2]; rfl
theorem bws_n {B : Nat → Int} {p : Nat} (h : ¬ pz_wd B p pz_book = true) (h1 : ¬ pz_wd B p pz_sky = true) (h2 : ¬ pz_wd B p pz_buyer = true) : (pz_wd B p pz_watch = true → pz_wa B p pz_bws 0 = 3) ∧ (¬ pz_wd B p pz_watch = true → pz_wa B p pz_bws 0 = -1) := by
  unfold pz_bws; simp only [pz_wa]; rw [if_neg h, if_neg h1, if_neg h2]
  exact ⟨fun z => by rw [if_pos z]; rfl, fun z => by rw [if_neg z]⟩
theorem BfO.of {r : Except Int (Nat × Nat)} {B : Nat → Int} {wr nx rd bn : Int32} {v : Int × Int} (h : RgO r B wr nx) (hv : v = (rd.toInt, bn.toInt)) : BfO (pz_b r (fun s => .ok (s, v))) B wr nx rd bn := by
  subst hv
  refine ⟨?_, h.2⟩
  rw [h.1]; rfl
theorem BfE.of {r : Except Int (Nat × Nat)} {wr : Int32} {v : Int × Int} (h : RgE r wr) : BfE (pz_b r (fun s => .ok (s, v))) wr := by
  unfold RgE at h; unfold BfE; rw [h]; rfl
theorem BfO.eq {q q' : Except Int BkU} {B : Nat → Int} {wr nx rd bn : Int32} (e : q = q') (h : BfO q' B wr nx rd bn) : BfO q B wr nx rd bn := e ▸ h
theorem BfE.eq {q q' : Except Int BkU} {wr : Int32} (e : q = q') (h : BfE q' wr) : BfE q wr := e ▸ h
theorem bws_ne0 {B : Nat → Int} {p : Nat} (h : ¬ pz_wd B p pz_book = true) : ¬ pz_wa B p pz_bws 0 = 0 := by
  unfold pz_bws; simp only [pz_wa]; rw [if_neg h]
  by_cases h1 : pz_wd B p pz_sky = true
  · rw [if_pos h1]; decide
  · rw [if_neg h1]
    by_cases h2 : pz_wd B p pz_buyer = true
    · rw [if_pos h2]; decide
    · rw [if_neg h2]
      by_cases h3 : pz_wd B p pz_watch = true
      · rw [if_pos h3]; decide
      · rw [if_neg h3]; decide
def BkN (B : Nat → Int) (nx : Int32) : Prop := ¬ pz_wa B nx.toInt.toNat pz_bws 0 = -1
def Sd3 (f g : Nat → Int32) : Prop := g 3 = f 3
theorem Sd3.rf {f : Nat → Int32} : Sd3 f f := rfl
set_option maxHeartbeats 4000000 in
set_option maxRecDepth 100000 in
theorem ct_fX12_cellHere (l : Launch) (D : va_G) (tc : Nat → ClassId) (sk : (Nat → Nat) × (Nat → Nat)) (Ma : Nat → Nat) (Mv : Nat → Int32) (Mf : Nat → Nat → Int32) (Mj : Nat → Int64) (x1 : Int32) (x2 : Int32) (x3 : Int32) (h_nx : 0 ≤ ((Mv 2) : Int32).toInt ∧ ((Mv 2) : Int32).toInt ≤ ((Mv 0) : Int32).toInt ∧ ((Mv 0) : Int32).toInt ≤ 400) (h_c : 0 ≤ x1.toInt ∧ x1.toInt < 95) (h_bs : ByS (Mf 1)) (h_w : ((Mv 3) : Int32).toInt = 0) : Ct l yX12_cellHere cX12_cellHere 4 (some .boolean) { frames := 2, cells := 0, slots := 0, locals := 49 } D tc sk [.ref (Ma 0), .int x1, .int x2, .int x3] [((Ma 0), .inr (12, [.ref (Ma 1), .int (Mv 0), .int (Mv 1), .ref (Ma 2), .ref (Ma 3), .ref (Ma 4), .ref (Ma 5), .ref (Ma 6), .int (Mv 2), .int (Mv 3), .int (Mv 4), .int (Mv 5), .int (Mv 6), .int (Mv 7), .int (Mv 8), .ref (Ma 7), .int (Mv 9), .ref (Ma 8), .int (Mv 10), .ref (Ma 9), .ref (Ma 10), .int (Mv 11), .int (Mv 12), .int (Mv 13), .ref (Ma 11), .int (Mv 14), .ref (Ma 12), .ref (Ma 13), .ref (Ma 14), .ref (Ma 15), .ref (Ma 16), .long (Mj 0), .ref (Ma 17), .ref (Ma 18), .ref (Ma 19), .ref (Ma 20)])), ((Ma 1), .inl (tc 2, 400, .inl (Mf 1))), ((Ma 6), .inl (tc 0, 95, .inl (Mf 6)))] (fun (v : Option Value) (u : (Int32) × (Int32) × (Int32) × (Nat → Int32)) => match u with | (oo0x1, oo0x2, oo0x3, oo0x4) => ∃ r : Int32, v = some (.int r) ∧ (((r.toInt = 0 ∧ ¬ (oo0x2 : Int32).toInt = 0) ∨ (r.toInt = 1 ∧ x2.toInt ≤ (oo0x4 x1.toNatClampNeg).toInt ∧ (oo0x4 x1.toNatClampNeg).toInt ≤ x3.toInt ∧ (oo0x2 : Int32).toInt = 0))) ∧ (((Mv 2) : Int32).toInt ≤ (oo0x1 : Int32).toInt ∧ (oo0x1 : Int32).toInt ≤ ((Mv 0) : Int32).toInt) ∧ (RdC (Mf 6) oo0x4 x1) ∧ (r.toInt = 1 → (NmO (rB (Mf 1) (Mv 0)) x2.toInt x3.toInt (Mv 2) (oo0x4 x1.toNatClampNeg) oo0x1 oo0x2)) ∧ (r.toInt = 0 → (NmE (rB (Mf 1) (Mv 0)) x2.toInt x3.toInt (Mv 2) oo0x2))) (fun (u : (Int32) × (Int32) × (Int32) × (Nat → Int32)) => match u with | (oo0x1, oo0x2, oo0x3, oo0x4) => [((Ma 0), .inr (12, [.ref (Ma 1), .int (Mv 0), .int (Mv 1), .ref (Ma 2), .ref (Ma 3), .ref (Ma 4), .ref (Ma 5), .ref (Ma 6), .int oo0x1, .int oo0x2, .int oo0x3, .int (Mv 5), .int (Mv 6), .int (Mv 7), .int (Mv 8), .ref (Ma 7), .int (Mv 9), .ref (Ma 8), .int (Mv 10), .ref (Ma 9), .ref (Ma 10), .int (Mv 11), .int (Mv 12), .int (Mv 13), .ref (Ma 11), .int (Mv 14), .ref (Ma 12), .ref (Ma 13), .ref (Ma 14), .ref (Ma 15), .ref (Ma 16), .long (Mj 0), .ref (Ma 17), .ref (Ma 18), .ref (Ma 19), .ref (Ma 20)])), ((Ma 1), .inl (tc 2, 400, .inl (Mf 1))), ((Ma 6), .inl (tc 0, 95, .inl oo0x4))]) 0 0 := by
  refine Ct.start (by decide) (Nat.le_of_ble_eq_true rfl) (fun p e s m below meth c A ls hx hb hr hlk hin hml hown hts hK hX hP hD hA hl hS => ?_)
  have hl : lv_has ls 4 [(0, .ref (Ma 0)), (1, .int x1), (2, .int x2), (3, .int x3)] := hl
  refine lv_aload_n hx hb dX12_cellHere_0 rfl (lv_at hl 0 rfl) ?_
  refine lv_iload_n hx hb dX12_cellHere_1 rfl (lv_at hl 2 rfl) ?_
  refine lv_iload_n hx hb dX12_cellHere_2 rfl (lv_at hl 3 rfl) ?_
  refine cV (a := (Ma 0)) (As := [.int x2, .int x3]) (rest := []) (wr := [((Ma 6), .inl (tc 0, 95, .inl (Mf 6)))]) ⟨hx, hb, hml, hown, hts⟩ hK hX hA (cu_fX12_numberHere l D tc sk (Ma 0) (Ma 1) (Ma 2) (Ma 3) (Ma 4) (Ma 5) (Ma 6) (Ma 7) (Ma 8) (Ma 9) (Ma 10) (Ma 11) (Ma 12) (Ma 13) (Ma 14) (Ma 15) (Ma 16) (Ma 17) (Ma 18) (Ma 19) (Ma 20) (Mv 0) (Mv 1) (Mv 2) (Mv 3) (Mv 4) (Mv 5) (Mv 6) (Mv 7) (Mv 8) (Mv 9) (Mv 10) (Mv 11) (Mv 12) (Mv 13) (Mv 14) (Mf 1) (Mj 0) x2 x3 h_nx h_bs h_w) k_1252 k_1249 k_1251 k_36 k_106 pl_X12_numberHere ⟨Nat.le_of_ble_eq_true rfl, Nat.le_of_ble_eq_true rfl⟩ rfl rfl (va_recv hK hP (ci := 12) (q0 := 0) rfl rfl) hP hD hS [0, 1] [2] rfl rfl rfl rfl rfl (by decide) rfl hl.1 rfl (Nat.le_of_ble_eq_true rfl) dX12_cellHere_3 ⟨Nat.le_of_ble_eq_true rfl, Nat.le_of_ble_eq_true rfl⟩ (fun v_1 u_2 H locs hv_3 hP₀ hD₀ hS₀ => ?_)
  obtain ⟨sv_4, sv_5, sv_6⟩ := u_2
  obtain ⟨r_8, rfl, he_9, pf_7, hm_11, hm_12⟩ := hv_3
  have he_9 : ((r_8.toInt = 0 ∧ ¬ (sv_5 : Int32).toInt = 0) ∨ (r_8.toInt = 1 ∧ x2.toInt ≤ (sv_6 : Int32).toInt ∧ (sv_6 : Int32).toInt ≤ x3.toInt ∧ (Mv 2).toInt + 1 ≤ (sv_4 : Int32).toInt)) := he_9
  have pf_7 : ((Mv 2) : Int32).toInt ≤ (sv_4 : Int32).toInt ∧ (sv_4 : Int32).toInt ≤ ((Mv 0) : Int32).toInt := pf_7
  refine W.eq (g2 := F0 m 6 ls [.int r_8]) rfl ?_
  replace hP : va_P D classes [((Ma 6), .inl (tc 0, 95, .inl (Mf 6))), ((Ma 0), .inr (12, [.ref (Ma 1), .int (Mv 0), .int (Mv 1), .ref (Ma 2), .ref (Ma 3), .ref (Ma 4), .ref (Ma 5), .ref (Ma 6), .int sv_4, .int sv_5, .int sv_6, .int (Mv 5), .int (Mv 6), .int (Mv 7), .int (Mv 8), .ref (Ma 7), .int (Mv 9), .ref (Ma 8), .int (Mv 10), .ref (Ma 9), .ref (Ma 10), .int (Mv 11), .int (Mv 12), .int (Mv 13), .ref (Ma 11), .int (Mv 14), .ref (Ma 12), .ref (Ma 13), .ref (Ma 14), .ref (Ma 15), .ref (Ma 16), .long (Mj 0), .ref (Ma 17), .ref (Ma 18), .ref (Ma 19), .ref (Ma 20)])), ((Ma 1), .inl (tc 2, 400, .inl (Mf 1)))] H := hP₀
  replace hD : va_D A [((Ma 6), .inl (tc 0, 95, .inl (Mf 6))), ((Ma 0), .inr (12, [.ref (Ma 1), .int (Mv 0), .int (Mv 1), .ref (Ma 2), .ref (Ma 3), .ref (Ma 4), .ref (Ma 5), .ref (Ma 6), .int sv_4, .int sv_5, .int sv_6, .int (Mv 5), .int (Mv 6), .int (Mv 7), .int (Mv 8), .ref (Ma 7), .int (Mv 9), .ref (Ma 8), .int (Mv 10), .ref (Ma 9), .ref (Ma 10), .int (Mv 11), .int (Mv 12), .int (Mv 13), .ref (Ma 11), .int (Mv 14), .ref (Ma 12), .ref (Ma 13), .ref (Ma 14), .ref (Ma 15), .ref (Ma 16), .long (Mj 0), .ref (Ma 17), .ref (Ma 18), .ref (Ma 19), .ref (Ma 20)])), ((Ma 1), .inl (tc 2, 400, .inl (Mf 1)))] := hD₀
  replace hS := hS₀
  clear hP₀ hD₀ hS₀
  refine lv_if_ne (tgt := 11) hx hb dX12_cellHere_6 (by decide) (fun c_13 => ?_) (fun c_13 => ?_)
  · skip
    have hz_15 : (r_8 : Int32).toInt = 1 := by
      have z_1 : ¬ (r_8 : Int32).toInt = (0 : Int32).toInt := fun z => c_13 (Int32.toInt_inj.mp z)
      have y_0 : (0 : Int32).toInt = 0 := by decide
      omega
    obtain pf_14 := hm_11 hz_15
    have pf_14 : NmO (rB (Mf 1) (Mv 0)) x2.toInt x3.toInt (Mv 2) sv_6 sv_4 sv_5 := pf_14
    have ar_pf_14 := pf_14.2.2
    refine lv_aload_n hx hb dX12_cellHere_11 rfl (lv_at hl 0 rfl) ?_
    refine gf_X12_26 hx hb hts hown hK hP 1 rfl rfl dX12_cellHere_12 ?_
    refine lv_iload_n hx hb dX12_cellHere_15 rfl (lv_at hl 1 rfl) ?_
    refine lv_aload_n hx hb dX12_cellHere_16 rfl (lv_at hl 0 rfl) ?_
    refine gf_X12_112 hx hb hts hown hK hP 1 rfl rfl dX12_cellHere_17 ?_
    have hi_16 : vp_in x1 95 := by
      have z_1 : ¬ (r_8 : Int32).toInt = (0 : Int32).toInt := fun z => c_13 (Int32.toInt_inj.mp z)
      have y_0 : (0 : Int32).toInt = 0 := by decide
      refine vp_in_iff.mpr ⟨?_, ?_⟩ <;> omega
    refine st_int hx hb hK hP hD hS 0 0 rfl rfl hi_16 dX12_cellHere_20 (fun g_17 H locs eg_17 hP₀ hD₀ hS₀ => ?_)
    replace hP : va_P D classes [((Ma 6), .inl (tc 0, 95, .inl g_17)), ((Ma 0), .inr (12, [.ref (Ma 1), .int (Mv 0), .int (Mv 1), .ref (Ma 2), .ref (Ma 3), .ref (Ma 4), .ref (Ma 5), .ref (Ma 6), .int sv_4, .int sv_5, .int sv_6, .int (Mv 5), .int (Mv 6), .int (Mv 7), .int (Mv 8), .ref (Ma 7), .int (Mv 9), .ref (Ma 8), .int (Mv 10), .ref (Ma 9), .ref (Ma 10), .int (Mv 11), .int (Mv 12), .int (Mv 13), .ref (Ma 11), .int (Mv 14), .ref (Ma 12), .ref (Ma 13), .ref (Ma 14), .ref (Ma 15), .ref (Ma 16), .long (Mj 0), .ref (Ma 17), .ref (Ma 18), .ref (Ma 19), .ref (Ma 20)])), ((Ma 1), .inl (tc 2, 400, .inl (Mf 1)))] H := hP₀
    replace hD : va_D A [((Ma 6), .inl (tc 0, 95, .inl g_17)), ((Ma 0), .inr (12, [.ref (Ma 1), .int (Mv 0), .int (Mv 1), .ref (Ma 2), .ref (Ma 3), .ref (Ma 4), .ref (Ma 5), .ref (Ma 6), .int sv_4, .int sv_5, .int sv_6, .int (Mv 5), .int (Mv 6), .int (Mv 7), .int (Mv 8), .ref (Ma 7), .int (Mv 9), .ref (Ma 8), .int (Mv 10), .ref (Ma 9), .ref (Ma 10), .int (Mv 11), .int (Mv 12), .int (Mv 13), .ref (Ma 11), .int (Mv 14), .ref (Ma 12), .ref (Ma 13), .ref (Ma 14), .ref (Ma 15), .ref (Ma 16), .long (Mj 0), .ref (Ma 17), .ref (Ma 18), .ref (Ma 19), .ref (Ma 20)])), ((Ma 1), .inl (tc 2, 400, .inl (Mf 1)))] := hD₀
    replace hS := hS₀
    clear hP₀ hD₀ hS₀
    have pf_18 : RdC (Mf 6) g_17 x1 := RdC.up eg_17
    have ku_g_17 : (g_17 x1.toNatClampNeg).toInt = (sv_6 : Int32).toInt := upd_toInt_at eg_17
    refine lv_iconst (v := 1) hx hb dX12_cellHere_21 (by decide) ?_
    have hp_19 : (((1 : Int32).toInt = 0 ∧ ¬ (sv_5 : Int32).toInt = 0) ∨ ((1 : Int32).toInt = 1 ∧ x2.toInt ≤ (g_17 x1.toNatClampNeg).toInt ∧ (g_17 x1.toNatClampNeg).toInt ≤ x3.toInt ∧ (sv_5 : Int32).toInt = 0)) := by
      have z_1 : ¬ (r_8 : Int32).toInt = (0 : Int32).toInt := fun z => c_13 (Int32.toInt_inj.mp z)
      have y_0 : (0 : Int32).toInt = 0 := by decide
      have y_1 : (1 : Int32).toInt = 1 := by decide
      have yr : (1 : Int32).toInt = 1 := by decide
      omega
    have hm_20 : (1 : Int32).toInt = 1 → (NmO (rB (Mf 1) (Mv 0)) x2.toInt x3.toInt (Mv 2) (g_17 x1.toNatClampNeg) sv_4 sv_5) := by
      intro h1r
      have hf_21 : NmO (rB (Mf 1) (Mv 0)) x2.toInt x3.toInt (Mv 2) (g_17 x1.toNatClampNeg) sv_4 sv_5 := by
        rw [show g_17 x1.toNatClampNeg = sv_6 from by rw [eg_17, upd_at]]
        exact pf_14
      exact hf_21
    exact retI (v := 1) hx hb hr hlk (rfl) hP hD hS (sv_4, sv_5, sv_6, g_17) ⟨_, rfl, hp_19, pf_7, pf_18, hm_20, (fun h => absurd h (by decide))⟩ [1, 2, 0] rfl rfl dX12_cellHere_22 (Nat.le_of_ble_eq_true rfl) (Nat.le_of_ble_eq_true rfl) rfl
  · skip
    have hz_23 : (r_8 : Int32).toInt = 0 := by
      have z_1 := congrArg Int32.toInt c_13
      have y_0 : (0 : Int32).toInt = 0 := by decide
      omega
    obtain pf_22 := hm_12 hz_23
    have pf_22 : NmE (rB (Mf 1) (Mv 0)) x2.toInt x3.toInt (Mv 2) sv_5 := pf_22
    refine lv_iconst (v := 0) hx hb dX12_cellHere_9 (by decide) ?_
    have hp_24 : (((0 : Int32).toInt = 0 ∧ ¬ (sv_5 : Int32).toInt = 0) ∨ ((0 : Int32).toInt = 1 ∧ x2.toInt ≤ ((Mf 6) x1.toNatClampNeg).toInt ∧ ((Mf 6) x1.toNatClampNeg).toInt ≤ x3.toInt ∧ (sv_5 : Int32).toInt = 0)) := by
      have z_1 := congrArg Int32.toInt c_13
      have y_0 : (0 : Int32).toInt = 0 := by decide
      omega
    have hm_25 : (0 : Int32).toInt = 0 → (NmE (rB (Mf 1) (Mv 0)) x2.toInt x3.toInt (Mv 2) sv_5) := by
      intro h1r
      exact pf_22
    exact retI (v := 0) hx hb hr hlk (rfl) hP hD hS (sv_4, sv_5, sv_6, (Mf 6)) ⟨_, rfl, hp_24, pf_7, (RdC.rf), (fun h => absurd h (by decide)), hm_25⟩ [1, 2, 0] rfl rfl dX12_cellHere_10 (Nat.le_of_ble_eq_true rfl) (Nat.le_of_ble_eq_true rfl) rfl
set_option maxRecDepth 100000 in
theorem cu_fX12_cellHere (l : Launch) (D : va_G) (tc : Nat → ClassId) (sk : (Nat → Nat) × (Nat → Nat)) (Ma_0 : Nat) (Ma_1 : Nat) (Ma_2 : Nat) (Ma_3 : Nat) (Ma_4 : Nat) (Ma_5 : Nat) (Ma_6 : Nat) (Ma_7 : Nat) (Ma_8 : Nat) (Ma_9 : Nat) (Ma_10 : Nat) (Ma_11 : Nat) (Ma_12 : Nat) (Ma_13 : Nat) (Ma_14 : Nat) (Ma_15 : Nat) (Ma_16 : Nat) (Ma_17 : Nat) (Ma_18 : Nat) (Ma_19 : Nat) (Ma_20 : Nat) (Mv_0 : Int32) (Mv_1 : Int32) (Mv_2 : Int32) (Mv_3 : Int32) (Mv_4 : Int32) (Mv_5 : Int32) (Mv_6 : Int32) (Mv_7 : Int32) (Mv_8 : Int32) (Mv_9 : Int32) (Mv_10 : Int32) (Mv_11 : Int32) (Mv_12 : Int32) (Mv_13 : Int32) (Mv_14 : Int32) (Mf_1 : Nat → Int32) (Mf_6 : Nat → Int32) (Mj_0 : Int64) (x1 : Int32) (x2 : Int32) (x3 : Int32) (h_nx : 0 ≤ (Mv_2 : Int32).toInt ∧ (Mv_2 : Int32).toInt ≤ (Mv_0 : Int32).toInt ∧ (Mv_0 : Int32).toInt ≤ 400) (h_c : 0 ≤ x1.toInt ∧ x1.toInt < 95) (h_bs : ByS Mf_1) (h_w : (Mv_3 : Int32).toInt = 0) : Ct l yX12_cellHere cX12_cellHere 4 (some .boolean) { frames := 2, cells := 0, slots := 0, locals := 49 } D tc sk [.ref Ma_0, .int x1, .int x2, .int x3] [(Ma_0, .inr (12, [.ref Ma_1, .int Mv_0, .int Mv_1, .ref Ma_2, .ref Ma_3, .ref Ma_4, .ref Ma_5, .ref Ma_6, .int Mv_2, .int Mv_3, .int Mv_4, .int Mv_5, .int Mv_6, .int Mv_7, .int Mv_8, .ref Ma_7, .int Mv_9, .ref Ma_8, .int Mv_10, .ref Ma_9, .ref Ma_10, .int Mv_11, .int Mv_12, .int Mv_13, .ref Ma_11, .int Mv_14, .ref Ma_12, .ref Ma_13, .ref Ma_14, .ref Ma_15, .ref Ma_16, .long Mj_0, .ref Ma_17, .ref Ma_18, .ref Ma_19, .ref Ma_20])), (Ma_1, .inl (tc 2, 400, .inl Mf_1)), (Ma_6, .inl (tc 0, 95, .inl Mf_6))] (fun (v : Option Value) (u : (Int32) × (Int32) × (Int32) × (Nat → Int32)) => match u with | (oo0x1, oo0x2, oo0x3, oo0x4) => ∃ r : Int32, v = some (.int r) ∧ (((r.toInt = 0 ∧ ¬ (oo0x2 : Int32).toInt = 0) ∨ (r.toInt = 1 ∧ x2.toInt ≤ (oo0x4 x1.toNatClampNeg).toInt ∧ (oo0x4 x1.toNatClampNeg).toInt ≤ x3.toInt ∧ (oo0x2 : Int32).toInt = 0))) ∧ ((Mv_2 : Int32).toInt ≤ (oo0x1 : Int32).toInt ∧ (oo0x1 : Int32).toInt ≤ (Mv_0 : Int32).toInt) ∧ (RdC Mf_6 oo0x4 x1) ∧ (r.toInt = 1 → (NmO (rB Mf_1 Mv_0) x2.toInt x3.toInt Mv_2 (oo0x4 x1.toNatClampNeg) oo0x1 oo0x2)) ∧ (r.toInt = 0 → (NmE (rB Mf_1 Mv_0) x2.toInt x3.toInt Mv_2 oo0x2))) (fun (u : (Int32) × (Int32) × (Int32) × (Nat → Int32)) => match u with | (oo0x1, oo0x2, oo0x3, oo0x4) => [(Ma_0, .inr (12, [.ref Ma_1, .int Mv_0, .int Mv_1, .ref Ma_2, .ref Ma_3, .ref Ma_4, .ref Ma_5, .ref Ma_6, .int oo0x1, .int oo0x2, .int oo0x3, .int Mv_5, .int Mv_6, .int Mv_7, .int Mv_8, .ref Ma_7, .int Mv_9, .ref Ma_8, .int Mv_10, .ref Ma_9, .ref Ma_10, .int Mv_11, .int Mv_12, .int Mv_13, .ref Ma_11, .int Mv_14, .ref Ma_12, .ref Ma_13, .ref Ma_14, .ref Ma_15, .ref Ma_16, .long Mj_0, .ref Ma_17, .ref Ma_18, .ref Ma_19, .ref Ma_20])), (Ma_1, .inl (tc 2, 400, .inl Mf_1)), (Ma_6, .inl (tc 0, 95, .inl oo0x4))]) 0 0 :=
  ct_fX12_cellHere l D tc sk (fun k => ([Ma_0, Ma_1, Ma_2, Ma_3, Ma_4, Ma_5, Ma_6, Ma_7, Ma_8, Ma_9, Ma_10, Ma_11, Ma_12, Ma_13, Ma_14, Ma_15, Ma_16, Ma_17, Ma_18, Ma_19, Ma_20] : List (Nat)).getD k 0) (fun k => ([Mv_0, Mv_1, Mv_2, Mv_3, Mv_4, Mv_5, Mv_6, Mv_7, Mv_8, Mv_9, Mv_10, Mv_11, Mv_12, Mv_13, Mv_14] : List (Int32)).getD k 0) (fun k => ([(fun _ => 0), Mf_1, (fun _ => 0), (fun _ => 0), (fun _ => 0), (fun _ => 0), Mf_6] : List (Nat → Int32)).getD k (fun _ => 0)) (fun k => ([Mj_0] : List (Int64)).getD k 0) x1 x2 x3 h_nx h_c h_bs h_w
set_option maxHeartbeats 4000000 in
set_option maxRecDepth 100000 in
theorem ct_fX12_isBookWord (l : Launch) (D : va_G) (tc : Nat → ClassId) (sk : (Nat → Nat) × (Nat → Nat)) (Ma : Nat → Nat) (Mv : Nat → Int32) (Mf : Nat → Nat → Int32) (Mj : Nat → Int64) (h_nx : 0 ≤ ((Mv 2) : Int32).toInt ∧ ((Mv 2) : Int32).toInt ≤ ((Mv 0) : Int32).toInt ∧ ((Mv 0) : Int32).toInt ≤ 400) (h_bs : ByS (Mf 1)) (h_sk : SkR (rB (Mf 1) (Mv 0)) (Mv 2) (Mv 2)) : Ct l yX12_isBookWord cX12_isBookWord 1 (some .boolean) { frames := 2, cells := 0, slots := 0, locals := 46 } D tc sk [.ref (Ma 0)] [((Ma 0), .inr (12, [.ref (Ma 1), .int (Mv 0), .int (Mv 1), .ref (Ma 2), .ref (Ma 3), .ref (Ma 4), .ref (Ma 5), .ref (Ma 6), .int (Mv 2), .int (Mv 3), .int (Mv 4), .int (Mv 5), .int (Mv 6), .int (Mv 7), .int (Mv 8), .ref (Ma 7), .int (Mv 9), .ref (Ma 8), .int (Mv 10), .ref (Ma 9), .ref (Ma 10), .int (Mv 11), .int (Mv 12), .int (Mv 13), .ref (Ma 11), .int (Mv 14), .ref (Ma 12), .ref (Ma 13), .ref (Ma 14), .ref (Ma 15), .ref (Ma 16), .long (Mj 0), .ref (Ma 17), .ref (Ma 18), .ref (Ma 19), .ref (Ma 20)])), ((Ma 1), .inl (tc 2, 400, .inl (Mf 1)))] (fun (v : Option Value) (oo0x1 : Int32) => ∃ r : Int32, v = some (.int r) ∧ ((r.toInt = 0 ∨ r.toInt = 1)) ∧ (((Mv 2) : Int32).toInt ≤ (oo0x1 : Int32).toInt ∧ (oo0x1 : Int32).toInt ≤ ((Mv 0) : Int32).toInt) ∧ (SkR (rB (Mf 1) (Mv 0)) (Mv 2) oo0x1) ∧ (r.toInt = 1 → (BkN (rB (Mf 1) (Mv 0)) (Mv 2)) ∧ (LtH (rB (Mf 1) (Mv 0)) (Mv 2))) ∧ (r.toInt = 0 → (BkW (rB (Mf 1) (Mv 0)) (Mv 2) (-1)))) (fun (oo0x1 : Int32) => [((Ma 0), .inr (12, [.ref (Ma 1), .int (Mv 0), .int (Mv 1), .ref (Ma 2), .ref (Ma 3), .ref (Ma 4), .ref (Ma 5), .ref (Ma 6), .int oo0x1, .int (Mv 3), .int (Mv 4), .int (Mv 5), .int (Mv 6), .int (Mv 7), .int (Mv 8), .ref (Ma 7), .int (Mv 9), .ref (Ma 8), .int (Mv 10), .ref (Ma 9), .ref (Ma 10), .int (Mv 11), .int (Mv 12), .int (Mv 13), .ref (Ma 11), .int (Mv 14), .ref (Ma 12), .ref (Ma 13), .ref (Ma 14), .ref (Ma 15), .ref (Ma 16), .long (Mj 0), .ref (Ma 17), .ref (Ma 18), .ref (Ma 19), .ref (Ma 20)])), ((Ma 1), .inl (tc 2, 400, .inl (Mf 1)))]) 0 0 := by
  refine Ct.start (by decide) (Nat.le_of_ble_eq_true rfl) (fun p e s m below meth c A ls hx hb hr hlk hin hml hown hts hK hX hP hD hA hl hS => ?_)
  have hl : lv_has ls 1 [(0, .ref (Ma 0))] := hl
  refine lv_aload_n hx hb dX12_isBookWord_0 rfl (lv_at hl 0 rfl) ?_
  refine lv_ldc2 hx hb hown (hts _ k_1216) dX12_isBookWord_1 ?_
  refine cV (a := (Ma 0)) (As := [.long 1651470187]) (rest := []) (wr := []) ⟨hx, hb, hml, hown, hts⟩ hK hX hA (cu_fX12_isWord l D tc sk (Ma 0) (Ma 1) (Ma 2) (Ma 3) (Ma 4) (Ma 5) (Ma 6) (Ma 7) (Ma 8) (Ma 9) (Ma 10) (Ma 11) (Ma 12) (Ma 13) (Ma 14) (Ma 15) (Ma 16) (Ma 17) (Ma 18) (Ma 19) (Ma 20) (Mv 0) (Mv 1) (Mv 2) (Mv 3) (Mv 4) (Mv 5) (Mv 6) (Mv 7) (Mv 8) (Mv 9) (Mv 10) (Mv 11) (Mv 12) (Mv 13) (Mv 14) (Mf 1) (Mj 0) 1651470187 h_nx h_bs) k_1220 k_1217 k_1219 k_29 k_106 pl_X12_isWord ⟨Nat.le_of_ble_eq_true rfl, Nat.le_of_ble_eq_true rfl⟩ rfl rfl (va_recv hK hP (ci := 12) (q0 := 0) rfl rfl) hP hD hS [0, 1] [] rfl rfl rfl rfl rfl (by decide) rfl hl.1 rfl (Nat.le_of_ble_eq_true rfl) dX12_isBookWord_4 ⟨Nat.le_of_ble_eq_true rfl, Nat.le_of_ble_eq_true rfl⟩ (fun v_1 u_2 H locs hv_3 hP₀ hD₀ hS₀ => ?_)
  obtain ⟨sv_4, rfl⟩ : ∃ z, z = u_2 := ⟨_, rfl⟩
  obtain ⟨r_9, rfl, he_10, pf_5, pf_6, pf_7, pf_8, hm_12, hm_13⟩ := hv_3
  have he_10 : (r_9.toInt = 0 ∨ r_9.toInt = 1) := he_10
  have pf_5 : ((Mv 2) : Int32).toInt ≤ (sv_4 : Int32).toInt ∧ (sv_4 : Int32).toInt ≤ ((Mv 0) : Int32).toInt := pf_5
  have pf_6 : NSq (Mf 1) (Mv 0) sv_4 := pf_6
  have pf_7 : Stl (Mf 1) (Mv 0) (Mv 2) sv_4 := pf_7
  have pf_8 : SkR (rB (Mf 1) (Mv 0)) (Mv 2) sv_4 := pf_8
  refine W.eq (g2 := F0 m 7 ls [.int r_9]) rfl ?_
  replace hP : va_P D classes [((Ma 0), .inr (12, [.ref (Ma 1), .int (Mv 0), .int (Mv 1), .ref (Ma 2), .ref (Ma 3), .ref (Ma 4), .ref (Ma 5), .ref (Ma 6), .int sv_4, .int (Mv 3), .int (Mv 4), .int (Mv 5), .int (Mv 6), .int (Mv 7), .int (Mv 8), .ref (Ma 7), .int (Mv 9), .ref (Ma 8), .int (Mv 10), .ref (Ma 9), .ref (Ma 10), .int (Mv 11), .int (Mv 12), .int (Mv 13), .ref (Ma 11), .int (Mv 14), .ref (Ma 12), .ref (Ma 13), .ref (Ma 14), .ref (Ma 15), .ref (Ma 16), .long (Mj 0), .ref (Ma 17), .ref (Ma 18), .ref (Ma 19), .ref (Ma 20)])), ((Ma 1), .inl (tc 2, 400, .inl (Mf 1)))] H := hP₀
  replace hD : va_D A [((Ma 0), .inr (12, [.ref (Ma 1), .int (Mv 0), .int (Mv 1), .ref (Ma 2), .ref (Ma 3), .ref (Ma 4), .ref (Ma 5), .ref (Ma 6), .int sv_4, .int (Mv 3), .int (Mv 4), .int (Mv 5), .int (Mv 6), .int (Mv 7), .int (Mv 8), .ref (Ma 7), .int (Mv 9), .ref (Ma 8), .int (Mv 10), .ref (Ma 9), .ref (Ma 10), .int (Mv 11), .int (Mv 12), .int (Mv 13), .ref (Ma 11), .int (Mv 14), .ref (Ma 12), .ref (Ma 13), .ref (Ma 14), .ref (Ma 15), .ref (Ma 16), .long (Mj 0), .ref (Ma 17), .ref (Ma 18), .ref (Ma 19), .ref (Ma 20)])), ((Ma 1), .inl (tc 2, 400, .inl (Mf 1)))] := hD₀
  replace hS := hS₀
  clear hP₀ hD₀ hS₀
  have hE_14 := SkR.eqB h_sk pf_8
  refine lv_if_ne (tgt := 40) hx hb dX12_isBookWord_7 (by decide) (fun c_15 => ?_) (fun c_15 => ?_)
  · skip
    have hz_18 : (r_9 : Int32).toInt = 1 := by
      have z_1 : ¬ (r_9 : Int32).toInt = (0 : Int32).toInt := fun z => c_15 (Int32.toInt_inj.mp z)
      have y_0 : (0 : Int32).toInt = 0 := by decide
      omega
    obtain ⟨pf_16, pf_17⟩ := hm_12 hz_18
    have pf_16 : Ltr (Mf 1) (Mv 0) sv_4 := pf_16
    have ar_pf_16 := pf_16.1
    have at_pf_16 : 97 ≤ ((Mf 1) (sv_4 : Int32).toInt.toNat).toInt ∧ ((Mf 1) (sv_4 : Int32).toInt.toNat).toInt ≤ 122 := pf_16.2
    have pf_17 : PkW (rB (Mf 1) (Mv 0)) ((sv_4 : Int32).toInt.toNat) (1651470187 : Int64).toInt := pf_17
    refine lv_iconst (v := 1) hx hb dX12_isBookWord_40 (by decide) ?_
    refine lv_goto (tgt := 45) hx hb dX12_isBookWord_41 (by decide) ?_
    have hp_19 : ((1 : Int32).toInt = 0 ∨ (1 : Int32).toInt = 1) := by
      have z_1 : ¬ (r_9 : Int32).toInt = (0 : Int32).toInt := fun z => c_15 (Int32.toInt_inj.mp z)
      have y_0 : (0 : Int32).toInt = 0 := by decide
      have y_1 : (1 : Int32).toInt = 1 := by decide
      have yr : (1 : Int32).toInt = 1 := by decide
      omega
    have hm_20 : (1 : Int32).toInt = 1 → (BkN (rB (Mf 1) (Mv 0)) (Mv 2)) ∧ (LtH (rB (Mf 1) (Mv 0)) (Mv 2)) := by
      intro h1r
      have hw_21 : pz_wd (rB (Mf 1) (Mv 0)) (sv_4 : Int32).toInt.toNat pz_book = true := by
        have hq := pf_17
        rw [show (1651470187 : Int64).toInt = pz_pl pz_book by decide] at hq
        exact (PkW.wd (by decide) (by decide) (by decide)).mp hq
      have hq_22 : sv_4 = (Mv 2) := SkR.eq h_sk pf_8
      have hq_23 : (Mv 2) = (Mv 2) := rfl
      have hq_24 : sv_4 = (Mv 2) := hq_22.trans hq_23.symm
      have hk_25 : pz_wa (rB (Mf 1) (Mv 0)) (Mv 2).toInt.toNat pz_bws 0 = 0 := (bws_0 (hq_24 ▸ hw_21))
      have rg_26 := rB_rg (n := (Mv 0)) h_bs (sv_4 : Int32).toInt.toNat
      have hl_27 : 97 ≤ rB (Mf 1) (Mv 0) (sv_4 : Int32).toInt.toNat ∧ rB (Mf 1) (Mv 0) (sv_4 : Int32).toInt.toNat ≤ 122 := by
        have z_1 : ¬ (r_9 : Int32).toInt = (0 : Int32).toInt := fun z => c_15 (Int32.toInt_inj.mp z)
        have y_0 : (0 : Int32).toInt = 0 := by decide
        omega
      have hq_28 : sv_4 = (Mv 2) := SkR.eq h_sk pf_8
      have hr_29 : 0 ≤ (Mv 2).toInt := by
        have z_1 : ¬ (r_9 : Int32).toInt = (0 : Int32).toInt := fun z => c_15 (Int32.toInt_inj.mp z)
        have y_0 : (0 : Int32).toInt = 0 := by decide
        omega
      exact ⟨(fun z => absurd (hk_25.symm.trans z) (by decide)), ⟨hr_29, (hq_28 ▸ hl_27)⟩⟩
    exact retI (v := 1) hx hb hr hlk (rfl) hP hD hS sv_4 ⟨_, rfl, hp_19, pf_5, pf_8, hm_20, (fun h => absurd h (by decide))⟩ [0, 1] rfl rfl dX12_isBookWord_45 (Nat.le_of_ble_eq_true rfl) (Nat.le_of_ble_eq_true rfl) rfl
  · skip
    have hz_31 : (r_9 : Int32).toInt = 0 := by
      have z_1 := congrArg Int32.toInt c_15
      have y_0 : (0 : Int32).toInt = 0 := by decide
      omega
    obtain pf_30 := hm_13 hz_31
    have pf_30 : NPk (rB (Mf 1) (Mv 0)) ((sv_4 : Int32).toInt.toNat) (1651470187 : Int64).toInt := pf_30
    refine lv_aload_n hx hb dX12_isBookWord_10 rfl (lv_at hl 0 rfl) ?_
    refine lv_ldc2 hx hb hown (hts _ k_1225) dX12_isBookWord_11 ?_
    have ha_32 : 0 ≤ (sv_4 : Int32).toInt ∧ (sv_4 : Int32).toInt ≤ ((Mv 0) : Int32).toInt ∧ ((Mv 0) : Int32).toInt ≤ 400 := by
      have z_1 := congrArg Int32.toInt c_15
      have y_0 : (0 : Int32).toInt = 0 := by decide
      omega
    refine cV (a := (Ma 0)) (As := [.long 7564153]) (rest := []) (wr := []) ⟨hx, hb, hml, hown, hts⟩ hK hX hA (cu_fX12_isWord l D tc sk (Ma 0) (Ma 1) (Ma 2) (Ma 3) (Ma 4) (Ma 5) (Ma 6) (Ma 7) (Ma 8) (Ma 9) (Ma 10) (Ma 11) (Ma 12) (Ma 13) (Ma 14) (Ma 15) (Ma 16) (Ma 17) (Ma 18) (Ma 19) (Ma 20) (Mv 0) (Mv 1) sv_4 (Mv 3) (Mv 4) (Mv 5) (Mv 6) (Mv 7) (Mv 8) (Mv 9) (Mv 10) (Mv 11) (Mv 12) (Mv 13) (Mv 14) (Mf 1) (Mj 0) 7564153 ha_32 h_bs) k_1220 k_1217 k_1219 k_29 k_106 pl_X12_isWord ⟨Nat.le_of_ble_eq_true rfl, Nat.le_of_ble_eq_true rfl⟩ rfl rfl (va_recv hK hP (ci := 12) (q0 := 0) rfl rfl) hP hD hS [0, 1] [] rfl rfl rfl rfl rfl (by decide) rfl hl.1 rfl (Nat.le_of_ble_eq_true rfl) dX12_isBookWord_14 ⟨Nat.le_of_ble_eq_true rfl, Nat.le_of_ble_eq_true rfl⟩ (fun v_33 u_34 H locs hv_35 hP₀ hD₀ hS₀ => ?_)
    obtain ⟨sv_36, rfl⟩ : ∃ z, z = u_34 := ⟨_, rfl⟩
    obtain ⟨r_41, rfl, he_42, pf_37, pf_38, pf_39, pf_40, hm_44, hm_45⟩ := hv_35
    have he_42 : (r_41.toInt = 0 ∨ r_41.toInt = 1) := he_42
    have pf_37 : (sv_4 : Int32).toInt ≤ (sv_36 : Int32).toInt ∧ (sv_36 : Int32).toInt ≤ ((Mv 0) : Int32).toInt := pf_37
    have pf_38 : NSq (Mf 1) (Mv 0) sv_36 := pf_38
    have pf_39 : Stl (Mf 1) (Mv 0) sv_4 sv_36 := pf_39
    have ar_pf_39 := Stl.or pf_39 pf_6
    have pf_40 : SkR (rB (Mf 1) (Mv 0)) sv_4 sv_36 := pf_40
    refine W.eq (g2 := F0 m 17 ls [.int r_41]) rfl ?_
    replace hP : va_P D classes [((Ma 0), .inr (12, [.ref (Ma 1), .int (Mv 0), .int (Mv 1), .ref (Ma 2), .ref (Ma 3), .ref (Ma 4), .ref (Ma 5), .ref (Ma 6), .int sv_36, .int (Mv 3), .int (Mv 4), .int (Mv 5), .int (Mv 6), .int (Mv 7), .int (Mv 8), .ref (Ma 7), .int (Mv 9), .ref (Ma 8), .int (Mv 10), .ref (Ma 9), .ref (Ma 10), .int (Mv 11), .int (Mv 12), .int (Mv 13), .ref (Ma 11), .int (Mv 14), .ref (Ma 12), .ref (Ma 13), .ref (Ma 14), .ref (Ma 15), .ref (Ma 16), .long (Mj 0), .ref (Ma 17), .ref (Ma 18), .ref (Ma 19), .ref (Ma 20)])), ((Ma 1), .inl (tc 2, 400, .inl (Mf 1)))] H := hP₀
    replace hD : va_D A [((Ma 0), .inr (12, [.ref (Ma 1), .int (Mv 0), .int (Mv 1), .ref (Ma 2), .ref (Ma 3), .ref (Ma 4), .ref (Ma 5), .ref (Ma 6), .int sv_36, .int (Mv 3), .int (Mv 4), .int (Mv 5), .int (Mv 6), .int (Mv 7), .int (Mv 8), .ref (Ma 7), .int (Mv 9), .ref (Ma 8), .int (Mv 10), .ref (Ma 9), .ref (Ma 10), .int (Mv 11), .int (Mv 12), .int (Mv 13), .ref (Ma 11), .int (Mv 14), .ref (Ma 12), .ref (Ma 13), .ref (Ma 14), .ref (Ma 15), .ref (Ma 16), .long (Mj 0), .ref (Ma 17), .ref (Ma 18), .ref (Ma 19), .ref (Ma 20)])), ((Ma 1), .inl (tc 2, 400, .inl (Mf 1)))] := hD₀
    replace hS := hS₀
    clear hP₀ hD₀ hS₀
    have hE_46 := SkR.eqB pf_8 pf_40
    refine lv_if_ne (tgt := 40) hx hb dX12_isBookWord_17 (by decide) (fun c_47 => ?_) (fun c_47 => ?_)
    · skip
      have hz_50 : (r_41 : Int32).toInt = 1 := by
        have z_1 := congrArg Int32.toInt c_15
        have z_2 : ¬ (r_41 : Int32).toInt = (0 : Int32).toInt := fun z => c_47 (Int32.toInt_inj.mp z)
        have y_0 : (0 : Int32).toInt = 0 := by decide
        omega
      obtain ⟨pf_48, pf_49⟩ := hm_44 hz_50
      have pf_48 : Ltr (Mf 1) (Mv 0) sv_36 := pf_48
      have ar_pf_48 := pf_48.1
      have at_pf_48 : 97 ≤ ((Mf 1) (sv_36 : Int32).toInt.toNat).toInt ∧ ((Mf 1) (sv_36 : Int32).toInt.toNat).toInt ≤ 122 := pf_48.2
      have pf_49 : PkW (rB (Mf 1) (Mv 0)) ((sv_36 : Int32).toInt.toNat) (7564153 : Int64).toInt := pf_49
      refine lv_iconst (v := 1) hx hb dX12_isBookWord_40 (by decide) ?_
      refine lv_goto (tgt := 45) hx hb dX12_isBookWord_41 (by decide) ?_
      have ha_51 : ((Mv 2) : Int32).toInt ≤ (sv_36 : Int32).toInt ∧ (sv_36 : Int32).toInt ≤ ((Mv 0) : Int32).toInt := by
        have z_1 := congrArg Int32.toInt c_15
        have z_2 : ¬ (r_41 : Int32).toInt = (0 : Int32).toInt := fun z => c_47 (Int32.toInt_inj.mp z)
        have y_0 : (0 : Int32).toInt = 0 := by decide
        omega
      have hs_52 : SkR (rB (Mf 1) (Mv 0)) (Mv 2) sv_36 := (SkR.trans pf_8 pf_40)
      have hp_53 : ((1 : Int32).toInt = 0 ∨ (1 : Int32).toInt = 1) := by
        have z_1 := congrArg Int32.toInt c_15
        have z_2 : ¬ (r_41 : Int32).toInt = (0 : Int32).toInt := fun z => c_47 (Int32.toInt_inj.mp z)
        have y_0 : (0 : Int32).toInt = 0 := by decide
        have y_1 : (1 : Int32).toInt = 1 := by decide
        have yr : (1 : Int32).toInt = 1 := by decide
        omega
      have hm_54 : (1 : Int32).toInt = 1 → (BkN (rB (Mf 1) (Mv 0)) (Mv 2)) ∧ (LtH (rB (Mf 1) (Mv 0)) (Mv 2)) := by
        intro h1r
        have hw_55 : ¬ pz_wd (rB (Mf 1) (Mv 0)) (sv_4 : Int32).toInt.toNat pz_book = true := by
          have hq := pf_30
          rw [show (1651470187 : Int64).toInt = pz_pl pz_book by decide] at hq
          exact fun z => hq ((PkW.wd (by decide) (by decide) (by decide)).mpr z)
        have hq_56 : sv_4 = (Mv 2) := SkR.eq h_sk pf_8
        have hq_57 : (Mv 2) = (Mv 2) := rfl
        have hq_58 : sv_4 = (Mv 2) := hq_56.trans hq_57.symm
        have hw_59 : pz_wd (rB (Mf 1) (Mv 0)) (sv_36 : Int32).toInt.toNat pz_sky = true := by
          have hq := pf_49
          rw [show (7564153 : Int64).toInt = pz_pl pz_sky by decide] at hq
          exact (PkW.wd (by decide) (by decide) (by decide)).mp hq
        have hq_60 : sv_36 = (Mv 2) := SkR.eq h_sk hs_52
        have hq_61 : (Mv 2) = (Mv 2) := rfl
        have hq_62 : sv_36 = (Mv 2) := hq_60.trans hq_61.symm
        have hk_63 : pz_wa (rB (Mf 1) (Mv 0)) (Mv 2).toInt.toNat pz_bws 0 = 1 := (bws_1 (hq_58 ▸ hw_55) (hq_62 ▸ hw_59))
        have rg_64 := rB_rg (n := (Mv 0)) h_bs (sv_36 : Int32).toInt.toNat
        have hl_65 : 97 ≤ rB (Mf 1) (Mv 0) (sv_36 : Int32).toInt.toNat ∧ rB (Mf 1) (Mv 0) (sv_36 : Int32).toInt.toNat ≤ 122 := by
          have z_1 := congrArg Int32.toInt c_15
          have z_2 : ¬ (r_41 : Int32).toInt = (0 : Int32).toInt := fun z => c_47 (Int32.toInt_inj.mp z)
          have y_0 : (0 : Int32).toInt = 0 := by decide
          omega
        have hq_66 : sv_36 = (Mv 2) := SkR.eq h_sk hs_52
        have hr_67 : 0 ≤ (Mv 2).toInt := by
          have z_1 := congrArg Int32.toInt c_15
          have z_2 : ¬ (r_41 : Int32).toInt = (0 : Int32).toInt := fun z => c_47 (Int32.toInt_inj.mp z)
          have y_0 : (0 : Int32).toInt = 0 := by decide
          omega
        exact ⟨(fun z => absurd (hk_63.symm.trans z) (by decide)), ⟨hr_67, (hq_66 ▸ hl_65)⟩⟩
      exact retI (v := 1) hx hb hr hlk (rfl) hP hD hS sv_36 ⟨_, rfl, hp_53, ha_51, hs_52, hm_54, (fun h => absurd h (by decide))⟩ [0, 1] rfl rfl dX12_isBookWord_45 (Nat.le_of_ble_eq_true rfl) (Nat.le_of_ble_eq_true rfl) rfl
    · skip
      have hz_69 : (r_41 : Int32).toInt = 0 := by
        have z_1 := congrArg Int32.toInt c_15
        have z_2 := congrArg Int32.toInt c_47
        have y_0 : (0 : Int32).toInt = 0 := by decide
        omega
      obtain pf_68 := hm_45 hz_69
      have pf_68 : NPk (rB (Mf 1) (Mv 0)) ((sv_36 : Int32).toInt.toNat) (7564153 : Int64).toInt := pf_68
      refine lv_aload_n hx hb dX12_isBookWord_20 rfl (lv_at hl 0 rfl) ?_
      refine lv_ldc2 hx hb hown (hts _ k_1226) dX12_isBookWord_21 ?_
      have ha_70 : 0 ≤ (sv_36 : Int32).toInt ∧ (sv_36 : Int32).toInt ≤ ((Mv 0) : Int32).toInt ∧ ((Mv 0) : Int32).toInt ≤ 400 := by
        have z_1 := congrArg Int32.toInt c_15
        have z_2 := congrArg Int32.toInt c_47
        have y_0 : (0 : Int32).toInt = 0 := by decide
        omega
      refine cV (a := (Ma 0)) (As := [.long 422877685106]) (rest := []) (wr := []) ⟨hx, hb, hml, hown, hts⟩ hK hX hA (cu_fX12_isWord l D tc sk (Ma 0) (Ma 1) (Ma 2) (Ma 3) (Ma 4) (Ma 5) (Ma 6) (Ma 7) (Ma 8) (Ma 9) (Ma 10) (Ma 11) (Ma 12) (Ma 13) (Ma 14) (Ma 15) (Ma 16) (Ma 17) (Ma 18) (Ma 19) (Ma 20) (Mv 0) (Mv 1) sv_36 (Mv 3) (Mv 4) (Mv 5) (Mv 6) (Mv 7) (Mv 8) (Mv 9) (Mv 10) (Mv 11) (Mv 12) (Mv 13) (Mv 14) (Mf 1) (Mj 0) 422877685106 ha_70 h_bs) k_1220 k_1217 k_1219 k_29 k_106 pl_X12_isWord ⟨Nat.le_of_ble_eq_true rfl, Nat.le_of_ble_eq_true rfl⟩ rfl rfl (va_recv hK hP (ci := 12) (q0 := 0) rfl rfl) hP hD hS [0, 1] [] rfl rfl rfl rfl rfl (by decide) rfl hl.1 rfl (Nat.le_of_ble_eq_true rfl) dX12_isBookWord_24 ⟨Nat.le_of_ble_eq_true rfl, Nat.le_of_ble_eq_true rfl⟩ (fun v_71 u_72 H locs hv_73 hP₀ hD₀ hS₀ => ?_)
      obtain ⟨sv_74, rfl⟩ : ∃ z, z = u_72 := ⟨_, rfl⟩
      obtain ⟨r_79, rfl, he_80, pf_75, pf_76, pf_77, pf_78, hm_82, hm_83⟩ := hv_73
      have he_80 : (r_79.toInt = 0 ∨ r_79.toInt = 1) := he_80
      have pf_75 : (sv_36 : Int32).toInt ≤ (sv_74 : Int32).toInt ∧ (sv_74 : Int32).toInt ≤ ((Mv 0) : Int32).toInt := pf_75
      have pf_76 : NSq (Mf 1) (Mv 0) sv_74 := pf_76
      have pf_77 : Stl (Mf 1) (Mv 0) sv_36 sv_74 := pf_77
      have ar_pf_77 := Stl.or pf_77 pf_38
      have pf_78 : SkR (rB (Mf 1) (Mv 0)) sv_36 sv_74 := pf_78
      refine W.eq (g2 := F0 m 27 ls [.int r_79]) rfl ?_
      replace hP : va_P D classes [((Ma 0), .inr (12, [.ref (Ma 1), .int (Mv 0), .int (Mv 1), .ref (Ma 2), .ref (Ma 3), .ref (Ma 4), .ref (Ma 5), .ref (Ma 6), .int sv_74, .int (Mv 3), .int (Mv 4), .int (Mv 5), .int (Mv 6), .int (Mv 7), .int (Mv 8), .ref (Ma 7), .int (Mv 9), .ref (Ma 8), .int (Mv 10), .ref (Ma 9), .ref (Ma 10), .int (Mv 11), .int (Mv 12), .int (Mv 13), .ref (Ma 11), .int (Mv 14), .ref (Ma 12), .ref (Ma 13), .ref (Ma 14), .ref (Ma 15), .ref (Ma 16), .long (Mj 0), .ref (Ma 17), .ref (Ma 18), .ref (Ma 19), .ref (Ma 20)])), ((Ma 1), .inl (tc 2, 400, .inl (Mf 1)))] H := hP₀
      replace hD : va_D A [((Ma 0), .inr (12, [.ref (Ma 1), .int (Mv 0), .int (Mv 1), .ref (Ma 2), .ref (Ma 3), .ref (Ma 4), .ref (Ma 5), .ref (Ma 6), .int sv_74, .int (Mv 3), .int (Mv 4), .int (Mv 5), .int (Mv 6), .int (Mv 7), .int (Mv 8), .ref (Ma 7), .int (Mv 9), .ref (Ma 8), .int (Mv 10), .ref (Ma 9), .ref (Ma 10), .int (Mv 11), .int (Mv 12), .int (Mv 13), .ref (Ma 11), .int (Mv 14), .ref (Ma 12), .ref (Ma 13), .ref (Ma 14), .ref (Ma 15), .ref (Ma 16), .long (Mj 0), .ref (Ma 17), .ref (Ma 18), .ref (Ma 19), .ref (Ma 20)])), ((Ma 1), .inl (tc 2, 400, .inl (Mf 1)))] := hD₀
      replace hS := hS₀
      clear hP₀ hD₀ hS₀
      have hE_84 := SkR.eqB pf_40 pf_78
      refine lv_if_ne (tgt := 40) hx hb dX12_isBookWord_27 (by decide) (fun c_85 => ?_) (fun c_85 => ?_)
      · skip
        have hz_88 : (r_79 : Int32).toInt = 1 := by
          have z_1 := congrArg Int32.toInt c_15
          have z_2 := congrArg Int32.toInt c_47
          have z_3 : ¬ (r_79 : Int32).toInt = (0 : Int32).toInt := fun z => c_85 (Int32.toInt_inj.mp z)
          have y_0 : (0 : Int32).toInt = 0 := by decide
          omega
        obtain ⟨pf_86, pf_87⟩ := hm_82 hz_88
        have pf_86 : Ltr (Mf 1) (Mv 0) sv_74 := pf_86
        have ar_pf_86 := pf_86.1
        have at_pf_86 : 97 ≤ ((Mf 1) (sv_74 : Int32).toInt.toNat).toInt ∧ ((Mf 1) (sv_74 : Int32).toInt.toNat).toInt ≤ 122 := pf_86.2
        have pf_87 : PkW (rB (Mf 1) (Mv 0)) ((sv_74 : Int32).toInt.toNat) (422877685106 : Int64).toInt := pf_87
        refine lv_iconst (v := 1) hx hb dX12_isBookWord_40 (by decide) ?_
        refine lv_goto (tgt := 45) hx hb dX12_isBookWord_41 (by decide) ?_
        have ha_89 : ((Mv 2) : Int32).toInt ≤ (sv_74 : Int32).toInt ∧ (sv_74 : Int32).toInt ≤ ((Mv 0) : Int32).toInt := by
          have z_1 := congrArg Int32.toInt c_15
          have z_2 := congrArg Int32.toInt c_47
          have z_3 : ¬ (r_79 : Int32).toInt = (0 : Int32).toInt := fun z => c_85 (Int32.toInt_inj.mp z)
          have y_0 : (0 : Int32).toInt = 0 := by decide
          omega
        have hs_90 : SkR (rB (Mf 1) (Mv 0)) (Mv 2) sv_74 := (SkR.trans (SkR.trans pf_8 pf_40) pf_78)
        have hp_91 : ((1 : Int32).toInt = 0 ∨ (1 : Int32).toInt = 1) := by
          have z_1 := congrArg Int32.toInt c_15
          have z_2 := congrArg Int32.toInt c_47
          have z_3 : ¬ (r_79 : Int32).toInt = (0 : Int32).toInt := fun z => c_85 (Int32.toInt_inj.mp z)
          have y_0 : (0 : Int32).toInt = 0 := by decide
          have y_1 : (1 : Int32).toInt = 1 := by decide
          have yr : (1 : Int32).toInt = 1 := by decide
          omega
        have hm_92 : (1 : Int32).toInt = 1 → (BkN (rB (Mf 1) (Mv 0)) (Mv 2)) ∧ (LtH (rB (Mf 1) (Mv 0)) (Mv 2)) := by
          intro h1r
          have hw_93 : ¬ pz_wd (rB (Mf 1) (Mv 0)) (sv_4 : Int32).toInt.toNat pz_book = true := by
            have hq := pf_30
            rw [show (1651470187 : Int64).toInt = pz_pl pz_book by decide] at hq
            exact fun z => hq ((PkW.wd (by decide) (by decide) (by decide)).mpr z)
          have hq_94 : sv_4 = (Mv 2) := SkR.eq h_sk pf_8
          have hq_95 : (Mv 2) = (Mv 2) := rfl
          have hq_96 : sv_4 = (Mv 2) := hq_94.trans hq_95.symm
          have hw_97 : ¬ pz_wd (rB (Mf 1) (Mv 0)) (sv_36 : Int32).toInt.toNat pz_sky = true := by
            have hq := pf_68
            rw [show (7564153 : Int64).toInt = pz_pl pz_sky by decide] at hq
            exact fun z => hq ((PkW.wd (by decide) (by decide) (by decide)).mpr z)
          have hq_98 : sv_36 = (Mv 2) := SkR.eq h_sk (SkR.trans pf_8 pf_40)
          have hq_99 : (Mv 2) = (Mv 2) := rfl
          have hq_100 : sv_36 = (Mv 2) := hq_98.trans hq_99.symm
          have hw_101 : pz_wd (rB (Mf 1) (Mv 0)) (sv_74 : Int32).toInt.toNat pz_buyer = true := by
            have hq := pf_87
            rw [show (422877685106 : Int64).toInt = pz_pl pz_buyer by decide] at hq
            exact (PkW.wd (by decide) (by decide) (by decide)).mp hq
          have hq_102 : sv_74 = (Mv 2) := SkR.eq h_sk hs_90
          have hq_103 : (Mv 2) = (Mv 2) := rfl
          have hq_104 : sv_74 = (Mv 2) := hq_102.trans hq_103.symm
          have hk_105 : pz_wa (rB (Mf 1) (Mv 0)) (Mv 2).toInt.toNat pz_bws 0 = 2 := (bws_2 (hq_96 ▸ hw_93) (hq_100 ▸ hw_97) (hq_104 ▸ hw_101))
          have rg_106 := rB_rg (n := (Mv 0)) h_bs (sv_74 : Int32).toInt.toNat
          have hl_107 : 97 ≤ rB (Mf 1) (Mv 0) (sv_74 : Int32).toInt.toNat ∧ rB (Mf 1) (Mv 0) (sv_74 : Int32).toInt.toNat ≤ 122 := by
            have z_1 := congrArg Int32.toInt c_15
            have z_2 := congrArg Int32.toInt c_47
            have z_3 : ¬ (r_79 : Int32).toInt = (0 : Int32).toInt := fun z => c_85 (Int32.toInt_inj.mp z)
            have y_0 : (0 : Int32).toInt = 0 := by decide
            omega
          have hq_108 : sv_74 = (Mv 2) := SkR.eq h_sk hs_90
          have hr_109 : 0 ≤ (Mv 2).toInt := by
            have z_1 := congrArg Int32.toInt c_15
            have z_2 := congrArg Int32.toInt c_47
            have z_3 : ¬ (r_79 : Int32).toInt = (0 : Int32).toInt := fun z => c_85 (Int32.toInt_inj.mp z)
            have y_0 : (0 : Int32).toInt = 0 := by decide
            omega
          exact ⟨(fun z => absurd (hk_105.symm.trans z) (by decide)), ⟨hr_109, (hq_108 ▸ hl_107)⟩⟩
        exact retI (v := 1) hx hb hr hlk (rfl) hP hD hS sv_74 ⟨_, rfl, hp_91, ha_89, hs_90, hm_92, (fun h => absurd h (by decide))⟩ [0, 1] rfl rfl dX12_isBookWord_45 (Nat.le_of_ble_eq_true rfl) (Nat.le_of_ble_eq_true rfl) rfl
      · skip
        have hz_111 : (r_79 : Int32).toInt = 0 := by
          have z_1 := congrArg Int32.toInt c_15
          have z_2 := congrArg Int32.toInt c_47
          have z_3 := congrArg Int32.toInt c_85
          have y_0 : (0 : Int32).toInt = 0 := by decide
          omega
        obtain pf_110 := hm_83 hz_111
        have pf_110 : NPk (rB (Mf 1) (Mv 0)) ((sv_74 : Int32).toInt.toNat) (422877685106 : Int64).toInt := pf_110
        refine lv_aload_n hx hb dX12_isBookWord_30 rfl (lv_at hl 0 rfl) ?_
        refine lv_ldc2 hx hb hown (hts _ k_1227) dX12_isBookWord_31 ?_
        have ha_112 : 0 ≤ (sv_74 : Int32).toInt ∧ (sv_74 : Int32).toInt ≤ ((Mv 0) : Int32).toInt ∧ ((Mv 0) : Int32).toInt ≤ 400 := by
          have z_1 := congrArg Int32.toInt c_15
          have z_2 := congrArg Int32.toInt c_47
          have z_3 := congrArg Int32.toInt c_85
          have y_0 : (0 : Int32).toInt = 0 := by decide
          omega
        refine cV (a := (Ma 0)) (As := [.long 512736125800]) (rest := []) (wr := []) ⟨hx, hb, hml, hown, hts⟩ hK hX hA (cu_fX12_isWord l D tc sk (Ma 0) (Ma 1) (Ma 2) (Ma 3) (Ma 4) (Ma 5) (Ma 6) (Ma 7) (Ma 8) (Ma 9) (Ma 10) (Ma 11) (Ma 12) (Ma 13) (Ma 14) (Ma 15) (Ma 16) (Ma 17) (Ma 18) (Ma 19) (Ma 20) (Mv 0) (Mv 1) sv_74 (Mv 3) (Mv 4) (Mv 5) (Mv 6) (Mv 7) (Mv 8) (Mv 9) (Mv 10) (Mv 11) (Mv 12) (Mv 13) (Mv 14) (Mf 1) (Mj 0) 512736125800 ha_112 h_bs) k_1220 k_1217 k_1219 k_29 k_106 pl_X12_isWord ⟨Nat.le_of_ble_eq_true rfl, Nat.le_of_ble_eq_true rfl⟩ rfl rfl (va_recv hK hP (ci := 12) (q0 := 0) rfl rfl) hP hD hS [0, 1] [] rfl rfl rfl rfl rfl (by decide) rfl hl.1 rfl (Nat.le_of_ble_eq_true rfl) dX12_isBookWord_34 ⟨Nat.le_of_ble_eq_true rfl, Nat.le_of_ble_eq_true rfl⟩ (fun v_113 u_114 H locs hv_115 hP₀ hD₀ hS₀ => ?_)
        obtain ⟨sv_116, rfl⟩ : ∃ z, z = u_114 := ⟨_, rfl⟩
        obtain ⟨r_121, rfl, he_122, pf_117, pf_118, pf_119, pf_120, hm_124, hm_125⟩ := hv_115
        have he_122 : (r_121.toInt = 0 ∨ r_121.toInt = 1) := he_122
        have pf_117 : (sv_74 : Int32).toInt ≤ (sv_116 : Int32).toInt ∧ (sv_116 : Int32).toInt ≤ ((Mv 0) : Int32).toInt := pf_117
        have pf_118 : NSq (Mf 1) (Mv 0) sv_116 := pf_118
        have pf_119 : Stl (Mf 1) (Mv 0) sv_74 sv_116 := pf_119
        have ar_pf_119 := Stl.or pf_119 pf_76
        have pf_120 : SkR (rB (Mf 1) (Mv 0)) sv_74 sv_116 := pf_120
        refine W.eq (g2 := F0 m 37 ls [.int r_121]) rfl ?_
        replace hP : va_P D classes [((Ma 0), .inr (12, [.ref (Ma 1), .int (Mv 0), .int (Mv 1), .ref (Ma 2), .ref (Ma 3), .ref (Ma 4), .ref (Ma 5), .ref (Ma 6), .int sv_116, .int (Mv 3), .int (Mv 4), .int (Mv 5), .int (Mv 6), .int (Mv 7), .int (Mv 8), .ref (Ma 7), .int (Mv 9), .ref (Ma 8), .int (Mv 10), .ref (Ma 9), .ref (Ma 10), .int (Mv 11), .int (Mv 12), .int (Mv 13), .ref (Ma 11), .int (Mv 14), .ref (Ma 12), .ref (Ma 13), .ref (Ma 14), .ref (Ma 15), .ref (Ma 16), .long (Mj 0), .ref (Ma 17), .ref (Ma 18), .ref (Ma 19), .ref (Ma 20)])), ((Ma 1), .inl (tc 2, 400, .inl (Mf 1)))] H := hP₀
        replace hD : va_D A [((Ma 0), .inr (12, [.ref (Ma 1), .int (Mv 0), .int (Mv 1), .ref (Ma 2), .ref (Ma 3), .ref (Ma 4), .ref (Ma 5), .ref (Ma 6), .int sv_116, .int (Mv 3), .int (Mv 4), .int (Mv 5), .int (Mv 6), .int (Mv 7), .int (Mv 8), .ref (Ma 7), .int (Mv 9), .ref (Ma 8), .int (Mv 10), .ref (Ma 9), .ref (Ma 10), .int (Mv 11), .int (Mv 12), .int (Mv 13), .ref (Ma 11), .int (Mv 14), .ref (Ma 12), .ref (Ma 13), .ref (Ma 14), .ref (Ma 15), .ref (Ma 16), .long (Mj 0), .ref (Ma 17), .ref (Ma 18), .ref (Ma 19), .ref (Ma 20)])), ((Ma 1), .inl (tc 2, 400, .inl (Mf 1)))] := hD₀
        replace hS := hS₀
        clear hP₀ hD₀ hS₀
        have hE_126 := SkR.eqB pf_78 pf_120
        refine lv_if_eq (tgt := 44) hx hb dX12_isBookWord_37 (by decide) (fun c_127 => ?_) (fun c_127 => ?_)
        · skip
          have hz_129 : (r_121 : Int32).toInt = 0 := by
            have z_1 := congrArg Int32.toInt c_15
            have z_2 := congrArg Int32.toInt c_47
            have z_3 := congrArg Int32.toInt c_85
            have z_4 := congrArg Int32.toInt c_127
            have y_0 : (0 : Int32).toInt = 0 := by decide
            omega
          obtain pf_128 := hm_125 hz_129
          have pf_128 : NPk (rB (Mf 1) (Mv 0)) ((sv_116 : Int32).toInt.toNat) (512736125800 : Int64).toInt := pf_128
          refine lv_iconst (v := 0) hx hb dX12_isBookWord_44 (by decide) ?_
          have ha_130 : ((Mv 2) : Int32).toInt ≤ (sv_116 : Int32).toInt ∧ (sv_116 : Int32).toInt ≤ ((Mv 0) : Int32).toInt := by
            have z_1 := congrArg Int32.toInt c_15
            have z_2 := congrArg Int32.toInt c_47
            have z_3 := congrArg Int32.toInt c_85
            have z_4 := congrArg Int32.toInt c_127
            have y_0 : (0 : Int32).toInt = 0 := by decide
            omega
          have hs_131 : SkR (rB (Mf 1) (Mv 0)) (Mv 2) sv_116 := (SkR.trans (SkR.trans (SkR.trans pf_8 pf_40) pf_78) pf_120)
          have hp_132 : ((0 : Int32).toInt = 0 ∨ (0 : Int32).toInt = 1) := by
            have z_1 := congrArg Int32.toInt c_15
            have z_2 := congrArg Int32.toInt c_47
            have z_3 := congrArg Int32.toInt c_85
            have z_4 := congrArg Int32.toInt c_127
            have y_0 : (0 : Int32).toInt = 0 := by decide
            omega
          have hm_133 : (0 : Int32).toInt = 0 → (BkW (rB (Mf 1) (Mv 0)) (Mv 2) (-1)) := by
            intro h1r
            have hw_134 : ¬ pz_wd (rB (Mf 1) (Mv 0)) (sv_4 : Int32).toInt.toNat pz_book = true := by
              have hq := pf_30
              rw [show (1651470187 : Int64).toInt = pz_pl pz_book by decide] at hq
              exact fun z => hq ((PkW.wd (by decide) (by decide) (by decide)).mpr z)
            have hq_135 : sv_4 = (Mv 2) := SkR.eq h_sk pf_8
            have hq_136 : (Mv 2) = (Mv 2) := rfl
            have hq_137 : sv_4 = (Mv 2) := hq_135.trans hq_136.symm
            have hw_138 : ¬ pz_wd (rB (Mf 1) (Mv 0)) (sv_36 : Int32).toInt.toNat pz_sky = true := by
              have hq := pf_68
              rw [show (7564153 : Int64).toInt = pz_pl pz_sky by decide] at hq
              exact fun z => hq ((PkW.wd (by decide) (by decide) (by decide)).mpr z)
            have hq_139 : sv_36 = (Mv 2) := SkR.eq h_sk (SkR.trans pf_8 pf_40)
            have hq_140 : (Mv 2) = (Mv 2) := rfl
            have hq_141 : sv_36 = (Mv 2) := hq_139.trans hq_140.symm
            have hw_142 : ¬ pz_wd (rB (Mf 1) (Mv 0)) (sv_74 : Int32).toInt.toNat pz_buyer = true := by
              have hq := pf_110
              rw [show (422877685106 : Int64).toInt = pz_pl pz_buyer by decide] at hq
              exact fun z => hq ((PkW.wd (by decide) (by decide) (by decide)).mpr z)
            have hq_143 : sv_74 = (Mv 2) := SkR.eq h_sk (SkR.trans (SkR.trans pf_8 pf_40) pf_78)
            have hq_144 : (Mv 2) = (Mv 2) := rfl
            have hq_145 : sv_74 = (Mv 2) := hq_143.trans hq_144.symm
            have hw_146 : ¬ pz_wd (rB (Mf 1) (Mv 0)) (sv_116 : Int32).toInt.toNat pz_watch = true := by
              have hq := pf_128
              rw [show (512736125800 : Int64).toInt = pz_pl pz_watch by decide] at hq
              exact fun z => hq ((PkW.wd (by decide) (by decide) (by decide)).mpr z)
            have hq_147 : sv_116 = (Mv 2) := SkR.eq h_sk hs_131
            have hq_148 : (Mv 2) = (Mv 2) := rfl
            have hq_149 : sv_116 = (Mv 2) := hq_147.trans hq_148.symm
            have hk_150 : pz_wa (rB (Mf 1) (Mv 0)) (Mv 2).toInt.toNat pz_bws 0 = -1 := ((bws_n (hq_137 ▸ hw_134) (hq_141 ▸ hw_138) (hq_145 ▸ hw_142)).2 (hq_149 ▸ hw_146))
            exact hk_150
          exact retI (v := 0) hx hb hr hlk (rfl) hP hD hS sv_116 ⟨_, rfl, hp_132, ha_130, hs_131, (fun h => absurd h (by decide)), hm_133⟩ [0, 1] rfl rfl dX12_isBookWord_45 (Nat.le_of_ble_eq_true rfl) (Nat.le_of_ble_eq_true rfl) rfl
        · skip
          have hz_153 : (r_121 : Int32).toInt = 1 := by
            have z_1 := congrArg Int32.toInt c_15
            have z_2 := congrArg Int32.toInt c_47
            have z_3 := congrArg Int32.toInt c_85
            have z_4 : ¬ (r_121 : Int32).toInt = (0 : Int32).toInt := fun z => c_127 (Int32.toInt_inj.mp z)
            have y_0 : (0 : Int32).toInt = 0 := by decide
            omega
          obtain ⟨pf_151, pf_152⟩ := hm_124 hz_153
          have pf_151 : Ltr (Mf 1) (Mv 0) sv_116 := pf_151
          have ar_pf_151 := pf_151.1
          have at_pf_151 : 97 ≤ ((Mf 1) (sv_116 : Int32).toInt.toNat).toInt ∧ ((Mf 1) (sv_116 : Int32).toInt.toNat).toInt ≤ 122 := pf_151.2
          have pf_152 : PkW (rB (Mf 1) (Mv 0)) ((sv_116 : Int32).toInt.toNat) (512736125800 : Int64).toInt := pf_152
          refine lv_iconst (v := 1) hx hb dX12_isBookWord_40 (by decide) ?_
          refine lv_goto (tgt := 45) hx hb dX12_isBookWord_41 (by decide) ?_
          have ha_154 : ((Mv 2) : Int32).toInt ≤ (sv_116 : Int32).toInt ∧ (sv_116 : Int32).toInt ≤ ((Mv 0) : Int32).toInt := by
            have z_1 := congrArg Int32.toInt c_15
            have z_2 := congrArg Int32.toInt c_47
            have z_3 := congrArg Int32.toInt c_85
            have z_4 : ¬ (r_121 : Int32).toInt = (0 : Int32).toInt := fun z => c_127 (Int32.toInt_inj.mp z)
            have y_0 : (0 : Int32).toInt = 0 := by decide
            omega
          have hs_155 : SkR (rB (Mf 1) (Mv 0)) (Mv 2) sv_116 := (SkR.trans (SkR.trans (SkR.trans pf_8 pf_40) pf_78) pf_120)
          have hp_156 : ((1 : Int32).toInt = 0 ∨ (1 : Int32).toInt = 1) := by
            have z_1 := congrArg Int32.toInt c_15
            have z_2 := congrArg Int32.toInt c_47
            have z_3 := congrArg Int32.toInt c_85
            have z_4 : ¬ (r_121 : Int32).toInt = (0 : Int32).toInt := fun z => c_127 (Int32.toInt_inj.mp z)
            have y_0 : (0 : Int32).toInt = 0 := by decide
            have y_1 : (1 : Int32).toInt = 1 := by decide
            have yr : (1 : Int32).toInt = 1 := by decide
            omega
          have hm_157 : (1 : Int32).toInt = 1 → (BkN (rB (Mf 1) (Mv 0)) (Mv 2)) ∧ (LtH (rB (Mf 1) (Mv 0)) (Mv 2)) := by
            intro h1r
            have hw_158 : ¬ pz_wd (rB (Mf 1) (Mv 0)) (sv_4 : Int32).toInt.toNat pz_book = true := by
              have hq := pf_30
              rw [show (1651470187 : Int64).toInt = pz_pl pz_book by decide] at hq
              exact fun z => hq ((PkW.wd (by decide) (by decide) (by decide)).mpr z)
            have hq_159 : sv_4 = (Mv 2) := SkR.eq h_sk pf_8
            have hq_160 : (Mv 2) = (Mv 2) := rfl
            have hq_161 : sv_4 = (Mv 2) := hq_159.trans hq_160.symm
            have hw_162 : ¬ pz_wd (rB (Mf 1) (Mv 0)) (sv_36 : Int32).toInt.toNat pz_sky = true := by
              have hq := pf_68
              rw [show (7564153 : Int64).toInt = pz_pl pz_sky by decide] at hq
              exact fun z => hq ((PkW.wd (by decide) (by decide) (by decide)).mpr z)
            have hq_163 : sv_36 = (Mv 2) := SkR.eq h_sk (SkR.trans pf_8 pf_40)
            have hq_164 : (Mv 2) = (Mv 2) := rfl
            have hq_165 : sv_36 = (Mv 2) := hq_163.trans hq_164.symm
            have hw_166 : ¬ pz_wd (rB (Mf 1) (Mv 0)) (sv_74 : Int32).toInt.toNat pz_buyer = true := by
              have hq := pf_110
              rw [show (422877685106 : Int64).toInt = pz_pl pz_buyer by decide] at hq
              exact fun z => hq ((PkW.wd (by decide) (by decide) (by decide)).mpr z)
            have hq_167 : sv_74 = (Mv 2) := SkR.eq h_sk (SkR.trans (SkR.trans pf_8 pf_40) pf_78)
            have hq_168 : (Mv 2) = (Mv 2) := rfl
            have hq_169 : sv_74 = (Mv 2) := hq_167.trans hq_168.symm
            have hw_170 : pz_wd (rB (Mf 1) (Mv 0)) (sv_116 : Int32).toInt.toNat pz_watch = true := by
              have hq := pf_152
              rw [show (512736125800 : Int64).toInt = pz_pl pz_watch by decide] at hq
              exact (PkW.wd (by decide) (by decide) (by decide)).mp hq
            have hq_171 : sv_116 = (Mv 2) := SkR.eq h_sk hs_155
            have hq_172 : (Mv 2) = (Mv 2) := rfl
            have hq_173 : sv_116 = (Mv 2) := hq_171.trans hq_172.symm
            have hk_174 : pz_wa (rB (Mf 1) (Mv 0)) (Mv 2).toInt.toNat pz_bws 0 = 3 := ((bws_n (hq_161 ▸ hw_158) (hq_165 ▸ hw_162) (hq_169 ▸ hw_166)).1 (hq_173 ▸ hw_170))
            have rg_175 := rB_rg (n := (Mv 0)) h_bs (sv_116 : Int32).toInt.toNat
            have hl_176 : 97 ≤ rB (Mf 1) (Mv 0) (sv_116 : Int32).toInt.toNat ∧ rB (Mf 1) (Mv 0) (sv_116 : Int32).toInt.toNat ≤ 122 := by
              have z_1 := congrArg Int32.toInt c_15
              have z_2 := congrArg Int32.toInt c_47
              have z_3 := congrArg Int32.toInt c_85
              have z_4 : ¬ (r_121 : Int32).toInt = (0 : Int32).toInt := fun z => c_127 (Int32.toInt_inj.mp z)
              have y_0 : (0 : Int32).toInt = 0 := by decide
              omega
            have hq_177 : sv_116 = (Mv 2) := SkR.eq h_sk hs_155
            have hr_178 : 0 ≤ (Mv 2).toInt := by
              have z_1 := congrArg Int32.toInt c_15
              have z_2 := congrArg Int32.toInt c_47
              have z_3 := congrArg Int32.toInt c_85
              have z_4 : ¬ (r_121 : Int32).toInt = (0 : Int32).toInt := fun z => c_127 (Int32.toInt_inj.mp z)
              have y_0 : (0 : Int32).toInt = 0 := by decide
              omega
            exact ⟨(fun z => absurd (hk_174.symm.trans z) (by decide)), ⟨hr_178, (hq_177 ▸ hl_176)⟩⟩
          exact retI (v := 1) hx hb hr hlk (rfl) hP hD hS sv_116 ⟨_, rfl, hp_156, ha_154, hs_155, hm_157, (fun h => absurd h (by decide))⟩ [0, 1] rfl rfl dX12_isBookWord_45 (Nat.le_of_ble_eq_true rfl) (Nat.le_of_ble_eq_true rfl) rfl
set_option maxRecDepth 100000 in
theorem cu_fX12_isBookWord (l : Launch) (D : va_G) (tc : Nat → ClassId) (sk : (Nat → Nat) × (Nat → Nat)) (Ma_0 : Nat) (Ma_1 : Nat) (Ma_2 : Nat) (Ma_3 : Nat) (Ma_4 : Nat) (Ma_5 : Nat) (Ma_6 : Nat) (Ma_7 : Nat) (Ma_8 : Nat) (Ma_9 : Nat) (Ma_10 : Nat) (Ma_11 : Nat) (Ma_12 : Nat) (Ma_13 : Nat) (Ma_14 : Nat) (Ma_15 : Nat) (Ma_16 : Nat) (Ma_17 : Nat) (Ma_18 : Nat) (Ma_19 : Nat) (Ma_20 : Nat) (Mv_0 : Int32) (Mv_1 : Int32) (Mv_2 : Int32) (Mv_3 : Int32) (Mv_4 : Int32) (Mv_5 : Int32) (Mv_6 : Int32) (Mv_7 : Int32) (Mv_8 : Int32) (Mv_9 : Int32) (Mv_10 : Int32) (Mv_11 : Int32) (Mv_12 : Int32) (Mv_13 : Int32) (Mv_14 : Int32) (Mf_1 : Nat → Int32) (Mj_0 : Int64) (h_nx : 0 ≤ (Mv_2 : Int32).toInt ∧ (Mv_2 : Int32).toInt ≤ (Mv_0 : Int32).toInt ∧ (Mv_0 : Int32).toInt ≤ 400) (h_bs : ByS Mf_1) (h_sk : SkR (rB Mf_1 Mv_0) Mv_2 Mv_2) : Ct l yX12_isBookWord cX12_isBookWord 1 (some .boolean) { frames := 2, cells := 0, slots := 0, locals := 46 } D tc sk [.ref Ma_0] [(Ma_0, .inr (12, [.ref Ma_1, .int Mv_0, .int Mv_1, .ref Ma_2, .ref Ma_3, .ref Ma_4, .ref Ma_5, .ref Ma_6, .int Mv_2, .int Mv_3, .int Mv_4, .int Mv_5, .int Mv_6, .int Mv_7, .int Mv_8, .ref Ma_7, .int Mv_9, .ref Ma_8, .int Mv_10, .ref Ma_9, .ref Ma_10, .int Mv_11, .int Mv_12, .int Mv_13, .ref Ma_11, .int Mv_14, .ref Ma_12, .ref Ma_13, .ref Ma_14, .ref Ma_15, .ref Ma_16, .long Mj_0, .ref Ma_17, .ref Ma_18, .ref Ma_19, .ref Ma_20])), (Ma_1, .inl (tc 2, 400, .inl Mf_1))] (fun (v : Option Value) (oo0x1 : Int32) => ∃ r : Int32, v = some (.int r) ∧ ((r.toInt = 0 ∨ r.toInt = 1)) ∧ ((Mv_2 : Int32).toInt ≤ (oo0x1 : Int32).toInt ∧ (oo0x1 : Int32).toInt ≤ (Mv_0 : Int32).toInt) ∧ (SkR (rB Mf_1 Mv_0) Mv_2 oo0x1) ∧ (r.toInt = 1 → (BkN (rB Mf_1 Mv_0) Mv_2) ∧ (LtH (rB Mf_1 Mv_0) Mv_2)) ∧ (r.toInt = 0 → (BkW (rB Mf_1 Mv_0) Mv_2 (-1)))) (fun (oo0x1 : Int32) => [(Ma_0, .inr (12, [.ref Ma_1, .int Mv_0, .int Mv_1, .ref Ma_2, .ref Ma_3, .ref Ma_4, .ref Ma_5, .ref Ma_6, .int oo0x1, .int Mv_3, .int Mv_4, .int Mv_5, .int Mv_6, .int Mv_7, .int Mv_8, .ref Ma_7, .int Mv_9, .ref Ma_8, .int Mv_10, .ref Ma_9, .ref Ma_10, .int Mv_11, .int Mv_12, .int Mv_13, .ref Ma_11, .int Mv_14, .ref Ma_12, .ref Ma_13, .ref Ma_14, .ref Ma_15, .ref Ma_16, .long Mj_0, .ref Ma_17, .ref Ma_18, .ref Ma_19, .ref Ma_20])), (Ma_1, .inl (tc 2, 400, .inl Mf_1))]) 0 0 :=
  ct_fX12_isBookWord l D tc sk (fun k => ([Ma_0, Ma_1, Ma_2, Ma_3, Ma_4, Ma_5, Ma_6, Ma_7, Ma_8, Ma_9, Ma_10, Ma_11, Ma_12, Ma_13, Ma_14, Ma_15, Ma_16, Ma_17, Ma_18, Ma_19, Ma_20] : List (Nat)).getD k 0) (fun k => ([Mv_0, Mv_1, Mv_2, Mv_3, Mv_4, Mv_5, Mv_6, Mv_7, Mv_8, Mv_9, Mv_10, Mv_11, Mv_12, Mv_13, Mv_14] : List (Int32)).getD k 0) (fun k => ([(fun _ => 0), Mf_1] : List (Nat → Int32)).getD k (fun _ => 0)) (fun k => ([Mj_0] : List (Int64)).getD k 0) h_nx h_bs h_sk
theorem upd_lit {f g : Nat → Int32} {i j : Nat} {x : Int32} (e : g = upd f i x) (h : j = i) : (g j).toInt = x.toInt := by rw [e, h, upd_at]
def NtO (f g : Nat → Int32) : Prop := SaiO g 999 ∧ ∀ k : Nat, k < 95 → g k = f k
theorem NtO.rf {T : Nat → Option Int32} {f : Nat → Int32} (h : SaidD T f 999) : NtO f f := ⟨h.o, fun _ _ => rfl⟩
theorem NtO.ar {f g : Nat → Int32} (h : NtO f g) : (g 3).toInt = (f 3).toInt ∧ 0 ≤ (g 125).toInt ∧ (g 125).toInt ≤ 10 := ⟨by rw [h.2 3 (by decide)], h.1.1.1.2.2.2.1, h.1.1.1.2.2.2.2⟩
theorem NtO.up {f g g' : Nat → Int32} {i : Nat} {x : Int32} (h : ∀ k : Nat, k < 95 → g k = f k) (eg : g' = upd g i x) (hi : 95 ≤ i) : ∀ k : Nat, k < 95 → g' k = f k := fun k hk => by
  rw [eg, upd_ne (by omega)]
  exact h k hk
theorem NtO.note1 {f g g' : Nat → Int32} {i x : Int32} (h : NtO f g) (eg : g' = upd g i.toNatClampNeg x) (hi : 95 ≤ i.toInt ∧ i.toInt < 125) (hx : 0 ≤ x.toInt ∧ x.toInt ≤ 60) : NtO f g' :=
  ⟨h.1.note1 eg hi hx, NtO.up h.2 eg (by show 95 ≤ i.toInt.toNat; omega)⟩
theorem NtO.note2 {f g g' : Nat → Int32} {i x : Int32} (h : NtO f g) (eg : g' = upd g i.toNatClampNeg x) (hi : 95 ≤ i.toInt ∧ i.toInt < 125 ∧ i.toInt % 3 ≠ 2) : NtO f g' :=
  ⟨h.1.note2 eg hi, NtO.up h.2 eg (by show 95 ≤ i.toInt.toNat; omega)⟩
theorem NtO.many {f g g' : Nat → Int32} {i : Nat} {x : Int32} (h : NtO f g) (eg : g' = upd g i x) (hi : i = 125) (hx : 0 ≤ x.toInt ∧ x.toInt ≤ 10) : NtO f g' :=
  ⟨h.1.many eg hi hx, NtO.up h.2 eg (by omega)⟩
def NoP (x1 x2 x3 nb n r n' : Int32) : Prop := (x1.toInt = -1 ∧ r.toInt = 0 ∧ n'.toInt = 0) ∨ (¬ x1.toInt = -1 ∧ (x1.toInt < 0 ∨ 60 < x1.toInt ∨ x2.toInt < 0 ∨ nb.toInt ≤ x2.toInt ∨ x3.toInt < 0 ∨ 1 < x3.toInt ∨ n.toInt < 0 ∨ 10 ≤ n.toInt) ∧ r.toInt = -2 ∧ n'.toInt = n.toInt) ∨ (0 ≤ x1.toInt ∧ x1.toInt ≤ 60 ∧ 0 ≤ x2.toInt ∧ x2.toInt < nb.toInt ∧ 0 ≤ x3.toInt ∧ x3.toInt ≤ 1 ∧ 0 ≤ n.toInt ∧ n.toInt < 10 ∧ r.toInt = n.toInt + 1 ∧ n'.toInt = n.toInt + 1)
theorem NoP.eq {x1 x2 x3 nb n r1 r2 n1 n2 : Int32} (h1 : NoP x1 x2 x3 nb n r1 n1) (h2 : NoP x1 x2 x3 nb n r2 n2) : r1 = r2 ∧ n1 = n2 := by
  unfold NoP at h1 h2
  exact ⟨Int32.toInt_inj.mp (by omega), Int32.toInt_inj.mp (by omega)⟩
def BkX (B : Nat → Int) (r a n a' n' : Int32) : Prop := (∃ d : Int32, pz_bookR B = .error d.toInt ∧ r = -2 - d ∧ a' = a ∧ n' = n) ∨ ∃ u, pz_bookR B = .ok u ∧ r.toInt = u.2.2 ∧ a' = r ∧ n' = 0
theorem BkX.eq {B : Nat → Int} {r s a n a1 n1 a2 n2 : Int32} (h : BkX B r a n a1 n1) (h2 : BkX B s a n a2 n2) : r = s ∧ a1 = a2 ∧ n1 = n2 := by
  rcases h with ⟨d, e1, e2, e3, e4⟩ | ⟨u, e1, e2, e3, e4⟩ <;> rcases h2 with ⟨d', f1, f2, f3, f4⟩ | ⟨u', f1, f2, f3, f4⟩
  · rw [e1] at f1
    have hd : d = d' := Int32.toInt_inj.mp (Except.error.inj f1)
    exact ⟨by rw [e2, f2, hd], e3.trans f3.symm, e4.trans f4.symm⟩
  · rw [e1] at f1; cases f1
  · rw [e1] at f1; cases f1
  · rw [e1] at f1
    have hu : u = u' := Except.ok.inj f1
    have hr : r = s := Int32.toInt_inj.mp (by rw [e2, f2, hu])
    exact ⟨hr, by rw [e3, f3, hr], e4.trans f4.symm⟩
def ImX (g0 g f : Nat → Int32) (k : Int32) : Prop := (∀ j m : Nat, j < 4 → (j : Int) ≠ k.toInt → m < 126 → g (126 * j + m) = g0 (126 * j + m)) ∧ ∀ m : Nat, m < 126 → g (126 * k.toInt.toNat + m) = f m
def ImG (g0 g f : Nat → Int32) (k i : Int32) : Prop := (∀ j m : Nat, j < 4 → (j : Int) ≠ k.toInt → m < 126 → g (126 * j + m) = g0 (126 * j + m)) ∧ ∀ m : Nat, (m : Int) < i.toInt → g (126 * k.toInt.toNat + m) = f m
theorem ImG.start {g f : Nat → Int32} {k i : Int32} (hi : i.toInt = 0) : ImG g g f k i := ⟨fun _ _ _ _ _ => rfl, fun m hm => by omega⟩
theorem ImG.step {g0 g g' f : Nat → Int32} {k i i' j x : Int32} (h : ImG g0 g f k i) (eg : g' = upd g j.toNatClampNeg x) (ex : x = f i.toNatClampNeg) (hj : j.toInt = 126 * k.toInt + i.toInt) (hi : 0 ≤ i.toInt ∧ i.toInt < 126) (hi' : i'.toInt = i.toInt + 1) (hk : 0 ≤ k.toInt ∧ k.toInt < 4) : ImG g0 g' f k i' := by
  subst eg
  have e : j.toNatClampNeg = j.toInt.toNat := rfl
  refine ⟨fun q m hq hne hm => ?_, fun m hm => ?_⟩
  · rw [upd_ne (by omega)]
    exact h.1 q m hq hne hm
  · by_cases z : (m : Int) = i.toInt
    · have e3 : 126 * k.toInt.toNat + m = j.toNatClampNeg := by omega
      rw [e3, upd_at, ex, clN (n := m) z.symm]
    · rw [upd_ne (by omega)]
      exact h.2 m (by omega)
theorem ImG.x {g0 g f : Nat → Int32} {k i : Int32} (h : ImG g0 g f k i) (hi : 126 ≤ i.toInt) : ImX g0 g f k := ⟨h.1, fun m hm => h.2 m (by omega)⟩
theorem ImG.done {g0 g f : Nat → Int32} {k i : Int32} (h : ImG g0 g f k i) (h0 : ImgD g0) (hf : SaiO f 999) (hi : 126 ≤ i.toInt) : ImgD g := by
  intro j hj
  by_cases z : (j : Int) = k.toInt
  · refine hf.congr (fun m hm => ?_)
    show g (126 * j + m) = f m
    have e : j = k.toInt.toNat := by omega
    rw [e]
    exact h.2 m (by omega)
  · exact (h0 j hj).congr (fun m hm => h.1 j m hj z hm)
def BkC (g f : Nat → Int32) (k : Int32) : Prop := ∀ m : Nat, m < 126 → g m = f (126 * k.toInt.toNat + m)
theorem BkK.c {g f : Nat → Int32} {k i : Int32} (h : BkK g f k i) (hi : 126 ≤ i.toInt) : BkC g f k := fun m hm => h m (by omega)
def Ring (nx sz : Int32) (s : Nat → Int32) (b : Int32) : Prop := ∀ k : Nat, k < 20 → (nx.toInt + 19 - (k : Int)) % 20 < sz.toInt → s k = b
theorem Ring.back {nx sz nx' sz' b : Int32} {s : Nat → Int32} (h : Ring nx sz s b) (hn : 0 ≤ nx.toInt ∧ nx.toInt < 20) (hs : sz.toInt ≤ 20) (h1 : nx'.toInt = (nx.toInt + 19) % 20) (h2 : sz'.toInt = sz.toInt - 1) : Ring nx' sz' s b := fun k hk hz => h k hk (by omega)
theorem Ring.same {nx sz nx' sz' b : Int32} {s : Nat → Int32} {j : Nat} {x : Int32} (h : Ring nx sz s b) (h1 : nx'.toInt = nx.toInt) (h2 : sz'.toInt = sz.toInt) (hx : x = s j) : Ring nx' sz' (upd s j x) b := fun k hk hz => by
  by_cases z : k = j
  · rw [z, upd_at, hx, ← z]; exact h k hk (by omega)
  · rw [upd_ne z]; exact h k hk (by omega)
set_option maxHeartbeats 4000000 in
set_option maxRecDepth 100000 in
theorem ct_gX11_isWithin (l : Launch) (D : va_G) (tc : Nat → ClassId) (sk : (Nat → Nat) × (Nat → Nat)) (x1 : Int32) (x2 : Int32) (x3 : Int32)  : Ct l yX11_isWithin cX11_isWithin 3 (some .boolean) { frames := 0, cells := 0, slots := 0, locals := 0 } D tc sk [.int x1, .int x2, .int x3] [] (fun (v : Option Value) (_ : Unit) => ∃ r : Int32, v = some (.int r) ∧ (((r.toInt = 0 ∧ (x1.toInt < x2.toInt ∨ x3.toInt < x1.toInt)) ∨ (r.toInt = 1 ∧ x2.toInt ≤ x1.toInt ∧ x1.toInt ≤ x3.toInt)))) (fun (_ : Unit) => []) 0 0 := by
  refine Ct.start (by decide) (Nat.le_of_ble_eq_true rfl) (fun p e s m below meth c A ls hx hb hr hlk hin hml hown hts hK hX hP hD hA hl hS => ?_)
  have hl : lv_has ls 3 [(0, .int x1), (1, .int x2), (2, .int x3)] := hl
  refine lv_iload_n hx hb dX11_isWithin_0 rfl (lv_at hl 0 rfl) ?_
  refine lv_iload_n hx hb dX11_isWithin_1 rfl (lv_at hl 1 rfl) ?_
  refine lv_icmp_lt (tgt := 14) hx hb dX11_isWithin_2 (by decide) (fun c_1 => ?_) (fun c_1 => ?_)
  · skip
    refine lv_iconst (v := 0) hx hb dX11_isWithin_14 (by decide) ?_
    have hp_2 : (((0 : Int32).toInt = 0 ∧ (x1.toInt < x2.toInt ∨ x3.toInt < x1.toInt)) ∨ ((0 : Int32).toInt = 1 ∧ x2.toInt ≤ x1.toInt ∧ x1.toInt ≤ x3.toInt)) := by
      have z_1 := Int32.lt_iff_toInt_lt.mp c_1
      have y_0 : (0 : Int32).toInt = 0 := by decide
      have yr : (0 : Int32).toInt = 0 := by decide
      omega
    exact retI (v := 0) hx hb hr hlk (rfl) hP hD hS () ⟨_, rfl, hp_2⟩ [] rfl rfl dX11_isWithin_15 (Nat.le_of_ble_eq_true rfl) (Nat.le_of_ble_eq_true rfl) rfl
  · skip
    refine lv_iload_n hx hb dX11_isWithin_5 rfl (lv_at hl 0 rfl) ?_
    refine lv_iload_n hx hb dX11_isWithin_6 rfl (lv_at hl 2 rfl) ?_
    refine lv_icmp_gt (tgt := 14) hx hb dX11_isWithin_7 (by decide) (fun c_3 => ?_) (fun c_3 => ?_)
    · skip
      refine lv_iconst (v := 0) hx hb dX11_isWithin_14 (by decide) ?_
      have hp_4 : (((0 : Int32).toInt = 0 ∧ (x1.toInt < x2.toInt ∨ x3.toInt < x1.toInt)) ∨ ((0 : Int32).toInt = 1 ∧ x2.toInt ≤ x1.toInt ∧ x1.toInt ≤ x3.toInt)) := by
        have z_1 := Int32.le_iff_toInt_le.mp (Int32.not_lt.mp c_1)
        have z_2 := Int32.lt_iff_toInt_lt.mp c_3
        have y_0 : (0 : Int32).toInt = 0 := by decide
        have yr : (0 : Int32).toInt = 0 := by decide
        omega
      exact retI (v := 0) hx hb hr hlk (rfl) hP hD hS () ⟨_, rfl, hp_4⟩ [] rfl rfl dX11_isWithin_15 (Nat.le_of_ble_eq_true rfl) (Nat.le_of_ble_eq_true rfl) rfl
    · skip
      refine lv_iconst (v := 1) hx hb dX11_isWithin_10 (by decide) ?_
      refine lv_goto (tgt := 15) hx hb dX11_isWithin_11 (by decide) ?_
      have hp_5 : (((1 : Int32).toInt = 0 ∧ (x1.toInt < x2.toInt ∨ x3.toInt < x1.toInt)) ∨ ((1 : Int32).toInt = 1 ∧ x2.toInt ≤ x1.toInt ∧ x1.toInt ≤ x3.toInt)) := by
        have z_1 := Int32.le_iff_toInt_le.mp (Int32.not_lt.mp c_1)
        have z_2 := Int32.le_iff_toInt_le.mp (Int32.not_lt.mp c_3)
        have y_1 : (1 : Int32).toInt = 1 := by decide
        have yr : (1 : Int32).toInt = 1 := by decide
        omega
      exact retI (v := 1) hx hb hr hlk (rfl) hP hD hS () ⟨_, rfl, hp_5⟩ [] rfl rfl dX11_isWithin_15 (Nat.le_of_ble_eq_true rfl) (Nat.le_of_ble_eq_true rfl) rfl
set_option maxHeartbeats 4000000 in
set_option maxRecDepth 100000 in
theorem ct_gX9_hasBuyer (l : Launch) (D : va_G) (tc : Nat → ClassId) (sk : (Nat → Nat) × (Nat → Nat)) (Aa : Nat → Nat) (Av : Nat → Int32) (Af : Nat → Nat → Int32) (x1 : Int32)  : Ct l yX9_hasBuyer cX9_hasBuyer 2 (some .boolean) { frames := 0, cells := 0, slots := 0, locals := 0 } D tc sk [.ref (Aa 0), .int x1] [((Aa 0), .inr (9, [.int (Av 0), .int (Av 1), .int (Av 2), .int (Av 3), .int (Av 4), .int (Av 5), .ref (Aa 1), .ref (Aa 2), .ref (Aa 3), .ref (Aa 4), .ref (Aa 5), .ref (Aa 6), .ref (Aa 7), .ref (Aa 8)])), ((Aa 1), .inl (tc 0, 10, .inl (Af 1))), ((Aa 2), .inl (tc 0, 10, .inl (Af 2))), ((Aa 3), .inl (tc 0, 6, .inl (Af 3))), ((Aa 4), .inl (tc 0, 6, .inl (Af 4))), ((Aa 5), .inl (tc 0, 6, .inl (Af 5))), ((Aa 6), .inl (tc 0, 6, .inl (Af 6))), ((Aa 7), .inl (tc 0, 6, .inl (Af 7))), ((Aa 8), .inl (tc 0, 6, .inl (Af 8)))] (fun (v : Option Value) (_ : Unit) => ∃ r : Int32, v = some (.int r) ∧ (((r.toInt = 0 ∧ (x1.toInt < 0 ∨ (Av 3).toInt ≤ x1.toInt ∨ 6 ≤ x1.toInt)) ∨ (r.toInt = 1 ∧ 0 ≤ x1.toInt ∧ x1.toInt < (Av 3).toInt ∧ x1.toInt < 6)))) (fun (_ : Unit) => [((Aa 0), .inr (9, [.int (Av 0), .int (Av 1), .int (Av 2), .int (Av 3), .int (Av 4), .int (Av 5), .ref (Aa 1), .ref (Aa 2), .ref (Aa 3), .ref (Aa 4), .ref (Aa 5), .ref (Aa 6), .ref (Aa 7), .ref (Aa 8)])), ((Aa 1), .inl (tc 0, 10, .inl (Af 1))), ((Aa 2), .inl (tc 0, 10, .inl (Af 2))), ((Aa 3), .inl (tc 0, 6, .inl (Af 3))), ((Aa 4), .inl (tc 0, 6, .inl (Af 4))), ((Aa 5), .inl (tc 0, 6, .inl (Af 5))), ((Aa 6), .inl (tc 0, 6, .inl (Af 6))), ((Aa 7), .inl (tc 0, 6, .inl (Af 7))), ((Aa 8), .inl (tc 0, 6, .inl (Af 8)))]) 0 0 := by
  refine Ct.start (by decide) (Nat.le_of_ble_eq_true rfl) (fun p e s m below meth c A ls hx hb hr hlk hin hml hown hts hK hX hP hD hA hl hS => ?_)
  have hl : lv_has ls 2 [(0, .ref (Aa 0)), (1, .int x1)] := hl
  refine lv_iload_n hx hb dX9_hasBuyer_0 rfl (lv_at hl 1 rfl) ?_
  refine lv_if_lt (tgt := 22) hx hb dX9_hasBuyer_1 (by decide) (fun c_1 => ?_) (fun c_1 => ?_)
  · skip
    refine lv_iconst (v := 0) hx hb dX9_hasBuyer_22 (by decide) ?_
    have hp_2 : (((0 : Int32).toInt = 0 ∧ (x1.toInt < 0 ∨ (Av 3).toInt ≤ x1.toInt ∨ 6 ≤ x1.toInt)) ∨ ((0 : Int32).toInt = 1 ∧ 0 ≤ x1.toInt ∧ x1.toInt < (Av 3).toInt ∧ x1.toInt < 6)) := by
      have z_1 := Int32.lt_iff_toInt_lt.mp c_1
      have y_0 : (0 : Int32).toInt = 0 := by decide
      omega
    exact retI (v := 0) hx hb hr hlk (rfl) hP hD hS () ⟨_, rfl, hp_2⟩ [0, 1, 2, 3, 4, 5, 6, 7, 8] rfl rfl dX9_hasBuyer_23 (Nat.le_of_ble_eq_true rfl) (Nat.le_of_ble_eq_true rfl) rfl
  · skip
    refine lv_iload_n hx hb dX9_hasBuyer_4 rfl (lv_at hl 1 rfl) ?_
    refine lv_aload_n hx hb dX9_hasBuyer_5 rfl (lv_at hl 0 rfl) ?_
    refine gf_X9_21 hx hb hts hown hK hP 0 rfl rfl dX9_hasBuyer_6 ?_
    refine lv_icmp_ge (tgt := 22) hx hb dX9_hasBuyer_9 (by decide) (fun c_3 => ?_) (fun c_3 => ?_)
    · skip
      refine lv_iconst (v := 0) hx hb dX9_hasBuyer_22 (by decide) ?_
      have hp_4 : (((0 : Int32).toInt = 0 ∧ (x1.toInt < 0 ∨ (Av 3).toInt ≤ x1.toInt ∨ 6 ≤ x1.toInt)) ∨ ((0 : Int32).toInt = 1 ∧ 0 ≤ x1.toInt ∧ x1.toInt < (Av 3).toInt ∧ x1.toInt < 6)) := by
        have z_1 := Int32.le_iff_toInt_le.mp (Int32.not_lt.mp c_1)
        have z_2 := Int32.le_iff_toInt_le.mp c_3
        have y_0 : (0 : Int32).toInt = 0 := by decide
        omega
      exact retI (v := 0) hx hb hr hlk (rfl) hP hD hS () ⟨_, rfl, hp_4⟩ [0, 1, 2, 3, 4, 5, 6, 7, 8] rfl rfl dX9_hasBuyer_23 (Nat.le_of_ble_eq_true rfl) (Nat.le_of_ble_eq_true rfl) rfl
    · skip
      refine lv_iload_n hx hb dX9_hasBuyer_12 rfl (lv_at hl 1 rfl) ?_
      refine lv_bipush (v := 6) hx hb dX9_hasBuyer_13 (by decide) ?_
      refine lv_icmp_ge (tgt := 22) hx hb dX9_hasBuyer_15 (by decide) (fun c_5 => ?_) (fun c_5 => ?_)
      · skip
        refine lv_iconst (v := 0) hx hb dX9_hasBuyer_22 (by decide) ?_
        have hp_6 : (((0 : Int32).toInt = 0 ∧ (x1.toInt < 0 ∨ (Av 3).toInt ≤ x1.toInt ∨ 6 ≤ x1.toInt)) ∨ ((0 : Int32).toInt = 1 ∧ 0 ≤ x1.toInt ∧ x1.toInt < (Av 3).toInt ∧ x1.toInt < 6)) := by
          have z_1 := Int32.le_iff_toInt_le.mp (Int32.not_lt.mp c_1)
          have z_2 := Int32.lt_iff_toInt_lt.mp (Int32.not_le.mp c_3)
          have z_3 := Int32.le_iff_toInt_le.mp c_5
          have y_0 : (0 : Int32).toInt = 0 := by decide
          have y_6 : (6 : Int32).toInt = 6 := by decide
          omega
        exact retI (v := 0) hx hb hr hlk (rfl) hP hD hS () ⟨_, rfl, hp_6⟩ [0, 1, 2, 3, 4, 5, 6, 7, 8] rfl rfl dX9_hasBuyer_23 (Nat.le_of_ble_eq_true rfl) (Nat.le_of_ble_eq_true rfl) rfl
      · skip
        refine lv_iconst (v := 1) hx hb dX9_hasBuyer_18 (by decide) ?_
        refine lv_goto (tgt := 23) hx hb dX9_hasBuyer_19 (by decide) ?_
        have hp_7 : (((1 : Int32).toInt = 0 ∧ (x1.toInt < 0 ∨ (Av 3).toInt ≤ x1.toInt ∨ 6 ≤ x1.toInt)) ∨ ((1 : Int32).toInt = 1 ∧ 0 ≤ x1.toInt ∧ x1.toInt < (Av 3).toInt ∧ x1.toInt < 6)) := by
          have z_1 := Int32.le_iff_toInt_le.mp (Int32.not_lt.mp c_1)
          have z_2 := Int32.lt_iff_toInt_lt.mp (Int32.not_le.mp c_3)
          have z_3 := Int32.lt_iff_toInt_lt.mp (Int32.not_le.mp c_5)
          have y_0 : (0 : Int32).toInt = 0 := by decide
          have y_6 : (6 : Int32).toInt = 6 := by decide
          have y_1 : (1 : Int32).toInt = 1 := by decide
          have yr : (1 : Int32).toInt = 1 := by decide
          omega
        exact retI (v := 1) hx hb hr hlk (rfl) hP hD hS () ⟨_, rfl, hp_7⟩ [0, 1, 2, 3, 4, 5, 6, 7, 8] rfl rfl dX9_hasBuyer_23 (Nat.le_of_ble_eq_true rfl) (Nat.le_of_ble_eq_true rfl) rfl
set_option maxRecDepth 100000 in
theorem cu_gX9_hasBuyer (l : Launch) (D : va_G) (tc : Nat → ClassId) (sk : (Nat → Nat) × (Nat → Nat)) (Aa_0 : Nat) (Aa_1 : Nat) (Aa_2 : Nat) (Aa_3 : Nat) (Aa_4 : Nat) (Aa_5 : Nat) (Aa_6 : Nat) (Aa_7 : Nat) (Aa_8 : Nat) (Av_0 : Int32) (Av_1 : Int32) (Av_2 : Int32) (Av_3 : Int32) (Av_4 : Int32) (Av_5 : Int32) (Af_1 : Nat → Int32) (Af_2 : Nat → Int32) (Af_3 : Nat → Int32) (Af_4 : Nat → Int32) (Af_5 : Nat → Int32) (Af_6 : Nat → Int32) (Af_7 : Nat → Int32) (Af_8 : Nat → Int32) (x1 : Int32)  : Ct l yX9_hasBuyer cX9_hasBuyer 2 (some .boolean) { frames := 0, cells := 0, slots := 0, locals := 0 } D tc sk [.ref Aa_0, .int x1] [(Aa_0, .inr (9, [.int Av_0, .int Av_1, .int Av_2, .int Av_3, .int Av_4, .int Av_5, .ref Aa_1, .ref Aa_2, .ref Aa_3, .ref Aa_4, .ref Aa_5, .ref Aa_6, .ref Aa_7, .ref Aa_8])), (Aa_1, .inl (tc 0, 10, .inl Af_1)), (Aa_2, .inl (tc 0, 10, .inl Af_2)), (Aa_3, .inl (tc 0, 6, .inl Af_3)), (Aa_4, .inl (tc 0, 6, .inl Af_4)), (Aa_5, .inl (tc 0, 6, .inl Af_5)), (Aa_6, .inl (tc 0, 6, .inl Af_6)), (Aa_7, .inl (tc 0, 6, .inl Af_7)), (Aa_8, .inl (tc 0, 6, .inl Af_8))] (fun (v : Option Value) (_ : Unit) => ∃ r : Int32, v = some (.int r) ∧ (((r.toInt = 0 ∧ (x1.toInt < 0 ∨ Av_3.toInt ≤ x1.toInt ∨ 6 ≤ x1.toInt)) ∨ (r.toInt = 1 ∧ 0 ≤ x1.toInt ∧ x1.toInt < Av_3.toInt ∧ x1.toInt < 6)))) (fun (_ : Unit) => [(Aa_0, .inr (9, [.int Av_0, .int Av_1, .int Av_2, .int Av_3, .int Av_4, .int Av_5, .ref Aa_1, .ref Aa_2, .ref Aa_3, .ref Aa_4, .ref Aa_5, .ref Aa_6, .ref Aa_7, .ref Aa_8])), (Aa_1, .inl (tc 0, 10, .inl Af_1)), (Aa_2, .inl (tc 0, 10, .inl Af_2)), (Aa_3, .inl (tc 0, 6, .inl Af_3)), (Aa_4, .inl (tc 0, 6, .inl Af_4)), (Aa_5, .inl (tc 0, 6, .inl Af_5)), (Aa_6, .inl (tc 0, 6, .inl Af_6)), (Aa_7, .inl (tc 0, 6, .inl Af_7)), (Aa_8, .inl (tc 0, 6, .inl Af_8))]) 0 0 :=
  ct_gX9_hasBuyer l D tc sk (fun k => ([Aa_0, Aa_1, Aa_2, Aa_3, Aa_4, Aa_5, Aa_6, Aa_7, Aa_8] : List (Nat)).getD k 0) (fun k => ([Av_0, Av_1, Av_2, Av_3, Av_4, Av_5] : List (Int32)).getD k 0) (fun k => ([(fun _ => 0), Af_1, Af_2, Af_3, Af_4, Af_5, Af_6, Af_7, Af_8] : List (Nat → Int32)).getD k (fun _ => 0)) x1 
set_option maxHeartbeats 4000000 in
set_option maxRecDepth 100000 in
theorem ct_gX12_isBuyer {T : Nat → Option Int32} (l : Launch) (D : va_G) (tc : Nat → ClassId) (sk : (Nat → Nat) × (Nat → Nat)) (Ma : Nat → Nat) (Mv : Nat → Int32) (Mf : Nat → Nat → Int32) (Mj : Nat → Int64) (x1 : Int32) (h_said : SaidB T (Mf 10)) : Ct l yX12_isBuyer cX12_isBuyer 2 (some .boolean) { frames := 0, cells := 0, slots := 0, locals := 0 } D tc sk [.ref (Ma 0), .int x1] [((Ma 0), .inr (12, [.ref (Ma 1), .int (Mv 0), .int (Mv 1), .ref (Ma 2), .ref (Ma 3), .ref (Ma 4), .ref (Ma 5), .ref (Ma 6), .int (Mv 2), .int (Mv 3), .int (Mv 4), .int (Mv 5), .int (Mv 6), .int (Mv 7), .int (Mv 8), .ref (Ma 7), .int (Mv 9), .ref (Ma 8), .int (Mv 10), .ref (Ma 9), .ref (Ma 10), .int (Mv 11), .int (Mv 12), .int (Mv 13), .ref (Ma 11), .int (Mv 14), .ref (Ma 12), .ref (Ma 13), .ref (Ma 14), .ref (Ma 15), .ref (Ma 16), .long (Mj 0), .ref (Ma 17), .ref (Ma 18), .ref (Ma 19), .ref (Ma 20)])), ((Ma 10), .inl (tc 0, 126, .inl (Mf 10)))] (fun (v : Option Value) (_ : Unit) => ∃ r : Int32, v = some (.int r) ∧ (((r.toInt = 0 ∧ (x1.toInt < 0 ∨ ((Mf 10) 3).toInt ≤ x1.toInt)) ∨ (r.toInt = 1 ∧ 0 ≤ x1.toInt ∧ x1.toInt < ((Mf 10) 3).toInt)))) (fun (_ : Unit) => [((Ma 0), .inr (12, [.ref (Ma 1), .int (Mv 0), .int (Mv 1), .ref (Ma 2), .ref (Ma 3), .ref (Ma 4), .ref (Ma 5), .ref (Ma 6), .int (Mv 2), .int (Mv 3), .int (Mv 4), .int (Mv 5), .int (Mv 6), .int (Mv 7), .int (Mv 8), .ref (Ma 7), .int (Mv 9), .ref (Ma 8), .int (Mv 10), .ref (Ma 9), .ref (Ma 10), .int (Mv 11), .int (Mv 12), .int (Mv 13), .ref (Ma 11), .int (Mv 14), .ref (Ma 12), .ref (Ma 13), .ref (Ma 14), .ref (Ma 15), .ref (Ma 16), .long (Mj 0), .ref (Ma 17), .ref (Ma 18), .ref (Ma 19), .ref (Ma 20)])), ((Ma 10), .inl (tc 0, 126, .inl (Mf 10)))]) 0 0 := by
  refine Ct.start (by decide) (Nat.le_of_ble_eq_true rfl) (fun p e s m below meth c A ls hx hb hr hlk hin hml hown hts hK hX hP hD hA hl hS => ?_)
  have hl : lv_has ls 2 [(0, .ref (Ma 0)), (1, .int x1)] := hl
  have ar_h_said := SaidB.al h_said
  refine lv_iload_n hx hb dX12_isBuyer_0 rfl (lv_at hl 1 rfl) ?_
  refine lv_if_lt (tgt := 18) hx hb dX12_isBuyer_1 (by decide) (fun c_1 => ?_) (fun c_1 => ?_)
  · skip
    refine lv_iconst (v := 0) hx hb dX12_isBuyer_18 (by decide) ?_
    have hp_2 : (((0 : Int32).toInt = 0 ∧ (x1.toInt < 0 ∨ ((Mf 10) 3).toInt ≤ x1.toInt)) ∨ ((0 : Int32).toInt = 1 ∧ 0 ≤ x1.toInt ∧ x1.toInt < ((Mf 10) 3).toInt)) := by
      have z_1 := Int32.lt_iff_toInt_lt.mp c_1
      have y_0 : (0 : Int32).toInt = 0 := by decide
      omega
    exact retI (v := 0) hx hb hr hlk (rfl) hP hD hS () ⟨_, rfl, hp_2⟩ [0, 1] rfl rfl dX12_isBuyer_19 (Nat.le_of_ble_eq_true rfl) (Nat.le_of_ble_eq_true rfl) rfl
  · skip
    refine lv_iload_n hx hb dX12_isBuyer_4 rfl (lv_at hl 1 rfl) ?_
    refine lv_aload_n hx hb dX12_isBuyer_5 rfl (lv_at hl 0 rfl) ?_
    refine gf_X12_39 hx hb hts hown hK hP 0 rfl rfl dX12_isBuyer_6 ?_
    refine lv_iconst (v := 3) hx hb dX12_isBuyer_9 (by decide) ?_
    refine va_iald hx hb hK hP 1 0 rfl rfl (vin_dec (by decide +kernel)) dX12_isBuyer_10 ?_
    refine lv_topi (fun x_3 ex_3 => ?_)
    have lx_3 : x_3.toInt = ((Mf 10) 3).toInt := congrArg Int32.toInt ex_3
    refine lv_icmp_ge (tgt := 18) hx hb dX12_isBuyer_11 (by decide) (fun c_4 => ?_) (fun c_4 => ?_)
    · skip
      refine lv_iconst (v := 0) hx hb dX12_isBuyer_18 (by decide) ?_
      have hp_5 : (((0 : Int32).toInt = 0 ∧ (x1.toInt < 0 ∨ ((Mf 10) 3).toInt ≤ x1.toInt)) ∨ ((0 : Int32).toInt = 1 ∧ 0 ≤ x1.toInt ∧ x1.toInt < ((Mf 10) 3).toInt)) := by
        have z_1 := Int32.le_iff_toInt_le.mp (Int32.not_lt.mp c_1)
        have z_2 := Int32.le_iff_toInt_le.mp c_4
        have y_0 : (0 : Int32).toInt = 0 := by decide
        omega
      exact retI (v := 0) hx hb hr hlk (rfl) hP hD hS () ⟨_, rfl, hp_5⟩ [0, 1] rfl rfl dX12_isBuyer_19 (Nat.le_of_ble_eq_true rfl) (Nat.le_of_ble_eq_true rfl) rfl
    · skip
      refine lv_iconst (v := 1) hx hb dX12_isBuyer_14 (by decide) ?_
      refine lv_goto (tgt := 19) hx hb dX12_isBuyer_15 (by decide) ?_
      have hp_6 : (((1 : Int32).toInt = 0 ∧ (x1.toInt < 0 ∨ ((Mf 10) 3).toInt ≤ x1.toInt)) ∨ ((1 : Int32).toInt = 1 ∧ 0 ≤ x1.toInt ∧ x1.toInt < ((Mf 10) 3).toInt)) := by
        have z_1 := Int32.le_iff_toInt_le.mp (Int32.not_lt.mp c_1)
        have z_2 := Int32.lt_iff_toInt_lt.mp (Int32.not_le.mp c_4)
        have y_0 : (0 : Int32).toInt = 0 := by decide
        have y_1 : (1 : Int32).toInt = 1 := by decide
        have yr : (1 : Int32).toInt = 1 := by decide
        omega
      exact retI (v := 1) hx hb hr hlk (rfl) hP hD hS () ⟨_, rfl, hp_6⟩ [0, 1] rfl rfl dX12_isBuyer_19 (Nat.le_of_ble_eq_true rfl) (Nat.le_of_ble_eq_true rfl) rfl
set_option maxRecDepth 100000 in
theorem cu_gX12_isBuyer {T : Nat → Option Int32} (l : Launch) (D : va_G) (tc : Nat → ClassId) (sk : (Nat → Nat) × (Nat → Nat)) (Ma_0 : Nat) (Ma_1 : Nat) (Ma_2 : Nat) (Ma_3 : Nat) (Ma_4 : Nat) (Ma_5 : Nat) (Ma_6 : Nat) (Ma_7 : Nat) (Ma_8 : Nat) (Ma_9 : Nat) (Ma_10 : Nat) (Ma_11 : Nat) (Ma_12 : Nat) (Ma_13 : Nat) (Ma_14 : Nat) (Ma_15 : Nat) (Ma_16 : Nat) (Ma_17 : Nat) (Ma_18 : Nat) (Ma_19 : Nat) (Ma_20 : Nat) (Mv_0 : Int32) (Mv_1 : Int32) (Mv_2 : Int32) (Mv_3 : Int32) (Mv_4 : Int32) (Mv_5 : Int32) (Mv_6 : Int32) (Mv_7 : Int32) (Mv_8 : Int32) (Mv_9 : Int32) (Mv_10 : Int32) (Mv_11 : Int32) (Mv_12 : Int32) (Mv_13 : Int32) (Mv_14 : Int32) (Mf_10 : Nat → Int32) (Mj_0 : Int64) (x1 : Int32) (h_said : SaidB T Mf_10) : Ct l yX12_isBuyer cX12_isBuyer 2 (some .boolean) { frames := 0, cells := 0, slots := 0, locals := 0 } D tc sk [.ref Ma_0, .int x1] [(Ma_0, .inr (12, [.ref Ma_1, .int Mv_0, .int Mv_1, .ref Ma_2, .ref Ma_3, .ref Ma_4, .ref Ma_5, .ref Ma_6, .int Mv_2, .int Mv_3, .int Mv_4, .int Mv_5, .int Mv_6, .int Mv_7, .int Mv_8, .ref Ma_7, .int Mv_9, .ref Ma_8, .int Mv_10, .ref Ma_9, .ref Ma_10, .int Mv_11, .int Mv_12, .int Mv_13, .ref Ma_11, .int Mv_14, .ref Ma_12, .ref Ma_13, .ref Ma_14, .ref Ma_15, .ref Ma_16, .long Mj_0, .ref Ma_17, .ref Ma_18, .ref Ma_19, .ref Ma_20])), (Ma_10, .inl (tc 0, 126, .inl Mf_10))] (fun (v : Option Value) (_ : Unit) => ∃ r : Int32, v = some (.int r) ∧ (((r.toInt = 0 ∧ (x1.toInt < 0 ∨ (Mf_10 3).toInt ≤ x1.toInt)) ∨ (r.toInt = 1 ∧ 0 ≤ x1.toInt ∧ x1.toInt < (Mf_10 3).toInt)))) (fun (_ : Unit) => [(Ma_0, .inr (12, [.ref Ma_1, .int Mv_0, .int Mv_1, .ref Ma_2, .ref Ma_3, .ref Ma_4, .ref Ma_5, .ref Ma_6, .int Mv_2, .int Mv_3, .int Mv_4, .int Mv_5, .int Mv_6, .int Mv_7, .int Mv_8, .ref Ma_7, .int Mv_9, .ref Ma_8, .int Mv_10, .ref Ma_9, .ref Ma_10, .int Mv_11, .int Mv_12, .int Mv_13, .ref Ma_11, .int Mv_14, .ref Ma_12, .ref Ma_13, .ref Ma_14, .ref Ma_15, .ref Ma_16, .long Mj_0, .ref Ma_17, .ref Ma_18, .ref Ma_19, .ref Ma_20])), (Ma_10, .inl (tc 0, 126, .inl Mf_10))]) 0 0 :=
  ct_gX12_isBuyer l D tc sk (fun k => ([Ma_0, Ma_1, Ma_2, Ma_3, Ma_4, Ma_5, Ma_6, Ma_7, Ma_8, Ma_9, Ma_10, Ma_11, Ma_12, Ma_13, Ma_14, Ma_15, Ma_16, Ma_17, Ma_18, Ma_19, Ma_20] : List (Nat)).getD k 0) (fun k => ([Mv_0, Mv_1, Mv_2, Mv_3, Mv_4, Mv_5, Mv_6, Mv_7, Mv_8, Mv_9, Mv_10, Mv_11, Mv_12, Mv_13, Mv_14] : List (Int32)).getD k 0) (fun k => ([(fun _ => 0), (fun _ => 0), (fun _ => 0), (fun _ => 0), (fun _ => 0), (fun _ => 0), (fun _ => 0), (fun _ => 0), (fun _ => 0), (fun _ => 0), Mf_10] : List (Nat → Int32)).getD k (fun _ => 0)) (fun k => ([Mj_0] : List (Int64)).getD k 0) x1 h_said
set_option maxHeartbeats 4000000 in
set_option maxRecDepth 100000 in
theorem ct_gX12_image_i {T : Nat → Option Int32} (l : Launch) (D : va_G) (tc : Nat → ClassId) (sk : (Nat → Nat) × (Nat → Nat)) (Ma : Nat → Nat) (Mv : Nat → Int32) (Mf : Nat → Nat → Int32) (Mj : Nat → Int64) (x1 : Int32) (h_k : 0 ≤ x1.toInt ∧ x1.toInt ≤ 3) (h_said : SaidD T (Mf 10) 999) (h_img : ImgD (Mf 17)) (h_frd : FrcD (Mf 18) (Mf 20) (Mv 1)) (h_frc : -1 ≤ (Mv 11).toInt ∧ (Mv 11).toInt < (Mv 1).toInt ∧ (Mv 1).toInt ≤ 6) : Ct l yX12_image cX12_image 3 (some .int) { frames := 1, cells := 0, slots := 0, locals := 25 } D tc sk [.ref (Ma 0), .int x1] [((Ma 0), .inr (12, [.ref (Ma 1), .int (Mv 0), .int (Mv 1), .ref (Ma 2), .ref (Ma 3), .ref (Ma 4), .ref (Ma 5), .ref (Ma 6), .int (Mv 2), .int (Mv 3), .int (Mv 4), .int (Mv 5), .int (Mv 6), .int (Mv 7), .int (Mv 8), .ref (Ma 7), .int (Mv 9), .ref (Ma 8), .int (Mv 10), .ref (Ma 9), .ref (Ma 10), .int (Mv 11), .int (Mv 12), .int (Mv 13), .ref (Ma 11), .int (Mv 14), .ref (Ma 12), .ref (Ma 13), .ref (Ma 14), .ref (Ma 15), .ref (Ma 16), .long (Mj 0), .ref (Ma 17), .ref (Ma 18), .ref (Ma 19), .ref (Ma 20)])), ((Ma 10), .inl (tc 0, 126, .inl (Mf 10))), ((Ma 17), .inl (tc 0, 504, .inl (Mf 17))), ((Ma 18), .inl (tc 0, 4, .inl (Mf 18))), ((Ma 19), .inl (tc 0, 4, .inl (Mf 19))), ((Ma 20), .inl (tc 3, 4, .inl (Mf 20)))] (fun (v : Option Value) (u : (Nat → Int32) × (Nat → Int32)) => match u with | (oo0x1, oo0x2) => ∃ r : Int32, v = some (.int r) ∧ (True) ∧ (ImgD oo0x1) ∧ (FrcD oo0x2 (upd (Mf 20) (x1 : Int32).toNatClampNeg 1) (Mv 1)) ∧ (ImX (Mf 17) oo0x1 (Mf 10) x1)) (fun (u : (Nat → Int32) × (Nat → Int32)) => match u with | (oo0x1, oo0x2) => [((Ma 0), .inr (12, [.ref (Ma 1), .int (Mv 0), .int (Mv 1), .ref (Ma 2), .ref (Ma 3), .ref (Ma 4), .ref (Ma 5), .ref (Ma 6), .int (Mv 2), .int (Mv 3), .int (Mv 4), .int (Mv 5), .int (Mv 6), .int (Mv 7), .int (Mv 8), .ref (Ma 7), .int (Mv 9), .ref (Ma 8), .int (Mv 10), .ref (Ma 9), .ref (Ma 10), .int (Mv 11), .int (Mv 12), .int (Mv 13), .ref (Ma 11), .int (Mv 14), .ref (Ma 12), .ref (Ma 13), .ref (Ma 14), .ref (Ma 15), .ref (Ma 16), .long (Mj 0), .ref (Ma 17), .ref (Ma 18), .ref (Ma 19), .ref (Ma 20)])), ((Ma 10), .inl (tc 0, 126, .inl (Mf 10))), ((Ma 17), .inl (tc 0, 504, .inl oo0x1)), ((Ma 18), .inl (tc 0, 4, .inl oo0x2)), ((Ma 19), .inl (tc 0, 4, .inl (upd (Mf 19) (x1 : Int32).toNatClampNeg (Mv 12)))), ((Ma 20), .inl (tc 3, 4, .inl (upd (Mf 20) (x1 : Int32).toNatClampNeg 1)))]) 0 0 := by
  refine Ct.start (by decide) (Nat.le_of_ble_eq_true rfl) (fun p e s m below meth c A ls hx hb hr hlk hin hml hown hts hK hX hP hD hA hl hS => ?_)
  have hl : lv_has ls 3 [(0, .ref (Ma 0)), (1, .int x1)] := hl
  have ar_h_said := SaidD.al h_said
  refine lv_iload_n hx hb dX12_image_0 rfl (lv_at hl 1 rfl) ?_
  refine lv_i2l (v := (x1).toInt64) hx hb dX12_image_1 rfl ?_
  refine lv_lconst (v := 0) hx hb dX12_image_2 (by decide) ?_
  refine lv_ldc2 hx hb hown (hts _ k_1651) dX12_image_3 ?_
  refine cS (As := [.long (x1).toInt64, .long 0, .long 3]) (rest := []) (wr := [((Ma 0), .inr (12, [.ref (Ma 1), .int (Mv 0), .int (Mv 1), .ref (Ma 2), .ref (Ma 3), .ref (Ma 4), .ref (Ma 5), .ref (Ma 6), .int (Mv 2), .int (Mv 3), .int (Mv 4), .int (Mv 5), .int (Mv 6), .int (Mv 7), .int (Mv 8), .ref (Ma 7), .int (Mv 9), .ref (Ma 8), .int (Mv 10), .ref (Ma 9), .ref (Ma 10), .int (Mv 11), .int (Mv 12), .int (Mv 13), .ref (Ma 11), .int (Mv 14), .ref (Ma 12), .ref (Ma 13), .ref (Ma 14), .ref (Ma 15), .ref (Ma 16), .long (Mj 0), .ref (Ma 17), .ref (Ma 18), .ref (Ma 19), .ref (Ma 20)])), ((Ma 10), .inl (tc 0, 126, .inl (Mf 10))), ((Ma 17), .inl (tc 0, 504, .inl (Mf 17))), ((Ma 18), .inl (tc 0, 4, .inl (Mf 18))), ((Ma 19), .inl (tc 0, 4, .inl (Mf 19))), ((Ma 20), .inl (tc 3, 4, .inl (Mf 20)))]) ⟨hx, hb, hml, hown, hts⟩ hK hX hA (ct_X12_in2 l D tc sk ((x1).toInt64) 0 3) k_1259 k_1257 k_1258 k_106 pl_X12_in ⟨Nat.le_of_ble_eq_true rfl, Nat.le_of_ble_eq_true rfl⟩ rfl rfl  hP hD hS [] [0, 1, 2, 3, 4, 5] rfl rfl rfl rfl rfl (by decide) rfl hl.1 rfl (Nat.le_of_ble_eq_true rfl) dX12_image_6 ⟨Nat.le_of_ble_eq_true rfl, Nat.le_of_ble_eq_true rfl⟩ (fun v_1 u_2 H locs hv_3 hP₀ hD₀ hS₀ => ?_)
  obtain ⟨r_4, rfl, he_5⟩ := hv_3
  have he_5 : ((r_4.toInt = 0 ∧ ((x1).toInt64.toInt < (0 : Int64).toInt ∨ (3 : Int64).toInt < (x1).toInt64.toInt)) ∨ (r_4.toInt = 1 ∧ (0 : Int64).toInt ≤ (x1).toInt64.toInt ∧ (x1).toInt64.toInt ≤ (3 : Int64).toInt)) := he_5
  refine W.eq (g2 := F0 m 9 ls [.int r_4]) rfl ?_
  replace hP : va_P D classes [((Ma 0), .inr (12, [.ref (Ma 1), .int (Mv 0), .int (Mv 1), .ref (Ma 2), .ref (Ma 3), .ref (Ma 4), .ref (Ma 5), .ref (Ma 6), .int (Mv 2), .int (Mv 3), .int (Mv 4), .int (Mv 5), .int (Mv 6), .int (Mv 7), .int (Mv 8), .ref (Ma 7), .int (Mv 9), .ref (Ma 8), .int (Mv 10), .ref (Ma 9), .ref (Ma 10), .int (Mv 11), .int (Mv 12), .int (Mv 13), .ref (Ma 11), .int (Mv 14), .ref (Ma 12), .ref (Ma 13), .ref (Ma 14), .ref (Ma 15), .ref (Ma 16), .long (Mj 0), .ref (Ma 17), .ref (Ma 18), .ref (Ma 19), .ref (Ma 20)])), ((Ma 10), .inl (tc 0, 126, .inl (Mf 10))), ((Ma 17), .inl (tc 0, 504, .inl (Mf 17))), ((Ma 18), .inl (tc 0, 4, .inl (Mf 18))), ((Ma 19), .inl (tc 0, 4, .inl (Mf 19))), ((Ma 20), .inl (tc 3, 4, .inl (Mf 20)))] H := hP₀
  replace hD : va_D A [((Ma 0), .inr (12, [.ref (Ma 1), .int (Mv 0), .int (Mv 1), .ref (Ma 2), .ref (Ma 3), .ref (Ma 4), .ref (Ma 5), .ref (Ma 6), .int (Mv 2), .int (Mv 3), .int (Mv 4), .int (Mv 5), .int (Mv 6), .int (Mv 7), .int (Mv 8), .ref (Ma 7), .int (Mv 9), .ref (Ma 8), .int (Mv 10), .ref (Ma 9), .ref (Ma 10), .int (Mv 11), .int (Mv 12), .int (Mv 13), .ref (Ma 11), .int (Mv 14), .ref (Ma 12), .ref (Ma 13), .ref (Ma 14), .ref (Ma 15), .ref (Ma 16), .long (Mj 0), .ref (Ma 17), .ref (Ma 18), .ref (Ma 19), .ref (Ma 20)])), ((Ma 10), .inl (tc 0, 126, .inl (Mf 10))), ((Ma 17), .inl (tc 0, 504, .inl (Mf 17))), ((Ma 18), .inl (tc 0, 4, .inl (Mf 18))), ((Ma 19), .inl (tc 0, 4, .inl (Mf 19))), ((Ma 20), .inl (tc 3, 4, .inl (Mf 20)))] := hD₀
  replace hS := hS₀
  clear hP₀ hD₀ hS₀
  have yl_he_5_0 : (0 : Int64).toInt = 0 := by decide
  have yl_he_5_3 : (3 : Int64).toInt = 3 := by decide
  simp only [i32_64] at he_5
  refine lv_if_ne (tgt := 14) hx hb dX12_image_9 (by decide) (fun c_7 => ?_) (fun c_7 => ?_)
  · skip
    refine lv_aload_n hx hb dX12_image_14 rfl (lv_at hl 0 rfl) ?_
    refine gf_X12_74 hx hb hts hown hK hP 0 rfl rfl dX12_image_15 ?_
    refine lv_iload_n hx hb dX12_image_18 rfl (lv_at hl 1 rfl) ?_
    refine lv_iconst (v := 1) hx hb dX12_image_19 (by decide) ?_
    have hi_8 : vp_in x1 4 := by
      have z_1 : ¬ (r_4 : Int32).toInt = (0 : Int32).toInt := fun z => c_7 (Int32.toInt_inj.mp z)
      have y_0 : (0 : Int32).toInt = 0 := by decide
      refine vp_in_iff.mpr ⟨?_, ?_⟩ <;> omega
    refine st_bool hx hb hK hP hD hS 5 3 rfl rfl hi_8 dX12_image_20 (fun g_9 H locs eg_9 hP₀ hD₀ hS₀ => ?_)
    replace hP : va_P D classes [((Ma 0), .inr (12, [.ref (Ma 1), .int (Mv 0), .int (Mv 1), .ref (Ma 2), .ref (Ma 3), .ref (Ma 4), .ref (Ma 5), .ref (Ma 6), .int (Mv 2), .int (Mv 3), .int (Mv 4), .int (Mv 5), .int (Mv 6), .int (Mv 7), .int (Mv 8), .ref (Ma 7), .int (Mv 9), .ref (Ma 8), .int (Mv 10), .ref (Ma 9), .ref (Ma 10), .int (Mv 11), .int (Mv 12), .int (Mv 13), .ref (Ma 11), .int (Mv 14), .ref (Ma 12), .ref (Ma 13), .ref (Ma 14), .ref (Ma 15), .ref (Ma 16), .long (Mj 0), .ref (Ma 17), .ref (Ma 18), .ref (Ma 19), .ref (Ma 20)])), ((Ma 10), .inl (tc 0, 126, .inl (Mf 10))), ((Ma 17), .inl (tc 0, 504, .inl (Mf 17))), ((Ma 18), .inl (tc 0, 4, .inl (Mf 18))), ((Ma 19), .inl (tc 0, 4, .inl (Mf 19))), ((Ma 20), .inl (tc 3, 4, .inl g_9))] H := hP₀
    replace hD : va_D A [((Ma 0), .inr (12, [.ref (Ma 1), .int (Mv 0), .int (Mv 1), .ref (Ma 2), .ref (Ma 3), .ref (Ma 4), .ref (Ma 5), .ref (Ma 6), .int (Mv 2), .int (Mv 3), .int (Mv 4), .int (Mv 5), .int (Mv 6), .int (Mv 7), .int (Mv 8), .ref (Ma 7), .int (Mv 9), .ref (Ma 8), .int (Mv 10), .ref (Ma 9), .ref (Ma 10), .int (Mv 11), .int (Mv 12), .int (Mv 13), .ref (Ma 11), .int (Mv 14), .ref (Ma 12), .ref (Ma 13), .ref (Ma 14), .ref (Ma 15), .ref (Ma 16), .long (Mj 0), .ref (Ma 17), .ref (Ma 18), .ref (Ma 19), .ref (Ma 20)])), ((Ma 10), .inl (tc 0, 126, .inl (Mf 10))), ((Ma 17), .inl (tc 0, 504, .inl (Mf 17))), ((Ma 18), .inl (tc 0, 4, .inl (Mf 18))), ((Ma 19), .inl (tc 0, 4, .inl (Mf 19))), ((Ma 20), .inl (tc 3, 4, .inl g_9))] := hD₀
    replace hS := hS₀
    clear hP₀ hD₀ hS₀
    have eg_9 : g_9 = upd (Mf 20) (x1 : Int32).toNatClampNeg 1 := eg_9
    subst eg_9
    replace hP : va_P D classes [((Ma 0), .inr (12, [.ref (Ma 1), .int (Mv 0), .int (Mv 1), .ref (Ma 2), .ref (Ma 3), .ref (Ma 4), .ref (Ma 5), .ref (Ma 6), .int (Mv 2), .int (Mv 3), .int (Mv 4), .int (Mv 5), .int (Mv 6), .int (Mv 7), .int (Mv 8), .ref (Ma 7), .int (Mv 9), .ref (Ma 8), .int (Mv 10), .ref (Ma 9), .ref (Ma 10), .int (Mv 11), .int (Mv 12), .int (Mv 13), .ref (Ma 11), .int (Mv 14), .ref (Ma 12), .ref (Ma 13), .ref (Ma 14), .ref (Ma 15), .ref (Ma 16), .long (Mj 0), .ref (Ma 17), .ref (Ma 18), .ref (Ma 19), .ref (Ma 20)])), ((Ma 10), .inl (tc 0, 126, .inl (Mf 10))), ((Ma 17), .inl (tc 0, 504, .inl (Mf 17))), ((Ma 18), .inl (tc 0, 4, .inl (Mf 18))), ((Ma 19), .inl (tc 0, 4, .inl (Mf 19))), ((Ma 20), .inl (tc 3, 4, .inl (upd (Mf 20) (x1 : Int32).toNatClampNeg 1)))] H := hP
    replace hD : va_D A [((Ma 0), .inr (12, [.ref (Ma 1), .int (Mv 0), .int (Mv 1), .ref (Ma 2), .ref (Ma 3), .ref (Ma 4), .ref (Ma 5), .ref (Ma 6), .int (Mv 2), .int (Mv 3), .int (Mv 4), .int (Mv 5), .int (Mv 6), .int (Mv 7), .int (Mv 8), .ref (Ma 7), .int (Mv 9), .ref (Ma 8), .int (Mv 10), .ref (Ma 9), .ref (Ma 10), .int (Mv 11), .int (Mv 12), .int (Mv 13), .ref (Ma 11), .int (Mv 14), .ref (Ma 12), .ref (Ma 13), .ref (Ma 14), .ref (Ma 15), .ref (Ma 16), .long (Mj 0), .ref (Ma 17), .ref (Ma 18), .ref (Ma 19), .ref (Ma 20)])), ((Ma 10), .inl (tc 0, 126, .inl (Mf 10))), ((Ma 17), .inl (tc 0, 504, .inl (Mf 17))), ((Ma 18), .inl (tc 0, 4, .inl (Mf 18))), ((Ma 19), .inl (tc 0, 4, .inl (Mf 19))), ((Ma 20), .inl (tc 3, 4, .inl (upd (Mf 20) (x1 : Int32).toNatClampNeg 1)))] := hD
    refine lv_aload_n hx hb dX12_image_21 rfl (lv_at hl 0 rfl) ?_
    refine gf_X12_68 hx hb hts hown hK hP 0 rfl rfl dX12_image_22 ?_
    refine lv_iload_n hx hb dX12_image_25 rfl (lv_at hl 1 rfl) ?_
    refine lv_aload_n hx hb dX12_image_26 rfl (lv_at hl 0 rfl) ?_
    refine gf_X12_42 hx hb hts hown hK hP 0 rfl rfl dX12_image_27 ?_
    have hi_10 : vp_in x1 4 := by
      have z_1 : ¬ (r_4 : Int32).toInt = (0 : Int32).toInt := fun z => c_7 (Int32.toInt_inj.mp z)
      have y_0 : (0 : Int32).toInt = 0 := by decide
      refine vp_in_iff.mpr ⟨?_, ?_⟩ <;> omega
    refine st_int hx hb hK hP hD hS 3 0 rfl rfl hi_10 dX12_image_30 (fun g_11 H locs eg_11 hP₀ hD₀ hS₀ => ?_)
    replace hP : va_P D classes [((Ma 0), .inr (12, [.ref (Ma 1), .int (Mv 0), .int (Mv 1), .ref (Ma 2), .ref (Ma 3), .ref (Ma 4), .ref (Ma 5), .ref (Ma 6), .int (Mv 2), .int (Mv 3), .int (Mv 4), .int (Mv 5), .int (Mv 6), .int (Mv 7), .int (Mv 8), .ref (Ma 7), .int (Mv 9), .ref (Ma 8), .int (Mv 10), .ref (Ma 9), .ref (Ma 10), .int (Mv 11), .int (Mv 12), .int (Mv 13), .ref (Ma 11), .int (Mv 14), .ref (Ma 12), .ref (Ma 13), .ref (Ma 14), .ref (Ma 15), .ref (Ma 16), .long (Mj 0), .ref (Ma 17), .ref (Ma 18), .ref (Ma 19), .ref (Ma 20)])), ((Ma 10), .inl (tc 0, 126, .inl (Mf 10))), ((Ma 17), .inl (tc 0, 504, .inl (Mf 17))), ((Ma 18), .inl (tc 0, 4, .inl g_11)), ((Ma 19), .inl (tc 0, 4, .inl (Mf 19))), ((Ma 20), .inl (tc 3, 4, .inl (upd (Mf 20) (x1 : Int32).toNatClampNeg 1)))] H := hP₀
    replace hD : va_D A [((Ma 0), .inr (12, [.ref (Ma 1), .int (Mv 0), .int (Mv 1), .ref (Ma 2), .ref (Ma 3), .ref (Ma 4), .ref (Ma 5), .ref (Ma 6), .int (Mv 2), .int (Mv 3), .int (Mv 4), .int (Mv 5), .int (Mv 6), .int (Mv 7), .int (Mv 8), .ref (Ma 7), .int (Mv 9), .ref (Ma 8), .int (Mv 10), .ref (Ma 9), .ref (Ma 10), .int (Mv 11), .int (Mv 12), .int (Mv 13), .ref (Ma 11), .int (Mv 14), .ref (Ma 12), .ref (Ma 13), .ref (Ma 14), .ref (Ma 15), .ref (Ma 16), .long (Mj 0), .ref (Ma 17), .ref (Ma 18), .ref (Ma 19), .ref (Ma 20)])), ((Ma 10), .inl (tc 0, 126, .inl (Mf 10))), ((Ma 17), .inl (tc 0, 504, .inl (Mf 17))), ((Ma 18), .inl (tc 0, 4, .inl g_11)), ((Ma 19), .inl (tc 0, 4, .inl (Mf 19))), ((Ma 20), .inl (tc 3, 4, .inl (upd (Mf 20) (x1 : Int32).toNatClampNeg 1)))] := hD₀
    replace hS := hS₀
    clear hP₀ hD₀ hS₀
    have hr_13 : -1 ≤ ((Mv 11) : Int32).toInt ∧ ((Mv 11) : Int32).toInt < (Mv 1).toInt := by
      have z_1 : ¬ (r_4 : Int32).toInt = (0 : Int32).toInt := fun z => c_7 (Int32.toInt_inj.mp z)
      have y_0 : (0 : Int32).toInt = 0 := by decide
      omega
    have pf_12 : FrcD g_11 (upd (Mf 20) (x1 : Int32).toNatClampNeg 1) (Mv 1) := FrcD.put h_frd rfl eg_11 hr_13
    refine lv_aload_n hx hb dX12_image_31 rfl (lv_at hl 0 rfl) ?_
    refine gf_X12_71 hx hb hts hown hK hP 0 rfl rfl dX12_image_32 ?_
    refine lv_iload_n hx hb dX12_image_35 rfl (lv_at hl 1 rfl) ?_
    refine lv_aload_n hx hb dX12_image_36 rfl (lv_at hl 0 rfl) ?_
    refine gf_X12_414 hx hb hts hown hK hP 0 rfl rfl dX12_image_37 ?_
    have hi_14 : vp_in x1 4 := by
      have z_1 : ¬ (r_4 : Int32).toInt = (0 : Int32).toInt := fun z => c_7 (Int32.toInt_inj.mp z)
      have y_0 : (0 : Int32).toInt = 0 := by decide
      refine vp_in_iff.mpr ⟨?_, ?_⟩ <;> omega
    refine st_int hx hb hK hP hD hS 4 0 rfl rfl hi_14 dX12_image_40 (fun g_15 H locs eg_15 hP₀ hD₀ hS₀ => ?_)
    replace hP : va_P D classes [((Ma 0), .inr (12, [.ref (Ma 1), .int (Mv 0), .int (Mv 1), .ref (Ma 2), .ref (Ma 3), .ref (Ma 4), .ref (Ma 5), .ref (Ma 6), .int (Mv 2), .int (Mv 3), .int (Mv 4), .int (Mv 5), .int (Mv 6), .int (Mv 7), .int (Mv 8), .ref (Ma 7), .int (Mv 9), .ref (Ma 8), .int (Mv 10), .ref (Ma 9), .ref (Ma 10), .int (Mv 11), .int (Mv 12), .int (Mv 13), .ref (Ma 11), .int (Mv 14), .ref (Ma 12), .ref (Ma 13), .ref (Ma 14), .ref (Ma 15), .ref (Ma 16), .long (Mj 0), .ref (Ma 17), .ref (Ma 18), .ref (Ma 19), .ref (Ma 20)])), ((Ma 10), .inl (tc 0, 126, .inl (Mf 10))), ((Ma 17), .inl (tc 0, 504, .inl (Mf 17))), ((Ma 18), .inl (tc 0, 4, .inl g_11)), ((Ma 19), .inl (tc 0, 4, .inl g_15)), ((Ma 20), .inl (tc 3, 4, .inl (upd (Mf 20) (x1 : Int32).toNatClampNeg 1)))] H := hP₀
    replace hD : va_D A [((Ma 0), .inr (12, [.ref (Ma 1), .int (Mv 0), .int (Mv 1), .ref (Ma 2), .ref (Ma 3), .ref (Ma 4), .ref (Ma 5), .ref (Ma 6), .int (Mv 2), .int (Mv 3), .int (Mv 4), .int (Mv 5), .int (Mv 6), .int (Mv 7), .int (Mv 8), .ref (Ma 7), .int (Mv 9), .ref (Ma 8), .int (Mv 10), .ref (Ma 9), .ref (Ma 10), .int (Mv 11), .int (Mv 12), .int (Mv 13), .ref (Ma 11), .int (Mv 14), .ref (Ma 12), .ref (Ma 13), .ref (Ma 14), .ref (Ma 15), .ref (Ma 16), .long (Mj 0), .ref (Ma 17), .ref (Ma 18), .ref (Ma 19), .ref (Ma 20)])), ((Ma 10), .inl (tc 0, 126, .inl (Mf 10))), ((Ma 17), .inl (tc 0, 504, .inl (Mf 17))), ((Ma 18), .inl (tc 0, 4, .inl g_11)), ((Ma 19), .inl (tc 0, 4, .inl g_15)), ((Ma 20), .inl (tc 3, 4, .inl (upd (Mf 20) (x1 : Int32).toNatClampNeg 1)))] := hD₀
    replace hS := hS₀
    clear hP₀ hD₀ hS₀
    subst eg_15
    replace hP : va_P D classes [((Ma 0), .inr (12, [.ref (Ma 1), .int (Mv 0), .int (Mv 1), .ref (Ma 2), .ref (Ma 3), .ref (Ma 4), .ref (Ma 5), .ref (Ma 6), .int (Mv 2), .int (Mv 3), .int (Mv 4), .int (Mv 5), .int (Mv 6), .int (Mv 7), .int (Mv 8), .ref (Ma 7), .int (Mv 9), .ref (Ma 8), .int (Mv 10), .ref (Ma 9), .ref (Ma 10), .int (Mv 11), .int (Mv 12), .int (Mv 13), .ref (Ma 11), .int (Mv 14), .ref (Ma 12), .ref (Ma 13), .ref (Ma 14), .ref (Ma 15), .ref (Ma 16), .long (Mj 0), .ref (Ma 17), .ref (Ma 18), .ref (Ma 19), .ref (Ma 20)])), ((Ma 10), .inl (tc 0, 126, .inl (Mf 10))), ((Ma 17), .inl (tc 0, 504, .inl (Mf 17))), ((Ma 18), .inl (tc 0, 4, .inl g_11)), ((Ma 19), .inl (tc 0, 4, .inl (upd (Mf 19) (x1 : Int32).toNatClampNeg (Mv 12)))), ((Ma 20), .inl (tc 3, 4, .inl (upd (Mf 20) (x1 : Int32).toNatClampNeg 1)))] H := hP
    replace hD : va_D A [((Ma 0), .inr (12, [.ref (Ma 1), .int (Mv 0), .int (Mv 1), .ref (Ma 2), .ref (Ma 3), .ref (Ma 4), .ref (Ma 5), .ref (Ma 6), .int (Mv 2), .int (Mv 3), .int (Mv 4), .int (Mv 5), .int (Mv 6), .int (Mv 7), .int (Mv 8), .ref (Ma 7), .int (Mv 9), .ref (Ma 8), .int (Mv 10), .ref (Ma 9), .ref (Ma 10), .int (Mv 11), .int (Mv 12), .int (Mv 13), .ref (Ma 11), .int (Mv 14), .ref (Ma 12), .ref (Ma 13), .ref (Ma 14), .ref (Ma 15), .ref (Ma 16), .long (Mj 0), .ref (Ma 17), .ref (Ma 18), .ref (Ma 19), .ref (Ma 20)])), ((Ma 10), .inl (tc 0, 126, .inl (Mf 10))), ((Ma 17), .inl (tc 0, 504, .inl (Mf 17))), ((Ma 18), .inl (tc 0, 4, .inl g_11)), ((Ma 19), .inl (tc 0, 4, .inl (upd (Mf 19) (x1 : Int32).toNatClampNeg (Mv 12)))), ((Ma 20), .inl (tc 3, 4, .inl (upd (Mf 20) (x1 : Int32).toNatClampNeg 1)))] := hD
    refine lv_iconst (v := 0) hx hb dX12_image_41 (by decide) ?_
    refine lv_istore_n (lv' := [(2, .int 0), (0, .ref (Ma 0)), (1, .int x1)]) hx hb dX12_image_42 rfl hl (by decide) rfl (fun ls hl₀ => ?_)
    replace hl := hl₀
    clear hl₀
    have loop_22 : ∀ (n_20 : Nat) (vy_18 : Int32) (vy_19 : Nat → Int32) (H : Heap) (locs : List Loc) (ls : Array Slot), (126 - (vy_18 : Int32).toInt).toNat < n_20 → (0 ≤ (vy_18 : Int32).toInt) → (ImG (Mf 17) vy_19 (Mf 10) x1 vy_18) → va_P D classes [((Ma 0), .inr (12, [.ref (Ma 1), .int (Mv 0), .int (Mv 1), .ref (Ma 2), .ref (Ma 3), .ref (Ma 4), .ref (Ma 5), .ref (Ma 6), .int (Mv 2), .int (Mv 3), .int (Mv 4), .int (Mv 5), .int (Mv 6), .int (Mv 7), .int (Mv 8), .ref (Ma 7), .int (Mv 9), .ref (Ma 8), .int (Mv 10), .ref (Ma 9), .ref (Ma 10), .int (Mv 11), .int (Mv 12), .int (Mv 13), .ref (Ma 11), .int (Mv 14), .ref (Ma 12), .ref (Ma 13), .ref (Ma 14), .ref (Ma 15), .ref (Ma 16), .long (Mj 0), .ref (Ma 17), .ref (Ma 18), .ref (Ma 19), .ref (Ma 20)])), ((Ma 10), .inl (tc 0, 126, .inl (Mf 10))), ((Ma 17), .inl (tc 0, 504, .inl vy_19)), ((Ma 18), .inl (tc 0, 4, .inl g_11)), ((Ma 19), .inl (tc 0, 4, .inl (upd (Mf 19) (x1 : Int32).toNatClampNeg (Mv 12)))), ((Ma 20), .inl (tc 3, 4, .inl (upd (Mf 20) (x1 : Int32).toNatClampNeg 1)))] H → va_D A [((Ma 0), .inr (12, [.ref (Ma 1), .int (Mv 0), .int (Mv 1), .ref (Ma 2), .ref (Ma 3), .ref (Ma 4), .ref (Ma 5), .ref (Ma 6), .int (Mv 2), .int (Mv 3), .int (Mv 4), .int (Mv 5), .int (Mv 6), .int (Mv 7), .int (Mv 8), .ref (Ma 7), .int (Mv 9), .ref (Ma 8), .int (Mv 10), .ref (Ma 9), .ref (Ma 10), .int (Mv 11), .int (Mv 12), .int (Mv 13), .ref (Ma 11), .int (Mv 14), .ref (Ma 12), .ref (Ma 13), .ref (Ma 14), .ref (Ma 15), .ref (Ma 16), .long (Mj 0), .ref (Ma 17), .ref (Ma 18), .ref (Ma 19), .ref (Ma 20)])), ((Ma 10), .inl (tc 0, 126, .inl (Mf 10))), ((Ma 17), .inl (tc 0, 504, .inl vy_19)), ((Ma 18), .inl (tc 0, 4, .inl g_11)), ((Ma 19), .inl (tc 0, 4, .inl (upd (Mf 19) (x1 : Int32).toNatClampNeg (Mv 12)))), ((Ma 20), .inl (tc 3, 4, .inl (upd (Mf 20) (x1 : Int32).toNatClampNeg 1)))] → va_S A s.heap H locs → lv_has ls 3 [(2, .int vy_18), (0, .ref (Ma 0)), (1, .int x1)] → W p l e ({ frames := 1, cells := 0, slots := 0, locals := 25 }) s m ([.ref (Ma 0), .int x1].toArray) below meth c H locs 0 0 (MQ below (QW (fun (v : Option Value) (u : (Nat → Int32) × (Nat → Int32)) => match u with | (oo0x1, oo0x2) => ∃ r : Int32, v = some (.int r) ∧ (True) ∧ (ImgD oo0x1) ∧ (FrcD oo0x2 (upd (Mf 20) (x1 : Int32).toNatClampNeg 1) (Mv 1)) ∧ (ImX (Mf 17) oo0x1 (Mf 10) x1)) (BW D (fun (u : (Nat → Int32) × (Nat → Int32)) => match u with | (oo0x1, oo0x2) => [((Ma 0), .inr (12, [.ref (Ma 1), .int (Mv 0), .int (Mv 1), .ref (Ma 2), .ref (Ma 3), .ref (Ma 4), .ref (Ma 5), .ref (Ma 6), .int (Mv 2), .int (Mv 3), .int (Mv 4), .int (Mv 5), .int (Mv 6), .int (Mv 7), .int (Mv 8), .ref (Ma 7), .int (Mv 9), .ref (Ma 8), .int (Mv 10), .ref (Ma 9), .ref (Ma 10), .int (Mv 11), .int (Mv 12), .int (Mv 13), .ref (Ma 11), .int (Mv 14), .ref (Ma 12), .ref (Ma 13), .ref (Ma 14), .ref (Ma 15), .ref (Ma 16), .long (Mj 0), .ref (Ma 17), .ref (Ma 18), .ref (Ma 19), .ref (Ma 20)])), ((Ma 10), .inl (tc 0, 126, .inl (Mf 10))), ((Ma 17), .inl (tc 0, 504, .inl oo0x1)), ((Ma 18), .inl (tc 0, 4, .inl oo0x2)), ((Ma 19), .inl (tc 0, 4, .inl (upd (Mf 19) (x1 : Int32).toNatClampNeg (Mv 12)))), ((Ma 20), .inl (tc 3, 4, .inl (upd (Mf 20) (x1 : Int32).toNatClampNeg 1)))]) A) A) ([.ref (Ma 0), .int x1].toArray) s 0 0 A) (F0 m 43 ls []) := by
      clear hP hD hS hl
      intro n_20
      induction n_20 with
      | zero =>
        intro vy_18 vy_19 H locs ls h1
        exact absurd h1 (Nat.not_lt_zero _)
      | succ n_20 ih_21 =>
        intro vy_18 vy_19 H locs ls hn_25 pf_23 pf_24 hP hD hS hl
        refine lv_iload_n hx hb dX12_image_43 rfl (lv_at hl 0 rfl) ?_
        refine lv_bipush (v := 126) hx hb dX12_image_44 (by decide) ?_
        refine lv_icmp_ge (tgt := 72) hx hb dX12_image_46 (by decide) (fun c_26 => ?_) (fun c_26 => ?_)
        · skip
          refine lv_aload_n hx hb dX12_image_72 rfl (lv_at hl 1 rfl) ?_
          refine gf_X12_39 hx hb hts hown hK hP 0 rfl rfl dX12_image_73 ?_
          refine lv_bipush (v := 10) hx hb dX12_image_76 (by decide) ?_
          refine va_iald hx hb hK hP 1 0 rfl rfl (vin_dec (by decide +kernel)) dX12_image_78 ?_
          refine lv_topi (fun x_27 ex_27 => ?_)
          have lx_27 : x_27.toInt = ((Mf 10) 10).toInt := congrArg Int32.toInt ex_27
          have hr_28 : 126 ≤ (vy_18 : Int32).toInt := by
            have z_1 : ¬ (r_4 : Int32).toInt = (0 : Int32).toInt := fun z => c_7 (Int32.toInt_inj.mp z)
            have z_2 := Int32.le_iff_toInt_le.mp c_26
            have y_0 : (0 : Int32).toInt = 0 := by decide
            have y_126 : (126 : Int32).toInt = 126 := by decide
            omega
          have hr_29 : 126 ≤ (vy_18 : Int32).toInt := by
            have z_1 : ¬ (r_4 : Int32).toInt = (0 : Int32).toInt := fun z => c_7 (Int32.toInt_inj.mp z)
            have z_2 := Int32.le_iff_toInt_le.mp c_26
            have y_0 : (0 : Int32).toInt = 0 := by decide
            have y_126 : (126 : Int32).toInt = 126 := by decide
            omega
          exact retI (v := x_27) hx hb hr hlk (rfl) hP hD hS (vy_19, g_11) ⟨_, rfl, trivial, (ImG.done pf_24 h_img (SaidD.o h_said) hr_28), pf_12, (ImG.x pf_24 hr_29)⟩ [0, 1, 2, 3, 4, 5] rfl rfl dX12_image_79 (Nat.le_of_ble_eq_true rfl) (Nat.le_of_ble_eq_true rfl) rfl
        · skip
          refine lv_aload_n hx hb dX12_image_49 rfl (lv_at hl 1 rfl) ?_
          refine gf_X12_65 hx hb hts hown hK hP 0 rfl rfl dX12_image_50 ?_
          refine lv_bipush (v := 126) hx hb dX12_image_53 (by decide) ?_
          refine lv_iload_n hx hb dX12_image_55 rfl (lv_at hl 2 rfl) ?_
          refine lv_imul hx hb dX12_image_56 ?_
          refine lv_topi (fun x_30 ex_30 => ?_)
          refine lv_iload_n hx hb dX12_image_57 rfl (lv_at hl 0 rfl) ?_
          refine lv_iadd hx hb dX12_image_58 ?_
          refine lv_topi (fun x_31 ex_31 => ?_)
          refine lv_aload_n hx hb dX12_image_59 rfl (lv_at hl 1 rfl) ?_
          refine gf_X12_39 hx hb hts hown hK hP 0 rfl rfl dX12_image_60 ?_
          refine lv_iload_n hx hb dX12_image_63 rfl (lv_at hl 0 rfl) ?_
          have hi_32 : vp_in vy_18 126 := by
            have z_1 : ¬ (r_4 : Int32).toInt = (0 : Int32).toInt := fun z => c_7 (Int32.toInt_inj.mp z)
            have z_2 := Int32.lt_iff_toInt_lt.mp (Int32.not_le.mp c_26)
            have y_0 : (0 : Int32).toInt = 0 := by decide
            have y_126 : (126 : Int32).toInt = 126 := by decide
            refine vp_in_iff.mpr ⟨?_, ?_⟩ <;> omega
          refine va_iald hx hb hK hP 1 0 rfl rfl hi_32 dX12_image_64 ?_
          refine lv_topi (fun x_33 ex_33 => ?_)
          have hi_34 : vp_in x_31 504 := by
            have z_1 : ¬ (r_4 : Int32).toInt = (0 : Int32).toInt := fun z => c_7 (Int32.toInt_inj.mp z)
            have z_2 := Int32.lt_iff_toInt_lt.mp (Int32.not_le.mp c_26)
            have y_0 : (0 : Int32).toInt = 0 := by decide
            have y_126 : (126 : Int32).toInt = 126 := by decide
            have t_x_30 : x_30.toInt = (126 : Int32).toInt * (x1 : Int32).toInt := by rw [ex_30]; exact mul_toInt (by first | omega | (rw [y_126]; omega)) (by first | omega | (rw [y_126]; omega))
            rw [y_126] at t_x_30
            have t_x_31 : x_31.toInt = (x_30 : Int32).toInt + (vy_18 : Int32).toInt := by rw [ex_31]; exact add_toInt (by omega) (by omega)
            refine vp_in_iff.mpr ⟨?_, ?_⟩ <;> omega
          refine st_int hx hb hK hP hD hS 2 0 rfl rfl hi_34 dX12_image_65 (fun g_35 H locs eg_35 hP₀ hD₀ hS₀ => ?_)
          replace hP : va_P D classes [((Ma 0), .inr (12, [.ref (Ma 1), .int (Mv 0), .int (Mv 1), .ref (Ma 2), .ref (Ma 3), .ref (Ma 4), .ref (Ma 5), .ref (Ma 6), .int (Mv 2), .int (Mv 3), .int (Mv 4), .int (Mv 5), .int (Mv 6), .int (Mv 7), .int (Mv 8), .ref (Ma 7), .int (Mv 9), .ref (Ma 8), .int (Mv 10), .ref (Ma 9), .ref (Ma 10), .int (Mv 11), .int (Mv 12), .int (Mv 13), .ref (Ma 11), .int (Mv 14), .ref (Ma 12), .ref (Ma 13), .ref (Ma 14), .ref (Ma 15), .ref (Ma 16), .long (Mj 0), .ref (Ma 17), .ref (Ma 18), .ref (Ma 19), .ref (Ma 20)])), ((Ma 10), .inl (tc 0, 126, .inl (Mf 10))), ((Ma 17), .inl (tc 0, 504, .inl g_35)), ((Ma 18), .inl (tc 0, 4, .inl g_11)), ((Ma 19), .inl (tc 0, 4, .inl (upd (Mf 19) (x1 : Int32).toNatClampNeg (Mv 12)))), ((Ma 20), .inl (tc 3, 4, .inl (upd (Mf 20) (x1 : Int32).toNatClampNeg 1)))] H := hP₀
          replace hD : va_D A [((Ma 0), .inr (12, [.ref (Ma 1), .int (Mv 0), .int (Mv 1), .ref (Ma 2), .ref (Ma 3), .ref (Ma 4), .ref (Ma 5), .ref (Ma 6), .int (Mv 2), .int (Mv 3), .int (Mv 4), .int (Mv 5), .int (Mv 6), .int (Mv 7), .int (Mv 8), .ref (Ma 7), .int (Mv 9), .ref (Ma 8), .int (Mv 10), .ref (Ma 9), .ref (Ma 10), .int (Mv 11), .int (Mv 12), .int (Mv 13), .ref (Ma 11), .int (Mv 14), .ref (Ma 12), .ref (Ma 13), .ref (Ma 14), .ref (Ma 15), .ref (Ma 16), .long (Mj 0), .ref (Ma 17), .ref (Ma 18), .ref (Ma 19), .ref (Ma 20)])), ((Ma 10), .inl (tc 0, 126, .inl (Mf 10))), ((Ma 17), .inl (tc 0, 504, .inl g_35)), ((Ma 18), .inl (tc 0, 4, .inl g_11)), ((Ma 19), .inl (tc 0, 4, .inl (upd (Mf 19) (x1 : Int32).toNatClampNeg (Mv 12)))), ((Ma 20), .inl (tc 3, 4, .inl (upd (Mf 20) (x1 : Int32).toNatClampNeg 1)))] := hD₀
          replace hS := hS₀
          clear hP₀ hD₀ hS₀
          obtain ⟨x_36, ex_36⟩ : ∃ y : Int32, y = vy_18 + 1 := ⟨_, rfl⟩
          refine lv_iinc (v := x_36) (lv' := [(2, .int x_36), (0, .ref (Ma 0)), (1, .int x1)]) hx hb dX12_image_66 hl (k := 0) rfl (by rw [ex_36]; rfl) (by decide) rfl (fun ls hl₀ => ?_)
          replace hl := hl₀
          clear hl₀
          refine lv_goto (tgt := 43) hx hb dX12_image_69 (by decide) ?_
          have hb_37 : 126 - (x_36 : Int32).toInt < 126 - (vy_18 : Int32).toInt ∧ 1 ≤ 126 - (vy_18 : Int32).toInt := by
            have z_1 : ¬ (r_4 : Int32).toInt = (0 : Int32).toInt := fun z => c_7 (Int32.toInt_inj.mp z)
            have z_2 := Int32.lt_iff_toInt_lt.mp (Int32.not_le.mp c_26)
            have y_0 : (0 : Int32).toInt = 0 := by decide
            have y_126 : (126 : Int32).toInt = 126 := by decide
            have y_1 : (1 : Int32).toInt = 1 := by decide
            have t_x_36 : x_36.toInt = (vy_18 : Int32).toInt + (1 : Int32).toInt := by rw [ex_36]; exact add_toInt (by omega) (by omega)
            omega
          have ha_38 : 0 ≤ (x_36 : Int32).toInt := by
            have z_1 : ¬ (r_4 : Int32).toInt = (0 : Int32).toInt := fun z => c_7 (Int32.toInt_inj.mp z)
            have z_2 := Int32.lt_iff_toInt_lt.mp (Int32.not_le.mp c_26)
            have y_0 : (0 : Int32).toInt = 0 := by decide
            have y_126 : (126 : Int32).toInt = 126 := by decide
            have y_1 : (1 : Int32).toInt = 1 := by decide
            have t_x_36 : x_36.toInt = (vy_18 : Int32).toInt + (1 : Int32).toInt := by rw [ex_36]; exact add_toInt (by omega) (by omega)
            omega
          have hi_40 : (x_31 : Int32).toInt = 126 * x1.toInt + (vy_18 : Int32).toInt := by
            have z_1 : ¬ (r_4 : Int32).toInt = (0 : Int32).toInt := fun z => c_7 (Int32.toInt_inj.mp z)
            have z_2 := Int32.lt_iff_toInt_lt.mp (Int32.not_le.mp c_26)
            have y_0 : (0 : Int32).toInt = 0 := by decide
            have y_126 : (126 : Int32).toInt = 126 := by decide
            have t_x_30 : x_30.toInt = (126 : Int32).toInt * (x1 : Int32).toInt := by rw [ex_30]; exact mul_toInt (by first | omega | (rw [y_126]; omega)) (by first | omega | (rw [y_126]; omega))
            rw [y_126] at t_x_30
            have t_x_31 : x_31.toInt = (x_30 : Int32).toInt + (vy_18 : Int32).toInt := by rw [ex_31]; exact add_toInt (by omega) (by omega)
            omega
          have hr_41 : 0 ≤ (vy_18 : Int32).toInt ∧ (vy_18 : Int32).toInt < 126 := by
            have z_1 : ¬ (r_4 : Int32).toInt = (0 : Int32).toInt := fun z => c_7 (Int32.toInt_inj.mp z)
            have z_2 := Int32.lt_iff_toInt_lt.mp (Int32.not_le.mp c_26)
            have y_0 : (0 : Int32).toInt = 0 := by decide
            have y_126 : (126 : Int32).toInt = 126 := by decide
            omega
          have hi_42 : (x_36 : Int32).toInt = (vy_18 : Int32).toInt + 1 := by
            have z_1 : ¬ (r_4 : Int32).toInt = (0 : Int32).toInt := fun z => c_7 (Int32.toInt_inj.mp z)
            have z_2 := Int32.lt_iff_toInt_lt.mp (Int32.not_le.mp c_26)
            have y_0 : (0 : Int32).toInt = 0 := by decide
            have y_126 : (126 : Int32).toInt = 126 := by decide
            have y_1 : (1 : Int32).toInt = 1 := by decide
            have t_x_36 : x_36.toInt = (vy_18 : Int32).toInt + (1 : Int32).toInt := by rw [ex_36]; exact add_toInt (by omega) (by omega)
            omega
          have hr_43 : 0 ≤ x1.toInt ∧ x1.toInt < 4 := by
            have z_1 : ¬ (r_4 : Int32).toInt = (0 : Int32).toInt := fun z => c_7 (Int32.toInt_inj.mp z)
            have z_2 := Int32.lt_iff_toInt_lt.mp (Int32.not_le.mp c_26)
            have y_0 : (0 : Int32).toInt = 0 := by decide
            have y_126 : (126 : Int32).toInt = 126 := by decide
            omega
          have ha_39 : ImG (Mf 17) g_35 (Mf 10) x1 x_36 := ImG.step pf_24 eg_35 ex_33 hi_40 hr_41 hi_42 hr_43
          exact ih_21 x_36 g_35 _ _ _ (by omega) ha_38 ha_39 (hP.sub [0, 1, 2, 3, 4, 5] rfl) (hD.sub [0, 1, 2, 3, 4, 5] rfl rfl) hS (lv_sub hl [0, 1, 2] rfl)
    have ha_44 : 0 ≤ (0 : Int32).toInt := by
      have z_1 : ¬ (r_4 : Int32).toInt = (0 : Int32).toInt := fun z => c_7 (Int32.toInt_inj.mp z)
      have y_0 : (0 : Int32).toInt = 0 := by decide
      omega
    have ha_45 : ImG (Mf 17) (Mf 17) (Mf 10) x1 0 := ImG.start (by decide)
    exact loop_22 _ 0 (Mf 17) _ _ _ (Nat.lt_succ_self _) ha_44 ha_45 hP hD hS hl
  · skip
    exfalso
    have z_1 := congrArg Int32.toInt c_7
    have y_0 : (0 : Int32).toInt = 0 := by decide
    omega
set_option maxHeartbeats 4000000 in
set_option maxRecDepth 100000 in
theorem ct_gX12_back_m (l : Launch) (D : va_G) (tc : Nat → ClassId) (sk : (Nat → Nat) × (Nat → Nat)) (Ma : Nat → Nat) (Mv : Nat → Int32) (Mf : Nat → Nat → Int32) (Mj : Nat → Int64) (x1 : Int32) (h_k : 0 ≤ x1.toInt ∧ x1.toInt ≤ 3) (h_m : ¬ ((Mf 20) x1.toNatClampNeg).toInt = 0) (h_img : ImgD (Mf 17)) (h_frd : FrcD (Mf 18) (Mf 20) (Mv 1)) (h_frc : -1 ≤ (Mv 11).toInt ∧ (Mv 11).toInt < (Mv 1).toInt ∧ (Mv 1).toInt ≤ 6) : Ct l yX12_back cX12_back 3 (some .int) { frames := 1, cells := 0, slots := 0, locals := 25 } D tc sk [.ref (Ma 0), .int x1] [((Ma 0), .inr (12, [.ref (Ma 1), .int (Mv 0), .int (Mv 1), .ref (Ma 2), .ref (Ma 3), .ref (Ma 4), .ref (Ma 5), .ref (Ma 6), .int (Mv 2), .int (Mv 3), .int (Mv 4), .int (Mv 5), .int (Mv 6), .int (Mv 7), .int (Mv 8), .ref (Ma 7), .int (Mv 9), .ref (Ma 8), .int (Mv 10), .ref (Ma 9), .ref (Ma 10), .int (Mv 11), .int (Mv 12), .int (Mv 13), .ref (Ma 11), .int (Mv 14), .ref (Ma 12), .ref (Ma 13), .ref (Ma 14), .ref (Ma 15), .ref (Ma 16), .long (Mj 0), .ref (Ma 17), .ref (Ma 18), .ref (Ma 19), .ref (Ma 20)])), ((Ma 10), .inl (tc 0, 126, .inl (Mf 10))), ((Ma 17), .inl (tc 0, 504, .inl (Mf 17))), ((Ma 18), .inl (tc 0, 4, .inl (Mf 18))), ((Ma 19), .inl (tc 0, 4, .inl (Mf 19))), ((Ma 20), .inl (tc 3, 4, .inl (Mf 20)))] (fun (v : Option Value) (u : (Int32) × (Int32) × (Nat → Int32)) => match u with | (oo0x1, oo0x2, oo0x3) => ∃ r : Int32, v = some (.int r) ∧ (True) ∧ (SaiO oo0x3 999) ∧ (-1 ≤ (oo0x1 : Int32).toInt ∧ (oo0x1 : Int32).toInt < ((Mv 1) : Int32).toInt ∧ ((Mv 1) : Int32).toInt ≤ 6) ∧ (BkC oo0x3 (Mf 17) x1)) (fun (u : (Int32) × (Int32) × (Nat → Int32)) => match u with | (oo0x1, oo0x2, oo0x3) => [((Ma 0), .inr (12, [.ref (Ma 1), .int (Mv 0), .int (Mv 1), .ref (Ma 2), .ref (Ma 3), .ref (Ma 4), .ref (Ma 5), .ref (Ma 6), .int (Mv 2), .int (Mv 3), .int (Mv 4), .int (Mv 5), .int (Mv 6), .int (Mv 7), .int (Mv 8), .ref (Ma 7), .int (Mv 9), .ref (Ma 8), .int (Mv 10), .ref (Ma 9), .ref (Ma 10), .int oo0x1, .int oo0x2, .int (Mv 13), .ref (Ma 11), .int 0, .ref (Ma 12), .ref (Ma 13), .ref (Ma 14), .ref (Ma 15), .ref (Ma 16), .long (Mj 0), .ref (Ma 17), .ref (Ma 18), .ref (Ma 19), .ref (Ma 20)])), ((Ma 10), .inl (tc 0, 126, .inl oo0x3)), ((Ma 17), .inl (tc 0, 504, .inl (Mf 17))), ((Ma 18), .inl (tc 0, 4, .inl (Mf 18))), ((Ma 19), .inl (tc 0, 4, .inl (Mf 19))), ((Ma 20), .inl (tc 3, 4, .inl (Mf 20)))]) 0 0 := by
  refine Ct.start (by decide) (Nat.le_of_ble_eq_true rfl) (fun p e s m below meth c A ls hx hb hr hlk hin hml hown hts hK hX hP hD hA hl hS => ?_)
  have hl : lv_has ls 3 [(0, .ref (Ma 0)), (1, .int x1)] := hl
  refine lv_iload_n hx hb dX12_back_0 rfl (lv_at hl 1 rfl) ?_
  refine lv_i2l (v := (x1).toInt64) hx hb dX12_back_1 rfl ?_
  refine lv_lconst (v := 0) hx hb dX12_back_2 (by decide) ?_
  refine lv_ldc2 hx hb hown (hts _ k_1651) dX12_back_3 ?_
  refine cS (As := [.long (x1).toInt64, .long 0, .long 3]) (rest := []) (wr := [((Ma 0), .inr (12, [.ref (Ma 1), .int (Mv 0), .int (Mv 1), .ref (Ma 2), .ref (Ma 3), .ref (Ma 4), .ref (Ma 5), .ref (Ma 6), .int (Mv 2), .int (Mv 3), .int (Mv 4), .int (Mv 5), .int (Mv 6), .int (Mv 7), .int (Mv 8), .ref (Ma 7), .int (Mv 9), .ref (Ma 8), .int (Mv 10), .ref (Ma 9), .ref (Ma 10), .int (Mv 11), .int (Mv 12), .int (Mv 13), .ref (Ma 11), .int (Mv 14), .ref (Ma 12), .ref (Ma 13), .ref (Ma 14), .ref (Ma 15), .ref (Ma 16), .long (Mj 0), .ref (Ma 17), .ref (Ma 18), .ref (Ma 19), .ref (Ma 20)])), ((Ma 10), .inl (tc 0, 126, .inl (Mf 10))), ((Ma 17), .inl (tc 0, 504, .inl (Mf 17))), ((Ma 18), .inl (tc 0, 4, .inl (Mf 18))), ((Ma 19), .inl (tc 0, 4, .inl (Mf 19))), ((Ma 20), .inl (tc 3, 4, .inl (Mf 20)))]) ⟨hx, hb, hml, hown, hts⟩ hK hX hA (ct_X12_in2 l D tc sk ((x1).toInt64) 0 3) k_1259 k_1257 k_1258 k_106 pl_X12_in ⟨Nat.le_of_ble_eq_true rfl, Nat.le_of_ble_eq_true rfl⟩ rfl rfl  hP hD hS [] [0, 1, 2, 3, 4, 5] rfl rfl rfl rfl rfl (by decide) rfl hl.1 rfl (Nat.le_of_ble_eq_true rfl) dX12_back_6 ⟨Nat.le_of_ble_eq_true rfl, Nat.le_of_ble_eq_true rfl⟩ (fun v_1 u_2 H locs hv_3 hP₀ hD₀ hS₀ => ?_)
  obtain ⟨r_4, rfl, he_5⟩ := hv_3
  have he_5 : ((r_4.toInt = 0 ∧ ((x1).toInt64.toInt < (0 : Int64).toInt ∨ (3 : Int64).toInt < (x1).toInt64.toInt)) ∨ (r_4.toInt = 1 ∧ (0 : Int64).toInt ≤ (x1).toInt64.toInt ∧ (x1).toInt64.toInt ≤ (3 : Int64).toInt)) := he_5
  refine W.eq (g2 := F0 m 9 ls [.int r_4]) rfl ?_
  replace hP : va_P D classes [((Ma 0), .inr (12, [.ref (Ma 1), .int (Mv 0), .int (Mv 1), .ref (Ma 2), .ref (Ma 3), .ref (Ma 4), .ref (Ma 5), .ref (Ma 6), .int (Mv 2), .int (Mv 3), .int (Mv 4), .int (Mv 5), .int (Mv 6), .int (Mv 7), .int (Mv 8), .ref (Ma 7), .int (Mv 9), .ref (Ma 8), .int (Mv 10), .ref (Ma 9), .ref (Ma 10), .int (Mv 11), .int (Mv 12), .int (Mv 13), .ref (Ma 11), .int (Mv 14), .ref (Ma 12), .ref (Ma 13), .ref (Ma 14), .ref (Ma 15), .ref (Ma 16), .long (Mj 0), .ref (Ma 17), .ref (Ma 18), .ref (Ma 19), .ref (Ma 20)])), ((Ma 10), .inl (tc 0, 126, .inl (Mf 10))), ((Ma 17), .inl (tc 0, 504, .inl (Mf 17))), ((Ma 18), .inl (tc 0, 4, .inl (Mf 18))), ((Ma 19), .inl (tc 0, 4, .inl (Mf 19))), ((Ma 20), .inl (tc 3, 4, .inl (Mf 20)))] H := hP₀
  replace hD : va_D A [((Ma 0), .inr (12, [.ref (Ma 1), .int (Mv 0), .int (Mv 1), .ref (Ma 2), .ref (Ma 3), .ref (Ma 4), .ref (Ma 5), .ref (Ma 6), .int (Mv 2), .int (Mv 3), .int (Mv 4), .int (Mv 5), .int (Mv 6), .int (Mv 7), .int (Mv 8), .ref (Ma 7), .int (Mv 9), .ref (Ma 8), .int (Mv 10), .ref (Ma 9), .ref (Ma 10), .int (Mv 11), .int (Mv 12), .int (Mv 13), .ref (Ma 11), .int (Mv 14), .ref (Ma 12), .ref (Ma 13), .ref (Ma 14), .ref (Ma 15), .ref (Ma 16), .long (Mj 0), .ref (Ma 17), .ref (Ma 18), .ref (Ma 19), .ref (Ma 20)])), ((Ma 10), .inl (tc 0, 126, .inl (Mf 10))), ((Ma 17), .inl (tc 0, 504, .inl (Mf 17))), ((Ma 18), .inl (tc 0, 4, .inl (Mf 18))), ((Ma 19), .inl (tc 0, 4, .inl (Mf 19))), ((Ma 20), .inl (tc 3, 4, .inl (Mf 20)))] := hD₀
  replace hS := hS₀
  clear hP₀ hD₀ hS₀
  have yl_he_5_0 : (0 : Int64).toInt = 0 := by decide
  have yl_he_5_3 : (3 : Int64).toInt = 3 := by decide
  simp only [i32_64] at he_5
  refine lv_if_eq (tgt := 21) hx hb dX12_back_9 (by decide) (fun c_7 => ?_) (fun c_7 => ?_)
  · skip
    exfalso
    have z_1 := congrArg Int32.toInt c_7
    have y_0 : (0 : Int32).toInt = 0 := by decide
    omega
  · skip
    refine lv_aload_n hx hb dX12_back_12 rfl (lv_at hl 0 rfl) ?_
    refine gf_X12_74 hx hb hts hown hK hP 0 rfl rfl dX12_back_13 ?_
    refine lv_iload_n hx hb dX12_back_16 rfl (lv_at hl 1 rfl) ?_
    have hi_8 : vp_in x1 4 := by
      have z_1 : ¬ (r_4 : Int32).toInt = (0 : Int32).toInt := fun z => c_7 (Int32.toInt_inj.mp z)
      have y_0 : (0 : Int32).toInt = 0 := by decide
      refine vp_in_iff.mpr ⟨?_, ?_⟩ <;> omega
    refine va_zald hx hb hK hP 5 3 rfl rfl hi_8 dX12_back_17 ?_
    refine lv_topi (fun x_9 ex_9 => ?_)
    have kx_9 : x_9.toInt = ((Mf 20) x1.toNatClampNeg).toInt := congrArg Int32.toInt ex_9
    refine lv_if_ne (tgt := 23) hx hb dX12_back_18 (by decide) (fun c_10 => ?_) (fun c_10 => ?_)
    · skip
      refine lv_aload_n hx hb dX12_back_23 rfl (lv_at hl 0 rfl) ?_
      refine lv_aload_n hx hb dX12_back_24 rfl (lv_at hl 0 rfl) ?_
      refine gf_X12_68 hx hb hts hown hK hP 0 rfl rfl dX12_back_25 ?_
      refine lv_iload_n hx hb dX12_back_28 rfl (lv_at hl 1 rfl) ?_
      have hi_11 : vp_in x1 4 := by
        have z_1 : ¬ (r_4 : Int32).toInt = (0 : Int32).toInt := fun z => c_7 (Int32.toInt_inj.mp z)
        have z_2 : ¬ (x_9 : Int32).toInt = (0 : Int32).toInt := fun z => c_10 (Int32.toInt_inj.mp z)
        have y_0 : (0 : Int32).toInt = 0 := by decide
        refine vp_in_iff.mpr ⟨?_, ?_⟩ <;> omega
      refine va_iald hx hb hK hP 3 0 rfl rfl hi_11 dX12_back_29 ?_
      refine lv_topi (fun x_12 ex_12 => ?_)
      have hr_13 : ¬ (x_9 : Int32).toInt = 0 := by
        have z_1 : ¬ (r_4 : Int32).toInt = (0 : Int32).toInt := fun z => c_7 (Int32.toInt_inj.mp z)
        have z_2 : ¬ (x_9 : Int32).toInt = (0 : Int32).toInt := fun z => c_10 (Int32.toInt_inj.mp z)
        have y_0 : (0 : Int32).toInt = 0 := by decide
        omega
      have hr_14 : 0 ≤ x1.toInt ∧ x1.toInt < 4 := by
        have z_1 : ¬ (r_4 : Int32).toInt = (0 : Int32).toInt := fun z => c_7 (Int32.toInt_inj.mp z)
        have z_2 : ¬ (x_9 : Int32).toInt = (0 : Int32).toInt := fun z => c_10 (Int32.toInt_inj.mp z)
        have y_0 : (0 : Int32).toInt = 0 := by decide
        omega
      have fkx_12 := FrcD.x h_frd ex_9 hr_13 ex_12 hr_14
      refine pf_X12_42 hx hb hts hown hK hP hD hS 0 rfl (Nat.le_of_ble_eq_true rfl) rfl rfl dX12_back_30 (fun H locs hP₀ hD₀ hS₀ => ?_)
      replace hP : va_P D classes [((Ma 0), .inr (12, [.ref (Ma 1), .int (Mv 0), .int (Mv 1), .ref (Ma 2), .ref (Ma 3), .ref (Ma 4), .ref (Ma 5), .ref (Ma 6), .int (Mv 2), .int (Mv 3), .int (Mv 4), .int (Mv 5), .int (Mv 6), .int (Mv 7), .int (Mv 8), .ref (Ma 7), .int (Mv 9), .ref (Ma 8), .int (Mv 10), .ref (Ma 9), .ref (Ma 10), .int x_12, .int (Mv 12), .int (Mv 13), .ref (Ma 11), .int (Mv 14), .ref (Ma 12), .ref (Ma 13), .ref (Ma 14), .ref (Ma 15), .ref (Ma 16), .long (Mj 0), .ref (Ma 17), .ref (Ma 18), .ref (Ma 19), .ref (Ma 20)])), ((Ma 10), .inl (tc 0, 126, .inl (Mf 10))), ((Ma 17), .inl (tc 0, 504, .inl (Mf 17))), ((Ma 18), .inl (tc 0, 4, .inl (Mf 18))), ((Ma 19), .inl (tc 0, 4, .inl (Mf 19))), ((Ma 20), .inl (tc 3, 4, .inl (Mf 20)))] H := hP₀
      replace hD : va_D A [((Ma 0), .inr (12, [.ref (Ma 1), .int (Mv 0), .int (Mv 1), .ref (Ma 2), .ref (Ma 3), .ref (Ma 4), .ref (Ma 5), .ref (Ma 6), .int (Mv 2), .int (Mv 3), .int (Mv 4), .int (Mv 5), .int (Mv 6), .int (Mv 7), .int (Mv 8), .ref (Ma 7), .int (Mv 9), .ref (Ma 8), .int (Mv 10), .ref (Ma 9), .ref (Ma 10), .int x_12, .int (Mv 12), .int (Mv 13), .ref (Ma 11), .int (Mv 14), .ref (Ma 12), .ref (Ma 13), .ref (Ma 14), .ref (Ma 15), .ref (Ma 16), .long (Mj 0), .ref (Ma 17), .ref (Ma 18), .ref (Ma 19), .ref (Ma 20)])), ((Ma 10), .inl (tc 0, 126, .inl (Mf 10))), ((Ma 17), .inl (tc 0, 504, .inl (Mf 17))), ((Ma 18), .inl (tc 0, 4, .inl (Mf 18))), ((Ma 19), .inl (tc 0, 4, .inl (Mf 19))), ((Ma 20), .inl (tc 3, 4, .inl (Mf 20)))] := hD₀
      replace hS := hS₀
      clear hP₀ hD₀ hS₀
      refine lv_aload_n hx hb dX12_back_33 rfl (lv_at hl 0 rfl) ?_
      refine lv_aload_n hx hb dX12_back_34 rfl (lv_at hl 0 rfl) ?_
      refine gf_X12_71 hx hb hts hown hK hP 0 rfl rfl dX12_back_35 ?_
      refine lv_iload_n hx hb dX12_back_38 rfl (lv_at hl 1 rfl) ?_
      have hi_15 : vp_in x1 4 := by
        have z_1 : ¬ (r_4 : Int32).toInt = (0 : Int32).toInt := fun z => c_7 (Int32.toInt_inj.mp z)
        have z_2 : ¬ (x_9 : Int32).toInt = (0 : Int32).toInt := fun z => c_10 (Int32.toInt_inj.mp z)
        have y_0 : (0 : Int32).toInt = 0 := by decide
        refine vp_in_iff.mpr ⟨?_, ?_⟩ <;> omega
      refine va_iald hx hb hK hP 4 0 rfl rfl hi_15 dX12_back_39 ?_
      refine lv_topi (fun x_16 ex_16 => ?_)
      have kx_16 : x_16.toInt = ((Mf 19) x1.toNatClampNeg).toInt := congrArg Int32.toInt ex_16
      refine pf_X12_414 hx hb hts hown hK hP hD hS 0 rfl (Nat.le_of_ble_eq_true rfl) rfl rfl dX12_back_40 (fun H locs hP₀ hD₀ hS₀ => ?_)
      replace hP : va_P D classes [((Ma 0), .inr (12, [.ref (Ma 1), .int (Mv 0), .int (Mv 1), .ref (Ma 2), .ref (Ma 3), .ref (Ma 4), .ref (Ma 5), .ref (Ma 6), .int (Mv 2), .int (Mv 3), .int (Mv 4), .int (Mv 5), .int (Mv 6), .int (Mv 7), .int (Mv 8), .ref (Ma 7), .int (Mv 9), .ref (Ma 8), .int (Mv 10), .ref (Ma 9), .ref (Ma 10), .int x_12, .int x_16, .int (Mv 13), .ref (Ma 11), .int (Mv 14), .ref (Ma 12), .ref (Ma 13), .ref (Ma 14), .ref (Ma 15), .ref (Ma 16), .long (Mj 0), .ref (Ma 17), .ref (Ma 18), .ref (Ma 19), .ref (Ma 20)])), ((Ma 10), .inl (tc 0, 126, .inl (Mf 10))), ((Ma 17), .inl (tc 0, 504, .inl (Mf 17))), ((Ma 18), .inl (tc 0, 4, .inl (Mf 18))), ((Ma 19), .inl (tc 0, 4, .inl (Mf 19))), ((Ma 20), .inl (tc 3, 4, .inl (Mf 20)))] H := hP₀
      replace hD : va_D A [((Ma 0), .inr (12, [.ref (Ma 1), .int (Mv 0), .int (Mv 1), .ref (Ma 2), .ref (Ma 3), .ref (Ma 4), .ref (Ma 5), .ref (Ma 6), .int (Mv 2), .int (Mv 3), .int (Mv 4), .int (Mv 5), .int (Mv 6), .int (Mv 7), .int (Mv 8), .ref (Ma 7), .int (Mv 9), .ref (Ma 8), .int (Mv 10), .ref (Ma 9), .ref (Ma 10), .int x_12, .int x_16, .int (Mv 13), .ref (Ma 11), .int (Mv 14), .ref (Ma 12), .ref (Ma 13), .ref (Ma 14), .ref (Ma 15), .ref (Ma 16), .long (Mj 0), .ref (Ma 17), .ref (Ma 18), .ref (Ma 19), .ref (Ma 20)])), ((Ma 10), .inl (tc 0, 126, .inl (Mf 10))), ((Ma 17), .inl (tc 0, 504, .inl (Mf 17))), ((Ma 18), .inl (tc 0, 4, .inl (Mf 18))), ((Ma 19), .inl (tc 0, 4, .inl (Mf 19))), ((Ma 20), .inl (tc 3, 4, .inl (Mf 20)))] := hD₀
      replace hS := hS₀
      clear hP₀ hD₀ hS₀
      refine lv_aload_n hx hb dX12_back_43 rfl (lv_at hl 0 rfl) ?_
      refine lv_iconst (v := 0) hx hb dX12_back_44 (by decide) ?_
      refine pf_X12_265 hx hb hts hown hK hP hD hS 0 rfl (Nat.le_of_ble_eq_true rfl) rfl rfl dX12_back_45 (fun H locs hP₀ hD₀ hS₀ => ?_)
      replace hP : va_P D classes [((Ma 0), .inr (12, [.ref (Ma 1), .int (Mv 0), .int (Mv 1), .ref (Ma 2), .ref (Ma 3), .ref (Ma 4), .ref (Ma 5), .ref (Ma 6), .int (Mv 2), .int (Mv 3), .int (Mv 4), .int (Mv 5), .int (Mv 6), .int (Mv 7), .int (Mv 8), .ref (Ma 7), .int (Mv 9), .ref (Ma 8), .int (Mv 10), .ref (Ma 9), .ref (Ma 10), .int x_12, .int x_16, .int (Mv 13), .ref (Ma 11), .int 0, .ref (Ma 12), .ref (Ma 13), .ref (Ma 14), .ref (Ma 15), .ref (Ma 16), .long (Mj 0), .ref (Ma 17), .ref (Ma 18), .ref (Ma 19), .ref (Ma 20)])), ((Ma 10), .inl (tc 0, 126, .inl (Mf 10))), ((Ma 17), .inl (tc 0, 504, .inl (Mf 17))), ((Ma 18), .inl (tc 0, 4, .inl (Mf 18))), ((Ma 19), .inl (tc 0, 4, .inl (Mf 19))), ((Ma 20), .inl (tc 3, 4, .inl (Mf 20)))] H := hP₀
      replace hD : va_D A [((Ma 0), .inr (12, [.ref (Ma 1), .int (Mv 0), .int (Mv 1), .ref (Ma 2), .ref (Ma 3), .ref (Ma 4), .ref (Ma 5), .ref (Ma 6), .int (Mv 2), .int (Mv 3), .int (Mv 4), .int (Mv 5), .int (Mv 6), .int (Mv 7), .int (Mv 8), .ref (Ma 7), .int (Mv 9), .ref (Ma 8), .int (Mv 10), .ref (Ma 9), .ref (Ma 10), .int x_12, .int x_16, .int (Mv 13), .ref (Ma 11), .int 0, .ref (Ma 12), .ref (Ma 13), .ref (Ma 14), .ref (Ma 15), .ref (Ma 16), .long (Mj 0), .ref (Ma 17), .ref (Ma 18), .ref (Ma 19), .ref (Ma 20)])), ((Ma 10), .inl (tc 0, 126, .inl (Mf 10))), ((Ma 17), .inl (tc 0, 504, .inl (Mf 17))), ((Ma 18), .inl (tc 0, 4, .inl (Mf 18))), ((Ma 19), .inl (tc 0, 4, .inl (Mf 19))), ((Ma 20), .inl (tc 3, 4, .inl (Mf 20)))] := hD₀
      replace hS := hS₀
      clear hP₀ hD₀ hS₀
      refine lv_iconst (v := 0) hx hb dX12_back_48 (by decide) ?_
      refine lv_istore_n (lv' := [(2, .int 0), (0, .ref (Ma 0)), (1, .int x1)]) hx hb dX12_back_49 rfl hl (by decide) rfl (fun ls hl₀ => ?_)
      replace hl := hl₀
      clear hl₀
      have loop_23 : ∀ (n_21 : Nat) (vy_19 : Int32) (vy_20 : Nat → Int32) (H : Heap) (locs : List Loc) (ls : Array Slot), (126 - (vy_19 : Int32).toInt).toNat < n_21 → (0 ≤ (vy_19 : Int32).toInt) → (BkK vy_20 (Mf 17) x1 vy_19) → va_P D classes [((Ma 0), .inr (12, [.ref (Ma 1), .int (Mv 0), .int (Mv 1), .ref (Ma 2), .ref (Ma 3), .ref (Ma 4), .ref (Ma 5), .ref (Ma 6), .int (Mv 2), .int (Mv 3), .int (Mv 4), .int (Mv 5), .int (Mv 6), .int (Mv 7), .int (Mv 8), .ref (Ma 7), .int (Mv 9), .ref (Ma 8), .int (Mv 10), .ref (Ma 9), .ref (Ma 10), .int x_12, .int x_16, .int (Mv 13), .ref (Ma 11), .int 0, .ref (Ma 12), .ref (Ma 13), .ref (Ma 14), .ref (Ma 15), .ref (Ma 16), .long (Mj 0), .ref (Ma 17), .ref (Ma 18), .ref (Ma 19), .ref (Ma 20)])), ((Ma 10), .inl (tc 0, 126, .inl vy_20)), ((Ma 17), .inl (tc 0, 504, .inl (Mf 17))), ((Ma 18), .inl (tc 0, 4, .inl (Mf 18))), ((Ma 19), .inl (tc 0, 4, .inl (Mf 19))), ((Ma 20), .inl (tc 3, 4, .inl (Mf 20)))] H → va_D A [((Ma 0), .inr (12, [.ref (Ma 1), .int (Mv 0), .int (Mv 1), .ref (Ma 2), .ref (Ma 3), .ref (Ma 4), .ref (Ma 5), .ref (Ma 6), .int (Mv 2), .int (Mv 3), .int (Mv 4), .int (Mv 5), .int (Mv 6), .int (Mv 7), .int (Mv 8), .ref (Ma 7), .int (Mv 9), .ref (Ma 8), .int (Mv 10), .ref (Ma 9), .ref (Ma 10), .int x_12, .int x_16, .int (Mv 13), .ref (Ma 11), .int 0, .ref (Ma 12), .ref (Ma 13), .ref (Ma 14), .ref (Ma 15), .ref (Ma 16), .long (Mj 0), .ref (Ma 17), .ref (Ma 18), .ref (Ma 19), .ref (Ma 20)])), ((Ma 10), .inl (tc 0, 126, .inl vy_20)), ((Ma 17), .inl (tc 0, 504, .inl (Mf 17))), ((Ma 18), .inl (tc 0, 4, .inl (Mf 18))), ((Ma 19), .inl (tc 0, 4, .inl (Mf 19))), ((Ma 20), .inl (tc 3, 4, .inl (Mf 20)))] → va_S A s.heap H locs → lv_has ls 3 [(2, .int vy_19), (0, .ref (Ma 0)), (1, .int x1)] → W p l e ({ frames := 1, cells := 0, slots := 0, locals := 25 }) s m ([.ref (Ma 0), .int x1].toArray) below meth c H locs 0 0 (MQ below (QW (fun (v : Option Value) (u : (Int32) × (Int32) × (Nat → Int32)) => match u with | (oo0x1, oo0x2, oo0x3) => ∃ r : Int32, v = some (.int r) ∧ (True) ∧ (SaiO oo0x3 999) ∧ (-1 ≤ (oo0x1 : Int32).toInt ∧ (oo0x1 : Int32).toInt < ((Mv 1) : Int32).toInt ∧ ((Mv 1) : Int32).toInt ≤ 6) ∧ (BkC oo0x3 (Mf 17) x1)) (BW D (fun (u : (Int32) × (Int32) × (Nat → Int32)) => match u with | (oo0x1, oo0x2, oo0x3) => [((Ma 0), .inr (12, [.ref (Ma 1), .int (Mv 0), .int (Mv 1), .ref (Ma 2), .ref (Ma 3), .ref (Ma 4), .ref (Ma 5), .ref (Ma 6), .int (Mv 2), .int (Mv 3), .int (Mv 4), .int (Mv 5), .int (Mv 6), .int (Mv 7), .int (Mv 8), .ref (Ma 7), .int (Mv 9), .ref (Ma 8), .int (Mv 10), .ref (Ma 9), .ref (Ma 10), .int oo0x1, .int oo0x2, .int (Mv 13), .ref (Ma 11), .int 0, .ref (Ma 12), .ref (Ma 13), .ref (Ma 14), .ref (Ma 15), .ref (Ma 16), .long (Mj 0), .ref (Ma 17), .ref (Ma 18), .ref (Ma 19), .ref (Ma 20)])), ((Ma 10), .inl (tc 0, 126, .inl oo0x3)), ((Ma 17), .inl (tc 0, 504, .inl (Mf 17))), ((Ma 18), .inl (tc 0, 4, .inl (Mf 18))), ((Ma 19), .inl (tc 0, 4, .inl (Mf 19))), ((Ma 20), .inl (tc 3, 4, .inl (Mf 20)))]) A) A) ([.ref (Ma 0), .int x1].toArray) s 0 0 A) (F0 m 50 ls []) := by
        clear hP hD hS hl
        intro n_21
        induction n_21 with
        | zero =>
          intro vy_19 vy_20 H locs ls h1
          exact absurd h1 (Nat.not_lt_zero _)
        | succ n_21 ih_22 =>
          intro vy_19 vy_20 H locs ls hn_26 pf_24 pf_25 hP hD hS hl
          refine lv_iload_n hx hb dX12_back_50 rfl (lv_at hl 0 rfl) ?_
          refine lv_bipush (v := 126) hx hb dX12_back_51 (by decide) ?_
          refine lv_icmp_ge (tgt := 79) hx hb dX12_back_53 (by decide) (fun c_27 => ?_) (fun c_27 => ?_)
          · skip
            refine lv_aload_n hx hb dX12_back_79 rfl (lv_at hl 1 rfl) ?_
            refine gf_X12_39 hx hb hts hown hK hP 0 rfl rfl dX12_back_80 ?_
            refine lv_bipush (v := 10) hx hb dX12_back_83 (by decide) ?_
            refine va_iald hx hb hK hP 1 0 rfl rfl (vin_dec (by decide +kernel)) dX12_back_85 ?_
            refine lv_topi (fun x_28 ex_28 => ?_)
            have lx_28 : x_28.toInt = (vy_20 10).toInt := congrArg Int32.toInt ex_28
            have hr_29 : 126 ≤ (vy_19 : Int32).toInt := by
              have z_1 : ¬ (r_4 : Int32).toInt = (0 : Int32).toInt := fun z => c_7 (Int32.toInt_inj.mp z)
              have z_2 : ¬ (x_9 : Int32).toInt = (0 : Int32).toInt := fun z => c_10 (Int32.toInt_inj.mp z)
              have z_3 := Int32.le_iff_toInt_le.mp c_27
              have y_0 : (0 : Int32).toInt = 0 := by decide
              have y_126 : (126 : Int32).toInt = 126 := by decide
              omega
            have hr_30 : 0 ≤ x1.toInt ∧ x1.toInt < 4 := by
              have z_1 : ¬ (r_4 : Int32).toInt = (0 : Int32).toInt := fun z => c_7 (Int32.toInt_inj.mp z)
              have z_2 : ¬ (x_9 : Int32).toInt = (0 : Int32).toInt := fun z => c_10 (Int32.toInt_inj.mp z)
              have z_3 := Int32.le_iff_toInt_le.mp c_27
              have y_0 : (0 : Int32).toInt = 0 := by decide
              have y_126 : (126 : Int32).toInt = 126 := by decide
              omega
            have ha_31 : -1 ≤ (x_12 : Int32).toInt ∧ (x_12 : Int32).toInt < ((Mv 1) : Int32).toInt ∧ ((Mv 1) : Int32).toInt ≤ 6 := by
              have z_1 : ¬ (r_4 : Int32).toInt = (0 : Int32).toInt := fun z => c_7 (Int32.toInt_inj.mp z)
              have z_2 : ¬ (x_9 : Int32).toInt = (0 : Int32).toInt := fun z => c_10 (Int32.toInt_inj.mp z)
              have z_3 := Int32.le_iff_toInt_le.mp c_27
              have y_0 : (0 : Int32).toInt = 0 := by decide
              have y_126 : (126 : Int32).toInt = 126 := by decide
              omega
            have hr_32 : 126 ≤ (vy_19 : Int32).toInt := by
              have z_1 : ¬ (r_4 : Int32).toInt = (0 : Int32).toInt := fun z => c_7 (Int32.toInt_inj.mp z)
              have z_2 : ¬ (x_9 : Int32).toInt = (0 : Int32).toInt := fun z => c_10 (Int32.toInt_inj.mp z)
              have z_3 := Int32.le_iff_toInt_le.mp c_27
              have y_0 : (0 : Int32).toInt = 0 := by decide
              have y_126 : (126 : Int32).toInt = 126 := by decide
              omega
            exact retI (v := x_28) hx hb hr hlk (rfl) hP hD hS (x_12, x_16, vy_20) ⟨_, rfl, trivial, (BkK.done pf_25 h_img hr_29 hr_30), ha_31, (BkK.c pf_25 hr_32)⟩ [0, 1, 2, 3, 4, 5] rfl rfl dX12_back_86 (Nat.le_of_ble_eq_true rfl) (Nat.le_of_ble_eq_true rfl) rfl
          · skip
            refine lv_aload_n hx hb dX12_back_56 rfl (lv_at hl 1 rfl) ?_
            refine gf_X12_39 hx hb hts hown hK hP 0 rfl rfl dX12_back_57 ?_
            refine lv_iload_n hx hb dX12_back_60 rfl (lv_at hl 0 rfl) ?_
            refine lv_aload_n hx hb dX12_back_61 rfl (lv_at hl 1 rfl) ?_
            refine gf_X12_65 hx hb hts hown hK hP 0 rfl rfl dX12_back_62 ?_
            refine lv_bipush (v := 126) hx hb dX12_back_65 (by decide) ?_
            refine lv_iload_n hx hb dX12_back_67 rfl (lv_at hl 2 rfl) ?_
            refine lv_imul hx hb dX12_back_68 ?_
            refine lv_topi (fun x_33 ex_33 => ?_)
            refine lv_iload_n hx hb dX12_back_69 rfl (lv_at hl 0 rfl) ?_
            refine lv_iadd hx hb dX12_back_70 ?_
            refine lv_topi (fun x_34 ex_34 => ?_)
            have hi_35 : vp_in x_34 504 := by
              have z_1 : ¬ (r_4 : Int32).toInt = (0 : Int32).toInt := fun z => c_7 (Int32.toInt_inj.mp z)
              have z_2 : ¬ (x_9 : Int32).toInt = (0 : Int32).toInt := fun z => c_10 (Int32.toInt_inj.mp z)
              have z_3 := Int32.lt_iff_toInt_lt.mp (Int32.not_le.mp c_27)
              have y_0 : (0 : Int32).toInt = 0 := by decide
              have y_126 : (126 : Int32).toInt = 126 := by decide
              have t_x_33 : x_33.toInt = (126 : Int32).toInt * (x1 : Int32).toInt := by rw [ex_33]; exact mul_toInt (by first | omega | (rw [y_126]; omega)) (by first | omega | (rw [y_126]; omega))
              rw [y_126] at t_x_33
              have t_x_34 : x_34.toInt = (x_33 : Int32).toInt + (vy_19 : Int32).toInt := by rw [ex_34]; exact add_toInt (by omega) (by omega)
              refine vp_in_iff.mpr ⟨?_, ?_⟩ <;> omega
            refine va_iald hx hb hK hP 2 0 rfl rfl hi_35 dX12_back_71 ?_
            refine lv_topi (fun x_36 ex_36 => ?_)
            have hi_37 : vp_in vy_19 126 := by
              have z_1 : ¬ (r_4 : Int32).toInt = (0 : Int32).toInt := fun z => c_7 (Int32.toInt_inj.mp z)
              have z_2 : ¬ (x_9 : Int32).toInt = (0 : Int32).toInt := fun z => c_10 (Int32.toInt_inj.mp z)
              have z_3 := Int32.lt_iff_toInt_lt.mp (Int32.not_le.mp c_27)
              have y_0 : (0 : Int32).toInt = 0 := by decide
              have y_126 : (126 : Int32).toInt = 126 := by decide
              refine vp_in_iff.mpr ⟨?_, ?_⟩ <;> omega
            refine st_int hx hb hK hP hD hS 1 0 rfl rfl hi_37 dX12_back_72 (fun g_38 H locs eg_38 hP₀ hD₀ hS₀ => ?_)
            replace hP : va_P D classes [((Ma 0), .inr (12, [.ref (Ma 1), .int (Mv 0), .int (Mv 1), .ref (Ma 2), .ref (Ma 3), .ref (Ma 4), .ref (Ma 5), .ref (Ma 6), .int (Mv 2), .int (Mv 3), .int (Mv 4), .int (Mv 5), .int (Mv 6), .int (Mv 7), .int (Mv 8), .ref (Ma 7), .int (Mv 9), .ref (Ma 8), .int (Mv 10), .ref (Ma 9), .ref (Ma 10), .int x_12, .int x_16, .int (Mv 13), .ref (Ma 11), .int 0, .ref (Ma 12), .ref (Ma 13), .ref (Ma 14), .ref (Ma 15), .ref (Ma 16), .long (Mj 0), .ref (Ma 17), .ref (Ma 18), .ref (Ma 19), .ref (Ma 20)])), ((Ma 10), .inl (tc 0, 126, .inl g_38)), ((Ma 17), .inl (tc 0, 504, .inl (Mf 17))), ((Ma 18), .inl (tc 0, 4, .inl (Mf 18))), ((Ma 19), .inl (tc 0, 4, .inl (Mf 19))), ((Ma 20), .inl (tc 3, 4, .inl (Mf 20)))] H := hP₀
            replace hD : va_D A [((Ma 0), .inr (12, [.ref (Ma 1), .int (Mv 0), .int (Mv 1), .ref (Ma 2), .ref (Ma 3), .ref (Ma 4), .ref (Ma 5), .ref (Ma 6), .int (Mv 2), .int (Mv 3), .int (Mv 4), .int (Mv 5), .int (Mv 6), .int (Mv 7), .int (Mv 8), .ref (Ma 7), .int (Mv 9), .ref (Ma 8), .int (Mv 10), .ref (Ma 9), .ref (Ma 10), .int x_12, .int x_16, .int (Mv 13), .ref (Ma 11), .int 0, .ref (Ma 12), .ref (Ma 13), .ref (Ma 14), .ref (Ma 15), .ref (Ma 16), .long (Mj 0), .ref (Ma 17), .ref (Ma 18), .ref (Ma 19), .ref (Ma 20)])), ((Ma 10), .inl (tc 0, 126, .inl g_38)), ((Ma 17), .inl (tc 0, 504, .inl (Mf 17))), ((Ma 18), .inl (tc 0, 4, .inl (Mf 18))), ((Ma 19), .inl (tc 0, 4, .inl (Mf 19))), ((Ma 20), .inl (tc 3, 4, .inl (Mf 20)))] := hD₀
            replace hS := hS₀
            clear hP₀ hD₀ hS₀
            obtain ⟨x_39, ex_39⟩ : ∃ y : Int32, y = vy_19 + 1 := ⟨_, rfl⟩
            refine lv_iinc (v := x_39) (lv' := [(2, .int x_39), (0, .ref (Ma 0)), (1, .int x1)]) hx hb dX12_back_73 hl (k := 0) rfl (by rw [ex_39]; rfl) (by decide) rfl (fun ls hl₀ => ?_)
            replace hl := hl₀
            clear hl₀
            refine lv_goto (tgt := 50) hx hb dX12_back_76 (by decide) ?_
            have hb_40 : 126 - (x_39 : Int32).toInt < 126 - (vy_19 : Int32).toInt ∧ 1 ≤ 126 - (vy_19 : Int32).toInt := by
              have z_1 : ¬ (r_4 : Int32).toInt = (0 : Int32).toInt := fun z => c_7 (Int32.toInt_inj.mp z)
              have z_2 : ¬ (x_9 : Int32).toInt = (0 : Int32).toInt := fun z => c_10 (Int32.toInt_inj.mp z)
              have z_3 := Int32.lt_iff_toInt_lt.mp (Int32.not_le.mp c_27)
              have y_0 : (0 : Int32).toInt = 0 := by decide
              have y_126 : (126 : Int32).toInt = 126 := by decide
              have y_1 : (1 : Int32).toInt = 1 := by decide
              have t_x_39 : x_39.toInt = (vy_19 : Int32).toInt + (1 : Int32).toInt := by rw [ex_39]; exact add_toInt (by omega) (by omega)
              omega
            have ha_41 : 0 ≤ (x_39 : Int32).toInt := by
              have z_1 : ¬ (r_4 : Int32).toInt = (0 : Int32).toInt := fun z => c_7 (Int32.toInt_inj.mp z)
              have z_2 : ¬ (x_9 : Int32).toInt = (0 : Int32).toInt := fun z => c_10 (Int32.toInt_inj.mp z)
              have z_3 := Int32.lt_iff_toInt_lt.mp (Int32.not_le.mp c_27)
              have y_0 : (0 : Int32).toInt = 0 := by decide
              have y_126 : (126 : Int32).toInt = 126 := by decide
              have y_1 : (1 : Int32).toInt = 1 := by decide
              have t_x_39 : x_39.toInt = (vy_19 : Int32).toInt + (1 : Int32).toInt := by rw [ex_39]; exact add_toInt (by omega) (by omega)
              omega
            have hi_43 : (x_34 : Int32).toInt = 126 * x1.toInt + (vy_19 : Int32).toInt := by
              have z_1 : ¬ (r_4 : Int32).toInt = (0 : Int32).toInt := fun z => c_7 (Int32.toInt_inj.mp z)
              have z_2 : ¬ (x_9 : Int32).toInt = (0 : Int32).toInt := fun z => c_10 (Int32.toInt_inj.mp z)
              have z_3 := Int32.lt_iff_toInt_lt.mp (Int32.not_le.mp c_27)
              have y_0 : (0 : Int32).toInt = 0 := by decide
              have y_126 : (126 : Int32).toInt = 126 := by decide
              have t_x_33 : x_33.toInt = (126 : Int32).toInt * (x1 : Int32).toInt := by rw [ex_33]; exact mul_toInt (by first | omega | (rw [y_126]; omega)) (by first | omega | (rw [y_126]; omega))
              rw [y_126] at t_x_33
              have t_x_34 : x_34.toInt = (x_33 : Int32).toInt + (vy_19 : Int32).toInt := by rw [ex_34]; exact add_toInt (by omega) (by omega)
              omega
            have hr_44 : 0 ≤ (vy_19 : Int32).toInt ∧ (vy_19 : Int32).toInt < 126 := by
              have z_1 : ¬ (r_4 : Int32).toInt = (0 : Int32).toInt := fun z => c_7 (Int32.toInt_inj.mp z)
              have z_2 : ¬ (x_9 : Int32).toInt = (0 : Int32).toInt := fun z => c_10 (Int32.toInt_inj.mp z)
              have z_3 := Int32.lt_iff_toInt_lt.mp (Int32.not_le.mp c_27)
              have y_0 : (0 : Int32).toInt = 0 := by decide
              have y_126 : (126 : Int32).toInt = 126 := by decide
              omega
            have hi_45 : (x_39 : Int32).toInt = (vy_19 : Int32).toInt + 1 := by
              have z_1 : ¬ (r_4 : Int32).toInt = (0 : Int32).toInt := fun z => c_7 (Int32.toInt_inj.mp z)
              have z_2 : ¬ (x_9 : Int32).toInt = (0 : Int32).toInt := fun z => c_10 (Int32.toInt_inj.mp z)
              have z_3 := Int32.lt_iff_toInt_lt.mp (Int32.not_le.mp c_27)
              have y_0 : (0 : Int32).toInt = 0 := by decide
              have y_126 : (126 : Int32).toInt = 126 := by decide
              have y_1 : (1 : Int32).toInt = 1 := by decide
              have t_x_39 : x_39.toInt = (vy_19 : Int32).toInt + (1 : Int32).toInt := by rw [ex_39]; exact add_toInt (by omega) (by omega)
              omega
            have hr_46 : 0 ≤ x1.toInt ∧ x1.toInt < 4 := by
              have z_1 : ¬ (r_4 : Int32).toInt = (0 : Int32).toInt := fun z => c_7 (Int32.toInt_inj.mp z)
              have z_2 : ¬ (x_9 : Int32).toInt = (0 : Int32).toInt := fun z => c_10 (Int32.toInt_inj.mp z)
              have z_3 := Int32.lt_iff_toInt_lt.mp (Int32.not_le.mp c_27)
              have y_0 : (0 : Int32).toInt = 0 := by decide
              have y_126 : (126 : Int32).toInt = 126 := by decide
              omega
            have ha_42 : BkK g_38 (Mf 17) x1 x_39 := BkK.step pf_25 eg_38 ex_36 hi_43 hr_44 hi_45 hr_46
            exact ih_22 x_39 g_38 _ _ _ (by omega) ha_41 ha_42 (hP.sub [0, 1, 2, 3, 4, 5] rfl) (hD.sub [0, 1, 2, 3, 4, 5] rfl rfl) hS (lv_sub hl [0, 1, 2] rfl)
      have ha_47 : 0 ≤ (0 : Int32).toInt := by
        have z_1 : ¬ (r_4 : Int32).toInt = (0 : Int32).toInt := fun z => c_7 (Int32.toInt_inj.mp z)
        have z_2 : ¬ (x_9 : Int32).toInt = (0 : Int32).toInt := fun z => c_10 (Int32.toInt_inj.mp z)
        have y_0 : (0 : Int32).toInt = 0 := by decide
        omega
      have ha_48 : BkK (Mf 10) (Mf 17) x1 0 := BkK.start (by decide)
      exact loop_23 _ 0 (Mf 10) _ _ _ (Nat.lt_succ_self _) ha_47 ha_48 hP hD hS hl
    · skip
      exfalso
      have z_1 : ¬ (r_4 : Int32).toInt = (0 : Int32).toInt := fun z => c_7 (Int32.toInt_inj.mp z)
      have z_2 := congrArg Int32.toInt c_10
      have y_0 : (0 : Int32).toInt = 0 := by decide
      omega
