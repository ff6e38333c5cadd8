set_option maxRecDepth 16384
def RgO (r : Except Int (Nat × Nat)) (B : Nat → Int) (wr nx : Int32) : Prop := r = .ok (pz_sk B nx.toInt.toNat, 0) ∧ wr.toInt = 0
def RgE (r : Except Int (Nat × Nat)) (wr : Int32) : Prop := r = .error wr.toInt
theorem RgO.num {r : Except Int (Nat × Nat)} {B : Nat → Int} {w0 wr nx nu nx' : Int32} {lo hi : Int} (h : RgO r B w0 nx) (hn : NmO B lo hi nx nu nx' wr) : RgO (rN1 B lo hi r) B wr nx' := by
  obtain ⟨h1, h2, h3⟩ := hn
  rw [h.1]
  refine ⟨?_, h3⟩
  show pz_b (pz_b (pz_num B lo hi (pz_sk B nx.toInt.toNat)) (fun _ => .ok (pz_sk B nx.toInt.toNat, 0))) (fun s => .ok (pz_nx B s)) = _
  rw [h1]
  show Except.ok (pz_sk B (pz_te B (pz_sk B nx.toInt.toNat)), 0) = _
  rw [show nx'.toInt.toNat = pz_te B (pz_sk B nx.toInt.toNat) by omega]
theorem RgE.num {r : Except Int (Nat × Nat)} {B : Nat → Int} {w0 wr nx : Int32} {lo hi : Int} (h : RgO r B w0 nx) (hn : NmE B lo hi nx wr) : RgE (rN1 B lo hi r) wr := by
  rw [h.1]
  show pz_b (pz_b (pz_num B lo hi (pz_sk B nx.toInt.toNat)) (fun _ => .ok (pz_sk B nx.toInt.toNat, 0))) (fun s => .ok (pz_nx B s)) = _
  unfold NmE at hn
  rw [hn]; rfl
theorem RgE.go {r : Except Int (Nat × Nat)} {B : Nat → Int} {wr : Int32} {lo hi : Int} (h : RgE r wr) : RgE (rN1 B lo hi r) wr := by
  unfold RgE at h ⊢
  rw [h]; rfl
def LtH (B : Nat → Int) (nx : Int32) : Prop := 0 ≤ nx.toInt ∧ 97 ≤ B nx.toInt.toNat ∧ B nx.toInt.toNat ≤ 122
def pNX (B : Nat → Int) (nx : Int32) : Except Int (Nat × Nat) := .ok (pz_nx B (nx.toInt.toNat, 0))
theorem RgO.ps {B : Nat → Int} {wr nx nx' : Int32} (h : LtH B nx) (hp : PsR B nx nx') (hw : wr.toInt = 0) : RgO (pNX B nx) B wr nx' := by
  refine ⟨?_, hw⟩
  have e := hp.te h.2
  show Except.ok (pz_sk B (pz_te B nx.toInt.toNat), 0) = _
  rw [e]
def BfO (q : Except Int BkU) (B : Nat → Int) (wr nx rd bn : Int32) : Prop := q = .ok ((pz_sk B nx.toInt.toNat, 0), rd.toInt, bn.toInt) ∧ wr.toInt = 0
def BfE (q : Except Int BkU) (wr : Int32) : Prop := q = .error wr.toInt
def BkW (B : Nat → Int) (nx : Int32) (k : Int) : Prop := pz_wa B nx.toInt.toNat pz_bws 0 = k
theorem bws_0 {B : Nat → Int} {p : Nat} (h : pz_wd B p pz_book = true) : pz_wa B p pz_bws 0 = 0 := by
  unfold pz_bws; simp only [pz_wa]; rw [if_pos h]
theorem bws_1 {B : Nat → Int} {p : Nat} (h : ¬ pz_wd B p pz_book = true) (h1 : pz_wd B p pz_sky = true) : pz_wa B p pz_bws 0 = 1 := by
  unfold pz_bws; simp only [pz_wa]; rw [if_neg h, if_pos h1]; rfl
theorem bws_2 {B : Nat → Int} {p : Nat} (h : ¬ pz_wd B p pz_book = true) (h1 : ¬ pz_wd B p pz_sky = true) (h2 : pz_wd B p pz_buyer = true) : pz_wa B p pz_bws 0 = 2 := by
  unfold pz_bws; simp only [pz_wa]; rw [if_neg h, if_neg h1, if_pos h2]; rfl
theorem bws_n {B : Nat → Int} {p : Nat} (h : ¬ pz_wd B p pz_book = true) (h1 : ¬ pz_wd B p pz_sky = true) (h2 : ¬ pz_wd B p pz_buyer = true) : (pz_wd B p pz_watch = true → pz_wa B p pz_bws 0 = 3) ∧ (¬ pz_wd B p pz_watch = true → pz_wa B p pz_bws 0 = -1) := by
  unfold pz_bws; simp only [pz_wa]; rw [if_neg h, if_neg h1, if_neg h2]
  exact ⟨fun z => by rw [if_pos z]; rfl, fun z => by rw [if_neg z]⟩
def bCL (B : Nat → Int) (l : Nat) (nx rd bn : Int32) : Except Int BkU := pz_bcl B l ((nx.toInt.toNat, 0), rd.toInt, bn.toInt)
theorem bCL_no {B : Nat → Int} {l : Nat} {nx rd bn wr : Int32} (h : BkW B nx (-1)) (h0 : 0 ≤ nx.toInt) (hw : wr.toInt = 1 + 8 * nx.toInt) : BfE (bCL B l nx rd bn) wr := by
  unfold BfE bCL
  rw [show pz_bcl B l ((nx.toInt.toNat, 0), rd.toInt, bn.toInt) = .error (pz_er 0 nx.toInt.toNat) from if_pos h]
  congr 1
  unfold pz_er; omega
theorem bCL_bad {B : Nat → Int} {l : Nat} {nx rd bn wr : Int32} {k : Int} (h : BkW B nx k) (hk : ¬ k = -1) (hb : 40 ≤ l ∨ ¬ (k = 0 ↔ l = 0) ∨ (k = 2 ∧ 6 ≤ bn.toInt)) (h0 : 0 ≤ nx.toInt) (hw : wr.toInt = 1 + 8 * nx.toInt + 4) : BfE (bCL B l nx rd bn) wr := by
  unfold BfE bCL
  unfold BkW at h
  subst h
  rw [show pz_bcl B l ((nx.toInt.toNat, 0), rd.toInt, bn.toInt) = .error (pz_er 4 nx.toInt.toNat) from (if_neg hk).trans (if_pos hb)]
  congr 1
  unfold pz_er; omega
theorem bCL_go {B : Nat → Int} {l : Nat} {nx rd bn : Int32} {k : Int} (h : BkW B nx k) (hk : ¬ k = -1) (hb : ¬ (40 ≤ l ∨ ¬ (k = 0 ↔ l = 0) ∨ (k = 2 ∧ 6 ≤ bn.toInt))) : bCL B l nx rd bn = pz_bk B k ((nx.toInt.toNat, 0), rd.toInt, bn.toInt) (pNX B nx) := by
  unfold bCL
  unfold BkW at h
  subst h
  exact (if_neg hk).trans (if_neg hb)
def bK0 (B : Nat → Int) (nx bn : Int32) : Except Int BkU := pz_b (rN1 B 0 9 (rN1 B 0 99 (pNX B nx))) (fun s => pz_b (pz_num B 1 10 s.1) (fun v => .ok (pz_nx B s, v, bn.toInt)))
theorem bK0_er {B : Nat → Int} {nx bn wr : Int32} (h : RgE (rN1 B 0 9 (rN1 B 0 99 (pNX B nx))) wr) : BfE (bK0 B nx bn) wr := by
  unfold RgE at h; unfold BfE bK0; rw [h]; rfl
theorem bK0_e3 {B : Nat → Int} {nx bn w0 nx3 wr : Int32} (h : RgO (rN1 B 0 9 (rN1 B 0 99 (pNX B nx))) B w0 nx3) (hn : NmE B 1 10 nx3 wr) : BfE (bK0 B nx bn) wr := by
  unfold BfE bK0; rw [h.1]
  show pz_b (pz_num B 1 10 (pz_sk B nx3.toInt.toNat)) _ = _
  unfold NmE at hn
  rw [hn]; rfl
theorem bK0_ok {B : Nat → Int} {nx bn bn' w0 nx3 nu nx' wr : Int32} (h : RgO (rN1 B 0 9 (rN1 B 0 99 (pNX B nx))) B w0 nx3) (hn : NmO B 1 10 nx3 nu nx' wr) (hb : bn'.toInt = bn.toInt) : BfO (bK0 B nx bn) B wr nx' nu bn' := by
  obtain ⟨h1, h2, h3⟩ := hn
  refine ⟨?_, h3⟩
  unfold bK0; rw [h.1]
  show pz_b (pz_num B 1 10 (pz_sk B nx3.toInt.toNat)) (fun v => Except.ok ((pz_nx B (pz_sk B nx3.toInt.toNat, 0), v, bn.toInt) : BkU)) = _
  rw [h1]
  show Except.ok (((pz_sk B (pz_te B (pz_sk B nx3.toInt.toNat)), 0), nu.toInt, bn.toInt) : BkU) = _
  rw [show nx'.toInt.toNat = pz_te B (pz_sk B nx3.toInt.toNat) by omega, hb]
theorem bk_k0 {B : Nat → Int} {l : Nat} {nx rd bn : Int32} (h : BkW B nx 0) (hl : l = 0) : bCL B l nx rd bn = bK0 B nx bn := by
  rw [bCL_go (l := l) h (by decide) (by rw [hl]; intro z; rcases z with z | z | z; omega; exact z (by simp); omega)]
  exact if_pos rfl
theorem BfO.of {r : Except Int (Nat × Nat)} {B : Nat → Int} {wr nx rd bn : Int32} {v : Int × Int} (h : RgO r B wr nx) (hv : v = (rd.toInt, bn.toInt)) : BfO (pz_b r (fun s => .ok (s, v))) B wr nx rd bn := by
  subst hv
  refine ⟨?_, h.2⟩
  rw [h.1]; rfl
theorem BfE.of {r : Except Int (Nat × Nat)} {wr : Int32} {v : Int × Int} (h : RgE r wr) : BfE (pz_b r (fun s => .ok (s, v))) wr := by
  unfold RgE at h; unfold BfE; rw [h]; rfl
def bR1 (B : Nat → Int) (nx rd : Int32) : Except Int (Nat × Nat) := rN1 B 0 9 (rN1 B 0 (rd.toInt - 1) (pNX B nx))
def bR2 (B : Nat → Int) (nx : Int32) : Except Int (Nat × Nat) := rN1 B 0 9 (rN1 B 1 9 (rN1 B 0 20 (pNX B nx)))
def bR3 (B : Nat → Int) (nx rd bn : Int32) : Except Int (Nat × Nat) := rN1 B 0 (bn.toInt - 1) (rN1 B 0 (rd.toInt - 1) (pNX B nx))
theorem bk_k1 {B : Nat → Int} {l : Nat} {nx rd bn : Int32} (h : BkW B nx 1) (hl : 1 ≤ l ∧ l < 40) : bCL B l nx rd bn = pz_b (bR1 B nx rd) (fun s => .ok (s, rd.toInt, bn.toInt)) := by
  rw [bCL_go (l := l) h (by decide) (by intro z; rcases z with z | z | z; omega; exact z ⟨fun y => by omega, fun y => by omega⟩; omega)]
  exact (if_neg (by decide)).trans (if_pos rfl)
theorem bk_k2 {B : Nat → Int} {l : Nat} {nx rd bn : Int32} (h : BkW B nx 2) (hl : 1 ≤ l ∧ l < 40) (hb : bn.toInt < 6) : bCL B l nx rd bn = pz_b (bR2 B nx) (fun s => .ok (s, rd.toInt, bn.toInt + 1)) := by
  rw [bCL_go (l := l) h (by decide) (by intro z; rcases z with z | z | z; omega; exact z ⟨fun y => by omega, fun y => by omega⟩; omega)]
  exact (if_neg (by decide)).trans ((if_neg (by decide)).trans (if_pos rfl))
theorem bk_k3 {B : Nat → Int} {l : Nat} {nx rd bn : Int32} (h : BkW B nx 3) (hl : 1 ≤ l ∧ l < 40) : bCL B l nx rd bn = pz_b (bR3 B nx rd bn) (fun s => .ok (s, rd.toInt, bn.toInt)) := by
  rw [bCL_go (l := l) h (by decide) (by intro z; rcases z with z | z | z; omega; exact z ⟨fun y => by omega, fun y => by omega⟩; omega)]
  exact (if_neg (by decide)).trans ((if_neg (by decide)).trans (if_neg (by decide)))
theorem BfO.eq {q q' : Except Int BkU} {B : Nat → Int} {wr nx rd bn : Int32} (e : q = q') (h : BfO q' B wr nx rd bn) : BfO q B wr nx rd bn := e ▸ h
theorem BfE.eq {q q' : Except Int BkU} {wr : Int32} (e : q = q') (h : BfE q' wr) : BfE q wr := e ▸ h
def BaL (B : Nat → Int) (nx ln wr gd rd bn : Int32) : Prop := (gd.toInt = 1 → wr.toInt = 0 ∧ pz_bRu B = pz_lp (pz_bF B) (((pz_sk B nx.toInt.toNat, 0), rd.toInt, bn.toInt), ln.toInt.toNat)) ∧ (gd.toInt = 0 → pz_bookR B = .error wr.toInt)
def bCLs (B : Nat → Int) (l : Nat) (nx rd bn : Int32) : Except Int BkU := pz_bcl B l ((pz_sk B nx.toInt.toNat, 0), rd.toInt, bn.toInt)
theorem bCLs_at {B : Nat → Int} {l : Nat} {nx n1 rd bn : Int32} (hs : SkR B nx n1) : bCLs B l nx rd bn = bCL B l n1 rd bn := by
  unfold bCLs bCL; rw [hs.nat]
def BlR (B : Nat → Int) (l0 n0 rd0 bn0 gd wr nx rd bn : Int32) : Prop := (gd.toInt = 1 → BfO (bCLs B l0.toInt.toNat n0 rd0 bn0) B wr nx rd bn) ∧ (gd.toInt = 0 → BfE (bCLs B l0.toInt.toNat n0 rd0 bn0) wr)
theorem BaL.first {B : Nat → Int} {l0 nn rd0 bn0 gd wr nx rd bn ln : Int32} (hl : l0.toInt = 0) (hn : nn.toInt = 0) (h1 : rd0.toInt = 0) (h2 : bn0.toInt = 0) (h : BlR B l0 nn rd0 bn0 gd wr nx rd bn) (hl₀ : gd.toInt = 1 → ln.toInt = 1) : BaL B nx ln wr gd rd bn := by
  have e : pz_bRu B = pz_b (bTG 1 (bCLs B l0.toInt.toNat nn rd0 bn0)) (pz_lp (pz_bF B)) := by
    unfold bCLs; rw [hl, h1, h2, hn]; rfl
  refine ⟨fun z => ?_, fun z => ?_⟩
  · have h3 := h.1 z
    have h4 := hl₀ z
    refine ⟨h3.2, ?_⟩
    rw [e, h3.1, show ln.toInt.toNat = 1 by omega]; rfl
  · have h3 := h.2 z
    unfold BfE at h3
    show bEN B (pz_b (pz_bRu B) _) = _
    rw [e, h3]; rfl
theorem BaL.next {B : Nat → Int} {nx ln wr gd rd bn n1 nx1 gd' wr' nx' rd' bn' ln' : Int32} (hB : pz_fi B) (h : BaL B nx ln wr gd rd bn) (hg : gd.toInt = 1) (hs : SkR B nx n1) (h59 : B n1.toInt.toNat = 59) (hx : nx1.toInt = n1.toInt + 1) (hc : BlR B ln nx1 rd bn gd' wr' nx' rd' bn') (hl₀ : gd'.toInt = 1 → ln'.toInt = ln.toInt + 1) (hl : 0 ≤ ln.toInt) : BaL B nx' ln' wr' gd' rd' bn' := by
  have h0 := hs.1
  obtain ⟨-, h1⟩ := h.1 hg
  have e1 : pz_bF B (((pz_sk B nx.toInt.toNat, 0), rd.toInt, bn.toInt), ln.toInt.toNat) = some (pz_b (bCLs B ln.toInt.toNat nx1 rd bn) (fun u => .ok (u, ln.toInt.toNat + 1))) := by
    unfold pz_bF
    rw [if_pos (show B (pz_sk B nx.toInt.toNat) = 59 by rw [hs.nat]; exact h59)]
    show some (pz_b (pz_bcl B ln.toInt.toNat (pz_nx B (pz_sk B nx.toInt.toNat, 0), rd.toInt, bn.toInt)) _) = _
    rw [show pz_nx B (pz_sk B nx.toInt.toNat, 0) = (pz_sk B nx1.toInt.toNat, 0) by
      show (pz_sk B (pz_te B (pz_sk B nx.toInt.toNat)), 0) = _
      rw [hs.nat, te_br (Or.inr (Or.inr h59)), show nx1.toInt.toNat = n1.toInt.toNat + 1 by omega]]
    rfl
  rw [pz_lp_on (pz_bF_pr hB) e1] at h1
  refine ⟨fun z => ?_, fun z => ?_⟩
  · have h2 := hc.1 z
    have h3 := hl₀ z
    refine ⟨h2.2, ?_⟩
    rw [h1, h2.1, show ln'.toInt.toNat = ln.toInt.toNat + 1 by omega]; rfl
  · have h2 := hc.2 z
    unfold BfE at h2
    show bEN B (pz_b (pz_bRu B) _) = _
    rw [h1, h2]; rfl
theorem BaL.end {B : Nat → Int} {nx ln wr gd rd bn n1 : Int32} (h : BaL B nx ln wr gd rd bn) (hg : gd.toInt = 1) (hs : SkR B nx n1) (h59 : ¬ B n1.toInt.toNat = 59) : pz_bookR B = bEN B (.ok ((n1.toInt.toNat, 0), rd.toInt, bn.toInt)) := by
  obtain ⟨-, h1⟩ := h.1 hg
  show bEN B (pz_b (pz_bRu B) _) = _
  rw [h1, pz_lp_no (F := pz_bF B) (s := (((pz_sk B nx.toInt.toNat, 0), rd.toInt, bn.toInt), ln.toInt.toNat)) (if_neg (by show ¬ B (pz_sk B nx.toInt.toNat) = 59; rw [hs.nat]; exact h59)), hs.nat]
  rfl
theorem BkR.rbad {B : Nat → Int} {nx ln wr gd rd bn : Int32} (h : BaL B nx ln wr gd rd bn) (hg : gd.toInt = 0) (hw : ¬ wr.toInt = 0) : BkR B wr bn := Or.inr ⟨hw, h.2 hg⟩
theorem BkR.rend {B : Nat → Int} {nx ln wr gd rd bn n1 : Int32} (h : BaL B nx ln wr gd rd bn) (hg : gd.toInt = 1) (hs : SkR B nx n1) (he : B n1.toInt.toNat = -1) : BkR B wr bn := by
  refine Or.inl ⟨(h.1 hg).1, ((n1.toInt.toNat, 0), rd.toInt, bn.toInt), ?_, rfl⟩
  rw [h.end hg hs (by omega)]
  show pz_b (pz_end B n1.toInt.toNat) _ = _
  rw [show pz_end B n1.toInt.toNat = .ok n1.toInt.toNat from if_pos he]; rfl
theorem BkR.rmore {B : Nat → Int} {nx ln wr gd rd bn n1 wr' : Int32} (h : BaL B nx ln wr gd rd bn) (hg : gd.toInt = 1) (hs : SkR B nx n1) (h59 : ¬ B n1.toInt.toNat = 59) (he : ¬ B n1.toInt.toNat = -1) (hw : wr'.toInt = 1 + 8 * n1.toInt) : BkR B wr' bn := by
  have h0 := hs.1
  refine Or.inr ⟨by omega, ?_⟩
  rw [h.end hg hs h59]
  show pz_b (pz_end B n1.toInt.toNat) _ = _
  rw [show pz_end B n1.toInt.toNat = .error (pz_er 0 n1.toInt.toNat) from if_neg he]
  show Except.error _ = _
  congr 1
  unfold pz_er; omega
def BoE (B : Nat → Int) (nx bn r0 at' wr : Int32) : Prop := (0 < r0.toInt ∧ wr.toInt = 1 + 8 * at'.toInt + 4) ∨ (r0.toInt ≤ 0 ∧ BfE (bK0 B nx bn) wr)
def ByE (B : Nat → Int) (nx bn at' wr : Int32) : Prop := (bn.toInt = 6 ∧ wr.toInt = 1 + 8 * at'.toInt + 4) ∨ (¬ bn.toInt = 6 ∧ RgE (bR2 B nx) wr)
theorem bws_ne0 {B : Nat → Int} {p : Nat} (h : ¬ pz_wd B p pz_book = true) : ¬ pz_wa B p pz_bws 0 = 0 := by
  unfold pz_bws; simp only [pz_wa]; rw [if_neg h]
  by_cases h1 : pz_wd B p pz_sky = true
  · rw [if_pos h1]; decide
  · rw [if_neg h1]
    by_cases h2 : pz_wd B p pz_buyer = true
    · rw [if_pos h2]; decide
    · rw [if_neg h2]
      by_cases h3 : pz_wd B p pz_watch = true
      · rw [if_pos h3]; decide
      · rw [if_neg h3]; decide
def BkN (B : Nat → Int) (nx : Int32) : Prop := ¬ pz_wa B nx.toInt.toNat pz_bws 0 = -1
def Sd3 (f g : Nat → Int32) : Prop := g 3 = f 3
theorem Sd3.rf {f : Nat → Int32} : Sd3 f f := rfl
