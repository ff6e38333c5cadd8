set_option maxRecDepth 16384
/-! a call of a method of an object whose world is known by a predicate alone -/
def Rdy (l : Launch) (y : MethodName) (b : ByteArray) (n : Nat) (r : Option FieldType) (D : va_G) (tc : Nat → ClassId) (sk : (Nat → Nat) × (Nat → Nat)) (av : List Value) (I : va_W → Prop) (J : Option Value → va_W → Prop) (Fr Lc Cl Sl : Nat) : Prop :=
  ∀ ws, I ws → ∃ (S : Type) (rm : Room) (mc ms : Nat) (pre wr : va_W) (post : Option Value → S → Prop) (cellsf : S → va_W), Ct l y b n r rm D tc sk av pre post cellsf mc ms ∧ (rm.frames ≤ Fr ∧ rm.locals ≤ Lc ∧ rm.cells = mc ∧ rm.slots = ms ∧ mc ≤ Cl ∧ ms ≤ Sl) ∧ ws.Perm (pre ++ wr) ∧ ∀ v u, post v u → J v (cellsf u ++ wr)
theorem perm_placesN {α : Type} {n : Nat} (is : List Nat) (ws ws' : List α) (hn : ws.length = n) (hp : is.Perm (List.range n)) (h : is.map (fun i => ws[i]?) = ws'.map some) : ws.Perm ws' := by
  subst hn
  exact perm_places is ws ws' hp h
theorem pm_out {E pre wr T ws : va_W} (h : ws.Perm (E ++ T)) (p : E.Perm (pre ++ wr)) : ws.Perm (pre ++ (wr ++ T)) := by
  refine h.trans ((p.append_right T).trans ?_)
  rw [List.append_assoc]
theorem pm_in {E X wr T : va_W} (p : (X ++ wr).Perm E) : (X ++ (wr ++ T)).Perm (E ++ T) := by
  rw [← List.append_assoc]
  exact p.append_right T
theorem pm_swap (E A B C : va_W) : (E ++ (A ++ (B ++ C))).Perm (E ++ (B ++ (A ++ C))) := by
  refine List.Perm.append_left E ?_
  rw [← List.append_assoc, ← List.append_assoc]
  exact List.perm_append_comm.append_right C
theorem pm_take {E ws T : va_W} {s : Nat → va_W} {n j : Nat} (h : ws.Perm (E ++ (flatS s n ++ T))) (hj : j < n) : ws.Perm ((E ++ s j) ++ (flatS (va_up s j []) n ++ T)) := by
  refine h.trans ?_
  rw [List.append_assoc]
  refine List.Perm.append_left E ?_
  refine ((flatS_take s hj).append_right T).trans ?_
  rw [List.append_assoc]
theorem pm_put {E X g T : va_W} {s : Nat → va_W} {n j : Nat} (p : X.Perm (E ++ g)) (hj : j < n) (h0 : s j = []) : (X ++ (flatS s n ++ T)).Perm (E ++ (flatS (va_up s j g) n ++ T)) := by
  refine (p.append_right _).trans ?_
  rw [List.append_assoc]
  refine List.Perm.append_left E ?_
  rw [← List.append_assoc]
  exact (flatS_put hj h0 g).append_right T
theorem up_same {s : Nat → va_W} {j : Nat} {g : va_W} : va_up (va_up s j []) j g = va_up s j g := by
  funext k
  unfold va_up
  by_cases h : k = j
  · rw [if_pos h, if_pos h]
  · rw [if_neg h, if_neg h, if_neg h]
section RDY
variable {p : Program} {l : Launch} {e : Env} {R : Room} {s : State} {m : MethodId} {args : Array Value} {below : List Frame} {meth : Method} {c : Code} {H : Heap} {locs : List Loc} {cells slots : Nat} {Q : State → Prop}
variable {cc b : ByteArray} {pc : Nat} {ls : Array Slot} {rest st0 : List Value} {D : va_G} {A : Nat → Prop} {a n nL k index : Nat} {tc : Nat → ClassId} {sk : (Nat → Nat) × (Nat → Nat)} {wA wB : va_W} {r : Option FieldType} {y : MethodName} {own : String} {As : List Value}
theorem cVr {I : va_W → Prop} {J : Option Value → va_W → Prop} {Fr Lc Cl Sl ci : Nat} {q : vw_C} (X : CallFix p m c cc nL s args gT own) (hK : va_K D classes (tysOf tc) s) (hX : Sx sk A s s.heap) (hA : ∀ q, s.heap.size ≤ q → A q) (hM : Rdy l y b n r D tc sk (.ref a :: As) I J Fr Lc Cl Sl)
    (hw1 : Cond.code y b n r ∈ gT) (hw2 : Cond.methodLink own index y ∈ gT) (hw3 : Cond.instanceMethod y ∈ gT) (hw4 : Cond.selects y.cls y y ∈ gT) (hw5 : Cond.initialized y.cls ∈ gT) (hd : PlainC y k) (hF : Fr + 1 ≤ R.frames) (hL : 8 + (n + 11) + Lc ≤ R.locals)
    (hI : I wA) (hrv : ∃ fs, (a, .inr (ci, fs)) ∈ wA) (hcl : classes[ci]? = some q) (hq : q.1 = y.cls)
    (hP : va_P D classes (wA ++ wB) H) (hD : va_D A (wA ++ wB)) (hS : va_S A s.heap H locs)
    (hlen : As.length = k) (hls : ls.size = nL) (hst : st0 = As.reverse ++ .ref a :: rest) (hroom : (rest.map fun v => v.category).sum ≤ 8) (hdg : decode cc pc = .ok (.invokevirtual index, 3)) (hf1 : cells + Cl ≤ R.cells) (hf2 : slots + Sl ≤ R.slots)
    (kk : ∀ (v : Option Value) (w1 : va_W) (H1 : Heap) (locs1 : List Loc), J v w1 → va_P D classes (w1 ++ wB) H1 → va_D A (w1 ++ wB) → va_S A s.heap H1 locs1 → W p l e R s m args below meth c H1 locs1 (cells + Cl) (slots + Sl) Q (F0 m (pc + 3) ls (v.toList ++ rest))) : W p l e R s m args below meth c H locs cells slots Q (F0 m pc ls st0) := by
  obtain ⟨S, rm, mc, ms, pre, wr, post, cellsf, hC, ⟨b1, b2, b3, b4, b5, b6⟩, hperm, hJ⟩ := hM wA hI
  obtain ⟨fs, hmem⟩ := hrv
  obtain ⟨q0, hq0⟩ := List.mem_iff_getElem?.mp (List.mem_append_left wB hmem)
  have hrec := va_recv hK hP hcl hq0
  rw [hq] at hrec
  have hp2 : (wA ++ wB).Perm (pre ++ (wr ++ wB)) := by
    rw [← List.append_assoc]
    exact hperm.append_right wB
  refine cVp (wr := wr ++ wB) X hK hX hA hC hw1 hw2 hw3 hw4 hw5 hd ⟨by omega, by omega⟩ b3 b4 hrec hP hD hS hp2 hlen hls hst hroom hdg ⟨by omega, by omega⟩ (fun v u H1 locs1 hv hP1 hD1 hS1 => ?_)
  rw [← List.append_assoc] at hP1 hD1
  exact W.widen (by omega) (by omega) (kk v _ H1 locs1 (hJ v u hv) hP1 hD1 hS1)
end RDY
theorem FrcD.mono {fr md : Nat → Int32} {n n' : Int32} (h : FrcD fr md n) (hn : n.toInt ≤ n'.toInt) : FrcD fr md n' := fun k hk hm => by
  have := h k hk hm
  omega
/-- a rule's code, as its text has it -/
def CdQ (f : Nat → Int32) (n : Nat) (Q : RuA) : Prop := CdE f (ru_fl Q) ∧ (ru_fl Q).length = n ∧ ru_ok Q
theorem RuC.seg {B : Nat → Int} {m : Nat} {g : Nat → Int32} (h : RuC B m g) : CdQ g m (ru_of B) := by
  obtain ⟨p, h1, -, h3, h4⟩ := h
  exact ⟨h4, h3.symm, (ru_of_gd h1).1⟩
abbrev Dst := Nat → Int
def SegShop (tc : Nat → ClassId) (dr : Dst) (q : Option Nat) (w : va_W) (K : Prop) : Prop := (q = none ∧ w = []) ∨ ∃ (Ea : Nat → Nat) (Ev : Nat → Int32) (Ef : Nat → Nat → Int32), q = some (Ea 0) ∧ w = ([((Ea 0), .inr (9, [.int (Ev 0), .int (Ev 1), .int (Ev 2), .int (Ev 3), .int (Ev 4), .int (Ev 5), .ref (Ea 1), .ref (Ea 2), .ref (Ea 3), .ref (Ea 4), .ref (Ea 5), .ref (Ea 6), .ref (Ea 7), .ref (Ea 8)])), ((Ea 1), .inl (tc 0, 10, .inl (Ef 1))), ((Ea 2), .inl (tc 0, 10, .inl (Ef 2))), ((Ea 3), .inl (tc 0, 6, .inl (Ef 3))), ((Ea 4), .inl (tc 0, 6, .inl (Ef 4))), ((Ea 5), .inl (tc 0, 6, .inl (Ef 5))), ((Ea 6), .inl (tc 0, 6, .inl (Ef 6))), ((Ea 7), .inl (tc 0, 6, .inl (Ef 7))), ((Ea 8), .inl (tc 0, 6, .inl (Ef 8)))] : va_W) ∧ 0 ≤ (Ev 3).toInt ∧ (Ev 3).toInt ≤ 6 ∧ (K → KyC dr (Ev 2) (Ev 3) (Ef 4))
def SegScene (tc : Nat → ClassId) (q : Option Nat) (o : Option Dst) (w : va_W) : Prop := (q = none ∧ o = none ∧ w = []) ∨ ∃ (Ua : Nat → Nat) (Uv : Nat → Int32) (UAa : Nat → Nat) (UAv : Nat → Int32) (UAf : Nat → Nat → Int32) (UBa : Nat → Nat) (UBv : Nat → Int32) (UBf : Nat → Nat → Int32) (UNa : Nat → Nat) (UNv : Nat → Int32) (UNf : Nat → Nat → Int32) (Ud : Dst), q = some (Ua 0) ∧ o = some Ud ∧ w = ([((Ua 0), .inr (8, [.ref (UAa 0), .ref (UBa 0), .ref (UNa 0), .int (Uv 0), .int (Uv 1)])), ((UAa 0), .inr (9, [.int (UAv 0), .int (UAv 1), .int (UAv 2), .int (UAv 3), .int (UAv 4), .int (UAv 5), .ref (UAa 1), .ref (UAa 2), .ref (UAa 3), .ref (UAa 4), .ref (UAa 5), .ref (UAa 6), .ref (UAa 7), .ref (UAa 8)])), ((UAa 1), .inl (tc 0, 10, .inl (UAf 1))), ((UAa 2), .inl (tc 0, 10, .inl (UAf 2))), ((UAa 3), .inl (tc 0, 6, .inl (UAf 3))), ((UAa 4), .inl (tc 0, 6, .inl (UAf 4))), ((UAa 5), .inl (tc 0, 6, .inl (UAf 5))), ((UAa 6), .inl (tc 0, 6, .inl (UAf 6))), ((UAa 7), .inl (tc 0, 6, .inl (UAf 7))), ((UAa 8), .inl (tc 0, 6, .inl (UAf 8))), ((UBa 0), .inr (9, [.int (UBv 0), .int (UBv 1), .int (UBv 2), .int (UBv 3), .int (UBv 4), .int (UBv 5), .ref (UBa 1), .ref (UBa 2), .ref (UBa 3), .ref (UBa 4), .ref (UBa 5), .ref (UBa 6), .ref (UBa 7), .ref (UBa 8)])), ((UBa 1), .inl (tc 0, 10, .inl (UBf 1))), ((UBa 2), .inl (tc 0, 10, .inl (UBf 2))), ((UBa 3), .inl (tc 0, 6, .inl (UBf 3))), ((UBa 4), .inl (tc 0, 6, .inl (UBf 4))), ((UBa 5), .inl (tc 0, 6, .inl (UBf 5))), ((UBa 6), .inl (tc 0, 6, .inl (UBf 6))), ((UBa 7), .inl (tc 0, 6, .inl (UBf 7))), ((UBa 8), .inl (tc 0, 6, .inl (UBf 8))), ((UNa 0), .inr (3, [.ref (UNa 1), .ref (UNa 2), .ref (UNa 3), .int (UNv 0)])), ((UNa 1), .inl (tc 0, 10, .inl (UNf 1))), ((UNa 2), .inl (tc 0, 10, .inl (UNf 2))), ((UNa 3), .inl (tc 0, 10, .inl (UNf 3)))] : va_W) ∧ (0 ≤ (UAv 3).toInt ∧ (UAv 3).toInt ≤ 6) ∧ (0 ≤ (UBv 3).toInt ∧ (UBv 3).toInt ≤ 6) ∧ KyC Ud (UAv 2) (UAv 3) (UAf 4) ∧ TbC Ud (UBv 0) (UBv 1) (UBv 2) (UBv 3) (UBv 4) (UBv 5) (UBf 1) (UBf 2) (UBf 3) (UBf 4) (UBf 5) (UBf 6) (UBf 7) (UBf 8) ∧ TnC Ud (UNv 0) (UNf 1) (UNf 2) (UNf 3)
def SegRule (tc : Nat → ClassId) (q : Option Nat) (w : va_W) (Q : RuA) : Prop := (q = none ∧ w = []) ∨ ∃ (Ra : Nat → Nat) (Rf : Nat → Nat → Int32) (Rg : Nat → Nat → Int64) (Rn : Nat), q = some (Ra 0) ∧ w = ([((Ra 0), .inr (6, [.ref (Ra 1), .ref (Ra 2)])), ((Ra 1), .inl (tc 0, Rn, .inl (Rf 1))), ((Ra 2), .inl (tc 1, 64, .inr (.inl (Rg 2))))] : va_W) ∧ Rn ≤ 400 ∧ CdQ (Rf 1) Rn Q
def pSet (s : Nat → Prop) (j : Nat) (P : Prop) : Nat → Prop := fun k => (k = j ∧ P) ∨ (k ≠ j ∧ s k)
section SEG29
variable {tc : Nat → ClassId} {dr dr1 : Dst} {q : Nat → Option Nat} {s : Nat → va_W} {b : Nat → Prop} {n j : Nat} {o : Option Nat} {g w : va_W} {K P : Prop} {x : Option Nat}
theorem SegShop.imp (h : SegShop tc dr x w K) (hp : P → K) : SegShop tc dr x w P := by
  rcases h with h | ⟨Ea, Ev, Ef, h1, h2, h3, h4, h5⟩
  · exact Or.inl h
  · exact Or.inr ⟨Ea, Ev, Ef, h1, h2, h3, h4, fun z => h5 (hp z)⟩
theorem SegShop.up (h : ∀ k, k < n → SegShop tc dr (q k) (s k) (b k)) (hg : SegShop tc dr o g P) : ∀ k, k < n → SegShop tc dr (va_up q j o k) (va_up s j g k) (pSet b j P k) := fun k hk => by
  unfold va_up
  by_cases z : k = j
  · rw [if_pos z, if_pos z]
    refine hg.imp (fun h2 => ?_)
    rcases h2 with h2 | h2
    · exact h2.2
    · exact absurd z h2.1
  · rw [if_neg z, if_neg z]
    refine (h k hk).imp (fun h2 => ?_)
    rcases h2 with h2 | h2
    · exact absurd h2.1 z
    · exact h2.2
theorem SegShop.upS (h : ∀ k, k < n → SegShop tc dr (q k) (s k) (b k)) (hg : SegShop tc dr (q j) g P) : ∀ k, k < n → SegShop tc dr (q k) (va_up s j g k) (pSet b j P k) := fun k hk => by
  unfold va_up
  by_cases z : k = j
  · rw [if_pos z]
    refine SegShop.imp (K := P) (by rw [z]; exact hg) (fun h2 => ?_)
    rcases h2 with h2 | h2
    · exact h2.2
    · exact absurd z h2.1
  · rw [if_neg z]
    refine (h k hk).imp (fun h2 => ?_)
    rcases h2 with h2 | h2
    · exact absurd h2.1 z
    · exact h2.2
theorem SegShop.upW (h : ∀ k, k < n → SegShop tc dr (q k) (s k) (b k)) (hg : SegShop tc dr (q j) g (b j)) : ∀ k, k < n → SegShop tc dr (q k) (va_up s j g k) (b k) := fun k hk => by
  unfold va_up
  by_cases z : k = j
  · rw [if_pos z, z]; exact hg
  · rw [if_neg z]; exact h k hk
theorem SegShop.drs (h : ∀ k, k < n → SegShop tc dr (q k) (s k) (b k)) : ∀ k, k < n → SegShop tc dr1 (q k) (s k) (b k ∧ dr1 = dr) := fun k hk => by
  rcases h k hk with h | ⟨Ea, Ev, Ef, h1, h2, h3, h4, h5⟩
  · exact Or.inl h
  · exact Or.inr ⟨Ea, Ev, Ef, h1, h2, h3, h4, fun z => by rw [z.2]; exact h5 z.1⟩
theorem SegShop.los (h : ∀ k, k < n → SegShop tc dr (q k) (s k) (b k)) (e : ∀ k, k < 95 → dr1 k = dr k) : ∀ k, k < n → SegShop tc dr1 (q k) (s k) (b k) := fun k hk => by
  rcases h k hk with h | ⟨Ea, Ev, Ef, h1, h2, h3, h4, h5⟩
  · exact Or.inl h
  · exact Or.inr ⟨Ea, Ev, Ef, h1, h2, h3, h4, fun z => (h5 z).lo e⟩
theorem SegShop.no (h : ∀ k, k < n → SegShop tc dr (q k) (s k) (b k)) : ∀ k, k < n → SegShop tc dr1 (q k) (s k) False := fun k hk => by
  rcases h k hk with h | ⟨Ea, Ev, Ef, h1, h2, h3, h4, h5⟩
  · exact Or.inl h
  · exact Or.inr ⟨Ea, Ev, Ef, h1, h2, h3, h4, fun z => z.elim⟩
theorem SegScene.up {im : Nat → Option Dst} {i : Option Dst} (h : ∀ k, k < n → SegScene tc (q k) (im k) (s k)) (hg : SegScene tc o i g) : ∀ k, k < n → SegScene tc (va_up q j o k) (va_up im j i k) (va_up s j g k) := fun k hk => by
  unfold va_up
  by_cases z : k = j
  · rw [if_pos z, if_pos z, if_pos z]; exact hg
  · rw [if_neg z, if_neg z, if_neg z]; exact h k hk
theorem SegScene.upS {im : Nat → Option Dst} {i : Option Dst} (h : ∀ k, k < n → SegScene tc (q k) (im k) (s k)) (hg : SegScene tc (q j) i g) : ∀ k, k < n → SegScene tc (q k) (va_up im j i k) (va_up s j g k) := fun k hk => by
  unfold va_up
  by_cases z : k = j
  · rw [if_pos z, if_pos z, z]; exact hg
  · rw [if_neg z, if_neg z]; exact h k hk
theorem SegScene.upW {im : Nat → Option Dst} (h : ∀ k, k < n → SegScene tc (q k) (im k) (s k)) (hg : SegScene tc (q j) (im j) g) : ∀ k, k < n → SegScene tc (q k) (im k) (va_up s j g k) := fun k hk => by
  unfold va_up
  by_cases z : k = j
  · rw [if_pos z, z]; exact hg
  · rw [if_neg z]; exact h k hk
theorem rl_other {RL : List RuA} {R : RuA} {k : Nat} (h : k ≠ RL.length) : (RL ++ [R]).getD k [] = RL.getD k [] := by
  by_cases z : k < RL.length
  · exact rl_left z
  · have h1 : RL.length + 1 ≤ k := by omega
    rw [List.getD_eq_getElem?_getD, List.getD_eq_getElem?_getD, List.getElem?_eq_none (by rw [List.length_append]; exact h1), List.getElem?_eq_none (by omega)]
theorem SegRule.up {RL : List RuA} {R : RuA} (h : ∀ k, k < n → SegRule tc (q k) (s k) (RL.getD k [])) (hj : j = RL.length) (hg : SegRule tc o g R) : ∀ k, k < n → SegRule tc (va_up q j o k) (va_up s j g k) ((RL ++ [R]).getD k []) := fun k hk => by
  unfold va_up
  by_cases z : k = j
  · rw [if_pos z, if_pos z, z, hj, rl_last]; exact hg
  · rw [if_neg z, if_neg z, rl_other (by omega)]; exact h k hk
theorem SegRule.upS {Q : Nat → RuA} (h : ∀ k, k < n → SegRule tc (q k) (s k) (Q k)) (hg : SegRule tc (q j) g (Q j)) : ∀ k, k < n → SegRule tc (q k) (va_up s j g k) (Q k) := fun k hk => by
  unfold va_up
  by_cases z : k = j
  · rw [if_pos z, z]; exact hg
  · rw [if_neg z]; exact h k hk
end SEG29
theorem RgK.sz {dr : Dst} {nx sz nx' sz' e2 e3 e2' e3' : Int32} {g4 g4' : Nat → Int32} (h : RgK dr nx sz nx' sz' e2 e3 g4 e2' e3' g4') (hs : 0 ≤ sz.toInt ∧ sz.toInt ≤ 20) : 0 ≤ sz'.toInt ∧ sz'.toInt ≤ 20 := by
  rcases h with ⟨-, e, -⟩ | ⟨h, -⟩
  · rw [e]; exact hs
  · exact h.2.2
theorem RinK.act {dr : Dst} {nx sz nx' sz' e2 e3 e2' e3' : Int32} {g4 g4' : Nat → Int32} {s : Nat → Prop} {j : Nat} (h : RinK nx sz s) (hn : 0 ≤ nx.toInt ∧ nx.toInt < 20) (hj : j = nx.toNatClampNeg) (hr : RgK dr nx sz nx' sz' e2 e3 g4 e2' e3' g4') (hE : s j → KyC dr e2 e3 g4) : RinK nx' sz' (pSet s j (KyC dr e2' e3' g4')) := fun k hk hz => by
  have ej : nx.toNatClampNeg = nx.toInt.toNat := rfl
  rcases hr with ⟨a1, a2, a3, a4, a5⟩ | ⟨⟨a1, a2, -, a3⟩, a4⟩
  · rw [a1, a2] at hz
    by_cases z : k = j
    · refine Or.inl ⟨z, ?_⟩
      rw [a3, a4, a5]
      exact hE (by rw [← z]; exact h k hk hz)
    · exact Or.inr ⟨z, h k hk hz⟩
  · by_cases z : k = j
    · exact Or.inl ⟨z, a4⟩
    · exact Or.inr ⟨z, h k hk (by omega)⟩
theorem RinK.new {dr : Dst} {nx sz nx' sz' e2' e3' : Int32} {g4' : Nat → Int32} {s : Nat → Prop} {j : Nat} (h : RinK nx sz s) (hn : 0 ≤ nx.toInt ∧ nx.toInt < 20) (hj : j = nx.toNatClampNeg) (hr : RgN dr nx sz nx' sz' e2' e3' g4') : RinK nx' sz' (pSet s j (KyC dr e2' e3' g4')) := fun k hk hz => by
  have ej : nx.toNatClampNeg = nx.toInt.toNat := rfl
  obtain ⟨⟨a1, a2, -, a3⟩, a4⟩ := hr
  by_cases z : k = j
  · exact Or.inl ⟨z, a4⟩
  · exact Or.inr ⟨z, h k hk (by omega)⟩
theorem GbK.sz {dr : Dst} {nx sz nx' sz' a2 a3 : Int32} {f4 : Nat → Int32} (h : GbK dr nx sz nx' sz' a2 a3 f4) (hs : 0 ≤ sz.toInt ∧ sz.toInt ≤ 20) : 0 ≤ sz'.toInt ∧ sz'.toInt ≤ 20 := by
  rcases h.1 with ⟨-, e⟩ | e
  · rw [e]; exact hs
  · omega
theorem GbK.ring {dr : Dst} {nx sz nx' sz' a2 a3 : Int32} {f4 : Nat → Int32} {s : Nat → Prop} (h : GbK dr nx sz nx' sz' a2 a3 f4) (hr : RinK nx sz s) (hn : 0 ≤ nx.toInt ∧ nx.toInt < 20) (hs : 0 ≤ sz.toInt ∧ sz.toInt ≤ 20) : RinK nx' sz' s := by
  rcases h.1 with ⟨e1, e2⟩ | e
  · rw [e1, e2]; exact hr
  · exact hr.back hn hs.2 e.2.1 e.2.2
theorem RinK.bsz {dr dr1 : Dst} {nx sz nx' sz' : Int32} (hp : (nx' = nx ∧ sz' = sz ∧ dr1 = dr) ∨ sz'.toInt = 0) (hs : 0 ≤ sz.toInt ∧ sz.toInt ≤ 20) : 0 ≤ sz'.toInt ∧ sz'.toInt ≤ 20 := by
  rcases hp with ⟨-, e, -⟩ | e
  · rw [e]; exact hs
  · omega
theorem RinK.book {dr dr1 : Dst} {nx sz nx' sz' : Int32} {s : Nat → Prop} (h : RinK nx sz s) (hp : (nx' = nx ∧ sz' = sz ∧ dr1 = dr) ∨ sz'.toInt = 0) : RinK nx' sz' (fun k => s k ∧ dr1 = dr) := by
  rcases hp with ⟨e1, e2, e3⟩ | e
  · rw [e1, e2]
    exact fun k hk hz => ⟨h k hk hz, e3⟩
  · exact RinK.none (Int.le_of_eq e)
theorem flatS6 (s : Nat → va_W) : flatS s 6 = s 0 ++ (s 1 ++ (s 2 ++ (s 3 ++ (s 4 ++ s 5)))) := by
  simp [flatS, List.range_succ]
theorem upn {s : Nat → va_W} {j : Nat} : va_up s j [] j = [] := by unfold va_up; rw [if_pos rfl]
theorem cln {x : Int32} {n : Nat} (h : 0 ≤ x.toInt ∧ x.toInt < (n : Int)) : x.toNatClampNeg < n := by
  show x.toInt.toNat < n
  omega
theorem pm_rot (E A B C : va_W) : (E ++ (A ++ (B ++ C))).Perm (E ++ (C ++ (A ++ B))) := by
  refine List.Perm.append_left E ?_
  rw [← List.append_assoc]
  exact List.perm_append_comm
theorem pm_rot' (E A B C : va_W) : (E ++ (C ++ (A ++ B))).Perm (E ++ (A ++ (B ++ C))) := (pm_rot E A B C).symm
def PBE (tc : Nat → ClassId) (h0 : Nat) (Gv : Nat → Int32) (Ta : Nat → Nat) (Tv : Nat → Int32) (Tf : Nat → Nat → Int32) (Wa : Nat → Nat) (Da : Nat → Nat) (Dv : Nat → Int32) (Df : Nat → Nat → Int32) (Va : Nat → Nat) (Vv : Nat → Int32) (Vf : Nat → Nat → Int32) (La : Nat → Nat) (Lq : Nat → Nat → Option Nat) (Sa : Nat → Nat) (Sv : Nat → Int32) (Aa : Nat → Nat) (Av : Nat → Int32) (Af : Nat → Nat → Int32) (Ba : Nat → Nat) (Bv : Nat → Int32) (Bf : Nat → Nat → Int32) (Na : Nat → Nat) (Nv : Nat → Int32) (Nf : Nat → Nat → Int32) (Pa : Nat → Nat) (Pv : Nat → Int32) (Pq : Nat → Nat → Option Nat) (Ia : Nat → Nat) (Iq : Nat → Nat → Option Nat) (Oa : Nat → Nat) (Oj : Nat → Int64) (Og : Nat → Nat → Int64) (Fa : Nat → Nat) (Fv : Nat → Int32) (Ff : Nat → Nat → Int32) (Ca : Nat → Nat) (Cf : Nat → Nat → Int32) (Ha : Nat → Nat) (Hv : Nat → Int32) (Hf : Nat → Nat → Int32) (Ya : Nat → Nat) (Yv : Nat → Int32) (Yf : Nat → Nat → Int32) (Ja : Nat → Nat) (Jv : Nat → Int32) (Jf : Nat → Nat → Int32) : va_W := ([(h0, .inr (11, [.ref (Ta 0), .ref (Wa 0), .ref (Va 0), .ref (La 0), .int (Gv 0), .ref (Sa 0), .ref (Aa 0), .ref (Pa 0), .ref (Ia 0), .ref (Oa 0), .ref (Ca 0), .ref (Ya 0)])), ((Ta 0), .inr (10, [.ref (Ta 1), .int (Tv 0), .int (Tv 1), .int (Tv 2), .int (Tv 3), .int (Tv 4)])), ((Ta 1), .inl (tc 0, 400, .inl (Tf 1))), ((Wa 0), .inr (0, [.ref (Da 0)])), ((Da 0), .inr (9, [.int (Dv 0), .int (Dv 1), .int (Dv 2), .int (Dv 3), .int (Dv 4), .int (Dv 5), .ref (Da 1), .ref (Da 2), .ref (Da 3), .ref (Da 4), .ref (Da 5), .ref (Da 6), .ref (Da 7), .ref (Da 8)])), ((Da 1), .inl (tc 0, 10, .inl (Df 1))), ((Da 2), .inl (tc 0, 10, .inl (Df 2))), ((Da 3), .inl (tc 0, 6, .inl (Df 3))), ((Da 4), .inl (tc 0, 6, .inl (Df 4))), ((Da 5), .inl (tc 0, 6, .inl (Df 5))), ((Da 6), .inl (tc 0, 6, .inl (Df 6))), ((Da 7), .inl (tc 0, 6, .inl (Df 7))), ((Da 8), .inl (tc 0, 6, .inl (Df 8))), ((Va 0), .inr (7, [.ref (Va 1), .int (Vv 0), .int (Vv 1)])), ((Va 1), .inl (tc 0, 400, .inl (Vf 1))), ((La 0), .inl (tc 4, 6, .inr (.inr (.inr (.inr (Lq 0)))))), ((Sa 0), .inr (8, [.ref (Aa 0), .ref (Ba 0), .ref (Na 0), .int (Sv 0), .int (Sv 1)])), ((Aa 0), .inr (9, [.int (Av 0), .int (Av 1), .int (Av 2), .int (Av 3), .int (Av 4), .int (Av 5), .ref (Aa 1), .ref (Aa 2), .ref (Aa 3), .ref (Aa 4), .ref (Aa 5), .ref (Aa 6), .ref (Aa 7), .ref (Aa 8)])), ((Aa 1), .inl (tc 0, 10, .inl (Af 1))), ((Aa 2), .inl (tc 0, 10, .inl (Af 2))), ((Aa 3), .inl (tc 0, 6, .inl (Af 3))), ((Aa 4), .inl (tc 0, 6, .inl (Af 4))), ((Aa 5), .inl (tc 0, 6, .inl (Af 5))), ((Aa 6), .inl (tc 0, 6, .inl (Af 6))), ((Aa 7), .inl (tc 0, 6, .inl (Af 7))), ((Aa 8), .inl (tc 0, 6, .inl (Af 8))), ((Ba 0), .inr (9, [.int (Bv 0), .int (Bv 1), .int (Bv 2), .int (Bv 3), .int (Bv 4), .int (Bv 5), .ref (Ba 1), .ref (Ba 2), .ref (Ba 3), .ref (Ba 4), .ref (Ba 5), .ref (Ba 6), .ref (Ba 7), .ref (Ba 8)])), ((Ba 1), .inl (tc 0, 10, .inl (Bf 1))), ((Ba 2), .inl (tc 0, 10, .inl (Bf 2))), ((Ba 3), .inl (tc 0, 6, .inl (Bf 3))), ((Ba 4), .inl (tc 0, 6, .inl (Bf 4))), ((Ba 5), .inl (tc 0, 6, .inl (Bf 5))), ((Ba 6), .inl (tc 0, 6, .inl (Bf 6))), ((Ba 7), .inl (tc 0, 6, .inl (Bf 7))), ((Ba 8), .inl (tc 0, 6, .inl (Bf 8))), ((Na 0), .inr (3, [.ref (Na 1), .ref (Na 2), .ref (Na 3), .int (Nv 0)])), ((Na 1), .inl (tc 0, 10, .inl (Nf 1))), ((Na 2), .inl (tc 0, 10, .inl (Nf 2))), ((Na 3), .inl (tc 0, 10, .inl (Nf 3))), ((Pa 0), .inr (5, [.ref (Pa 1), .int (Pv 0), .int (Pv 1)])), ((Pa 1), .inl (tc 5, 20, .inr (.inr (.inr (.inr (Pq 1)))))), ((Ia 0), .inl (tc 6, 4, .inr (.inr (.inr (.inr (Iq 0)))))), ((Oa 0), .inr (4, [.ref (Fa 0), .ref (Oa 2), .long (Oj 0)])), ((Oa 2), .inl (tc 1, 61, .inr (.inl (Og 2)))), ((Fa 0), .inr (9, [.int (Fv 0), .int (Fv 1), .int (Fv 2), .int (Fv 3), .int (Fv 4), .int (Fv 5), .ref (Fa 1), .ref (Fa 2), .ref (Fa 3), .ref (Fa 4), .ref (Fa 5), .ref (Fa 6), .ref (Fa 7), .ref (Fa 8)])), ((Fa 1), .inl (tc 0, 10, .inl (Ff 1))), ((Fa 2), .inl (tc 0, 10, .inl (Ff 2))), ((Fa 3), .inl (tc 0, 6, .inl (Ff 3))), ((Fa 4), .inl (tc 0, 6, .inl (Ff 4))), ((Fa 5), .inl (tc 0, 6, .inl (Ff 5))), ((Fa 6), .inl (tc 0, 6, .inl (Ff 6))), ((Fa 7), .inl (tc 0, 6, .inl (Ff 7))), ((Fa 8), .inl (tc 0, 6, .inl (Ff 8))), ((Ca 0), .inr (1, [.ref (Ha 0), .ref (Ca 2), .ref (Ca 3)])), ((Ca 2), .inl (tc 0, 25, .inl (Cf 2))), ((Ca 3), .inl (tc 0, 25, .inl (Cf 3))), ((Ha 0), .inr (9, [.int (Hv 0), .int (Hv 1), .int (Hv 2), .int (Hv 3), .int (Hv 4), .int (Hv 5), .ref (Ha 1), .ref (Ha 2), .ref (Ha 3), .ref (Ha 4), .ref (Ha 5), .ref (Ha 6), .ref (Ha 7), .ref (Ha 8)])), ((Ha 1), .inl (tc 0, 10, .inl (Hf 1))), ((Ha 2), .inl (tc 0, 10, .inl (Hf 2))), ((Ha 3), .inl (tc 0, 6, .inl (Hf 3))), ((Ha 4), .inl (tc 0, 6, .inl (Hf 4))), ((Ha 5), .inl (tc 0, 6, .inl (Hf 5))), ((Ha 6), .inl (tc 0, 6, .inl (Hf 6))), ((Ha 7), .inl (tc 0, 6, .inl (Hf 7))), ((Ha 8), .inl (tc 0, 6, .inl (Hf 8))), ((Ya 0), .inr (2, [.ref (Ja 0), .ref (Ya 2), .ref (Ya 3), .int (Yv 0)])), ((Ya 2), .inl (tc 0, 427, .inl (Yf 2))), ((Ya 3), .inl (tc 3, 7, .inl (Yf 3))), ((Ja 0), .inr (9, [.int (Jv 0), .int (Jv 1), .int (Jv 2), .int (Jv 3), .int (Jv 4), .int (Jv 5), .ref (Ja 1), .ref (Ja 2), .ref (Ja 3), .ref (Ja 4), .ref (Ja 5), .ref (Ja 6), .ref (Ja 7), .ref (Ja 8)])), ((Ja 1), .inl (tc 0, 10, .inl (Jf 1))), ((Ja 2), .inl (tc 0, 10, .inl (Jf 2))), ((Ja 3), .inl (tc 0, 6, .inl (Jf 3))), ((Ja 4), .inl (tc 0, 6, .inl (Jf 4))), ((Ja 5), .inl (tc 0, 6, .inl (Jf 5))), ((Ja 6), .inl (tc 0, 6, .inl (Jf 6))), ((Ja 7), .inl (tc 0, 6, .inl (Jf 7))), ((Ja 8), .inl (tc 0, 6, .inl (Jf 8)))] : va_W)
/-- the tape and the count of rules -/
abbrev Gst := Int32 × (Nat → Int32) × Int32
def PBI (tc : Nat → ClassId) (h0 : Nat) (dr : Dst) (im : Nat → Option Dst) (ts : Gst) (RL : List RuA) (ws : va_W) : Prop := ∃ (Gv : Nat → Int32) (Ta : Nat → Nat) (Tv : Nat → Int32) (Tf : Nat → Nat → Int32) (Wa : Nat → Nat) (Da : Nat → Nat) (Dv : Nat → Int32) (Df : Nat → Nat → Int32) (Va : Nat → Nat) (Vv : Nat → Int32) (Vf : Nat → Nat → Int32) (La : Nat → Nat) (Lq : Nat → Nat → Option Nat) (Sa : Nat → Nat) (Sv : Nat → Int32) (Aa : Nat → Nat) (Av : Nat → Int32) (Af : Nat → Nat → Int32) (Ba : Nat → Nat) (Bv : Nat → Int32) (Bf : Nat → Nat → Int32) (Na : Nat → Nat) (Nv : Nat → Int32) (Nf : Nat → Nat → Int32) (Pa : Nat → Nat) (Pv : Nat → Int32) (Pq : Nat → Nat → Option Nat) (Ia : Nat → Nat) (Iq : Nat → Nat → Option Nat) (Oa : Nat → Nat) (Oj : Nat → Int64) (Og : Nat → Nat → Int64) (Fa : Nat → Nat) (Fv : Nat → Int32) (Ff : Nat → Nat → Int32) (Ca : Nat → Nat) (Cf : Nat → Nat → Int32) (Ha : Nat → Nat) (Hv : Nat → Int32) (Hf : Nat → Nat → Int32) (Ya : Nat → Nat) (Yv : Nat → Int32) (Yf : Nat → Nat → Int32) (Ja : Nat → Nat) (Jv : Nat → Int32) (Jf : Nat → Nat → Int32) (sP sI sR : Nat → va_W) (sB : Nat → Prop), (0 ≤ (Tv 0).toInt ∧ (Tv 0).toInt ≤ 400 ∧ 0 ≤ (Tv 1).toInt ∧ (Tv 1).toInt ≤ 400 ∧ 0 ≤ (Tv 2).toInt ∧ (Tv 2).toInt ≤ 400) ∧ (0 ≤ (Dv 3).toInt ∧ (Dv 3).toInt ≤ 6) ∧ (0 ≤ (Av 3).toInt ∧ (Av 3).toInt ≤ 6) ∧ (0 ≤ (Bv 3).toInt ∧ (Bv 3).toInt ≤ 6) ∧ (0 ≤ (Pv 0).toInt ∧ (Pv 0).toInt < 20) ∧ (0 ≤ (Gv 0).toInt ∧ (Gv 0).toInt ≤ 6) ∧ (KyC dr (Av 2) (Av 3) (Af 4)) ∧ (TbC dr (Bv 0) (Bv 1) (Bv 2) (Bv 3) (Bv 4) (Bv 5) (Bf 1) (Bf 2) (Bf 3) (Bf 4) (Bf 5) (Bf 6) (Bf 7) (Bf 8)) ∧ (TnC dr (Nv 0) (Nf 1) (Nf 2) (Nf 3)) ∧ (0 ≤ (Pv 1).toInt ∧ (Pv 1).toInt ≤ 20) ∧ (RinK (Pv 0) (Pv 1) sB) ∧ (ts = ((Tv 0), (Tf 1), (Gv 0))) ∧ (Byt (Tf 1)) ∧ ((Gv 0).toInt = (RL.length : Int)) ∧ (∀ k : Nat, k < 20 → SegShop tc dr ((Pq 1) k) (sP k) (sB k)) ∧ (∀ k : Nat, k < 4 → SegScene tc ((Iq 0) k) (im k) (sI k)) ∧ (∀ k : Nat, k < 6 → SegRule tc ((Lq 0) k) (sR k) (RL.getD k [])) ∧ (∀ k : Nat, k < 6 → ((k : Int) < (Gv 0).toInt → (Lq 0) k ≠ none) ∧ ((Gv 0).toInt ≤ (k : Int) → (Lq 0) k = none)) ∧ ws.Perm (PBE tc h0 Gv Ta Tv Tf Wa Da Dv Df Va Vv Vf La Lq Sa Sv Aa Av Af Ba Bv Bf Na Nv Nf Pa Pv Pq Ia Iq Oa Oj Og Fa Fv Ff Ca Cf Ha Hv Hf Ya Yv Yf Ja Jv Jf ++ (flatS sP 20 ++ (flatS sI 4 ++ (flatS sR 6))))
def TFe (a b : Gst) (x1 x2 x3 x4 x5 r : Int32) : Prop := FeP a.2.1 b.2.1 a.1 b.1 x1 x2 x3 x4 x5 r ∧ b.2.2 = a.2.2
def TEn (a b : Gst) (x1 r : Int32) : Prop := EnP a.1 b.1 x1 r ∧ b.2 = a.2
def TBk (a b : Gst) : Prop := b.1.toInt = 0 ∧ b.2 = a.2
def TRu (B : Nat → Int) (a b : Gst) (r : Int32) : Prop := RrC B a.2.2 b.2.2 a.1 b.1 r ∧ b.2.1 = a.2.1
def Al (a b : Gst) : Prop := TpE a.2.1 a.1 b.2.1 b.1 ∧ a.2.2 = b.2.2
theorem Al.feed {a b a' b' : Gst} {x1 x2 x3 x4 x5 r s : Int32} (h : Al a b) (hl : 0 ≤ a.1.toInt) (h1 : TFe a a' x1 x2 x3 x4 x5 r) (h2 : TFe b b' x1 x2 x3 x4 x5 s) : r = s ∧ Al a' b' := by
  have e := FeP.eq hl h.1 h1.1 h2.1
  exact ⟨e.1, e.2, by rw [h1.2, h2.2]; exact h.2⟩
theorem Al.end {a b a' b' : Gst} {x1 r s : Int32} (h : Al a b) (h1 : TEn a a' x1 r) (h2 : TEn b b' x1 s) : r = s ∧ Al a' b' := by
  have e := EnP.eq h.1 h1.1 h2.1
  refine ⟨e.1, ?_, by rw [h1.2, h2.2]; exact h.2⟩
  rw [h1.2, h2.2]; exact e.2
theorem Al.book {a b a' b' : Gst} (h : Al a b) (h1 : TBk a a') (h2 : TBk b b') : Al a' b' := by
  refine ⟨⟨h1.1.trans h2.1.symm, fun k hk => ?_⟩, by rw [h1.2, h2.2]; exact h.2⟩
  have := h1.1
  omega
def TBX (B : Nat → Int) (a b : Gst) (r : Int32) (d d' : Dst) : Prop := TBk a b ∧ BkS B r d d'
theorem Al.bookX {a b a' b' : Gst} {r s : Int32} {d d1 d2 : Dst} (h : Al a b) (hb : Byt a.2.1) (h1 : TBX (cB a.2.1 a.1) a a' r d d1) (h2 : TBX (rB b.2.1 b.1) b b' s d d2) : (r = s ∧ d1 = d2) ∧ Al a' b' := by
  have eB := h.1.B hb
  have h2' := h2.2
  rw [← eB] at h2'
  exact ⟨BkS.det h1.2 h2', Al.book h h1.1 h2.1⟩
def TRX (B : Nat → Int) (a b : Gst) (r : Int32) (RL RL' : List RuA) : Prop := TRu B a b r ∧ RL' = rnL B RL a.2.2 b.2.2
theorem Al.rule {a b a' b' : Gst} {r s : Int32} (h : Al a b) (hb : Byt a.2.1) (hl : 0 ≤ a.1.toInt) (h1 : TRu (cB a.2.1 a.1) a a' r) (h2 : TRu (rB b.2.1 b.1) b b' s) : r = s ∧ Al a' b' := by
  have eB := h.1.B hb
  have h2' := h2.1
  rw [← eB] at h2'
  have e := RrC.eq h1.1 h2' h.2 (Int32.toInt_inj.mp h.1.1)
  refine ⟨e.1, ⟨by rw [e.2.2], fun k hk => ?_⟩, e.2.1⟩
  rw [h1.2, h2.2]
  refine h.1.2 k ?_
  rcases h1.1 with ⟨_, _, z, _⟩ | ⟨_, z, _⟩
  · rw [← z]; exact hk
  · omega
theorem Al.ruleX {a b a' b' : Gst} {r s : Int32} {RL L1 L2 : List RuA} (h : Al a b) (hb : Byt a.2.1) (hl : 0 ≤ a.1.toInt) (h1 : TRX (cB a.2.1 a.1) a a' r RL L1) (h2 : TRX (rB b.2.1 b.1) b b' s RL L2) : (r = s ∧ L1 = L2) ∧ Al a' b' := by
  have e := Al.rule h hb hl h1.1 h2.1
  refine ⟨⟨e.1, ?_⟩, e.2⟩
  rw [h1.2, h2.2, ← h.1.B hb, h.2, e.2.2]
/-- the answer that is compared, as the reference's cells give it -/
def AskX (dr : Dst) (RL : List RuA) (x1 x2 r : Int32) : Prop := ∀ s : Nat → Int32, TdM dr s → TdG dr → r = dX12_page s x1 x2
def AskY (dr : Dst) (RL : List RuA) (x1 x2 r : Int32) : Prop := ∃ s : Nat → Int32, TdM dr s ∧ r = dX12_page s x1 x2
theorem AskX.eq {dr : Dst} {RL : List RuA} {x1 x2 r r2 : Int32} (h : AskX dr RL x1 x2 r) (h2 : AskY dr RL x1 x2 r2) (hg : TdG dr) : r = r2 := by
  obtain ⟨s, hm, e⟩ := h2
  exact (h s hm hg).trans e.symm

def TS (a r dr dr' : Int32) : Prop := (a.toInt < 0 ∧ r.toInt = -1 ∧ dr' = dr) ∨ (0 ≤ a.toInt ∧ r = dr ∧ dr' = a)
def TI (k : Int32) (dr : Dst) (im im' : Nat → Option Dst) : Prop := ((k.toInt < 0 ∨ 3 < k.toInt) ∧ im' = im) ∨ ((0 ≤ k.toInt ∧ k.toInt ≤ 3) ∧ im' = va_up im k.toNatClampNeg (some dr))
def TB (k : Int32) (dr dr' : Dst) (im : Nat → Option Dst) : Prop := (((k.toInt < 0 ∨ 3 < k.toInt) ∨ im k.toNatClampNeg = none) ∧ dr' = dr) ∨ ((0 ≤ k.toInt ∧ k.toInt ≤ 3) ∧ im k.toNatClampNeg = some dr')
set_option maxRecDepth 100000 in
theorem pv_37 {α : Type} {a0 a1 a2 a3 a4 a5 a6 a7 a8 a9 a10 a11 a12 a13 a14 a15 a16 a17 a18 a19 a20 a21 a22 a23 a24 a25 a26 a27 a28 a29 a30 a31 a32 a33 a34 a35 a36 a37 a38 a39 a40 a41 a42 a43 a44 a45 a46 a47 a48 a49 a50 a51 a52 a53 a54 a55 a56 a57 a58 a59 a60 a61 a62 a63 a64 a65 a66 a67 a68 a69 a70 a71 a72 a73 a74 a75 a76 : α} : [a0, a1, a2, a3, a4, a5, a6, a7, a8, a9, a10, a11, a12, a13, a14, a15, a16, a17, a18, a19, a20, a21, a22, a23, a24, a25, a26, a27, a28, a29, a30, a31, a32, a33, a34, a35, a36, a37, a38, a39, a40, a41, a42, a43, a44, a45, a46, a47, a48, a49, a50, a51, a52, a53, a54, a55, a56, a57, a58, a59, a60, a61, a62, a63, a64, a65, a66, a67, a68, a69, a70, a71, a72, a73, a74, a75, a76].Perm [a0, a16, a17, a18, a19, a20, a21, a22, a23, a24, a25, a26, a27, a28, a29, a30, a31, a32, a33, a34, a35, a36, a37, a38, a15, a65, a66, a67, a68, a69, a70, a71, a72, a73, a74, a75, a76, a1, a2, a3, a4, a5, a6, a7, a8, a9, a10, a11, a12, a13, a14, a39, a40, a41, a42, a43, a44, a45, a46, a47, a48, a49, a50, a51, a52, a53, a54, a55, a56, a57, a58, a59, a60, a61, a62, a63, a64] := perm_placesN [0, 16, 17, 18, 19, 20, 21, 22, 23, 24, 25, 26, 27, 28, 29, 30, 31, 32, 33, 34, 35, 36, 37, 38, 15, 65, 66, 67, 68, 69, 70, 71, 72, 73, 74, 75, 76, 1, 2, 3, 4, 5, 6, 7, 8, 9, 10, 11, 12, 13, 14, 39, 40, 41, 42, 43, 44, 45, 46, 47, 48, 49, 50, 51, 52, 53, 54, 55, 56, 57, 58, 59, 60, 61, 62, 63, 64] _ _ (n := 77) rfl (by decide +kernel) rfl
set_option maxRecDepth 100000 in
theorem pv_38 {α : Type} {a0 a1 a2 a3 a4 a5 a6 a7 a8 a9 a10 a11 a12 a13 a14 a15 a16 a17 a18 a19 a20 a21 a22 a23 a24 a25 a26 a27 a28 a29 a30 a31 a32 a33 a34 a35 a36 a37 a38 a39 a40 a41 a42 a43 a44 a45 a46 a47 a48 a49 a50 a51 a52 a53 a54 a55 a56 a57 a58 a59 a60 a61 a62 a63 a64 a65 a66 a67 a68 a69 a70 a71 a72 a73 a74 a75 a76 : α} : [a0, a1, a2, a3, a4, a5, a6, a7, a8, a9, a10, a11, a12, a13, a14, a15, a16, a17, a18, a19, a20, a21, a22, a23, a24, a25, a26, a27, a28, a29, a30, a31, a32, a33, a34, a35, a36, a37, a38, a39, a40, a41, a42, a43, a44, a45, a46, a47, a48, a49, a50, a51, a52, a53, a54, a55, a56, a57, a58, a59, a60, a61, a62, a63, a64, a65, a66, a67, a68, a69, a70, a71, a72, a73, a74, a75, a76].Perm [a0, a37, a38, a39, a40, a41, a42, a43, a44, a45, a46, a47, a48, a49, a50, a24, a1, a2, a3, a4, a5, a6, a7, a8, a9, a10, a11, a12, a13, a14, a15, a16, a17, a18, a19, a20, a21, a22, a23, a51, a52, a53, a54, a55, a56, a57, a58, a59, a60, a61, a62, a63, a64, a65, a66, a67, a68, a69, a70, a71, a72, a73, a74, a75, a76, a25, a26, a27, a28, a29, a30, a31, a32, a33, a34, a35, a36] := perm_placesN [0, 37, 38, 39, 40, 41, 42, 43, 44, 45, 46, 47, 48, 49, 50, 24, 1, 2, 3, 4, 5, 6, 7, 8, 9, 10, 11, 12, 13, 14, 15, 16, 17, 18, 19, 20, 21, 22, 23, 51, 52, 53, 54, 55, 56, 57, 58, 59, 60, 61, 62, 63, 64, 65, 66, 67, 68, 69, 70, 71, 72, 73, 74, 75, 76, 25, 26, 27, 28, 29, 30, 31, 32, 33, 34, 35, 36] _ _ (n := 77) rfl (by decide +kernel) rfl
set_option maxRecDepth 100000 in
theorem pv_39 {α : Type} {a0 a1 a2 a3 a4 a5 a6 a7 a8 a9 a10 a11 a12 a13 a14 a15 a16 a17 a18 a19 a20 a21 a22 a23 a24 a25 a26 a27 a28 a29 a30 a31 a32 a33 a34 a35 a36 a37 a38 a39 a40 a41 a42 a43 a44 a45 a46 a47 a48 a49 a50 a51 a52 a53 a54 a55 a56 a57 a58 a59 a60 a61 a62 a63 a64 a65 a66 a67 a68 a69 a70 a71 a72 a73 a74 a75 a76 a77 a78 a79 : α} : [a0, a1, a2, a3, a4, a5, a6, a7, a8, a9, a10, a11, a12, a13, a14, a15, a16, a17, a18, a19, a20, a21, a22, a23, a24, a25, a26, a27, a28, a29, a30, a31, a32, a33, a34, a35, a36, a37, a38, a39, a40, a41, a42, a43, a44, a45, a46, a47, a48, a49, a50, a51, a52, a53, a54, a55, a56, a57, a58, a59, a60, a61, a62, a63, a64, a65, a66, a67, a68, a69, a70, a71, a72, a73, a74, a75, a76, a77, a78, a79].Perm [a0, a16, a17, a18, a19, a20, a21, a22, a23, a24, a25, a26, a27, a28, a29, a30, a31, a32, a33, a34, a35, a36, a37, a38, a15, a65, a66, a67, a68, a69, a70, a71, a72, a73, a74, a75, a76, a77, a78, a79, a1, a2, a3, a4, a5, a6, a7, a8, a9, a10, a11, a12, a13, a14, a39, a40, a41, a42, a43, a44, a45, a46, a47, a48, a49, a50, a51, a52, a53, a54, a55, a56, a57, a58, a59, a60, a61, a62, a63, a64] := perm_placesN [0, 16, 17, 18, 19, 20, 21, 22, 23, 24, 25, 26, 27, 28, 29, 30, 31, 32, 33, 34, 35, 36, 37, 38, 15, 65, 66, 67, 68, 69, 70, 71, 72, 73, 74, 75, 76, 77, 78, 79, 1, 2, 3, 4, 5, 6, 7, 8, 9, 10, 11, 12, 13, 14, 39, 40, 41, 42, 43, 44, 45, 46, 47, 48, 49, 50, 51, 52, 53, 54, 55, 56, 57, 58, 59, 60, 61, 62, 63, 64] _ _ (n := 80) rfl (by decide +kernel) rfl
set_option maxRecDepth 100000 in
theorem pv_40 {α : Type} {a0 a1 a2 a3 a4 a5 a6 a7 a8 a9 a10 a11 a12 a13 a14 a15 a16 a17 a18 a19 a20 a21 a22 a23 a24 a25 a26 a27 a28 a29 a30 a31 a32 a33 a34 a35 a36 a37 a38 a39 a40 a41 a42 a43 a44 a45 a46 a47 a48 a49 a50 a51 a52 a53 a54 a55 a56 a57 a58 a59 a60 a61 a62 a63 a64 a65 a66 a67 a68 a69 a70 a71 a72 a73 a74 a75 a76 a77 a78 a79 : α} : [a0, a1, a2, a3, a4, a5, a6, a7, a8, a9, a10, a11, a12, a13, a14, a15, a16, a17, a18, a19, a20, a21, a22, a23, a24, a25, a26, a27, a28, a29, a30, a31, a32, a33, a34, a35, a36, a37, a38, a39, a40, a41, a42, a43, a44, a45, a46, a47, a48, a49, a50, a51, a52, a53, a54, a55, a56, a57, a58, a59, a60, a61, a62, a63, a64, a65, a66, a67, a68, a69, a70, a71, a72, a73, a74, a75, a76, a77, a78, a79].Perm [a0, a40, a41, a42, a43, a44, a45, a46, a47, a48, a49, a50, a51, a52, a53, a24, a1, a2, a3, a4, a5, a6, a7, a8, a9, a10, a11, a12, a13, a14, a15, a16, a17, a18, a19, a20, a21, a22, a23, a54, a55, a56, a57, a58, a59, a60, a61, a62, a63, a64, a65, a66, a67, a68, a69, a70, a71, a72, a73, a74, a75, a76, a77, a78, a79, a25, a26, a27, a28, a29, a30, a31, a32, a33, a34, a35, a36, a37, a38, a39] := perm_placesN [0, 40, 41, 42, 43, 44, 45, 46, 47, 48, 49, 50, 51, 52, 53, 24, 1, 2, 3, 4, 5, 6, 7, 8, 9, 10, 11, 12, 13, 14, 15, 16, 17, 18, 19, 20, 21, 22, 23, 54, 55, 56, 57, 58, 59, 60, 61, 62, 63, 64, 65, 66, 67, 68, 69, 70, 71, 72, 73, 74, 75, 76, 77, 78, 79, 25, 26, 27, 28, 29, 30, 31, 32, 33, 34, 35, 36, 37, 38, 39] _ _ (n := 80) rfl (by decide +kernel) rfl
set_option maxRecDepth 100000 in
theorem pv_41 {α : Type} {a0 a1 a2 a3 a4 a5 a6 a7 a8 a9 a10 a11 a12 a13 a14 a15 a16 a17 a18 a19 a20 a21 a22 a23 a24 a25 a26 a27 a28 a29 a30 a31 a32 a33 a34 a35 a36 a37 a38 a39 a40 a41 a42 a43 a44 a45 a46 a47 a48 a49 a50 a51 a52 a53 a54 a55 a56 a57 a58 a59 a60 a61 a62 a63 a64 a65 a66 a67 a68 a69 a70 a71 a72 a73 a74 a75 a76 a77 a78 a79 a80 a81 a82 : α} : [a0, a1, a2, a3, a4, a5, a6, a7, a8, a9, a10, a11, a12, a13, a14, a15, a16, a17, a18, a19, a20, a21, a22, a23, a24, a25, a26, a27, a28, a29, a30, a31, a32, a33, a34, a35, a36, a37, a38, a39, a40, a41, a42, a43, a44, a45, a46, a47, a48, a49, a50, a51, a52, a53, a54, a55, a56, a57, a58, a59, a60, a61, a62, a63, a64, a65, a66, a67, a68, a69, a70, a71, a72, a73, a74, a75, a76, a77, a78, a79, a80, a81, a82].Perm [a0, a16, a17, a18, a19, a20, a21, a22, a23, a24, a25, a26, a27, a28, a29, a30, a31, a32, a33, a34, a35, a36, a37, a38, a15, a65, a66, a67, a68, a69, a70, a71, a72, a73, a74, a75, a76, a77, a78, a79, a80, a81, a82, a1, a2, a3, a4, a5, a6, a7, a8, a9, a10, a11, a12, a13, a14, a39, a40, a41, a42, a43, a44, a45, a46, a47, a48, a49, a50, a51, a52, a53, a54, a55, a56, a57, a58, a59, a60, a61, a62, a63, a64] := perm_placesN [0, 16, 17, 18, 19, 20, 21, 22, 23, 24, 25, 26, 27, 28, 29, 30, 31, 32, 33, 34, 35, 36, 37, 38, 15, 65, 66, 67, 68, 69, 70, 71, 72, 73, 74, 75, 76, 77, 78, 79, 80, 81, 82, 1, 2, 3, 4, 5, 6, 7, 8, 9, 10, 11, 12, 13, 14, 39, 40, 41, 42, 43, 44, 45, 46, 47, 48, 49, 50, 51, 52, 53, 54, 55, 56, 57, 58, 59, 60, 61, 62, 63, 64] _ _ (n := 83) rfl (by decide +kernel) rfl
set_option maxRecDepth 100000 in
theorem pv_42 {α : Type} {a0 a1 a2 a3 a4 a5 a6 a7 a8 a9 a10 a11 a12 a13 a14 a15 a16 a17 a18 a19 a20 a21 a22 a23 a24 a25 a26 a27 a28 a29 a30 a31 a32 a33 a34 a35 a36 a37 a38 a39 a40 a41 a42 a43 a44 a45 a46 a47 a48 a49 a50 a51 a52 a53 a54 a55 a56 a57 a58 a59 a60 a61 a62 a63 a64 a65 a66 a67 a68 a69 a70 a71 a72 a73 a74 a75 a76 a77 a78 a79 a80 a81 a82 : α} : [a0, a1, a2, a3, a4, a5, a6, a7, a8, a9, a10, a11, a12, a13, a14, a15, a16, a17, a18, a19, a20, a21, a22, a23, a24, a25, a26, a27, a28, a29, a30, a31, a32, a33, a34, a35, a36, a37, a38, a39, a40, a41, a42, a43, a44, a45, a46, a47, a48, a49, a50, a51, a52, a53, a54, a55, a56, a57, a58, a59, a60, a61, a62, a63, a64, a65, a66, a67, a68, a69, a70, a71, a72, a73, a74, a75, a76, a77, a78, a79, a80, a81, a82].Perm [a0, a43, a44, a45, a46, a47, a48, a49, a50, a51, a52, a53, a54, a55, a56, a24, a1, a2, a3, a4, a5, a6, a7, a8, a9, a10, a11, a12, a13, a14, a15, a16, a17, a18, a19, a20, a21, a22, a23, a57, a58, a59, a60, a61, a62, a63, a64, a65, a66, a67, a68, a69, a70, a71, a72, a73, a74, a75, a76, a77, a78, a79, a80, a81, a82, a25, a26, a27, a28, a29, a30, a31, a32, a33, a34, a35, a36, a37, a38, a39, a40, a41, a42] := perm_placesN [0, 43, 44, 45, 46, 47, 48, 49, 50, 51, 52, 53, 54, 55, 56, 24, 1, 2, 3, 4, 5, 6, 7, 8, 9, 10, 11, 12, 13, 14, 15, 16, 17, 18, 19, 20, 21, 22, 23, 57, 58, 59, 60, 61, 62, 63, 64, 65, 66, 67, 68, 69, 70, 71, 72, 73, 74, 75, 76, 77, 78, 79, 80, 81, 82, 25, 26, 27, 28, 29, 30, 31, 32, 33, 34, 35, 36, 37, 38, 39, 40, 41, 42] _ _ (n := 83) rfl (by decide +kernel) rfl
set_option maxRecDepth 100000 in
theorem pv_43 {α : Type} {a0 a1 a2 a3 a4 a5 a6 a7 a8 a9 a10 a11 a12 a13 a14 a15 a16 a17 a18 a19 a20 a21 a22 a23 a24 a25 a26 a27 a28 a29 a30 a31 a32 a33 a34 a35 a36 a37 a38 a39 a40 a41 a42 a43 a44 a45 a46 a47 a48 a49 a50 a51 a52 a53 a54 a55 a56 a57 a58 a59 a60 a61 a62 a63 a64 a65 a66 a67 a68 a69 a70 a71 a72 a73 a74 a75 a76 a77 a78 a79 a80 a81 a82 a83 a84 a85 : α} : [a0, a1, a2, a3, a4, a5, a6, a7, a8, a9, a10, a11, a12, a13, a14, a15, a16, a17, a18, a19, a20, a21, a22, a23, a24, a25, a26, a27, a28, a29, a30, a31, a32, a33, a34, a35, a36, a37, a38, a39, a40, a41, a42, a43, a44, a45, a46, a47, a48, a49, a50, a51, a52, a53, a54, a55, a56, a57, a58, a59, a60, a61, a62, a63, a64, a65, a66, a67, a68, a69, a70, a71, a72, a73, a74, a75, a76, a77, a78, a79, a80, a81, a82, a83, a84, a85].Perm [a0, a16, a17, a18, a19, a20, a21, a22, a23, a24, a25, a26, a27, a28, a29, a30, a31, a32, a33, a34, a35, a36, a37, a38, a15, a65, a66, a67, a68, a69, a70, a71, a72, a73, a74, a75, a76, a77, a78, a79, a80, a81, a82, a83, a84, a85, a1, a2, a3, a4, a5, a6, a7, a8, a9, a10, a11, a12, a13, a14, a39, a40, a41, a42, a43, a44, a45, a46, a47, a48, a49, a50, a51, a52, a53, a54, a55, a56, a57, a58, a59, a60, a61, a62, a63, a64] := perm_placesN [0, 16, 17, 18, 19, 20, 21, 22, 23, 24, 25, 26, 27, 28, 29, 30, 31, 32, 33, 34, 35, 36, 37, 38, 15, 65, 66, 67, 68, 69, 70, 71, 72, 73, 74, 75, 76, 77, 78, 79, 80, 81, 82, 83, 84, 85, 1, 2, 3, 4, 5, 6, 7, 8, 9, 10, 11, 12, 13, 14, 39, 40, 41, 42, 43, 44, 45, 46, 47, 48, 49, 50, 51, 52, 53, 54, 55, 56, 57, 58, 59, 60, 61, 62, 63, 64] _ _ (n := 86) rfl (by decide +kernel) rfl
set_option maxRecDepth 100000 in
theorem pv_44 {α : Type} {a0 a1 a2 a3 a4 a5 a6 a7 a8 a9 a10 a11 a12 a13 a14 a15 a16 a17 a18 a19 a20 a21 a22 a23 a24 a25 a26 a27 a28 a29 a30 a31 a32 a33 a34 a35 a36 a37 a38 a39 a40 a41 a42 a43 a44 a45 a46 a47 a48 a49 a50 a51 a52 a53 a54 a55 a56 a57 a58 a59 a60 a61 a62 a63 a64 a65 a66 a67 a68 a69 a70 a71 a72 a73 a74 a75 a76 a77 a78 a79 a80 a81 a82 a83 a84 a85 : α} : [a0, a1, a2, a3, a4, a5, a6, a7, a8, a9, a10, a11, a12, a13, a14, a15, a16, a17, a18, a19, a20, a21, a22, a23, a24, a25, a26, a27, a28, a29, a30, a31, a32, a33, a34, a35, a36, a37, a38, a39, a40, a41, a42, a43, a44, a45, a46, a47, a48, a49, a50, a51, a52, a53, a54, a55, a56, a57, a58, a59, a60, a61, a62, a63, a64, a65, a66, a67, a68, a69, a70, a71, a72, a73, a74, a75, a76, a77, a78, a79, a80, a81, a82, a83, a84, a85].Perm [a0, a46, a47, a48, a49, a50, a51, a52, a53, a54, a55, a56, a57, a58, a59, a24, a1, a2, a3, a4, a5, a6, a7, a8, a9, a10, a11, a12, a13, a14, a15, a16, a17, a18, a19, a20, a21, a22, a23, a60, a61, a62, a63, a64, a65, a66, a67, a68, a69, a70, a71, a72, a73, a74, a75, a76, a77, a78, a79, a80, a81, a82, a83, a84, a85, a25, a26, a27, a28, a29, a30, a31, a32, a33, a34, a35, a36, a37, a38, a39, a40, a41, a42, a43, a44, a45] := perm_placesN [0, 46, 47, 48, 49, 50, 51, 52, 53, 54, 55, 56, 57, 58, 59, 24, 1, 2, 3, 4, 5, 6, 7, 8, 9, 10, 11, 12, 13, 14, 15, 16, 17, 18, 19, 20, 21, 22, 23, 60, 61, 62, 63, 64, 65, 66, 67, 68, 69, 70, 71, 72, 73, 74, 75, 76, 77, 78, 79, 80, 81, 82, 83, 84, 85, 25, 26, 27, 28, 29, 30, 31, 32, 33, 34, 35, 36, 37, 38, 39, 40, 41, 42, 43, 44, 45] _ _ (n := 86) rfl (by decide +kernel) rfl
set_option maxRecDepth 100000 in
theorem pv_45 {α : Type} {a0 a1 a2 a3 a4 a5 a6 a7 a8 a9 a10 a11 a12 a13 a14 a15 a16 a17 a18 a19 a20 a21 a22 a23 a24 a25 a26 a27 a28 a29 a30 a31 a32 a33 a34 a35 a36 a37 a38 a39 a40 a41 a42 a43 a44 a45 a46 a47 a48 a49 a50 a51 a52 a53 a54 a55 a56 a57 a58 a59 a60 a61 a62 a63 a64 a65 a66 a67 a68 a69 a70 a71 a72 a73 a74 a75 a76 a77 a78 a79 a80 a81 a82 a83 a84 a85 a86 a87 a88 : α} : [a0, a1, a2, a3, a4, a5, a6, a7, a8, a9, a10, a11, a12, a13, a14, a15, a16, a17, a18, a19, a20, a21, a22, a23, a24, a25, a26, a27, a28, a29, a30, a31, a32, a33, a34, a35, a36, a37, a38, a39, a40, a41, a42, a43, a44, a45, a46, a47, a48, a49, a50, a51, a52, a53, a54, a55, a56, a57, a58, a59, a60, a61, a62, a63, a64, a65, a66, a67, a68, a69, a70, a71, a72, a73, a74, a75, a76, a77, a78, a79, a80, a81, a82, a83, a84, a85, a86, a87, a88].Perm [a0, a16, a17, a18, a19, a20, a21, a22, a23, a24, a25, a26, a27, a28, a29, a30, a31, a32, a33, a34, a35, a36, a37, a38, a15, a65, a66, a67, a68, a69, a70, a71, a72, a73, a74, a75, a76, a77, a78, a79, a80, a81, a82, a83, a84, a85, a86, a87, a88, a1, a2, a3, a4, a5, a6, a7, a8, a9, a10, a11, a12, a13, a14, a39, a40, a41, a42, a43, a44, a45, a46, a47, a48, a49, a50, a51, a52, a53, a54, a55, a56, a57, a58, a59, a60, a61, a62, a63, a64] := perm_placesN [0, 16, 17, 18, 19, 20, 21, 22, 23, 24, 25, 26, 27, 28, 29, 30, 31, 32, 33, 34, 35, 36, 37, 38, 15, 65, 66, 67, 68, 69, 70, 71, 72, 73, 74, 75, 76, 77, 78, 79, 80, 81, 82, 83, 84, 85, 86, 87, 88, 1, 2, 3, 4, 5, 6, 7, 8, 9, 10, 11, 12, 13, 14, 39, 40, 41, 42, 43, 44, 45, 46, 47, 48, 49, 50, 51, 52, 53, 54, 55, 56, 57, 58, 59, 60, 61, 62, 63, 64] _ _ (n := 89) rfl (by decide +kernel) rfl
set_option maxRecDepth 100000 in
theorem pv_46 {α : Type} {a0 a1 a2 a3 a4 a5 a6 a7 a8 a9 a10 a11 a12 a13 a14 a15 a16 a17 a18 a19 a20 a21 a22 a23 a24 a25 a26 a27 a28 a29 a30 a31 a32 a33 a34 a35 a36 a37 a38 a39 a40 a41 a42 a43 a44 a45 a46 a47 a48 a49 a50 a51 a52 a53 a54 a55 a56 a57 a58 a59 a60 a61 a62 a63 a64 a65 a66 a67 a68 a69 a70 a71 a72 a73 a74 a75 a76 a77 a78 a79 a80 a81 a82 a83 a84 a85 a86 a87 a88 : α} : [a0, a1, a2, a3, a4, a5, a6, a7, a8, a9, a10, a11, a12, a13, a14, a15, a16, a17, a18, a19, a20, a21, a22, a23, a24, a25, a26, a27, a28, a29, a30, a31, a32, a33, a34, a35, a36, a37, a38, a39, a40, a41, a42, a43, a44, a45, a46, a47, a48, a49, a50, a51, a52, a53, a54, a55, a56, a57, a58, a59, a60, a61, a62, a63, a64, a65, a66, a67, a68, a69, a70, a71, a72, a73, a74, a75, a76, a77, a78, a79, a80, a81, a82, a83, a84, a85, a86, a87, a88].Perm [a0, a49, a50, a51, a52, a53, a54, a55, a56, a57, a58, a59, a60, a61, a62, a24, a1, a2, a3, a4, a5, a6, a7, a8, a9, a10, a11, a12, a13, a14, a15, a16, a17, a18, a19, a20, a21, a22, a23, a63, a64, a65, a66, a67, a68, a69, a70, a71, a72, a73, a74, a75, a76, a77, a78, a79, a80, a81, a82, a83, a84, a85, a86, a87, a88, a25, a26, a27, a28, a29, a30, a31, a32, a33, a34, a35, a36, a37, a38, a39, a40, a41, a42, a43, a44, a45, a46, a47, a48] := perm_placesN [0, 49, 50, 51, 52, 53, 54, 55, 56, 57, 58, 59, 60, 61, 62, 24, 1, 2, 3, 4, 5, 6, 7, 8, 9, 10, 11, 12, 13, 14, 15, 16, 17, 18, 19, 20, 21, 22, 23, 63, 64, 65, 66, 67, 68, 69, 70, 71, 72, 73, 74, 75, 76, 77, 78, 79, 80, 81, 82, 83, 84, 85, 86, 87, 88, 25, 26, 27, 28, 29, 30, 31, 32, 33, 34, 35, 36, 37, 38, 39, 40, 41, 42, 43, 44, 45, 46, 47, 48] _ _ (n := 89) rfl (by decide +kernel) rfl
set_option maxRecDepth 100000 in
theorem pv_47 {α : Type} {a0 a1 a2 a3 a4 a5 a6 a7 a8 a9 a10 a11 a12 a13 a14 a15 a16 a17 a18 a19 a20 a21 a22 a23 a24 a25 a26 a27 a28 a29 a30 a31 a32 a33 a34 a35 a36 a37 a38 a39 a40 a41 a42 a43 a44 a45 a46 a47 a48 a49 a50 a51 a52 a53 a54 a55 a56 a57 a58 a59 a60 a61 a62 a63 a64 a65 a66 a67 a68 a69 a70 a71 a72 a73 a74 a75 a76 a77 a78 a79 a80 a81 a82 a83 a84 a85 a86 a87 a88 a89 a90 a91 : α} : [a0, a1, a2, a3, a4, a5, a6, a7, a8, a9, a10, a11, a12, a13, a14, a15, a16, a17, a18, a19, a20, a21, a22, a23, a24, a25, a26, a27, a28, a29, a30, a31, a32, a33, a34, a35, a36, a37, a38, a39, a40, a41, a42, a43, a44, a45, a46, a47, a48, a49, a50, a51, a52, a53, a54, a55, a56, a57, a58, a59, a60, a61, a62, a63, a64, a65, a66, a67, a68, a69, a70, a71, a72, a73, a74, a75, a76, a77, a78, a79, a80, a81, a82, a83, a84, a85, a86, a87, a88, a89, a90, a91].Perm [a0, a16, a17, a18, a19, a20, a21, a22, a23, a24, a25, a26, a27, a28, a29, a30, a31, a32, a33, a34, a35, a36, a37, a38, a15, a65, a66, a67, a68, a69, a70, a71, a72, a73, a74, a75, a76, a77, a78, a79, a80, a81, a82, a83, a84, a85, a86, a87, a88, a89, a90, a91, a1, a2, a3, a4, a5, a6, a7, a8, a9, a10, a11, a12, a13, a14, a39, a40, a41, a42, a43, a44, a45, a46, a47, a48, a49, a50, a51, a52, a53, a54, a55, a56, a57, a58, a59, a60, a61, a62, a63, a64] := perm_placesN [0, 16, 17, 18, 19, 20, 21, 22, 23, 24, 25, 26, 27, 28, 29, 30, 31, 32, 33, 34, 35, 36, 37, 38, 15, 65, 66, 67, 68, 69, 70, 71, 72, 73, 74, 75, 76, 77, 78, 79, 80, 81, 82, 83, 84, 85, 86, 87, 88, 89, 90, 91, 1, 2, 3, 4, 5, 6, 7, 8, 9, 10, 11, 12, 13, 14, 39, 40, 41, 42, 43, 44, 45, 46, 47, 48, 49, 50, 51, 52, 53, 54, 55, 56, 57, 58, 59, 60, 61, 62, 63, 64] _ _ (n := 92) rfl (by decide +kernel) rfl
set_option maxRecDepth 100000 in
theorem pv_48 {α : Type} {a0 a1 a2 a3 a4 a5 a6 a7 a8 a9 a10 a11 a12 a13 a14 a15 a16 a17 a18 a19 a20 a21 a22 a23 a24 a25 a26 a27 a28 a29 a30 a31 a32 a33 a34 a35 a36 a37 a38 a39 a40 a41 a42 a43 a44 a45 a46 a47 a48 a49 a50 a51 a52 a53 a54 a55 a56 a57 a58 a59 a60 a61 a62 a63 a64 a65 a66 a67 a68 a69 a70 a71 a72 a73 a74 a75 a76 a77 a78 a79 a80 a81 a82 a83 a84 a85 a86 a87 a88 a89 a90 a91 : α} : [a0, a1, a2, a3, a4, a5, a6, a7, a8, a9, a10, a11, a12, a13, a14, a15, a16, a17, a18, a19, a20, a21, a22, a23, a24, a25, a26, a27, a28, a29, a30, a31, a32, a33, a34, a35, a36, a37, a38, a39, a40, a41, a42, a43, a44, a45, a46, a47, a48, a49, a50, a51, a52, a53, a54, a55, a56, a57, a58, a59, a60, a61, a62, a63, a64, a65, a66, a67, a68, a69, a70, a71, a72, a73, a74, a75, a76, a77, a78, a79, a80, a81, a82, a83, a84, a85, a86, a87, a88, a89, a90, a91].Perm [a0, a52, a53, a54, a55, a56, a57, a58, a59, a60, a61, a62, a63, a64, a65, a24, a1, a2, a3, a4, a5, a6, a7, a8, a9, a10, a11, a12, a13, a14, a15, a16, a17, a18, a19, a20, a21, a22, a23, a66, a67, a68, a69, a70, a71, a72, a73, a74, a75, a76, a77, a78, a79, a80, a81, a82, a83, a84, a85, a86, a87, a88, a89, a90, a91, a25, a26, a27, a28, a29, a30, a31, a32, a33, a34, a35, a36, a37, a38, a39, a40, a41, a42, a43, a44, a45, a46, a47, a48, a49, a50, a51] := perm_placesN [0, 52, 53, 54, 55, 56, 57, 58, 59, 60, 61, 62, 63, 64, 65, 24, 1, 2, 3, 4, 5, 6, 7, 8, 9, 10, 11, 12, 13, 14, 15, 16, 17, 18, 19, 20, 21, 22, 23, 66, 67, 68, 69, 70, 71, 72, 73, 74, 75, 76, 77, 78, 79, 80, 81, 82, 83, 84, 85, 86, 87, 88, 89, 90, 91, 25, 26, 27, 28, 29, 30, 31, 32, 33, 34, 35, 36, 37, 38, 39, 40, 41, 42, 43, 44, 45, 46, 47, 48, 49, 50, 51] _ _ (n := 92) rfl (by decide +kernel) rfl
set_option maxRecDepth 100000 in
theorem pv_49 {α : Type} {a0 a1 a2 a3 a4 a5 a6 a7 a8 a9 a10 a11 a12 a13 a14 a15 a16 a17 a18 a19 a20 a21 a22 a23 a24 a25 a26 a27 a28 a29 a30 a31 a32 a33 a34 a35 a36 a37 a38 a39 a40 a41 a42 a43 a44 a45 a46 a47 a48 a49 a50 a51 a52 a53 a54 a55 a56 a57 a58 a59 a60 a61 a62 a63 a64 a65 a66 a67 a68 a69 a70 a71 a72 a73 a74 a75 a76 a77 a78 a79 a80 a81 a82 a83 a84 a85 a86 a87 a88 a89 a90 a91 a92 a93 a94 : α} : [a0, a1, a2, a3, a4, a5, a6, a7, a8, a9, a10, a11, a12, a13, a14, a15, a16, a17, a18, a19, a20, a21, a22, a23, a24, a25, a26, a27, a28, a29, a30, a31, a32, a33, a34, a35, a36, a37, a38, a39, a40, a41, a42, a43, a44, a45, a46, a47, a48, a49, a50, a51, a52, a53, a54, a55, a56, a57, a58, a59, a60, a61, a62, a63, a64, a65, a66, a67, a68, a69, a70, a71, a72, a73, a74, a75, a76, a77, a78, a79, a80, a81, a82, a83, a84, a85, a86, a87, a88, a89, a90, a91, a92, a93, a94].Perm [a0, a16, a17, a18, a19, a20, a21, a22, a23, a24, a25, a26, a27, a28, a29, a30, a31, a32, a33, a34, a35, a36, a37, a38, a15, a65, a66, a67, a68, a69, a70, a71, a72, a73, a74, a75, a76, a77, a78, a79, a80, a81, a82, a83, a84, a85, a86, a87, a88, a89, a90, a91, a92, a93, a94, a1, a2, a3, a4, a5, a6, a7, a8, a9, a10, a11, a12, a13, a14, a39, a40, a41, a42, a43, a44, a45, a46, a47, a48, a49, a50, a51, a52, a53, a54, a55, a56, a57, a58, a59, a60, a61, a62, a63, a64] := perm_placesN [0, 16, 17, 18, 19, 20, 21, 22, 23, 24, 25, 26, 27, 28, 29, 30, 31, 32, 33, 34, 35, 36, 37, 38, 15, 65, 66, 67, 68, 69, 70, 71, 72, 73, 74, 75, 76, 77, 78, 79, 80, 81, 82, 83, 84, 85, 86, 87, 88, 89, 90, 91, 92, 93, 94, 1, 2, 3, 4, 5, 6, 7, 8, 9, 10, 11, 12, 13, 14, 39, 40, 41, 42, 43, 44, 45, 46, 47, 48, 49, 50, 51, 52, 53, 54, 55, 56, 57, 58, 59, 60, 61, 62, 63, 64] _ _ (n := 95) rfl (by decide +kernel) rfl
set_option maxRecDepth 100000 in
theorem pv_50 {α : Type} {a0 a1 a2 a3 a4 a5 a6 a7 a8 a9 a10 a11 a12 a13 a14 a15 a16 a17 a18 a19 a20 a21 a22 a23 a24 a25 a26 a27 a28 a29 a30 a31 a32 a33 a34 a35 a36 a37 a38 a39 a40 a41 a42 a43 a44 a45 a46 a47 a48 a49 a50 a51 a52 a53 a54 a55 a56 a57 a58 a59 a60 a61 a62 a63 a64 a65 a66 a67 a68 a69 a70 a71 a72 a73 a74 a75 a76 a77 a78 a79 a80 a81 a82 a83 a84 a85 a86 a87 a88 a89 a90 a91 a92 a93 a94 : α} : [a0, a1, a2, a3, a4, a5, a6, a7, a8, a9, a10, a11, a12, a13, a14, a15, a16, a17, a18, a19, a20, a21, a22, a23, a24, a25, a26, a27, a28, a29, a30, a31, a32, a33, a34, a35, a36, a37, a38, a39, a40, a41, a42, a43, a44, a45, a46, a47, a48, a49, a50, a51, a52, a53, a54, a55, a56, a57, a58, a59, a60, a61, a62, a63, a64, a65, a66, a67, a68, a69, a70, a71, a72, a73, a74, a75, a76, a77, a78, a79, a80, a81, a82, a83, a84, a85, a86, a87, a88, a89, a90, a91, a92, a93, a94].Perm [a0, a55, a56, a57, a58, a59, a60, a61, a62, a63, a64, a65, a66, a67, a68, a24, a1, a2, a3, a4, a5, a6, a7, a8, a9, a10, a11, a12, a13, a14, a15, a16, a17, a18, a19, a20, a21, a22, a23, a69, a70, a71, a72, a73, a74, a75, a76, a77, a78, a79, a80, a81, a82, a83, a84, a85, a86, a87, a88, a89, a90, a91, a92, a93, a94, a25, a26, a27, a28, a29, a30, a31, a32, a33, a34, a35, a36, a37, a38, a39, a40, a41, a42, a43, a44, a45, a46, a47, a48, a49, a50, a51, a52, a53, a54] := perm_placesN [0, 55, 56, 57, 58, 59, 60, 61, 62, 63, 64, 65, 66, 67, 68, 24, 1, 2, 3, 4, 5, 6, 7, 8, 9, 10, 11, 12, 13, 14, 15, 16, 17, 18, 19, 20, 21, 22, 23, 69, 70, 71, 72, 73, 74, 75, 76, 77, 78, 79, 80, 81, 82, 83, 84, 85, 86, 87, 88, 89, 90, 91, 92, 93, 94, 25, 26, 27, 28, 29, 30, 31, 32, 33, 34, 35, 36, 37, 38, 39, 40, 41, 42, 43, 44, 45, 46, 47, 48, 49, 50, 51, 52, 53, 54] _ _ (n := 95) rfl (by decide +kernel) rfl
set_option maxRecDepth 100000 in
theorem pv_59 {α : Type} {a0 a1 a2 a3 a4 a5 a6 a7 a8 a9 a10 a11 a12 a13 a14 a15 a16 a17 a18 a19 a20 : α} : [a0, a1, a2, a3, a4, a5, a6, a7, a8, a9, a10, a11, a12, a13, a14, a15, a16, a17, a18, a19, a20].Perm [a0, a1, a2, a3, a4, a5, a6, a7, a8, a9, a10, a11, a12, a13, a14, a15, a16, a17, a18, a19, a20] := perm_placesN [0, 1, 2, 3, 4, 5, 6, 7, 8, 9, 10, 11, 12, 13, 14, 15, 16, 17, 18, 19, 20] _ _ (n := 21) rfl (by decide +kernel) rfl
set_option maxRecDepth 100000 in
theorem pv_60 {α : Type} {a0 a1 a2 a3 a4 a5 a6 a7 a8 a9 a10 a11 a12 a13 a14 a15 a16 a17 a18 a19 a20 : α} : [a0, a1, a2, a3, a4, a5, a6, a7, a8, a9, a10, a11, a12, a13, a14, a15, a16, a17, a18, a19, a20].Perm [a0, a1, a3, a6, a10, a2, a4, a5, a7, a8, a9, a11, a12, a13, a14, a15, a16, a17, a18, a19, a20] := perm_placesN [0, 1, 3, 6, 10, 2, 4, 5, 7, 8, 9, 11, 12, 13, 14, 15, 16, 17, 18, 19, 20] _ _ (n := 21) rfl (by decide +kernel) rfl
set_option maxRecDepth 100000 in
theorem pv_61 {α : Type} {a0 a1 a2 a3 a4 a5 a6 a7 a8 a9 a10 a11 a12 a13 a14 a15 a16 a17 a18 a19 a20 : α} : [a0, a1, a2, a3, a4, a5, a6, a7, a8, a9, a10, a11, a12, a13, a14, a15, a16, a17, a18, a19, a20].Perm [a0, a1, a5, a2, a6, a7, a3, a8, a9, a10, a4, a11, a12, a13, a14, a15, a16, a17, a18, a19, a20] := perm_placesN [0, 1, 5, 2, 6, 7, 3, 8, 9, 10, 4, 11, 12, 13, 14, 15, 16, 17, 18, 19, 20] _ _ (n := 21) rfl (by decide +kernel) rfl
set_option maxRecDepth 100000 in
theorem pv_62 {α : Type} {a0 a1 a2 a3 a4 a5 a6 a7 a8 a9 a10 a11 a12 a13 a14 a15 a16 a17 a18 a19 a20 : α} : [a0, a1, a2, a3, a4, a5, a6, a7, a8, a9, a10, a11, a12, a13, a14, a15, a16, a17, a18, a19, a20].Perm [a0, a1, a2, a3, a4, a5, a7, a6, a8, a9, a10, a11, a12, a13, a14, a15, a16, a17, a18, a19, a20] := perm_placesN [0, 1, 2, 3, 4, 5, 7, 6, 8, 9, 10, 11, 12, 13, 14, 15, 16, 17, 18, 19, 20] _ _ (n := 21) rfl (by decide +kernel) rfl
set_option maxRecDepth 100000 in
theorem pv_63 {α : Type} {a0 a1 a2 a3 a4 a5 a6 a7 a8 a9 a10 a11 a12 a13 a14 a15 a16 a17 a18 a19 a20 : α} : [a0, a1, a2, a3, a4, a5, a6, a7, a8, a9, a10, a11, a12, a13, a14, a15, a16, a17, a18, a19, a20].Perm [a0, a10, a1, a2, a3, a4, a5, a6, a7, a8, a9, a11, a12, a13, a14, a15, a16, a17, a18, a19, a20] := perm_placesN [0, 10, 1, 2, 3, 4, 5, 6, 7, 8, 9, 11, 12, 13, 14, 15, 16, 17, 18, 19, 20] _ _ (n := 21) rfl (by decide +kernel) rfl
set_option maxRecDepth 100000 in
theorem pv_64 {α : Type} {a0 a1 a2 a3 a4 a5 a6 a7 a8 a9 a10 a11 a12 a13 a14 a15 a16 a17 a18 a19 a20 : α} : [a0, a1, a2, a3, a4, a5, a6, a7, a8, a9, a10, a11, a12, a13, a14, a15, a16, a17, a18, a19, a20].Perm [a0, a2, a3, a4, a5, a6, a7, a8, a9, a10, a1, a11, a12, a13, a14, a15, a16, a17, a18, a19, a20] := perm_placesN [0, 2, 3, 4, 5, 6, 7, 8, 9, 10, 1, 11, 12, 13, 14, 15, 16, 17, 18, 19, 20] _ _ (n := 21) rfl (by decide +kernel) rfl
set_option maxRecDepth 100000 in
theorem pv_65 {α : Type} {a0 a1 a2 a3 a4 a5 a6 a7 a8 a9 a10 a11 a12 a13 a14 a15 a16 a17 a18 a19 a20 : α} : [a0, a1, a2, a3, a4, a5, a6, a7, a8, a9, a10, a11, a12, a13, a14, a15, a16, a17, a18, a19, a20].Perm [a0, a2, a4, a5, a8, a9, a10, a11, a1, a3, a6, a7, a12, a13, a14, a15, a16, a17, a18, a19, a20] := perm_placesN [0, 2, 4, 5, 8, 9, 10, 11, 1, 3, 6, 7, 12, 13, 14, 15, 16, 17, 18, 19, 20] _ _ (n := 21) rfl (by decide +kernel) rfl
set_option maxRecDepth 100000 in
theorem pv_66 {α : Type} {a0 a1 a2 a3 a4 a5 a6 a7 a8 a9 a10 a11 a12 a13 a14 a15 a16 a17 a18 a19 a20 : α} : [a0, a1, a2, a3, a4, a5, a6, a7, a8, a9, a10, a11, a12, a13, a14, a15, a16, a17, a18, a19, a20].Perm [a0, a8, a1, a9, a2, a3, a10, a11, a4, a5, a6, a7, a12, a13, a14, a15, a16, a17, a18, a19, a20] := perm_placesN [0, 8, 1, 9, 2, 3, 10, 11, 4, 5, 6, 7, 12, 13, 14, 15, 16, 17, 18, 19, 20] _ _ (n := 21) rfl (by decide +kernel) rfl
set_option maxRecDepth 100000 in
theorem pv_67 {α : Type} {a0 a1 a2 a3 a4 a5 a6 a7 a8 a9 a10 a11 a12 a13 a14 a15 a16 a17 a18 a19 a20 : α} : [a0, a1, a2, a3, a4, a5, a6, a7, a8, a9, a10, a11, a12, a13, a14, a15, a16, a17, a18, a19, a20].Perm [a0, a10, a11, a1, a2, a3, a4, a5, a6, a7, a8, a9, a12, a13, a14, a15, a16, a17, a18, a19, a20] := perm_placesN [0, 10, 11, 1, 2, 3, 4, 5, 6, 7, 8, 9, 12, 13, 14, 15, 16, 17, 18, 19, 20] _ _ (n := 21) rfl (by decide +kernel) rfl
set_option maxRecDepth 100000 in
theorem pv_68 {α : Type} {a0 a1 a2 a3 a4 a5 a6 a7 a8 a9 a10 a11 a12 a13 a14 a15 a16 a17 a18 a19 a20 : α} : [a0, a1, a2, a3, a4, a5, a6, a7, a8, a9, a10, a11, a12, a13, a14, a15, a16, a17, a18, a19, a20].Perm [a0, a3, a4, a5, a6, a7, a8, a9, a10, a11, a1, a2, a12, a13, a14, a15, a16, a17, a18, a19, a20] := perm_placesN [0, 3, 4, 5, 6, 7, 8, 9, 10, 11, 1, 2, 12, 13, 14, 15, 16, 17, 18, 19, 20] _ _ (n := 21) rfl (by decide +kernel) rfl
set_option maxRecDepth 100000 in
theorem pv_69 {α : Type} {a0 a1 a2 a3 a4 a5 a6 a7 a8 a9 a10 a11 a12 a13 a14 a15 a16 a17 a18 a19 a20 : α} : [a0, a1, a2, a3, a4, a5, a6, a7, a8, a9, a10, a11, a12, a13, a14, a15, a16, a17, a18, a19, a20].Perm [a0, a2, a4, a5, a8, a9, a10, a12, a1, a3, a6, a7, a11, a13, a14, a15, a16, a17, a18, a19, a20] := perm_placesN [0, 2, 4, 5, 8, 9, 10, 12, 1, 3, 6, 7, 11, 13, 14, 15, 16, 17, 18, 19, 20] _ _ (n := 21) rfl (by decide +kernel) rfl
set_option maxRecDepth 100000 in
theorem pv_70 {α : Type} {a0 a1 a2 a3 a4 a5 a6 a7 a8 a9 a10 a11 a12 a13 a14 a15 a16 a17 a18 a19 a20 : α} : [a0, a1, a2, a3, a4, a5, a6, a7, a8, a9, a10, a11, a12, a13, a14, a15, a16, a17, a18, a19, a20].Perm [a0, a8, a1, a9, a2, a3, a10, a11, a4, a5, a6, a12, a7, a13, a14, a15, a16, a17, a18, a19, a20] := perm_placesN [0, 8, 1, 9, 2, 3, 10, 11, 4, 5, 6, 12, 7, 13, 14, 15, 16, 17, 18, 19, 20] _ _ (n := 21) rfl (by decide +kernel) rfl
set_option maxRecDepth 100000 in
theorem pv_71 {α : Type} {a0 a1 a2 a3 a4 a5 a6 a7 a8 a9 a10 a11 a12 a13 a14 a15 a16 a17 a18 a19 a20 : α} : [a0, a1, a2, a3, a4, a5, a6, a7, a8, a9, a10, a11, a12, a13, a14, a15, a16, a17, a18, a19, a20].Perm [a0, a2, a4, a5, a8, a9, a10, a12, a13, a1, a3, a6, a7, a11, a14, a15, a16, a17, a18, a19, a20] := perm_placesN [0, 2, 4, 5, 8, 9, 10, 12, 13, 1, 3, 6, 7, 11, 14, 15, 16, 17, 18, 19, 20] _ _ (n := 21) rfl (by decide +kernel) rfl
set_option maxRecDepth 100000 in
theorem pv_72 {α : Type} {a0 a1 a2 a3 a4 a5 a6 a7 a8 a9 a10 a11 a12 a13 a14 a15 a16 a17 a18 a19 a20 : α} : [a0, a1, a2, a3, a4, a5, a6, a7, a8, a9, a10, a11, a12, a13, a14, a15, a16, a17, a18, a19, a20].Perm [a0, a9, a1, a10, a2, a3, a11, a12, a4, a5, a6, a13, a7, a8, a14, a15, a16, a17, a18, a19, a20] := perm_placesN [0, 9, 1, 10, 2, 3, 11, 12, 4, 5, 6, 13, 7, 8, 14, 15, 16, 17, 18, 19, 20] _ _ (n := 21) rfl (by decide +kernel) rfl
set_option maxRecDepth 100000 in
theorem pv_73 {α : Type} {a0 a1 a2 a3 a4 a5 a6 a7 a8 a9 a10 a11 a12 a13 a14 a15 a16 a17 a18 a19 a20 : α} : [a0, a1, a2, a3, a4, a5, a6, a7, a8, a9, a10, a11, a12, a13, a14, a15, a16, a17, a18, a19, a20].Perm [a0, a2, a4, a5, a8, a9, a10, a12, a14, a1, a3, a6, a7, a11, a13, a15, a16, a17, a18, a19, a20] := perm_placesN [0, 2, 4, 5, 8, 9, 10, 12, 14, 1, 3, 6, 7, 11, 13, 15, 16, 17, 18, 19, 20] _ _ (n := 21) rfl (by decide +kernel) rfl
set_option maxRecDepth 100000 in
theorem pv_74 {α : Type} {a0 a1 a2 a3 a4 a5 a6 a7 a8 a9 a10 a11 a12 a13 a14 a15 a16 a17 a18 a19 a20 : α} : [a0, a1, a2, a3, a4, a5, a6, a7, a8, a9, a10, a11, a12, a13, a14, a15, a16, a17, a18, a19, a20].Perm [a0, a9, a1, a10, a2, a3, a11, a12, a4, a5, a6, a13, a7, a14, a8, a15, a16, a17, a18, a19, a20] := perm_placesN [0, 9, 1, 10, 2, 3, 11, 12, 4, 5, 6, 13, 7, 14, 8, 15, 16, 17, 18, 19, 20] _ _ (n := 21) rfl (by decide +kernel) rfl
set_option maxRecDepth 100000 in
theorem pv_75 {α : Type} {a0 a1 a2 a3 a4 a5 a6 a7 a8 a9 a10 a11 a12 a13 a14 a15 a16 a17 a18 a19 a20 : α} : [a0, a1, a2, a3, a4, a5, a6, a7, a8, a9, a10, a11, a12, a13, a14, a15, a16, a17, a18, a19, a20].Perm [a0, a2, a4, a5, a8, a9, a10, a12, a15, a16, a1, a3, a6, a7, a11, a13, a14, a17, a18, a19, a20] := perm_placesN [0, 2, 4, 5, 8, 9, 10, 12, 15, 16, 1, 3, 6, 7, 11, 13, 14, 17, 18, 19, 20] _ _ (n := 21) rfl (by decide +kernel) rfl
set_option maxRecDepth 100000 in
theorem pv_76 {α : Type} {a0 a1 a2 a3 a4 a5 a6 a7 a8 a9 a10 a11 a12 a13 a14 a15 a16 a17 a18 a19 a20 : α} : [a0, a1, a2, a3, a4, a5, a6, a7, a8, a9, a10, a11, a12, a13, a14, a15, a16, a17, a18, a19, a20].Perm [a0, a10, a1, a11, a2, a3, a12, a13, a4, a5, a6, a14, a7, a15, a16, a8, a9, a17, a18, a19, a20] := perm_placesN [0, 10, 1, 11, 2, 3, 12, 13, 4, 5, 6, 14, 7, 15, 16, 8, 9, 17, 18, 19, 20] _ _ (n := 21) rfl (by decide +kernel) rfl
set_option maxRecDepth 100000 in
theorem pv_77 {α : Type} {a0 a1 a2 a3 a4 a5 a6 a7 a8 a9 a10 a11 a12 a13 a14 a15 a16 a17 a18 a19 a20 : α} : [a0, a1, a2, a3, a4, a5, a6, a7, a8, a9, a10, a11, a12, a13, a14, a15, a16, a17, a18, a19, a20].Perm [a0, a10, a17, a18, a19, a20, a1, a2, a3, a4, a5, a6, a7, a8, a9, a11, a12, a13, a14, a15, a16] := perm_placesN [0, 10, 17, 18, 19, 20, 1, 2, 3, 4, 5, 6, 7, 8, 9, 11, 12, 13, 14, 15, 16] _ _ (n := 21) rfl (by decide +kernel) rfl
set_option maxRecDepth 100000 in
theorem pv_78 {α : Type} {a0 a1 a2 a3 a4 a5 a6 a7 a8 a9 a10 a11 a12 a13 a14 a15 a16 a17 a18 a19 a20 : α} : [a0, a1, a2, a3, a4, a5, a6, a7, a8, a9, a10, a11, a12, a13, a14, a15, a16, a17, a18, a19, a20].Perm [a0, a6, a7, a8, a9, a10, a11, a12, a13, a14, a1, a15, a16, a17, a18, a19, a20, a2, a3, a4, a5] := perm_placesN [0, 6, 7, 8, 9, 10, 11, 12, 13, 14, 1, 15, 16, 17, 18, 19, 20, 2, 3, 4, 5] _ _ (n := 21) rfl (by decide +kernel) rfl
