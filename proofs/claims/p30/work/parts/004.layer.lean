/-! the layer: one word list for all methods; contracts of one shape; a call, an end, a start of a row each -/
abbrev classes : List vw_C := [(RX0, TX0, 1), (RX1, TX1, 3), (RX2, TX2, 4), (RX3, TX3, 4), (RX4, TX4, 3), (RX5, TX5, 3), (RX6, TX6, 2), (RX7, TX7, 3), (RX8, TX8, 5), (RX9, TX9, 14), (RX10, TX10, 6), (RX11, TX11, 12), (RX12, TX12, 36)]
theorem iX0 : ∀ w ∈ u_ws RX0 TX0 1, w ∈ gT := by decide +kernel
theorem iX1 : ∀ w ∈ u_ws RX1 TX1 3, w ∈ gT := by decide +kernel
theorem iX2 : ∀ w ∈ u_ws RX2 TX2 4, w ∈ gT := by decide +kernel
theorem iX3 : ∀ w ∈ u_ws RX3 TX3 4, w ∈ gT := by decide +kernel
theorem iX4 : ∀ w ∈ u_ws RX4 TX4 3, w ∈ gT := by decide +kernel
theorem iX5 : ∀ w ∈ u_ws RX5 TX5 3, w ∈ gT := by decide +kernel
theorem iX6 : ∀ w ∈ u_ws RX6 TX6 2, w ∈ gT := by decide +kernel
theorem iX7 : ∀ w ∈ u_ws RX7 TX7 3, w ∈ gT := by decide +kernel
theorem iX8 : ∀ w ∈ u_ws RX8 TX8 5, w ∈ gT := by decide +kernel
theorem iX9 : ∀ w ∈ u_ws RX9 TX9 14, w ∈ gT := by decide +kernel
theorem iX10 : ∀ w ∈ u_ws RX10 TX10 6, w ∈ gT := by decide +kernel
theorem iX11 : ∀ w ∈ u_ws RX11 TX11 12, w ∈ gT := by decide +kernel
theorem iX12 : ∀ w ∈ u_ws RX12 TX12 36, w ∈ gT := by decide +kernel
abbrev tysOf (tc : Nat → ClassId) : List (ClassId × FieldType) := [(tc 0, .int), (tc 1, .long), (tc 2, .byte), (tc 3, .boolean), (tc 4, .object RX6), (tc 5, .object RX9), (tc 6, .object RX8)]
theorem good_T : gT.all goodWord = true := List.all_eq_true.mpr fun _ h => (List.mem_filter.mp h).2
abbrev Wd (y : MethodName) (b : ByteArray) (n : Nat) (r : Option FieldType) : List Cond := .code y b n r :: gT
theorem gd {y : MethodName} {b : ByteArray} {n : Nat} {r : Option FieldType} (h : Cond.code y b n r ∈ gT) : GoodIn gT (Wd y b n r) := fun w hw => by
  have hm : w ∈ gT := by
    rcases List.mem_cons.mp hw with e | e
    · rw [e]; exact h
    · exact e
  exact ⟨hm, good_of_word (List.all_eq_true.mp good_T w hm)⟩
def lenS : List Nat := [21, 3, 75, 2, 3, 3, 2]
def bytS : List (List Int32) := [
  [98,111,111,107,32,115,107,121,32,98,117,121,101,114,32,119,97,116,99,104,32],
  [98,117,121],
  [98,117,121,101,114,32,116,101,109,112,101,114,32,103,114,97,105,110,115,32,119,97,105,116,115,32,115,116,105,108,108,32,110,101,120,116,32,115,104,101,108,102,32,98,111,117,103,104,116,32,109,101,116,32,115,105,110,99,101,32,115,111,108,100,32,99,108,111,99,107,32,100,97,121,32],
  [105,102],
  [110,111,116],
  [97,110,100],
  [111,114]]
def sOwn : List (String × Nat × String) := [(RX0, 41, "book sky buyer watch "), (RX7, 31, "buy"), (RX7, 111, "buyer temper grains waits still next shelf bought met since sold clock day "), (RX7, 48, "if"), (RX7, 84, "not"), (RX7, 80, "and"), (RX7, 82, "or")]
/-- the links to private constructors of nest mates; the classes of which arrays are made -/
def nstW : List (String × Nat × MethodName) := [(RX11, 9, yX10_init), (RX11, 18, yX0_init), (RX0, 11, yX9_init), (RX11, 25, yX7_init), (RX11, 42, yX8_init), (RX8, 11, yX9_init), (RX8, 23, yX3_init), (RX11, 56, yX5_init), (RX11, 67, yX4_init), (RX4, 11, yX9_init), (RX11, 74, yX1_init), (RX1, 11, yX9_init), (RX11, 81, yX2_init), (RX2, 13, yX9_init), (RX5, 24, yX9_init)]
def aovW : List String := [RX6, RX9, RX8]
/-- the String constants, the statics that String's methods read, the nest's links, the arrays' classes -/
def Sx (sk : (Nat → Nat) × (Nat → Nat)) (A : Nat → Prop) (U : State) (H : Heap) : Prop :=
  vk_S 7 lenS bytS sk.1 sk.2 A U H ∧ va_Z "java/lang/String" "COMPACT_STRINGS" "Z" (.int 1) A U H ∧ va_Zq "jdk/internal/util/Preconditions" "SIOOBE_FORMATTER" "Ljava/util/function/BiFunction;" A U H ∧
  (∀ (i : Nat) (q : String × Nat × String), sOwn[i]? = some q → vk_R q.1 q.2.1 q.2.2 (sk.1 i) U) ∧ (∀ q ∈ nstW, va_Nw (.methodLinkNest q.1 q.2.1 q.2.2 RX11) U) ∧ (∀ C ∈ aovW, va_AO C U) ∧ va_Nw (.castable "[I" "java/lang/Cloneable") U
theorem Sx.narrow {sk : (Nat → Nat) × (Nat → Nat)} {A B : Nat → Prop} {U : State} {H : Heap} (h : Sx sk A U H) (hAB : ∀ q, B q → A q) : Sx sk B U H :=
  ⟨h.1.narrow hAB, h.2.1.narrow hAB, h.2.2.1.elim (fun z => Or.inl (z.narrow hAB)) (fun ⟨t, z⟩ => Or.inr ⟨t, z.narrow hAB⟩), h.2.2.2⟩
theorem Sx.kept {sk : (Nat → Nat) × (Nat → Nat)} {A : Nat → Prop} {U : State} {H H1 : Heap} (h : Sx sk A U H) (hq : ∀ a : Nat, a < H.size → ¬ A a → H1[a]? = H[a]?) : Sx sk A U H1 :=
  ⟨h.1.kept hq, h.2.1.kept hq, h.2.2.1.elim (fun z => Or.inl (z.kept hq)) (fun ⟨t, z⟩ => Or.inr ⟨t, z.kept hq⟩), h.2.2.2⟩
theorem Sx.warm {sk : (Nat → Nat) × (Nat → Nat)} {A : Nat → Prop} {s U : State} {H : Heap} (hW : s.WarmedH U.vm) (h : Sx sk A s H) : Sx sk A U H :=
  ⟨h.1.moved hW.alike, h.2.1.moved hW.alike, h.2.2.1.elim (fun z => Or.inl (z.moved hW.alike)) (fun ⟨t, z⟩ => Or.inr ⟨t, z.moved hW.alike⟩), fun i q hq => (h.2.2.2.1 i q hq).warm hW, fun q hq => (h.2.2.2.2.1 q hq).warmM hW, fun C hC => (h.2.2.2.2.2.1 C hC).moved hW.alike, h.2.2.2.2.2.2.warmC hW⟩
theorem Sx.same {sk : (Nat → Nat) × (Nat → Nat)} {A : Nat → Prop} {u U : State} {H : Heap} (hv : U.vm = u.vm) (h : Sx sk A u H) : Sx sk A U H := by
  have ha : u.vm.Alike U.vm := by rw [hv]; exact Vm.Alike.refl _
  exact ⟨h.1.moved ha, h.2.1.moved ha, h.2.2.1.elim (fun z => Or.inl (z.moved ha)) (fun ⟨t, z⟩ => Or.inr ⟨t, z.moved ha⟩), fun i q hq => (h.2.2.2.1 i q hq).same hv, fun q hq => va_Nw.same rfl hv.symm (h.2.2.2.2.1 q hq), fun C hC => (h.2.2.2.2.2.1 C hC).moved ha, va_Nw.same rfl hv.symm h.2.2.2.2.2.2⟩
def QW {S : Type} (post : Option Value → S → Prop) (B : S → State → Prop) (A : Nat → Prop) : Array Value → State → Outcome → State → Prop := fun _ st oc t => (∃ (v : Option Value) (u : S), oc = .returned v ∧ post v u ∧ B u t) ∧ va_F A st t
abbrev BW {S : Type} (D : va_G) (cellsf : S → va_W) (A : Nat → Prop) : S → State → Prop := fun u t => va_P D classes (cellsf u) t.heap ∧ va_D A (cellsf u)
def PW (D : va_G) (tc : Nat → ClassId) (sk : (Nat → Nat) × (Nat → Nat)) (pre : va_W) (sz : Nat) : State → Prop := fun U => U.heap.size = sz ∧ va_P D classes pre U.heap ∧ va_K D classes (tysOf tc) U ∧ va_D (fun _ => True) pre ∧ Sx sk (va_A pre sz) U U.heap
def Ct {S : Type} (l : Launch) (y : MethodName) (b : ByteArray) (n : Nat) (r : Option FieldType) (rm : Room) (D : va_G) (tc : Nat → ClassId) (sk : (Nat → Nat) × (Nat → Nat)) (av : List Value) (pre : va_W) (post : Option Value → S → Prop) (cellsf : S → va_W) (mc ms : Nat) : Prop :=
  ∀ sz : Nat, Met l y (Wd y b n r) rm (va_Pc av (PW D tc sk pre sz)) (QW post (BW D cellsf (va_A pre sz)) (va_A pre sz)) mc ms (va_A pre sz)
theorem Ct.start {S : Type} {l : Launch} {y : MethodName} {b : ByteArray} {n : Nat} {r : Option FieldType} {rm : Room} {D : va_G} {tc : Nat → ClassId} {sk : (Nat → Nat) × (Nat → Nat)} {av : List Value} {pre : va_W} {post : Option Value → S → Prop} {cellsf : S → va_W} {mc ms : Nat} (hpl : plainName y.cls = true) (hlen : (lg_sl av).length ≤ n)
    (body : ∀ (p : Program) (e : Env) (s : State) (m : MethodId) (below : List Frame) (meth : Method) (c : Code) (A : Nat → Prop) (ls : Array Slot), p.tables.exec = Jvm.exec → c.code = b → meth.sig.returnType = r → meth.locks = false → meth.name = y.name → c.maxLocals = n → s.vm.findClass y.cls = some m.cls → (∀ w ∈ gT, w.before av.toArray s = true) → va_K D classes (tysOf tc) s → Sx sk A s s.heap → va_P D classes pre s.heap → va_D A pre → (∀ q, s.heap.size ≤ q → A q) → lv_has ls n (lv_args 0 av) → va_S A s.heap s.heap [] →
      W p l e rm s m av.toArray below meth c s.heap [] 0 0 (MQ below (QW post (BW D cellsf A) A) av.toArray s mc ms A) (F0 m 0 ls [])) : Ct l y b n r rm D tc sk av pre post cellsf mc ms := by
  intro sz
  refine Met.ofW (cc := b) (maxL := n) (ret := r) hpl rfl ?_
  intro p e s m args below meth c s₁ B hml hv
  obtain ⟨rfl, hsz, hP, hK, hD0, hX⟩ := hv
  subst hsz
  have hts := atoms_spec (ws := Wd y b n r) B.pre
  have hl := lv_entry av (n := n) hlen
  rw [lg_entry_eq]
  exact body p e s m below meth c (va_A pre s.heap.size) _ B.exec B.bytes B.returns B.notSynchronized (name_of_methodNamed B.named B.method).1 hml (findClass_of_methodNamed B.named) (fun w hw => hts w (List.mem_cons_of_mem _ hw)) hK hX hP hD0.self (fun q h => Or.inr h) hl va_S.rf
section LYR
variable {p : Program} {l : Launch} {e : Env} {R : Room} {s : State} {m : MethodId} {args : Array Value} {below : List Frame} {meth : Method} {c : Code} {H : Heap} {locs : List Loc} {cells slots : Nat} {Q : State → Prop}
variable {cc b : ByteArray} {pc : Nat} {ls : Array Slot} {rest st0 : List Value} {D : va_G} {A : Nat → Prop} {a n nL k mc ms index : Nat} {tc : Nat → ClassId} {sk : (Nat → Nat) × (Nat → Nat)} {ws wr pre : va_W} {r : Option FieldType} {rm : Room} {y : MethodName} {own C : String} {As : List Value}
theorem retI {S : Type} {post : Option Value → S → Prop} {cellsf : S → va_W} {ty : FieldType} {v : Int32} (hx : p.tables.exec = Jvm.exec) (hb : c.code = cc) (hr : meth.sig.returnType = some ty) (hlocks : meth.locks = false) (hn : narrow ty (.int v) = .int v) (hP : va_P D classes ws H) (hD : va_D A ws) (hS : va_S A s.heap H locs) (u : S) (hp : post (some (.int v)) u) (is : List Nat) (h2 : va_nd is = true) (h3 : is.map (fun i => ws[i]?) = (cellsf u).map some) (hdg : decode cc pc = .ok (.ireturn, 1)) (hc : cells ≤ mc) (hs : slots ≤ ms) (h1 : is.filterMap (fun i => ws[i]?) = cellsf u) :
    W p l e R s m args below meth c H locs cells slots (MQ below (QW post (BW D cellsf A) A) args s mc ms A) (F0 m pc ls [.int v]) := by
  refine W.widen hc hs ?_
  exact W.zret hx hb hr hn (fun t ht hW => ⟨⟨_, u, rfl, hp, by rw [ht]; exact hP.sub is h1, hD.sub is h2 h3⟩, hS.F ht⟩) hS.2.2 hdg hlocks
theorem retL {S : Type} {post : Option Value → S → Prop} {cellsf : S → va_W} {v : Int64} (hx : p.tables.exec = Jvm.exec) (hb : c.code = cc) (hr : meth.sig.returnType = some .long) (hlocks : meth.locks = false) (hP : va_P D classes ws H) (hD : va_D A ws) (hS : va_S A s.heap H locs) (u : S) (hp : post (some (.long v)) u) (is : List Nat) (h2 : va_nd is = true) (h3 : is.map (fun i => ws[i]?) = (cellsf u).map some) (hdg : decode cc pc = .ok (.lreturn, 1)) (hc : cells ≤ mc) (hs : slots ≤ ms) (h1 : is.filterMap (fun i => ws[i]?) = cellsf u) :
    W p l e R s m args below meth c H locs cells slots (MQ below (QW post (BW D cellsf A) A) args s mc ms A) (F0 m pc ls [.long v]) := by
  refine W.widen hc hs ?_
  exact W.lret hx hb hr (fun t ht hW => ⟨⟨_, u, rfl, hp, by rw [ht]; exact hP.sub is h1, hD.sub is h2 h3⟩, hS.F ht⟩) hS.2.2 hdg hlocks
theorem retA {S : Type} {post : Option Value → S → Prop} {cellsf : S → va_W} {v : Value} {rt : FieldType} (hx : p.tables.exec = Jvm.exec) (hb : c.code = cc) (hr : meth.sig.returnType = some rt) (hlocks : meth.locks = false) (hrt : (∃ n, rt = .object n) ∨ ∃ t, rt = .array t) (hv : v = .null ∨ ∃ a, v = .ref a) (hP : va_P D classes ws H) (hD : va_D A ws) (hS : va_S A s.heap H locs) (u : S) (hp : post (some v) u) (is : List Nat) (h2 : va_nd is = true) (h3 : is.map (fun i => ws[i]?) = (cellsf u).map some) (hdg : decode cc pc = .ok (.areturn, 1)) (hc : cells ≤ mc) (hs : slots ≤ ms) (h1 : is.filterMap (fun i => ws[i]?) = cellsf u) :
    W p l e R s m args below meth c H locs cells slots (MQ below (QW post (BW D cellsf A) A) args s mc ms A) (F0 m pc ls [v]) := by
  refine W.widen hc hs ?_
  exact W.aret hx hb hr hrt hv (fun t ht hW => ⟨⟨_, u, rfl, hp, by rw [ht]; exact hP.sub is h1, hD.sub is h2 h3⟩, hS.F ht⟩) hS.2.2 hdg hlocks
theorem retV {S : Type} {post : Option Value → S → Prop} {cellsf : S → va_W} (hx : p.tables.exec = Jvm.exec) (hb : c.code = cc) (hr : meth.sig.returnType = none) (hlocks : meth.locks = false) (hP : va_P D classes ws H) (hD : va_D A ws) (hS : va_S A s.heap H locs) (u : S) (hp : post none u) (is : List Nat) (h2 : va_nd is = true) (h3 : is.map (fun i => ws[i]?) = (cellsf u).map some) (hdg : decode cc pc = .ok (.return_, 1)) (hc : cells ≤ mc) (hs : slots ≤ ms) (h1 : is.filterMap (fun i => ws[i]?) = cellsf u) :
    W p l e R s m args below meth c H locs cells slots (MQ below (QW post (BW D cellsf A) A) args s mc ms A) (F0 m pc ls []) := by
  refine W.widen hc hs ?_
  exact W.vret hx hb hr (fun t ht hW => ⟨⟨_, u, rfl, hp, by rw [ht]; exact hP.sub is h1, hD.sub is h2 h3⟩, hS.F ht⟩) hS.2.2 hdg hlocks
theorem cRun {S : Type} {post : Option Value → S → Prop} {B : S → State → Prop} {A1 : Nat → Prop} {av : Array Value} {free : Addr → Prop} (hr : va_Run p l e R s m args below meth c H locs cells slots mc ms (F0 m pc ls st0) rest (QW post B A1 av) free) (hS : va_S A s.heap H locs) (hA : ∀ q, q < H.size → A1 q → A q) (hf : ∀ q, free q → A q)
    (kk : ∀ (v : Option Value) (u : S) (t : State) (H1 : Heap) (locs1 : List Loc), t.heap = H1 → post v u → B u t → H.size ≤ H1.size → (∀ q : Nat, q < H.size → ¬ A1 q → H1[q]? = H[q]?) → va_S A s.heap H1 locs1 → W p l e R s m args below meth c H1 locs1 (cells + mc) (slots + ms) Q (F0 m (pc + 3) ls (v.toList ++ rest))) : W p l e R s m args below meth c H locs cells slots Q (F0 m pc ls st0) := by
  intro T hT X
  obtain ⟨v, st₀, t, T', L, h0, X', hL, e1, e2, ⟨⟨v', u, hv, hp, hb⟩, hz, hk⟩, st⟩ := hr T hT X
  cases hv
  rw [h0] at hz hk
  obtain ⟨t2, a1, b1⟩ := kk v u t T'.heap (locs ++ L) e1.symm hp hb (by rw [e1]; exact hz) (fun q h1 h2 => by rw [e1]; exact hk q h1 h2)
    ⟨Nat.le_trans hS.1 (by rw [e1]; exact hz), fun q h1 h2 => by rw [e1, hk q (Nat.lt_of_lt_of_le h1 hS.1) (fun z => h2 (hA q (Nat.lt_of_lt_of_le h1 hS.1) z))]; exact hS.2.1 q h1 h2, fun q hq => by
      rcases List.mem_append.mp hq with h | h
      · exact hS.2.2 q h
      · exact hf _ (hL q h)⟩ T' rfl X'
  exact ⟨t2, st t2 a1, b1⟩
theorem PW.blind (av : List Value) (sz : Nat) : FrameBlind (va_Pc av (PW D tc sk pre sz)) := by
  intro a' U g mk q
  obtain ⟨q0, q1, qP, qK, qD, qX⟩ := q
  exact ⟨q0, q1, qP, va_K.moved (u := U) (U := U.calling g mk a') (Vm.Alike.refl U.vm) qK, qD, Sx.same (u := U) rfl qX⟩
theorem PW.of (hK : va_K D classes (tysOf tc) s) (hX : Sx sk A s s.heap) (hA : ∀ q, s.heap.size ≤ q → A q) (hP : va_P D classes ws H) (hD : va_D A ws) (hS : va_S A s.heap H locs) (isC : List Nat) (hC1 : isC.filterMap (fun i => ws[i]?) = pre) (hC : isC.map (fun i => ws[i]?) = pre.map some) (hnC : va_nd isC = true) {U : State} (hU : U.heap = H) (hW : s.WarmedH U.vm) : PW D tc sk pre H.size U := by
  refine ⟨by rw [hU], by rw [hU]; exact hP.sub isC hC1, va_K.moved hW.alike hK, (hD.sub isC hnC hC).weaken (fun _ _ _ _ => trivial), ?_⟩
  rw [hU]
  exact Sx.warm hW ((hX.kept hS.2.1).narrow (va_free hD hS hA isC hC))
theorem goOn {S : Type} {post : Option Value → S → Prop} {cellsf : S → va_W} {av : Array Value} (hA : ∀ q, s.heap.size ≤ q → A q) (hP : va_P D classes ws H) (hD : va_D A ws) (hS : va_S A s.heap H locs) (isC isR : List Nat) (hC : isC.map (fun i => ws[i]?) = pre.map some) (hR : isR.map (fun i => ws[i]?) = wr.map some) (hn : va_nd isR = true) (hdis : ∀ i ∈ isR, i ∉ isC)
    (hr : va_Run p l e R s m args below meth c H locs cells slots mc ms (F0 m pc ls st0) rest (QW post (BW D cellsf (va_A pre H.size)) (va_A pre H.size) av) (va_A pre H.size))
    (kk : ∀ (v : Option Value) (u : S) (H1 : Heap) (locs1 : List Loc), post v u → va_P D classes (wr ++ cellsf u) H1 → va_D A (wr ++ cellsf u) → va_S A s.heap H1 locs1 → W p l e R s m args below meth c H1 locs1 (cells + mc) (slots + ms) Q (F0 m (pc + 3) ls (v.toList ++ rest))) : W p l e R s m args below meth c H locs cells slots Q (F0 m pc ls st0) := by
  have hFc := va_free (wc := pre) hD hS hA isC hC
  refine cRun hr hS (fun q _ h => hFc q h) hFc (fun v u t H1 locs1 ht hw hB hz1 hk1 hS1 => ?_)
  obtain ⟨hP1, hD1⟩ := hB
  rw [ht] at hP1
  obtain ⟨hP2, hD2⟩ := va_join (wr := wr) (w1 := cellsf u) hP hD isC isR hC hR hn hdis hk1 hFc hP1 hD1
  exact kk v u H1 locs1 hw hP2 hD2 hS1
/-- the room of a callee -/
abbrev RoomOk (R rm : Room) (n : Nat) : Prop := rm.frames + 1 ≤ R.frames ∧ 8 + (n + 11) + rm.locals ≤ R.locals
abbrev PlainC (y : MethodName) (k : Nat) : Prop := y.cls ≠ "java/lang/invoke/MethodHandle" ∧ y.cls ≠ "java/lang/invoke/VarHandle" ∧ (parseMethodDescriptor y.desc).map (fun d => d.parameters.length) = some k
theorem cV {S : Type} {post : Option Value → S → Prop} {cellsf : S → va_W} (X : CallFix p m c cc nL s args gT own) (hK : va_K D classes (tysOf tc) s) (hX : Sx sk A s s.heap) (hA : ∀ q, s.heap.size ≤ q → A q) (hM : Ct l y b n r rm D tc sk (.ref a :: As) pre post cellsf mc ms)
    (hw1 : Cond.code y b n r ∈ gT) (hw2 : Cond.methodLink own index y ∈ gT) (hw3 : Cond.instanceMethod y ∈ gT) (hw4 : Cond.selects y.cls y y ∈ gT) (hw5 : Cond.initialized y.cls ∈ gT) (hd : PlainC y k) (hR1 : RoomOk R rm n) (hrc : rm.cells = mc) (hrs : rm.slots = ms)
    (hrec : ∃ cell : Cell, H[a]? = some cell ∧ cell.vm.isStatics = false ∧ s.vm.findClass y.cls = some cell.cls)
    (hP : va_P D classes ws H) (hD : va_D A ws) (hS : va_S A s.heap H locs) (isC isR : List Nat) (hC1 : isC.filterMap (fun i => ws[i]?) = pre) (hC : isC.map (fun i => ws[i]?) = pre.map some) (hnC : va_nd isC = true) (hR : isR.map (fun i => ws[i]?) = wr.map some) (hn : va_nd isR = true) (hdis : ∀ i ∈ isR, i ∉ isC)
    (hlen : As.length = k) (hls : ls.size = nL) (hst : st0 = As.reverse ++ .ref a :: rest) (hroom : (rest.map fun v => v.category).sum ≤ 8) (hdg : decode cc pc = .ok (.invokevirtual index, 3)) (hf : cells + mc ≤ R.cells ∧ slots + ms ≤ R.slots)
    (kk : ∀ (v : Option Value) (u : S) (H1 : Heap) (locs1 : List Loc), post v u → va_P D classes (wr ++ cellsf u) H1 → va_D A (wr ++ cellsf u) → va_S A s.heap H1 locs1 → W p l e R s m args below meth c H1 locs1 (cells + mc) (slots + ms) Q (F0 m (pc + 3) ls (v.toList ++ rest))) : W p l e R s m args below meth c H locs cells slots Q (F0 m pc ls st0) := by
  have hts := X.2.2.2.2
  have cw : CallW R s args own y.cls index y b n r (Wd y b n r) rm mc ms k := ⟨callB_of k hts (gd hw1) rfl hrc hrs (hts _ hw5) (hts _ hw2) hd hR1, hts _ hw3, hts _ hw4⟩
  refine goOn hA hP hD hS isC isR hC hR hn hdis (va_runV X (hM H.size) cw ⟨PW.blind _ _, hrec, fun U hU hW => ⟨rfl, PW.of hK hX hA hP hD hS isC hC1 hC hnC hU hW⟩⟩ rfl hlen hls hst (lv_room hroom) hdg hf) kk
theorem cS {S : Type} {post : Option Value → S → Prop} {cellsf : S → va_W} (X : CallFix p m c cc nL s args gT own) (hK : va_K D classes (tysOf tc) s) (hX : Sx sk A s s.heap) (hA : ∀ q, s.heap.size ≤ q → A q) (hM : Ct l y b n r rm D tc sk As pre post cellsf mc ms)
    (hw1 : Cond.code y b n r ∈ gT) (hw2 : Cond.methodLink own index y ∈ gT) (hw3 : Cond.static y ∈ gT) (hw5 : Cond.initialized y.cls ∈ gT) (hd : PlainC y k) (hR1 : RoomOk R rm n) (hrc : rm.cells = mc) (hrs : rm.slots = ms)
    (hP : va_P D classes ws H) (hD : va_D A ws) (hS : va_S A s.heap H locs) (isC isR : List Nat) (hC1 : isC.filterMap (fun i => ws[i]?) = pre) (hC : isC.map (fun i => ws[i]?) = pre.map some) (hnC : va_nd isC = true) (hR : isR.map (fun i => ws[i]?) = wr.map some) (hn : va_nd isR = true) (hdis : ∀ i ∈ isR, i ∉ isC)
    (hlen : As.length = k) (hls : ls.size = nL) (hst : st0 = As.reverse ++ rest) (hroom : (rest.map fun v => v.category).sum ≤ 8) (hdg : decode cc pc = .ok (.invokestatic index, 3)) (hf : cells + mc ≤ R.cells ∧ slots + ms ≤ R.slots)
    (kk : ∀ (v : Option Value) (u : S) (H1 : Heap) (locs1 : List Loc), post v u → va_P D classes (wr ++ cellsf u) H1 → va_D A (wr ++ cellsf u) → va_S A s.heap H1 locs1 → W p l e R s m args below meth c H1 locs1 (cells + mc) (slots + ms) Q (F0 m (pc + 3) ls (v.toList ++ rest))) : W p l e R s m args below meth c H locs cells slots Q (F0 m pc ls st0) := by
  have hts := X.2.2.2.2
  have cw : CallB R s args own index y b n r (Wd y b n r) rm mc ms k ∧ (Cond.static y).before args s = true := ⟨callB_of k hts (gd hw1) rfl hrc hrs (hts _ hw5) (hts _ hw2) hd hR1, hts _ hw3⟩
  refine goOn hA hP hD hS isC isR hC hR hn hdis (va_runS X (hM H.size) cw ⟨PW.blind _ _, fun U hU hW => ⟨rfl, PW.of hK hX hA hP hD hS isC hC1 hC hnC hU hW⟩⟩ rfl hlen hls hst (lv_room hroom) hdg hf) kk
theorem cI {S : Type} {post : Option Value → S → Prop} {cellsf : S → va_W} (X : CallFix p m c cc nL s args gT own) (hK : va_K D classes (tysOf tc) s) (hX : Sx sk A s s.heap) (hA : ∀ q, s.heap.size ≤ q → A q) (hM : Ct l y b n none rm D tc sk (.ref a :: As) pre post cellsf mc ms)
    (hw1 : Cond.code y b n none ∈ gT) (hw2 : Cond.methodLink own index y ∈ gT) (hw3 : Cond.instanceMethod y ∈ gT) (hw5 : Cond.initialized y.cls ∈ gT) (hy1 : y.name = "<init>") (hd : PlainC y k) (hR1 : RoomOk R rm n) (hrc : rm.cells = mc) (hrs : rm.slots = ms)
    (hP : va_P D classes ws H) (hD : va_D A ws) (hS : va_S A s.heap H locs) (isC isR : List Nat) (hC1 : isC.filterMap (fun i => ws[i]?) = pre) (hC : isC.map (fun i => ws[i]?) = pre.map some) (hnC : va_nd isC = true) (hR : isR.map (fun i => ws[i]?) = wr.map some) (hn : va_nd isR = true) (hdis : ∀ i ∈ isR, i ∉ isC)
    (hlen : As.length = k) (hls : ls.size = nL) (hst : st0 = As.reverse ++ .ref a :: rest) (hroom : (rest.map fun v => v.category).sum ≤ 8) (hdg : decode cc pc = .ok (.invokespecial index, 3)) (hf : cells + mc ≤ R.cells ∧ slots + ms ≤ R.slots)
    (kk : ∀ (v : Option Value) (u : S) (H1 : Heap) (locs1 : List Loc), post v u → va_P D classes (wr ++ cellsf u) H1 → va_D A (wr ++ cellsf u) → va_S A s.heap H1 locs1 → W p l e R s m args below meth c H1 locs1 (cells + mc) (slots + ms) Q (F0 m (pc + 3) ls (v.toList ++ rest))) : W p l e R s m args below meth c H locs cells slots Q (F0 m pc ls st0) := by
  have hts := X.2.2.2.2
  refine goOn hA hP hD hS isC isR hC hR hn hdis (va_runI X (hM H.size) (cwI k hts (gd hw1) rfl hrc hrs (hts _ hw5) (hts _ hw2) (hts _ hw3) hy1 hd hR1) ⟨PW.blind _ _, fun U hU hW => ⟨rfl, PW.of hK hX hA hP hD hS isC hC1 hC hnC hU hW⟩⟩ rfl hlen hls hst (lv_room hroom) hdg hf) kk
theorem cN {S : Type} {post : Option Value → S → Prop} {cellsf : S → va_W} (X : CallFix p m c cc nL s args gT own) (hK : va_K D classes (tysOf tc) s) (hX : Sx sk A s s.heap) (hA : ∀ q, s.heap.size ≤ q → A q) (hM : Ct l y b n none rm D tc sk (.ref a :: As) pre post cellsf mc ms)
    (hw1 : Cond.code y b n none ∈ gT) (hw2 : (own, index, y) ∈ nstW) (hw3 : Cond.instanceMethod y ∈ gT) (hw5 : Cond.initialized y.cls ∈ gT) (hy1 : y.name = "<init>") (hd : PlainC y k) (hR1 : RoomOk R rm n) (hrc : rm.cells = mc) (hrs : rm.slots = ms)
    (hP : va_P D classes ws H) (hD : va_D A ws) (hS : va_S A s.heap H locs) (isC isR : List Nat) (hC1 : isC.filterMap (fun i => ws[i]?) = pre) (hC : isC.map (fun i => ws[i]?) = pre.map some) (hnC : va_nd isC = true) (hR : isR.map (fun i => ws[i]?) = wr.map some) (hn : va_nd isR = true) (hdis : ∀ i ∈ isR, i ∉ isC)
    (hlen : As.length = k) (hls : ls.size = nL) (hst : st0 = As.reverse ++ .ref a :: rest) (hroom : (rest.map fun v => v.category).sum ≤ 8) (hdg : decode cc pc = .ok (.invokespecial index, 3)) (hf : cells + mc ≤ R.cells ∧ slots + ms ≤ R.slots)
    (kk : ∀ (v : Option Value) (u : S) (H1 : Heap) (locs1 : List Loc), post v u → va_P D classes (wr ++ cellsf u) H1 → va_D A (wr ++ cellsf u) → va_S A s.heap H1 locs1 → W p l e R s m args below meth c H1 locs1 (cells + mc) (slots + ms) Q (F0 m (pc + 3) ls (v.toList ++ rest))) : W p l e R s m args below meth c H locs cells slots Q (F0 m pc ls st0) := by
  have hts := X.2.2.2.2
  refine goOn hA hP hD hS isC isR hC hR hn hdis (va_runIN X (hM H.size) ⟨va_cnB k hts (gd hw1) rfl hrc hrs (hX.2.2.2.2.1 _ hw2) (hts _ hw5) hd hR1, hy1, hts _ hw3⟩ ⟨PW.blind _ _, fun U hU hW => ⟨rfl, PW.of hK hX hA hP hD hS isC hC1 hC hnC hU hW⟩⟩ rfl hlen hls hst (lv_room hroom) hdg hf) kk
theorem ra_inj {U : State} {cA cB : ClassId} {ty : FieldType} (h1 : va_RA U cA ty) (h2 : va_RA U cB ty) : cA = cB := by
  cases ty with
  | object C =>
    obtain ⟨kA, comp, -, -, -, h4⟩ := h1
    obtain ⟨kB, comp', -, -, -, g4⟩ := h2
    exact Option.some.inj (h4.symm.trans g4)
  | _ => exact Option.some.inj (Eq.trans (Eq.symm h1) h2)
theorem nwA (hx : p.tables.exec = Jvm.exec) (hb : c.code = cc) {atype : ArrayType} (harr : (Cond.arrayClass (newarray.typeOf atype)).before args s = true) {ty : FieldType} (hty : newarray.typeOf atype = ty) (hK : va_K D classes (tysOf tc) s) (hP : va_P D classes ws H) (hD : va_D A ws) (hS : va_S A s.heap H locs) (hA : ∀ q, s.heap.size ≤ q → A q) (t0 : Nat) {cI : ClassId} (ht : (tysOf tc)[t0]? = some (cI, ty))
    {n : Int32} {N' : Nat} {a0 : vp_A} (ha : ∀ cA : ClassId, vp_cell cA a0 = arrV cA N' (fun _ => defaultValue ty)) (hn : ¬ n < 0) (hN : n.toNatClampNeg = N') (hbytes : N' * componentBytes ty ≤ 536870912) (hcells : cells + 1 ≤ R.cells) (hslots : slots + N' ≤ R.slots) (hdg : decode cc pc = .ok (.newarray atype, 2))
    (kk : ∀ (q : Nat) (H1 : Heap), va_P D classes (ws ++ [(q, .inl (cI, a0))]) H1 → va_D A (ws ++ [(q, .inl (cI, a0))]) → va_S A s.heap H1 locs →
      W p l e R s m args below meth c H1 locs (cells + 1) (slots + N') Q (F0 m (pc + 2) ls (.ref q :: rest))) : W p l e R s m args below meth c H locs cells slots Q (F0 m pc ls (.int n :: rest)) := by
  refine va_newa hx hb harr hty hK hP hD hS hA ha hn hN hbytes hcells hslots hdg (fun q cA H1 hK1 hP1 hD1 hS1 => ?_)
  have e1 : va_RA s cA ty := (hK1.2 7 (cA, ty) rfl).2
  have e2 : va_RA s cI ty := (hK.2 t0 _ ht).2
  have e3 := ra_inj e1 e2
  subst e3
  exact kk q H1 hP1 hD1 hS1
theorem nwQ (hx : p.tables.exec = Jvm.exec) (hb : c.code = cc) (hown : s.vm.findClass own = some m.cls) (hclink : (Cond.classLink own index C).before args s = true) (hX : Sx sk A s s.heap) (hover : C ∈ aovW) (hK : va_K D classes (tysOf tc) s) (hP : va_P D classes ws H) (hD : va_D A ws) (hS : va_S A s.heap H locs) (hA : ∀ q, s.heap.size ≤ q → A q) (t0 : Nat) {cI : ClassId} (ht : (tysOf tc)[t0]? = some (cI, .object C))
    {n : Int32} {N' : Nat} (hn : ¬ n < 0) (hN : n.toNatClampNeg = N') (hbytes : N' * 4 ≤ 536870912) (hcells : cells + 1 ≤ R.cells) (hslots : slots + N' ≤ R.slots) (hdg : decode cc pc = .ok (.anewarray index, 3))
    (kk : ∀ (q : Nat) (H1 : Heap), va_P D classes (ws ++ [(q, .inl (cI, N', .inr (.inr (.inr (.inr (fun _ => none))))))]) H1 → va_D A (ws ++ [(q, .inl (cI, N', .inr (.inr (.inr (.inr (fun _ => none))))))]) → va_S A s.heap H1 locs →
      W p l e R s m args below meth c H1 locs (cells + 1) (slots + N') Q (F0 m (pc + 3) ls (.ref q :: rest))) : W p l e R s m args below meth c H locs cells slots Q (F0 m pc ls (.int n :: rest)) := by
  refine va_newq hx hb hown hclink (hX.2.2.2.2.2.1 C hover) hK hP hD hS hA hn hN hbytes hcells hslots hdg (fun q cA H1 hK1 hP1 hD1 hS1 => ?_)
  have e1 : va_RA s cA (.object C) := (hK1.2 7 (cA, .object C) rfl).2
  have e2 : va_RA s cI (.object C) := (hK.2 t0 _ ht).2
  have e3 := ra_inj e1 e2
  subst e3
  exact kk q H1 hP1 hD1 hS1
theorem lv_lit {x v : Int32} (h : x = v) (k : W p l e R s m args below meth c H locs cells slots Q (F0 m pc ls (.int v :: rest))) : W p l e R s m args below meth c H locs cells slots Q (F0 m pc ls (.int x :: rest)) := h ▸ k
theorem lv_litl {x v : Int64} (h : x = v) (k : W p l e R s m args below meth c H locs cells slots Q (F0 m pc ls (.long v :: rest))) : W p l e R s m args below meth c H locs cells slots Q (F0 m pc ls (.long x :: rest)) := h ▸ k
end LYR
theorem vin_dec {i : Int32} {n : Nat} (h : (!decide (i < 0) && decide (i.toNatClampNeg < n)) = true) : vp_in i n := by
  simp only [Bool.and_eq_true, Bool.not_eq_true', decide_eq_false_iff_not, decide_eq_true_eq] at h
  intro z
  rcases z with z | z
  · exact h.1 z
  · omega
