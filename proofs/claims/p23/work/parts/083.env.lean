set_option maxRecDepth 16384
def R_law : String := "PoisonBookLaw"
def lw_P (b : Addr) (xs : List Int32) (args : Array Value) (s : State) : Prop := args = #[.ref b] ∧ s.IntsAt b xs ∧ xs.length ≤ 3072 ∧ (Jvm.Cond.and given_1 narrow_1).before args s = true
def lw_Q (_ : Array Value) (s : State) (o : Outcome) (t : State) : Prop := o = .returned (some (.int 1)) ∧ Framed s o t [] 1186769 5541941
def lw_Z (below : List Frame) (a : Array Value) (s : State) : State → Prop := fun t => ∃ o, t.status = .running ∧ Ended t below o ∧ lw_Q a s o t
theorem lw_ret {p : Program} {l : Launch} {e : Env} {s : State} {m : MethodId} {below : List Frame} {meth : Method} {c : Code} {b : Nat} (hx : p.tables.exec = Jvm.exec) (hb : c.code = code) (hr : meth.sig.returnType = ret) (hlocks : meth.locks = false) {pc : Nat} {H : Heap} {ls : Array Slot} (hdg : decode code pc = .ok (.ireturn, 1)) : W p l e room_1 s m #[Value.ref b] below meth c H [] 1186769 5541941 (lw_Z below #[Value.ref b] s) (F0 m pc ls [.int 1]) := by
  intro T hT X
  obtain ⟨fs, hret, hrun, hended, hW, hframe⟩ := X.leave (v := some (.int 1)) (hlocks := hlocks) (fun h => by rw [hr] at h; cases h)
  have hmeth' : T.vm.method? m = some meth := X.method'
  refine ⟨T.setFrames fs, ?_, .returned (some (.int 1)), hrun, hended, rfl, ⟨_, rfl⟩, hW, hframe⟩
  jvm_step X.here [X.here.top, hx, hb, hdg, hmeth', hr, ret, narrow_b1]
  (try refine ⟨rfl, ?_⟩); (try refine ⟨rfl, ?_⟩)
  first | (intro acts; rw [hret _ acts rfl rfl rfl]) | rw [hret _ _ rfl rfl rfl]
  exact Steps.refl _
def lw_At (p : Program) (s : State) (m : MethodId) (meth : Method) (c : Code) (b L : Nat) (xs : Nat → Int32) : Prop :=
  p.tables.exec = Jvm.exec ∧ c.code = code ∧ meth.sig.returnType = ret ∧ c.maxLocals = 4 ∧ s.vm.findClass R_law = some m.cls ∧ (∀ w ∈ lw_tbl, w.before #[Value.ref b] s = true) ∧ va_X b L xs s s.heap ∧ b < s.heap.size ∧ meth.locks = false ∧ (Jvm.Cond.and given_1 narrow_1).before #[Value.ref b] s = true
def tmS (i : Nat) : Term := Term.string (sOwn.getD i ("", 0, "")).1 (sOwn.getD i ("", 0, "")).2.1
abbrev fnw : List Cond := flatC (Jvm.Cond.and given_1 narrow_1)
set_option maxRecDepth 100000 in
theorem sn_ex : ∀ i, i < 7 → (Cond.exactly (tmS i) "java/lang/String") ∈ fnw := by decide +kernel
set_option maxRecDepth 100000 in
theorem sn_co : ∀ i, i < 7 → (Cond.eq (.field (tmS i) "java/lang/String" "coder" "B") (.int 0)) ∈ fnw := by decide +kernel
set_option maxRecDepth 100000 in
theorem sn_ar : ∀ i, i < 7 → (Cond.arrayOf (.field (tmS i) "java/lang/String" "value" "[B") .byte) ∈ fnw := by decide +kernel
set_option maxRecDepth 100000 in
theorem sn_le : ∀ i, i < 7 → (Cond.eq (.length (.field (tmS i) "java/lang/String" "value" "[B")) (.int (Int32.ofNat (lenS.getD i 0)))) ∈ fnw := by decide +kernel
set_option maxRecDepth 100000 in
theorem sn_el : ∀ i, i < 7 → ∀ j, j < lenS.getD i 0 → (Cond.eq (.elem (.field (tmS i) "java/lang/String" "value" "[B") (.int (Int32.ofNat j))) (.int ((bytS.getD i []).getD j 0))) ∈ fnw := by decide +kernel
set_option maxRecDepth 100000 in
theorem sn_ne : ∀ i, i < 7 → ∀ j, j < 7 → i ≠ j → (Cond.not (Cond.eq (tmS i) (tmS j))) ∈ fnw ∨ (Cond.not (Cond.eq (tmS j) (tmS i))) ∈ fnw := by decide +kernel
set_option maxRecDepth 100000 in
theorem sn_cs : (Cond.eq (.static "java/lang/String" "COMPACT_STRINGS" "Z") (.int 1)) ∈ fnw := by decide +kernel
set_option maxRecDepth 100000 in
theorem sn_sf : (Cond.isRef (.static "jdk/internal/util/Preconditions" "SIOOBE_FORMATTER" "Ljava/util/function/BiFunction;")) ∈ fnw := by decide +kernel
set_option maxHeartbeats 4000000 in
set_option maxRecDepth 100000 in
theorem law_env {s : State} {b : Nat} (hts0 : ∀ w ∈ lw_tbl, w.before #[Value.ref b] s = true) (hgv : (Jvm.Cond.and given_1 narrow_1).before #[Value.ref b] s = true) : ∃ (D : va_G) (tc : Nat → ClassId) (sk : (Nat → Nat) × (Nat → Nat)), va_K D classes (tysOf tc) s ∧ Sx sk (fun q => s.heap.size ≤ q) s s.heap := by
  have hts : ∀ w ∈ gT, w.before #[Value.ref b] s = true := fun w hw => hts0 w (List.mem_filter.mp hw).1
  have hs := flat_of_before _ hgv
  obtain ⟨c0, j0, h0⟩ := u_known (C := RX0) (T := TX0) (N := 1) (n := 1) hts iX0 (hts _ k_158)
  obtain ⟨c1, j1, h1⟩ := u_known (C := RX1) (T := TX1) (N := 3) (n := 3) hts iX1 (hts _ k_366)
  obtain ⟨c2, j2, h2⟩ := u_known (C := RX2) (T := TX2) (N := 4) (n := 4) hts iX2 (hts _ k_384)
  obtain ⟨c3, j3, h3⟩ := u_known (C := RX3) (T := TX3) (N := 4) (n := 4) hts iX3 (hts _ k_279)
  obtain ⟨c4, j4, h4⟩ := u_known (C := RX4) (T := TX4) (N := 3) (n := 3) hts iX4 (hts _ k_346)
  obtain ⟨c5, j5, h5⟩ := u_known (C := RX5) (T := TX5) (N := 3) (n := 3) hts iX5 (hts _ k_326)
  obtain ⟨c6, j6, h6⟩ := u_known (C := RX6) (T := TX6) (N := 2) (n := 2) hts iX6 (hts _ k_668)
  obtain ⟨c7, j7, h7⟩ := u_known (C := RX7) (T := TX7) (N := 3) (n := 3) hts iX7 (hts _ k_253)
  obtain ⟨c8, j8, h8⟩ := u_known (C := RX8) (T := TX8) (N := 5) (n := 5) hts iX8 (hts _ k_271)
  obtain ⟨c9, j9, h9⟩ := u_known (C := RX9) (T := TX9) (N := 14) (n := 14) hts iX9 (hts _ k_164)
  obtain ⟨c10, j10, h10⟩ := u_known (C := RX10) (T := TX10) (N := 6) (n := 6) hts iX10 (hts _ k_125)
  obtain ⟨c11, j11, h11⟩ := u_known (C := RX11) (T := TX11) (N := 12) (n := 12) hts iX11 (hts _ k_117)
  obtain ⟨c12, j12, h12⟩ := u_known (C := RX12) (T := TX12) (N := 36) (n := 36) hts iX12 (hts _ k_1070)
  obtain ⟨t0, kk0, cm0, f0, g0, e0⟩ := Cond.arrayClass_spec (hts _ k_156)
  obtain ⟨t1, kk1, cm1, f1, g1, e1⟩ := Cond.arrayClass_spec (hts _ k_364)
  obtain ⟨t2, kk2, cm2, f2, g2, e2⟩ := Cond.arrayClass_spec (hts _ k_603)
  obtain ⟨t3, kk3, cm3, f3, g3, e3⟩ := Cond.arrayClass_spec (hts _ k_405)
  have ao4 := hts0 (Cond.arrayOver (.object RX6)) (List.mem_of_getElem? (i := 269) (by decide +kernel))
  obtain ⟨cm4, t4, kk4, d4, -, g4, e4, f4⟩ := Cond.arrayOver_spec ao4
  have ao5 := hts0 (Cond.arrayOver (.object RX9)) (List.mem_of_getElem? (i := 332) (by decide +kernel))
  obtain ⟨cm5, t5, kk5, d5, -, g5, e5, f5⟩ := Cond.arrayOver_spec ao5
  have ao6 := hts0 (Cond.arrayOver (.object RX8)) (List.mem_of_getElem? (i := 344) (by decide +kernel))
  obtain ⟨cm6, t6, kk6, d6, -, g6, e6, f6⟩ := Cond.arrayOver_spec ao6
  have hA : ∀ a : Nat, a < s.heap.size → ¬ (fun q => s.heap.size ≤ q) a := fun a h => Nat.not_le.mpr h
  obtain ⟨adK, adV, hS1, hS2⟩ := vk_Sof (N := 7) (tm := tmS) (len := lenS) (byt := bytS) (A := fun q => s.heap.size ≤ q) (fun i hi => by have := lenS_le hi; omega) (fun i hi => hs _ (sn_ex i hi)) (fun i hi => hs _ (sn_co i hi)) (fun i hi => hs _ (sn_ar i hi)) (fun i hi => hs _ (sn_le i hi)) (fun i hi j hj => hs _ (sn_el i hi j hj)) (fun i j hi hj hij => (sn_ne i hi j hj hij).elim (fun z => Or.inl (hs _ z)) (fun z => Or.inr (hs _ z))) hA
  refine ⟨(fun k => ([c0, c1, c2, c3, c4, c5, c6, c7, c8, c9, c10, c11, c12] : List ClassId).getD k c0, fun k => ([j0, j1, j2, j3, j4, j5, j6, j7, j8, j9, j10, j11, j12] : List (Nat → Nat)).getD k j0), fun k => ([t0, t1, t2, t3, t4, t5, t6] : List ClassId).getD k t0, (adK, adV), ⟨?_, ?_⟩, ?_⟩
  · intro k q hq
    match k, hq with
    | 0, hq => cases hq; exact h0
    | 1, hq => cases hq; exact h1
    | 2, hq => cases hq; exact h2
    | 3, hq => cases hq; exact h3
    | 4, hq => cases hq; exact h4
    | 5, hq => cases hq; exact h5
    | 6, hq => cases hq; exact h6
    | 7, hq => cases hq; exact h7
    | 8, hq => cases hq; exact h8
    | 9, hq => cases hq; exact h9
    | 10, hq => cases hq; exact h10
    | 11, hq => cases hq; exact h11
    | 12, hq => cases hq; exact h12
    | k + 13, hq => simp [classes] at hq
  · intro k q hq
    match k, hq with
    | 0, hq => cases hq; exact ⟨fun n z => ⟨(fun k h => by cases h), kk0, g0, cm0, e0⟩, f0⟩
    | 1, hq => cases hq; exact ⟨fun n z => ⟨(fun k h => by cases h), kk1, g1, cm1, e1⟩, f1⟩
    | 2, hq => cases hq; exact ⟨fun n z => ⟨(fun k h => by cases h), kk2, g2, cm2, e2⟩, f2⟩
    | 3, hq => cases hq; exact ⟨fun n z => ⟨(fun k h => by cases h), kk3, g3, cm3, e3⟩, f3⟩
    | 4, hq => cases hq; exact ⟨fun n z => ⟨(fun k h => by cases h), kk4, g4, cm4, e4⟩, kk4, cm4, g4, e4, d4, f4⟩
    | 5, hq => cases hq; exact ⟨fun n z => ⟨(fun k h => by cases h), kk5, g5, cm5, e5⟩, kk5, cm5, g5, e5, d5, f5⟩
    | 6, hq => cases hq; exact ⟨fun n z => ⟨(fun k h => by cases h), kk6, g6, cm6, e6⟩, kk6, cm6, g6, e6, d6, f6⟩
    | k + 7, hq => simp at hq
  · refine ⟨hS1, va_Zof (hts0 _ (List.mem_of_getElem? (i := 511) (by decide +kernel))) (hts _ k_107) (va_eqi (hs _ sn_cs)) hA, va_Zqof (hts0 _ (List.mem_of_getElem? (i := 527) (by decide +kernel))) (hts _ k_109) (hs _ sn_sf) hA, ?_, ?_, ?_, va_Nw.of rfl (hts0 (Cond.castable "[I" "java/lang/Cloneable") (List.mem_of_getElem? (i := 677) (by decide +kernel)))⟩
    · intro i q hq
      match i, hq with
      | 0, hq => cases hq; exact vk_R.of (hts0 _ (List.mem_of_getElem? (i := 497) (by decide +kernel))) (hS2 0 (by decide))
      | 1, hq => cases hq; exact vk_R.of (hts0 _ (List.mem_of_getElem? (i := 614) (by decide +kernel))) (hS2 1 (by decide))
      | 2, hq => cases hq; exact vk_R.of (hts0 _ (List.mem_of_getElem? (i := 632) (by decide +kernel))) (hS2 2 (by decide))
      | 3, hq => cases hq; exact vk_R.of (hts0 _ (List.mem_of_getElem? (i := 646) (by decide +kernel))) (hS2 3 (by decide))
      | 4, hq => cases hq; exact vk_R.of (hts0 _ (List.mem_of_getElem? (i := 660) (by decide +kernel))) (hS2 4 (by decide))
      | 5, hq => cases hq; exact vk_R.of (hts0 _ (List.mem_of_getElem? (i := 664) (by decide +kernel))) (hS2 5 (by decide))
      | 6, hq => cases hq; exact vk_R.of (hts0 _ (List.mem_of_getElem? (i := 665) (by decide +kernel))) (hS2 6 (by decide))
      | i + 7, hq => simp [sOwn] at hq
    · intro q hq
      simp only [nstW, List.mem_cons, List.not_mem_nil, or_false] at hq
      rcases hq with rfl | rfl | rfl | rfl | rfl | rfl | rfl | rfl | rfl | rfl | rfl | rfl | rfl | rfl | rfl
      · exact va_Nw.of rfl (hts0 _ (List.mem_of_getElem? (i := 126) (by decide +kernel)))
      · exact va_Nw.of rfl (hts0 _ (List.mem_of_getElem? (i := 159) (by decide +kernel)))
      · exact va_Nw.of rfl (hts0 _ (List.mem_of_getElem? (i := 165) (by decide +kernel)))
      · exact va_Nw.of rfl (hts0 _ (List.mem_of_getElem? (i := 254) (by decide +kernel)))
      · exact va_Nw.of rfl (hts0 _ (List.mem_of_getElem? (i := 272) (by decide +kernel)))
      · exact va_Nw.of rfl (hts0 _ (List.mem_of_getElem? (i := 277) (by decide +kernel)))
      · exact va_Nw.of rfl (hts0 _ (List.mem_of_getElem? (i := 280) (by decide +kernel)))
      · exact va_Nw.of rfl (hts0 _ (List.mem_of_getElem? (i := 327) (by decide +kernel)))
      · exact va_Nw.of rfl (hts0 _ (List.mem_of_getElem? (i := 347) (by decide +kernel)))
      · exact va_Nw.of rfl (hts0 _ (List.mem_of_getElem? (i := 352) (by decide +kernel)))
      · exact va_Nw.of rfl (hts0 _ (List.mem_of_getElem? (i := 367) (by decide +kernel)))
      · exact va_Nw.of rfl (hts0 _ (List.mem_of_getElem? (i := 372) (by decide +kernel)))
      · exact va_Nw.of rfl (hts0 _ (List.mem_of_getElem? (i := 385) (by decide +kernel)))
      · exact va_Nw.of rfl (hts0 _ (List.mem_of_getElem? (i := 390) (by decide +kernel)))
      · exact va_Nw.of rfl (hts0 _ (List.mem_of_getElem? (i := 729) (by decide +kernel)))
    · intro C hC
      simp only [aovW, List.mem_cons, List.not_mem_nil, or_false] at hC
      rcases hC with rfl | rfl | rfl
      · exact va_AO.of ao4
      · exact va_AO.of ao5
      · exact va_AO.of ao6
