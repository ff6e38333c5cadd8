set_option maxRecDepth 16384
def R_law : String := "PoisonBookLaw"
def lw_P (b : Addr) (xs : List Int32) (args : Array Value) (s : State) : Prop := args = #[.ref b] ∧ s.IntsAt b xs ∧ xs.length ≤ 3072 ∧ (Jvm.Cond.and given_1 narrow_1).before args s = true
def lw_Q (_ : Array Value) (s : State) (o : Outcome) (t : State) : Prop := o = .returned (some (.int 1)) ∧ Framed s o t [] 600000 7302250
def lw_Z (below : List Frame) (a : Array Value) (s : State) : State → Prop := fun t => ∃ o, t.status = .running ∧ Ended t below o ∧ lw_Q a s o t
theorem lw_ret {p : Program} {l : Launch} {e : Env} {s : State} {m : MethodId} {below : List Frame} {meth : Method} {c : Code} {b : Nat} (hx : p.tables.exec = Jvm.exec) (hb : c.code = code) (hr : meth.sig.returnType = ret) (hlocks : meth.locks = false) {pc : Nat} {H : Heap} {ls : Array Slot} (hdg : decode code pc = .ok (.ireturn, 1)) : W p l e room_1 s m #[Value.ref b] below meth c H [] 600000 7302250 (lw_Z below #[Value.ref b] s) (F0 m pc ls [.int 1]) := by
  intro T hT X
  obtain ⟨fs, hret, hrun, hended, hW, hframe⟩ := X.leave (v := some (.int 1)) (hlocks := hlocks) (fun h => by rw [hr] at h; cases h)
  have hmeth' : T.vm.method? m = some meth := X.method'
  refine ⟨T.setFrames fs, ?_, .returned (some (.int 1)), hrun, hended, rfl, ⟨_, rfl⟩, hW, hframe⟩
  jvm_step X.here [X.here.top, hx, hb, hdg, hmeth', hr, ret, narrow_b1]
  (try refine ⟨rfl, ?_⟩); (try refine ⟨rfl, ?_⟩)
  first | (intro acts; rw [hret _ acts rfl rfl rfl]) | rw [hret _ _ rfl rfl rfl]
  exact Steps.refl _
def lw_At (p : Program) (s : State) (m : MethodId) (meth : Method) (c : Code) (b L : Nat) (xs : Nat → Int32) : Prop :=
  p.tables.exec = Jvm.exec ∧ c.code = code ∧ meth.sig.returnType = ret ∧ c.maxLocals = 4 ∧ s.vm.findClass R_law = some m.cls ∧ (∀ w ∈ lw_tbl, w.before #[Value.ref b] s = true) ∧ va_X b L xs s s.heap ∧ b < s.heap.size ∧ meth.locks = false ∧ (Jvm.Cond.and given_1 narrow_1).before #[Value.ref b] s = true
def tmS (i : Nat) : Term := Term.string (sOwn.getD i ("", 0, "")).1 (sOwn.getD i ("", 0, "")).2.1
abbrev fnw : List Cond := flatC (Jvm.Cond.and given_1 narrow_1)
set_option maxRecDepth 100000 in
theorem sn_ex : ∀ i, i < 7 → (Cond.exactly (tmS i) "java/lang/String") ∈ fnw := by decide +kernel
set_option maxRecDepth 100000 in
theorem sn_co : ∀ i, i < 7 → (Cond.eq (.field (tmS i) "java/lang/String" "coder" "B") (.int 0)) ∈ fnw := by decide +kernel
set_option maxRecDepth 100000 in
theorem sn_ar : ∀ i, i < 7 → (Cond.arrayOf (.field (tmS i) "java/lang/String" "value" "[B") .byte) ∈ fnw := by decide +kernel
set_option maxRecDepth 100000 in
theorem sn_le : ∀ i, i < 7 → (Cond.eq (.length (.field (tmS i) "java/lang/String" "value" "[B")) (.int (Int32.ofNat (lenS.getD i 0)))) ∈ fnw := by decide +kernel
set_option maxRecDepth 100000 in
theorem sn_el : ∀ i, i < 7 → ∀ j, j < lenS.getD i 0 → (Cond.eq (.elem (.field (tmS i) "java/lang/String" "value" "[B") (.int (Int32.ofNat j))) (.int ((bytS.getD i []).getD j 0))) ∈ fnw := by decide +kernel
set_option maxRecDepth 100000 in
theorem sn_ne : ∀ i, i < 7 → ∀ j, j < 7 → i ≠ j → (Cond.not (Cond.eq (tmS i) (tmS j))) ∈ fnw ∨ (Cond.not (Cond.eq (tmS j) (tmS i))) ∈ fnw := by decide +kernel
set_option maxRecDepth 100000 in
theorem sn_cs : (Cond.eq (.static "java/lang/String" "COMPACT_STRINGS" "Z") (.int 1)) ∈ fnw := by decide +kernel
set_option maxRecDepth 100000 in
theorem sn_sf : (Cond.isRef (.static "jdk/internal/util/Preconditions" "SIOOBE_FORMATTER" "Ljava/util/function/BiFunction;")) ∈ fnw := by decide +kernel
set_option maxHeartbeats 4000000 in
set_option maxRecDepth 100000 in
theorem law_env {s : State} {b : Nat} (hts0 : ∀ w ∈ lw_tbl, w.before #[Value.ref b] s = true) (hgv : (Jvm.Cond.and given_1 narrow_1).before #[Value.ref b] s = true) : ∃ (D : va_G) (tc : Nat → ClassId) (sk : (Nat → Nat) × (Nat → Nat)), va_K D classes (tysOf tc) s ∧ Sx sk (fun q => s.heap.size ≤ q) s s.heap := by
  have hts : ∀ w ∈ gT, w.before #[Value.ref b] s = true := fun w hw => hts0 w (List.mem_filter.mp hw).1
  have hs := flat_of_before _ hgv
  obtain ⟨c0, j0, h0⟩ := u_known (C := RX0) (T := TX0) (N := 1) (n := 1) hts iX0 (hts _ k_158)
  obtain ⟨c1, j1, h1⟩ := u_known (C := RX1) (T := TX1) (N := 3) (n := 3) hts iX1 (hts _ k_366)
  obtain ⟨c2, j2, h2⟩ := u_known (C := RX2) (T := TX2) (N := 4) (n := 4) hts iX2 (hts _ k_384)
  obtain ⟨c3, j3, h3⟩ := u_known (C := RX3) (T := TX3) (N := 4) (n := 4) hts iX3 (hts _ k_279)
  obtain ⟨c4, j4, h4⟩ := u_known (C := RX4) (T := TX4) (N := 3) (n := 3) hts iX4 (hts _ k_346)
  obtain ⟨c5, j5, h5⟩ := u_known (C := RX5) (T := TX5) (N := 3) (n := 3) hts iX5 (hts _ k_326)
  obtain ⟨c6, j6, h6⟩ := u_known (C := RX6) (T := TX6) (N := 2) (n := 2) hts iX6 (hts _ k_668)
  obtain ⟨c7, j7, h7⟩ := u_known (C := RX7) (T := TX7) (N := 3) (n := 3) hts iX7 (hts _ k_253)
  obtain ⟨c8, j8, h8⟩ := u_known (C := RX8) (T := TX8) (N := 5) (n := 5) hts iX8 (hts _ k_271)
  obtain ⟨c9, j9, h9⟩ := u_known (C := RX9) (T := TX9) (N := 14) (n := 14) hts iX9 (hts _ k_164)
  obtain ⟨c10, j10, h10⟩ := u_known (C := RX10) (T := TX10) (N := 6) (n := 6) hts iX10 (hts _ k_125)
  obtain ⟨c11, j11, h11⟩ := u_known (C := RX11) (T := TX11) (N := 12) (n := 12) hts iX11 (hts _ k_117)
  obtain ⟨c12, j12, h12⟩ := u_known (C := RX12) (T := TX12) (N := 36) (n := 36) hts iX12 (hts _ k_1070)
  obtain ⟨t0, kk0, cm0, f0, g0, e0⟩ := Cond.arrayClass_spec (hts _ k_156)
  obtain ⟨t1, kk1, cm1, f1, g1, e1⟩ := Cond.arrayClass_spec (hts _ k_364)
  obtain ⟨t2, kk2, cm2, f2, g2, e2⟩ := Cond.arrayClass_spec (hts _ k_603)
  obtain ⟨t3, kk3, cm3, f3, g3, e3⟩ := Cond.arrayClass_spec (hts _ k_405)
  have ao4 := hts0 (Cond.arrayOver (.object RX6)) (List.mem_of_getElem? (i := 269) (by decide +kernel))
  obtain ⟨cm4, t4, kk4, d4, -, g4, e4, f4⟩ := Cond.arrayOver_spec ao4
  have ao5 := hts0 (Cond.arrayOver (.object RX9)) (List.mem_of_getElem? (i := 332) (by decide +kernel))
  obtain ⟨cm5, t5, kk5, d5, -, g5, e5, f5⟩ := Cond.arrayOver_spec ao5
  have ao6 := hts0 (Cond.arrayOver (.object RX8)) (List.mem_of_getElem? (i := 344) (by decide +kernel))
  obtain ⟨cm6, t6, kk6, d6, -, g6, e6, f6⟩ := Cond.arrayOver_spec ao6
  have hA : ∀ a : Nat, a < s.heap.size → ¬ (fun q => s.heap.size ≤ q) a := fun a h => Nat.not_le.mpr h
  obtain ⟨adK, adV, hS1, hS2⟩ := vk_Sof (N := 7) (tm := tmS) (len := lenS) (byt := bytS) (A := fun q => s.heap.size ≤ q) (fun i hi => by have := lenS_le hi; omega) (fun i hi => hs _ (sn_ex i hi)) (fun i hi => hs _ (sn_co i hi)) (fun i hi => hs _ (sn_ar i hi)) (fun i hi => hs _ (sn_le i hi)) (fun i hi j hj => hs _ (sn_el i hi j hj)) (fun i j hi hj hij => (sn_ne i hi j hj hij).elim (fun z => Or.inl (hs _ z)) (fun z => Or.inr (hs _ z))) hA
  refine ⟨(fun k => ([c0, c1, c2, c3, c4, c5, c6, c7, c8, c9, c10, c11, c12] : List ClassId).getD k c0, fun k => ([j0, j1, j2, j3, j4, j5, j6, j7, j8, j9, j10, j11, j12] : List (Nat → Nat)).getD k j0), fun k => ([t0, t1, t2, t3, t4, t5, t6] : List ClassId).getD k t0, (adK, adV), ⟨?_, ?_⟩, ?_⟩
  · intro k q hq
    match k, hq with
    | 0, hq => cases hq; exact h0
    | 1, hq => cases hq; exact h1
    | 2, hq => cases hq; exact h2
    | 3, hq => cases hq; exact h3
    | 4, hq => cases hq; exact h4
    | 5, hq => cases hq; exact h5
    | 6, hq => cases hq; exact h6
    | 7, hq => cases hq; exact h7
    | 8, hq => cases hq; exact h8
    | 9, hq => cases hq; exact h9
    | 10, hq => cases hq; exact h10
    | 11, hq => cases hq; exact h11
    | 12, hq => cases hq; exact h12
    | k + 13, hq => simp [classes] at hq
  · intro k q hq
    match k, hq with
    | 0, hq => cases hq; exact ⟨fun n z => ⟨(fun k h => by cases h), kk0, g0, cm0, e0⟩, f0⟩
    | 1, hq => cases hq; exact ⟨fun n z => ⟨(fun k h => by cases h), kk1, g1, cm1, e1⟩, f1⟩
    | 2, hq => cases hq; exact ⟨fun n z => ⟨(fun k h => by cases h), kk2, g2, cm2, e2⟩, f2⟩
    | 3, hq => cases hq; exact ⟨fun n z => ⟨(fun k h => by cases h), kk3, g3, cm3, e3⟩, f3⟩
    | 4, hq => cases hq; exact ⟨fun n z => ⟨(fun k h => by cases h), kk4, g4, cm4, e4⟩, kk4, cm4, g4, e4, d4, f4⟩
    | 5, hq => cases hq; exact ⟨fun n z => ⟨(fun k h => by cases h), kk5, g5, cm5, e5⟩, kk5, cm5, g5, e5, d5, f5⟩
    | 6, hq => cases hq; exact ⟨fun n z => ⟨(fun k h => by cases h), kk6, g6, cm6, e6⟩, kk6, cm6, g6, e6, d6, f6⟩
    | k + 7, hq => simp at hq
  · refine ⟨hS1, va_Zof (hts0 _ (List.mem_of_getElem? (i := 511) (by decide +kernel))) (hts _ k_107) (va_eqi (hs _ sn_cs)) hA, va_Zqof (hts0 _ (List.mem_of_getElem? (i := 527) (by decide +kernel))) (hts _ k_109) (hs _ sn_sf) hA, ?_, ?_, ?_, va_Nw.of rfl (hts0 (Cond.castable "[I" "java/lang/Cloneable") (List.mem_of_getElem? (i := 677) (by decide +kernel)))⟩
    · intro i q hq
      match i, hq with
      | 0, hq => cases hq; exact vk_R.of (hts0 _ (List.mem_of_getElem? (i := 497) (by decide +kernel))) (hS2 0 (by decide))
      | 1, hq => cases hq; exact vk_R.of (hts0 _ (List.mem_of_getElem? (i := 614) (by decide +kernel))) (hS2 1 (by decide))
      | 2, hq => cases hq; exact vk_R.of (hts0 _ (List.mem_of_getElem? (i := 632) (by decide +kernel))) (hS2 2 (by decide))
      | 3, hq => cases hq; exact vk_R.of (hts0 _ (List.mem_of_getElem? (i := 646) (by decide +kernel))) (hS2 3 (by decide))
      | 4, hq => cases hq; exact vk_R.of (hts0 _ (List.mem_of_getElem? (i := 660) (by decide +kernel))) (hS2 4 (by decide))
      | 5, hq => cases hq; exact vk_R.of (hts0 _ (List.mem_of_getElem? (i := 664) (by decide +kernel))) (hS2 5 (by decide))
      | 6, hq => cases hq; exact vk_R.of (hts0 _ (List.mem_of_getElem? (i := 665) (by decide +kernel))) (hS2 6 (by decide))
      | i + 7, hq => simp [sOwn] at hq
    · intro q hq
      simp only [nstW, List.mem_cons, List.not_mem_nil, or_false] at hq
      rcases hq with rfl | rfl | rfl | rfl | rfl | rfl | rfl | rfl | rfl | rfl | rfl | rfl | rfl | rfl | rfl
      · exact va_Nw.of rfl (hts0 _ (List.mem_of_getElem? (i := 126) (by decide +kernel)))
      · exact va_Nw.of rfl (hts0 _ (List.mem_of_getElem? (i := 159) (by decide +kernel)))
      · exact va_Nw.of rfl (hts0 _ (List.mem_of_getElem? (i := 165) (by decide +kernel)))
      · exact va_Nw.of rfl (hts0 _ (List.mem_of_getElem? (i := 254) (by decide +kernel)))
      · exact va_Nw.of rfl (hts0 _ (List.mem_of_getElem? (i := 272) (by decide +kernel)))
      · exact va_Nw.of rfl (hts0 _ (List.mem_of_getElem? (i := 277) (by decide +kernel)))
      · exact va_Nw.of rfl (hts0 _ (List.mem_of_getElem? (i := 280) (by decide +kernel)))
      · exact va_Nw.of rfl (hts0 _ (List.mem_of_getElem? (i := 327) (by decide +kernel)))
      · exact va_Nw.of rfl (hts0 _ (List.mem_of_getElem? (i := 347) (by decide +kernel)))
      · exact va_Nw.of rfl (hts0 _ (List.mem_of_getElem? (i := 352) (by decide +kernel)))
      · exact va_Nw.of rfl (hts0 _ (List.mem_of_getElem? (i := 367) (by decide +kernel)))
      · exact va_Nw.of rfl (hts0 _ (List.mem_of_getElem? (i := 372) (by decide +kernel)))
      · exact va_Nw.of rfl (hts0 _ (List.mem_of_getElem? (i := 385) (by decide +kernel)))
      · exact va_Nw.of rfl (hts0 _ (List.mem_of_getElem? (i := 390) (by decide +kernel)))
      · exact va_Nw.of rfl (hts0 _ (List.mem_of_getElem? (i := 729) (by decide +kernel)))
    · intro C hC
      simp only [aovW, List.mem_cons, List.not_mem_nil, or_false] at hC
      rcases hC with rfl | rfl | rfl
      · exact va_AO.of ao4
      · exact va_AO.of ao5
      · exact va_AO.of ao6
theorem dL_law_0 : decode cL_law 0 = .ok (.new 7, 3) := by decide +kernel
theorem dL_law_3 : decode cL_law 3 = .ok (.dup, 1) := by decide +kernel
theorem dL_law_4 : decode cL_law 4 = .ok (.invokespecial 9, 3) := by decide +kernel
theorem dL_law_7 : decode cL_law 7 = .ok (.astore_n 1, 1) := by decide +kernel
theorem dL_law_8 : decode cL_law 8 = .ok (.new 10, 3) := by decide +kernel
theorem dL_law_11 : decode cL_law 11 = .ok (.dup, 1) := by decide +kernel
theorem dL_law_12 : decode cL_law 12 = .ok (.invokespecial 12, 3) := by decide +kernel
theorem dL_law_15 : decode cL_law 15 = .ok (.astore_n 2, 1) := by decide +kernel
theorem dL_law_16 : decode cL_law 16 = .ok (.iconst 0, 1) := by decide +kernel
theorem dL_law_17 : decode cL_law 17 = .ok (.istore_n 3, 1) := by decide +kernel
theorem dL_law_18 : decode cL_law 18 = .ok (.iload_n 3, 1) := by decide +kernel
theorem dL_law_19 : decode cL_law 19 = .ok (.aload_n 0, 1) := by decide +kernel
theorem dL_law_20 : decode cL_law 20 = .ok (.arraylength, 1) := by decide +kernel
theorem dL_law_21 : decode cL_law 21 = .ok (.bipush 6, 2) := by decide +kernel
theorem dL_law_23 : decode cL_law 23 = .ok (.isub, 1) := by decide +kernel
theorem dL_law_24 : decode cL_law 24 = .ok (.if_icmp .gt 1168, 3) := by decide +kernel
theorem dL_law_27 : decode cL_law 27 = .ok (.aload_n 0, 1) := by decide +kernel
theorem dL_law_28 : decode cL_law 28 = .ok (.iload_n 3, 1) := by decide +kernel
theorem dL_law_29 : decode cL_law 29 = .ok (.iaload, 1) := by decide +kernel
theorem dL_law_30 : decode cL_law 30 = .ok (.bipush 63, 2) := by decide +kernel
theorem dL_law_32 : decode cL_law 32 = .ok (.iand, 1) := by decide +kernel
theorem dL_law_33 : decode cL_law 33 = .ok (.tableswitch 1153 0 33 #[151, 214, 237, 250, 263, 286, 319, 352, 365, 388, 421, 454, 487, 500, 543, 566, 579, 612, 645, 678, 711, 744, 777, 810, 863, 886, 919, 962, 985, 1008, 1031, 1084, 1107, 1130], 151) := by decide +kernel
theorem dL_law_184 : decode cL_law 184 = .ok (.aload_n 1, 1) := by decide +kernel
theorem dL_law_185 : decode cL_law 185 = .ok (.aload_n 0, 1) := by decide +kernel
theorem dL_law_186 : decode cL_law 186 = .ok (.iload_n 3, 1) := by decide +kernel
theorem dL_law_187 : decode cL_law 187 = .ok (.iconst 1, 1) := by decide +kernel
theorem dL_law_188 : decode cL_law 188 = .ok (.iadd, 1) := by decide +kernel
theorem dL_law_189 : decode cL_law 189 = .ok (.iaload, 1) := by decide +kernel
theorem dL_law_190 : decode cL_law 190 = .ok (.aload_n 0, 1) := by decide +kernel
theorem dL_law_191 : decode cL_law 191 = .ok (.iload_n 3, 1) := by decide +kernel
theorem dL_law_192 : decode cL_law 192 = .ok (.iconst 2, 1) := by decide +kernel
theorem dL_law_193 : decode cL_law 193 = .ok (.iadd, 1) := by decide +kernel
theorem dL_law_194 : decode cL_law 194 = .ok (.iaload, 1) := by decide +kernel
theorem dL_law_195 : decode cL_law 195 = .ok (.aload_n 0, 1) := by decide +kernel
theorem dL_law_196 : decode cL_law 196 = .ok (.iload_n 3, 1) := by decide +kernel
theorem dL_law_197 : decode cL_law 197 = .ok (.iconst 3, 1) := by decide +kernel
theorem dL_law_198 : decode cL_law 198 = .ok (.iadd, 1) := by decide +kernel
theorem dL_law_199 : decode cL_law 199 = .ok (.iaload, 1) := by decide +kernel
theorem dL_law_200 : decode cL_law 200 = .ok (.aload_n 0, 1) := by decide +kernel
theorem dL_law_201 : decode cL_law 201 = .ok (.iload_n 3, 1) := by decide +kernel
theorem dL_law_202 : decode cL_law 202 = .ok (.iconst 4, 1) := by decide +kernel
theorem dL_law_203 : decode cL_law 203 = .ok (.iadd, 1) := by decide +kernel
theorem dL_law_204 : decode cL_law 204 = .ok (.iaload, 1) := by decide +kernel
theorem dL_law_205 : decode cL_law 205 = .ok (.aload_n 0, 1) := by decide +kernel
theorem dL_law_206 : decode cL_law 206 = .ok (.iload_n 3, 1) := by decide +kernel
theorem dL_law_207 : decode cL_law 207 = .ok (.iconst 5, 1) := by decide +kernel
theorem dL_law_208 : decode cL_law 208 = .ok (.iadd, 1) := by decide +kernel
theorem dL_law_209 : decode cL_law 209 = .ok (.iaload, 1) := by decide +kernel
theorem dL_law_210 : decode cL_law 210 = .ok (.invokevirtual 13, 3) := by decide +kernel
theorem dL_law_213 : decode cL_law 213 = .ok (.pop, 1) := by decide +kernel
theorem dL_law_214 : decode cL_law 214 = .ok (.aload_n 2, 1) := by decide +kernel
theorem dL_law_215 : decode cL_law 215 = .ok (.aload_n 0, 1) := by decide +kernel
theorem dL_law_216 : decode cL_law 216 = .ok (.iload_n 3, 1) := by decide +kernel
theorem dL_law_217 : decode cL_law 217 = .ok (.iconst 1, 1) := by decide +kernel
theorem dL_law_218 : decode cL_law 218 = .ok (.iadd, 1) := by decide +kernel
theorem dL_law_219 : decode cL_law 219 = .ok (.iaload, 1) := by decide +kernel
theorem dL_law_220 : decode cL_law 220 = .ok (.aload_n 0, 1) := by decide +kernel
theorem dL_law_221 : decode cL_law 221 = .ok (.iload_n 3, 1) := by decide +kernel
theorem dL_law_222 : decode cL_law 222 = .ok (.iconst 2, 1) := by decide +kernel
theorem dL_law_223 : decode cL_law 223 = .ok (.iadd, 1) := by decide +kernel
theorem dL_law_224 : decode cL_law 224 = .ok (.iaload, 1) := by decide +kernel
theorem dL_law_225 : decode cL_law 225 = .ok (.aload_n 0, 1) := by decide +kernel
theorem dL_law_226 : decode cL_law 226 = .ok (.iload_n 3, 1) := by decide +kernel
theorem dL_law_227 : decode cL_law 227 = .ok (.iconst 3, 1) := by decide +kernel
theorem dL_law_228 : decode cL_law 228 = .ok (.iadd, 1) := by decide +kernel
theorem dL_law_229 : decode cL_law 229 = .ok (.iaload, 1) := by decide +kernel
theorem dL_law_230 : decode cL_law 230 = .ok (.aload_n 0, 1) := by decide +kernel
theorem dL_law_231 : decode cL_law 231 = .ok (.iload_n 3, 1) := by decide +kernel
theorem dL_law_232 : decode cL_law 232 = .ok (.iconst 4, 1) := by decide +kernel
theorem dL_law_233 : decode cL_law 233 = .ok (.iadd, 1) := by decide +kernel
theorem dL_law_234 : decode cL_law 234 = .ok (.iaload, 1) := by decide +kernel
theorem dL_law_235 : decode cL_law 235 = .ok (.aload_n 0, 1) := by decide +kernel
theorem dL_law_236 : decode cL_law 236 = .ok (.iload_n 3, 1) := by decide +kernel
theorem dL_law_237 : decode cL_law 237 = .ok (.iconst 5, 1) := by decide +kernel
theorem dL_law_238 : decode cL_law 238 = .ok (.iadd, 1) := by decide +kernel
theorem dL_law_239 : decode cL_law 239 = .ok (.iaload, 1) := by decide +kernel
theorem dL_law_240 : decode cL_law 240 = .ok (.invokevirtual 17, 3) := by decide +kernel
theorem dL_law_243 : decode cL_law 243 = .ok (.pop, 1) := by decide +kernel
theorem dL_law_244 : decode cL_law 244 = .ok (.goto 942, 3) := by decide +kernel
theorem dL_law_247 : decode cL_law 247 = .ok (.aload_n 1, 1) := by decide +kernel
theorem dL_law_248 : decode cL_law 248 = .ok (.aload_n 0, 1) := by decide +kernel
theorem dL_law_249 : decode cL_law 249 = .ok (.iload_n 3, 1) := by decide +kernel
theorem dL_law_250 : decode cL_law 250 = .ok (.iconst 1, 1) := by decide +kernel
theorem dL_law_251 : decode cL_law 251 = .ok (.iadd, 1) := by decide +kernel
theorem dL_law_252 : decode cL_law 252 = .ok (.iaload, 1) := by decide +kernel
theorem dL_law_253 : decode cL_law 253 = .ok (.invokevirtual 18, 3) := by decide +kernel
theorem dL_law_256 : decode cL_law 256 = .ok (.pop, 1) := by decide +kernel
theorem dL_law_257 : decode cL_law 257 = .ok (.aload_n 2, 1) := by decide +kernel
theorem dL_law_258 : decode cL_law 258 = .ok (.aload_n 0, 1) := by decide +kernel
theorem dL_law_259 : decode cL_law 259 = .ok (.iload_n 3, 1) := by decide +kernel
theorem dL_law_260 : decode cL_law 260 = .ok (.iconst 1, 1) := by decide +kernel
theorem dL_law_261 : decode cL_law 261 = .ok (.iadd, 1) := by decide +kernel
theorem dL_law_262 : decode cL_law 262 = .ok (.iaload, 1) := by decide +kernel
theorem dL_law_263 : decode cL_law 263 = .ok (.invokevirtual 22, 3) := by decide +kernel
theorem dL_law_266 : decode cL_law 266 = .ok (.pop, 1) := by decide +kernel
theorem dL_law_267 : decode cL_law 267 = .ok (.goto 919, 3) := by decide +kernel
theorem dL_law_270 : decode cL_law 270 = .ok (.aload_n 1, 1) := by decide +kernel
theorem dL_law_271 : decode cL_law 271 = .ok (.invokevirtual 23, 3) := by decide +kernel
theorem dL_law_274 : decode cL_law 274 = .ok (.pop, 1) := by decide +kernel
theorem dL_law_275 : decode cL_law 275 = .ok (.aload_n 2, 1) := by decide +kernel
theorem dL_law_276 : decode cL_law 276 = .ok (.invokevirtual 27, 3) := by decide +kernel
theorem dL_law_279 : decode cL_law 279 = .ok (.pop, 1) := by decide +kernel
theorem dL_law_280 : decode cL_law 280 = .ok (.goto 906, 3) := by decide +kernel
theorem dL_law_283 : decode cL_law 283 = .ok (.aload_n 1, 1) := by decide +kernel
theorem dL_law_284 : decode cL_law 284 = .ok (.invokevirtual 28, 3) := by decide +kernel
theorem dL_law_287 : decode cL_law 287 = .ok (.pop, 1) := by decide +kernel
theorem dL_law_288 : decode cL_law 288 = .ok (.aload_n 2, 1) := by decide +kernel
theorem dL_law_289 : decode cL_law 289 = .ok (.invokevirtual 31, 3) := by decide +kernel
theorem dL_law_292 : decode cL_law 292 = .ok (.pop, 1) := by decide +kernel
theorem dL_law_293 : decode cL_law 293 = .ok (.goto 893, 3) := by decide +kernel
theorem dL_law_296 : decode cL_law 296 = .ok (.aload_n 1, 1) := by decide +kernel
theorem dL_law_297 : decode cL_law 297 = .ok (.aload_n 0, 1) := by decide +kernel
theorem dL_law_298 : decode cL_law 298 = .ok (.iload_n 3, 1) := by decide +kernel
theorem dL_law_299 : decode cL_law 299 = .ok (.iconst 1, 1) := by decide +kernel
theorem dL_law_300 : decode cL_law 300 = .ok (.iadd, 1) := by decide +kernel
theorem dL_law_301 : decode cL_law 301 = .ok (.iaload, 1) := by decide +kernel
theorem dL_law_302 : decode cL_law 302 = .ok (.invokevirtual 32, 3) := by decide +kernel
theorem dL_law_305 : decode cL_law 305 = .ok (.pop, 1) := by decide +kernel
theorem dL_law_306 : decode cL_law 306 = .ok (.aload_n 2, 1) := by decide +kernel
theorem dL_law_307 : decode cL_law 307 = .ok (.aload_n 0, 1) := by decide +kernel
theorem dL_law_308 : decode cL_law 308 = .ok (.iload_n 3, 1) := by decide +kernel
theorem dL_law_309 : decode cL_law 309 = .ok (.iconst 1, 1) := by decide +kernel
theorem dL_law_310 : decode cL_law 310 = .ok (.iadd, 1) := by decide +kernel
theorem dL_law_311 : decode cL_law 311 = .ok (.iaload, 1) := by decide +kernel
theorem dL_law_312 : decode cL_law 312 = .ok (.invokevirtual 35, 3) := by decide +kernel
theorem dL_law_315 : decode cL_law 315 = .ok (.pop, 1) := by decide +kernel
theorem dL_law_316 : decode cL_law 316 = .ok (.goto 870, 3) := by decide +kernel
theorem dL_law_319 : decode cL_law 319 = .ok (.aload_n 1, 1) := by decide +kernel
theorem dL_law_320 : decode cL_law 320 = .ok (.aload_n 0, 1) := by decide +kernel
theorem dL_law_321 : decode cL_law 321 = .ok (.iload_n 3, 1) := by decide +kernel
theorem dL_law_322 : decode cL_law 322 = .ok (.iconst 1, 1) := by decide +kernel
theorem dL_law_323 : decode cL_law 323 = .ok (.iadd, 1) := by decide +kernel
theorem dL_law_324 : decode cL_law 324 = .ok (.iaload, 1) := by decide +kernel
theorem dL_law_325 : decode cL_law 325 = .ok (.aload_n 0, 1) := by decide +kernel
theorem dL_law_326 : decode cL_law 326 = .ok (.iload_n 3, 1) := by decide +kernel
theorem dL_law_327 : decode cL_law 327 = .ok (.iconst 2, 1) := by decide +kernel
theorem dL_law_328 : decode cL_law 328 = .ok (.iadd, 1) := by decide +kernel
theorem dL_law_329 : decode cL_law 329 = .ok (.iaload, 1) := by decide +kernel
theorem dL_law_330 : decode cL_law 330 = .ok (.invokevirtual 36, 3) := by decide +kernel
theorem dL_law_333 : decode cL_law 333 = .ok (.pop, 1) := by decide +kernel
theorem dL_law_334 : decode cL_law 334 = .ok (.aload_n 2, 1) := by decide +kernel
theorem dL_law_335 : decode cL_law 335 = .ok (.aload_n 0, 1) := by decide +kernel
theorem dL_law_336 : decode cL_law 336 = .ok (.iload_n 3, 1) := by decide +kernel
theorem dL_law_337 : decode cL_law 337 = .ok (.iconst 1, 1) := by decide +kernel
theorem dL_law_338 : decode cL_law 338 = .ok (.iadd, 1) := by decide +kernel
theorem dL_law_339 : decode cL_law 339 = .ok (.iaload, 1) := by decide +kernel
theorem dL_law_340 : decode cL_law 340 = .ok (.aload_n 0, 1) := by decide +kernel
theorem dL_law_341 : decode cL_law 341 = .ok (.iload_n 3, 1) := by decide +kernel
theorem dL_law_342 : decode cL_law 342 = .ok (.iconst 2, 1) := by decide +kernel
theorem dL_law_343 : decode cL_law 343 = .ok (.iadd, 1) := by decide +kernel
theorem dL_law_344 : decode cL_law 344 = .ok (.iaload, 1) := by decide +kernel
theorem dL_law_345 : decode cL_law 345 = .ok (.invokevirtual 40, 3) := by decide +kernel
theorem dL_law_348 : decode cL_law 348 = .ok (.pop, 1) := by decide +kernel
theorem dL_law_349 : decode cL_law 349 = .ok (.goto 837, 3) := by decide +kernel
theorem dL_law_352 : decode cL_law 352 = .ok (.aload_n 1, 1) := by decide +kernel
theorem dL_law_353 : decode cL_law 353 = .ok (.aload_n 0, 1) := by decide +kernel
theorem dL_law_354 : decode cL_law 354 = .ok (.iload_n 3, 1) := by decide +kernel
theorem dL_law_355 : decode cL_law 355 = .ok (.iconst 1, 1) := by decide +kernel
theorem dL_law_356 : decode cL_law 356 = .ok (.iadd, 1) := by decide +kernel
theorem dL_law_357 : decode cL_law 357 = .ok (.iaload, 1) := by decide +kernel
theorem dL_law_358 : decode cL_law 358 = .ok (.aload_n 0, 1) := by decide +kernel
theorem dL_law_359 : decode cL_law 359 = .ok (.iload_n 3, 1) := by decide +kernel
theorem dL_law_360 : decode cL_law 360 = .ok (.iconst 2, 1) := by decide +kernel
theorem dL_law_361 : decode cL_law 361 = .ok (.iadd, 1) := by decide +kernel
theorem dL_law_362 : decode cL_law 362 = .ok (.iaload, 1) := by decide +kernel
theorem dL_law_363 : decode cL_law 363 = .ok (.invokevirtual 41, 3) := by decide +kernel
theorem dL_law_366 : decode cL_law 366 = .ok (.pop, 1) := by decide +kernel
theorem dL_law_367 : decode cL_law 367 = .ok (.aload_n 2, 1) := by decide +kernel
theorem dL_law_368 : decode cL_law 368 = .ok (.aload_n 0, 1) := by decide +kernel
theorem dL_law_369 : decode cL_law 369 = .ok (.iload_n 3, 1) := by decide +kernel
theorem dL_law_370 : decode cL_law 370 = .ok (.iconst 1, 1) := by decide +kernel
theorem dL_law_371 : decode cL_law 371 = .ok (.iadd, 1) := by decide +kernel
theorem dL_law_372 : decode cL_law 372 = .ok (.iaload, 1) := by decide +kernel
theorem dL_law_373 : decode cL_law 373 = .ok (.aload_n 0, 1) := by decide +kernel
theorem dL_law_374 : decode cL_law 374 = .ok (.iload_n 3, 1) := by decide +kernel
theorem dL_law_375 : decode cL_law 375 = .ok (.iconst 2, 1) := by decide +kernel
theorem dL_law_376 : decode cL_law 376 = .ok (.iadd, 1) := by decide +kernel
theorem dL_law_377 : decode cL_law 377 = .ok (.iaload, 1) := by decide +kernel
theorem dL_law_378 : decode cL_law 378 = .ok (.invokevirtual 44, 3) := by decide +kernel
theorem dL_law_381 : decode cL_law 381 = .ok (.pop, 1) := by decide +kernel
theorem dL_law_382 : decode cL_law 382 = .ok (.goto 804, 3) := by decide +kernel
theorem dL_law_385 : decode cL_law 385 = .ok (.aload_n 1, 1) := by decide +kernel
theorem dL_law_386 : decode cL_law 386 = .ok (.invokevirtual 45, 3) := by decide +kernel
theorem dL_law_389 : decode cL_law 389 = .ok (.pop, 1) := by decide +kernel
theorem dL_law_390 : decode cL_law 390 = .ok (.aload_n 2, 1) := by decide +kernel
theorem dL_law_391 : decode cL_law 391 = .ok (.invokevirtual 48, 3) := by decide +kernel
theorem dL_law_394 : decode cL_law 394 = .ok (.pop, 1) := by decide +kernel
theorem dL_law_395 : decode cL_law 395 = .ok (.goto 791, 3) := by decide +kernel
theorem dL_law_398 : decode cL_law 398 = .ok (.aload_n 1, 1) := by decide +kernel
theorem dL_law_399 : decode cL_law 399 = .ok (.aload_n 0, 1) := by decide +kernel
theorem dL_law_400 : decode cL_law 400 = .ok (.iload_n 3, 1) := by decide +kernel
theorem dL_law_401 : decode cL_law 401 = .ok (.iconst 1, 1) := by decide +kernel
theorem dL_law_402 : decode cL_law 402 = .ok (.iadd, 1) := by decide +kernel
theorem dL_law_403 : decode cL_law 403 = .ok (.iaload, 1) := by decide +kernel
theorem dL_law_404 : decode cL_law 404 = .ok (.invokevirtual 49, 3) := by decide +kernel
theorem dL_law_407 : decode cL_law 407 = .ok (.pop, 1) := by decide +kernel
theorem dL_law_408 : decode cL_law 408 = .ok (.aload_n 2, 1) := by decide +kernel
theorem dL_law_409 : decode cL_law 409 = .ok (.aload_n 0, 1) := by decide +kernel
theorem dL_law_410 : decode cL_law 410 = .ok (.iload_n 3, 1) := by decide +kernel
theorem dL_law_411 : decode cL_law 411 = .ok (.iconst 1, 1) := by decide +kernel
theorem dL_law_412 : decode cL_law 412 = .ok (.iadd, 1) := by decide +kernel
theorem dL_law_413 : decode cL_law 413 = .ok (.iaload, 1) := by decide +kernel
theorem dL_law_414 : decode cL_law 414 = .ok (.invokevirtual 52, 3) := by decide +kernel
theorem dL_law_417 : decode cL_law 417 = .ok (.pop, 1) := by decide +kernel
theorem dL_law_418 : decode cL_law 418 = .ok (.goto 768, 3) := by decide +kernel
theorem dL_law_421 : decode cL_law 421 = .ok (.aload_n 1, 1) := by decide +kernel
theorem dL_law_422 : decode cL_law 422 = .ok (.aload_n 0, 1) := by decide +kernel
theorem dL_law_423 : decode cL_law 423 = .ok (.iload_n 3, 1) := by decide +kernel
theorem dL_law_424 : decode cL_law 424 = .ok (.iconst 1, 1) := by decide +kernel
theorem dL_law_425 : decode cL_law 425 = .ok (.iadd, 1) := by decide +kernel
theorem dL_law_426 : decode cL_law 426 = .ok (.iaload, 1) := by decide +kernel
theorem dL_law_427 : decode cL_law 427 = .ok (.aload_n 0, 1) := by decide +kernel
theorem dL_law_428 : decode cL_law 428 = .ok (.iload_n 3, 1) := by decide +kernel
theorem dL_law_429 : decode cL_law 429 = .ok (.iconst 2, 1) := by decide +kernel
theorem dL_law_430 : decode cL_law 430 = .ok (.iadd, 1) := by decide +kernel
theorem dL_law_431 : decode cL_law 431 = .ok (.iaload, 1) := by decide +kernel
theorem dL_law_432 : decode cL_law 432 = .ok (.invokevirtual 53, 3) := by decide +kernel
theorem dL_law_435 : decode cL_law 435 = .ok (.pop, 1) := by decide +kernel
theorem dL_law_436 : decode cL_law 436 = .ok (.aload_n 2, 1) := by decide +kernel
theorem dL_law_437 : decode cL_law 437 = .ok (.aload_n 0, 1) := by decide +kernel
theorem dL_law_438 : decode cL_law 438 = .ok (.iload_n 3, 1) := by decide +kernel
theorem dL_law_439 : decode cL_law 439 = .ok (.iconst 1, 1) := by decide +kernel
theorem dL_law_440 : decode cL_law 440 = .ok (.iadd, 1) := by decide +kernel
theorem dL_law_441 : decode cL_law 441 = .ok (.iaload, 1) := by decide +kernel
theorem dL_law_442 : decode cL_law 442 = .ok (.aload_n 0, 1) := by decide +kernel
theorem dL_law_443 : decode cL_law 443 = .ok (.iload_n 3, 1) := by decide +kernel
theorem dL_law_444 : decode cL_law 444 = .ok (.iconst 2, 1) := by decide +kernel
theorem dL_law_445 : decode cL_law 445 = .ok (.iadd, 1) := by decide +kernel
theorem dL_law_446 : decode cL_law 446 = .ok (.iaload, 1) := by decide +kernel
theorem dL_law_447 : decode cL_law 447 = .ok (.invokevirtual 56, 3) := by decide +kernel
theorem dL_law_450 : decode cL_law 450 = .ok (.pop, 1) := by decide +kernel
theorem dL_law_451 : decode cL_law 451 = .ok (.goto 735, 3) := by decide +kernel
theorem dL_law_454 : decode cL_law 454 = .ok (.aload_n 1, 1) := by decide +kernel
theorem dL_law_455 : decode cL_law 455 = .ok (.aload_n 0, 1) := by decide +kernel
theorem dL_law_456 : decode cL_law 456 = .ok (.iload_n 3, 1) := by decide +kernel
theorem dL_law_457 : decode cL_law 457 = .ok (.iconst 1, 1) := by decide +kernel
theorem dL_law_458 : decode cL_law 458 = .ok (.iadd, 1) := by decide +kernel
theorem dL_law_459 : decode cL_law 459 = .ok (.iaload, 1) := by decide +kernel
theorem dL_law_460 : decode cL_law 460 = .ok (.aload_n 0, 1) := by decide +kernel
theorem dL_law_461 : decode cL_law 461 = .ok (.iload_n 3, 1) := by decide +kernel
theorem dL_law_462 : decode cL_law 462 = .ok (.iconst 2, 1) := by decide +kernel
theorem dL_law_463 : decode cL_law 463 = .ok (.iadd, 1) := by decide +kernel
theorem dL_law_464 : decode cL_law 464 = .ok (.iaload, 1) := by decide +kernel
theorem dL_law_465 : decode cL_law 465 = .ok (.invokevirtual 57, 3) := by decide +kernel
theorem dL_law_468 : decode cL_law 468 = .ok (.pop, 1) := by decide +kernel
theorem dL_law_469 : decode cL_law 469 = .ok (.aload_n 2, 1) := by decide +kernel
theorem dL_law_470 : decode cL_law 470 = .ok (.aload_n 0, 1) := by decide +kernel
theorem dL_law_471 : decode cL_law 471 = .ok (.iload_n 3, 1) := by decide +kernel
theorem dL_law_472 : decode cL_law 472 = .ok (.iconst 1, 1) := by decide +kernel
theorem dL_law_473 : decode cL_law 473 = .ok (.iadd, 1) := by decide +kernel
theorem dL_law_474 : decode cL_law 474 = .ok (.iaload, 1) := by decide +kernel
theorem dL_law_475 : decode cL_law 475 = .ok (.aload_n 0, 1) := by decide +kernel
theorem dL_law_476 : decode cL_law 476 = .ok (.iload_n 3, 1) := by decide +kernel
theorem dL_law_477 : decode cL_law 477 = .ok (.iconst 2, 1) := by decide +kernel
theorem dL_law_478 : decode cL_law 478 = .ok (.iadd, 1) := by decide +kernel
theorem dL_law_479 : decode cL_law 479 = .ok (.iaload, 1) := by decide +kernel
theorem dL_law_480 : decode cL_law 480 = .ok (.invokevirtual 60, 3) := by decide +kernel
theorem dL_law_483 : decode cL_law 483 = .ok (.pop, 1) := by decide +kernel
theorem dL_law_484 : decode cL_law 484 = .ok (.goto 702, 3) := by decide +kernel
theorem dL_law_487 : decode cL_law 487 = .ok (.aload_n 1, 1) := by decide +kernel
theorem dL_law_488 : decode cL_law 488 = .ok (.aload_n 0, 1) := by decide +kernel
theorem dL_law_489 : decode cL_law 489 = .ok (.iload_n 3, 1) := by decide +kernel
theorem dL_law_490 : decode cL_law 490 = .ok (.iconst 1, 1) := by decide +kernel
theorem dL_law_491 : decode cL_law 491 = .ok (.iadd, 1) := by decide +kernel
theorem dL_law_492 : decode cL_law 492 = .ok (.iaload, 1) := by decide +kernel
theorem dL_law_493 : decode cL_law 493 = .ok (.aload_n 0, 1) := by decide +kernel
theorem dL_law_494 : decode cL_law 494 = .ok (.iload_n 3, 1) := by decide +kernel
theorem dL_law_495 : decode cL_law 495 = .ok (.iconst 2, 1) := by decide +kernel
theorem dL_law_496 : decode cL_law 496 = .ok (.iadd, 1) := by decide +kernel
theorem dL_law_497 : decode cL_law 497 = .ok (.iaload, 1) := by decide +kernel
theorem dL_law_498 : decode cL_law 498 = .ok (.invokevirtual 61, 3) := by decide +kernel
theorem dL_law_501 : decode cL_law 501 = .ok (.pop, 1) := by decide +kernel
theorem dL_law_502 : decode cL_law 502 = .ok (.aload_n 2, 1) := by decide +kernel
theorem dL_law_503 : decode cL_law 503 = .ok (.aload_n 0, 1) := by decide +kernel
theorem dL_law_504 : decode cL_law 504 = .ok (.iload_n 3, 1) := by decide +kernel
theorem dL_law_505 : decode cL_law 505 = .ok (.iconst 1, 1) := by decide +kernel
theorem dL_law_506 : decode cL_law 506 = .ok (.iadd, 1) := by decide +kernel
theorem dL_law_507 : decode cL_law 507 = .ok (.iaload, 1) := by decide +kernel
theorem dL_law_508 : decode cL_law 508 = .ok (.aload_n 0, 1) := by decide +kernel
theorem dL_law_509 : decode cL_law 509 = .ok (.iload_n 3, 1) := by decide +kernel
theorem dL_law_510 : decode cL_law 510 = .ok (.iconst 2, 1) := by decide +kernel
theorem dL_law_511 : decode cL_law 511 = .ok (.iadd, 1) := by decide +kernel
theorem dL_law_512 : decode cL_law 512 = .ok (.iaload, 1) := by decide +kernel
theorem dL_law_513 : decode cL_law 513 = .ok (.invokevirtual 64, 3) := by decide +kernel
theorem dL_law_516 : decode cL_law 516 = .ok (.pop, 1) := by decide +kernel
theorem dL_law_517 : decode cL_law 517 = .ok (.goto 669, 3) := by decide +kernel
theorem dL_law_520 : decode cL_law 520 = .ok (.aload_n 1, 1) := by decide +kernel
theorem dL_law_521 : decode cL_law 521 = .ok (.invokevirtual 65, 3) := by decide +kernel
theorem dL_law_524 : decode cL_law 524 = .ok (.pop, 1) := by decide +kernel
theorem dL_law_525 : decode cL_law 525 = .ok (.aload_n 2, 1) := by decide +kernel
theorem dL_law_526 : decode cL_law 526 = .ok (.invokevirtual 68, 3) := by decide +kernel
theorem dL_law_529 : decode cL_law 529 = .ok (.pop, 1) := by decide +kernel
theorem dL_law_530 : decode cL_law 530 = .ok (.goto 656, 3) := by decide +kernel
theorem dL_law_533 : decode cL_law 533 = .ok (.aload_n 1, 1) := by decide +kernel
theorem dL_law_534 : decode cL_law 534 = .ok (.aload_n 0, 1) := by decide +kernel
theorem dL_law_535 : decode cL_law 535 = .ok (.iload_n 3, 1) := by decide +kernel
theorem dL_law_536 : decode cL_law 536 = .ok (.iconst 1, 1) := by decide +kernel
theorem dL_law_537 : decode cL_law 537 = .ok (.iadd, 1) := by decide +kernel
theorem dL_law_538 : decode cL_law 538 = .ok (.iaload, 1) := by decide +kernel
theorem dL_law_539 : decode cL_law 539 = .ok (.aload_n 0, 1) := by decide +kernel
theorem dL_law_540 : decode cL_law 540 = .ok (.iload_n 3, 1) := by decide +kernel
theorem dL_law_541 : decode cL_law 541 = .ok (.iconst 2, 1) := by decide +kernel
theorem dL_law_542 : decode cL_law 542 = .ok (.iadd, 1) := by decide +kernel
theorem dL_law_543 : decode cL_law 543 = .ok (.iaload, 1) := by decide +kernel
theorem dL_law_544 : decode cL_law 544 = .ok (.aload_n 0, 1) := by decide +kernel
theorem dL_law_545 : decode cL_law 545 = .ok (.iload_n 3, 1) := by decide +kernel
theorem dL_law_546 : decode cL_law 546 = .ok (.iconst 3, 1) := by decide +kernel
theorem dL_law_547 : decode cL_law 547 = .ok (.iadd, 1) := by decide +kernel
theorem dL_law_548 : decode cL_law 548 = .ok (.iaload, 1) := by decide +kernel
theorem dL_law_549 : decode cL_law 549 = .ok (.invokevirtual 69, 3) := by decide +kernel
theorem dL_law_552 : decode cL_law 552 = .ok (.pop, 1) := by decide +kernel
theorem dL_law_553 : decode cL_law 553 = .ok (.aload_n 2, 1) := by decide +kernel
theorem dL_law_554 : decode cL_law 554 = .ok (.aload_n 0, 1) := by decide +kernel
theorem dL_law_555 : decode cL_law 555 = .ok (.iload_n 3, 1) := by decide +kernel
theorem dL_law_556 : decode cL_law 556 = .ok (.iconst 1, 1) := by decide +kernel
theorem dL_law_557 : decode cL_law 557 = .ok (.iadd, 1) := by decide +kernel
theorem dL_law_558 : decode cL_law 558 = .ok (.iaload, 1) := by decide +kernel
theorem dL_law_559 : decode cL_law 559 = .ok (.aload_n 0, 1) := by decide +kernel
theorem dL_law_560 : decode cL_law 560 = .ok (.iload_n 3, 1) := by decide +kernel
theorem dL_law_561 : decode cL_law 561 = .ok (.iconst 2, 1) := by decide +kernel
theorem dL_law_562 : decode cL_law 562 = .ok (.iadd, 1) := by decide +kernel
theorem dL_law_563 : decode cL_law 563 = .ok (.iaload, 1) := by decide +kernel
theorem dL_law_564 : decode cL_law 564 = .ok (.aload_n 0, 1) := by decide +kernel
theorem dL_law_565 : decode cL_law 565 = .ok (.iload_n 3, 1) := by decide +kernel
theorem dL_law_566 : decode cL_law 566 = .ok (.iconst 3, 1) := by decide +kernel
theorem dL_law_567 : decode cL_law 567 = .ok (.iadd, 1) := by decide +kernel
theorem dL_law_568 : decode cL_law 568 = .ok (.iaload, 1) := by decide +kernel
theorem dL_law_569 : decode cL_law 569 = .ok (.invokevirtual 73, 3) := by decide +kernel
theorem dL_law_572 : decode cL_law 572 = .ok (.pop, 1) := by decide +kernel
theorem dL_law_573 : decode cL_law 573 = .ok (.goto 613, 3) := by decide +kernel
theorem dL_law_576 : decode cL_law 576 = .ok (.aload_n 1, 1) := by decide +kernel
theorem dL_law_577 : decode cL_law 577 = .ok (.aload_n 0, 1) := by decide +kernel
theorem dL_law_578 : decode cL_law 578 = .ok (.iload_n 3, 1) := by decide +kernel
theorem dL_law_579 : decode cL_law 579 = .ok (.iconst 1, 1) := by decide +kernel
theorem dL_law_580 : decode cL_law 580 = .ok (.iadd, 1) := by decide +kernel
theorem dL_law_581 : decode cL_law 581 = .ok (.iaload, 1) := by decide +kernel
theorem dL_law_582 : decode cL_law 582 = .ok (.invokevirtual 74, 3) := by decide +kernel
theorem dL_law_585 : decode cL_law 585 = .ok (.pop, 1) := by decide +kernel
theorem dL_law_586 : decode cL_law 586 = .ok (.aload_n 2, 1) := by decide +kernel
theorem dL_law_587 : decode cL_law 587 = .ok (.aload_n 0, 1) := by decide +kernel
theorem dL_law_588 : decode cL_law 588 = .ok (.iload_n 3, 1) := by decide +kernel
theorem dL_law_589 : decode cL_law 589 = .ok (.iconst 1, 1) := by decide +kernel
theorem dL_law_590 : decode cL_law 590 = .ok (.iadd, 1) := by decide +kernel
theorem dL_law_591 : decode cL_law 591 = .ok (.iaload, 1) := by decide +kernel
theorem dL_law_592 : decode cL_law 592 = .ok (.invokevirtual 77, 3) := by decide +kernel
theorem dL_law_595 : decode cL_law 595 = .ok (.pop, 1) := by decide +kernel
theorem dL_law_596 : decode cL_law 596 = .ok (.goto 590, 3) := by decide +kernel
theorem dL_law_599 : decode cL_law 599 = .ok (.aload_n 1, 1) := by decide +kernel
theorem dL_law_600 : decode cL_law 600 = .ok (.invokevirtual 78, 3) := by decide +kernel
theorem dL_law_603 : decode cL_law 603 = .ok (.pop, 1) := by decide +kernel
theorem dL_law_604 : decode cL_law 604 = .ok (.aload_n 2, 1) := by decide +kernel
theorem dL_law_605 : decode cL_law 605 = .ok (.invokevirtual 81, 3) := by decide +kernel
theorem dL_law_608 : decode cL_law 608 = .ok (.pop, 1) := by decide +kernel
theorem dL_law_609 : decode cL_law 609 = .ok (.goto 577, 3) := by decide +kernel
theorem dL_law_612 : decode cL_law 612 = .ok (.aload_n 1, 1) := by decide +kernel
theorem dL_law_613 : decode cL_law 613 = .ok (.aload_n 0, 1) := by decide +kernel
theorem dL_law_614 : decode cL_law 614 = .ok (.iload_n 3, 1) := by decide +kernel
theorem dL_law_615 : decode cL_law 615 = .ok (.iconst 1, 1) := by decide +kernel
theorem dL_law_616 : decode cL_law 616 = .ok (.iadd, 1) := by decide +kernel
theorem dL_law_617 : decode cL_law 617 = .ok (.iaload, 1) := by decide +kernel
theorem dL_law_618 : decode cL_law 618 = .ok (.aload_n 0, 1) := by decide +kernel
theorem dL_law_619 : decode cL_law 619 = .ok (.iload_n 3, 1) := by decide +kernel
theorem dL_law_620 : decode cL_law 620 = .ok (.iconst 2, 1) := by decide +kernel
theorem dL_law_621 : decode cL_law 621 = .ok (.iadd, 1) := by decide +kernel
theorem dL_law_622 : decode cL_law 622 = .ok (.iaload, 1) := by decide +kernel
theorem dL_law_623 : decode cL_law 623 = .ok (.invokevirtual 82, 3) := by decide +kernel
theorem dL_law_626 : decode cL_law 626 = .ok (.pop, 1) := by decide +kernel
theorem dL_law_627 : decode cL_law 627 = .ok (.aload_n 2, 1) := by decide +kernel
theorem dL_law_628 : decode cL_law 628 = .ok (.aload_n 0, 1) := by decide +kernel
theorem dL_law_629 : decode cL_law 629 = .ok (.iload_n 3, 1) := by decide +kernel
theorem dL_law_630 : decode cL_law 630 = .ok (.iconst 1, 1) := by decide +kernel
theorem dL_law_631 : decode cL_law 631 = .ok (.iadd, 1) := by decide +kernel
theorem dL_law_632 : decode cL_law 632 = .ok (.iaload, 1) := by decide +kernel
theorem dL_law_633 : decode cL_law 633 = .ok (.aload_n 0, 1) := by decide +kernel
theorem dL_law_634 : decode cL_law 634 = .ok (.iload_n 3, 1) := by decide +kernel
theorem dL_law_635 : decode cL_law 635 = .ok (.iconst 2, 1) := by decide +kernel
theorem dL_law_636 : decode cL_law 636 = .ok (.iadd, 1) := by decide +kernel
theorem dL_law_637 : decode cL_law 637 = .ok (.iaload, 1) := by decide +kernel
theorem dL_law_638 : decode cL_law 638 = .ok (.invokevirtual 85, 3) := by decide +kernel
theorem dL_law_641 : decode cL_law 641 = .ok (.pop, 1) := by decide +kernel
theorem dL_law_642 : decode cL_law 642 = .ok (.goto 544, 3) := by decide +kernel
theorem dL_law_645 : decode cL_law 645 = .ok (.aload_n 1, 1) := by decide +kernel
theorem dL_law_646 : decode cL_law 646 = .ok (.aload_n 0, 1) := by decide +kernel
theorem dL_law_647 : decode cL_law 647 = .ok (.iload_n 3, 1) := by decide +kernel
theorem dL_law_648 : decode cL_law 648 = .ok (.iconst 1, 1) := by decide +kernel
theorem dL_law_649 : decode cL_law 649 = .ok (.iadd, 1) := by decide +kernel
theorem dL_law_650 : decode cL_law 650 = .ok (.iaload, 1) := by decide +kernel
theorem dL_law_651 : decode cL_law 651 = .ok (.aload_n 0, 1) := by decide +kernel
theorem dL_law_652 : decode cL_law 652 = .ok (.iload_n 3, 1) := by decide +kernel
theorem dL_law_653 : decode cL_law 653 = .ok (.iconst 2, 1) := by decide +kernel
theorem dL_law_654 : decode cL_law 654 = .ok (.iadd, 1) := by decide +kernel
theorem dL_law_655 : decode cL_law 655 = .ok (.iaload, 1) := by decide +kernel
theorem dL_law_656 : decode cL_law 656 = .ok (.invokevirtual 86, 3) := by decide +kernel
theorem dL_law_659 : decode cL_law 659 = .ok (.pop, 1) := by decide +kernel
theorem dL_law_660 : decode cL_law 660 = .ok (.aload_n 2, 1) := by decide +kernel
theorem dL_law_661 : decode cL_law 661 = .ok (.aload_n 0, 1) := by decide +kernel
theorem dL_law_662 : decode cL_law 662 = .ok (.iload_n 3, 1) := by decide +kernel
theorem dL_law_663 : decode cL_law 663 = .ok (.iconst 1, 1) := by decide +kernel
theorem dL_law_664 : decode cL_law 664 = .ok (.iadd, 1) := by decide +kernel
theorem dL_law_665 : decode cL_law 665 = .ok (.iaload, 1) := by decide +kernel
theorem dL_law_666 : decode cL_law 666 = .ok (.aload_n 0, 1) := by decide +kernel
theorem dL_law_667 : decode cL_law 667 = .ok (.iload_n 3, 1) := by decide +kernel
theorem dL_law_668 : decode cL_law 668 = .ok (.iconst 2, 1) := by decide +kernel
theorem dL_law_669 : decode cL_law 669 = .ok (.iadd, 1) := by decide +kernel
theorem dL_law_670 : decode cL_law 670 = .ok (.iaload, 1) := by decide +kernel
theorem dL_law_671 : decode cL_law 671 = .ok (.invokevirtual 89, 3) := by decide +kernel
theorem dL_law_674 : decode cL_law 674 = .ok (.pop, 1) := by decide +kernel
theorem dL_law_675 : decode cL_law 675 = .ok (.goto 511, 3) := by decide +kernel
theorem dL_law_678 : decode cL_law 678 = .ok (.aload_n 1, 1) := by decide +kernel
theorem dL_law_679 : decode cL_law 679 = .ok (.aload_n 0, 1) := by decide +kernel
theorem dL_law_680 : decode cL_law 680 = .ok (.iload_n 3, 1) := by decide +kernel
theorem dL_law_681 : decode cL_law 681 = .ok (.iconst 1, 1) := by decide +kernel
theorem dL_law_682 : decode cL_law 682 = .ok (.iadd, 1) := by decide +kernel
theorem dL_law_683 : decode cL_law 683 = .ok (.iaload, 1) := by decide +kernel
theorem dL_law_684 : decode cL_law 684 = .ok (.aload_n 0, 1) := by decide +kernel
theorem dL_law_685 : decode cL_law 685 = .ok (.iload_n 3, 1) := by decide +kernel
theorem dL_law_686 : decode cL_law 686 = .ok (.iconst 2, 1) := by decide +kernel
theorem dL_law_687 : decode cL_law 687 = .ok (.iadd, 1) := by decide +kernel
theorem dL_law_688 : decode cL_law 688 = .ok (.iaload, 1) := by decide +kernel
theorem dL_law_689 : decode cL_law 689 = .ok (.invokevirtual 90, 3) := by decide +kernel
theorem dL_law_692 : decode cL_law 692 = .ok (.pop, 1) := by decide +kernel
theorem dL_law_693 : decode cL_law 693 = .ok (.aload_n 2, 1) := by decide +kernel
theorem dL_law_694 : decode cL_law 694 = .ok (.aload_n 0, 1) := by decide +kernel
theorem dL_law_695 : decode cL_law 695 = .ok (.iload_n 3, 1) := by decide +kernel
theorem dL_law_696 : decode cL_law 696 = .ok (.iconst 1, 1) := by decide +kernel
theorem dL_law_697 : decode cL_law 697 = .ok (.iadd, 1) := by decide +kernel
theorem dL_law_698 : decode cL_law 698 = .ok (.iaload, 1) := by decide +kernel
theorem dL_law_699 : decode cL_law 699 = .ok (.aload_n 0, 1) := by decide +kernel
theorem dL_law_700 : decode cL_law 700 = .ok (.iload_n 3, 1) := by decide +kernel
theorem dL_law_701 : decode cL_law 701 = .ok (.iconst 2, 1) := by decide +kernel
theorem dL_law_702 : decode cL_law 702 = .ok (.iadd, 1) := by decide +kernel
theorem dL_law_703 : decode cL_law 703 = .ok (.iaload, 1) := by decide +kernel
theorem dL_law_704 : decode cL_law 704 = .ok (.invokevirtual 93, 3) := by decide +kernel
theorem dL_law_707 : decode cL_law 707 = .ok (.pop, 1) := by decide +kernel
theorem dL_law_708 : decode cL_law 708 = .ok (.goto 478, 3) := by decide +kernel
theorem dL_law_711 : decode cL_law 711 = .ok (.aload_n 1, 1) := by decide +kernel
theorem dL_law_712 : decode cL_law 712 = .ok (.aload_n 0, 1) := by decide +kernel
theorem dL_law_713 : decode cL_law 713 = .ok (.iload_n 3, 1) := by decide +kernel
theorem dL_law_714 : decode cL_law 714 = .ok (.iconst 1, 1) := by decide +kernel
theorem dL_law_715 : decode cL_law 715 = .ok (.iadd, 1) := by decide +kernel
theorem dL_law_716 : decode cL_law 716 = .ok (.iaload, 1) := by decide +kernel
theorem dL_law_717 : decode cL_law 717 = .ok (.aload_n 0, 1) := by decide +kernel
theorem dL_law_718 : decode cL_law 718 = .ok (.iload_n 3, 1) := by decide +kernel
theorem dL_law_719 : decode cL_law 719 = .ok (.iconst 2, 1) := by decide +kernel
theorem dL_law_720 : decode cL_law 720 = .ok (.iadd, 1) := by decide +kernel
theorem dL_law_721 : decode cL_law 721 = .ok (.iaload, 1) := by decide +kernel
theorem dL_law_722 : decode cL_law 722 = .ok (.invokevirtual 94, 3) := by decide +kernel
theorem dL_law_725 : decode cL_law 725 = .ok (.pop, 1) := by decide +kernel
theorem dL_law_726 : decode cL_law 726 = .ok (.aload_n 2, 1) := by decide +kernel
theorem dL_law_727 : decode cL_law 727 = .ok (.aload_n 0, 1) := by decide +kernel
theorem dL_law_728 : decode cL_law 728 = .ok (.iload_n 3, 1) := by decide +kernel
theorem dL_law_729 : decode cL_law 729 = .ok (.iconst 1, 1) := by decide +kernel
theorem dL_law_730 : decode cL_law 730 = .ok (.iadd, 1) := by decide +kernel
theorem dL_law_731 : decode cL_law 731 = .ok (.iaload, 1) := by decide +kernel
theorem dL_law_732 : decode cL_law 732 = .ok (.aload_n 0, 1) := by decide +kernel
theorem dL_law_733 : decode cL_law 733 = .ok (.iload_n 3, 1) := by decide +kernel
theorem dL_law_734 : decode cL_law 734 = .ok (.iconst 2, 1) := by decide +kernel
theorem dL_law_735 : decode cL_law 735 = .ok (.iadd, 1) := by decide +kernel
theorem dL_law_736 : decode cL_law 736 = .ok (.iaload, 1) := by decide +kernel
theorem dL_law_737 : decode cL_law 737 = .ok (.invokevirtual 97, 3) := by decide +kernel
theorem dL_law_740 : decode cL_law 740 = .ok (.pop, 1) := by decide +kernel
theorem dL_law_741 : decode cL_law 741 = .ok (.goto 445, 3) := by decide +kernel
theorem dL_law_744 : decode cL_law 744 = .ok (.aload_n 1, 1) := by decide +kernel
theorem dL_law_745 : decode cL_law 745 = .ok (.aload_n 0, 1) := by decide +kernel
theorem dL_law_746 : decode cL_law 746 = .ok (.iload_n 3, 1) := by decide +kernel
theorem dL_law_747 : decode cL_law 747 = .ok (.iconst 1, 1) := by decide +kernel
theorem dL_law_748 : decode cL_law 748 = .ok (.iadd, 1) := by decide +kernel
theorem dL_law_749 : decode cL_law 749 = .ok (.iaload, 1) := by decide +kernel
theorem dL_law_750 : decode cL_law 750 = .ok (.aload_n 0, 1) := by decide +kernel
theorem dL_law_751 : decode cL_law 751 = .ok (.iload_n 3, 1) := by decide +kernel
theorem dL_law_752 : decode cL_law 752 = .ok (.iconst 2, 1) := by decide +kernel
theorem dL_law_753 : decode cL_law 753 = .ok (.iadd, 1) := by decide +kernel
theorem dL_law_754 : decode cL_law 754 = .ok (.iaload, 1) := by decide +kernel
theorem dL_law_755 : decode cL_law 755 = .ok (.invokevirtual 98, 3) := by decide +kernel
theorem dL_law_758 : decode cL_law 758 = .ok (.pop, 1) := by decide +kernel
theorem dL_law_759 : decode cL_law 759 = .ok (.aload_n 2, 1) := by decide +kernel
theorem dL_law_760 : decode cL_law 760 = .ok (.aload_n 0, 1) := by decide +kernel
theorem dL_law_761 : decode cL_law 761 = .ok (.iload_n 3, 1) := by decide +kernel
theorem dL_law_762 : decode cL_law 762 = .ok (.iconst 1, 1) := by decide +kernel
theorem dL_law_763 : decode cL_law 763 = .ok (.iadd, 1) := by decide +kernel
theorem dL_law_764 : decode cL_law 764 = .ok (.iaload, 1) := by decide +kernel
theorem dL_law_765 : decode cL_law 765 = .ok (.aload_n 0, 1) := by decide +kernel
theorem dL_law_766 : decode cL_law 766 = .ok (.iload_n 3, 1) := by decide +kernel
theorem dL_law_767 : decode cL_law 767 = .ok (.iconst 2, 1) := by decide +kernel
theorem dL_law_768 : decode cL_law 768 = .ok (.iadd, 1) := by decide +kernel
theorem dL_law_769 : decode cL_law 769 = .ok (.iaload, 1) := by decide +kernel
theorem dL_law_770 : decode cL_law 770 = .ok (.invokevirtual 101, 3) := by decide +kernel
theorem dL_law_773 : decode cL_law 773 = .ok (.pop, 1) := by decide +kernel
theorem dL_law_774 : decode cL_law 774 = .ok (.goto 412, 3) := by decide +kernel
theorem dL_law_777 : decode cL_law 777 = .ok (.aload_n 1, 1) := by decide +kernel
theorem dL_law_778 : decode cL_law 778 = .ok (.aload_n 0, 1) := by decide +kernel
theorem dL_law_779 : decode cL_law 779 = .ok (.iload_n 3, 1) := by decide +kernel
theorem dL_law_780 : decode cL_law 780 = .ok (.iconst 1, 1) := by decide +kernel
theorem dL_law_781 : decode cL_law 781 = .ok (.iadd, 1) := by decide +kernel
theorem dL_law_782 : decode cL_law 782 = .ok (.iaload, 1) := by decide +kernel
theorem dL_law_783 : decode cL_law 783 = .ok (.aload_n 0, 1) := by decide +kernel
theorem dL_law_784 : decode cL_law 784 = .ok (.iload_n 3, 1) := by decide +kernel
theorem dL_law_785 : decode cL_law 785 = .ok (.iconst 2, 1) := by decide +kernel
theorem dL_law_786 : decode cL_law 786 = .ok (.iadd, 1) := by decide +kernel
theorem dL_law_787 : decode cL_law 787 = .ok (.iaload, 1) := by decide +kernel
theorem dL_law_788 : decode cL_law 788 = .ok (.invokevirtual 102, 3) := by decide +kernel
theorem dL_law_791 : decode cL_law 791 = .ok (.pop, 1) := by decide +kernel
theorem dL_law_792 : decode cL_law 792 = .ok (.aload_n 2, 1) := by decide +kernel
theorem dL_law_793 : decode cL_law 793 = .ok (.aload_n 0, 1) := by decide +kernel
theorem dL_law_794 : decode cL_law 794 = .ok (.iload_n 3, 1) := by decide +kernel
theorem dL_law_795 : decode cL_law 795 = .ok (.iconst 1, 1) := by decide +kernel
theorem dL_law_796 : decode cL_law 796 = .ok (.iadd, 1) := by decide +kernel
theorem dL_law_797 : decode cL_law 797 = .ok (.iaload, 1) := by decide +kernel
theorem dL_law_798 : decode cL_law 798 = .ok (.aload_n 0, 1) := by decide +kernel
theorem dL_law_799 : decode cL_law 799 = .ok (.iload_n 3, 1) := by decide +kernel
theorem dL_law_800 : decode cL_law 800 = .ok (.iconst 2, 1) := by decide +kernel
theorem dL_law_801 : decode cL_law 801 = .ok (.iadd, 1) := by decide +kernel
theorem dL_law_802 : decode cL_law 802 = .ok (.iaload, 1) := by decide +kernel
theorem dL_law_803 : decode cL_law 803 = .ok (.invokevirtual 105, 3) := by decide +kernel
theorem dL_law_806 : decode cL_law 806 = .ok (.pop, 1) := by decide +kernel
theorem dL_law_807 : decode cL_law 807 = .ok (.goto 379, 3) := by decide +kernel
theorem dL_law_810 : decode cL_law 810 = .ok (.aload_n 1, 1) := by decide +kernel
theorem dL_law_811 : decode cL_law 811 = .ok (.aload_n 0, 1) := by decide +kernel
theorem dL_law_812 : decode cL_law 812 = .ok (.iload_n 3, 1) := by decide +kernel
theorem dL_law_813 : decode cL_law 813 = .ok (.iconst 1, 1) := by decide +kernel
theorem dL_law_814 : decode cL_law 814 = .ok (.iadd, 1) := by decide +kernel
theorem dL_law_815 : decode cL_law 815 = .ok (.iaload, 1) := by decide +kernel
theorem dL_law_816 : decode cL_law 816 = .ok (.aload_n 0, 1) := by decide +kernel
theorem dL_law_817 : decode cL_law 817 = .ok (.iload_n 3, 1) := by decide +kernel
theorem dL_law_818 : decode cL_law 818 = .ok (.iconst 2, 1) := by decide +kernel
theorem dL_law_819 : decode cL_law 819 = .ok (.iadd, 1) := by decide +kernel
theorem dL_law_820 : decode cL_law 820 = .ok (.iaload, 1) := by decide +kernel
theorem dL_law_821 : decode cL_law 821 = .ok (.invokevirtual 106, 3) := by decide +kernel
theorem dL_law_824 : decode cL_law 824 = .ok (.pop, 1) := by decide +kernel
theorem dL_law_825 : decode cL_law 825 = .ok (.aload_n 2, 1) := by decide +kernel
theorem dL_law_826 : decode cL_law 826 = .ok (.aload_n 0, 1) := by decide +kernel
theorem dL_law_827 : decode cL_law 827 = .ok (.iload_n 3, 1) := by decide +kernel
theorem dL_law_828 : decode cL_law 828 = .ok (.iconst 1, 1) := by decide +kernel
theorem dL_law_829 : decode cL_law 829 = .ok (.iadd, 1) := by decide +kernel
theorem dL_law_830 : decode cL_law 830 = .ok (.iaload, 1) := by decide +kernel
theorem dL_law_831 : decode cL_law 831 = .ok (.aload_n 0, 1) := by decide +kernel
theorem dL_law_832 : decode cL_law 832 = .ok (.iload_n 3, 1) := by decide +kernel
theorem dL_law_833 : decode cL_law 833 = .ok (.iconst 2, 1) := by decide +kernel
theorem dL_law_834 : decode cL_law 834 = .ok (.iadd, 1) := by decide +kernel
theorem dL_law_835 : decode cL_law 835 = .ok (.iaload, 1) := by decide +kernel
theorem dL_law_836 : decode cL_law 836 = .ok (.invokevirtual 109, 3) := by decide +kernel
theorem dL_law_839 : decode cL_law 839 = .ok (.pop, 1) := by decide +kernel
theorem dL_law_840 : decode cL_law 840 = .ok (.goto 346, 3) := by decide +kernel
theorem dL_law_843 : decode cL_law 843 = .ok (.aload_n 1, 1) := by decide +kernel
theorem dL_law_844 : decode cL_law 844 = .ok (.aload_n 0, 1) := by decide +kernel
theorem dL_law_845 : decode cL_law 845 = .ok (.iload_n 3, 1) := by decide +kernel
theorem dL_law_846 : decode cL_law 846 = .ok (.iconst 1, 1) := by decide +kernel
theorem dL_law_847 : decode cL_law 847 = .ok (.iadd, 1) := by decide +kernel
theorem dL_law_848 : decode cL_law 848 = .ok (.iaload, 1) := by decide +kernel
theorem dL_law_849 : decode cL_law 849 = .ok (.aload_n 0, 1) := by decide +kernel
theorem dL_law_850 : decode cL_law 850 = .ok (.iload_n 3, 1) := by decide +kernel
theorem dL_law_851 : decode cL_law 851 = .ok (.iconst 2, 1) := by decide +kernel
theorem dL_law_852 : decode cL_law 852 = .ok (.iadd, 1) := by decide +kernel
theorem dL_law_853 : decode cL_law 853 = .ok (.iaload, 1) := by decide +kernel
theorem dL_law_854 : decode cL_law 854 = .ok (.aload_n 0, 1) := by decide +kernel
theorem dL_law_855 : decode cL_law 855 = .ok (.iload_n 3, 1) := by decide +kernel
theorem dL_law_856 : decode cL_law 856 = .ok (.iconst 3, 1) := by decide +kernel
theorem dL_law_857 : decode cL_law 857 = .ok (.iadd, 1) := by decide +kernel
theorem dL_law_858 : decode cL_law 858 = .ok (.iaload, 1) := by decide +kernel
theorem dL_law_859 : decode cL_law 859 = .ok (.aload_n 0, 1) := by decide +kernel
theorem dL_law_860 : decode cL_law 860 = .ok (.iload_n 3, 1) := by decide +kernel
theorem dL_law_861 : decode cL_law 861 = .ok (.iconst 4, 1) := by decide +kernel
theorem dL_law_862 : decode cL_law 862 = .ok (.iadd, 1) := by decide +kernel
theorem dL_law_863 : decode cL_law 863 = .ok (.iaload, 1) := by decide +kernel
theorem dL_law_864 : decode cL_law 864 = .ok (.invokevirtual 110, 3) := by decide +kernel
theorem dL_law_867 : decode cL_law 867 = .ok (.pop, 1) := by decide +kernel
theorem dL_law_868 : decode cL_law 868 = .ok (.aload_n 2, 1) := by decide +kernel
theorem dL_law_869 : decode cL_law 869 = .ok (.aload_n 0, 1) := by decide +kernel
theorem dL_law_870 : decode cL_law 870 = .ok (.iload_n 3, 1) := by decide +kernel
theorem dL_law_871 : decode cL_law 871 = .ok (.iconst 1, 1) := by decide +kernel
theorem dL_law_872 : decode cL_law 872 = .ok (.iadd, 1) := by decide +kernel
theorem dL_law_873 : decode cL_law 873 = .ok (.iaload, 1) := by decide +kernel
theorem dL_law_874 : decode cL_law 874 = .ok (.aload_n 0, 1) := by decide +kernel
theorem dL_law_875 : decode cL_law 875 = .ok (.iload_n 3, 1) := by decide +kernel
theorem dL_law_876 : decode cL_law 876 = .ok (.iconst 2, 1) := by decide +kernel
theorem dL_law_877 : decode cL_law 877 = .ok (.iadd, 1) := by decide +kernel
theorem dL_law_878 : decode cL_law 878 = .ok (.iaload, 1) := by decide +kernel
theorem dL_law_879 : decode cL_law 879 = .ok (.aload_n 0, 1) := by decide +kernel
theorem dL_law_880 : decode cL_law 880 = .ok (.iload_n 3, 1) := by decide +kernel
theorem dL_law_881 : decode cL_law 881 = .ok (.iconst 3, 1) := by decide +kernel
theorem dL_law_882 : decode cL_law 882 = .ok (.iadd, 1) := by decide +kernel
theorem dL_law_883 : decode cL_law 883 = .ok (.iaload, 1) := by decide +kernel
theorem dL_law_884 : decode cL_law 884 = .ok (.aload_n 0, 1) := by decide +kernel
theorem dL_law_885 : decode cL_law 885 = .ok (.iload_n 3, 1) := by decide +kernel
theorem dL_law_886 : decode cL_law 886 = .ok (.iconst 4, 1) := by decide +kernel
theorem dL_law_887 : decode cL_law 887 = .ok (.iadd, 1) := by decide +kernel
theorem dL_law_888 : decode cL_law 888 = .ok (.iaload, 1) := by decide +kernel
theorem dL_law_889 : decode cL_law 889 = .ok (.invokevirtual 114, 3) := by decide +kernel
theorem dL_law_892 : decode cL_law 892 = .ok (.pop, 1) := by decide +kernel
theorem dL_law_893 : decode cL_law 893 = .ok (.goto 293, 3) := by decide +kernel
theorem dL_law_896 : decode cL_law 896 = .ok (.aload_n 1, 1) := by decide +kernel
theorem dL_law_897 : decode cL_law 897 = .ok (.aload_n 0, 1) := by decide +kernel
theorem dL_law_898 : decode cL_law 898 = .ok (.iload_n 3, 1) := by decide +kernel
theorem dL_law_899 : decode cL_law 899 = .ok (.iconst 1, 1) := by decide +kernel
theorem dL_law_900 : decode cL_law 900 = .ok (.iadd, 1) := by decide +kernel
theorem dL_law_901 : decode cL_law 901 = .ok (.iaload, 1) := by decide +kernel
theorem dL_law_902 : decode cL_law 902 = .ok (.invokevirtual 115, 3) := by decide +kernel
theorem dL_law_905 : decode cL_law 905 = .ok (.pop, 1) := by decide +kernel
theorem dL_law_906 : decode cL_law 906 = .ok (.aload_n 2, 1) := by decide +kernel
theorem dL_law_907 : decode cL_law 907 = .ok (.aload_n 0, 1) := by decide +kernel
theorem dL_law_908 : decode cL_law 908 = .ok (.iload_n 3, 1) := by decide +kernel
theorem dL_law_909 : decode cL_law 909 = .ok (.iconst 1, 1) := by decide +kernel
theorem dL_law_910 : decode cL_law 910 = .ok (.iadd, 1) := by decide +kernel
theorem dL_law_911 : decode cL_law 911 = .ok (.iaload, 1) := by decide +kernel
theorem dL_law_912 : decode cL_law 912 = .ok (.invokevirtual 118, 3) := by decide +kernel
theorem dL_law_915 : decode cL_law 915 = .ok (.pop, 1) := by decide +kernel
theorem dL_law_916 : decode cL_law 916 = .ok (.goto 270, 3) := by decide +kernel
theorem dL_law_919 : decode cL_law 919 = .ok (.aload_n 1, 1) := by decide +kernel
theorem dL_law_920 : decode cL_law 920 = .ok (.aload_n 0, 1) := by decide +kernel
theorem dL_law_921 : decode cL_law 921 = .ok (.iload_n 3, 1) := by decide +kernel
theorem dL_law_922 : decode cL_law 922 = .ok (.iconst 1, 1) := by decide +kernel
theorem dL_law_923 : decode cL_law 923 = .ok (.iadd, 1) := by decide +kernel
theorem dL_law_924 : decode cL_law 924 = .ok (.iaload, 1) := by decide +kernel
theorem dL_law_925 : decode cL_law 925 = .ok (.aload_n 0, 1) := by decide +kernel
theorem dL_law_926 : decode cL_law 926 = .ok (.iload_n 3, 1) := by decide +kernel
theorem dL_law_927 : decode cL_law 927 = .ok (.iconst 2, 1) := by decide +kernel
theorem dL_law_928 : decode cL_law 928 = .ok (.iadd, 1) := by decide +kernel
theorem dL_law_929 : decode cL_law 929 = .ok (.iaload, 1) := by decide +kernel
theorem dL_law_930 : decode cL_law 930 = .ok (.invokevirtual 119, 3) := by decide +kernel
theorem dL_law_933 : decode cL_law 933 = .ok (.pop, 1) := by decide +kernel
theorem dL_law_934 : decode cL_law 934 = .ok (.aload_n 2, 1) := by decide +kernel
theorem dL_law_935 : decode cL_law 935 = .ok (.aload_n 0, 1) := by decide +kernel
theorem dL_law_936 : decode cL_law 936 = .ok (.iload_n 3, 1) := by decide +kernel
theorem dL_law_937 : decode cL_law 937 = .ok (.iconst 1, 1) := by decide +kernel
theorem dL_law_938 : decode cL_law 938 = .ok (.iadd, 1) := by decide +kernel
theorem dL_law_939 : decode cL_law 939 = .ok (.iaload, 1) := by decide +kernel
theorem dL_law_940 : decode cL_law 940 = .ok (.aload_n 0, 1) := by decide +kernel
theorem dL_law_941 : decode cL_law 941 = .ok (.iload_n 3, 1) := by decide +kernel
theorem dL_law_942 : decode cL_law 942 = .ok (.iconst 2, 1) := by decide +kernel
theorem dL_law_943 : decode cL_law 943 = .ok (.iadd, 1) := by decide +kernel
theorem dL_law_944 : decode cL_law 944 = .ok (.iaload, 1) := by decide +kernel
theorem dL_law_945 : decode cL_law 945 = .ok (.invokevirtual 122, 3) := by decide +kernel
theorem dL_law_948 : decode cL_law 948 = .ok (.pop, 1) := by decide +kernel
theorem dL_law_949 : decode cL_law 949 = .ok (.goto 237, 3) := by decide +kernel
theorem dL_law_952 : decode cL_law 952 = .ok (.aload_n 1, 1) := by decide +kernel
theorem dL_law_953 : decode cL_law 953 = .ok (.aload_n 0, 1) := by decide +kernel
theorem dL_law_954 : decode cL_law 954 = .ok (.iload_n 3, 1) := by decide +kernel
theorem dL_law_955 : decode cL_law 955 = .ok (.iconst 1, 1) := by decide +kernel
theorem dL_law_956 : decode cL_law 956 = .ok (.iadd, 1) := by decide +kernel
theorem dL_law_957 : decode cL_law 957 = .ok (.iaload, 1) := by decide +kernel
theorem dL_law_958 : decode cL_law 958 = .ok (.aload_n 0, 1) := by decide +kernel
theorem dL_law_959 : decode cL_law 959 = .ok (.iload_n 3, 1) := by decide +kernel
theorem dL_law_960 : decode cL_law 960 = .ok (.iconst 2, 1) := by decide +kernel
theorem dL_law_961 : decode cL_law 961 = .ok (.iadd, 1) := by decide +kernel
theorem dL_law_962 : decode cL_law 962 = .ok (.iaload, 1) := by decide +kernel
theorem dL_law_963 : decode cL_law 963 = .ok (.aload_n 0, 1) := by decide +kernel
theorem dL_law_964 : decode cL_law 964 = .ok (.iload_n 3, 1) := by decide +kernel
theorem dL_law_965 : decode cL_law 965 = .ok (.iconst 3, 1) := by decide +kernel
theorem dL_law_966 : decode cL_law 966 = .ok (.iadd, 1) := by decide +kernel
theorem dL_law_967 : decode cL_law 967 = .ok (.iaload, 1) := by decide +kernel
theorem dL_law_968 : decode cL_law 968 = .ok (.invokevirtual 123, 3) := by decide +kernel
theorem dL_law_971 : decode cL_law 971 = .ok (.pop, 1) := by decide +kernel
theorem dL_law_972 : decode cL_law 972 = .ok (.aload_n 2, 1) := by decide +kernel
theorem dL_law_973 : decode cL_law 973 = .ok (.aload_n 0, 1) := by decide +kernel
theorem dL_law_974 : decode cL_law 974 = .ok (.iload_n 3, 1) := by decide +kernel
theorem dL_law_975 : decode cL_law 975 = .ok (.iconst 1, 1) := by decide +kernel
theorem dL_law_976 : decode cL_law 976 = .ok (.iadd, 1) := by decide +kernel
theorem dL_law_977 : decode cL_law 977 = .ok (.iaload, 1) := by decide +kernel
theorem dL_law_978 : decode cL_law 978 = .ok (.aload_n 0, 1) := by decide +kernel
theorem dL_law_979 : decode cL_law 979 = .ok (.iload_n 3, 1) := by decide +kernel
theorem dL_law_980 : decode cL_law 980 = .ok (.iconst 2, 1) := by decide +kernel
theorem dL_law_981 : decode cL_law 981 = .ok (.iadd, 1) := by decide +kernel
theorem dL_law_982 : decode cL_law 982 = .ok (.iaload, 1) := by decide +kernel
theorem dL_law_983 : decode cL_law 983 = .ok (.aload_n 0, 1) := by decide +kernel
theorem dL_law_984 : decode cL_law 984 = .ok (.iload_n 3, 1) := by decide +kernel
theorem dL_law_985 : decode cL_law 985 = .ok (.iconst 3, 1) := by decide +kernel
theorem dL_law_986 : decode cL_law 986 = .ok (.iadd, 1) := by decide +kernel
theorem dL_law_987 : decode cL_law 987 = .ok (.iaload, 1) := by decide +kernel
theorem dL_law_988 : decode cL_law 988 = .ok (.invokevirtual 126, 3) := by decide +kernel
theorem dL_law_991 : decode cL_law 991 = .ok (.pop, 1) := by decide +kernel
theorem dL_law_992 : decode cL_law 992 = .ok (.goto 194, 3) := by decide +kernel
theorem dL_law_995 : decode cL_law 995 = .ok (.aload_n 1, 1) := by decide +kernel
theorem dL_law_996 : decode cL_law 996 = .ok (.aload_n 0, 1) := by decide +kernel
theorem dL_law_997 : decode cL_law 997 = .ok (.iload_n 3, 1) := by decide +kernel
theorem dL_law_998 : decode cL_law 998 = .ok (.iconst 1, 1) := by decide +kernel
theorem dL_law_999 : decode cL_law 999 = .ok (.iadd, 1) := by decide +kernel
theorem dL_law_1000 : decode cL_law 1000 = .ok (.iaload, 1) := by decide +kernel
theorem dL_law_1001 : decode cL_law 1001 = .ok (.invokevirtual 127, 3) := by decide +kernel
theorem dL_law_1004 : decode cL_law 1004 = .ok (.pop, 1) := by decide +kernel
theorem dL_law_1005 : decode cL_law 1005 = .ok (.aload_n 2, 1) := by decide +kernel
theorem dL_law_1006 : decode cL_law 1006 = .ok (.aload_n 0, 1) := by decide +kernel
theorem dL_law_1007 : decode cL_law 1007 = .ok (.iload_n 3, 1) := by decide +kernel
theorem dL_law_1008 : decode cL_law 1008 = .ok (.iconst 1, 1) := by decide +kernel
theorem dL_law_1009 : decode cL_law 1009 = .ok (.iadd, 1) := by decide +kernel
theorem dL_law_1010 : decode cL_law 1010 = .ok (.iaload, 1) := by decide +kernel
theorem dL_law_1011 : decode cL_law 1011 = .ok (.invokevirtual 130, 3) := by decide +kernel
theorem dL_law_1014 : decode cL_law 1014 = .ok (.pop, 1) := by decide +kernel
theorem dL_law_1015 : decode cL_law 1015 = .ok (.goto 171, 3) := by decide +kernel
theorem dL_law_1018 : decode cL_law 1018 = .ok (.aload_n 1, 1) := by decide +kernel
theorem dL_law_1019 : decode cL_law 1019 = .ok (.aload_n 0, 1) := by decide +kernel
theorem dL_law_1020 : decode cL_law 1020 = .ok (.iload_n 3, 1) := by decide +kernel
theorem dL_law_1021 : decode cL_law 1021 = .ok (.iconst 1, 1) := by decide +kernel
theorem dL_law_1022 : decode cL_law 1022 = .ok (.iadd, 1) := by decide +kernel
theorem dL_law_1023 : decode cL_law 1023 = .ok (.iaload, 1) := by decide +kernel
theorem dL_law_1024 : decode cL_law 1024 = .ok (.invokevirtual 131, 3) := by decide +kernel
theorem dL_law_1027 : decode cL_law 1027 = .ok (.aload_n 2, 1) := by decide +kernel
theorem dL_law_1028 : decode cL_law 1028 = .ok (.aload_n 0, 1) := by decide +kernel
theorem dL_law_1029 : decode cL_law 1029 = .ok (.iload_n 3, 1) := by decide +kernel
theorem dL_law_1030 : decode cL_law 1030 = .ok (.iconst 1, 1) := by decide +kernel
theorem dL_law_1031 : decode cL_law 1031 = .ok (.iadd, 1) := by decide +kernel
theorem dL_law_1032 : decode cL_law 1032 = .ok (.iaload, 1) := by decide +kernel
theorem dL_law_1033 : decode cL_law 1033 = .ok (.invokevirtual 134, 3) := by decide +kernel
theorem dL_law_1036 : decode cL_law 1036 = .ok (.if_icmp .eq 150, 3) := by decide +kernel
theorem dL_law_1041 : decode cL_law 1041 = .ok (.aload_n 1, 1) := by decide +kernel
theorem dL_law_1042 : decode cL_law 1042 = .ok (.aload_n 0, 1) := by decide +kernel
theorem dL_law_1043 : decode cL_law 1043 = .ok (.iload_n 3, 1) := by decide +kernel
theorem dL_law_1044 : decode cL_law 1044 = .ok (.iconst 1, 1) := by decide +kernel
theorem dL_law_1045 : decode cL_law 1045 = .ok (.iadd, 1) := by decide +kernel
theorem dL_law_1046 : decode cL_law 1046 = .ok (.iaload, 1) := by decide +kernel
theorem dL_law_1047 : decode cL_law 1047 = .ok (.invokevirtual 135, 3) := by decide +kernel
theorem dL_law_1050 : decode cL_law 1050 = .ok (.pop, 1) := by decide +kernel
theorem dL_law_1051 : decode cL_law 1051 = .ok (.aload_n 2, 1) := by decide +kernel
theorem dL_law_1052 : decode cL_law 1052 = .ok (.aload_n 0, 1) := by decide +kernel
theorem dL_law_1053 : decode cL_law 1053 = .ok (.iload_n 3, 1) := by decide +kernel
theorem dL_law_1054 : decode cL_law 1054 = .ok (.iconst 1, 1) := by decide +kernel
theorem dL_law_1055 : decode cL_law 1055 = .ok (.iadd, 1) := by decide +kernel
theorem dL_law_1056 : decode cL_law 1056 = .ok (.iaload, 1) := by decide +kernel
theorem dL_law_1057 : decode cL_law 1057 = .ok (.invokevirtual 138, 3) := by decide +kernel
theorem dL_law_1060 : decode cL_law 1060 = .ok (.pop, 1) := by decide +kernel
theorem dL_law_1061 : decode cL_law 1061 = .ok (.goto 125, 3) := by decide +kernel
theorem dL_law_1064 : decode cL_law 1064 = .ok (.aload_n 1, 1) := by decide +kernel
theorem dL_law_1065 : decode cL_law 1065 = .ok (.aload_n 0, 1) := by decide +kernel
theorem dL_law_1066 : decode cL_law 1066 = .ok (.iload_n 3, 1) := by decide +kernel
theorem dL_law_1067 : decode cL_law 1067 = .ok (.iconst 1, 1) := by decide +kernel
theorem dL_law_1068 : decode cL_law 1068 = .ok (.iadd, 1) := by decide +kernel
theorem dL_law_1069 : decode cL_law 1069 = .ok (.iaload, 1) := by decide +kernel
theorem dL_law_1070 : decode cL_law 1070 = .ok (.aload_n 0, 1) := by decide +kernel
theorem dL_law_1071 : decode cL_law 1071 = .ok (.iload_n 3, 1) := by decide +kernel
theorem dL_law_1072 : decode cL_law 1072 = .ok (.iconst 2, 1) := by decide +kernel
theorem dL_law_1073 : decode cL_law 1073 = .ok (.iadd, 1) := by decide +kernel
theorem dL_law_1074 : decode cL_law 1074 = .ok (.iaload, 1) := by decide +kernel
theorem dL_law_1075 : decode cL_law 1075 = .ok (.aload_n 0, 1) := by decide +kernel
theorem dL_law_1076 : decode cL_law 1076 = .ok (.iload_n 3, 1) := by decide +kernel
theorem dL_law_1077 : decode cL_law 1077 = .ok (.iconst 3, 1) := by decide +kernel
theorem dL_law_1078 : decode cL_law 1078 = .ok (.iadd, 1) := by decide +kernel
theorem dL_law_1079 : decode cL_law 1079 = .ok (.iaload, 1) := by decide +kernel
theorem dL_law_1080 : decode cL_law 1080 = .ok (.aload_n 0, 1) := by decide +kernel
theorem dL_law_1081 : decode cL_law 1081 = .ok (.iload_n 3, 1) := by decide +kernel
theorem dL_law_1082 : decode cL_law 1082 = .ok (.iconst 4, 1) := by decide +kernel
theorem dL_law_1083 : decode cL_law 1083 = .ok (.iadd, 1) := by decide +kernel
theorem dL_law_1084 : decode cL_law 1084 = .ok (.iaload, 1) := by decide +kernel
theorem dL_law_1085 : decode cL_law 1085 = .ok (.invokevirtual 139, 3) := by decide +kernel
theorem dL_law_1088 : decode cL_law 1088 = .ok (.pop, 1) := by decide +kernel
theorem dL_law_1089 : decode cL_law 1089 = .ok (.aload_n 2, 1) := by decide +kernel
theorem dL_law_1090 : decode cL_law 1090 = .ok (.aload_n 0, 1) := by decide +kernel
theorem dL_law_1091 : decode cL_law 1091 = .ok (.iload_n 3, 1) := by decide +kernel
theorem dL_law_1092 : decode cL_law 1092 = .ok (.iconst 1, 1) := by decide +kernel
theorem dL_law_1093 : decode cL_law 1093 = .ok (.iadd, 1) := by decide +kernel
theorem dL_law_1094 : decode cL_law 1094 = .ok (.iaload, 1) := by decide +kernel
theorem dL_law_1095 : decode cL_law 1095 = .ok (.aload_n 0, 1) := by decide +kernel
theorem dL_law_1096 : decode cL_law 1096 = .ok (.iload_n 3, 1) := by decide +kernel
theorem dL_law_1097 : decode cL_law 1097 = .ok (.iconst 2, 1) := by decide +kernel
theorem dL_law_1098 : decode cL_law 1098 = .ok (.iadd, 1) := by decide +kernel
theorem dL_law_1099 : decode cL_law 1099 = .ok (.iaload, 1) := by decide +kernel
theorem dL_law_1100 : decode cL_law 1100 = .ok (.aload_n 0, 1) := by decide +kernel
theorem dL_law_1101 : decode cL_law 1101 = .ok (.iload_n 3, 1) := by decide +kernel
theorem dL_law_1102 : decode cL_law 1102 = .ok (.iconst 3, 1) := by decide +kernel
theorem dL_law_1103 : decode cL_law 1103 = .ok (.iadd, 1) := by decide +kernel
theorem dL_law_1104 : decode cL_law 1104 = .ok (.iaload, 1) := by decide +kernel
theorem dL_law_1105 : decode cL_law 1105 = .ok (.aload_n 0, 1) := by decide +kernel
theorem dL_law_1106 : decode cL_law 1106 = .ok (.iload_n 3, 1) := by decide +kernel
theorem dL_law_1107 : decode cL_law 1107 = .ok (.iconst 4, 1) := by decide +kernel
theorem dL_law_1108 : decode cL_law 1108 = .ok (.iadd, 1) := by decide +kernel
theorem dL_law_1109 : decode cL_law 1109 = .ok (.iaload, 1) := by decide +kernel
theorem dL_law_1110 : decode cL_law 1110 = .ok (.invokevirtual 142, 3) := by decide +kernel
theorem dL_law_1113 : decode cL_law 1113 = .ok (.pop, 1) := by decide +kernel
theorem dL_law_1114 : decode cL_law 1114 = .ok (.goto 72, 3) := by decide +kernel
theorem dL_law_1117 : decode cL_law 1117 = .ok (.aload_n 1, 1) := by decide +kernel
theorem dL_law_1118 : decode cL_law 1118 = .ok (.aload_n 0, 1) := by decide +kernel
theorem dL_law_1119 : decode cL_law 1119 = .ok (.iload_n 3, 1) := by decide +kernel
theorem dL_law_1120 : decode cL_law 1120 = .ok (.iconst 1, 1) := by decide +kernel
theorem dL_law_1121 : decode cL_law 1121 = .ok (.iadd, 1) := by decide +kernel
theorem dL_law_1122 : decode cL_law 1122 = .ok (.iaload, 1) := by decide +kernel
theorem dL_law_1123 : decode cL_law 1123 = .ok (.invokevirtual 143, 3) := by decide +kernel
theorem dL_law_1126 : decode cL_law 1126 = .ok (.pop, 1) := by decide +kernel
theorem dL_law_1127 : decode cL_law 1127 = .ok (.aload_n 2, 1) := by decide +kernel
theorem dL_law_1128 : decode cL_law 1128 = .ok (.aload_n 0, 1) := by decide +kernel
theorem dL_law_1129 : decode cL_law 1129 = .ok (.iload_n 3, 1) := by decide +kernel
theorem dL_law_1130 : decode cL_law 1130 = .ok (.iconst 1, 1) := by decide +kernel
theorem dL_law_1131 : decode cL_law 1131 = .ok (.iadd, 1) := by decide +kernel
theorem dL_law_1132 : decode cL_law 1132 = .ok (.iaload, 1) := by decide +kernel
theorem dL_law_1133 : decode cL_law 1133 = .ok (.invokevirtual 146, 3) := by decide +kernel
theorem dL_law_1136 : decode cL_law 1136 = .ok (.pop, 1) := by decide +kernel
theorem dL_law_1137 : decode cL_law 1137 = .ok (.goto 49, 3) := by decide +kernel
theorem dL_law_1140 : decode cL_law 1140 = .ok (.aload_n 1, 1) := by decide +kernel
theorem dL_law_1141 : decode cL_law 1141 = .ok (.aload_n 0, 1) := by decide +kernel
theorem dL_law_1142 : decode cL_law 1142 = .ok (.iload_n 3, 1) := by decide +kernel
theorem dL_law_1143 : decode cL_law 1143 = .ok (.iconst 1, 1) := by decide +kernel
theorem dL_law_1144 : decode cL_law 1144 = .ok (.iadd, 1) := by decide +kernel
theorem dL_law_1145 : decode cL_law 1145 = .ok (.iaload, 1) := by decide +kernel
theorem dL_law_1146 : decode cL_law 1146 = .ok (.invokevirtual 147, 3) := by decide +kernel
theorem dL_law_1149 : decode cL_law 1149 = .ok (.pop, 1) := by decide +kernel
theorem dL_law_1150 : decode cL_law 1150 = .ok (.aload_n 2, 1) := by decide +kernel
theorem dL_law_1151 : decode cL_law 1151 = .ok (.aload_n 0, 1) := by decide +kernel
theorem dL_law_1152 : decode cL_law 1152 = .ok (.iload_n 3, 1) := by decide +kernel
theorem dL_law_1153 : decode cL_law 1153 = .ok (.iconst 1, 1) := by decide +kernel
theorem dL_law_1154 : decode cL_law 1154 = .ok (.iadd, 1) := by decide +kernel
theorem dL_law_1155 : decode cL_law 1155 = .ok (.iaload, 1) := by decide +kernel
theorem dL_law_1156 : decode cL_law 1156 = .ok (.invokevirtual 150, 3) := by decide +kernel
theorem dL_law_1159 : decode cL_law 1159 = .ok (.pop, 1) := by decide +kernel
theorem dL_law_1160 : decode cL_law 1160 = .ok (.goto 26, 3) := by decide +kernel
theorem dL_law_1163 : decode cL_law 1163 = .ok (.aload_n 1, 1) := by decide +kernel
theorem dL_law_1164 : decode cL_law 1164 = .ok (.aload_n 0, 1) := by decide +kernel
theorem dL_law_1165 : decode cL_law 1165 = .ok (.iload_n 3, 1) := by decide +kernel
theorem dL_law_1166 : decode cL_law 1166 = .ok (.iconst 1, 1) := by decide +kernel
theorem dL_law_1167 : decode cL_law 1167 = .ok (.iadd, 1) := by decide +kernel
theorem dL_law_1168 : decode cL_law 1168 = .ok (.iaload, 1) := by decide +kernel
theorem dL_law_1169 : decode cL_law 1169 = .ok (.invokevirtual 151, 3) := by decide +kernel
theorem dL_law_1172 : decode cL_law 1172 = .ok (.pop, 1) := by decide +kernel
theorem dL_law_1173 : decode cL_law 1173 = .ok (.aload_n 2, 1) := by decide +kernel
theorem dL_law_1174 : decode cL_law 1174 = .ok (.aload_n 0, 1) := by decide +kernel
theorem dL_law_1175 : decode cL_law 1175 = .ok (.iload_n 3, 1) := by decide +kernel
theorem dL_law_1176 : decode cL_law 1176 = .ok (.iconst 1, 1) := by decide +kernel
theorem dL_law_1177 : decode cL_law 1177 = .ok (.iadd, 1) := by decide +kernel
theorem dL_law_1178 : decode cL_law 1178 = .ok (.iaload, 1) := by decide +kernel
theorem dL_law_1179 : decode cL_law 1179 = .ok (.invokevirtual 154, 3) := by decide +kernel
theorem dL_law_1182 : decode cL_law 1182 = .ok (.pop, 1) := by decide +kernel
theorem dL_law_1183 : decode cL_law 1183 = .ok (.goto 3, 3) := by decide +kernel
theorem dL_law_1186 : decode cL_law 1186 = .ok (.iinc 3 6, 3) := by decide +kernel
theorem dL_law_1189 : decode cL_law 1189 = .ok (.goto (-1171), 3) := by decide +kernel
theorem dL_law_1192 : decode cL_law 1192 = .ok (.iconst 1, 1) := by decide +kernel
theorem dL_law_1193 : decode cL_law 1193 = .ok (.ireturn, 1) := by decide +kernel
def LawCx (p : Program) (s : State) (m : MethodId) (meth : Method) (c : Code) (D : va_G) (tc : Nat → ClassId) (sk : (Nat → Nat) × (Nat → Nat)) (A : Nat → Prop) (b : Nat) (xs : Nat → Int32) (L : Nat) : Prop := p.tables.exec = Jvm.exec ∧ c.code = code ∧ meth.sig.returnType = ret ∧ meth.locks = false ∧ c.maxLocals = 4 ∧ s.vm.findClass RL = some m.cls ∧ (∀ w ∈ gT, w.before #[Value.ref b] s = true) ∧ va_K D classes (tysOf tc) s ∧ Sx sk A s s.heap ∧ (∀ q, s.heap.size ≤ q → A q) ∧ (∀ q, A q → s.heap.size ≤ q) ∧ va_X b L xs s s.heap ∧ b < s.heap.size ∧ ¬ A b
def LInv (tc : Nat → ClassId) (h0 m0 : Nat) (wP wM : va_W) : Prop := ∃ (dr : Dst) (im : Nat → Option Dst) (ts ms : Gst) (RL : List RuA), PBI tc h0 dr im ts RL wP ∧ MI tc m0 dr im ms RL wM ∧ Al ts ms ∧ TdG dr ∧ ∀ k d, im k = some d → TdG d
def LawHead (p : Program) (l : Launch) (e : Env) (s : State) (m : MethodId) (below : List Frame) (meth : Method) (c : Code) (D : va_G) (tc : Nat → ClassId) (A : Nat → Prop) (b h0 m0 j : Nat) : Prop := ∀ (wP wM : va_W) (H : Heap) (locs : List Loc) (ls : Array Slot), LInv tc h0 m0 wP wM → va_P D classes (wP ++ wM) H → va_D A (wP ++ wM) → va_S A s.heap H locs → lv_has ls 4 [(3, .int (nI (6 * j))), (2, .ref m0), (1, .ref h0), (0, .ref b)] → W p l e room_1 s m #[Value.ref b] below meth c H locs (98 + 46 * j) (8097 + 940 * j) (lw_Z below #[Value.ref b] s) (F0 m 18 ls [])
set_option maxHeartbeats 4000000 in
set_option maxRecDepth 100000 in
theorem law_tail {p : Program} {l : Launch} {e : Env} {s : State} {m : MethodId} {below : List Frame} {meth : Method} {c : Code} {D : va_G} {tc : Nat → ClassId} {sk : (Nat → Nat) × (Nat → Nat)} {A : Nat → Prop} {b : Nat} {xs : Nat → Int32} {L : Nat} {h0 m0 j : Nat} (C : LawCx p s m meth c D tc sk A b xs L) (hL : L ≤ 3072) (hj : 6 * j + 6 ≤ L) (IH : LawHead p l e s m below meth c D tc A b h0 m0 (j + 1)) {wP wM : va_W} {H : Heap} {locs : List Loc} {ls : Array Slot} {cells slots : Nat} (hc : cells ≤ 98 + 46 * (j + 1)) (hs : slots ≤ 8097 + 940 * (j + 1)) (hI : LInv tc h0 m0 wP wM) (hP : va_P D classes (wP ++ wM) H) (hD : va_D A (wP ++ wM)) (hS : va_S A s.heap H locs) (hl : lv_has ls 4 [(3, .int (nI (6 * j))), (2, .ref m0), (1, .ref h0), (0, .ref b)]) : W p l e room_1 s m #[Value.ref b] below meth c H locs cells slots (lw_Z below #[Value.ref b] s) (F0 m 1186 ls []) := by
  obtain ⟨hx, hb, hr, hlk, hml, hown, hts, hK, hX, hA, hAl, hXs, hbl, hbA⟩ := id C
  refine lv_iinc (v := nI (6 * j + 6)) (lv' := [(3, .int (nI (6 * j + 6))), (2, .ref m0), (1, .ref h0), (0, .ref b)]) hx hb dL_law_1186 hl (k := 0) rfl (nI_add (6 * j) 6) (by decide) rfl (fun ls hl => ?_)
  refine lv_goto (tgt := 18) hx hb dL_law_1189 (by decide) ?_
  exact W.widen hc hs (IH wP wM _ _ _ hI hP hD hS hl)
set_option maxHeartbeats 4000000 in
set_option maxRecDepth 100000 in
theorem law_0 {p : Program} {l : Launch} {e : Env} {s : State} {m : MethodId} {below : List Frame} {meth : Method} {c : Code} {D : va_G} {tc : Nat → ClassId} {sk : (Nat → Nat) × (Nat → Nat)} {A : Nat → Prop} {b : Nat} {xs : Nat → Int32} {L : Nat} {h0 m0 j : Nat} (C : LawCx p s m meth c D tc sk A b xs L) (hL : L ≤ 3072) (hj : 6 * j + 6 ≤ L) (IH : LawHead p l e s m below meth c D tc A b h0 m0 (j + 1)) {wP wM : va_W} {H : Heap} {locs : List Loc} {ls : Array Slot} (hI : LInv tc h0 m0 wP wM) (hP : va_P D classes (wP ++ wM) H) (hD : va_D A (wP ++ wM)) (hS : va_S A s.heap H locs) (hl : lv_has ls 4 [(3, .int (nI (6 * j))), (2, .ref m0), (1, .ref h0), (0, .ref b)]) : W p l e room_1 s m #[Value.ref b] below meth c H locs (98 + 46 * j) (8097 + 940 * j) (lw_Z below #[Value.ref b] s) (F0 m 184 ls []) := by
  obtain ⟨hx, hb, hr, hlk, hml, hown, hts, hK, hX, hA, hAl, hXs, hbl, hbA⟩ := id C
  obtain ⟨dr, im, ts, ms, RL, hI1, hI2, hE, hG, hM⟩ := hI
  have hBy := PBI.tape hI1
  refine lv_aload_n hx hb dL_law_184 rfl (lv_at hl 2 rfl) ?_
  refine lv_aload_n hx hb dL_law_185 rfl (lv_at hl 3 rfl) ?_
  refine lv_iload_n hx hb dL_law_186 rfl (lv_at hl 0 rfl) ?_
  refine lv_iconst (v := 1) hx hb dL_law_187 (by decide) ?_
  refine lv_iadd hx hb dL_law_188 ?_
  refine lv_lit (v := nI (6 * j + 1)) (nI_addE (6 * j) 1 (6 * j + 1) rfl) ?_
  refine va_sld hx hb hXs hbl hbA hS (vp_in_nI (by omega) (by omega)) dL_law_189 ?_
  refine lv_lit (v := xs (6 * j + 1)) (by rw [nI_clamp (by omega)]) ?_
  refine lv_aload_n hx hb dL_law_190 rfl (lv_at hl 3 rfl) ?_
  refine lv_iload_n hx hb dL_law_191 rfl (lv_at hl 0 rfl) ?_
  refine lv_iconst (v := 2) hx hb dL_law_192 (by decide) ?_
  refine lv_iadd hx hb dL_law_193 ?_
  refine lv_lit (v := nI (6 * j + 2)) (nI_addE (6 * j) 2 (6 * j + 2) rfl) ?_
  refine va_sld hx hb hXs hbl hbA hS (vp_in_nI (by omega) (by omega)) dL_law_194 ?_
  refine lv_lit (v := xs (6 * j + 2)) (by rw [nI_clamp (by omega)]) ?_
  refine lv_aload_n hx hb dL_law_195 rfl (lv_at hl 3 rfl) ?_
  refine lv_iload_n hx hb dL_law_196 rfl (lv_at hl 0 rfl) ?_
  refine lv_iconst (v := 3) hx hb dL_law_197 (by decide) ?_
  refine lv_iadd hx hb dL_law_198 ?_
  refine lv_lit (v := nI (6 * j + 3)) (nI_addE (6 * j) 3 (6 * j + 3) rfl) ?_
  refine va_sld hx hb hXs hbl hbA hS (vp_in_nI (by omega) (by omega)) dL_law_199 ?_
  refine lv_lit (v := xs (6 * j + 3)) (by rw [nI_clamp (by omega)]) ?_
  refine lv_aload_n hx hb dL_law_200 rfl (lv_at hl 3 rfl) ?_
  refine lv_iload_n hx hb dL_law_201 rfl (lv_at hl 0 rfl) ?_
  refine lv_iconst (v := 4) hx hb dL_law_202 (by decide) ?_
  refine lv_iadd hx hb dL_law_203 ?_
  refine lv_lit (v := nI (6 * j + 4)) (nI_addE (6 * j) 4 (6 * j + 4) rfl) ?_
  refine va_sld hx hb hXs hbl hbA hS (vp_in_nI (by omega) (by omega)) dL_law_204 ?_
  refine lv_lit (v := xs (6 * j + 4)) (by rw [nI_clamp (by omega)]) ?_
  refine lv_aload_n hx hb dL_law_205 rfl (lv_at hl 3 rfl) ?_
  refine lv_iload_n hx hb dL_law_206 rfl (lv_at hl 0 rfl) ?_
  refine lv_iconst (v := 5) hx hb dL_law_207 (by decide) ?_
  refine lv_iadd hx hb dL_law_208 ?_
  refine lv_lit (v := nI (6 * j + 5)) (nI_addE (6 * j) 5 (6 * j + 5) rfl) ?_
  refine va_sld hx hb hXs hbl hbA hS (vp_in_nI (by omega) (by omega)) dL_law_209 ?_
  refine lv_lit (v := xs (6 * j + 5)) (by rw [nI_clamp (by omega)]) ?_
  refine cVr (wA := wP) (wB := wM) (ci := 11) (a := h0) (As := [.int (xs (6 * j + 1)), .int (xs (6 * j + 2)), .int (xs (6 * j + 3)), .int (xs (6 * j + 4)), .int (xs (6 * j + 5))]) (rest := []) ⟨hx, hb, hml, hown, hts⟩ hK hX hA (rd_x_feed l D tc sk h0 dr im ts RL (xs (6 * j + 1)) (xs (6 * j + 2)) (xs (6 * j + 3)) (xs (6 * j + 4)) (xs (6 * j + 5))) k_446 k_443 k_444 k_445 k_95 pl_X11_feed (Nat.le_of_ble_eq_true rfl) (Nat.le_of_ble_eq_true rfl) hI1 (PBI.recv hI1) rfl rfl hP hD hS rfl hl.1 rfl (Nat.le_of_ble_eq_true rfl) dL_law_210 (by show 98 + 46 * j + 23 ≤ 600000; omega) (by show 8097 + 940 * j + 470 ≤ 7302250; omega) (fun v wP1 H locs hv hP hD hS => ?_)
  obtain ⟨r1, rfl, ts1, hT1, hI1⟩ := hv
  refine W.eq (g2 := F0 m 213 ls [.int r1]) rfl ?_
  refine lv_pop hx hb dL_law_213 rfl ?_
  refine lv_aload_n hx hb dL_law_214 rfl (lv_at hl 1 rfl) ?_
  refine lv_aload_n hx hb dL_law_215 rfl (lv_at hl 3 rfl) ?_
  refine lv_iload_n hx hb dL_law_216 rfl (lv_at hl 0 rfl) ?_
  refine lv_iconst (v := 1) hx hb dL_law_217 (by decide) ?_
  refine lv_iadd hx hb dL_law_218 ?_
  refine lv_lit (v := nI (6 * j + 1)) (nI_addE (6 * j) 1 (6 * j + 1) rfl) ?_
  refine va_sld hx hb hXs hbl hbA hS (vp_in_nI (by omega) (by omega)) dL_law_219 ?_
  refine lv_lit (v := xs (6 * j + 1)) (by rw [nI_clamp (by omega)]) ?_
  refine lv_aload_n hx hb dL_law_220 rfl (lv_at hl 3 rfl) ?_
  refine lv_iload_n hx hb dL_law_221 rfl (lv_at hl 0 rfl) ?_
  refine lv_iconst (v := 2) hx hb dL_law_222 (by decide) ?_
  refine lv_iadd hx hb dL_law_223 ?_
  refine lv_lit (v := nI (6 * j + 2)) (nI_addE (6 * j) 2 (6 * j + 2) rfl) ?_
  refine va_sld hx hb hXs hbl hbA hS (vp_in_nI (by omega) (by omega)) dL_law_224 ?_
  refine lv_lit (v := xs (6 * j + 2)) (by rw [nI_clamp (by omega)]) ?_
  refine lv_aload_n hx hb dL_law_225 rfl (lv_at hl 3 rfl) ?_
  refine lv_iload_n hx hb dL_law_226 rfl (lv_at hl 0 rfl) ?_
  refine lv_iconst (v := 3) hx hb dL_law_227 (by decide) ?_
  refine lv_iadd hx hb dL_law_228 ?_
  refine lv_lit (v := nI (6 * j + 3)) (nI_addE (6 * j) 3 (6 * j + 3) rfl) ?_
  refine va_sld hx hb hXs hbl hbA hS (vp_in_nI (by omega) (by omega)) dL_law_229 ?_
  refine lv_lit (v := xs (6 * j + 3)) (by rw [nI_clamp (by omega)]) ?_
  refine lv_aload_n hx hb dL_law_230 rfl (lv_at hl 3 rfl) ?_
  refine lv_iload_n hx hb dL_law_231 rfl (lv_at hl 0 rfl) ?_
  refine lv_iconst (v := 4) hx hb dL_law_232 (by decide) ?_
  refine lv_iadd hx hb dL_law_233 ?_
  refine lv_lit (v := nI (6 * j + 4)) (nI_addE (6 * j) 4 (6 * j + 4) rfl) ?_
  refine va_sld hx hb hXs hbl hbA hS (vp_in_nI (by omega) (by omega)) dL_law_234 ?_
  refine lv_lit (v := xs (6 * j + 4)) (by rw [nI_clamp (by omega)]) ?_
  refine lv_aload_n hx hb dL_law_235 rfl (lv_at hl 3 rfl) ?_
  refine lv_iload_n hx hb dL_law_236 rfl (lv_at hl 0 rfl) ?_
  refine lv_iconst (v := 5) hx hb dL_law_237 (by decide) ?_
  refine lv_iadd hx hb dL_law_238 ?_
  refine lv_lit (v := nI (6 * j + 5)) (nI_addE (6 * j) 5 (6 * j + 5) rfl) ?_
  refine va_sld hx hb hXs hbl hbA hS (vp_in_nI (by omega) (by omega)) dL_law_239 ?_
  refine lv_lit (v := xs (6 * j + 5)) (by rw [nI_clamp (by omega)]) ?_
  have hP := hP.perm (List.perm_append_comm (l₁ := wP1) (l₂ := wM))
  have hD := hD.perm (List.perm_append_comm (l₁ := wP1) (l₂ := wM))
  refine cVr (wA := wM) (wB := wP1) (ci := 12) (a := m0) (As := [.int (xs (6 * j + 1)), .int (xs (6 * j + 2)), .int (xs (6 * j + 3)), .int (xs (6 * j + 4)), .int (xs (6 * j + 5))]) (rest := []) ⟨hx, hb, hml, hown, hts⟩ hK hX hA (rd_m_feed l D tc sk m0 dr im ms RL (xs (6 * j + 1)) (xs (6 * j + 2)) (xs (6 * j + 3)) (xs (6 * j + 4)) (xs (6 * j + 5))) k_1187 k_1184 k_1185 k_1186 k_106 pl_X12_feed (Nat.le_of_ble_eq_true rfl) (Nat.le_of_ble_eq_true rfl) hI2 (MI.recv hI2) rfl rfl hP hD hS rfl hl.1 rfl (Nat.le_of_ble_eq_true rfl) dL_law_240 (by show 98 + 46 * j + 23 + 23 ≤ 600000; omega) (by show 8097 + 940 * j + 470 + 470 ≤ 7302250; omega) (fun v wM1 H locs hv hP hD hS => ?_)
  obtain ⟨r2, rfl, ms1, hT2, hI2⟩ := hv
  obtain ⟨hreq, hE⟩ := Al.feed hE hBy.2 hT1 hT2
  refine W.eq (g2 := F0 m 243 ls [.int r2]) rfl ?_
  refine lv_pop hx hb dL_law_243 rfl ?_
  refine lv_goto (tgt := 1186) hx hb dL_law_244 (by decide) ?_
  have hP := hP.perm (List.perm_append_comm (l₁ := wM1) (l₂ := wP1))
  have hD := hD.perm (List.perm_append_comm (l₁ := wM1) (l₂ := wP1))
  exact law_tail C hL hj IH (by omega) (by omega) ⟨dr, im, ts1, ms1, RL, hI1, hI2, hE, hG, hM⟩ hP hD hS hl
set_option maxHeartbeats 4000000 in
set_option maxRecDepth 100000 in
theorem law_1 {p : Program} {l : Launch} {e : Env} {s : State} {m : MethodId} {below : List Frame} {meth : Method} {c : Code} {D : va_G} {tc : Nat → ClassId} {sk : (Nat → Nat) × (Nat → Nat)} {A : Nat → Prop} {b : Nat} {xs : Nat → Int32} {L : Nat} {h0 m0 j : Nat} (C : LawCx p s m meth c D tc sk A b xs L) (hL : L ≤ 3072) (hj : 6 * j + 6 ≤ L) (IH : LawHead p l e s m below meth c D tc A b h0 m0 (j + 1)) {wP wM : va_W} {H : Heap} {locs : List Loc} {ls : Array Slot} (hI : LInv tc h0 m0 wP wM) (hP : va_P D classes (wP ++ wM) H) (hD : va_D A (wP ++ wM)) (hS : va_S A s.heap H locs) (hl : lv_has ls 4 [(3, .int (nI (6 * j))), (2, .ref m0), (1, .ref h0), (0, .ref b)]) : W p l e room_1 s m #[Value.ref b] below meth c H locs (98 + 46 * j) (8097 + 940 * j) (lw_Z below #[Value.ref b] s) (F0 m 247 ls []) := by
  obtain ⟨hx, hb, hr, hlk, hml, hown, hts, hK, hX, hA, hAl, hXs, hbl, hbA⟩ := id C
  obtain ⟨dr, im, ts, ms, RL, hI1, hI2, hE, hG, hM⟩ := hI
  have hBy := PBI.tape hI1
  refine lv_aload_n hx hb dL_law_247 rfl (lv_at hl 2 rfl) ?_
  refine lv_aload_n hx hb dL_law_248 rfl (lv_at hl 3 rfl) ?_
  refine lv_iload_n hx hb dL_law_249 rfl (lv_at hl 0 rfl) ?_
  refine lv_iconst (v := 1) hx hb dL_law_250 (by decide) ?_
  refine lv_iadd hx hb dL_law_251 ?_
  refine lv_lit (v := nI (6 * j + 1)) (nI_addE (6 * j) 1 (6 * j + 1) rfl) ?_
  refine va_sld hx hb hXs hbl hbA hS (vp_in_nI (by omega) (by omega)) dL_law_252 ?_
  refine lv_lit (v := xs (6 * j + 1)) (by rw [nI_clamp (by omega)]) ?_
  refine cVr (wA := wP) (wB := wM) (ci := 11) (a := h0) (As := [.int (xs (6 * j + 1))]) (rest := []) ⟨hx, hb, hml, hown, hts⟩ hK hX hA (rd_x_end l D tc sk h0 dr im ts RL (xs (6 * j + 1))) k_458 k_455 k_456 k_457 k_95 pl_X11_end (Nat.le_of_ble_eq_true rfl) (Nat.le_of_ble_eq_true rfl) hI1 (PBI.recv hI1) rfl rfl hP hD hS rfl hl.1 rfl (Nat.le_of_ble_eq_true rfl) dL_law_253 (by show 98 + 46 * j + 23 ≤ 600000; omega) (by show 8097 + 940 * j + 470 ≤ 7302250; omega) (fun v wP1 H locs hv hP hD hS => ?_)
  obtain ⟨r1, rfl, ts1, hT1, hI1⟩ := hv
  refine W.eq (g2 := F0 m 256 ls [.int r1]) rfl ?_
  refine lv_pop hx hb dL_law_256 rfl ?_
  refine lv_aload_n hx hb dL_law_257 rfl (lv_at hl 1 rfl) ?_
  refine lv_aload_n hx hb dL_law_258 rfl (lv_at hl 3 rfl) ?_
  refine lv_iload_n hx hb dL_law_259 rfl (lv_at hl 0 rfl) ?_
  refine lv_iconst (v := 1) hx hb dL_law_260 (by decide) ?_
  refine lv_iadd hx hb dL_law_261 ?_
  refine lv_lit (v := nI (6 * j + 1)) (nI_addE (6 * j) 1 (6 * j + 1) rfl) ?_
  refine va_sld hx hb hXs hbl hbA hS (vp_in_nI (by omega) (by omega)) dL_law_262 ?_
  refine lv_lit (v := xs (6 * j + 1)) (by rw [nI_clamp (by omega)]) ?_
  have hP := hP.perm (List.perm_append_comm (l₁ := wP1) (l₂ := wM))
  have hD := hD.perm (List.perm_append_comm (l₁ := wP1) (l₂ := wM))
  refine cVr (wA := wM) (wB := wP1) (ci := 12) (a := m0) (As := [.int (xs (6 * j + 1))]) (rest := []) ⟨hx, hb, hml, hown, hts⟩ hK hX hA (rd_m_end l D tc sk m0 dr im ms RL (xs (6 * j + 1))) k_1195 k_1192 k_1193 k_1194 k_106 pl_X12_end (Nat.le_of_ble_eq_true rfl) (Nat.le_of_ble_eq_true rfl) hI2 (MI.recv hI2) rfl rfl hP hD hS rfl hl.1 rfl (Nat.le_of_ble_eq_true rfl) dL_law_263 (by show 98 + 46 * j + 23 + 23 ≤ 600000; omega) (by show 8097 + 940 * j + 470 + 470 ≤ 7302250; omega) (fun v wM1 H locs hv hP hD hS => ?_)
  obtain ⟨r2, rfl, ms1, hT2, hI2⟩ := hv
  obtain ⟨hreq, hE⟩ := Al.end hE hT1 hT2
  refine W.eq (g2 := F0 m 266 ls [.int r2]) rfl ?_
  refine lv_pop hx hb dL_law_266 rfl ?_
  refine lv_goto (tgt := 1186) hx hb dL_law_267 (by decide) ?_
  have hP := hP.perm (List.perm_append_comm (l₁ := wM1) (l₂ := wP1))
  have hD := hD.perm (List.perm_append_comm (l₁ := wM1) (l₂ := wP1))
  exact law_tail C hL hj IH (by omega) (by omega) ⟨dr, im, ts1, ms1, RL, hI1, hI2, hE, hG, hM⟩ hP hD hS hl
set_option maxHeartbeats 4000000 in
set_option maxRecDepth 100000 in
theorem law_2 {p : Program} {l : Launch} {e : Env} {s : State} {m : MethodId} {below : List Frame} {meth : Method} {c : Code} {D : va_G} {tc : Nat → ClassId} {sk : (Nat → Nat) × (Nat → Nat)} {A : Nat → Prop} {b : Nat} {xs : Nat → Int32} {L : Nat} {h0 m0 j : Nat} (C : LawCx p s m meth c D tc sk A b xs L) (hL : L ≤ 3072) (hj : 6 * j + 6 ≤ L) (IH : LawHead p l e s m below meth c D tc A b h0 m0 (j + 1)) {wP wM : va_W} {H : Heap} {locs : List Loc} {ls : Array Slot} (hI : LInv tc h0 m0 wP wM) (hP : va_P D classes (wP ++ wM) H) (hD : va_D A (wP ++ wM)) (hS : va_S A s.heap H locs) (hl : lv_has ls 4 [(3, .int (nI (6 * j))), (2, .ref m0), (1, .ref h0), (0, .ref b)]) : W p l e room_1 s m #[Value.ref b] below meth c H locs (98 + 46 * j) (8097 + 940 * j) (lw_Z below #[Value.ref b] s) (F0 m 270 ls []) := by
  obtain ⟨hx, hb, hr, hlk, hml, hown, hts, hK, hX, hA, hAl, hXs, hbl, hbA⟩ := id C
  obtain ⟨dr, im, ts, ms, RL, hI1, hI2, hE, hG, hM⟩ := hI
  have hBy := PBI.tape hI1
  refine lv_aload_n hx hb dL_law_270 rfl (lv_at hl 2 rfl) ?_
  refine cVr (wA := wP) (wB := wM) (ci := 11) (a := h0) (As := []) (rest := []) ⟨hx, hb, hml, hown, hts⟩ hK hX hA (rd_x_book l D tc sk h0 dr im ts RL) k_462 k_459 k_460 k_461 k_95 pl_X11_book (Nat.le_of_ble_eq_true rfl) (Nat.le_of_ble_eq_true rfl) hI1 (PBI.recv hI1) rfl rfl hP hD hS rfl hl.1 rfl (Nat.le_of_ble_eq_true rfl) dL_law_271 (by show 98 + 46 * j + 23 ≤ 600000; omega) (by show 8097 + 940 * j + 470 ≤ 7302250; omega) (fun v wP1 H locs hv hP hD hS => ?_)
  obtain ⟨r1, rfl, ts1, dr1, hT1, hI1⟩ := hv
  refine W.eq (g2 := F0 m 274 ls [.int r1]) rfl ?_
  refine lv_pop hx hb dL_law_274 rfl ?_
  refine lv_aload_n hx hb dL_law_275 rfl (lv_at hl 1 rfl) ?_
  have hP := hP.perm (List.perm_append_comm (l₁ := wP1) (l₂ := wM))
  have hD := hD.perm (List.perm_append_comm (l₁ := wP1) (l₂ := wM))
  refine cVr (wA := wM) (wB := wP1) (ci := 12) (a := m0) (As := []) (rest := []) ⟨hx, hb, hml, hown, hts⟩ hK hX hA (rd_m_book l D tc sk m0 dr im ms RL) k_1355 k_1352 k_1353 k_1354 k_106 pl_X12_book (Nat.le_of_ble_eq_true rfl) (Nat.le_of_ble_eq_true rfl) hI2 (MI.recv hI2) rfl rfl hP hD hS rfl hl.1 rfl (Nat.le_of_ble_eq_true rfl) dL_law_276 (by show 98 + 46 * j + 23 + 23 ≤ 600000; omega) (by show 8097 + 940 * j + 470 + 470 ≤ 7302250; omega) (fun v wM1 H locs hv hP hD hS => ?_)
  obtain ⟨r2, rfl, ms1, dr2, hT2, hI2⟩ := hv
  obtain ⟨⟨hreq, hdeq⟩, hE⟩ := Al.bookX hE hBy.1 hT1 hT2
  rw [← hdeq] at hI2
  refine W.eq (g2 := F0 m 279 ls [.int r2]) rfl ?_
  refine lv_pop hx hb dL_law_279 rfl ?_
  refine lv_goto (tgt := 1186) hx hb dL_law_280 (by decide) ?_
  have hP := hP.perm (List.perm_append_comm (l₁ := wM1) (l₂ := wP1))
  have hD := hD.perm (List.perm_append_comm (l₁ := wM1) (l₂ := wP1))
  exact law_tail C hL hj IH (by omega) (by omega) ⟨dr1, im, ts1, ms1, RL, hI1, hI2, hE, BkS.good hT1.2 hG, hM⟩ hP hD hS hl
set_option maxHeartbeats 4000000 in
set_option maxRecDepth 100000 in
theorem law_3 {p : Program} {l : Launch} {e : Env} {s : State} {m : MethodId} {below : List Frame} {meth : Method} {c : Code} {D : va_G} {tc : Nat → ClassId} {sk : (Nat → Nat) × (Nat → Nat)} {A : Nat → Prop} {b : Nat} {xs : Nat → Int32} {L : Nat} {h0 m0 j : Nat} (C : LawCx p s m meth c D tc sk A b xs L) (hL : L ≤ 3072) (hj : 6 * j + 6 ≤ L) (IH : LawHead p l e s m below meth c D tc A b h0 m0 (j + 1)) {wP wM : va_W} {H : Heap} {locs : List Loc} {ls : Array Slot} (hI : LInv tc h0 m0 wP wM) (hP : va_P D classes (wP ++ wM) H) (hD : va_D A (wP ++ wM)) (hS : va_S A s.heap H locs) (hl : lv_has ls 4 [(3, .int (nI (6 * j))), (2, .ref m0), (1, .ref h0), (0, .ref b)]) : W p l e room_1 s m #[Value.ref b] below meth c H locs (98 + 46 * j) (8097 + 940 * j) (lw_Z below #[Value.ref b] s) (F0 m 283 ls []) := by
  obtain ⟨hx, hb, hr, hlk, hml, hown, hts, hK, hX, hA, hAl, hXs, hbl, hbA⟩ := id C
  obtain ⟨dr, im, ts, ms, RL, hI1, hI2, hE, hG, hM⟩ := hI
  have hBy := PBI.tape hI1
  refine lv_aload_n hx hb dL_law_283 rfl (lv_at hl 2 rfl) ?_
  refine cVr (wA := wP) (wB := wM) (ci := 11) (a := h0) (As := []) (rest := []) ⟨hx, hb, hml, hown, hts⟩ hK hX hA (rd_x_rule l D tc sk h0 dr im ts RL) k_607 k_604 k_605 k_606 k_95 pl_X11_rule (Nat.le_of_ble_eq_true rfl) (Nat.le_of_ble_eq_true rfl) hI1 (PBI.recv hI1) rfl rfl hP hD hS rfl hl.1 rfl (Nat.le_of_ble_eq_true rfl) dL_law_284 (by show 98 + 46 * j + 23 ≤ 600000; omega) (by show 8097 + 940 * j + 470 ≤ 7302250; omega) (fun v wP1 H locs hv hP hD hS => ?_)
  obtain ⟨r1, rfl, ts1, RL1, hT1, hI1⟩ := hv
  refine W.eq (g2 := F0 m 287 ls [.int r1]) rfl ?_
  refine lv_pop hx hb dL_law_287 rfl ?_
  refine lv_aload_n hx hb dL_law_288 rfl (lv_at hl 1 rfl) ?_
  have hP := hP.perm (List.perm_append_comm (l₁ := wP1) (l₂ := wM))
  have hD := hD.perm (List.perm_append_comm (l₁ := wP1) (l₂ := wM))
  refine cVr (wA := wM) (wB := wP1) (ci := 12) (a := m0) (As := []) (rest := []) ⟨hx, hb, hml, hown, hts⟩ hK hX hA (rd_m_rule l D tc sk m0 dr im ms RL) k_1199 k_1196 k_1197 k_1198 k_106 pl_X12_rule (Nat.le_of_ble_eq_true rfl) (Nat.le_of_ble_eq_true rfl) hI2 (MI.recv hI2) rfl rfl hP hD hS rfl hl.1 rfl (Nat.le_of_ble_eq_true rfl) dL_law_289 (by show 98 + 46 * j + 23 + 23 ≤ 600000; omega) (by show 8097 + 940 * j + 470 + 470 ≤ 7302250; omega) (fun v wM1 H locs hv hP hD hS => ?_)
  obtain ⟨r2, rfl, ms1, RL2, hT2, hI2⟩ := hv
  obtain ⟨⟨hreq, hleq⟩, hE⟩ := Al.ruleX hE hBy.1 hBy.2 hT1 hT2
  rw [← hleq] at hI2
  refine W.eq (g2 := F0 m 292 ls [.int r2]) rfl ?_
  refine lv_pop hx hb dL_law_292 rfl ?_
  refine lv_goto (tgt := 1186) hx hb dL_law_293 (by decide) ?_
  have hP := hP.perm (List.perm_append_comm (l₁ := wM1) (l₂ := wP1))
  have hD := hD.perm (List.perm_append_comm (l₁ := wM1) (l₂ := wP1))
  exact law_tail C hL hj IH (by omega) (by omega) ⟨dr, im, ts1, ms1, RL1, hI1, hI2, hE, hG, hM⟩ hP hD hS hl
set_option maxHeartbeats 4000000 in
set_option maxRecDepth 100000 in
theorem law_4 {p : Program} {l : Launch} {e : Env} {s : State} {m : MethodId} {below : List Frame} {meth : Method} {c : Code} {D : va_G} {tc : Nat → ClassId} {sk : (Nat → Nat) × (Nat → Nat)} {A : Nat → Prop} {b : Nat} {xs : Nat → Int32} {L : Nat} {h0 m0 j : Nat} (C : LawCx p s m meth c D tc sk A b xs L) (hL : L ≤ 3072) (hj : 6 * j + 6 ≤ L) (IH : LawHead p l e s m below meth c D tc A b h0 m0 (j + 1)) {wP wM : va_W} {H : Heap} {locs : List Loc} {ls : Array Slot} (hI : LInv tc h0 m0 wP wM) (hP : va_P D classes (wP ++ wM) H) (hD : va_D A (wP ++ wM)) (hS : va_S A s.heap H locs) (hl : lv_has ls 4 [(3, .int (nI (6 * j))), (2, .ref m0), (1, .ref h0), (0, .ref b)]) : W p l e room_1 s m #[Value.ref b] below meth c H locs (98 + 46 * j) (8097 + 940 * j) (lw_Z below #[Value.ref b] s) (F0 m 296 ls []) := by
  obtain ⟨hx, hb, hr, hlk, hml, hown, hts, hK, hX, hA, hAl, hXs, hbl, hbA⟩ := id C
  obtain ⟨dr, im, ts, ms, RL, hI1, hI2, hE, hG, hM⟩ := hI
  have hBy := PBI.tape hI1
  refine lv_aload_n hx hb dL_law_296 rfl (lv_at hl 2 rfl) ?_
  refine lv_aload_n hx hb dL_law_297 rfl (lv_at hl 3 rfl) ?_
  refine lv_iload_n hx hb dL_law_298 rfl (lv_at hl 0 rfl) ?_
  refine lv_iconst (v := 1) hx hb dL_law_299 (by decide) ?_
  refine lv_iadd hx hb dL_law_300 ?_
  refine lv_lit (v := nI (6 * j + 1)) (nI_addE (6 * j) 1 (6 * j + 1) rfl) ?_
  refine va_sld hx hb hXs hbl hbA hS (vp_in_nI (by omega) (by omega)) dL_law_301 ?_
  refine lv_lit (v := xs (6 * j + 1)) (by rw [nI_clamp (by omega)]) ?_
  refine cVr (wA := wP) (wB := wM) (ci := 11) (a := h0) (As := [.int (xs (6 * j + 1))]) (rest := []) ⟨hx, hb, hml, hown, hts⟩ hK hX hA (rd_x_force l D tc sk h0 dr im ts RL (xs (6 * j + 1))) k_697 k_694 k_695 k_696 k_95 pl_X11_force (Nat.le_of_ble_eq_true rfl) (Nat.le_of_ble_eq_true rfl) hI1 (PBI.recv hI1) rfl rfl hP hD hS rfl hl.1 rfl (Nat.le_of_ble_eq_true rfl) dL_law_302 (by show 98 + 46 * j + 23 ≤ 600000; omega) (by show 8097 + 940 * j + 470 ≤ 7302250; omega) (fun v wP1 H locs hv hP hD hS => ?_)
  obtain ⟨r1, rfl, hI1⟩ := hv
  refine W.eq (g2 := F0 m 305 ls [.int r1]) rfl ?_
  refine lv_pop hx hb dL_law_305 rfl ?_
  refine lv_aload_n hx hb dL_law_306 rfl (lv_at hl 1 rfl) ?_
  refine lv_aload_n hx hb dL_law_307 rfl (lv_at hl 3 rfl) ?_
  refine lv_iload_n hx hb dL_law_308 rfl (lv_at hl 0 rfl) ?_
  refine lv_iconst (v := 1) hx hb dL_law_309 (by decide) ?_
  refine lv_iadd hx hb dL_law_310 ?_
  refine lv_lit (v := nI (6 * j + 1)) (nI_addE (6 * j) 1 (6 * j + 1) rfl) ?_
  refine va_sld hx hb hXs hbl hbA hS (vp_in_nI (by omega) (by omega)) dL_law_311 ?_
  refine lv_lit (v := xs (6 * j + 1)) (by rw [nI_clamp (by omega)]) ?_
  have hP := hP.perm (List.perm_append_comm (l₁ := wP1) (l₂ := wM))
  have hD := hD.perm (List.perm_append_comm (l₁ := wP1) (l₂ := wM))
  refine cVr (wA := wM) (wB := wP1) (ci := 12) (a := m0) (As := [.int (xs (6 * j + 1))]) (rest := []) ⟨hx, hb, hml, hown, hts⟩ hK hX hA (rd_m_force l D tc sk m0 dr im ms RL (xs (6 * j + 1))) k_1363 k_1360 k_1361 k_1362 k_106 pl_X12_force (Nat.le_of_ble_eq_true rfl) (Nat.le_of_ble_eq_true rfl) hI2 (MI.recv hI2) rfl rfl hP hD hS rfl hl.1 rfl (Nat.le_of_ble_eq_true rfl) dL_law_312 (by show 98 + 46 * j + 23 + 23 ≤ 600000; omega) (by show 8097 + 940 * j + 470 + 470 ≤ 7302250; omega) (fun v wM1 H locs hv hP hD hS => ?_)
  obtain ⟨r2, rfl, hI2⟩ := hv
  refine W.eq (g2 := F0 m 315 ls [.int r2]) rfl ?_
  refine lv_pop hx hb dL_law_315 rfl ?_
  refine lv_goto (tgt := 1186) hx hb dL_law_316 (by decide) ?_
  have hP := hP.perm (List.perm_append_comm (l₁ := wM1) (l₂ := wP1))
  have hD := hD.perm (List.perm_append_comm (l₁ := wM1) (l₂ := wP1))
  exact law_tail C hL hj IH (by omega) (by omega) ⟨dr, im, ts, ms, RL, hI1, hI2, hE, hG, hM⟩ hP hD hS hl
set_option maxHeartbeats 4000000 in
set_option maxRecDepth 100000 in
theorem law_5 {p : Program} {l : Launch} {e : Env} {s : State} {m : MethodId} {below : List Frame} {meth : Method} {c : Code} {D : va_G} {tc : Nat → ClassId} {sk : (Nat → Nat) × (Nat → Nat)} {A : Nat → Prop} {b : Nat} {xs : Nat → Int32} {L : Nat} {h0 m0 j : Nat} (C : LawCx p s m meth c D tc sk A b xs L) (hL : L ≤ 3072) (hj : 6 * j + 6 ≤ L) (IH : LawHead p l e s m below meth c D tc A b h0 m0 (j + 1)) {wP wM : va_W} {H : Heap} {locs : List Loc} {ls : Array Slot} (hI : LInv tc h0 m0 wP wM) (hP : va_P D classes (wP ++ wM) H) (hD : va_D A (wP ++ wM)) (hS : va_S A s.heap H locs) (hl : lv_has ls 4 [(3, .int (nI (6 * j))), (2, .ref m0), (1, .ref h0), (0, .ref b)]) : W p l e room_1 s m #[Value.ref b] below meth c H locs (98 + 46 * j) (8097 + 940 * j) (lw_Z below #[Value.ref b] s) (F0 m 319 ls []) := by
  obtain ⟨hx, hb, hr, hlk, hml, hown, hts, hK, hX, hA, hAl, hXs, hbl, hbA⟩ := id C
  obtain ⟨dr, im, ts, ms, RL, hI1, hI2, hE, hG, hM⟩ := hI
  have hBy := PBI.tape hI1
  refine lv_aload_n hx hb dL_law_319 rfl (lv_at hl 2 rfl) ?_
  refine lv_aload_n hx hb dL_law_320 rfl (lv_at hl 3 rfl) ?_
  refine lv_iload_n hx hb dL_law_321 rfl (lv_at hl 0 rfl) ?_
  refine lv_iconst (v := 1) hx hb dL_law_322 (by decide) ?_
  refine lv_iadd hx hb dL_law_323 ?_
  refine lv_lit (v := nI (6 * j + 1)) (nI_addE (6 * j) 1 (6 * j + 1) rfl) ?_
  refine va_sld hx hb hXs hbl hbA hS (vp_in_nI (by omega) (by omega)) dL_law_324 ?_
  refine lv_lit (v := xs (6 * j + 1)) (by rw [nI_clamp (by omega)]) ?_
  refine lv_aload_n hx hb dL_law_325 rfl (lv_at hl 3 rfl) ?_
  refine lv_iload_n hx hb dL_law_326 rfl (lv_at hl 0 rfl) ?_
  refine lv_iconst (v := 2) hx hb dL_law_327 (by decide) ?_
  refine lv_iadd hx hb dL_law_328 ?_
  refine lv_lit (v := nI (6 * j + 2)) (nI_addE (6 * j) 2 (6 * j + 2) rfl) ?_
  refine va_sld hx hb hXs hbl hbA hS (vp_in_nI (by omega) (by omega)) dL_law_329 ?_
  refine lv_lit (v := xs (6 * j + 2)) (by rw [nI_clamp (by omega)]) ?_
  refine cVr (wA := wP) (wB := wM) (ci := 11) (a := h0) (As := [.int (xs (6 * j + 1)), .int (xs (6 * j + 2))]) (rest := []) ⟨hx, hb, hml, hown, hts⟩ hK hX hA (rd_x_buyer l D tc sk h0 dr im ts RL (xs (6 * j + 1)) (xs (6 * j + 2))) k_701 k_698 k_699 k_700 k_95 pl_X11_buyer (Nat.le_of_ble_eq_true rfl) (Nat.le_of_ble_eq_true rfl) hI1 (PBI.recv hI1) rfl rfl hP hD hS rfl hl.1 rfl (Nat.le_of_ble_eq_true rfl) dL_law_330 (by show 98 + 46 * j + 23 ≤ 600000; omega) (by show 8097 + 940 * j + 470 ≤ 7302250; omega) (fun v wP1 H locs hv hP hD hS => ?_)
  obtain ⟨r1, rfl, hI1⟩ := hv
  refine W.eq (g2 := F0 m 333 ls [.int r1]) rfl ?_
  refine lv_pop hx hb dL_law_333 rfl ?_
  refine lv_aload_n hx hb dL_law_334 rfl (lv_at hl 1 rfl) ?_
  refine lv_aload_n hx hb dL_law_335 rfl (lv_at hl 3 rfl) ?_
  refine lv_iload_n hx hb dL_law_336 rfl (lv_at hl 0 rfl) ?_
  refine lv_iconst (v := 1) hx hb dL_law_337 (by decide) ?_
  refine lv_iadd hx hb dL_law_338 ?_
  refine lv_lit (v := nI (6 * j + 1)) (nI_addE (6 * j) 1 (6 * j + 1) rfl) ?_
  refine va_sld hx hb hXs hbl hbA hS (vp_in_nI (by omega) (by omega)) dL_law_339 ?_
  refine lv_lit (v := xs (6 * j + 1)) (by rw [nI_clamp (by omega)]) ?_
  refine lv_aload_n hx hb dL_law_340 rfl (lv_at hl 3 rfl) ?_
  refine lv_iload_n hx hb dL_law_341 rfl (lv_at hl 0 rfl) ?_
  refine lv_iconst (v := 2) hx hb dL_law_342 (by decide) ?_
  refine lv_iadd hx hb dL_law_343 ?_
  refine lv_lit (v := nI (6 * j + 2)) (nI_addE (6 * j) 2 (6 * j + 2) rfl) ?_
  refine va_sld hx hb hXs hbl hbA hS (vp_in_nI (by omega) (by omega)) dL_law_344 ?_
  refine lv_lit (v := xs (6 * j + 2)) (by rw [nI_clamp (by omega)]) ?_
  have hP := hP.perm (List.perm_append_comm (l₁ := wP1) (l₂ := wM))
  have hD := hD.perm (List.perm_append_comm (l₁ := wP1) (l₂ := wM))
  refine cVr (wA := wM) (wB := wP1) (ci := 12) (a := m0) (As := [.int (xs (6 * j + 1)), .int (xs (6 * j + 2))]) (rest := []) ⟨hx, hb, hml, hown, hts⟩ hK hX hA (rd_m_buyer l D tc sk m0 dr im ms RL (xs (6 * j + 1)) (xs (6 * j + 2))) k_1371 k_1368 k_1369 k_1370 k_106 pl_X12_buyer (Nat.le_of_ble_eq_true rfl) (Nat.le_of_ble_eq_true rfl) hI2 (MI.recv hI2) rfl rfl hP hD hS rfl hl.1 rfl (Nat.le_of_ble_eq_true rfl) dL_law_345 (by show 98 + 46 * j + 23 + 23 ≤ 600000; omega) (by show 8097 + 940 * j + 470 + 470 ≤ 7302250; omega) (fun v wM1 H locs hv hP hD hS => ?_)
  obtain ⟨r2, rfl, hI2⟩ := hv
  refine W.eq (g2 := F0 m 348 ls [.int r2]) rfl ?_
  refine lv_pop hx hb dL_law_348 rfl ?_
  refine lv_goto (tgt := 1186) hx hb dL_law_349 (by decide) ?_
  have hP := hP.perm (List.perm_append_comm (l₁ := wM1) (l₂ := wP1))
  have hD := hD.perm (List.perm_append_comm (l₁ := wM1) (l₂ := wP1))
  exact law_tail C hL hj IH (by omega) (by omega) ⟨dr, im, ts, ms, RL, hI1, hI2, hE, hG, hM⟩ hP hD hS hl
set_option maxHeartbeats 4000000 in
set_option maxRecDepth 100000 in
theorem law_6 {p : Program} {l : Launch} {e : Env} {s : State} {m : MethodId} {below : List Frame} {meth : Method} {c : Code} {D : va_G} {tc : Nat → ClassId} {sk : (Nat → Nat) × (Nat → Nat)} {A : Nat → Prop} {b : Nat} {xs : Nat → Int32} {L : Nat} {h0 m0 j : Nat} (C : LawCx p s m meth c D tc sk A b xs L) (hL : L ≤ 3072) (hj : 6 * j + 6 ≤ L) (IH : LawHead p l e s m below meth c D tc A b h0 m0 (j + 1)) {wP wM : va_W} {H : Heap} {locs : List Loc} {ls : Array Slot} (hI : LInv tc h0 m0 wP wM) (hP : va_P D classes (wP ++ wM) H) (hD : va_D A (wP ++ wM)) (hS : va_S A s.heap H locs) (hl : lv_has ls 4 [(3, .int (nI (6 * j))), (2, .ref m0), (1, .ref h0), (0, .ref b)]) : W p l e room_1 s m #[Value.ref b] below meth c H locs (98 + 46 * j) (8097 + 940 * j) (lw_Z below #[Value.ref b] s) (F0 m 352 ls []) := by
  obtain ⟨hx, hb, hr, hlk, hml, hown, hts, hK, hX, hA, hAl, hXs, hbl, hbA⟩ := id C
  obtain ⟨dr, im, ts, ms, RL, hI1, hI2, hE, hG, hM⟩ := hI
  have hBy := PBI.tape hI1
  refine lv_aload_n hx hb dL_law_352 rfl (lv_at hl 2 rfl) ?_
  refine lv_aload_n hx hb dL_law_353 rfl (lv_at hl 3 rfl) ?_
  refine lv_iload_n hx hb dL_law_354 rfl (lv_at hl 0 rfl) ?_
  refine lv_iconst (v := 1) hx hb dL_law_355 (by decide) ?_
  refine lv_iadd hx hb dL_law_356 ?_
  refine lv_lit (v := nI (6 * j + 1)) (nI_addE (6 * j) 1 (6 * j + 1) rfl) ?_
  refine va_sld hx hb hXs hbl hbA hS (vp_in_nI (by omega) (by omega)) dL_law_357 ?_
  refine lv_lit (v := xs (6 * j + 1)) (by rw [nI_clamp (by omega)]) ?_
  refine lv_aload_n hx hb dL_law_358 rfl (lv_at hl 3 rfl) ?_
  refine lv_iload_n hx hb dL_law_359 rfl (lv_at hl 0 rfl) ?_
  refine lv_iconst (v := 2) hx hb dL_law_360 (by decide) ?_
  refine lv_iadd hx hb dL_law_361 ?_
  refine lv_lit (v := nI (6 * j + 2)) (nI_addE (6 * j) 2 (6 * j + 2) rfl) ?_
  refine va_sld hx hb hXs hbl hbA hS (vp_in_nI (by omega) (by omega)) dL_law_362 ?_
  refine lv_lit (v := xs (6 * j + 2)) (by rw [nI_clamp (by omega)]) ?_
  refine cVr (wA := wP) (wB := wM) (ci := 11) (a := h0) (As := [.int (xs (6 * j + 1)), .int (xs (6 * j + 2))]) (rest := []) ⟨hx, hb, hml, hown, hts⟩ hK hX hA (rd_x_sky l D tc sk h0 dr im ts RL (xs (6 * j + 1)) (xs (6 * j + 2))) k_712 k_709 k_710 k_711 k_95 pl_X11_sky (Nat.le_of_ble_eq_true rfl) (Nat.le_of_ble_eq_true rfl) hI1 (PBI.recv hI1) rfl rfl hP hD hS rfl hl.1 rfl (Nat.le_of_ble_eq_true rfl) dL_law_363 (by show 98 + 46 * j + 23 ≤ 600000; omega) (by show 8097 + 940 * j + 470 ≤ 7302250; omega) (fun v wP1 H locs hv hP hD hS => ?_)
  obtain ⟨r1, rfl, hI1⟩ := hv
  refine W.eq (g2 := F0 m 366 ls [.int r1]) rfl ?_
  refine lv_pop hx hb dL_law_366 rfl ?_
  refine lv_aload_n hx hb dL_law_367 rfl (lv_at hl 1 rfl) ?_
  refine lv_aload_n hx hb dL_law_368 rfl (lv_at hl 3 rfl) ?_
  refine lv_iload_n hx hb dL_law_369 rfl (lv_at hl 0 rfl) ?_
  refine lv_iconst (v := 1) hx hb dL_law_370 (by decide) ?_
  refine lv_iadd hx hb dL_law_371 ?_
  refine lv_lit (v := nI (6 * j + 1)) (nI_addE (6 * j) 1 (6 * j + 1) rfl) ?_
  refine va_sld hx hb hXs hbl hbA hS (vp_in_nI (by omega) (by omega)) dL_law_372 ?_
  refine lv_lit (v := xs (6 * j + 1)) (by rw [nI_clamp (by omega)]) ?_
  refine lv_aload_n hx hb dL_law_373 rfl (lv_at hl 3 rfl) ?_
  refine lv_iload_n hx hb dL_law_374 rfl (lv_at hl 0 rfl) ?_
  refine lv_iconst (v := 2) hx hb dL_law_375 (by decide) ?_
  refine lv_iadd hx hb dL_law_376 ?_
  refine lv_lit (v := nI (6 * j + 2)) (nI_addE (6 * j) 2 (6 * j + 2) rfl) ?_
  refine va_sld hx hb hXs hbl hbA hS (vp_in_nI (by omega) (by omega)) dL_law_377 ?_
  refine lv_lit (v := xs (6 * j + 2)) (by rw [nI_clamp (by omega)]) ?_
  have hP := hP.perm (List.perm_append_comm (l₁ := wP1) (l₂ := wM))
  have hD := hD.perm (List.perm_append_comm (l₁ := wP1) (l₂ := wM))
  refine cVr (wA := wM) (wB := wP1) (ci := 12) (a := m0) (As := [.int (xs (6 * j + 1)), .int (xs (6 * j + 2))]) (rest := []) ⟨hx, hb, hml, hown, hts⟩ hK hX hA (rd_m_sky l D tc sk m0 dr im ms RL (xs (6 * j + 1)) (xs (6 * j + 2))) k_1399 k_1396 k_1397 k_1398 k_106 pl_X12_sky (Nat.le_of_ble_eq_true rfl) (Nat.le_of_ble_eq_true rfl) hI2 (MI.recv hI2) rfl rfl hP hD hS rfl hl.1 rfl (Nat.le_of_ble_eq_true rfl) dL_law_378 (by show 98 + 46 * j + 23 + 23 ≤ 600000; omega) (by show 8097 + 940 * j + 470 + 470 ≤ 7302250; omega) (fun v wM1 H locs hv hP hD hS => ?_)
  obtain ⟨r2, rfl, hI2⟩ := hv
  refine W.eq (g2 := F0 m 381 ls [.int r2]) rfl ?_
  refine lv_pop hx hb dL_law_381 rfl ?_
  refine lv_goto (tgt := 1186) hx hb dL_law_382 (by decide) ?_
  have hP := hP.perm (List.perm_append_comm (l₁ := wM1) (l₂ := wP1))
  have hD := hD.perm (List.perm_append_comm (l₁ := wM1) (l₂ := wP1))
  exact law_tail C hL hj IH (by omega) (by omega) ⟨dr, im, ts, ms, RL, hI1, hI2, hE, hG, hM⟩ hP hD hS hl
set_option maxHeartbeats 4000000 in
set_option maxRecDepth 100000 in
theorem law_7 {p : Program} {l : Launch} {e : Env} {s : State} {m : MethodId} {below : List Frame} {meth : Method} {c : Code} {D : va_G} {tc : Nat → ClassId} {sk : (Nat → Nat) × (Nat → Nat)} {A : Nat → Prop} {b : Nat} {xs : Nat → Int32} {L : Nat} {h0 m0 j : Nat} (C : LawCx p s m meth c D tc sk A b xs L) (hL : L ≤ 3072) (hj : 6 * j + 6 ≤ L) (IH : LawHead p l e s m below meth c D tc A b h0 m0 (j + 1)) {wP wM : va_W} {H : Heap} {locs : List Loc} {ls : Array Slot} (hI : LInv tc h0 m0 wP wM) (hP : va_P D classes (wP ++ wM) H) (hD : va_D A (wP ++ wM)) (hS : va_S A s.heap H locs) (hl : lv_has ls 4 [(3, .int (nI (6 * j))), (2, .ref m0), (1, .ref h0), (0, .ref b)]) : W p l e room_1 s m #[Value.ref b] below meth c H locs (98 + 46 * j) (8097 + 940 * j) (lw_Z below #[Value.ref b] s) (F0 m 385 ls []) := by
  obtain ⟨hx, hb, hr, hlk, hml, hown, hts, hK, hX, hA, hAl, hXs, hbl, hbA⟩ := id C
  obtain ⟨dr, im, ts, ms, RL, hI1, hI2, hE, hG, hM⟩ := hI
  have hBy := PBI.tape hI1
  refine lv_aload_n hx hb dL_law_385 rfl (lv_at hl 2 rfl) ?_
  refine cVr (wA := wP) (wB := wM) (ci := 11) (a := h0) (As := []) (rest := []) ⟨hx, hb, hml, hown, hts⟩ hK hX hA (rd_x_day l D tc sk h0 dr im ts RL) k_720 k_717 k_718 k_719 k_95 pl_X11_day (Nat.le_of_ble_eq_true rfl) (Nat.le_of_ble_eq_true rfl) hI1 (PBI.recv hI1) rfl rfl hP hD hS rfl hl.1 rfl (Nat.le_of_ble_eq_true rfl) dL_law_386 (by show 98 + 46 * j + 23 ≤ 600000; omega) (by show 8097 + 940 * j + 470 ≤ 7302250; omega) (fun v wP1 H locs hv hP hD hS => ?_)
  obtain ⟨r1, rfl, hI1⟩ := hv
  refine W.eq (g2 := F0 m 389 ls [.int r1]) rfl ?_
  refine lv_pop hx hb dL_law_389 rfl ?_
  refine lv_aload_n hx hb dL_law_390 rfl (lv_at hl 1 rfl) ?_
  have hP := hP.perm (List.perm_append_comm (l₁ := wP1) (l₂ := wM))
  have hD := hD.perm (List.perm_append_comm (l₁ := wP1) (l₂ := wM))
  refine cVr (wA := wM) (wB := wP1) (ci := 12) (a := m0) (As := []) (rest := []) ⟨hx, hb, hml, hown, hts⟩ hK hX hA (rd_m_day l D tc sk m0 dr im ms RL) k_1415 k_1412 k_1413 k_1414 k_106 pl_X12_day (Nat.le_of_ble_eq_true rfl) (Nat.le_of_ble_eq_true rfl) hI2 (MI.recv hI2) rfl rfl hP hD hS rfl hl.1 rfl (Nat.le_of_ble_eq_true rfl) dL_law_391 (by show 98 + 46 * j + 23 + 23 ≤ 600000; omega) (by show 8097 + 940 * j + 470 + 470 ≤ 7302250; omega) (fun v wM1 H locs hv hP hD hS => ?_)
  obtain ⟨r2, rfl, hI2⟩ := hv
  refine W.eq (g2 := F0 m 394 ls [.int r2]) rfl ?_
  refine lv_pop hx hb dL_law_394 rfl ?_
  refine lv_goto (tgt := 1186) hx hb dL_law_395 (by decide) ?_
  have hP := hP.perm (List.perm_append_comm (l₁ := wM1) (l₂ := wP1))
  have hD := hD.perm (List.perm_append_comm (l₁ := wM1) (l₂ := wP1))
  exact law_tail C hL hj IH (by omega) (by omega) ⟨dr, im, ts, ms, RL, hI1, hI2, hE, hG, hM⟩ hP hD hS hl
set_option maxHeartbeats 4000000 in
set_option maxRecDepth 100000 in
theorem law_8 {p : Program} {l : Launch} {e : Env} {s : State} {m : MethodId} {below : List Frame} {meth : Method} {c : Code} {D : va_G} {tc : Nat → ClassId} {sk : (Nat → Nat) × (Nat → Nat)} {A : Nat → Prop} {b : Nat} {xs : Nat → Int32} {L : Nat} {h0 m0 j : Nat} (C : LawCx p s m meth c D tc sk A b xs L) (hL : L ≤ 3072) (hj : 6 * j + 6 ≤ L) (IH : LawHead p l e s m below meth c D tc A b h0 m0 (j + 1)) {wP wM : va_W} {H : Heap} {locs : List Loc} {ls : Array Slot} (hI : LInv tc h0 m0 wP wM) (hP : va_P D classes (wP ++ wM) H) (hD : va_D A (wP ++ wM)) (hS : va_S A s.heap H locs) (hl : lv_has ls 4 [(3, .int (nI (6 * j))), (2, .ref m0), (1, .ref h0), (0, .ref b)]) : W p l e room_1 s m #[Value.ref b] below meth c H locs (98 + 46 * j) (8097 + 940 * j) (lw_Z below #[Value.ref b] s) (F0 m 398 ls []) := by
  obtain ⟨hx, hb, hr, hlk, hml, hown, hts, hK, hX, hA, hAl, hXs, hbl, hbA⟩ := id C
  obtain ⟨dr, im, ts, ms, RL, hI1, hI2, hE, hG, hM⟩ := hI
  have hBy := PBI.tape hI1
  refine lv_aload_n hx hb dL_law_398 rfl (lv_at hl 2 rfl) ?_
  refine lv_aload_n hx hb dL_law_399 rfl (lv_at hl 3 rfl) ?_
  refine lv_iload_n hx hb dL_law_400 rfl (lv_at hl 0 rfl) ?_
  refine lv_iconst (v := 1) hx hb dL_law_401 (by decide) ?_
  refine lv_iadd hx hb dL_law_402 ?_
  refine lv_lit (v := nI (6 * j + 1)) (nI_addE (6 * j) 1 (6 * j + 1) rfl) ?_
  refine va_sld hx hb hXs hbl hbA hS (vp_in_nI (by omega) (by omega)) dL_law_403 ?_
  refine lv_lit (v := xs (6 * j + 1)) (by rw [nI_clamp (by omega)]) ?_
  refine cVr (wA := wP) (wB := wM) (ci := 11) (a := h0) (As := [.int (xs (6 * j + 1))]) (rest := []) ⟨hx, hb, hml, hown, hts⟩ hK hX hA (rd_x_sell l D tc sk h0 dr im ts RL (xs (6 * j + 1))) k_784 k_781 k_782 k_783 k_95 pl_X11_sell (Nat.le_of_ble_eq_true rfl) (Nat.le_of_ble_eq_true rfl) hI1 (PBI.recv hI1) rfl rfl hP hD hS rfl hl.1 rfl (Nat.le_of_ble_eq_true rfl) dL_law_404 (by show 98 + 46 * j + 23 ≤ 600000; omega) (by show 8097 + 940 * j + 470 ≤ 7302250; omega) (fun v wP1 H locs hv hP hD hS => ?_)
  obtain ⟨r1, rfl, hI1⟩ := hv
  refine W.eq (g2 := F0 m 407 ls [.int r1]) rfl ?_
  refine lv_pop hx hb dL_law_407 rfl ?_
  refine lv_aload_n hx hb dL_law_408 rfl (lv_at hl 1 rfl) ?_
  refine lv_aload_n hx hb dL_law_409 rfl (lv_at hl 3 rfl) ?_
  refine lv_iload_n hx hb dL_law_410 rfl (lv_at hl 0 rfl) ?_
  refine lv_iconst (v := 1) hx hb dL_law_411 (by decide) ?_
  refine lv_iadd hx hb dL_law_412 ?_
  refine lv_lit (v := nI (6 * j + 1)) (nI_addE (6 * j) 1 (6 * j + 1) rfl) ?_
  refine va_sld hx hb hXs hbl hbA hS (vp_in_nI (by omega) (by omega)) dL_law_413 ?_
  refine lv_lit (v := xs (6 * j + 1)) (by rw [nI_clamp (by omega)]) ?_
  have hP := hP.perm (List.perm_append_comm (l₁ := wP1) (l₂ := wM))
  have hD := hD.perm (List.perm_append_comm (l₁ := wP1) (l₂ := wM))
  refine cVr (wA := wM) (wB := wP1) (ci := 12) (a := m0) (As := [.int (xs (6 * j + 1))]) (rest := []) ⟨hx, hb, hml, hown, hts⟩ hK hX hA (rd_m_sell l D tc sk m0 dr im ms RL (xs (6 * j + 1))) k_1481 k_1478 k_1479 k_1480 k_106 pl_X12_sell (Nat.le_of_ble_eq_true rfl) (Nat.le_of_ble_eq_true rfl) hI2 (MI.recv hI2) rfl rfl hP hD hS rfl hl.1 rfl (Nat.le_of_ble_eq_true rfl) dL_law_414 (by show 98 + 46 * j + 23 + 23 ≤ 600000; omega) (by show 8097 + 940 * j + 470 + 470 ≤ 7302250; omega) (fun v wM1 H locs hv hP hD hS => ?_)
  obtain ⟨r2, rfl, hI2⟩ := hv
  refine W.eq (g2 := F0 m 417 ls [.int r2]) rfl ?_
  refine lv_pop hx hb dL_law_417 rfl ?_
  refine lv_goto (tgt := 1186) hx hb dL_law_418 (by decide) ?_
  have hP := hP.perm (List.perm_append_comm (l₁ := wM1) (l₂ := wP1))
  have hD := hD.perm (List.perm_append_comm (l₁ := wM1) (l₂ := wP1))
  exact law_tail C hL hj IH (by omega) (by omega) ⟨dr, im, ts, ms, RL, hI1, hI2, hE, hG, hM⟩ hP hD hS hl
set_option maxHeartbeats 4000000 in
set_option maxRecDepth 100000 in
theorem law_9 {p : Program} {l : Launch} {e : Env} {s : State} {m : MethodId} {below : List Frame} {meth : Method} {c : Code} {D : va_G} {tc : Nat → ClassId} {sk : (Nat → Nat) × (Nat → Nat)} {A : Nat → Prop} {b : Nat} {xs : Nat → Int32} {L : Nat} {h0 m0 j : Nat} (C : LawCx p s m meth c D tc sk A b xs L) (hL : L ≤ 3072) (hj : 6 * j + 6 ≤ L) (IH : LawHead p l e s m below meth c D tc A b h0 m0 (j + 1)) {wP wM : va_W} {H : Heap} {locs : List Loc} {ls : Array Slot} (hI : LInv tc h0 m0 wP wM) (hP : va_P D classes (wP ++ wM) H) (hD : va_D A (wP ++ wM)) (hS : va_S A s.heap H locs) (hl : lv_has ls 4 [(3, .int (nI (6 * j))), (2, .ref m0), (1, .ref h0), (0, .ref b)]) : W p l e room_1 s m #[Value.ref b] below meth c H locs (98 + 46 * j) (8097 + 940 * j) (lw_Z below #[Value.ref b] s) (F0 m 421 ls []) := by
  obtain ⟨hx, hb, hr, hlk, hml, hown, hts, hK, hX, hA, hAl, hXs, hbl, hbA⟩ := id C
  obtain ⟨dr, im, ts, ms, RL, hI1, hI2, hE, hG, hM⟩ := hI
  have hBy := PBI.tape hI1
  refine lv_aload_n hx hb dL_law_421 rfl (lv_at hl 2 rfl) ?_
  refine lv_aload_n hx hb dL_law_422 rfl (lv_at hl 3 rfl) ?_
  refine lv_iload_n hx hb dL_law_423 rfl (lv_at hl 0 rfl) ?_
  refine lv_iconst (v := 1) hx hb dL_law_424 (by decide) ?_
  refine lv_iadd hx hb dL_law_425 ?_
  refine lv_lit (v := nI (6 * j + 1)) (nI_addE (6 * j) 1 (6 * j + 1) rfl) ?_
  refine va_sld hx hb hXs hbl hbA hS (vp_in_nI (by omega) (by omega)) dL_law_426 ?_
  refine lv_lit (v := xs (6 * j + 1)) (by rw [nI_clamp (by omega)]) ?_
  refine lv_aload_n hx hb dL_law_427 rfl (lv_at hl 3 rfl) ?_
  refine lv_iload_n hx hb dL_law_428 rfl (lv_at hl 0 rfl) ?_
  refine lv_iconst (v := 2) hx hb dL_law_429 (by decide) ?_
  refine lv_iadd hx hb dL_law_430 ?_
  refine lv_lit (v := nI (6 * j + 2)) (nI_addE (6 * j) 2 (6 * j + 2) rfl) ?_
  refine va_sld hx hb hXs hbl hbA hS (vp_in_nI (by omega) (by omega)) dL_law_431 ?_
  refine lv_lit (v := xs (6 * j + 2)) (by rw [nI_clamp (by omega)]) ?_
  refine cVr (wA := wP) (wB := wM) (ci := 11) (a := h0) (As := [.int (xs (6 * j + 1)), .int (xs (6 * j + 2))]) (rest := []) ⟨hx, hb, hml, hown, hts⟩ hK hX hA (rd_x_calm l D tc sk h0 dr im ts RL (xs (6 * j + 1)) (xs (6 * j + 2))) k_789 k_786 k_787 k_788 k_95 pl_X11_calm (Nat.le_of_ble_eq_true rfl) (Nat.le_of_ble_eq_true rfl) hI1 (PBI.recv hI1) rfl rfl hP hD hS rfl hl.1 rfl (Nat.le_of_ble_eq_true rfl) dL_law_432 (by show 98 + 46 * j + 23 ≤ 600000; omega) (by show 8097 + 940 * j + 470 ≤ 7302250; omega) (fun v wP1 H locs hv hP hD hS => ?_)
  obtain ⟨r1, rfl, hI1⟩ := hv
  refine W.eq (g2 := F0 m 435 ls [.int r1]) rfl ?_
  refine lv_pop hx hb dL_law_435 rfl ?_
  refine lv_aload_n hx hb dL_law_436 rfl (lv_at hl 1 rfl) ?_
  refine lv_aload_n hx hb dL_law_437 rfl (lv_at hl 3 rfl) ?_
  refine lv_iload_n hx hb dL_law_438 rfl (lv_at hl 0 rfl) ?_
  refine lv_iconst (v := 1) hx hb dL_law_439 (by decide) ?_
  refine lv_iadd hx hb dL_law_440 ?_
  refine lv_lit (v := nI (6 * j + 1)) (nI_addE (6 * j) 1 (6 * j + 1) rfl) ?_
  refine va_sld hx hb hXs hbl hbA hS (vp_in_nI (by omega) (by omega)) dL_law_441 ?_
  refine lv_lit (v := xs (6 * j + 1)) (by rw [nI_clamp (by omega)]) ?_
  refine lv_aload_n hx hb dL_law_442 rfl (lv_at hl 3 rfl) ?_
  refine lv_iload_n hx hb dL_law_443 rfl (lv_at hl 0 rfl) ?_
  refine lv_iconst (v := 2) hx hb dL_law_444 (by decide) ?_
  refine lv_iadd hx hb dL_law_445 ?_
  refine lv_lit (v := nI (6 * j + 2)) (nI_addE (6 * j) 2 (6 * j + 2) rfl) ?_
  refine va_sld hx hb hXs hbl hbA hS (vp_in_nI (by omega) (by omega)) dL_law_446 ?_
  refine lv_lit (v := xs (6 * j + 2)) (by rw [nI_clamp (by omega)]) ?_
  have hP := hP.perm (List.perm_append_comm (l₁ := wP1) (l₂ := wM))
  have hD := hD.perm (List.perm_append_comm (l₁ := wP1) (l₂ := wM))
  refine cVr (wA := wM) (wB := wP1) (ci := 12) (a := m0) (As := [.int (xs (6 * j + 1)), .int (xs (6 * j + 2))]) (rest := []) ⟨hx, hb, hml, hown, hts⟩ hK hX hA (rd_m_calm l D tc sk m0 dr im ms RL (xs (6 * j + 1)) (xs (6 * j + 2))) k_1485 k_1482 k_1483 k_1484 k_106 pl_X12_calm (Nat.le_of_ble_eq_true rfl) (Nat.le_of_ble_eq_true rfl) hI2 (MI.recv hI2) rfl rfl hP hD hS rfl hl.1 rfl (Nat.le_of_ble_eq_true rfl) dL_law_447 (by show 98 + 46 * j + 23 + 23 ≤ 600000; omega) (by show 8097 + 940 * j + 470 + 470 ≤ 7302250; omega) (fun v wM1 H locs hv hP hD hS => ?_)
  obtain ⟨r2, rfl, hI2⟩ := hv
  refine W.eq (g2 := F0 m 450 ls [.int r2]) rfl ?_
  refine lv_pop hx hb dL_law_450 rfl ?_
  refine lv_goto (tgt := 1186) hx hb dL_law_451 (by decide) ?_
  have hP := hP.perm (List.perm_append_comm (l₁ := wM1) (l₂ := wP1))
  have hD := hD.perm (List.perm_append_comm (l₁ := wM1) (l₂ := wP1))
  exact law_tail C hL hj IH (by omega) (by omega) ⟨dr, im, ts, ms, RL, hI1, hI2, hE, hG, hM⟩ hP hD hS hl
set_option maxHeartbeats 4000000 in
set_option maxRecDepth 100000 in
theorem law_10 {p : Program} {l : Launch} {e : Env} {s : State} {m : MethodId} {below : List Frame} {meth : Method} {c : Code} {D : va_G} {tc : Nat → ClassId} {sk : (Nat → Nat) × (Nat → Nat)} {A : Nat → Prop} {b : Nat} {xs : Nat → Int32} {L : Nat} {h0 m0 j : Nat} (C : LawCx p s m meth c D tc sk A b xs L) (hL : L ≤ 3072) (hj : 6 * j + 6 ≤ L) (IH : LawHead p l e s m below meth c D tc A b h0 m0 (j + 1)) {wP wM : va_W} {H : Heap} {locs : List Loc} {ls : Array Slot} (hI : LInv tc h0 m0 wP wM) (hP : va_P D classes (wP ++ wM) H) (hD : va_D A (wP ++ wM)) (hS : va_S A s.heap H locs) (hl : lv_has ls 4 [(3, .int (nI (6 * j))), (2, .ref m0), (1, .ref h0), (0, .ref b)]) : W p l e room_1 s m #[Value.ref b] below meth c H locs (98 + 46 * j) (8097 + 940 * j) (lw_Z below #[Value.ref b] s) (F0 m 454 ls []) := by
  obtain ⟨hx, hb, hr, hlk, hml, hown, hts, hK, hX, hA, hAl, hXs, hbl, hbA⟩ := id C
  obtain ⟨dr, im, ts, ms, RL, hI1, hI2, hE, hG, hM⟩ := hI
  have hBy := PBI.tape hI1
  refine lv_aload_n hx hb dL_law_454 rfl (lv_at hl 2 rfl) ?_
  refine lv_aload_n hx hb dL_law_455 rfl (lv_at hl 3 rfl) ?_
  refine lv_iload_n hx hb dL_law_456 rfl (lv_at hl 0 rfl) ?_
  refine lv_iconst (v := 1) hx hb dL_law_457 (by decide) ?_
  refine lv_iadd hx hb dL_law_458 ?_
  refine lv_lit (v := nI (6 * j + 1)) (nI_addE (6 * j) 1 (6 * j + 1) rfl) ?_
  refine va_sld hx hb hXs hbl hbA hS (vp_in_nI (by omega) (by omega)) dL_law_459 ?_
  refine lv_lit (v := xs (6 * j + 1)) (by rw [nI_clamp (by omega)]) ?_
  refine lv_aload_n hx hb dL_law_460 rfl (lv_at hl 3 rfl) ?_
  refine lv_iload_n hx hb dL_law_461 rfl (lv_at hl 0 rfl) ?_
  refine lv_iconst (v := 2) hx hb dL_law_462 (by decide) ?_
  refine lv_iadd hx hb dL_law_463 ?_
  refine lv_lit (v := nI (6 * j + 2)) (nI_addE (6 * j) 2 (6 * j + 2) rfl) ?_
  refine va_sld hx hb hXs hbl hbA hS (vp_in_nI (by omega) (by omega)) dL_law_464 ?_
  refine lv_lit (v := xs (6 * j + 2)) (by rw [nI_clamp (by omega)]) ?_
  refine cVr (wA := wP) (wB := wM) (ci := 11) (a := h0) (As := [.int (xs (6 * j + 1)), .int (xs (6 * j + 2))]) (rest := []) ⟨hx, hb, hml, hown, hts⟩ hK hX hA (rd_x_watch l D tc sk h0 dr im ts RL (xs (6 * j + 1)) (xs (6 * j + 2))) k_793 k_790 k_791 k_792 k_95 pl_X11_watch (Nat.le_of_ble_eq_true rfl) (Nat.le_of_ble_eq_true rfl) hI1 (PBI.recv hI1) rfl rfl hP hD hS rfl hl.1 rfl (Nat.le_of_ble_eq_true rfl) dL_law_465 (by show 98 + 46 * j + 23 ≤ 600000; omega) (by show 8097 + 940 * j + 470 ≤ 7302250; omega) (fun v wP1 H locs hv hP hD hS => ?_)
  obtain ⟨r1, rfl, hI1⟩ := hv
  refine W.eq (g2 := F0 m 468 ls [.int r1]) rfl ?_
  refine lv_pop hx hb dL_law_468 rfl ?_
  refine lv_aload_n hx hb dL_law_469 rfl (lv_at hl 1 rfl) ?_
  refine lv_aload_n hx hb dL_law_470 rfl (lv_at hl 3 rfl) ?_
  refine lv_iload_n hx hb dL_law_471 rfl (lv_at hl 0 rfl) ?_
  refine lv_iconst (v := 1) hx hb dL_law_472 (by decide) ?_
  refine lv_iadd hx hb dL_law_473 ?_
  refine lv_lit (v := nI (6 * j + 1)) (nI_addE (6 * j) 1 (6 * j + 1) rfl) ?_
  refine va_sld hx hb hXs hbl hbA hS (vp_in_nI (by omega) (by omega)) dL_law_474 ?_
  refine lv_lit (v := xs (6 * j + 1)) (by rw [nI_clamp (by omega)]) ?_
  refine lv_aload_n hx hb dL_law_475 rfl (lv_at hl 3 rfl) ?_
  refine lv_iload_n hx hb dL_law_476 rfl (lv_at hl 0 rfl) ?_
  refine lv_iconst (v := 2) hx hb dL_law_477 (by decide) ?_
  refine lv_iadd hx hb dL_law_478 ?_
  refine lv_lit (v := nI (6 * j + 2)) (nI_addE (6 * j) 2 (6 * j + 2) rfl) ?_
  refine va_sld hx hb hXs hbl hbA hS (vp_in_nI (by omega) (by omega)) dL_law_479 ?_
  refine lv_lit (v := xs (6 * j + 2)) (by rw [nI_clamp (by omega)]) ?_
  have hP := hP.perm (List.perm_append_comm (l₁ := wP1) (l₂ := wM))
  have hD := hD.perm (List.perm_append_comm (l₁ := wP1) (l₂ := wM))
  refine cVr (wA := wM) (wB := wP1) (ci := 12) (a := m0) (As := [.int (xs (6 * j + 1)), .int (xs (6 * j + 2))]) (rest := []) ⟨hx, hb, hml, hown, hts⟩ hK hX hA (rd_m_watch l D tc sk m0 dr im ms RL (xs (6 * j + 1)) (xs (6 * j + 2))) k_1490 k_1487 k_1488 k_1489 k_106 pl_X12_watch (Nat.le_of_ble_eq_true rfl) (Nat.le_of_ble_eq_true rfl) hI2 (MI.recv hI2) rfl rfl hP hD hS rfl hl.1 rfl (Nat.le_of_ble_eq_true rfl) dL_law_480 (by show 98 + 46 * j + 23 + 23 ≤ 600000; omega) (by show 8097 + 940 * j + 470 + 470 ≤ 7302250; omega) (fun v wM1 H locs hv hP hD hS => ?_)
  obtain ⟨r2, rfl, hI2⟩ := hv
  refine W.eq (g2 := F0 m 483 ls [.int r2]) rfl ?_
  refine lv_pop hx hb dL_law_483 rfl ?_
  refine lv_goto (tgt := 1186) hx hb dL_law_484 (by decide) ?_
  have hP := hP.perm (List.perm_append_comm (l₁ := wM1) (l₂ := wP1))
  have hD := hD.perm (List.perm_append_comm (l₁ := wM1) (l₂ := wP1))
  exact law_tail C hL hj IH (by omega) (by omega) ⟨dr, im, ts, ms, RL, hI1, hI2, hE, hG, hM⟩ hP hD hS hl
set_option maxHeartbeats 4000000 in
set_option maxRecDepth 100000 in
theorem law_11 {p : Program} {l : Launch} {e : Env} {s : State} {m : MethodId} {below : List Frame} {meth : Method} {c : Code} {D : va_G} {tc : Nat → ClassId} {sk : (Nat → Nat) × (Nat → Nat)} {A : Nat → Prop} {b : Nat} {xs : Nat → Int32} {L : Nat} {h0 m0 j : Nat} (C : LawCx p s m meth c D tc sk A b xs L) (hL : L ≤ 3072) (hj : 6 * j + 6 ≤ L) (IH : LawHead p l e s m below meth c D tc A b h0 m0 (j + 1)) {wP wM : va_W} {H : Heap} {locs : List Loc} {ls : Array Slot} (hI : LInv tc h0 m0 wP wM) (hP : va_P D classes (wP ++ wM) H) (hD : va_D A (wP ++ wM)) (hS : va_S A s.heap H locs) (hl : lv_has ls 4 [(3, .int (nI (6 * j))), (2, .ref m0), (1, .ref h0), (0, .ref b)]) : W p l e room_1 s m #[Value.ref b] below meth c H locs (98 + 46 * j) (8097 + 940 * j) (lw_Z below #[Value.ref b] s) (F0 m 487 ls []) := by
  obtain ⟨hx, hb, hr, hlk, hml, hown, hts, hK, hX, hA, hAl, hXs, hbl, hbA⟩ := id C
  obtain ⟨dr, im, ts, ms, RL, hI1, hI2, hE, hG, hM⟩ := hI
  have hBy := PBI.tape hI1
  refine lv_aload_n hx hb dL_law_487 rfl (lv_at hl 2 rfl) ?_
  refine lv_aload_n hx hb dL_law_488 rfl (lv_at hl 3 rfl) ?_
  refine lv_iload_n hx hb dL_law_489 rfl (lv_at hl 0 rfl) ?_
  refine lv_iconst (v := 1) hx hb dL_law_490 (by decide) ?_
  refine lv_iadd hx hb dL_law_491 ?_
  refine lv_lit (v := nI (6 * j + 1)) (nI_addE (6 * j) 1 (6 * j + 1) rfl) ?_
  refine va_sld hx hb hXs hbl hbA hS (vp_in_nI (by omega) (by omega)) dL_law_492 ?_
  refine lv_lit (v := xs (6 * j + 1)) (by rw [nI_clamp (by omega)]) ?_
  refine lv_aload_n hx hb dL_law_493 rfl (lv_at hl 3 rfl) ?_
  refine lv_iload_n hx hb dL_law_494 rfl (lv_at hl 0 rfl) ?_
  refine lv_iconst (v := 2) hx hb dL_law_495 (by decide) ?_
  refine lv_iadd hx hb dL_law_496 ?_
  refine lv_lit (v := nI (6 * j + 2)) (nI_addE (6 * j) 2 (6 * j + 2) rfl) ?_
  refine va_sld hx hb hXs hbl hbA hS (vp_in_nI (by omega) (by omega)) dL_law_497 ?_
  refine lv_lit (v := xs (6 * j + 2)) (by rw [nI_clamp (by omega)]) ?_
  refine cVr (wA := wP) (wB := wM) (ci := 11) (a := h0) (As := [.int (xs (6 * j + 1)), .int (xs (6 * j + 2))]) (rest := []) ⟨hx, hb, hml, hown, hts⟩ hK hX hA (rd_x_change l D tc sk h0 dr im ts RL (xs (6 * j + 1)) (xs (6 * j + 2))) k_797 k_794 k_795 k_796 k_95 pl_X11_change (Nat.le_of_ble_eq_true rfl) (Nat.le_of_ble_eq_true rfl) hI1 (PBI.recv hI1) rfl rfl hP hD hS rfl hl.1 rfl (Nat.le_of_ble_eq_true rfl) dL_law_498 (by show 98 + 46 * j + 23 ≤ 600000; omega) (by show 8097 + 940 * j + 470 ≤ 7302250; omega) (fun v wP1 H locs hv hP hD hS => ?_)
  obtain ⟨r1, rfl, hI1⟩ := hv
  refine W.eq (g2 := F0 m 501 ls [.int r1]) rfl ?_
  refine lv_pop hx hb dL_law_501 rfl ?_
  refine lv_aload_n hx hb dL_law_502 rfl (lv_at hl 1 rfl) ?_
  refine lv_aload_n hx hb dL_law_503 rfl (lv_at hl 3 rfl) ?_
  refine lv_iload_n hx hb dL_law_504 rfl (lv_at hl 0 rfl) ?_
  refine lv_iconst (v := 1) hx hb dL_law_505 (by decide) ?_
  refine lv_iadd hx hb dL_law_506 ?_
  refine lv_lit (v := nI (6 * j + 1)) (nI_addE (6 * j) 1 (6 * j + 1) rfl) ?_
  refine va_sld hx hb hXs hbl hbA hS (vp_in_nI (by omega) (by omega)) dL_law_507 ?_
  refine lv_lit (v := xs (6 * j + 1)) (by rw [nI_clamp (by omega)]) ?_
  refine lv_aload_n hx hb dL_law_508 rfl (lv_at hl 3 rfl) ?_
  refine lv_iload_n hx hb dL_law_509 rfl (lv_at hl 0 rfl) ?_
  refine lv_iconst (v := 2) hx hb dL_law_510 (by decide) ?_
  refine lv_iadd hx hb dL_law_511 ?_
  refine lv_lit (v := nI (6 * j + 2)) (nI_addE (6 * j) 2 (6 * j + 2) rfl) ?_
  refine va_sld hx hb hXs hbl hbA hS (vp_in_nI (by omega) (by omega)) dL_law_512 ?_
  refine lv_lit (v := xs (6 * j + 2)) (by rw [nI_clamp (by omega)]) ?_
  have hP := hP.perm (List.perm_append_comm (l₁ := wP1) (l₂ := wM))
  have hD := hD.perm (List.perm_append_comm (l₁ := wP1) (l₂ := wM))
  refine cVr (wA := wM) (wB := wP1) (ci := 12) (a := m0) (As := [.int (xs (6 * j + 1)), .int (xs (6 * j + 2))]) (rest := []) ⟨hx, hb, hml, hown, hts⟩ hK hX hA (rd_m_change l D tc sk m0 dr im ms RL (xs (6 * j + 1)) (xs (6 * j + 2))) k_1494 k_1491 k_1492 k_1493 k_106 pl_X12_change (Nat.le_of_ble_eq_true rfl) (Nat.le_of_ble_eq_true rfl) hI2 (MI.recv hI2) rfl rfl hP hD hS rfl hl.1 rfl (Nat.le_of_ble_eq_true rfl) dL_law_513 (by show 98 + 46 * j + 23 + 23 ≤ 600000; omega) (by show 8097 + 940 * j + 470 + 470 ≤ 7302250; omega) (fun v wM1 H locs hv hP hD hS => ?_)
  obtain ⟨r2, rfl, hI2⟩ := hv
  refine W.eq (g2 := F0 m 516 ls [.int r2]) rfl ?_
  refine lv_pop hx hb dL_law_516 rfl ?_
  refine lv_goto (tgt := 1186) hx hb dL_law_517 (by decide) ?_
  have hP := hP.perm (List.perm_append_comm (l₁ := wM1) (l₂ := wP1))
  have hD := hD.perm (List.perm_append_comm (l₁ := wM1) (l₂ := wP1))
  exact law_tail C hL hj IH (by omega) (by omega) ⟨dr, im, ts, ms, RL, hI1, hI2, hE, hG, hM⟩ hP hD hS hl
set_option maxHeartbeats 4000000 in
set_option maxRecDepth 100000 in
theorem law_12 {p : Program} {l : Launch} {e : Env} {s : State} {m : MethodId} {below : List Frame} {meth : Method} {c : Code} {D : va_G} {tc : Nat → ClassId} {sk : (Nat → Nat) × (Nat → Nat)} {A : Nat → Prop} {b : Nat} {xs : Nat → Int32} {L : Nat} {h0 m0 j : Nat} (C : LawCx p s m meth c D tc sk A b xs L) (hL : L ≤ 3072) (hj : 6 * j + 6 ≤ L) (IH : LawHead p l e s m below meth c D tc A b h0 m0 (j + 1)) {wP wM : va_W} {H : Heap} {locs : List Loc} {ls : Array Slot} (hI : LInv tc h0 m0 wP wM) (hP : va_P D classes (wP ++ wM) H) (hD : va_D A (wP ++ wM)) (hS : va_S A s.heap H locs) (hl : lv_has ls 4 [(3, .int (nI (6 * j))), (2, .ref m0), (1, .ref h0), (0, .ref b)]) : W p l e room_1 s m #[Value.ref b] below meth c H locs (98 + 46 * j) (8097 + 940 * j) (lw_Z below #[Value.ref b] s) (F0 m 520 ls []) := by
  obtain ⟨hx, hb, hr, hlk, hml, hown, hts, hK, hX, hA, hAl, hXs, hbl, hbA⟩ := id C
  obtain ⟨dr, im, ts, ms, RL, hI1, hI2, hE, hG, hM⟩ := hI
  have hBy := PBI.tape hI1
  refine lv_aload_n hx hb dL_law_520 rfl (lv_at hl 2 rfl) ?_
  refine cVr (wA := wP) (wB := wM) (ci := 11) (a := h0) (As := []) (rest := []) ⟨hx, hb, hml, hown, hts⟩ hK hX hA (rd_x_undo l D tc sk h0 dr im ts RL) k_801 k_798 k_799 k_800 k_95 pl_X11_undo (Nat.le_of_ble_eq_true rfl) (Nat.le_of_ble_eq_true rfl) hI1 (PBI.recv hI1) rfl rfl hP hD hS rfl hl.1 rfl (Nat.le_of_ble_eq_true rfl) dL_law_521 (by show 98 + 46 * j + 23 ≤ 600000; omega) (by show 8097 + 940 * j + 470 ≤ 7302250; omega) (fun v wP1 H locs hv hP hD hS => ?_)
  obtain ⟨r1, rfl, hI1⟩ := hv
  refine W.eq (g2 := F0 m 524 ls [.int r1]) rfl ?_
  refine lv_pop hx hb dL_law_524 rfl ?_
  refine lv_aload_n hx hb dL_law_525 rfl (lv_at hl 1 rfl) ?_
  have hP := hP.perm (List.perm_append_comm (l₁ := wP1) (l₂ := wM))
  have hD := hD.perm (List.perm_append_comm (l₁ := wP1) (l₂ := wM))
  refine cVr (wA := wM) (wB := wP1) (ci := 12) (a := m0) (As := []) (rest := []) ⟨hx, hb, hml, hown, hts⟩ hK hX hA (rd_m_undo l D tc sk m0 dr im ms RL) k_1411 k_1408 k_1409 k_1410 k_106 pl_X12_undo (Nat.le_of_ble_eq_true rfl) (Nat.le_of_ble_eq_true rfl) hI2 (MI.recv hI2) rfl rfl hP hD hS rfl hl.1 rfl (Nat.le_of_ble_eq_true rfl) dL_law_526 (by show 98 + 46 * j + 23 + 23 ≤ 600000; omega) (by show 8097 + 940 * j + 470 + 470 ≤ 7302250; omega) (fun v wM1 H locs hv hP hD hS => ?_)
  obtain ⟨r2, rfl, hI2⟩ := hv
  refine W.eq (g2 := F0 m 529 ls [.int r2]) rfl ?_
  refine lv_pop hx hb dL_law_529 rfl ?_
  refine lv_goto (tgt := 1186) hx hb dL_law_530 (by decide) ?_
  have hP := hP.perm (List.perm_append_comm (l₁ := wM1) (l₂ := wP1))
  have hD := hD.perm (List.perm_append_comm (l₁ := wM1) (l₂ := wP1))
  exact law_tail C hL hj IH (by omega) (by omega) ⟨dr, im, ts, ms, RL, hI1, hI2, hE, hG, hM⟩ hP hD hS hl
set_option maxHeartbeats 4000000 in
set_option maxRecDepth 100000 in
theorem law_13 {p : Program} {l : Launch} {e : Env} {s : State} {m : MethodId} {below : List Frame} {meth : Method} {c : Code} {D : va_G} {tc : Nat → ClassId} {sk : (Nat → Nat) × (Nat → Nat)} {A : Nat → Prop} {b : Nat} {xs : Nat → Int32} {L : Nat} {h0 m0 j : Nat} (C : LawCx p s m meth c D tc sk A b xs L) (hL : L ≤ 3072) (hj : 6 * j + 6 ≤ L) (IH : LawHead p l e s m below meth c D tc A b h0 m0 (j + 1)) {wP wM : va_W} {H : Heap} {locs : List Loc} {ls : Array Slot} (hI : LInv tc h0 m0 wP wM) (hP : va_P D classes (wP ++ wM) H) (hD : va_D A (wP ++ wM)) (hS : va_S A s.heap H locs) (hl : lv_has ls 4 [(3, .int (nI (6 * j))), (2, .ref m0), (1, .ref h0), (0, .ref b)]) : W p l e room_1 s m #[Value.ref b] below meth c H locs (98 + 46 * j) (8097 + 940 * j) (lw_Z below #[Value.ref b] s) (F0 m 533 ls []) := by
  obtain ⟨hx, hb, hr, hlk, hml, hown, hts, hK, hX, hA, hAl, hXs, hbl, hbA⟩ := id C
  obtain ⟨dr, im, ts, ms, RL, hI1, hI2, hE, hG, hM⟩ := hI
  have hBy := PBI.tape hI1
  refine lv_aload_n hx hb dL_law_533 rfl (lv_at hl 2 rfl) ?_
  refine lv_aload_n hx hb dL_law_534 rfl (lv_at hl 3 rfl) ?_
  refine lv_iload_n hx hb dL_law_535 rfl (lv_at hl 0 rfl) ?_
  refine lv_iconst (v := 1) hx hb dL_law_536 (by decide) ?_
  refine lv_iadd hx hb dL_law_537 ?_
  refine lv_lit (v := nI (6 * j + 1)) (nI_addE (6 * j) 1 (6 * j + 1) rfl) ?_
  refine va_sld hx hb hXs hbl hbA hS (vp_in_nI (by omega) (by omega)) dL_law_538 ?_
  refine lv_lit (v := xs (6 * j + 1)) (by rw [nI_clamp (by omega)]) ?_
  refine lv_aload_n hx hb dL_law_539 rfl (lv_at hl 3 rfl) ?_
  refine lv_iload_n hx hb dL_law_540 rfl (lv_at hl 0 rfl) ?_
  refine lv_iconst (v := 2) hx hb dL_law_541 (by decide) ?_
  refine lv_iadd hx hb dL_law_542 ?_
  refine lv_lit (v := nI (6 * j + 2)) (nI_addE (6 * j) 2 (6 * j + 2) rfl) ?_
  refine va_sld hx hb hXs hbl hbA hS (vp_in_nI (by omega) (by omega)) dL_law_543 ?_
  refine lv_lit (v := xs (6 * j + 2)) (by rw [nI_clamp (by omega)]) ?_
  refine lv_aload_n hx hb dL_law_544 rfl (lv_at hl 3 rfl) ?_
  refine lv_iload_n hx hb dL_law_545 rfl (lv_at hl 0 rfl) ?_
  refine lv_iconst (v := 3) hx hb dL_law_546 (by decide) ?_
  refine lv_iadd hx hb dL_law_547 ?_
  refine lv_lit (v := nI (6 * j + 3)) (nI_addE (6 * j) 3 (6 * j + 3) rfl) ?_
  refine va_sld hx hb hXs hbl hbA hS (vp_in_nI (by omega) (by omega)) dL_law_548 ?_
  refine lv_lit (v := xs (6 * j + 3)) (by rw [nI_clamp (by omega)]) ?_
  refine cVr (wA := wP) (wB := wM) (ci := 11) (a := h0) (As := [.int (xs (6 * j + 1)), .int (xs (6 * j + 2)), .int (xs (6 * j + 3))]) (rest := []) ⟨hx, hb, hml, hown, hts⟩ hK hX hA (rd_x_ahead l D tc sk h0 dr im ts RL (xs (6 * j + 1)) (xs (6 * j + 2)) (xs (6 * j + 3))) k_809 k_806 k_807 k_808 k_95 pl_X11_ahead (Nat.le_of_ble_eq_true rfl) (Nat.le_of_ble_eq_true rfl) hI1 (PBI.recv hI1) rfl rfl hP hD hS rfl hl.1 rfl (Nat.le_of_ble_eq_true rfl) dL_law_549 (by show 98 + 46 * j + 23 ≤ 600000; omega) (by show 8097 + 940 * j + 470 ≤ 7302250; omega) (fun v wP1 H locs hv hP hD hS => ?_)
  obtain ⟨r1, rfl, hI1⟩ := hv
  refine W.eq (g2 := F0 m 552 ls [.int r1]) rfl ?_
  refine lv_pop hx hb dL_law_552 rfl ?_
  refine lv_aload_n hx hb dL_law_553 rfl (lv_at hl 1 rfl) ?_
  refine lv_aload_n hx hb dL_law_554 rfl (lv_at hl 3 rfl) ?_
  refine lv_iload_n hx hb dL_law_555 rfl (lv_at hl 0 rfl) ?_
  refine lv_iconst (v := 1) hx hb dL_law_556 (by decide) ?_
  refine lv_iadd hx hb dL_law_557 ?_
  refine lv_lit (v := nI (6 * j + 1)) (nI_addE (6 * j) 1 (6 * j + 1) rfl) ?_
  refine va_sld hx hb hXs hbl hbA hS (vp_in_nI (by omega) (by omega)) dL_law_558 ?_
  refine lv_lit (v := xs (6 * j + 1)) (by rw [nI_clamp (by omega)]) ?_
  refine lv_aload_n hx hb dL_law_559 rfl (lv_at hl 3 rfl) ?_
  refine lv_iload_n hx hb dL_law_560 rfl (lv_at hl 0 rfl) ?_
  refine lv_iconst (v := 2) hx hb dL_law_561 (by decide) ?_
  refine lv_iadd hx hb dL_law_562 ?_
  refine lv_lit (v := nI (6 * j + 2)) (nI_addE (6 * j) 2 (6 * j + 2) rfl) ?_
  refine va_sld hx hb hXs hbl hbA hS (vp_in_nI (by omega) (by omega)) dL_law_563 ?_
  refine lv_lit (v := xs (6 * j + 2)) (by rw [nI_clamp (by omega)]) ?_
  refine lv_aload_n hx hb dL_law_564 rfl (lv_at hl 3 rfl) ?_
  refine lv_iload_n hx hb dL_law_565 rfl (lv_at hl 0 rfl) ?_
  refine lv_iconst (v := 3) hx hb dL_law_566 (by decide) ?_
  refine lv_iadd hx hb dL_law_567 ?_
  refine lv_lit (v := nI (6 * j + 3)) (nI_addE (6 * j) 3 (6 * j + 3) rfl) ?_
  refine va_sld hx hb hXs hbl hbA hS (vp_in_nI (by omega) (by omega)) dL_law_568 ?_
  refine lv_lit (v := xs (6 * j + 3)) (by rw [nI_clamp (by omega)]) ?_
  have hP := hP.perm (List.perm_append_comm (l₁ := wP1) (l₂ := wM))
  have hD := hD.perm (List.perm_append_comm (l₁ := wP1) (l₂ := wM))
  refine cVr (wA := wM) (wB := wP1) (ci := 12) (a := m0) (As := [.int (xs (6 * j + 1)), .int (xs (6 * j + 2)), .int (xs (6 * j + 3))]) (rest := []) ⟨hx, hb, hml, hown, hts⟩ hK hX hA (rd_m_ahead l D tc sk m0 dr im ms RL (xs (6 * j + 1)) (xs (6 * j + 2)) (xs (6 * j + 3))) k_1499 k_1496 k_1497 k_1498 k_106 pl_X12_ahead (Nat.le_of_ble_eq_true rfl) (Nat.le_of_ble_eq_true rfl) hI2 (MI.recv hI2) rfl rfl hP hD hS rfl hl.1 rfl (Nat.le_of_ble_eq_true rfl) dL_law_569 (by show 98 + 46 * j + 23 + 23 ≤ 600000; omega) (by show 8097 + 940 * j + 470 + 470 ≤ 7302250; omega) (fun v wM1 H locs hv hP hD hS => ?_)
  obtain ⟨r2, rfl, hI2⟩ := hv
  refine W.eq (g2 := F0 m 572 ls [.int r2]) rfl ?_
  refine lv_pop hx hb dL_law_572 rfl ?_
  refine lv_goto (tgt := 1186) hx hb dL_law_573 (by decide) ?_
  have hP := hP.perm (List.perm_append_comm (l₁ := wM1) (l₂ := wP1))
  have hD := hD.perm (List.perm_append_comm (l₁ := wM1) (l₂ := wP1))
  exact law_tail C hL hj IH (by omega) (by omega) ⟨dr, im, ts, ms, RL, hI1, hI2, hE, hG, hM⟩ hP hD hS hl
set_option maxHeartbeats 4000000 in
set_option maxRecDepth 100000 in
theorem law_14 {p : Program} {l : Launch} {e : Env} {s : State} {m : MethodId} {below : List Frame} {meth : Method} {c : Code} {D : va_G} {tc : Nat → ClassId} {sk : (Nat → Nat) × (Nat → Nat)} {A : Nat → Prop} {b : Nat} {xs : Nat → Int32} {L : Nat} {h0 m0 j : Nat} (C : LawCx p s m meth c D tc sk A b xs L) (hL : L ≤ 3072) (hj : 6 * j + 6 ≤ L) (IH : LawHead p l e s m below meth c D tc A b h0 m0 (j + 1)) {wP wM : va_W} {H : Heap} {locs : List Loc} {ls : Array Slot} (hI : LInv tc h0 m0 wP wM) (hP : va_P D classes (wP ++ wM) H) (hD : va_D A (wP ++ wM)) (hS : va_S A s.heap H locs) (hl : lv_has ls 4 [(3, .int (nI (6 * j))), (2, .ref m0), (1, .ref h0), (0, .ref b)]) : W p l e room_1 s m #[Value.ref b] below meth c H locs (98 + 46 * j) (8097 + 940 * j) (lw_Z below #[Value.ref b] s) (F0 m 576 ls []) := by
  obtain ⟨hx, hb, hr, hlk, hml, hown, hts, hK, hX, hA, hAl, hXs, hbl, hbA⟩ := id C
  obtain ⟨dr, im, ts, ms, RL, hI1, hI2, hE, hG, hM⟩ := hI
  have hBy := PBI.tape hI1
  refine lv_aload_n hx hb dL_law_576 rfl (lv_at hl 2 rfl) ?_
  refine lv_aload_n hx hb dL_law_577 rfl (lv_at hl 3 rfl) ?_
  refine lv_iload_n hx hb dL_law_578 rfl (lv_at hl 0 rfl) ?_
  refine lv_iconst (v := 1) hx hb dL_law_579 (by decide) ?_
  refine lv_iadd hx hb dL_law_580 ?_
  refine lv_lit (v := nI (6 * j + 1)) (nI_addE (6 * j) 1 (6 * j + 1) rfl) ?_
  refine va_sld hx hb hXs hbl hbA hS (vp_in_nI (by omega) (by omega)) dL_law_581 ?_
  refine lv_lit (v := xs (6 * j + 1)) (by rw [nI_clamp (by omega)]) ?_
  refine cVr (wA := wP) (wB := wM) (ci := 11) (a := h0) (As := [.int (xs (6 * j + 1))]) (rest := []) ⟨hx, hb, hml, hown, hts⟩ hK hX hA (rd_x_buys l D tc sk h0 dr im ts RL (xs (6 * j + 1))) k_824 k_821 k_822 k_823 k_95 pl_X11_buys (Nat.le_of_ble_eq_true rfl) (Nat.le_of_ble_eq_true rfl) hI1 (PBI.recv hI1) rfl rfl hP hD hS rfl hl.1 rfl (Nat.le_of_ble_eq_true rfl) dL_law_582 (by show 98 + 46 * j + 23 ≤ 600000; omega) (by show 8097 + 940 * j + 470 ≤ 7302250; omega) (fun v wP1 H locs hv hP hD hS => ?_)
  obtain ⟨r1, rfl, hI1⟩ := hv
  refine W.eq (g2 := F0 m 585 ls [.int r1]) rfl ?_
  refine lv_pop hx hb dL_law_585 rfl ?_
  refine lv_aload_n hx hb dL_law_586 rfl (lv_at hl 1 rfl) ?_
  refine lv_aload_n hx hb dL_law_587 rfl (lv_at hl 3 rfl) ?_
  refine lv_iload_n hx hb dL_law_588 rfl (lv_at hl 0 rfl) ?_
  refine lv_iconst (v := 1) hx hb dL_law_589 (by decide) ?_
  refine lv_iadd hx hb dL_law_590 ?_
  refine lv_lit (v := nI (6 * j + 1)) (nI_addE (6 * j) 1 (6 * j + 1) rfl) ?_
  refine va_sld hx hb hXs hbl hbA hS (vp_in_nI (by omega) (by omega)) dL_law_591 ?_
  refine lv_lit (v := xs (6 * j + 1)) (by rw [nI_clamp (by omega)]) ?_
  have hP := hP.perm (List.perm_append_comm (l₁ := wP1) (l₂ := wM))
  have hD := hD.perm (List.perm_append_comm (l₁ := wP1) (l₂ := wM))
  refine cVr (wA := wM) (wB := wP1) (ci := 12) (a := m0) (As := [.int (xs (6 * j + 1))]) (rest := []) ⟨hx, hb, hml, hown, hts⟩ hK hX hA (rd_m_buys l D tc sk m0 dr im ms RL (xs (6 * j + 1))) k_1517 k_1514 k_1515 k_1516 k_106 pl_X12_buys (Nat.le_of_ble_eq_true rfl) (Nat.le_of_ble_eq_true rfl) hI2 (MI.recv hI2) rfl rfl hP hD hS rfl hl.1 rfl (Nat.le_of_ble_eq_true rfl) dL_law_592 (by show 98 + 46 * j + 23 + 23 ≤ 600000; omega) (by show 8097 + 940 * j + 470 + 470 ≤ 7302250; omega) (fun v wM1 H locs hv hP hD hS => ?_)
  obtain ⟨r2, rfl, hI2⟩ := hv
  refine W.eq (g2 := F0 m 595 ls [.int r2]) rfl ?_
  refine lv_pop hx hb dL_law_595 rfl ?_
  refine lv_goto (tgt := 1186) hx hb dL_law_596 (by decide) ?_
  have hP := hP.perm (List.perm_append_comm (l₁ := wM1) (l₂ := wP1))
  have hD := hD.perm (List.perm_append_comm (l₁ := wM1) (l₂ := wP1))
  exact law_tail C hL hj IH (by omega) (by omega) ⟨dr, im, ts, ms, RL, hI1, hI2, hE, hG, hM⟩ hP hD hS hl
set_option maxHeartbeats 4000000 in
set_option maxRecDepth 100000 in
theorem law_15 {p : Program} {l : Launch} {e : Env} {s : State} {m : MethodId} {below : List Frame} {meth : Method} {c : Code} {D : va_G} {tc : Nat → ClassId} {sk : (Nat → Nat) × (Nat → Nat)} {A : Nat → Prop} {b : Nat} {xs : Nat → Int32} {L : Nat} {h0 m0 j : Nat} (C : LawCx p s m meth c D tc sk A b xs L) (hL : L ≤ 3072) (hj : 6 * j + 6 ≤ L) (IH : LawHead p l e s m below meth c D tc A b h0 m0 (j + 1)) {wP wM : va_W} {H : Heap} {locs : List Loc} {ls : Array Slot} (hI : LInv tc h0 m0 wP wM) (hP : va_P D classes (wP ++ wM) H) (hD : va_D A (wP ++ wM)) (hS : va_S A s.heap H locs) (hl : lv_has ls 4 [(3, .int (nI (6 * j))), (2, .ref m0), (1, .ref h0), (0, .ref b)]) : W p l e room_1 s m #[Value.ref b] below meth c H locs (98 + 46 * j) (8097 + 940 * j) (lw_Z below #[Value.ref b] s) (F0 m 599 ls []) := by
  obtain ⟨hx, hb, hr, hlk, hml, hown, hts, hK, hX, hA, hAl, hXs, hbl, hbA⟩ := id C
  obtain ⟨dr, im, ts, ms, RL, hI1, hI2, hE, hG, hM⟩ := hI
  have hBy := PBI.tape hI1
  refine lv_aload_n hx hb dL_law_599 rfl (lv_at hl 2 rfl) ?_
  refine cVr (wA := wP) (wB := wM) (ci := 11) (a := h0) (As := []) (rest := []) ⟨hx, hb, hml, hown, hts⟩ hK hX hA (rd_x_empty l D tc sk h0 dr im ts RL) k_833 k_830 k_831 k_832 k_95 pl_X11_empty (Nat.le_of_ble_eq_true rfl) (Nat.le_of_ble_eq_true rfl) hI1 (PBI.recv hI1) rfl rfl hP hD hS rfl hl.1 rfl (Nat.le_of_ble_eq_true rfl) dL_law_600 (by show 98 + 46 * j + 23 ≤ 600000; omega) (by show 8097 + 940 * j + 470 ≤ 7302250; omega) (fun v wP1 H locs hv hP hD hS => ?_)
  obtain ⟨r1, rfl, hI1⟩ := hv
  refine W.eq (g2 := F0 m 603 ls [.int r1]) rfl ?_
  refine lv_pop hx hb dL_law_603 rfl ?_
  refine lv_aload_n hx hb dL_law_604 rfl (lv_at hl 1 rfl) ?_
  have hP := hP.perm (List.perm_append_comm (l₁ := wP1) (l₂ := wM))
  have hD := hD.perm (List.perm_append_comm (l₁ := wP1) (l₂ := wM))
  refine cVr (wA := wM) (wB := wP1) (ci := 12) (a := m0) (As := []) (rest := []) ⟨hx, hb, hml, hown, hts⟩ hK hX hA (rd_m_empty l D tc sk m0 dr im ms RL) k_1525 k_1522 k_1523 k_1524 k_106 pl_X12_empty (Nat.le_of_ble_eq_true rfl) (Nat.le_of_ble_eq_true rfl) hI2 (MI.recv hI2) rfl rfl hP hD hS rfl hl.1 rfl (Nat.le_of_ble_eq_true rfl) dL_law_605 (by show 98 + 46 * j + 23 + 23 ≤ 600000; omega) (by show 8097 + 940 * j + 470 + 470 ≤ 7302250; omega) (fun v wM1 H locs hv hP hD hS => ?_)
  obtain ⟨r2, rfl, hI2⟩ := hv
  refine W.eq (g2 := F0 m 608 ls [.int r2]) rfl ?_
  refine lv_pop hx hb dL_law_608 rfl ?_
  refine lv_goto (tgt := 1186) hx hb dL_law_609 (by decide) ?_
  have hP := hP.perm (List.perm_append_comm (l₁ := wM1) (l₂ := wP1))
  have hD := hD.perm (List.perm_append_comm (l₁ := wM1) (l₂ := wP1))
  exact law_tail C hL hj IH (by omega) (by omega) ⟨dr, im, ts, ms, RL, hI1, hI2, hE, hG, hM⟩ hP hD hS hl
set_option maxHeartbeats 4000000 in
set_option maxRecDepth 100000 in
theorem law_16 {p : Program} {l : Launch} {e : Env} {s : State} {m : MethodId} {below : List Frame} {meth : Method} {c : Code} {D : va_G} {tc : Nat → ClassId} {sk : (Nat → Nat) × (Nat → Nat)} {A : Nat → Prop} {b : Nat} {xs : Nat → Int32} {L : Nat} {h0 m0 j : Nat} (C : LawCx p s m meth c D tc sk A b xs L) (hL : L ≤ 3072) (hj : 6 * j + 6 ≤ L) (IH : LawHead p l e s m below meth c D tc A b h0 m0 (j + 1)) {wP wM : va_W} {H : Heap} {locs : List Loc} {ls : Array Slot} (hI : LInv tc h0 m0 wP wM) (hP : va_P D classes (wP ++ wM) H) (hD : va_D A (wP ++ wM)) (hS : va_S A s.heap H locs) (hl : lv_has ls 4 [(3, .int (nI (6 * j))), (2, .ref m0), (1, .ref h0), (0, .ref b)]) : W p l e room_1 s m #[Value.ref b] below meth c H locs (98 + 46 * j) (8097 + 940 * j) (lw_Z below #[Value.ref b] s) (F0 m 612 ls []) := by
  obtain ⟨hx, hb, hr, hlk, hml, hown, hts, hK, hX, hA, hAl, hXs, hbl, hbA⟩ := id C
  obtain ⟨dr, im, ts, ms, RL, hI1, hI2, hE, hG, hM⟩ := hI
  have hBy := PBI.tape hI1
  refine lv_aload_n hx hb dL_law_612 rfl (lv_at hl 2 rfl) ?_
  refine lv_aload_n hx hb dL_law_613 rfl (lv_at hl 3 rfl) ?_
  refine lv_iload_n hx hb dL_law_614 rfl (lv_at hl 0 rfl) ?_
  refine lv_iconst (v := 1) hx hb dL_law_615 (by decide) ?_
  refine lv_iadd hx hb dL_law_616 ?_
  refine lv_lit (v := nI (6 * j + 1)) (nI_addE (6 * j) 1 (6 * j + 1) rfl) ?_
  refine va_sld hx hb hXs hbl hbA hS (vp_in_nI (by omega) (by omega)) dL_law_617 ?_
  refine lv_lit (v := xs (6 * j + 1)) (by rw [nI_clamp (by omega)]) ?_
  refine lv_aload_n hx hb dL_law_618 rfl (lv_at hl 3 rfl) ?_
  refine lv_iload_n hx hb dL_law_619 rfl (lv_at hl 0 rfl) ?_
  refine lv_iconst (v := 2) hx hb dL_law_620 (by decide) ?_
  refine lv_iadd hx hb dL_law_621 ?_
  refine lv_lit (v := nI (6 * j + 2)) (nI_addE (6 * j) 2 (6 * j + 2) rfl) ?_
  refine va_sld hx hb hXs hbl hbA hS (vp_in_nI (by omega) (by omega)) dL_law_622 ?_
  refine lv_lit (v := xs (6 * j + 2)) (by rw [nI_clamp (by omega)]) ?_
  refine cVr (wA := wP) (wB := wM) (ci := 11) (a := h0) (As := [.int (xs (6 * j + 1)), .int (xs (6 * j + 2))]) (rest := []) ⟨hx, hb, hml, hown, hts⟩ hK hX hA (rd_x_tells l D tc sk h0 dr im ts RL (xs (6 * j + 1)) (xs (6 * j + 2))) k_841 k_838 k_839 k_840 k_95 pl_X11_tells (Nat.le_of_ble_eq_true rfl) (Nat.le_of_ble_eq_true rfl) hI1 (PBI.recv hI1) rfl rfl hP hD hS rfl hl.1 rfl (Nat.le_of_ble_eq_true rfl) dL_law_623 (by show 98 + 46 * j + 23 ≤ 600000; omega) (by show 8097 + 940 * j + 470 ≤ 7302250; omega) (fun v wP1 H locs hv hP hD hS => ?_)
  obtain ⟨r1, rfl, hI1⟩ := hv
  refine W.eq (g2 := F0 m 626 ls [.int r1]) rfl ?_
  refine lv_pop hx hb dL_law_626 rfl ?_
  refine lv_aload_n hx hb dL_law_627 rfl (lv_at hl 1 rfl) ?_
  refine lv_aload_n hx hb dL_law_628 rfl (lv_at hl 3 rfl) ?_
  refine lv_iload_n hx hb dL_law_629 rfl (lv_at hl 0 rfl) ?_
  refine lv_iconst (v := 1) hx hb dL_law_630 (by decide) ?_
  refine lv_iadd hx hb dL_law_631 ?_
  refine lv_lit (v := nI (6 * j + 1)) (nI_addE (6 * j) 1 (6 * j + 1) rfl) ?_
  refine va_sld hx hb hXs hbl hbA hS (vp_in_nI (by omega) (by omega)) dL_law_632 ?_
  refine lv_lit (v := xs (6 * j + 1)) (by rw [nI_clamp (by omega)]) ?_
  refine lv_aload_n hx hb dL_law_633 rfl (lv_at hl 3 rfl) ?_
  refine lv_iload_n hx hb dL_law_634 rfl (lv_at hl 0 rfl) ?_
  refine lv_iconst (v := 2) hx hb dL_law_635 (by decide) ?_
  refine lv_iadd hx hb dL_law_636 ?_
  refine lv_lit (v := nI (6 * j + 2)) (nI_addE (6 * j) 2 (6 * j + 2) rfl) ?_
  refine va_sld hx hb hXs hbl hbA hS (vp_in_nI (by omega) (by omega)) dL_law_637 ?_
  refine lv_lit (v := xs (6 * j + 2)) (by rw [nI_clamp (by omega)]) ?_
  have hP := hP.perm (List.perm_append_comm (l₁ := wP1) (l₂ := wM))
  have hD := hD.perm (List.perm_append_comm (l₁ := wP1) (l₂ := wM))
  refine cVr (wA := wM) (wB := wP1) (ci := 12) (a := m0) (As := [.int (xs (6 * j + 1)), .int (xs (6 * j + 2))]) (rest := []) ⟨hx, hb, hml, hown, hts⟩ hK hX hA (rd_m_tells l D tc sk m0 dr im ms RL (xs (6 * j + 1)) (xs (6 * j + 2))) k_1529 k_1526 k_1527 k_1528 k_106 pl_X12_tells (Nat.le_of_ble_eq_true rfl) (Nat.le_of_ble_eq_true rfl) hI2 (MI.recv hI2) rfl rfl hP hD hS rfl hl.1 rfl (Nat.le_of_ble_eq_true rfl) dL_law_638 (by show 98 + 46 * j + 23 + 23 ≤ 600000; omega) (by show 8097 + 940 * j + 470 + 470 ≤ 7302250; omega) (fun v wM1 H locs hv hP hD hS => ?_)
  obtain ⟨r2, rfl, hI2⟩ := hv
  refine W.eq (g2 := F0 m 641 ls [.int r2]) rfl ?_
  refine lv_pop hx hb dL_law_641 rfl ?_
  refine lv_goto (tgt := 1186) hx hb dL_law_642 (by decide) ?_
  have hP := hP.perm (List.perm_append_comm (l₁ := wM1) (l₂ := wP1))
  have hD := hD.perm (List.perm_append_comm (l₁ := wM1) (l₂ := wP1))
  exact law_tail C hL hj IH (by omega) (by omega) ⟨dr, im, ts, ms, RL, hI1, hI2, hE, hG, hM⟩ hP hD hS hl
set_option maxHeartbeats 4000000 in
set_option maxRecDepth 100000 in
theorem law_17 {p : Program} {l : Launch} {e : Env} {s : State} {m : MethodId} {below : List Frame} {meth : Method} {c : Code} {D : va_G} {tc : Nat → ClassId} {sk : (Nat → Nat) × (Nat → Nat)} {A : Nat → Prop} {b : Nat} {xs : Nat → Int32} {L : Nat} {h0 m0 j : Nat} (C : LawCx p s m meth c D tc sk A b xs L) (hL : L ≤ 3072) (hj : 6 * j + 6 ≤ L) (IH : LawHead p l e s m below meth c D tc A b h0 m0 (j + 1)) {wP wM : va_W} {H : Heap} {locs : List Loc} {ls : Array Slot} (hI : LInv tc h0 m0 wP wM) (hP : va_P D classes (wP ++ wM) H) (hD : va_D A (wP ++ wM)) (hS : va_S A s.heap H locs) (hl : lv_has ls 4 [(3, .int (nI (6 * j))), (2, .ref m0), (1, .ref h0), (0, .ref b)]) : W p l e room_1 s m #[Value.ref b] below meth c H locs (98 + 46 * j) (8097 + 940 * j) (lw_Z below #[Value.ref b] s) (F0 m 645 ls []) := by
  obtain ⟨hx, hb, hr, hlk, hml, hown, hts, hK, hX, hA, hAl, hXs, hbl, hbA⟩ := id C
  obtain ⟨dr, im, ts, ms, RL, hI1, hI2, hE, hG, hM⟩ := hI
  have hBy := PBI.tape hI1
  refine lv_aload_n hx hb dL_law_645 rfl (lv_at hl 2 rfl) ?_
  refine lv_aload_n hx hb dL_law_646 rfl (lv_at hl 3 rfl) ?_
  refine lv_iload_n hx hb dL_law_647 rfl (lv_at hl 0 rfl) ?_
  refine lv_iconst (v := 1) hx hb dL_law_648 (by decide) ?_
  refine lv_iadd hx hb dL_law_649 ?_
  refine lv_lit (v := nI (6 * j + 1)) (nI_addE (6 * j) 1 (6 * j + 1) rfl) ?_
  refine va_sld hx hb hXs hbl hbA hS (vp_in_nI (by omega) (by omega)) dL_law_650 ?_
  refine lv_lit (v := xs (6 * j + 1)) (by rw [nI_clamp (by omega)]) ?_
  refine lv_aload_n hx hb dL_law_651 rfl (lv_at hl 3 rfl) ?_
  refine lv_iload_n hx hb dL_law_652 rfl (lv_at hl 0 rfl) ?_
  refine lv_iconst (v := 2) hx hb dL_law_653 (by decide) ?_
  refine lv_iadd hx hb dL_law_654 ?_
  refine lv_lit (v := nI (6 * j + 2)) (nI_addE (6 * j) 2 (6 * j + 2) rfl) ?_
  refine va_sld hx hb hXs hbl hbA hS (vp_in_nI (by omega) (by omega)) dL_law_655 ?_
  refine lv_lit (v := xs (6 * j + 2)) (by rw [nI_clamp (by omega)]) ?_
  refine cVr (wA := wP) (wB := wM) (ci := 11) (a := h0) (As := [.int (xs (6 * j + 1)), .int (xs (6 * j + 2))]) (rest := []) ⟨hx, hb, hml, hown, hts⟩ hK hX hA (rd_x_guard l D tc sk h0 dr im ts RL (xs (6 * j + 1)) (xs (6 * j + 2))) k_860 k_857 k_858 k_859 k_95 pl_X11_guard (Nat.le_of_ble_eq_true rfl) (Nat.le_of_ble_eq_true rfl) hI1 (PBI.recv hI1) rfl rfl hP hD hS rfl hl.1 rfl (Nat.le_of_ble_eq_true rfl) dL_law_656 (by show 98 + 46 * j + 23 ≤ 600000; omega) (by show 8097 + 940 * j + 470 ≤ 7302250; omega) (fun v wP1 H locs hv hP hD hS => ?_)
  obtain ⟨r1, rfl, hI1⟩ := hv
  refine W.eq (g2 := F0 m 659 ls [.int r1]) rfl ?_
  refine lv_pop hx hb dL_law_659 rfl ?_
  refine lv_aload_n hx hb dL_law_660 rfl (lv_at hl 1 rfl) ?_
  refine lv_aload_n hx hb dL_law_661 rfl (lv_at hl 3 rfl) ?_
  refine lv_iload_n hx hb dL_law_662 rfl (lv_at hl 0 rfl) ?_
  refine lv_iconst (v := 1) hx hb dL_law_663 (by decide) ?_
  refine lv_iadd hx hb dL_law_664 ?_
  refine lv_lit (v := nI (6 * j + 1)) (nI_addE (6 * j) 1 (6 * j + 1) rfl) ?_
  refine va_sld hx hb hXs hbl hbA hS (vp_in_nI (by omega) (by omega)) dL_law_665 ?_
  refine lv_lit (v := xs (6 * j + 1)) (by rw [nI_clamp (by omega)]) ?_
  refine lv_aload_n hx hb dL_law_666 rfl (lv_at hl 3 rfl) ?_
  refine lv_iload_n hx hb dL_law_667 rfl (lv_at hl 0 rfl) ?_
  refine lv_iconst (v := 2) hx hb dL_law_668 (by decide) ?_
  refine lv_iadd hx hb dL_law_669 ?_
  refine lv_lit (v := nI (6 * j + 2)) (nI_addE (6 * j) 2 (6 * j + 2) rfl) ?_
  refine va_sld hx hb hXs hbl hbA hS (vp_in_nI (by omega) (by omega)) dL_law_670 ?_
  refine lv_lit (v := xs (6 * j + 2)) (by rw [nI_clamp (by omega)]) ?_
  have hP := hP.perm (List.perm_append_comm (l₁ := wP1) (l₂ := wM))
  have hD := hD.perm (List.perm_append_comm (l₁ := wP1) (l₂ := wM))
  refine cVr (wA := wM) (wB := wP1) (ci := 12) (a := m0) (As := [.int (xs (6 * j + 1)), .int (xs (6 * j + 2))]) (rest := []) ⟨hx, hb, hml, hown, hts⟩ hK hX hA (rd_m_guard l D tc sk m0 dr im ms RL (xs (6 * j + 1)) (xs (6 * j + 2))) k_1539 k_1536 k_1537 k_1538 k_106 pl_X12_guard (Nat.le_of_ble_eq_true rfl) (Nat.le_of_ble_eq_true rfl) hI2 (MI.recv hI2) rfl rfl hP hD hS rfl hl.1 rfl (Nat.le_of_ble_eq_true rfl) dL_law_671 (by show 98 + 46 * j + 23 + 23 ≤ 600000; omega) (by show 8097 + 940 * j + 470 + 470 ≤ 7302250; omega) (fun v wM1 H locs hv hP hD hS => ?_)
  obtain ⟨r2, rfl, hI2⟩ := hv
  refine W.eq (g2 := F0 m 674 ls [.int r2]) rfl ?_
  refine lv_pop hx hb dL_law_674 rfl ?_
  refine lv_goto (tgt := 1186) hx hb dL_law_675 (by decide) ?_
  have hP := hP.perm (List.perm_append_comm (l₁ := wM1) (l₂ := wP1))
  have hD := hD.perm (List.perm_append_comm (l₁ := wM1) (l₂ := wP1))
  exact law_tail C hL hj IH (by omega) (by omega) ⟨dr, im, ts, ms, RL, hI1, hI2, hE, hG, hM⟩ hP hD hS hl
set_option maxHeartbeats 4000000 in
set_option maxRecDepth 100000 in
theorem law_18 {p : Program} {l : Launch} {e : Env} {s : State} {m : MethodId} {below : List Frame} {meth : Method} {c : Code} {D : va_G} {tc : Nat → ClassId} {sk : (Nat → Nat) × (Nat → Nat)} {A : Nat → Prop} {b : Nat} {xs : Nat → Int32} {L : Nat} {h0 m0 j : Nat} (C : LawCx p s m meth c D tc sk A b xs L) (hL : L ≤ 3072) (hj : 6 * j + 6 ≤ L) (IH : LawHead p l e s m below meth c D tc A b h0 m0 (j + 1)) {wP wM : va_W} {H : Heap} {locs : List Loc} {ls : Array Slot} (hI : LInv tc h0 m0 wP wM) (hP : va_P D classes (wP ++ wM) H) (hD : va_D A (wP ++ wM)) (hS : va_S A s.heap H locs) (hl : lv_has ls 4 [(3, .int (nI (6 * j))), (2, .ref m0), (1, .ref h0), (0, .ref b)]) : W p l e room_1 s m #[Value.ref b] below meth c H locs (98 + 46 * j) (8097 + 940 * j) (lw_Z below #[Value.ref b] s) (F0 m 678 ls []) := by
  obtain ⟨hx, hb, hr, hlk, hml, hown, hts, hK, hX, hA, hAl, hXs, hbl, hbA⟩ := id C
  obtain ⟨dr, im, ts, ms, RL, hI1, hI2, hE, hG, hM⟩ := hI
  have hBy := PBI.tape hI1
  refine lv_aload_n hx hb dL_law_678 rfl (lv_at hl 2 rfl) ?_
  refine lv_aload_n hx hb dL_law_679 rfl (lv_at hl 3 rfl) ?_
  refine lv_iload_n hx hb dL_law_680 rfl (lv_at hl 0 rfl) ?_
  refine lv_iconst (v := 1) hx hb dL_law_681 (by decide) ?_
  refine lv_iadd hx hb dL_law_682 ?_
  refine lv_lit (v := nI (6 * j + 1)) (nI_addE (6 * j) 1 (6 * j + 1) rfl) ?_
  refine va_sld hx hb hXs hbl hbA hS (vp_in_nI (by omega) (by omega)) dL_law_683 ?_
  refine lv_lit (v := xs (6 * j + 1)) (by rw [nI_clamp (by omega)]) ?_
  refine lv_aload_n hx hb dL_law_684 rfl (lv_at hl 3 rfl) ?_
  refine lv_iload_n hx hb dL_law_685 rfl (lv_at hl 0 rfl) ?_
  refine lv_iconst (v := 2) hx hb dL_law_686 (by decide) ?_
  refine lv_iadd hx hb dL_law_687 ?_
  refine lv_lit (v := nI (6 * j + 2)) (nI_addE (6 * j) 2 (6 * j + 2) rfl) ?_
  refine va_sld hx hb hXs hbl hbA hS (vp_in_nI (by omega) (by omega)) dL_law_688 ?_
  refine lv_lit (v := xs (6 * j + 2)) (by rw [nI_clamp (by omega)]) ?_
  refine cVr (wA := wP) (wB := wM) (ci := 11) (a := h0) (As := [.int (xs (6 * j + 1)), .int (xs (6 * j + 2))]) (rest := []) ⟨hx, hb, hml, hown, hts⟩ hK hX hA (rd_x_best l D tc sk h0 dr im ts RL (xs (6 * j + 1)) (xs (6 * j + 2))) k_880 k_877 k_878 k_879 k_95 pl_X11_best (Nat.le_of_ble_eq_true rfl) (Nat.le_of_ble_eq_true rfl) hI1 (PBI.recv hI1) rfl rfl hP hD hS rfl hl.1 rfl (Nat.le_of_ble_eq_true rfl) dL_law_689 (by show 98 + 46 * j + 23 ≤ 600000; omega) (by show 8097 + 940 * j + 470 ≤ 7302250; omega) (fun v wP1 H locs hv hP hD hS => ?_)
  obtain ⟨r1, rfl, hI1⟩ := hv
  refine W.eq (g2 := F0 m 692 ls [.int r1]) rfl ?_
  refine lv_pop hx hb dL_law_692 rfl ?_
  refine lv_aload_n hx hb dL_law_693 rfl (lv_at hl 1 rfl) ?_
  refine lv_aload_n hx hb dL_law_694 rfl (lv_at hl 3 rfl) ?_
  refine lv_iload_n hx hb dL_law_695 rfl (lv_at hl 0 rfl) ?_
  refine lv_iconst (v := 1) hx hb dL_law_696 (by decide) ?_
  refine lv_iadd hx hb dL_law_697 ?_
  refine lv_lit (v := nI (6 * j + 1)) (nI_addE (6 * j) 1 (6 * j + 1) rfl) ?_
  refine va_sld hx hb hXs hbl hbA hS (vp_in_nI (by omega) (by omega)) dL_law_698 ?_
  refine lv_lit (v := xs (6 * j + 1)) (by rw [nI_clamp (by omega)]) ?_
  refine lv_aload_n hx hb dL_law_699 rfl (lv_at hl 3 rfl) ?_
  refine lv_iload_n hx hb dL_law_700 rfl (lv_at hl 0 rfl) ?_
  refine lv_iconst (v := 2) hx hb dL_law_701 (by decide) ?_
  refine lv_iadd hx hb dL_law_702 ?_
  refine lv_lit (v := nI (6 * j + 2)) (nI_addE (6 * j) 2 (6 * j + 2) rfl) ?_
  refine va_sld hx hb hXs hbl hbA hS (vp_in_nI (by omega) (by omega)) dL_law_703 ?_
  refine lv_lit (v := xs (6 * j + 2)) (by rw [nI_clamp (by omega)]) ?_
  have hP := hP.perm (List.perm_append_comm (l₁ := wP1) (l₂ := wM))
  have hD := hD.perm (List.perm_append_comm (l₁ := wP1) (l₂ := wM))
  refine cVr (wA := wM) (wB := wP1) (ci := 12) (a := m0) (As := [.int (xs (6 * j + 1)), .int (xs (6 * j + 2))]) (rest := []) ⟨hx, hb, hml, hown, hts⟩ hK hX hA (rd_m_best l D tc sk m0 dr im ms RL (xs (6 * j + 1)) (xs (6 * j + 2))) k_1548 k_1545 k_1546 k_1547 k_106 pl_X12_best (Nat.le_of_ble_eq_true rfl) (Nat.le_of_ble_eq_true rfl) hI2 (MI.recv hI2) rfl rfl hP hD hS rfl hl.1 rfl (Nat.le_of_ble_eq_true rfl) dL_law_704 (by show 98 + 46 * j + 23 + 23 ≤ 600000; omega) (by show 8097 + 940 * j + 470 + 470 ≤ 7302250; omega) (fun v wM1 H locs hv hP hD hS => ?_)
  obtain ⟨r2, rfl, hI2⟩ := hv
  refine W.eq (g2 := F0 m 707 ls [.int r2]) rfl ?_
  refine lv_pop hx hb dL_law_707 rfl ?_
  refine lv_goto (tgt := 1186) hx hb dL_law_708 (by decide) ?_
  have hP := hP.perm (List.perm_append_comm (l₁ := wM1) (l₂ := wP1))
  have hD := hD.perm (List.perm_append_comm (l₁ := wM1) (l₂ := wP1))
  exact law_tail C hL hj IH (by omega) (by omega) ⟨dr, im, ts, ms, RL, hI1, hI2, hE, hG, hM⟩ hP hD hS hl
set_option maxHeartbeats 4000000 in
set_option maxRecDepth 100000 in
theorem law_19 {p : Program} {l : Launch} {e : Env} {s : State} {m : MethodId} {below : List Frame} {meth : Method} {c : Code} {D : va_G} {tc : Nat → ClassId} {sk : (Nat → Nat) × (Nat → Nat)} {A : Nat → Prop} {b : Nat} {xs : Nat → Int32} {L : Nat} {h0 m0 j : Nat} (C : LawCx p s m meth c D tc sk A b xs L) (hL : L ≤ 3072) (hj : 6 * j + 6 ≤ L) (IH : LawHead p l e s m below meth c D tc A b h0 m0 (j + 1)) {wP wM : va_W} {H : Heap} {locs : List Loc} {ls : Array Slot} (hI : LInv tc h0 m0 wP wM) (hP : va_P D classes (wP ++ wM) H) (hD : va_D A (wP ++ wM)) (hS : va_S A s.heap H locs) (hl : lv_has ls 4 [(3, .int (nI (6 * j))), (2, .ref m0), (1, .ref h0), (0, .ref b)]) : W p l e room_1 s m #[Value.ref b] below meth c H locs (98 + 46 * j) (8097 + 940 * j) (lw_Z below #[Value.ref b] s) (F0 m 711 ls []) := by
  obtain ⟨hx, hb, hr, hlk, hml, hown, hts, hK, hX, hA, hAl, hXs, hbl, hbA⟩ := id C
  obtain ⟨dr, im, ts, ms, RL, hI1, hI2, hE, hG, hM⟩ := hI
  have hBy := PBI.tape hI1
  refine lv_aload_n hx hb dL_law_711 rfl (lv_at hl 2 rfl) ?_
  refine lv_aload_n hx hb dL_law_712 rfl (lv_at hl 3 rfl) ?_
  refine lv_iload_n hx hb dL_law_713 rfl (lv_at hl 0 rfl) ?_
  refine lv_iconst (v := 1) hx hb dL_law_714 (by decide) ?_
  refine lv_iadd hx hb dL_law_715 ?_
  refine lv_lit (v := nI (6 * j + 1)) (nI_addE (6 * j) 1 (6 * j + 1) rfl) ?_
  refine va_sld hx hb hXs hbl hbA hS (vp_in_nI (by omega) (by omega)) dL_law_716 ?_
  refine lv_lit (v := xs (6 * j + 1)) (by rw [nI_clamp (by omega)]) ?_
  refine lv_aload_n hx hb dL_law_717 rfl (lv_at hl 3 rfl) ?_
  refine lv_iload_n hx hb dL_law_718 rfl (lv_at hl 0 rfl) ?_
  refine lv_iconst (v := 2) hx hb dL_law_719 (by decide) ?_
  refine lv_iadd hx hb dL_law_720 ?_
  refine lv_lit (v := nI (6 * j + 2)) (nI_addE (6 * j) 2 (6 * j + 2) rfl) ?_
  refine va_sld hx hb hXs hbl hbA hS (vp_in_nI (by omega) (by omega)) dL_law_721 ?_
  refine lv_lit (v := xs (6 * j + 2)) (by rw [nI_clamp (by omega)]) ?_
  refine cVr (wA := wP) (wB := wM) (ci := 11) (a := h0) (As := [.int (xs (6 * j + 1)), .int (xs (6 * j + 2))]) (rest := []) ⟨hx, hb, hml, hown, hts⟩ hK hX hA (rd_x_least l D tc sk h0 dr im ts RL (xs (6 * j + 1)) (xs (6 * j + 2))) k_889 k_886 k_887 k_888 k_95 pl_X11_least (Nat.le_of_ble_eq_true rfl) (Nat.le_of_ble_eq_true rfl) hI1 (PBI.recv hI1) rfl rfl hP hD hS rfl hl.1 rfl (Nat.le_of_ble_eq_true rfl) dL_law_722 (by show 98 + 46 * j + 23 ≤ 600000; omega) (by show 8097 + 940 * j + 470 ≤ 7302250; omega) (fun v wP1 H locs hv hP hD hS => ?_)
  obtain ⟨r1, rfl, hI1⟩ := hv
  refine W.eq (g2 := F0 m 725 ls [.int r1]) rfl ?_
  refine lv_pop hx hb dL_law_725 rfl ?_
  refine lv_aload_n hx hb dL_law_726 rfl (lv_at hl 1 rfl) ?_
  refine lv_aload_n hx hb dL_law_727 rfl (lv_at hl 3 rfl) ?_
  refine lv_iload_n hx hb dL_law_728 rfl (lv_at hl 0 rfl) ?_
  refine lv_iconst (v := 1) hx hb dL_law_729 (by decide) ?_
  refine lv_iadd hx hb dL_law_730 ?_
  refine lv_lit (v := nI (6 * j + 1)) (nI_addE (6 * j) 1 (6 * j + 1) rfl) ?_
  refine va_sld hx hb hXs hbl hbA hS (vp_in_nI (by omega) (by omega)) dL_law_731 ?_
  refine lv_lit (v := xs (6 * j + 1)) (by rw [nI_clamp (by omega)]) ?_
  refine lv_aload_n hx hb dL_law_732 rfl (lv_at hl 3 rfl) ?_
  refine lv_iload_n hx hb dL_law_733 rfl (lv_at hl 0 rfl) ?_
  refine lv_iconst (v := 2) hx hb dL_law_734 (by decide) ?_
  refine lv_iadd hx hb dL_law_735 ?_
  refine lv_lit (v := nI (6 * j + 2)) (nI_addE (6 * j) 2 (6 * j + 2) rfl) ?_
  refine va_sld hx hb hXs hbl hbA hS (vp_in_nI (by omega) (by omega)) dL_law_736 ?_
  refine lv_lit (v := xs (6 * j + 2)) (by rw [nI_clamp (by omega)]) ?_
  have hP := hP.perm (List.perm_append_comm (l₁ := wP1) (l₂ := wM))
  have hD := hD.perm (List.perm_append_comm (l₁ := wP1) (l₂ := wM))
  refine cVr (wA := wM) (wB := wP1) (ci := 12) (a := m0) (As := [.int (xs (6 * j + 1)), .int (xs (6 * j + 2))]) (rest := []) ⟨hx, hb, hml, hown, hts⟩ hK hX hA (rd_m_least l D tc sk m0 dr im ms RL (xs (6 * j + 1)) (xs (6 * j + 2))) k_1552 k_1549 k_1550 k_1551 k_106 pl_X12_least (Nat.le_of_ble_eq_true rfl) (Nat.le_of_ble_eq_true rfl) hI2 (MI.recv hI2) rfl rfl hP hD hS rfl hl.1 rfl (Nat.le_of_ble_eq_true rfl) dL_law_737 (by show 98 + 46 * j + 23 + 23 ≤ 600000; omega) (by show 8097 + 940 * j + 470 + 470 ≤ 7302250; omega) (fun v wM1 H locs hv hP hD hS => ?_)
  obtain ⟨r2, rfl, hI2⟩ := hv
  refine W.eq (g2 := F0 m 740 ls [.int r2]) rfl ?_
  refine lv_pop hx hb dL_law_740 rfl ?_
  refine lv_goto (tgt := 1186) hx hb dL_law_741 (by decide) ?_
  have hP := hP.perm (List.perm_append_comm (l₁ := wM1) (l₂ := wP1))
  have hD := hD.perm (List.perm_append_comm (l₁ := wM1) (l₂ := wP1))
  exact law_tail C hL hj IH (by omega) (by omega) ⟨dr, im, ts, ms, RL, hI1, hI2, hE, hG, hM⟩ hP hD hS hl
set_option maxHeartbeats 4000000 in
set_option maxRecDepth 100000 in
theorem law_20 {p : Program} {l : Launch} {e : Env} {s : State} {m : MethodId} {below : List Frame} {meth : Method} {c : Code} {D : va_G} {tc : Nat → ClassId} {sk : (Nat → Nat) × (Nat → Nat)} {A : Nat → Prop} {b : Nat} {xs : Nat → Int32} {L : Nat} {h0 m0 j : Nat} (C : LawCx p s m meth c D tc sk A b xs L) (hL : L ≤ 3072) (hj : 6 * j + 6 ≤ L) (IH : LawHead p l e s m below meth c D tc A b h0 m0 (j + 1)) {wP wM : va_W} {H : Heap} {locs : List Loc} {ls : Array Slot} (hI : LInv tc h0 m0 wP wM) (hP : va_P D classes (wP ++ wM) H) (hD : va_D A (wP ++ wM)) (hS : va_S A s.heap H locs) (hl : lv_has ls 4 [(3, .int (nI (6 * j))), (2, .ref m0), (1, .ref h0), (0, .ref b)]) : W p l e room_1 s m #[Value.ref b] below meth c H locs (98 + 46 * j) (8097 + 940 * j) (lw_Z below #[Value.ref b] s) (F0 m 744 ls []) := by
  obtain ⟨hx, hb, hr, hlk, hml, hown, hts, hK, hX, hA, hAl, hXs, hbl, hbA⟩ := id C
  obtain ⟨dr, im, ts, ms, RL, hI1, hI2, hE, hG, hM⟩ := hI
  have hBy := PBI.tape hI1
  refine lv_aload_n hx hb dL_law_744 rfl (lv_at hl 2 rfl) ?_
  refine lv_aload_n hx hb dL_law_745 rfl (lv_at hl 3 rfl) ?_
  refine lv_iload_n hx hb dL_law_746 rfl (lv_at hl 0 rfl) ?_
  refine lv_iconst (v := 1) hx hb dL_law_747 (by decide) ?_
  refine lv_iadd hx hb dL_law_748 ?_
  refine lv_lit (v := nI (6 * j + 1)) (nI_addE (6 * j) 1 (6 * j + 1) rfl) ?_
  refine va_sld hx hb hXs hbl hbA hS (vp_in_nI (by omega) (by omega)) dL_law_749 ?_
  refine lv_lit (v := xs (6 * j + 1)) (by rw [nI_clamp (by omega)]) ?_
  refine lv_aload_n hx hb dL_law_750 rfl (lv_at hl 3 rfl) ?_
  refine lv_iload_n hx hb dL_law_751 rfl (lv_at hl 0 rfl) ?_
  refine lv_iconst (v := 2) hx hb dL_law_752 (by decide) ?_
  refine lv_iadd hx hb dL_law_753 ?_
  refine lv_lit (v := nI (6 * j + 2)) (nI_addE (6 * j) 2 (6 * j + 2) rfl) ?_
  refine va_sld hx hb hXs hbl hbA hS (vp_in_nI (by omega) (by omega)) dL_law_754 ?_
  refine lv_lit (v := xs (6 * j + 2)) (by rw [nI_clamp (by omega)]) ?_
  refine cVr (wA := wP) (wB := wM) (ci := 11) (a := h0) (As := [.int (xs (6 * j + 1)), .int (xs (6 * j + 2))]) (rest := []) ⟨hx, hb, hml, hown, hts⟩ hK hX hA (rd_x_soothe l D tc sk h0 dr im ts RL (xs (6 * j + 1)) (xs (6 * j + 2))) k_898 k_895 k_896 k_897 k_95 pl_X11_soothe (Nat.le_of_ble_eq_true rfl) (Nat.le_of_ble_eq_true rfl) hI1 (PBI.recv hI1) rfl rfl hP hD hS rfl hl.1 rfl (Nat.le_of_ble_eq_true rfl) dL_law_755 (by show 98 + 46 * j + 23 ≤ 600000; omega) (by show 8097 + 940 * j + 470 ≤ 7302250; omega) (fun v wP1 H locs hv hP hD hS => ?_)
  obtain ⟨r1, rfl, hI1⟩ := hv
  refine W.eq (g2 := F0 m 758 ls [.int r1]) rfl ?_
  refine lv_pop hx hb dL_law_758 rfl ?_
  refine lv_aload_n hx hb dL_law_759 rfl (lv_at hl 1 rfl) ?_
  refine lv_aload_n hx hb dL_law_760 rfl (lv_at hl 3 rfl) ?_
  refine lv_iload_n hx hb dL_law_761 rfl (lv_at hl 0 rfl) ?_
  refine lv_iconst (v := 1) hx hb dL_law_762 (by decide) ?_
  refine lv_iadd hx hb dL_law_763 ?_
  refine lv_lit (v := nI (6 * j + 1)) (nI_addE (6 * j) 1 (6 * j + 1) rfl) ?_
  refine va_sld hx hb hXs hbl hbA hS (vp_in_nI (by omega) (by omega)) dL_law_764 ?_
  refine lv_lit (v := xs (6 * j + 1)) (by rw [nI_clamp (by omega)]) ?_
  refine lv_aload_n hx hb dL_law_765 rfl (lv_at hl 3 rfl) ?_
  refine lv_iload_n hx hb dL_law_766 rfl (lv_at hl 0 rfl) ?_
  refine lv_iconst (v := 2) hx hb dL_law_767 (by decide) ?_
  refine lv_iadd hx hb dL_law_768 ?_
  refine lv_lit (v := nI (6 * j + 2)) (nI_addE (6 * j) 2 (6 * j + 2) rfl) ?_
  refine va_sld hx hb hXs hbl hbA hS (vp_in_nI (by omega) (by omega)) dL_law_769 ?_
  refine lv_lit (v := xs (6 * j + 2)) (by rw [nI_clamp (by omega)]) ?_
  have hP := hP.perm (List.perm_append_comm (l₁ := wP1) (l₂ := wM))
  have hD := hD.perm (List.perm_append_comm (l₁ := wP1) (l₂ := wM))
  refine cVr (wA := wM) (wB := wP1) (ci := 12) (a := m0) (As := [.int (xs (6 * j + 1)), .int (xs (6 * j + 2))]) (rest := []) ⟨hx, hb, hml, hown, hts⟩ hK hX hA (rd_m_soothe l D tc sk m0 dr im ms RL (xs (6 * j + 1)) (xs (6 * j + 2))) k_1557 k_1554 k_1555 k_1556 k_106 pl_X12_soothe (Nat.le_of_ble_eq_true rfl) (Nat.le_of_ble_eq_true rfl) hI2 (MI.recv hI2) rfl rfl hP hD hS rfl hl.1 rfl (Nat.le_of_ble_eq_true rfl) dL_law_770 (by show 98 + 46 * j + 23 + 23 ≤ 600000; omega) (by show 8097 + 940 * j + 470 + 470 ≤ 7302250; omega) (fun v wM1 H locs hv hP hD hS => ?_)
  obtain ⟨r2, rfl, hI2⟩ := hv
  refine W.eq (g2 := F0 m 773 ls [.int r2]) rfl ?_
  refine lv_pop hx hb dL_law_773 rfl ?_
  refine lv_goto (tgt := 1186) hx hb dL_law_774 (by decide) ?_
  have hP := hP.perm (List.perm_append_comm (l₁ := wM1) (l₂ := wP1))
  have hD := hD.perm (List.perm_append_comm (l₁ := wM1) (l₂ := wP1))
  exact law_tail C hL hj IH (by omega) (by omega) ⟨dr, im, ts, ms, RL, hI1, hI2, hE, hG, hM⟩ hP hD hS hl
set_option maxHeartbeats 4000000 in
set_option maxRecDepth 100000 in
theorem law_21 {p : Program} {l : Launch} {e : Env} {s : State} {m : MethodId} {below : List Frame} {meth : Method} {c : Code} {D : va_G} {tc : Nat → ClassId} {sk : (Nat → Nat) × (Nat → Nat)} {A : Nat → Prop} {b : Nat} {xs : Nat → Int32} {L : Nat} {h0 m0 j : Nat} (C : LawCx p s m meth c D tc sk A b xs L) (hL : L ≤ 3072) (hj : 6 * j + 6 ≤ L) (IH : LawHead p l e s m below meth c D tc A b h0 m0 (j + 1)) {wP wM : va_W} {H : Heap} {locs : List Loc} {ls : Array Slot} (hI : LInv tc h0 m0 wP wM) (hP : va_P D classes (wP ++ wM) H) (hD : va_D A (wP ++ wM)) (hS : va_S A s.heap H locs) (hl : lv_has ls 4 [(3, .int (nI (6 * j))), (2, .ref m0), (1, .ref h0), (0, .ref b)]) : W p l e room_1 s m #[Value.ref b] below meth c H locs (98 + 46 * j) (8097 + 940 * j) (lw_Z below #[Value.ref b] s) (F0 m 777 ls []) := by
  obtain ⟨hx, hb, hr, hlk, hml, hown, hts, hK, hX, hA, hAl, hXs, hbl, hbA⟩ := id C
  obtain ⟨dr, im, ts, ms, RL, hI1, hI2, hE, hG, hM⟩ := hI
  have hBy := PBI.tape hI1
  refine lv_aload_n hx hb dL_law_777 rfl (lv_at hl 2 rfl) ?_
  refine lv_aload_n hx hb dL_law_778 rfl (lv_at hl 3 rfl) ?_
  refine lv_iload_n hx hb dL_law_779 rfl (lv_at hl 0 rfl) ?_
  refine lv_iconst (v := 1) hx hb dL_law_780 (by decide) ?_
  refine lv_iadd hx hb dL_law_781 ?_
  refine lv_lit (v := nI (6 * j + 1)) (nI_addE (6 * j) 1 (6 * j + 1) rfl) ?_
  refine va_sld hx hb hXs hbl hbA hS (vp_in_nI (by omega) (by omega)) dL_law_782 ?_
  refine lv_lit (v := xs (6 * j + 1)) (by rw [nI_clamp (by omega)]) ?_
  refine lv_aload_n hx hb dL_law_783 rfl (lv_at hl 3 rfl) ?_
  refine lv_iload_n hx hb dL_law_784 rfl (lv_at hl 0 rfl) ?_
  refine lv_iconst (v := 2) hx hb dL_law_785 (by decide) ?_
  refine lv_iadd hx hb dL_law_786 ?_
  refine lv_lit (v := nI (6 * j + 2)) (nI_addE (6 * j) 2 (6 * j + 2) rfl) ?_
  refine va_sld hx hb hXs hbl hbA hS (vp_in_nI (by omega) (by omega)) dL_law_787 ?_
  refine lv_lit (v := xs (6 * j + 2)) (by rw [nI_clamp (by omega)]) ?_
  refine cVr (wA := wP) (wB := wM) (ci := 11) (a := h0) (As := [.int (xs (6 * j + 1)), .int (xs (6 * j + 2))]) (rest := []) ⟨hx, hb, hml, hown, hts⟩ hK hX hA (rd_x_page l D tc sk h0 dr im ts RL (xs (6 * j + 1)) (xs (6 * j + 2))) k_906 k_903 k_904 k_905 k_95 pl_X11_page (Nat.le_of_ble_eq_true rfl) (Nat.le_of_ble_eq_true rfl) hI1 (PBI.recv hI1) rfl rfl hP hD hS rfl hl.1 rfl (Nat.le_of_ble_eq_true rfl) dL_law_788 (by show 98 + 46 * j + 23 ≤ 600000; omega) (by show 8097 + 940 * j + 470 ≤ 7302250; omega) (fun v wP1 H locs hv hP hD hS => ?_)
  obtain ⟨r1, rfl, hI1⟩ := hv
  refine W.eq (g2 := F0 m 791 ls [.int r1]) rfl ?_
  refine lv_pop hx hb dL_law_791 rfl ?_
  refine lv_aload_n hx hb dL_law_792 rfl (lv_at hl 1 rfl) ?_
  refine lv_aload_n hx hb dL_law_793 rfl (lv_at hl 3 rfl) ?_
  refine lv_iload_n hx hb dL_law_794 rfl (lv_at hl 0 rfl) ?_
  refine lv_iconst (v := 1) hx hb dL_law_795 (by decide) ?_
  refine lv_iadd hx hb dL_law_796 ?_
  refine lv_lit (v := nI (6 * j + 1)) (nI_addE (6 * j) 1 (6 * j + 1) rfl) ?_
  refine va_sld hx hb hXs hbl hbA hS (vp_in_nI (by omega) (by omega)) dL_law_797 ?_
  refine lv_lit (v := xs (6 * j + 1)) (by rw [nI_clamp (by omega)]) ?_
  refine lv_aload_n hx hb dL_law_798 rfl (lv_at hl 3 rfl) ?_
  refine lv_iload_n hx hb dL_law_799 rfl (lv_at hl 0 rfl) ?_
  refine lv_iconst (v := 2) hx hb dL_law_800 (by decide) ?_
  refine lv_iadd hx hb dL_law_801 ?_
  refine lv_lit (v := nI (6 * j + 2)) (nI_addE (6 * j) 2 (6 * j + 2) rfl) ?_
  refine va_sld hx hb hXs hbl hbA hS (vp_in_nI (by omega) (by omega)) dL_law_802 ?_
  refine lv_lit (v := xs (6 * j + 2)) (by rw [nI_clamp (by omega)]) ?_
  have hP := hP.perm (List.perm_append_comm (l₁ := wP1) (l₂ := wM))
  have hD := hD.perm (List.perm_append_comm (l₁ := wP1) (l₂ := wM))
  refine cVr (wA := wM) (wB := wP1) (ci := 12) (a := m0) (As := [.int (xs (6 * j + 1)), .int (xs (6 * j + 2))]) (rest := []) ⟨hx, hb, hml, hown, hts⟩ hK hX hA (rd_m_page l D tc sk m0 dr im ms RL (xs (6 * j + 1)) (xs (6 * j + 2))) k_1561 k_1558 k_1559 k_1560 k_106 pl_X12_page (Nat.le_of_ble_eq_true rfl) (Nat.le_of_ble_eq_true rfl) hI2 (MI.recv hI2) rfl rfl hP hD hS rfl hl.1 rfl (Nat.le_of_ble_eq_true rfl) dL_law_803 (by show 98 + 46 * j + 23 + 23 ≤ 600000; omega) (by show 8097 + 940 * j + 470 + 470 ≤ 7302250; omega) (fun v wM1 H locs hv hP hD hS => ?_)
  obtain ⟨r2, rfl, hI2⟩ := hv
  refine W.eq (g2 := F0 m 806 ls [.int r2]) rfl ?_
  refine lv_pop hx hb dL_law_806 rfl ?_
  refine lv_goto (tgt := 1186) hx hb dL_law_807 (by decide) ?_
  have hP := hP.perm (List.perm_append_comm (l₁ := wM1) (l₂ := wP1))
  have hD := hD.perm (List.perm_append_comm (l₁ := wM1) (l₂ := wP1))
  exact law_tail C hL hj IH (by omega) (by omega) ⟨dr, im, ts, ms, RL, hI1, hI2, hE, hG, hM⟩ hP hD hS hl
set_option maxHeartbeats 4000000 in
set_option maxRecDepth 100000 in
theorem law_22 {p : Program} {l : Launch} {e : Env} {s : State} {m : MethodId} {below : List Frame} {meth : Method} {c : Code} {D : va_G} {tc : Nat → ClassId} {sk : (Nat → Nat) × (Nat → Nat)} {A : Nat → Prop} {b : Nat} {xs : Nat → Int32} {L : Nat} {h0 m0 j : Nat} (C : LawCx p s m meth c D tc sk A b xs L) (hL : L ≤ 3072) (hj : 6 * j + 6 ≤ L) (IH : LawHead p l e s m below meth c D tc A b h0 m0 (j + 1)) {wP wM : va_W} {H : Heap} {locs : List Loc} {ls : Array Slot} (hI : LInv tc h0 m0 wP wM) (hP : va_P D classes (wP ++ wM) H) (hD : va_D A (wP ++ wM)) (hS : va_S A s.heap H locs) (hl : lv_has ls 4 [(3, .int (nI (6 * j))), (2, .ref m0), (1, .ref h0), (0, .ref b)]) : W p l e room_1 s m #[Value.ref b] below meth c H locs (98 + 46 * j) (8097 + 940 * j) (lw_Z below #[Value.ref b] s) (F0 m 810 ls []) := by
  obtain ⟨hx, hb, hr, hlk, hml, hown, hts, hK, hX, hA, hAl, hXs, hbl, hbA⟩ := id C
  obtain ⟨dr, im, ts, ms, RL, hI1, hI2, hE, hG, hM⟩ := hI
  have hBy := PBI.tape hI1
  refine lv_aload_n hx hb dL_law_810 rfl (lv_at hl 2 rfl) ?_
  refine lv_aload_n hx hb dL_law_811 rfl (lv_at hl 3 rfl) ?_
  refine lv_iload_n hx hb dL_law_812 rfl (lv_at hl 0 rfl) ?_
  refine lv_iconst (v := 1) hx hb dL_law_813 (by decide) ?_
  refine lv_iadd hx hb dL_law_814 ?_
  refine lv_lit (v := nI (6 * j + 1)) (nI_addE (6 * j) 1 (6 * j + 1) rfl) ?_
  refine va_sld hx hb hXs hbl hbA hS (vp_in_nI (by omega) (by omega)) dL_law_815 ?_
  refine lv_lit (v := xs (6 * j + 1)) (by rw [nI_clamp (by omega)]) ?_
  refine lv_aload_n hx hb dL_law_816 rfl (lv_at hl 3 rfl) ?_
  refine lv_iload_n hx hb dL_law_817 rfl (lv_at hl 0 rfl) ?_
  refine lv_iconst (v := 2) hx hb dL_law_818 (by decide) ?_
  refine lv_iadd hx hb dL_law_819 ?_
  refine lv_lit (v := nI (6 * j + 2)) (nI_addE (6 * j) 2 (6 * j + 2) rfl) ?_
  refine va_sld hx hb hXs hbl hbA hS (vp_in_nI (by omega) (by omega)) dL_law_820 ?_
  refine lv_lit (v := xs (6 * j + 2)) (by rw [nI_clamp (by omega)]) ?_
  refine cVr (wA := wP) (wB := wM) (ci := 11) (a := h0) (As := [.int (xs (6 * j + 1)), .int (xs (6 * j + 2))]) (rest := []) ⟨hx, hb, hml, hown, hts⟩ hK hX hA (rd_x_fines l D tc sk h0 dr im ts RL (xs (6 * j + 1)) (xs (6 * j + 2))) k_917 k_914 k_915 k_916 k_95 pl_X11_fines (Nat.le_of_ble_eq_true rfl) (Nat.le_of_ble_eq_true rfl) hI1 (PBI.recv hI1) rfl rfl hP hD hS rfl hl.1 rfl (Nat.le_of_ble_eq_true rfl) dL_law_821 (by show 98 + 46 * j + 23 ≤ 600000; omega) (by show 8097 + 940 * j + 470 ≤ 7302250; omega) (fun v wP1 H locs hv hP hD hS => ?_)
  obtain ⟨r1, rfl, hI1⟩ := hv
  refine W.eq (g2 := F0 m 824 ls [.int r1]) rfl ?_
  refine lv_pop hx hb dL_law_824 rfl ?_
  refine lv_aload_n hx hb dL_law_825 rfl (lv_at hl 1 rfl) ?_
  refine lv_aload_n hx hb dL_law_826 rfl (lv_at hl 3 rfl) ?_
  refine lv_iload_n hx hb dL_law_827 rfl (lv_at hl 0 rfl) ?_
  refine lv_iconst (v := 1) hx hb dL_law_828 (by decide) ?_
  refine lv_iadd hx hb dL_law_829 ?_
  refine lv_lit (v := nI (6 * j + 1)) (nI_addE (6 * j) 1 (6 * j + 1) rfl) ?_
  refine va_sld hx hb hXs hbl hbA hS (vp_in_nI (by omega) (by omega)) dL_law_830 ?_
  refine lv_lit (v := xs (6 * j + 1)) (by rw [nI_clamp (by omega)]) ?_
  refine lv_aload_n hx hb dL_law_831 rfl (lv_at hl 3 rfl) ?_
  refine lv_iload_n hx hb dL_law_832 rfl (lv_at hl 0 rfl) ?_
  refine lv_iconst (v := 2) hx hb dL_law_833 (by decide) ?_
  refine lv_iadd hx hb dL_law_834 ?_
  refine lv_lit (v := nI (6 * j + 2)) (nI_addE (6 * j) 2 (6 * j + 2) rfl) ?_
  refine va_sld hx hb hXs hbl hbA hS (vp_in_nI (by omega) (by omega)) dL_law_835 ?_
  refine lv_lit (v := xs (6 * j + 2)) (by rw [nI_clamp (by omega)]) ?_
  have hP := hP.perm (List.perm_append_comm (l₁ := wP1) (l₂ := wM))
  have hD := hD.perm (List.perm_append_comm (l₁ := wP1) (l₂ := wM))
  refine cVr (wA := wM) (wB := wP1) (ci := 12) (a := m0) (As := [.int (xs (6 * j + 1)), .int (xs (6 * j + 2))]) (rest := []) ⟨hx, hb, hml, hown, hts⟩ hK hX hA (rd_m_fines l D tc sk m0 dr im ms RL (xs (6 * j + 1)) (xs (6 * j + 2))) k_1569 k_1566 k_1567 k_1568 k_106 pl_X12_fines (Nat.le_of_ble_eq_true rfl) (Nat.le_of_ble_eq_true rfl) hI2 (MI.recv hI2) rfl rfl hP hD hS rfl hl.1 rfl (Nat.le_of_ble_eq_true rfl) dL_law_836 (by show 98 + 46 * j + 23 + 23 ≤ 600000; omega) (by show 8097 + 940 * j + 470 + 470 ≤ 7302250; omega) (fun v wM1 H locs hv hP hD hS => ?_)
  obtain ⟨r2, rfl, hI2⟩ := hv
  refine W.eq (g2 := F0 m 839 ls [.int r2]) rfl ?_
  refine lv_pop hx hb dL_law_839 rfl ?_
  refine lv_goto (tgt := 1186) hx hb dL_law_840 (by decide) ?_
  have hP := hP.perm (List.perm_append_comm (l₁ := wM1) (l₂ := wP1))
  have hD := hD.perm (List.perm_append_comm (l₁ := wM1) (l₂ := wP1))
  exact law_tail C hL hj IH (by omega) (by omega) ⟨dr, im, ts, ms, RL, hI1, hI2, hE, hG, hM⟩ hP hD hS hl
set_option maxHeartbeats 4000000 in
set_option maxRecDepth 100000 in
theorem law_23 {p : Program} {l : Launch} {e : Env} {s : State} {m : MethodId} {below : List Frame} {meth : Method} {c : Code} {D : va_G} {tc : Nat → ClassId} {sk : (Nat → Nat) × (Nat → Nat)} {A : Nat → Prop} {b : Nat} {xs : Nat → Int32} {L : Nat} {h0 m0 j : Nat} (C : LawCx p s m meth c D tc sk A b xs L) (hL : L ≤ 3072) (hj : 6 * j + 6 ≤ L) (IH : LawHead p l e s m below meth c D tc A b h0 m0 (j + 1)) {wP wM : va_W} {H : Heap} {locs : List Loc} {ls : Array Slot} (hI : LInv tc h0 m0 wP wM) (hP : va_P D classes (wP ++ wM) H) (hD : va_D A (wP ++ wM)) (hS : va_S A s.heap H locs) (hl : lv_has ls 4 [(3, .int (nI (6 * j))), (2, .ref m0), (1, .ref h0), (0, .ref b)]) : W p l e room_1 s m #[Value.ref b] below meth c H locs (98 + 46 * j) (8097 + 940 * j) (lw_Z below #[Value.ref b] s) (F0 m 843 ls []) := by
  obtain ⟨hx, hb, hr, hlk, hml, hown, hts, hK, hX, hA, hAl, hXs, hbl, hbA⟩ := id C
  obtain ⟨dr, im, ts, ms, RL, hI1, hI2, hE, hG, hM⟩ := hI
  have hBy := PBI.tape hI1
  refine lv_aload_n hx hb dL_law_843 rfl (lv_at hl 2 rfl) ?_
  refine lv_aload_n hx hb dL_law_844 rfl (lv_at hl 3 rfl) ?_
  refine lv_iload_n hx hb dL_law_845 rfl (lv_at hl 0 rfl) ?_
  refine lv_iconst (v := 1) hx hb dL_law_846 (by decide) ?_
  refine lv_iadd hx hb dL_law_847 ?_
  refine lv_lit (v := nI (6 * j + 1)) (nI_addE (6 * j) 1 (6 * j + 1) rfl) ?_
  refine va_sld hx hb hXs hbl hbA hS (vp_in_nI (by omega) (by omega)) dL_law_848 ?_
  refine lv_lit (v := xs (6 * j + 1)) (by rw [nI_clamp (by omega)]) ?_
  refine lv_aload_n hx hb dL_law_849 rfl (lv_at hl 3 rfl) ?_
  refine lv_iload_n hx hb dL_law_850 rfl (lv_at hl 0 rfl) ?_
  refine lv_iconst (v := 2) hx hb dL_law_851 (by decide) ?_
  refine lv_iadd hx hb dL_law_852 ?_
  refine lv_lit (v := nI (6 * j + 2)) (nI_addE (6 * j) 2 (6 * j + 2) rfl) ?_
  refine va_sld hx hb hXs hbl hbA hS (vp_in_nI (by omega) (by omega)) dL_law_853 ?_
  refine lv_lit (v := xs (6 * j + 2)) (by rw [nI_clamp (by omega)]) ?_
  refine lv_aload_n hx hb dL_law_854 rfl (lv_at hl 3 rfl) ?_
  refine lv_iload_n hx hb dL_law_855 rfl (lv_at hl 0 rfl) ?_
  refine lv_iconst (v := 3) hx hb dL_law_856 (by decide) ?_
  refine lv_iadd hx hb dL_law_857 ?_
  refine lv_lit (v := nI (6 * j + 3)) (nI_addE (6 * j) 3 (6 * j + 3) rfl) ?_
  refine va_sld hx hb hXs hbl hbA hS (vp_in_nI (by omega) (by omega)) dL_law_858 ?_
  refine lv_lit (v := xs (6 * j + 3)) (by rw [nI_clamp (by omega)]) ?_
  refine lv_aload_n hx hb dL_law_859 rfl (lv_at hl 3 rfl) ?_
  refine lv_iload_n hx hb dL_law_860 rfl (lv_at hl 0 rfl) ?_
  refine lv_iconst (v := 4) hx hb dL_law_861 (by decide) ?_
  refine lv_iadd hx hb dL_law_862 ?_
  refine lv_lit (v := nI (6 * j + 4)) (nI_addE (6 * j) 4 (6 * j + 4) rfl) ?_
  refine va_sld hx hb hXs hbl hbA hS (vp_in_nI (by omega) (by omega)) dL_law_863 ?_
  refine lv_lit (v := xs (6 * j + 4)) (by rw [nI_clamp (by omega)]) ?_
  refine cVr (wA := wP) (wB := wM) (ci := 11) (a := h0) (As := [.int (xs (6 * j + 1)), .int (xs (6 * j + 2)), .int (xs (6 * j + 3)), .int (xs (6 * j + 4))]) (rest := []) ⟨hx, hb, hml, hown, hts⟩ hK hX hA (rd_x_rests l D tc sk h0 dr im ts RL (xs (6 * j + 1)) (xs (6 * j + 2)) (xs (6 * j + 3)) (xs (6 * j + 4))) k_925 k_922 k_923 k_924 k_95 pl_X11_rests (Nat.le_of_ble_eq_true rfl) (Nat.le_of_ble_eq_true rfl) hI1 (PBI.recv hI1) rfl rfl hP hD hS rfl hl.1 rfl (Nat.le_of_ble_eq_true rfl) dL_law_864 (by show 98 + 46 * j + 23 ≤ 600000; omega) (by show 8097 + 940 * j + 470 ≤ 7302250; omega) (fun v wP1 H locs hv hP hD hS => ?_)
  obtain ⟨r1, rfl, hI1⟩ := hv
  refine W.eq (g2 := F0 m 867 ls [.int r1]) rfl ?_
  refine lv_pop hx hb dL_law_867 rfl ?_
  refine lv_aload_n hx hb dL_law_868 rfl (lv_at hl 1 rfl) ?_
  refine lv_aload_n hx hb dL_law_869 rfl (lv_at hl 3 rfl) ?_
  refine lv_iload_n hx hb dL_law_870 rfl (lv_at hl 0 rfl) ?_
  refine lv_iconst (v := 1) hx hb dL_law_871 (by decide) ?_
  refine lv_iadd hx hb dL_law_872 ?_
  refine lv_lit (v := nI (6 * j + 1)) (nI_addE (6 * j) 1 (6 * j + 1) rfl) ?_
  refine va_sld hx hb hXs hbl hbA hS (vp_in_nI (by omega) (by omega)) dL_law_873 ?_
  refine lv_lit (v := xs (6 * j + 1)) (by rw [nI_clamp (by omega)]) ?_
  refine lv_aload_n hx hb dL_law_874 rfl (lv_at hl 3 rfl) ?_
  refine lv_iload_n hx hb dL_law_875 rfl (lv_at hl 0 rfl) ?_
  refine lv_iconst (v := 2) hx hb dL_law_876 (by decide) ?_
  refine lv_iadd hx hb dL_law_877 ?_
  refine lv_lit (v := nI (6 * j + 2)) (nI_addE (6 * j) 2 (6 * j + 2) rfl) ?_
  refine va_sld hx hb hXs hbl hbA hS (vp_in_nI (by omega) (by omega)) dL_law_878 ?_
  refine lv_lit (v := xs (6 * j + 2)) (by rw [nI_clamp (by omega)]) ?_
  refine lv_aload_n hx hb dL_law_879 rfl (lv_at hl 3 rfl) ?_
  refine lv_iload_n hx hb dL_law_880 rfl (lv_at hl 0 rfl) ?_
  refine lv_iconst (v := 3) hx hb dL_law_881 (by decide) ?_
  refine lv_iadd hx hb dL_law_882 ?_
  refine lv_lit (v := nI (6 * j + 3)) (nI_addE (6 * j) 3 (6 * j + 3) rfl) ?_
  refine va_sld hx hb hXs hbl hbA hS (vp_in_nI (by omega) (by omega)) dL_law_883 ?_
  refine lv_lit (v := xs (6 * j + 3)) (by rw [nI_clamp (by omega)]) ?_
  refine lv_aload_n hx hb dL_law_884 rfl (lv_at hl 3 rfl) ?_
  refine lv_iload_n hx hb dL_law_885 rfl (lv_at hl 0 rfl) ?_
  refine lv_iconst (v := 4) hx hb dL_law_886 (by decide) ?_
  refine lv_iadd hx hb dL_law_887 ?_
  refine lv_lit (v := nI (6 * j + 4)) (nI_addE (6 * j) 4 (6 * j + 4) rfl) ?_
  refine va_sld hx hb hXs hbl hbA hS (vp_in_nI (by omega) (by omega)) dL_law_888 ?_
  refine lv_lit (v := xs (6 * j + 4)) (by rw [nI_clamp (by omega)]) ?_
  have hP := hP.perm (List.perm_append_comm (l₁ := wP1) (l₂ := wM))
  have hD := hD.perm (List.perm_append_comm (l₁ := wP1) (l₂ := wM))
  refine cVr (wA := wM) (wB := wP1) (ci := 12) (a := m0) (As := [.int (xs (6 * j + 1)), .int (xs (6 * j + 2)), .int (xs (6 * j + 3)), .int (xs (6 * j + 4))]) (rest := []) ⟨hx, hb, hml, hown, hts⟩ hK hX hA (rd_m_rests l D tc sk m0 dr im ms RL (xs (6 * j + 1)) (xs (6 * j + 2)) (xs (6 * j + 3)) (xs (6 * j + 4))) k_1574 k_1571 k_1572 k_1573 k_106 pl_X12_rests (Nat.le_of_ble_eq_true rfl) (Nat.le_of_ble_eq_true rfl) hI2 (MI.recv hI2) rfl rfl hP hD hS rfl hl.1 rfl (Nat.le_of_ble_eq_true rfl) dL_law_889 (by show 98 + 46 * j + 23 + 23 ≤ 600000; omega) (by show 8097 + 940 * j + 470 + 470 ≤ 7302250; omega) (fun v wM1 H locs hv hP hD hS => ?_)
  obtain ⟨r2, rfl, hI2⟩ := hv
  refine W.eq (g2 := F0 m 892 ls [.int r2]) rfl ?_
  refine lv_pop hx hb dL_law_892 rfl ?_
  refine lv_goto (tgt := 1186) hx hb dL_law_893 (by decide) ?_
  have hP := hP.perm (List.perm_append_comm (l₁ := wM1) (l₂ := wP1))
  have hD := hD.perm (List.perm_append_comm (l₁ := wM1) (l₂ := wP1))
  exact law_tail C hL hj IH (by omega) (by omega) ⟨dr, im, ts, ms, RL, hI1, hI2, hE, hG, hM⟩ hP hD hS hl
set_option maxHeartbeats 4000000 in
set_option maxRecDepth 100000 in
theorem law_24 {p : Program} {l : Launch} {e : Env} {s : State} {m : MethodId} {below : List Frame} {meth : Method} {c : Code} {D : va_G} {tc : Nat → ClassId} {sk : (Nat → Nat) × (Nat → Nat)} {A : Nat → Prop} {b : Nat} {xs : Nat → Int32} {L : Nat} {h0 m0 j : Nat} (C : LawCx p s m meth c D tc sk A b xs L) (hL : L ≤ 3072) (hj : 6 * j + 6 ≤ L) (IH : LawHead p l e s m below meth c D tc A b h0 m0 (j + 1)) {wP wM : va_W} {H : Heap} {locs : List Loc} {ls : Array Slot} (hI : LInv tc h0 m0 wP wM) (hP : va_P D classes (wP ++ wM) H) (hD : va_D A (wP ++ wM)) (hS : va_S A s.heap H locs) (hl : lv_has ls 4 [(3, .int (nI (6 * j))), (2, .ref m0), (1, .ref h0), (0, .ref b)]) : W p l e room_1 s m #[Value.ref b] below meth c H locs (98 + 46 * j) (8097 + 940 * j) (lw_Z below #[Value.ref b] s) (F0 m 896 ls []) := by
  obtain ⟨hx, hb, hr, hlk, hml, hown, hts, hK, hX, hA, hAl, hXs, hbl, hbA⟩ := id C
  obtain ⟨dr, im, ts, ms, RL, hI1, hI2, hE, hG, hM⟩ := hI
  have hBy := PBI.tape hI1
  refine lv_aload_n hx hb dL_law_896 rfl (lv_at hl 2 rfl) ?_
  refine lv_aload_n hx hb dL_law_897 rfl (lv_at hl 3 rfl) ?_
  refine lv_iload_n hx hb dL_law_898 rfl (lv_at hl 0 rfl) ?_
  refine lv_iconst (v := 1) hx hb dL_law_899 (by decide) ?_
  refine lv_iadd hx hb dL_law_900 ?_
  refine lv_lit (v := nI (6 * j + 1)) (nI_addE (6 * j) 1 (6 * j + 1) rfl) ?_
  refine va_sld hx hb hXs hbl hbA hS (vp_in_nI (by omega) (by omega)) dL_law_901 ?_
  refine lv_lit (v := xs (6 * j + 1)) (by rw [nI_clamp (by omega)]) ?_
  refine cVr (wA := wP) (wB := wM) (ci := 11) (a := h0) (As := [.int (xs (6 * j + 1))]) (rest := []) ⟨hx, hb, hml, hown, hts⟩ hK hX hA (rd_x_ring l D tc sk h0 dr im ts RL (xs (6 * j + 1))) k_948 k_945 k_946 k_947 k_95 pl_X11_ring (Nat.le_of_ble_eq_true rfl) (Nat.le_of_ble_eq_true rfl) hI1 (PBI.recv hI1) rfl rfl hP hD hS rfl hl.1 rfl (Nat.le_of_ble_eq_true rfl) dL_law_902 (by show 98 + 46 * j + 23 ≤ 600000; omega) (by show 8097 + 940 * j + 470 ≤ 7302250; omega) (fun v wP1 H locs hv hP hD hS => ?_)
  obtain ⟨r1, rfl, hI1⟩ := hv
  refine W.eq (g2 := F0 m 905 ls [.int r1]) rfl ?_
  refine lv_pop hx hb dL_law_905 rfl ?_
  refine lv_aload_n hx hb dL_law_906 rfl (lv_at hl 1 rfl) ?_
  refine lv_aload_n hx hb dL_law_907 rfl (lv_at hl 3 rfl) ?_
  refine lv_iload_n hx hb dL_law_908 rfl (lv_at hl 0 rfl) ?_
  refine lv_iconst (v := 1) hx hb dL_law_909 (by decide) ?_
  refine lv_iadd hx hb dL_law_910 ?_
  refine lv_lit (v := nI (6 * j + 1)) (nI_addE (6 * j) 1 (6 * j + 1) rfl) ?_
  refine va_sld hx hb hXs hbl hbA hS (vp_in_nI (by omega) (by omega)) dL_law_911 ?_
  refine lv_lit (v := xs (6 * j + 1)) (by rw [nI_clamp (by omega)]) ?_
  have hP := hP.perm (List.perm_append_comm (l₁ := wP1) (l₂ := wM))
  have hD := hD.perm (List.perm_append_comm (l₁ := wP1) (l₂ := wM))
  refine cVr (wA := wM) (wB := wP1) (ci := 12) (a := m0) (As := [.int (xs (6 * j + 1))]) (rest := []) ⟨hx, hb, hml, hown, hts⟩ hK hX hA (rd_m_ring l D tc sk m0 dr im ms RL (xs (6 * j + 1))) k_1586 k_1583 k_1584 k_1585 k_106 pl_X12_ring (Nat.le_of_ble_eq_true rfl) (Nat.le_of_ble_eq_true rfl) hI2 (MI.recv hI2) rfl rfl hP hD hS rfl hl.1 rfl (Nat.le_of_ble_eq_true rfl) dL_law_912 (by show 98 + 46 * j + 23 + 23 ≤ 600000; omega) (by show 8097 + 940 * j + 470 + 470 ≤ 7302250; omega) (fun v wM1 H locs hv hP hD hS => ?_)
  obtain ⟨r2, rfl, hI2⟩ := hv
  refine W.eq (g2 := F0 m 915 ls [.int r2]) rfl ?_
  refine lv_pop hx hb dL_law_915 rfl ?_
  refine lv_goto (tgt := 1186) hx hb dL_law_916 (by decide) ?_
  have hP := hP.perm (List.perm_append_comm (l₁ := wM1) (l₂ := wP1))
  have hD := hD.perm (List.perm_append_comm (l₁ := wM1) (l₂ := wP1))
  exact law_tail C hL hj IH (by omega) (by omega) ⟨dr, im, ts, ms, RL, hI1, hI2, hE, hG, hM⟩ hP hD hS hl
set_option maxHeartbeats 4000000 in
set_option maxRecDepth 100000 in
theorem law_25 {p : Program} {l : Launch} {e : Env} {s : State} {m : MethodId} {below : List Frame} {meth : Method} {c : Code} {D : va_G} {tc : Nat → ClassId} {sk : (Nat → Nat) × (Nat → Nat)} {A : Nat → Prop} {b : Nat} {xs : Nat → Int32} {L : Nat} {h0 m0 j : Nat} (C : LawCx p s m meth c D tc sk A b xs L) (hL : L ≤ 3072) (hj : 6 * j + 6 ≤ L) (IH : LawHead p l e s m below meth c D tc A b h0 m0 (j + 1)) {wP wM : va_W} {H : Heap} {locs : List Loc} {ls : Array Slot} (hI : LInv tc h0 m0 wP wM) (hP : va_P D classes (wP ++ wM) H) (hD : va_D A (wP ++ wM)) (hS : va_S A s.heap H locs) (hl : lv_has ls 4 [(3, .int (nI (6 * j))), (2, .ref m0), (1, .ref h0), (0, .ref b)]) : W p l e room_1 s m #[Value.ref b] below meth c H locs (98 + 46 * j) (8097 + 940 * j) (lw_Z below #[Value.ref b] s) (F0 m 919 ls []) := by
  obtain ⟨hx, hb, hr, hlk, hml, hown, hts, hK, hX, hA, hAl, hXs, hbl, hbA⟩ := id C
  obtain ⟨dr, im, ts, ms, RL, hI1, hI2, hE, hG, hM⟩ := hI
  have hBy := PBI.tape hI1
  refine lv_aload_n hx hb dL_law_919 rfl (lv_at hl 2 rfl) ?_
  refine lv_aload_n hx hb dL_law_920 rfl (lv_at hl 3 rfl) ?_
  refine lv_iload_n hx hb dL_law_921 rfl (lv_at hl 0 rfl) ?_
  refine lv_iconst (v := 1) hx hb dL_law_922 (by decide) ?_
  refine lv_iadd hx hb dL_law_923 ?_
  refine lv_lit (v := nI (6 * j + 1)) (nI_addE (6 * j) 1 (6 * j + 1) rfl) ?_
  refine va_sld hx hb hXs hbl hbA hS (vp_in_nI (by omega) (by omega)) dL_law_924 ?_
  refine lv_lit (v := xs (6 * j + 1)) (by rw [nI_clamp (by omega)]) ?_
  refine lv_aload_n hx hb dL_law_925 rfl (lv_at hl 3 rfl) ?_
  refine lv_iload_n hx hb dL_law_926 rfl (lv_at hl 0 rfl) ?_
  refine lv_iconst (v := 2) hx hb dL_law_927 (by decide) ?_
  refine lv_iadd hx hb dL_law_928 ?_
  refine lv_lit (v := nI (6 * j + 2)) (nI_addE (6 * j) 2 (6 * j + 2) rfl) ?_
  refine va_sld hx hb hXs hbl hbA hS (vp_in_nI (by omega) (by omega)) dL_law_929 ?_
  refine lv_lit (v := xs (6 * j + 2)) (by rw [nI_clamp (by omega)]) ?_
  refine cVr (wA := wP) (wB := wM) (ci := 11) (a := h0) (As := [.int (xs (6 * j + 1)), .int (xs (6 * j + 2))]) (rest := []) ⟨hx, hb, hml, hown, hts⟩ hK hX hA (rd_x_peak l D tc sk h0 dr im ts RL (xs (6 * j + 1)) (xs (6 * j + 2))) k_961 k_958 k_959 k_960 k_95 pl_X11_peak (Nat.le_of_ble_eq_true rfl) (Nat.le_of_ble_eq_true rfl) hI1 (PBI.recv hI1) rfl rfl hP hD hS rfl hl.1 rfl (Nat.le_of_ble_eq_true rfl) dL_law_930 (by show 98 + 46 * j + 23 ≤ 600000; omega) (by show 8097 + 940 * j + 470 ≤ 7302250; omega) (fun v wP1 H locs hv hP hD hS => ?_)
  obtain ⟨r1, rfl, hI1⟩ := hv
  refine W.eq (g2 := F0 m 933 ls [.int r1]) rfl ?_
  refine lv_pop hx hb dL_law_933 rfl ?_
  refine lv_aload_n hx hb dL_law_934 rfl (lv_at hl 1 rfl) ?_
  refine lv_aload_n hx hb dL_law_935 rfl (lv_at hl 3 rfl) ?_
  refine lv_iload_n hx hb dL_law_936 rfl (lv_at hl 0 rfl) ?_
  refine lv_iconst (v := 1) hx hb dL_law_937 (by decide) ?_
  refine lv_iadd hx hb dL_law_938 ?_
  refine lv_lit (v := nI (6 * j + 1)) (nI_addE (6 * j) 1 (6 * j + 1) rfl) ?_
  refine va_sld hx hb hXs hbl hbA hS (vp_in_nI (by omega) (by omega)) dL_law_939 ?_
  refine lv_lit (v := xs (6 * j + 1)) (by rw [nI_clamp (by omega)]) ?_
  refine lv_aload_n hx hb dL_law_940 rfl (lv_at hl 3 rfl) ?_
  refine lv_iload_n hx hb dL_law_941 rfl (lv_at hl 0 rfl) ?_
  refine lv_iconst (v := 2) hx hb dL_law_942 (by decide) ?_
  refine lv_iadd hx hb dL_law_943 ?_
  refine lv_lit (v := nI (6 * j + 2)) (nI_addE (6 * j) 2 (6 * j + 2) rfl) ?_
  refine va_sld hx hb hXs hbl hbA hS (vp_in_nI (by omega) (by omega)) dL_law_944 ?_
  refine lv_lit (v := xs (6 * j + 2)) (by rw [nI_clamp (by omega)]) ?_
  have hP := hP.perm (List.perm_append_comm (l₁ := wP1) (l₂ := wM))
  have hD := hD.perm (List.perm_append_comm (l₁ := wP1) (l₂ := wM))
  refine cVr (wA := wM) (wB := wP1) (ci := 12) (a := m0) (As := [.int (xs (6 * j + 1)), .int (xs (6 * j + 2))]) (rest := []) ⟨hx, hb, hml, hown, hts⟩ hK hX hA (rd_m_peak l D tc sk m0 dr im ms RL (xs (6 * j + 1)) (xs (6 * j + 2))) k_1594 k_1591 k_1592 k_1593 k_106 pl_X12_peak (Nat.le_of_ble_eq_true rfl) (Nat.le_of_ble_eq_true rfl) hI2 (MI.recv hI2) rfl rfl hP hD hS rfl hl.1 rfl (Nat.le_of_ble_eq_true rfl) dL_law_945 (by show 98 + 46 * j + 23 + 23 ≤ 600000; omega) (by show 8097 + 940 * j + 470 + 470 ≤ 7302250; omega) (fun v wM1 H locs hv hP hD hS => ?_)
  obtain ⟨r2, rfl, hI2⟩ := hv
  refine W.eq (g2 := F0 m 948 ls [.int r2]) rfl ?_
  refine lv_pop hx hb dL_law_948 rfl ?_
  refine lv_goto (tgt := 1186) hx hb dL_law_949 (by decide) ?_
  have hP := hP.perm (List.perm_append_comm (l₁ := wM1) (l₂ := wP1))
  have hD := hD.perm (List.perm_append_comm (l₁ := wM1) (l₂ := wP1))
  exact law_tail C hL hj IH (by omega) (by omega) ⟨dr, im, ts, ms, RL, hI1, hI2, hE, hG, hM⟩ hP hD hS hl
set_option maxHeartbeats 4000000 in
set_option maxRecDepth 100000 in
theorem law_26 {p : Program} {l : Launch} {e : Env} {s : State} {m : MethodId} {below : List Frame} {meth : Method} {c : Code} {D : va_G} {tc : Nat → ClassId} {sk : (Nat → Nat) × (Nat → Nat)} {A : Nat → Prop} {b : Nat} {xs : Nat → Int32} {L : Nat} {h0 m0 j : Nat} (C : LawCx p s m meth c D tc sk A b xs L) (hL : L ≤ 3072) (hj : 6 * j + 6 ≤ L) (IH : LawHead p l e s m below meth c D tc A b h0 m0 (j + 1)) {wP wM : va_W} {H : Heap} {locs : List Loc} {ls : Array Slot} (hI : LInv tc h0 m0 wP wM) (hP : va_P D classes (wP ++ wM) H) (hD : va_D A (wP ++ wM)) (hS : va_S A s.heap H locs) (hl : lv_has ls 4 [(3, .int (nI (6 * j))), (2, .ref m0), (1, .ref h0), (0, .ref b)]) : W p l e room_1 s m #[Value.ref b] below meth c H locs (98 + 46 * j) (8097 + 940 * j) (lw_Z below #[Value.ref b] s) (F0 m 952 ls []) := by
  obtain ⟨hx, hb, hr, hlk, hml, hown, hts, hK, hX, hA, hAl, hXs, hbl, hbA⟩ := id C
  obtain ⟨dr, im, ts, ms, RL, hI1, hI2, hE, hG, hM⟩ := hI
  have hBy := PBI.tape hI1
  refine lv_aload_n hx hb dL_law_952 rfl (lv_at hl 2 rfl) ?_
  refine lv_aload_n hx hb dL_law_953 rfl (lv_at hl 3 rfl) ?_
  refine lv_iload_n hx hb dL_law_954 rfl (lv_at hl 0 rfl) ?_
  refine lv_iconst (v := 1) hx hb dL_law_955 (by decide) ?_
  refine lv_iadd hx hb dL_law_956 ?_
  refine lv_lit (v := nI (6 * j + 1)) (nI_addE (6 * j) 1 (6 * j + 1) rfl) ?_
  refine va_sld hx hb hXs hbl hbA hS (vp_in_nI (by omega) (by omega)) dL_law_957 ?_
  refine lv_lit (v := xs (6 * j + 1)) (by rw [nI_clamp (by omega)]) ?_
  refine lv_aload_n hx hb dL_law_958 rfl (lv_at hl 3 rfl) ?_
  refine lv_iload_n hx hb dL_law_959 rfl (lv_at hl 0 rfl) ?_
  refine lv_iconst (v := 2) hx hb dL_law_960 (by decide) ?_
  refine lv_iadd hx hb dL_law_961 ?_
  refine lv_lit (v := nI (6 * j + 2)) (nI_addE (6 * j) 2 (6 * j + 2) rfl) ?_
  refine va_sld hx hb hXs hbl hbA hS (vp_in_nI (by omega) (by omega)) dL_law_962 ?_
  refine lv_lit (v := xs (6 * j + 2)) (by rw [nI_clamp (by omega)]) ?_
  refine lv_aload_n hx hb dL_law_963 rfl (lv_at hl 3 rfl) ?_
  refine lv_iload_n hx hb dL_law_964 rfl (lv_at hl 0 rfl) ?_
  refine lv_iconst (v := 3) hx hb dL_law_965 (by decide) ?_
  refine lv_iadd hx hb dL_law_966 ?_
  refine lv_lit (v := nI (6 * j + 3)) (nI_addE (6 * j) 3 (6 * j + 3) rfl) ?_
  refine va_sld hx hb hXs hbl hbA hS (vp_in_nI (by omega) (by omega)) dL_law_967 ?_
  refine lv_lit (v := xs (6 * j + 3)) (by rw [nI_clamp (by omega)]) ?_
  refine cVr (wA := wP) (wB := wM) (ci := 11) (a := h0) (As := [.int (xs (6 * j + 1)), .int (xs (6 * j + 2)), .int (xs (6 * j + 3))]) (rest := []) ⟨hx, hb, hml, hown, hts⟩ hK hX hA (rd_x_note l D tc sk h0 dr im ts RL (xs (6 * j + 1)) (xs (6 * j + 2)) (xs (6 * j + 3))) k_969 k_966 k_967 k_968 k_95 pl_X11_note (Nat.le_of_ble_eq_true rfl) (Nat.le_of_ble_eq_true rfl) hI1 (PBI.recv hI1) rfl rfl hP hD hS rfl hl.1 rfl (Nat.le_of_ble_eq_true rfl) dL_law_968 (by show 98 + 46 * j + 23 ≤ 600000; omega) (by show 8097 + 940 * j + 470 ≤ 7302250; omega) (fun v wP1 H locs hv hP hD hS => ?_)
  obtain ⟨r1, rfl, dr1, hT1, hI1⟩ := hv
  refine W.eq (g2 := F0 m 971 ls [.int r1]) rfl ?_
  refine lv_pop hx hb dL_law_971 rfl ?_
  refine lv_aload_n hx hb dL_law_972 rfl (lv_at hl 1 rfl) ?_
  refine lv_aload_n hx hb dL_law_973 rfl (lv_at hl 3 rfl) ?_
  refine lv_iload_n hx hb dL_law_974 rfl (lv_at hl 0 rfl) ?_
  refine lv_iconst (v := 1) hx hb dL_law_975 (by decide) ?_
  refine lv_iadd hx hb dL_law_976 ?_
  refine lv_lit (v := nI (6 * j + 1)) (nI_addE (6 * j) 1 (6 * j + 1) rfl) ?_
  refine va_sld hx hb hXs hbl hbA hS (vp_in_nI (by omega) (by omega)) dL_law_977 ?_
  refine lv_lit (v := xs (6 * j + 1)) (by rw [nI_clamp (by omega)]) ?_
  refine lv_aload_n hx hb dL_law_978 rfl (lv_at hl 3 rfl) ?_
  refine lv_iload_n hx hb dL_law_979 rfl (lv_at hl 0 rfl) ?_
  refine lv_iconst (v := 2) hx hb dL_law_980 (by decide) ?_
  refine lv_iadd hx hb dL_law_981 ?_
  refine lv_lit (v := nI (6 * j + 2)) (nI_addE (6 * j) 2 (6 * j + 2) rfl) ?_
  refine va_sld hx hb hXs hbl hbA hS (vp_in_nI (by omega) (by omega)) dL_law_982 ?_
  refine lv_lit (v := xs (6 * j + 2)) (by rw [nI_clamp (by omega)]) ?_
  refine lv_aload_n hx hb dL_law_983 rfl (lv_at hl 3 rfl) ?_
  refine lv_iload_n hx hb dL_law_984 rfl (lv_at hl 0 rfl) ?_
  refine lv_iconst (v := 3) hx hb dL_law_985 (by decide) ?_
  refine lv_iadd hx hb dL_law_986 ?_
  refine lv_lit (v := nI (6 * j + 3)) (nI_addE (6 * j) 3 (6 * j + 3) rfl) ?_
  refine va_sld hx hb hXs hbl hbA hS (vp_in_nI (by omega) (by omega)) dL_law_987 ?_
  refine lv_lit (v := xs (6 * j + 3)) (by rw [nI_clamp (by omega)]) ?_
  have hP := hP.perm (List.perm_append_comm (l₁ := wP1) (l₂ := wM))
  have hD := hD.perm (List.perm_append_comm (l₁ := wP1) (l₂ := wM))
  refine cVr (wA := wM) (wB := wP1) (ci := 12) (a := m0) (As := [.int (xs (6 * j + 1)), .int (xs (6 * j + 2)), .int (xs (6 * j + 3))]) (rest := []) ⟨hx, hb, hml, hown, hts⟩ hK hX hA (rd_m_note l D tc sk m0 dr im ms RL (xs (6 * j + 1)) (xs (6 * j + 2)) (xs (6 * j + 3))) k_1598 k_1595 k_1596 k_1597 k_106 pl_X12_note (Nat.le_of_ble_eq_true rfl) (Nat.le_of_ble_eq_true rfl) hI2 (MI.recv hI2) rfl rfl hP hD hS rfl hl.1 rfl (Nat.le_of_ble_eq_true rfl) dL_law_988 (by show 98 + 46 * j + 23 + 23 ≤ 600000; omega) (by show 8097 + 940 * j + 470 + 470 ≤ 7302250; omega) (fun v wM1 H locs hv hP hD hS => ?_)
  obtain ⟨r2, rfl, dr2, hT2, hI2⟩ := hv
  obtain ⟨hreq, hdeq⟩ := NtS.det hT1 hT2
  rw [← hdeq] at hI2
  refine W.eq (g2 := F0 m 991 ls [.int r2]) rfl ?_
  refine lv_pop hx hb dL_law_991 rfl ?_
  refine lv_goto (tgt := 1186) hx hb dL_law_992 (by decide) ?_
  have hP := hP.perm (List.perm_append_comm (l₁ := wM1) (l₂ := wP1))
  have hD := hD.perm (List.perm_append_comm (l₁ := wM1) (l₂ := wP1))
  exact law_tail C hL hj IH (by omega) (by omega) ⟨dr1, im, ts, ms, RL, hI1, hI2, hE, NtS.good hT1 hG, hM⟩ hP hD hS hl
set_option maxHeartbeats 4000000 in
set_option maxRecDepth 100000 in
theorem law_27 {p : Program} {l : Launch} {e : Env} {s : State} {m : MethodId} {below : List Frame} {meth : Method} {c : Code} {D : va_G} {tc : Nat → ClassId} {sk : (Nat → Nat) × (Nat → Nat)} {A : Nat → Prop} {b : Nat} {xs : Nat → Int32} {L : Nat} {h0 m0 j : Nat} (C : LawCx p s m meth c D tc sk A b xs L) (hL : L ≤ 3072) (hj : 6 * j + 6 ≤ L) (IH : LawHead p l e s m below meth c D tc A b h0 m0 (j + 1)) {wP wM : va_W} {H : Heap} {locs : List Loc} {ls : Array Slot} (hI : LInv tc h0 m0 wP wM) (hP : va_P D classes (wP ++ wM) H) (hD : va_D A (wP ++ wM)) (hS : va_S A s.heap H locs) (hl : lv_has ls 4 [(3, .int (nI (6 * j))), (2, .ref m0), (1, .ref h0), (0, .ref b)]) : W p l e room_1 s m #[Value.ref b] below meth c H locs (98 + 46 * j) (8097 + 940 * j) (lw_Z below #[Value.ref b] s) (F0 m 995 ls []) := by
  obtain ⟨hx, hb, hr, hlk, hml, hown, hts, hK, hX, hA, hAl, hXs, hbl, hbA⟩ := id C
  obtain ⟨dr, im, ts, ms, RL, hI1, hI2, hE, hG, hM⟩ := hI
  have hBy := PBI.tape hI1
  refine lv_aload_n hx hb dL_law_995 rfl (lv_at hl 2 rfl) ?_
  refine lv_aload_n hx hb dL_law_996 rfl (lv_at hl 3 rfl) ?_
  refine lv_iload_n hx hb dL_law_997 rfl (lv_at hl 0 rfl) ?_
  refine lv_iconst (v := 1) hx hb dL_law_998 (by decide) ?_
  refine lv_iadd hx hb dL_law_999 ?_
  refine lv_lit (v := nI (6 * j + 1)) (nI_addE (6 * j) 1 (6 * j + 1) rfl) ?_
  refine va_sld hx hb hXs hbl hbA hS (vp_in_nI (by omega) (by omega)) dL_law_1000 ?_
  refine lv_lit (v := xs (6 * j + 1)) (by rw [nI_clamp (by omega)]) ?_
  refine cVr (wA := wP) (wB := wM) (ci := 11) (a := h0) (As := [.int (xs (6 * j + 1))]) (rest := []) ⟨hx, hb, hml, hown, hts⟩ hK hX hA (rd_x_ruled l D tc sk h0 dr im ts RL (xs (6 * j + 1))) k_977 k_974 k_975 k_976 k_95 pl_X11_ruled (Nat.le_of_ble_eq_true rfl) (Nat.le_of_ble_eq_true rfl) hI1 (PBI.recv hI1) rfl rfl hP hD hS rfl hl.1 rfl (Nat.le_of_ble_eq_true rfl) dL_law_1001 (by show 98 + 46 * j + 23 ≤ 600000; omega) (by show 8097 + 940 * j + 470 ≤ 7302250; omega) (fun v wP1 H locs hv hP hD hS => ?_)
  obtain ⟨r1, rfl, hI1⟩ := hv
  refine W.eq (g2 := F0 m 1004 ls [.int r1]) rfl ?_
  refine lv_pop hx hb dL_law_1004 rfl ?_
  refine lv_aload_n hx hb dL_law_1005 rfl (lv_at hl 1 rfl) ?_
  refine lv_aload_n hx hb dL_law_1006 rfl (lv_at hl 3 rfl) ?_
  refine lv_iload_n hx hb dL_law_1007 rfl (lv_at hl 0 rfl) ?_
  refine lv_iconst (v := 1) hx hb dL_law_1008 (by decide) ?_
  refine lv_iadd hx hb dL_law_1009 ?_
  refine lv_lit (v := nI (6 * j + 1)) (nI_addE (6 * j) 1 (6 * j + 1) rfl) ?_
  refine va_sld hx hb hXs hbl hbA hS (vp_in_nI (by omega) (by omega)) dL_law_1010 ?_
  refine lv_lit (v := xs (6 * j + 1)) (by rw [nI_clamp (by omega)]) ?_
  have hP := hP.perm (List.perm_append_comm (l₁ := wP1) (l₂ := wM))
  have hD := hD.perm (List.perm_append_comm (l₁ := wP1) (l₂ := wM))
  refine cVr (wA := wM) (wB := wP1) (ci := 12) (a := m0) (As := [.int (xs (6 * j + 1))]) (rest := []) ⟨hx, hb, hml, hown, hts⟩ hK hX hA (rd_m_ruled l D tc sk m0 dr im ms RL (xs (6 * j + 1))) k_1602 k_1599 k_1600 k_1601 k_106 pl_X12_ruled (Nat.le_of_ble_eq_true rfl) (Nat.le_of_ble_eq_true rfl) hI2 (MI.recv hI2) rfl rfl hP hD hS rfl hl.1 rfl (Nat.le_of_ble_eq_true rfl) dL_law_1011 (by show 98 + 46 * j + 23 + 23 ≤ 600000; omega) (by show 8097 + 940 * j + 470 + 470 ≤ 7302250; omega) (fun v wM1 H locs hv hP hD hS => ?_)
  obtain ⟨r2, rfl, hI2⟩ := hv
  refine W.eq (g2 := F0 m 1014 ls [.int r2]) rfl ?_
  refine lv_pop hx hb dL_law_1014 rfl ?_
  refine lv_goto (tgt := 1186) hx hb dL_law_1015 (by decide) ?_
  have hP := hP.perm (List.perm_append_comm (l₁ := wM1) (l₂ := wP1))
  have hD := hD.perm (List.perm_append_comm (l₁ := wM1) (l₂ := wP1))
  exact law_tail C hL hj IH (by omega) (by omega) ⟨dr, im, ts, ms, RL, hI1, hI2, hE, hG, hM⟩ hP hD hS hl
set_option maxHeartbeats 4000000 in
set_option maxRecDepth 100000 in
theorem law_28 {p : Program} {l : Launch} {e : Env} {s : State} {m : MethodId} {below : List Frame} {meth : Method} {c : Code} {D : va_G} {tc : Nat → ClassId} {sk : (Nat → Nat) × (Nat → Nat)} {A : Nat → Prop} {b : Nat} {xs : Nat → Int32} {L : Nat} {h0 m0 j : Nat} (C : LawCx p s m meth c D tc sk A b xs L) (hL : L ≤ 3072) (hj : 6 * j + 6 ≤ L) (IH : LawHead p l e s m below meth c D tc A b h0 m0 (j + 1)) {wP wM : va_W} {H : Heap} {locs : List Loc} {ls : Array Slot} (hI : LInv tc h0 m0 wP wM) (hP : va_P D classes (wP ++ wM) H) (hD : va_D A (wP ++ wM)) (hS : va_S A s.heap H locs) (hl : lv_has ls 4 [(3, .int (nI (6 * j))), (2, .ref m0), (1, .ref h0), (0, .ref b)]) : W p l e room_1 s m #[Value.ref b] below meth c H locs (98 + 46 * j) (8097 + 940 * j) (lw_Z below #[Value.ref b] s) (F0 m 1018 ls []) := by
  obtain ⟨hx, hb, hr, hlk, hml, hown, hts, hK, hX, hA, hAl, hXs, hbl, hbA⟩ := id C
  obtain ⟨dr, im, ts, ms, RL, hI1, hI2, hE, hG, hM⟩ := hI
  have hBy := PBI.tape hI1
  refine lv_aload_n hx hb dL_law_1018 rfl (lv_at hl 2 rfl) ?_
  refine lv_aload_n hx hb dL_law_1019 rfl (lv_at hl 3 rfl) ?_
  refine lv_iload_n hx hb dL_law_1020 rfl (lv_at hl 0 rfl) ?_
  refine lv_iconst (v := 1) hx hb dL_law_1021 (by decide) ?_
  refine lv_iadd hx hb dL_law_1022 ?_
  refine lv_lit (v := nI (6 * j + 1)) (nI_addE (6 * j) 1 (6 * j + 1) rfl) ?_
  refine va_sld hx hb hXs hbl hbA hS (vp_in_nI (by omega) (by omega)) dL_law_1023 ?_
  refine lv_lit (v := xs (6 * j + 1)) (by rw [nI_clamp (by omega)]) ?_
  refine cVr (wA := wP) (wB := wM) (ci := 11) (a := h0) (As := [.int (xs (6 * j + 1))]) (rest := []) ⟨hx, hb, hml, hown, hts⟩ hK hX hA (rd_x_look l D tc sk h0 dr im ts RL (xs (6 * j + 1))) k_999 k_996 k_997 k_998 k_95 pl_X11_look (Nat.le_of_ble_eq_true rfl) (Nat.le_of_ble_eq_true rfl) hI1 (PBI.recv hI1) rfl rfl hP hD hS rfl hl.1 rfl (Nat.le_of_ble_eq_true rfl) dL_law_1024 (by show 98 + 46 * j + 23 ≤ 600000; omega) (by show 8097 + 940 * j + 470 ≤ 7302250; omega) (fun v wP1 H locs hv hP hD hS => ?_)
  obtain ⟨r1, rfl, hA1, hI1⟩ := hv
  refine W.eq (g2 := F0 m 1027 ls [.int r1]) rfl ?_
  refine lv_aload_n hx hb dL_law_1027 rfl (lv_at hl 1 rfl) ?_
  refine lv_aload_n hx hb dL_law_1028 rfl (lv_at hl 3 rfl) ?_
  refine lv_iload_n hx hb dL_law_1029 rfl (lv_at hl 0 rfl) ?_
  refine lv_iconst (v := 1) hx hb dL_law_1030 (by decide) ?_
  refine lv_iadd hx hb dL_law_1031 ?_
  refine lv_lit (v := nI (6 * j + 1)) (nI_addE (6 * j) 1 (6 * j + 1) rfl) ?_
  refine va_sld hx hb hXs hbl hbA hS (vp_in_nI (by omega) (by omega)) dL_law_1032 ?_
  refine lv_lit (v := xs (6 * j + 1)) (by rw [nI_clamp (by omega)]) ?_
  have hP := hP.perm (List.perm_append_comm (l₁ := wP1) (l₂ := wM))
  have hD := hD.perm (List.perm_append_comm (l₁ := wP1) (l₂ := wM))
  refine cVr (wA := wM) (wB := wP1) (ci := 12) (a := m0) (As := [.int (xs (6 * j + 1))]) (rest := [.int r1]) ⟨hx, hb, hml, hown, hts⟩ hK hX hA (rd_m_look l D tc sk m0 dr im ms RL (xs (6 * j + 1))) k_1617 k_1614 k_1615 k_1616 k_106 pl_X12_look (Nat.le_of_ble_eq_true rfl) (Nat.le_of_ble_eq_true rfl) hI2 (MI.recv hI2) rfl rfl hP hD hS rfl hl.1 rfl (Nat.le_of_ble_eq_true rfl) dL_law_1033 (by show 98 + 46 * j + 23 + 23 ≤ 600000; omega) (by show 8097 + 940 * j + 470 + 470 ≤ 7302250; omega) (fun v wM1 H locs hv hP hD hS => ?_)
  obtain ⟨r2, rfl, hA2, hI2⟩ := hv
  have hreq := AskX.eq hA1 hA2 hG
  refine W.eq (g2 := F0 m 1036 ls [.int r2, .int r1]) rfl ?_
  refine lv_icmp_eq (tgt := 1186) hx hb dL_law_1036 (by decide) (fun cq => ?_) (fun cq => absurd hreq cq)
  have hP := hP.perm (List.perm_append_comm (l₁ := wM1) (l₂ := wP1))
  have hD := hD.perm (List.perm_append_comm (l₁ := wM1) (l₂ := wP1))
  exact law_tail C hL hj IH (by omega) (by omega) ⟨dr, im, ts, ms, RL, hI1, hI2, hE, hG, hM⟩ hP hD hS hl
set_option maxHeartbeats 4000000 in
set_option maxRecDepth 100000 in
theorem law_29 {p : Program} {l : Launch} {e : Env} {s : State} {m : MethodId} {below : List Frame} {meth : Method} {c : Code} {D : va_G} {tc : Nat → ClassId} {sk : (Nat → Nat) × (Nat → Nat)} {A : Nat → Prop} {b : Nat} {xs : Nat → Int32} {L : Nat} {h0 m0 j : Nat} (C : LawCx p s m meth c D tc sk A b xs L) (hL : L ≤ 3072) (hj : 6 * j + 6 ≤ L) (IH : LawHead p l e s m below meth c D tc A b h0 m0 (j + 1)) {wP wM : va_W} {H : Heap} {locs : List Loc} {ls : Array Slot} (hI : LInv tc h0 m0 wP wM) (hP : va_P D classes (wP ++ wM) H) (hD : va_D A (wP ++ wM)) (hS : va_S A s.heap H locs) (hl : lv_has ls 4 [(3, .int (nI (6 * j))), (2, .ref m0), (1, .ref h0), (0, .ref b)]) : W p l e room_1 s m #[Value.ref b] below meth c H locs (98 + 46 * j) (8097 + 940 * j) (lw_Z below #[Value.ref b] s) (F0 m 1041 ls []) := by
  obtain ⟨hx, hb, hr, hlk, hml, hown, hts, hK, hX, hA, hAl, hXs, hbl, hbA⟩ := id C
  obtain ⟨dr, im, ts, ms, RL, hI1, hI2, hE, hG, hM⟩ := hI
  have hBy := PBI.tape hI1
  refine lv_aload_n hx hb dL_law_1041 rfl (lv_at hl 2 rfl) ?_
  refine lv_aload_n hx hb dL_law_1042 rfl (lv_at hl 3 rfl) ?_
  refine lv_iload_n hx hb dL_law_1043 rfl (lv_at hl 0 rfl) ?_
  refine lv_iconst (v := 1) hx hb dL_law_1044 (by decide) ?_
  refine lv_iadd hx hb dL_law_1045 ?_
  refine lv_lit (v := nI (6 * j + 1)) (nI_addE (6 * j) 1 (6 * j + 1) rfl) ?_
  refine va_sld hx hb hXs hbl hbA hS (vp_in_nI (by omega) (by omega)) dL_law_1046 ?_
  refine lv_lit (v := xs (6 * j + 1)) (by rw [nI_clamp (by omega)]) ?_
  refine cVr (wA := wP) (wB := wM) (ci := 11) (a := h0) (As := [.int (xs (6 * j + 1))]) (rest := []) ⟨hx, hb, hml, hown, hts⟩ hK hX hA (rd_x_seed l D tc sk h0 dr im ts RL (xs (6 * j + 1))) k_1012 k_1009 k_1010 k_1011 k_95 pl_X11_seed (Nat.le_of_ble_eq_true rfl) (Nat.le_of_ble_eq_true rfl) hI1 (PBI.recv hI1) rfl rfl hP hD hS rfl hl.1 rfl (Nat.le_of_ble_eq_true rfl) dL_law_1047 (by show 98 + 46 * j + 23 ≤ 600000; omega) (by show 8097 + 940 * j + 470 ≤ 7302250; omega) (fun v wP1 H locs hv hP hD hS => ?_)
  obtain ⟨r1, rfl, hI1⟩ := hv
  refine W.eq (g2 := F0 m 1050 ls [.int r1]) rfl ?_
  refine lv_pop hx hb dL_law_1050 rfl ?_
  refine lv_aload_n hx hb dL_law_1051 rfl (lv_at hl 1 rfl) ?_
  refine lv_aload_n hx hb dL_law_1052 rfl (lv_at hl 3 rfl) ?_
  refine lv_iload_n hx hb dL_law_1053 rfl (lv_at hl 0 rfl) ?_
  refine lv_iconst (v := 1) hx hb dL_law_1054 (by decide) ?_
  refine lv_iadd hx hb dL_law_1055 ?_
  refine lv_lit (v := nI (6 * j + 1)) (nI_addE (6 * j) 1 (6 * j + 1) rfl) ?_
  refine va_sld hx hb hXs hbl hbA hS (vp_in_nI (by omega) (by omega)) dL_law_1056 ?_
  refine lv_lit (v := xs (6 * j + 1)) (by rw [nI_clamp (by omega)]) ?_
  have hP := hP.perm (List.perm_append_comm (l₁ := wP1) (l₂ := wM))
  have hD := hD.perm (List.perm_append_comm (l₁ := wP1) (l₂ := wM))
  refine cVr (wA := wM) (wB := wP1) (ci := 12) (a := m0) (As := [.int (xs (6 * j + 1))]) (rest := []) ⟨hx, hb, hml, hown, hts⟩ hK hX hA (rd_m_seed l D tc sk m0 dr im ms RL (xs (6 * j + 1))) k_1625 k_1622 k_1623 k_1624 k_106 pl_X12_seed (Nat.le_of_ble_eq_true rfl) (Nat.le_of_ble_eq_true rfl) hI2 (MI.recv hI2) rfl rfl hP hD hS rfl hl.1 rfl (Nat.le_of_ble_eq_true rfl) dL_law_1057 (by show 98 + 46 * j + 23 + 23 ≤ 600000; omega) (by show 8097 + 940 * j + 470 + 470 ≤ 7302250; omega) (fun v wM1 H locs hv hP hD hS => ?_)
  obtain ⟨r2, rfl, hI2⟩ := hv
  refine W.eq (g2 := F0 m 1060 ls [.int r2]) rfl ?_
  refine lv_pop hx hb dL_law_1060 rfl ?_
  refine lv_goto (tgt := 1186) hx hb dL_law_1061 (by decide) ?_
  have hP := hP.perm (List.perm_append_comm (l₁ := wM1) (l₂ := wP1))
  have hD := hD.perm (List.perm_append_comm (l₁ := wM1) (l₂ := wP1))
  exact law_tail C hL hj IH (by omega) (by omega) ⟨dr, im, ts, ms, RL, hI1, hI2, hE, hG, hM⟩ hP hD hS hl
set_option maxHeartbeats 4000000 in
set_option maxRecDepth 100000 in
theorem law_30 {p : Program} {l : Launch} {e : Env} {s : State} {m : MethodId} {below : List Frame} {meth : Method} {c : Code} {D : va_G} {tc : Nat → ClassId} {sk : (Nat → Nat) × (Nat → Nat)} {A : Nat → Prop} {b : Nat} {xs : Nat → Int32} {L : Nat} {h0 m0 j : Nat} (C : LawCx p s m meth c D tc sk A b xs L) (hL : L ≤ 3072) (hj : 6 * j + 6 ≤ L) (IH : LawHead p l e s m below meth c D tc A b h0 m0 (j + 1)) {wP wM : va_W} {H : Heap} {locs : List Loc} {ls : Array Slot} (hI : LInv tc h0 m0 wP wM) (hP : va_P D classes (wP ++ wM) H) (hD : va_D A (wP ++ wM)) (hS : va_S A s.heap H locs) (hl : lv_has ls 4 [(3, .int (nI (6 * j))), (2, .ref m0), (1, .ref h0), (0, .ref b)]) : W p l e room_1 s m #[Value.ref b] below meth c H locs (98 + 46 * j) (8097 + 940 * j) (lw_Z below #[Value.ref b] s) (F0 m 1064 ls []) := by
  obtain ⟨hx, hb, hr, hlk, hml, hown, hts, hK, hX, hA, hAl, hXs, hbl, hbA⟩ := id C
  obtain ⟨dr, im, ts, ms, RL, hI1, hI2, hE, hG, hM⟩ := hI
  have hBy := PBI.tape hI1
  refine lv_aload_n hx hb dL_law_1064 rfl (lv_at hl 2 rfl) ?_
  refine lv_aload_n hx hb dL_law_1065 rfl (lv_at hl 3 rfl) ?_
  refine lv_iload_n hx hb dL_law_1066 rfl (lv_at hl 0 rfl) ?_
  refine lv_iconst (v := 1) hx hb dL_law_1067 (by decide) ?_
  refine lv_iadd hx hb dL_law_1068 ?_
  refine lv_lit (v := nI (6 * j + 1)) (nI_addE (6 * j) 1 (6 * j + 1) rfl) ?_
  refine va_sld hx hb hXs hbl hbA hS (vp_in_nI (by omega) (by omega)) dL_law_1069 ?_
  refine lv_lit (v := xs (6 * j + 1)) (by rw [nI_clamp (by omega)]) ?_
  refine lv_aload_n hx hb dL_law_1070 rfl (lv_at hl 3 rfl) ?_
  refine lv_iload_n hx hb dL_law_1071 rfl (lv_at hl 0 rfl) ?_
  refine lv_iconst (v := 2) hx hb dL_law_1072 (by decide) ?_
  refine lv_iadd hx hb dL_law_1073 ?_
  refine lv_lit (v := nI (6 * j + 2)) (nI_addE (6 * j) 2 (6 * j + 2) rfl) ?_
  refine va_sld hx hb hXs hbl hbA hS (vp_in_nI (by omega) (by omega)) dL_law_1074 ?_
  refine lv_lit (v := xs (6 * j + 2)) (by rw [nI_clamp (by omega)]) ?_
  refine lv_aload_n hx hb dL_law_1075 rfl (lv_at hl 3 rfl) ?_
  refine lv_iload_n hx hb dL_law_1076 rfl (lv_at hl 0 rfl) ?_
  refine lv_iconst (v := 3) hx hb dL_law_1077 (by decide) ?_
  refine lv_iadd hx hb dL_law_1078 ?_
  refine lv_lit (v := nI (6 * j + 3)) (nI_addE (6 * j) 3 (6 * j + 3) rfl) ?_
  refine va_sld hx hb hXs hbl hbA hS (vp_in_nI (by omega) (by omega)) dL_law_1079 ?_
  refine lv_lit (v := xs (6 * j + 3)) (by rw [nI_clamp (by omega)]) ?_
  refine lv_aload_n hx hb dL_law_1080 rfl (lv_at hl 3 rfl) ?_
  refine lv_iload_n hx hb dL_law_1081 rfl (lv_at hl 0 rfl) ?_
  refine lv_iconst (v := 4) hx hb dL_law_1082 (by decide) ?_
  refine lv_iadd hx hb dL_law_1083 ?_
  refine lv_lit (v := nI (6 * j + 4)) (nI_addE (6 * j) 4 (6 * j + 4) rfl) ?_
  refine va_sld hx hb hXs hbl hbA hS (vp_in_nI (by omega) (by omega)) dL_law_1084 ?_
  refine lv_lit (v := xs (6 * j + 4)) (by rw [nI_clamp (by omega)]) ?_
  refine cVr (wA := wP) (wB := wM) (ci := 11) (a := h0) (As := [.int (xs (6 * j + 1)), .int (xs (6 * j + 2)), .int (xs (6 * j + 3)), .int (xs (6 * j + 4))]) (rest := []) ⟨hx, hb, hml, hown, hts⟩ hK hX hA (rd_x_summers l D tc sk h0 dr im ts RL (xs (6 * j + 1)) (xs (6 * j + 2)) (xs (6 * j + 3)) (xs (6 * j + 4))) k_1016 k_1013 k_1014 k_1015 k_95 pl_X11_summers (Nat.le_of_ble_eq_true rfl) (Nat.le_of_ble_eq_true rfl) hI1 (PBI.recv hI1) rfl rfl hP hD hS rfl hl.1 rfl (Nat.le_of_ble_eq_true rfl) dL_law_1085 (by show 98 + 46 * j + 23 ≤ 600000; omega) (by show 8097 + 940 * j + 470 ≤ 7302250; omega) (fun v wP1 H locs hv hP hD hS => ?_)
  obtain ⟨r1, rfl, hI1⟩ := hv
  refine W.eq (g2 := F0 m 1088 ls [.int r1]) rfl ?_
  refine lv_pop hx hb dL_law_1088 rfl ?_
  refine lv_aload_n hx hb dL_law_1089 rfl (lv_at hl 1 rfl) ?_
  refine lv_aload_n hx hb dL_law_1090 rfl (lv_at hl 3 rfl) ?_
  refine lv_iload_n hx hb dL_law_1091 rfl (lv_at hl 0 rfl) ?_
  refine lv_iconst (v := 1) hx hb dL_law_1092 (by decide) ?_
  refine lv_iadd hx hb dL_law_1093 ?_
  refine lv_lit (v := nI (6 * j + 1)) (nI_addE (6 * j) 1 (6 * j + 1) rfl) ?_
  refine va_sld hx hb hXs hbl hbA hS (vp_in_nI (by omega) (by omega)) dL_law_1094 ?_
  refine lv_lit (v := xs (6 * j + 1)) (by rw [nI_clamp (by omega)]) ?_
  refine lv_aload_n hx hb dL_law_1095 rfl (lv_at hl 3 rfl) ?_
  refine lv_iload_n hx hb dL_law_1096 rfl (lv_at hl 0 rfl) ?_
  refine lv_iconst (v := 2) hx hb dL_law_1097 (by decide) ?_
  refine lv_iadd hx hb dL_law_1098 ?_
  refine lv_lit (v := nI (6 * j + 2)) (nI_addE (6 * j) 2 (6 * j + 2) rfl) ?_
  refine va_sld hx hb hXs hbl hbA hS (vp_in_nI (by omega) (by omega)) dL_law_1099 ?_
  refine lv_lit (v := xs (6 * j + 2)) (by rw [nI_clamp (by omega)]) ?_
  refine lv_aload_n hx hb dL_law_1100 rfl (lv_at hl 3 rfl) ?_
  refine lv_iload_n hx hb dL_law_1101 rfl (lv_at hl 0 rfl) ?_
  refine lv_iconst (v := 3) hx hb dL_law_1102 (by decide) ?_
  refine lv_iadd hx hb dL_law_1103 ?_
  refine lv_lit (v := nI (6 * j + 3)) (nI_addE (6 * j) 3 (6 * j + 3) rfl) ?_
  refine va_sld hx hb hXs hbl hbA hS (vp_in_nI (by omega) (by omega)) dL_law_1104 ?_
  refine lv_lit (v := xs (6 * j + 3)) (by rw [nI_clamp (by omega)]) ?_
  refine lv_aload_n hx hb dL_law_1105 rfl (lv_at hl 3 rfl) ?_
  refine lv_iload_n hx hb dL_law_1106 rfl (lv_at hl 0 rfl) ?_
  refine lv_iconst (v := 4) hx hb dL_law_1107 (by decide) ?_
  refine lv_iadd hx hb dL_law_1108 ?_
  refine lv_lit (v := nI (6 * j + 4)) (nI_addE (6 * j) 4 (6 * j + 4) rfl) ?_
  refine va_sld hx hb hXs hbl hbA hS (vp_in_nI (by omega) (by omega)) dL_law_1109 ?_
  refine lv_lit (v := xs (6 * j + 4)) (by rw [nI_clamp (by omega)]) ?_
  have hP := hP.perm (List.perm_append_comm (l₁ := wP1) (l₂ := wM))
  have hD := hD.perm (List.perm_append_comm (l₁ := wP1) (l₂ := wM))
  refine cVr (wA := wM) (wB := wP1) (ci := 12) (a := m0) (As := [.int (xs (6 * j + 1)), .int (xs (6 * j + 2)), .int (xs (6 * j + 3)), .int (xs (6 * j + 4))]) (rest := []) ⟨hx, hb, hml, hown, hts⟩ hK hX hA (rd_m_summers l D tc sk m0 dr im ms RL (xs (6 * j + 1)) (xs (6 * j + 2)) (xs (6 * j + 3)) (xs (6 * j + 4))) k_1629 k_1626 k_1627 k_1628 k_106 pl_X12_summers (Nat.le_of_ble_eq_true rfl) (Nat.le_of_ble_eq_true rfl) hI2 (MI.recv hI2) rfl rfl hP hD hS rfl hl.1 rfl (Nat.le_of_ble_eq_true rfl) dL_law_1110 (by show 98 + 46 * j + 23 + 23 ≤ 600000; omega) (by show 8097 + 940 * j + 470 + 470 ≤ 7302250; omega) (fun v wM1 H locs hv hP hD hS => ?_)
  obtain ⟨r2, rfl, hI2⟩ := hv
  refine W.eq (g2 := F0 m 1113 ls [.int r2]) rfl ?_
  refine lv_pop hx hb dL_law_1113 rfl ?_
  refine lv_goto (tgt := 1186) hx hb dL_law_1114 (by decide) ?_
  have hP := hP.perm (List.perm_append_comm (l₁ := wM1) (l₂ := wP1))
  have hD := hD.perm (List.perm_append_comm (l₁ := wM1) (l₂ := wP1))
  exact law_tail C hL hj IH (by omega) (by omega) ⟨dr, im, ts, ms, RL, hI1, hI2, hE, hG, hM⟩ hP hD hS hl
set_option maxHeartbeats 4000000 in
set_option maxRecDepth 100000 in
theorem law_31 {p : Program} {l : Launch} {e : Env} {s : State} {m : MethodId} {below : List Frame} {meth : Method} {c : Code} {D : va_G} {tc : Nat → ClassId} {sk : (Nat → Nat) × (Nat → Nat)} {A : Nat → Prop} {b : Nat} {xs : Nat → Int32} {L : Nat} {h0 m0 j : Nat} (C : LawCx p s m meth c D tc sk A b xs L) (hL : L ≤ 3072) (hj : 6 * j + 6 ≤ L) (IH : LawHead p l e s m below meth c D tc A b h0 m0 (j + 1)) {wP wM : va_W} {H : Heap} {locs : List Loc} {ls : Array Slot} (hI : LInv tc h0 m0 wP wM) (hP : va_P D classes (wP ++ wM) H) (hD : va_D A (wP ++ wM)) (hS : va_S A s.heap H locs) (hl : lv_has ls 4 [(3, .int (nI (6 * j))), (2, .ref m0), (1, .ref h0), (0, .ref b)]) : W p l e room_1 s m #[Value.ref b] below meth c H locs (98 + 46 * j) (8097 + 940 * j) (lw_Z below #[Value.ref b] s) (F0 m 1117 ls []) := by
  obtain ⟨hx, hb, hr, hlk, hml, hown, hts, hK, hX, hA, hAl, hXs, hbl, hbA⟩ := id C
  obtain ⟨dr, im, ts, ms, RL, hI1, hI2, hE, hG, hM⟩ := hI
  have hBy := PBI.tape hI1
  refine lv_aload_n hx hb dL_law_1117 rfl (lv_at hl 2 rfl) ?_
  refine lv_aload_n hx hb dL_law_1118 rfl (lv_at hl 3 rfl) ?_
  refine lv_iload_n hx hb dL_law_1119 rfl (lv_at hl 0 rfl) ?_
  refine lv_iconst (v := 1) hx hb dL_law_1120 (by decide) ?_
  refine lv_iadd hx hb dL_law_1121 ?_
  refine lv_lit (v := nI (6 * j + 1)) (nI_addE (6 * j) 1 (6 * j + 1) rfl) ?_
  refine va_sld hx hb hXs hbl hbA hS (vp_in_nI (by omega) (by omega)) dL_law_1122 ?_
  refine lv_lit (v := xs (6 * j + 1)) (by rw [nI_clamp (by omega)]) ?_
  refine cVr (wA := wP) (wB := wM) (ci := 11) (a := h0) (As := [.int (xs (6 * j + 1))]) (rest := []) ⟨hx, hb, hml, hown, hts⟩ hK hX hA (rd_x_count l D tc sk h0 dr im ts RL (xs (6 * j + 1))) k_1040 k_1037 k_1038 k_1039 k_95 pl_X11_count (Nat.le_of_ble_eq_true rfl) (Nat.le_of_ble_eq_true rfl) hI1 (PBI.recv hI1) rfl rfl hP hD hS rfl hl.1 rfl (Nat.le_of_ble_eq_true rfl) dL_law_1123 (by show 98 + 46 * j + 23 ≤ 600000; omega) (by show 8097 + 940 * j + 470 ≤ 7302250; omega) (fun v wP1 H locs hv hP hD hS => ?_)
  obtain ⟨r1, rfl, hI1⟩ := hv
  refine W.eq (g2 := F0 m 1126 ls [.int r1]) rfl ?_
  refine lv_pop hx hb dL_law_1126 rfl ?_
  refine lv_aload_n hx hb dL_law_1127 rfl (lv_at hl 1 rfl) ?_
  refine lv_aload_n hx hb dL_law_1128 rfl (lv_at hl 3 rfl) ?_
  refine lv_iload_n hx hb dL_law_1129 rfl (lv_at hl 0 rfl) ?_
  refine lv_iconst (v := 1) hx hb dL_law_1130 (by decide) ?_
  refine lv_iadd hx hb dL_law_1131 ?_
  refine lv_lit (v := nI (6 * j + 1)) (nI_addE (6 * j) 1 (6 * j + 1) rfl) ?_
  refine va_sld hx hb hXs hbl hbA hS (vp_in_nI (by omega) (by omega)) dL_law_1132 ?_
  refine lv_lit (v := xs (6 * j + 1)) (by rw [nI_clamp (by omega)]) ?_
  have hP := hP.perm (List.perm_append_comm (l₁ := wP1) (l₂ := wM))
  have hD := hD.perm (List.perm_append_comm (l₁ := wP1) (l₂ := wM))
  refine cVr (wA := wM) (wB := wP1) (ci := 12) (a := m0) (As := [.int (xs (6 * j + 1))]) (rest := []) ⟨hx, hb, hml, hown, hts⟩ hK hX hA (rd_m_count l D tc sk m0 dr im ms RL (xs (6 * j + 1))) k_1642 k_1639 k_1640 k_1641 k_106 pl_X12_count (Nat.le_of_ble_eq_true rfl) (Nat.le_of_ble_eq_true rfl) hI2 (MI.recv hI2) rfl rfl hP hD hS rfl hl.1 rfl (Nat.le_of_ble_eq_true rfl) dL_law_1133 (by show 98 + 46 * j + 23 + 23 ≤ 600000; omega) (by show 8097 + 940 * j + 470 + 470 ≤ 7302250; omega) (fun v wM1 H locs hv hP hD hS => ?_)
  obtain ⟨r2, rfl, hI2⟩ := hv
  refine W.eq (g2 := F0 m 1136 ls [.int r2]) rfl ?_
  refine lv_pop hx hb dL_law_1136 rfl ?_
  refine lv_goto (tgt := 1186) hx hb dL_law_1137 (by decide) ?_
  have hP := hP.perm (List.perm_append_comm (l₁ := wM1) (l₂ := wP1))
  have hD := hD.perm (List.perm_append_comm (l₁ := wM1) (l₂ := wP1))
  exact law_tail C hL hj IH (by omega) (by omega) ⟨dr, im, ts, ms, RL, hI1, hI2, hE, hG, hM⟩ hP hD hS hl
set_option maxHeartbeats 4000000 in
set_option maxRecDepth 100000 in
theorem law_32 {p : Program} {l : Launch} {e : Env} {s : State} {m : MethodId} {below : List Frame} {meth : Method} {c : Code} {D : va_G} {tc : Nat → ClassId} {sk : (Nat → Nat) × (Nat → Nat)} {A : Nat → Prop} {b : Nat} {xs : Nat → Int32} {L : Nat} {h0 m0 j : Nat} (C : LawCx p s m meth c D tc sk A b xs L) (hL : L ≤ 3072) (hj : 6 * j + 6 ≤ L) (IH : LawHead p l e s m below meth c D tc A b h0 m0 (j + 1)) {wP wM : va_W} {H : Heap} {locs : List Loc} {ls : Array Slot} (hI : LInv tc h0 m0 wP wM) (hP : va_P D classes (wP ++ wM) H) (hD : va_D A (wP ++ wM)) (hS : va_S A s.heap H locs) (hl : lv_has ls 4 [(3, .int (nI (6 * j))), (2, .ref m0), (1, .ref h0), (0, .ref b)]) : W p l e room_1 s m #[Value.ref b] below meth c H locs (98 + 46 * j) (8097 + 940 * j) (lw_Z below #[Value.ref b] s) (F0 m 1140 ls []) := by
  obtain ⟨hx, hb, hr, hlk, hml, hown, hts, hK, hX, hA, hAl, hXs, hbl, hbA⟩ := id C
  obtain ⟨dr, im, ts, ms, RL, hI1, hI2, hE, hG, hM⟩ := hI
  have hBy := PBI.tape hI1
  refine lv_aload_n hx hb dL_law_1140 rfl (lv_at hl 2 rfl) ?_
  refine lv_aload_n hx hb dL_law_1141 rfl (lv_at hl 3 rfl) ?_
  refine lv_iload_n hx hb dL_law_1142 rfl (lv_at hl 0 rfl) ?_
  refine lv_iconst (v := 1) hx hb dL_law_1143 (by decide) ?_
  refine lv_iadd hx hb dL_law_1144 ?_
  refine lv_lit (v := nI (6 * j + 1)) (nI_addE (6 * j) 1 (6 * j + 1) rfl) ?_
  refine va_sld hx hb hXs hbl hbA hS (vp_in_nI (by omega) (by omega)) dL_law_1145 ?_
  refine lv_lit (v := xs (6 * j + 1)) (by rw [nI_clamp (by omega)]) ?_
  refine cVr (wA := wP) (wB := wM) (ci := 11) (a := h0) (As := [.int (xs (6 * j + 1))]) (rest := []) ⟨hx, hb, hml, hown, hts⟩ hK hX hA (rd_x_image l D tc sk h0 dr im ts RL (xs (6 * j + 1))) k_1054 k_1051 k_1052 k_1053 k_95 pl_X11_image (Nat.le_of_ble_eq_true rfl) (Nat.le_of_ble_eq_true rfl) hI1 (PBI.recv hI1) rfl rfl hP hD hS rfl hl.1 rfl (Nat.le_of_ble_eq_true rfl) dL_law_1146 (by show 98 + 46 * j + 23 ≤ 600000; omega) (by show 8097 + 940 * j + 470 ≤ 7302250; omega) (fun v wP1 H locs hv hP hD hS => ?_)
  obtain ⟨r1, rfl, im1, hT1, hI1⟩ := hv
  refine W.eq (g2 := F0 m 1149 ls [.int r1]) rfl ?_
  refine lv_pop hx hb dL_law_1149 rfl ?_
  refine lv_aload_n hx hb dL_law_1150 rfl (lv_at hl 1 rfl) ?_
  refine lv_aload_n hx hb dL_law_1151 rfl (lv_at hl 3 rfl) ?_
  refine lv_iload_n hx hb dL_law_1152 rfl (lv_at hl 0 rfl) ?_
  refine lv_iconst (v := 1) hx hb dL_law_1153 (by decide) ?_
  refine lv_iadd hx hb dL_law_1154 ?_
  refine lv_lit (v := nI (6 * j + 1)) (nI_addE (6 * j) 1 (6 * j + 1) rfl) ?_
  refine va_sld hx hb hXs hbl hbA hS (vp_in_nI (by omega) (by omega)) dL_law_1155 ?_
  refine lv_lit (v := xs (6 * j + 1)) (by rw [nI_clamp (by omega)]) ?_
  have hP := hP.perm (List.perm_append_comm (l₁ := wP1) (l₂ := wM))
  have hD := hD.perm (List.perm_append_comm (l₁ := wP1) (l₂ := wM))
  refine cVr (wA := wM) (wB := wP1) (ci := 12) (a := m0) (As := [.int (xs (6 * j + 1))]) (rest := []) ⟨hx, hb, hml, hown, hts⟩ hK hX hA (rd_m_image l D tc sk m0 dr im ms RL (xs (6 * j + 1))) k_1650 k_1647 k_1648 k_1649 k_106 pl_X12_image (Nat.le_of_ble_eq_true rfl) (Nat.le_of_ble_eq_true rfl) hI2 (MI.recv hI2) rfl rfl hP hD hS rfl hl.1 rfl (Nat.le_of_ble_eq_true rfl) dL_law_1156 (by show 98 + 46 * j + 23 + 23 ≤ 600000; omega) (by show 8097 + 940 * j + 470 + 470 ≤ 7302250; omega) (fun v wM1 H locs hv hP hD hS => ?_)
  obtain ⟨r2, rfl, im2, hT2, hI2⟩ := hv
  rw [← TI.det hT1 hT2] at hI2
  refine W.eq (g2 := F0 m 1159 ls [.int r2]) rfl ?_
  refine lv_pop hx hb dL_law_1159 rfl ?_
  refine lv_goto (tgt := 1186) hx hb dL_law_1160 (by decide) ?_
  have hP := hP.perm (List.perm_append_comm (l₁ := wM1) (l₂ := wP1))
  have hD := hD.perm (List.perm_append_comm (l₁ := wM1) (l₂ := wP1))
  exact law_tail C hL hj IH (by omega) (by omega) ⟨dr, im1, ts, ms, RL, hI1, hI2, hE, hG, TI.good hT1 hG hM⟩ hP hD hS hl
set_option maxHeartbeats 4000000 in
set_option maxRecDepth 100000 in
theorem law_33 {p : Program} {l : Launch} {e : Env} {s : State} {m : MethodId} {below : List Frame} {meth : Method} {c : Code} {D : va_G} {tc : Nat → ClassId} {sk : (Nat → Nat) × (Nat → Nat)} {A : Nat → Prop} {b : Nat} {xs : Nat → Int32} {L : Nat} {h0 m0 j : Nat} (C : LawCx p s m meth c D tc sk A b xs L) (hL : L ≤ 3072) (hj : 6 * j + 6 ≤ L) (IH : LawHead p l e s m below meth c D tc A b h0 m0 (j + 1)) {wP wM : va_W} {H : Heap} {locs : List Loc} {ls : Array Slot} (hI : LInv tc h0 m0 wP wM) (hP : va_P D classes (wP ++ wM) H) (hD : va_D A (wP ++ wM)) (hS : va_S A s.heap H locs) (hl : lv_has ls 4 [(3, .int (nI (6 * j))), (2, .ref m0), (1, .ref h0), (0, .ref b)]) : W p l e room_1 s m #[Value.ref b] below meth c H locs (98 + 46 * j) (8097 + 940 * j) (lw_Z below #[Value.ref b] s) (F0 m 1163 ls []) := by
  obtain ⟨hx, hb, hr, hlk, hml, hown, hts, hK, hX, hA, hAl, hXs, hbl, hbA⟩ := id C
  obtain ⟨dr, im, ts, ms, RL, hI1, hI2, hE, hG, hM⟩ := hI
  have hBy := PBI.tape hI1
  refine lv_aload_n hx hb dL_law_1163 rfl (lv_at hl 2 rfl) ?_
  refine lv_aload_n hx hb dL_law_1164 rfl (lv_at hl 3 rfl) ?_
  refine lv_iload_n hx hb dL_law_1165 rfl (lv_at hl 0 rfl) ?_
  refine lv_iconst (v := 1) hx hb dL_law_1166 (by decide) ?_
  refine lv_iadd hx hb dL_law_1167 ?_
  refine lv_lit (v := nI (6 * j + 1)) (nI_addE (6 * j) 1 (6 * j + 1) rfl) ?_
  refine va_sld hx hb hXs hbl hbA hS (vp_in_nI (by omega) (by omega)) dL_law_1168 ?_
  refine lv_lit (v := xs (6 * j + 1)) (by rw [nI_clamp (by omega)]) ?_
  refine cVr (wA := wP) (wB := wM) (ci := 11) (a := h0) (As := [.int (xs (6 * j + 1))]) (rest := []) ⟨hx, hb, hml, hown, hts⟩ hK hX hA (rd_x_back l D tc sk h0 dr im ts RL (xs (6 * j + 1))) k_1068 k_1065 k_1066 k_1067 k_95 pl_X11_back (Nat.le_of_ble_eq_true rfl) (Nat.le_of_ble_eq_true rfl) hI1 (PBI.recv hI1) rfl rfl hP hD hS rfl hl.1 rfl (Nat.le_of_ble_eq_true rfl) dL_law_1169 (by show 98 + 46 * j + 23 ≤ 600000; omega) (by show 8097 + 940 * j + 470 ≤ 7302250; omega) (fun v wP1 H locs hv hP hD hS => ?_)
  obtain ⟨r1, rfl, dr1, hT1, hI1⟩ := hv
  refine W.eq (g2 := F0 m 1172 ls [.int r1]) rfl ?_
  refine lv_pop hx hb dL_law_1172 rfl ?_
  refine lv_aload_n hx hb dL_law_1173 rfl (lv_at hl 1 rfl) ?_
  refine lv_aload_n hx hb dL_law_1174 rfl (lv_at hl 3 rfl) ?_
  refine lv_iload_n hx hb dL_law_1175 rfl (lv_at hl 0 rfl) ?_
  refine lv_iconst (v := 1) hx hb dL_law_1176 (by decide) ?_
  refine lv_iadd hx hb dL_law_1177 ?_
  refine lv_lit (v := nI (6 * j + 1)) (nI_addE (6 * j) 1 (6 * j + 1) rfl) ?_
  refine va_sld hx hb hXs hbl hbA hS (vp_in_nI (by omega) (by omega)) dL_law_1178 ?_
  refine lv_lit (v := xs (6 * j + 1)) (by rw [nI_clamp (by omega)]) ?_
  have hP := hP.perm (List.perm_append_comm (l₁ := wP1) (l₂ := wM))
  have hD := hD.perm (List.perm_append_comm (l₁ := wP1) (l₂ := wM))
  refine cVr (wA := wM) (wB := wP1) (ci := 12) (a := m0) (As := [.int (xs (6 * j + 1))]) (rest := []) ⟨hx, hb, hml, hown, hts⟩ hK hX hA (rd_m_back l D tc sk m0 dr im ms RL (xs (6 * j + 1))) k_1655 k_1652 k_1653 k_1654 k_106 pl_X12_back (Nat.le_of_ble_eq_true rfl) (Nat.le_of_ble_eq_true rfl) hI2 (MI.recv hI2) rfl rfl hP hD hS rfl hl.1 rfl (Nat.le_of_ble_eq_true rfl) dL_law_1179 (by show 98 + 46 * j + 23 + 23 ≤ 600000; omega) (by show 8097 + 940 * j + 470 + 470 ≤ 7302250; omega) (fun v wM1 H locs hv hP hD hS => ?_)
  obtain ⟨r2, rfl, dr2, hT2, hI2⟩ := hv
  rw [← TB.det hT1 hT2] at hI2
  refine W.eq (g2 := F0 m 1182 ls [.int r2]) rfl ?_
  refine lv_pop hx hb dL_law_1182 rfl ?_
  refine lv_goto (tgt := 1186) hx hb dL_law_1183 (by decide) ?_
  have hP := hP.perm (List.perm_append_comm (l₁ := wM1) (l₂ := wP1))
  have hD := hD.perm (List.perm_append_comm (l₁ := wM1) (l₂ := wP1))
  exact law_tail C hL hj IH (by omega) (by omega) ⟨dr1, im, ts, ms, RL, hI1, hI2, hE, TB.good hT1 hG hM, hM⟩ hP hD hS hl
set_option maxHeartbeats 4000000 in
set_option maxRecDepth 100000 in
theorem law_step {p : Program} {l : Launch} {e : Env} {s : State} {m : MethodId} {below : List Frame} {meth : Method} {c : Code} {D : va_G} {tc : Nat → ClassId} {sk : (Nat → Nat) × (Nat → Nat)} {A : Nat → Prop} {b : Nat} {xs : Nat → Int32} {L : Nat} {h0 m0 j : Nat} (C : LawCx p s m meth c D tc sk A b xs L) (hL : L ≤ 3072) (hj : 6 * j ≤ L) (IH0 : 6 * j + 6 ≤ L → LawHead p l e s m below meth c D tc A b h0 m0 (j + 1)) : LawHead p l e s m below meth c D tc A b h0 m0 j := by
  obtain ⟨hx, hb, hr, hlk, hml, hown, hts, hK, hX, hA, hAl, hXs, hbl, hbA⟩ := id C
  intro wP wM H locs ls hI hP hD hS hl
  refine lv_iload_n hx hb dL_law_18 rfl (lv_at hl 0 rfl) ?_
  refine lv_aload_n hx hb dL_law_19 rfl (lv_at hl 3 rfl) ?_
  refine va_slen hx hb hXs hbl hbA hS dL_law_20 ?_
  refine lv_bipush (v := 6) hx hb dL_law_21 (by decide) ?_
  refine lv_isub hx hb dL_law_23 ?_
  refine lv_topi (fun y ey => ?_)
  have hLt : (Int32.ofNat L).toInt = (L : Int) := nI_toInt (by omega)
  have h6 : (6 : Int32).toInt = 6 := by decide
  have hy : y.toInt = (L : Int) - 6 := by
    rw [ey, sub_toInt (by omega) (by omega)]
    omega
  have hjt : (nI (6 * j)).toInt = ((6 * j : Nat) : Int) := nI_toInt (by omega)
  refine lv_icmp_gt (tgt := 1192) hx hb dL_law_24 (by decide) (fun cg => ?_) (fun cg => ?_)
  · skip
    refine lv_iconst (v := 1) hx hb dL_law_1192 (by decide) ?_
    refine va_forget (fun q hq => hAl _ (hS.2.2 q hq)) ?_
    refine W.widen (k := 600000) (n := 7302250) (by omega) (by omega) ?_
    exact lw_ret hx hb hr hlk dL_law_1193
  · skip
    have hz := Int32.le_iff_toInt_le.mp (Int32.not_lt.mp cg)
    have hj6 : 6 * j + 6 ≤ L := by omega
    have IH := IH0 hj6
    refine lv_aload_n hx hb dL_law_27 rfl (lv_at hl 3 rfl) ?_
    refine lv_iload_n hx hb dL_law_28 rfl (lv_at hl 0 rfl) ?_
    refine va_sld hx hb hXs hbl hbA hS (vp_in_nI (by omega) (by omega)) dL_law_29 ?_
    refine lv_bipush (v := 63) hx hb dL_law_30 (by decide) ?_
    refine lv_iand hx hb dL_law_32 ?_
    refine lv_topi (fun z ez => ?_)
    clear ez
    by_cases ck0 : z = 0
    · skip
      subst ck0
      refine lv_tableIn (off := 151) (tgt := 184) hx hb dL_law_33 (by decide) (by decide) (by decide) (by decide) ?_
      exact law_0 C hL hj6 IH hI hP hD hS hl
    · skip
      by_cases ck1 : z = 1
      · skip
        subst ck1
        refine lv_tableIn (off := 214) (tgt := 247) hx hb dL_law_33 (by decide) (by decide) (by decide) (by decide) ?_
        exact law_1 C hL hj6 IH hI hP hD hS hl
      · skip
        by_cases ck2 : z = 2
        · skip
          subst ck2
          refine lv_tableIn (off := 237) (tgt := 270) hx hb dL_law_33 (by decide) (by decide) (by decide) (by decide) ?_
          exact law_2 C hL hj6 IH hI hP hD hS hl
        · skip
          by_cases ck3 : z = 3
          · skip
            subst ck3
            refine lv_tableIn (off := 250) (tgt := 283) hx hb dL_law_33 (by decide) (by decide) (by decide) (by decide) ?_
            exact law_3 C hL hj6 IH hI hP hD hS hl
          · skip
            by_cases ck4 : z = 4
            · skip
              subst ck4
              refine lv_tableIn (off := 263) (tgt := 296) hx hb dL_law_33 (by decide) (by decide) (by decide) (by decide) ?_
              exact law_4 C hL hj6 IH hI hP hD hS hl
            · skip
              by_cases ck5 : z = 5
              · skip
                subst ck5
                refine lv_tableIn (off := 286) (tgt := 319) hx hb dL_law_33 (by decide) (by decide) (by decide) (by decide) ?_
                exact law_5 C hL hj6 IH hI hP hD hS hl
              · skip
                by_cases ck6 : z = 6
                · skip
                  subst ck6
                  refine lv_tableIn (off := 319) (tgt := 352) hx hb dL_law_33 (by decide) (by decide) (by decide) (by decide) ?_
                  exact law_6 C hL hj6 IH hI hP hD hS hl
                · skip
                  by_cases ck7 : z = 7
                  · skip
                    subst ck7
                    refine lv_tableIn (off := 352) (tgt := 385) hx hb dL_law_33 (by decide) (by decide) (by decide) (by decide) ?_
                    exact law_7 C hL hj6 IH hI hP hD hS hl
                  · skip
                    by_cases ck8 : z = 8
                    · skip
                      subst ck8
                      refine lv_tableIn (off := 365) (tgt := 398) hx hb dL_law_33 (by decide) (by decide) (by decide) (by decide) ?_
                      exact law_8 C hL hj6 IH hI hP hD hS hl
                    · skip
                      by_cases ck9 : z = 9
                      · skip
                        subst ck9
                        refine lv_tableIn (off := 388) (tgt := 421) hx hb dL_law_33 (by decide) (by decide) (by decide) (by decide) ?_
                        exact law_9 C hL hj6 IH hI hP hD hS hl
                      · skip
                        by_cases ck10 : z = 10
                        · skip
                          subst ck10
                          refine lv_tableIn (off := 421) (tgt := 454) hx hb dL_law_33 (by decide) (by decide) (by decide) (by decide) ?_
                          exact law_10 C hL hj6 IH hI hP hD hS hl
                        · skip
                          by_cases ck11 : z = 11
                          · skip
                            subst ck11
                            refine lv_tableIn (off := 454) (tgt := 487) hx hb dL_law_33 (by decide) (by decide) (by decide) (by decide) ?_
                            exact law_11 C hL hj6 IH hI hP hD hS hl
                          · skip
                            by_cases ck12 : z = 12
                            · skip
                              subst ck12
                              refine lv_tableIn (off := 487) (tgt := 520) hx hb dL_law_33 (by decide) (by decide) (by decide) (by decide) ?_
                              exact law_12 C hL hj6 IH hI hP hD hS hl
                            · skip
                              by_cases ck13 : z = 13
                              · skip
                                subst ck13
                                refine lv_tableIn (off := 500) (tgt := 533) hx hb dL_law_33 (by decide) (by decide) (by decide) (by decide) ?_
                                exact law_13 C hL hj6 IH hI hP hD hS hl
                              · skip
                                by_cases ck14 : z = 14
                                · skip
                                  subst ck14
                                  refine lv_tableIn (off := 543) (tgt := 576) hx hb dL_law_33 (by decide) (by decide) (by decide) (by decide) ?_
                                  exact law_14 C hL hj6 IH hI hP hD hS hl
                                · skip
                                  by_cases ck15 : z = 15
                                  · skip
                                    subst ck15
                                    refine lv_tableIn (off := 566) (tgt := 599) hx hb dL_law_33 (by decide) (by decide) (by decide) (by decide) ?_
                                    exact law_15 C hL hj6 IH hI hP hD hS hl
                                  · skip
                                    by_cases ck16 : z = 16
                                    · skip
                                      subst ck16
                                      refine lv_tableIn (off := 579) (tgt := 612) hx hb dL_law_33 (by decide) (by decide) (by decide) (by decide) ?_
                                      exact law_16 C hL hj6 IH hI hP hD hS hl
                                    · skip
                                      by_cases ck17 : z = 17
                                      · skip
                                        subst ck17
                                        refine lv_tableIn (off := 612) (tgt := 645) hx hb dL_law_33 (by decide) (by decide) (by decide) (by decide) ?_
                                        exact law_17 C hL hj6 IH hI hP hD hS hl
                                      · skip
                                        by_cases ck18 : z = 18
                                        · skip
                                          subst ck18
                                          refine lv_tableIn (off := 645) (tgt := 678) hx hb dL_law_33 (by decide) (by decide) (by decide) (by decide) ?_
                                          exact law_18 C hL hj6 IH hI hP hD hS hl
                                        · skip
                                          by_cases ck19 : z = 19
                                          · skip
                                            subst ck19
                                            refine lv_tableIn (off := 678) (tgt := 711) hx hb dL_law_33 (by decide) (by decide) (by decide) (by decide) ?_
                                            exact law_19 C hL hj6 IH hI hP hD hS hl
                                          · skip
                                            by_cases ck20 : z = 20
                                            · skip
                                              subst ck20
                                              refine lv_tableIn (off := 711) (tgt := 744) hx hb dL_law_33 (by decide) (by decide) (by decide) (by decide) ?_
                                              exact law_20 C hL hj6 IH hI hP hD hS hl
                                            · skip
                                              by_cases ck21 : z = 21
                                              · skip
                                                subst ck21
                                                refine lv_tableIn (off := 744) (tgt := 777) hx hb dL_law_33 (by decide) (by decide) (by decide) (by decide) ?_
                                                exact law_21 C hL hj6 IH hI hP hD hS hl
                                              · skip
                                                by_cases ck22 : z = 22
                                                · skip
                                                  subst ck22
                                                  refine lv_tableIn (off := 777) (tgt := 810) hx hb dL_law_33 (by decide) (by decide) (by decide) (by decide) ?_
                                                  exact law_22 C hL hj6 IH hI hP hD hS hl
                                                · skip
                                                  by_cases ck23 : z = 23
                                                  · skip
                                                    subst ck23
                                                    refine lv_tableIn (off := 810) (tgt := 843) hx hb dL_law_33 (by decide) (by decide) (by decide) (by decide) ?_
                                                    exact law_23 C hL hj6 IH hI hP hD hS hl
                                                  · skip
                                                    by_cases ck24 : z = 24
                                                    · skip
                                                      subst ck24
                                                      refine lv_tableIn (off := 863) (tgt := 896) hx hb dL_law_33 (by decide) (by decide) (by decide) (by decide) ?_
                                                      exact law_24 C hL hj6 IH hI hP hD hS hl
                                                    · skip
                                                      by_cases ck25 : z = 25
                                                      · skip
                                                        subst ck25
                                                        refine lv_tableIn (off := 886) (tgt := 919) hx hb dL_law_33 (by decide) (by decide) (by decide) (by decide) ?_
                                                        exact law_25 C hL hj6 IH hI hP hD hS hl
                                                      · skip
                                                        by_cases ck26 : z = 26
                                                        · skip
                                                          subst ck26
                                                          refine lv_tableIn (off := 919) (tgt := 952) hx hb dL_law_33 (by decide) (by decide) (by decide) (by decide) ?_
                                                          exact law_26 C hL hj6 IH hI hP hD hS hl
                                                        · skip
                                                          by_cases ck27 : z = 27
                                                          · skip
                                                            subst ck27
                                                            refine lv_tableIn (off := 962) (tgt := 995) hx hb dL_law_33 (by decide) (by decide) (by decide) (by decide) ?_
                                                            exact law_27 C hL hj6 IH hI hP hD hS hl
                                                          · skip
                                                            by_cases ck28 : z = 28
                                                            · skip
                                                              subst ck28
                                                              refine lv_tableIn (off := 985) (tgt := 1018) hx hb dL_law_33 (by decide) (by decide) (by decide) (by decide) ?_
                                                              exact law_28 C hL hj6 IH hI hP hD hS hl
                                                            · skip
                                                              by_cases ck29 : z = 29
                                                              · skip
                                                                subst ck29
                                                                refine lv_tableIn (off := 1008) (tgt := 1041) hx hb dL_law_33 (by decide) (by decide) (by decide) (by decide) ?_
                                                                exact law_29 C hL hj6 IH hI hP hD hS hl
                                                              · skip
                                                                by_cases ck30 : z = 30
                                                                · skip
                                                                  subst ck30
                                                                  refine lv_tableIn (off := 1031) (tgt := 1064) hx hb dL_law_33 (by decide) (by decide) (by decide) (by decide) ?_
                                                                  exact law_30 C hL hj6 IH hI hP hD hS hl
                                                                · skip
                                                                  by_cases ck31 : z = 31
                                                                  · skip
                                                                    subst ck31
                                                                    refine lv_tableIn (off := 1084) (tgt := 1117) hx hb dL_law_33 (by decide) (by decide) (by decide) (by decide) ?_
                                                                    exact law_31 C hL hj6 IH hI hP hD hS hl
                                                                  · skip
                                                                    by_cases ck32 : z = 32
                                                                    · skip
                                                                      subst ck32
                                                                      refine lv_tableIn (off := 1107) (tgt := 1140) hx hb dL_law_33 (by decide) (by decide) (by decide) (by decide) ?_
                                                                      exact law_32 C hL hj6 IH hI hP hD hS hl
                                                                    · skip
                                                                      by_cases ck33 : z = 33
                                                                      · skip
                                                                        subst ck33
                                                                        refine lv_tableIn (off := 1130) (tgt := 1163) hx hb dL_law_33 (by decide) (by decide) (by decide) (by decide) ?_
                                                                        exact law_33 C hL hj6 IH hI hP hD hS hl
                                                                      · skip
                                                                        have nk0 : ¬ z.toInt = (0 : Int32).toInt := fun q => ck0 (Int32.toInt_inj.mp q)
                                                                        have yk0 : (0 : Int32).toInt = 0 := by decide
                                                                        have nk1 : ¬ z.toInt = (1 : Int32).toInt := fun q => ck1 (Int32.toInt_inj.mp q)
                                                                        have yk1 : (1 : Int32).toInt = 1 := by decide
                                                                        have nk2 : ¬ z.toInt = (2 : Int32).toInt := fun q => ck2 (Int32.toInt_inj.mp q)
                                                                        have yk2 : (2 : Int32).toInt = 2 := by decide
                                                                        have nk3 : ¬ z.toInt = (3 : Int32).toInt := fun q => ck3 (Int32.toInt_inj.mp q)
                                                                        have yk3 : (3 : Int32).toInt = 3 := by decide
                                                                        have nk4 : ¬ z.toInt = (4 : Int32).toInt := fun q => ck4 (Int32.toInt_inj.mp q)
                                                                        have yk4 : (4 : Int32).toInt = 4 := by decide
                                                                        have nk5 : ¬ z.toInt = (5 : Int32).toInt := fun q => ck5 (Int32.toInt_inj.mp q)
                                                                        have yk5 : (5 : Int32).toInt = 5 := by decide
                                                                        have nk6 : ¬ z.toInt = (6 : Int32).toInt := fun q => ck6 (Int32.toInt_inj.mp q)
                                                                        have yk6 : (6 : Int32).toInt = 6 := by decide
                                                                        have nk7 : ¬ z.toInt = (7 : Int32).toInt := fun q => ck7 (Int32.toInt_inj.mp q)
                                                                        have yk7 : (7 : Int32).toInt = 7 := by decide
                                                                        have nk8 : ¬ z.toInt = (8 : Int32).toInt := fun q => ck8 (Int32.toInt_inj.mp q)
                                                                        have yk8 : (8 : Int32).toInt = 8 := by decide
                                                                        have nk9 : ¬ z.toInt = (9 : Int32).toInt := fun q => ck9 (Int32.toInt_inj.mp q)
                                                                        have yk9 : (9 : Int32).toInt = 9 := by decide
                                                                        have nk10 : ¬ z.toInt = (10 : Int32).toInt := fun q => ck10 (Int32.toInt_inj.mp q)
                                                                        have yk10 : (10 : Int32).toInt = 10 := by decide
                                                                        have nk11 : ¬ z.toInt = (11 : Int32).toInt := fun q => ck11 (Int32.toInt_inj.mp q)
                                                                        have yk11 : (11 : Int32).toInt = 11 := by decide
                                                                        have nk12 : ¬ z.toInt = (12 : Int32).toInt := fun q => ck12 (Int32.toInt_inj.mp q)
                                                                        have yk12 : (12 : Int32).toInt = 12 := by decide
                                                                        have nk13 : ¬ z.toInt = (13 : Int32).toInt := fun q => ck13 (Int32.toInt_inj.mp q)
                                                                        have yk13 : (13 : Int32).toInt = 13 := by decide
                                                                        have nk14 : ¬ z.toInt = (14 : Int32).toInt := fun q => ck14 (Int32.toInt_inj.mp q)
                                                                        have yk14 : (14 : Int32).toInt = 14 := by decide
                                                                        have nk15 : ¬ z.toInt = (15 : Int32).toInt := fun q => ck15 (Int32.toInt_inj.mp q)
                                                                        have yk15 : (15 : Int32).toInt = 15 := by decide
                                                                        have nk16 : ¬ z.toInt = (16 : Int32).toInt := fun q => ck16 (Int32.toInt_inj.mp q)
                                                                        have yk16 : (16 : Int32).toInt = 16 := by decide
                                                                        have nk17 : ¬ z.toInt = (17 : Int32).toInt := fun q => ck17 (Int32.toInt_inj.mp q)
                                                                        have yk17 : (17 : Int32).toInt = 17 := by decide
                                                                        have nk18 : ¬ z.toInt = (18 : Int32).toInt := fun q => ck18 (Int32.toInt_inj.mp q)
                                                                        have yk18 : (18 : Int32).toInt = 18 := by decide
                                                                        have nk19 : ¬ z.toInt = (19 : Int32).toInt := fun q => ck19 (Int32.toInt_inj.mp q)
                                                                        have yk19 : (19 : Int32).toInt = 19 := by decide
                                                                        have nk20 : ¬ z.toInt = (20 : Int32).toInt := fun q => ck20 (Int32.toInt_inj.mp q)
                                                                        have yk20 : (20 : Int32).toInt = 20 := by decide
                                                                        have nk21 : ¬ z.toInt = (21 : Int32).toInt := fun q => ck21 (Int32.toInt_inj.mp q)
                                                                        have yk21 : (21 : Int32).toInt = 21 := by decide
                                                                        have nk22 : ¬ z.toInt = (22 : Int32).toInt := fun q => ck22 (Int32.toInt_inj.mp q)
                                                                        have yk22 : (22 : Int32).toInt = 22 := by decide
                                                                        have nk23 : ¬ z.toInt = (23 : Int32).toInt := fun q => ck23 (Int32.toInt_inj.mp q)
                                                                        have yk23 : (23 : Int32).toInt = 23 := by decide
                                                                        have nk24 : ¬ z.toInt = (24 : Int32).toInt := fun q => ck24 (Int32.toInt_inj.mp q)
                                                                        have yk24 : (24 : Int32).toInt = 24 := by decide
                                                                        have nk25 : ¬ z.toInt = (25 : Int32).toInt := fun q => ck25 (Int32.toInt_inj.mp q)
                                                                        have yk25 : (25 : Int32).toInt = 25 := by decide
                                                                        have nk26 : ¬ z.toInt = (26 : Int32).toInt := fun q => ck26 (Int32.toInt_inj.mp q)
                                                                        have yk26 : (26 : Int32).toInt = 26 := by decide
                                                                        have nk27 : ¬ z.toInt = (27 : Int32).toInt := fun q => ck27 (Int32.toInt_inj.mp q)
                                                                        have yk27 : (27 : Int32).toInt = 27 := by decide
                                                                        have nk28 : ¬ z.toInt = (28 : Int32).toInt := fun q => ck28 (Int32.toInt_inj.mp q)
                                                                        have yk28 : (28 : Int32).toInt = 28 := by decide
                                                                        have nk29 : ¬ z.toInt = (29 : Int32).toInt := fun q => ck29 (Int32.toInt_inj.mp q)
                                                                        have yk29 : (29 : Int32).toInt = 29 := by decide
                                                                        have nk30 : ¬ z.toInt = (30 : Int32).toInt := fun q => ck30 (Int32.toInt_inj.mp q)
                                                                        have yk30 : (30 : Int32).toInt = 30 := by decide
                                                                        have nk31 : ¬ z.toInt = (31 : Int32).toInt := fun q => ck31 (Int32.toInt_inj.mp q)
                                                                        have yk31 : (31 : Int32).toInt = 31 := by decide
                                                                        have nk32 : ¬ z.toInt = (32 : Int32).toInt := fun q => ck32 (Int32.toInt_inj.mp q)
                                                                        have yk32 : (32 : Int32).toInt = 32 := by decide
                                                                        have nk33 : ¬ z.toInt = (33 : Int32).toInt := fun q => ck33 (Int32.toInt_inj.mp q)
                                                                        have yk33 : (33 : Int32).toInt = 33 := by decide
                                                                        have ho : z.toInt < 0 ∨ 33 < z.toInt := by omega
                                                                        refine lv_tableOut (tgt := 1186) hx hb dL_law_33 ho (by decide) ?_
                                                                        exact law_tail C hL hj6 IH (by omega) (by omega) hI hP hD hS hl
theorem law_all {p : Program} {l : Launch} {e : Env} {s : State} {m : MethodId} {below : List Frame} {meth : Method} {c : Code} {D : va_G} {tc : Nat → ClassId} {sk : (Nat → Nat) × (Nat → Nat)} {A : Nat → Prop} {b : Nat} {xs : Nat → Int32} {L : Nat} {h0 m0 : Nat} (C : LawCx p s m meth c D tc sk A b xs L) (hL : L ≤ 3072) : ∀ (n j : Nat), L < 6 * (j + n) → 6 * j ≤ L → LawHead p l e s m below meth c D tc A b h0 m0 j := by
  intro n
  induction n with
  | zero => intro j h1 h2; omega
  | succ n ih => intro j h1 h2; exact law_step C hL h2 (fun h6 => ih (j + 1) (by omega) (by omega))
