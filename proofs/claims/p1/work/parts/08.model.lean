section STR
variable {p : Program} {l : Launch} {e : Env} {R : Room} {s : State} {m : MethodId} {args : Array Value} {below : List Frame} {meth : Method} {c : Code} {H : Heap} {locs : List Loc} {cells slots : Nat} {Q : State → Prop} {cc : ByteArray} {pc : Nat} {ls : Array Slot} {rest : List Value} {D : va_G} {A : Nat → Prop} {a : Nat} {cl : List vw_C} {tys : List (ClassId × FieldType)} {ws : va_W} {H0 : Heap}
theorem st_int (hx : p.tables.exec = Jvm.exec) (hb : c.code = cc) (hK : va_K D cl tys s) (hP : va_P D cl ws H) (hD : va_D A ws) (hS : va_S A H0 H locs) (q0 t0 : Nat) {cA : ClassId} {n : Nat} {f : Nat → Int32} (ha : ws[q0]? = some (a, .inl (cA, n, .inl f))) (ht : tys[t0]? = some (cA, .int)) {i : Int32} {x : Int32} (hin : vp_in i n) (hdg : decode cc pc = .ok (.iastore, 1))
    (kk : ∀ (g : Nat → Int32) (H1 : Heap) (locs1 : List Loc), g = upd f i.toNatClampNeg x → va_P D cl (ws.set q0 (a, .inl (cA, n, .inl g))) H1 → va_D A (ws.set q0 (a, .inl (cA, n, .inl g))) → va_S A H0 H1 locs1 → W p l e R s m args below meth c H1 locs1 cells slots Q (F0 m (pc + 1) ls rest)) : W p l e R s m args below meth c H locs cells slots Q (F0 m pc ls (.int x :: .int i :: .ref a :: rest)) := va_iast hx hb hK hP hD hS q0 t0 ha ht hin hdg (fun H1 locs1 h1 h2 h3 => kk _ H1 locs1 rfl h1 h2 h3)
theorem st_byte (hx : p.tables.exec = Jvm.exec) (hb : c.code = cc) (hK : va_K D cl tys s) (hP : va_P D cl ws H) (hD : va_D A ws) (hS : va_S A H0 H locs) (q0 t0 : Nat) {cA : ClassId} {n : Nat} {f : Nat → Int32} (ha : ws[q0]? = some (a, .inl (cA, n, .inl f))) (ht : tys[t0]? = some (cA, .byte)) {i : Int32} {x : Int32} (hin : vp_in i n) (hdg : decode cc pc = .ok (.bastore, 1))
    (kk : ∀ (g : Nat → Int32) (H1 : Heap) (locs1 : List Loc), g = upd f i.toNatClampNeg (vp_nar .byte x) → va_P D cl (ws.set q0 (a, .inl (cA, n, .inl g))) H1 → va_D A (ws.set q0 (a, .inl (cA, n, .inl g))) → va_S A H0 H1 locs1 → W p l e R s m args below meth c H1 locs1 cells slots Q (F0 m (pc + 1) ls rest)) : W p l e R s m args below meth c H locs cells slots Q (F0 m pc ls (.int x :: .int i :: .ref a :: rest)) := va_bast hx hb hK hP hD hS q0 t0 ha ht hin hdg (fun H1 locs1 h1 h2 h3 => kk _ H1 locs1 rfl h1 h2 h3)
theorem st_bool (hx : p.tables.exec = Jvm.exec) (hb : c.code = cc) (hK : va_K D cl tys s) (hP : va_P D cl ws H) (hD : va_D A ws) (hS : va_S A H0 H locs) (q0 t0 : Nat) {cA : ClassId} {n : Nat} {f : Nat → Int32} (ha : ws[q0]? = some (a, .inl (cA, n, .inl f))) (ht : tys[t0]? = some (cA, .boolean)) {i : Int32} {x : Int32} (hin : vp_in i n) (hdg : decode cc pc = .ok (.bastore, 1))
    (kk : ∀ (g : Nat → Int32) (H1 : Heap) (locs1 : List Loc), g = upd f i.toNatClampNeg (vp_nar .boolean x) → va_P D cl (ws.set q0 (a, .inl (cA, n, .inl g))) H1 → va_D A (ws.set q0 (a, .inl (cA, n, .inl g))) → va_S A H0 H1 locs1 → W p l e R s m args below meth c H1 locs1 cells slots Q (F0 m (pc + 1) ls rest)) : W p l e R s m args below meth c H locs cells slots Q (F0 m pc ls (.int x :: .int i :: .ref a :: rest)) := va_zast hx hb hK hP hD hS q0 t0 ha ht hin hdg (fun H1 locs1 h1 h2 h3 => kk _ H1 locs1 rfl h1 h2 h3)
theorem st_long (hx : p.tables.exec = Jvm.exec) (hb : c.code = cc) (hK : va_K D cl tys s) (hP : va_P D cl ws H) (hD : va_D A ws) (hS : va_S A H0 H locs) (q0 t0 : Nat) {cA : ClassId} {n : Nat} {f : Nat → Int64} (ha : ws[q0]? = some (a, .inl (cA, n, .inr (.inl f)))) (ht : tys[t0]? = some (cA, .long)) {i : Int32} {x : Int64} (hin : vp_in i n) (hdg : decode cc pc = .ok (.lastore, 1))
    (kk : ∀ (g : Nat → Int64) (H1 : Heap) (locs1 : List Loc), g = vp_updL f i.toNatClampNeg x → va_P D cl (ws.set q0 (a, .inl (cA, n, .inr (.inl g)))) H1 → va_D A (ws.set q0 (a, .inl (cA, n, .inr (.inl g)))) → va_S A H0 H1 locs1 → W p l e R s m args below meth c H1 locs1 cells slots Q (F0 m (pc + 1) ls rest)) : W p l e R s m args below meth c H locs cells slots Q (F0 m pc ls (.long x :: .int i :: .ref a :: rest)) := va_last hx hb hK hP hD hS q0 t0 ha ht hin hdg (fun H1 locs1 h1 h2 h3 => kk _ H1 locs1 rfl h1 h2 h3)
theorem cp_int (hx : p.tables.exec = Jvm.exec) (hb : c.code = cc) (hml : c.maxLocals = ls.size) {own : String} {index : Nat} (hown : s.vm.findClass own = some m.cls) (hlink : (Cond.methodLink own index arraycopyName).before args s = true) (hnat : (Cond.native arraycopyName).before args s = true) (hstat : (Cond.static arraycopyName).before args s = true) (hini : (Cond.initialized "java/lang/System").before args s = true)
    (hK : va_K D cl tys s) (hP : va_P D cl ws H) (hD : va_D A ws) (hS : va_S A H0 H locs) (q0 q1 t0 t1 : Nat) {a0 : Nat} {c0 c1 : ClassId} {n0 n1 : Nat} {f f1 : Nat → Int32} (ha0 : ws[q0]? = some (a0, .inl (c0, n0, .inl f))) (ha1 : ws[q1]? = some (a, .inl (c1, n1, .inl f1))) (ht0 : tys[t0]? = some (c0, .int)) (ht1 : tys[t1]? = some (c1, .int))
    {sp dp n : Int32} (h1 : ¬ sp < 0) (h2 : ¬ dp < 0) (h3 : ¬ n < 0) (h4 : sp.toNatClampNeg + n.toNatClampNeg ≤ n0) (h5 : dp.toNatClampNeg + n.toNatClampNeg ≤ n1)
    (hframes : 1 ≤ R.frames) (hlocals : (rest.map fun v => v.category).sum + (nativeFrameWords "java/lang/System" "arraycopy" 5 + 11) ≤ R.locals) (hdg : decode cc pc = .ok (.invokestatic index, 3))
    (kk : ∀ (g : Nat → Int32) (H1 : Heap) (locs1 : List Loc), g = va_cpy f f1 sp.toNatClampNeg dp.toNatClampNeg n.toNatClampNeg → va_P D cl (ws.set q1 (a, .inl (c1, n1, .inl g))) H1 → va_D A (ws.set q1 (a, .inl (c1, n1, .inl g))) → va_S A H0 H1 locs1 → W p l e R s m args below meth c H1 locs1 cells slots Q (F0 m (pc + 3) ls rest)) : W p l e R s m args below meth c H locs cells slots Q (F0 m pc ls (.int n :: .int dp :: .ref a :: .int sp :: .ref a0 :: rest)) := va_copyi hx hb hml hown hlink hnat hstat hini hK hP hD hS q0 q1 t0 t1 ha0 ha1 ht0 ht1 rfl h1 h2 h3 h4 h5 (fun _ _ => rfl) hframes hlocals hdg (fun H1 locs1 h1 h2 h3 => kk _ H1 locs1 rfl h1 h2 h3)
theorem st_ref (hx : p.tables.exec = Jvm.exec) (hb : c.code = cc) (hK : va_K D cl tys s) (hP : va_P D cl ws H) (hD : va_D A ws) (hS : va_S A H0 H locs) (q0 t0 qk ci : Nat) {cA : ClassId} {r : vw_C} {n v : Nat} {vs : List Value} {f : Nat → Option Nat} (ha : ws[q0]? = some (a, .inl (cA, n, .inr (.inr (.inr (.inr f)))))) (ht : tys[t0]? = some (cA, .object r.1)) (hv : ws[qk]? = some (v, .inr (ci, vs))) (hc : cl[ci]? = some r) {i : Int32} (hin : vp_in i n) (hdg : decode cc pc = .ok (.aastore, 1))
    (kk : ∀ (g : Nat → Option Nat) (H1 : Heap) (locs1 : List Loc), g = va_up f i.toNatClampNeg (some v) → va_P D cl (ws.set q0 (a, .inl (cA, n, .inr (.inr (.inr (.inr g)))))) H1 → va_D A (ws.set q0 (a, .inl (cA, n, .inr (.inr (.inr (.inr g)))))) → va_S A H0 H1 locs1 → W p l e R s m args below meth c H1 locs1 cells slots Q (F0 m (pc + 1) ls rest)) : W p l e R s m args below meth c H locs cells slots Q (F0 m pc ls (.ref v :: .int i :: .ref a :: rest)) := va_astq hx hb hK hP hD hS q0 t0 qk ci ha ht hv hc hin hdg (fun H1 locs1 h1 h2 h3 => kk _ H1 locs1 rfl h1 h2 h3)
end STR
theorem nI_addE (a b r : Nat) (h : a + b = r) : nI a + nI b = nI r := by rw [nI_add, h]
theorem nI_mulE (a b r : Nat) (h : a * b = r) : nI a * nI b = nI r := by rw [pk_mul, h]
def inF (x y z : Int64) : Int32 := if x < y then 0 else if z < x then 0 else 1
def imgF (k : Int32) : Int32 := if k < 0 then -1 else if 4 ≤ k then -1 else 0
theorem i32_64 (k : Int32) : k.toInt64.toInt = k.toInt := Int32.toInt_toInt64 k
theorem inF_out {k : Int32} (h : k.toInt < 0 ∨ 3 < k.toInt) : inF k.toInt64 0 3 = 0 := by
  unfold inF
  by_cases h1 : k.toInt64 < 0
  · rw [if_pos h1]
  · rw [if_neg h1, if_pos]
    have h2 := Int64.le_iff_toInt_le.mp (Int64.not_lt.mp h1)
    rw [i32_64] at h2
    apply Int64.lt_iff_toInt_lt.mpr
    rw [i32_64]
    have y0 : (0 : Int64).toInt = 0 := by decide
    have y3 : (3 : Int64).toInt = 3 := by decide
    omega
theorem imgF_out {k : Int32} (h : k.toInt < 0 ∨ 3 < k.toInt) : imgF k = -1 := by
  unfold imgF
  by_cases h1 : k < 0
  · rw [if_pos h1]
  · rw [if_neg h1, if_pos]
    have h2 := Int32.le_iff_toInt_le.mp (Int32.not_lt.mp h1)
    apply Int32.le_iff_toInt_le.mpr
    have y0 : (0 : Int32).toInt = 0 := by decide
    have y3 : (4 : Int32).toInt = 4 := by decide
    omega
theorem nar_in {x y z : Int64} : narrow .boolean (.int (inF x y z)) = .int (inF x y z) := by
  unfold inF
  by_cases h1 : x < y
  · rw [if_pos h1]; rfl
  · rw [if_neg h1]
    by_cases h2 : z < x
    · rw [if_pos h2]; rfl
    · rw [if_neg h2]; rfl
theorem frcF_ne {k : Int32} (h : ¬ k = -1) : frcF k = -2 := by
  unfold frcF
  by_cases h1 : k < -1
  · rw [if_pos h1]
  · rw [if_neg h1, if_pos]
    have h2 := Int32.le_iff_toInt_le.mp (Int32.not_lt.mp h1)
    have h3 : ¬ k.toInt = (-1 : Int32).toInt := fun z => h (Int32.toInt_inj.mp z)
    apply Int32.le_iff_toInt_le.mpr
    have y0 : (0 : Int32).toInt = 0 := by decide
    have y3 : (-1 : Int32).toInt = -1 := by decide
    omega
theorem dX12_ahead_0 : decode cX12_ahead 0 = .ok (.aload_n 0, 1) := by decide +kernel
theorem dX12_ahead_1 : decode cX12_ahead 1 = .ok (.invokevirtual 283, 3) := by decide +kernel
theorem dX12_ahead_4 : decode cX12_ahead 4 = .ok (.ifCond .eq 40, 3) := by decide +kernel
theorem dX12_ahead_44 : decode cX12_ahead 44 = .ok (.iconst (-1), 1) := by decide +kernel
theorem dX12_ahead_45 : decode cX12_ahead 45 = .ok (.ireturn, 1) := by decide +kernel
theorem dX12_back_0 : decode cX12_back 0 = .ok (.iload_n 1, 1) := by decide +kernel
theorem dX12_back_1 : decode cX12_back 1 = .ok (.i2l, 1) := by decide +kernel
theorem dX12_back_2 : decode cX12_back 2 = .ok (.lconst 0, 1) := by decide +kernel
theorem dX12_back_3 : decode cX12_back 3 = .ok (.ldc2_w 437, 3) := by decide +kernel
theorem dX12_back_6 : decode cX12_back 6 = .ok (.invokestatic 115, 3) := by decide +kernel
theorem dX12_back_9 : decode cX12_back 9 = .ok (.ifCond .eq 12, 3) := by decide +kernel
theorem dX12_back_12 : decode cX12_back 12 = .ok (.aload_n 0, 1) := by decide +kernel
theorem dX12_back_13 : decode cX12_back 13 = .ok (.getfield 74, 3) := by decide +kernel
theorem dX12_back_16 : decode cX12_back 16 = .ok (.iload_n 1, 1) := by decide +kernel
theorem dX12_back_17 : decode cX12_back 17 = .ok (.baload, 1) := by decide +kernel
theorem dX12_back_18 : decode cX12_back 18 = .ok (.ifCond .ne 5, 3) := by decide +kernel
theorem dX12_back_21 : decode cX12_back 21 = .ok (.iconst (-1), 1) := by decide +kernel
theorem dX12_back_22 : decode cX12_back 22 = .ok (.ireturn, 1) := by decide +kernel
theorem dX12_best_0 : decode cX12_best 0 = .ok (.aload_n 0, 1) := by decide +kernel
theorem dX12_best_1 : decode cX12_best 1 = .ok (.invokevirtual 283, 3) := by decide +kernel
theorem dX12_best_4 : decode cX12_best 4 = .ok (.ifCond .eq 25, 3) := by decide +kernel
theorem dX12_best_29 : decode cX12_best 29 = .ok (.bipush (-2), 2) := by decide +kernel
theorem dX12_best_31 : decode cX12_best 31 = .ok (.ireturn, 1) := by decide +kernel
theorem dX12_book_0 : decode cX12_book 0 = .ok (.aload_n 0, 1) := by decide +kernel
theorem dX12_book_1 : decode cX12_book 1 = .ok (.bipush 6, 2) := by decide +kernel
theorem dX12_book_3 : decode cX12_book 3 = .ok (.putfield 145, 3) := by decide +kernel
theorem dX12_book_6 : decode cX12_book 6 = .ok (.iconst 0, 1) := by decide +kernel
theorem dX12_book_7 : decode cX12_book 7 = .ok (.istore_n 1, 1) := by decide +kernel
theorem dX12_book_8 : decode cX12_book 8 = .ok (.iload_n 1, 1) := by decide +kernel
theorem dX12_book_9 : decode cX12_book 9 = .ok (.bipush 95, 2) := by decide +kernel
theorem dX12_book_11 : decode cX12_book 11 = .ok (.if_icmp .ge 16, 3) := by decide +kernel
theorem dX12_book_14 : decode cX12_book 14 = .ok (.aload_n 0, 1) := by decide +kernel
theorem dX12_book_15 : decode cX12_book 15 = .ok (.getfield 26, 3) := by decide +kernel
theorem dX12_book_18 : decode cX12_book 18 = .ok (.iload_n 1, 1) := by decide +kernel
theorem dX12_book_19 : decode cX12_book 19 = .ok (.iconst 0, 1) := by decide +kernel
theorem dX12_book_20 : decode cX12_book 20 = .ok (.iastore, 1) := by decide +kernel
theorem dX12_book_21 : decode cX12_book 21 = .ok (.iinc 1 1, 3) := by decide +kernel
theorem dX12_book_24 : decode cX12_book 24 = .ok (.goto (-16), 3) := by decide +kernel
theorem dX12_book_27 : decode cX12_book 27 = .ok (.aload_n 0, 1) := by decide +kernel
theorem dX12_book_28 : decode cX12_book 28 = .ok (.invokevirtual 259, 3) := by decide +kernel
theorem dX12_book_31 : decode cX12_book 31 = .ok (.ifCond .ne 11, 3) := by decide +kernel
theorem dX12_book_34 : decode cX12_book 34 = .ok (.bipush (-2), 2) := by decide +kernel
theorem dX12_book_36 : decode cX12_book 36 = .ok (.aload_n 0, 1) := by decide +kernel
theorem dX12_book_37 : decode cX12_book 37 = .ok (.getfield 84, 3) := by decide +kernel
theorem dX12_book_40 : decode cX12_book 40 = .ok (.isub, 1) := by decide +kernel
theorem dX12_book_41 : decode cX12_book 41 = .ok (.ireturn, 1) := by decide +kernel
theorem dX12_buyer_0 : decode cX12_buyer 0 = .ok (.aload_n 0, 1) := by decide +kernel
theorem dX12_buyer_1 : decode cX12_buyer 1 = .ok (.iload_n 1, 1) := by decide +kernel
theorem dX12_buyer_2 : decode cX12_buyer 2 = .ok (.invokevirtual 298, 3) := by decide +kernel
theorem dX12_buyer_5 : decode cX12_buyer 5 = .ok (.ifCond .ne 5, 3) := by decide +kernel
theorem dX12_buyer_8 : decode cX12_buyer 8 = .ok (.iconst (-1), 1) := by decide +kernel
theorem dX12_buyer_9 : decode cX12_buyer 9 = .ok (.ireturn, 1) := by decide +kernel
theorem dX12_buys_0 : decode cX12_buys 0 = .ok (.aload_n 0, 1) := by decide +kernel
theorem dX12_buys_1 : decode cX12_buys 1 = .ok (.iload_n 1, 1) := by decide +kernel
theorem dX12_buys_2 : decode cX12_buys 2 = .ok (.invokevirtual 298, 3) := by decide +kernel
theorem dX12_buys_5 : decode cX12_buys 5 = .ok (.ifCond .ne 5, 3) := by decide +kernel
theorem dX12_buys_8 : decode cX12_buys 8 = .ok (.iconst (-1), 1) := by decide +kernel
theorem dX12_buys_9 : decode cX12_buys 9 = .ok (.ireturn, 1) := by decide +kernel
theorem dX12_calm_0 : decode cX12_calm 0 = .ok (.aload_n 0, 1) := by decide +kernel
theorem dX12_calm_1 : decode cX12_calm 1 = .ok (.iload_n 1, 1) := by decide +kernel
theorem dX12_calm_2 : decode cX12_calm 2 = .ok (.invokevirtual 298, 3) := by decide +kernel
theorem dX12_calm_5 : decode cX12_calm 5 = .ok (.ifCond .eq 24, 3) := by decide +kernel
theorem dX12_calm_29 : decode cX12_calm 29 = .ok (.iconst (-1), 1) := by decide +kernel
theorem dX12_calm_30 : decode cX12_calm 30 = .ok (.ireturn, 1) := by decide +kernel
theorem dX12_change_0 : decode cX12_change 0 = .ok (.aload_n 0, 1) := by decide +kernel
theorem dX12_change_1 : decode cX12_change 1 = .ok (.iload_n 1, 1) := by decide +kernel
theorem dX12_change_2 : decode cX12_change 2 = .ok (.invokevirtual 307, 3) := by decide +kernel
theorem dX12_change_5 : decode cX12_change 5 = .ok (.ifCond .eq 28, 3) := by decide +kernel
theorem dX12_change_33 : decode cX12_change 33 = .ok (.iconst (-1), 1) := by decide +kernel
theorem dX12_change_34 : decode cX12_change 34 = .ok (.ireturn, 1) := by decide +kernel
theorem dX12_clauseHere_0 : decode cX12_clauseHere 0 = .ok (.aload_n 0, 1) := by decide +kernel
theorem dX12_clauseHere_1 : decode cX12_clauseHere 1 = .ok (.invokevirtual 90, 3) := by decide +kernel
theorem dX12_clauseHere_4 : decode cX12_clauseHere 4 = .ok (.pop, 1) := by decide +kernel
theorem dX12_clauseHere_5 : decode cX12_clauseHere 5 = .ok (.aload_n 0, 1) := by decide +kernel
theorem dX12_clauseHere_6 : decode cX12_clauseHere 6 = .ok (.getfield 87, 3) := by decide +kernel
theorem dX12_clauseHere_9 : decode cX12_clauseHere 9 = .ok (.istore_n 1, 1) := by decide +kernel
theorem dX12_clauseHere_10 : decode cX12_clauseHere 10 = .ok (.aload_n 0, 1) := by decide +kernel
theorem dX12_clauseHere_11 : decode cX12_clauseHere 11 = .ok (.getfield 145, 3) := by decide +kernel
theorem dX12_clauseHere_14 : decode cX12_clauseHere 14 = .ok (.bipush 6, 2) := by decide +kernel
theorem dX12_clauseHere_16 : decode cX12_clauseHere 16 = .ok (.if_icmp .ne 7, 3) := by decide +kernel
theorem dX12_clauseHere_19 : decode cX12_clauseHere 19 = .ok (.iconst 1, 1) := by decide +kernel
theorem dX12_clauseHere_20 : decode cX12_clauseHere 20 = .ok (.goto 4, 3) := by decide +kernel
theorem dX12_clauseHere_23 : decode cX12_clauseHere 23 = .ok (.iconst 0, 1) := by decide +kernel
theorem dX12_clauseHere_24 : decode cX12_clauseHere 24 = .ok (.istore_n 2, 1) := by decide +kernel
theorem dX12_clauseHere_25 : decode cX12_clauseHere 25 = .ok (.iload_n 2, 1) := by decide +kernel
theorem dX12_clauseHere_26 : decode cX12_clauseHere 26 = .ok (.ifCond .eq 13, 3) := by decide +kernel
theorem dX12_clauseHere_29 : decode cX12_clauseHere 29 = .ok (.aload_n 0, 1) := by decide +kernel
theorem dX12_clauseHere_30 : decode cX12_clauseHere 30 = .ok (.invokevirtual 239, 3) := by decide +kernel
theorem dX12_clauseHere_33 : decode cX12_clauseHere 33 = .ok (.ifCond .ne 23, 3) := by decide +kernel
theorem dX12_clauseHere_36 : decode cX12_clauseHere 36 = .ok (.goto 13, 3) := by decide +kernel
theorem dX12_clauseHere_39 : decode cX12_clauseHere 39 = .ok (.aload_n 0, 1) := by decide +kernel
theorem dX12_clauseHere_40 : decode cX12_clauseHere 40 = .ok (.ldc2_w 242, 3) := by decide +kernel
theorem dX12_clauseHere_43 : decode cX12_clauseHere 43 = .ok (.invokevirtual 98, 3) := by decide +kernel
theorem dX12_clauseHere_46 : decode cX12_clauseHere 46 = .ok (.ifCond .ne 10, 3) := by decide +kernel
theorem dX12_clauseHere_49 : decode cX12_clauseHere 49 = .ok (.aload_n 0, 1) := by decide +kernel
theorem dX12_clauseHere_50 : decode cX12_clauseHere 50 = .ok (.iconst 0, 1) := by decide +kernel
theorem dX12_clauseHere_51 : decode cX12_clauseHere 51 = .ok (.iload_n 1, 1) := by decide +kernel
theorem dX12_clauseHere_52 : decode cX12_clauseHere 52 = .ok (.invokevirtual 108, 3) := by decide +kernel
theorem dX12_clauseHere_55 : decode cX12_clauseHere 55 = .ok (.ireturn, 1) := by decide +kernel
theorem dX12_clock_0 : decode cX12_clock 0 = .ok (.aload_n 0, 1) := by decide +kernel
theorem dX12_clock_1 : decode cX12_clock 1 = .ok (.invokevirtual 283, 3) := by decide +kernel
theorem dX12_clock_4 : decode cX12_clock 4 = .ok (.ifCond .eq 20, 3) := by decide +kernel
theorem dX12_clock_24 : decode cX12_clock 24 = .ok (.iconst 0, 1) := by decide +kernel
theorem dX12_clock_25 : decode cX12_clock 25 = .ok (.ireturn, 1) := by decide +kernel
theorem dX12_count_0 : decode cX12_count 0 = .ok (.iconst 0, 1) := by decide +kernel
theorem dX12_count_1 : decode cX12_count 1 = .ok (.istore_n 2, 1) := by decide +kernel
theorem dX12_count_2 : decode cX12_count 2 = .ok (.iload_n 1, 1) := by decide +kernel
theorem dX12_count_3 : decode cX12_count 3 = .ok (.tableswitch 201 0 15 #[77, 77, 77, 86, 91, 96, 104, 109, 117, 130, 135, 140, 178, 186, 191, 196], 77) := by decide +kernel
theorem dX12_count_80 : decode cX12_count 80 = .ok (.aload_n 0, 1) := by decide +kernel
theorem dX12_count_81 : decode cX12_count 81 = .ok (.getfield 39, 3) := by decide +kernel
theorem dX12_count_84 : decode cX12_count 84 = .ok (.iload_n 1, 1) := by decide +kernel
theorem dX12_count_85 : decode cX12_count 85 = .ok (.iconst 1, 1) := by decide +kernel
theorem dX12_count_86 : decode cX12_count 86 = .ok (.iadd, 1) := by decide +kernel
theorem dX12_count_87 : decode cX12_count 87 = .ok (.iaload, 1) := by decide +kernel
theorem dX12_count_88 : decode cX12_count 88 = .ok (.ireturn, 1) := by decide +kernel
theorem dX12_count_89 : decode cX12_count 89 = .ok (.aload_n 0, 1) := by decide +kernel
theorem dX12_count_90 : decode cX12_count 90 = .ok (.getfield 256, 3) := by decide +kernel
theorem dX12_count_93 : decode cX12_count 93 = .ok (.ireturn, 1) := by decide +kernel
theorem dX12_count_94 : decode cX12_count 94 = .ok (.aload_n 0, 1) := by decide +kernel
theorem dX12_count_95 : decode cX12_count 95 = .ok (.getfield 42, 3) := by decide +kernel
theorem dX12_count_98 : decode cX12_count 98 = .ok (.ireturn, 1) := by decide +kernel
theorem dX12_count_99 : decode cX12_count 99 = .ok (.aload_n 0, 1) := by decide +kernel
theorem dX12_count_100 : decode cX12_count 100 = .ok (.getfield 39, 3) := by decide +kernel
theorem dX12_count_103 : decode cX12_count 103 = .ok (.bipush 10, 2) := by decide +kernel
theorem dX12_count_105 : decode cX12_count 105 = .ok (.iaload, 1) := by decide +kernel
theorem dX12_count_106 : decode cX12_count 106 = .ok (.ireturn, 1) := by decide +kernel
theorem dX12_count_107 : decode cX12_count 107 = .ok (.aload_n 0, 1) := by decide +kernel
theorem dX12_count_108 : decode cX12_count 108 = .ok (.invokevirtual 314, 3) := by decide +kernel
theorem dX12_count_111 : decode cX12_count 111 = .ok (.ireturn, 1) := by decide +kernel
theorem dX12_count_112 : decode cX12_count 112 = .ok (.aload_n 0, 1) := by decide +kernel
theorem dX12_count_113 : decode cX12_count 113 = .ok (.getfield 39, 3) := by decide +kernel
theorem dX12_count_116 : decode cX12_count 116 = .ok (.bipush 11, 2) := by decide +kernel
theorem dX12_count_118 : decode cX12_count 118 = .ok (.iaload, 1) := by decide +kernel
theorem dX12_count_119 : decode cX12_count 119 = .ok (.ireturn, 1) := by decide +kernel
theorem dX12_count_120 : decode cX12_count 120 = .ok (.aload_n 0, 1) := by decide +kernel
theorem dX12_count_121 : decode cX12_count 121 = .ok (.getfield 39, 3) := by decide +kernel
theorem dX12_count_124 : decode cX12_count 124 = .ok (.bipush 36, 2) := by decide +kernel
theorem dX12_count_126 : decode cX12_count 126 = .ok (.aload_n 0, 1) := by decide +kernel
theorem dX12_count_127 : decode cX12_count 127 = .ok (.invokevirtual 314, 3) := by decide +kernel
theorem dX12_count_130 : decode cX12_count 130 = .ok (.iadd, 1) := by decide +kernel
theorem dX12_count_131 : decode cX12_count 131 = .ok (.iaload, 1) := by decide +kernel
theorem dX12_count_132 : decode cX12_count 132 = .ok (.ireturn, 1) := by decide +kernel
theorem dX12_count_133 : decode cX12_count 133 = .ok (.aload_n 0, 1) := by decide +kernel
theorem dX12_count_134 : decode cX12_count 134 = .ok (.invokevirtual 317, 3) := by decide +kernel
theorem dX12_count_137 : decode cX12_count 137 = .ok (.ireturn, 1) := by decide +kernel
theorem dX12_count_138 : decode cX12_count 138 = .ok (.aload_n 0, 1) := by decide +kernel
theorem dX12_count_139 : decode cX12_count 139 = .ok (.invokevirtual 434, 3) := by decide +kernel
theorem dX12_count_142 : decode cX12_count 142 = .ok (.ireturn, 1) := by decide +kernel
theorem dX12_count_143 : decode cX12_count 143 = .ok (.iconst 0, 1) := by decide +kernel
theorem dX12_count_144 : decode cX12_count 144 = .ok (.istore_n 3, 1) := by decide +kernel
theorem dX12_count_145 : decode cX12_count 145 = .ok (.iload_n 3, 1) := by decide +kernel
theorem dX12_count_146 : decode cX12_count 146 = .ok (.aload_n 0, 1) := by decide +kernel
theorem dX12_count_147 : decode cX12_count 147 = .ok (.getfield 39, 3) := by decide +kernel
theorem dX12_count_150 : decode cX12_count 150 = .ok (.iconst 3, 1) := by decide +kernel
theorem dX12_count_151 : decode cX12_count 151 = .ok (.iaload, 1) := by decide +kernel
theorem dX12_count_152 : decode cX12_count 152 = .ok (.if_icmp .ge 27, 3) := by decide +kernel
theorem dX12_count_179 : decode cX12_count 179 = .ok (.iload_n 2, 1) := by decide +kernel
theorem dX12_count_180 : decode cX12_count 180 = .ok (.ireturn, 1) := by decide +kernel
theorem dX12_count_181 : decode cX12_count 181 = .ok (.aload_n 0, 1) := by decide +kernel
theorem dX12_count_182 : decode cX12_count 182 = .ok (.getfield 39, 3) := by decide +kernel
theorem dX12_count_185 : decode cX12_count 185 = .ok (.bipush 125, 2) := by decide +kernel
theorem dX12_count_187 : decode cX12_count 187 = .ok (.iaload, 1) := by decide +kernel
theorem dX12_count_188 : decode cX12_count 188 = .ok (.ireturn, 1) := by decide +kernel
theorem dX12_count_189 : decode cX12_count 189 = .ok (.aload_n 0, 1) := by decide +kernel
theorem dX12_count_190 : decode cX12_count 190 = .ok (.getfield 265, 3) := by decide +kernel
theorem dX12_count_193 : decode cX12_count 193 = .ok (.ireturn, 1) := by decide +kernel
theorem dX12_count_194 : decode cX12_count 194 = .ok (.aload_n 0, 1) := by decide +kernel
theorem dX12_count_195 : decode cX12_count 195 = .ok (.getfield 414, 3) := by decide +kernel
theorem dX12_count_198 : decode cX12_count 198 = .ok (.ireturn, 1) := by decide +kernel
theorem dX12_count_199 : decode cX12_count 199 = .ok (.aload_n 0, 1) := by decide +kernel
theorem dX12_count_200 : decode cX12_count 200 = .ok (.getfield 77, 3) := by decide +kernel
theorem dX12_count_203 : decode cX12_count 203 = .ok (.ireturn, 1) := by decide +kernel
theorem dX12_count_204 : decode cX12_count 204 = .ok (.iconst (-1), 1) := by decide +kernel
theorem dX12_count_205 : decode cX12_count 205 = .ok (.ireturn, 1) := by decide +kernel
theorem dX12_day_0 : decode cX12_day 0 = .ok (.aload_n 0, 1) := by decide +kernel
theorem dX12_day_1 : decode cX12_day 1 = .ok (.invokevirtual 283, 3) := by decide +kernel
theorem dX12_day_4 : decode cX12_day 4 = .ok (.ifCond .eq 16, 3) := by decide +kernel
theorem dX12_day_20 : decode cX12_day 20 = .ok (.iconst (-1), 1) := by decide +kernel
theorem dX12_day_21 : decode cX12_day 21 = .ok (.ireturn, 1) := by decide +kernel
theorem dX12_empty_0 : decode cX12_empty 0 = .ok (.aload_n 0, 1) := by decide +kernel
theorem dX12_empty_1 : decode cX12_empty 1 = .ok (.invokevirtual 283, 3) := by decide +kernel
theorem dX12_empty_4 : decode cX12_empty 4 = .ok (.ifCond .ne 5, 3) := by decide +kernel
theorem dX12_empty_7 : decode cX12_empty 7 = .ok (.iconst (-1), 1) := by decide +kernel
theorem dX12_empty_8 : decode cX12_empty 8 = .ok (.ireturn, 1) := by decide +kernel
theorem dX12_end_0 : decode cX12_end 0 = .ok (.iload_n 1, 1) := by decide +kernel
theorem dX12_end_1 : decode cX12_end 1 = .ok (.ifCond .lt 11, 3) := by decide +kernel
theorem dX12_end_4 : decode cX12_end 4 = .ok (.iload_n 1, 1) := by decide +kernel
theorem dX12_end_5 : decode cX12_end 5 = .ok (.aload_n 0, 1) := by decide +kernel
theorem dX12_end_6 : decode cX12_end 6 = .ok (.getfield 77, 3) := by decide +kernel
theorem dX12_end_9 : decode cX12_end 9 = .ok (.if_icmp .le 5, 3) := by decide +kernel
theorem dX12_end_12 : decode cX12_end 12 = .ok (.iconst (-1), 1) := by decide +kernel
theorem dX12_end_13 : decode cX12_end 13 = .ok (.ireturn, 1) := by decide +kernel
theorem dX12_end_14 : decode cX12_end 14 = .ok (.aload_n 0, 1) := by decide +kernel
theorem dX12_end_15 : decode cX12_end 15 = .ok (.iload_n 1, 1) := by decide +kernel
theorem dX12_end_16 : decode cX12_end 16 = .ok (.putfield 77, 3) := by decide +kernel
theorem dX12_end_19 : decode cX12_end 19 = .ok (.iload_n 1, 1) := by decide +kernel
theorem dX12_end_20 : decode cX12_end 20 = .ok (.ireturn, 1) := by decide +kernel
theorem dX12_fails_0 : decode cX12_fails 0 = .ok (.aload_n 0, 1) := by decide +kernel
theorem dX12_fails_1 : decode cX12_fails 1 = .ok (.getfield 84, 3) := by decide +kernel
theorem dX12_fails_4 : decode cX12_fails 4 = .ok (.ifCond .ne 15, 3) := by decide +kernel
theorem dX12_fails_7 : decode cX12_fails 7 = .ok (.aload_n 0, 1) := by decide +kernel
theorem dX12_fails_8 : decode cX12_fails 8 = .ok (.iconst 1, 1) := by decide +kernel
theorem dX12_fails_9 : decode cX12_fails 9 = .ok (.bipush 8, 2) := by decide +kernel
theorem dX12_fails_11 : decode cX12_fails 11 = .ok (.iload_n 2, 1) := by decide +kernel
theorem dX12_fails_12 : decode cX12_fails 12 = .ok (.imul, 1) := by decide +kernel
theorem dX12_fails_13 : decode cX12_fails 13 = .ok (.iadd, 1) := by decide +kernel
theorem dX12_fails_14 : decode cX12_fails 14 = .ok (.iload_n 1, 1) := by decide +kernel
theorem dX12_fails_15 : decode cX12_fails 15 = .ok (.iadd, 1) := by decide +kernel
theorem dX12_fails_16 : decode cX12_fails 16 = .ok (.putfield 84, 3) := by decide +kernel
theorem dX12_fails_19 : decode cX12_fails 19 = .ok (.iconst 0, 1) := by decide +kernel
theorem dX12_fails_20 : decode cX12_fails 20 = .ok (.ireturn, 1) := by decide +kernel
theorem dX12_feed_0 : decode cX12_feed 0 = .ok (.aload_n 0, 1) := by decide +kernel
theorem dX12_feed_1 : decode cX12_feed 1 = .ok (.getfield 77, 3) := by decide +kernel
theorem dX12_feed_4 : decode cX12_feed 4 = .ok (.bipush 20, 2) := by decide +kernel
theorem dX12_feed_6 : decode cX12_feed 6 = .ok (.iadd, 1) := by decide +kernel
theorem dX12_feed_7 : decode cX12_feed 7 = .ok (.sipush 400, 3) := by decide +kernel
theorem dX12_feed_10 : decode cX12_feed 10 = .ok (.if_icmp .le 5, 3) := by decide +kernel
theorem dX12_feed_15 : decode cX12_feed 15 = .ok (.aload_n 0, 1) := by decide +kernel
theorem dX12_feed_16 : decode cX12_feed 16 = .ok (.iload_n 1, 1) := by decide +kernel
theorem dX12_feed_17 : decode cX12_feed 17 = .ok (.invokevirtual 80, 3) := by decide +kernel
theorem dX12_feed_20 : decode cX12_feed 20 = .ok (.aload_n 0, 1) := by decide +kernel
theorem dX12_feed_21 : decode cX12_feed 21 = .ok (.iload_n 2, 1) := by decide +kernel
theorem dX12_feed_22 : decode cX12_feed 22 = .ok (.invokevirtual 80, 3) := by decide +kernel
theorem dX12_feed_25 : decode cX12_feed 25 = .ok (.aload_n 0, 1) := by decide +kernel
theorem dX12_feed_26 : decode cX12_feed 26 = .ok (.iload_n 3, 1) := by decide +kernel
theorem dX12_feed_27 : decode cX12_feed 27 = .ok (.invokevirtual 80, 3) := by decide +kernel
theorem dX12_feed_30 : decode cX12_feed 30 = .ok (.aload_n 0, 1) := by decide +kernel
theorem dX12_feed_31 : decode cX12_feed 31 = .ok (.iload 4, 2) := by decide +kernel
theorem dX12_feed_33 : decode cX12_feed 33 = .ok (.invokevirtual 80, 3) := by decide +kernel
theorem dX12_feed_36 : decode cX12_feed 36 = .ok (.aload_n 0, 1) := by decide +kernel
theorem dX12_feed_37 : decode cX12_feed 37 = .ok (.iload 5, 2) := by decide +kernel
theorem dX12_feed_39 : decode cX12_feed 39 = .ok (.invokevirtual 80, 3) := by decide +kernel
theorem dX12_feed_42 : decode cX12_feed 42 = .ok (.aload_n 0, 1) := by decide +kernel
theorem dX12_feed_43 : decode cX12_feed 43 = .ok (.getfield 77, 3) := by decide +kernel
theorem dX12_feed_46 : decode cX12_feed 46 = .ok (.ireturn, 1) := by decide +kernel
theorem dX12_fines_0 : decode cX12_fines 0 = .ok (.aload_n 0, 1) := by decide +kernel
theorem dX12_fines_1 : decode cX12_fines 1 = .ok (.iload_n 2, 1) := by decide +kernel
theorem dX12_fines_2 : decode cX12_fines 2 = .ok (.invokevirtual 298, 3) := by decide +kernel
theorem dX12_fines_5 : decode cX12_fines 5 = .ok (.ifCond .eq 15, 3) := by decide +kernel
theorem dX12_fines_20 : decode cX12_fines 20 = .ok (.iconst (-1), 1) := by decide +kernel
theorem dX12_fines_21 : decode cX12_fines 21 = .ok (.ireturn, 1) := by decide +kernel
theorem dX12_force_0 : decode cX12_force 0 = .ok (.iload_n 1, 1) := by decide +kernel
theorem dX12_force_1 : decode cX12_force 1 = .ok (.iconst (-1), 1) := by decide +kernel
theorem dX12_force_2 : decode cX12_force 2 = .ok (.if_icmp .eq 14, 3) := by decide +kernel
theorem dX12_force_5 : decode cX12_force 5 = .ok (.aload_n 0, 1) := by decide +kernel
theorem dX12_force_6 : decode cX12_force 6 = .ok (.iload_n 1, 1) := by decide +kernel
theorem dX12_force_7 : decode cX12_force 7 = .ok (.invokevirtual 295, 3) := by decide +kernel
theorem dX12_force_10 : decode cX12_force 10 = .ok (.ifCond .ne 6, 3) := by decide +kernel
theorem dX12_force_13 : decode cX12_force 13 = .ok (.bipush (-2), 2) := by decide +kernel
theorem dX12_force_15 : decode cX12_force 15 = .ok (.ireturn, 1) := by decide +kernel
theorem dX12_force_16 : decode cX12_force 16 = .ok (.aload_n 0, 1) := by decide +kernel
theorem dX12_force_17 : decode cX12_force 17 = .ok (.getfield 42, 3) := by decide +kernel
theorem dX12_force_20 : decode cX12_force 20 = .ok (.istore_n 2, 1) := by decide +kernel
theorem dX12_force_21 : decode cX12_force 21 = .ok (.aload_n 0, 1) := by decide +kernel
theorem dX12_force_22 : decode cX12_force 22 = .ok (.iload_n 1, 1) := by decide +kernel
theorem dX12_force_23 : decode cX12_force 23 = .ok (.putfield 42, 3) := by decide +kernel
theorem dX12_force_26 : decode cX12_force 26 = .ok (.iload_n 2, 1) := by decide +kernel
theorem dX12_force_27 : decode cX12_force 27 = .ok (.ireturn, 1) := by decide +kernel
theorem dX12_four_0 : decode cX12_four 0 = .ok (.bipush 24, 2) := by decide +kernel
theorem dX12_four_2 : decode cX12_four 2 = .ok (.istore_n 2, 1) := by decide +kernel
theorem dX12_four_3 : decode cX12_four 3 = .ok (.iload_n 2, 1) := by decide +kernel
theorem dX12_four_4 : decode cX12_four 4 = .ok (.ifCond .lt 32, 3) := by decide +kernel
theorem dX12_four_7 : decode cX12_four 7 = .ok (.aload_n 0, 1) := by decide +kernel
theorem dX12_four_8 : decode cX12_four 8 = .ok (.getfield 7, 3) := by decide +kernel
theorem dX12_four_11 : decode cX12_four 11 = .ok (.aload_n 0, 1) := by decide +kernel
theorem dX12_four_12 : decode cX12_four 12 = .ok (.getfield 77, 3) := by decide +kernel
theorem dX12_four_15 : decode cX12_four 15 = .ok (.iload_n 1, 1) := by decide +kernel
theorem dX12_four_16 : decode cX12_four 16 = .ok (.iload_n 2, 1) := by decide +kernel
theorem dX12_four_17 : decode cX12_four 17 = .ok (.ishr, 1) := by decide +kernel
theorem dX12_four_18 : decode cX12_four 18 = .ok (.i2b, 1) := by decide +kernel
theorem dX12_four_19 : decode cX12_four 19 = .ok (.bastore, 1) := by decide +kernel
theorem dX12_four_20 : decode cX12_four 20 = .ok (.aload_n 0, 1) := by decide +kernel
theorem dX12_four_21 : decode cX12_four 21 = .ok (.dup, 1) := by decide +kernel
theorem dX12_four_22 : decode cX12_four 22 = .ok (.getfield 77, 3) := by decide +kernel
theorem dX12_four_25 : decode cX12_four 25 = .ok (.iconst 1, 1) := by decide +kernel
theorem dX12_four_26 : decode cX12_four 26 = .ok (.iadd, 1) := by decide +kernel
theorem dX12_four_27 : decode cX12_four 27 = .ok (.putfield 77, 3) := by decide +kernel
theorem dX12_four_30 : decode cX12_four 30 = .ok (.iinc 2 (-8), 3) := by decide +kernel
theorem dX12_four_33 : decode cX12_four 33 = .ok (.goto (-30), 3) := by decide +kernel
theorem dX12_four_36 : decode cX12_four 36 = .ok (.return_, 1) := by decide +kernel
theorem dX12_guard_0 : decode cX12_guard 0 = .ok (.aload_n 0, 1) := by decide +kernel
theorem dX12_guard_1 : decode cX12_guard 1 = .ok (.invokevirtual 283, 3) := by decide +kernel
theorem dX12_guard_4 : decode cX12_guard 4 = .ok (.ifCond .eq 25, 3) := by decide +kernel
theorem dX12_guard_29 : decode cX12_guard 29 = .ok (.iconst (-1), 1) := by decide +kernel
theorem dX12_guard_30 : decode cX12_guard 30 = .ok (.ireturn, 1) := by decide +kernel
theorem dX12_image_0 : decode cX12_image 0 = .ok (.iload_n 1, 1) := by decide +kernel
theorem dX12_image_1 : decode cX12_image 1 = .ok (.i2l, 1) := by decide +kernel
theorem dX12_image_2 : decode cX12_image 2 = .ok (.lconst 0, 1) := by decide +kernel
theorem dX12_image_3 : decode cX12_image 3 = .ok (.ldc2_w 437, 3) := by decide +kernel
theorem dX12_image_6 : decode cX12_image 6 = .ok (.invokestatic 115, 3) := by decide +kernel
theorem dX12_image_9 : decode cX12_image 9 = .ok (.ifCond .ne 5, 3) := by decide +kernel
theorem dX12_image_12 : decode cX12_image 12 = .ok (.iconst (-1), 1) := by decide +kernel
theorem dX12_image_13 : decode cX12_image 13 = .ok (.ireturn, 1) := by decide +kernel
theorem dX12_image_14 : decode cX12_image 14 = .ok (.aload_n 0, 1) := by decide +kernel
theorem dX12_image_15 : decode cX12_image 15 = .ok (.getfield 74, 3) := by decide +kernel
theorem dX12_image_18 : decode cX12_image 18 = .ok (.iload_n 1, 1) := by decide +kernel
theorem dX12_image_19 : decode cX12_image 19 = .ok (.iconst 1, 1) := by decide +kernel
theorem dX12_image_20 : decode cX12_image 20 = .ok (.bastore, 1) := by decide +kernel
theorem dX12_image_21 : decode cX12_image 21 = .ok (.aload_n 0, 1) := by decide +kernel
theorem dX12_image_22 : decode cX12_image 22 = .ok (.getfield 68, 3) := by decide +kernel
theorem dX12_image_25 : decode cX12_image 25 = .ok (.iload_n 1, 1) := by decide +kernel
theorem dX12_image_26 : decode cX12_image 26 = .ok (.aload_n 0, 1) := by decide +kernel
theorem dX12_image_27 : decode cX12_image 27 = .ok (.getfield 42, 3) := by decide +kernel
theorem dX12_image_30 : decode cX12_image 30 = .ok (.iastore, 1) := by decide +kernel
theorem dX12_image_31 : decode cX12_image 31 = .ok (.aload_n 0, 1) := by decide +kernel
theorem dX12_image_32 : decode cX12_image 32 = .ok (.getfield 71, 3) := by decide +kernel
theorem dX12_image_35 : decode cX12_image 35 = .ok (.iload_n 1, 1) := by decide +kernel
theorem dX12_image_36 : decode cX12_image 36 = .ok (.aload_n 0, 1) := by decide +kernel
theorem dX12_image_37 : decode cX12_image 37 = .ok (.getfield 414, 3) := by decide +kernel
theorem dX12_image_40 : decode cX12_image 40 = .ok (.iastore, 1) := by decide +kernel
theorem dX12_image_41 : decode cX12_image 41 = .ok (.iconst 0, 1) := by decide +kernel
theorem dX12_image_42 : decode cX12_image 42 = .ok (.istore_n 2, 1) := by decide +kernel
theorem dX12_image_43 : decode cX12_image 43 = .ok (.iload_n 2, 1) := by decide +kernel
theorem dX12_image_44 : decode cX12_image 44 = .ok (.bipush 126, 2) := by decide +kernel
theorem dX12_image_46 : decode cX12_image 46 = .ok (.if_icmp .ge 26, 3) := by decide +kernel
theorem dX12_image_49 : decode cX12_image 49 = .ok (.aload_n 0, 1) := by decide +kernel
theorem dX12_image_50 : decode cX12_image 50 = .ok (.getfield 65, 3) := by decide +kernel
theorem dX12_image_53 : decode cX12_image 53 = .ok (.bipush 126, 2) := by decide +kernel
theorem dX12_image_55 : decode cX12_image 55 = .ok (.iload_n 1, 1) := by decide +kernel
theorem dX12_image_56 : decode cX12_image 56 = .ok (.imul, 1) := by decide +kernel
theorem dX12_image_57 : decode cX12_image 57 = .ok (.iload_n 2, 1) := by decide +kernel
theorem dX12_image_58 : decode cX12_image 58 = .ok (.iadd, 1) := by decide +kernel
theorem dX12_image_59 : decode cX12_image 59 = .ok (.aload_n 0, 1) := by decide +kernel
theorem dX12_image_60 : decode cX12_image 60 = .ok (.getfield 39, 3) := by decide +kernel
theorem dX12_image_63 : decode cX12_image 63 = .ok (.iload_n 2, 1) := by decide +kernel
theorem dX12_image_64 : decode cX12_image 64 = .ok (.iaload, 1) := by decide +kernel
theorem dX12_image_65 : decode cX12_image 65 = .ok (.iastore, 1) := by decide +kernel
theorem dX12_image_66 : decode cX12_image 66 = .ok (.iinc 2 1, 3) := by decide +kernel
theorem dX12_image_69 : decode cX12_image 69 = .ok (.goto (-26), 3) := by decide +kernel
theorem dX12_image_72 : decode cX12_image 72 = .ok (.aload_n 0, 1) := by decide +kernel
theorem dX12_image_73 : decode cX12_image 73 = .ok (.getfield 39, 3) := by decide +kernel
theorem dX12_image_76 : decode cX12_image 76 = .ok (.bipush 10, 2) := by decide +kernel
theorem dX12_image_78 : decode cX12_image 78 = .ok (.iaload, 1) := by decide +kernel
theorem dX12_image_79 : decode cX12_image 79 = .ok (.ireturn, 1) := by decide +kernel
theorem dX12_in_0 : decode cX12_in 0 = .ok (.lload_n 0, 1) := by decide +kernel
theorem dX12_in_1 : decode cX12_in 1 = .ok (.lload_n 2, 1) := by decide +kernel
theorem dX12_in_2 : decode cX12_in 2 = .ok (.lcmp, 1) := by decide +kernel
theorem dX12_in_3 : decode cX12_in 3 = .ok (.ifCond .lt 14, 3) := by decide +kernel
theorem dX12_in_6 : decode cX12_in 6 = .ok (.lload_n 0, 1) := by decide +kernel
theorem dX12_in_7 : decode cX12_in 7 = .ok (.lload 4, 2) := by decide +kernel
theorem dX12_in_9 : decode cX12_in 9 = .ok (.lcmp, 1) := by decide +kernel
theorem dX12_in_10 : decode cX12_in 10 = .ok (.ifCond .gt 7, 3) := by decide +kernel
theorem dX12_in_13 : decode cX12_in 13 = .ok (.iconst 1, 1) := by decide +kernel
theorem dX12_in_14 : decode cX12_in 14 = .ok (.goto 4, 3) := by decide +kernel
theorem dX12_in_17 : decode cX12_in 17 = .ok (.iconst 0, 1) := by decide +kernel
theorem dX12_in_18 : decode cX12_in 18 = .ok (.ireturn, 1) := by decide +kernel
theorem dX12_init_0 : decode cX12_init 0 = .ok (.aload_n 0, 1) := by decide +kernel
theorem dX12_init_1 : decode cX12_init 1 = .ok (.invokespecial 1, 3) := by decide +kernel
theorem dX12_init_4 : decode cX12_init 4 = .ok (.aload_n 0, 1) := by decide +kernel
theorem dX12_init_5 : decode cX12_init 5 = .ok (.sipush 400, 3) := by decide +kernel
theorem dX12_init_8 : decode cX12_init 8 = .ok (.newarray .byte, 2) := by decide +kernel
theorem dX12_init_10 : decode cX12_init 10 = .ok (.putfield 7, 3) := by decide +kernel
theorem dX12_init_13 : decode cX12_init 13 = .ok (.aload_n 0, 1) := by decide +kernel
theorem dX12_init_14 : decode cX12_init 14 = .ok (.sipush 2400, 3) := by decide +kernel
theorem dX12_init_17 : decode cX12_init 17 = .ok (.newarray .int, 2) := by decide +kernel
theorem dX12_init_19 : decode cX12_init 19 = .ok (.putfield 13, 3) := by decide +kernel
theorem dX12_init_22 : decode cX12_init 22 = .ok (.aload_n 0, 1) := by decide +kernel
theorem dX12_init_23 : decode cX12_init 23 = .ok (.bipush 7, 2) := by decide +kernel
theorem dX12_init_25 : decode cX12_init 25 = .ok (.newarray .int, 2) := by decide +kernel
theorem dX12_init_27 : decode cX12_init 27 = .ok (.putfield 17, 3) := by decide +kernel
theorem dX12_init_30 : decode cX12_init 30 = .ok (.aload_n 0, 1) := by decide +kernel
theorem dX12_init_31 : decode cX12_init 31 = .ok (.sipush 288, 3) := by decide +kernel
theorem dX12_init_34 : decode cX12_init 34 = .ok (.newarray .int, 2) := by decide +kernel
theorem dX12_init_36 : decode cX12_init 36 = .ok (.putfield 20, 3) := by decide +kernel
theorem dX12_init_39 : decode cX12_init 39 = .ok (.aload_n 0, 1) := by decide +kernel
theorem dX12_init_40 : decode cX12_init 40 = .ok (.bipush 6, 2) := by decide +kernel
theorem dX12_init_42 : decode cX12_init 42 = .ok (.newarray .int, 2) := by decide +kernel
theorem dX12_init_44 : decode cX12_init 44 = .ok (.putfield 23, 3) := by decide +kernel
theorem dX12_init_47 : decode cX12_init 47 = .ok (.aload_n 0, 1) := by decide +kernel
theorem dX12_init_48 : decode cX12_init 48 = .ok (.bipush 95, 2) := by decide +kernel
theorem dX12_init_50 : decode cX12_init 50 = .ok (.newarray .int, 2) := by decide +kernel
theorem dX12_init_52 : decode cX12_init 52 = .ok (.putfield 26, 3) := by decide +kernel
theorem dX12_init_55 : decode cX12_init 55 = .ok (.aload_n 0, 1) := by decide +kernel
theorem dX12_init_56 : decode cX12_init 56 = .ok (.sipush 400, 3) := by decide +kernel
theorem dX12_init_59 : decode cX12_init 59 = .ok (.newarray .int, 2) := by decide +kernel
theorem dX12_init_61 : decode cX12_init 61 = .ok (.putfield 29, 3) := by decide +kernel
theorem dX12_init_64 : decode cX12_init 64 = .ok (.aload_n 0, 1) := by decide +kernel
theorem dX12_init_65 : decode cX12_init 65 = .ok (.bipush 64, 2) := by decide +kernel
theorem dX12_init_67 : decode cX12_init 67 = .ok (.newarray .long, 2) := by decide +kernel
theorem dX12_init_69 : decode cX12_init 69 = .ok (.putfield 32, 3) := by decide +kernel
theorem dX12_init_72 : decode cX12_init 72 = .ok (.aload_n 0, 1) := by decide +kernel
theorem dX12_init_73 : decode cX12_init 73 = .ok (.bipush 13, 2) := by decide +kernel
theorem dX12_init_75 : decode cX12_init 75 = .ok (.newarray .long, 2) := by decide +kernel
theorem dX12_init_77 : decode cX12_init 77 = .ok (.putfield 36, 3) := by decide +kernel
theorem dX12_init_80 : decode cX12_init 80 = .ok (.aload_n 0, 1) := by decide +kernel
theorem dX12_init_81 : decode cX12_init 81 = .ok (.bipush 126, 2) := by decide +kernel
theorem dX12_init_83 : decode cX12_init 83 = .ok (.newarray .int, 2) := by decide +kernel
theorem dX12_init_85 : decode cX12_init 85 = .ok (.putfield 39, 3) := by decide +kernel
theorem dX12_init_88 : decode cX12_init 88 = .ok (.aload_n 0, 1) := by decide +kernel
theorem dX12_init_89 : decode cX12_init 89 = .ok (.iconst (-1), 1) := by decide +kernel
theorem dX12_init_90 : decode cX12_init 90 = .ok (.putfield 42, 3) := by decide +kernel
theorem dX12_init_93 : decode cX12_init 93 = .ok (.aload_n 0, 1) := by decide +kernel
theorem dX12_init_94 : decode cX12_init 94 = .ok (.sipush 920, 3) := by decide +kernel
theorem dX12_init_97 : decode cX12_init 97 = .ok (.newarray .int, 2) := by decide +kernel
theorem dX12_init_99 : decode cX12_init 99 = .ok (.putfield 46, 3) := by decide +kernel
theorem dX12_init_102 : decode cX12_init 102 = .ok (.aload_n 0, 1) := by decide +kernel
theorem dX12_init_103 : decode cX12_init 103 = .ok (.bipush 46, 2) := by decide +kernel
theorem dX12_init_105 : decode cX12_init 105 = .ok (.newarray .int, 2) := by decide +kernel
theorem dX12_init_107 : decode cX12_init 107 = .ok (.putfield 49, 3) := by decide +kernel
theorem dX12_init_110 : decode cX12_init 110 = .ok (.aload_n 0, 1) := by decide +kernel
theorem dX12_init_111 : decode cX12_init 111 = .ok (.bipush 50, 2) := by decide +kernel
theorem dX12_init_113 : decode cX12_init 113 = .ok (.newarray .int, 2) := by decide +kernel
theorem dX12_init_115 : decode cX12_init 115 = .ok (.putfield 52, 3) := by decide +kernel
theorem dX12_init_118 : decode cX12_init 118 = .ok (.aload_n 0, 1) := by decide +kernel
theorem dX12_init_119 : decode cX12_init 119 = .ok (.sipush 427, 3) := by decide +kernel
theorem dX12_init_122 : decode cX12_init 122 = .ok (.newarray .int, 2) := by decide +kernel
theorem dX12_init_124 : decode cX12_init 124 = .ok (.putfield 55, 3) := by decide +kernel
theorem dX12_init_127 : decode cX12_init 127 = .ok (.aload_n 0, 1) := by decide +kernel
theorem dX12_init_128 : decode cX12_init 128 = .ok (.bipush 7, 2) := by decide +kernel
theorem dX12_init_130 : decode cX12_init 130 = .ok (.newarray .boolean, 2) := by decide +kernel
theorem dX12_init_132 : decode cX12_init 132 = .ok (.putfield 58, 3) := by decide +kernel
theorem dX12_init_135 : decode cX12_init 135 = .ok (.aload_n 0, 1) := by decide +kernel
theorem dX12_init_136 : decode cX12_init 136 = .ok (.sipush 427, 3) := by decide +kernel
theorem dX12_init_139 : decode cX12_init 139 = .ok (.newarray .int, 2) := by decide +kernel
theorem dX12_init_141 : decode cX12_init 141 = .ok (.putfield 62, 3) := by decide +kernel
theorem dX12_init_144 : decode cX12_init 144 = .ok (.aload_n 0, 1) := by decide +kernel
theorem dX12_init_145 : decode cX12_init 145 = .ok (.sipush 504, 3) := by decide +kernel
theorem dX12_init_148 : decode cX12_init 148 = .ok (.newarray .int, 2) := by decide +kernel
theorem dX12_init_150 : decode cX12_init 150 = .ok (.putfield 65, 3) := by decide +kernel
theorem dX12_init_153 : decode cX12_init 153 = .ok (.aload_n 0, 1) := by decide +kernel
theorem dX12_init_154 : decode cX12_init 154 = .ok (.iconst 4, 1) := by decide +kernel
theorem dX12_init_155 : decode cX12_init 155 = .ok (.newarray .int, 2) := by decide +kernel
theorem dX12_init_157 : decode cX12_init 157 = .ok (.putfield 68, 3) := by decide +kernel
theorem dX12_init_160 : decode cX12_init 160 = .ok (.aload_n 0, 1) := by decide +kernel
theorem dX12_init_161 : decode cX12_init 161 = .ok (.iconst 4, 1) := by decide +kernel
theorem dX12_init_162 : decode cX12_init 162 = .ok (.newarray .int, 2) := by decide +kernel
theorem dX12_init_164 : decode cX12_init 164 = .ok (.putfield 71, 3) := by decide +kernel
theorem dX12_init_167 : decode cX12_init 167 = .ok (.aload_n 0, 1) := by decide +kernel
theorem dX12_init_168 : decode cX12_init 168 = .ok (.iconst 4, 1) := by decide +kernel
theorem dX12_init_169 : decode cX12_init 169 = .ok (.newarray .boolean, 2) := by decide +kernel
theorem dX12_init_171 : decode cX12_init 171 = .ok (.putfield 74, 3) := by decide +kernel
theorem dX12_init_174 : decode cX12_init 174 = .ok (.return_, 1) := by decide +kernel
theorem dX12_isBook_0 : decode cX12_isBook 0 = .ok (.aload_n 0, 1) := by decide +kernel
theorem dX12_isBook_1 : decode cX12_isBook 1 = .ok (.getfield 39, 3) := by decide +kernel
theorem dX12_isBook_4 : decode cX12_isBook 4 = .ok (.iconst 0, 1) := by decide +kernel
theorem dX12_isBook_5 : decode cX12_isBook 5 = .ok (.iaload, 1) := by decide +kernel
theorem dX12_isBook_6 : decode cX12_isBook 6 = .ok (.iconst 1, 1) := by decide +kernel
theorem dX12_isBook_7 : decode cX12_isBook 7 = .ok (.if_icmp .ne 7, 3) := by decide +kernel
theorem dX12_isBook_14 : decode cX12_isBook 14 = .ok (.iconst 0, 1) := by decide +kernel
theorem dX12_isBook_15 : decode cX12_isBook 15 = .ok (.ireturn, 1) := by decide +kernel
theorem dX12_isBookWord_0 : decode cX12_isBookWord 0 = .ok (.aload_n 0, 1) := by decide +kernel
theorem dX12_isBookWord_1 : decode cX12_isBookWord 1 = .ok (.ldc2_w 221, 3) := by decide +kernel
theorem dX12_isBookWord_4 : decode cX12_isBookWord 4 = .ok (.invokevirtual 98, 3) := by decide +kernel
theorem dX12_isBookWord_7 : decode cX12_isBookWord 7 = .ok (.ifCond .ne 33, 3) := by decide +kernel
theorem dX12_isBookWord_10 : decode cX12_isBookWord 10 = .ok (.aload_n 0, 1) := by decide +kernel
theorem dX12_isBookWord_11 : decode cX12_isBookWord 11 = .ok (.ldc2_w 226, 3) := by decide +kernel
theorem dX12_isBookWord_14 : decode cX12_isBookWord 14 = .ok (.invokevirtual 98, 3) := by decide +kernel
theorem dX12_isBookWord_17 : decode cX12_isBookWord 17 = .ok (.ifCond .ne 23, 3) := by decide +kernel
theorem dX12_isBookWord_20 : decode cX12_isBookWord 20 = .ok (.aload_n 0, 1) := by decide +kernel
theorem dX12_isBookWord_21 : decode cX12_isBookWord 21 = .ok (.ldc2_w 119, 3) := by decide +kernel
theorem dX12_isBookWord_24 : decode cX12_isBookWord 24 = .ok (.invokevirtual 98, 3) := by decide +kernel
theorem dX12_isBookWord_27 : decode cX12_isBookWord 27 = .ok (.ifCond .ne 13, 3) := by decide +kernel
theorem dX12_isBookWord_30 : decode cX12_isBookWord 30 = .ok (.aload_n 0, 1) := by decide +kernel
theorem dX12_isBookWord_31 : decode cX12_isBookWord 31 = .ok (.ldc2_w 237, 3) := by decide +kernel
theorem dX12_isBookWord_34 : decode cX12_isBookWord 34 = .ok (.invokevirtual 98, 3) := by decide +kernel
theorem dX12_isBookWord_37 : decode cX12_isBookWord 37 = .ok (.ifCond .eq 7, 3) := by decide +kernel
theorem dX12_isBookWord_44 : decode cX12_isBookWord 44 = .ok (.iconst 0, 1) := by decide +kernel
theorem dX12_isBookWord_45 : decode cX12_isBookWord 45 = .ok (.ireturn, 1) := by decide +kernel
theorem dX12_isBuyer_0 : decode cX12_isBuyer 0 = .ok (.iload_n 1, 1) := by decide +kernel
theorem dX12_isBuyer_1 : decode cX12_isBuyer 1 = .ok (.ifCond .lt 17, 3) := by decide +kernel
theorem dX12_isBuyer_4 : decode cX12_isBuyer 4 = .ok (.iload_n 1, 1) := by decide +kernel
theorem dX12_isBuyer_5 : decode cX12_isBuyer 5 = .ok (.aload_n 0, 1) := by decide +kernel
theorem dX12_isBuyer_6 : decode cX12_isBuyer 6 = .ok (.getfield 39, 3) := by decide +kernel
theorem dX12_isBuyer_9 : decode cX12_isBuyer 9 = .ok (.iconst 3, 1) := by decide +kernel
theorem dX12_isBuyer_10 : decode cX12_isBuyer 10 = .ok (.iaload, 1) := by decide +kernel
theorem dX12_isBuyer_11 : decode cX12_isBuyer 11 = .ok (.if_icmp .ge 7, 3) := by decide +kernel
theorem dX12_isBuyer_18 : decode cX12_isBuyer 18 = .ok (.iconst 0, 1) := by decide +kernel
theorem dX12_isBuyer_19 : decode cX12_isBuyer 19 = .ok (.ireturn, 1) := by decide +kernel
theorem dX12_isClock_0 : decode cX12_isClock 0 = .ok (.aload_n 0, 1) := by decide +kernel
theorem dX12_isClock_1 : decode cX12_isClock 1 = .ok (.invokevirtual 283, 3) := by decide +kernel
theorem dX12_isClock_4 : decode cX12_isClock 4 = .ok (.ifCond .eq 21, 3) := by decide +kernel
theorem dX12_isClock_25 : decode cX12_isClock 25 = .ok (.iconst 0, 1) := by decide +kernel
theorem dX12_isClock_26 : decode cX12_isClock 26 = .ok (.ireturn, 1) := by decide +kernel
theorem dX12_isLetter_0 : decode cX12_isLetter 0 = .ok (.iload_n 1, 1) := by decide +kernel
theorem dX12_isLetter_1 : decode cX12_isLetter 1 = .ok (.aload_n 0, 1) := by decide +kernel
theorem dX12_isLetter_2 : decode cX12_isLetter 2 = .ok (.getfield 77, 3) := by decide +kernel
theorem dX12_isLetter_5 : decode cX12_isLetter 5 = .ok (.if_icmp .ge 29, 3) := by decide +kernel
theorem dX12_isLetter_34 : decode cX12_isLetter 34 = .ok (.iconst 0, 1) := by decide +kernel
theorem dX12_isLetter_35 : decode cX12_isLetter 35 = .ok (.ireturn, 1) := by decide +kernel
theorem dX12_isRule_0 : decode cX12_isRule 0 = .ok (.iload_n 1, 1) := by decide +kernel
theorem dX12_isRule_1 : decode cX12_isRule 1 = .ok (.ifCond .lt 15, 3) := by decide +kernel
theorem dX12_isRule_4 : decode cX12_isRule 4 = .ok (.iload_n 1, 1) := by decide +kernel
theorem dX12_isRule_5 : decode cX12_isRule 5 = .ok (.aload_n 0, 1) := by decide +kernel
theorem dX12_isRule_6 : decode cX12_isRule 6 = .ok (.getfield 256, 3) := by decide +kernel
theorem dX12_isRule_9 : decode cX12_isRule 9 = .ok (.if_icmp .ge 7, 3) := by decide +kernel
theorem dX12_isRule_16 : decode cX12_isRule 16 = .ok (.iconst 0, 1) := by decide +kernel
theorem dX12_isRule_17 : decode cX12_isRule 17 = .ok (.ireturn, 1) := by decide +kernel
theorem dX12_isWord_0 : decode cX12_isWord 0 = .ok (.aload_n 0, 1) := by decide +kernel
theorem dX12_isWord_1 : decode cX12_isWord 1 = .ok (.invokevirtual 90, 3) := by decide +kernel
theorem dX12_isWord_4 : decode cX12_isWord 4 = .ok (.pop, 1) := by decide +kernel
theorem dX12_isWord_5 : decode cX12_isWord 5 = .ok (.lconst 0, 1) := by decide +kernel
theorem dX12_isWord_6 : decode cX12_isWord 6 = .ok (.lstore_n 3, 1) := by decide +kernel
theorem dX12_isWord_7 : decode cX12_isWord 7 = .ok (.iconst 0, 1) := by decide +kernel
theorem dX12_isWord_8 : decode cX12_isWord 8 = .ok (.istore 5, 2) := by decide +kernel
theorem dX12_isWord_10 : decode cX12_isWord 10 = .ok (.aload_n 0, 1) := by decide +kernel
theorem dX12_isWord_11 : decode cX12_isWord 11 = .ok (.aload_n 0, 1) := by decide +kernel
theorem dX12_isWord_12 : decode cX12_isWord 12 = .ok (.getfield 87, 3) := by decide +kernel
theorem dX12_isWord_15 : decode cX12_isWord 15 = .ok (.iload 5, 2) := by decide +kernel
theorem dX12_isWord_17 : decode cX12_isWord 17 = .ok (.iadd, 1) := by decide +kernel
theorem dX12_isWord_18 : decode cX12_isWord 18 = .ok (.invokevirtual 94, 3) := by decide +kernel
theorem dX12_isWord_21 : decode cX12_isWord 21 = .ok (.ifCond .eq 35, 3) := by decide +kernel
theorem dX12_isWord_56 : decode cX12_isWord 56 = .ok (.iload 5, 2) := by decide +kernel
theorem dX12_isWord_58 : decode cX12_isWord 58 = .ok (.ifCond .le 20, 3) := by decide +kernel
theorem dX12_isWord_78 : decode cX12_isWord 78 = .ok (.iconst 0, 1) := by decide +kernel
theorem dX12_isWord_79 : decode cX12_isWord 79 = .ok (.ireturn, 1) := by decide +kernel
theorem dX12_least_0 : decode cX12_least 0 = .ok (.aload_n 0, 1) := by decide +kernel
theorem dX12_least_1 : decode cX12_least 1 = .ok (.iload_n 1, 1) := by decide +kernel
theorem dX12_least_2 : decode cX12_least 2 = .ok (.invokevirtual 298, 3) := by decide +kernel
theorem dX12_least_5 : decode cX12_least 5 = .ok (.ifCond .eq 15, 3) := by decide +kernel
theorem dX12_least_20 : decode cX12_least 20 = .ok (.iconst (-1), 1) := by decide +kernel
theorem dX12_least_21 : decode cX12_least 21 = .ok (.ireturn, 1) := by decide +kernel
theorem dX12_look_0 : decode cX12_look 0 = .ok (.aload_n 0, 1) := by decide +kernel
theorem dX12_look_1 : decode cX12_look 1 = .ok (.invokevirtual 283, 3) := by decide +kernel
theorem dX12_look_4 : decode cX12_look 4 = .ok (.ifCond .eq 13, 3) := by decide +kernel
theorem dX12_look_17 : decode cX12_look 17 = .ok (.iconst (-1), 1) := by decide +kernel
theorem dX12_look_18 : decode cX12_look 18 = .ok (.ireturn, 1) := by decide +kernel
theorem dX12_metAll_0 : decode cX12_metAll 0 = .ok (.iconst 0, 1) := by decide +kernel
theorem dX12_metAll_1 : decode cX12_metAll 1 = .ok (.istore_n 1, 1) := by decide +kernel
theorem dX12_metAll_2 : decode cX12_metAll 2 = .ok (.iconst 0, 1) := by decide +kernel
theorem dX12_metAll_3 : decode cX12_metAll 3 = .ok (.istore_n 2, 1) := by decide +kernel
theorem dX12_metAll_4 : decode cX12_metAll 4 = .ok (.iload_n 2, 1) := by decide +kernel
theorem dX12_metAll_5 : decode cX12_metAll 5 = .ok (.aload_n 0, 1) := by decide +kernel
theorem dX12_metAll_6 : decode cX12_metAll 6 = .ok (.getfield 39, 3) := by decide +kernel
theorem dX12_metAll_9 : decode cX12_metAll 9 = .ok (.iconst 3, 1) := by decide +kernel
theorem dX12_metAll_10 : decode cX12_metAll 10 = .ok (.iaload, 1) := by decide +kernel
theorem dX12_metAll_11 : decode cX12_metAll 11 = .ok (.if_icmp .ge 17, 3) := by decide +kernel
theorem dX12_metAll_28 : decode cX12_metAll 28 = .ok (.iload_n 1, 1) := by decide +kernel
theorem dX12_metAll_29 : decode cX12_metAll 29 = .ok (.ireturn, 1) := by decide +kernel
theorem dX12_note_0 : decode cX12_note 0 = .ok (.iload_n 1, 1) := by decide +kernel
theorem dX12_note_1 : decode cX12_note 1 = .ok (.iconst (-1), 1) := by decide +kernel
theorem dX12_note_2 : decode cX12_note 2 = .ok (.if_icmp .ne 13, 3) := by decide +kernel
theorem dX12_note_5 : decode cX12_note 5 = .ok (.aload_n 0, 1) := by decide +kernel
theorem dX12_note_6 : decode cX12_note 6 = .ok (.getfield 39, 3) := by decide +kernel
theorem dX12_note_9 : decode cX12_note 9 = .ok (.bipush 125, 2) := by decide +kernel
theorem dX12_note_11 : decode cX12_note 11 = .ok (.iconst 0, 1) := by decide +kernel
theorem dX12_note_12 : decode cX12_note 12 = .ok (.iastore, 1) := by decide +kernel
theorem dX12_note_13 : decode cX12_note 13 = .ok (.iconst 0, 1) := by decide +kernel
theorem dX12_note_14 : decode cX12_note 14 = .ok (.ireturn, 1) := by decide +kernel
theorem dX12_note_15 : decode cX12_note 15 = .ok (.iload_n 1, 1) := by decide +kernel
theorem dX12_note_16 : decode cX12_note 16 = .ok (.i2l, 1) := by decide +kernel
theorem dX12_note_17 : decode cX12_note 17 = .ok (.lconst 0, 1) := by decide +kernel
theorem dX12_note_18 : decode cX12_note 18 = .ok (.ldc2_w 386, 3) := by decide +kernel
theorem dX12_note_21 : decode cX12_note 21 = .ok (.invokestatic 115, 3) := by decide +kernel
theorem dX12_note_24 : decode cX12_note 24 = .ok (.ifCond .eq 33, 3) := by decide +kernel
theorem dX12_note_27 : decode cX12_note 27 = .ok (.aload_n 0, 1) := by decide +kernel
theorem dX12_note_28 : decode cX12_note 28 = .ok (.iload_n 2, 1) := by decide +kernel
theorem dX12_note_29 : decode cX12_note 29 = .ok (.invokevirtual 298, 3) := by decide +kernel
theorem dX12_note_32 : decode cX12_note 32 = .ok (.ifCond .eq 25, 3) := by decide +kernel
theorem dX12_note_57 : decode cX12_note 57 = .ok (.bipush (-2), 2) := by decide +kernel
theorem dX12_note_59 : decode cX12_note 59 = .ok (.ireturn, 1) := by decide +kernel
theorem dX12_page_0 : decode cX12_page 0 = .ok (.aload_n 0, 1) := by decide +kernel
theorem dX12_page_1 : decode cX12_page 1 = .ok (.invokevirtual 283, 3) := by decide +kernel
theorem dX12_page_4 : decode cX12_page 4 = .ok (.ifCond .eq 27, 3) := by decide +kernel
theorem dX12_page_31 : decode cX12_page 31 = .ok (.iconst (-1), 1) := by decide +kernel
theorem dX12_page_32 : decode cX12_page 32 = .ok (.ireturn, 1) := by decide +kernel
theorem dX12_peak_0 : decode cX12_peak 0 = .ok (.aload_n 0, 1) := by decide +kernel
theorem dX12_peak_1 : decode cX12_peak 1 = .ok (.invokevirtual 283, 3) := by decide +kernel
theorem dX12_peak_4 : decode cX12_peak 4 = .ok (.ifCond .eq 25, 3) := by decide +kernel
theorem dX12_peak_29 : decode cX12_peak 29 = .ok (.iconst (-1), 1) := by decide +kernel
theorem dX12_peak_30 : decode cX12_peak 30 = .ok (.ireturn, 1) := by decide +kernel
theorem dX12_readsAll_0 : decode cX12_readsAll 0 = .ok (.aload_n 0, 1) := by decide +kernel
theorem dX12_readsAll_1 : decode cX12_readsAll 1 = .ok (.getfield 17, 3) := by decide +kernel
theorem dX12_readsAll_4 : decode cX12_readsAll 4 = .ok (.aload_n 0, 1) := by decide +kernel
theorem dX12_readsAll_5 : decode cX12_readsAll 5 = .ok (.getfield 145, 3) := by decide +kernel
theorem dX12_readsAll_8 : decode cX12_readsAll 8 = .ok (.iconst 0, 1) := by decide +kernel
theorem dX12_readsAll_9 : decode cX12_readsAll 9 = .ok (.iastore, 1) := by decide +kernel
theorem dX12_readsAll_10 : decode cX12_readsAll 10 = .ok (.aload_n 0, 1) := by decide +kernel
theorem dX12_readsAll_11 : decode cX12_readsAll 11 = .ok (.iconst 0, 1) := by decide +kernel
theorem dX12_readsAll_12 : decode cX12_readsAll 12 = .ok (.putfield 244, 3) := by decide +kernel
theorem dX12_readsAll_15 : decode cX12_readsAll 15 = .ok (.aload_n 0, 1) := by decide +kernel
theorem dX12_readsAll_16 : decode cX12_readsAll 16 = .ok (.iconst 0, 1) := by decide +kernel
theorem dX12_readsAll_17 : decode cX12_readsAll 17 = .ok (.putfield 87, 3) := by decide +kernel
theorem dX12_readsAll_20 : decode cX12_readsAll 20 = .ok (.aload_n 0, 1) := by decide +kernel
theorem dX12_readsAll_21 : decode cX12_readsAll 21 = .ok (.iconst 0, 1) := by decide +kernel
theorem dX12_readsAll_22 : decode cX12_readsAll 22 = .ok (.putfield 84, 3) := by decide +kernel
theorem dX12_readsAll_25 : decode cX12_readsAll 25 = .ok (.aload_n 0, 1) := by decide +kernel
theorem dX12_readsAll_26 : decode cX12_readsAll 26 = .ok (.iconst 0, 1) := by decide +kernel
theorem dX12_readsAll_27 : decode cX12_readsAll 27 = .ok (.putfield 148, 3) := by decide +kernel
theorem dX12_readsAll_30 : decode cX12_readsAll 30 = .ok (.aload_n 0, 1) := by decide +kernel
theorem dX12_readsAll_31 : decode cX12_readsAll 31 = .ok (.invokevirtual 253, 3) := by decide +kernel
theorem dX12_readsAll_34 : decode cX12_readsAll 34 = .ok (.istore_n 1, 1) := by decide +kernel
theorem dX12_readsAll_35 : decode cX12_readsAll 35 = .ok (.iload_n 1, 1) := by decide +kernel
theorem dX12_readsAll_36 : decode cX12_readsAll 36 = .ok (.ifCond .eq 30, 3) := by decide +kernel
theorem dX12_readsAll_66 : decode cX12_readsAll 66 = .ok (.iload_n 1, 1) := by decide +kernel
theorem dX12_readsAll_67 : decode cX12_readsAll 67 = .ok (.ifCond .eq 21, 3) := by decide +kernel
theorem dX12_readsAll_88 : decode cX12_readsAll 88 = .ok (.aload_n 0, 1) := by decide +kernel
theorem dX12_readsAll_89 : decode cX12_readsAll 89 = .ok (.iconst 0, 1) := by decide +kernel
theorem dX12_readsAll_90 : decode cX12_readsAll 90 = .ok (.putfield 77, 3) := by decide +kernel
theorem dX12_readsAll_93 : decode cX12_readsAll 93 = .ok (.aload_n 0, 1) := by decide +kernel
theorem dX12_readsAll_94 : decode cX12_readsAll 94 = .ok (.getfield 84, 3) := by decide +kernel
theorem dX12_readsAll_97 : decode cX12_readsAll 97 = .ok (.ifCond .ne 7, 3) := by decide +kernel
theorem dX12_readsAll_104 : decode cX12_readsAll 104 = .ok (.iconst 0, 1) := by decide +kernel
theorem dX12_readsAll_105 : decode cX12_readsAll 105 = .ok (.ireturn, 1) := by decide +kernel
theorem dX12_rests_0 : decode cX12_rests 0 = .ok (.aload_n 0, 1) := by decide +kernel
theorem dX12_rests_1 : decode cX12_rests 1 = .ok (.iload_n 1, 1) := by decide +kernel
theorem dX12_rests_2 : decode cX12_rests 2 = .ok (.invokevirtual 298, 3) := by decide +kernel
theorem dX12_rests_5 : decode cX12_rests 5 = .ok (.ifCond .eq 41, 3) := by decide +kernel
theorem dX12_rests_46 : decode cX12_rests 46 = .ok (.iconst (-1), 1) := by decide +kernel
theorem dX12_rests_47 : decode cX12_rests 47 = .ok (.ireturn, 1) := by decide +kernel
theorem dX12_ring_0 : decode cX12_ring 0 = .ok (.aload_n 0, 1) := by decide +kernel
theorem dX12_ring_1 : decode cX12_ring 1 = .ok (.invokevirtual 283, 3) := by decide +kernel
theorem dX12_ring_4 : decode cX12_ring 4 = .ok (.ifCond .eq 13, 3) := by decide +kernel
theorem dX12_ring_17 : decode cX12_ring 17 = .ok (.iconst (-1), 1) := by decide +kernel
theorem dX12_ring_18 : decode cX12_ring 18 = .ok (.ireturn, 1) := by decide +kernel
theorem dX12_rule_0 : decode cX12_rule 0 = .ok (.aload_n 0, 1) := by decide +kernel
theorem dX12_rule_1 : decode cX12_rule 1 = .ok (.getfield 256, 3) := by decide +kernel
theorem dX12_rule_4 : decode cX12_rule 4 = .ok (.bipush 6, 2) := by decide +kernel
theorem dX12_rule_6 : decode cX12_rule 6 = .ok (.if_icmp .ne 5, 3) := by decide +kernel
theorem dX12_rule_11 : decode cX12_rule 11 = .ok (.aload_n 0, 1) := by decide +kernel
theorem dX12_rule_12 : decode cX12_rule 12 = .ok (.aload_n 0, 1) := by decide +kernel
theorem dX12_rule_13 : decode cX12_rule 13 = .ok (.getfield 256, 3) := by decide +kernel
theorem dX12_rule_16 : decode cX12_rule 16 = .ok (.putfield 145, 3) := by decide +kernel
theorem dX12_rule_19 : decode cX12_rule 19 = .ok (.aload_n 0, 1) := by decide +kernel
theorem dX12_rule_20 : decode cX12_rule 20 = .ok (.getfield 23, 3) := by decide +kernel
theorem dX12_rule_23 : decode cX12_rule 23 = .ok (.aload_n 0, 1) := by decide +kernel
theorem dX12_rule_24 : decode cX12_rule 24 = .ok (.getfield 145, 3) := by decide +kernel
theorem dX12_rule_27 : decode cX12_rule 27 = .ok (.iconst 0, 1) := by decide +kernel
theorem dX12_rule_28 : decode cX12_rule 28 = .ok (.iastore, 1) := by decide +kernel
theorem dX12_rule_29 : decode cX12_rule 29 = .ok (.aload_n 0, 1) := by decide +kernel
theorem dX12_rule_30 : decode cX12_rule 30 = .ok (.invokevirtual 259, 3) := by decide +kernel
theorem dX12_rule_33 : decode cX12_rule 33 = .ok (.ifCond .ne 11, 3) := by decide +kernel
theorem dX12_rule_36 : decode cX12_rule 36 = .ok (.bipush (-2), 2) := by decide +kernel
theorem dX12_rule_38 : decode cX12_rule 38 = .ok (.aload_n 0, 1) := by decide +kernel
theorem dX12_rule_39 : decode cX12_rule 39 = .ok (.getfield 84, 3) := by decide +kernel
theorem dX12_rule_42 : decode cX12_rule 42 = .ok (.isub, 1) := by decide +kernel
theorem dX12_rule_43 : decode cX12_rule 43 = .ok (.ireturn, 1) := by decide +kernel
theorem dX12_ruled_0 : decode cX12_ruled 0 = .ok (.aload_n 0, 1) := by decide +kernel
theorem dX12_ruled_1 : decode cX12_ruled 1 = .ok (.invokevirtual 283, 3) := by decide +kernel
theorem dX12_ruled_4 : decode cX12_ruled 4 = .ok (.ifCond .eq 13, 3) := by decide +kernel
theorem dX12_ruled_17 : decode cX12_ruled 17 = .ok (.bipush (-3), 2) := by decide +kernel
theorem dX12_ruled_19 : decode cX12_ruled 19 = .ok (.ireturn, 1) := by decide +kernel
theorem dX12_see_0 : decode cX12_see 0 = .ok (.aload_n 0, 1) := by decide +kernel
theorem dX12_see_1 : decode cX12_see 1 = .ok (.getfield 87, 3) := by decide +kernel
theorem dX12_see_4 : decode cX12_see 4 = .ok (.aload_n 0, 1) := by decide +kernel
theorem dX12_see_5 : decode cX12_see 5 = .ok (.getfield 77, 3) := by decide +kernel
theorem dX12_see_8 : decode cX12_see 8 = .ok (.if_icmp .ge 30, 3) := by decide +kernel
theorem dX12_see_38 : decode cX12_see 38 = .ok (.aload_n 0, 1) := by decide +kernel
theorem dX12_see_39 : decode cX12_see 39 = .ok (.getfield 87, 3) := by decide +kernel
theorem dX12_see_42 : decode cX12_see 42 = .ok (.aload_n 0, 1) := by decide +kernel
theorem dX12_see_43 : decode cX12_see 43 = .ok (.getfield 77, 3) := by decide +kernel
theorem dX12_see_46 : decode cX12_see 46 = .ok (.if_icmp .ge 19, 3) := by decide +kernel
theorem dX12_see_65 : decode cX12_see 65 = .ok (.iconst (-1), 1) := by decide +kernel
theorem dX12_see_66 : decode cX12_see 66 = .ok (.ireturn, 1) := by decide +kernel
theorem dX12_seed_0 : decode cX12_seed 0 = .ok (.iload_n 1, 1) := by decide +kernel
theorem dX12_seed_1 : decode cX12_seed 1 = .ok (.ifCond .ge 5, 3) := by decide +kernel
theorem dX12_seed_4 : decode cX12_seed 4 = .ok (.iconst (-1), 1) := by decide +kernel
theorem dX12_seed_5 : decode cX12_seed 5 = .ok (.ireturn, 1) := by decide +kernel
theorem dX12_seed_6 : decode cX12_seed 6 = .ok (.aload_n 0, 1) := by decide +kernel
theorem dX12_seed_7 : decode cX12_seed 7 = .ok (.getfield 414, 3) := by decide +kernel
theorem dX12_seed_10 : decode cX12_seed 10 = .ok (.istore_n 2, 1) := by decide +kernel
theorem dX12_seed_11 : decode cX12_seed 11 = .ok (.aload_n 0, 1) := by decide +kernel
theorem dX12_seed_12 : decode cX12_seed 12 = .ok (.iload_n 1, 1) := by decide +kernel
theorem dX12_seed_13 : decode cX12_seed 13 = .ok (.putfield 414, 3) := by decide +kernel
theorem dX12_seed_16 : decode cX12_seed 16 = .ok (.iload_n 2, 1) := by decide +kernel
theorem dX12_seed_17 : decode cX12_seed 17 = .ok (.ireturn, 1) := by decide +kernel
theorem dX12_sell_0 : decode cX12_sell 0 = .ok (.aload_n 0, 1) := by decide +kernel
theorem dX12_sell_1 : decode cX12_sell 1 = .ok (.iload_n 1, 1) := by decide +kernel
theorem dX12_sell_2 : decode cX12_sell 2 = .ok (.invokevirtual 298, 3) := by decide +kernel
theorem dX12_sell_5 : decode cX12_sell 5 = .ok (.ifCond .eq 22, 3) := by decide +kernel
theorem dX12_sell_27 : decode cX12_sell 27 = .ok (.iconst (-1), 1) := by decide +kernel
theorem dX12_sell_28 : decode cX12_sell 28 = .ok (.ireturn, 1) := by decide +kernel
theorem dX12_sky_0 : decode cX12_sky 0 = .ok (.aload_n 0, 1) := by decide +kernel
theorem dX12_sky_1 : decode cX12_sky 1 = .ok (.iload_n 1, 1) := by decide +kernel
theorem dX12_sky_2 : decode cX12_sky 2 = .ok (.invokevirtual 307, 3) := by decide +kernel
theorem dX12_sky_5 : decode cX12_sky 5 = .ok (.ifCond .eq 13, 3) := by decide +kernel
theorem dX12_sky_18 : decode cX12_sky 18 = .ok (.iconst (-1), 1) := by decide +kernel
theorem dX12_sky_19 : decode cX12_sky 19 = .ok (.ireturn, 1) := by decide +kernel
theorem dX12_soldAll_0 : decode cX12_soldAll 0 = .ok (.iconst 0, 1) := by decide +kernel
theorem dX12_soldAll_1 : decode cX12_soldAll 1 = .ok (.istore_n 1, 1) := by decide +kernel
theorem dX12_soldAll_2 : decode cX12_soldAll 2 = .ok (.iconst 0, 1) := by decide +kernel
theorem dX12_soldAll_3 : decode cX12_soldAll 3 = .ok (.istore_n 2, 1) := by decide +kernel
theorem dX12_soldAll_4 : decode cX12_soldAll 4 = .ok (.iload_n 2, 1) := by decide +kernel
theorem dX12_soldAll_5 : decode cX12_soldAll 5 = .ok (.aload_n 0, 1) := by decide +kernel
theorem dX12_soldAll_6 : decode cX12_soldAll 6 = .ok (.getfield 39, 3) := by decide +kernel
theorem dX12_soldAll_9 : decode cX12_soldAll 9 = .ok (.iconst 3, 1) := by decide +kernel
theorem dX12_soldAll_10 : decode cX12_soldAll 10 = .ok (.iaload, 1) := by decide +kernel
theorem dX12_soldAll_11 : decode cX12_soldAll 11 = .ok (.if_icmp .ge 17, 3) := by decide +kernel
theorem dX12_soldAll_28 : decode cX12_soldAll 28 = .ok (.iload_n 1, 1) := by decide +kernel
theorem dX12_soldAll_29 : decode cX12_soldAll 29 = .ok (.ireturn, 1) := by decide +kernel
theorem dX12_soothe_0 : decode cX12_soothe 0 = .ok (.aload_n 0, 1) := by decide +kernel
theorem dX12_soothe_1 : decode cX12_soothe 1 = .ok (.invokevirtual 283, 3) := by decide +kernel
theorem dX12_soothe_4 : decode cX12_soothe 4 = .ok (.ifCond .eq 25, 3) := by decide +kernel
theorem dX12_soothe_29 : decode cX12_soothe 29 = .ok (.bipush (-2), 2) := by decide +kernel
theorem dX12_soothe_31 : decode cX12_soothe 31 = .ok (.ireturn, 1) := by decide +kernel
theorem dX12_summers_0 : decode cX12_summers 0 = .ok (.aload_n 0, 1) := by decide +kernel
theorem dX12_summers_1 : decode cX12_summers 1 = .ok (.invokevirtual 283, 3) := by decide +kernel
theorem dX12_summers_4 : decode cX12_summers 4 = .ok (.ifCond .eq 50, 3) := by decide +kernel
theorem dX12_summers_54 : decode cX12_summers 54 = .ok (.iconst (-1), 1) := by decide +kernel
theorem dX12_summers_55 : decode cX12_summers 55 = .ok (.ireturn, 1) := by decide +kernel
theorem dX12_tells_0 : decode cX12_tells 0 = .ok (.aload_n 0, 1) := by decide +kernel
theorem dX12_tells_1 : decode cX12_tells 1 = .ok (.invokevirtual 283, 3) := by decide +kernel
theorem dX12_tells_4 : decode cX12_tells 4 = .ok (.ifCond .eq 25, 3) := by decide +kernel
theorem dX12_tells_29 : decode cX12_tells 29 = .ok (.iconst (-1), 1) := by decide +kernel
theorem dX12_tells_30 : decode cX12_tells 30 = .ok (.ireturn, 1) := by decide +kernel
theorem dX12_undo_0 : decode cX12_undo 0 = .ok (.aload_n 0, 1) := by decide +kernel
theorem dX12_undo_1 : decode cX12_undo 1 = .ok (.getfield 265, 3) := by decide +kernel
theorem dX12_undo_4 : decode cX12_undo 4 = .ok (.ifCond .ne 5, 3) := by decide +kernel
theorem dX12_undo_7 : decode cX12_undo 7 = .ok (.iconst (-1), 1) := by decide +kernel
theorem dX12_undo_8 : decode cX12_undo 8 = .ok (.ireturn, 1) := by decide +kernel
theorem dX12_watch_0 : decode cX12_watch 0 = .ok (.aload_n 0, 1) := by decide +kernel
theorem dX12_watch_1 : decode cX12_watch 1 = .ok (.iload_n 1, 1) := by decide +kernel
theorem dX12_watch_2 : decode cX12_watch 2 = .ok (.invokevirtual 307, 3) := by decide +kernel
theorem dX12_watch_5 : decode cX12_watch 5 = .ok (.ifCond .eq 11, 3) := by decide +kernel
theorem dX12_watch_16 : decode cX12_watch 16 = .ok (.iconst (-1), 1) := by decide +kernel
theorem dX12_watch_17 : decode cX12_watch 17 = .ok (.ireturn, 1) := by decide +kernel
set_option maxHeartbeats 4000000 in
set_option maxRecDepth 100000 in
theorem ct_X12_in (l : Launch) (D : va_G) (tc : Nat → ClassId) (sk : (Nat → Nat) × (Nat → Nat)) (x1 : Int64) (x2 : Int64) (x3 : Int64)  : Ct l yX12_in cX12_in 6 (some .boolean) { frames := 0, cells := 0, slots := 0, locals := 0 } D tc sk [.long x1, .long x2, .long x3] [] (fun (v : Option Value) (_ : Unit) => v = some (.int (inF x1 x2 x3))) (fun (_ : Unit) => []) 0 0 := by
  refine Ct.start (by decide) (Nat.le_of_ble_eq_true rfl) (fun p e s m below meth c A ls hx hb hr hlk hin hml hown hts hK hX hP hD hA hl hS => ?_)
  have hl : lv_has ls 6 [(0, .long x1), (2, .long x2), (4, .long x3)] := hl
  refine lv_lload_n hx hb dX12_in_0 rfl (lv_at hl 0 rfl) ?_
  refine lv_lload_n hx hb dX12_in_1 rfl (lv_at hl 1 rfl) ?_
  refine W.lcmp hx hb dX12_in_2 ?_
  refine lv_topi (fun x_1 ex_1 => ?_)
  refine lv_if_lt (tgt := 17) hx hb dX12_in_3 (by decide) (fun c_2 => ?_) (fun c_2 => ?_)
  · skip
    refine lv_iconst (v := 0) hx hb dX12_in_17 (by decide) ?_
    have q1 := c_2
    rw [ex_1, lg_cmp_lt] at q1
    have hp_3 : inF x1 x2 x3 = 0 := by simp [inF, q1]
    exact retI (v := 0) hx hb hr hlk (rfl) hP hD hS () (by rw [hp_3]) [] rfl rfl dX12_in_18 (Nat.le_of_ble_eq_true rfl) (Nat.le_of_ble_eq_true rfl) rfl
  · skip
    refine lv_lload_n hx hb dX12_in_6 rfl (lv_at hl 0 rfl) ?_
    refine lv_lload hx hb dX12_in_7 (lv_at hl 2 rfl) ?_
    refine W.lcmp hx hb dX12_in_9 ?_
    refine lv_topi (fun x_4 ex_4 => ?_)
    refine lv_if_gt (tgt := 17) hx hb dX12_in_10 (by decide) (fun c_5 => ?_) (fun c_5 => ?_)
    · skip
      refine lv_iconst (v := 0) hx hb dX12_in_17 (by decide) ?_
      have q1 := c_2
      rw [ex_1, lg_cmp_lt] at q1
      have q2 := c_5
      rw [ex_4, lg_cmp_gt] at q2
      have hp_6 : inF x1 x2 x3 = 0 := by simp [inF, q1, q2]
      exact retI (v := 0) hx hb hr hlk (rfl) hP hD hS () (by rw [hp_6]) [] rfl rfl dX12_in_18 (Nat.le_of_ble_eq_true rfl) (Nat.le_of_ble_eq_true rfl) rfl
    · skip
      refine lv_iconst (v := 1) hx hb dX12_in_13 (by decide) ?_
      refine lv_goto (tgt := 18) hx hb dX12_in_14 (by decide) ?_
      have q1 := c_2
      rw [ex_1, lg_cmp_lt] at q1
      have q2 := c_5
      rw [ex_4, lg_cmp_gt] at q2
      have hp_7 : inF x1 x2 x3 = 1 := by simp [inF, q1, q2]
      exact retI (v := 1) hx hb hr hlk (rfl) hP hD hS () (by rw [hp_7]) [] rfl rfl dX12_in_18 (Nat.le_of_ble_eq_true rfl) (Nat.le_of_ble_eq_true rfl) rfl
set_option maxHeartbeats 4000000 in
set_option maxRecDepth 100000 in
theorem ct_X12_isBook (l : Launch) (D : va_G) (tc : Nat → ClassId) (sk : (Nat → Nat) × (Nat → Nat)) (h0 : Nat) (n0 : Nat) (n3 : Nat) (n4 : Nat) (n5 : Nat) (n6 : Nat) (n7 : Nat) (n15 : Nat) (n17 : Nat) (n19 : Nat) (n20 : Nat) (n24 : Nat) (n26 : Nat) (n27 : Nat) (n28 : Nat) (n29 : Nat) (n30 : Nat) (n32 : Nat) (n33 : Nat) (n34 : Nat) (n35 : Nat)  : Ct l yX12_isBook cX12_isBook 1 (some .boolean) { frames := 0, cells := 0, slots := 0, locals := 0 } D tc sk [.ref h0] [(h0, .inr (12, [.ref n0, .int 0, .int 0, .ref n3, .ref n4, .ref n5, .ref n6, .ref n7, .int 0, .int 0, .int 0, .int 0, .int 0, .int 0, .int 0, .ref n15, .int 0, .ref n17, .int 0, .ref n19, .ref n20, .int (-1), .int 0, .int 0, .ref n24, .int 0, .ref n26, .ref n27, .ref n28, .ref n29, .ref n30, .long 0, .ref n32, .ref n33, .ref n34, .ref n35])), (n20, .inl (tc 0, 126, .inl (fun _ => 0)))] (fun (v : Option Value) (_ : Unit) => v = some (.int 0)) (fun (_ : Unit) => [(h0, .inr (12, [.ref n0, .int 0, .int 0, .ref n3, .ref n4, .ref n5, .ref n6, .ref n7, .int 0, .int 0, .int 0, .int 0, .int 0, .int 0, .int 0, .ref n15, .int 0, .ref n17, .int 0, .ref n19, .ref n20, .int (-1), .int 0, .int 0, .ref n24, .int 0, .ref n26, .ref n27, .ref n28, .ref n29, .ref n30, .long 0, .ref n32, .ref n33, .ref n34, .ref n35])), (n20, .inl (tc 0, 126, .inl (fun _ => 0)))]) 0 0 := by
  refine Ct.start (by decide) (Nat.le_of_ble_eq_true rfl) (fun p e s m below meth c A ls hx hb hr hlk hin hml hown hts hK hX hP hD hA hl hS => ?_)
  have hl : lv_has ls 1 [(0, .ref h0)] := hl
  refine lv_aload_n hx hb dX12_isBook_0 rfl (lv_at hl 0 rfl) ?_
  refine gf_X12_39 hx hb hts hown hK hP 0 rfl rfl dX12_isBook_1 ?_
  refine lv_iconst (v := 0) hx hb dX12_isBook_4 (by decide) ?_
  refine va_iald hx hb hK hP 1 0 rfl rfl (vin_dec (by decide +kernel)) dX12_isBook_5 ?_
  refine lv_lit (v := 0) rfl ?_
  refine lv_iconst (v := 1) hx hb dX12_isBook_6 (by decide) ?_
  refine lv_icmp_ne (tgt := 14) hx hb dX12_isBook_7 (by decide) (fun c_1 => ?_) (fun c_1 => absurd c_1 (by decide))
  refine lv_iconst (v := 0) hx hb dX12_isBook_14 (by decide) ?_
  exact retI (v := 0) hx hb hr hlk (rfl) hP hD hS () rfl [0, 1] rfl rfl dX12_isBook_15 (Nat.le_of_ble_eq_true rfl) (Nat.le_of_ble_eq_true rfl) rfl
set_option maxHeartbeats 4000000 in
set_option maxRecDepth 100000 in
theorem ct_X12_isBuyer (l : Launch) (D : va_G) (tc : Nat → ClassId) (sk : (Nat → Nat) × (Nat → Nat)) (h0 : Nat) (n0 : Nat) (n3 : Nat) (n4 : Nat) (n5 : Nat) (n6 : Nat) (n7 : Nat) (n15 : Nat) (n17 : Nat) (n19 : Nat) (n20 : Nat) (n24 : Nat) (n26 : Nat) (n27 : Nat) (n28 : Nat) (n29 : Nat) (n30 : Nat) (n32 : Nat) (n33 : Nat) (n34 : Nat) (n35 : Nat) (x1 : Int32)  : Ct l yX12_isBuyer cX12_isBuyer 2 (some .boolean) { frames := 0, cells := 0, slots := 0, locals := 0 } D tc sk [.ref h0, .int x1] [(h0, .inr (12, [.ref n0, .int 0, .int 0, .ref n3, .ref n4, .ref n5, .ref n6, .ref n7, .int 0, .int 0, .int 0, .int 0, .int 0, .int 0, .int 0, .ref n15, .int 0, .ref n17, .int 0, .ref n19, .ref n20, .int (-1), .int 0, .int 0, .ref n24, .int 0, .ref n26, .ref n27, .ref n28, .ref n29, .ref n30, .long 0, .ref n32, .ref n33, .ref n34, .ref n35])), (n20, .inl (tc 0, 126, .inl (fun _ => 0)))] (fun (v : Option Value) (_ : Unit) => v = some (.int 0)) (fun (_ : Unit) => [(h0, .inr (12, [.ref n0, .int 0, .int 0, .ref n3, .ref n4, .ref n5, .ref n6, .ref n7, .int 0, .int 0, .int 0, .int 0, .int 0, .int 0, .int 0, .ref n15, .int 0, .ref n17, .int 0, .ref n19, .ref n20, .int (-1), .int 0, .int 0, .ref n24, .int 0, .ref n26, .ref n27, .ref n28, .ref n29, .ref n30, .long 0, .ref n32, .ref n33, .ref n34, .ref n35])), (n20, .inl (tc 0, 126, .inl (fun _ => 0)))]) 0 0 := by
  refine Ct.start (by decide) (Nat.le_of_ble_eq_true rfl) (fun p e s m below meth c A ls hx hb hr hlk hin hml hown hts hK hX hP hD hA hl hS => ?_)
  have hl : lv_has ls 2 [(0, .ref h0), (1, .int x1)] := hl
  refine lv_iload_n hx hb dX12_isBuyer_0 rfl (lv_at hl 1 rfl) ?_
  refine lv_if_lt (tgt := 18) hx hb dX12_isBuyer_1 (by decide) (fun c_1 => ?_) (fun c_1 => ?_)
  · skip
    refine lv_iconst (v := 0) hx hb dX12_isBuyer_18 (by decide) ?_
    exact retI (v := 0) hx hb hr hlk (rfl) hP hD hS () rfl [0, 1] rfl rfl dX12_isBuyer_19 (Nat.le_of_ble_eq_true rfl) (Nat.le_of_ble_eq_true rfl) rfl
  · skip
    refine lv_iload_n hx hb dX12_isBuyer_4 rfl (lv_at hl 1 rfl) ?_
    refine lv_aload_n hx hb dX12_isBuyer_5 rfl (lv_at hl 0 rfl) ?_
    refine gf_X12_39 hx hb hts hown hK hP 0 rfl rfl dX12_isBuyer_6 ?_
    refine lv_iconst (v := 3) hx hb dX12_isBuyer_9 (by decide) ?_
    refine va_iald hx hb hK hP 1 0 rfl rfl (vin_dec (by decide +kernel)) dX12_isBuyer_10 ?_
    refine lv_lit (v := 0) rfl ?_
    refine lv_icmp_ge (tgt := 18) hx hb dX12_isBuyer_11 (by decide) (fun c_2 => ?_) (fun c_2 => ?_)
    · skip
      refine lv_iconst (v := 0) hx hb dX12_isBuyer_18 (by decide) ?_
      exact retI (v := 0) hx hb hr hlk (rfl) hP hD hS () rfl [0, 1] rfl rfl dX12_isBuyer_19 (Nat.le_of_ble_eq_true rfl) (Nat.le_of_ble_eq_true rfl) rfl
    · skip
      exfalso
      have z_1 := Int32.le_iff_toInt_le.mp (Int32.not_lt.mp c_1)
      have z_2 := Int32.lt_iff_toInt_lt.mp (Int32.not_le.mp c_2)
      have y_0 : (0 : Int32).toInt = 0 := by decide
      omega
set_option maxHeartbeats 4000000 in
set_option maxRecDepth 100000 in
theorem ct_X12_isClock (l : Launch) (D : va_G) (tc : Nat → ClassId) (sk : (Nat → Nat) × (Nat → Nat)) (h0 : Nat) (n0 : Nat) (n3 : Nat) (n4 : Nat) (n5 : Nat) (n6 : Nat) (n7 : Nat) (n15 : Nat) (n17 : Nat) (n19 : Nat) (n20 : Nat) (n24 : Nat) (n26 : Nat) (n27 : Nat) (n28 : Nat) (n29 : Nat) (n30 : Nat) (n32 : Nat) (n33 : Nat) (n34 : Nat) (n35 : Nat) (x1 : Int32)  : Ct l yX12_isClock cX12_isClock 2 (some .boolean) { frames := 1, cells := 0, slots := 0, locals := 20 } D tc sk [.ref h0, .int x1] [(h0, .inr (12, [.ref n0, .int 0, .int 0, .ref n3, .ref n4, .ref n5, .ref n6, .ref n7, .int 0, .int 0, .int 0, .int 0, .int 0, .int 0, .int 0, .ref n15, .int 0, .ref n17, .int 0, .ref n19, .ref n20, .int (-1), .int 0, .int 0, .ref n24, .int 0, .ref n26, .ref n27, .ref n28, .ref n29, .ref n30, .long 0, .ref n32, .ref n33, .ref n34, .ref n35])), (n20, .inl (tc 0, 126, .inl (fun _ => 0)))] (fun (v : Option Value) (_ : Unit) => v = some (.int 0)) (fun (_ : Unit) => [(h0, .inr (12, [.ref n0, .int 0, .int 0, .ref n3, .ref n4, .ref n5, .ref n6, .ref n7, .int 0, .int 0, .int 0, .int 0, .int 0, .int 0, .int 0, .ref n15, .int 0, .ref n17, .int 0, .ref n19, .ref n20, .int (-1), .int 0, .int 0, .ref n24, .int 0, .ref n26, .ref n27, .ref n28, .ref n29, .ref n30, .long 0, .ref n32, .ref n33, .ref n34, .ref n35])), (n20, .inl (tc 0, 126, .inl (fun _ => 0)))]) 0 0 := by
  refine Ct.start (by decide) (Nat.le_of_ble_eq_true rfl) (fun p e s m below meth c A ls hx hb hr hlk hin hml hown hts hK hX hP hD hA hl hS => ?_)
  have hl : lv_has ls 2 [(0, .ref h0), (1, .int x1)] := hl
  refine lv_aload_n hx hb dX12_isClock_0 rfl (lv_at hl 0 rfl) ?_
  refine cV (a := h0) (As := []) (rest := []) (wr := []) ⟨hx, hb, hml, hown, hts⟩ hK hX hA (ct_X12_isBook l D tc sk h0 n0 n3 n4 n5 n6 n7 n15 n17 n19 n20 n24 n26 n27 n28 n29 n30 n32 n33 n34 n35) k_1407 k_1404 k_1406 k_65 k_106 pl_X12_isBook ⟨Nat.le_of_ble_eq_true rfl, Nat.le_of_ble_eq_true rfl⟩ rfl rfl (va_recv hK hP (ci := 12) (q0 := 0) rfl rfl) hP hD hS [0, 1] [] rfl rfl rfl rfl rfl (by decide) rfl hl.1 rfl (Nat.le_of_ble_eq_true rfl) dX12_isClock_1 ⟨Nat.le_of_ble_eq_true rfl, Nat.le_of_ble_eq_true rfl⟩ (fun v_1 u_2 H locs hv_3 hP hD hS => ?_)
  obtain rfl : v_1 = some (.int 0) := hv_3
  refine W.eq (g2 := F0 m 4 ls [.int 0]) rfl ?_
  have hP : va_P D classes [(h0, .inr (12, [.ref n0, .int 0, .int 0, .ref n3, .ref n4, .ref n5, .ref n6, .ref n7, .int 0, .int 0, .int 0, .int 0, .int 0, .int 0, .int 0, .ref n15, .int 0, .ref n17, .int 0, .ref n19, .ref n20, .int (-1), .int 0, .int 0, .ref n24, .int 0, .ref n26, .ref n27, .ref n28, .ref n29, .ref n30, .long 0, .ref n32, .ref n33, .ref n34, .ref n35])), (n20, .inl (tc 0, 126, .inl (fun _ => 0)))] H := hP
  have hD : va_D A [(h0, .inr (12, [.ref n0, .int 0, .int 0, .ref n3, .ref n4, .ref n5, .ref n6, .ref n7, .int 0, .int 0, .int 0, .int 0, .int 0, .int 0, .int 0, .ref n15, .int 0, .ref n17, .int 0, .ref n19, .ref n20, .int (-1), .int 0, .int 0, .ref n24, .int 0, .ref n26, .ref n27, .ref n28, .ref n29, .ref n30, .long 0, .ref n32, .ref n33, .ref n34, .ref n35])), (n20, .inl (tc 0, 126, .inl (fun _ => 0)))] := hD
  refine lv_if_eq (tgt := 25) hx hb dX12_isClock_4 (by decide) (fun c_4 => ?_) (fun c_4 => absurd c_4 (by decide))
  refine lv_iconst (v := 0) hx hb dX12_isClock_25 (by decide) ?_
  exact retI (v := 0) hx hb hr hlk (rfl) hP hD hS () rfl [0, 1] rfl rfl dX12_isClock_26 (Nat.le_of_ble_eq_true rfl) (Nat.le_of_ble_eq_true rfl) rfl
set_option maxHeartbeats 4000000 in
set_option maxRecDepth 100000 in
theorem ct_X12_isRule (l : Launch) (D : va_G) (tc : Nat → ClassId) (sk : (Nat → Nat) × (Nat → Nat)) (h0 : Nat) (n0 : Nat) (n3 : Nat) (n4 : Nat) (n5 : Nat) (n6 : Nat) (n7 : Nat) (n15 : Nat) (n17 : Nat) (n19 : Nat) (n20 : Nat) (n24 : Nat) (n26 : Nat) (n27 : Nat) (n28 : Nat) (n29 : Nat) (n30 : Nat) (n32 : Nat) (n33 : Nat) (n34 : Nat) (n35 : Nat) (x1 : Int32)  : Ct l yX12_isRule cX12_isRule 2 (some .boolean) { frames := 0, cells := 0, slots := 0, locals := 0 } D tc sk [.ref h0, .int x1] [(h0, .inr (12, [.ref n0, .int 0, .int 0, .ref n3, .ref n4, .ref n5, .ref n6, .ref n7, .int 0, .int 0, .int 0, .int 0, .int 0, .int 0, .int 0, .ref n15, .int 0, .ref n17, .int 0, .ref n19, .ref n20, .int (-1), .int 0, .int 0, .ref n24, .int 0, .ref n26, .ref n27, .ref n28, .ref n29, .ref n30, .long 0, .ref n32, .ref n33, .ref n34, .ref n35]))] (fun (v : Option Value) (_ : Unit) => v = some (.int 0)) (fun (_ : Unit) => [(h0, .inr (12, [.ref n0, .int 0, .int 0, .ref n3, .ref n4, .ref n5, .ref n6, .ref n7, .int 0, .int 0, .int 0, .int 0, .int 0, .int 0, .int 0, .ref n15, .int 0, .ref n17, .int 0, .ref n19, .ref n20, .int (-1), .int 0, .int 0, .ref n24, .int 0, .ref n26, .ref n27, .ref n28, .ref n29, .ref n30, .long 0, .ref n32, .ref n33, .ref n34, .ref n35]))]) 0 0 := by
  refine Ct.start (by decide) (Nat.le_of_ble_eq_true rfl) (fun p e s m below meth c A ls hx hb hr hlk hin hml hown hts hK hX hP hD hA hl hS => ?_)
  have hl : lv_has ls 2 [(0, .ref h0), (1, .int x1)] := hl
  refine lv_iload_n hx hb dX12_isRule_0 rfl (lv_at hl 1 rfl) ?_
  refine lv_if_lt (tgt := 16) hx hb dX12_isRule_1 (by decide) (fun c_1 => ?_) (fun c_1 => ?_)
  · skip
    refine lv_iconst (v := 0) hx hb dX12_isRule_16 (by decide) ?_
    exact retI (v := 0) hx hb hr hlk (rfl) hP hD hS () rfl [0] rfl rfl dX12_isRule_17 (Nat.le_of_ble_eq_true rfl) (Nat.le_of_ble_eq_true rfl) rfl
  · skip
    refine lv_iload_n hx hb dX12_isRule_4 rfl (lv_at hl 1 rfl) ?_
    refine lv_aload_n hx hb dX12_isRule_5 rfl (lv_at hl 0 rfl) ?_
    refine gf_X12_256 hx hb hts hown hK hP 0 rfl rfl dX12_isRule_6 ?_
    refine lv_icmp_ge (tgt := 16) hx hb dX12_isRule_9 (by decide) (fun c_2 => ?_) (fun c_2 => ?_)
    · skip
      refine lv_iconst (v := 0) hx hb dX12_isRule_16 (by decide) ?_
      exact retI (v := 0) hx hb hr hlk (rfl) hP hD hS () rfl [0] rfl rfl dX12_isRule_17 (Nat.le_of_ble_eq_true rfl) (Nat.le_of_ble_eq_true rfl) rfl
    · skip
      exfalso
      have z_1 := Int32.le_iff_toInt_le.mp (Int32.not_lt.mp c_1)
      have z_2 := Int32.lt_iff_toInt_lt.mp (Int32.not_le.mp c_2)
      have y_0 : (0 : Int32).toInt = 0 := by decide
      omega
set_option maxHeartbeats 4000000 in
set_option maxRecDepth 100000 in
theorem ct_X12_clock (l : Launch) (D : va_G) (tc : Nat → ClassId) (sk : (Nat → Nat) × (Nat → Nat)) (h0 : Nat) (n0 : Nat) (n3 : Nat) (n4 : Nat) (n5 : Nat) (n6 : Nat) (n7 : Nat) (n15 : Nat) (n17 : Nat) (n19 : Nat) (n20 : Nat) (n24 : Nat) (n26 : Nat) (n27 : Nat) (n28 : Nat) (n29 : Nat) (n30 : Nat) (n32 : Nat) (n33 : Nat) (n34 : Nat) (n35 : Nat)  : Ct l yX12_clock cX12_clock 1 (some .int) { frames := 1, cells := 0, slots := 0, locals := 20 } D tc sk [.ref h0] [(h0, .inr (12, [.ref n0, .int 0, .int 0, .ref n3, .ref n4, .ref n5, .ref n6, .ref n7, .int 0, .int 0, .int 0, .int 0, .int 0, .int 0, .int 0, .ref n15, .int 0, .ref n17, .int 0, .ref n19, .ref n20, .int (-1), .int 0, .int 0, .ref n24, .int 0, .ref n26, .ref n27, .ref n28, .ref n29, .ref n30, .long 0, .ref n32, .ref n33, .ref n34, .ref n35])), (n20, .inl (tc 0, 126, .inl (fun _ => 0)))] (fun (v : Option Value) (_ : Unit) => v = some (.int 0)) (fun (_ : Unit) => [(h0, .inr (12, [.ref n0, .int 0, .int 0, .ref n3, .ref n4, .ref n5, .ref n6, .ref n7, .int 0, .int 0, .int 0, .int 0, .int 0, .int 0, .int 0, .ref n15, .int 0, .ref n17, .int 0, .ref n19, .ref n20, .int (-1), .int 0, .int 0, .ref n24, .int 0, .ref n26, .ref n27, .ref n28, .ref n29, .ref n30, .long 0, .ref n32, .ref n33, .ref n34, .ref n35])), (n20, .inl (tc 0, 126, .inl (fun _ => 0)))]) 0 0 := by
  refine Ct.start (by decide) (Nat.le_of_ble_eq_true rfl) (fun p e s m below meth c A ls hx hb hr hlk hin hml hown hts hK hX hP hD hA hl hS => ?_)
  have hl : lv_has ls 1 [(0, .ref h0)] := hl
  refine lv_aload_n hx hb dX12_clock_0 rfl (lv_at hl 0 rfl) ?_
  refine cV (a := h0) (As := []) (rest := []) (wr := []) ⟨hx, hb, hml, hown, hts⟩ hK hX hA (ct_X12_isBook l D tc sk h0 n0 n3 n4 n5 n6 n7 n15 n17 n19 n20 n24 n26 n27 n28 n29 n30 n32 n33 n34 n35) k_1407 k_1404 k_1406 k_65 k_106 pl_X12_isBook ⟨Nat.le_of_ble_eq_true rfl, Nat.le_of_ble_eq_true rfl⟩ rfl rfl (va_recv hK hP (ci := 12) (q0 := 0) rfl rfl) hP hD hS [0, 1] [] rfl rfl rfl rfl rfl (by decide) rfl hl.1 rfl (Nat.le_of_ble_eq_true rfl) dX12_clock_1 ⟨Nat.le_of_ble_eq_true rfl, Nat.le_of_ble_eq_true rfl⟩ (fun v_1 u_2 H locs hv_3 hP hD hS => ?_)
  obtain rfl : v_1 = some (.int 0) := hv_3
  refine W.eq (g2 := F0 m 4 ls [.int 0]) rfl ?_
  have hP : va_P D classes [(h0, .inr (12, [.ref n0, .int 0, .int 0, .ref n3, .ref n4, .ref n5, .ref n6, .ref n7, .int 0, .int 0, .int 0, .int 0, .int 0, .int 0, .int 0, .ref n15, .int 0, .ref n17, .int 0, .ref n19, .ref n20, .int (-1), .int 0, .int 0, .ref n24, .int 0, .ref n26, .ref n27, .ref n28, .ref n29, .ref n30, .long 0, .ref n32, .ref n33, .ref n34, .ref n35])), (n20, .inl (tc 0, 126, .inl (fun _ => 0)))] H := hP
  have hD : va_D A [(h0, .inr (12, [.ref n0, .int 0, .int 0, .ref n3, .ref n4, .ref n5, .ref n6, .ref n7, .int 0, .int 0, .int 0, .int 0, .int 0, .int 0, .int 0, .ref n15, .int 0, .ref n17, .int 0, .ref n19, .ref n20, .int (-1), .int 0, .int 0, .ref n24, .int 0, .ref n26, .ref n27, .ref n28, .ref n29, .ref n30, .long 0, .ref n32, .ref n33, .ref n34, .ref n35])), (n20, .inl (tc 0, 126, .inl (fun _ => 0)))] := hD
  refine lv_if_eq (tgt := 24) hx hb dX12_clock_4 (by decide) (fun c_4 => ?_) (fun c_4 => absurd c_4 (by decide))
  refine lv_iconst (v := 0) hx hb dX12_clock_24 (by decide) ?_
  exact retI (v := 0) hx hb hr hlk (rfl) hP hD hS () rfl [0, 1] rfl rfl dX12_clock_25 (Nat.le_of_ble_eq_true rfl) (Nat.le_of_ble_eq_true rfl) rfl
set_option maxHeartbeats 4000000 in
set_option maxRecDepth 100000 in
theorem ct_X12_soldAll (l : Launch) (D : va_G) (tc : Nat → ClassId) (sk : (Nat → Nat) × (Nat → Nat)) (h0 : Nat) (n0 : Nat) (n3 : Nat) (n4 : Nat) (n5 : Nat) (n6 : Nat) (n7 : Nat) (n15 : Nat) (n17 : Nat) (n19 : Nat) (n20 : Nat) (n24 : Nat) (n26 : Nat) (n27 : Nat) (n28 : Nat) (n29 : Nat) (n30 : Nat) (n32 : Nat) (n33 : Nat) (n34 : Nat) (n35 : Nat)  : Ct l yX12_soldAll cX12_soldAll 3 (some .int) { frames := 0, cells := 0, slots := 0, locals := 0 } D tc sk [.ref h0] [(h0, .inr (12, [.ref n0, .int 0, .int 0, .ref n3, .ref n4, .ref n5, .ref n6, .ref n7, .int 0, .int 0, .int 0, .int 0, .int 0, .int 0, .int 0, .ref n15, .int 0, .ref n17, .int 0, .ref n19, .ref n20, .int (-1), .int 0, .int 0, .ref n24, .int 0, .ref n26, .ref n27, .ref n28, .ref n29, .ref n30, .long 0, .ref n32, .ref n33, .ref n34, .ref n35])), (n20, .inl (tc 0, 126, .inl (fun _ => 0)))] (fun (v : Option Value) (_ : Unit) => v = some (.int 0)) (fun (_ : Unit) => [(h0, .inr (12, [.ref n0, .int 0, .int 0, .ref n3, .ref n4, .ref n5, .ref n6, .ref n7, .int 0, .int 0, .int 0, .int 0, .int 0, .int 0, .int 0, .ref n15, .int 0, .ref n17, .int 0, .ref n19, .ref n20, .int (-1), .int 0, .int 0, .ref n24, .int 0, .ref n26, .ref n27, .ref n28, .ref n29, .ref n30, .long 0, .ref n32, .ref n33, .ref n34, .ref n35])), (n20, .inl (tc 0, 126, .inl (fun _ => 0)))]) 0 0 := by
  refine Ct.start (by decide) (Nat.le_of_ble_eq_true rfl) (fun p e s m below meth c A ls hx hb hr hlk hin hml hown hts hK hX hP hD hA hl hS => ?_)
  have hl : lv_has ls 3 [(0, .ref h0)] := hl
  refine lv_iconst (v := 0) hx hb dX12_soldAll_0 (by decide) ?_
  refine lv_istore_n (lv' := [(1, .int 0), (0, .ref h0)]) hx hb dX12_soldAll_1 rfl hl (by decide) rfl (fun ls hl => ?_)
  refine lv_iconst (v := 0) hx hb dX12_soldAll_2 (by decide) ?_
  refine lv_istore_n (lv' := [(2, .int 0), (1, .int 0), (0, .ref h0)]) hx hb dX12_soldAll_3 rfl hl (by decide) rfl (fun ls hl => ?_)
  refine lv_iload_n hx hb dX12_soldAll_4 rfl (lv_at hl 0 rfl) ?_
  refine lv_aload_n hx hb dX12_soldAll_5 rfl (lv_at hl 2 rfl) ?_
  refine gf_X12_39 hx hb hts hown hK hP 0 rfl rfl dX12_soldAll_6 ?_
  refine lv_iconst (v := 3) hx hb dX12_soldAll_9 (by decide) ?_
  refine va_iald hx hb hK hP 1 0 rfl rfl (vin_dec (by decide +kernel)) dX12_soldAll_10 ?_
  refine lv_lit (v := 0) rfl ?_
  refine lv_icmp_ge (tgt := 28) hx hb dX12_soldAll_11 (by decide) (fun c_1 => ?_) (fun c_1 => absurd c_1 (by decide))
  refine lv_iload_n hx hb dX12_soldAll_28 rfl (lv_at hl 1 rfl) ?_
  exact retI (v := 0) hx hb hr hlk (rfl) hP hD hS () rfl [0, 1] rfl rfl dX12_soldAll_29 (Nat.le_of_ble_eq_true rfl) (Nat.le_of_ble_eq_true rfl) rfl
set_option maxHeartbeats 4000000 in
set_option maxRecDepth 100000 in
theorem ct_X12_metAll (l : Launch) (D : va_G) (tc : Nat → ClassId) (sk : (Nat → Nat) × (Nat → Nat)) (h0 : Nat) (n0 : Nat) (n3 : Nat) (n4 : Nat) (n5 : Nat) (n6 : Nat) (n7 : Nat) (n15 : Nat) (n17 : Nat) (n19 : Nat) (n20 : Nat) (n24 : Nat) (n26 : Nat) (n27 : Nat) (n28 : Nat) (n29 : Nat) (n30 : Nat) (n32 : Nat) (n33 : Nat) (n34 : Nat) (n35 : Nat)  : Ct l yX12_metAll cX12_metAll 3 (some .int) { frames := 0, cells := 0, slots := 0, locals := 0 } D tc sk [.ref h0] [(h0, .inr (12, [.ref n0, .int 0, .int 0, .ref n3, .ref n4, .ref n5, .ref n6, .ref n7, .int 0, .int 0, .int 0, .int 0, .int 0, .int 0, .int 0, .ref n15, .int 0, .ref n17, .int 0, .ref n19, .ref n20, .int (-1), .int 0, .int 0, .ref n24, .int 0, .ref n26, .ref n27, .ref n28, .ref n29, .ref n30, .long 0, .ref n32, .ref n33, .ref n34, .ref n35])), (n20, .inl (tc 0, 126, .inl (fun _ => 0)))] (fun (v : Option Value) (_ : Unit) => v = some (.int 0)) (fun (_ : Unit) => [(h0, .inr (12, [.ref n0, .int 0, .int 0, .ref n3, .ref n4, .ref n5, .ref n6, .ref n7, .int 0, .int 0, .int 0, .int 0, .int 0, .int 0, .int 0, .ref n15, .int 0, .ref n17, .int 0, .ref n19, .ref n20, .int (-1), .int 0, .int 0, .ref n24, .int 0, .ref n26, .ref n27, .ref n28, .ref n29, .ref n30, .long 0, .ref n32, .ref n33, .ref n34, .ref n35])), (n20, .inl (tc 0, 126, .inl (fun _ => 0)))]) 0 0 := by
  refine Ct.start (by decide) (Nat.le_of_ble_eq_true rfl) (fun p e s m below meth c A ls hx hb hr hlk hin hml hown hts hK hX hP hD hA hl hS => ?_)
  have hl : lv_has ls 3 [(0, .ref h0)] := hl
  refine lv_iconst (v := 0) hx hb dX12_metAll_0 (by decide) ?_
  refine lv_istore_n (lv' := [(1, .int 0), (0, .ref h0)]) hx hb dX12_metAll_1 rfl hl (by decide) rfl (fun ls hl => ?_)
  refine lv_iconst (v := 0) hx hb dX12_metAll_2 (by decide) ?_
  refine lv_istore_n (lv' := [(2, .int 0), (1, .int 0), (0, .ref h0)]) hx hb dX12_metAll_3 rfl hl (by decide) rfl (fun ls hl => ?_)
  refine lv_iload_n hx hb dX12_metAll_4 rfl (lv_at hl 0 rfl) ?_
  refine lv_aload_n hx hb dX12_metAll_5 rfl (lv_at hl 2 rfl) ?_
  refine gf_X12_39 hx hb hts hown hK hP 0 rfl rfl dX12_metAll_6 ?_
  refine lv_iconst (v := 3) hx hb dX12_metAll_9 (by decide) ?_
  refine va_iald hx hb hK hP 1 0 rfl rfl (vin_dec (by decide +kernel)) dX12_metAll_10 ?_
  refine lv_lit (v := 0) rfl ?_
  refine lv_icmp_ge (tgt := 28) hx hb dX12_metAll_11 (by decide) (fun c_1 => ?_) (fun c_1 => absurd c_1 (by decide))
  refine lv_iload_n hx hb dX12_metAll_28 rfl (lv_at hl 1 rfl) ?_
  exact retI (v := 0) hx hb hr hlk (rfl) hP hD hS () rfl [0, 1] rfl rfl dX12_metAll_29 (Nat.le_of_ble_eq_true rfl) (Nat.le_of_ble_eq_true rfl) rfl
set_option maxHeartbeats 4000000 in
set_option maxRecDepth 100000 in
theorem ct_X12_buyer (l : Launch) (D : va_G) (tc : Nat → ClassId) (sk : (Nat → Nat) × (Nat → Nat)) (h0 : Nat) (n0 : Nat) (n3 : Nat) (n4 : Nat) (n5 : Nat) (n6 : Nat) (n7 : Nat) (n15 : Nat) (n17 : Nat) (n19 : Nat) (n20 : Nat) (n24 : Nat) (n26 : Nat) (n27 : Nat) (n28 : Nat) (n29 : Nat) (n30 : Nat) (n32 : Nat) (n33 : Nat) (n34 : Nat) (n35 : Nat) (x1 : Int32) (x2 : Int32)  : Ct l yX12_buyer cX12_buyer 3 (some .int) { frames := 1, cells := 0, slots := 0, locals := 21 } D tc sk [.ref h0, .int x1, .int x2] [(h0, .inr (12, [.ref n0, .int 0, .int 0, .ref n3, .ref n4, .ref n5, .ref n6, .ref n7, .int 0, .int 0, .int 0, .int 0, .int 0, .int 0, .int 0, .ref n15, .int 0, .ref n17, .int 0, .ref n19, .ref n20, .int (-1), .int 0, .int 0, .ref n24, .int 0, .ref n26, .ref n27, .ref n28, .ref n29, .ref n30, .long 0, .ref n32, .ref n33, .ref n34, .ref n35])), (n20, .inl (tc 0, 126, .inl (fun _ => 0)))] (fun (v : Option Value) (_ : Unit) => v = some (.int (-1))) (fun (_ : Unit) => []) 0 0 := by
  refine Ct.start (by decide) (Nat.le_of_ble_eq_true rfl) (fun p e s m below meth c A ls hx hb hr hlk hin hml hown hts hK hX hP hD hA hl hS => ?_)
  have hl : lv_has ls 3 [(0, .ref h0), (1, .int x1), (2, .int x2)] := hl
  refine lv_aload_n hx hb dX12_buyer_0 rfl (lv_at hl 0 rfl) ?_
  refine lv_iload_n hx hb dX12_buyer_1 rfl (lv_at hl 1 rfl) ?_
  refine cV (a := h0) (As := [.int x1]) (rest := []) (wr := []) ⟨hx, hb, hml, hown, hts⟩ hK hX hA (ct_X12_isBuyer l D tc sk h0 n0 n3 n4 n5 n6 n7 n15 n17 n19 n20 n24 n26 n27 n28 n29 n30 n32 n33 n34 n35 x1) k_1375 k_1372 k_1374 k_58 k_106 pl_X12_isBuyer ⟨Nat.le_of_ble_eq_true rfl, Nat.le_of_ble_eq_true rfl⟩ rfl rfl (va_recv hK hP (ci := 12) (q0 := 0) rfl rfl) hP hD hS [0, 1] [] rfl rfl rfl rfl rfl (by decide) rfl hl.1 rfl (Nat.le_of_ble_eq_true rfl) dX12_buyer_2 ⟨Nat.le_of_ble_eq_true rfl, Nat.le_of_ble_eq_true rfl⟩ (fun v_1 u_2 H locs hv_3 hP hD hS => ?_)
  obtain rfl : v_1 = some (.int 0) := hv_3
  refine W.eq (g2 := F0 m 5 ls [.int 0]) rfl ?_
  have hP : va_P D classes [(h0, .inr (12, [.ref n0, .int 0, .int 0, .ref n3, .ref n4, .ref n5, .ref n6, .ref n7, .int 0, .int 0, .int 0, .int 0, .int 0, .int 0, .int 0, .ref n15, .int 0, .ref n17, .int 0, .ref n19, .ref n20, .int (-1), .int 0, .int 0, .ref n24, .int 0, .ref n26, .ref n27, .ref n28, .ref n29, .ref n30, .long 0, .ref n32, .ref n33, .ref n34, .ref n35])), (n20, .inl (tc 0, 126, .inl (fun _ => 0)))] H := hP
  have hD : va_D A [(h0, .inr (12, [.ref n0, .int 0, .int 0, .ref n3, .ref n4, .ref n5, .ref n6, .ref n7, .int 0, .int 0, .int 0, .int 0, .int 0, .int 0, .int 0, .ref n15, .int 0, .ref n17, .int 0, .ref n19, .ref n20, .int (-1), .int 0, .int 0, .ref n24, .int 0, .ref n26, .ref n27, .ref n28, .ref n29, .ref n30, .long 0, .ref n32, .ref n33, .ref n34, .ref n35])), (n20, .inl (tc 0, 126, .inl (fun _ => 0)))] := hD
  refine lv_if_ne (tgt := 10) hx hb dX12_buyer_5 (by decide) (fun c_4 => absurd c_4 (by decide)) (fun c_4 => ?_)
  refine lv_iconst (v := (-1)) hx hb dX12_buyer_8 (by decide) ?_
  exact retI (v := (-1)) hx hb hr hlk (rfl) hP hD hS () rfl [] rfl rfl dX12_buyer_9 (Nat.le_of_ble_eq_true rfl) (Nat.le_of_ble_eq_true rfl) rfl
set_option maxHeartbeats 4000000 in
set_option maxRecDepth 100000 in
theorem ct_X12_sky (l : Launch) (D : va_G) (tc : Nat → ClassId) (sk : (Nat → Nat) × (Nat → Nat)) (h0 : Nat) (n0 : Nat) (n3 : Nat) (n4 : Nat) (n5 : Nat) (n6 : Nat) (n7 : Nat) (n15 : Nat) (n17 : Nat) (n19 : Nat) (n20 : Nat) (n24 : Nat) (n26 : Nat) (n27 : Nat) (n28 : Nat) (n29 : Nat) (n30 : Nat) (n32 : Nat) (n33 : Nat) (n34 : Nat) (n35 : Nat) (x1 : Int32) (x2 : Int32)  : Ct l yX12_sky cX12_sky 3 (some .int) { frames := 2, cells := 0, slots := 0, locals := 41 } D tc sk [.ref h0, .int x1, .int x2] [(h0, .inr (12, [.ref n0, .int 0, .int 0, .ref n3, .ref n4, .ref n5, .ref n6, .ref n7, .int 0, .int 0, .int 0, .int 0, .int 0, .int 0, .int 0, .ref n15, .int 0, .ref n17, .int 0, .ref n19, .ref n20, .int (-1), .int 0, .int 0, .ref n24, .int 0, .ref n26, .ref n27, .ref n28, .ref n29, .ref n30, .long 0, .ref n32, .ref n33, .ref n34, .ref n35])), (n20, .inl (tc 0, 126, .inl (fun _ => 0)))] (fun (v : Option Value) (_ : Unit) => v = some (.int (-1))) (fun (_ : Unit) => []) 0 0 := by
  refine Ct.start (by decide) (Nat.le_of_ble_eq_true rfl) (fun p e s m below meth c A ls hx hb hr hlk hin hml hown hts hK hX hP hD hA hl hS => ?_)
  have hl : lv_has ls 3 [(0, .ref h0), (1, .int x1), (2, .int x2)] := hl
  refine lv_aload_n hx hb dX12_sky_0 rfl (lv_at hl 0 rfl) ?_
  refine lv_iload_n hx hb dX12_sky_1 rfl (lv_at hl 1 rfl) ?_
  refine cV (a := h0) (As := [.int x1]) (rest := []) (wr := []) ⟨hx, hb, hml, hown, hts⟩ hK hX hA (ct_X12_isClock l D tc sk h0 n0 n3 n4 n5 n6 n7 n15 n17 n19 n20 n24 n26 n27 n28 n29 n30 n32 n33 n34 n35 x1) k_1403 k_1400 k_1402 k_64 k_106 pl_X12_isClock ⟨Nat.le_of_ble_eq_true rfl, Nat.le_of_ble_eq_true rfl⟩ rfl rfl (va_recv hK hP (ci := 12) (q0 := 0) rfl rfl) hP hD hS [0, 1] [] rfl rfl rfl rfl rfl (by decide) rfl hl.1 rfl (Nat.le_of_ble_eq_true rfl) dX12_sky_2 ⟨Nat.le_of_ble_eq_true rfl, Nat.le_of_ble_eq_true rfl⟩ (fun v_1 u_2 H locs hv_3 hP hD hS => ?_)
  obtain rfl : v_1 = some (.int 0) := hv_3
  refine W.eq (g2 := F0 m 5 ls [.int 0]) rfl ?_
  have hP : va_P D classes [(h0, .inr (12, [.ref n0, .int 0, .int 0, .ref n3, .ref n4, .ref n5, .ref n6, .ref n7, .int 0, .int 0, .int 0, .int 0, .int 0, .int 0, .int 0, .ref n15, .int 0, .ref n17, .int 0, .ref n19, .ref n20, .int (-1), .int 0, .int 0, .ref n24, .int 0, .ref n26, .ref n27, .ref n28, .ref n29, .ref n30, .long 0, .ref n32, .ref n33, .ref n34, .ref n35])), (n20, .inl (tc 0, 126, .inl (fun _ => 0)))] H := hP
  have hD : va_D A [(h0, .inr (12, [.ref n0, .int 0, .int 0, .ref n3, .ref n4, .ref n5, .ref n6, .ref n7, .int 0, .int 0, .int 0, .int 0, .int 0, .int 0, .int 0, .ref n15, .int 0, .ref n17, .int 0, .ref n19, .ref n20, .int (-1), .int 0, .int 0, .ref n24, .int 0, .ref n26, .ref n27, .ref n28, .ref n29, .ref n30, .long 0, .ref n32, .ref n33, .ref n34, .ref n35])), (n20, .inl (tc 0, 126, .inl (fun _ => 0)))] := hD
  refine lv_if_eq (tgt := 18) hx hb dX12_sky_5 (by decide) (fun c_4 => ?_) (fun c_4 => absurd c_4 (by decide))
  refine lv_iconst (v := (-1)) hx hb dX12_sky_18 (by decide) ?_
  exact retI (v := (-1)) hx hb hr hlk (rfl) hP hD hS () rfl [] rfl rfl dX12_sky_19 (Nat.le_of_ble_eq_true rfl) (Nat.le_of_ble_eq_true rfl) rfl
set_option maxHeartbeats 4000000 in
set_option maxRecDepth 100000 in
theorem ct_X12_day (l : Launch) (D : va_G) (tc : Nat → ClassId) (sk : (Nat → Nat) × (Nat → Nat)) (h0 : Nat) (n0 : Nat) (n3 : Nat) (n4 : Nat) (n5 : Nat) (n6 : Nat) (n7 : Nat) (n15 : Nat) (n17 : Nat) (n19 : Nat) (n20 : Nat) (n24 : Nat) (n26 : Nat) (n27 : Nat) (n28 : Nat) (n29 : Nat) (n30 : Nat) (n32 : Nat) (n33 : Nat) (n34 : Nat) (n35 : Nat)  : Ct l yX12_day cX12_day 1 (some .int) { frames := 1, cells := 0, slots := 0, locals := 20 } D tc sk [.ref h0] [(h0, .inr (12, [.ref n0, .int 0, .int 0, .ref n3, .ref n4, .ref n5, .ref n6, .ref n7, .int 0, .int 0, .int 0, .int 0, .int 0, .int 0, .int 0, .ref n15, .int 0, .ref n17, .int 0, .ref n19, .ref n20, .int (-1), .int 0, .int 0, .ref n24, .int 0, .ref n26, .ref n27, .ref n28, .ref n29, .ref n30, .long 0, .ref n32, .ref n33, .ref n34, .ref n35])), (n20, .inl (tc 0, 126, .inl (fun _ => 0)))] (fun (v : Option Value) (_ : Unit) => v = some (.int (-1))) (fun (_ : Unit) => []) 0 0 := by
  refine Ct.start (by decide) (Nat.le_of_ble_eq_true rfl) (fun p e s m below meth c A ls hx hb hr hlk hin hml hown hts hK hX hP hD hA hl hS => ?_)
  have hl : lv_has ls 1 [(0, .ref h0)] := hl
  refine lv_aload_n hx hb dX12_day_0 rfl (lv_at hl 0 rfl) ?_
  refine cV (a := h0) (As := []) (rest := []) (wr := []) ⟨hx, hb, hml, hown, hts⟩ hK hX hA (ct_X12_isBook l D tc sk h0 n0 n3 n4 n5 n6 n7 n15 n17 n19 n20 n24 n26 n27 n28 n29 n30 n32 n33 n34 n35) k_1407 k_1404 k_1406 k_65 k_106 pl_X12_isBook ⟨Nat.le_of_ble_eq_true rfl, Nat.le_of_ble_eq_true rfl⟩ rfl rfl (va_recv hK hP (ci := 12) (q0 := 0) rfl rfl) hP hD hS [0, 1] [] rfl rfl rfl rfl rfl (by decide) rfl hl.1 rfl (Nat.le_of_ble_eq_true rfl) dX12_day_1 ⟨Nat.le_of_ble_eq_true rfl, Nat.le_of_ble_eq_true rfl⟩ (fun v_1 u_2 H locs hv_3 hP hD hS => ?_)
  obtain rfl : v_1 = some (.int 0) := hv_3
  refine W.eq (g2 := F0 m 4 ls [.int 0]) rfl ?_
  have hP : va_P D classes [(h0, .inr (12, [.ref n0, .int 0, .int 0, .ref n3, .ref n4, .ref n5, .ref n6, .ref n7, .int 0, .int 0, .int 0, .int 0, .int 0, .int 0, .int 0, .ref n15, .int 0, .ref n17, .int 0, .ref n19, .ref n20, .int (-1), .int 0, .int 0, .ref n24, .int 0, .ref n26, .ref n27, .ref n28, .ref n29, .ref n30, .long 0, .ref n32, .ref n33, .ref n34, .ref n35])), (n20, .inl (tc 0, 126, .inl (fun _ => 0)))] H := hP
  have hD : va_D A [(h0, .inr (12, [.ref n0, .int 0, .int 0, .ref n3, .ref n4, .ref n5, .ref n6, .ref n7, .int 0, .int 0, .int 0, .int 0, .int 0, .int 0, .int 0, .ref n15, .int 0, .ref n17, .int 0, .ref n19, .ref n20, .int (-1), .int 0, .int 0, .ref n24, .int 0, .ref n26, .ref n27, .ref n28, .ref n29, .ref n30, .long 0, .ref n32, .ref n33, .ref n34, .ref n35])), (n20, .inl (tc 0, 126, .inl (fun _ => 0)))] := hD
  refine lv_if_eq (tgt := 20) hx hb dX12_day_4 (by decide) (fun c_4 => ?_) (fun c_4 => absurd c_4 (by decide))
  refine lv_iconst (v := (-1)) hx hb dX12_day_20 (by decide) ?_
  exact retI (v := (-1)) hx hb hr hlk (rfl) hP hD hS () rfl [] rfl rfl dX12_day_21 (Nat.le_of_ble_eq_true rfl) (Nat.le_of_ble_eq_true rfl) rfl
set_option maxHeartbeats 4000000 in
set_option maxRecDepth 100000 in
theorem ct_X12_sell (l : Launch) (D : va_G) (tc : Nat → ClassId) (sk : (Nat → Nat) × (Nat → Nat)) (h0 : Nat) (n0 : Nat) (n3 : Nat) (n4 : Nat) (n5 : Nat) (n6 : Nat) (n7 : Nat) (n15 : Nat) (n17 : Nat) (n19 : Nat) (n20 : Nat) (n24 : Nat) (n26 : Nat) (n27 : Nat) (n28 : Nat) (n29 : Nat) (n30 : Nat) (n32 : Nat) (n33 : Nat) (n34 : Nat) (n35 : Nat) (x1 : Int32)  : Ct l yX12_sell cX12_sell 2 (some .int) { frames := 1, cells := 0, slots := 0, locals := 21 } D tc sk [.ref h0, .int x1] [(h0, .inr (12, [.ref n0, .int 0, .int 0, .ref n3, .ref n4, .ref n5, .ref n6, .ref n7, .int 0, .int 0, .int 0, .int 0, .int 0, .int 0, .int 0, .ref n15, .int 0, .ref n17, .int 0, .ref n19, .ref n20, .int (-1), .int 0, .int 0, .ref n24, .int 0, .ref n26, .ref n27, .ref n28, .ref n29, .ref n30, .long 0, .ref n32, .ref n33, .ref n34, .ref n35])), (n20, .inl (tc 0, 126, .inl (fun _ => 0)))] (fun (v : Option Value) (_ : Unit) => v = some (.int (-1))) (fun (_ : Unit) => []) 0 0 := by
  refine Ct.start (by decide) (Nat.le_of_ble_eq_true rfl) (fun p e s m below meth c A ls hx hb hr hlk hin hml hown hts hK hX hP hD hA hl hS => ?_)
  have hl : lv_has ls 2 [(0, .ref h0), (1, .int x1)] := hl
  refine lv_aload_n hx hb dX12_sell_0 rfl (lv_at hl 0 rfl) ?_
  refine lv_iload_n hx hb dX12_sell_1 rfl (lv_at hl 1 rfl) ?_
  refine cV (a := h0) (As := [.int x1]) (rest := []) (wr := []) ⟨hx, hb, hml, hown, hts⟩ hK hX hA (ct_X12_isBuyer l D tc sk h0 n0 n3 n4 n5 n6 n7 n15 n17 n19 n20 n24 n26 n27 n28 n29 n30 n32 n33 n34 n35 x1) k_1375 k_1372 k_1374 k_58 k_106 pl_X12_isBuyer ⟨Nat.le_of_ble_eq_true rfl, Nat.le_of_ble_eq_true rfl⟩ rfl rfl (va_recv hK hP (ci := 12) (q0 := 0) rfl rfl) hP hD hS [0, 1] [] rfl rfl rfl rfl rfl (by decide) rfl hl.1 rfl (Nat.le_of_ble_eq_true rfl) dX12_sell_2 ⟨Nat.le_of_ble_eq_true rfl, Nat.le_of_ble_eq_true rfl⟩ (fun v_1 u_2 H locs hv_3 hP hD hS => ?_)
  obtain rfl : v_1 = some (.int 0) := hv_3
  refine W.eq (g2 := F0 m 5 ls [.int 0]) rfl ?_
  have hP : va_P D classes [(h0, .inr (12, [.ref n0, .int 0, .int 0, .ref n3, .ref n4, .ref n5, .ref n6, .ref n7, .int 0, .int 0, .int 0, .int 0, .int 0, .int 0, .int 0, .ref n15, .int 0, .ref n17, .int 0, .ref n19, .ref n20, .int (-1), .int 0, .int 0, .ref n24, .int 0, .ref n26, .ref n27, .ref n28, .ref n29, .ref n30, .long 0, .ref n32, .ref n33, .ref n34, .ref n35])), (n20, .inl (tc 0, 126, .inl (fun _ => 0)))] H := hP
  have hD : va_D A [(h0, .inr (12, [.ref n0, .int 0, .int 0, .ref n3, .ref n4, .ref n5, .ref n6, .ref n7, .int 0, .int 0, .int 0, .int 0, .int 0, .int 0, .int 0, .ref n15, .int 0, .ref n17, .int 0, .ref n19, .ref n20, .int (-1), .int 0, .int 0, .ref n24, .int 0, .ref n26, .ref n27, .ref n28, .ref n29, .ref n30, .long 0, .ref n32, .ref n33, .ref n34, .ref n35])), (n20, .inl (tc 0, 126, .inl (fun _ => 0)))] := hD
  refine lv_if_eq (tgt := 27) hx hb dX12_sell_5 (by decide) (fun c_4 => ?_) (fun c_4 => absurd c_4 (by decide))
  refine lv_iconst (v := (-1)) hx hb dX12_sell_27 (by decide) ?_
  exact retI (v := (-1)) hx hb hr hlk (rfl) hP hD hS () rfl [] rfl rfl dX12_sell_28 (Nat.le_of_ble_eq_true rfl) (Nat.le_of_ble_eq_true rfl) rfl
set_option maxHeartbeats 4000000 in
set_option maxRecDepth 100000 in
theorem ct_X12_calm (l : Launch) (D : va_G) (tc : Nat → ClassId) (sk : (Nat → Nat) × (Nat → Nat)) (h0 : Nat) (n0 : Nat) (n3 : Nat) (n4 : Nat) (n5 : Nat) (n6 : Nat) (n7 : Nat) (n15 : Nat) (n17 : Nat) (n19 : Nat) (n20 : Nat) (n24 : Nat) (n26 : Nat) (n27 : Nat) (n28 : Nat) (n29 : Nat) (n30 : Nat) (n32 : Nat) (n33 : Nat) (n34 : Nat) (n35 : Nat) (x1 : Int32) (x2 : Int32)  : Ct l yX12_calm cX12_calm 3 (some .int) { frames := 1, cells := 0, slots := 0, locals := 21 } D tc sk [.ref h0, .int x1, .int x2] [(h0, .inr (12, [.ref n0, .int 0, .int 0, .ref n3, .ref n4, .ref n5, .ref n6, .ref n7, .int 0, .int 0, .int 0, .int 0, .int 0, .int 0, .int 0, .ref n15, .int 0, .ref n17, .int 0, .ref n19, .ref n20, .int (-1), .int 0, .int 0, .ref n24, .int 0, .ref n26, .ref n27, .ref n28, .ref n29, .ref n30, .long 0, .ref n32, .ref n33, .ref n34, .ref n35])), (n20, .inl (tc 0, 126, .inl (fun _ => 0)))] (fun (v : Option Value) (_ : Unit) => v = some (.int (-1))) (fun (_ : Unit) => []) 0 0 := by
  refine Ct.start (by decide) (Nat.le_of_ble_eq_true rfl) (fun p e s m below meth c A ls hx hb hr hlk hin hml hown hts hK hX hP hD hA hl hS => ?_)
  have hl : lv_has ls 3 [(0, .ref h0), (1, .int x1), (2, .int x2)] := hl
  refine lv_aload_n hx hb dX12_calm_0 rfl (lv_at hl 0 rfl) ?_
  refine lv_iload_n hx hb dX12_calm_1 rfl (lv_at hl 1 rfl) ?_
  refine cV (a := h0) (As := [.int x1]) (rest := []) (wr := []) ⟨hx, hb, hml, hown, hts⟩ hK hX hA (ct_X12_isBuyer l D tc sk h0 n0 n3 n4 n5 n6 n7 n15 n17 n19 n20 n24 n26 n27 n28 n29 n30 n32 n33 n34 n35 x1) k_1375 k_1372 k_1374 k_58 k_106 pl_X12_isBuyer ⟨Nat.le_of_ble_eq_true rfl, Nat.le_of_ble_eq_true rfl⟩ rfl rfl (va_recv hK hP (ci := 12) (q0 := 0) rfl rfl) hP hD hS [0, 1] [] rfl rfl rfl rfl rfl (by decide) rfl hl.1 rfl (Nat.le_of_ble_eq_true rfl) dX12_calm_2 ⟨Nat.le_of_ble_eq_true rfl, Nat.le_of_ble_eq_true rfl⟩ (fun v_1 u_2 H locs hv_3 hP hD hS => ?_)
  obtain rfl : v_1 = some (.int 0) := hv_3
  refine W.eq (g2 := F0 m 5 ls [.int 0]) rfl ?_
  have hP : va_P D classes [(h0, .inr (12, [.ref n0, .int 0, .int 0, .ref n3, .ref n4, .ref n5, .ref n6, .ref n7, .int 0, .int 0, .int 0, .int 0, .int 0, .int 0, .int 0, .ref n15, .int 0, .ref n17, .int 0, .ref n19, .ref n20, .int (-1), .int 0, .int 0, .ref n24, .int 0, .ref n26, .ref n27, .ref n28, .ref n29, .ref n30, .long 0, .ref n32, .ref n33, .ref n34, .ref n35])), (n20, .inl (tc 0, 126, .inl (fun _ => 0)))] H := hP
  have hD : va_D A [(h0, .inr (12, [.ref n0, .int 0, .int 0, .ref n3, .ref n4, .ref n5, .ref n6, .ref n7, .int 0, .int 0, .int 0, .int 0, .int 0, .int 0, .int 0, .ref n15, .int 0, .ref n17, .int 0, .ref n19, .ref n20, .int (-1), .int 0, .int 0, .ref n24, .int 0, .ref n26, .ref n27, .ref n28, .ref n29, .ref n30, .long 0, .ref n32, .ref n33, .ref n34, .ref n35])), (n20, .inl (tc 0, 126, .inl (fun _ => 0)))] := hD
  refine lv_if_eq (tgt := 29) hx hb dX12_calm_5 (by decide) (fun c_4 => ?_) (fun c_4 => absurd c_4 (by decide))
  refine lv_iconst (v := (-1)) hx hb dX12_calm_29 (by decide) ?_
  exact retI (v := (-1)) hx hb hr hlk (rfl) hP hD hS () rfl [] rfl rfl dX12_calm_30 (Nat.le_of_ble_eq_true rfl) (Nat.le_of_ble_eq_true rfl) rfl
set_option maxHeartbeats 4000000 in
set_option maxRecDepth 100000 in
theorem ct_X12_watch (l : Launch) (D : va_G) (tc : Nat → ClassId) (sk : (Nat → Nat) × (Nat → Nat)) (h0 : Nat) (n0 : Nat) (n3 : Nat) (n4 : Nat) (n5 : Nat) (n6 : Nat) (n7 : Nat) (n15 : Nat) (n17 : Nat) (n19 : Nat) (n20 : Nat) (n24 : Nat) (n26 : Nat) (n27 : Nat) (n28 : Nat) (n29 : Nat) (n30 : Nat) (n32 : Nat) (n33 : Nat) (n34 : Nat) (n35 : Nat) (x1 : Int32) (x2 : Int32)  : Ct l yX12_watch cX12_watch 3 (some .int) { frames := 2, cells := 0, slots := 0, locals := 41 } D tc sk [.ref h0, .int x1, .int x2] [(h0, .inr (12, [.ref n0, .int 0, .int 0, .ref n3, .ref n4, .ref n5, .ref n6, .ref n7, .int 0, .int 0, .int 0, .int 0, .int 0, .int 0, .int 0, .ref n15, .int 0, .ref n17, .int 0, .ref n19, .ref n20, .int (-1), .int 0, .int 0, .ref n24, .int 0, .ref n26, .ref n27, .ref n28, .ref n29, .ref n30, .long 0, .ref n32, .ref n33, .ref n34, .ref n35])), (n20, .inl (tc 0, 126, .inl (fun _ => 0)))] (fun (v : Option Value) (_ : Unit) => v = some (.int (-1))) (fun (_ : Unit) => []) 0 0 := by
  refine Ct.start (by decide) (Nat.le_of_ble_eq_true rfl) (fun p e s m below meth c A ls hx hb hr hlk hin hml hown hts hK hX hP hD hA hl hS => ?_)
  have hl : lv_has ls 3 [(0, .ref h0), (1, .int x1), (2, .int x2)] := hl
  refine lv_aload_n hx hb dX12_watch_0 rfl (lv_at hl 0 rfl) ?_
  refine lv_iload_n hx hb dX12_watch_1 rfl (lv_at hl 1 rfl) ?_
  refine cV (a := h0) (As := [.int x1]) (rest := []) (wr := []) ⟨hx, hb, hml, hown, hts⟩ hK hX hA (ct_X12_isClock l D tc sk h0 n0 n3 n4 n5 n6 n7 n15 n17 n19 n20 n24 n26 n27 n28 n29 n30 n32 n33 n34 n35 x1) k_1403 k_1400 k_1402 k_64 k_106 pl_X12_isClock ⟨Nat.le_of_ble_eq_true rfl, Nat.le_of_ble_eq_true rfl⟩ rfl rfl (va_recv hK hP (ci := 12) (q0 := 0) rfl rfl) hP hD hS [0, 1] [] rfl rfl rfl rfl rfl (by decide) rfl hl.1 rfl (Nat.le_of_ble_eq_true rfl) dX12_watch_2 ⟨Nat.le_of_ble_eq_true rfl, Nat.le_of_ble_eq_true rfl⟩ (fun v_1 u_2 H locs hv_3 hP hD hS => ?_)
  obtain rfl : v_1 = some (.int 0) := hv_3
  refine W.eq (g2 := F0 m 5 ls [.int 0]) rfl ?_
  have hP : va_P D classes [(h0, .inr (12, [.ref n0, .int 0, .int 0, .ref n3, .ref n4, .ref n5, .ref n6, .ref n7, .int 0, .int 0, .int 0, .int 0, .int 0, .int 0, .int 0, .ref n15, .int 0, .ref n17, .int 0, .ref n19, .ref n20, .int (-1), .int 0, .int 0, .ref n24, .int 0, .ref n26, .ref n27, .ref n28, .ref n29, .ref n30, .long 0, .ref n32, .ref n33, .ref n34, .ref n35])), (n20, .inl (tc 0, 126, .inl (fun _ => 0)))] H := hP
  have hD : va_D A [(h0, .inr (12, [.ref n0, .int 0, .int 0, .ref n3, .ref n4, .ref n5, .ref n6, .ref n7, .int 0, .int 0, .int 0, .int 0, .int 0, .int 0, .int 0, .ref n15, .int 0, .ref n17, .int 0, .ref n19, .ref n20, .int (-1), .int 0, .int 0, .ref n24, .int 0, .ref n26, .ref n27, .ref n28, .ref n29, .ref n30, .long 0, .ref n32, .ref n33, .ref n34, .ref n35])), (n20, .inl (tc 0, 126, .inl (fun _ => 0)))] := hD
  refine lv_if_eq (tgt := 16) hx hb dX12_watch_5 (by decide) (fun c_4 => ?_) (fun c_4 => absurd c_4 (by decide))
  refine lv_iconst (v := (-1)) hx hb dX12_watch_16 (by decide) ?_
  exact retI (v := (-1)) hx hb hr hlk (rfl) hP hD hS () rfl [] rfl rfl dX12_watch_17 (Nat.le_of_ble_eq_true rfl) (Nat.le_of_ble_eq_true rfl) rfl
set_option maxHeartbeats 4000000 in
set_option maxRecDepth 100000 in
theorem ct_X12_change (l : Launch) (D : va_G) (tc : Nat → ClassId) (sk : (Nat → Nat) × (Nat → Nat)) (h0 : Nat) (n0 : Nat) (n3 : Nat) (n4 : Nat) (n5 : Nat) (n6 : Nat) (n7 : Nat) (n15 : Nat) (n17 : Nat) (n19 : Nat) (n20 : Nat) (n24 : Nat) (n26 : Nat) (n27 : Nat) (n28 : Nat) (n29 : Nat) (n30 : Nat) (n32 : Nat) (n33 : Nat) (n34 : Nat) (n35 : Nat) (x1 : Int32) (x2 : Int32)  : Ct l yX12_change cX12_change 4 (some .int) { frames := 2, cells := 0, slots := 0, locals := 41 } D tc sk [.ref h0, .int x1, .int x2] [(h0, .inr (12, [.ref n0, .int 0, .int 0, .ref n3, .ref n4, .ref n5, .ref n6, .ref n7, .int 0, .int 0, .int 0, .int 0, .int 0, .int 0, .int 0, .ref n15, .int 0, .ref n17, .int 0, .ref n19, .ref n20, .int (-1), .int 0, .int 0, .ref n24, .int 0, .ref n26, .ref n27, .ref n28, .ref n29, .ref n30, .long 0, .ref n32, .ref n33, .ref n34, .ref n35])), (n20, .inl (tc 0, 126, .inl (fun _ => 0)))] (fun (v : Option Value) (_ : Unit) => v = some (.int (-1))) (fun (_ : Unit) => []) 0 0 := by
  refine Ct.start (by decide) (Nat.le_of_ble_eq_true rfl) (fun p e s m below meth c A ls hx hb hr hlk hin hml hown hts hK hX hP hD hA hl hS => ?_)
  have hl : lv_has ls 4 [(0, .ref h0), (1, .int x1), (2, .int x2)] := hl
  refine lv_aload_n hx hb dX12_change_0 rfl (lv_at hl 0 rfl) ?_
  refine lv_iload_n hx hb dX12_change_1 rfl (lv_at hl 1 rfl) ?_
  refine cV (a := h0) (As := [.int x1]) (rest := []) (wr := []) ⟨hx, hb, hml, hown, hts⟩ hK hX hA (ct_X12_isClock l D tc sk h0 n0 n3 n4 n5 n6 n7 n15 n17 n19 n20 n24 n26 n27 n28 n29 n30 n32 n33 n34 n35 x1) k_1403 k_1400 k_1402 k_64 k_106 pl_X12_isClock ⟨Nat.le_of_ble_eq_true rfl, Nat.le_of_ble_eq_true rfl⟩ rfl rfl (va_recv hK hP (ci := 12) (q0 := 0) rfl rfl) hP hD hS [0, 1] [] rfl rfl rfl rfl rfl (by decide) rfl hl.1 rfl (Nat.le_of_ble_eq_true rfl) dX12_change_2 ⟨Nat.le_of_ble_eq_true rfl, Nat.le_of_ble_eq_true rfl⟩ (fun v_1 u_2 H locs hv_3 hP hD hS => ?_)
  obtain rfl : v_1 = some (.int 0) := hv_3
  refine W.eq (g2 := F0 m 5 ls [.int 0]) rfl ?_
  have hP : va_P D classes [(h0, .inr (12, [.ref n0, .int 0, .int 0, .ref n3, .ref n4, .ref n5, .ref n6, .ref n7, .int 0, .int 0, .int 0, .int 0, .int 0, .int 0, .int 0, .ref n15, .int 0, .ref n17, .int 0, .ref n19, .ref n20, .int (-1), .int 0, .int 0, .ref n24, .int 0, .ref n26, .ref n27, .ref n28, .ref n29, .ref n30, .long 0, .ref n32, .ref n33, .ref n34, .ref n35])), (n20, .inl (tc 0, 126, .inl (fun _ => 0)))] H := hP
  have hD : va_D A [(h0, .inr (12, [.ref n0, .int 0, .int 0, .ref n3, .ref n4, .ref n5, .ref n6, .ref n7, .int 0, .int 0, .int 0, .int 0, .int 0, .int 0, .int 0, .ref n15, .int 0, .ref n17, .int 0, .ref n19, .ref n20, .int (-1), .int 0, .int 0, .ref n24, .int 0, .ref n26, .ref n27, .ref n28, .ref n29, .ref n30, .long 0, .ref n32, .ref n33, .ref n34, .ref n35])), (n20, .inl (tc 0, 126, .inl (fun _ => 0)))] := hD
  refine lv_if_eq (tgt := 33) hx hb dX12_change_5 (by decide) (fun c_4 => ?_) (fun c_4 => absurd c_4 (by decide))
  refine lv_iconst (v := (-1)) hx hb dX12_change_33 (by decide) ?_
  exact retI (v := (-1)) hx hb hr hlk (rfl) hP hD hS () rfl [] rfl rfl dX12_change_34 (Nat.le_of_ble_eq_true rfl) (Nat.le_of_ble_eq_true rfl) rfl
set_option maxHeartbeats 4000000 in
set_option maxRecDepth 100000 in
theorem ct_X12_ahead (l : Launch) (D : va_G) (tc : Nat → ClassId) (sk : (Nat → Nat) × (Nat → Nat)) (h0 : Nat) (n0 : Nat) (n3 : Nat) (n4 : Nat) (n5 : Nat) (n6 : Nat) (n7 : Nat) (n15 : Nat) (n17 : Nat) (n19 : Nat) (n20 : Nat) (n24 : Nat) (n26 : Nat) (n27 : Nat) (n28 : Nat) (n29 : Nat) (n30 : Nat) (n32 : Nat) (n33 : Nat) (n34 : Nat) (n35 : Nat) (x1 : Int32) (x2 : Int32) (x3 : Int32)  : Ct l yX12_ahead cX12_ahead 5 (some .int) { frames := 1, cells := 0, slots := 0, locals := 20 } D tc sk [.ref h0, .int x1, .int x2, .int x3] [(h0, .inr (12, [.ref n0, .int 0, .int 0, .ref n3, .ref n4, .ref n5, .ref n6, .ref n7, .int 0, .int 0, .int 0, .int 0, .int 0, .int 0, .int 0, .ref n15, .int 0, .ref n17, .int 0, .ref n19, .ref n20, .int (-1), .int 0, .int 0, .ref n24, .int 0, .ref n26, .ref n27, .ref n28, .ref n29, .ref n30, .long 0, .ref n32, .ref n33, .ref n34, .ref n35])), (n20, .inl (tc 0, 126, .inl (fun _ => 0)))] (fun (v : Option Value) (_ : Unit) => v = some (.int (-1))) (fun (_ : Unit) => []) 0 0 := by
  refine Ct.start (by decide) (Nat.le_of_ble_eq_true rfl) (fun p e s m below meth c A ls hx hb hr hlk hin hml hown hts hK hX hP hD hA hl hS => ?_)
  have hl : lv_has ls 5 [(0, .ref h0), (1, .int x1), (2, .int x2), (3, .int x3)] := hl
  refine lv_aload_n hx hb dX12_ahead_0 rfl (lv_at hl 0 rfl) ?_
  refine cV (a := h0) (As := []) (rest := []) (wr := []) ⟨hx, hb, hml, hown, hts⟩ hK hX hA (ct_X12_isBook l D tc sk h0 n0 n3 n4 n5 n6 n7 n15 n17 n19 n20 n24 n26 n27 n28 n29 n30 n32 n33 n34 n35) k_1407 k_1404 k_1406 k_65 k_106 pl_X12_isBook ⟨Nat.le_of_ble_eq_true rfl, Nat.le_of_ble_eq_true rfl⟩ rfl rfl (va_recv hK hP (ci := 12) (q0 := 0) rfl rfl) hP hD hS [0, 1] [] rfl rfl rfl rfl rfl (by decide) rfl hl.1 rfl (Nat.le_of_ble_eq_true rfl) dX12_ahead_1 ⟨Nat.le_of_ble_eq_true rfl, Nat.le_of_ble_eq_true rfl⟩ (fun v_1 u_2 H locs hv_3 hP hD hS => ?_)
  obtain rfl : v_1 = some (.int 0) := hv_3
  refine W.eq (g2 := F0 m 4 ls [.int 0]) rfl ?_
  have hP : va_P D classes [(h0, .inr (12, [.ref n0, .int 0, .int 0, .ref n3, .ref n4, .ref n5, .ref n6, .ref n7, .int 0, .int 0, .int 0, .int 0, .int 0, .int 0, .int 0, .ref n15, .int 0, .ref n17, .int 0, .ref n19, .ref n20, .int (-1), .int 0, .int 0, .ref n24, .int 0, .ref n26, .ref n27, .ref n28, .ref n29, .ref n30, .long 0, .ref n32, .ref n33, .ref n34, .ref n35])), (n20, .inl (tc 0, 126, .inl (fun _ => 0)))] H := hP
  have hD : va_D A [(h0, .inr (12, [.ref n0, .int 0, .int 0, .ref n3, .ref n4, .ref n5, .ref n6, .ref n7, .int 0, .int 0, .int 0, .int 0, .int 0, .int 0, .int 0, .ref n15, .int 0, .ref n17, .int 0, .ref n19, .ref n20, .int (-1), .int 0, .int 0, .ref n24, .int 0, .ref n26, .ref n27, .ref n28, .ref n29, .ref n30, .long 0, .ref n32, .ref n33, .ref n34, .ref n35])), (n20, .inl (tc 0, 126, .inl (fun _ => 0)))] := hD
  refine lv_if_eq (tgt := 44) hx hb dX12_ahead_4 (by decide) (fun c_4 => ?_) (fun c_4 => absurd c_4 (by decide))
  refine lv_iconst (v := (-1)) hx hb dX12_ahead_44 (by decide) ?_
  exact retI (v := (-1)) hx hb hr hlk (rfl) hP hD hS () rfl [] rfl rfl dX12_ahead_45 (Nat.le_of_ble_eq_true rfl) (Nat.le_of_ble_eq_true rfl) rfl
set_option maxHeartbeats 4000000 in
set_option maxRecDepth 100000 in
theorem ct_X12_buys (l : Launch) (D : va_G) (tc : Nat → ClassId) (sk : (Nat → Nat) × (Nat → Nat)) (h0 : Nat) (n0 : Nat) (n3 : Nat) (n4 : Nat) (n5 : Nat) (n6 : Nat) (n7 : Nat) (n15 : Nat) (n17 : Nat) (n19 : Nat) (n20 : Nat) (n24 : Nat) (n26 : Nat) (n27 : Nat) (n28 : Nat) (n29 : Nat) (n30 : Nat) (n32 : Nat) (n33 : Nat) (n34 : Nat) (n35 : Nat) (x1 : Int32)  : Ct l yX12_buys cX12_buys 2 (some .int) { frames := 1, cells := 0, slots := 0, locals := 21 } D tc sk [.ref h0, .int x1] [(h0, .inr (12, [.ref n0, .int 0, .int 0, .ref n3, .ref n4, .ref n5, .ref n6, .ref n7, .int 0, .int 0, .int 0, .int 0, .int 0, .int 0, .int 0, .ref n15, .int 0, .ref n17, .int 0, .ref n19, .ref n20, .int (-1), .int 0, .int 0, .ref n24, .int 0, .ref n26, .ref n27, .ref n28, .ref n29, .ref n30, .long 0, .ref n32, .ref n33, .ref n34, .ref n35])), (n20, .inl (tc 0, 126, .inl (fun _ => 0)))] (fun (v : Option Value) (_ : Unit) => v = some (.int (-1))) (fun (_ : Unit) => []) 0 0 := by
  refine Ct.start (by decide) (Nat.le_of_ble_eq_true rfl) (fun p e s m below meth c A ls hx hb hr hlk hin hml hown hts hK hX hP hD hA hl hS => ?_)
  have hl : lv_has ls 2 [(0, .ref h0), (1, .int x1)] := hl
  refine lv_aload_n hx hb dX12_buys_0 rfl (lv_at hl 0 rfl) ?_
  refine lv_iload_n hx hb dX12_buys_1 rfl (lv_at hl 1 rfl) ?_
  refine cV (a := h0) (As := [.int x1]) (rest := []) (wr := []) ⟨hx, hb, hml, hown, hts⟩ hK hX hA (ct_X12_isBuyer l D tc sk h0 n0 n3 n4 n5 n6 n7 n15 n17 n19 n20 n24 n26 n27 n28 n29 n30 n32 n33 n34 n35 x1) k_1375 k_1372 k_1374 k_58 k_106 pl_X12_isBuyer ⟨Nat.le_of_ble_eq_true rfl, Nat.le_of_ble_eq_true rfl⟩ rfl rfl (va_recv hK hP (ci := 12) (q0 := 0) rfl rfl) hP hD hS [0, 1] [] rfl rfl rfl rfl rfl (by decide) rfl hl.1 rfl (Nat.le_of_ble_eq_true rfl) dX12_buys_2 ⟨Nat.le_of_ble_eq_true rfl, Nat.le_of_ble_eq_true rfl⟩ (fun v_1 u_2 H locs hv_3 hP hD hS => ?_)
  obtain rfl : v_1 = some (.int 0) := hv_3
  refine W.eq (g2 := F0 m 5 ls [.int 0]) rfl ?_
  have hP : va_P D classes [(h0, .inr (12, [.ref n0, .int 0, .int 0, .ref n3, .ref n4, .ref n5, .ref n6, .ref n7, .int 0, .int 0, .int 0, .int 0, .int 0, .int 0, .int 0, .ref n15, .int 0, .ref n17, .int 0, .ref n19, .ref n20, .int (-1), .int 0, .int 0, .ref n24, .int 0, .ref n26, .ref n27, .ref n28, .ref n29, .ref n30, .long 0, .ref n32, .ref n33, .ref n34, .ref n35])), (n20, .inl (tc 0, 126, .inl (fun _ => 0)))] H := hP
  have hD : va_D A [(h0, .inr (12, [.ref n0, .int 0, .int 0, .ref n3, .ref n4, .ref n5, .ref n6, .ref n7, .int 0, .int 0, .int 0, .int 0, .int 0, .int 0, .int 0, .ref n15, .int 0, .ref n17, .int 0, .ref n19, .ref n20, .int (-1), .int 0, .int 0, .ref n24, .int 0, .ref n26, .ref n27, .ref n28, .ref n29, .ref n30, .long 0, .ref n32, .ref n33, .ref n34, .ref n35])), (n20, .inl (tc 0, 126, .inl (fun _ => 0)))] := hD
  refine lv_if_ne (tgt := 10) hx hb dX12_buys_5 (by decide) (fun c_4 => absurd c_4 (by decide)) (fun c_4 => ?_)
  refine lv_iconst (v := (-1)) hx hb dX12_buys_8 (by decide) ?_
  exact retI (v := (-1)) hx hb hr hlk (rfl) hP hD hS () rfl [] rfl rfl dX12_buys_9 (Nat.le_of_ble_eq_true rfl) (Nat.le_of_ble_eq_true rfl) rfl
set_option maxHeartbeats 4000000 in
set_option maxRecDepth 100000 in
theorem ct_X12_empty (l : Launch) (D : va_G) (tc : Nat → ClassId) (sk : (Nat → Nat) × (Nat → Nat)) (h0 : Nat) (n0 : Nat) (n3 : Nat) (n4 : Nat) (n5 : Nat) (n6 : Nat) (n7 : Nat) (n15 : Nat) (n17 : Nat) (n19 : Nat) (n20 : Nat) (n24 : Nat) (n26 : Nat) (n27 : Nat) (n28 : Nat) (n29 : Nat) (n30 : Nat) (n32 : Nat) (n33 : Nat) (n34 : Nat) (n35 : Nat)  : Ct l yX12_empty cX12_empty 3 (some .int) { frames := 1, cells := 0, slots := 0, locals := 20 } D tc sk [.ref h0] [(h0, .inr (12, [.ref n0, .int 0, .int 0, .ref n3, .ref n4, .ref n5, .ref n6, .ref n7, .int 0, .int 0, .int 0, .int 0, .int 0, .int 0, .int 0, .ref n15, .int 0, .ref n17, .int 0, .ref n19, .ref n20, .int (-1), .int 0, .int 0, .ref n24, .int 0, .ref n26, .ref n27, .ref n28, .ref n29, .ref n30, .long 0, .ref n32, .ref n33, .ref n34, .ref n35])), (n20, .inl (tc 0, 126, .inl (fun _ => 0)))] (fun (v : Option Value) (_ : Unit) => v = some (.int (-1))) (fun (_ : Unit) => []) 0 0 := by
  refine Ct.start (by decide) (Nat.le_of_ble_eq_true rfl) (fun p e s m below meth c A ls hx hb hr hlk hin hml hown hts hK hX hP hD hA hl hS => ?_)
  have hl : lv_has ls 3 [(0, .ref h0)] := hl
  refine lv_aload_n hx hb dX12_empty_0 rfl (lv_at hl 0 rfl) ?_
  refine cV (a := h0) (As := []) (rest := []) (wr := []) ⟨hx, hb, hml, hown, hts⟩ hK hX hA (ct_X12_isBook l D tc sk h0 n0 n3 n4 n5 n6 n7 n15 n17 n19 n20 n24 n26 n27 n28 n29 n30 n32 n33 n34 n35) k_1407 k_1404 k_1406 k_65 k_106 pl_X12_isBook ⟨Nat.le_of_ble_eq_true rfl, Nat.le_of_ble_eq_true rfl⟩ rfl rfl (va_recv hK hP (ci := 12) (q0 := 0) rfl rfl) hP hD hS [0, 1] [] rfl rfl rfl rfl rfl (by decide) rfl hl.1 rfl (Nat.le_of_ble_eq_true rfl) dX12_empty_1 ⟨Nat.le_of_ble_eq_true rfl, Nat.le_of_ble_eq_true rfl⟩ (fun v_1 u_2 H locs hv_3 hP hD hS => ?_)
  obtain rfl : v_1 = some (.int 0) := hv_3
  refine W.eq (g2 := F0 m 4 ls [.int 0]) rfl ?_
  have hP : va_P D classes [(h0, .inr (12, [.ref n0, .int 0, .int 0, .ref n3, .ref n4, .ref n5, .ref n6, .ref n7, .int 0, .int 0, .int 0, .int 0, .int 0, .int 0, .int 0, .ref n15, .int 0, .ref n17, .int 0, .ref n19, .ref n20, .int (-1), .int 0, .int 0, .ref n24, .int 0, .ref n26, .ref n27, .ref n28, .ref n29, .ref n30, .long 0, .ref n32, .ref n33, .ref n34, .ref n35])), (n20, .inl (tc 0, 126, .inl (fun _ => 0)))] H := hP
  have hD : va_D A [(h0, .inr (12, [.ref n0, .int 0, .int 0, .ref n3, .ref n4, .ref n5, .ref n6, .ref n7, .int 0, .int 0, .int 0, .int 0, .int 0, .int 0, .int 0, .ref n15, .int 0, .ref n17, .int 0, .ref n19, .ref n20, .int (-1), .int 0, .int 0, .ref n24, .int 0, .ref n26, .ref n27, .ref n28, .ref n29, .ref n30, .long 0, .ref n32, .ref n33, .ref n34, .ref n35])), (n20, .inl (tc 0, 126, .inl (fun _ => 0)))] := hD
  refine lv_if_ne (tgt := 9) hx hb dX12_empty_4 (by decide) (fun c_4 => absurd c_4 (by decide)) (fun c_4 => ?_)
  refine lv_iconst (v := (-1)) hx hb dX12_empty_7 (by decide) ?_
  exact retI (v := (-1)) hx hb hr hlk (rfl) hP hD hS () rfl [] rfl rfl dX12_empty_8 (Nat.le_of_ble_eq_true rfl) (Nat.le_of_ble_eq_true rfl) rfl
set_option maxHeartbeats 4000000 in
set_option maxRecDepth 100000 in
theorem ct_X12_tells (l : Launch) (D : va_G) (tc : Nat → ClassId) (sk : (Nat → Nat) × (Nat → Nat)) (h0 : Nat) (n0 : Nat) (n3 : Nat) (n4 : Nat) (n5 : Nat) (n6 : Nat) (n7 : Nat) (n15 : Nat) (n17 : Nat) (n19 : Nat) (n20 : Nat) (n24 : Nat) (n26 : Nat) (n27 : Nat) (n28 : Nat) (n29 : Nat) (n30 : Nat) (n32 : Nat) (n33 : Nat) (n34 : Nat) (n35 : Nat) (x1 : Int32) (x2 : Int32)  : Ct l yX12_tells cX12_tells 8 (some .int) { frames := 1, cells := 0, slots := 0, locals := 20 } D tc sk [.ref h0, .int x1, .int x2] [(h0, .inr (12, [.ref n0, .int 0, .int 0, .ref n3, .ref n4, .ref n5, .ref n6, .ref n7, .int 0, .int 0, .int 0, .int 0, .int 0, .int 0, .int 0, .ref n15, .int 0, .ref n17, .int 0, .ref n19, .ref n20, .int (-1), .int 0, .int 0, .ref n24, .int 0, .ref n26, .ref n27, .ref n28, .ref n29, .ref n30, .long 0, .ref n32, .ref n33, .ref n34, .ref n35])), (n20, .inl (tc 0, 126, .inl (fun _ => 0)))] (fun (v : Option Value) (_ : Unit) => v = some (.int (-1))) (fun (_ : Unit) => []) 0 0 := by
  refine Ct.start (by decide) (Nat.le_of_ble_eq_true rfl) (fun p e s m below meth c A ls hx hb hr hlk hin hml hown hts hK hX hP hD hA hl hS => ?_)
  have hl : lv_has ls 8 [(0, .ref h0), (1, .int x1), (2, .int x2)] := hl
  refine lv_aload_n hx hb dX12_tells_0 rfl (lv_at hl 0 rfl) ?_
  refine cV (a := h0) (As := []) (rest := []) (wr := []) ⟨hx, hb, hml, hown, hts⟩ hK hX hA (ct_X12_isBook l D tc sk h0 n0 n3 n4 n5 n6 n7 n15 n17 n19 n20 n24 n26 n27 n28 n29 n30 n32 n33 n34 n35) k_1407 k_1404 k_1406 k_65 k_106 pl_X12_isBook ⟨Nat.le_of_ble_eq_true rfl, Nat.le_of_ble_eq_true rfl⟩ rfl rfl (va_recv hK hP (ci := 12) (q0 := 0) rfl rfl) hP hD hS [0, 1] [] rfl rfl rfl rfl rfl (by decide) rfl hl.1 rfl (Nat.le_of_ble_eq_true rfl) dX12_tells_1 ⟨Nat.le_of_ble_eq_true rfl, Nat.le_of_ble_eq_true rfl⟩ (fun v_1 u_2 H locs hv_3 hP hD hS => ?_)
  obtain rfl : v_1 = some (.int 0) := hv_3
  refine W.eq (g2 := F0 m 4 ls [.int 0]) rfl ?_
  have hP : va_P D classes [(h0, .inr (12, [.ref n0, .int 0, .int 0, .ref n3, .ref n4, .ref n5, .ref n6, .ref n7, .int 0, .int 0, .int 0, .int 0, .int 0, .int 0, .int 0, .ref n15, .int 0, .ref n17, .int 0, .ref n19, .ref n20, .int (-1), .int 0, .int 0, .ref n24, .int 0, .ref n26, .ref n27, .ref n28, .ref n29, .ref n30, .long 0, .ref n32, .ref n33, .ref n34, .ref n35])), (n20, .inl (tc 0, 126, .inl (fun _ => 0)))] H := hP
  have hD : va_D A [(h0, .inr (12, [.ref n0, .int 0, .int 0, .ref n3, .ref n4, .ref n5, .ref n6, .ref n7, .int 0, .int 0, .int 0, .int 0, .int 0, .int 0, .int 0, .ref n15, .int 0, .ref n17, .int 0, .ref n19, .ref n20, .int (-1), .int 0, .int 0, .ref n24, .int 0, .ref n26, .ref n27, .ref n28, .ref n29, .ref n30, .long 0, .ref n32, .ref n33, .ref n34, .ref n35])), (n20, .inl (tc 0, 126, .inl (fun _ => 0)))] := hD
  refine lv_if_eq (tgt := 29) hx hb dX12_tells_4 (by decide) (fun c_4 => ?_) (fun c_4 => absurd c_4 (by decide))
  refine lv_iconst (v := (-1)) hx hb dX12_tells_29 (by decide) ?_
  exact retI (v := (-1)) hx hb hr hlk (rfl) hP hD hS () rfl [] rfl rfl dX12_tells_30 (Nat.le_of_ble_eq_true rfl) (Nat.le_of_ble_eq_true rfl) rfl
set_option maxHeartbeats 4000000 in
set_option maxRecDepth 100000 in
theorem ct_X12_guard (l : Launch) (D : va_G) (tc : Nat → ClassId) (sk : (Nat → Nat) × (Nat → Nat)) (h0 : Nat) (n0 : Nat) (n3 : Nat) (n4 : Nat) (n5 : Nat) (n6 : Nat) (n7 : Nat) (n15 : Nat) (n17 : Nat) (n19 : Nat) (n20 : Nat) (n24 : Nat) (n26 : Nat) (n27 : Nat) (n28 : Nat) (n29 : Nat) (n30 : Nat) (n32 : Nat) (n33 : Nat) (n34 : Nat) (n35 : Nat) (x1 : Int32) (x2 : Int32)  : Ct l yX12_guard cX12_guard 5 (some .int) { frames := 1, cells := 0, slots := 0, locals := 20 } D tc sk [.ref h0, .int x1, .int x2] [(h0, .inr (12, [.ref n0, .int 0, .int 0, .ref n3, .ref n4, .ref n5, .ref n6, .ref n7, .int 0, .int 0, .int 0, .int 0, .int 0, .int 0, .int 0, .ref n15, .int 0, .ref n17, .int 0, .ref n19, .ref n20, .int (-1), .int 0, .int 0, .ref n24, .int 0, .ref n26, .ref n27, .ref n28, .ref n29, .ref n30, .long 0, .ref n32, .ref n33, .ref n34, .ref n35])), (n20, .inl (tc 0, 126, .inl (fun _ => 0)))] (fun (v : Option Value) (_ : Unit) => v = some (.int (-1))) (fun (_ : Unit) => []) 0 0 := by
  refine Ct.start (by decide) (Nat.le_of_ble_eq_true rfl) (fun p e s m below meth c A ls hx hb hr hlk hin hml hown hts hK hX hP hD hA hl hS => ?_)
  have hl : lv_has ls 5 [(0, .ref h0), (1, .int x1), (2, .int x2)] := hl
  refine lv_aload_n hx hb dX12_guard_0 rfl (lv_at hl 0 rfl) ?_
  refine cV (a := h0) (As := []) (rest := []) (wr := []) ⟨hx, hb, hml, hown, hts⟩ hK hX hA (ct_X12_isBook l D tc sk h0 n0 n3 n4 n5 n6 n7 n15 n17 n19 n20 n24 n26 n27 n28 n29 n30 n32 n33 n34 n35) k_1407 k_1404 k_1406 k_65 k_106 pl_X12_isBook ⟨Nat.le_of_ble_eq_true rfl, Nat.le_of_ble_eq_true rfl⟩ rfl rfl (va_recv hK hP (ci := 12) (q0 := 0) rfl rfl) hP hD hS [0, 1] [] rfl rfl rfl rfl rfl (by decide) rfl hl.1 rfl (Nat.le_of_ble_eq_true rfl) dX12_guard_1 ⟨Nat.le_of_ble_eq_true rfl, Nat.le_of_ble_eq_true rfl⟩ (fun v_1 u_2 H locs hv_3 hP hD hS => ?_)
  obtain rfl : v_1 = some (.int 0) := hv_3
  refine W.eq (g2 := F0 m 4 ls [.int 0]) rfl ?_
  have hP : va_P D classes [(h0, .inr (12, [.ref n0, .int 0, .int 0, .ref n3, .ref n4, .ref n5, .ref n6, .ref n7, .int 0, .int 0, .int 0, .int 0, .int 0, .int 0, .int 0, .ref n15, .int 0, .ref n17, .int 0, .ref n19, .ref n20, .int (-1), .int 0, .int 0, .ref n24, .int 0, .ref n26, .ref n27, .ref n28, .ref n29, .ref n30, .long 0, .ref n32, .ref n33, .ref n34, .ref n35])), (n20, .inl (tc 0, 126, .inl (fun _ => 0)))] H := hP
  have hD : va_D A [(h0, .inr (12, [.ref n0, .int 0, .int 0, .ref n3, .ref n4, .ref n5, .ref n6, .ref n7, .int 0, .int 0, .int 0, .int 0, .int 0, .int 0, .int 0, .ref n15, .int 0, .ref n17, .int 0, .ref n19, .ref n20, .int (-1), .int 0, .int 0, .ref n24, .int 0, .ref n26, .ref n27, .ref n28, .ref n29, .ref n30, .long 0, .ref n32, .ref n33, .ref n34, .ref n35])), (n20, .inl (tc 0, 126, .inl (fun _ => 0)))] := hD
  refine lv_if_eq (tgt := 29) hx hb dX12_guard_4 (by decide) (fun c_4 => ?_) (fun c_4 => absurd c_4 (by decide))
  refine lv_iconst (v := (-1)) hx hb dX12_guard_29 (by decide) ?_
  exact retI (v := (-1)) hx hb hr hlk (rfl) hP hD hS () rfl [] rfl rfl dX12_guard_30 (Nat.le_of_ble_eq_true rfl) (Nat.le_of_ble_eq_true rfl) rfl
set_option maxHeartbeats 4000000 in
set_option maxRecDepth 100000 in
theorem ct_X12_best (l : Launch) (D : va_G) (tc : Nat → ClassId) (sk : (Nat → Nat) × (Nat → Nat)) (h0 : Nat) (n0 : Nat) (n3 : Nat) (n4 : Nat) (n5 : Nat) (n6 : Nat) (n7 : Nat) (n15 : Nat) (n17 : Nat) (n19 : Nat) (n20 : Nat) (n24 : Nat) (n26 : Nat) (n27 : Nat) (n28 : Nat) (n29 : Nat) (n30 : Nat) (n32 : Nat) (n33 : Nat) (n34 : Nat) (n35 : Nat) (x1 : Int32) (x2 : Int32)  : Ct l yX12_best cX12_best 7 (some .int) { frames := 1, cells := 0, slots := 0, locals := 20 } D tc sk [.ref h0, .int x1, .int x2] [(h0, .inr (12, [.ref n0, .int 0, .int 0, .ref n3, .ref n4, .ref n5, .ref n6, .ref n7, .int 0, .int 0, .int 0, .int 0, .int 0, .int 0, .int 0, .ref n15, .int 0, .ref n17, .int 0, .ref n19, .ref n20, .int (-1), .int 0, .int 0, .ref n24, .int 0, .ref n26, .ref n27, .ref n28, .ref n29, .ref n30, .long 0, .ref n32, .ref n33, .ref n34, .ref n35])), (n20, .inl (tc 0, 126, .inl (fun _ => 0)))] (fun (v : Option Value) (_ : Unit) => v = some (.int (-2))) (fun (_ : Unit) => []) 0 0 := by
  refine Ct.start (by decide) (Nat.le_of_ble_eq_true rfl) (fun p e s m below meth c A ls hx hb hr hlk hin hml hown hts hK hX hP hD hA hl hS => ?_)
  have hl : lv_has ls 7 [(0, .ref h0), (1, .int x1), (2, .int x2)] := hl
  refine lv_aload_n hx hb dX12_best_0 rfl (lv_at hl 0 rfl) ?_
  refine cV (a := h0) (As := []) (rest := []) (wr := []) ⟨hx, hb, hml, hown, hts⟩ hK hX hA (ct_X12_isBook l D tc sk h0 n0 n3 n4 n5 n6 n7 n15 n17 n19 n20 n24 n26 n27 n28 n29 n30 n32 n33 n34 n35) k_1407 k_1404 k_1406 k_65 k_106 pl_X12_isBook ⟨Nat.le_of_ble_eq_true rfl, Nat.le_of_ble_eq_true rfl⟩ rfl rfl (va_recv hK hP (ci := 12) (q0 := 0) rfl rfl) hP hD hS [0, 1] [] rfl rfl rfl rfl rfl (by decide) rfl hl.1 rfl (Nat.le_of_ble_eq_true rfl) dX12_best_1 ⟨Nat.le_of_ble_eq_true rfl, Nat.le_of_ble_eq_true rfl⟩ (fun v_1 u_2 H locs hv_3 hP hD hS => ?_)
  obtain rfl : v_1 = some (.int 0) := hv_3
  refine W.eq (g2 := F0 m 4 ls [.int 0]) rfl ?_
  have hP : va_P D classes [(h0, .inr (12, [.ref n0, .int 0, .int 0, .ref n3, .ref n4, .ref n5, .ref n6, .ref n7, .int 0, .int 0, .int 0, .int 0, .int 0, .int 0, .int 0, .ref n15, .int 0, .ref n17, .int 0, .ref n19, .ref n20, .int (-1), .int 0, .int 0, .ref n24, .int 0, .ref n26, .ref n27, .ref n28, .ref n29, .ref n30, .long 0, .ref n32, .ref n33, .ref n34, .ref n35])), (n20, .inl (tc 0, 126, .inl (fun _ => 0)))] H := hP
  have hD : va_D A [(h0, .inr (12, [.ref n0, .int 0, .int 0, .ref n3, .ref n4, .ref n5, .ref n6, .ref n7, .int 0, .int 0, .int 0, .int 0, .int 0, .int 0, .int 0, .ref n15, .int 0, .ref n17, .int 0, .ref n19, .ref n20, .int (-1), .int 0, .int 0, .ref n24, .int 0, .ref n26, .ref n27, .ref n28, .ref n29, .ref n30, .long 0, .ref n32, .ref n33, .ref n34, .ref n35])), (n20, .inl (tc 0, 126, .inl (fun _ => 0)))] := hD
  refine lv_if_eq (tgt := 29) hx hb dX12_best_4 (by decide) (fun c_4 => ?_) (fun c_4 => absurd c_4 (by decide))
  refine lv_bipush (v := (-2)) hx hb dX12_best_29 (by decide) ?_
  exact retI (v := (-2)) hx hb hr hlk (rfl) hP hD hS () rfl [] rfl rfl dX12_best_31 (Nat.le_of_ble_eq_true rfl) (Nat.le_of_ble_eq_true rfl) rfl
set_option maxHeartbeats 4000000 in
set_option maxRecDepth 100000 in
theorem ct_X12_least (l : Launch) (D : va_G) (tc : Nat → ClassId) (sk : (Nat → Nat) × (Nat → Nat)) (h0 : Nat) (n0 : Nat) (n3 : Nat) (n4 : Nat) (n5 : Nat) (n6 : Nat) (n7 : Nat) (n15 : Nat) (n17 : Nat) (n19 : Nat) (n20 : Nat) (n24 : Nat) (n26 : Nat) (n27 : Nat) (n28 : Nat) (n29 : Nat) (n30 : Nat) (n32 : Nat) (n33 : Nat) (n34 : Nat) (n35 : Nat) (x1 : Int32) (x2 : Int32)  : Ct l yX12_least cX12_least 5 (some .int) { frames := 1, cells := 0, slots := 0, locals := 21 } D tc sk [.ref h0, .int x1, .int x2] [(h0, .inr (12, [.ref n0, .int 0, .int 0, .ref n3, .ref n4, .ref n5, .ref n6, .ref n7, .int 0, .int 0, .int 0, .int 0, .int 0, .int 0, .int 0, .ref n15, .int 0, .ref n17, .int 0, .ref n19, .ref n20, .int (-1), .int 0, .int 0, .ref n24, .int 0, .ref n26, .ref n27, .ref n28, .ref n29, .ref n30, .long 0, .ref n32, .ref n33, .ref n34, .ref n35])), (n20, .inl (tc 0, 126, .inl (fun _ => 0)))] (fun (v : Option Value) (_ : Unit) => v = some (.int (-1))) (fun (_ : Unit) => []) 0 0 := by
  refine Ct.start (by decide) (Nat.le_of_ble_eq_true rfl) (fun p e s m below meth c A ls hx hb hr hlk hin hml hown hts hK hX hP hD hA hl hS => ?_)
  have hl : lv_has ls 5 [(0, .ref h0), (1, .int x1), (2, .int x2)] := hl
  refine lv_aload_n hx hb dX12_least_0 rfl (lv_at hl 0 rfl) ?_
  refine lv_iload_n hx hb dX12_least_1 rfl (lv_at hl 1 rfl) ?_
  refine cV (a := h0) (As := [.int x1]) (rest := []) (wr := []) ⟨hx, hb, hml, hown, hts⟩ hK hX hA (ct_X12_isBuyer l D tc sk h0 n0 n3 n4 n5 n6 n7 n15 n17 n19 n20 n24 n26 n27 n28 n29 n30 n32 n33 n34 n35 x1) k_1375 k_1372 k_1374 k_58 k_106 pl_X12_isBuyer ⟨Nat.le_of_ble_eq_true rfl, Nat.le_of_ble_eq_true rfl⟩ rfl rfl (va_recv hK hP (ci := 12) (q0 := 0) rfl rfl) hP hD hS [0, 1] [] rfl rfl rfl rfl rfl (by decide) rfl hl.1 rfl (Nat.le_of_ble_eq_true rfl) dX12_least_2 ⟨Nat.le_of_ble_eq_true rfl, Nat.le_of_ble_eq_true rfl⟩ (fun v_1 u_2 H locs hv_3 hP hD hS => ?_)
  obtain rfl : v_1 = some (.int 0) := hv_3
  refine W.eq (g2 := F0 m 5 ls [.int 0]) rfl ?_
  have hP : va_P D classes [(h0, .inr (12, [.ref n0, .int 0, .int 0, .ref n3, .ref n4, .ref n5, .ref n6, .ref n7, .int 0, .int 0, .int 0, .int 0, .int 0, .int 0, .int 0, .ref n15, .int 0, .ref n17, .int 0, .ref n19, .ref n20, .int (-1), .int 0, .int 0, .ref n24, .int 0, .ref n26, .ref n27, .ref n28, .ref n29, .ref n30, .long 0, .ref n32, .ref n33, .ref n34, .ref n35])), (n20, .inl (tc 0, 126, .inl (fun _ => 0)))] H := hP
  have hD : va_D A [(h0, .inr (12, [.ref n0, .int 0, .int 0, .ref n3, .ref n4, .ref n5, .ref n6, .ref n7, .int 0, .int 0, .int 0, .int 0, .int 0, .int 0, .int 0, .ref n15, .int 0, .ref n17, .int 0, .ref n19, .ref n20, .int (-1), .int 0, .int 0, .ref n24, .int 0, .ref n26, .ref n27, .ref n28, .ref n29, .ref n30, .long 0, .ref n32, .ref n33, .ref n34, .ref n35])), (n20, .inl (tc 0, 126, .inl (fun _ => 0)))] := hD
  refine lv_if_eq (tgt := 20) hx hb dX12_least_5 (by decide) (fun c_4 => ?_) (fun c_4 => absurd c_4 (by decide))
  refine lv_iconst (v := (-1)) hx hb dX12_least_20 (by decide) ?_
  exact retI (v := (-1)) hx hb hr hlk (rfl) hP hD hS () rfl [] rfl rfl dX12_least_21 (Nat.le_of_ble_eq_true rfl) (Nat.le_of_ble_eq_true rfl) rfl
set_option maxHeartbeats 4000000 in
set_option maxRecDepth 100000 in
theorem ct_X12_soothe (l : Launch) (D : va_G) (tc : Nat → ClassId) (sk : (Nat → Nat) × (Nat → Nat)) (h0 : Nat) (n0 : Nat) (n3 : Nat) (n4 : Nat) (n5 : Nat) (n6 : Nat) (n7 : Nat) (n15 : Nat) (n17 : Nat) (n19 : Nat) (n20 : Nat) (n24 : Nat) (n26 : Nat) (n27 : Nat) (n28 : Nat) (n29 : Nat) (n30 : Nat) (n32 : Nat) (n33 : Nat) (n34 : Nat) (n35 : Nat) (x1 : Int32) (x2 : Int32)  : Ct l yX12_soothe cX12_soothe 7 (some .int) { frames := 1, cells := 0, slots := 0, locals := 20 } D tc sk [.ref h0, .int x1, .int x2] [(h0, .inr (12, [.ref n0, .int 0, .int 0, .ref n3, .ref n4, .ref n5, .ref n6, .ref n7, .int 0, .int 0, .int 0, .int 0, .int 0, .int 0, .int 0, .ref n15, .int 0, .ref n17, .int 0, .ref n19, .ref n20, .int (-1), .int 0, .int 0, .ref n24, .int 0, .ref n26, .ref n27, .ref n28, .ref n29, .ref n30, .long 0, .ref n32, .ref n33, .ref n34, .ref n35])), (n20, .inl (tc 0, 126, .inl (fun _ => 0)))] (fun (v : Option Value) (_ : Unit) => v = some (.int (-2))) (fun (_ : Unit) => []) 0 0 := by
  refine Ct.start (by decide) (Nat.le_of_ble_eq_true rfl) (fun p e s m below meth c A ls hx hb hr hlk hin hml hown hts hK hX hP hD hA hl hS => ?_)
  have hl : lv_has ls 7 [(0, .ref h0), (1, .int x1), (2, .int x2)] := hl
  refine lv_aload_n hx hb dX12_soothe_0 rfl (lv_at hl 0 rfl) ?_
  refine cV (a := h0) (As := []) (rest := []) (wr := []) ⟨hx, hb, hml, hown, hts⟩ hK hX hA (ct_X12_isBook l D tc sk h0 n0 n3 n4 n5 n6 n7 n15 n17 n19 n20 n24 n26 n27 n28 n29 n30 n32 n33 n34 n35) k_1407 k_1404 k_1406 k_65 k_106 pl_X12_isBook ⟨Nat.le_of_ble_eq_true rfl, Nat.le_of_ble_eq_true rfl⟩ rfl rfl (va_recv hK hP (ci := 12) (q0 := 0) rfl rfl) hP hD hS [0, 1] [] rfl rfl rfl rfl rfl (by decide) rfl hl.1 rfl (Nat.le_of_ble_eq_true rfl) dX12_soothe_1 ⟨Nat.le_of_ble_eq_true rfl, Nat.le_of_ble_eq_true rfl⟩ (fun v_1 u_2 H locs hv_3 hP hD hS => ?_)
  obtain rfl : v_1 = some (.int 0) := hv_3
  refine W.eq (g2 := F0 m 4 ls [.int 0]) rfl ?_
  have hP : va_P D classes [(h0, .inr (12, [.ref n0, .int 0, .int 0, .ref n3, .ref n4, .ref n5, .ref n6, .ref n7, .int 0, .int 0, .int 0, .int 0, .int 0, .int 0, .int 0, .ref n15, .int 0, .ref n17, .int 0, .ref n19, .ref n20, .int (-1), .int 0, .int 0, .ref n24, .int 0, .ref n26, .ref n27, .ref n28, .ref n29, .ref n30, .long 0, .ref n32, .ref n33, .ref n34, .ref n35])), (n20, .inl (tc 0, 126, .inl (fun _ => 0)))] H := hP
  have hD : va_D A [(h0, .inr (12, [.ref n0, .int 0, .int 0, .ref n3, .ref n4, .ref n5, .ref n6, .ref n7, .int 0, .int 0, .int 0, .int 0, .int 0, .int 0, .int 0, .ref n15, .int 0, .ref n17, .int 0, .ref n19, .ref n20, .int (-1), .int 0, .int 0, .ref n24, .int 0, .ref n26, .ref n27, .ref n28, .ref n29, .ref n30, .long 0, .ref n32, .ref n33, .ref n34, .ref n35])), (n20, .inl (tc 0, 126, .inl (fun _ => 0)))] := hD
  refine lv_if_eq (tgt := 29) hx hb dX12_soothe_4 (by decide) (fun c_4 => ?_) (fun c_4 => absurd c_4 (by decide))
  refine lv_bipush (v := (-2)) hx hb dX12_soothe_29 (by decide) ?_
  exact retI (v := (-2)) hx hb hr hlk (rfl) hP hD hS () rfl [] rfl rfl dX12_soothe_31 (Nat.le_of_ble_eq_true rfl) (Nat.le_of_ble_eq_true rfl) rfl
set_option maxHeartbeats 4000000 in
set_option maxRecDepth 100000 in
theorem ct_X12_page (l : Launch) (D : va_G) (tc : Nat → ClassId) (sk : (Nat → Nat) × (Nat → Nat)) (h0 : Nat) (n0 : Nat) (n3 : Nat) (n4 : Nat) (n5 : Nat) (n6 : Nat) (n7 : Nat) (n15 : Nat) (n17 : Nat) (n19 : Nat) (n20 : Nat) (n24 : Nat) (n26 : Nat) (n27 : Nat) (n28 : Nat) (n29 : Nat) (n30 : Nat) (n32 : Nat) (n33 : Nat) (n34 : Nat) (n35 : Nat) (x1 : Int32) (x2 : Int32)  : Ct l yX12_page cX12_page 7 (some .int) { frames := 1, cells := 0, slots := 0, locals := 20 } D tc sk [.ref h0, .int x1, .int x2] [(h0, .inr (12, [.ref n0, .int 0, .int 0, .ref n3, .ref n4, .ref n5, .ref n6, .ref n7, .int 0, .int 0, .int 0, .int 0, .int 0, .int 0, .int 0, .ref n15, .int 0, .ref n17, .int 0, .ref n19, .ref n20, .int (-1), .int 0, .int 0, .ref n24, .int 0, .ref n26, .ref n27, .ref n28, .ref n29, .ref n30, .long 0, .ref n32, .ref n33, .ref n34, .ref n35])), (n20, .inl (tc 0, 126, .inl (fun _ => 0)))] (fun (v : Option Value) (_ : Unit) => v = some (.int (-1))) (fun (_ : Unit) => []) 0 0 := by
  refine Ct.start (by decide) (Nat.le_of_ble_eq_true rfl) (fun p e s m below meth c A ls hx hb hr hlk hin hml hown hts hK hX hP hD hA hl hS => ?_)
  have hl : lv_has ls 7 [(0, .ref h0), (1, .int x1), (2, .int x2)] := hl
  refine lv_aload_n hx hb dX12_page_0 rfl (lv_at hl 0 rfl) ?_
  refine cV (a := h0) (As := []) (rest := []) (wr := []) ⟨hx, hb, hml, hown, hts⟩ hK hX hA (ct_X12_isBook l D tc sk h0 n0 n3 n4 n5 n6 n7 n15 n17 n19 n20 n24 n26 n27 n28 n29 n30 n32 n33 n34 n35) k_1407 k_1404 k_1406 k_65 k_106 pl_X12_isBook ⟨Nat.le_of_ble_eq_true rfl, Nat.le_of_ble_eq_true rfl⟩ rfl rfl (va_recv hK hP (ci := 12) (q0 := 0) rfl rfl) hP hD hS [0, 1] [] rfl rfl rfl rfl rfl (by decide) rfl hl.1 rfl (Nat.le_of_ble_eq_true rfl) dX12_page_1 ⟨Nat.le_of_ble_eq_true rfl, Nat.le_of_ble_eq_true rfl⟩ (fun v_1 u_2 H locs hv_3 hP hD hS => ?_)
  obtain rfl : v_1 = some (.int 0) := hv_3
  refine W.eq (g2 := F0 m 4 ls [.int 0]) rfl ?_
  have hP : va_P D classes [(h0, .inr (12, [.ref n0, .int 0, .int 0, .ref n3, .ref n4, .ref n5, .ref n6, .ref n7, .int 0, .int 0, .int 0, .int 0, .int 0, .int 0, .int 0, .ref n15, .int 0, .ref n17, .int 0, .ref n19, .ref n20, .int (-1), .int 0, .int 0, .ref n24, .int 0, .ref n26, .ref n27, .ref n28, .ref n29, .ref n30, .long 0, .ref n32, .ref n33, .ref n34, .ref n35])), (n20, .inl (tc 0, 126, .inl (fun _ => 0)))] H := hP
  have hD : va_D A [(h0, .inr (12, [.ref n0, .int 0, .int 0, .ref n3, .ref n4, .ref n5, .ref n6, .ref n7, .int 0, .int 0, .int 0, .int 0, .int 0, .int 0, .int 0, .ref n15, .int 0, .ref n17, .int 0, .ref n19, .ref n20, .int (-1), .int 0, .int 0, .ref n24, .int 0, .ref n26, .ref n27, .ref n28, .ref n29, .ref n30, .long 0, .ref n32, .ref n33, .ref n34, .ref n35])), (n20, .inl (tc 0, 126, .inl (fun _ => 0)))] := hD
  refine lv_if_eq (tgt := 31) hx hb dX12_page_4 (by decide) (fun c_4 => ?_) (fun c_4 => absurd c_4 (by decide))
  refine lv_iconst (v := (-1)) hx hb dX12_page_31 (by decide) ?_
  exact retI (v := (-1)) hx hb hr hlk (rfl) hP hD hS () rfl [] rfl rfl dX12_page_32 (Nat.le_of_ble_eq_true rfl) (Nat.le_of_ble_eq_true rfl) rfl
set_option maxHeartbeats 4000000 in
set_option maxRecDepth 100000 in
theorem ct_X12_rests (l : Launch) (D : va_G) (tc : Nat → ClassId) (sk : (Nat → Nat) × (Nat → Nat)) (h0 : Nat) (n0 : Nat) (n3 : Nat) (n4 : Nat) (n5 : Nat) (n6 : Nat) (n7 : Nat) (n15 : Nat) (n17 : Nat) (n19 : Nat) (n20 : Nat) (n24 : Nat) (n26 : Nat) (n27 : Nat) (n28 : Nat) (n29 : Nat) (n30 : Nat) (n32 : Nat) (n33 : Nat) (n34 : Nat) (n35 : Nat) (x1 : Int32) (x2 : Int32) (x3 : Int32) (x4 : Int32)  : Ct l yX12_rests cX12_rests 12 (some .int) { frames := 1, cells := 0, slots := 0, locals := 21 } D tc sk [.ref h0, .int x1, .int x2, .int x3, .int x4] [(h0, .inr (12, [.ref n0, .int 0, .int 0, .ref n3, .ref n4, .ref n5, .ref n6, .ref n7, .int 0, .int 0, .int 0, .int 0, .int 0, .int 0, .int 0, .ref n15, .int 0, .ref n17, .int 0, .ref n19, .ref n20, .int (-1), .int 0, .int 0, .ref n24, .int 0, .ref n26, .ref n27, .ref n28, .ref n29, .ref n30, .long 0, .ref n32, .ref n33, .ref n34, .ref n35])), (n20, .inl (tc 0, 126, .inl (fun _ => 0)))] (fun (v : Option Value) (_ : Unit) => v = some (.int (-1))) (fun (_ : Unit) => []) 0 0 := by
  refine Ct.start (by decide) (Nat.le_of_ble_eq_true rfl) (fun p e s m below meth c A ls hx hb hr hlk hin hml hown hts hK hX hP hD hA hl hS => ?_)
  have hl : lv_has ls 12 [(0, .ref h0), (1, .int x1), (2, .int x2), (3, .int x3), (4, .int x4)] := hl
  refine lv_aload_n hx hb dX12_rests_0 rfl (lv_at hl 0 rfl) ?_
  refine lv_iload_n hx hb dX12_rests_1 rfl (lv_at hl 1 rfl) ?_
  refine cV (a := h0) (As := [.int x1]) (rest := []) (wr := []) ⟨hx, hb, hml, hown, hts⟩ hK hX hA (ct_X12_isBuyer l D tc sk h0 n0 n3 n4 n5 n6 n7 n15 n17 n19 n20 n24 n26 n27 n28 n29 n30 n32 n33 n34 n35 x1) k_1375 k_1372 k_1374 k_58 k_106 pl_X12_isBuyer ⟨Nat.le_of_ble_eq_true rfl, Nat.le_of_ble_eq_true rfl⟩ rfl rfl (va_recv hK hP (ci := 12) (q0 := 0) rfl rfl) hP hD hS [0, 1] [] rfl rfl rfl rfl rfl (by decide) rfl hl.1 rfl (Nat.le_of_ble_eq_true rfl) dX12_rests_2 ⟨Nat.le_of_ble_eq_true rfl, Nat.le_of_ble_eq_true rfl⟩ (fun v_1 u_2 H locs hv_3 hP hD hS => ?_)
  obtain rfl : v_1 = some (.int 0) := hv_3
  refine W.eq (g2 := F0 m 5 ls [.int 0]) rfl ?_
  have hP : va_P D classes [(h0, .inr (12, [.ref n0, .int 0, .int 0, .ref n3, .ref n4, .ref n5, .ref n6, .ref n7, .int 0, .int 0, .int 0, .int 0, .int 0, .int 0, .int 0, .ref n15, .int 0, .ref n17, .int 0, .ref n19, .ref n20, .int (-1), .int 0, .int 0, .ref n24, .int 0, .ref n26, .ref n27, .ref n28, .ref n29, .ref n30, .long 0, .ref n32, .ref n33, .ref n34, .ref n35])), (n20, .inl (tc 0, 126, .inl (fun _ => 0)))] H := hP
  have hD : va_D A [(h0, .inr (12, [.ref n0, .int 0, .int 0, .ref n3, .ref n4, .ref n5, .ref n6, .ref n7, .int 0, .int 0, .int 0, .int 0, .int 0, .int 0, .int 0, .ref n15, .int 0, .ref n17, .int 0, .ref n19, .ref n20, .int (-1), .int 0, .int 0, .ref n24, .int 0, .ref n26, .ref n27, .ref n28, .ref n29, .ref n30, .long 0, .ref n32, .ref n33, .ref n34, .ref n35])), (n20, .inl (tc 0, 126, .inl (fun _ => 0)))] := hD
  refine lv_if_eq (tgt := 46) hx hb dX12_rests_5 (by decide) (fun c_4 => ?_) (fun c_4 => absurd c_4 (by decide))
  refine lv_iconst (v := (-1)) hx hb dX12_rests_46 (by decide) ?_
  exact retI (v := (-1)) hx hb hr hlk (rfl) hP hD hS () rfl [] rfl rfl dX12_rests_47 (Nat.le_of_ble_eq_true rfl) (Nat.le_of_ble_eq_true rfl) rfl
set_option maxHeartbeats 4000000 in
set_option maxRecDepth 100000 in
theorem ct_X12_ring (l : Launch) (D : va_G) (tc : Nat → ClassId) (sk : (Nat → Nat) × (Nat → Nat)) (h0 : Nat) (n0 : Nat) (n3 : Nat) (n4 : Nat) (n5 : Nat) (n6 : Nat) (n7 : Nat) (n15 : Nat) (n17 : Nat) (n19 : Nat) (n20 : Nat) (n24 : Nat) (n26 : Nat) (n27 : Nat) (n28 : Nat) (n29 : Nat) (n30 : Nat) (n32 : Nat) (n33 : Nat) (n34 : Nat) (n35 : Nat) (x1 : Int32)  : Ct l yX12_ring cX12_ring 4 (some .int) { frames := 1, cells := 0, slots := 0, locals := 20 } D tc sk [.ref h0, .int x1] [(h0, .inr (12, [.ref n0, .int 0, .int 0, .ref n3, .ref n4, .ref n5, .ref n6, .ref n7, .int 0, .int 0, .int 0, .int 0, .int 0, .int 0, .int 0, .ref n15, .int 0, .ref n17, .int 0, .ref n19, .ref n20, .int (-1), .int 0, .int 0, .ref n24, .int 0, .ref n26, .ref n27, .ref n28, .ref n29, .ref n30, .long 0, .ref n32, .ref n33, .ref n34, .ref n35])), (n20, .inl (tc 0, 126, .inl (fun _ => 0)))] (fun (v : Option Value) (_ : Unit) => v = some (.int (-1))) (fun (_ : Unit) => []) 0 0 := by
  refine Ct.start (by decide) (Nat.le_of_ble_eq_true rfl) (fun p e s m below meth c A ls hx hb hr hlk hin hml hown hts hK hX hP hD hA hl hS => ?_)
  have hl : lv_has ls 4 [(0, .ref h0), (1, .int x1)] := hl
  refine lv_aload_n hx hb dX12_ring_0 rfl (lv_at hl 0 rfl) ?_
  refine cV (a := h0) (As := []) (rest := []) (wr := []) ⟨hx, hb, hml, hown, hts⟩ hK hX hA (ct_X12_isBook l D tc sk h0 n0 n3 n4 n5 n6 n7 n15 n17 n19 n20 n24 n26 n27 n28 n29 n30 n32 n33 n34 n35) k_1407 k_1404 k_1406 k_65 k_106 pl_X12_isBook ⟨Nat.le_of_ble_eq_true rfl, Nat.le_of_ble_eq_true rfl⟩ rfl rfl (va_recv hK hP (ci := 12) (q0 := 0) rfl rfl) hP hD hS [0, 1] [] rfl rfl rfl rfl rfl (by decide) rfl hl.1 rfl (Nat.le_of_ble_eq_true rfl) dX12_ring_1 ⟨Nat.le_of_ble_eq_true rfl, Nat.le_of_ble_eq_true rfl⟩ (fun v_1 u_2 H locs hv_3 hP hD hS => ?_)
  obtain rfl : v_1 = some (.int 0) := hv_3
  refine W.eq (g2 := F0 m 4 ls [.int 0]) rfl ?_
  have hP : va_P D classes [(h0, .inr (12, [.ref n0, .int 0, .int 0, .ref n3, .ref n4, .ref n5, .ref n6, .ref n7, .int 0, .int 0, .int 0, .int 0, .int 0, .int 0, .int 0, .ref n15, .int 0, .ref n17, .int 0, .ref n19, .ref n20, .int (-1), .int 0, .int 0, .ref n24, .int 0, .ref n26, .ref n27, .ref n28, .ref n29, .ref n30, .long 0, .ref n32, .ref n33, .ref n34, .ref n35])), (n20, .inl (tc 0, 126, .inl (fun _ => 0)))] H := hP
  have hD : va_D A [(h0, .inr (12, [.ref n0, .int 0, .int 0, .ref n3, .ref n4, .ref n5, .ref n6, .ref n7, .int 0, .int 0, .int 0, .int 0, .int 0, .int 0, .int 0, .ref n15, .int 0, .ref n17, .int 0, .ref n19, .ref n20, .int (-1), .int 0, .int 0, .ref n24, .int 0, .ref n26, .ref n27, .ref n28, .ref n29, .ref n30, .long 0, .ref n32, .ref n33, .ref n34, .ref n35])), (n20, .inl (tc 0, 126, .inl (fun _ => 0)))] := hD
  refine lv_if_eq (tgt := 17) hx hb dX12_ring_4 (by decide) (fun c_4 => ?_) (fun c_4 => absurd c_4 (by decide))
  refine lv_iconst (v := (-1)) hx hb dX12_ring_17 (by decide) ?_
  exact retI (v := (-1)) hx hb hr hlk (rfl) hP hD hS () rfl [] rfl rfl dX12_ring_18 (Nat.le_of_ble_eq_true rfl) (Nat.le_of_ble_eq_true rfl) rfl
set_option maxHeartbeats 4000000 in
set_option maxRecDepth 100000 in
theorem ct_X12_peak (l : Launch) (D : va_G) (tc : Nat → ClassId) (sk : (Nat → Nat) × (Nat → Nat)) (h0 : Nat) (n0 : Nat) (n3 : Nat) (n4 : Nat) (n5 : Nat) (n6 : Nat) (n7 : Nat) (n15 : Nat) (n17 : Nat) (n19 : Nat) (n20 : Nat) (n24 : Nat) (n26 : Nat) (n27 : Nat) (n28 : Nat) (n29 : Nat) (n30 : Nat) (n32 : Nat) (n33 : Nat) (n34 : Nat) (n35 : Nat) (x1 : Int32) (x2 : Int32)  : Ct l yX12_peak cX12_peak 7 (some .int) { frames := 1, cells := 0, slots := 0, locals := 20 } D tc sk [.ref h0, .int x1, .int x2] [(h0, .inr (12, [.ref n0, .int 0, .int 0, .ref n3, .ref n4, .ref n5, .ref n6, .ref n7, .int 0, .int 0, .int 0, .int 0, .int 0, .int 0, .int 0, .ref n15, .int 0, .ref n17, .int 0, .ref n19, .ref n20, .int (-1), .int 0, .int 0, .ref n24, .int 0, .ref n26, .ref n27, .ref n28, .ref n29, .ref n30, .long 0, .ref n32, .ref n33, .ref n34, .ref n35])), (n20, .inl (tc 0, 126, .inl (fun _ => 0)))] (fun (v : Option Value) (_ : Unit) => v = some (.int (-1))) (fun (_ : Unit) => []) 0 0 := by
  refine Ct.start (by decide) (Nat.le_of_ble_eq_true rfl) (fun p e s m below meth c A ls hx hb hr hlk hin hml hown hts hK hX hP hD hA hl hS => ?_)
  have hl : lv_has ls 7 [(0, .ref h0), (1, .int x1), (2, .int x2)] := hl
  refine lv_aload_n hx hb dX12_peak_0 rfl (lv_at hl 0 rfl) ?_
  refine cV (a := h0) (As := []) (rest := []) (wr := []) ⟨hx, hb, hml, hown, hts⟩ hK hX hA (ct_X12_isBook l D tc sk h0 n0 n3 n4 n5 n6 n7 n15 n17 n19 n20 n24 n26 n27 n28 n29 n30 n32 n33 n34 n35) k_1407 k_1404 k_1406 k_65 k_106 pl_X12_isBook ⟨Nat.le_of_ble_eq_true rfl, Nat.le_of_ble_eq_true rfl⟩ rfl rfl (va_recv hK hP (ci := 12) (q0 := 0) rfl rfl) hP hD hS [0, 1] [] rfl rfl rfl rfl rfl (by decide) rfl hl.1 rfl (Nat.le_of_ble_eq_true rfl) dX12_peak_1 ⟨Nat.le_of_ble_eq_true rfl, Nat.le_of_ble_eq_true rfl⟩ (fun v_1 u_2 H locs hv_3 hP hD hS => ?_)
  obtain rfl : v_1 = some (.int 0) := hv_3
  refine W.eq (g2 := F0 m 4 ls [.int 0]) rfl ?_
  have hP : va_P D classes [(h0, .inr (12, [.ref n0, .int 0, .int 0, .ref n3, .ref n4, .ref n5, .ref n6, .ref n7, .int 0, .int 0, .int 0, .int 0, .int 0, .int 0, .int 0, .ref n15, .int 0, .ref n17, .int 0, .ref n19, .ref n20, .int (-1), .int 0, .int 0, .ref n24, .int 0, .ref n26, .ref n27, .ref n28, .ref n29, .ref n30, .long 0, .ref n32, .ref n33, .ref n34, .ref n35])), (n20, .inl (tc 0, 126, .inl (fun _ => 0)))] H := hP
  have hD : va_D A [(h0, .inr (12, [.ref n0, .int 0, .int 0, .ref n3, .ref n4, .ref n5, .ref n6, .ref n7, .int 0, .int 0, .int 0, .int 0, .int 0, .int 0, .int 0, .ref n15, .int 0, .ref n17, .int 0, .ref n19, .ref n20, .int (-1), .int 0, .int 0, .ref n24, .int 0, .ref n26, .ref n27, .ref n28, .ref n29, .ref n30, .long 0, .ref n32, .ref n33, .ref n34, .ref n35])), (n20, .inl (tc 0, 126, .inl (fun _ => 0)))] := hD
  refine lv_if_eq (tgt := 29) hx hb dX12_peak_4 (by decide) (fun c_4 => ?_) (fun c_4 => absurd c_4 (by decide))
  refine lv_iconst (v := (-1)) hx hb dX12_peak_29 (by decide) ?_
  exact retI (v := (-1)) hx hb hr hlk (rfl) hP hD hS () rfl [] rfl rfl dX12_peak_30 (Nat.le_of_ble_eq_true rfl) (Nat.le_of_ble_eq_true rfl) rfl
set_option maxHeartbeats 4000000 in
set_option maxRecDepth 100000 in
theorem ct_X12_ruled (l : Launch) (D : va_G) (tc : Nat → ClassId) (sk : (Nat → Nat) × (Nat → Nat)) (h0 : Nat) (n0 : Nat) (n3 : Nat) (n4 : Nat) (n5 : Nat) (n6 : Nat) (n7 : Nat) (n15 : Nat) (n17 : Nat) (n19 : Nat) (n20 : Nat) (n24 : Nat) (n26 : Nat) (n27 : Nat) (n28 : Nat) (n29 : Nat) (n30 : Nat) (n32 : Nat) (n33 : Nat) (n34 : Nat) (n35 : Nat) (x1 : Int32)  : Ct l yX12_ruled cX12_ruled 5 (some .int) { frames := 1, cells := 0, slots := 0, locals := 20 } D tc sk [.ref h0, .int x1] [(h0, .inr (12, [.ref n0, .int 0, .int 0, .ref n3, .ref n4, .ref n5, .ref n6, .ref n7, .int 0, .int 0, .int 0, .int 0, .int 0, .int 0, .int 0, .ref n15, .int 0, .ref n17, .int 0, .ref n19, .ref n20, .int (-1), .int 0, .int 0, .ref n24, .int 0, .ref n26, .ref n27, .ref n28, .ref n29, .ref n30, .long 0, .ref n32, .ref n33, .ref n34, .ref n35])), (n20, .inl (tc 0, 126, .inl (fun _ => 0)))] (fun (v : Option Value) (_ : Unit) => v = some (.int (-3))) (fun (_ : Unit) => []) 0 0 := by
  refine Ct.start (by decide) (Nat.le_of_ble_eq_true rfl) (fun p e s m below meth c A ls hx hb hr hlk hin hml hown hts hK hX hP hD hA hl hS => ?_)
  have hl : lv_has ls 5 [(0, .ref h0), (1, .int x1)] := hl
  refine lv_aload_n hx hb dX12_ruled_0 rfl (lv_at hl 0 rfl) ?_
  refine cV (a := h0) (As := []) (rest := []) (wr := []) ⟨hx, hb, hml, hown, hts⟩ hK hX hA (ct_X12_isBook l D tc sk h0 n0 n3 n4 n5 n6 n7 n15 n17 n19 n20 n24 n26 n27 n28 n29 n30 n32 n33 n34 n35) k_1407 k_1404 k_1406 k_65 k_106 pl_X12_isBook ⟨Nat.le_of_ble_eq_true rfl, Nat.le_of_ble_eq_true rfl⟩ rfl rfl (va_recv hK hP (ci := 12) (q0 := 0) rfl rfl) hP hD hS [0, 1] [] rfl rfl rfl rfl rfl (by decide) rfl hl.1 rfl (Nat.le_of_ble_eq_true rfl) dX12_ruled_1 ⟨Nat.le_of_ble_eq_true rfl, Nat.le_of_ble_eq_true rfl⟩ (fun v_1 u_2 H locs hv_3 hP hD hS => ?_)
  obtain rfl : v_1 = some (.int 0) := hv_3
  refine W.eq (g2 := F0 m 4 ls [.int 0]) rfl ?_
  have hP : va_P D classes [(h0, .inr (12, [.ref n0, .int 0, .int 0, .ref n3, .ref n4, .ref n5, .ref n6, .ref n7, .int 0, .int 0, .int 0, .int 0, .int 0, .int 0, .int 0, .ref n15, .int 0, .ref n17, .int 0, .ref n19, .ref n20, .int (-1), .int 0, .int 0, .ref n24, .int 0, .ref n26, .ref n27, .ref n28, .ref n29, .ref n30, .long 0, .ref n32, .ref n33, .ref n34, .ref n35])), (n20, .inl (tc 0, 126, .inl (fun _ => 0)))] H := hP
  have hD : va_D A [(h0, .inr (12, [.ref n0, .int 0, .int 0, .ref n3, .ref n4, .ref n5, .ref n6, .ref n7, .int 0, .int 0, .int 0, .int 0, .int 0, .int 0, .int 0, .ref n15, .int 0, .ref n17, .int 0, .ref n19, .ref n20, .int (-1), .int 0, .int 0, .ref n24, .int 0, .ref n26, .ref n27, .ref n28, .ref n29, .ref n30, .long 0, .ref n32, .ref n33, .ref n34, .ref n35])), (n20, .inl (tc 0, 126, .inl (fun _ => 0)))] := hD
  refine lv_if_eq (tgt := 17) hx hb dX12_ruled_4 (by decide) (fun c_4 => ?_) (fun c_4 => absurd c_4 (by decide))
  refine lv_bipush (v := (-3)) hx hb dX12_ruled_17 (by decide) ?_
  exact retI (v := (-3)) hx hb hr hlk (rfl) hP hD hS () rfl [] rfl rfl dX12_ruled_19 (Nat.le_of_ble_eq_true rfl) (Nat.le_of_ble_eq_true rfl) rfl
set_option maxHeartbeats 4000000 in
set_option maxRecDepth 100000 in
theorem ct_X12_look (l : Launch) (D : va_G) (tc : Nat → ClassId) (sk : (Nat → Nat) × (Nat → Nat)) (h0 : Nat) (n0 : Nat) (n3 : Nat) (n4 : Nat) (n5 : Nat) (n6 : Nat) (n7 : Nat) (n15 : Nat) (n17 : Nat) (n19 : Nat) (n20 : Nat) (n24 : Nat) (n26 : Nat) (n27 : Nat) (n28 : Nat) (n29 : Nat) (n30 : Nat) (n32 : Nat) (n33 : Nat) (n34 : Nat) (n35 : Nat) (x1 : Int32)  : Ct l yX12_look cX12_look 4 (some .int) { frames := 1, cells := 0, slots := 0, locals := 20 } D tc sk [.ref h0, .int x1] [(h0, .inr (12, [.ref n0, .int 0, .int 0, .ref n3, .ref n4, .ref n5, .ref n6, .ref n7, .int 0, .int 0, .int 0, .int 0, .int 0, .int 0, .int 0, .ref n15, .int 0, .ref n17, .int 0, .ref n19, .ref n20, .int (-1), .int 0, .int 0, .ref n24, .int 0, .ref n26, .ref n27, .ref n28, .ref n29, .ref n30, .long 0, .ref n32, .ref n33, .ref n34, .ref n35])), (n20, .inl (tc 0, 126, .inl (fun _ => 0)))] (fun (v : Option Value) (_ : Unit) => v = some (.int (-1))) (fun (_ : Unit) => []) 0 0 := by
  refine Ct.start (by decide) (Nat.le_of_ble_eq_true rfl) (fun p e s m below meth c A ls hx hb hr hlk hin hml hown hts hK hX hP hD hA hl hS => ?_)
  have hl : lv_has ls 4 [(0, .ref h0), (1, .int x1)] := hl
  refine lv_aload_n hx hb dX12_look_0 rfl (lv_at hl 0 rfl) ?_
  refine cV (a := h0) (As := []) (rest := []) (wr := []) ⟨hx, hb, hml, hown, hts⟩ hK hX hA (ct_X12_isBook l D tc sk h0 n0 n3 n4 n5 n6 n7 n15 n17 n19 n20 n24 n26 n27 n28 n29 n30 n32 n33 n34 n35) k_1407 k_1404 k_1406 k_65 k_106 pl_X12_isBook ⟨Nat.le_of_ble_eq_true rfl, Nat.le_of_ble_eq_true rfl⟩ rfl rfl (va_recv hK hP (ci := 12) (q0 := 0) rfl rfl) hP hD hS [0, 1] [] rfl rfl rfl rfl rfl (by decide) rfl hl.1 rfl (Nat.le_of_ble_eq_true rfl) dX12_look_1 ⟨Nat.le_of_ble_eq_true rfl, Nat.le_of_ble_eq_true rfl⟩ (fun v_1 u_2 H locs hv_3 hP hD hS => ?_)
  obtain rfl : v_1 = some (.int 0) := hv_3
  refine W.eq (g2 := F0 m 4 ls [.int 0]) rfl ?_
  have hP : va_P D classes [(h0, .inr (12, [.ref n0, .int 0, .int 0, .ref n3, .ref n4, .ref n5, .ref n6, .ref n7, .int 0, .int 0, .int 0, .int 0, .int 0, .int 0, .int 0, .ref n15, .int 0, .ref n17, .int 0, .ref n19, .ref n20, .int (-1), .int 0, .int 0, .ref n24, .int 0, .ref n26, .ref n27, .ref n28, .ref n29, .ref n30, .long 0, .ref n32, .ref n33, .ref n34, .ref n35])), (n20, .inl (tc 0, 126, .inl (fun _ => 0)))] H := hP
  have hD : va_D A [(h0, .inr (12, [.ref n0, .int 0, .int 0, .ref n3, .ref n4, .ref n5, .ref n6, .ref n7, .int 0, .int 0, .int 0, .int 0, .int 0, .int 0, .int 0, .ref n15, .int 0, .ref n17, .int 0, .ref n19, .ref n20, .int (-1), .int 0, .int 0, .ref n24, .int 0, .ref n26, .ref n27, .ref n28, .ref n29, .ref n30, .long 0, .ref n32, .ref n33, .ref n34, .ref n35])), (n20, .inl (tc 0, 126, .inl (fun _ => 0)))] := hD
  refine lv_if_eq (tgt := 17) hx hb dX12_look_4 (by decide) (fun c_4 => ?_) (fun c_4 => absurd c_4 (by decide))
  refine lv_iconst (v := (-1)) hx hb dX12_look_17 (by decide) ?_
  exact retI (v := (-1)) hx hb hr hlk (rfl) hP hD hS () rfl [] rfl rfl dX12_look_18 (Nat.le_of_ble_eq_true rfl) (Nat.le_of_ble_eq_true rfl) rfl
set_option maxHeartbeats 4000000 in
set_option maxRecDepth 100000 in
theorem ct_X12_summers (l : Launch) (D : va_G) (tc : Nat → ClassId) (sk : (Nat → Nat) × (Nat → Nat)) (h0 : Nat) (n0 : Nat) (n3 : Nat) (n4 : Nat) (n5 : Nat) (n6 : Nat) (n7 : Nat) (n15 : Nat) (n17 : Nat) (n19 : Nat) (n20 : Nat) (n24 : Nat) (n26 : Nat) (n27 : Nat) (n28 : Nat) (n29 : Nat) (n30 : Nat) (n32 : Nat) (n33 : Nat) (n34 : Nat) (n35 : Nat) (x1 : Int32) (x2 : Int32) (x3 : Int32) (x4 : Int32)  : Ct l yX12_summers cX12_summers 10 (some .int) { frames := 1, cells := 0, slots := 0, locals := 20 } D tc sk [.ref h0, .int x1, .int x2, .int x3, .int x4] [(h0, .inr (12, [.ref n0, .int 0, .int 0, .ref n3, .ref n4, .ref n5, .ref n6, .ref n7, .int 0, .int 0, .int 0, .int 0, .int 0, .int 0, .int 0, .ref n15, .int 0, .ref n17, .int 0, .ref n19, .ref n20, .int (-1), .int 0, .int 0, .ref n24, .int 0, .ref n26, .ref n27, .ref n28, .ref n29, .ref n30, .long 0, .ref n32, .ref n33, .ref n34, .ref n35])), (n20, .inl (tc 0, 126, .inl (fun _ => 0)))] (fun (v : Option Value) (_ : Unit) => v = some (.int (-1))) (fun (_ : Unit) => []) 0 0 := by
  refine Ct.start (by decide) (Nat.le_of_ble_eq_true rfl) (fun p e s m below meth c A ls hx hb hr hlk hin hml hown hts hK hX hP hD hA hl hS => ?_)
  have hl : lv_has ls 10 [(0, .ref h0), (1, .int x1), (2, .int x2), (3, .int x3), (4, .int x4)] := hl
  refine lv_aload_n hx hb dX12_summers_0 rfl (lv_at hl 0 rfl) ?_
  refine cV (a := h0) (As := []) (rest := []) (wr := []) ⟨hx, hb, hml, hown, hts⟩ hK hX hA (ct_X12_isBook l D tc sk h0 n0 n3 n4 n5 n6 n7 n15 n17 n19 n20 n24 n26 n27 n28 n29 n30 n32 n33 n34 n35) k_1407 k_1404 k_1406 k_65 k_106 pl_X12_isBook ⟨Nat.le_of_ble_eq_true rfl, Nat.le_of_ble_eq_true rfl⟩ rfl rfl (va_recv hK hP (ci := 12) (q0 := 0) rfl rfl) hP hD hS [0, 1] [] rfl rfl rfl rfl rfl (by decide) rfl hl.1 rfl (Nat.le_of_ble_eq_true rfl) dX12_summers_1 ⟨Nat.le_of_ble_eq_true rfl, Nat.le_of_ble_eq_true rfl⟩ (fun v_1 u_2 H locs hv_3 hP hD hS => ?_)
  obtain rfl : v_1 = some (.int 0) := hv_3
  refine W.eq (g2 := F0 m 4 ls [.int 0]) rfl ?_
  have hP : va_P D classes [(h0, .inr (12, [.ref n0, .int 0, .int 0, .ref n3, .ref n4, .ref n5, .ref n6, .ref n7, .int 0, .int 0, .int 0, .int 0, .int 0, .int 0, .int 0, .ref n15, .int 0, .ref n17, .int 0, .ref n19, .ref n20, .int (-1), .int 0, .int 0, .ref n24, .int 0, .ref n26, .ref n27, .ref n28, .ref n29, .ref n30, .long 0, .ref n32, .ref n33, .ref n34, .ref n35])), (n20, .inl (tc 0, 126, .inl (fun _ => 0)))] H := hP
  have hD : va_D A [(h0, .inr (12, [.ref n0, .int 0, .int 0, .ref n3, .ref n4, .ref n5, .ref n6, .ref n7, .int 0, .int 0, .int 0, .int 0, .int 0, .int 0, .int 0, .ref n15, .int 0, .ref n17, .int 0, .ref n19, .ref n20, .int (-1), .int 0, .int 0, .ref n24, .int 0, .ref n26, .ref n27, .ref n28, .ref n29, .ref n30, .long 0, .ref n32, .ref n33, .ref n34, .ref n35])), (n20, .inl (tc 0, 126, .inl (fun _ => 0)))] := hD
  refine lv_if_eq (tgt := 54) hx hb dX12_summers_4 (by decide) (fun c_4 => ?_) (fun c_4 => absurd c_4 (by decide))
  refine lv_iconst (v := (-1)) hx hb dX12_summers_54 (by decide) ?_
  exact retI (v := (-1)) hx hb hr hlk (rfl) hP hD hS () rfl [] rfl rfl dX12_summers_55 (Nat.le_of_ble_eq_true rfl) (Nat.le_of_ble_eq_true rfl) rfl
set_option maxHeartbeats 4000000 in
set_option maxRecDepth 100000 in
theorem ct_X12_fines (l : Launch) (D : va_G) (tc : Nat → ClassId) (sk : (Nat → Nat) × (Nat → Nat)) (h0 : Nat) (n0 : Nat) (n3 : Nat) (n4 : Nat) (n5 : Nat) (n6 : Nat) (n7 : Nat) (n15 : Nat) (n17 : Nat) (n19 : Nat) (n20 : Nat) (n24 : Nat) (n26 : Nat) (n27 : Nat) (n28 : Nat) (n29 : Nat) (n30 : Nat) (n32 : Nat) (n33 : Nat) (n34 : Nat) (n35 : Nat) (x1 : Int32) (x2 : Int32)  : Ct l yX12_fines cX12_fines 9 (some .int) { frames := 1, cells := 0, slots := 0, locals := 21 } D tc sk [.ref h0, .int x1, .int x2] [(h0, .inr (12, [.ref n0, .int 0, .int 0, .ref n3, .ref n4, .ref n5, .ref n6, .ref n7, .int 0, .int 0, .int 0, .int 0, .int 0, .int 0, .int 0, .ref n15, .int 0, .ref n17, .int 0, .ref n19, .ref n20, .int (-1), .int 0, .int 0, .ref n24, .int 0, .ref n26, .ref n27, .ref n28, .ref n29, .ref n30, .long 0, .ref n32, .ref n33, .ref n34, .ref n35])), (n20, .inl (tc 0, 126, .inl (fun _ => 0)))] (fun (v : Option Value) (_ : Unit) => v = some (.int (-1))) (fun (_ : Unit) => []) 0 0 := by
  refine Ct.start (by decide) (Nat.le_of_ble_eq_true rfl) (fun p e s m below meth c A ls hx hb hr hlk hin hml hown hts hK hX hP hD hA hl hS => ?_)
  have hl : lv_has ls 9 [(0, .ref h0), (1, .int x1), (2, .int x2)] := hl
  refine lv_aload_n hx hb dX12_fines_0 rfl (lv_at hl 0 rfl) ?_
  refine lv_iload_n hx hb dX12_fines_1 rfl (lv_at hl 2 rfl) ?_
  refine cV (a := h0) (As := [.int x2]) (rest := []) (wr := []) ⟨hx, hb, hml, hown, hts⟩ hK hX hA (ct_X12_isBuyer l D tc sk h0 n0 n3 n4 n5 n6 n7 n15 n17 n19 n20 n24 n26 n27 n28 n29 n30 n32 n33 n34 n35 x2) k_1375 k_1372 k_1374 k_58 k_106 pl_X12_isBuyer ⟨Nat.le_of_ble_eq_true rfl, Nat.le_of_ble_eq_true rfl⟩ rfl rfl (va_recv hK hP (ci := 12) (q0 := 0) rfl rfl) hP hD hS [0, 1] [] rfl rfl rfl rfl rfl (by decide) rfl hl.1 rfl (Nat.le_of_ble_eq_true rfl) dX12_fines_2 ⟨Nat.le_of_ble_eq_true rfl, Nat.le_of_ble_eq_true rfl⟩ (fun v_1 u_2 H locs hv_3 hP hD hS => ?_)
  obtain rfl : v_1 = some (.int 0) := hv_3
  refine W.eq (g2 := F0 m 5 ls [.int 0]) rfl ?_
  have hP : va_P D classes [(h0, .inr (12, [.ref n0, .int 0, .int 0, .ref n3, .ref n4, .ref n5, .ref n6, .ref n7, .int 0, .int 0, .int 0, .int 0, .int 0, .int 0, .int 0, .ref n15, .int 0, .ref n17, .int 0, .ref n19, .ref n20, .int (-1), .int 0, .int 0, .ref n24, .int 0, .ref n26, .ref n27, .ref n28, .ref n29, .ref n30, .long 0, .ref n32, .ref n33, .ref n34, .ref n35])), (n20, .inl (tc 0, 126, .inl (fun _ => 0)))] H := hP
  have hD : va_D A [(h0, .inr (12, [.ref n0, .int 0, .int 0, .ref n3, .ref n4, .ref n5, .ref n6, .ref n7, .int 0, .int 0, .int 0, .int 0, .int 0, .int 0, .int 0, .ref n15, .int 0, .ref n17, .int 0, .ref n19, .ref n20, .int (-1), .int 0, .int 0, .ref n24, .int 0, .ref n26, .ref n27, .ref n28, .ref n29, .ref n30, .long 0, .ref n32, .ref n33, .ref n34, .ref n35])), (n20, .inl (tc 0, 126, .inl (fun _ => 0)))] := hD
  refine lv_if_eq (tgt := 20) hx hb dX12_fines_5 (by decide) (fun c_4 => ?_) (fun c_4 => absurd c_4 (by decide))
  refine lv_iconst (v := (-1)) hx hb dX12_fines_20 (by decide) ?_
  exact retI (v := (-1)) hx hb hr hlk (rfl) hP hD hS () rfl [] rfl rfl dX12_fines_21 (Nat.le_of_ble_eq_true rfl) (Nat.le_of_ble_eq_true rfl) rfl
set_option maxHeartbeats 4000000 in
set_option maxRecDepth 100000 in
theorem ct_X12_undo (l : Launch) (D : va_G) (tc : Nat → ClassId) (sk : (Nat → Nat) × (Nat → Nat)) (h0 : Nat) (n0 : Nat) (n3 : Nat) (n4 : Nat) (n5 : Nat) (n6 : Nat) (n7 : Nat) (n15 : Nat) (n17 : Nat) (n19 : Nat) (n20 : Nat) (n24 : Nat) (n26 : Nat) (n27 : Nat) (n28 : Nat) (n29 : Nat) (n30 : Nat) (n32 : Nat) (n33 : Nat) (n34 : Nat) (n35 : Nat)  : Ct l yX12_undo cX12_undo 2 (some .int) { frames := 0, cells := 0, slots := 0, locals := 0 } D tc sk [.ref h0] [(h0, .inr (12, [.ref n0, .int 0, .int 0, .ref n3, .ref n4, .ref n5, .ref n6, .ref n7, .int 0, .int 0, .int 0, .int 0, .int 0, .int 0, .int 0, .ref n15, .int 0, .ref n17, .int 0, .ref n19, .ref n20, .int (-1), .int 0, .int 0, .ref n24, .int 0, .ref n26, .ref n27, .ref n28, .ref n29, .ref n30, .long 0, .ref n32, .ref n33, .ref n34, .ref n35]))] (fun (v : Option Value) (_ : Unit) => v = some (.int (-1))) (fun (_ : Unit) => []) 0 0 := by
  refine Ct.start (by decide) (Nat.le_of_ble_eq_true rfl) (fun p e s m below meth c A ls hx hb hr hlk hin hml hown hts hK hX hP hD hA hl hS => ?_)
  have hl : lv_has ls 2 [(0, .ref h0)] := hl
  refine lv_aload_n hx hb dX12_undo_0 rfl (lv_at hl 0 rfl) ?_
  refine gf_X12_265 hx hb hts hown hK hP 0 rfl rfl dX12_undo_1 ?_
  refine lv_if_ne (tgt := 9) hx hb dX12_undo_4 (by decide) (fun c_1 => absurd c_1 (by decide)) (fun c_1 => ?_)
  refine lv_iconst (v := (-1)) hx hb dX12_undo_7 (by decide) ?_
  exact retI (v := (-1)) hx hb hr hlk (rfl) hP hD hS () rfl [] rfl rfl dX12_undo_8 (Nat.le_of_ble_eq_true rfl) (Nat.le_of_ble_eq_true rfl) rfl
set_option maxHeartbeats 4000000 in
set_option maxRecDepth 100000 in
theorem ct_X12_force (l : Launch) (D : va_G) (tc : Nat → ClassId) (sk : (Nat → Nat) × (Nat → Nat)) (h0 : Nat) (n0 : Nat) (n3 : Nat) (n4 : Nat) (n5 : Nat) (n6 : Nat) (n7 : Nat) (n15 : Nat) (n17 : Nat) (n19 : Nat) (n20 : Nat) (n24 : Nat) (n26 : Nat) (n27 : Nat) (n28 : Nat) (n29 : Nat) (n30 : Nat) (n32 : Nat) (n33 : Nat) (n34 : Nat) (n35 : Nat) (x1 : Int32)  : Ct l yX12_force cX12_force 3 (some .int) { frames := 1, cells := 0, slots := 0, locals := 21 } D tc sk [.ref h0, .int x1] [(h0, .inr (12, [.ref n0, .int 0, .int 0, .ref n3, .ref n4, .ref n5, .ref n6, .ref n7, .int 0, .int 0, .int 0, .int 0, .int 0, .int 0, .int 0, .ref n15, .int 0, .ref n17, .int 0, .ref n19, .ref n20, .int (-1), .int 0, .int 0, .ref n24, .int 0, .ref n26, .ref n27, .ref n28, .ref n29, .ref n30, .long 0, .ref n32, .ref n33, .ref n34, .ref n35]))] (fun (v : Option Value) (_ : Unit) => v = some (.int (frcF x1))) (fun (_ : Unit) => []) 0 0 := by
  refine Ct.start (by decide) (Nat.le_of_ble_eq_true rfl) (fun p e s m below meth c A ls hx hb hr hlk hin hml hown hts hK hX hP hD hA hl hS => ?_)
  have hl : lv_has ls 3 [(0, .ref h0), (1, .int x1)] := hl
  refine lv_iload_n hx hb dX12_force_0 rfl (lv_at hl 1 rfl) ?_
  refine lv_iconst (v := (-1)) hx hb dX12_force_1 (by decide) ?_
  refine lv_icmp_eq (tgt := 16) hx hb dX12_force_2 (by decide) (fun c_1 => ?_) (fun c_1 => ?_)
  · skip
    refine lv_aload_n hx hb dX12_force_16 rfl (lv_at hl 0 rfl) ?_
    refine gf_X12_42 hx hb hts hown hK hP 0 rfl rfl dX12_force_17 ?_
    refine lv_istore_n (lv' := [(2, .int (-1)), (0, .ref h0), (1, .int x1)]) hx hb dX12_force_20 rfl hl (by decide) rfl (fun ls hl => ?_)
    refine lv_aload_n hx hb dX12_force_21 rfl (lv_at hl 1 rfl) ?_
    refine lv_iload_n hx hb dX12_force_22 rfl (lv_at hl 2 rfl) ?_
    refine pf_X12_42 hx hb hts hown hK hP hD hS 0 rfl (Nat.le_of_ble_eq_true rfl) rfl rfl dX12_force_23 (fun H locs hP hD hS => ?_)
    have hP : va_P D classes [(h0, .inr (12, [.ref n0, .int 0, .int 0, .ref n3, .ref n4, .ref n5, .ref n6, .ref n7, .int 0, .int 0, .int 0, .int 0, .int 0, .int 0, .int 0, .ref n15, .int 0, .ref n17, .int 0, .ref n19, .ref n20, .int x1, .int 0, .int 0, .ref n24, .int 0, .ref n26, .ref n27, .ref n28, .ref n29, .ref n30, .long 0, .ref n32, .ref n33, .ref n34, .ref n35]))] H := hP
    have hD : va_D A [(h0, .inr (12, [.ref n0, .int 0, .int 0, .ref n3, .ref n4, .ref n5, .ref n6, .ref n7, .int 0, .int 0, .int 0, .int 0, .int 0, .int 0, .int 0, .ref n15, .int 0, .ref n17, .int 0, .ref n19, .ref n20, .int x1, .int 0, .int 0, .ref n24, .int 0, .ref n26, .ref n27, .ref n28, .ref n29, .ref n30, .long 0, .ref n32, .ref n33, .ref n34, .ref n35]))] := hD
    refine lv_iload_n hx hb dX12_force_26 rfl (lv_at hl 0 rfl) ?_
    have hp_2 : frcF x1 = -1 := by rw [c_1]; decide
    exact retI (v := (-1)) hx hb hr hlk (rfl) hP hD hS () (by rw [hp_2]) [] rfl rfl dX12_force_27 (Nat.le_of_ble_eq_true rfl) (Nat.le_of_ble_eq_true rfl) rfl
  · skip
    refine lv_aload_n hx hb dX12_force_5 rfl (lv_at hl 0 rfl) ?_
    refine lv_iload_n hx hb dX12_force_6 rfl (lv_at hl 1 rfl) ?_
    refine cV (a := h0) (As := [.int x1]) (rest := []) (wr := []) ⟨hx, hb, hml, hown, hts⟩ hK hX hA (ct_X12_isRule l D tc sk h0 n0 n3 n4 n5 n6 n7 n15 n17 n19 n20 n24 n26 n27 n28 n29 n30 n32 n33 n34 n35 x1) k_1367 k_1364 k_1366 k_57 k_106 pl_X12_isRule ⟨Nat.le_of_ble_eq_true rfl, Nat.le_of_ble_eq_true rfl⟩ rfl rfl (va_recv hK hP (ci := 12) (q0 := 0) rfl rfl) hP hD hS [0] [] rfl rfl rfl rfl rfl (by decide) rfl hl.1 rfl (Nat.le_of_ble_eq_true rfl) dX12_force_7 ⟨Nat.le_of_ble_eq_true rfl, Nat.le_of_ble_eq_true rfl⟩ (fun v_3 u_4 H locs hv_5 hP hD hS => ?_)
    obtain rfl : v_3 = some (.int 0) := hv_5
    refine W.eq (g2 := F0 m 10 ls [.int 0]) rfl ?_
    have hP : va_P D classes [(h0, .inr (12, [.ref n0, .int 0, .int 0, .ref n3, .ref n4, .ref n5, .ref n6, .ref n7, .int 0, .int 0, .int 0, .int 0, .int 0, .int 0, .int 0, .ref n15, .int 0, .ref n17, .int 0, .ref n19, .ref n20, .int (-1), .int 0, .int 0, .ref n24, .int 0, .ref n26, .ref n27, .ref n28, .ref n29, .ref n30, .long 0, .ref n32, .ref n33, .ref n34, .ref n35]))] H := hP
    have hD : va_D A [(h0, .inr (12, [.ref n0, .int 0, .int 0, .ref n3, .ref n4, .ref n5, .ref n6, .ref n7, .int 0, .int 0, .int 0, .int 0, .int 0, .int 0, .int 0, .ref n15, .int 0, .ref n17, .int 0, .ref n19, .ref n20, .int (-1), .int 0, .int 0, .ref n24, .int 0, .ref n26, .ref n27, .ref n28, .ref n29, .ref n30, .long 0, .ref n32, .ref n33, .ref n34, .ref n35]))] := hD
    refine lv_if_ne (tgt := 16) hx hb dX12_force_10 (by decide) (fun c_6 => absurd c_6 (by decide)) (fun c_6 => ?_)
    refine lv_bipush (v := (-2)) hx hb dX12_force_13 (by decide) ?_
    have hp_7 : frcF x1 = -2 := frcF_ne c_1
    exact retI (v := (-2)) hx hb hr hlk (rfl) hP hD hS () (by rw [hp_7]) [] rfl rfl dX12_force_15 (Nat.le_of_ble_eq_true rfl) (Nat.le_of_ble_eq_true rfl) rfl
set_option maxHeartbeats 4000000 in
set_option maxRecDepth 100000 in
theorem ct_X12_seed (l : Launch) (D : va_G) (tc : Nat → ClassId) (sk : (Nat → Nat) × (Nat → Nat)) (h0 : Nat) (n0 : Nat) (n3 : Nat) (n4 : Nat) (n5 : Nat) (n6 : Nat) (n7 : Nat) (n15 : Nat) (n17 : Nat) (n19 : Nat) (n20 : Nat) (n24 : Nat) (n26 : Nat) (n27 : Nat) (n28 : Nat) (n29 : Nat) (n30 : Nat) (n32 : Nat) (n33 : Nat) (n34 : Nat) (n35 : Nat) (x1 : Int32)  : Ct l yX12_seed cX12_seed 3 (some .int) { frames := 0, cells := 0, slots := 0, locals := 0 } D tc sk [.ref h0, .int x1] [(h0, .inr (12, [.ref n0, .int 0, .int 0, .ref n3, .ref n4, .ref n5, .ref n6, .ref n7, .int 0, .int 0, .int 0, .int 0, .int 0, .int 0, .int 0, .ref n15, .int 0, .ref n17, .int 0, .ref n19, .ref n20, .int (-1), .int 0, .int 0, .ref n24, .int 0, .ref n26, .ref n27, .ref n28, .ref n29, .ref n30, .long 0, .ref n32, .ref n33, .ref n34, .ref n35]))] (fun (v : Option Value) (_ : Unit) => v = some (.int (sdF x1))) (fun (_ : Unit) => []) 0 0 := by
  refine Ct.start (by decide) (Nat.le_of_ble_eq_true rfl) (fun p e s m below meth c A ls hx hb hr hlk hin hml hown hts hK hX hP hD hA hl hS => ?_)
  have hl : lv_has ls 3 [(0, .ref h0), (1, .int x1)] := hl
  refine lv_iload_n hx hb dX12_seed_0 rfl (lv_at hl 1 rfl) ?_
  refine lv_if_ge (tgt := 6) hx hb dX12_seed_1 (by decide) (fun c_1 => ?_) (fun c_1 => ?_)
  · skip
    refine lv_aload_n hx hb dX12_seed_6 rfl (lv_at hl 0 rfl) ?_
    refine gf_X12_414 hx hb hts hown hK hP 0 rfl rfl dX12_seed_7 ?_
    refine lv_istore_n (lv' := [(2, .int 0), (0, .ref h0), (1, .int x1)]) hx hb dX12_seed_10 rfl hl (by decide) rfl (fun ls hl => ?_)
    refine lv_aload_n hx hb dX12_seed_11 rfl (lv_at hl 1 rfl) ?_
    refine lv_iload_n hx hb dX12_seed_12 rfl (lv_at hl 2 rfl) ?_
    refine pf_X12_414 hx hb hts hown hK hP hD hS 0 rfl (Nat.le_of_ble_eq_true rfl) rfl rfl dX12_seed_13 (fun H locs hP hD hS => ?_)
    have hP : va_P D classes [(h0, .inr (12, [.ref n0, .int 0, .int 0, .ref n3, .ref n4, .ref n5, .ref n6, .ref n7, .int 0, .int 0, .int 0, .int 0, .int 0, .int 0, .int 0, .ref n15, .int 0, .ref n17, .int 0, .ref n19, .ref n20, .int (-1), .int x1, .int 0, .ref n24, .int 0, .ref n26, .ref n27, .ref n28, .ref n29, .ref n30, .long 0, .ref n32, .ref n33, .ref n34, .ref n35]))] H := hP
    have hD : va_D A [(h0, .inr (12, [.ref n0, .int 0, .int 0, .ref n3, .ref n4, .ref n5, .ref n6, .ref n7, .int 0, .int 0, .int 0, .int 0, .int 0, .int 0, .int 0, .ref n15, .int 0, .ref n17, .int 0, .ref n19, .ref n20, .int (-1), .int x1, .int 0, .ref n24, .int 0, .ref n26, .ref n27, .ref n28, .ref n29, .ref n30, .long 0, .ref n32, .ref n33, .ref n34, .ref n35]))] := hD
    refine lv_iload_n hx hb dX12_seed_16 rfl (lv_at hl 0 rfl) ?_
    have hp_2 : sdF x1 = 0 := by simp [sdF, c_1, Int32.not_lt.mpr c_1]
    exact retI (v := 0) hx hb hr hlk (rfl) hP hD hS () (by rw [hp_2]) [] rfl rfl dX12_seed_17 (Nat.le_of_ble_eq_true rfl) (Nat.le_of_ble_eq_true rfl) rfl
  · skip
    refine lv_iconst (v := (-1)) hx hb dX12_seed_4 (by decide) ?_
    have hp_3 : sdF x1 = (-1) := by simp [sdF, c_1, Int32.not_le.mp c_1]
    exact retI (v := (-1)) hx hb hr hlk (rfl) hP hD hS () (by rw [hp_3]) [] rfl rfl dX12_seed_5 (Nat.le_of_ble_eq_true rfl) (Nat.le_of_ble_eq_true rfl) rfl
set_option maxHeartbeats 4000000 in
set_option maxRecDepth 100000 in
theorem ct_X12_end (l : Launch) (D : va_G) (tc : Nat → ClassId) (sk : (Nat → Nat) × (Nat → Nat)) (h0 : Nat) (n0 : Nat) (n3 : Nat) (n4 : Nat) (n5 : Nat) (n6 : Nat) (n7 : Nat) (n15 : Nat) (n17 : Nat) (n19 : Nat) (n20 : Nat) (n24 : Nat) (n26 : Nat) (n27 : Nat) (n28 : Nat) (n29 : Nat) (n30 : Nat) (n32 : Nat) (n33 : Nat) (n34 : Nat) (n35 : Nat) (x1 : Int32)  : Ct l yX12_end cX12_end 2 (some .int) { frames := 0, cells := 0, slots := 0, locals := 0 } D tc sk [.ref h0, .int x1] [(h0, .inr (12, [.ref n0, .int 0, .int 0, .ref n3, .ref n4, .ref n5, .ref n6, .ref n7, .int 0, .int 0, .int 0, .int 0, .int 0, .int 0, .int 0, .ref n15, .int 0, .ref n17, .int 0, .ref n19, .ref n20, .int (-1), .int 0, .int 0, .ref n24, .int 0, .ref n26, .ref n27, .ref n28, .ref n29, .ref n30, .long 0, .ref n32, .ref n33, .ref n34, .ref n35]))] (fun (v : Option Value) (_ : Unit) => v = some (.int (endF x1))) (fun (_ : Unit) => []) 0 0 := by
  refine Ct.start (by decide) (Nat.le_of_ble_eq_true rfl) (fun p e s m below meth c A ls hx hb hr hlk hin hml hown hts hK hX hP hD hA hl hS => ?_)
  have hl : lv_has ls 2 [(0, .ref h0), (1, .int x1)] := hl
  refine lv_iload_n hx hb dX12_end_0 rfl (lv_at hl 1 rfl) ?_
  refine lv_if_lt (tgt := 12) hx hb dX12_end_1 (by decide) (fun c_1 => ?_) (fun c_1 => ?_)
  · skip
    refine lv_iconst (v := (-1)) hx hb dX12_end_12 (by decide) ?_
    have hp_2 : endF x1 = (-1) := by simp [endF, c_1, Int32.not_le.mpr c_1]
    exact retI (v := (-1)) hx hb hr hlk (rfl) hP hD hS () (by rw [hp_2]) [] rfl rfl dX12_end_13 (Nat.le_of_ble_eq_true rfl) (Nat.le_of_ble_eq_true rfl) rfl
  · skip
    refine lv_iload_n hx hb dX12_end_4 rfl (lv_at hl 1 rfl) ?_
    refine lv_aload_n hx hb dX12_end_5 rfl (lv_at hl 0 rfl) ?_
    refine gf_X12_77 hx hb hts hown hK hP 0 rfl rfl dX12_end_6 ?_
    refine lv_icmp_le (tgt := 14) hx hb dX12_end_9 (by decide) (fun c_3 => ?_) (fun c_3 => ?_)
    · skip
      refine lv_aload_n hx hb dX12_end_14 rfl (lv_at hl 0 rfl) ?_
      refine lv_iload_n hx hb dX12_end_15 rfl (lv_at hl 1 rfl) ?_
      refine pf_X12_77 hx hb hts hown hK hP hD hS 0 rfl (Nat.le_of_ble_eq_true rfl) rfl rfl dX12_end_16 (fun H locs hP hD hS => ?_)
      have hP : va_P D classes [(h0, .inr (12, [.ref n0, .int x1, .int 0, .ref n3, .ref n4, .ref n5, .ref n6, .ref n7, .int 0, .int 0, .int 0, .int 0, .int 0, .int 0, .int 0, .ref n15, .int 0, .ref n17, .int 0, .ref n19, .ref n20, .int (-1), .int 0, .int 0, .ref n24, .int 0, .ref n26, .ref n27, .ref n28, .ref n29, .ref n30, .long 0, .ref n32, .ref n33, .ref n34, .ref n35]))] H := hP
      have hD : va_D A [(h0, .inr (12, [.ref n0, .int x1, .int 0, .ref n3, .ref n4, .ref n5, .ref n6, .ref n7, .int 0, .int 0, .int 0, .int 0, .int 0, .int 0, .int 0, .ref n15, .int 0, .ref n17, .int 0, .ref n19, .ref n20, .int (-1), .int 0, .int 0, .ref n24, .int 0, .ref n26, .ref n27, .ref n28, .ref n29, .ref n30, .long 0, .ref n32, .ref n33, .ref n34, .ref n35]))] := hD
      refine lv_iload_n hx hb dX12_end_19 rfl (lv_at hl 1 rfl) ?_
      have hp_4 : endF x1 = x1 := by simp [endF, c_1, Int32.not_lt.mp c_1, c_3, Int32.not_lt.mpr c_3]
      exact retI (v := x1) hx hb hr hlk (rfl) hP hD hS () (by rw [hp_4]) [] rfl rfl dX12_end_20 (Nat.le_of_ble_eq_true rfl) (Nat.le_of_ble_eq_true rfl) rfl
    · skip
      refine lv_iconst (v := (-1)) hx hb dX12_end_12 (by decide) ?_
      have hp_5 : endF x1 = (-1) := by simp [endF, c_1, Int32.not_lt.mp c_1, c_3, Int32.not_le.mp c_3]
      exact retI (v := (-1)) hx hb hr hlk (rfl) hP hD hS () (by rw [hp_5]) [] rfl rfl dX12_end_13 (Nat.le_of_ble_eq_true rfl) (Nat.le_of_ble_eq_true rfl) rfl
set_option maxHeartbeats 4000000 in
set_option maxRecDepth 100000 in
theorem ct_X12_note (l : Launch) (D : va_G) (tc : Nat → ClassId) (sk : (Nat → Nat) × (Nat → Nat)) (h0 : Nat) (n0 : Nat) (n3 : Nat) (n4 : Nat) (n5 : Nat) (n6 : Nat) (n7 : Nat) (n15 : Nat) (n17 : Nat) (n19 : Nat) (n20 : Nat) (n24 : Nat) (n26 : Nat) (n27 : Nat) (n28 : Nat) (n29 : Nat) (n30 : Nat) (n32 : Nat) (n33 : Nat) (n34 : Nat) (n35 : Nat) (x1 : Int32) (x2 : Int32) (x3 : Int32)  : Ct l yX12_note cX12_note 5 (some .int) { frames := 1, cells := 0, slots := 0, locals := 25 } D tc sk [.ref h0, .int x1, .int x2, .int x3] [(h0, .inr (12, [.ref n0, .int 0, .int 0, .ref n3, .ref n4, .ref n5, .ref n6, .ref n7, .int 0, .int 0, .int 0, .int 0, .int 0, .int 0, .int 0, .ref n15, .int 0, .ref n17, .int 0, .ref n19, .ref n20, .int (-1), .int 0, .int 0, .ref n24, .int 0, .ref n26, .ref n27, .ref n28, .ref n29, .ref n30, .long 0, .ref n32, .ref n33, .ref n34, .ref n35])), (n20, .inl (tc 0, 126, .inl (fun _ => 0)))] (fun (v : Option Value) (_ : Unit) => v = some (.int (nteF x1))) (fun (_ : Unit) => []) 0 0 := by
  refine Ct.start (by decide) (Nat.le_of_ble_eq_true rfl) (fun p e s m below meth c A ls hx hb hr hlk hin hml hown hts hK hX hP hD hA hl hS => ?_)
  have hl : lv_has ls 5 [(0, .ref h0), (1, .int x1), (2, .int x2), (3, .int x3)] := hl
  refine lv_iload_n hx hb dX12_note_0 rfl (lv_at hl 1 rfl) ?_
  refine lv_iconst (v := (-1)) hx hb dX12_note_1 (by decide) ?_
  refine lv_icmp_ne (tgt := 15) hx hb dX12_note_2 (by decide) (fun c_1 => ?_) (fun c_1 => ?_)
  · skip
    refine lv_iload_n hx hb dX12_note_15 rfl (lv_at hl 1 rfl) ?_
    refine lv_i2l (v := (x1).toInt64) hx hb dX12_note_16 rfl ?_
    refine lv_lconst (v := 0) hx hb dX12_note_17 (by decide) ?_
    refine lv_ldc2 hx hb hown (hts _ k_1553) dX12_note_18 ?_
    refine cS (As := [.long (x1).toInt64, .long 0, .long 60]) (rest := []) (wr := [(h0, .inr (12, [.ref n0, .int 0, .int 0, .ref n3, .ref n4, .ref n5, .ref n6, .ref n7, .int 0, .int 0, .int 0, .int 0, .int 0, .int 0, .int 0, .ref n15, .int 0, .ref n17, .int 0, .ref n19, .ref n20, .int (-1), .int 0, .int 0, .ref n24, .int 0, .ref n26, .ref n27, .ref n28, .ref n29, .ref n30, .long 0, .ref n32, .ref n33, .ref n34, .ref n35])), (n20, .inl (tc 0, 126, .inl (fun _ => 0)))]) ⟨hx, hb, hml, hown, hts⟩ hK hX hA (ct_X12_in l D tc sk (x1).toInt64 0 60) k_1259 k_1257 k_1258 k_106 pl_X12_in ⟨Nat.le_of_ble_eq_true rfl, Nat.le_of_ble_eq_true rfl⟩ rfl rfl  hP hD hS [] [0, 1] rfl rfl rfl rfl rfl (by decide) rfl hl.1 rfl (Nat.le_of_ble_eq_true rfl) dX12_note_21 ⟨Nat.le_of_ble_eq_true rfl, Nat.le_of_ble_eq_true rfl⟩ (fun v_2 u_3 H locs hv_4 hP hD hS => ?_)
    obtain rfl : v_2 = some (.int (inF ((x1).toInt64) 0 60)) := hv_4
    refine W.eq (g2 := F0 m 24 ls [.int (inF ((x1).toInt64) 0 60)]) rfl ?_
    have hP : va_P D classes [(h0, .inr (12, [.ref n0, .int 0, .int 0, .ref n3, .ref n4, .ref n5, .ref n6, .ref n7, .int 0, .int 0, .int 0, .int 0, .int 0, .int 0, .int 0, .ref n15, .int 0, .ref n17, .int 0, .ref n19, .ref n20, .int (-1), .int 0, .int 0, .ref n24, .int 0, .ref n26, .ref n27, .ref n28, .ref n29, .ref n30, .long 0, .ref n32, .ref n33, .ref n34, .ref n35])), (n20, .inl (tc 0, 126, .inl (fun _ => 0)))] H := hP
    have hD : va_D A [(h0, .inr (12, [.ref n0, .int 0, .int 0, .ref n3, .ref n4, .ref n5, .ref n6, .ref n7, .int 0, .int 0, .int 0, .int 0, .int 0, .int 0, .int 0, .ref n15, .int 0, .ref n17, .int 0, .ref n19, .ref n20, .int (-1), .int 0, .int 0, .ref n24, .int 0, .ref n26, .ref n27, .ref n28, .ref n29, .ref n30, .long 0, .ref n32, .ref n33, .ref n34, .ref n35])), (n20, .inl (tc 0, 126, .inl (fun _ => 0)))] := hD
    refine lv_if_eq (tgt := 57) hx hb dX12_note_24 (by decide) (fun c_5 => ?_) (fun c_5 => ?_)
    · skip
      refine lv_bipush (v := (-2)) hx hb dX12_note_57 (by decide) ?_
      have hp_6 : nteF x1 = (-2) := by simp [nteF, c_1, c_5]
      exact retI (v := (-2)) hx hb hr hlk (rfl) hP hD hS () (by rw [hp_6]) [] rfl rfl dX12_note_59 (Nat.le_of_ble_eq_true rfl) (Nat.le_of_ble_eq_true rfl) rfl
    · skip
      refine lv_aload_n hx hb dX12_note_27 rfl (lv_at hl 0 rfl) ?_
      refine lv_iload_n hx hb dX12_note_28 rfl (lv_at hl 2 rfl) ?_
      refine cV (a := h0) (As := [.int x2]) (rest := []) (wr := []) ⟨hx, hb, hml, hown, hts⟩ hK hX hA (ct_X12_isBuyer l D tc sk h0 n0 n3 n4 n5 n6 n7 n15 n17 n19 n20 n24 n26 n27 n28 n29 n30 n32 n33 n34 n35 x2) k_1375 k_1372 k_1374 k_58 k_106 pl_X12_isBuyer ⟨Nat.le_of_ble_eq_true rfl, Nat.le_of_ble_eq_true rfl⟩ rfl rfl (va_recv hK hP (ci := 12) (q0 := 0) rfl rfl) hP hD hS [0, 1] [] rfl rfl rfl rfl rfl (by decide) rfl hl.1 rfl (Nat.le_of_ble_eq_true rfl) dX12_note_29 ⟨Nat.le_of_ble_eq_true rfl, Nat.le_of_ble_eq_true rfl⟩ (fun v_7 u_8 H locs hv_9 hP hD hS => ?_)
      obtain rfl : v_7 = some (.int 0) := hv_9
      refine W.eq (g2 := F0 m 32 ls [.int 0]) rfl ?_
      have hP : va_P D classes [(h0, .inr (12, [.ref n0, .int 0, .int 0, .ref n3, .ref n4, .ref n5, .ref n6, .ref n7, .int 0, .int 0, .int 0, .int 0, .int 0, .int 0, .int 0, .ref n15, .int 0, .ref n17, .int 0, .ref n19, .ref n20, .int (-1), .int 0, .int 0, .ref n24, .int 0, .ref n26, .ref n27, .ref n28, .ref n29, .ref n30, .long 0, .ref n32, .ref n33, .ref n34, .ref n35])), (n20, .inl (tc 0, 126, .inl (fun _ => 0)))] H := hP
      have hD : va_D A [(h0, .inr (12, [.ref n0, .int 0, .int 0, .ref n3, .ref n4, .ref n5, .ref n6, .ref n7, .int 0, .int 0, .int 0, .int 0, .int 0, .int 0, .int 0, .ref n15, .int 0, .ref n17, .int 0, .ref n19, .ref n20, .int (-1), .int 0, .int 0, .ref n24, .int 0, .ref n26, .ref n27, .ref n28, .ref n29, .ref n30, .long 0, .ref n32, .ref n33, .ref n34, .ref n35])), (n20, .inl (tc 0, 126, .inl (fun _ => 0)))] := hD
      refine lv_if_eq (tgt := 57) hx hb dX12_note_32 (by decide) (fun c_10 => ?_) (fun c_10 => absurd c_10 (by decide))
      refine lv_bipush (v := (-2)) hx hb dX12_note_57 (by decide) ?_
      have hp_11 : nteF x1 = (-2) := by simp [nteF, c_1, c_5]
      exact retI (v := (-2)) hx hb hr hlk (rfl) hP hD hS () (by rw [hp_11]) [] rfl rfl dX12_note_59 (Nat.le_of_ble_eq_true rfl) (Nat.le_of_ble_eq_true rfl) rfl
  · skip
    refine lv_aload_n hx hb dX12_note_5 rfl (lv_at hl 0 rfl) ?_
    refine gf_X12_39 hx hb hts hown hK hP 0 rfl rfl dX12_note_6 ?_
    refine lv_bipush (v := 125) hx hb dX12_note_9 (by decide) ?_
    refine lv_iconst (v := 0) hx hb dX12_note_11 (by decide) ?_
    refine st_int hx hb hK hP hD hS 1 0 rfl rfl (vin_dec (by decide +kernel)) dX12_note_12 (fun g_12 H locs eg_12 hP hD hS => ?_)
    have hP : va_P D classes [(h0, .inr (12, [.ref n0, .int 0, .int 0, .ref n3, .ref n4, .ref n5, .ref n6, .ref n7, .int 0, .int 0, .int 0, .int 0, .int 0, .int 0, .int 0, .ref n15, .int 0, .ref n17, .int 0, .ref n19, .ref n20, .int (-1), .int 0, .int 0, .ref n24, .int 0, .ref n26, .ref n27, .ref n28, .ref n29, .ref n30, .long 0, .ref n32, .ref n33, .ref n34, .ref n35])), (n20, .inl (tc 0, 126, .inl g_12))] H := hP
    have hD : va_D A [(h0, .inr (12, [.ref n0, .int 0, .int 0, .ref n3, .ref n4, .ref n5, .ref n6, .ref n7, .int 0, .int 0, .int 0, .int 0, .int 0, .int 0, .int 0, .ref n15, .int 0, .ref n17, .int 0, .ref n19, .ref n20, .int (-1), .int 0, .int 0, .ref n24, .int 0, .ref n26, .ref n27, .ref n28, .ref n29, .ref n30, .long 0, .ref n32, .ref n33, .ref n34, .ref n35])), (n20, .inl (tc 0, 126, .inl g_12))] := hD
    refine lv_iconst (v := 0) hx hb dX12_note_13 (by decide) ?_
    have hp_13 : nteF x1 = 0 := by simp [nteF, c_1]
    exact retI (v := 0) hx hb hr hlk (rfl) hP hD hS () (by rw [hp_13]) [] rfl rfl dX12_note_14 (Nat.le_of_ble_eq_true rfl) (Nat.le_of_ble_eq_true rfl) rfl
set_option maxHeartbeats 4000000 in
set_option maxRecDepth 100000 in
theorem ct_X12_count (l : Launch) (D : va_G) (tc : Nat → ClassId) (sk : (Nat → Nat) × (Nat → Nat)) (h0 : Nat) (n0 : Nat) (n3 : Nat) (n4 : Nat) (n5 : Nat) (n6 : Nat) (n7 : Nat) (n15 : Nat) (n17 : Nat) (n19 : Nat) (n20 : Nat) (n24 : Nat) (n26 : Nat) (n27 : Nat) (n28 : Nat) (n29 : Nat) (n30 : Nat) (n32 : Nat) (n33 : Nat) (n34 : Nat) (n35 : Nat) (x1 : Int32)  : Ct l yX12_count cX12_count 4 (some .int) { frames := 2, cells := 0, slots := 0, locals := 40 } D tc sk [.ref h0, .int x1] [(h0, .inr (12, [.ref n0, .int 0, .int 0, .ref n3, .ref n4, .ref n5, .ref n6, .ref n7, .int 0, .int 0, .int 0, .int 0, .int 0, .int 0, .int 0, .ref n15, .int 0, .ref n17, .int 0, .ref n19, .ref n20, .int (-1), .int 0, .int 0, .ref n24, .int 0, .ref n26, .ref n27, .ref n28, .ref n29, .ref n30, .long 0, .ref n32, .ref n33, .ref n34, .ref n35])), (n20, .inl (tc 0, 126, .inl (fun _ => 0)))] (fun (v : Option Value) (_ : Unit) => v = some (.int (cntF x1))) (fun (_ : Unit) => []) 0 0 := by
  refine Ct.start (by decide) (Nat.le_of_ble_eq_true rfl) (fun p e s m below meth c A ls hx hb hr hlk hin hml hown hts hK hX hP hD hA hl hS => ?_)
  have hl : lv_has ls 4 [(0, .ref h0), (1, .int x1)] := hl
  refine lv_iconst (v := 0) hx hb dX12_count_0 (by decide) ?_
  refine lv_istore_n (lv' := [(2, .int 0), (0, .ref h0), (1, .int x1)]) hx hb dX12_count_1 rfl hl (by decide) rfl (fun ls hl => ?_)
  refine lv_iload_n hx hb dX12_count_2 rfl (lv_at hl 2 rfl) ?_
  by_cases c_1 : x1 = 0
  · skip
    subst c_1
    refine lv_tableIn (off := 77) (tgt := 80) hx hb dX12_count_3 (by decide) (by decide) (by decide) (by decide) ?_
    refine lv_aload_n hx hb dX12_count_80 rfl (lv_at hl 1 rfl) ?_
    refine gf_X12_39 hx hb hts hown hK hP 0 rfl rfl dX12_count_81 ?_
    refine lv_iload_n hx hb dX12_count_84 rfl (lv_at hl 2 rfl) ?_
    refine lv_iconst (v := 1) hx hb dX12_count_85 (by decide) ?_
    refine lv_iadd hx hb dX12_count_86 ?_
    refine lv_lit (v := 1) (by decide) ?_
    refine va_iald hx hb hK hP 1 0 rfl rfl (vin_dec (by decide +kernel)) dX12_count_87 ?_
    refine lv_lit (v := 0) rfl ?_
    have hp_2 : cntF 0 = 0 := by decide
    exact retI (v := 0) hx hb hr hlk (rfl) hP hD hS () (by rw [hp_2]) [] rfl rfl dX12_count_88 (Nat.le_of_ble_eq_true rfl) (Nat.le_of_ble_eq_true rfl) rfl
  · skip
    by_cases c_3 : x1 = 1
    · skip
      subst c_3
      refine lv_tableIn (off := 77) (tgt := 80) hx hb dX12_count_3 (by decide) (by decide) (by decide) (by decide) ?_
      refine lv_aload_n hx hb dX12_count_80 rfl (lv_at hl 1 rfl) ?_
      refine gf_X12_39 hx hb hts hown hK hP 0 rfl rfl dX12_count_81 ?_
      refine lv_iload_n hx hb dX12_count_84 rfl (lv_at hl 2 rfl) ?_
      refine lv_iconst (v := 1) hx hb dX12_count_85 (by decide) ?_
      refine lv_iadd hx hb dX12_count_86 ?_
      refine lv_lit (v := 2) (by decide) ?_
      refine va_iald hx hb hK hP 1 0 rfl rfl (vin_dec (by decide +kernel)) dX12_count_87 ?_
      refine lv_lit (v := 0) rfl ?_
      have hp_4 : cntF 1 = 0 := by decide
      exact retI (v := 0) hx hb hr hlk (rfl) hP hD hS () (by rw [hp_4]) [] rfl rfl dX12_count_88 (Nat.le_of_ble_eq_true rfl) (Nat.le_of_ble_eq_true rfl) rfl
    · skip
      by_cases c_5 : x1 = 2
      · skip
        subst c_5
        refine lv_tableIn (off := 77) (tgt := 80) hx hb dX12_count_3 (by decide) (by decide) (by decide) (by decide) ?_
        refine lv_aload_n hx hb dX12_count_80 rfl (lv_at hl 1 rfl) ?_
        refine gf_X12_39 hx hb hts hown hK hP 0 rfl rfl dX12_count_81 ?_
        refine lv_iload_n hx hb dX12_count_84 rfl (lv_at hl 2 rfl) ?_
        refine lv_iconst (v := 1) hx hb dX12_count_85 (by decide) ?_
        refine lv_iadd hx hb dX12_count_86 ?_
        refine lv_lit (v := 3) (by decide) ?_
        refine va_iald hx hb hK hP 1 0 rfl rfl (vin_dec (by decide +kernel)) dX12_count_87 ?_
        refine lv_lit (v := 0) rfl ?_
        have hp_6 : cntF 2 = 0 := by decide
        exact retI (v := 0) hx hb hr hlk (rfl) hP hD hS () (by rw [hp_6]) [] rfl rfl dX12_count_88 (Nat.le_of_ble_eq_true rfl) (Nat.le_of_ble_eq_true rfl) rfl
      · skip
        by_cases c_7 : x1 = 3
        · skip
          subst c_7
          refine lv_tableIn (off := 86) (tgt := 89) hx hb dX12_count_3 (by decide) (by decide) (by decide) (by decide) ?_
          refine lv_aload_n hx hb dX12_count_89 rfl (lv_at hl 1 rfl) ?_
          refine gf_X12_256 hx hb hts hown hK hP 0 rfl rfl dX12_count_90 ?_
          have hp_8 : cntF 3 = 0 := by decide
          exact retI (v := 0) hx hb hr hlk (rfl) hP hD hS () (by rw [hp_8]) [] rfl rfl dX12_count_93 (Nat.le_of_ble_eq_true rfl) (Nat.le_of_ble_eq_true rfl) rfl
        · skip
          by_cases c_9 : x1 = 4
          · skip
            subst c_9
            refine lv_tableIn (off := 91) (tgt := 94) hx hb dX12_count_3 (by decide) (by decide) (by decide) (by decide) ?_
            refine lv_aload_n hx hb dX12_count_94 rfl (lv_at hl 1 rfl) ?_
            refine gf_X12_42 hx hb hts hown hK hP 0 rfl rfl dX12_count_95 ?_
            have hp_10 : cntF 4 = (-1) := by decide
            exact retI (v := (-1)) hx hb hr hlk (rfl) hP hD hS () (by rw [hp_10]) [] rfl rfl dX12_count_98 (Nat.le_of_ble_eq_true rfl) (Nat.le_of_ble_eq_true rfl) rfl
          · skip
            by_cases c_11 : x1 = 5
            · skip
              subst c_11
              refine lv_tableIn (off := 96) (tgt := 99) hx hb dX12_count_3 (by decide) (by decide) (by decide) (by decide) ?_
              refine lv_aload_n hx hb dX12_count_99 rfl (lv_at hl 1 rfl) ?_
              refine gf_X12_39 hx hb hts hown hK hP 0 rfl rfl dX12_count_100 ?_
              refine lv_bipush (v := 10) hx hb dX12_count_103 (by decide) ?_
              refine va_iald hx hb hK hP 1 0 rfl rfl (vin_dec (by decide +kernel)) dX12_count_105 ?_
              refine lv_lit (v := 0) rfl ?_
              have hp_12 : cntF 5 = 0 := by decide
              exact retI (v := 0) hx hb hr hlk (rfl) hP hD hS () (by rw [hp_12]) [] rfl rfl dX12_count_106 (Nat.le_of_ble_eq_true rfl) (Nat.le_of_ble_eq_true rfl) rfl
            · skip
              by_cases c_13 : x1 = 6
              · skip
                subst c_13
                refine lv_tableIn (off := 104) (tgt := 107) hx hb dX12_count_3 (by decide) (by decide) (by decide) (by decide) ?_
                refine lv_aload_n hx hb dX12_count_107 rfl (lv_at hl 1 rfl) ?_
                refine cV (a := h0) (As := []) (rest := []) (wr := []) ⟨hx, hb, hml, hown, hts⟩ hK hX hA (ct_X12_clock l D tc sk h0 n0 n3 n4 n5 n6 n7 n15 n17 n19 n20 n24 n26 n27 n28 n29 n30 n32 n33 n34 n35) k_1435 k_1432 k_1434 k_70 k_106 pl_X12_clock ⟨Nat.le_of_ble_eq_true rfl, Nat.le_of_ble_eq_true rfl⟩ rfl rfl (va_recv hK hP (ci := 12) (q0 := 0) rfl rfl) hP hD hS [0, 1] [] rfl rfl rfl rfl rfl (by decide) rfl hl.1 rfl (Nat.le_of_ble_eq_true rfl) dX12_count_108 ⟨Nat.le_of_ble_eq_true rfl, Nat.le_of_ble_eq_true rfl⟩ (fun v_14 u_15 H locs hv_16 hP hD hS => ?_)
                obtain rfl : v_14 = some (.int 0) := hv_16
                refine W.eq (g2 := F0 m 111 ls [.int 0]) rfl ?_
                have hP : va_P D classes [(h0, .inr (12, [.ref n0, .int 0, .int 0, .ref n3, .ref n4, .ref n5, .ref n6, .ref n7, .int 0, .int 0, .int 0, .int 0, .int 0, .int 0, .int 0, .ref n15, .int 0, .ref n17, .int 0, .ref n19, .ref n20, .int (-1), .int 0, .int 0, .ref n24, .int 0, .ref n26, .ref n27, .ref n28, .ref n29, .ref n30, .long 0, .ref n32, .ref n33, .ref n34, .ref n35])), (n20, .inl (tc 0, 126, .inl (fun _ => 0)))] H := hP
                have hD : va_D A [(h0, .inr (12, [.ref n0, .int 0, .int 0, .ref n3, .ref n4, .ref n5, .ref n6, .ref n7, .int 0, .int 0, .int 0, .int 0, .int 0, .int 0, .int 0, .ref n15, .int 0, .ref n17, .int 0, .ref n19, .ref n20, .int (-1), .int 0, .int 0, .ref n24, .int 0, .ref n26, .ref n27, .ref n28, .ref n29, .ref n30, .long 0, .ref n32, .ref n33, .ref n34, .ref n35])), (n20, .inl (tc 0, 126, .inl (fun _ => 0)))] := hD
                have hp_17 : cntF 6 = 0 := by decide
                exact retI (v := 0) hx hb hr hlk (rfl) hP hD hS () (by rw [hp_17]) [] rfl rfl dX12_count_111 (Nat.le_of_ble_eq_true rfl) (Nat.le_of_ble_eq_true rfl) rfl
              · skip
                by_cases c_18 : x1 = 7
                · skip
                  subst c_18
                  refine lv_tableIn (off := 109) (tgt := 112) hx hb dX12_count_3 (by decide) (by decide) (by decide) (by decide) ?_
                  refine lv_aload_n hx hb dX12_count_112 rfl (lv_at hl 1 rfl) ?_
                  refine gf_X12_39 hx hb hts hown hK hP 0 rfl rfl dX12_count_113 ?_
                  refine lv_bipush (v := 11) hx hb dX12_count_116 (by decide) ?_
                  refine va_iald hx hb hK hP 1 0 rfl rfl (vin_dec (by decide +kernel)) dX12_count_118 ?_
                  refine lv_lit (v := 0) rfl ?_
                  have hp_19 : cntF 7 = 0 := by decide
                  exact retI (v := 0) hx hb hr hlk (rfl) hP hD hS () (by rw [hp_19]) [] rfl rfl dX12_count_119 (Nat.le_of_ble_eq_true rfl) (Nat.le_of_ble_eq_true rfl) rfl
                · skip
                  by_cases c_20 : x1 = 8
                  · skip
                    subst c_20
                    refine lv_tableIn (off := 117) (tgt := 120) hx hb dX12_count_3 (by decide) (by decide) (by decide) (by decide) ?_
                    refine lv_aload_n hx hb dX12_count_120 rfl (lv_at hl 1 rfl) ?_
                    refine gf_X12_39 hx hb hts hown hK hP 0 rfl rfl dX12_count_121 ?_
                    refine lv_bipush (v := 36) hx hb dX12_count_124 (by decide) ?_
                    refine lv_aload_n hx hb dX12_count_126 rfl (lv_at hl 1 rfl) ?_
                    refine cV (a := h0) (As := []) (rest := [.int 36, .ref n20]) (wr := []) ⟨hx, hb, hml, hown, hts⟩ hK hX hA (ct_X12_clock l D tc sk h0 n0 n3 n4 n5 n6 n7 n15 n17 n19 n20 n24 n26 n27 n28 n29 n30 n32 n33 n34 n35) k_1435 k_1432 k_1434 k_70 k_106 pl_X12_clock ⟨Nat.le_of_ble_eq_true rfl, Nat.le_of_ble_eq_true rfl⟩ rfl rfl (va_recv hK hP (ci := 12) (q0 := 0) rfl rfl) hP hD hS [0, 1] [] rfl rfl rfl rfl rfl (by decide) rfl hl.1 rfl (Nat.le_of_ble_eq_true rfl) dX12_count_127 ⟨Nat.le_of_ble_eq_true rfl, Nat.le_of_ble_eq_true rfl⟩ (fun v_21 u_22 H locs hv_23 hP hD hS => ?_)
                    obtain rfl : v_21 = some (.int 0) := hv_23
                    refine W.eq (g2 := F0 m 130 ls [.int 0, .int 36, .ref n20]) rfl ?_
                    have hP : va_P D classes [(h0, .inr (12, [.ref n0, .int 0, .int 0, .ref n3, .ref n4, .ref n5, .ref n6, .ref n7, .int 0, .int 0, .int 0, .int 0, .int 0, .int 0, .int 0, .ref n15, .int 0, .ref n17, .int 0, .ref n19, .ref n20, .int (-1), .int 0, .int 0, .ref n24, .int 0, .ref n26, .ref n27, .ref n28, .ref n29, .ref n30, .long 0, .ref n32, .ref n33, .ref n34, .ref n35])), (n20, .inl (tc 0, 126, .inl (fun _ => 0)))] H := hP
                    have hD : va_D A [(h0, .inr (12, [.ref n0, .int 0, .int 0, .ref n3, .ref n4, .ref n5, .ref n6, .ref n7, .int 0, .int 0, .int 0, .int 0, .int 0, .int 0, .int 0, .ref n15, .int 0, .ref n17, .int 0, .ref n19, .ref n20, .int (-1), .int 0, .int 0, .ref n24, .int 0, .ref n26, .ref n27, .ref n28, .ref n29, .ref n30, .long 0, .ref n32, .ref n33, .ref n34, .ref n35])), (n20, .inl (tc 0, 126, .inl (fun _ => 0)))] := hD
                    refine lv_iadd hx hb dX12_count_130 ?_
                    refine lv_lit (v := 36) (by decide) ?_
                    refine va_iald hx hb hK hP 1 0 rfl rfl (vin_dec (by decide +kernel)) dX12_count_131 ?_
                    refine lv_lit (v := 0) rfl ?_
                    have hp_24 : cntF 8 = 0 := by decide
                    exact retI (v := 0) hx hb hr hlk (rfl) hP hD hS () (by rw [hp_24]) [] rfl rfl dX12_count_132 (Nat.le_of_ble_eq_true rfl) (Nat.le_of_ble_eq_true rfl) rfl
                  · skip
                    by_cases c_25 : x1 = 9
                    · skip
                      subst c_25
                      refine lv_tableIn (off := 130) (tgt := 133) hx hb dX12_count_3 (by decide) (by decide) (by decide) (by decide) ?_
                      refine lv_aload_n hx hb dX12_count_133 rfl (lv_at hl 1 rfl) ?_
                      refine cV (a := h0) (As := []) (rest := []) (wr := []) ⟨hx, hb, hml, hown, hts⟩ hK hX hA (ct_X12_soldAll l D tc sk h0 n0 n3 n4 n5 n6 n7 n15 n17 n19 n20 n24 n26 n27 n28 n29 n30 n32 n33 n34 n35) k_1439 k_1436 k_1438 k_71 k_106 pl_X12_soldAll ⟨Nat.le_of_ble_eq_true rfl, Nat.le_of_ble_eq_true rfl⟩ rfl rfl (va_recv hK hP (ci := 12) (q0 := 0) rfl rfl) hP hD hS [0, 1] [] rfl rfl rfl rfl rfl (by decide) rfl hl.1 rfl (Nat.le_of_ble_eq_true rfl) dX12_count_134 ⟨Nat.le_of_ble_eq_true rfl, Nat.le_of_ble_eq_true rfl⟩ (fun v_26 u_27 H locs hv_28 hP hD hS => ?_)
                      obtain rfl : v_26 = some (.int 0) := hv_28
                      refine W.eq (g2 := F0 m 137 ls [.int 0]) rfl ?_
                      have hP : va_P D classes [(h0, .inr (12, [.ref n0, .int 0, .int 0, .ref n3, .ref n4, .ref n5, .ref n6, .ref n7, .int 0, .int 0, .int 0, .int 0, .int 0, .int 0, .int 0, .ref n15, .int 0, .ref n17, .int 0, .ref n19, .ref n20, .int (-1), .int 0, .int 0, .ref n24, .int 0, .ref n26, .ref n27, .ref n28, .ref n29, .ref n30, .long 0, .ref n32, .ref n33, .ref n34, .ref n35])), (n20, .inl (tc 0, 126, .inl (fun _ => 0)))] H := hP
                      have hD : va_D A [(h0, .inr (12, [.ref n0, .int 0, .int 0, .ref n3, .ref n4, .ref n5, .ref n6, .ref n7, .int 0, .int 0, .int 0, .int 0, .int 0, .int 0, .int 0, .ref n15, .int 0, .ref n17, .int 0, .ref n19, .ref n20, .int (-1), .int 0, .int 0, .ref n24, .int 0, .ref n26, .ref n27, .ref n28, .ref n29, .ref n30, .long 0, .ref n32, .ref n33, .ref n34, .ref n35])), (n20, .inl (tc 0, 126, .inl (fun _ => 0)))] := hD
                      have hp_29 : cntF 9 = 0 := by decide
                      exact retI (v := 0) hx hb hr hlk (rfl) hP hD hS () (by rw [hp_29]) [] rfl rfl dX12_count_137 (Nat.le_of_ble_eq_true rfl) (Nat.le_of_ble_eq_true rfl) rfl
                    · skip
                      by_cases c_30 : x1 = 10
                      · skip
                        subst c_30
                        refine lv_tableIn (off := 135) (tgt := 138) hx hb dX12_count_3 (by decide) (by decide) (by decide) (by decide) ?_
                        refine lv_aload_n hx hb dX12_count_138 rfl (lv_at hl 1 rfl) ?_
                        refine cV (a := h0) (As := []) (rest := []) (wr := []) ⟨hx, hb, hml, hown, hts⟩ hK hX hA (ct_X12_metAll l D tc sk h0 n0 n3 n4 n5 n6 n7 n15 n17 n19 n20 n24 n26 n27 n28 n29 n30 n32 n33 n34 n35) k_1646 k_1643 k_1645 k_93 k_106 pl_X12_metAll ⟨Nat.le_of_ble_eq_true rfl, Nat.le_of_ble_eq_true rfl⟩ rfl rfl (va_recv hK hP (ci := 12) (q0 := 0) rfl rfl) hP hD hS [0, 1] [] rfl rfl rfl rfl rfl (by decide) rfl hl.1 rfl (Nat.le_of_ble_eq_true rfl) dX12_count_139 ⟨Nat.le_of_ble_eq_true rfl, Nat.le_of_ble_eq_true rfl⟩ (fun v_31 u_32 H locs hv_33 hP hD hS => ?_)
                        obtain rfl : v_31 = some (.int 0) := hv_33
                        refine W.eq (g2 := F0 m 142 ls [.int 0]) rfl ?_
                        have hP : va_P D classes [(h0, .inr (12, [.ref n0, .int 0, .int 0, .ref n3, .ref n4, .ref n5, .ref n6, .ref n7, .int 0, .int 0, .int 0, .int 0, .int 0, .int 0, .int 0, .ref n15, .int 0, .ref n17, .int 0, .ref n19, .ref n20, .int (-1), .int 0, .int 0, .ref n24, .int 0, .ref n26, .ref n27, .ref n28, .ref n29, .ref n30, .long 0, .ref n32, .ref n33, .ref n34, .ref n35])), (n20, .inl (tc 0, 126, .inl (fun _ => 0)))] H := hP
                        have hD : va_D A [(h0, .inr (12, [.ref n0, .int 0, .int 0, .ref n3, .ref n4, .ref n5, .ref n6, .ref n7, .int 0, .int 0, .int 0, .int 0, .int 0, .int 0, .int 0, .ref n15, .int 0, .ref n17, .int 0, .ref n19, .ref n20, .int (-1), .int 0, .int 0, .ref n24, .int 0, .ref n26, .ref n27, .ref n28, .ref n29, .ref n30, .long 0, .ref n32, .ref n33, .ref n34, .ref n35])), (n20, .inl (tc 0, 126, .inl (fun _ => 0)))] := hD
                        have hp_34 : cntF 10 = 0 := by decide
                        exact retI (v := 0) hx hb hr hlk (rfl) hP hD hS () (by rw [hp_34]) [] rfl rfl dX12_count_142 (Nat.le_of_ble_eq_true rfl) (Nat.le_of_ble_eq_true rfl) rfl
                      · skip
                        by_cases c_35 : x1 = 11
                        · skip
                          subst c_35
                          refine lv_tableIn (off := 140) (tgt := 143) hx hb dX12_count_3 (by decide) (by decide) (by decide) (by decide) ?_
                          refine lv_iconst (v := 0) hx hb dX12_count_143 (by decide) ?_
                          refine lv_istore_n (lv' := [(3, .int 0), (2, .int 0), (0, .ref h0), (1, .int 11)]) hx hb dX12_count_144 rfl hl (by decide) rfl (fun ls hl => ?_)
                          refine lv_iload_n hx hb dX12_count_145 rfl (lv_at hl 0 rfl) ?_
                          refine lv_aload_n hx hb dX12_count_146 rfl (lv_at hl 2 rfl) ?_
                          refine gf_X12_39 hx hb hts hown hK hP 0 rfl rfl dX12_count_147 ?_
                          refine lv_iconst (v := 3) hx hb dX12_count_150 (by decide) ?_
                          refine va_iald hx hb hK hP 1 0 rfl rfl (vin_dec (by decide +kernel)) dX12_count_151 ?_
                          refine lv_lit (v := 0) rfl ?_
                          refine lv_icmp_ge (tgt := 179) hx hb dX12_count_152 (by decide) (fun c_36 => ?_) (fun c_36 => absurd c_36 (by decide))
                          refine lv_iload_n hx hb dX12_count_179 rfl (lv_at hl 1 rfl) ?_
                          have hp_37 : cntF 11 = 0 := by decide
                          exact retI (v := 0) hx hb hr hlk (rfl) hP hD hS () (by rw [hp_37]) [] rfl rfl dX12_count_180 (Nat.le_of_ble_eq_true rfl) (Nat.le_of_ble_eq_true rfl) rfl
                        · skip
                          by_cases c_38 : x1 = 12
                          · skip
                            subst c_38
                            refine lv_tableIn (off := 178) (tgt := 181) hx hb dX12_count_3 (by decide) (by decide) (by decide) (by decide) ?_
                            refine lv_aload_n hx hb dX12_count_181 rfl (lv_at hl 1 rfl) ?_
                            refine gf_X12_39 hx hb hts hown hK hP 0 rfl rfl dX12_count_182 ?_
                            refine lv_bipush (v := 125) hx hb dX12_count_185 (by decide) ?_
                            refine va_iald hx hb hK hP 1 0 rfl rfl (vin_dec (by decide +kernel)) dX12_count_187 ?_
                            refine lv_lit (v := 0) rfl ?_
                            have hp_39 : cntF 12 = 0 := by decide
                            exact retI (v := 0) hx hb hr hlk (rfl) hP hD hS () (by rw [hp_39]) [] rfl rfl dX12_count_188 (Nat.le_of_ble_eq_true rfl) (Nat.le_of_ble_eq_true rfl) rfl
                          · skip
                            by_cases c_40 : x1 = 13
                            · skip
                              subst c_40
                              refine lv_tableIn (off := 186) (tgt := 189) hx hb dX12_count_3 (by decide) (by decide) (by decide) (by decide) ?_
                              refine lv_aload_n hx hb dX12_count_189 rfl (lv_at hl 1 rfl) ?_
                              refine gf_X12_265 hx hb hts hown hK hP 0 rfl rfl dX12_count_190 ?_
                              have hp_41 : cntF 13 = 0 := by decide
                              exact retI (v := 0) hx hb hr hlk (rfl) hP hD hS () (by rw [hp_41]) [] rfl rfl dX12_count_193 (Nat.le_of_ble_eq_true rfl) (Nat.le_of_ble_eq_true rfl) rfl
                            · skip
                              by_cases c_42 : x1 = 14
                              · skip
                                subst c_42
                                refine lv_tableIn (off := 191) (tgt := 194) hx hb dX12_count_3 (by decide) (by decide) (by decide) (by decide) ?_
                                refine lv_aload_n hx hb dX12_count_194 rfl (lv_at hl 1 rfl) ?_
                                refine gf_X12_414 hx hb hts hown hK hP 0 rfl rfl dX12_count_195 ?_
                                have hp_43 : cntF 14 = 0 := by decide
                                exact retI (v := 0) hx hb hr hlk (rfl) hP hD hS () (by rw [hp_43]) [] rfl rfl dX12_count_198 (Nat.le_of_ble_eq_true rfl) (Nat.le_of_ble_eq_true rfl) rfl
                              · skip
                                by_cases c_44 : x1 = 15
                                · skip
                                  subst c_44
                                  refine lv_tableIn (off := 196) (tgt := 199) hx hb dX12_count_3 (by decide) (by decide) (by decide) (by decide) ?_
                                  refine lv_aload_n hx hb dX12_count_199 rfl (lv_at hl 1 rfl) ?_
                                  refine gf_X12_77 hx hb hts hown hK hP 0 rfl rfl dX12_count_200 ?_
                                  have hp_45 : cntF 15 = 0 := by decide
                                  exact retI (v := 0) hx hb hr hlk (rfl) hP hD hS () (by rw [hp_45]) [] rfl rfl dX12_count_203 (Nat.le_of_ble_eq_true rfl) (Nat.le_of_ble_eq_true rfl) rfl
                                · skip
                                  have ho_46 : (x1 : Int32).toInt < 0 ∨ 15 < (x1 : Int32).toInt := by
                                    have z_1 : ¬ (x1 : Int32).toInt = (0 : Int32).toInt := fun z => c_1 (Int32.toInt_inj.mp z)
                                    have z_2 : ¬ (x1 : Int32).toInt = (1 : Int32).toInt := fun z => c_3 (Int32.toInt_inj.mp z)
                                    have z_3 : ¬ (x1 : Int32).toInt = (2 : Int32).toInt := fun z => c_5 (Int32.toInt_inj.mp z)
                                    have z_4 : ¬ (x1 : Int32).toInt = (3 : Int32).toInt := fun z => c_7 (Int32.toInt_inj.mp z)
                                    have z_5 : ¬ (x1 : Int32).toInt = (4 : Int32).toInt := fun z => c_9 (Int32.toInt_inj.mp z)
                                    have z_6 : ¬ (x1 : Int32).toInt = (5 : Int32).toInt := fun z => c_11 (Int32.toInt_inj.mp z)
                                    have z_7 : ¬ (x1 : Int32).toInt = (6 : Int32).toInt := fun z => c_13 (Int32.toInt_inj.mp z)
                                    have z_8 : ¬ (x1 : Int32).toInt = (7 : Int32).toInt := fun z => c_18 (Int32.toInt_inj.mp z)
                                    have z_9 : ¬ (x1 : Int32).toInt = (8 : Int32).toInt := fun z => c_20 (Int32.toInt_inj.mp z)
                                    have z_10 : ¬ (x1 : Int32).toInt = (9 : Int32).toInt := fun z => c_25 (Int32.toInt_inj.mp z)
                                    have z_11 : ¬ (x1 : Int32).toInt = (10 : Int32).toInt := fun z => c_30 (Int32.toInt_inj.mp z)
                                    have z_12 : ¬ (x1 : Int32).toInt = (11 : Int32).toInt := fun z => c_35 (Int32.toInt_inj.mp z)
                                    have z_13 : ¬ (x1 : Int32).toInt = (12 : Int32).toInt := fun z => c_38 (Int32.toInt_inj.mp z)
                                    have z_14 : ¬ (x1 : Int32).toInt = (13 : Int32).toInt := fun z => c_40 (Int32.toInt_inj.mp z)
                                    have z_15 : ¬ (x1 : Int32).toInt = (14 : Int32).toInt := fun z => c_42 (Int32.toInt_inj.mp z)
                                    have z_16 : ¬ (x1 : Int32).toInt = (15 : Int32).toInt := fun z => c_44 (Int32.toInt_inj.mp z)
                                    have y_0 : (0 : Int32).toInt = 0 := by decide
                                    have y_1 : (1 : Int32).toInt = 1 := by decide
                                    have y_2 : (2 : Int32).toInt = 2 := by decide
                                    have y_3 : (3 : Int32).toInt = 3 := by decide
                                    have y_4 : (4 : Int32).toInt = 4 := by decide
                                    have y_5 : (5 : Int32).toInt = 5 := by decide
                                    have y_6 : (6 : Int32).toInt = 6 := by decide
                                    have y_7 : (7 : Int32).toInt = 7 := by decide
                                    have y_8 : (8 : Int32).toInt = 8 := by decide
                                    have y_9 : (9 : Int32).toInt = 9 := by decide
                                    have y_10 : (10 : Int32).toInt = 10 := by decide
                                    have y_11 : (11 : Int32).toInt = 11 := by decide
                                    have y_12 : (12 : Int32).toInt = 12 := by decide
                                    have y_13 : (13 : Int32).toInt = 13 := by decide
                                    have y_14 : (14 : Int32).toInt = 14 := by decide
                                    have y_15 : (15 : Int32).toInt = 15 := by decide
                                    omega
                                  refine lv_tableOut (tgt := 204) hx hb dX12_count_3 ho_46 (by decide) ?_
                                  refine lv_iconst (v := (-1)) hx hb dX12_count_204 (by decide) ?_
                                  have hp_47 : cntF x1 = (-1) := by simp [cntF, c_1, c_3, c_5, c_7, c_9, c_11, c_13, c_18, c_20, c_25, c_30, c_35, c_38, c_40, c_42, c_44]
                                  exact retI (v := (-1)) hx hb hr hlk (rfl) hP hD hS () (by rw [hp_47]) [] rfl rfl dX12_count_205 (Nat.le_of_ble_eq_true rfl) (Nat.le_of_ble_eq_true rfl) rfl
set_option maxHeartbeats 4000000 in
set_option maxRecDepth 100000 in
theorem ct_X12_image (l : Launch) (D : va_G) (tc : Nat → ClassId) (sk : (Nat → Nat) × (Nat → Nat)) (h0 : Nat) (n0 : Nat) (n3 : Nat) (n4 : Nat) (n5 : Nat) (n6 : Nat) (n7 : Nat) (n15 : Nat) (n17 : Nat) (n19 : Nat) (n20 : Nat) (n24 : Nat) (n26 : Nat) (n27 : Nat) (n28 : Nat) (n29 : Nat) (n30 : Nat) (n32 : Nat) (n33 : Nat) (n34 : Nat) (n35 : Nat) (x1 : Int32)  : Ct l yX12_image cX12_image 3 (some .int) { frames := 1, cells := 0, slots := 0, locals := 25 } D tc sk [.ref h0, .int x1] [(h0, .inr (12, [.ref n0, .int 0, .int 0, .ref n3, .ref n4, .ref n5, .ref n6, .ref n7, .int 0, .int 0, .int 0, .int 0, .int 0, .int 0, .int 0, .ref n15, .int 0, .ref n17, .int 0, .ref n19, .ref n20, .int (-1), .int 0, .int 0, .ref n24, .int 0, .ref n26, .ref n27, .ref n28, .ref n29, .ref n30, .long 0, .ref n32, .ref n33, .ref n34, .ref n35])), (n20, .inl (tc 0, 126, .inl (fun _ => 0))), (n32, .inl (tc 0, 504, .inl (fun _ => 0))), (n33, .inl (tc 0, 4, .inl (fun _ => 0))), (n34, .inl (tc 0, 4, .inl (fun _ => 0))), (n35, .inl (tc 3, 4, .inl (fun _ => 0)))] (fun (v : Option Value) (_ : Unit) => v = some (.int (imgF x1))) (fun (_ : Unit) => []) 0 0 := by
  refine Ct.start (by decide) (Nat.le_of_ble_eq_true rfl) (fun p e s m below meth c A ls hx hb hr hlk hin hml hown hts hK hX hP hD hA hl hS => ?_)
  have hl : lv_has ls 3 [(0, .ref h0), (1, .int x1)] := hl
  by_cases c_1 : x1 = 0
  · skip
    subst c_1
    refine lv_iload_n hx hb dX12_image_0 rfl (lv_at hl 1 rfl) ?_
    refine lv_i2l (v := 0) hx hb dX12_image_1 (by decide) ?_
    refine lv_lconst (v := 0) hx hb dX12_image_2 (by decide) ?_
    refine lv_ldc2 hx hb hown (hts _ k_1651) dX12_image_3 ?_
    refine cS (As := [.long 0, .long 0, .long 3]) (rest := []) (wr := [(h0, .inr (12, [.ref n0, .int 0, .int 0, .ref n3, .ref n4, .ref n5, .ref n6, .ref n7, .int 0, .int 0, .int 0, .int 0, .int 0, .int 0, .int 0, .ref n15, .int 0, .ref n17, .int 0, .ref n19, .ref n20, .int (-1), .int 0, .int 0, .ref n24, .int 0, .ref n26, .ref n27, .ref n28, .ref n29, .ref n30, .long 0, .ref n32, .ref n33, .ref n34, .ref n35])), (n20, .inl (tc 0, 126, .inl (fun _ => 0))), (n32, .inl (tc 0, 504, .inl (fun _ => 0))), (n33, .inl (tc 0, 4, .inl (fun _ => 0))), (n34, .inl (tc 0, 4, .inl (fun _ => 0))), (n35, .inl (tc 3, 4, .inl (fun _ => 0)))]) ⟨hx, hb, hml, hown, hts⟩ hK hX hA (ct_X12_in l D tc sk 0 0 3) k_1259 k_1257 k_1258 k_106 pl_X12_in ⟨Nat.le_of_ble_eq_true rfl, Nat.le_of_ble_eq_true rfl⟩ rfl rfl  hP hD hS [] [0, 1, 2, 3, 4, 5] rfl rfl rfl rfl rfl (by decide) rfl hl.1 rfl (Nat.le_of_ble_eq_true rfl) dX12_image_6 ⟨Nat.le_of_ble_eq_true rfl, Nat.le_of_ble_eq_true rfl⟩ (fun v_2 u_3 H locs hv_4 hP hD hS => ?_)
    obtain rfl : v_2 = some (.int (inF 0 0 3)) := hv_4
    refine W.eq (g2 := F0 m 9 ls [.int (inF 0 0 3)]) rfl ?_
    have hP : va_P D classes [(h0, .inr (12, [.ref n0, .int 0, .int 0, .ref n3, .ref n4, .ref n5, .ref n6, .ref n7, .int 0, .int 0, .int 0, .int 0, .int 0, .int 0, .int 0, .ref n15, .int 0, .ref n17, .int 0, .ref n19, .ref n20, .int (-1), .int 0, .int 0, .ref n24, .int 0, .ref n26, .ref n27, .ref n28, .ref n29, .ref n30, .long 0, .ref n32, .ref n33, .ref n34, .ref n35])), (n20, .inl (tc 0, 126, .inl (fun _ => 0))), (n32, .inl (tc 0, 504, .inl (fun _ => 0))), (n33, .inl (tc 0, 4, .inl (fun _ => 0))), (n34, .inl (tc 0, 4, .inl (fun _ => 0))), (n35, .inl (tc 3, 4, .inl (fun _ => 0)))] H := hP
    have hD : va_D A [(h0, .inr (12, [.ref n0, .int 0, .int 0, .ref n3, .ref n4, .ref n5, .ref n6, .ref n7, .int 0, .int 0, .int 0, .int 0, .int 0, .int 0, .int 0, .ref n15, .int 0, .ref n17, .int 0, .ref n19, .ref n20, .int (-1), .int 0, .int 0, .ref n24, .int 0, .ref n26, .ref n27, .ref n28, .ref n29, .ref n30, .long 0, .ref n32, .ref n33, .ref n34, .ref n35])), (n20, .inl (tc 0, 126, .inl (fun _ => 0))), (n32, .inl (tc 0, 504, .inl (fun _ => 0))), (n33, .inl (tc 0, 4, .inl (fun _ => 0))), (n34, .inl (tc 0, 4, .inl (fun _ => 0))), (n35, .inl (tc 3, 4, .inl (fun _ => 0)))] := hD
    refine lv_lit (v := 1) (by decide) ?_
    refine lv_if_ne (tgt := 14) hx hb dX12_image_9 (by decide) (fun c_5 => ?_) (fun c_5 => absurd c_5 (by decide))
    refine lv_aload_n hx hb dX12_image_14 rfl (lv_at hl 0 rfl) ?_
    refine gf_X12_74 hx hb hts hown hK hP 0 rfl rfl dX12_image_15 ?_
    refine lv_iload_n hx hb dX12_image_18 rfl (lv_at hl 1 rfl) ?_
    refine lv_iconst (v := 1) hx hb dX12_image_19 (by decide) ?_
    refine st_bool hx hb hK hP hD hS 5 3 rfl rfl (vin_dec (by decide +kernel)) dX12_image_20 (fun g_6 H locs eg_6 hP hD hS => ?_)
    have hP : va_P D classes [(h0, .inr (12, [.ref n0, .int 0, .int 0, .ref n3, .ref n4, .ref n5, .ref n6, .ref n7, .int 0, .int 0, .int 0, .int 0, .int 0, .int 0, .int 0, .ref n15, .int 0, .ref n17, .int 0, .ref n19, .ref n20, .int (-1), .int 0, .int 0, .ref n24, .int 0, .ref n26, .ref n27, .ref n28, .ref n29, .ref n30, .long 0, .ref n32, .ref n33, .ref n34, .ref n35])), (n20, .inl (tc 0, 126, .inl (fun _ => 0))), (n32, .inl (tc 0, 504, .inl (fun _ => 0))), (n33, .inl (tc 0, 4, .inl (fun _ => 0))), (n34, .inl (tc 0, 4, .inl (fun _ => 0))), (n35, .inl (tc 3, 4, .inl g_6))] H := hP
    have hD : va_D A [(h0, .inr (12, [.ref n0, .int 0, .int 0, .ref n3, .ref n4, .ref n5, .ref n6, .ref n7, .int 0, .int 0, .int 0, .int 0, .int 0, .int 0, .int 0, .ref n15, .int 0, .ref n17, .int 0, .ref n19, .ref n20, .int (-1), .int 0, .int 0, .ref n24, .int 0, .ref n26, .ref n27, .ref n28, .ref n29, .ref n30, .long 0, .ref n32, .ref n33, .ref n34, .ref n35])), (n20, .inl (tc 0, 126, .inl (fun _ => 0))), (n32, .inl (tc 0, 504, .inl (fun _ => 0))), (n33, .inl (tc 0, 4, .inl (fun _ => 0))), (n34, .inl (tc 0, 4, .inl (fun _ => 0))), (n35, .inl (tc 3, 4, .inl g_6))] := hD
    refine lv_aload_n hx hb dX12_image_21 rfl (lv_at hl 0 rfl) ?_
    refine gf_X12_68 hx hb hts hown hK hP 0 rfl rfl dX12_image_22 ?_
    refine lv_iload_n hx hb dX12_image_25 rfl (lv_at hl 1 rfl) ?_
    refine lv_aload_n hx hb dX12_image_26 rfl (lv_at hl 0 rfl) ?_
    refine gf_X12_42 hx hb hts hown hK hP 0 rfl rfl dX12_image_27 ?_
    refine st_int hx hb hK hP hD hS 3 0 rfl rfl (vin_dec (by decide +kernel)) dX12_image_30 (fun g_7 H locs eg_7 hP hD hS => ?_)
    have hP : va_P D classes [(h0, .inr (12, [.ref n0, .int 0, .int 0, .ref n3, .ref n4, .ref n5, .ref n6, .ref n7, .int 0, .int 0, .int 0, .int 0, .int 0, .int 0, .int 0, .ref n15, .int 0, .ref n17, .int 0, .ref n19, .ref n20, .int (-1), .int 0, .int 0, .ref n24, .int 0, .ref n26, .ref n27, .ref n28, .ref n29, .ref n30, .long 0, .ref n32, .ref n33, .ref n34, .ref n35])), (n20, .inl (tc 0, 126, .inl (fun _ => 0))), (n32, .inl (tc 0, 504, .inl (fun _ => 0))), (n33, .inl (tc 0, 4, .inl g_7)), (n34, .inl (tc 0, 4, .inl (fun _ => 0))), (n35, .inl (tc 3, 4, .inl g_6))] H := hP
    have hD : va_D A [(h0, .inr (12, [.ref n0, .int 0, .int 0, .ref n3, .ref n4, .ref n5, .ref n6, .ref n7, .int 0, .int 0, .int 0, .int 0, .int 0, .int 0, .int 0, .ref n15, .int 0, .ref n17, .int 0, .ref n19, .ref n20, .int (-1), .int 0, .int 0, .ref n24, .int 0, .ref n26, .ref n27, .ref n28, .ref n29, .ref n30, .long 0, .ref n32, .ref n33, .ref n34, .ref n35])), (n20, .inl (tc 0, 126, .inl (fun _ => 0))), (n32, .inl (tc 0, 504, .inl (fun _ => 0))), (n33, .inl (tc 0, 4, .inl g_7)), (n34, .inl (tc 0, 4, .inl (fun _ => 0))), (n35, .inl (tc 3, 4, .inl g_6))] := hD
    refine lv_aload_n hx hb dX12_image_31 rfl (lv_at hl 0 rfl) ?_
    refine gf_X12_71 hx hb hts hown hK hP 0 rfl rfl dX12_image_32 ?_
    refine lv_iload_n hx hb dX12_image_35 rfl (lv_at hl 1 rfl) ?_
    refine lv_aload_n hx hb dX12_image_36 rfl (lv_at hl 0 rfl) ?_
    refine gf_X12_414 hx hb hts hown hK hP 0 rfl rfl dX12_image_37 ?_
    refine st_int hx hb hK hP hD hS 4 0 rfl rfl (vin_dec (by decide +kernel)) dX12_image_40 (fun g_8 H locs eg_8 hP hD hS => ?_)
    have hP : va_P D classes [(h0, .inr (12, [.ref n0, .int 0, .int 0, .ref n3, .ref n4, .ref n5, .ref n6, .ref n7, .int 0, .int 0, .int 0, .int 0, .int 0, .int 0, .int 0, .ref n15, .int 0, .ref n17, .int 0, .ref n19, .ref n20, .int (-1), .int 0, .int 0, .ref n24, .int 0, .ref n26, .ref n27, .ref n28, .ref n29, .ref n30, .long 0, .ref n32, .ref n33, .ref n34, .ref n35])), (n20, .inl (tc 0, 126, .inl (fun _ => 0))), (n32, .inl (tc 0, 504, .inl (fun _ => 0))), (n33, .inl (tc 0, 4, .inl g_7)), (n34, .inl (tc 0, 4, .inl g_8)), (n35, .inl (tc 3, 4, .inl g_6))] H := hP
    have hD : va_D A [(h0, .inr (12, [.ref n0, .int 0, .int 0, .ref n3, .ref n4, .ref n5, .ref n6, .ref n7, .int 0, .int 0, .int 0, .int 0, .int 0, .int 0, .int 0, .ref n15, .int 0, .ref n17, .int 0, .ref n19, .ref n20, .int (-1), .int 0, .int 0, .ref n24, .int 0, .ref n26, .ref n27, .ref n28, .ref n29, .ref n30, .long 0, .ref n32, .ref n33, .ref n34, .ref n35])), (n20, .inl (tc 0, 126, .inl (fun _ => 0))), (n32, .inl (tc 0, 504, .inl (fun _ => 0))), (n33, .inl (tc 0, 4, .inl g_7)), (n34, .inl (tc 0, 4, .inl g_8)), (n35, .inl (tc 3, 4, .inl g_6))] := hD
    refine lv_iconst (v := 0) hx hb dX12_image_41 (by decide) ?_
    refine lv_istore_n (lv' := [(2, .int 0), (0, .ref h0), (1, .int 0)]) hx hb dX12_image_42 rfl hl (by decide) rfl (fun ls hl => ?_)
    have loop_13 : ∀ (n_11 i_9 : Nat) (g_10 : Nat → Int32) (H : Heap) (locs : List Loc) (ls : Array Slot), i_9 ≤ 126 → 126 + 1 ≤ i_9 + n_11 → va_P D classes [(h0, .inr (12, [.ref n0, .int 0, .int 0, .ref n3, .ref n4, .ref n5, .ref n6, .ref n7, .int 0, .int 0, .int 0, .int 0, .int 0, .int 0, .int 0, .ref n15, .int 0, .ref n17, .int 0, .ref n19, .ref n20, .int (-1), .int 0, .int 0, .ref n24, .int 0, .ref n26, .ref n27, .ref n28, .ref n29, .ref n30, .long 0, .ref n32, .ref n33, .ref n34, .ref n35])), (n20, .inl (tc 0, 126, .inl (fun _ => 0))), (n32, .inl (tc 0, 504, .inl g_10)), (n33, .inl (tc 0, 4, .inl g_7)), (n34, .inl (tc 0, 4, .inl g_8)), (n35, .inl (tc 3, 4, .inl g_6))] H → va_D A [(h0, .inr (12, [.ref n0, .int 0, .int 0, .ref n3, .ref n4, .ref n5, .ref n6, .ref n7, .int 0, .int 0, .int 0, .int 0, .int 0, .int 0, .int 0, .ref n15, .int 0, .ref n17, .int 0, .ref n19, .ref n20, .int (-1), .int 0, .int 0, .ref n24, .int 0, .ref n26, .ref n27, .ref n28, .ref n29, .ref n30, .long 0, .ref n32, .ref n33, .ref n34, .ref n35])), (n20, .inl (tc 0, 126, .inl (fun _ => 0))), (n32, .inl (tc 0, 504, .inl g_10)), (n33, .inl (tc 0, 4, .inl g_7)), (n34, .inl (tc 0, 4, .inl g_8)), (n35, .inl (tc 3, 4, .inl g_6))] → va_S A s.heap H locs → lv_has ls 3 [(2, .int (nI i_9)), (0, .ref h0), (1, .int 0)] → W p l e ({ frames := 1, cells := 0, slots := 0, locals := 25 }) s m ([.ref h0, .int 0].toArray) below meth c H locs 0 0 (MQ below (QW (fun (v : Option Value) (_ : Unit) => v = some (.int (imgF 0))) (BW D (fun (_ : Unit) => []) A) A) ([.ref h0, .int 0].toArray) s 0 0 A) (F0 m 43 ls []) := by
      intro n_11
      induction n_11 with
      | zero =>
        intro i_9 g_10 H locs ls h1 h2
        exact absurd h2 (by omega)
      | succ n_11 ih_12 =>
        intro i_9 g_10 H locs ls hi_14 hn_15 hP hD hS hl
        refine lv_iload_n hx hb dX12_image_43 rfl (lv_at hl 0 rfl) ?_
        refine lv_bipush (v := 126) hx hb dX12_image_44 (by decide) ?_
        refine lv_icmp_ge (tgt := 72) hx hb dX12_image_46 (by decide) (fun c_16 => ?_) (fun c_16 => ?_)
        · skip
          refine lv_aload_n hx hb dX12_image_72 rfl (lv_at hl 1 rfl) ?_
          refine gf_X12_39 hx hb hts hown hK hP 0 rfl rfl dX12_image_73 ?_
          refine lv_bipush (v := 10) hx hb dX12_image_76 (by decide) ?_
          refine va_iald hx hb hK hP 1 0 rfl rfl (vin_dec (by decide +kernel)) dX12_image_78 ?_
          refine lv_lit (v := 0) rfl ?_
          have hp_17 : imgF 0 = 0 := by decide
          exact retI (v := 0) hx hb hr hlk (rfl) hP hD hS () (by rw [hp_17]) [] rfl rfl dX12_image_79 (Nat.le_of_ble_eq_true rfl) (Nat.le_of_ble_eq_true rfl) rfl
        · skip
          refine lv_aload_n hx hb dX12_image_49 rfl (lv_at hl 1 rfl) ?_
          refine gf_X12_65 hx hb hts hown hK hP 0 rfl rfl dX12_image_50 ?_
          refine lv_bipush (v := 126) hx hb dX12_image_53 (by decide) ?_
          refine lv_iload_n hx hb dX12_image_55 rfl (lv_at hl 2 rfl) ?_
          refine lv_imul hx hb dX12_image_56 ?_
          refine lv_lit (v := 0) (by decide) ?_
          refine lv_iload_n hx hb dX12_image_57 rfl (lv_at hl 0 rfl) ?_
          refine lv_iadd hx hb dX12_image_58 ?_
          refine lv_lit (v := (nI i_9)) (nI_addE (0) (i_9) (i_9) (by omega)) ?_
          refine lv_aload_n hx hb dX12_image_59 rfl (lv_at hl 1 rfl) ?_
          refine gf_X12_39 hx hb hts hown hK hP 0 rfl rfl dX12_image_60 ?_
          refine lv_iload_n hx hb dX12_image_63 rfl (lv_at hl 0 rfl) ?_
          have hi_18 : vp_in (nI i_9) 126 := by
            have z_1 := Int32.lt_iff_toInt_lt.mp (Int32.not_le.mp c_16)
            have y_126 : (126 : Int32).toInt = 126 := by decide
            have n_0 : (nI i_9).toInt = ((i_9 : Nat) : Int) := nI_toInt (by omega)
            exact vp_in_nI (by omega) (by omega)
          refine va_iald hx hb hK hP 1 0 rfl rfl hi_18 dX12_image_64 ?_
          refine lv_lit (v := 0) rfl ?_
          have hi_19 : vp_in (nI i_9) 504 := by
            have z_1 := Int32.lt_iff_toInt_lt.mp (Int32.not_le.mp c_16)
            have y_126 : (126 : Int32).toInt = 126 := by decide
            have n_0 : (nI i_9).toInt = ((i_9 : Nat) : Int) := nI_toInt (by omega)
            exact vp_in_nI (by omega) (by omega)
          refine st_int hx hb hK hP hD hS 2 0 rfl rfl hi_19 dX12_image_65 (fun g_20 H locs eg_20 hP hD hS => ?_)
          have hP : va_P D classes [(h0, .inr (12, [.ref n0, .int 0, .int 0, .ref n3, .ref n4, .ref n5, .ref n6, .ref n7, .int 0, .int 0, .int 0, .int 0, .int 0, .int 0, .int 0, .ref n15, .int 0, .ref n17, .int 0, .ref n19, .ref n20, .int (-1), .int 0, .int 0, .ref n24, .int 0, .ref n26, .ref n27, .ref n28, .ref n29, .ref n30, .long 0, .ref n32, .ref n33, .ref n34, .ref n35])), (n20, .inl (tc 0, 126, .inl (fun _ => 0))), (n32, .inl (tc 0, 504, .inl g_20)), (n33, .inl (tc 0, 4, .inl g_7)), (n34, .inl (tc 0, 4, .inl g_8)), (n35, .inl (tc 3, 4, .inl g_6))] H := hP
          have hD : va_D A [(h0, .inr (12, [.ref n0, .int 0, .int 0, .ref n3, .ref n4, .ref n5, .ref n6, .ref n7, .int 0, .int 0, .int 0, .int 0, .int 0, .int 0, .int 0, .ref n15, .int 0, .ref n17, .int 0, .ref n19, .ref n20, .int (-1), .int 0, .int 0, .ref n24, .int 0, .ref n26, .ref n27, .ref n28, .ref n29, .ref n30, .long 0, .ref n32, .ref n33, .ref n34, .ref n35])), (n20, .inl (tc 0, 126, .inl (fun _ => 0))), (n32, .inl (tc 0, 504, .inl g_20)), (n33, .inl (tc 0, 4, .inl g_7)), (n34, .inl (tc 0, 4, .inl g_8)), (n35, .inl (tc 3, 4, .inl g_6))] := hD
          refine lv_iinc (v := (nI (i_9 + 1))) (lv' := [(2, .int (nI (i_9 + 1))), (0, .ref h0), (1, .int 0)]) hx hb dX12_image_66 hl (k := 0) rfl (nI_add (i_9) 1) (by decide) rfl (fun ls hl => ?_)
          refine lv_goto (tgt := 43) hx hb dX12_image_69 (by decide) ?_
          have hlt_21 : i_9 < 126 := by
            have z_1 := Int32.lt_iff_toInt_lt.mp (Int32.not_le.mp c_16)
            have y_126 : (126 : Int32).toInt = 126 := by decide
            have n_0 : (nI i_9).toInt = ((i_9 : Nat) : Int) := nI_toInt (by omega)
            omega
          exact ih_12 (i_9 + 1) g_20 _ _ _ (by omega) (by omega) (hP.sub [0, 1, 2, 3, 4, 5] rfl) (hD.sub [0, 1, 2, 3, 4, 5] rfl rfl) hS (lv_sub hl [0, 1, 2] rfl)
    exact loop_13 (126 + 1) 0 (fun _ => 0) _ _ _ (by omega) (by omega) hP hD hS hl
  · skip
    by_cases c_22 : x1 = 1
    · skip
      subst c_22
      refine lv_iload_n hx hb dX12_image_0 rfl (lv_at hl 1 rfl) ?_
      refine lv_i2l (v := 1) hx hb dX12_image_1 (by decide) ?_
      refine lv_lconst (v := 0) hx hb dX12_image_2 (by decide) ?_
      refine lv_ldc2 hx hb hown (hts _ k_1651) dX12_image_3 ?_
      refine cS (As := [.long 1, .long 0, .long 3]) (rest := []) (wr := [(h0, .inr (12, [.ref n0, .int 0, .int 0, .ref n3, .ref n4, .ref n5, .ref n6, .ref n7, .int 0, .int 0, .int 0, .int 0, .int 0, .int 0, .int 0, .ref n15, .int 0, .ref n17, .int 0, .ref n19, .ref n20, .int (-1), .int 0, .int 0, .ref n24, .int 0, .ref n26, .ref n27, .ref n28, .ref n29, .ref n30, .long 0, .ref n32, .ref n33, .ref n34, .ref n35])), (n20, .inl (tc 0, 126, .inl (fun _ => 0))), (n32, .inl (tc 0, 504, .inl (fun _ => 0))), (n33, .inl (tc 0, 4, .inl (fun _ => 0))), (n34, .inl (tc 0, 4, .inl (fun _ => 0))), (n35, .inl (tc 3, 4, .inl (fun _ => 0)))]) ⟨hx, hb, hml, hown, hts⟩ hK hX hA (ct_X12_in l D tc sk 1 0 3) k_1259 k_1257 k_1258 k_106 pl_X12_in ⟨Nat.le_of_ble_eq_true rfl, Nat.le_of_ble_eq_true rfl⟩ rfl rfl  hP hD hS [] [0, 1, 2, 3, 4, 5] rfl rfl rfl rfl rfl (by decide) rfl hl.1 rfl (Nat.le_of_ble_eq_true rfl) dX12_image_6 ⟨Nat.le_of_ble_eq_true rfl, Nat.le_of_ble_eq_true rfl⟩ (fun v_23 u_24 H locs hv_25 hP hD hS => ?_)
      obtain rfl : v_23 = some (.int (inF 1 0 3)) := hv_25
      refine W.eq (g2 := F0 m 9 ls [.int (inF 1 0 3)]) rfl ?_
      have hP : va_P D classes [(h0, .inr (12, [.ref n0, .int 0, .int 0, .ref n3, .ref n4, .ref n5, .ref n6, .ref n7, .int 0, .int 0, .int 0, .int 0, .int 0, .int 0, .int 0, .ref n15, .int 0, .ref n17, .int 0, .ref n19, .ref n20, .int (-1), .int 0, .int 0, .ref n24, .int 0, .ref n26, .ref n27, .ref n28, .ref n29, .ref n30, .long 0, .ref n32, .ref n33, .ref n34, .ref n35])), (n20, .inl (tc 0, 126, .inl (fun _ => 0))), (n32, .inl (tc 0, 504, .inl (fun _ => 0))), (n33, .inl (tc 0, 4, .inl (fun _ => 0))), (n34, .inl (tc 0, 4, .inl (fun _ => 0))), (n35, .inl (tc 3, 4, .inl (fun _ => 0)))] H := hP
      have hD : va_D A [(h0, .inr (12, [.ref n0, .int 0, .int 0, .ref n3, .ref n4, .ref n5, .ref n6, .ref n7, .int 0, .int 0, .int 0, .int 0, .int 0, .int 0, .int 0, .ref n15, .int 0, .ref n17, .int 0, .ref n19, .ref n20, .int (-1), .int 0, .int 0, .ref n24, .int 0, .ref n26, .ref n27, .ref n28, .ref n29, .ref n30, .long 0, .ref n32, .ref n33, .ref n34, .ref n35])), (n20, .inl (tc 0, 126, .inl (fun _ => 0))), (n32, .inl (tc 0, 504, .inl (fun _ => 0))), (n33, .inl (tc 0, 4, .inl (fun _ => 0))), (n34, .inl (tc 0, 4, .inl (fun _ => 0))), (n35, .inl (tc 3, 4, .inl (fun _ => 0)))] := hD
      refine lv_lit (v := 1) (by decide) ?_
      refine lv_if_ne (tgt := 14) hx hb dX12_image_9 (by decide) (fun c_26 => ?_) (fun c_26 => absurd c_26 (by decide))
      refine lv_aload_n hx hb dX12_image_14 rfl (lv_at hl 0 rfl) ?_
      refine gf_X12_74 hx hb hts hown hK hP 0 rfl rfl dX12_image_15 ?_
      refine lv_iload_n hx hb dX12_image_18 rfl (lv_at hl 1 rfl) ?_
      refine lv_iconst (v := 1) hx hb dX12_image_19 (by decide) ?_
      refine st_bool hx hb hK hP hD hS 5 3 rfl rfl (vin_dec (by decide +kernel)) dX12_image_20 (fun g_27 H locs eg_27 hP hD hS => ?_)
      have hP : va_P D classes [(h0, .inr (12, [.ref n0, .int 0, .int 0, .ref n3, .ref n4, .ref n5, .ref n6, .ref n7, .int 0, .int 0, .int 0, .int 0, .int 0, .int 0, .int 0, .ref n15, .int 0, .ref n17, .int 0, .ref n19, .ref n20, .int (-1), .int 0, .int 0, .ref n24, .int 0, .ref n26, .ref n27, .ref n28, .ref n29, .ref n30, .long 0, .ref n32, .ref n33, .ref n34, .ref n35])), (n20, .inl (tc 0, 126, .inl (fun _ => 0))), (n32, .inl (tc 0, 504, .inl (fun _ => 0))), (n33, .inl (tc 0, 4, .inl (fun _ => 0))), (n34, .inl (tc 0, 4, .inl (fun _ => 0))), (n35, .inl (tc 3, 4, .inl g_27))] H := hP
      have hD : va_D A [(h0, .inr (12, [.ref n0, .int 0, .int 0, .ref n3, .ref n4, .ref n5, .ref n6, .ref n7, .int 0, .int 0, .int 0, .int 0, .int 0, .int 0, .int 0, .ref n15, .int 0, .ref n17, .int 0, .ref n19, .ref n20, .int (-1), .int 0, .int 0, .ref n24, .int 0, .ref n26, .ref n27, .ref n28, .ref n29, .ref n30, .long 0, .ref n32, .ref n33, .ref n34, .ref n35])), (n20, .inl (tc 0, 126, .inl (fun _ => 0))), (n32, .inl (tc 0, 504, .inl (fun _ => 0))), (n33, .inl (tc 0, 4, .inl (fun _ => 0))), (n34, .inl (tc 0, 4, .inl (fun _ => 0))), (n35, .inl (tc 3, 4, .inl g_27))] := hD
      refine lv_aload_n hx hb dX12_image_21 rfl (lv_at hl 0 rfl) ?_
      refine gf_X12_68 hx hb hts hown hK hP 0 rfl rfl dX12_image_22 ?_
      refine lv_iload_n hx hb dX12_image_25 rfl (lv_at hl 1 rfl) ?_
      refine lv_aload_n hx hb dX12_image_26 rfl (lv_at hl 0 rfl) ?_
      refine gf_X12_42 hx hb hts hown hK hP 0 rfl rfl dX12_image_27 ?_
      refine st_int hx hb hK hP hD hS 3 0 rfl rfl (vin_dec (by decide +kernel)) dX12_image_30 (fun g_28 H locs eg_28 hP hD hS => ?_)
      have hP : va_P D classes [(h0, .inr (12, [.ref n0, .int 0, .int 0, .ref n3, .ref n4, .ref n5, .ref n6, .ref n7, .int 0, .int 0, .int 0, .int 0, .int 0, .int 0, .int 0, .ref n15, .int 0, .ref n17, .int 0, .ref n19, .ref n20, .int (-1), .int 0, .int 0, .ref n24, .int 0, .ref n26, .ref n27, .ref n28, .ref n29, .ref n30, .long 0, .ref n32, .ref n33, .ref n34, .ref n35])), (n20, .inl (tc 0, 126, .inl (fun _ => 0))), (n32, .inl (tc 0, 504, .inl (fun _ => 0))), (n33, .inl (tc 0, 4, .inl g_28)), (n34, .inl (tc 0, 4, .inl (fun _ => 0))), (n35, .inl (tc 3, 4, .inl g_27))] H := hP
      have hD : va_D A [(h0, .inr (12, [.ref n0, .int 0, .int 0, .ref n3, .ref n4, .ref n5, .ref n6, .ref n7, .int 0, .int 0, .int 0, .int 0, .int 0, .int 0, .int 0, .ref n15, .int 0, .ref n17, .int 0, .ref n19, .ref n20, .int (-1), .int 0, .int 0, .ref n24, .int 0, .ref n26, .ref n27, .ref n28, .ref n29, .ref n30, .long 0, .ref n32, .ref n33, .ref n34, .ref n35])), (n20, .inl (tc 0, 126, .inl (fun _ => 0))), (n32, .inl (tc 0, 504, .inl (fun _ => 0))), (n33, .inl (tc 0, 4, .inl g_28)), (n34, .inl (tc 0, 4, .inl (fun _ => 0))), (n35, .inl (tc 3, 4, .inl g_27))] := hD
      refine lv_aload_n hx hb dX12_image_31 rfl (lv_at hl 0 rfl) ?_
      refine gf_X12_71 hx hb hts hown hK hP 0 rfl rfl dX12_image_32 ?_
      refine lv_iload_n hx hb dX12_image_35 rfl (lv_at hl 1 rfl) ?_
      refine lv_aload_n hx hb dX12_image_36 rfl (lv_at hl 0 rfl) ?_
      refine gf_X12_414 hx hb hts hown hK hP 0 rfl rfl dX12_image_37 ?_
      refine st_int hx hb hK hP hD hS 4 0 rfl rfl (vin_dec (by decide +kernel)) dX12_image_40 (fun g_29 H locs eg_29 hP hD hS => ?_)
      have hP : va_P D classes [(h0, .inr (12, [.ref n0, .int 0, .int 0, .ref n3, .ref n4, .ref n5, .ref n6, .ref n7, .int 0, .int 0, .int 0, .int 0, .int 0, .int 0, .int 0, .ref n15, .int 0, .ref n17, .int 0, .ref n19, .ref n20, .int (-1), .int 0, .int 0, .ref n24, .int 0, .ref n26, .ref n27, .ref n28, .ref n29, .ref n30, .long 0, .ref n32, .ref n33, .ref n34, .ref n35])), (n20, .inl (tc 0, 126, .inl (fun _ => 0))), (n32, .inl (tc 0, 504, .inl (fun _ => 0))), (n33, .inl (tc 0, 4, .inl g_28)), (n34, .inl (tc 0, 4, .inl g_29)), (n35, .inl (tc 3, 4, .inl g_27))] H := hP
      have hD : va_D A [(h0, .inr (12, [.ref n0, .int 0, .int 0, .ref n3, .ref n4, .ref n5, .ref n6, .ref n7, .int 0, .int 0, .int 0, .int 0, .int 0, .int 0, .int 0, .ref n15, .int 0, .ref n17, .int 0, .ref n19, .ref n20, .int (-1), .int 0, .int 0, .ref n24, .int 0, .ref n26, .ref n27, .ref n28, .ref n29, .ref n30, .long 0, .ref n32, .ref n33, .ref n34, .ref n35])), (n20, .inl (tc 0, 126, .inl (fun _ => 0))), (n32, .inl (tc 0, 504, .inl (fun _ => 0))), (n33, .inl (tc 0, 4, .inl g_28)), (n34, .inl (tc 0, 4, .inl g_29)), (n35, .inl (tc 3, 4, .inl g_27))] := hD
      refine lv_iconst (v := 0) hx hb dX12_image_41 (by decide) ?_
      refine lv_istore_n (lv' := [(2, .int 0), (0, .ref h0), (1, .int 1)]) hx hb dX12_image_42 rfl hl (by decide) rfl (fun ls hl => ?_)
      have loop_34 : ∀ (n_32 i_30 : Nat) (g_31 : Nat → Int32) (H : Heap) (locs : List Loc) (ls : Array Slot), i_30 ≤ 126 → 126 + 1 ≤ i_30 + n_32 → va_P D classes [(h0, .inr (12, [.ref n0, .int 0, .int 0, .ref n3, .ref n4, .ref n5, .ref n6, .ref n7, .int 0, .int 0, .int 0, .int 0, .int 0, .int 0, .int 0, .ref n15, .int 0, .ref n17, .int 0, .ref n19, .ref n20, .int (-1), .int 0, .int 0, .ref n24, .int 0, .ref n26, .ref n27, .ref n28, .ref n29, .ref n30, .long 0, .ref n32, .ref n33, .ref n34, .ref n35])), (n20, .inl (tc 0, 126, .inl (fun _ => 0))), (n32, .inl (tc 0, 504, .inl g_31)), (n33, .inl (tc 0, 4, .inl g_28)), (n34, .inl (tc 0, 4, .inl g_29)), (n35, .inl (tc 3, 4, .inl g_27))] H → va_D A [(h0, .inr (12, [.ref n0, .int 0, .int 0, .ref n3, .ref n4, .ref n5, .ref n6, .ref n7, .int 0, .int 0, .int 0, .int 0, .int 0, .int 0, .int 0, .ref n15, .int 0, .ref n17, .int 0, .ref n19, .ref n20, .int (-1), .int 0, .int 0, .ref n24, .int 0, .ref n26, .ref n27, .ref n28, .ref n29, .ref n30, .long 0, .ref n32, .ref n33, .ref n34, .ref n35])), (n20, .inl (tc 0, 126, .inl (fun _ => 0))), (n32, .inl (tc 0, 504, .inl g_31)), (n33, .inl (tc 0, 4, .inl g_28)), (n34, .inl (tc 0, 4, .inl g_29)), (n35, .inl (tc 3, 4, .inl g_27))] → va_S A s.heap H locs → lv_has ls 3 [(2, .int (nI i_30)), (0, .ref h0), (1, .int 1)] → W p l e ({ frames := 1, cells := 0, slots := 0, locals := 25 }) s m ([.ref h0, .int 1].toArray) below meth c H locs 0 0 (MQ below (QW (fun (v : Option Value) (_ : Unit) => v = some (.int (imgF 1))) (BW D (fun (_ : Unit) => []) A) A) ([.ref h0, .int 1].toArray) s 0 0 A) (F0 m 43 ls []) := by
        intro n_32
        induction n_32 with
        | zero =>
          intro i_30 g_31 H locs ls h1 h2
          exact absurd h2 (by omega)
        | succ n_32 ih_33 =>
          intro i_30 g_31 H locs ls hi_35 hn_36 hP hD hS hl
          refine lv_iload_n hx hb dX12_image_43 rfl (lv_at hl 0 rfl) ?_
          refine lv_bipush (v := 126) hx hb dX12_image_44 (by decide) ?_
          refine lv_icmp_ge (tgt := 72) hx hb dX12_image_46 (by decide) (fun c_37 => ?_) (fun c_37 => ?_)
          · skip
            refine lv_aload_n hx hb dX12_image_72 rfl (lv_at hl 1 rfl) ?_
            refine gf_X12_39 hx hb hts hown hK hP 0 rfl rfl dX12_image_73 ?_
            refine lv_bipush (v := 10) hx hb dX12_image_76 (by decide) ?_
            refine va_iald hx hb hK hP 1 0 rfl rfl (vin_dec (by decide +kernel)) dX12_image_78 ?_
            refine lv_lit (v := 0) rfl ?_
            have hp_38 : imgF 1 = 0 := by decide
            exact retI (v := 0) hx hb hr hlk (rfl) hP hD hS () (by rw [hp_38]) [] rfl rfl dX12_image_79 (Nat.le_of_ble_eq_true rfl) (Nat.le_of_ble_eq_true rfl) rfl
          · skip
            refine lv_aload_n hx hb dX12_image_49 rfl (lv_at hl 1 rfl) ?_
            refine gf_X12_65 hx hb hts hown hK hP 0 rfl rfl dX12_image_50 ?_
            refine lv_bipush (v := 126) hx hb dX12_image_53 (by decide) ?_
            refine lv_iload_n hx hb dX12_image_55 rfl (lv_at hl 2 rfl) ?_
            refine lv_imul hx hb dX12_image_56 ?_
            refine lv_lit (v := 126) (by decide) ?_
            refine lv_iload_n hx hb dX12_image_57 rfl (lv_at hl 0 rfl) ?_
            refine lv_iadd hx hb dX12_image_58 ?_
            refine lv_lit (v := (nI (i_30 + 126))) (nI_addE (126) (i_30) (i_30 + 126) (by omega)) ?_
            refine lv_aload_n hx hb dX12_image_59 rfl (lv_at hl 1 rfl) ?_
            refine gf_X12_39 hx hb hts hown hK hP 0 rfl rfl dX12_image_60 ?_
            refine lv_iload_n hx hb dX12_image_63 rfl (lv_at hl 0 rfl) ?_
            have hi_39 : vp_in (nI i_30) 126 := by
              have z_1 := Int32.lt_iff_toInt_lt.mp (Int32.not_le.mp c_37)
              have y_126 : (126 : Int32).toInt = 126 := by decide
              have n_0 : (nI i_30).toInt = ((i_30 : Nat) : Int) := nI_toInt (by omega)
              exact vp_in_nI (by omega) (by omega)
            refine va_iald hx hb hK hP 1 0 rfl rfl hi_39 dX12_image_64 ?_
            refine lv_lit (v := 0) rfl ?_
            have hi_40 : vp_in (nI (i_30 + 126)) 504 := by
              have z_1 := Int32.lt_iff_toInt_lt.mp (Int32.not_le.mp c_37)
              have y_126 : (126 : Int32).toInt = 126 := by decide
              have n_0 : (nI i_30).toInt = ((i_30 : Nat) : Int) := nI_toInt (by omega)
              exact vp_in_nI (by omega) (by omega)
            refine st_int hx hb hK hP hD hS 2 0 rfl rfl hi_40 dX12_image_65 (fun g_41 H locs eg_41 hP hD hS => ?_)
            have hP : va_P D classes [(h0, .inr (12, [.ref n0, .int 0, .int 0, .ref n3, .ref n4, .ref n5, .ref n6, .ref n7, .int 0, .int 0, .int 0, .int 0, .int 0, .int 0, .int 0, .ref n15, .int 0, .ref n17, .int 0, .ref n19, .ref n20, .int (-1), .int 0, .int 0, .ref n24, .int 0, .ref n26, .ref n27, .ref n28, .ref n29, .ref n30, .long 0, .ref n32, .ref n33, .ref n34, .ref n35])), (n20, .inl (tc 0, 126, .inl (fun _ => 0))), (n32, .inl (tc 0, 504, .inl g_41)), (n33, .inl (tc 0, 4, .inl g_28)), (n34, .inl (tc 0, 4, .inl g_29)), (n35, .inl (tc 3, 4, .inl g_27))] H := hP
            have hD : va_D A [(h0, .inr (12, [.ref n0, .int 0, .int 0, .ref n3, .ref n4, .ref n5, .ref n6, .ref n7, .int 0, .int 0, .int 0, .int 0, .int 0, .int 0, .int 0, .ref n15, .int 0, .ref n17, .int 0, .ref n19, .ref n20, .int (-1), .int 0, .int 0, .ref n24, .int 0, .ref n26, .ref n27, .ref n28, .ref n29, .ref n30, .long 0, .ref n32, .ref n33, .ref n34, .ref n35])), (n20, .inl (tc 0, 126, .inl (fun _ => 0))), (n32, .inl (tc 0, 504, .inl g_41)), (n33, .inl (tc 0, 4, .inl g_28)), (n34, .inl (tc 0, 4, .inl g_29)), (n35, .inl (tc 3, 4, .inl g_27))] := hD
            refine lv_iinc (v := (nI (i_30 + 1))) (lv' := [(2, .int (nI (i_30 + 1))), (0, .ref h0), (1, .int 1)]) hx hb dX12_image_66 hl (k := 0) rfl (nI_add (i_30) 1) (by decide) rfl (fun ls hl => ?_)
            refine lv_goto (tgt := 43) hx hb dX12_image_69 (by decide) ?_
            have hlt_42 : i_30 < 126 := by
              have z_1 := Int32.lt_iff_toInt_lt.mp (Int32.not_le.mp c_37)
              have y_126 : (126 : Int32).toInt = 126 := by decide
              have n_0 : (nI i_30).toInt = ((i_30 : Nat) : Int) := nI_toInt (by omega)
              omega
            exact ih_33 (i_30 + 1) g_41 _ _ _ (by omega) (by omega) (hP.sub [0, 1, 2, 3, 4, 5] rfl) (hD.sub [0, 1, 2, 3, 4, 5] rfl rfl) hS (lv_sub hl [0, 1, 2] rfl)
      exact loop_34 (126 + 1) 0 (fun _ => 0) _ _ _ (by omega) (by omega) hP hD hS hl
    · skip
      by_cases c_43 : x1 = 2
      · skip
        subst c_43
        refine lv_iload_n hx hb dX12_image_0 rfl (lv_at hl 1 rfl) ?_
        refine lv_i2l (v := 2) hx hb dX12_image_1 (by decide) ?_
        refine lv_lconst (v := 0) hx hb dX12_image_2 (by decide) ?_
        refine lv_ldc2 hx hb hown (hts _ k_1651) dX12_image_3 ?_
        refine cS (As := [.long 2, .long 0, .long 3]) (rest := []) (wr := [(h0, .inr (12, [.ref n0, .int 0, .int 0, .ref n3, .ref n4, .ref n5, .ref n6, .ref n7, .int 0, .int 0, .int 0, .int 0, .int 0, .int 0, .int 0, .ref n15, .int 0, .ref n17, .int 0, .ref n19, .ref n20, .int (-1), .int 0, .int 0, .ref n24, .int 0, .ref n26, .ref n27, .ref n28, .ref n29, .ref n30, .long 0, .ref n32, .ref n33, .ref n34, .ref n35])), (n20, .inl (tc 0, 126, .inl (fun _ => 0))), (n32, .inl (tc 0, 504, .inl (fun _ => 0))), (n33, .inl (tc 0, 4, .inl (fun _ => 0))), (n34, .inl (tc 0, 4, .inl (fun _ => 0))), (n35, .inl (tc 3, 4, .inl (fun _ => 0)))]) ⟨hx, hb, hml, hown, hts⟩ hK hX hA (ct_X12_in l D tc sk 2 0 3) k_1259 k_1257 k_1258 k_106 pl_X12_in ⟨Nat.le_of_ble_eq_true rfl, Nat.le_of_ble_eq_true rfl⟩ rfl rfl  hP hD hS [] [0, 1, 2, 3, 4, 5] rfl rfl rfl rfl rfl (by decide) rfl hl.1 rfl (Nat.le_of_ble_eq_true rfl) dX12_image_6 ⟨Nat.le_of_ble_eq_true rfl, Nat.le_of_ble_eq_true rfl⟩ (fun v_44 u_45 H locs hv_46 hP hD hS => ?_)
        obtain rfl : v_44 = some (.int (inF 2 0 3)) := hv_46
        refine W.eq (g2 := F0 m 9 ls [.int (inF 2 0 3)]) rfl ?_
        have hP : va_P D classes [(h0, .inr (12, [.ref n0, .int 0, .int 0, .ref n3, .ref n4, .ref n5, .ref n6, .ref n7, .int 0, .int 0, .int 0, .int 0, .int 0, .int 0, .int 0, .ref n15, .int 0, .ref n17, .int 0, .ref n19, .ref n20, .int (-1), .int 0, .int 0, .ref n24, .int 0, .ref n26, .ref n27, .ref n28, .ref n29, .ref n30, .long 0, .ref n32, .ref n33, .ref n34, .ref n35])), (n20, .inl (tc 0, 126, .inl (fun _ => 0))), (n32, .inl (tc 0, 504, .inl (fun _ => 0))), (n33, .inl (tc 0, 4, .inl (fun _ => 0))), (n34, .inl (tc 0, 4, .inl (fun _ => 0))), (n35, .inl (tc 3, 4, .inl (fun _ => 0)))] H := hP
        have hD : va_D A [(h0, .inr (12, [.ref n0, .int 0, .int 0, .ref n3, .ref n4, .ref n5, .ref n6, .ref n7, .int 0, .int 0, .int 0, .int 0, .int 0, .int 0, .int 0, .ref n15, .int 0, .ref n17, .int 0, .ref n19, .ref n20, .int (-1), .int 0, .int 0, .ref n24, .int 0, .ref n26, .ref n27, .ref n28, .ref n29, .ref n30, .long 0, .ref n32, .ref n33, .ref n34, .ref n35])), (n20, .inl (tc 0, 126, .inl (fun _ => 0))), (n32, .inl (tc 0, 504, .inl (fun _ => 0))), (n33, .inl (tc 0, 4, .inl (fun _ => 0))), (n34, .inl (tc 0, 4, .inl (fun _ => 0))), (n35, .inl (tc 3, 4, .inl (fun _ => 0)))] := hD
        refine lv_lit (v := 1) (by decide) ?_
        refine lv_if_ne (tgt := 14) hx hb dX12_image_9 (by decide) (fun c_47 => ?_) (fun c_47 => absurd c_47 (by decide))
        refine lv_aload_n hx hb dX12_image_14 rfl (lv_at hl 0 rfl) ?_
        refine gf_X12_74 hx hb hts hown hK hP 0 rfl rfl dX12_image_15 ?_
        refine lv_iload_n hx hb dX12_image_18 rfl (lv_at hl 1 rfl) ?_
        refine lv_iconst (v := 1) hx hb dX12_image_19 (by decide) ?_
        refine st_bool hx hb hK hP hD hS 5 3 rfl rfl (vin_dec (by decide +kernel)) dX12_image_20 (fun g_48 H locs eg_48 hP hD hS => ?_)
        have hP : va_P D classes [(h0, .inr (12, [.ref n0, .int 0, .int 0, .ref n3, .ref n4, .ref n5, .ref n6, .ref n7, .int 0, .int 0, .int 0, .int 0, .int 0, .int 0, .int 0, .ref n15, .int 0, .ref n17, .int 0, .ref n19, .ref n20, .int (-1), .int 0, .int 0, .ref n24, .int 0, .ref n26, .ref n27, .ref n28, .ref n29, .ref n30, .long 0, .ref n32, .ref n33, .ref n34, .ref n35])), (n20, .inl (tc 0, 126, .inl (fun _ => 0))), (n32, .inl (tc 0, 504, .inl (fun _ => 0))), (n33, .inl (tc 0, 4, .inl (fun _ => 0))), (n34, .inl (tc 0, 4, .inl (fun _ => 0))), (n35, .inl (tc 3, 4, .inl g_48))] H := hP
        have hD : va_D A [(h0, .inr (12, [.ref n0, .int 0, .int 0, .ref n3, .ref n4, .ref n5, .ref n6, .ref n7, .int 0, .int 0, .int 0, .int 0, .int 0, .int 0, .int 0, .ref n15, .int 0, .ref n17, .int 0, .ref n19, .ref n20, .int (-1), .int 0, .int 0, .ref n24, .int 0, .ref n26, .ref n27, .ref n28, .ref n29, .ref n30, .long 0, .ref n32, .ref n33, .ref n34, .ref n35])), (n20, .inl (tc 0, 126, .inl (fun _ => 0))), (n32, .inl (tc 0, 504, .inl (fun _ => 0))), (n33, .inl (tc 0, 4, .inl (fun _ => 0))), (n34, .inl (tc 0, 4, .inl (fun _ => 0))), (n35, .inl (tc 3, 4, .inl g_48))] := hD
        refine lv_aload_n hx hb dX12_image_21 rfl (lv_at hl 0 rfl) ?_
        refine gf_X12_68 hx hb hts hown hK hP 0 rfl rfl dX12_image_22 ?_
        refine lv_iload_n hx hb dX12_image_25 rfl (lv_at hl 1 rfl) ?_
        refine lv_aload_n hx hb dX12_image_26 rfl (lv_at hl 0 rfl) ?_
        refine gf_X12_42 hx hb hts hown hK hP 0 rfl rfl dX12_image_27 ?_
        refine st_int hx hb hK hP hD hS 3 0 rfl rfl (vin_dec (by decide +kernel)) dX12_image_30 (fun g_49 H locs eg_49 hP hD hS => ?_)
        have hP : va_P D classes [(h0, .inr (12, [.ref n0, .int 0, .int 0, .ref n3, .ref n4, .ref n5, .ref n6, .ref n7, .int 0, .int 0, .int 0, .int 0, .int 0, .int 0, .int 0, .ref n15, .int 0, .ref n17, .int 0, .ref n19, .ref n20, .int (-1), .int 0, .int 0, .ref n24, .int 0, .ref n26, .ref n27, .ref n28, .ref n29, .ref n30, .long 0, .ref n32, .ref n33, .ref n34, .ref n35])), (n20, .inl (tc 0, 126, .inl (fun _ => 0))), (n32, .inl (tc 0, 504, .inl (fun _ => 0))), (n33, .inl (tc 0, 4, .inl g_49)), (n34, .inl (tc 0, 4, .inl (fun _ => 0))), (n35, .inl (tc 3, 4, .inl g_48))] H := hP
        have hD : va_D A [(h0, .inr (12, [.ref n0, .int 0, .int 0, .ref n3, .ref n4, .ref n5, .ref n6, .ref n7, .int 0, .int 0, .int 0, .int 0, .int 0, .int 0, .int 0, .ref n15, .int 0, .ref n17, .int 0, .ref n19, .ref n20, .int (-1), .int 0, .int 0, .ref n24, .int 0, .ref n26, .ref n27, .ref n28, .ref n29, .ref n30, .long 0, .ref n32, .ref n33, .ref n34, .ref n35])), (n20, .inl (tc 0, 126, .inl (fun _ => 0))), (n32, .inl (tc 0, 504, .inl (fun _ => 0))), (n33, .inl (tc 0, 4, .inl g_49)), (n34, .inl (tc 0, 4, .inl (fun _ => 0))), (n35, .inl (tc 3, 4, .inl g_48))] := hD
        refine lv_aload_n hx hb dX12_image_31 rfl (lv_at hl 0 rfl) ?_
        refine gf_X12_71 hx hb hts hown hK hP 0 rfl rfl dX12_image_32 ?_
        refine lv_iload_n hx hb dX12_image_35 rfl (lv_at hl 1 rfl) ?_
        refine lv_aload_n hx hb dX12_image_36 rfl (lv_at hl 0 rfl) ?_
        refine gf_X12_414 hx hb hts hown hK hP 0 rfl rfl dX12_image_37 ?_
        refine st_int hx hb hK hP hD hS 4 0 rfl rfl (vin_dec (by decide +kernel)) dX12_image_40 (fun g_50 H locs eg_50 hP hD hS => ?_)
        have hP : va_P D classes [(h0, .inr (12, [.ref n0, .int 0, .int 0, .ref n3, .ref n4, .ref n5, .ref n6, .ref n7, .int 0, .int 0, .int 0, .int 0, .int 0, .int 0, .int 0, .ref n15, .int 0, .ref n17, .int 0, .ref n19, .ref n20, .int (-1), .int 0, .int 0, .ref n24, .int 0, .ref n26, .ref n27, .ref n28, .ref n29, .ref n30, .long 0, .ref n32, .ref n33, .ref n34, .ref n35])), (n20, .inl (tc 0, 126, .inl (fun _ => 0))), (n32, .inl (tc 0, 504, .inl (fun _ => 0))), (n33, .inl (tc 0, 4, .inl g_49)), (n34, .inl (tc 0, 4, .inl g_50)), (n35, .inl (tc 3, 4, .inl g_48))] H := hP
        have hD : va_D A [(h0, .inr (12, [.ref n0, .int 0, .int 0, .ref n3, .ref n4, .ref n5, .ref n6, .ref n7, .int 0, .int 0, .int 0, .int 0, .int 0, .int 0, .int 0, .ref n15, .int 0, .ref n17, .int 0, .ref n19, .ref n20, .int (-1), .int 0, .int 0, .ref n24, .int 0, .ref n26, .ref n27, .ref n28, .ref n29, .ref n30, .long 0, .ref n32, .ref n33, .ref n34, .ref n35])), (n20, .inl (tc 0, 126, .inl (fun _ => 0))), (n32, .inl (tc 0, 504, .inl (fun _ => 0))), (n33, .inl (tc 0, 4, .inl g_49)), (n34, .inl (tc 0, 4, .inl g_50)), (n35, .inl (tc 3, 4, .inl g_48))] := hD
        refine lv_iconst (v := 0) hx hb dX12_image_41 (by decide) ?_
        refine lv_istore_n (lv' := [(2, .int 0), (0, .ref h0), (1, .int 2)]) hx hb dX12_image_42 rfl hl (by decide) rfl (fun ls hl => ?_)
        have loop_55 : ∀ (n_53 i_51 : Nat) (g_52 : Nat → Int32) (H : Heap) (locs : List Loc) (ls : Array Slot), i_51 ≤ 126 → 126 + 1 ≤ i_51 + n_53 → va_P D classes [(h0, .inr (12, [.ref n0, .int 0, .int 0, .ref n3, .ref n4, .ref n5, .ref n6, .ref n7, .int 0, .int 0, .int 0, .int 0, .int 0, .int 0, .int 0, .ref n15, .int 0, .ref n17, .int 0, .ref n19, .ref n20, .int (-1), .int 0, .int 0, .ref n24, .int 0, .ref n26, .ref n27, .ref n28, .ref n29, .ref n30, .long 0, .ref n32, .ref n33, .ref n34, .ref n35])), (n20, .inl (tc 0, 126, .inl (fun _ => 0))), (n32, .inl (tc 0, 504, .inl g_52)), (n33, .inl (tc 0, 4, .inl g_49)), (n34, .inl (tc 0, 4, .inl g_50)), (n35, .inl (tc 3, 4, .inl g_48))] H → va_D A [(h0, .inr (12, [.ref n0, .int 0, .int 0, .ref n3, .ref n4, .ref n5, .ref n6, .ref n7, .int 0, .int 0, .int 0, .int 0, .int 0, .int 0, .int 0, .ref n15, .int 0, .ref n17, .int 0, .ref n19, .ref n20, .int (-1), .int 0, .int 0, .ref n24, .int 0, .ref n26, .ref n27, .ref n28, .ref n29, .ref n30, .long 0, .ref n32, .ref n33, .ref n34, .ref n35])), (n20, .inl (tc 0, 126, .inl (fun _ => 0))), (n32, .inl (tc 0, 504, .inl g_52)), (n33, .inl (tc 0, 4, .inl g_49)), (n34, .inl (tc 0, 4, .inl g_50)), (n35, .inl (tc 3, 4, .inl g_48))] → va_S A s.heap H locs → lv_has ls 3 [(2, .int (nI i_51)), (0, .ref h0), (1, .int 2)] → W p l e ({ frames := 1, cells := 0, slots := 0, locals := 25 }) s m ([.ref h0, .int 2].toArray) below meth c H locs 0 0 (MQ below (QW (fun (v : Option Value) (_ : Unit) => v = some (.int (imgF 2))) (BW D (fun (_ : Unit) => []) A) A) ([.ref h0, .int 2].toArray) s 0 0 A) (F0 m 43 ls []) := by
          intro n_53
          induction n_53 with
          | zero =>
            intro i_51 g_52 H locs ls h1 h2
            exact absurd h2 (by omega)
          | succ n_53 ih_54 =>
            intro i_51 g_52 H locs ls hi_56 hn_57 hP hD hS hl
            refine lv_iload_n hx hb dX12_image_43 rfl (lv_at hl 0 rfl) ?_
            refine lv_bipush (v := 126) hx hb dX12_image_44 (by decide) ?_
            refine lv_icmp_ge (tgt := 72) hx hb dX12_image_46 (by decide) (fun c_58 => ?_) (fun c_58 => ?_)
            · skip
              refine lv_aload_n hx hb dX12_image_72 rfl (lv_at hl 1 rfl) ?_
              refine gf_X12_39 hx hb hts hown hK hP 0 rfl rfl dX12_image_73 ?_
              refine lv_bipush (v := 10) hx hb dX12_image_76 (by decide) ?_
              refine va_iald hx hb hK hP 1 0 rfl rfl (vin_dec (by decide +kernel)) dX12_image_78 ?_
              refine lv_lit (v := 0) rfl ?_
              have hp_59 : imgF 2 = 0 := by decide
              exact retI (v := 0) hx hb hr hlk (rfl) hP hD hS () (by rw [hp_59]) [] rfl rfl dX12_image_79 (Nat.le_of_ble_eq_true rfl) (Nat.le_of_ble_eq_true rfl) rfl
            · skip
              refine lv_aload_n hx hb dX12_image_49 rfl (lv_at hl 1 rfl) ?_
              refine gf_X12_65 hx hb hts hown hK hP 0 rfl rfl dX12_image_50 ?_
              refine lv_bipush (v := 126) hx hb dX12_image_53 (by decide) ?_
              refine lv_iload_n hx hb dX12_image_55 rfl (lv_at hl 2 rfl) ?_
              refine lv_imul hx hb dX12_image_56 ?_
              refine lv_lit (v := 252) (by decide) ?_
              refine lv_iload_n hx hb dX12_image_57 rfl (lv_at hl 0 rfl) ?_
              refine lv_iadd hx hb dX12_image_58 ?_
              refine lv_lit (v := (nI (i_51 + 252))) (nI_addE (252) (i_51) (i_51 + 252) (by omega)) ?_
              refine lv_aload_n hx hb dX12_image_59 rfl (lv_at hl 1 rfl) ?_
              refine gf_X12_39 hx hb hts hown hK hP 0 rfl rfl dX12_image_60 ?_
              refine lv_iload_n hx hb dX12_image_63 rfl (lv_at hl 0 rfl) ?_
              have hi_60 : vp_in (nI i_51) 126 := by
                have z_1 := Int32.lt_iff_toInt_lt.mp (Int32.not_le.mp c_58)
                have y_126 : (126 : Int32).toInt = 126 := by decide
                have n_0 : (nI i_51).toInt = ((i_51 : Nat) : Int) := nI_toInt (by omega)
                exact vp_in_nI (by omega) (by omega)
              refine va_iald hx hb hK hP 1 0 rfl rfl hi_60 dX12_image_64 ?_
              refine lv_lit (v := 0) rfl ?_
              have hi_61 : vp_in (nI (i_51 + 252)) 504 := by
                have z_1 := Int32.lt_iff_toInt_lt.mp (Int32.not_le.mp c_58)
                have y_126 : (126 : Int32).toInt = 126 := by decide
                have n_0 : (nI i_51).toInt = ((i_51 : Nat) : Int) := nI_toInt (by omega)
                exact vp_in_nI (by omega) (by omega)
              refine st_int hx hb hK hP hD hS 2 0 rfl rfl hi_61 dX12_image_65 (fun g_62 H locs eg_62 hP hD hS => ?_)
              have hP : va_P D classes [(h0, .inr (12, [.ref n0, .int 0, .int 0, .ref n3, .ref n4, .ref n5, .ref n6, .ref n7, .int 0, .int 0, .int 0, .int 0, .int 0, .int 0, .int 0, .ref n15, .int 0, .ref n17, .int 0, .ref n19, .ref n20, .int (-1), .int 0, .int 0, .ref n24, .int 0, .ref n26, .ref n27, .ref n28, .ref n29, .ref n30, .long 0, .ref n32, .ref n33, .ref n34, .ref n35])), (n20, .inl (tc 0, 126, .inl (fun _ => 0))), (n32, .inl (tc 0, 504, .inl g_62)), (n33, .inl (tc 0, 4, .inl g_49)), (n34, .inl (tc 0, 4, .inl g_50)), (n35, .inl (tc 3, 4, .inl g_48))] H := hP
              have hD : va_D A [(h0, .inr (12, [.ref n0, .int 0, .int 0, .ref n3, .ref n4, .ref n5, .ref n6, .ref n7, .int 0, .int 0, .int 0, .int 0, .int 0, .int 0, .int 0, .ref n15, .int 0, .ref n17, .int 0, .ref n19, .ref n20, .int (-1), .int 0, .int 0, .ref n24, .int 0, .ref n26, .ref n27, .ref n28, .ref n29, .ref n30, .long 0, .ref n32, .ref n33, .ref n34, .ref n35])), (n20, .inl (tc 0, 126, .inl (fun _ => 0))), (n32, .inl (tc 0, 504, .inl g_62)), (n33, .inl (tc 0, 4, .inl g_49)), (n34, .inl (tc 0, 4, .inl g_50)), (n35, .inl (tc 3, 4, .inl g_48))] := hD
              refine lv_iinc (v := (nI (i_51 + 1))) (lv' := [(2, .int (nI (i_51 + 1))), (0, .ref h0), (1, .int 2)]) hx hb dX12_image_66 hl (k := 0) rfl (nI_add (i_51) 1) (by decide) rfl (fun ls hl => ?_)
              refine lv_goto (tgt := 43) hx hb dX12_image_69 (by decide) ?_
              have hlt_63 : i_51 < 126 := by
                have z_1 := Int32.lt_iff_toInt_lt.mp (Int32.not_le.mp c_58)
                have y_126 : (126 : Int32).toInt = 126 := by decide
                have n_0 : (nI i_51).toInt = ((i_51 : Nat) : Int) := nI_toInt (by omega)
                omega
              exact ih_54 (i_51 + 1) g_62 _ _ _ (by omega) (by omega) (hP.sub [0, 1, 2, 3, 4, 5] rfl) (hD.sub [0, 1, 2, 3, 4, 5] rfl rfl) hS (lv_sub hl [0, 1, 2] rfl)
        exact loop_55 (126 + 1) 0 (fun _ => 0) _ _ _ (by omega) (by omega) hP hD hS hl
      · skip
        by_cases c_64 : x1 = 3
        · skip
          subst c_64
          refine lv_iload_n hx hb dX12_image_0 rfl (lv_at hl 1 rfl) ?_
          refine lv_i2l (v := 3) hx hb dX12_image_1 (by decide) ?_
          refine lv_lconst (v := 0) hx hb dX12_image_2 (by decide) ?_
          refine lv_ldc2 hx hb hown (hts _ k_1651) dX12_image_3 ?_
          refine cS (As := [.long 3, .long 0, .long 3]) (rest := []) (wr := [(h0, .inr (12, [.ref n0, .int 0, .int 0, .ref n3, .ref n4, .ref n5, .ref n6, .ref n7, .int 0, .int 0, .int 0, .int 0, .int 0, .int 0, .int 0, .ref n15, .int 0, .ref n17, .int 0, .ref n19, .ref n20, .int (-1), .int 0, .int 0, .ref n24, .int 0, .ref n26, .ref n27, .ref n28, .ref n29, .ref n30, .long 0, .ref n32, .ref n33, .ref n34, .ref n35])), (n20, .inl (tc 0, 126, .inl (fun _ => 0))), (n32, .inl (tc 0, 504, .inl (fun _ => 0))), (n33, .inl (tc 0, 4, .inl (fun _ => 0))), (n34, .inl (tc 0, 4, .inl (fun _ => 0))), (n35, .inl (tc 3, 4, .inl (fun _ => 0)))]) ⟨hx, hb, hml, hown, hts⟩ hK hX hA (ct_X12_in l D tc sk 3 0 3) k_1259 k_1257 k_1258 k_106 pl_X12_in ⟨Nat.le_of_ble_eq_true rfl, Nat.le_of_ble_eq_true rfl⟩ rfl rfl  hP hD hS [] [0, 1, 2, 3, 4, 5] rfl rfl rfl rfl rfl (by decide) rfl hl.1 rfl (Nat.le_of_ble_eq_true rfl) dX12_image_6 ⟨Nat.le_of_ble_eq_true rfl, Nat.le_of_ble_eq_true rfl⟩ (fun v_65 u_66 H locs hv_67 hP hD hS => ?_)
          obtain rfl : v_65 = some (.int (inF 3 0 3)) := hv_67
          refine W.eq (g2 := F0 m 9 ls [.int (inF 3 0 3)]) rfl ?_
          have hP : va_P D classes [(h0, .inr (12, [.ref n0, .int 0, .int 0, .ref n3, .ref n4, .ref n5, .ref n6, .ref n7, .int 0, .int 0, .int 0, .int 0, .int 0, .int 0, .int 0, .ref n15, .int 0, .ref n17, .int 0, .ref n19, .ref n20, .int (-1), .int 0, .int 0, .ref n24, .int 0, .ref n26, .ref n27, .ref n28, .ref n29, .ref n30, .long 0, .ref n32, .ref n33, .ref n34, .ref n35])), (n20, .inl (tc 0, 126, .inl (fun _ => 0))), (n32, .inl (tc 0, 504, .inl (fun _ => 0))), (n33, .inl (tc 0, 4, .inl (fun _ => 0))), (n34, .inl (tc 0, 4, .inl (fun _ => 0))), (n35, .inl (tc 3, 4, .inl (fun _ => 0)))] H := hP
          have hD : va_D A [(h0, .inr (12, [.ref n0, .int 0, .int 0, .ref n3, .ref n4, .ref n5, .ref n6, .ref n7, .int 0, .int 0, .int 0, .int 0, .int 0, .int 0, .int 0, .ref n15, .int 0, .ref n17, .int 0, .ref n19, .ref n20, .int (-1), .int 0, .int 0, .ref n24, .int 0, .ref n26, .ref n27, .ref n28, .ref n29, .ref n30, .long 0, .ref n32, .ref n33, .ref n34, .ref n35])), (n20, .inl (tc 0, 126, .inl (fun _ => 0))), (n32, .inl (tc 0, 504, .inl (fun _ => 0))), (n33, .inl (tc 0, 4, .inl (fun _ => 0))), (n34, .inl (tc 0, 4, .inl (fun _ => 0))), (n35, .inl (tc 3, 4, .inl (fun _ => 0)))] := hD
          refine lv_lit (v := 1) (by decide) ?_
          refine lv_if_ne (tgt := 14) hx hb dX12_image_9 (by decide) (fun c_68 => ?_) (fun c_68 => absurd c_68 (by decide))
          refine lv_aload_n hx hb dX12_image_14 rfl (lv_at hl 0 rfl) ?_
          refine gf_X12_74 hx hb hts hown hK hP 0 rfl rfl dX12_image_15 ?_
          refine lv_iload_n hx hb dX12_image_18 rfl (lv_at hl 1 rfl) ?_
          refine lv_iconst (v := 1) hx hb dX12_image_19 (by decide) ?_
          refine st_bool hx hb hK hP hD hS 5 3 rfl rfl (vin_dec (by decide +kernel)) dX12_image_20 (fun g_69 H locs eg_69 hP hD hS => ?_)
          have hP : va_P D classes [(h0, .inr (12, [.ref n0, .int 0, .int 0, .ref n3, .ref n4, .ref n5, .ref n6, .ref n7, .int 0, .int 0, .int 0, .int 0, .int 0, .int 0, .int 0, .ref n15, .int 0, .ref n17, .int 0, .ref n19, .ref n20, .int (-1), .int 0, .int 0, .ref n24, .int 0, .ref n26, .ref n27, .ref n28, .ref n29, .ref n30, .long 0, .ref n32, .ref n33, .ref n34, .ref n35])), (n20, .inl (tc 0, 126, .inl (fun _ => 0))), (n32, .inl (tc 0, 504, .inl (fun _ => 0))), (n33, .inl (tc 0, 4, .inl (fun _ => 0))), (n34, .inl (tc 0, 4, .inl (fun _ => 0))), (n35, .inl (tc 3, 4, .inl g_69))] H := hP
          have hD : va_D A [(h0, .inr (12, [.ref n0, .int 0, .int 0, .ref n3, .ref n4, .ref n5, .ref n6, .ref n7, .int 0, .int 0, .int 0, .int 0, .int 0, .int 0, .int 0, .ref n15, .int 0, .ref n17, .int 0, .ref n19, .ref n20, .int (-1), .int 0, .int 0, .ref n24, .int 0, .ref n26, .ref n27, .ref n28, .ref n29, .ref n30, .long 0, .ref n32, .ref n33, .ref n34, .ref n35])), (n20, .inl (tc 0, 126, .inl (fun _ => 0))), (n32, .inl (tc 0, 504, .inl (fun _ => 0))), (n33, .inl (tc 0, 4, .inl (fun _ => 0))), (n34, .inl (tc 0, 4, .inl (fun _ => 0))), (n35, .inl (tc 3, 4, .inl g_69))] := hD
          refine lv_aload_n hx hb dX12_image_21 rfl (lv_at hl 0 rfl) ?_
          refine gf_X12_68 hx hb hts hown hK hP 0 rfl rfl dX12_image_22 ?_
          refine lv_iload_n hx hb dX12_image_25 rfl (lv_at hl 1 rfl) ?_
          refine lv_aload_n hx hb dX12_image_26 rfl (lv_at hl 0 rfl) ?_
          refine gf_X12_42 hx hb hts hown hK hP 0 rfl rfl dX12_image_27 ?_
          refine st_int hx hb hK hP hD hS 3 0 rfl rfl (vin_dec (by decide +kernel)) dX12_image_30 (fun g_70 H locs eg_70 hP hD hS => ?_)
          have hP : va_P D classes [(h0, .inr (12, [.ref n0, .int 0, .int 0, .ref n3, .ref n4, .ref n5, .ref n6, .ref n7, .int 0, .int 0, .int 0, .int 0, .int 0, .int 0, .int 0, .ref n15, .int 0, .ref n17, .int 0, .ref n19, .ref n20, .int (-1), .int 0, .int 0, .ref n24, .int 0, .ref n26, .ref n27, .ref n28, .ref n29, .ref n30, .long 0, .ref n32, .ref n33, .ref n34, .ref n35])), (n20, .inl (tc 0, 126, .inl (fun _ => 0))), (n32, .inl (tc 0, 504, .inl (fun _ => 0))), (n33, .inl (tc 0, 4, .inl g_70)), (n34, .inl (tc 0, 4, .inl (fun _ => 0))), (n35, .inl (tc 3, 4, .inl g_69))] H := hP
          have hD : va_D A [(h0, .inr (12, [.ref n0, .int 0, .int 0, .ref n3, .ref n4, .ref n5, .ref n6, .ref n7, .int 0, .int 0, .int 0, .int 0, .int 0, .int 0, .int 0, .ref n15, .int 0, .ref n17, .int 0, .ref n19, .ref n20, .int (-1), .int 0, .int 0, .ref n24, .int 0, .ref n26, .ref n27, .ref n28, .ref n29, .ref n30, .long 0, .ref n32, .ref n33, .ref n34, .ref n35])), (n20, .inl (tc 0, 126, .inl (fun _ => 0))), (n32, .inl (tc 0, 504, .inl (fun _ => 0))), (n33, .inl (tc 0, 4, .inl g_70)), (n34, .inl (tc 0, 4, .inl (fun _ => 0))), (n35, .inl (tc 3, 4, .inl g_69))] := hD
          refine lv_aload_n hx hb dX12_image_31 rfl (lv_at hl 0 rfl) ?_
          refine gf_X12_71 hx hb hts hown hK hP 0 rfl rfl dX12_image_32 ?_
          refine lv_iload_n hx hb dX12_image_35 rfl (lv_at hl 1 rfl) ?_
          refine lv_aload_n hx hb dX12_image_36 rfl (lv_at hl 0 rfl) ?_
          refine gf_X12_414 hx hb hts hown hK hP 0 rfl rfl dX12_image_37 ?_
          refine st_int hx hb hK hP hD hS 4 0 rfl rfl (vin_dec (by decide +kernel)) dX12_image_40 (fun g_71 H locs eg_71 hP hD hS => ?_)
          have hP : va_P D classes [(h0, .inr (12, [.ref n0, .int 0, .int 0, .ref n3, .ref n4, .ref n5, .ref n6, .ref n7, .int 0, .int 0, .int 0, .int 0, .int 0, .int 0, .int 0, .ref n15, .int 0, .ref n17, .int 0, .ref n19, .ref n20, .int (-1), .int 0, .int 0, .ref n24, .int 0, .ref n26, .ref n27, .ref n28, .ref n29, .ref n30, .long 0, .ref n32, .ref n33, .ref n34, .ref n35])), (n20, .inl (tc 0, 126, .inl (fun _ => 0))), (n32, .inl (tc 0, 504, .inl (fun _ => 0))), (n33, .inl (tc 0, 4, .inl g_70)), (n34, .inl (tc 0, 4, .inl g_71)), (n35, .inl (tc 3, 4, .inl g_69))] H := hP
          have hD : va_D A [(h0, .inr (12, [.ref n0, .int 0, .int 0, .ref n3, .ref n4, .ref n5, .ref n6, .ref n7, .int 0, .int 0, .int 0, .int 0, .int 0, .int 0, .int 0, .ref n15, .int 0, .ref n17, .int 0, .ref n19, .ref n20, .int (-1), .int 0, .int 0, .ref n24, .int 0, .ref n26, .ref n27, .ref n28, .ref n29, .ref n30, .long 0, .ref n32, .ref n33, .ref n34, .ref n35])), (n20, .inl (tc 0, 126, .inl (fun _ => 0))), (n32, .inl (tc 0, 504, .inl (fun _ => 0))), (n33, .inl (tc 0, 4, .inl g_70)), (n34, .inl (tc 0, 4, .inl g_71)), (n35, .inl (tc 3, 4, .inl g_69))] := hD
          refine lv_iconst (v := 0) hx hb dX12_image_41 (by decide) ?_
          refine lv_istore_n (lv' := [(2, .int 0), (0, .ref h0), (1, .int 3)]) hx hb dX12_image_42 rfl hl (by decide) rfl (fun ls hl => ?_)
          have loop_76 : ∀ (n_74 i_72 : Nat) (g_73 : Nat → Int32) (H : Heap) (locs : List Loc) (ls : Array Slot), i_72 ≤ 126 → 126 + 1 ≤ i_72 + n_74 → va_P D classes [(h0, .inr (12, [.ref n0, .int 0, .int 0, .ref n3, .ref n4, .ref n5, .ref n6, .ref n7, .int 0, .int 0, .int 0, .int 0, .int 0, .int 0, .int 0, .ref n15, .int 0, .ref n17, .int 0, .ref n19, .ref n20, .int (-1), .int 0, .int 0, .ref n24, .int 0, .ref n26, .ref n27, .ref n28, .ref n29, .ref n30, .long 0, .ref n32, .ref n33, .ref n34, .ref n35])), (n20, .inl (tc 0, 126, .inl (fun _ => 0))), (n32, .inl (tc 0, 504, .inl g_73)), (n33, .inl (tc 0, 4, .inl g_70)), (n34, .inl (tc 0, 4, .inl g_71)), (n35, .inl (tc 3, 4, .inl g_69))] H → va_D A [(h0, .inr (12, [.ref n0, .int 0, .int 0, .ref n3, .ref n4, .ref n5, .ref n6, .ref n7, .int 0, .int 0, .int 0, .int 0, .int 0, .int 0, .int 0, .ref n15, .int 0, .ref n17, .int 0, .ref n19, .ref n20, .int (-1), .int 0, .int 0, .ref n24, .int 0, .ref n26, .ref n27, .ref n28, .ref n29, .ref n30, .long 0, .ref n32, .ref n33, .ref n34, .ref n35])), (n20, .inl (tc 0, 126, .inl (fun _ => 0))), (n32, .inl (tc 0, 504, .inl g_73)), (n33, .inl (tc 0, 4, .inl g_70)), (n34, .inl (tc 0, 4, .inl g_71)), (n35, .inl (tc 3, 4, .inl g_69))] → va_S A s.heap H locs → lv_has ls 3 [(2, .int (nI i_72)), (0, .ref h0), (1, .int 3)] → W p l e ({ frames := 1, cells := 0, slots := 0, locals := 25 }) s m ([.ref h0, .int 3].toArray) below meth c H locs 0 0 (MQ below (QW (fun (v : Option Value) (_ : Unit) => v = some (.int (imgF 3))) (BW D (fun (_ : Unit) => []) A) A) ([.ref h0, .int 3].toArray) s 0 0 A) (F0 m 43 ls []) := by
            intro n_74
            induction n_74 with
            | zero =>
              intro i_72 g_73 H locs ls h1 h2
              exact absurd h2 (by omega)
            | succ n_74 ih_75 =>
              intro i_72 g_73 H locs ls hi_77 hn_78 hP hD hS hl
              refine lv_iload_n hx hb dX12_image_43 rfl (lv_at hl 0 rfl) ?_
              refine lv_bipush (v := 126) hx hb dX12_image_44 (by decide) ?_
              refine lv_icmp_ge (tgt := 72) hx hb dX12_image_46 (by decide) (fun c_79 => ?_) (fun c_79 => ?_)
              · skip
                refine lv_aload_n hx hb dX12_image_72 rfl (lv_at hl 1 rfl) ?_
                refine gf_X12_39 hx hb hts hown hK hP 0 rfl rfl dX12_image_73 ?_
                refine lv_bipush (v := 10) hx hb dX12_image_76 (by decide) ?_
                refine va_iald hx hb hK hP 1 0 rfl rfl (vin_dec (by decide +kernel)) dX12_image_78 ?_
                refine lv_lit (v := 0) rfl ?_
                have hp_80 : imgF 3 = 0 := by decide
                exact retI (v := 0) hx hb hr hlk (rfl) hP hD hS () (by rw [hp_80]) [] rfl rfl dX12_image_79 (Nat.le_of_ble_eq_true rfl) (Nat.le_of_ble_eq_true rfl) rfl
              · skip
                refine lv_aload_n hx hb dX12_image_49 rfl (lv_at hl 1 rfl) ?_
                refine gf_X12_65 hx hb hts hown hK hP 0 rfl rfl dX12_image_50 ?_
                refine lv_bipush (v := 126) hx hb dX12_image_53 (by decide) ?_
                refine lv_iload_n hx hb dX12_image_55 rfl (lv_at hl 2 rfl) ?_
                refine lv_imul hx hb dX12_image_56 ?_
                refine lv_lit (v := 378) (by decide) ?_
                refine lv_iload_n hx hb dX12_image_57 rfl (lv_at hl 0 rfl) ?_
                refine lv_iadd hx hb dX12_image_58 ?_
                refine lv_lit (v := (nI (i_72 + 378))) (nI_addE (378) (i_72) (i_72 + 378) (by omega)) ?_
                refine lv_aload_n hx hb dX12_image_59 rfl (lv_at hl 1 rfl) ?_
                refine gf_X12_39 hx hb hts hown hK hP 0 rfl rfl dX12_image_60 ?_
                refine lv_iload_n hx hb dX12_image_63 rfl (lv_at hl 0 rfl) ?_
                have hi_81 : vp_in (nI i_72) 126 := by
                  have z_1 := Int32.lt_iff_toInt_lt.mp (Int32.not_le.mp c_79)
                  have y_126 : (126 : Int32).toInt = 126 := by decide
                  have n_0 : (nI i_72).toInt = ((i_72 : Nat) : Int) := nI_toInt (by omega)
                  exact vp_in_nI (by omega) (by omega)
                refine va_iald hx hb hK hP 1 0 rfl rfl hi_81 dX12_image_64 ?_
                refine lv_lit (v := 0) rfl ?_
                have hi_82 : vp_in (nI (i_72 + 378)) 504 := by
                  have z_1 := Int32.lt_iff_toInt_lt.mp (Int32.not_le.mp c_79)
                  have y_126 : (126 : Int32).toInt = 126 := by decide
                  have n_0 : (nI i_72).toInt = ((i_72 : Nat) : Int) := nI_toInt (by omega)
                  exact vp_in_nI (by omega) (by omega)
                refine st_int hx hb hK hP hD hS 2 0 rfl rfl hi_82 dX12_image_65 (fun g_83 H locs eg_83 hP hD hS => ?_)
                have hP : va_P D classes [(h0, .inr (12, [.ref n0, .int 0, .int 0, .ref n3, .ref n4, .ref n5, .ref n6, .ref n7, .int 0, .int 0, .int 0, .int 0, .int 0, .int 0, .int 0, .ref n15, .int 0, .ref n17, .int 0, .ref n19, .ref n20, .int (-1), .int 0, .int 0, .ref n24, .int 0, .ref n26, .ref n27, .ref n28, .ref n29, .ref n30, .long 0, .ref n32, .ref n33, .ref n34, .ref n35])), (n20, .inl (tc 0, 126, .inl (fun _ => 0))), (n32, .inl (tc 0, 504, .inl g_83)), (n33, .inl (tc 0, 4, .inl g_70)), (n34, .inl (tc 0, 4, .inl g_71)), (n35, .inl (tc 3, 4, .inl g_69))] H := hP
                have hD : va_D A [(h0, .inr (12, [.ref n0, .int 0, .int 0, .ref n3, .ref n4, .ref n5, .ref n6, .ref n7, .int 0, .int 0, .int 0, .int 0, .int 0, .int 0, .int 0, .ref n15, .int 0, .ref n17, .int 0, .ref n19, .ref n20, .int (-1), .int 0, .int 0, .ref n24, .int 0, .ref n26, .ref n27, .ref n28, .ref n29, .ref n30, .long 0, .ref n32, .ref n33, .ref n34, .ref n35])), (n20, .inl (tc 0, 126, .inl (fun _ => 0))), (n32, .inl (tc 0, 504, .inl g_83)), (n33, .inl (tc 0, 4, .inl g_70)), (n34, .inl (tc 0, 4, .inl g_71)), (n35, .inl (tc 3, 4, .inl g_69))] := hD
                refine lv_iinc (v := (nI (i_72 + 1))) (lv' := [(2, .int (nI (i_72 + 1))), (0, .ref h0), (1, .int 3)]) hx hb dX12_image_66 hl (k := 0) rfl (nI_add (i_72) 1) (by decide) rfl (fun ls hl => ?_)
                refine lv_goto (tgt := 43) hx hb dX12_image_69 (by decide) ?_
                have hlt_84 : i_72 < 126 := by
                  have z_1 := Int32.lt_iff_toInt_lt.mp (Int32.not_le.mp c_79)
                  have y_126 : (126 : Int32).toInt = 126 := by decide
                  have n_0 : (nI i_72).toInt = ((i_72 : Nat) : Int) := nI_toInt (by omega)
                  omega
                exact ih_75 (i_72 + 1) g_83 _ _ _ (by omega) (by omega) (hP.sub [0, 1, 2, 3, 4, 5] rfl) (hD.sub [0, 1, 2, 3, 4, 5] rfl rfl) hS (lv_sub hl [0, 1, 2] rfl)
          exact loop_76 (126 + 1) 0 (fun _ => 0) _ _ _ (by omega) (by omega) hP hD hS hl
        · skip
          have hout_85 : (x1 : Int32).toInt < 0 ∨ 3 < (x1 : Int32).toInt := by
            have z_1 : ¬ (x1 : Int32).toInt = (0 : Int32).toInt := fun z => c_1 (Int32.toInt_inj.mp z)
            have z_2 : ¬ (x1 : Int32).toInt = (1 : Int32).toInt := fun z => c_22 (Int32.toInt_inj.mp z)
            have z_3 : ¬ (x1 : Int32).toInt = (2 : Int32).toInt := fun z => c_43 (Int32.toInt_inj.mp z)
            have z_4 : ¬ (x1 : Int32).toInt = (3 : Int32).toInt := fun z => c_64 (Int32.toInt_inj.mp z)
            have y_0 : (0 : Int32).toInt = 0 := by decide
            have y_1 : (1 : Int32).toInt = 1 := by decide
            have y_2 : (2 : Int32).toInt = 2 := by decide
            have y_3 : (3 : Int32).toInt = 3 := by decide
            omega
          refine lv_iload_n hx hb dX12_image_0 rfl (lv_at hl 1 rfl) ?_
          refine lv_i2l (v := (x1).toInt64) hx hb dX12_image_1 rfl ?_
          refine lv_lconst (v := 0) hx hb dX12_image_2 (by decide) ?_
          refine lv_ldc2 hx hb hown (hts _ k_1651) dX12_image_3 ?_
          refine cS (As := [.long (x1).toInt64, .long 0, .long 3]) (rest := []) (wr := [(h0, .inr (12, [.ref n0, .int 0, .int 0, .ref n3, .ref n4, .ref n5, .ref n6, .ref n7, .int 0, .int 0, .int 0, .int 0, .int 0, .int 0, .int 0, .ref n15, .int 0, .ref n17, .int 0, .ref n19, .ref n20, .int (-1), .int 0, .int 0, .ref n24, .int 0, .ref n26, .ref n27, .ref n28, .ref n29, .ref n30, .long 0, .ref n32, .ref n33, .ref n34, .ref n35])), (n20, .inl (tc 0, 126, .inl (fun _ => 0))), (n32, .inl (tc 0, 504, .inl (fun _ => 0))), (n33, .inl (tc 0, 4, .inl (fun _ => 0))), (n34, .inl (tc 0, 4, .inl (fun _ => 0))), (n35, .inl (tc 3, 4, .inl (fun _ => 0)))]) ⟨hx, hb, hml, hown, hts⟩ hK hX hA (ct_X12_in l D tc sk (x1).toInt64 0 3) k_1259 k_1257 k_1258 k_106 pl_X12_in ⟨Nat.le_of_ble_eq_true rfl, Nat.le_of_ble_eq_true rfl⟩ rfl rfl  hP hD hS [] [0, 1, 2, 3, 4, 5] rfl rfl rfl rfl rfl (by decide) rfl hl.1 rfl (Nat.le_of_ble_eq_true rfl) dX12_image_6 ⟨Nat.le_of_ble_eq_true rfl, Nat.le_of_ble_eq_true rfl⟩ (fun v_86 u_87 H locs hv_88 hP hD hS => ?_)
          obtain rfl : v_86 = some (.int (inF ((x1).toInt64) 0 3)) := hv_88
          refine W.eq (g2 := F0 m 9 ls [.int (inF ((x1).toInt64) 0 3)]) rfl ?_
          have hP : va_P D classes [(h0, .inr (12, [.ref n0, .int 0, .int 0, .ref n3, .ref n4, .ref n5, .ref n6, .ref n7, .int 0, .int 0, .int 0, .int 0, .int 0, .int 0, .int 0, .ref n15, .int 0, .ref n17, .int 0, .ref n19, .ref n20, .int (-1), .int 0, .int 0, .ref n24, .int 0, .ref n26, .ref n27, .ref n28, .ref n29, .ref n30, .long 0, .ref n32, .ref n33, .ref n34, .ref n35])), (n20, .inl (tc 0, 126, .inl (fun _ => 0))), (n32, .inl (tc 0, 504, .inl (fun _ => 0))), (n33, .inl (tc 0, 4, .inl (fun _ => 0))), (n34, .inl (tc 0, 4, .inl (fun _ => 0))), (n35, .inl (tc 3, 4, .inl (fun _ => 0)))] H := hP
          have hD : va_D A [(h0, .inr (12, [.ref n0, .int 0, .int 0, .ref n3, .ref n4, .ref n5, .ref n6, .ref n7, .int 0, .int 0, .int 0, .int 0, .int 0, .int 0, .int 0, .ref n15, .int 0, .ref n17, .int 0, .ref n19, .ref n20, .int (-1), .int 0, .int 0, .ref n24, .int 0, .ref n26, .ref n27, .ref n28, .ref n29, .ref n30, .long 0, .ref n32, .ref n33, .ref n34, .ref n35])), (n20, .inl (tc 0, 126, .inl (fun _ => 0))), (n32, .inl (tc 0, 504, .inl (fun _ => 0))), (n33, .inl (tc 0, 4, .inl (fun _ => 0))), (n34, .inl (tc 0, 4, .inl (fun _ => 0))), (n35, .inl (tc 3, 4, .inl (fun _ => 0)))] := hD
          refine lv_lit (v := 0) (inF_out hout_85) ?_
          refine lv_if_ne (tgt := 14) hx hb dX12_image_9 (by decide) (fun c_89 => absurd c_89 (by decide)) (fun c_89 => ?_)
          refine lv_iconst (v := (-1)) hx hb dX12_image_12 (by decide) ?_
          have hp_90 : imgF x1 = -1 := imgF_out hout_85
          exact retI (v := (-1)) hx hb hr hlk (rfl) hP hD hS () (by rw [hp_90]) [] rfl rfl dX12_image_13 (Nat.le_of_ble_eq_true rfl) (Nat.le_of_ble_eq_true rfl) rfl
set_option maxHeartbeats 4000000 in
set_option maxRecDepth 100000 in
theorem ct_X12_back (l : Launch) (D : va_G) (tc : Nat → ClassId) (sk : (Nat → Nat) × (Nat → Nat)) (h0 : Nat) (n0 : Nat) (n3 : Nat) (n4 : Nat) (n5 : Nat) (n6 : Nat) (n7 : Nat) (n15 : Nat) (n17 : Nat) (n19 : Nat) (n20 : Nat) (n24 : Nat) (n26 : Nat) (n27 : Nat) (n28 : Nat) (n29 : Nat) (n30 : Nat) (n32 : Nat) (n33 : Nat) (n34 : Nat) (n35 : Nat) (x1 : Int32)  : Ct l yX12_back cX12_back 3 (some .int) { frames := 1, cells := 0, slots := 0, locals := 25 } D tc sk [.ref h0, .int x1] [(h0, .inr (12, [.ref n0, .int 0, .int 0, .ref n3, .ref n4, .ref n5, .ref n6, .ref n7, .int 0, .int 0, .int 0, .int 0, .int 0, .int 0, .int 0, .ref n15, .int 0, .ref n17, .int 0, .ref n19, .ref n20, .int (-1), .int 0, .int 0, .ref n24, .int 0, .ref n26, .ref n27, .ref n28, .ref n29, .ref n30, .long 0, .ref n32, .ref n33, .ref n34, .ref n35])), (n35, .inl (tc 3, 4, .inl (fun _ => 0)))] (fun (v : Option Value) (_ : Unit) => v = some (.int (-1))) (fun (_ : Unit) => []) 0 0 := by
  refine Ct.start (by decide) (Nat.le_of_ble_eq_true rfl) (fun p e s m below meth c A ls hx hb hr hlk hin hml hown hts hK hX hP hD hA hl hS => ?_)
  have hl : lv_has ls 3 [(0, .ref h0), (1, .int x1)] := hl
  by_cases c_1 : x1 = 0
  · skip
    subst c_1
    refine lv_iload_n hx hb dX12_back_0 rfl (lv_at hl 1 rfl) ?_
    refine lv_i2l (v := 0) hx hb dX12_back_1 (by decide) ?_
    refine lv_lconst (v := 0) hx hb dX12_back_2 (by decide) ?_
    refine lv_ldc2 hx hb hown (hts _ k_1651) dX12_back_3 ?_
    refine cS (As := [.long 0, .long 0, .long 3]) (rest := []) (wr := [(h0, .inr (12, [.ref n0, .int 0, .int 0, .ref n3, .ref n4, .ref n5, .ref n6, .ref n7, .int 0, .int 0, .int 0, .int 0, .int 0, .int 0, .int 0, .ref n15, .int 0, .ref n17, .int 0, .ref n19, .ref n20, .int (-1), .int 0, .int 0, .ref n24, .int 0, .ref n26, .ref n27, .ref n28, .ref n29, .ref n30, .long 0, .ref n32, .ref n33, .ref n34, .ref n35])), (n35, .inl (tc 3, 4, .inl (fun _ => 0)))]) ⟨hx, hb, hml, hown, hts⟩ hK hX hA (ct_X12_in l D tc sk 0 0 3) k_1259 k_1257 k_1258 k_106 pl_X12_in ⟨Nat.le_of_ble_eq_true rfl, Nat.le_of_ble_eq_true rfl⟩ rfl rfl  hP hD hS [] [0, 1] rfl rfl rfl rfl rfl (by decide) rfl hl.1 rfl (Nat.le_of_ble_eq_true rfl) dX12_back_6 ⟨Nat.le_of_ble_eq_true rfl, Nat.le_of_ble_eq_true rfl⟩ (fun v_2 u_3 H locs hv_4 hP hD hS => ?_)
    obtain rfl : v_2 = some (.int (inF 0 0 3)) := hv_4
    refine W.eq (g2 := F0 m 9 ls [.int (inF 0 0 3)]) rfl ?_
    have hP : va_P D classes [(h0, .inr (12, [.ref n0, .int 0, .int 0, .ref n3, .ref n4, .ref n5, .ref n6, .ref n7, .int 0, .int 0, .int 0, .int 0, .int 0, .int 0, .int 0, .ref n15, .int 0, .ref n17, .int 0, .ref n19, .ref n20, .int (-1), .int 0, .int 0, .ref n24, .int 0, .ref n26, .ref n27, .ref n28, .ref n29, .ref n30, .long 0, .ref n32, .ref n33, .ref n34, .ref n35])), (n35, .inl (tc 3, 4, .inl (fun _ => 0)))] H := hP
    have hD : va_D A [(h0, .inr (12, [.ref n0, .int 0, .int 0, .ref n3, .ref n4, .ref n5, .ref n6, .ref n7, .int 0, .int 0, .int 0, .int 0, .int 0, .int 0, .int 0, .ref n15, .int 0, .ref n17, .int 0, .ref n19, .ref n20, .int (-1), .int 0, .int 0, .ref n24, .int 0, .ref n26, .ref n27, .ref n28, .ref n29, .ref n30, .long 0, .ref n32, .ref n33, .ref n34, .ref n35])), (n35, .inl (tc 3, 4, .inl (fun _ => 0)))] := hD
    refine lv_lit (v := 1) (by decide) ?_
    refine lv_if_eq (tgt := 21) hx hb dX12_back_9 (by decide) (fun c_5 => absurd c_5 (by decide)) (fun c_5 => ?_)
    refine lv_aload_n hx hb dX12_back_12 rfl (lv_at hl 0 rfl) ?_
    refine gf_X12_74 hx hb hts hown hK hP 0 rfl rfl dX12_back_13 ?_
    refine lv_iload_n hx hb dX12_back_16 rfl (lv_at hl 1 rfl) ?_
    refine va_zald hx hb hK hP 1 3 rfl rfl (vin_dec (by decide +kernel)) dX12_back_17 ?_
    refine lv_lit (v := 0) rfl ?_
    refine lv_if_ne (tgt := 23) hx hb dX12_back_18 (by decide) (fun c_6 => absurd c_6 (by decide)) (fun c_6 => ?_)
    refine lv_iconst (v := (-1)) hx hb dX12_back_21 (by decide) ?_
    exact retI (v := (-1)) hx hb hr hlk (rfl) hP hD hS () rfl [] rfl rfl dX12_back_22 (Nat.le_of_ble_eq_true rfl) (Nat.le_of_ble_eq_true rfl) rfl
  · skip
    by_cases c_7 : x1 = 1
    · skip
      subst c_7
      refine lv_iload_n hx hb dX12_back_0 rfl (lv_at hl 1 rfl) ?_
      refine lv_i2l (v := 1) hx hb dX12_back_1 (by decide) ?_
      refine lv_lconst (v := 0) hx hb dX12_back_2 (by decide) ?_
      refine lv_ldc2 hx hb hown (hts _ k_1651) dX12_back_3 ?_
      refine cS (As := [.long 1, .long 0, .long 3]) (rest := []) (wr := [(h0, .inr (12, [.ref n0, .int 0, .int 0, .ref n3, .ref n4, .ref n5, .ref n6, .ref n7, .int 0, .int 0, .int 0, .int 0, .int 0, .int 0, .int 0, .ref n15, .int 0, .ref n17, .int 0, .ref n19, .ref n20, .int (-1), .int 0, .int 0, .ref n24, .int 0, .ref n26, .ref n27, .ref n28, .ref n29, .ref n30, .long 0, .ref n32, .ref n33, .ref n34, .ref n35])), (n35, .inl (tc 3, 4, .inl (fun _ => 0)))]) ⟨hx, hb, hml, hown, hts⟩ hK hX hA (ct_X12_in l D tc sk 1 0 3) k_1259 k_1257 k_1258 k_106 pl_X12_in ⟨Nat.le_of_ble_eq_true rfl, Nat.le_of_ble_eq_true rfl⟩ rfl rfl  hP hD hS [] [0, 1] rfl rfl rfl rfl rfl (by decide) rfl hl.1 rfl (Nat.le_of_ble_eq_true rfl) dX12_back_6 ⟨Nat.le_of_ble_eq_true rfl, Nat.le_of_ble_eq_true rfl⟩ (fun v_8 u_9 H locs hv_10 hP hD hS => ?_)
      obtain rfl : v_8 = some (.int (inF 1 0 3)) := hv_10
      refine W.eq (g2 := F0 m 9 ls [.int (inF 1 0 3)]) rfl ?_
      have hP : va_P D classes [(h0, .inr (12, [.ref n0, .int 0, .int 0, .ref n3, .ref n4, .ref n5, .ref n6, .ref n7, .int 0, .int 0, .int 0, .int 0, .int 0, .int 0, .int 0, .ref n15, .int 0, .ref n17, .int 0, .ref n19, .ref n20, .int (-1), .int 0, .int 0, .ref n24, .int 0, .ref n26, .ref n27, .ref n28, .ref n29, .ref n30, .long 0, .ref n32, .ref n33, .ref n34, .ref n35])), (n35, .inl (tc 3, 4, .inl (fun _ => 0)))] H := hP
      have hD : va_D A [(h0, .inr (12, [.ref n0, .int 0, .int 0, .ref n3, .ref n4, .ref n5, .ref n6, .ref n7, .int 0, .int 0, .int 0, .int 0, .int 0, .int 0, .int 0, .ref n15, .int 0, .ref n17, .int 0, .ref n19, .ref n20, .int (-1), .int 0, .int 0, .ref n24, .int 0, .ref n26, .ref n27, .ref n28, .ref n29, .ref n30, .long 0, .ref n32, .ref n33, .ref n34, .ref n35])), (n35, .inl (tc 3, 4, .inl (fun _ => 0)))] := hD
      refine lv_lit (v := 1) (by decide) ?_
      refine lv_if_eq (tgt := 21) hx hb dX12_back_9 (by decide) (fun c_11 => absurd c_11 (by decide)) (fun c_11 => ?_)
      refine lv_aload_n hx hb dX12_back_12 rfl (lv_at hl 0 rfl) ?_
      refine gf_X12_74 hx hb hts hown hK hP 0 rfl rfl dX12_back_13 ?_
      refine lv_iload_n hx hb dX12_back_16 rfl (lv_at hl 1 rfl) ?_
      refine va_zald hx hb hK hP 1 3 rfl rfl (vin_dec (by decide +kernel)) dX12_back_17 ?_
      refine lv_lit (v := 0) rfl ?_
      refine lv_if_ne (tgt := 23) hx hb dX12_back_18 (by decide) (fun c_12 => absurd c_12 (by decide)) (fun c_12 => ?_)
      refine lv_iconst (v := (-1)) hx hb dX12_back_21 (by decide) ?_
      exact retI (v := (-1)) hx hb hr hlk (rfl) hP hD hS () rfl [] rfl rfl dX12_back_22 (Nat.le_of_ble_eq_true rfl) (Nat.le_of_ble_eq_true rfl) rfl
    · skip
      by_cases c_13 : x1 = 2
      · skip
        subst c_13
        refine lv_iload_n hx hb dX12_back_0 rfl (lv_at hl 1 rfl) ?_
        refine lv_i2l (v := 2) hx hb dX12_back_1 (by decide) ?_
        refine lv_lconst (v := 0) hx hb dX12_back_2 (by decide) ?_
        refine lv_ldc2 hx hb hown (hts _ k_1651) dX12_back_3 ?_
        refine cS (As := [.long 2, .long 0, .long 3]) (rest := []) (wr := [(h0, .inr (12, [.ref n0, .int 0, .int 0, .ref n3, .ref n4, .ref n5, .ref n6, .ref n7, .int 0, .int 0, .int 0, .int 0, .int 0, .int 0, .int 0, .ref n15, .int 0, .ref n17, .int 0, .ref n19, .ref n20, .int (-1), .int 0, .int 0, .ref n24, .int 0, .ref n26, .ref n27, .ref n28, .ref n29, .ref n30, .long 0, .ref n32, .ref n33, .ref n34, .ref n35])), (n35, .inl (tc 3, 4, .inl (fun _ => 0)))]) ⟨hx, hb, hml, hown, hts⟩ hK hX hA (ct_X12_in l D tc sk 2 0 3) k_1259 k_1257 k_1258 k_106 pl_X12_in ⟨Nat.le_of_ble_eq_true rfl, Nat.le_of_ble_eq_true rfl⟩ rfl rfl  hP hD hS [] [0, 1] rfl rfl rfl rfl rfl (by decide) rfl hl.1 rfl (Nat.le_of_ble_eq_true rfl) dX12_back_6 ⟨Nat.le_of_ble_eq_true rfl, Nat.le_of_ble_eq_true rfl⟩ (fun v_14 u_15 H locs hv_16 hP hD hS => ?_)
        obtain rfl : v_14 = some (.int (inF 2 0 3)) := hv_16
        refine W.eq (g2 := F0 m 9 ls [.int (inF 2 0 3)]) rfl ?_
        have hP : va_P D classes [(h0, .inr (12, [.ref n0, .int 0, .int 0, .ref n3, .ref n4, .ref n5, .ref n6, .ref n7, .int 0, .int 0, .int 0, .int 0, .int 0, .int 0, .int 0, .ref n15, .int 0, .ref n17, .int 0, .ref n19, .ref n20, .int (-1), .int 0, .int 0, .ref n24, .int 0, .ref n26, .ref n27, .ref n28, .ref n29, .ref n30, .long 0, .ref n32, .ref n33, .ref n34, .ref n35])), (n35, .inl (tc 3, 4, .inl (fun _ => 0)))] H := hP
        have hD : va_D A [(h0, .inr (12, [.ref n0, .int 0, .int 0, .ref n3, .ref n4, .ref n5, .ref n6, .ref n7, .int 0, .int 0, .int 0, .int 0, .int 0, .int 0, .int 0, .ref n15, .int 0, .ref n17, .int 0, .ref n19, .ref n20, .int (-1), .int 0, .int 0, .ref n24, .int 0, .ref n26, .ref n27, .ref n28, .ref n29, .ref n30, .long 0, .ref n32, .ref n33, .ref n34, .ref n35])), (n35, .inl (tc 3, 4, .inl (fun _ => 0)))] := hD
        refine lv_lit (v := 1) (by decide) ?_
        refine lv_if_eq (tgt := 21) hx hb dX12_back_9 (by decide) (fun c_17 => absurd c_17 (by decide)) (fun c_17 => ?_)
        refine lv_aload_n hx hb dX12_back_12 rfl (lv_at hl 0 rfl) ?_
        refine gf_X12_74 hx hb hts hown hK hP 0 rfl rfl dX12_back_13 ?_
        refine lv_iload_n hx hb dX12_back_16 rfl (lv_at hl 1 rfl) ?_
        refine va_zald hx hb hK hP 1 3 rfl rfl (vin_dec (by decide +kernel)) dX12_back_17 ?_
        refine lv_lit (v := 0) rfl ?_
        refine lv_if_ne (tgt := 23) hx hb dX12_back_18 (by decide) (fun c_18 => absurd c_18 (by decide)) (fun c_18 => ?_)
        refine lv_iconst (v := (-1)) hx hb dX12_back_21 (by decide) ?_
        exact retI (v := (-1)) hx hb hr hlk (rfl) hP hD hS () rfl [] rfl rfl dX12_back_22 (Nat.le_of_ble_eq_true rfl) (Nat.le_of_ble_eq_true rfl) rfl
      · skip
        by_cases c_19 : x1 = 3
        · skip
          subst c_19
          refine lv_iload_n hx hb dX12_back_0 rfl (lv_at hl 1 rfl) ?_
          refine lv_i2l (v := 3) hx hb dX12_back_1 (by decide) ?_
          refine lv_lconst (v := 0) hx hb dX12_back_2 (by decide) ?_
          refine lv_ldc2 hx hb hown (hts _ k_1651) dX12_back_3 ?_
          refine cS (As := [.long 3, .long 0, .long 3]) (rest := []) (wr := [(h0, .inr (12, [.ref n0, .int 0, .int 0, .ref n3, .ref n4, .ref n5, .ref n6, .ref n7, .int 0, .int 0, .int 0, .int 0, .int 0, .int 0, .int 0, .ref n15, .int 0, .ref n17, .int 0, .ref n19, .ref n20, .int (-1), .int 0, .int 0, .ref n24, .int 0, .ref n26, .ref n27, .ref n28, .ref n29, .ref n30, .long 0, .ref n32, .ref n33, .ref n34, .ref n35])), (n35, .inl (tc 3, 4, .inl (fun _ => 0)))]) ⟨hx, hb, hml, hown, hts⟩ hK hX hA (ct_X12_in l D tc sk 3 0 3) k_1259 k_1257 k_1258 k_106 pl_X12_in ⟨Nat.le_of_ble_eq_true rfl, Nat.le_of_ble_eq_true rfl⟩ rfl rfl  hP hD hS [] [0, 1] rfl rfl rfl rfl rfl (by decide) rfl hl.1 rfl (Nat.le_of_ble_eq_true rfl) dX12_back_6 ⟨Nat.le_of_ble_eq_true rfl, Nat.le_of_ble_eq_true rfl⟩ (fun v_20 u_21 H locs hv_22 hP hD hS => ?_)
          obtain rfl : v_20 = some (.int (inF 3 0 3)) := hv_22
          refine W.eq (g2 := F0 m 9 ls [.int (inF 3 0 3)]) rfl ?_
          have hP : va_P D classes [(h0, .inr (12, [.ref n0, .int 0, .int 0, .ref n3, .ref n4, .ref n5, .ref n6, .ref n7, .int 0, .int 0, .int 0, .int 0, .int 0, .int 0, .int 0, .ref n15, .int 0, .ref n17, .int 0, .ref n19, .ref n20, .int (-1), .int 0, .int 0, .ref n24, .int 0, .ref n26, .ref n27, .ref n28, .ref n29, .ref n30, .long 0, .ref n32, .ref n33, .ref n34, .ref n35])), (n35, .inl (tc 3, 4, .inl (fun _ => 0)))] H := hP
          have hD : va_D A [(h0, .inr (12, [.ref n0, .int 0, .int 0, .ref n3, .ref n4, .ref n5, .ref n6, .ref n7, .int 0, .int 0, .int 0, .int 0, .int 0, .int 0, .int 0, .ref n15, .int 0, .ref n17, .int 0, .ref n19, .ref n20, .int (-1), .int 0, .int 0, .ref n24, .int 0, .ref n26, .ref n27, .ref n28, .ref n29, .ref n30, .long 0, .ref n32, .ref n33, .ref n34, .ref n35])), (n35, .inl (tc 3, 4, .inl (fun _ => 0)))] := hD
          refine lv_lit (v := 1) (by decide) ?_
          refine lv_if_eq (tgt := 21) hx hb dX12_back_9 (by decide) (fun c_23 => absurd c_23 (by decide)) (fun c_23 => ?_)
          refine lv_aload_n hx hb dX12_back_12 rfl (lv_at hl 0 rfl) ?_
          refine gf_X12_74 hx hb hts hown hK hP 0 rfl rfl dX12_back_13 ?_
          refine lv_iload_n hx hb dX12_back_16 rfl (lv_at hl 1 rfl) ?_
          refine va_zald hx hb hK hP 1 3 rfl rfl (vin_dec (by decide +kernel)) dX12_back_17 ?_
          refine lv_lit (v := 0) rfl ?_
          refine lv_if_ne (tgt := 23) hx hb dX12_back_18 (by decide) (fun c_24 => absurd c_24 (by decide)) (fun c_24 => ?_)
          refine lv_iconst (v := (-1)) hx hb dX12_back_21 (by decide) ?_
          exact retI (v := (-1)) hx hb hr hlk (rfl) hP hD hS () rfl [] rfl rfl dX12_back_22 (Nat.le_of_ble_eq_true rfl) (Nat.le_of_ble_eq_true rfl) rfl
        · skip
          have hout_25 : (x1 : Int32).toInt < 0 ∨ 3 < (x1 : Int32).toInt := by
            have z_1 : ¬ (x1 : Int32).toInt = (0 : Int32).toInt := fun z => c_1 (Int32.toInt_inj.mp z)
            have z_2 : ¬ (x1 : Int32).toInt = (1 : Int32).toInt := fun z => c_7 (Int32.toInt_inj.mp z)
            have z_3 : ¬ (x1 : Int32).toInt = (2 : Int32).toInt := fun z => c_13 (Int32.toInt_inj.mp z)
            have z_4 : ¬ (x1 : Int32).toInt = (3 : Int32).toInt := fun z => c_19 (Int32.toInt_inj.mp z)
            have y_0 : (0 : Int32).toInt = 0 := by decide
            have y_1 : (1 : Int32).toInt = 1 := by decide
            have y_2 : (2 : Int32).toInt = 2 := by decide
            have y_3 : (3 : Int32).toInt = 3 := by decide
            omega
          refine lv_iload_n hx hb dX12_back_0 rfl (lv_at hl 1 rfl) ?_
          refine lv_i2l (v := (x1).toInt64) hx hb dX12_back_1 rfl ?_
          refine lv_lconst (v := 0) hx hb dX12_back_2 (by decide) ?_
          refine lv_ldc2 hx hb hown (hts _ k_1651) dX12_back_3 ?_
          refine cS (As := [.long (x1).toInt64, .long 0, .long 3]) (rest := []) (wr := [(h0, .inr (12, [.ref n0, .int 0, .int 0, .ref n3, .ref n4, .ref n5, .ref n6, .ref n7, .int 0, .int 0, .int 0, .int 0, .int 0, .int 0, .int 0, .ref n15, .int 0, .ref n17, .int 0, .ref n19, .ref n20, .int (-1), .int 0, .int 0, .ref n24, .int 0, .ref n26, .ref n27, .ref n28, .ref n29, .ref n30, .long 0, .ref n32, .ref n33, .ref n34, .ref n35])), (n35, .inl (tc 3, 4, .inl (fun _ => 0)))]) ⟨hx, hb, hml, hown, hts⟩ hK hX hA (ct_X12_in l D tc sk (x1).toInt64 0 3) k_1259 k_1257 k_1258 k_106 pl_X12_in ⟨Nat.le_of_ble_eq_true rfl, Nat.le_of_ble_eq_true rfl⟩ rfl rfl  hP hD hS [] [0, 1] rfl rfl rfl rfl rfl (by decide) rfl hl.1 rfl (Nat.le_of_ble_eq_true rfl) dX12_back_6 ⟨Nat.le_of_ble_eq_true rfl, Nat.le_of_ble_eq_true rfl⟩ (fun v_26 u_27 H locs hv_28 hP hD hS => ?_)
          obtain rfl : v_26 = some (.int (inF ((x1).toInt64) 0 3)) := hv_28
          refine W.eq (g2 := F0 m 9 ls [.int (inF ((x1).toInt64) 0 3)]) rfl ?_
          have hP : va_P D classes [(h0, .inr (12, [.ref n0, .int 0, .int 0, .ref n3, .ref n4, .ref n5, .ref n6, .ref n7, .int 0, .int 0, .int 0, .int 0, .int 0, .int 0, .int 0, .ref n15, .int 0, .ref n17, .int 0, .ref n19, .ref n20, .int (-1), .int 0, .int 0, .ref n24, .int 0, .ref n26, .ref n27, .ref n28, .ref n29, .ref n30, .long 0, .ref n32, .ref n33, .ref n34, .ref n35])), (n35, .inl (tc 3, 4, .inl (fun _ => 0)))] H := hP
          have hD : va_D A [(h0, .inr (12, [.ref n0, .int 0, .int 0, .ref n3, .ref n4, .ref n5, .ref n6, .ref n7, .int 0, .int 0, .int 0, .int 0, .int 0, .int 0, .int 0, .ref n15, .int 0, .ref n17, .int 0, .ref n19, .ref n20, .int (-1), .int 0, .int 0, .ref n24, .int 0, .ref n26, .ref n27, .ref n28, .ref n29, .ref n30, .long 0, .ref n32, .ref n33, .ref n34, .ref n35])), (n35, .inl (tc 3, 4, .inl (fun _ => 0)))] := hD
          refine lv_lit (v := 0) (inF_out hout_25) ?_
          refine lv_if_eq (tgt := 21) hx hb dX12_back_9 (by decide) (fun c_29 => ?_) (fun c_29 => absurd c_29 (by decide))
          refine lv_iconst (v := (-1)) hx hb dX12_back_21 (by decide) ?_
          exact retI (v := (-1)) hx hb hr hlk (rfl) hP hD hS () rfl [] rfl rfl dX12_back_22 (Nat.le_of_ble_eq_true rfl) (Nat.le_of_ble_eq_true rfl) rfl
set_option maxHeartbeats 4000000 in
set_option maxRecDepth 100000 in
theorem ct_X12_see (l : Launch) (D : va_G) (tc : Nat → ClassId) (sk : (Nat → Nat) × (Nat → Nat)) (h0 : Nat) (n0 : Nat) (n3 : Nat) (n4 : Nat) (n5 : Nat) (n6 : Nat) (n7 : Nat) (n15 : Nat) (n17 : Nat) (n19 : Nat) (n20 : Nat) (n24 : Nat) (n26 : Nat) (n27 : Nat) (n28 : Nat) (n29 : Nat) (n30 : Nat) (n32 : Nat) (n33 : Nat) (n34 : Nat) (n35 : Nat) (i2 : Int32) (i9 : Int32) (i10 : Int32) (i11 : Int32) (i12 : Int32) (i13 : Int32) (i14 : Int32) (i16 : Int32) (i18 : Int32) (i21 : Int32) (i22 : Int32) (i23 : Int32) (i25 : Int32) (jx : Int64)  : Ct l yX12_see cX12_see 1 (some .int) { frames := 0, cells := 0, slots := 0, locals := 0 } D tc sk [.ref h0] [(h0, .inr (12, [.ref n0, .int 0, .int i2, .ref n3, .ref n4, .ref n5, .ref n6, .ref n7, .int 0, .int i9, .int i10, .int i11, .int i12, .int i13, .int i14, .ref n15, .int i16, .ref n17, .int i18, .ref n19, .ref n20, .int i21, .int i22, .int i23, .ref n24, .int i25, .ref n26, .ref n27, .ref n28, .ref n29, .ref n30, .long jx, .ref n32, .ref n33, .ref n34, .ref n35]))] (fun (v : Option Value) (_ : Unit) => v = some (.int (-1))) (fun (_ : Unit) => [(h0, .inr (12, [.ref n0, .int 0, .int i2, .ref n3, .ref n4, .ref n5, .ref n6, .ref n7, .int 0, .int i9, .int i10, .int i11, .int i12, .int i13, .int i14, .ref n15, .int i16, .ref n17, .int i18, .ref n19, .ref n20, .int i21, .int i22, .int i23, .ref n24, .int i25, .ref n26, .ref n27, .ref n28, .ref n29, .ref n30, .long jx, .ref n32, .ref n33, .ref n34, .ref n35]))]) 0 0 := by
  refine Ct.start (by decide) (Nat.le_of_ble_eq_true rfl) (fun p e s m below meth c A ls hx hb hr hlk hin hml hown hts hK hX hP hD hA hl hS => ?_)
  have hl : lv_has ls 1 [(0, .ref h0)] := hl
  refine lv_aload_n hx hb dX12_see_0 rfl (lv_at hl 0 rfl) ?_
  refine gf_X12_87 hx hb hts hown hK hP 0 rfl rfl dX12_see_1 ?_
  refine lv_aload_n hx hb dX12_see_4 rfl (lv_at hl 0 rfl) ?_
  refine gf_X12_77 hx hb hts hown hK hP 0 rfl rfl dX12_see_5 ?_
  refine lv_icmp_ge (tgt := 38) hx hb dX12_see_8 (by decide) (fun c_1 => ?_) (fun c_1 => absurd c_1 (by decide))
  refine lv_aload_n hx hb dX12_see_38 rfl (lv_at hl 0 rfl) ?_
  refine gf_X12_87 hx hb hts hown hK hP 0 rfl rfl dX12_see_39 ?_
  refine lv_aload_n hx hb dX12_see_42 rfl (lv_at hl 0 rfl) ?_
  refine gf_X12_77 hx hb hts hown hK hP 0 rfl rfl dX12_see_43 ?_
  refine lv_icmp_ge (tgt := 65) hx hb dX12_see_46 (by decide) (fun c_2 => ?_) (fun c_2 => absurd c_2 (by decide))
  refine lv_iconst (v := (-1)) hx hb dX12_see_65 (by decide) ?_
  exact retI (v := (-1)) hx hb hr hlk (rfl) hP hD hS () rfl [0] rfl rfl dX12_see_66 (Nat.le_of_ble_eq_true rfl) (Nat.le_of_ble_eq_true rfl) rfl
set_option maxHeartbeats 4000000 in
set_option maxRecDepth 100000 in
theorem ct_X12_isLetter (l : Launch) (D : va_G) (tc : Nat → ClassId) (sk : (Nat → Nat) × (Nat → Nat)) (h0 : Nat) (n0 : Nat) (n3 : Nat) (n4 : Nat) (n5 : Nat) (n6 : Nat) (n7 : Nat) (n15 : Nat) (n17 : Nat) (n19 : Nat) (n20 : Nat) (n24 : Nat) (n26 : Nat) (n27 : Nat) (n28 : Nat) (n29 : Nat) (n30 : Nat) (n32 : Nat) (n33 : Nat) (n34 : Nat) (n35 : Nat) (i2 : Int32) (i9 : Int32) (i10 : Int32) (i11 : Int32) (i12 : Int32) (i13 : Int32) (i14 : Int32) (i16 : Int32) (i18 : Int32) (i21 : Int32) (i22 : Int32) (i23 : Int32) (i25 : Int32) (jx : Int64)  : Ct l yX12_isLetter cX12_isLetter 2 (some .boolean) { frames := 0, cells := 0, slots := 0, locals := 0 } D tc sk [.ref h0, .int 0] [(h0, .inr (12, [.ref n0, .int 0, .int i2, .ref n3, .ref n4, .ref n5, .ref n6, .ref n7, .int 0, .int i9, .int i10, .int i11, .int i12, .int i13, .int i14, .ref n15, .int i16, .ref n17, .int i18, .ref n19, .ref n20, .int i21, .int i22, .int i23, .ref n24, .int i25, .ref n26, .ref n27, .ref n28, .ref n29, .ref n30, .long jx, .ref n32, .ref n33, .ref n34, .ref n35]))] (fun (v : Option Value) (_ : Unit) => v = some (.int 0)) (fun (_ : Unit) => [(h0, .inr (12, [.ref n0, .int 0, .int i2, .ref n3, .ref n4, .ref n5, .ref n6, .ref n7, .int 0, .int i9, .int i10, .int i11, .int i12, .int i13, .int i14, .ref n15, .int i16, .ref n17, .int i18, .ref n19, .ref n20, .int i21, .int i22, .int i23, .ref n24, .int i25, .ref n26, .ref n27, .ref n28, .ref n29, .ref n30, .long jx, .ref n32, .ref n33, .ref n34, .ref n35]))]) 0 0 := by
  refine Ct.start (by decide) (Nat.le_of_ble_eq_true rfl) (fun p e s m below meth c A ls hx hb hr hlk hin hml hown hts hK hX hP hD hA hl hS => ?_)
  have hl : lv_has ls 2 [(0, .ref h0), (1, .int 0)] := hl
  refine lv_iload_n hx hb dX12_isLetter_0 rfl (lv_at hl 1 rfl) ?_
  refine lv_aload_n hx hb dX12_isLetter_1 rfl (lv_at hl 0 rfl) ?_
  refine gf_X12_77 hx hb hts hown hK hP 0 rfl rfl dX12_isLetter_2 ?_
  refine lv_icmp_ge (tgt := 34) hx hb dX12_isLetter_5 (by decide) (fun c_1 => ?_) (fun c_1 => absurd c_1 (by decide))
  refine lv_iconst (v := 0) hx hb dX12_isLetter_34 (by decide) ?_
  exact retI (v := 0) hx hb hr hlk (rfl) hP hD hS () rfl [0] rfl rfl dX12_isLetter_35 (Nat.le_of_ble_eq_true rfl) (Nat.le_of_ble_eq_true rfl) rfl
set_option maxHeartbeats 4000000 in
set_option maxRecDepth 100000 in
theorem ct_X12_isWord (l : Launch) (D : va_G) (tc : Nat → ClassId) (sk : (Nat → Nat) × (Nat → Nat)) (h0 : Nat) (n0 : Nat) (n3 : Nat) (n4 : Nat) (n5 : Nat) (n6 : Nat) (n7 : Nat) (n15 : Nat) (n17 : Nat) (n19 : Nat) (n20 : Nat) (n24 : Nat) (n26 : Nat) (n27 : Nat) (n28 : Nat) (n29 : Nat) (n30 : Nat) (n32 : Nat) (n33 : Nat) (n34 : Nat) (n35 : Nat) (i2 : Int32) (i9 : Int32) (i10 : Int32) (i11 : Int32) (i12 : Int32) (i13 : Int32) (i14 : Int32) (i16 : Int32) (i18 : Int32) (i21 : Int32) (i22 : Int32) (i23 : Int32) (i25 : Int32) (jx : Int64) (w1 : Int64)  : Ct l yX12_isWord cX12_isWord 6 (some .boolean) { frames := 1, cells := 0, slots := 0, locals := 21 } D tc sk [.ref h0, .long w1] [(h0, .inr (12, [.ref n0, .int 0, .int i2, .ref n3, .ref n4, .ref n5, .ref n6, .ref n7, .int 0, .int i9, .int i10, .int i11, .int i12, .int i13, .int i14, .ref n15, .int i16, .ref n17, .int i18, .ref n19, .ref n20, .int i21, .int i22, .int i23, .ref n24, .int i25, .ref n26, .ref n27, .ref n28, .ref n29, .ref n30, .long jx, .ref n32, .ref n33, .ref n34, .ref n35]))] (fun (v : Option Value) (_ : Unit) => v = some (.int 0)) (fun (_ : Unit) => [(h0, .inr (12, [.ref n0, .int 0, .int i2, .ref n3, .ref n4, .ref n5, .ref n6, .ref n7, .int 0, .int i9, .int i10, .int i11, .int i12, .int i13, .int i14, .ref n15, .int i16, .ref n17, .int i18, .ref n19, .ref n20, .int i21, .int i22, .int i23, .ref n24, .int i25, .ref n26, .ref n27, .ref n28, .ref n29, .ref n30, .long jx, .ref n32, .ref n33, .ref n34, .ref n35]))]) 0 0 := by
  refine Ct.start (by decide) (Nat.le_of_ble_eq_true rfl) (fun p e s m below meth c A ls hx hb hr hlk hin hml hown hts hK hX hP hD hA hl hS => ?_)
  have hl : lv_has ls 6 [(0, .ref h0), (1, .long w1)] := hl
  refine lv_aload_n hx hb dX12_isWord_0 rfl (lv_at hl 0 rfl) ?_
  refine cV (a := h0) (As := []) (rest := []) (wr := []) ⟨hx, hb, hml, hown, hts⟩ hK hX hA (ct_X12_see l D tc sk h0 n0 n3 n4 n5 n6 n7 n15 n17 n19 n20 n24 n26 n27 n28 n29 n30 n32 n33 n34 n35 i2 i9 i10 i11 i12 i13 i14 i16 i18 i21 i22 i23 i25 jx) k_1211 k_1208 k_1210 k_27 k_106 pl_X12_see ⟨Nat.le_of_ble_eq_true rfl, Nat.le_of_ble_eq_true rfl⟩ rfl rfl (va_recv hK hP (ci := 12) (q0 := 0) rfl rfl) hP hD hS [0] [] rfl rfl rfl rfl rfl (by decide) rfl hl.1 rfl (Nat.le_of_ble_eq_true rfl) dX12_isWord_1 ⟨Nat.le_of_ble_eq_true rfl, Nat.le_of_ble_eq_true rfl⟩ (fun v_1 u_2 H locs hv_3 hP hD hS => ?_)
  obtain rfl : v_1 = some (.int (-1)) := hv_3
  refine W.eq (g2 := F0 m 4 ls [.int (-1)]) rfl ?_
  have hP : va_P D classes [(h0, .inr (12, [.ref n0, .int 0, .int i2, .ref n3, .ref n4, .ref n5, .ref n6, .ref n7, .int 0, .int i9, .int i10, .int i11, .int i12, .int i13, .int i14, .ref n15, .int i16, .ref n17, .int i18, .ref n19, .ref n20, .int i21, .int i22, .int i23, .ref n24, .int i25, .ref n26, .ref n27, .ref n28, .ref n29, .ref n30, .long jx, .ref n32, .ref n33, .ref n34, .ref n35]))] H := hP
  have hD : va_D A [(h0, .inr (12, [.ref n0, .int 0, .int i2, .ref n3, .ref n4, .ref n5, .ref n6, .ref n7, .int 0, .int i9, .int i10, .int i11, .int i12, .int i13, .int i14, .ref n15, .int i16, .ref n17, .int i18, .ref n19, .ref n20, .int i21, .int i22, .int i23, .ref n24, .int i25, .ref n26, .ref n27, .ref n28, .ref n29, .ref n30, .long jx, .ref n32, .ref n33, .ref n34, .ref n35]))] := hD
  refine lv_pop hx hb dX12_isWord_4 rfl ?_
  refine lv_lconst (v := 0) hx hb dX12_isWord_5 (by decide) ?_
  refine lv_lstore_n (lv' := [(3, .long 0), (0, .ref h0), (1, .long w1)]) hx hb dX12_isWord_6 rfl hl (by decide) rfl (fun ls hl => ?_)
  refine lv_iconst (v := 0) hx hb dX12_isWord_7 (by decide) ?_
  refine lv_istore (lv' := [(5, .int 0), (3, .long 0), (0, .ref h0), (1, .long w1)]) hx hb dX12_isWord_8 hl (by decide) rfl (fun ls hl => ?_)
  refine lv_aload_n hx hb dX12_isWord_10 rfl (lv_at hl 2 rfl) ?_
  refine lv_aload_n hx hb dX12_isWord_11 rfl (lv_at hl 2 rfl) ?_
  refine gf_X12_87 hx hb hts hown hK hP 0 rfl rfl dX12_isWord_12 ?_
  refine lv_iload hx hb dX12_isWord_15 (lv_at hl 0 rfl) ?_
  refine lv_iadd hx hb dX12_isWord_17 ?_
  refine lv_lit (v := 0) (by decide) ?_
  refine cV (a := h0) (As := [.int 0]) (rest := []) (wr := []) ⟨hx, hb, hml, hown, hts⟩ hK hX hA (ct_X12_isLetter l D tc sk h0 n0 n3 n4 n5 n6 n7 n15 n17 n19 n20 n24 n26 n27 n28 n29 n30 n32 n33 n34 n35 i2 i9 i10 i11 i12 i13 i14 i16 i18 i21 i22 i23 i25 jx) k_1224 k_1221 k_1223 k_30 k_106 pl_X12_isLetter ⟨Nat.le_of_ble_eq_true rfl, Nat.le_of_ble_eq_true rfl⟩ rfl rfl (va_recv hK hP (ci := 12) (q0 := 0) rfl rfl) hP hD hS [0] [] rfl rfl rfl rfl rfl (by decide) rfl hl.1 rfl (Nat.le_of_ble_eq_true rfl) dX12_isWord_18 ⟨Nat.le_of_ble_eq_true rfl, Nat.le_of_ble_eq_true rfl⟩ (fun v_4 u_5 H locs hv_6 hP hD hS => ?_)
  obtain rfl : v_4 = some (.int 0) := hv_6
  refine W.eq (g2 := F0 m 21 ls [.int 0]) rfl ?_
  have hP : va_P D classes [(h0, .inr (12, [.ref n0, .int 0, .int i2, .ref n3, .ref n4, .ref n5, .ref n6, .ref n7, .int 0, .int i9, .int i10, .int i11, .int i12, .int i13, .int i14, .ref n15, .int i16, .ref n17, .int i18, .ref n19, .ref n20, .int i21, .int i22, .int i23, .ref n24, .int i25, .ref n26, .ref n27, .ref n28, .ref n29, .ref n30, .long jx, .ref n32, .ref n33, .ref n34, .ref n35]))] H := hP
  have hD : va_D A [(h0, .inr (12, [.ref n0, .int 0, .int i2, .ref n3, .ref n4, .ref n5, .ref n6, .ref n7, .int 0, .int i9, .int i10, .int i11, .int i12, .int i13, .int i14, .ref n15, .int i16, .ref n17, .int i18, .ref n19, .ref n20, .int i21, .int i22, .int i23, .ref n24, .int i25, .ref n26, .ref n27, .ref n28, .ref n29, .ref n30, .long jx, .ref n32, .ref n33, .ref n34, .ref n35]))] := hD
  refine lv_if_eq (tgt := 56) hx hb dX12_isWord_21 (by decide) (fun c_7 => ?_) (fun c_7 => absurd c_7 (by decide))
  refine lv_iload hx hb dX12_isWord_56 (lv_at hl 0 rfl) ?_
  refine lv_if_le (tgt := 78) hx hb dX12_isWord_58 (by decide) (fun c_8 => ?_) (fun c_8 => absurd c_8 (by decide))
  refine lv_iconst (v := 0) hx hb dX12_isWord_78 (by decide) ?_
  exact retI (v := 0) hx hb hr hlk (rfl) hP hD hS () rfl [0] rfl rfl dX12_isWord_79 (Nat.le_of_ble_eq_true rfl) (Nat.le_of_ble_eq_true rfl) rfl
set_option maxHeartbeats 4000000 in
set_option maxRecDepth 100000 in
theorem ct_X12_isBookWord (l : Launch) (D : va_G) (tc : Nat → ClassId) (sk : (Nat → Nat) × (Nat → Nat)) (h0 : Nat) (n0 : Nat) (n3 : Nat) (n4 : Nat) (n5 : Nat) (n6 : Nat) (n7 : Nat) (n15 : Nat) (n17 : Nat) (n19 : Nat) (n20 : Nat) (n24 : Nat) (n26 : Nat) (n27 : Nat) (n28 : Nat) (n29 : Nat) (n30 : Nat) (n32 : Nat) (n33 : Nat) (n34 : Nat) (n35 : Nat) (i2 : Int32) (i9 : Int32) (i10 : Int32) (i11 : Int32) (i12 : Int32) (i13 : Int32) (i14 : Int32) (i16 : Int32) (i18 : Int32) (i21 : Int32) (i22 : Int32) (i23 : Int32) (i25 : Int32) (jx : Int64)  : Ct l yX12_isBookWord cX12_isBookWord 1 (some .boolean) { frames := 2, cells := 0, slots := 0, locals := 46 } D tc sk [.ref h0] [(h0, .inr (12, [.ref n0, .int 0, .int i2, .ref n3, .ref n4, .ref n5, .ref n6, .ref n7, .int 0, .int i9, .int i10, .int i11, .int i12, .int i13, .int i14, .ref n15, .int i16, .ref n17, .int i18, .ref n19, .ref n20, .int i21, .int i22, .int i23, .ref n24, .int i25, .ref n26, .ref n27, .ref n28, .ref n29, .ref n30, .long jx, .ref n32, .ref n33, .ref n34, .ref n35]))] (fun (v : Option Value) (_ : Unit) => v = some (.int 0)) (fun (_ : Unit) => [(h0, .inr (12, [.ref n0, .int 0, .int i2, .ref n3, .ref n4, .ref n5, .ref n6, .ref n7, .int 0, .int i9, .int i10, .int i11, .int i12, .int i13, .int i14, .ref n15, .int i16, .ref n17, .int i18, .ref n19, .ref n20, .int i21, .int i22, .int i23, .ref n24, .int i25, .ref n26, .ref n27, .ref n28, .ref n29, .ref n30, .long jx, .ref n32, .ref n33, .ref n34, .ref n35]))]) 0 0 := by
  refine Ct.start (by decide) (Nat.le_of_ble_eq_true rfl) (fun p e s m below meth c A ls hx hb hr hlk hin hml hown hts hK hX hP hD hA hl hS => ?_)
  have hl : lv_has ls 1 [(0, .ref h0)] := hl
  refine lv_aload_n hx hb dX12_isBookWord_0 rfl (lv_at hl 0 rfl) ?_
  refine lv_ldc2 hx hb hown (hts _ k_1216) dX12_isBookWord_1 ?_
  refine cV (a := h0) (As := [.long 1651470187]) (rest := []) (wr := []) ⟨hx, hb, hml, hown, hts⟩ hK hX hA (ct_X12_isWord l D tc sk h0 n0 n3 n4 n5 n6 n7 n15 n17 n19 n20 n24 n26 n27 n28 n29 n30 n32 n33 n34 n35 i2 i9 i10 i11 i12 i13 i14 i16 i18 i21 i22 i23 i25 jx 1651470187) k_1220 k_1217 k_1219 k_29 k_106 pl_X12_isWord ⟨Nat.le_of_ble_eq_true rfl, Nat.le_of_ble_eq_true rfl⟩ rfl rfl (va_recv hK hP (ci := 12) (q0 := 0) rfl rfl) hP hD hS [0] [] rfl rfl rfl rfl rfl (by decide) rfl hl.1 rfl (Nat.le_of_ble_eq_true rfl) dX12_isBookWord_4 ⟨Nat.le_of_ble_eq_true rfl, Nat.le_of_ble_eq_true rfl⟩ (fun v_1 u_2 H locs hv_3 hP hD hS => ?_)
  obtain rfl : v_1 = some (.int 0) := hv_3
  refine W.eq (g2 := F0 m 7 ls [.int 0]) rfl ?_
  have hP : va_P D classes [(h0, .inr (12, [.ref n0, .int 0, .int i2, .ref n3, .ref n4, .ref n5, .ref n6, .ref n7, .int 0, .int i9, .int i10, .int i11, .int i12, .int i13, .int i14, .ref n15, .int i16, .ref n17, .int i18, .ref n19, .ref n20, .int i21, .int i22, .int i23, .ref n24, .int i25, .ref n26, .ref n27, .ref n28, .ref n29, .ref n30, .long jx, .ref n32, .ref n33, .ref n34, .ref n35]))] H := hP
  have hD : va_D A [(h0, .inr (12, [.ref n0, .int 0, .int i2, .ref n3, .ref n4, .ref n5, .ref n6, .ref n7, .int 0, .int i9, .int i10, .int i11, .int i12, .int i13, .int i14, .ref n15, .int i16, .ref n17, .int i18, .ref n19, .ref n20, .int i21, .int i22, .int i23, .ref n24, .int i25, .ref n26, .ref n27, .ref n28, .ref n29, .ref n30, .long jx, .ref n32, .ref n33, .ref n34, .ref n35]))] := hD
  refine lv_if_ne (tgt := 40) hx hb dX12_isBookWord_7 (by decide) (fun c_4 => absurd c_4 (by decide)) (fun c_4 => ?_)
  refine lv_aload_n hx hb dX12_isBookWord_10 rfl (lv_at hl 0 rfl) ?_
  refine lv_ldc2 hx hb hown (hts _ k_1225) dX12_isBookWord_11 ?_
  refine cV (a := h0) (As := [.long 7564153]) (rest := []) (wr := []) ⟨hx, hb, hml, hown, hts⟩ hK hX hA (ct_X12_isWord l D tc sk h0 n0 n3 n4 n5 n6 n7 n15 n17 n19 n20 n24 n26 n27 n28 n29 n30 n32 n33 n34 n35 i2 i9 i10 i11 i12 i13 i14 i16 i18 i21 i22 i23 i25 jx 7564153) k_1220 k_1217 k_1219 k_29 k_106 pl_X12_isWord ⟨Nat.le_of_ble_eq_true rfl, Nat.le_of_ble_eq_true rfl⟩ rfl rfl (va_recv hK hP (ci := 12) (q0 := 0) rfl rfl) hP hD hS [0] [] rfl rfl rfl rfl rfl (by decide) rfl hl.1 rfl (Nat.le_of_ble_eq_true rfl) dX12_isBookWord_14 ⟨Nat.le_of_ble_eq_true rfl, Nat.le_of_ble_eq_true rfl⟩ (fun v_5 u_6 H locs hv_7 hP hD hS => ?_)
  obtain rfl : v_5 = some (.int 0) := hv_7
  refine W.eq (g2 := F0 m 17 ls [.int 0]) rfl ?_
  have hP : va_P D classes [(h0, .inr (12, [.ref n0, .int 0, .int i2, .ref n3, .ref n4, .ref n5, .ref n6, .ref n7, .int 0, .int i9, .int i10, .int i11, .int i12, .int i13, .int i14, .ref n15, .int i16, .ref n17, .int i18, .ref n19, .ref n20, .int i21, .int i22, .int i23, .ref n24, .int i25, .ref n26, .ref n27, .ref n28, .ref n29, .ref n30, .long jx, .ref n32, .ref n33, .ref n34, .ref n35]))] H := hP
  have hD : va_D A [(h0, .inr (12, [.ref n0, .int 0, .int i2, .ref n3, .ref n4, .ref n5, .ref n6, .ref n7, .int 0, .int i9, .int i10, .int i11, .int i12, .int i13, .int i14, .ref n15, .int i16, .ref n17, .int i18, .ref n19, .ref n20, .int i21, .int i22, .int i23, .ref n24, .int i25, .ref n26, .ref n27, .ref n28, .ref n29, .ref n30, .long jx, .ref n32, .ref n33, .ref n34, .ref n35]))] := hD
  refine lv_if_ne (tgt := 40) hx hb dX12_isBookWord_17 (by decide) (fun c_8 => absurd c_8 (by decide)) (fun c_8 => ?_)
  refine lv_aload_n hx hb dX12_isBookWord_20 rfl (lv_at hl 0 rfl) ?_
  refine lv_ldc2 hx hb hown (hts _ k_1226) dX12_isBookWord_21 ?_
  refine cV (a := h0) (As := [.long 422877685106]) (rest := []) (wr := []) ⟨hx, hb, hml, hown, hts⟩ hK hX hA (ct_X12_isWord l D tc sk h0 n0 n3 n4 n5 n6 n7 n15 n17 n19 n20 n24 n26 n27 n28 n29 n30 n32 n33 n34 n35 i2 i9 i10 i11 i12 i13 i14 i16 i18 i21 i22 i23 i25 jx 422877685106) k_1220 k_1217 k_1219 k_29 k_106 pl_X12_isWord ⟨Nat.le_of_ble_eq_true rfl, Nat.le_of_ble_eq_true rfl⟩ rfl rfl (va_recv hK hP (ci := 12) (q0 := 0) rfl rfl) hP hD hS [0] [] rfl rfl rfl rfl rfl (by decide) rfl hl.1 rfl (Nat.le_of_ble_eq_true rfl) dX12_isBookWord_24 ⟨Nat.le_of_ble_eq_true rfl, Nat.le_of_ble_eq_true rfl⟩ (fun v_9 u_10 H locs hv_11 hP hD hS => ?_)
  obtain rfl : v_9 = some (.int 0) := hv_11
  refine W.eq (g2 := F0 m 27 ls [.int 0]) rfl ?_
  have hP : va_P D classes [(h0, .inr (12, [.ref n0, .int 0, .int i2, .ref n3, .ref n4, .ref n5, .ref n6, .ref n7, .int 0, .int i9, .int i10, .int i11, .int i12, .int i13, .int i14, .ref n15, .int i16, .ref n17, .int i18, .ref n19, .ref n20, .int i21, .int i22, .int i23, .ref n24, .int i25, .ref n26, .ref n27, .ref n28, .ref n29, .ref n30, .long jx, .ref n32, .ref n33, .ref n34, .ref n35]))] H := hP
  have hD : va_D A [(h0, .inr (12, [.ref n0, .int 0, .int i2, .ref n3, .ref n4, .ref n5, .ref n6, .ref n7, .int 0, .int i9, .int i10, .int i11, .int i12, .int i13, .int i14, .ref n15, .int i16, .ref n17, .int i18, .ref n19, .ref n20, .int i21, .int i22, .int i23, .ref n24, .int i25, .ref n26, .ref n27, .ref n28, .ref n29, .ref n30, .long jx, .ref n32, .ref n33, .ref n34, .ref n35]))] := hD
  refine lv_if_ne (tgt := 40) hx hb dX12_isBookWord_27 (by decide) (fun c_12 => absurd c_12 (by decide)) (fun c_12 => ?_)
  refine lv_aload_n hx hb dX12_isBookWord_30 rfl (lv_at hl 0 rfl) ?_
  refine lv_ldc2 hx hb hown (hts _ k_1227) dX12_isBookWord_31 ?_
  refine cV (a := h0) (As := [.long 512736125800]) (rest := []) (wr := []) ⟨hx, hb, hml, hown, hts⟩ hK hX hA (ct_X12_isWord l D tc sk h0 n0 n3 n4 n5 n6 n7 n15 n17 n19 n20 n24 n26 n27 n28 n29 n30 n32 n33 n34 n35 i2 i9 i10 i11 i12 i13 i14 i16 i18 i21 i22 i23 i25 jx 512736125800) k_1220 k_1217 k_1219 k_29 k_106 pl_X12_isWord ⟨Nat.le_of_ble_eq_true rfl, Nat.le_of_ble_eq_true rfl⟩ rfl rfl (va_recv hK hP (ci := 12) (q0 := 0) rfl rfl) hP hD hS [0] [] rfl rfl rfl rfl rfl (by decide) rfl hl.1 rfl (Nat.le_of_ble_eq_true rfl) dX12_isBookWord_34 ⟨Nat.le_of_ble_eq_true rfl, Nat.le_of_ble_eq_true rfl⟩ (fun v_13 u_14 H locs hv_15 hP hD hS => ?_)
  obtain rfl : v_13 = some (.int 0) := hv_15
  refine W.eq (g2 := F0 m 37 ls [.int 0]) rfl ?_
  have hP : va_P D classes [(h0, .inr (12, [.ref n0, .int 0, .int i2, .ref n3, .ref n4, .ref n5, .ref n6, .ref n7, .int 0, .int i9, .int i10, .int i11, .int i12, .int i13, .int i14, .ref n15, .int i16, .ref n17, .int i18, .ref n19, .ref n20, .int i21, .int i22, .int i23, .ref n24, .int i25, .ref n26, .ref n27, .ref n28, .ref n29, .ref n30, .long jx, .ref n32, .ref n33, .ref n34, .ref n35]))] H := hP
  have hD : va_D A [(h0, .inr (12, [.ref n0, .int 0, .int i2, .ref n3, .ref n4, .ref n5, .ref n6, .ref n7, .int 0, .int i9, .int i10, .int i11, .int i12, .int i13, .int i14, .ref n15, .int i16, .ref n17, .int i18, .ref n19, .ref n20, .int i21, .int i22, .int i23, .ref n24, .int i25, .ref n26, .ref n27, .ref n28, .ref n29, .ref n30, .long jx, .ref n32, .ref n33, .ref n34, .ref n35]))] := hD
  refine lv_if_eq (tgt := 44) hx hb dX12_isBookWord_37 (by decide) (fun c_16 => ?_) (fun c_16 => absurd c_16 (by decide))
  refine lv_iconst (v := 0) hx hb dX12_isBookWord_44 (by decide) ?_
  exact retI (v := 0) hx hb hr hlk (rfl) hP hD hS () rfl [0] rfl rfl dX12_isBookWord_45 (Nat.le_of_ble_eq_true rfl) (Nat.le_of_ble_eq_true rfl) rfl
set_option maxHeartbeats 4000000 in
set_option maxRecDepth 100000 in
theorem ct_X12_fails (l : Launch) (D : va_G) (tc : Nat → ClassId) (sk : (Nat → Nat) × (Nat → Nat)) (h0 : Nat) (n0 : Nat) (n3 : Nat) (n4 : Nat) (n5 : Nat) (n6 : Nat) (n7 : Nat) (n15 : Nat) (n17 : Nat) (n19 : Nat) (n20 : Nat) (n24 : Nat) (n26 : Nat) (n27 : Nat) (n28 : Nat) (n29 : Nat) (n30 : Nat) (n32 : Nat) (n33 : Nat) (n34 : Nat) (n35 : Nat) (i1 : Int32) (i2 : Int32) (i8 : Int32) (i10 : Int32) (i11 : Int32) (i12 : Int32) (i13 : Int32) (i14 : Int32) (i16 : Int32) (i18 : Int32) (i21 : Int32) (i22 : Int32) (i23 : Int32) (i25 : Int32) (jx : Int64)  : Ct l yX12_fails cX12_fails 3 (some .boolean) { frames := 0, cells := 0, slots := 0, locals := 0 } D tc sk [.ref h0, .int 0, .int 0] [(h0, .inr (12, [.ref n0, .int i1, .int i2, .ref n3, .ref n4, .ref n5, .ref n6, .ref n7, .int i8, .int 0, .int i10, .int i11, .int i12, .int i13, .int i14, .ref n15, .int i16, .ref n17, .int i18, .ref n19, .ref n20, .int i21, .int i22, .int i23, .ref n24, .int i25, .ref n26, .ref n27, .ref n28, .ref n29, .ref n30, .long jx, .ref n32, .ref n33, .ref n34, .ref n35]))] (fun (v : Option Value) (_ : Unit) => v = some (.int 0)) (fun (_ : Unit) => [(h0, .inr (12, [.ref n0, .int i1, .int i2, .ref n3, .ref n4, .ref n5, .ref n6, .ref n7, .int i8, .int 1, .int i10, .int i11, .int i12, .int i13, .int i14, .ref n15, .int i16, .ref n17, .int i18, .ref n19, .ref n20, .int i21, .int i22, .int i23, .ref n24, .int i25, .ref n26, .ref n27, .ref n28, .ref n29, .ref n30, .long jx, .ref n32, .ref n33, .ref n34, .ref n35]))]) 0 0 := by
  refine Ct.start (by decide) (Nat.le_of_ble_eq_true rfl) (fun p e s m below meth c A ls hx hb hr hlk hin hml hown hts hK hX hP hD hA hl hS => ?_)
  have hl : lv_has ls 3 [(0, .ref h0), (1, .int 0), (2, .int 0)] := hl
  refine lv_aload_n hx hb dX12_fails_0 rfl (lv_at hl 0 rfl) ?_
  refine gf_X12_84 hx hb hts hown hK hP 0 rfl rfl dX12_fails_1 ?_
  refine lv_if_ne (tgt := 19) hx hb dX12_fails_4 (by decide) (fun c_1 => absurd c_1 (by decide)) (fun c_1 => ?_)
  refine lv_aload_n hx hb dX12_fails_7 rfl (lv_at hl 0 rfl) ?_
  refine lv_iconst (v := 1) hx hb dX12_fails_8 (by decide) ?_
  refine lv_bipush (v := 8) hx hb dX12_fails_9 (by decide) ?_
  refine lv_iload_n hx hb dX12_fails_11 rfl (lv_at hl 2 rfl) ?_
  refine lv_imul hx hb dX12_fails_12 ?_
  refine lv_lit (v := 0) (by decide) ?_
  refine lv_iadd hx hb dX12_fails_13 ?_
  refine lv_lit (v := 1) (by decide) ?_
  refine lv_iload_n hx hb dX12_fails_14 rfl (lv_at hl 1 rfl) ?_
  refine lv_iadd hx hb dX12_fails_15 ?_
  refine lv_lit (v := 1) (by decide) ?_
  refine pf_X12_84 hx hb hts hown hK hP hD hS 0 rfl (Nat.le_of_ble_eq_true rfl) rfl rfl dX12_fails_16 (fun H locs hP hD hS => ?_)
  have hP : va_P D classes [(h0, .inr (12, [.ref n0, .int i1, .int i2, .ref n3, .ref n4, .ref n5, .ref n6, .ref n7, .int i8, .int 1, .int i10, .int i11, .int i12, .int i13, .int i14, .ref n15, .int i16, .ref n17, .int i18, .ref n19, .ref n20, .int i21, .int i22, .int i23, .ref n24, .int i25, .ref n26, .ref n27, .ref n28, .ref n29, .ref n30, .long jx, .ref n32, .ref n33, .ref n34, .ref n35]))] H := hP
  have hD : va_D A [(h0, .inr (12, [.ref n0, .int i1, .int i2, .ref n3, .ref n4, .ref n5, .ref n6, .ref n7, .int i8, .int 1, .int i10, .int i11, .int i12, .int i13, .int i14, .ref n15, .int i16, .ref n17, .int i18, .ref n19, .ref n20, .int i21, .int i22, .int i23, .ref n24, .int i25, .ref n26, .ref n27, .ref n28, .ref n29, .ref n30, .long jx, .ref n32, .ref n33, .ref n34, .ref n35]))] := hD
  refine lv_iconst (v := 0) hx hb dX12_fails_19 (by decide) ?_
  exact retI (v := 0) hx hb hr hlk (rfl) hP hD hS () rfl [0] rfl rfl dX12_fails_20 (Nat.le_of_ble_eq_true rfl) (Nat.le_of_ble_eq_true rfl) rfl
set_option maxHeartbeats 4000000 in
set_option maxRecDepth 100000 in
theorem ct_X12_clauseHere_b (l : Launch) (D : va_G) (tc : Nat → ClassId) (sk : (Nat → Nat) × (Nat → Nat)) (h0 : Nat) (n0 : Nat) (n3 : Nat) (n4 : Nat) (n5 : Nat) (n6 : Nat) (n7 : Nat) (n15 : Nat) (n17 : Nat) (n19 : Nat) (n20 : Nat) (n24 : Nat) (n26 : Nat) (n27 : Nat) (n28 : Nat) (n29 : Nat) (n30 : Nat) (n32 : Nat) (n33 : Nat) (n34 : Nat) (n35 : Nat) (i2 : Int32) (i10 : Int32) (i12 : Int32) (i13 : Int32) (i14 : Int32) (i16 : Int32) (i18 : Int32) (i21 : Int32) (i22 : Int32) (i23 : Int32) (i25 : Int32) (jx : Int64)  : Ct l yX12_clauseHere cX12_clauseHere 3 (some .boolean) { frames := 3, cells := 0, slots := 0, locals := 66 } D tc sk [.ref h0] [(h0, .inr (12, [.ref n0, .int 0, .int i2, .ref n3, .ref n4, .ref n5, .ref n6, .ref n7, .int 0, .int 0, .int i10, .int 6, .int i12, .int i13, .int i14, .ref n15, .int i16, .ref n17, .int i18, .ref n19, .ref n20, .int i21, .int i22, .int i23, .ref n24, .int i25, .ref n26, .ref n27, .ref n28, .ref n29, .ref n30, .long jx, .ref n32, .ref n33, .ref n34, .ref n35]))] (fun (v : Option Value) (_ : Unit) => v = some (.int 0)) (fun (_ : Unit) => [(h0, .inr (12, [.ref n0, .int 0, .int i2, .ref n3, .ref n4, .ref n5, .ref n6, .ref n7, .int 0, .int 1, .int i10, .int 6, .int i12, .int i13, .int i14, .ref n15, .int i16, .ref n17, .int i18, .ref n19, .ref n20, .int i21, .int i22, .int i23, .ref n24, .int i25, .ref n26, .ref n27, .ref n28, .ref n29, .ref n30, .long jx, .ref n32, .ref n33, .ref n34, .ref n35]))]) 0 0 := by
  refine Ct.start (by decide) (Nat.le_of_ble_eq_true rfl) (fun p e s m below meth c A ls hx hb hr hlk hin hml hown hts hK hX hP hD hA hl hS => ?_)
  have hl : lv_has ls 3 [(0, .ref h0)] := hl
  refine lv_aload_n hx hb dX12_clauseHere_0 rfl (lv_at hl 0 rfl) ?_
  refine cV (a := h0) (As := []) (rest := []) (wr := []) ⟨hx, hb, hml, hown, hts⟩ hK hX hA (ct_X12_see l D tc sk h0 n0 n3 n4 n5 n6 n7 n15 n17 n19 n20 n24 n26 n27 n28 n29 n30 n32 n33 n34 n35 i2 0 i10 6 i12 i13 i14 i16 i18 i21 i22 i23 i25 jx) k_1211 k_1208 k_1210 k_27 k_106 pl_X12_see ⟨Nat.le_of_ble_eq_true rfl, Nat.le_of_ble_eq_true rfl⟩ rfl rfl (va_recv hK hP (ci := 12) (q0 := 0) rfl rfl) hP hD hS [0] [] rfl rfl rfl rfl rfl (by decide) rfl hl.1 rfl (Nat.le_of_ble_eq_true rfl) dX12_clauseHere_1 ⟨Nat.le_of_ble_eq_true rfl, Nat.le_of_ble_eq_true rfl⟩ (fun v_1 u_2 H locs hv_3 hP hD hS => ?_)
  obtain rfl : v_1 = some (.int (-1)) := hv_3
  refine W.eq (g2 := F0 m 4 ls [.int (-1)]) rfl ?_
  have hP : va_P D classes [(h0, .inr (12, [.ref n0, .int 0, .int i2, .ref n3, .ref n4, .ref n5, .ref n6, .ref n7, .int 0, .int 0, .int i10, .int 6, .int i12, .int i13, .int i14, .ref n15, .int i16, .ref n17, .int i18, .ref n19, .ref n20, .int i21, .int i22, .int i23, .ref n24, .int i25, .ref n26, .ref n27, .ref n28, .ref n29, .ref n30, .long jx, .ref n32, .ref n33, .ref n34, .ref n35]))] H := hP
  have hD : va_D A [(h0, .inr (12, [.ref n0, .int 0, .int i2, .ref n3, .ref n4, .ref n5, .ref n6, .ref n7, .int 0, .int 0, .int i10, .int 6, .int i12, .int i13, .int i14, .ref n15, .int i16, .ref n17, .int i18, .ref n19, .ref n20, .int i21, .int i22, .int i23, .ref n24, .int i25, .ref n26, .ref n27, .ref n28, .ref n29, .ref n30, .long jx, .ref n32, .ref n33, .ref n34, .ref n35]))] := hD
  refine lv_pop hx hb dX12_clauseHere_4 rfl ?_
  refine lv_aload_n hx hb dX12_clauseHere_5 rfl (lv_at hl 0 rfl) ?_
  refine gf_X12_87 hx hb hts hown hK hP 0 rfl rfl dX12_clauseHere_6 ?_
  refine lv_istore_n (lv' := [(1, .int 0), (0, .ref h0)]) hx hb dX12_clauseHere_9 rfl hl (by decide) rfl (fun ls hl => ?_)
  refine lv_aload_n hx hb dX12_clauseHere_10 rfl (lv_at hl 1 rfl) ?_
  refine gf_X12_145 hx hb hts hown hK hP 0 rfl rfl dX12_clauseHere_11 ?_
  refine lv_bipush (v := 6) hx hb dX12_clauseHere_14 (by decide) ?_
  refine lv_icmp_ne (tgt := 23) hx hb dX12_clauseHere_16 (by decide) (fun c_4 => absurd c_4 (by decide)) (fun c_4 => ?_)
  refine lv_iconst (v := 1) hx hb dX12_clauseHere_19 (by decide) ?_
  refine lv_goto (tgt := 24) hx hb dX12_clauseHere_20 (by decide) ?_
  refine lv_istore_n (lv' := [(2, .int 1), (1, .int 0), (0, .ref h0)]) hx hb dX12_clauseHere_24 rfl hl (by decide) rfl (fun ls hl => ?_)
  refine lv_iload_n hx hb dX12_clauseHere_25 rfl (lv_at hl 0 rfl) ?_
  refine lv_if_eq (tgt := 39) hx hb dX12_clauseHere_26 (by decide) (fun c_5 => absurd c_5 (by decide)) (fun c_5 => ?_)
  refine lv_aload_n hx hb dX12_clauseHere_29 rfl (lv_at hl 2 rfl) ?_
  refine cV (a := h0) (As := []) (rest := []) (wr := []) ⟨hx, hb, hml, hown, hts⟩ hK hX hA (ct_X12_isBookWord l D tc sk h0 n0 n3 n4 n5 n6 n7 n15 n17 n19 n20 n24 n26 n27 n28 n29 n30 n32 n33 n34 n35 i2 0 i10 6 i12 i13 i14 i16 i18 i21 i22 i23 i25 jx) k_1215 k_1212 k_1214 k_28 k_106 pl_X12_isBookWord ⟨Nat.le_of_ble_eq_true rfl, Nat.le_of_ble_eq_true rfl⟩ rfl rfl (va_recv hK hP (ci := 12) (q0 := 0) rfl rfl) hP hD hS [0] [] rfl rfl rfl rfl rfl (by decide) rfl hl.1 rfl (Nat.le_of_ble_eq_true rfl) dX12_clauseHere_30 ⟨Nat.le_of_ble_eq_true rfl, Nat.le_of_ble_eq_true rfl⟩ (fun v_6 u_7 H locs hv_8 hP hD hS => ?_)
  obtain rfl : v_6 = some (.int 0) := hv_8
  refine W.eq (g2 := F0 m 33 ls [.int 0]) rfl ?_
  have hP : va_P D classes [(h0, .inr (12, [.ref n0, .int 0, .int i2, .ref n3, .ref n4, .ref n5, .ref n6, .ref n7, .int 0, .int 0, .int i10, .int 6, .int i12, .int i13, .int i14, .ref n15, .int i16, .ref n17, .int i18, .ref n19, .ref n20, .int i21, .int i22, .int i23, .ref n24, .int i25, .ref n26, .ref n27, .ref n28, .ref n29, .ref n30, .long jx, .ref n32, .ref n33, .ref n34, .ref n35]))] H := hP
  have hD : va_D A [(h0, .inr (12, [.ref n0, .int 0, .int i2, .ref n3, .ref n4, .ref n5, .ref n6, .ref n7, .int 0, .int 0, .int i10, .int 6, .int i12, .int i13, .int i14, .ref n15, .int i16, .ref n17, .int i18, .ref n19, .ref n20, .int i21, .int i22, .int i23, .ref n24, .int i25, .ref n26, .ref n27, .ref n28, .ref n29, .ref n30, .long jx, .ref n32, .ref n33, .ref n34, .ref n35]))] := hD
  refine lv_if_ne (tgt := 56) hx hb dX12_clauseHere_33 (by decide) (fun c_9 => absurd c_9 (by decide)) (fun c_9 => ?_)
  refine lv_goto (tgt := 49) hx hb dX12_clauseHere_36 (by decide) ?_
  refine lv_aload_n hx hb dX12_clauseHere_49 rfl (lv_at hl 2 rfl) ?_
  refine lv_iconst (v := 0) hx hb dX12_clauseHere_50 (by decide) ?_
  refine lv_iload_n hx hb dX12_clauseHere_51 rfl (lv_at hl 1 rfl) ?_
  refine cV (a := h0) (As := [.int 0, .int 0]) (rest := []) (wr := []) ⟨hx, hb, hml, hown, hts⟩ hK hX hA (ct_X12_fails l D tc sk h0 n0 n3 n4 n5 n6 n7 n15 n17 n19 n20 n24 n26 n27 n28 n29 n30 n32 n33 n34 n35 0 i2 0 i10 6 i12 i13 i14 i16 i18 i21 i22 i23 i25 jx) k_1232 k_1229 k_1231 k_31 k_106 pl_X12_fails ⟨Nat.le_of_ble_eq_true rfl, Nat.le_of_ble_eq_true rfl⟩ rfl rfl (va_recv hK hP (ci := 12) (q0 := 0) rfl rfl) hP hD hS [0] [] rfl rfl rfl rfl rfl (by decide) rfl hl.1 rfl (Nat.le_of_ble_eq_true rfl) dX12_clauseHere_52 ⟨Nat.le_of_ble_eq_true rfl, Nat.le_of_ble_eq_true rfl⟩ (fun v_10 u_11 H locs hv_12 hP hD hS => ?_)
  obtain rfl : v_10 = some (.int 0) := hv_12
  refine W.eq (g2 := F0 m 55 ls [.int 0]) rfl ?_
  have hP : va_P D classes [(h0, .inr (12, [.ref n0, .int 0, .int i2, .ref n3, .ref n4, .ref n5, .ref n6, .ref n7, .int 0, .int 1, .int i10, .int 6, .int i12, .int i13, .int i14, .ref n15, .int i16, .ref n17, .int i18, .ref n19, .ref n20, .int i21, .int i22, .int i23, .ref n24, .int i25, .ref n26, .ref n27, .ref n28, .ref n29, .ref n30, .long jx, .ref n32, .ref n33, .ref n34, .ref n35]))] H := hP
  have hD : va_D A [(h0, .inr (12, [.ref n0, .int 0, .int i2, .ref n3, .ref n4, .ref n5, .ref n6, .ref n7, .int 0, .int 1, .int i10, .int 6, .int i12, .int i13, .int i14, .ref n15, .int i16, .ref n17, .int i18, .ref n19, .ref n20, .int i21, .int i22, .int i23, .ref n24, .int i25, .ref n26, .ref n27, .ref n28, .ref n29, .ref n30, .long jx, .ref n32, .ref n33, .ref n34, .ref n35]))] := hD
  exact retI (v := 0) hx hb hr hlk (rfl) hP hD hS () rfl [0] rfl rfl dX12_clauseHere_55 (Nat.le_of_ble_eq_true rfl) (Nat.le_of_ble_eq_true rfl) rfl
set_option maxHeartbeats 4000000 in
set_option maxRecDepth 100000 in
theorem ct_X12_readsAll_b (l : Launch) (D : va_G) (tc : Nat → ClassId) (sk : (Nat → Nat) × (Nat → Nat)) (h0 : Nat) (n0 : Nat) (n3 : Nat) (n4 : Nat) (n5 : Nat) (n6 : Nat) (n7 : Nat) (n15 : Nat) (n17 : Nat) (n19 : Nat) (n20 : Nat) (n24 : Nat) (n26 : Nat) (n27 : Nat) (n28 : Nat) (n29 : Nat) (n30 : Nat) (n32 : Nat) (n33 : Nat) (n34 : Nat) (n35 : Nat) (i2 : Int32) (i8 : Int32) (i9 : Int32) (i10 : Int32) (i12 : Int32) (i13 : Int32) (i14 : Int32) (i16 : Int32) (i18 : Int32) (i21 : Int32) (i22 : Int32) (i23 : Int32) (i25 : Int32) (jx : Int64) (gl : Nat → Int32)  : Ct l yX12_readsAll cX12_readsAll 2 (some .boolean) { frames := 4, cells := 0, slots := 0, locals := 88 } D tc sk [.ref h0] [(h0, .inr (12, [.ref n0, .int 0, .int i2, .ref n3, .ref n4, .ref n5, .ref n6, .ref n7, .int i8, .int i9, .int i10, .int 6, .int i12, .int i13, .int i14, .ref n15, .int i16, .ref n17, .int i18, .ref n19, .ref n20, .int i21, .int i22, .int i23, .ref n24, .int i25, .ref n26, .ref n27, .ref n28, .ref n29, .ref n30, .long jx, .ref n32, .ref n33, .ref n34, .ref n35])), (n4, .inl (tc 0, 7, .inl gl))] (fun (v : Option Value) (gz : Nat → Int32) => v = some (.int 0)) (fun (gz : Nat → Int32) => [(h0, .inr (12, [.ref n0, .int 0, .int i2, .ref n3, .ref n4, .ref n5, .ref n6, .ref n7, .int 0, .int 1, .int i10, .int 6, .int 0, .int i13, .int 0, .ref n15, .int i16, .ref n17, .int i18, .ref n19, .ref n20, .int i21, .int i22, .int i23, .ref n24, .int i25, .ref n26, .ref n27, .ref n28, .ref n29, .ref n30, .long jx, .ref n32, .ref n33, .ref n34, .ref n35])), (n4, .inl (tc 0, 7, .inl gz))]) 0 0 := by
  refine Ct.start (by decide) (Nat.le_of_ble_eq_true rfl) (fun p e s m below meth c A ls hx hb hr hlk hin hml hown hts hK hX hP hD hA hl hS => ?_)
  have hl : lv_has ls 2 [(0, .ref h0)] := hl
  refine lv_aload_n hx hb dX12_readsAll_0 rfl (lv_at hl 0 rfl) ?_
  refine gf_X12_17 hx hb hts hown hK hP 0 rfl rfl dX12_readsAll_1 ?_
  refine lv_aload_n hx hb dX12_readsAll_4 rfl (lv_at hl 0 rfl) ?_
  refine gf_X12_145 hx hb hts hown hK hP 0 rfl rfl dX12_readsAll_5 ?_
  refine lv_iconst (v := 0) hx hb dX12_readsAll_8 (by decide) ?_
  refine st_int hx hb hK hP hD hS 1 0 rfl rfl (vin_dec (by decide +kernel)) dX12_readsAll_9 (fun g_1 H locs eg_1 hP hD hS => ?_)
  have hP : va_P D classes [(h0, .inr (12, [.ref n0, .int 0, .int i2, .ref n3, .ref n4, .ref n5, .ref n6, .ref n7, .int i8, .int i9, .int i10, .int 6, .int i12, .int i13, .int i14, .ref n15, .int i16, .ref n17, .int i18, .ref n19, .ref n20, .int i21, .int i22, .int i23, .ref n24, .int i25, .ref n26, .ref n27, .ref n28, .ref n29, .ref n30, .long jx, .ref n32, .ref n33, .ref n34, .ref n35])), (n4, .inl (tc 0, 7, .inl g_1))] H := hP
  have hD : va_D A [(h0, .inr (12, [.ref n0, .int 0, .int i2, .ref n3, .ref n4, .ref n5, .ref n6, .ref n7, .int i8, .int i9, .int i10, .int 6, .int i12, .int i13, .int i14, .ref n15, .int i16, .ref n17, .int i18, .ref n19, .ref n20, .int i21, .int i22, .int i23, .ref n24, .int i25, .ref n26, .ref n27, .ref n28, .ref n29, .ref n30, .long jx, .ref n32, .ref n33, .ref n34, .ref n35])), (n4, .inl (tc 0, 7, .inl g_1))] := hD
  refine lv_aload_n hx hb dX12_readsAll_10 rfl (lv_at hl 0 rfl) ?_
  refine lv_iconst (v := 0) hx hb dX12_readsAll_11 (by decide) ?_
  refine pf_X12_244 hx hb hts hown hK hP hD hS 0 rfl (Nat.le_of_ble_eq_true rfl) rfl rfl dX12_readsAll_12 (fun H locs hP hD hS => ?_)
  have hP : va_P D classes [(h0, .inr (12, [.ref n0, .int 0, .int i2, .ref n3, .ref n4, .ref n5, .ref n6, .ref n7, .int i8, .int i9, .int i10, .int 6, .int i12, .int i13, .int 0, .ref n15, .int i16, .ref n17, .int i18, .ref n19, .ref n20, .int i21, .int i22, .int i23, .ref n24, .int i25, .ref n26, .ref n27, .ref n28, .ref n29, .ref n30, .long jx, .ref n32, .ref n33, .ref n34, .ref n35])), (n4, .inl (tc 0, 7, .inl g_1))] H := hP
  have hD : va_D A [(h0, .inr (12, [.ref n0, .int 0, .int i2, .ref n3, .ref n4, .ref n5, .ref n6, .ref n7, .int i8, .int i9, .int i10, .int 6, .int i12, .int i13, .int 0, .ref n15, .int i16, .ref n17, .int i18, .ref n19, .ref n20, .int i21, .int i22, .int i23, .ref n24, .int i25, .ref n26, .ref n27, .ref n28, .ref n29, .ref n30, .long jx, .ref n32, .ref n33, .ref n34, .ref n35])), (n4, .inl (tc 0, 7, .inl g_1))] := hD
  refine lv_aload_n hx hb dX12_readsAll_15 rfl (lv_at hl 0 rfl) ?_
  refine lv_iconst (v := 0) hx hb dX12_readsAll_16 (by decide) ?_
  refine pf_X12_87 hx hb hts hown hK hP hD hS 0 rfl (Nat.le_of_ble_eq_true rfl) rfl rfl dX12_readsAll_17 (fun H locs hP hD hS => ?_)
  have hP : va_P D classes [(h0, .inr (12, [.ref n0, .int 0, .int i2, .ref n3, .ref n4, .ref n5, .ref n6, .ref n7, .int 0, .int i9, .int i10, .int 6, .int i12, .int i13, .int 0, .ref n15, .int i16, .ref n17, .int i18, .ref n19, .ref n20, .int i21, .int i22, .int i23, .ref n24, .int i25, .ref n26, .ref n27, .ref n28, .ref n29, .ref n30, .long jx, .ref n32, .ref n33, .ref n34, .ref n35])), (n4, .inl (tc 0, 7, .inl g_1))] H := hP
  have hD : va_D A [(h0, .inr (12, [.ref n0, .int 0, .int i2, .ref n3, .ref n4, .ref n5, .ref n6, .ref n7, .int 0, .int i9, .int i10, .int 6, .int i12, .int i13, .int 0, .ref n15, .int i16, .ref n17, .int i18, .ref n19, .ref n20, .int i21, .int i22, .int i23, .ref n24, .int i25, .ref n26, .ref n27, .ref n28, .ref n29, .ref n30, .long jx, .ref n32, .ref n33, .ref n34, .ref n35])), (n4, .inl (tc 0, 7, .inl g_1))] := hD
  refine lv_aload_n hx hb dX12_readsAll_20 rfl (lv_at hl 0 rfl) ?_
  refine lv_iconst (v := 0) hx hb dX12_readsAll_21 (by decide) ?_
  refine pf_X12_84 hx hb hts hown hK hP hD hS 0 rfl (Nat.le_of_ble_eq_true rfl) rfl rfl dX12_readsAll_22 (fun H locs hP hD hS => ?_)
  have hP : va_P D classes [(h0, .inr (12, [.ref n0, .int 0, .int i2, .ref n3, .ref n4, .ref n5, .ref n6, .ref n7, .int 0, .int 0, .int i10, .int 6, .int i12, .int i13, .int 0, .ref n15, .int i16, .ref n17, .int i18, .ref n19, .ref n20, .int i21, .int i22, .int i23, .ref n24, .int i25, .ref n26, .ref n27, .ref n28, .ref n29, .ref n30, .long jx, .ref n32, .ref n33, .ref n34, .ref n35])), (n4, .inl (tc 0, 7, .inl g_1))] H := hP
  have hD : va_D A [(h0, .inr (12, [.ref n0, .int 0, .int i2, .ref n3, .ref n4, .ref n5, .ref n6, .ref n7, .int 0, .int 0, .int i10, .int 6, .int i12, .int i13, .int 0, .ref n15, .int i16, .ref n17, .int i18, .ref n19, .ref n20, .int i21, .int i22, .int i23, .ref n24, .int i25, .ref n26, .ref n27, .ref n28, .ref n29, .ref n30, .long jx, .ref n32, .ref n33, .ref n34, .ref n35])), (n4, .inl (tc 0, 7, .inl g_1))] := hD
  refine lv_aload_n hx hb dX12_readsAll_25 rfl (lv_at hl 0 rfl) ?_
  refine lv_iconst (v := 0) hx hb dX12_readsAll_26 (by decide) ?_
  refine pf_X12_148 hx hb hts hown hK hP hD hS 0 rfl (Nat.le_of_ble_eq_true rfl) rfl rfl dX12_readsAll_27 (fun H locs hP hD hS => ?_)
  have hP : va_P D classes [(h0, .inr (12, [.ref n0, .int 0, .int i2, .ref n3, .ref n4, .ref n5, .ref n6, .ref n7, .int 0, .int 0, .int i10, .int 6, .int 0, .int i13, .int 0, .ref n15, .int i16, .ref n17, .int i18, .ref n19, .ref n20, .int i21, .int i22, .int i23, .ref n24, .int i25, .ref n26, .ref n27, .ref n28, .ref n29, .ref n30, .long jx, .ref n32, .ref n33, .ref n34, .ref n35])), (n4, .inl (tc 0, 7, .inl g_1))] H := hP
  have hD : va_D A [(h0, .inr (12, [.ref n0, .int 0, .int i2, .ref n3, .ref n4, .ref n5, .ref n6, .ref n7, .int 0, .int 0, .int i10, .int 6, .int 0, .int i13, .int 0, .ref n15, .int i16, .ref n17, .int i18, .ref n19, .ref n20, .int i21, .int i22, .int i23, .ref n24, .int i25, .ref n26, .ref n27, .ref n28, .ref n29, .ref n30, .long jx, .ref n32, .ref n33, .ref n34, .ref n35])), (n4, .inl (tc 0, 7, .inl g_1))] := hD
  refine lv_aload_n hx hb dX12_readsAll_30 rfl (lv_at hl 0 rfl) ?_
  refine cV (a := h0) (As := []) (rest := []) (wr := [(n4, .inl (tc 0, 7, .inl g_1))]) ⟨hx, hb, hml, hown, hts⟩ hK hX hA (ct_X12_clauseHere_b l D tc sk h0 n0 n3 n4 n5 n6 n7 n15 n17 n19 n20 n24 n26 n27 n28 n29 n30 n32 n33 n34 n35 i2 i10 0 i13 0 i16 i18 i21 i22 i23 i25 jx) k_1207 k_1204 k_1206 k_26 k_106 pl_X12_clauseHere ⟨Nat.le_of_ble_eq_true rfl, Nat.le_of_ble_eq_true rfl⟩ rfl rfl (va_recv hK hP (ci := 12) (q0 := 0) rfl rfl) hP hD hS [0] [1] rfl rfl rfl rfl rfl (by decide) rfl hl.1 rfl (Nat.le_of_ble_eq_true rfl) dX12_readsAll_31 ⟨Nat.le_of_ble_eq_true rfl, Nat.le_of_ble_eq_true rfl⟩ (fun v_2 u_3 H locs hv_4 hP hD hS => ?_)
  obtain rfl : v_2 = some (.int 0) := hv_4
  refine W.eq (g2 := F0 m 34 ls [.int 0]) rfl ?_
  have hP : va_P D classes [(n4, .inl (tc 0, 7, .inl g_1)), (h0, .inr (12, [.ref n0, .int 0, .int i2, .ref n3, .ref n4, .ref n5, .ref n6, .ref n7, .int 0, .int 1, .int i10, .int 6, .int 0, .int i13, .int 0, .ref n15, .int i16, .ref n17, .int i18, .ref n19, .ref n20, .int i21, .int i22, .int i23, .ref n24, .int i25, .ref n26, .ref n27, .ref n28, .ref n29, .ref n30, .long jx, .ref n32, .ref n33, .ref n34, .ref n35]))] H := hP
  have hD : va_D A [(n4, .inl (tc 0, 7, .inl g_1)), (h0, .inr (12, [.ref n0, .int 0, .int i2, .ref n3, .ref n4, .ref n5, .ref n6, .ref n7, .int 0, .int 1, .int i10, .int 6, .int 0, .int i13, .int 0, .ref n15, .int i16, .ref n17, .int i18, .ref n19, .ref n20, .int i21, .int i22, .int i23, .ref n24, .int i25, .ref n26, .ref n27, .ref n28, .ref n29, .ref n30, .long jx, .ref n32, .ref n33, .ref n34, .ref n35]))] := hD
  refine lv_istore_n (lv' := [(1, .int 0), (0, .ref h0)]) hx hb dX12_readsAll_34 rfl hl (by decide) rfl (fun ls hl => ?_)
  refine lv_iload_n hx hb dX12_readsAll_35 rfl (lv_at hl 0 rfl) ?_
  refine lv_if_eq (tgt := 66) hx hb dX12_readsAll_36 (by decide) (fun c_5 => ?_) (fun c_5 => absurd c_5 (by decide))
  refine lv_iload_n hx hb dX12_readsAll_66 rfl (lv_at hl 0 rfl) ?_
  refine lv_if_eq (tgt := 88) hx hb dX12_readsAll_67 (by decide) (fun c_6 => ?_) (fun c_6 => absurd c_6 (by decide))
  refine lv_aload_n hx hb dX12_readsAll_88 rfl (lv_at hl 1 rfl) ?_
  refine lv_iconst (v := 0) hx hb dX12_readsAll_89 (by decide) ?_
  refine pf_X12_77 hx hb hts hown hK hP hD hS 1 rfl (Nat.le_of_ble_eq_true rfl) rfl rfl dX12_readsAll_90 (fun H locs hP hD hS => ?_)
  have hP : va_P D classes [(n4, .inl (tc 0, 7, .inl g_1)), (h0, .inr (12, [.ref n0, .int 0, .int i2, .ref n3, .ref n4, .ref n5, .ref n6, .ref n7, .int 0, .int 1, .int i10, .int 6, .int 0, .int i13, .int 0, .ref n15, .int i16, .ref n17, .int i18, .ref n19, .ref n20, .int i21, .int i22, .int i23, .ref n24, .int i25, .ref n26, .ref n27, .ref n28, .ref n29, .ref n30, .long jx, .ref n32, .ref n33, .ref n34, .ref n35]))] H := hP
  have hD : va_D A [(n4, .inl (tc 0, 7, .inl g_1)), (h0, .inr (12, [.ref n0, .int 0, .int i2, .ref n3, .ref n4, .ref n5, .ref n6, .ref n7, .int 0, .int 1, .int i10, .int 6, .int 0, .int i13, .int 0, .ref n15, .int i16, .ref n17, .int i18, .ref n19, .ref n20, .int i21, .int i22, .int i23, .ref n24, .int i25, .ref n26, .ref n27, .ref n28, .ref n29, .ref n30, .long jx, .ref n32, .ref n33, .ref n34, .ref n35]))] := hD
  refine lv_aload_n hx hb dX12_readsAll_93 rfl (lv_at hl 1 rfl) ?_
  refine gf_X12_84 hx hb hts hown hK hP 1 rfl rfl dX12_readsAll_94 ?_
  refine lv_if_ne (tgt := 104) hx hb dX12_readsAll_97 (by decide) (fun c_7 => ?_) (fun c_7 => absurd c_7 (by decide))
  refine lv_iconst (v := 0) hx hb dX12_readsAll_104 (by decide) ?_
  exact retI (v := 0) hx hb hr hlk (rfl) hP hD hS g_1 rfl [1, 0] rfl rfl dX12_readsAll_105 (Nat.le_of_ble_eq_true rfl) (Nat.le_of_ble_eq_true rfl) rfl
set_option maxHeartbeats 4000000 in
set_option maxRecDepth 100000 in
theorem ct_X12_clauseHere_r (l : Launch) (D : va_G) (tc : Nat → ClassId) (sk : (Nat → Nat) × (Nat → Nat)) (h0 : Nat) (n0 : Nat) (n3 : Nat) (n4 : Nat) (n5 : Nat) (n6 : Nat) (n7 : Nat) (n15 : Nat) (n17 : Nat) (n19 : Nat) (n20 : Nat) (n24 : Nat) (n26 : Nat) (n27 : Nat) (n28 : Nat) (n29 : Nat) (n30 : Nat) (n32 : Nat) (n33 : Nat) (n34 : Nat) (n35 : Nat) (i2 : Int32) (i10 : Int32) (i12 : Int32) (i13 : Int32) (i14 : Int32) (i16 : Int32) (i18 : Int32) (i21 : Int32) (i22 : Int32) (i23 : Int32) (i25 : Int32) (jx : Int64)  : Ct l yX12_clauseHere cX12_clauseHere 3 (some .boolean) { frames := 2, cells := 0, slots := 0, locals := 46 } D tc sk [.ref h0] [(h0, .inr (12, [.ref n0, .int 0, .int i2, .ref n3, .ref n4, .ref n5, .ref n6, .ref n7, .int 0, .int 0, .int i10, .int 0, .int i12, .int i13, .int i14, .ref n15, .int i16, .ref n17, .int i18, .ref n19, .ref n20, .int i21, .int i22, .int i23, .ref n24, .int i25, .ref n26, .ref n27, .ref n28, .ref n29, .ref n30, .long jx, .ref n32, .ref n33, .ref n34, .ref n35]))] (fun (v : Option Value) (_ : Unit) => v = some (.int 0)) (fun (_ : Unit) => [(h0, .inr (12, [.ref n0, .int 0, .int i2, .ref n3, .ref n4, .ref n5, .ref n6, .ref n7, .int 0, .int 1, .int i10, .int 0, .int i12, .int i13, .int i14, .ref n15, .int i16, .ref n17, .int i18, .ref n19, .ref n20, .int i21, .int i22, .int i23, .ref n24, .int i25, .ref n26, .ref n27, .ref n28, .ref n29, .ref n30, .long jx, .ref n32, .ref n33, .ref n34, .ref n35]))]) 0 0 := by
  refine Ct.start (by decide) (Nat.le_of_ble_eq_true rfl) (fun p e s m below meth c A ls hx hb hr hlk hin hml hown hts hK hX hP hD hA hl hS => ?_)
  have hl : lv_has ls 3 [(0, .ref h0)] := hl
  refine lv_aload_n hx hb dX12_clauseHere_0 rfl (lv_at hl 0 rfl) ?_
  refine cV (a := h0) (As := []) (rest := []) (wr := []) ⟨hx, hb, hml, hown, hts⟩ hK hX hA (ct_X12_see l D tc sk h0 n0 n3 n4 n5 n6 n7 n15 n17 n19 n20 n24 n26 n27 n28 n29 n30 n32 n33 n34 n35 i2 0 i10 0 i12 i13 i14 i16 i18 i21 i22 i23 i25 jx) k_1211 k_1208 k_1210 k_27 k_106 pl_X12_see ⟨Nat.le_of_ble_eq_true rfl, Nat.le_of_ble_eq_true rfl⟩ rfl rfl (va_recv hK hP (ci := 12) (q0 := 0) rfl rfl) hP hD hS [0] [] rfl rfl rfl rfl rfl (by decide) rfl hl.1 rfl (Nat.le_of_ble_eq_true rfl) dX12_clauseHere_1 ⟨Nat.le_of_ble_eq_true rfl, Nat.le_of_ble_eq_true rfl⟩ (fun v_1 u_2 H locs hv_3 hP hD hS => ?_)
  obtain rfl : v_1 = some (.int (-1)) := hv_3
  refine W.eq (g2 := F0 m 4 ls [.int (-1)]) rfl ?_
  have hP : va_P D classes [(h0, .inr (12, [.ref n0, .int 0, .int i2, .ref n3, .ref n4, .ref n5, .ref n6, .ref n7, .int 0, .int 0, .int i10, .int 0, .int i12, .int i13, .int i14, .ref n15, .int i16, .ref n17, .int i18, .ref n19, .ref n20, .int i21, .int i22, .int i23, .ref n24, .int i25, .ref n26, .ref n27, .ref n28, .ref n29, .ref n30, .long jx, .ref n32, .ref n33, .ref n34, .ref n35]))] H := hP
  have hD : va_D A [(h0, .inr (12, [.ref n0, .int 0, .int i2, .ref n3, .ref n4, .ref n5, .ref n6, .ref n7, .int 0, .int 0, .int i10, .int 0, .int i12, .int i13, .int i14, .ref n15, .int i16, .ref n17, .int i18, .ref n19, .ref n20, .int i21, .int i22, .int i23, .ref n24, .int i25, .ref n26, .ref n27, .ref n28, .ref n29, .ref n30, .long jx, .ref n32, .ref n33, .ref n34, .ref n35]))] := hD
  refine lv_pop hx hb dX12_clauseHere_4 rfl ?_
  refine lv_aload_n hx hb dX12_clauseHere_5 rfl (lv_at hl 0 rfl) ?_
  refine gf_X12_87 hx hb hts hown hK hP 0 rfl rfl dX12_clauseHere_6 ?_
  refine lv_istore_n (lv' := [(1, .int 0), (0, .ref h0)]) hx hb dX12_clauseHere_9 rfl hl (by decide) rfl (fun ls hl => ?_)
  refine lv_aload_n hx hb dX12_clauseHere_10 rfl (lv_at hl 1 rfl) ?_
  refine gf_X12_145 hx hb hts hown hK hP 0 rfl rfl dX12_clauseHere_11 ?_
  refine lv_bipush (v := 6) hx hb dX12_clauseHere_14 (by decide) ?_
  refine lv_icmp_ne (tgt := 23) hx hb dX12_clauseHere_16 (by decide) (fun c_4 => ?_) (fun c_4 => absurd c_4 (by decide))
  refine lv_iconst (v := 0) hx hb dX12_clauseHere_23 (by decide) ?_
  refine lv_istore_n (lv' := [(2, .int 0), (1, .int 0), (0, .ref h0)]) hx hb dX12_clauseHere_24 rfl hl (by decide) rfl (fun ls hl => ?_)
  refine lv_iload_n hx hb dX12_clauseHere_25 rfl (lv_at hl 0 rfl) ?_
  refine lv_if_eq (tgt := 39) hx hb dX12_clauseHere_26 (by decide) (fun c_5 => ?_) (fun c_5 => absurd c_5 (by decide))
  refine lv_aload_n hx hb dX12_clauseHere_39 rfl (lv_at hl 2 rfl) ?_
  refine lv_ldc2 hx hb hown (hts _ k_1228) dX12_clauseHere_40 ?_
  refine cV (a := h0) (As := [.long 6452601]) (rest := []) (wr := []) ⟨hx, hb, hml, hown, hts⟩ hK hX hA (ct_X12_isWord l D tc sk h0 n0 n3 n4 n5 n6 n7 n15 n17 n19 n20 n24 n26 n27 n28 n29 n30 n32 n33 n34 n35 i2 0 i10 0 i12 i13 i14 i16 i18 i21 i22 i23 i25 jx 6452601) k_1220 k_1217 k_1219 k_29 k_106 pl_X12_isWord ⟨Nat.le_of_ble_eq_true rfl, Nat.le_of_ble_eq_true rfl⟩ rfl rfl (va_recv hK hP (ci := 12) (q0 := 0) rfl rfl) hP hD hS [0] [] rfl rfl rfl rfl rfl (by decide) rfl hl.1 rfl (Nat.le_of_ble_eq_true rfl) dX12_clauseHere_43 ⟨Nat.le_of_ble_eq_true rfl, Nat.le_of_ble_eq_true rfl⟩ (fun v_6 u_7 H locs hv_8 hP hD hS => ?_)
  obtain rfl : v_6 = some (.int 0) := hv_8
  refine W.eq (g2 := F0 m 46 ls [.int 0]) rfl ?_
  have hP : va_P D classes [(h0, .inr (12, [.ref n0, .int 0, .int i2, .ref n3, .ref n4, .ref n5, .ref n6, .ref n7, .int 0, .int 0, .int i10, .int 0, .int i12, .int i13, .int i14, .ref n15, .int i16, .ref n17, .int i18, .ref n19, .ref n20, .int i21, .int i22, .int i23, .ref n24, .int i25, .ref n26, .ref n27, .ref n28, .ref n29, .ref n30, .long jx, .ref n32, .ref n33, .ref n34, .ref n35]))] H := hP
  have hD : va_D A [(h0, .inr (12, [.ref n0, .int 0, .int i2, .ref n3, .ref n4, .ref n5, .ref n6, .ref n7, .int 0, .int 0, .int i10, .int 0, .int i12, .int i13, .int i14, .ref n15, .int i16, .ref n17, .int i18, .ref n19, .ref n20, .int i21, .int i22, .int i23, .ref n24, .int i25, .ref n26, .ref n27, .ref n28, .ref n29, .ref n30, .long jx, .ref n32, .ref n33, .ref n34, .ref n35]))] := hD
  refine lv_if_ne (tgt := 56) hx hb dX12_clauseHere_46 (by decide) (fun c_9 => absurd c_9 (by decide)) (fun c_9 => ?_)
  refine lv_aload_n hx hb dX12_clauseHere_49 rfl (lv_at hl 2 rfl) ?_
  refine lv_iconst (v := 0) hx hb dX12_clauseHere_50 (by decide) ?_
  refine lv_iload_n hx hb dX12_clauseHere_51 rfl (lv_at hl 1 rfl) ?_
  refine cV (a := h0) (As := [.int 0, .int 0]) (rest := []) (wr := []) ⟨hx, hb, hml, hown, hts⟩ hK hX hA (ct_X12_fails l D tc sk h0 n0 n3 n4 n5 n6 n7 n15 n17 n19 n20 n24 n26 n27 n28 n29 n30 n32 n33 n34 n35 0 i2 0 i10 0 i12 i13 i14 i16 i18 i21 i22 i23 i25 jx) k_1232 k_1229 k_1231 k_31 k_106 pl_X12_fails ⟨Nat.le_of_ble_eq_true rfl, Nat.le_of_ble_eq_true rfl⟩ rfl rfl (va_recv hK hP (ci := 12) (q0 := 0) rfl rfl) hP hD hS [0] [] rfl rfl rfl rfl rfl (by decide) rfl hl.1 rfl (Nat.le_of_ble_eq_true rfl) dX12_clauseHere_52 ⟨Nat.le_of_ble_eq_true rfl, Nat.le_of_ble_eq_true rfl⟩ (fun v_10 u_11 H locs hv_12 hP hD hS => ?_)
  obtain rfl : v_10 = some (.int 0) := hv_12
  refine W.eq (g2 := F0 m 55 ls [.int 0]) rfl ?_
  have hP : va_P D classes [(h0, .inr (12, [.ref n0, .int 0, .int i2, .ref n3, .ref n4, .ref n5, .ref n6, .ref n7, .int 0, .int 1, .int i10, .int 0, .int i12, .int i13, .int i14, .ref n15, .int i16, .ref n17, .int i18, .ref n19, .ref n20, .int i21, .int i22, .int i23, .ref n24, .int i25, .ref n26, .ref n27, .ref n28, .ref n29, .ref n30, .long jx, .ref n32, .ref n33, .ref n34, .ref n35]))] H := hP
  have hD : va_D A [(h0, .inr (12, [.ref n0, .int 0, .int i2, .ref n3, .ref n4, .ref n5, .ref n6, .ref n7, .int 0, .int 1, .int i10, .int 0, .int i12, .int i13, .int i14, .ref n15, .int i16, .ref n17, .int i18, .ref n19, .ref n20, .int i21, .int i22, .int i23, .ref n24, .int i25, .ref n26, .ref n27, .ref n28, .ref n29, .ref n30, .long jx, .ref n32, .ref n33, .ref n34, .ref n35]))] := hD
  exact retI (v := 0) hx hb hr hlk (rfl) hP hD hS () rfl [0] rfl rfl dX12_clauseHere_55 (Nat.le_of_ble_eq_true rfl) (Nat.le_of_ble_eq_true rfl) rfl
set_option maxHeartbeats 4000000 in
set_option maxRecDepth 100000 in
theorem ct_X12_readsAll_r (l : Launch) (D : va_G) (tc : Nat → ClassId) (sk : (Nat → Nat) × (Nat → Nat)) (h0 : Nat) (n0 : Nat) (n3 : Nat) (n4 : Nat) (n5 : Nat) (n6 : Nat) (n7 : Nat) (n15 : Nat) (n17 : Nat) (n19 : Nat) (n20 : Nat) (n24 : Nat) (n26 : Nat) (n27 : Nat) (n28 : Nat) (n29 : Nat) (n30 : Nat) (n32 : Nat) (n33 : Nat) (n34 : Nat) (n35 : Nat) (i2 : Int32) (i8 : Int32) (i9 : Int32) (i10 : Int32) (i12 : Int32) (i13 : Int32) (i14 : Int32) (i16 : Int32) (i18 : Int32) (i21 : Int32) (i22 : Int32) (i23 : Int32) (i25 : Int32) (jx : Int64) (gl : Nat → Int32)  : Ct l yX12_readsAll cX12_readsAll 2 (some .boolean) { frames := 3, cells := 0, slots := 0, locals := 68 } D tc sk [.ref h0] [(h0, .inr (12, [.ref n0, .int 0, .int i2, .ref n3, .ref n4, .ref n5, .ref n6, .ref n7, .int i8, .int i9, .int i10, .int 0, .int i12, .int i13, .int i14, .ref n15, .int i16, .ref n17, .int i18, .ref n19, .ref n20, .int i21, .int i22, .int i23, .ref n24, .int i25, .ref n26, .ref n27, .ref n28, .ref n29, .ref n30, .long jx, .ref n32, .ref n33, .ref n34, .ref n35])), (n4, .inl (tc 0, 7, .inl gl))] (fun (v : Option Value) (gz : Nat → Int32) => v = some (.int 0)) (fun (gz : Nat → Int32) => [(h0, .inr (12, [.ref n0, .int 0, .int i2, .ref n3, .ref n4, .ref n5, .ref n6, .ref n7, .int 0, .int 1, .int i10, .int 0, .int 0, .int i13, .int 0, .ref n15, .int i16, .ref n17, .int i18, .ref n19, .ref n20, .int i21, .int i22, .int i23, .ref n24, .int i25, .ref n26, .ref n27, .ref n28, .ref n29, .ref n30, .long jx, .ref n32, .ref n33, .ref n34, .ref n35])), (n4, .inl (tc 0, 7, .inl gz))]) 0 0 := by
  refine Ct.start (by decide) (Nat.le_of_ble_eq_true rfl) (fun p e s m below meth c A ls hx hb hr hlk hin hml hown hts hK hX hP hD hA hl hS => ?_)
  have hl : lv_has ls 2 [(0, .ref h0)] := hl
  refine lv_aload_n hx hb dX12_readsAll_0 rfl (lv_at hl 0 rfl) ?_
  refine gf_X12_17 hx hb hts hown hK hP 0 rfl rfl dX12_readsAll_1 ?_
  refine lv_aload_n hx hb dX12_readsAll_4 rfl (lv_at hl 0 rfl) ?_
  refine gf_X12_145 hx hb hts hown hK hP 0 rfl rfl dX12_readsAll_5 ?_
  refine lv_iconst (v := 0) hx hb dX12_readsAll_8 (by decide) ?_
  refine st_int hx hb hK hP hD hS 1 0 rfl rfl (vin_dec (by decide +kernel)) dX12_readsAll_9 (fun g_1 H locs eg_1 hP hD hS => ?_)
  have hP : va_P D classes [(h0, .inr (12, [.ref n0, .int 0, .int i2, .ref n3, .ref n4, .ref n5, .ref n6, .ref n7, .int i8, .int i9, .int i10, .int 0, .int i12, .int i13, .int i14, .ref n15, .int i16, .ref n17, .int i18, .ref n19, .ref n20, .int i21, .int i22, .int i23, .ref n24, .int i25, .ref n26, .ref n27, .ref n28, .ref n29, .ref n30, .long jx, .ref n32, .ref n33, .ref n34, .ref n35])), (n4, .inl (tc 0, 7, .inl g_1))] H := hP
  have hD : va_D A [(h0, .inr (12, [.ref n0, .int 0, .int i2, .ref n3, .ref n4, .ref n5, .ref n6, .ref n7, .int i8, .int i9, .int i10, .int 0, .int i12, .int i13, .int i14, .ref n15, .int i16, .ref n17, .int i18, .ref n19, .ref n20, .int i21, .int i22, .int i23, .ref n24, .int i25, .ref n26, .ref n27, .ref n28, .ref n29, .ref n30, .long jx, .ref n32, .ref n33, .ref n34, .ref n35])), (n4, .inl (tc 0, 7, .inl g_1))] := hD
  refine lv_aload_n hx hb dX12_readsAll_10 rfl (lv_at hl 0 rfl) ?_
  refine lv_iconst (v := 0) hx hb dX12_readsAll_11 (by decide) ?_
  refine pf_X12_244 hx hb hts hown hK hP hD hS 0 rfl (Nat.le_of_ble_eq_true rfl) rfl rfl dX12_readsAll_12 (fun H locs hP hD hS => ?_)
  have hP : va_P D classes [(h0, .inr (12, [.ref n0, .int 0, .int i2, .ref n3, .ref n4, .ref n5, .ref n6, .ref n7, .int i8, .int i9, .int i10, .int 0, .int i12, .int i13, .int 0, .ref n15, .int i16, .ref n17, .int i18, .ref n19, .ref n20, .int i21, .int i22, .int i23, .ref n24, .int i25, .ref n26, .ref n27, .ref n28, .ref n29, .ref n30, .long jx, .ref n32, .ref n33, .ref n34, .ref n35])), (n4, .inl (tc 0, 7, .inl g_1))] H := hP
  have hD : va_D A [(h0, .inr (12, [.ref n0, .int 0, .int i2, .ref n3, .ref n4, .ref n5, .ref n6, .ref n7, .int i8, .int i9, .int i10, .int 0, .int i12, .int i13, .int 0, .ref n15, .int i16, .ref n17, .int i18, .ref n19, .ref n20, .int i21, .int i22, .int i23, .ref n24, .int i25, .ref n26, .ref n27, .ref n28, .ref n29, .ref n30, .long jx, .ref n32, .ref n33, .ref n34, .ref n35])), (n4, .inl (tc 0, 7, .inl g_1))] := hD
  refine lv_aload_n hx hb dX12_readsAll_15 rfl (lv_at hl 0 rfl) ?_
  refine lv_iconst (v := 0) hx hb dX12_readsAll_16 (by decide) ?_
  refine pf_X12_87 hx hb hts hown hK hP hD hS 0 rfl (Nat.le_of_ble_eq_true rfl) rfl rfl dX12_readsAll_17 (fun H locs hP hD hS => ?_)
  have hP : va_P D classes [(h0, .inr (12, [.ref n0, .int 0, .int i2, .ref n3, .ref n4, .ref n5, .ref n6, .ref n7, .int 0, .int i9, .int i10, .int 0, .int i12, .int i13, .int 0, .ref n15, .int i16, .ref n17, .int i18, .ref n19, .ref n20, .int i21, .int i22, .int i23, .ref n24, .int i25, .ref n26, .ref n27, .ref n28, .ref n29, .ref n30, .long jx, .ref n32, .ref n33, .ref n34, .ref n35])), (n4, .inl (tc 0, 7, .inl g_1))] H := hP
  have hD : va_D A [(h0, .inr (12, [.ref n0, .int 0, .int i2, .ref n3, .ref n4, .ref n5, .ref n6, .ref n7, .int 0, .int i9, .int i10, .int 0, .int i12, .int i13, .int 0, .ref n15, .int i16, .ref n17, .int i18, .ref n19, .ref n20, .int i21, .int i22, .int i23, .ref n24, .int i25, .ref n26, .ref n27, .ref n28, .ref n29, .ref n30, .long jx, .ref n32, .ref n33, .ref n34, .ref n35])), (n4, .inl (tc 0, 7, .inl g_1))] := hD
  refine lv_aload_n hx hb dX12_readsAll_20 rfl (lv_at hl 0 rfl) ?_
  refine lv_iconst (v := 0) hx hb dX12_readsAll_21 (by decide) ?_
  refine pf_X12_84 hx hb hts hown hK hP hD hS 0 rfl (Nat.le_of_ble_eq_true rfl) rfl rfl dX12_readsAll_22 (fun H locs hP hD hS => ?_)
  have hP : va_P D classes [(h0, .inr (12, [.ref n0, .int 0, .int i2, .ref n3, .ref n4, .ref n5, .ref n6, .ref n7, .int 0, .int 0, .int i10, .int 0, .int i12, .int i13, .int 0, .ref n15, .int i16, .ref n17, .int i18, .ref n19, .ref n20, .int i21, .int i22, .int i23, .ref n24, .int i25, .ref n26, .ref n27, .ref n28, .ref n29, .ref n30, .long jx, .ref n32, .ref n33, .ref n34, .ref n35])), (n4, .inl (tc 0, 7, .inl g_1))] H := hP
  have hD : va_D A [(h0, .inr (12, [.ref n0, .int 0, .int i2, .ref n3, .ref n4, .ref n5, .ref n6, .ref n7, .int 0, .int 0, .int i10, .int 0, .int i12, .int i13, .int 0, .ref n15, .int i16, .ref n17, .int i18, .ref n19, .ref n20, .int i21, .int i22, .int i23, .ref n24, .int i25, .ref n26, .ref n27, .ref n28, .ref n29, .ref n30, .long jx, .ref n32, .ref n33, .ref n34, .ref n35])), (n4, .inl (tc 0, 7, .inl g_1))] := hD
  refine lv_aload_n hx hb dX12_readsAll_25 rfl (lv_at hl 0 rfl) ?_
  refine lv_iconst (v := 0) hx hb dX12_readsAll_26 (by decide) ?_
  refine pf_X12_148 hx hb hts hown hK hP hD hS 0 rfl (Nat.le_of_ble_eq_true rfl) rfl rfl dX12_readsAll_27 (fun H locs hP hD hS => ?_)
  have hP : va_P D classes [(h0, .inr (12, [.ref n0, .int 0, .int i2, .ref n3, .ref n4, .ref n5, .ref n6, .ref n7, .int 0, .int 0, .int i10, .int 0, .int 0, .int i13, .int 0, .ref n15, .int i16, .ref n17, .int i18, .ref n19, .ref n20, .int i21, .int i22, .int i23, .ref n24, .int i25, .ref n26, .ref n27, .ref n28, .ref n29, .ref n30, .long jx, .ref n32, .ref n33, .ref n34, .ref n35])), (n4, .inl (tc 0, 7, .inl g_1))] H := hP
  have hD : va_D A [(h0, .inr (12, [.ref n0, .int 0, .int i2, .ref n3, .ref n4, .ref n5, .ref n6, .ref n7, .int 0, .int 0, .int i10, .int 0, .int 0, .int i13, .int 0, .ref n15, .int i16, .ref n17, .int i18, .ref n19, .ref n20, .int i21, .int i22, .int i23, .ref n24, .int i25, .ref n26, .ref n27, .ref n28, .ref n29, .ref n30, .long jx, .ref n32, .ref n33, .ref n34, .ref n35])), (n4, .inl (tc 0, 7, .inl g_1))] := hD
  refine lv_aload_n hx hb dX12_readsAll_30 rfl (lv_at hl 0 rfl) ?_
  refine cV (a := h0) (As := []) (rest := []) (wr := [(n4, .inl (tc 0, 7, .inl g_1))]) ⟨hx, hb, hml, hown, hts⟩ hK hX hA (ct_X12_clauseHere_r l D tc sk h0 n0 n3 n4 n5 n6 n7 n15 n17 n19 n20 n24 n26 n27 n28 n29 n30 n32 n33 n34 n35 i2 i10 0 i13 0 i16 i18 i21 i22 i23 i25 jx) k_1207 k_1204 k_1206 k_26 k_106 pl_X12_clauseHere ⟨Nat.le_of_ble_eq_true rfl, Nat.le_of_ble_eq_true rfl⟩ rfl rfl (va_recv hK hP (ci := 12) (q0 := 0) rfl rfl) hP hD hS [0] [1] rfl rfl rfl rfl rfl (by decide) rfl hl.1 rfl (Nat.le_of_ble_eq_true rfl) dX12_readsAll_31 ⟨Nat.le_of_ble_eq_true rfl, Nat.le_of_ble_eq_true rfl⟩ (fun v_2 u_3 H locs hv_4 hP hD hS => ?_)
  obtain rfl : v_2 = some (.int 0) := hv_4
  refine W.eq (g2 := F0 m 34 ls [.int 0]) rfl ?_
  have hP : va_P D classes [(n4, .inl (tc 0, 7, .inl g_1)), (h0, .inr (12, [.ref n0, .int 0, .int i2, .ref n3, .ref n4, .ref n5, .ref n6, .ref n7, .int 0, .int 1, .int i10, .int 0, .int 0, .int i13, .int 0, .ref n15, .int i16, .ref n17, .int i18, .ref n19, .ref n20, .int i21, .int i22, .int i23, .ref n24, .int i25, .ref n26, .ref n27, .ref n28, .ref n29, .ref n30, .long jx, .ref n32, .ref n33, .ref n34, .ref n35]))] H := hP
  have hD : va_D A [(n4, .inl (tc 0, 7, .inl g_1)), (h0, .inr (12, [.ref n0, .int 0, .int i2, .ref n3, .ref n4, .ref n5, .ref n6, .ref n7, .int 0, .int 1, .int i10, .int 0, .int 0, .int i13, .int 0, .ref n15, .int i16, .ref n17, .int i18, .ref n19, .ref n20, .int i21, .int i22, .int i23, .ref n24, .int i25, .ref n26, .ref n27, .ref n28, .ref n29, .ref n30, .long jx, .ref n32, .ref n33, .ref n34, .ref n35]))] := hD
  refine lv_istore_n (lv' := [(1, .int 0), (0, .ref h0)]) hx hb dX12_readsAll_34 rfl hl (by decide) rfl (fun ls hl => ?_)
  refine lv_iload_n hx hb dX12_readsAll_35 rfl (lv_at hl 0 rfl) ?_
  refine lv_if_eq (tgt := 66) hx hb dX12_readsAll_36 (by decide) (fun c_5 => ?_) (fun c_5 => absurd c_5 (by decide))
  refine lv_iload_n hx hb dX12_readsAll_66 rfl (lv_at hl 0 rfl) ?_
  refine lv_if_eq (tgt := 88) hx hb dX12_readsAll_67 (by decide) (fun c_6 => ?_) (fun c_6 => absurd c_6 (by decide))
  refine lv_aload_n hx hb dX12_readsAll_88 rfl (lv_at hl 1 rfl) ?_
  refine lv_iconst (v := 0) hx hb dX12_readsAll_89 (by decide) ?_
  refine pf_X12_77 hx hb hts hown hK hP hD hS 1 rfl (Nat.le_of_ble_eq_true rfl) rfl rfl dX12_readsAll_90 (fun H locs hP hD hS => ?_)
  have hP : va_P D classes [(n4, .inl (tc 0, 7, .inl g_1)), (h0, .inr (12, [.ref n0, .int 0, .int i2, .ref n3, .ref n4, .ref n5, .ref n6, .ref n7, .int 0, .int 1, .int i10, .int 0, .int 0, .int i13, .int 0, .ref n15, .int i16, .ref n17, .int i18, .ref n19, .ref n20, .int i21, .int i22, .int i23, .ref n24, .int i25, .ref n26, .ref n27, .ref n28, .ref n29, .ref n30, .long jx, .ref n32, .ref n33, .ref n34, .ref n35]))] H := hP
  have hD : va_D A [(n4, .inl (tc 0, 7, .inl g_1)), (h0, .inr (12, [.ref n0, .int 0, .int i2, .ref n3, .ref n4, .ref n5, .ref n6, .ref n7, .int 0, .int 1, .int i10, .int 0, .int 0, .int i13, .int 0, .ref n15, .int i16, .ref n17, .int i18, .ref n19, .ref n20, .int i21, .int i22, .int i23, .ref n24, .int i25, .ref n26, .ref n27, .ref n28, .ref n29, .ref n30, .long jx, .ref n32, .ref n33, .ref n34, .ref n35]))] := hD
  refine lv_aload_n hx hb dX12_readsAll_93 rfl (lv_at hl 1 rfl) ?_
  refine gf_X12_84 hx hb hts hown hK hP 1 rfl rfl dX12_readsAll_94 ?_
  refine lv_if_ne (tgt := 104) hx hb dX12_readsAll_97 (by decide) (fun c_7 => ?_) (fun c_7 => absurd c_7 (by decide))
  refine lv_iconst (v := 0) hx hb dX12_readsAll_104 (by decide) ?_
  exact retI (v := 0) hx hb hr hlk (rfl) hP hD hS g_1 rfl [1, 0] rfl rfl dX12_readsAll_105 (Nat.le_of_ble_eq_true rfl) (Nat.le_of_ble_eq_true rfl) rfl
set_option maxHeartbeats 4000000 in
set_option maxRecDepth 100000 in
theorem ct_X12_book (l : Launch) (D : va_G) (tc : Nat → ClassId) (sk : (Nat → Nat) × (Nat → Nat)) (h0 : Nat) (n0 : Nat) (n3 : Nat) (n4 : Nat) (n5 : Nat) (n6 : Nat) (n7 : Nat) (n15 : Nat) (n17 : Nat) (n19 : Nat) (n20 : Nat) (n24 : Nat) (n26 : Nat) (n27 : Nat) (n28 : Nat) (n29 : Nat) (n30 : Nat) (n32 : Nat) (n33 : Nat) (n34 : Nat) (n35 : Nat)  : Ct l yX12_book cX12_book 2 (some .int) { frames := 5, cells := 0, slots := 0, locals := 109 } D tc sk [.ref h0] [(h0, .inr (12, [.ref n0, .int 0, .int 0, .ref n3, .ref n4, .ref n5, .ref n6, .ref n7, .int 0, .int 0, .int 0, .int 0, .int 0, .int 0, .int 0, .ref n15, .int 0, .ref n17, .int 0, .ref n19, .ref n20, .int (-1), .int 0, .int 0, .ref n24, .int 0, .ref n26, .ref n27, .ref n28, .ref n29, .ref n30, .long 0, .ref n32, .ref n33, .ref n34, .ref n35])), (n4, .inl (tc 0, 7, .inl (fun _ => 0))), (n7, .inl (tc 0, 95, .inl (fun _ => 0)))] (fun (v : Option Value) (_ : Unit) => v = some (.int (-3))) (fun (_ : Unit) => []) 0 0 := by
  refine Ct.start (by decide) (Nat.le_of_ble_eq_true rfl) (fun p e s m below meth c A ls hx hb hr hlk hin hml hown hts hK hX hP hD hA hl hS => ?_)
  have hl : lv_has ls 2 [(0, .ref h0)] := hl
  refine lv_aload_n hx hb dX12_book_0 rfl (lv_at hl 0 rfl) ?_
  refine lv_bipush (v := 6) hx hb dX12_book_1 (by decide) ?_
  refine pf_X12_145 hx hb hts hown hK hP hD hS 0 rfl (Nat.le_of_ble_eq_true rfl) rfl rfl dX12_book_3 (fun H locs hP hD hS => ?_)
  have hP : va_P D classes [(h0, .inr (12, [.ref n0, .int 0, .int 0, .ref n3, .ref n4, .ref n5, .ref n6, .ref n7, .int 0, .int 0, .int 0, .int 6, .int 0, .int 0, .int 0, .ref n15, .int 0, .ref n17, .int 0, .ref n19, .ref n20, .int (-1), .int 0, .int 0, .ref n24, .int 0, .ref n26, .ref n27, .ref n28, .ref n29, .ref n30, .long 0, .ref n32, .ref n33, .ref n34, .ref n35])), (n4, .inl (tc 0, 7, .inl (fun _ => 0))), (n7, .inl (tc 0, 95, .inl (fun _ => 0)))] H := hP
  have hD : va_D A [(h0, .inr (12, [.ref n0, .int 0, .int 0, .ref n3, .ref n4, .ref n5, .ref n6, .ref n7, .int 0, .int 0, .int 0, .int 6, .int 0, .int 0, .int 0, .ref n15, .int 0, .ref n17, .int 0, .ref n19, .ref n20, .int (-1), .int 0, .int 0, .ref n24, .int 0, .ref n26, .ref n27, .ref n28, .ref n29, .ref n30, .long 0, .ref n32, .ref n33, .ref n34, .ref n35])), (n4, .inl (tc 0, 7, .inl (fun _ => 0))), (n7, .inl (tc 0, 95, .inl (fun _ => 0)))] := hD
  refine lv_iconst (v := 0) hx hb dX12_book_6 (by decide) ?_
  refine lv_istore_n (lv' := [(1, .int 0), (0, .ref h0)]) hx hb dX12_book_7 rfl hl (by decide) rfl (fun ls hl => ?_)
  have loop_5 : ∀ (n_3 i_1 : Nat) (g_2 : Nat → Int32) (H : Heap) (locs : List Loc) (ls : Array Slot), i_1 ≤ 95 → 95 + 1 ≤ i_1 + n_3 → va_P D classes [(h0, .inr (12, [.ref n0, .int 0, .int 0, .ref n3, .ref n4, .ref n5, .ref n6, .ref n7, .int 0, .int 0, .int 0, .int 6, .int 0, .int 0, .int 0, .ref n15, .int 0, .ref n17, .int 0, .ref n19, .ref n20, .int (-1), .int 0, .int 0, .ref n24, .int 0, .ref n26, .ref n27, .ref n28, .ref n29, .ref n30, .long 0, .ref n32, .ref n33, .ref n34, .ref n35])), (n4, .inl (tc 0, 7, .inl (fun _ => 0))), (n7, .inl (tc 0, 95, .inl g_2))] H → va_D A [(h0, .inr (12, [.ref n0, .int 0, .int 0, .ref n3, .ref n4, .ref n5, .ref n6, .ref n7, .int 0, .int 0, .int 0, .int 6, .int 0, .int 0, .int 0, .ref n15, .int 0, .ref n17, .int 0, .ref n19, .ref n20, .int (-1), .int 0, .int 0, .ref n24, .int 0, .ref n26, .ref n27, .ref n28, .ref n29, .ref n30, .long 0, .ref n32, .ref n33, .ref n34, .ref n35])), (n4, .inl (tc 0, 7, .inl (fun _ => 0))), (n7, .inl (tc 0, 95, .inl g_2))] → va_S A s.heap H locs → lv_has ls 2 [(1, .int (nI i_1)), (0, .ref h0)] → W p l e ({ frames := 5, cells := 0, slots := 0, locals := 109 }) s m ([.ref h0].toArray) below meth c H locs 0 0 (MQ below (QW (fun (v : Option Value) (_ : Unit) => v = some (.int (-3))) (BW D (fun (_ : Unit) => []) A) A) ([.ref h0].toArray) s 0 0 A) (F0 m 8 ls []) := by
    intro n_3
    induction n_3 with
    | zero =>
      intro i_1 g_2 H locs ls h1 h2
      exact absurd h2 (by omega)
    | succ n_3 ih_4 =>
      intro i_1 g_2 H locs ls hi_6 hn_7 hP hD hS hl
      refine lv_iload_n hx hb dX12_book_8 rfl (lv_at hl 0 rfl) ?_
      refine lv_bipush (v := 95) hx hb dX12_book_9 (by decide) ?_
      refine lv_icmp_ge (tgt := 27) hx hb dX12_book_11 (by decide) (fun c_8 => ?_) (fun c_8 => ?_)
      · skip
        refine lv_aload_n hx hb dX12_book_27 rfl (lv_at hl 1 rfl) ?_
        refine cV (a := h0) (As := []) (rest := []) (wr := [(n7, .inl (tc 0, 95, .inl g_2))]) ⟨hx, hb, hml, hown, hts⟩ hK hX hA (ct_X12_readsAll_b l D tc sk h0 n0 n3 n4 n5 n6 n7 n15 n17 n19 n20 n24 n26 n27 n28 n29 n30 n32 n33 n34 n35 0 0 0 0 0 0 0 0 0 (-1) 0 0 0 0 (fun _ => 0)) k_1203 k_1200 k_1202 k_25 k_106 pl_X12_readsAll ⟨Nat.le_of_ble_eq_true rfl, Nat.le_of_ble_eq_true rfl⟩ rfl rfl (va_recv hK hP (ci := 12) (q0 := 0) rfl rfl) hP hD hS [0, 1] [2] rfl rfl rfl rfl rfl (by decide) rfl hl.1 rfl (Nat.le_of_ble_eq_true rfl) dX12_book_28 ⟨Nat.le_of_ble_eq_true rfl, Nat.le_of_ble_eq_true rfl⟩ (fun v_9 u_10 H locs hv_11 hP hD hS => ?_)
        obtain ⟨gz_12, rfl⟩ : ∃ z, z = u_10 := ⟨_, rfl⟩
        obtain rfl : v_9 = some (.int 0) := hv_11
        refine W.eq (g2 := F0 m 31 ls [.int 0]) rfl ?_
        have hP : va_P D classes [(n7, .inl (tc 0, 95, .inl g_2)), (h0, .inr (12, [.ref n0, .int 0, .int 0, .ref n3, .ref n4, .ref n5, .ref n6, .ref n7, .int 0, .int 1, .int 0, .int 6, .int 0, .int 0, .int 0, .ref n15, .int 0, .ref n17, .int 0, .ref n19, .ref n20, .int (-1), .int 0, .int 0, .ref n24, .int 0, .ref n26, .ref n27, .ref n28, .ref n29, .ref n30, .long 0, .ref n32, .ref n33, .ref n34, .ref n35])), (n4, .inl (tc 0, 7, .inl gz_12))] H := hP
        have hD : va_D A [(n7, .inl (tc 0, 95, .inl g_2)), (h0, .inr (12, [.ref n0, .int 0, .int 0, .ref n3, .ref n4, .ref n5, .ref n6, .ref n7, .int 0, .int 1, .int 0, .int 6, .int 0, .int 0, .int 0, .ref n15, .int 0, .ref n17, .int 0, .ref n19, .ref n20, .int (-1), .int 0, .int 0, .ref n24, .int 0, .ref n26, .ref n27, .ref n28, .ref n29, .ref n30, .long 0, .ref n32, .ref n33, .ref n34, .ref n35])), (n4, .inl (tc 0, 7, .inl gz_12))] := hD
        refine lv_if_ne (tgt := 42) hx hb dX12_book_31 (by decide) (fun c_13 => absurd c_13 (by decide)) (fun c_13 => ?_)
        refine lv_bipush (v := (-2)) hx hb dX12_book_34 (by decide) ?_
        refine lv_aload_n hx hb dX12_book_36 rfl (lv_at hl 1 rfl) ?_
        refine gf_X12_84 hx hb hts hown hK hP 1 rfl rfl dX12_book_37 ?_
        refine lv_isub hx hb dX12_book_40 ?_
        refine lv_lit (v := (-3)) (by decide) ?_
        exact retI (v := (-3)) hx hb hr hlk (rfl) hP hD hS () rfl [] rfl rfl dX12_book_41 (Nat.le_of_ble_eq_true rfl) (Nat.le_of_ble_eq_true rfl) rfl
      · skip
        refine lv_aload_n hx hb dX12_book_14 rfl (lv_at hl 1 rfl) ?_
        refine gf_X12_26 hx hb hts hown hK hP 0 rfl rfl dX12_book_15 ?_
        refine lv_iload_n hx hb dX12_book_18 rfl (lv_at hl 0 rfl) ?_
        refine lv_iconst (v := 0) hx hb dX12_book_19 (by decide) ?_
        have hi_14 : vp_in (nI i_1) 95 := by
          have z_1 := Int32.lt_iff_toInt_lt.mp (Int32.not_le.mp c_8)
          have y_95 : (95 : Int32).toInt = 95 := by decide
          have n_0 : (nI i_1).toInt = ((i_1 : Nat) : Int) := nI_toInt (by omega)
          exact vp_in_nI (by omega) (by omega)
        refine st_int hx hb hK hP hD hS 2 0 rfl rfl hi_14 dX12_book_20 (fun g_15 H locs eg_15 hP hD hS => ?_)
        have hP : va_P D classes [(h0, .inr (12, [.ref n0, .int 0, .int 0, .ref n3, .ref n4, .ref n5, .ref n6, .ref n7, .int 0, .int 0, .int 0, .int 6, .int 0, .int 0, .int 0, .ref n15, .int 0, .ref n17, .int 0, .ref n19, .ref n20, .int (-1), .int 0, .int 0, .ref n24, .int 0, .ref n26, .ref n27, .ref n28, .ref n29, .ref n30, .long 0, .ref n32, .ref n33, .ref n34, .ref n35])), (n4, .inl (tc 0, 7, .inl (fun _ => 0))), (n7, .inl (tc 0, 95, .inl g_15))] H := hP
        have hD : va_D A [(h0, .inr (12, [.ref n0, .int 0, .int 0, .ref n3, .ref n4, .ref n5, .ref n6, .ref n7, .int 0, .int 0, .int 0, .int 6, .int 0, .int 0, .int 0, .ref n15, .int 0, .ref n17, .int 0, .ref n19, .ref n20, .int (-1), .int 0, .int 0, .ref n24, .int 0, .ref n26, .ref n27, .ref n28, .ref n29, .ref n30, .long 0, .ref n32, .ref n33, .ref n34, .ref n35])), (n4, .inl (tc 0, 7, .inl (fun _ => 0))), (n7, .inl (tc 0, 95, .inl g_15))] := hD
        refine lv_iinc (v := (nI (i_1 + 1))) (lv' := [(1, .int (nI (i_1 + 1))), (0, .ref h0)]) hx hb dX12_book_21 hl (k := 0) rfl (nI_add (i_1) 1) (by decide) rfl (fun ls hl => ?_)
        refine lv_goto (tgt := 8) hx hb dX12_book_24 (by decide) ?_
        have hlt_16 : i_1 < 95 := by
          have z_1 := Int32.lt_iff_toInt_lt.mp (Int32.not_le.mp c_8)
          have y_95 : (95 : Int32).toInt = 95 := by decide
          have n_0 : (nI i_1).toInt = ((i_1 : Nat) : Int) := nI_toInt (by omega)
          omega
        exact ih_4 (i_1 + 1) g_15 _ _ _ (by omega) (by omega) (hP.sub [0, 1, 2] rfl) (hD.sub [0, 1, 2] rfl rfl) hS (lv_sub hl [0, 1] rfl)
  exact loop_5 (95 + 1) 0 (fun _ => 0) _ _ _ (by omega) (by omega) hP hD hS hl
set_option maxHeartbeats 4000000 in
set_option maxRecDepth 100000 in
theorem ct_X12_rule (l : Launch) (D : va_G) (tc : Nat → ClassId) (sk : (Nat → Nat) × (Nat → Nat)) (h0 : Nat) (n0 : Nat) (n3 : Nat) (n4 : Nat) (n5 : Nat) (n6 : Nat) (n7 : Nat) (n15 : Nat) (n17 : Nat) (n19 : Nat) (n20 : Nat) (n24 : Nat) (n26 : Nat) (n27 : Nat) (n28 : Nat) (n29 : Nat) (n30 : Nat) (n32 : Nat) (n33 : Nat) (n34 : Nat) (n35 : Nat)  : Ct l yX12_rule cX12_rule 1 (some .int) { frames := 4, cells := 0, slots := 0, locals := 89 } D tc sk [.ref h0] [(h0, .inr (12, [.ref n0, .int 0, .int 0, .ref n3, .ref n4, .ref n5, .ref n6, .ref n7, .int 0, .int 0, .int 0, .int 0, .int 0, .int 0, .int 0, .ref n15, .int 0, .ref n17, .int 0, .ref n19, .ref n20, .int (-1), .int 0, .int 0, .ref n24, .int 0, .ref n26, .ref n27, .ref n28, .ref n29, .ref n30, .long 0, .ref n32, .ref n33, .ref n34, .ref n35])), (n4, .inl (tc 0, 7, .inl (fun _ => 0))), (n6, .inl (tc 0, 6, .inl (fun _ => 0)))] (fun (v : Option Value) (_ : Unit) => v = some (.int (-3))) (fun (_ : Unit) => []) 0 0 := by
  refine Ct.start (by decide) (Nat.le_of_ble_eq_true rfl) (fun p e s m below meth c A ls hx hb hr hlk hin hml hown hts hK hX hP hD hA hl hS => ?_)
  have hl : lv_has ls 1 [(0, .ref h0)] := hl
  refine lv_aload_n hx hb dX12_rule_0 rfl (lv_at hl 0 rfl) ?_
  refine gf_X12_256 hx hb hts hown hK hP 0 rfl rfl dX12_rule_1 ?_
  refine lv_bipush (v := 6) hx hb dX12_rule_4 (by decide) ?_
  refine lv_icmp_ne (tgt := 11) hx hb dX12_rule_6 (by decide) (fun c_1 => ?_) (fun c_1 => absurd c_1 (by decide))
  refine lv_aload_n hx hb dX12_rule_11 rfl (lv_at hl 0 rfl) ?_
  refine lv_aload_n hx hb dX12_rule_12 rfl (lv_at hl 0 rfl) ?_
  refine gf_X12_256 hx hb hts hown hK hP 0 rfl rfl dX12_rule_13 ?_
  refine pf_X12_145 hx hb hts hown hK hP hD hS 0 rfl (Nat.le_of_ble_eq_true rfl) rfl rfl dX12_rule_16 (fun H locs hP hD hS => ?_)
  have hP : va_P D classes [(h0, .inr (12, [.ref n0, .int 0, .int 0, .ref n3, .ref n4, .ref n5, .ref n6, .ref n7, .int 0, .int 0, .int 0, .int 0, .int 0, .int 0, .int 0, .ref n15, .int 0, .ref n17, .int 0, .ref n19, .ref n20, .int (-1), .int 0, .int 0, .ref n24, .int 0, .ref n26, .ref n27, .ref n28, .ref n29, .ref n30, .long 0, .ref n32, .ref n33, .ref n34, .ref n35])), (n4, .inl (tc 0, 7, .inl (fun _ => 0))), (n6, .inl (tc 0, 6, .inl (fun _ => 0)))] H := hP
  have hD : va_D A [(h0, .inr (12, [.ref n0, .int 0, .int 0, .ref n3, .ref n4, .ref n5, .ref n6, .ref n7, .int 0, .int 0, .int 0, .int 0, .int 0, .int 0, .int 0, .ref n15, .int 0, .ref n17, .int 0, .ref n19, .ref n20, .int (-1), .int 0, .int 0, .ref n24, .int 0, .ref n26, .ref n27, .ref n28, .ref n29, .ref n30, .long 0, .ref n32, .ref n33, .ref n34, .ref n35])), (n4, .inl (tc 0, 7, .inl (fun _ => 0))), (n6, .inl (tc 0, 6, .inl (fun _ => 0)))] := hD
  refine lv_aload_n hx hb dX12_rule_19 rfl (lv_at hl 0 rfl) ?_
  refine gf_X12_23 hx hb hts hown hK hP 0 rfl rfl dX12_rule_20 ?_
  refine lv_aload_n hx hb dX12_rule_23 rfl (lv_at hl 0 rfl) ?_
  refine gf_X12_145 hx hb hts hown hK hP 0 rfl rfl dX12_rule_24 ?_
  refine lv_iconst (v := 0) hx hb dX12_rule_27 (by decide) ?_
  refine st_int hx hb hK hP hD hS 2 0 rfl rfl (vin_dec (by decide +kernel)) dX12_rule_28 (fun g_2 H locs eg_2 hP hD hS => ?_)
  have hP : va_P D classes [(h0, .inr (12, [.ref n0, .int 0, .int 0, .ref n3, .ref n4, .ref n5, .ref n6, .ref n7, .int 0, .int 0, .int 0, .int 0, .int 0, .int 0, .int 0, .ref n15, .int 0, .ref n17, .int 0, .ref n19, .ref n20, .int (-1), .int 0, .int 0, .ref n24, .int 0, .ref n26, .ref n27, .ref n28, .ref n29, .ref n30, .long 0, .ref n32, .ref n33, .ref n34, .ref n35])), (n4, .inl (tc 0, 7, .inl (fun _ => 0))), (n6, .inl (tc 0, 6, .inl g_2))] H := hP
  have hD : va_D A [(h0, .inr (12, [.ref n0, .int 0, .int 0, .ref n3, .ref n4, .ref n5, .ref n6, .ref n7, .int 0, .int 0, .int 0, .int 0, .int 0, .int 0, .int 0, .ref n15, .int 0, .ref n17, .int 0, .ref n19, .ref n20, .int (-1), .int 0, .int 0, .ref n24, .int 0, .ref n26, .ref n27, .ref n28, .ref n29, .ref n30, .long 0, .ref n32, .ref n33, .ref n34, .ref n35])), (n4, .inl (tc 0, 7, .inl (fun _ => 0))), (n6, .inl (tc 0, 6, .inl g_2))] := hD
  refine lv_aload_n hx hb dX12_rule_29 rfl (lv_at hl 0 rfl) ?_
  refine cV (a := h0) (As := []) (rest := []) (wr := [(n6, .inl (tc 0, 6, .inl g_2))]) ⟨hx, hb, hml, hown, hts⟩ hK hX hA (ct_X12_readsAll_r l D tc sk h0 n0 n3 n4 n5 n6 n7 n15 n17 n19 n20 n24 n26 n27 n28 n29 n30 n32 n33 n34 n35 0 0 0 0 0 0 0 0 0 (-1) 0 0 0 0 (fun _ => 0)) k_1203 k_1200 k_1202 k_25 k_106 pl_X12_readsAll ⟨Nat.le_of_ble_eq_true rfl, Nat.le_of_ble_eq_true rfl⟩ rfl rfl (va_recv hK hP (ci := 12) (q0 := 0) rfl rfl) hP hD hS [0, 1] [2] rfl rfl rfl rfl rfl (by decide) rfl hl.1 rfl (Nat.le_of_ble_eq_true rfl) dX12_rule_30 ⟨Nat.le_of_ble_eq_true rfl, Nat.le_of_ble_eq_true rfl⟩ (fun v_3 u_4 H locs hv_5 hP hD hS => ?_)
  obtain ⟨gz_6, rfl⟩ : ∃ z, z = u_4 := ⟨_, rfl⟩
  obtain rfl : v_3 = some (.int 0) := hv_5
  refine W.eq (g2 := F0 m 33 ls [.int 0]) rfl ?_
  have hP : va_P D classes [(n6, .inl (tc 0, 6, .inl g_2)), (h0, .inr (12, [.ref n0, .int 0, .int 0, .ref n3, .ref n4, .ref n5, .ref n6, .ref n7, .int 0, .int 1, .int 0, .int 0, .int 0, .int 0, .int 0, .ref n15, .int 0, .ref n17, .int 0, .ref n19, .ref n20, .int (-1), .int 0, .int 0, .ref n24, .int 0, .ref n26, .ref n27, .ref n28, .ref n29, .ref n30, .long 0, .ref n32, .ref n33, .ref n34, .ref n35])), (n4, .inl (tc 0, 7, .inl gz_6))] H := hP
  have hD : va_D A [(n6, .inl (tc 0, 6, .inl g_2)), (h0, .inr (12, [.ref n0, .int 0, .int 0, .ref n3, .ref n4, .ref n5, .ref n6, .ref n7, .int 0, .int 1, .int 0, .int 0, .int 0, .int 0, .int 0, .ref n15, .int 0, .ref n17, .int 0, .ref n19, .ref n20, .int (-1), .int 0, .int 0, .ref n24, .int 0, .ref n26, .ref n27, .ref n28, .ref n29, .ref n30, .long 0, .ref n32, .ref n33, .ref n34, .ref n35])), (n4, .inl (tc 0, 7, .inl gz_6))] := hD
  refine lv_if_ne (tgt := 44) hx hb dX12_rule_33 (by decide) (fun c_7 => absurd c_7 (by decide)) (fun c_7 => ?_)
  refine lv_bipush (v := (-2)) hx hb dX12_rule_36 (by decide) ?_
  refine lv_aload_n hx hb dX12_rule_38 rfl (lv_at hl 0 rfl) ?_
  refine gf_X12_84 hx hb hts hown hK hP 1 rfl rfl dX12_rule_39 ?_
  refine lv_isub hx hb dX12_rule_42 ?_
  refine lv_lit (v := (-3)) (by decide) ?_
  exact retI (v := (-3)) hx hb hr hlk (rfl) hP hD hS () rfl [] rfl rfl dX12_rule_43 (Nat.le_of_ble_eq_true rfl) (Nat.le_of_ble_eq_true rfl) rfl
set_option maxHeartbeats 4000000 in
set_option maxRecDepth 100000 in
theorem ct_X12_four (l : Launch) (D : va_G) (tc : Nat → ClassId) (sk : (Nat → Nat) × (Nat → Nat)) (h0 : Nat) (n0 : Nat) (n3 : Nat) (n4 : Nat) (n5 : Nat) (n6 : Nat) (n7 : Nat) (n15 : Nat) (n17 : Nat) (n19 : Nat) (n20 : Nat) (n24 : Nat) (n26 : Nat) (n27 : Nat) (n28 : Nat) (n29 : Nat) (n30 : Nat) (n32 : Nat) (n33 : Nat) (n34 : Nat) (n35 : Nat) (i2 : Int32) (i8 : Int32) (i9 : Int32) (i10 : Int32) (i11 : Int32) (i12 : Int32) (i13 : Int32) (i14 : Int32) (i16 : Int32) (i18 : Int32) (i21 : Int32) (i22 : Int32) (i23 : Int32) (i25 : Int32) (jx : Int64) (n : Nat) (x1 : Int32) (gt : Nat → Int32) (hn : n + 4 ≤ 400) : Ct l yX12_four cX12_four 3 none { frames := 0, cells := 0, slots := 0, locals := 0 } D tc sk [.ref h0, .int x1] [(h0, .inr (12, [.ref n0, .int (nI n), .int i2, .ref n3, .ref n4, .ref n5, .ref n6, .ref n7, .int i8, .int i9, .int i10, .int i11, .int i12, .int i13, .int i14, .ref n15, .int i16, .ref n17, .int i18, .ref n19, .ref n20, .int i21, .int i22, .int i23, .ref n24, .int i25, .ref n26, .ref n27, .ref n28, .ref n29, .ref n30, .long jx, .ref n32, .ref n33, .ref n34, .ref n35])), (n0, .inl (tc 2, 400, .inl gt))] (fun (v : Option Value) (gz : Nat → Int32) => v = none) (fun (gz : Nat → Int32) => [(h0, .inr (12, [.ref n0, .int (nI (n + 4)), .int i2, .ref n3, .ref n4, .ref n5, .ref n6, .ref n7, .int i8, .int i9, .int i10, .int i11, .int i12, .int i13, .int i14, .ref n15, .int i16, .ref n17, .int i18, .ref n19, .ref n20, .int i21, .int i22, .int i23, .ref n24, .int i25, .ref n26, .ref n27, .ref n28, .ref n29, .ref n30, .long jx, .ref n32, .ref n33, .ref n34, .ref n35])), (n0, .inl (tc 2, 400, .inl gz))]) 0 0 := by
  refine Ct.start (by decide) (Nat.le_of_ble_eq_true rfl) (fun p e s m below meth c A ls hx hb hr hlk hin hml hown hts hK hX hP hD hA hl hS => ?_)
  have hl : lv_has ls 3 [(0, .ref h0), (1, .int x1)] := hl
  refine lv_bipush (v := 24) hx hb dX12_four_0 (by decide) ?_
  refine lv_istore_n (lv' := [(2, .int 24), (0, .ref h0), (1, .int x1)]) hx hb dX12_four_2 rfl hl (by decide) rfl (fun ls hl => ?_)
  refine lv_iload_n hx hb dX12_four_3 rfl (lv_at hl 0 rfl) ?_
  refine lv_if_lt (tgt := 36) hx hb dX12_four_4 (by decide) (fun c_1 => absurd c_1 (by decide)) (fun c_1 => ?_)
  refine lv_aload_n hx hb dX12_four_7 rfl (lv_at hl 1 rfl) ?_
  refine gf_X12_7 hx hb hts hown hK hP 0 rfl rfl dX12_four_8 ?_
  refine lv_aload_n hx hb dX12_four_11 rfl (lv_at hl 1 rfl) ?_
  refine gf_X12_77 hx hb hts hown hK hP 0 rfl rfl dX12_four_12 ?_
  refine lv_iload_n hx hb dX12_four_15 rfl (lv_at hl 2 rfl) ?_
  refine lv_iload_n hx hb dX12_four_16 rfl (lv_at hl 0 rfl) ?_
  refine lv_ishr hx hb dX12_four_17 ?_
  refine lv_topi (fun x_2 ex_2 => ?_)
  obtain ⟨x_3, ex_3⟩ : ∃ y : Int32, y = (x_2 : Int32).toInt8.toInt32 := ⟨_, rfl⟩
  refine lv_i2b (v := x_3) hx hb dX12_four_18 ex_3.symm ?_
  have hi_4 : vp_in (nI n) 400 := by
    exact vp_in_nI (by omega) (by omega)
  refine st_byte hx hb hK hP hD hS 1 2 rfl rfl hi_4 dX12_four_19 (fun g_5 H locs eg_5 hP hD hS => ?_)
  have hP : va_P D classes [(h0, .inr (12, [.ref n0, .int (nI n), .int i2, .ref n3, .ref n4, .ref n5, .ref n6, .ref n7, .int i8, .int i9, .int i10, .int i11, .int i12, .int i13, .int i14, .ref n15, .int i16, .ref n17, .int i18, .ref n19, .ref n20, .int i21, .int i22, .int i23, .ref n24, .int i25, .ref n26, .ref n27, .ref n28, .ref n29, .ref n30, .long jx, .ref n32, .ref n33, .ref n34, .ref n35])), (n0, .inl (tc 2, 400, .inl g_5))] H := hP
  have hD : va_D A [(h0, .inr (12, [.ref n0, .int (nI n), .int i2, .ref n3, .ref n4, .ref n5, .ref n6, .ref n7, .int i8, .int i9, .int i10, .int i11, .int i12, .int i13, .int i14, .ref n15, .int i16, .ref n17, .int i18, .ref n19, .ref n20, .int i21, .int i22, .int i23, .ref n24, .int i25, .ref n26, .ref n27, .ref n28, .ref n29, .ref n30, .long jx, .ref n32, .ref n33, .ref n34, .ref n35])), (n0, .inl (tc 2, 400, .inl g_5))] := hD
  refine lv_aload_n hx hb dX12_four_20 rfl (lv_at hl 1 rfl) ?_
  refine lv_dup hx hb dX12_four_21 rfl ?_
  refine gf_X12_77 hx hb hts hown hK hP 0 rfl rfl dX12_four_22 ?_
  refine lv_iconst (v := 1) hx hb dX12_four_25 (by decide) ?_
  refine lv_iadd hx hb dX12_four_26 ?_
  refine lv_lit (v := (nI (n + 1))) (nI_addE (n) (1) (n + 1) (by omega)) ?_
  refine pf_X12_77 hx hb hts hown hK hP hD hS 0 rfl (Nat.le_of_ble_eq_true rfl) rfl rfl dX12_four_27 (fun H locs hP hD hS => ?_)
  have hP : va_P D classes [(h0, .inr (12, [.ref n0, .int (nI (n + 1)), .int i2, .ref n3, .ref n4, .ref n5, .ref n6, .ref n7, .int i8, .int i9, .int i10, .int i11, .int i12, .int i13, .int i14, .ref n15, .int i16, .ref n17, .int i18, .ref n19, .ref n20, .int i21, .int i22, .int i23, .ref n24, .int i25, .ref n26, .ref n27, .ref n28, .ref n29, .ref n30, .long jx, .ref n32, .ref n33, .ref n34, .ref n35])), (n0, .inl (tc 2, 400, .inl g_5))] H := hP
  have hD : va_D A [(h0, .inr (12, [.ref n0, .int (nI (n + 1)), .int i2, .ref n3, .ref n4, .ref n5, .ref n6, .ref n7, .int i8, .int i9, .int i10, .int i11, .int i12, .int i13, .int i14, .ref n15, .int i16, .ref n17, .int i18, .ref n19, .ref n20, .int i21, .int i22, .int i23, .ref n24, .int i25, .ref n26, .ref n27, .ref n28, .ref n29, .ref n30, .long jx, .ref n32, .ref n33, .ref n34, .ref n35])), (n0, .inl (tc 2, 400, .inl g_5))] := hD
  refine lv_iinc (v := 16) (lv' := [(2, .int 16), (0, .ref h0), (1, .int x1)]) hx hb dX12_four_30 hl (k := 0) rfl (by decide) (by decide) rfl (fun ls hl => ?_)
  refine lv_goto (tgt := 3) hx hb dX12_four_33 (by decide) ?_
  refine lv_iload_n hx hb dX12_four_3 rfl (lv_at hl 0 rfl) ?_
  refine lv_if_lt (tgt := 36) hx hb dX12_four_4 (by decide) (fun c_6 => absurd c_6 (by decide)) (fun c_6 => ?_)
  refine lv_aload_n hx hb dX12_four_7 rfl (lv_at hl 1 rfl) ?_
  refine gf_X12_7 hx hb hts hown hK hP 0 rfl rfl dX12_four_8 ?_
  refine lv_aload_n hx hb dX12_four_11 rfl (lv_at hl 1 rfl) ?_
  refine gf_X12_77 hx hb hts hown hK hP 0 rfl rfl dX12_four_12 ?_
  refine lv_iload_n hx hb dX12_four_15 rfl (lv_at hl 2 rfl) ?_
  refine lv_iload_n hx hb dX12_four_16 rfl (lv_at hl 0 rfl) ?_
  refine lv_ishr hx hb dX12_four_17 ?_
  refine lv_topi (fun x_7 ex_7 => ?_)
  obtain ⟨x_8, ex_8⟩ : ∃ y : Int32, y = (x_7 : Int32).toInt8.toInt32 := ⟨_, rfl⟩
  refine lv_i2b (v := x_8) hx hb dX12_four_18 ex_8.symm ?_
  have hi_9 : vp_in (nI (n + 1)) 400 := by
    exact vp_in_nI (by omega) (by omega)
  refine st_byte hx hb hK hP hD hS 1 2 rfl rfl hi_9 dX12_four_19 (fun g_10 H locs eg_10 hP hD hS => ?_)
  have hP : va_P D classes [(h0, .inr (12, [.ref n0, .int (nI (n + 1)), .int i2, .ref n3, .ref n4, .ref n5, .ref n6, .ref n7, .int i8, .int i9, .int i10, .int i11, .int i12, .int i13, .int i14, .ref n15, .int i16, .ref n17, .int i18, .ref n19, .ref n20, .int i21, .int i22, .int i23, .ref n24, .int i25, .ref n26, .ref n27, .ref n28, .ref n29, .ref n30, .long jx, .ref n32, .ref n33, .ref n34, .ref n35])), (n0, .inl (tc 2, 400, .inl g_10))] H := hP
  have hD : va_D A [(h0, .inr (12, [.ref n0, .int (nI (n + 1)), .int i2, .ref n3, .ref n4, .ref n5, .ref n6, .ref n7, .int i8, .int i9, .int i10, .int i11, .int i12, .int i13, .int i14, .ref n15, .int i16, .ref n17, .int i18, .ref n19, .ref n20, .int i21, .int i22, .int i23, .ref n24, .int i25, .ref n26, .ref n27, .ref n28, .ref n29, .ref n30, .long jx, .ref n32, .ref n33, .ref n34, .ref n35])), (n0, .inl (tc 2, 400, .inl g_10))] := hD
  refine lv_aload_n hx hb dX12_four_20 rfl (lv_at hl 1 rfl) ?_
  refine lv_dup hx hb dX12_four_21 rfl ?_
  refine gf_X12_77 hx hb hts hown hK hP 0 rfl rfl dX12_four_22 ?_
  refine lv_iconst (v := 1) hx hb dX12_four_25 (by decide) ?_
  refine lv_iadd hx hb dX12_four_26 ?_
  refine lv_lit (v := (nI (n + 2))) (nI_addE (n + 1) (1) (n + 2) (by omega)) ?_
  refine pf_X12_77 hx hb hts hown hK hP hD hS 0 rfl (Nat.le_of_ble_eq_true rfl) rfl rfl dX12_four_27 (fun H locs hP hD hS => ?_)
  have hP : va_P D classes [(h0, .inr (12, [.ref n0, .int (nI (n + 2)), .int i2, .ref n3, .ref n4, .ref n5, .ref n6, .ref n7, .int i8, .int i9, .int i10, .int i11, .int i12, .int i13, .int i14, .ref n15, .int i16, .ref n17, .int i18, .ref n19, .ref n20, .int i21, .int i22, .int i23, .ref n24, .int i25, .ref n26, .ref n27, .ref n28, .ref n29, .ref n30, .long jx, .ref n32, .ref n33, .ref n34, .ref n35])), (n0, .inl (tc 2, 400, .inl g_10))] H := hP
  have hD : va_D A [(h0, .inr (12, [.ref n0, .int (nI (n + 2)), .int i2, .ref n3, .ref n4, .ref n5, .ref n6, .ref n7, .int i8, .int i9, .int i10, .int i11, .int i12, .int i13, .int i14, .ref n15, .int i16, .ref n17, .int i18, .ref n19, .ref n20, .int i21, .int i22, .int i23, .ref n24, .int i25, .ref n26, .ref n27, .ref n28, .ref n29, .ref n30, .long jx, .ref n32, .ref n33, .ref n34, .ref n35])), (n0, .inl (tc 2, 400, .inl g_10))] := hD
  refine lv_iinc (v := 8) (lv' := [(2, .int 8), (0, .ref h0), (1, .int x1)]) hx hb dX12_four_30 hl (k := 0) rfl (by decide) (by decide) rfl (fun ls hl => ?_)
  refine lv_goto (tgt := 3) hx hb dX12_four_33 (by decide) ?_
  refine lv_iload_n hx hb dX12_four_3 rfl (lv_at hl 0 rfl) ?_
  refine lv_if_lt (tgt := 36) hx hb dX12_four_4 (by decide) (fun c_11 => absurd c_11 (by decide)) (fun c_11 => ?_)
  refine lv_aload_n hx hb dX12_four_7 rfl (lv_at hl 1 rfl) ?_
  refine gf_X12_7 hx hb hts hown hK hP 0 rfl rfl dX12_four_8 ?_
  refine lv_aload_n hx hb dX12_four_11 rfl (lv_at hl 1 rfl) ?_
  refine gf_X12_77 hx hb hts hown hK hP 0 rfl rfl dX12_four_12 ?_
  refine lv_iload_n hx hb dX12_four_15 rfl (lv_at hl 2 rfl) ?_
  refine lv_iload_n hx hb dX12_four_16 rfl (lv_at hl 0 rfl) ?_
  refine lv_ishr hx hb dX12_four_17 ?_
  refine lv_topi (fun x_12 ex_12 => ?_)
  obtain ⟨x_13, ex_13⟩ : ∃ y : Int32, y = (x_12 : Int32).toInt8.toInt32 := ⟨_, rfl⟩
  refine lv_i2b (v := x_13) hx hb dX12_four_18 ex_13.symm ?_
  have hi_14 : vp_in (nI (n + 2)) 400 := by
    exact vp_in_nI (by omega) (by omega)
  refine st_byte hx hb hK hP hD hS 1 2 rfl rfl hi_14 dX12_four_19 (fun g_15 H locs eg_15 hP hD hS => ?_)
  have hP : va_P D classes [(h0, .inr (12, [.ref n0, .int (nI (n + 2)), .int i2, .ref n3, .ref n4, .ref n5, .ref n6, .ref n7, .int i8, .int i9, .int i10, .int i11, .int i12, .int i13, .int i14, .ref n15, .int i16, .ref n17, .int i18, .ref n19, .ref n20, .int i21, .int i22, .int i23, .ref n24, .int i25, .ref n26, .ref n27, .ref n28, .ref n29, .ref n30, .long jx, .ref n32, .ref n33, .ref n34, .ref n35])), (n0, .inl (tc 2, 400, .inl g_15))] H := hP
  have hD : va_D A [(h0, .inr (12, [.ref n0, .int (nI (n + 2)), .int i2, .ref n3, .ref n4, .ref n5, .ref n6, .ref n7, .int i8, .int i9, .int i10, .int i11, .int i12, .int i13, .int i14, .ref n15, .int i16, .ref n17, .int i18, .ref n19, .ref n20, .int i21, .int i22, .int i23, .ref n24, .int i25, .ref n26, .ref n27, .ref n28, .ref n29, .ref n30, .long jx, .ref n32, .ref n33, .ref n34, .ref n35])), (n0, .inl (tc 2, 400, .inl g_15))] := hD
  refine lv_aload_n hx hb dX12_four_20 rfl (lv_at hl 1 rfl) ?_
  refine lv_dup hx hb dX12_four_21 rfl ?_
  refine gf_X12_77 hx hb hts hown hK hP 0 rfl rfl dX12_four_22 ?_
  refine lv_iconst (v := 1) hx hb dX12_four_25 (by decide) ?_
  refine lv_iadd hx hb dX12_four_26 ?_
  refine lv_lit (v := (nI (n + 3))) (nI_addE (n + 2) (1) (n + 3) (by omega)) ?_
  refine pf_X12_77 hx hb hts hown hK hP hD hS 0 rfl (Nat.le_of_ble_eq_true rfl) rfl rfl dX12_four_27 (fun H locs hP hD hS => ?_)
  have hP : va_P D classes [(h0, .inr (12, [.ref n0, .int (nI (n + 3)), .int i2, .ref n3, .ref n4, .ref n5, .ref n6, .ref n7, .int i8, .int i9, .int i10, .int i11, .int i12, .int i13, .int i14, .ref n15, .int i16, .ref n17, .int i18, .ref n19, .ref n20, .int i21, .int i22, .int i23, .ref n24, .int i25, .ref n26, .ref n27, .ref n28, .ref n29, .ref n30, .long jx, .ref n32, .ref n33, .ref n34, .ref n35])), (n0, .inl (tc 2, 400, .inl g_15))] H := hP
  have hD : va_D A [(h0, .inr (12, [.ref n0, .int (nI (n + 3)), .int i2, .ref n3, .ref n4, .ref n5, .ref n6, .ref n7, .int i8, .int i9, .int i10, .int i11, .int i12, .int i13, .int i14, .ref n15, .int i16, .ref n17, .int i18, .ref n19, .ref n20, .int i21, .int i22, .int i23, .ref n24, .int i25, .ref n26, .ref n27, .ref n28, .ref n29, .ref n30, .long jx, .ref n32, .ref n33, .ref n34, .ref n35])), (n0, .inl (tc 2, 400, .inl g_15))] := hD
  refine lv_iinc (v := 0) (lv' := [(2, .int 0), (0, .ref h0), (1, .int x1)]) hx hb dX12_four_30 hl (k := 0) rfl (by decide) (by decide) rfl (fun ls hl => ?_)
  refine lv_goto (tgt := 3) hx hb dX12_four_33 (by decide) ?_
  refine lv_iload_n hx hb dX12_four_3 rfl (lv_at hl 0 rfl) ?_
  refine lv_if_lt (tgt := 36) hx hb dX12_four_4 (by decide) (fun c_16 => absurd c_16 (by decide)) (fun c_16 => ?_)
  refine lv_aload_n hx hb dX12_four_7 rfl (lv_at hl 1 rfl) ?_
  refine gf_X12_7 hx hb hts hown hK hP 0 rfl rfl dX12_four_8 ?_
  refine lv_aload_n hx hb dX12_four_11 rfl (lv_at hl 1 rfl) ?_
  refine gf_X12_77 hx hb hts hown hK hP 0 rfl rfl dX12_four_12 ?_
  refine lv_iload_n hx hb dX12_four_15 rfl (lv_at hl 2 rfl) ?_
  refine lv_iload_n hx hb dX12_four_16 rfl (lv_at hl 0 rfl) ?_
  refine lv_ishr hx hb dX12_four_17 ?_
  refine lv_topi (fun x_17 ex_17 => ?_)
  obtain ⟨x_18, ex_18⟩ : ∃ y : Int32, y = (x_17 : Int32).toInt8.toInt32 := ⟨_, rfl⟩
  refine lv_i2b (v := x_18) hx hb dX12_four_18 ex_18.symm ?_
  have hi_19 : vp_in (nI (n + 3)) 400 := by
    exact vp_in_nI (by omega) (by omega)
  refine st_byte hx hb hK hP hD hS 1 2 rfl rfl hi_19 dX12_four_19 (fun g_20 H locs eg_20 hP hD hS => ?_)
  have hP : va_P D classes [(h0, .inr (12, [.ref n0, .int (nI (n + 3)), .int i2, .ref n3, .ref n4, .ref n5, .ref n6, .ref n7, .int i8, .int i9, .int i10, .int i11, .int i12, .int i13, .int i14, .ref n15, .int i16, .ref n17, .int i18, .ref n19, .ref n20, .int i21, .int i22, .int i23, .ref n24, .int i25, .ref n26, .ref n27, .ref n28, .ref n29, .ref n30, .long jx, .ref n32, .ref n33, .ref n34, .ref n35])), (n0, .inl (tc 2, 400, .inl g_20))] H := hP
  have hD : va_D A [(h0, .inr (12, [.ref n0, .int (nI (n + 3)), .int i2, .ref n3, .ref n4, .ref n5, .ref n6, .ref n7, .int i8, .int i9, .int i10, .int i11, .int i12, .int i13, .int i14, .ref n15, .int i16, .ref n17, .int i18, .ref n19, .ref n20, .int i21, .int i22, .int i23, .ref n24, .int i25, .ref n26, .ref n27, .ref n28, .ref n29, .ref n30, .long jx, .ref n32, .ref n33, .ref n34, .ref n35])), (n0, .inl (tc 2, 400, .inl g_20))] := hD
  refine lv_aload_n hx hb dX12_four_20 rfl (lv_at hl 1 rfl) ?_
  refine lv_dup hx hb dX12_four_21 rfl ?_
  refine gf_X12_77 hx hb hts hown hK hP 0 rfl rfl dX12_four_22 ?_
  refine lv_iconst (v := 1) hx hb dX12_four_25 (by decide) ?_
  refine lv_iadd hx hb dX12_four_26 ?_
  refine lv_lit (v := (nI (n + 4))) (nI_addE (n + 3) (1) (n + 4) (by omega)) ?_
  refine pf_X12_77 hx hb hts hown hK hP hD hS 0 rfl (Nat.le_of_ble_eq_true rfl) rfl rfl dX12_four_27 (fun H locs hP hD hS => ?_)
  have hP : va_P D classes [(h0, .inr (12, [.ref n0, .int (nI (n + 4)), .int i2, .ref n3, .ref n4, .ref n5, .ref n6, .ref n7, .int i8, .int i9, .int i10, .int i11, .int i12, .int i13, .int i14, .ref n15, .int i16, .ref n17, .int i18, .ref n19, .ref n20, .int i21, .int i22, .int i23, .ref n24, .int i25, .ref n26, .ref n27, .ref n28, .ref n29, .ref n30, .long jx, .ref n32, .ref n33, .ref n34, .ref n35])), (n0, .inl (tc 2, 400, .inl g_20))] H := hP
  have hD : va_D A [(h0, .inr (12, [.ref n0, .int (nI (n + 4)), .int i2, .ref n3, .ref n4, .ref n5, .ref n6, .ref n7, .int i8, .int i9, .int i10, .int i11, .int i12, .int i13, .int i14, .ref n15, .int i16, .ref n17, .int i18, .ref n19, .ref n20, .int i21, .int i22, .int i23, .ref n24, .int i25, .ref n26, .ref n27, .ref n28, .ref n29, .ref n30, .long jx, .ref n32, .ref n33, .ref n34, .ref n35])), (n0, .inl (tc 2, 400, .inl g_20))] := hD
  refine lv_iinc (v := (-8)) (lv' := [(2, .int (-8)), (0, .ref h0), (1, .int x1)]) hx hb dX12_four_30 hl (k := 0) rfl (by decide) (by decide) rfl (fun ls hl => ?_)
  refine lv_goto (tgt := 3) hx hb dX12_four_33 (by decide) ?_
  refine lv_iload_n hx hb dX12_four_3 rfl (lv_at hl 0 rfl) ?_
  refine lv_if_lt (tgt := 36) hx hb dX12_four_4 (by decide) (fun c_21 => ?_) (fun c_21 => absurd c_21 (by decide))
  exact retV hx hb hr hlk hP hD hS g_20 rfl [0, 1] rfl rfl dX12_four_36 (Nat.le_of_ble_eq_true rfl) (Nat.le_of_ble_eq_true rfl) rfl
set_option maxHeartbeats 4000000 in
set_option maxRecDepth 100000 in
theorem ct_X12_feed (l : Launch) (D : va_G) (tc : Nat → ClassId) (sk : (Nat → Nat) × (Nat → Nat)) (h0 : Nat) (n0 : Nat) (n3 : Nat) (n4 : Nat) (n5 : Nat) (n6 : Nat) (n7 : Nat) (n15 : Nat) (n17 : Nat) (n19 : Nat) (n20 : Nat) (n24 : Nat) (n26 : Nat) (n27 : Nat) (n28 : Nat) (n29 : Nat) (n30 : Nat) (n32 : Nat) (n33 : Nat) (n34 : Nat) (n35 : Nat) (x1 : Int32) (x2 : Int32) (x3 : Int32) (x4 : Int32) (x5 : Int32)  : Ct l yX12_feed cX12_feed 6 (some .int) { frames := 1, cells := 0, slots := 0, locals := 22 } D tc sk [.ref h0, .int x1, .int x2, .int x3, .int x4, .int x5] [(h0, .inr (12, [.ref n0, .int 0, .int 0, .ref n3, .ref n4, .ref n5, .ref n6, .ref n7, .int 0, .int 0, .int 0, .int 0, .int 0, .int 0, .int 0, .ref n15, .int 0, .ref n17, .int 0, .ref n19, .ref n20, .int (-1), .int 0, .int 0, .ref n24, .int 0, .ref n26, .ref n27, .ref n28, .ref n29, .ref n30, .long 0, .ref n32, .ref n33, .ref n34, .ref n35])), (n0, .inl (tc 2, 400, .inl (fun _ => 0)))] (fun (v : Option Value) (_ : Unit) => v = some (.int 20)) (fun (_ : Unit) => []) 0 0 := by
  refine Ct.start (by decide) (Nat.le_of_ble_eq_true rfl) (fun p e s m below meth c A ls hx hb hr hlk hin hml hown hts hK hX hP hD hA hl hS => ?_)
  have hl : lv_has ls 6 [(0, .ref h0), (1, .int x1), (2, .int x2), (3, .int x3), (4, .int x4), (5, .int x5)] := hl
  refine lv_aload_n hx hb dX12_feed_0 rfl (lv_at hl 0 rfl) ?_
  refine gf_X12_77 hx hb hts hown hK hP 0 rfl rfl dX12_feed_1 ?_
  refine lv_bipush (v := 20) hx hb dX12_feed_4 (by decide) ?_
  refine lv_iadd hx hb dX12_feed_6 ?_
  refine lv_lit (v := 20) (by decide) ?_
  refine lv_sipush (v := 400) hx hb dX12_feed_7 (by decide) ?_
  refine lv_icmp_le (tgt := 15) hx hb dX12_feed_10 (by decide) (fun c_1 => ?_) (fun c_1 => absurd c_1 (by decide))
  refine lv_aload_n hx hb dX12_feed_15 rfl (lv_at hl 0 rfl) ?_
  refine lv_iload_n hx hb dX12_feed_16 rfl (lv_at hl 1 rfl) ?_
  refine cV (a := h0) (As := [.int x1]) (rest := []) (wr := []) ⟨hx, hb, hml, hown, hts⟩ hK hX hA (ct_X12_four l D tc sk h0 n0 n3 n4 n5 n6 n7 n15 n17 n19 n20 n24 n26 n27 n28 n29 n30 n32 n33 n34 n35 0 0 0 0 0 0 0 0 0 0 (-1) 0 0 0 0 0 x1 (fun _ => 0) (by decide)) k_1191 k_1188 k_1190 k_24 k_106 pl_X12_four ⟨Nat.le_of_ble_eq_true rfl, Nat.le_of_ble_eq_true rfl⟩ rfl rfl (va_recv hK hP (ci := 12) (q0 := 0) rfl rfl) hP hD hS [0, 1] [] rfl rfl rfl rfl rfl (by decide) rfl hl.1 rfl (Nat.le_of_ble_eq_true rfl) dX12_feed_17 ⟨Nat.le_of_ble_eq_true rfl, Nat.le_of_ble_eq_true rfl⟩ (fun v_2 u_3 H locs hv_4 hP hD hS => ?_)
  obtain ⟨gz_5, rfl⟩ : ∃ z, z = u_3 := ⟨_, rfl⟩
  obtain rfl : v_2 = none := hv_4
  refine W.eq (g2 := F0 m 20 ls []) rfl ?_
  have hP : va_P D classes [(h0, .inr (12, [.ref n0, .int 4, .int 0, .ref n3, .ref n4, .ref n5, .ref n6, .ref n7, .int 0, .int 0, .int 0, .int 0, .int 0, .int 0, .int 0, .ref n15, .int 0, .ref n17, .int 0, .ref n19, .ref n20, .int (-1), .int 0, .int 0, .ref n24, .int 0, .ref n26, .ref n27, .ref n28, .ref n29, .ref n30, .long 0, .ref n32, .ref n33, .ref n34, .ref n35])), (n0, .inl (tc 2, 400, .inl gz_5))] H := hP
  have hD : va_D A [(h0, .inr (12, [.ref n0, .int 4, .int 0, .ref n3, .ref n4, .ref n5, .ref n6, .ref n7, .int 0, .int 0, .int 0, .int 0, .int 0, .int 0, .int 0, .ref n15, .int 0, .ref n17, .int 0, .ref n19, .ref n20, .int (-1), .int 0, .int 0, .ref n24, .int 0, .ref n26, .ref n27, .ref n28, .ref n29, .ref n30, .long 0, .ref n32, .ref n33, .ref n34, .ref n35])), (n0, .inl (tc 2, 400, .inl gz_5))] := hD
  refine lv_aload_n hx hb dX12_feed_20 rfl (lv_at hl 0 rfl) ?_
  refine lv_iload_n hx hb dX12_feed_21 rfl (lv_at hl 2 rfl) ?_
  refine cV (a := h0) (As := [.int x2]) (rest := []) (wr := []) ⟨hx, hb, hml, hown, hts⟩ hK hX hA (ct_X12_four l D tc sk h0 n0 n3 n4 n5 n6 n7 n15 n17 n19 n20 n24 n26 n27 n28 n29 n30 n32 n33 n34 n35 0 0 0 0 0 0 0 0 0 0 (-1) 0 0 0 0 4 x2 gz_5 (by decide)) k_1191 k_1188 k_1190 k_24 k_106 pl_X12_four ⟨Nat.le_of_ble_eq_true rfl, Nat.le_of_ble_eq_true rfl⟩ rfl rfl (va_recv hK hP (ci := 12) (q0 := 0) rfl rfl) hP hD hS [0, 1] [] rfl rfl rfl rfl rfl (by decide) rfl hl.1 rfl (Nat.le_of_ble_eq_true rfl) dX12_feed_22 ⟨Nat.le_of_ble_eq_true rfl, Nat.le_of_ble_eq_true rfl⟩ (fun v_6 u_7 H locs hv_8 hP hD hS => ?_)
  obtain ⟨gz_9, rfl⟩ : ∃ z, z = u_7 := ⟨_, rfl⟩
  obtain rfl : v_6 = none := hv_8
  refine W.eq (g2 := F0 m 25 ls []) rfl ?_
  have hP : va_P D classes [(h0, .inr (12, [.ref n0, .int 8, .int 0, .ref n3, .ref n4, .ref n5, .ref n6, .ref n7, .int 0, .int 0, .int 0, .int 0, .int 0, .int 0, .int 0, .ref n15, .int 0, .ref n17, .int 0, .ref n19, .ref n20, .int (-1), .int 0, .int 0, .ref n24, .int 0, .ref n26, .ref n27, .ref n28, .ref n29, .ref n30, .long 0, .ref n32, .ref n33, .ref n34, .ref n35])), (n0, .inl (tc 2, 400, .inl gz_9))] H := hP
  have hD : va_D A [(h0, .inr (12, [.ref n0, .int 8, .int 0, .ref n3, .ref n4, .ref n5, .ref n6, .ref n7, .int 0, .int 0, .int 0, .int 0, .int 0, .int 0, .int 0, .ref n15, .int 0, .ref n17, .int 0, .ref n19, .ref n20, .int (-1), .int 0, .int 0, .ref n24, .int 0, .ref n26, .ref n27, .ref n28, .ref n29, .ref n30, .long 0, .ref n32, .ref n33, .ref n34, .ref n35])), (n0, .inl (tc 2, 400, .inl gz_9))] := hD
  refine lv_aload_n hx hb dX12_feed_25 rfl (lv_at hl 0 rfl) ?_
  refine lv_iload_n hx hb dX12_feed_26 rfl (lv_at hl 3 rfl) ?_
  refine cV (a := h0) (As := [.int x3]) (rest := []) (wr := []) ⟨hx, hb, hml, hown, hts⟩ hK hX hA (ct_X12_four l D tc sk h0 n0 n3 n4 n5 n6 n7 n15 n17 n19 n20 n24 n26 n27 n28 n29 n30 n32 n33 n34 n35 0 0 0 0 0 0 0 0 0 0 (-1) 0 0 0 0 8 x3 gz_9 (by decide)) k_1191 k_1188 k_1190 k_24 k_106 pl_X12_four ⟨Nat.le_of_ble_eq_true rfl, Nat.le_of_ble_eq_true rfl⟩ rfl rfl (va_recv hK hP (ci := 12) (q0 := 0) rfl rfl) hP hD hS [0, 1] [] rfl rfl rfl rfl rfl (by decide) rfl hl.1 rfl (Nat.le_of_ble_eq_true rfl) dX12_feed_27 ⟨Nat.le_of_ble_eq_true rfl, Nat.le_of_ble_eq_true rfl⟩ (fun v_10 u_11 H locs hv_12 hP hD hS => ?_)
  obtain ⟨gz_13, rfl⟩ : ∃ z, z = u_11 := ⟨_, rfl⟩
  obtain rfl : v_10 = none := hv_12
  refine W.eq (g2 := F0 m 30 ls []) rfl ?_
  have hP : va_P D classes [(h0, .inr (12, [.ref n0, .int 12, .int 0, .ref n3, .ref n4, .ref n5, .ref n6, .ref n7, .int 0, .int 0, .int 0, .int 0, .int 0, .int 0, .int 0, .ref n15, .int 0, .ref n17, .int 0, .ref n19, .ref n20, .int (-1), .int 0, .int 0, .ref n24, .int 0, .ref n26, .ref n27, .ref n28, .ref n29, .ref n30, .long 0, .ref n32, .ref n33, .ref n34, .ref n35])), (n0, .inl (tc 2, 400, .inl gz_13))] H := hP
  have hD : va_D A [(h0, .inr (12, [.ref n0, .int 12, .int 0, .ref n3, .ref n4, .ref n5, .ref n6, .ref n7, .int 0, .int 0, .int 0, .int 0, .int 0, .int 0, .int 0, .ref n15, .int 0, .ref n17, .int 0, .ref n19, .ref n20, .int (-1), .int 0, .int 0, .ref n24, .int 0, .ref n26, .ref n27, .ref n28, .ref n29, .ref n30, .long 0, .ref n32, .ref n33, .ref n34, .ref n35])), (n0, .inl (tc 2, 400, .inl gz_13))] := hD
  refine lv_aload_n hx hb dX12_feed_30 rfl (lv_at hl 0 rfl) ?_
  refine lv_iload hx hb dX12_feed_31 (lv_at hl 4 rfl) ?_
  refine cV (a := h0) (As := [.int x4]) (rest := []) (wr := []) ⟨hx, hb, hml, hown, hts⟩ hK hX hA (ct_X12_four l D tc sk h0 n0 n3 n4 n5 n6 n7 n15 n17 n19 n20 n24 n26 n27 n28 n29 n30 n32 n33 n34 n35 0 0 0 0 0 0 0 0 0 0 (-1) 0 0 0 0 12 x4 gz_13 (by decide)) k_1191 k_1188 k_1190 k_24 k_106 pl_X12_four ⟨Nat.le_of_ble_eq_true rfl, Nat.le_of_ble_eq_true rfl⟩ rfl rfl (va_recv hK hP (ci := 12) (q0 := 0) rfl rfl) hP hD hS [0, 1] [] rfl rfl rfl rfl rfl (by decide) rfl hl.1 rfl (Nat.le_of_ble_eq_true rfl) dX12_feed_33 ⟨Nat.le_of_ble_eq_true rfl, Nat.le_of_ble_eq_true rfl⟩ (fun v_14 u_15 H locs hv_16 hP hD hS => ?_)
  obtain ⟨gz_17, rfl⟩ : ∃ z, z = u_15 := ⟨_, rfl⟩
  obtain rfl : v_14 = none := hv_16
  refine W.eq (g2 := F0 m 36 ls []) rfl ?_
  have hP : va_P D classes [(h0, .inr (12, [.ref n0, .int 16, .int 0, .ref n3, .ref n4, .ref n5, .ref n6, .ref n7, .int 0, .int 0, .int 0, .int 0, .int 0, .int 0, .int 0, .ref n15, .int 0, .ref n17, .int 0, .ref n19, .ref n20, .int (-1), .int 0, .int 0, .ref n24, .int 0, .ref n26, .ref n27, .ref n28, .ref n29, .ref n30, .long 0, .ref n32, .ref n33, .ref n34, .ref n35])), (n0, .inl (tc 2, 400, .inl gz_17))] H := hP
  have hD : va_D A [(h0, .inr (12, [.ref n0, .int 16, .int 0, .ref n3, .ref n4, .ref n5, .ref n6, .ref n7, .int 0, .int 0, .int 0, .int 0, .int 0, .int 0, .int 0, .ref n15, .int 0, .ref n17, .int 0, .ref n19, .ref n20, .int (-1), .int 0, .int 0, .ref n24, .int 0, .ref n26, .ref n27, .ref n28, .ref n29, .ref n30, .long 0, .ref n32, .ref n33, .ref n34, .ref n35])), (n0, .inl (tc 2, 400, .inl gz_17))] := hD
  refine lv_aload_n hx hb dX12_feed_36 rfl (lv_at hl 0 rfl) ?_
  refine lv_iload hx hb dX12_feed_37 (lv_at hl 5 rfl) ?_
  refine cV (a := h0) (As := [.int x5]) (rest := []) (wr := []) ⟨hx, hb, hml, hown, hts⟩ hK hX hA (ct_X12_four l D tc sk h0 n0 n3 n4 n5 n6 n7 n15 n17 n19 n20 n24 n26 n27 n28 n29 n30 n32 n33 n34 n35 0 0 0 0 0 0 0 0 0 0 (-1) 0 0 0 0 16 x5 gz_17 (by decide)) k_1191 k_1188 k_1190 k_24 k_106 pl_X12_four ⟨Nat.le_of_ble_eq_true rfl, Nat.le_of_ble_eq_true rfl⟩ rfl rfl (va_recv hK hP (ci := 12) (q0 := 0) rfl rfl) hP hD hS [0, 1] [] rfl rfl rfl rfl rfl (by decide) rfl hl.1 rfl (Nat.le_of_ble_eq_true rfl) dX12_feed_39 ⟨Nat.le_of_ble_eq_true rfl, Nat.le_of_ble_eq_true rfl⟩ (fun v_18 u_19 H locs hv_20 hP hD hS => ?_)
  obtain ⟨gz_21, rfl⟩ : ∃ z, z = u_19 := ⟨_, rfl⟩
  obtain rfl : v_18 = none := hv_20
  refine W.eq (g2 := F0 m 42 ls []) rfl ?_
  have hP : va_P D classes [(h0, .inr (12, [.ref n0, .int 20, .int 0, .ref n3, .ref n4, .ref n5, .ref n6, .ref n7, .int 0, .int 0, .int 0, .int 0, .int 0, .int 0, .int 0, .ref n15, .int 0, .ref n17, .int 0, .ref n19, .ref n20, .int (-1), .int 0, .int 0, .ref n24, .int 0, .ref n26, .ref n27, .ref n28, .ref n29, .ref n30, .long 0, .ref n32, .ref n33, .ref n34, .ref n35])), (n0, .inl (tc 2, 400, .inl gz_21))] H := hP
  have hD : va_D A [(h0, .inr (12, [.ref n0, .int 20, .int 0, .ref n3, .ref n4, .ref n5, .ref n6, .ref n7, .int 0, .int 0, .int 0, .int 0, .int 0, .int 0, .int 0, .ref n15, .int 0, .ref n17, .int 0, .ref n19, .ref n20, .int (-1), .int 0, .int 0, .ref n24, .int 0, .ref n26, .ref n27, .ref n28, .ref n29, .ref n30, .long 0, .ref n32, .ref n33, .ref n34, .ref n35])), (n0, .inl (tc 2, 400, .inl gz_21))] := hD
  refine lv_aload_n hx hb dX12_feed_42 rfl (lv_at hl 0 rfl) ?_
  refine gf_X12_77 hx hb hts hown hK hP 0 rfl rfl dX12_feed_43 ?_
  exact retI (v := 20) hx hb hr hlk (rfl) hP hD hS () rfl [] rfl rfl dX12_feed_46 (Nat.le_of_ble_eq_true rfl) (Nat.le_of_ble_eq_true rfl) rfl
set_option maxHeartbeats 4000000 in
set_option maxRecDepth 100000 in
theorem ct_X12_init (l : Launch) (D : va_G) (tc : Nat → ClassId) (sk : (Nat → Nat) × (Nat → Nat)) (h0 : Nat)  : Ct l yX12_init cX12_init 1 none { frames := 1, cells := 20, slots := 6192, locals := 12 } D tc sk [.ref h0] [(h0, .inr (12, [.null, .int 0, .int 0, .null, .null, .null, .null, .null, .int 0, .int 0, .int 0, .int 0, .int 0, .int 0, .int 0, .null, .int 0, .null, .int 0, .null, .null, .int 0, .int 0, .int 0, .null, .int 0, .null, .null, .null, .null, .null, .long 0, .null, .null, .null, .null]))] (fun (v : Option Value) (u : (Nat) × (Nat) × (Nat) × (Nat) × (Nat) × (Nat) × (Nat) × (Nat) × (Nat) × (Nat) × (Nat) × (Nat) × (Nat) × (Nat) × (Nat) × (Nat) × (Nat) × (Nat) × (Nat) × (Nat)) => match u with | (n0, n3, n4, n5, n6, n7, n15, n17, n19, n20, n24, n26, n27, n28, n29, n30, n32, n33, n34, n35) => v = none) (fun (u : (Nat) × (Nat) × (Nat) × (Nat) × (Nat) × (Nat) × (Nat) × (Nat) × (Nat) × (Nat) × (Nat) × (Nat) × (Nat) × (Nat) × (Nat) × (Nat) × (Nat) × (Nat) × (Nat) × (Nat)) => match u with | (n0, n3, n4, n5, n6, n7, n15, n17, n19, n20, n24, n26, n27, n28, n29, n30, n32, n33, n34, n35) => [(h0, .inr (12, [.ref n0, .int 0, .int 0, .ref n3, .ref n4, .ref n5, .ref n6, .ref n7, .int 0, .int 0, .int 0, .int 0, .int 0, .int 0, .int 0, .ref n15, .int 0, .ref n17, .int 0, .ref n19, .ref n20, .int (-1), .int 0, .int 0, .ref n24, .int 0, .ref n26, .ref n27, .ref n28, .ref n29, .ref n30, .long 0, .ref n32, .ref n33, .ref n34, .ref n35])), (n0, .inl (tc 2, 400, .inl (fun _ => 0))), (n4, .inl (tc 0, 7, .inl (fun _ => 0))), (n6, .inl (tc 0, 6, .inl (fun _ => 0))), (n7, .inl (tc 0, 95, .inl (fun _ => 0))), (n20, .inl (tc 0, 126, .inl (fun _ => 0))), (n32, .inl (tc 0, 504, .inl (fun _ => 0))), (n33, .inl (tc 0, 4, .inl (fun _ => 0))), (n34, .inl (tc 0, 4, .inl (fun _ => 0))), (n35, .inl (tc 3, 4, .inl (fun _ => 0)))]) 20 6192 := by
  refine Ct.start (by decide) (Nat.le_of_ble_eq_true rfl) (fun p e s m below meth c A ls hx hb hr hlk hin hml hown hts hK hX hP hD hA hl hS => ?_)
  have hl : lv_has ls 1 [(0, .ref h0)] := hl
  refine lv_aload_n hx hb dX12_init_0 rfl (lv_at hl 0 rfl) ?_
  refine W.objInit hx hb hown (hts _ k_1074) (hts _ k_122) (hts _ k_123) rfl (by rw [hml]; exact hl.1) rfl dX12_init_1 (Nat.le_of_ble_eq_true rfl) (Nat.le_of_ble_eq_true rfl) ?_
  refine W.eq (g2 := F0 m 4 ls []) rfl ?_
  refine lv_aload_n hx hb dX12_init_4 rfl (lv_at hl 0 rfl) ?_
  refine lv_sipush (v := 400) hx hb dX12_init_5 (by decide) ?_
  refine nwA (atype := .byte) (a0 := (400, .inl (fun _ => 0))) hx hb (hts _ k_603) rfl hK hP hD hS hA 2 rfl (fun _ => rfl) (by decide) (by decide) (by decide) (Nat.le_of_ble_eq_true rfl) (Nat.le_of_ble_eq_true rfl) dX12_init_8 (fun q_1 H hP hD hS => ?_)
  have hP : va_P D classes [(h0, .inr (12, [.null, .int 0, .int 0, .null, .null, .null, .null, .null, .int 0, .int 0, .int 0, .int 0, .int 0, .int 0, .int 0, .null, .int 0, .null, .int 0, .null, .null, .int 0, .int 0, .int 0, .null, .int 0, .null, .null, .null, .null, .null, .long 0, .null, .null, .null, .null])), (q_1, .inl (tc 2, 400, .inl (fun _ => 0)))] H := hP
  have hD : va_D A [(h0, .inr (12, [.null, .int 0, .int 0, .null, .null, .null, .null, .null, .int 0, .int 0, .int 0, .int 0, .int 0, .int 0, .int 0, .null, .int 0, .null, .int 0, .null, .null, .int 0, .int 0, .int 0, .null, .int 0, .null, .null, .null, .null, .null, .long 0, .null, .null, .null, .null])), (q_1, .inl (tc 2, 400, .inl (fun _ => 0)))] := hD
  refine pf_X12_7 (ty := (.array .byte)) hx hb hts hown hin hK hP hD hS 0 rfl (Nat.le_of_ble_eq_true rfl) (by decide +kernel) rfl rfl dX12_init_10 (fun H locs hP hD hS => ?_)
  have hP : va_P D classes [(h0, .inr (12, [.ref q_1, .int 0, .int 0, .null, .null, .null, .null, .null, .int 0, .int 0, .int 0, .int 0, .int 0, .int 0, .int 0, .null, .int 0, .null, .int 0, .null, .null, .int 0, .int 0, .int 0, .null, .int 0, .null, .null, .null, .null, .null, .long 0, .null, .null, .null, .null])), (q_1, .inl (tc 2, 400, .inl (fun _ => 0)))] H := hP
  have hD : va_D A [(h0, .inr (12, [.ref q_1, .int 0, .int 0, .null, .null, .null, .null, .null, .int 0, .int 0, .int 0, .int 0, .int 0, .int 0, .int 0, .null, .int 0, .null, .int 0, .null, .null, .int 0, .int 0, .int 0, .null, .int 0, .null, .null, .null, .null, .null, .long 0, .null, .null, .null, .null])), (q_1, .inl (tc 2, 400, .inl (fun _ => 0)))] := hD
  refine lv_aload_n hx hb dX12_init_13 rfl (lv_at hl 0 rfl) ?_
  refine lv_sipush (v := 2400) hx hb dX12_init_14 (by decide) ?_
  refine nwA (atype := .int) (a0 := (2400, .inl (fun _ => 0))) hx hb (hts _ k_156) rfl hK hP hD hS hA 0 rfl (fun _ => rfl) (by decide) (by decide) (by decide) (Nat.le_of_ble_eq_true rfl) (Nat.le_of_ble_eq_true rfl) dX12_init_17 (fun q_2 H hP hD hS => ?_)
  have hP : va_P D classes [(h0, .inr (12, [.ref q_1, .int 0, .int 0, .null, .null, .null, .null, .null, .int 0, .int 0, .int 0, .int 0, .int 0, .int 0, .int 0, .null, .int 0, .null, .int 0, .null, .null, .int 0, .int 0, .int 0, .null, .int 0, .null, .null, .null, .null, .null, .long 0, .null, .null, .null, .null])), (q_1, .inl (tc 2, 400, .inl (fun _ => 0))), (q_2, .inl (tc 0, 2400, .inl (fun _ => 0)))] H := hP
  have hD : va_D A [(h0, .inr (12, [.ref q_1, .int 0, .int 0, .null, .null, .null, .null, .null, .int 0, .int 0, .int 0, .int 0, .int 0, .int 0, .int 0, .null, .int 0, .null, .int 0, .null, .null, .int 0, .int 0, .int 0, .null, .int 0, .null, .null, .null, .null, .null, .long 0, .null, .null, .null, .null])), (q_1, .inl (tc 2, 400, .inl (fun _ => 0))), (q_2, .inl (tc 0, 2400, .inl (fun _ => 0)))] := hD
  refine pf_X12_13 (ty := (.array .int)) hx hb hts hown hin hK hP hD hS 0 rfl (Nat.le_of_ble_eq_true rfl) (by decide +kernel) rfl rfl dX12_init_19 (fun H locs hP hD hS => ?_)
  have hP : va_P D classes [(h0, .inr (12, [.ref q_1, .int 0, .int 0, .ref q_2, .null, .null, .null, .null, .int 0, .int 0, .int 0, .int 0, .int 0, .int 0, .int 0, .null, .int 0, .null, .int 0, .null, .null, .int 0, .int 0, .int 0, .null, .int 0, .null, .null, .null, .null, .null, .long 0, .null, .null, .null, .null])), (q_1, .inl (tc 2, 400, .inl (fun _ => 0))), (q_2, .inl (tc 0, 2400, .inl (fun _ => 0)))] H := hP
  have hD : va_D A [(h0, .inr (12, [.ref q_1, .int 0, .int 0, .ref q_2, .null, .null, .null, .null, .int 0, .int 0, .int 0, .int 0, .int 0, .int 0, .int 0, .null, .int 0, .null, .int 0, .null, .null, .int 0, .int 0, .int 0, .null, .int 0, .null, .null, .null, .null, .null, .long 0, .null, .null, .null, .null])), (q_1, .inl (tc 2, 400, .inl (fun _ => 0))), (q_2, .inl (tc 0, 2400, .inl (fun _ => 0)))] := hD
  refine lv_aload_n hx hb dX12_init_22 rfl (lv_at hl 0 rfl) ?_
  refine lv_bipush (v := 7) hx hb dX12_init_23 (by decide) ?_
  refine nwA (atype := .int) (a0 := (7, .inl (fun _ => 0))) hx hb (hts _ k_156) rfl hK hP hD hS hA 0 rfl (fun _ => rfl) (by decide) (by decide) (by decide) (Nat.le_of_ble_eq_true rfl) (Nat.le_of_ble_eq_true rfl) dX12_init_25 (fun q_3 H hP hD hS => ?_)
  have hP : va_P D classes [(h0, .inr (12, [.ref q_1, .int 0, .int 0, .ref q_2, .null, .null, .null, .null, .int 0, .int 0, .int 0, .int 0, .int 0, .int 0, .int 0, .null, .int 0, .null, .int 0, .null, .null, .int 0, .int 0, .int 0, .null, .int 0, .null, .null, .null, .null, .null, .long 0, .null, .null, .null, .null])), (q_1, .inl (tc 2, 400, .inl (fun _ => 0))), (q_2, .inl (tc 0, 2400, .inl (fun _ => 0))), (q_3, .inl (tc 0, 7, .inl (fun _ => 0)))] H := hP
  have hD : va_D A [(h0, .inr (12, [.ref q_1, .int 0, .int 0, .ref q_2, .null, .null, .null, .null, .int 0, .int 0, .int 0, .int 0, .int 0, .int 0, .int 0, .null, .int 0, .null, .int 0, .null, .null, .int 0, .int 0, .int 0, .null, .int 0, .null, .null, .null, .null, .null, .long 0, .null, .null, .null, .null])), (q_1, .inl (tc 2, 400, .inl (fun _ => 0))), (q_2, .inl (tc 0, 2400, .inl (fun _ => 0))), (q_3, .inl (tc 0, 7, .inl (fun _ => 0)))] := hD
  refine pf_X12_17 (ty := (.array .int)) hx hb hts hown hin hK hP hD hS 0 rfl (Nat.le_of_ble_eq_true rfl) (by decide +kernel) rfl rfl dX12_init_27 (fun H locs hP hD hS => ?_)
  have hP : va_P D classes [(h0, .inr (12, [.ref q_1, .int 0, .int 0, .ref q_2, .ref q_3, .null, .null, .null, .int 0, .int 0, .int 0, .int 0, .int 0, .int 0, .int 0, .null, .int 0, .null, .int 0, .null, .null, .int 0, .int 0, .int 0, .null, .int 0, .null, .null, .null, .null, .null, .long 0, .null, .null, .null, .null])), (q_1, .inl (tc 2, 400, .inl (fun _ => 0))), (q_2, .inl (tc 0, 2400, .inl (fun _ => 0))), (q_3, .inl (tc 0, 7, .inl (fun _ => 0)))] H := hP
  have hD : va_D A [(h0, .inr (12, [.ref q_1, .int 0, .int 0, .ref q_2, .ref q_3, .null, .null, .null, .int 0, .int 0, .int 0, .int 0, .int 0, .int 0, .int 0, .null, .int 0, .null, .int 0, .null, .null, .int 0, .int 0, .int 0, .null, .int 0, .null, .null, .null, .null, .null, .long 0, .null, .null, .null, .null])), (q_1, .inl (tc 2, 400, .inl (fun _ => 0))), (q_2, .inl (tc 0, 2400, .inl (fun _ => 0))), (q_3, .inl (tc 0, 7, .inl (fun _ => 0)))] := hD
  refine lv_aload_n hx hb dX12_init_30 rfl (lv_at hl 0 rfl) ?_
  refine lv_sipush (v := 288) hx hb dX12_init_31 (by decide) ?_
  refine nwA (atype := .int) (a0 := (288, .inl (fun _ => 0))) hx hb (hts _ k_156) rfl hK hP hD hS hA 0 rfl (fun _ => rfl) (by decide) (by decide) (by decide) (Nat.le_of_ble_eq_true rfl) (Nat.le_of_ble_eq_true rfl) dX12_init_34 (fun q_4 H hP hD hS => ?_)
  have hP : va_P D classes [(h0, .inr (12, [.ref q_1, .int 0, .int 0, .ref q_2, .ref q_3, .null, .null, .null, .int 0, .int 0, .int 0, .int 0, .int 0, .int 0, .int 0, .null, .int 0, .null, .int 0, .null, .null, .int 0, .int 0, .int 0, .null, .int 0, .null, .null, .null, .null, .null, .long 0, .null, .null, .null, .null])), (q_1, .inl (tc 2, 400, .inl (fun _ => 0))), (q_2, .inl (tc 0, 2400, .inl (fun _ => 0))), (q_3, .inl (tc 0, 7, .inl (fun _ => 0))), (q_4, .inl (tc 0, 288, .inl (fun _ => 0)))] H := hP
  have hD : va_D A [(h0, .inr (12, [.ref q_1, .int 0, .int 0, .ref q_2, .ref q_3, .null, .null, .null, .int 0, .int 0, .int 0, .int 0, .int 0, .int 0, .int 0, .null, .int 0, .null, .int 0, .null, .null, .int 0, .int 0, .int 0, .null, .int 0, .null, .null, .null, .null, .null, .long 0, .null, .null, .null, .null])), (q_1, .inl (tc 2, 400, .inl (fun _ => 0))), (q_2, .inl (tc 0, 2400, .inl (fun _ => 0))), (q_3, .inl (tc 0, 7, .inl (fun _ => 0))), (q_4, .inl (tc 0, 288, .inl (fun _ => 0)))] := hD
  refine pf_X12_20 (ty := (.array .int)) hx hb hts hown hin hK hP hD hS 0 rfl (Nat.le_of_ble_eq_true rfl) (by decide +kernel) rfl rfl dX12_init_36 (fun H locs hP hD hS => ?_)
  have hP : va_P D classes [(h0, .inr (12, [.ref q_1, .int 0, .int 0, .ref q_2, .ref q_3, .ref q_4, .null, .null, .int 0, .int 0, .int 0, .int 0, .int 0, .int 0, .int 0, .null, .int 0, .null, .int 0, .null, .null, .int 0, .int 0, .int 0, .null, .int 0, .null, .null, .null, .null, .null, .long 0, .null, .null, .null, .null])), (q_1, .inl (tc 2, 400, .inl (fun _ => 0))), (q_2, .inl (tc 0, 2400, .inl (fun _ => 0))), (q_3, .inl (tc 0, 7, .inl (fun _ => 0))), (q_4, .inl (tc 0, 288, .inl (fun _ => 0)))] H := hP
  have hD : va_D A [(h0, .inr (12, [.ref q_1, .int 0, .int 0, .ref q_2, .ref q_3, .ref q_4, .null, .null, .int 0, .int 0, .int 0, .int 0, .int 0, .int 0, .int 0, .null, .int 0, .null, .int 0, .null, .null, .int 0, .int 0, .int 0, .null, .int 0, .null, .null, .null, .null, .null, .long 0, .null, .null, .null, .null])), (q_1, .inl (tc 2, 400, .inl (fun _ => 0))), (q_2, .inl (tc 0, 2400, .inl (fun _ => 0))), (q_3, .inl (tc 0, 7, .inl (fun _ => 0))), (q_4, .inl (tc 0, 288, .inl (fun _ => 0)))] := hD
  refine lv_aload_n hx hb dX12_init_39 rfl (lv_at hl 0 rfl) ?_
  refine lv_bipush (v := 6) hx hb dX12_init_40 (by decide) ?_
  refine nwA (atype := .int) (a0 := (6, .inl (fun _ => 0))) hx hb (hts _ k_156) rfl hK hP hD hS hA 0 rfl (fun _ => rfl) (by decide) (by decide) (by decide) (Nat.le_of_ble_eq_true rfl) (Nat.le_of_ble_eq_true rfl) dX12_init_42 (fun q_5 H hP hD hS => ?_)
  have hP : va_P D classes [(h0, .inr (12, [.ref q_1, .int 0, .int 0, .ref q_2, .ref q_3, .ref q_4, .null, .null, .int 0, .int 0, .int 0, .int 0, .int 0, .int 0, .int 0, .null, .int 0, .null, .int 0, .null, .null, .int 0, .int 0, .int 0, .null, .int 0, .null, .null, .null, .null, .null, .long 0, .null, .null, .null, .null])), (q_1, .inl (tc 2, 400, .inl (fun _ => 0))), (q_2, .inl (tc 0, 2400, .inl (fun _ => 0))), (q_3, .inl (tc 0, 7, .inl (fun _ => 0))), (q_4, .inl (tc 0, 288, .inl (fun _ => 0))), (q_5, .inl (tc 0, 6, .inl (fun _ => 0)))] H := hP
  have hD : va_D A [(h0, .inr (12, [.ref q_1, .int 0, .int 0, .ref q_2, .ref q_3, .ref q_4, .null, .null, .int 0, .int 0, .int 0, .int 0, .int 0, .int 0, .int 0, .null, .int 0, .null, .int 0, .null, .null, .int 0, .int 0, .int 0, .null, .int 0, .null, .null, .null, .null, .null, .long 0, .null, .null, .null, .null])), (q_1, .inl (tc 2, 400, .inl (fun _ => 0))), (q_2, .inl (tc 0, 2400, .inl (fun _ => 0))), (q_3, .inl (tc 0, 7, .inl (fun _ => 0))), (q_4, .inl (tc 0, 288, .inl (fun _ => 0))), (q_5, .inl (tc 0, 6, .inl (fun _ => 0)))] := hD
  refine pf_X12_23 (ty := (.array .int)) hx hb hts hown hin hK hP hD hS 0 rfl (Nat.le_of_ble_eq_true rfl) (by decide +kernel) rfl rfl dX12_init_44 (fun H locs hP hD hS => ?_)
  have hP : va_P D classes [(h0, .inr (12, [.ref q_1, .int 0, .int 0, .ref q_2, .ref q_3, .ref q_4, .ref q_5, .null, .int 0, .int 0, .int 0, .int 0, .int 0, .int 0, .int 0, .null, .int 0, .null, .int 0, .null, .null, .int 0, .int 0, .int 0, .null, .int 0, .null, .null, .null, .null, .null, .long 0, .null, .null, .null, .null])), (q_1, .inl (tc 2, 400, .inl (fun _ => 0))), (q_2, .inl (tc 0, 2400, .inl (fun _ => 0))), (q_3, .inl (tc 0, 7, .inl (fun _ => 0))), (q_4, .inl (tc 0, 288, .inl (fun _ => 0))), (q_5, .inl (tc 0, 6, .inl (fun _ => 0)))] H := hP
  have hD : va_D A [(h0, .inr (12, [.ref q_1, .int 0, .int 0, .ref q_2, .ref q_3, .ref q_4, .ref q_5, .null, .int 0, .int 0, .int 0, .int 0, .int 0, .int 0, .int 0, .null, .int 0, .null, .int 0, .null, .null, .int 0, .int 0, .int 0, .null, .int 0, .null, .null, .null, .null, .null, .long 0, .null, .null, .null, .null])), (q_1, .inl (tc 2, 400, .inl (fun _ => 0))), (q_2, .inl (tc 0, 2400, .inl (fun _ => 0))), (q_3, .inl (tc 0, 7, .inl (fun _ => 0))), (q_4, .inl (tc 0, 288, .inl (fun _ => 0))), (q_5, .inl (tc 0, 6, .inl (fun _ => 0)))] := hD
  refine lv_aload_n hx hb dX12_init_47 rfl (lv_at hl 0 rfl) ?_
  refine lv_bipush (v := 95) hx hb dX12_init_48 (by decide) ?_
  refine nwA (atype := .int) (a0 := (95, .inl (fun _ => 0))) hx hb (hts _ k_156) rfl hK hP hD hS hA 0 rfl (fun _ => rfl) (by decide) (by decide) (by decide) (Nat.le_of_ble_eq_true rfl) (Nat.le_of_ble_eq_true rfl) dX12_init_50 (fun q_6 H hP hD hS => ?_)
  have hP : va_P D classes [(h0, .inr (12, [.ref q_1, .int 0, .int 0, .ref q_2, .ref q_3, .ref q_4, .ref q_5, .null, .int 0, .int 0, .int 0, .int 0, .int 0, .int 0, .int 0, .null, .int 0, .null, .int 0, .null, .null, .int 0, .int 0, .int 0, .null, .int 0, .null, .null, .null, .null, .null, .long 0, .null, .null, .null, .null])), (q_1, .inl (tc 2, 400, .inl (fun _ => 0))), (q_2, .inl (tc 0, 2400, .inl (fun _ => 0))), (q_3, .inl (tc 0, 7, .inl (fun _ => 0))), (q_4, .inl (tc 0, 288, .inl (fun _ => 0))), (q_5, .inl (tc 0, 6, .inl (fun _ => 0))), (q_6, .inl (tc 0, 95, .inl (fun _ => 0)))] H := hP
  have hD : va_D A [(h0, .inr (12, [.ref q_1, .int 0, .int 0, .ref q_2, .ref q_3, .ref q_4, .ref q_5, .null, .int 0, .int 0, .int 0, .int 0, .int 0, .int 0, .int 0, .null, .int 0, .null, .int 0, .null, .null, .int 0, .int 0, .int 0, .null, .int 0, .null, .null, .null, .null, .null, .long 0, .null, .null, .null, .null])), (q_1, .inl (tc 2, 400, .inl (fun _ => 0))), (q_2, .inl (tc 0, 2400, .inl (fun _ => 0))), (q_3, .inl (tc 0, 7, .inl (fun _ => 0))), (q_4, .inl (tc 0, 288, .inl (fun _ => 0))), (q_5, .inl (tc 0, 6, .inl (fun _ => 0))), (q_6, .inl (tc 0, 95, .inl (fun _ => 0)))] := hD
  refine pf_X12_26 (ty := (.array .int)) hx hb hts hown hin hK hP hD hS 0 rfl (Nat.le_of_ble_eq_true rfl) (by decide +kernel) rfl rfl dX12_init_52 (fun H locs hP hD hS => ?_)
  have hP : va_P D classes [(h0, .inr (12, [.ref q_1, .int 0, .int 0, .ref q_2, .ref q_3, .ref q_4, .ref q_5, .ref q_6, .int 0, .int 0, .int 0, .int 0, .int 0, .int 0, .int 0, .null, .int 0, .null, .int 0, .null, .null, .int 0, .int 0, .int 0, .null, .int 0, .null, .null, .null, .null, .null, .long 0, .null, .null, .null, .null])), (q_1, .inl (tc 2, 400, .inl (fun _ => 0))), (q_2, .inl (tc 0, 2400, .inl (fun _ => 0))), (q_3, .inl (tc 0, 7, .inl (fun _ => 0))), (q_4, .inl (tc 0, 288, .inl (fun _ => 0))), (q_5, .inl (tc 0, 6, .inl (fun _ => 0))), (q_6, .inl (tc 0, 95, .inl (fun _ => 0)))] H := hP
  have hD : va_D A [(h0, .inr (12, [.ref q_1, .int 0, .int 0, .ref q_2, .ref q_3, .ref q_4, .ref q_5, .ref q_6, .int 0, .int 0, .int 0, .int 0, .int 0, .int 0, .int 0, .null, .int 0, .null, .int 0, .null, .null, .int 0, .int 0, .int 0, .null, .int 0, .null, .null, .null, .null, .null, .long 0, .null, .null, .null, .null])), (q_1, .inl (tc 2, 400, .inl (fun _ => 0))), (q_2, .inl (tc 0, 2400, .inl (fun _ => 0))), (q_3, .inl (tc 0, 7, .inl (fun _ => 0))), (q_4, .inl (tc 0, 288, .inl (fun _ => 0))), (q_5, .inl (tc 0, 6, .inl (fun _ => 0))), (q_6, .inl (tc 0, 95, .inl (fun _ => 0)))] := hD
  refine lv_aload_n hx hb dX12_init_55 rfl (lv_at hl 0 rfl) ?_
  refine lv_sipush (v := 400) hx hb dX12_init_56 (by decide) ?_
  refine nwA (atype := .int) (a0 := (400, .inl (fun _ => 0))) hx hb (hts _ k_156) rfl hK hP hD hS hA 0 rfl (fun _ => rfl) (by decide) (by decide) (by decide) (Nat.le_of_ble_eq_true rfl) (Nat.le_of_ble_eq_true rfl) dX12_init_59 (fun q_7 H hP hD hS => ?_)
  have hP : va_P D classes [(h0, .inr (12, [.ref q_1, .int 0, .int 0, .ref q_2, .ref q_3, .ref q_4, .ref q_5, .ref q_6, .int 0, .int 0, .int 0, .int 0, .int 0, .int 0, .int 0, .null, .int 0, .null, .int 0, .null, .null, .int 0, .int 0, .int 0, .null, .int 0, .null, .null, .null, .null, .null, .long 0, .null, .null, .null, .null])), (q_1, .inl (tc 2, 400, .inl (fun _ => 0))), (q_2, .inl (tc 0, 2400, .inl (fun _ => 0))), (q_3, .inl (tc 0, 7, .inl (fun _ => 0))), (q_4, .inl (tc 0, 288, .inl (fun _ => 0))), (q_5, .inl (tc 0, 6, .inl (fun _ => 0))), (q_6, .inl (tc 0, 95, .inl (fun _ => 0))), (q_7, .inl (tc 0, 400, .inl (fun _ => 0)))] H := hP
  have hD : va_D A [(h0, .inr (12, [.ref q_1, .int 0, .int 0, .ref q_2, .ref q_3, .ref q_4, .ref q_5, .ref q_6, .int 0, .int 0, .int 0, .int 0, .int 0, .int 0, .int 0, .null, .int 0, .null, .int 0, .null, .null, .int 0, .int 0, .int 0, .null, .int 0, .null, .null, .null, .null, .null, .long 0, .null, .null, .null, .null])), (q_1, .inl (tc 2, 400, .inl (fun _ => 0))), (q_2, .inl (tc 0, 2400, .inl (fun _ => 0))), (q_3, .inl (tc 0, 7, .inl (fun _ => 0))), (q_4, .inl (tc 0, 288, .inl (fun _ => 0))), (q_5, .inl (tc 0, 6, .inl (fun _ => 0))), (q_6, .inl (tc 0, 95, .inl (fun _ => 0))), (q_7, .inl (tc 0, 400, .inl (fun _ => 0)))] := hD
  refine pf_X12_29 (ty := (.array .int)) hx hb hts hown hin hK hP hD hS 0 rfl (Nat.le_of_ble_eq_true rfl) (by decide +kernel) rfl rfl dX12_init_61 (fun H locs hP hD hS => ?_)
  have hP : va_P D classes [(h0, .inr (12, [.ref q_1, .int 0, .int 0, .ref q_2, .ref q_3, .ref q_4, .ref q_5, .ref q_6, .int 0, .int 0, .int 0, .int 0, .int 0, .int 0, .int 0, .ref q_7, .int 0, .null, .int 0, .null, .null, .int 0, .int 0, .int 0, .null, .int 0, .null, .null, .null, .null, .null, .long 0, .null, .null, .null, .null])), (q_1, .inl (tc 2, 400, .inl (fun _ => 0))), (q_2, .inl (tc 0, 2400, .inl (fun _ => 0))), (q_3, .inl (tc 0, 7, .inl (fun _ => 0))), (q_4, .inl (tc 0, 288, .inl (fun _ => 0))), (q_5, .inl (tc 0, 6, .inl (fun _ => 0))), (q_6, .inl (tc 0, 95, .inl (fun _ => 0))), (q_7, .inl (tc 0, 400, .inl (fun _ => 0)))] H := hP
  have hD : va_D A [(h0, .inr (12, [.ref q_1, .int 0, .int 0, .ref q_2, .ref q_3, .ref q_4, .ref q_5, .ref q_6, .int 0, .int 0, .int 0, .int 0, .int 0, .int 0, .int 0, .ref q_7, .int 0, .null, .int 0, .null, .null, .int 0, .int 0, .int 0, .null, .int 0, .null, .null, .null, .null, .null, .long 0, .null, .null, .null, .null])), (q_1, .inl (tc 2, 400, .inl (fun _ => 0))), (q_2, .inl (tc 0, 2400, .inl (fun _ => 0))), (q_3, .inl (tc 0, 7, .inl (fun _ => 0))), (q_4, .inl (tc 0, 288, .inl (fun _ => 0))), (q_5, .inl (tc 0, 6, .inl (fun _ => 0))), (q_6, .inl (tc 0, 95, .inl (fun _ => 0))), (q_7, .inl (tc 0, 400, .inl (fun _ => 0)))] := hD
  refine lv_aload_n hx hb dX12_init_64 rfl (lv_at hl 0 rfl) ?_
  refine lv_bipush (v := 64) hx hb dX12_init_65 (by decide) ?_
  refine nwA (atype := .long) (a0 := (64, .inr (.inl (fun _ => 0)))) hx hb (hts _ k_364) rfl hK hP hD hS hA 1 rfl (fun _ => rfl) (by decide) (by decide) (by decide) (Nat.le_of_ble_eq_true rfl) (Nat.le_of_ble_eq_true rfl) dX12_init_67 (fun q_8 H hP hD hS => ?_)
  have hP : va_P D classes [(h0, .inr (12, [.ref q_1, .int 0, .int 0, .ref q_2, .ref q_3, .ref q_4, .ref q_5, .ref q_6, .int 0, .int 0, .int 0, .int 0, .int 0, .int 0, .int 0, .ref q_7, .int 0, .null, .int 0, .null, .null, .int 0, .int 0, .int 0, .null, .int 0, .null, .null, .null, .null, .null, .long 0, .null, .null, .null, .null])), (q_1, .inl (tc 2, 400, .inl (fun _ => 0))), (q_2, .inl (tc 0, 2400, .inl (fun _ => 0))), (q_3, .inl (tc 0, 7, .inl (fun _ => 0))), (q_4, .inl (tc 0, 288, .inl (fun _ => 0))), (q_5, .inl (tc 0, 6, .inl (fun _ => 0))), (q_6, .inl (tc 0, 95, .inl (fun _ => 0))), (q_7, .inl (tc 0, 400, .inl (fun _ => 0))), (q_8, .inl (tc 1, 64, .inr (.inl (fun _ => 0))))] H := hP
  have hD : va_D A [(h0, .inr (12, [.ref q_1, .int 0, .int 0, .ref q_2, .ref q_3, .ref q_4, .ref q_5, .ref q_6, .int 0, .int 0, .int 0, .int 0, .int 0, .int 0, .int 0, .ref q_7, .int 0, .null, .int 0, .null, .null, .int 0, .int 0, .int 0, .null, .int 0, .null, .null, .null, .null, .null, .long 0, .null, .null, .null, .null])), (q_1, .inl (tc 2, 400, .inl (fun _ => 0))), (q_2, .inl (tc 0, 2400, .inl (fun _ => 0))), (q_3, .inl (tc 0, 7, .inl (fun _ => 0))), (q_4, .inl (tc 0, 288, .inl (fun _ => 0))), (q_5, .inl (tc 0, 6, .inl (fun _ => 0))), (q_6, .inl (tc 0, 95, .inl (fun _ => 0))), (q_7, .inl (tc 0, 400, .inl (fun _ => 0))), (q_8, .inl (tc 1, 64, .inr (.inl (fun _ => 0))))] := hD
  refine pf_X12_32 (ty := (.array .long)) hx hb hts hown hin hK hP hD hS 0 rfl (Nat.le_of_ble_eq_true rfl) (by decide +kernel) rfl rfl dX12_init_69 (fun H locs hP hD hS => ?_)
  have hP : va_P D classes [(h0, .inr (12, [.ref q_1, .int 0, .int 0, .ref q_2, .ref q_3, .ref q_4, .ref q_5, .ref q_6, .int 0, .int 0, .int 0, .int 0, .int 0, .int 0, .int 0, .ref q_7, .int 0, .ref q_8, .int 0, .null, .null, .int 0, .int 0, .int 0, .null, .int 0, .null, .null, .null, .null, .null, .long 0, .null, .null, .null, .null])), (q_1, .inl (tc 2, 400, .inl (fun _ => 0))), (q_2, .inl (tc 0, 2400, .inl (fun _ => 0))), (q_3, .inl (tc 0, 7, .inl (fun _ => 0))), (q_4, .inl (tc 0, 288, .inl (fun _ => 0))), (q_5, .inl (tc 0, 6, .inl (fun _ => 0))), (q_6, .inl (tc 0, 95, .inl (fun _ => 0))), (q_7, .inl (tc 0, 400, .inl (fun _ => 0))), (q_8, .inl (tc 1, 64, .inr (.inl (fun _ => 0))))] H := hP
  have hD : va_D A [(h0, .inr (12, [.ref q_1, .int 0, .int 0, .ref q_2, .ref q_3, .ref q_4, .ref q_5, .ref q_6, .int 0, .int 0, .int 0, .int 0, .int 0, .int 0, .int 0, .ref q_7, .int 0, .ref q_8, .int 0, .null, .null, .int 0, .int 0, .int 0, .null, .int 0, .null, .null, .null, .null, .null, .long 0, .null, .null, .null, .null])), (q_1, .inl (tc 2, 400, .inl (fun _ => 0))), (q_2, .inl (tc 0, 2400, .inl (fun _ => 0))), (q_3, .inl (tc 0, 7, .inl (fun _ => 0))), (q_4, .inl (tc 0, 288, .inl (fun _ => 0))), (q_5, .inl (tc 0, 6, .inl (fun _ => 0))), (q_6, .inl (tc 0, 95, .inl (fun _ => 0))), (q_7, .inl (tc 0, 400, .inl (fun _ => 0))), (q_8, .inl (tc 1, 64, .inr (.inl (fun _ => 0))))] := hD
  refine lv_aload_n hx hb dX12_init_72 rfl (lv_at hl 0 rfl) ?_
  refine lv_bipush (v := 13) hx hb dX12_init_73 (by decide) ?_
  refine nwA (atype := .long) (a0 := (13, .inr (.inl (fun _ => 0)))) hx hb (hts _ k_364) rfl hK hP hD hS hA 1 rfl (fun _ => rfl) (by decide) (by decide) (by decide) (Nat.le_of_ble_eq_true rfl) (Nat.le_of_ble_eq_true rfl) dX12_init_75 (fun q_9 H hP hD hS => ?_)
  have hP : va_P D classes [(h0, .inr (12, [.ref q_1, .int 0, .int 0, .ref q_2, .ref q_3, .ref q_4, .ref q_5, .ref q_6, .int 0, .int 0, .int 0, .int 0, .int 0, .int 0, .int 0, .ref q_7, .int 0, .ref q_8, .int 0, .null, .null, .int 0, .int 0, .int 0, .null, .int 0, .null, .null, .null, .null, .null, .long 0, .null, .null, .null, .null])), (q_1, .inl (tc 2, 400, .inl (fun _ => 0))), (q_2, .inl (tc 0, 2400, .inl (fun _ => 0))), (q_3, .inl (tc 0, 7, .inl (fun _ => 0))), (q_4, .inl (tc 0, 288, .inl (fun _ => 0))), (q_5, .inl (tc 0, 6, .inl (fun _ => 0))), (q_6, .inl (tc 0, 95, .inl (fun _ => 0))), (q_7, .inl (tc 0, 400, .inl (fun _ => 0))), (q_8, .inl (tc 1, 64, .inr (.inl (fun _ => 0)))), (q_9, .inl (tc 1, 13, .inr (.inl (fun _ => 0))))] H := hP
  have hD : va_D A [(h0, .inr (12, [.ref q_1, .int 0, .int 0, .ref q_2, .ref q_3, .ref q_4, .ref q_5, .ref q_6, .int 0, .int 0, .int 0, .int 0, .int 0, .int 0, .int 0, .ref q_7, .int 0, .ref q_8, .int 0, .null, .null, .int 0, .int 0, .int 0, .null, .int 0, .null, .null, .null, .null, .null, .long 0, .null, .null, .null, .null])), (q_1, .inl (tc 2, 400, .inl (fun _ => 0))), (q_2, .inl (tc 0, 2400, .inl (fun _ => 0))), (q_3, .inl (tc 0, 7, .inl (fun _ => 0))), (q_4, .inl (tc 0, 288, .inl (fun _ => 0))), (q_5, .inl (tc 0, 6, .inl (fun _ => 0))), (q_6, .inl (tc 0, 95, .inl (fun _ => 0))), (q_7, .inl (tc 0, 400, .inl (fun _ => 0))), (q_8, .inl (tc 1, 64, .inr (.inl (fun _ => 0)))), (q_9, .inl (tc 1, 13, .inr (.inl (fun _ => 0))))] := hD
  refine pf_X12_36 (ty := (.array .long)) hx hb hts hown hin hK hP hD hS 0 rfl (Nat.le_of_ble_eq_true rfl) (by decide +kernel) rfl rfl dX12_init_77 (fun H locs hP hD hS => ?_)
  have hP : va_P D classes [(h0, .inr (12, [.ref q_1, .int 0, .int 0, .ref q_2, .ref q_3, .ref q_4, .ref q_5, .ref q_6, .int 0, .int 0, .int 0, .int 0, .int 0, .int 0, .int 0, .ref q_7, .int 0, .ref q_8, .int 0, .ref q_9, .null, .int 0, .int 0, .int 0, .null, .int 0, .null, .null, .null, .null, .null, .long 0, .null, .null, .null, .null])), (q_1, .inl (tc 2, 400, .inl (fun _ => 0))), (q_2, .inl (tc 0, 2400, .inl (fun _ => 0))), (q_3, .inl (tc 0, 7, .inl (fun _ => 0))), (q_4, .inl (tc 0, 288, .inl (fun _ => 0))), (q_5, .inl (tc 0, 6, .inl (fun _ => 0))), (q_6, .inl (tc 0, 95, .inl (fun _ => 0))), (q_7, .inl (tc 0, 400, .inl (fun _ => 0))), (q_8, .inl (tc 1, 64, .inr (.inl (fun _ => 0)))), (q_9, .inl (tc 1, 13, .inr (.inl (fun _ => 0))))] H := hP
  have hD : va_D A [(h0, .inr (12, [.ref q_1, .int 0, .int 0, .ref q_2, .ref q_3, .ref q_4, .ref q_5, .ref q_6, .int 0, .int 0, .int 0, .int 0, .int 0, .int 0, .int 0, .ref q_7, .int 0, .ref q_8, .int 0, .ref q_9, .null, .int 0, .int 0, .int 0, .null, .int 0, .null, .null, .null, .null, .null, .long 0, .null, .null, .null, .null])), (q_1, .inl (tc 2, 400, .inl (fun _ => 0))), (q_2, .inl (tc 0, 2400, .inl (fun _ => 0))), (q_3, .inl (tc 0, 7, .inl (fun _ => 0))), (q_4, .inl (tc 0, 288, .inl (fun _ => 0))), (q_5, .inl (tc 0, 6, .inl (fun _ => 0))), (q_6, .inl (tc 0, 95, .inl (fun _ => 0))), (q_7, .inl (tc 0, 400, .inl (fun _ => 0))), (q_8, .inl (tc 1, 64, .inr (.inl (fun _ => 0)))), (q_9, .inl (tc 1, 13, .inr (.inl (fun _ => 0))))] := hD
  refine lv_aload_n hx hb dX12_init_80 rfl (lv_at hl 0 rfl) ?_
  refine lv_bipush (v := 126) hx hb dX12_init_81 (by decide) ?_
  refine nwA (atype := .int) (a0 := (126, .inl (fun _ => 0))) hx hb (hts _ k_156) rfl hK hP hD hS hA 0 rfl (fun _ => rfl) (by decide) (by decide) (by decide) (Nat.le_of_ble_eq_true rfl) (Nat.le_of_ble_eq_true rfl) dX12_init_83 (fun q_10 H hP hD hS => ?_)
  have hP : va_P D classes [(h0, .inr (12, [.ref q_1, .int 0, .int 0, .ref q_2, .ref q_3, .ref q_4, .ref q_5, .ref q_6, .int 0, .int 0, .int 0, .int 0, .int 0, .int 0, .int 0, .ref q_7, .int 0, .ref q_8, .int 0, .ref q_9, .null, .int 0, .int 0, .int 0, .null, .int 0, .null, .null, .null, .null, .null, .long 0, .null, .null, .null, .null])), (q_1, .inl (tc 2, 400, .inl (fun _ => 0))), (q_2, .inl (tc 0, 2400, .inl (fun _ => 0))), (q_3, .inl (tc 0, 7, .inl (fun _ => 0))), (q_4, .inl (tc 0, 288, .inl (fun _ => 0))), (q_5, .inl (tc 0, 6, .inl (fun _ => 0))), (q_6, .inl (tc 0, 95, .inl (fun _ => 0))), (q_7, .inl (tc 0, 400, .inl (fun _ => 0))), (q_8, .inl (tc 1, 64, .inr (.inl (fun _ => 0)))), (q_9, .inl (tc 1, 13, .inr (.inl (fun _ => 0)))), (q_10, .inl (tc 0, 126, .inl (fun _ => 0)))] H := hP
  have hD : va_D A [(h0, .inr (12, [.ref q_1, .int 0, .int 0, .ref q_2, .ref q_3, .ref q_4, .ref q_5, .ref q_6, .int 0, .int 0, .int 0, .int 0, .int 0, .int 0, .int 0, .ref q_7, .int 0, .ref q_8, .int 0, .ref q_9, .null, .int 0, .int 0, .int 0, .null, .int 0, .null, .null, .null, .null, .null, .long 0, .null, .null, .null, .null])), (q_1, .inl (tc 2, 400, .inl (fun _ => 0))), (q_2, .inl (tc 0, 2400, .inl (fun _ => 0))), (q_3, .inl (tc 0, 7, .inl (fun _ => 0))), (q_4, .inl (tc 0, 288, .inl (fun _ => 0))), (q_5, .inl (tc 0, 6, .inl (fun _ => 0))), (q_6, .inl (tc 0, 95, .inl (fun _ => 0))), (q_7, .inl (tc 0, 400, .inl (fun _ => 0))), (q_8, .inl (tc 1, 64, .inr (.inl (fun _ => 0)))), (q_9, .inl (tc 1, 13, .inr (.inl (fun _ => 0)))), (q_10, .inl (tc 0, 126, .inl (fun _ => 0)))] := hD
  refine pf_X12_39 (ty := (.array .int)) hx hb hts hown hin hK hP hD hS 0 rfl (Nat.le_of_ble_eq_true rfl) (by decide +kernel) rfl rfl dX12_init_85 (fun H locs hP hD hS => ?_)
  have hP : va_P D classes [(h0, .inr (12, [.ref q_1, .int 0, .int 0, .ref q_2, .ref q_3, .ref q_4, .ref q_5, .ref q_6, .int 0, .int 0, .int 0, .int 0, .int 0, .int 0, .int 0, .ref q_7, .int 0, .ref q_8, .int 0, .ref q_9, .ref q_10, .int 0, .int 0, .int 0, .null, .int 0, .null, .null, .null, .null, .null, .long 0, .null, .null, .null, .null])), (q_1, .inl (tc 2, 400, .inl (fun _ => 0))), (q_2, .inl (tc 0, 2400, .inl (fun _ => 0))), (q_3, .inl (tc 0, 7, .inl (fun _ => 0))), (q_4, .inl (tc 0, 288, .inl (fun _ => 0))), (q_5, .inl (tc 0, 6, .inl (fun _ => 0))), (q_6, .inl (tc 0, 95, .inl (fun _ => 0))), (q_7, .inl (tc 0, 400, .inl (fun _ => 0))), (q_8, .inl (tc 1, 64, .inr (.inl (fun _ => 0)))), (q_9, .inl (tc 1, 13, .inr (.inl (fun _ => 0)))), (q_10, .inl (tc 0, 126, .inl (fun _ => 0)))] H := hP
  have hD : va_D A [(h0, .inr (12, [.ref q_1, .int 0, .int 0, .ref q_2, .ref q_3, .ref q_4, .ref q_5, .ref q_6, .int 0, .int 0, .int 0, .int 0, .int 0, .int 0, .int 0, .ref q_7, .int 0, .ref q_8, .int 0, .ref q_9, .ref q_10, .int 0, .int 0, .int 0, .null, .int 0, .null, .null, .null, .null, .null, .long 0, .null, .null, .null, .null])), (q_1, .inl (tc 2, 400, .inl (fun _ => 0))), (q_2, .inl (tc 0, 2400, .inl (fun _ => 0))), (q_3, .inl (tc 0, 7, .inl (fun _ => 0))), (q_4, .inl (tc 0, 288, .inl (fun _ => 0))), (q_5, .inl (tc 0, 6, .inl (fun _ => 0))), (q_6, .inl (tc 0, 95, .inl (fun _ => 0))), (q_7, .inl (tc 0, 400, .inl (fun _ => 0))), (q_8, .inl (tc 1, 64, .inr (.inl (fun _ => 0)))), (q_9, .inl (tc 1, 13, .inr (.inl (fun _ => 0)))), (q_10, .inl (tc 0, 126, .inl (fun _ => 0)))] := hD
  refine lv_aload_n hx hb dX12_init_88 rfl (lv_at hl 0 rfl) ?_
  refine lv_iconst (v := (-1)) hx hb dX12_init_89 (by decide) ?_
  refine pf_X12_42 hx hb hts hown hK hP hD hS 0 rfl (Nat.le_of_ble_eq_true rfl) rfl rfl dX12_init_90 (fun H locs hP hD hS => ?_)
  have hP : va_P D classes [(h0, .inr (12, [.ref q_1, .int 0, .int 0, .ref q_2, .ref q_3, .ref q_4, .ref q_5, .ref q_6, .int 0, .int 0, .int 0, .int 0, .int 0, .int 0, .int 0, .ref q_7, .int 0, .ref q_8, .int 0, .ref q_9, .ref q_10, .int (-1), .int 0, .int 0, .null, .int 0, .null, .null, .null, .null, .null, .long 0, .null, .null, .null, .null])), (q_1, .inl (tc 2, 400, .inl (fun _ => 0))), (q_2, .inl (tc 0, 2400, .inl (fun _ => 0))), (q_3, .inl (tc 0, 7, .inl (fun _ => 0))), (q_4, .inl (tc 0, 288, .inl (fun _ => 0))), (q_5, .inl (tc 0, 6, .inl (fun _ => 0))), (q_6, .inl (tc 0, 95, .inl (fun _ => 0))), (q_7, .inl (tc 0, 400, .inl (fun _ => 0))), (q_8, .inl (tc 1, 64, .inr (.inl (fun _ => 0)))), (q_9, .inl (tc 1, 13, .inr (.inl (fun _ => 0)))), (q_10, .inl (tc 0, 126, .inl (fun _ => 0)))] H := hP
  have hD : va_D A [(h0, .inr (12, [.ref q_1, .int 0, .int 0, .ref q_2, .ref q_3, .ref q_4, .ref q_5, .ref q_6, .int 0, .int 0, .int 0, .int 0, .int 0, .int 0, .int 0, .ref q_7, .int 0, .ref q_8, .int 0, .ref q_9, .ref q_10, .int (-1), .int 0, .int 0, .null, .int 0, .null, .null, .null, .null, .null, .long 0, .null, .null, .null, .null])), (q_1, .inl (tc 2, 400, .inl (fun _ => 0))), (q_2, .inl (tc 0, 2400, .inl (fun _ => 0))), (q_3, .inl (tc 0, 7, .inl (fun _ => 0))), (q_4, .inl (tc 0, 288, .inl (fun _ => 0))), (q_5, .inl (tc 0, 6, .inl (fun _ => 0))), (q_6, .inl (tc 0, 95, .inl (fun _ => 0))), (q_7, .inl (tc 0, 400, .inl (fun _ => 0))), (q_8, .inl (tc 1, 64, .inr (.inl (fun _ => 0)))), (q_9, .inl (tc 1, 13, .inr (.inl (fun _ => 0)))), (q_10, .inl (tc 0, 126, .inl (fun _ => 0)))] := hD
  refine lv_aload_n hx hb dX12_init_93 rfl (lv_at hl 0 rfl) ?_
  refine lv_sipush (v := 920) hx hb dX12_init_94 (by decide) ?_
  refine nwA (atype := .int) (a0 := (920, .inl (fun _ => 0))) hx hb (hts _ k_156) rfl hK hP hD hS hA 0 rfl (fun _ => rfl) (by decide) (by decide) (by decide) (Nat.le_of_ble_eq_true rfl) (Nat.le_of_ble_eq_true rfl) dX12_init_97 (fun q_11 H hP hD hS => ?_)
  have hP : va_P D classes [(h0, .inr (12, [.ref q_1, .int 0, .int 0, .ref q_2, .ref q_3, .ref q_4, .ref q_5, .ref q_6, .int 0, .int 0, .int 0, .int 0, .int 0, .int 0, .int 0, .ref q_7, .int 0, .ref q_8, .int 0, .ref q_9, .ref q_10, .int (-1), .int 0, .int 0, .null, .int 0, .null, .null, .null, .null, .null, .long 0, .null, .null, .null, .null])), (q_1, .inl (tc 2, 400, .inl (fun _ => 0))), (q_2, .inl (tc 0, 2400, .inl (fun _ => 0))), (q_3, .inl (tc 0, 7, .inl (fun _ => 0))), (q_4, .inl (tc 0, 288, .inl (fun _ => 0))), (q_5, .inl (tc 0, 6, .inl (fun _ => 0))), (q_6, .inl (tc 0, 95, .inl (fun _ => 0))), (q_7, .inl (tc 0, 400, .inl (fun _ => 0))), (q_8, .inl (tc 1, 64, .inr (.inl (fun _ => 0)))), (q_9, .inl (tc 1, 13, .inr (.inl (fun _ => 0)))), (q_10, .inl (tc 0, 126, .inl (fun _ => 0))), (q_11, .inl (tc 0, 920, .inl (fun _ => 0)))] H := hP
  have hD : va_D A [(h0, .inr (12, [.ref q_1, .int 0, .int 0, .ref q_2, .ref q_3, .ref q_4, .ref q_5, .ref q_6, .int 0, .int 0, .int 0, .int 0, .int 0, .int 0, .int 0, .ref q_7, .int 0, .ref q_8, .int 0, .ref q_9, .ref q_10, .int (-1), .int 0, .int 0, .null, .int 0, .null, .null, .null, .null, .null, .long 0, .null, .null, .null, .null])), (q_1, .inl (tc 2, 400, .inl (fun _ => 0))), (q_2, .inl (tc 0, 2400, .inl (fun _ => 0))), (q_3, .inl (tc 0, 7, .inl (fun _ => 0))), (q_4, .inl (tc 0, 288, .inl (fun _ => 0))), (q_5, .inl (tc 0, 6, .inl (fun _ => 0))), (q_6, .inl (tc 0, 95, .inl (fun _ => 0))), (q_7, .inl (tc 0, 400, .inl (fun _ => 0))), (q_8, .inl (tc 1, 64, .inr (.inl (fun _ => 0)))), (q_9, .inl (tc 1, 13, .inr (.inl (fun _ => 0)))), (q_10, .inl (tc 0, 126, .inl (fun _ => 0))), (q_11, .inl (tc 0, 920, .inl (fun _ => 0)))] := hD
  refine pf_X12_46 (ty := (.array .int)) hx hb hts hown hin hK hP hD hS 0 rfl (Nat.le_of_ble_eq_true rfl) (by decide +kernel) rfl rfl dX12_init_99 (fun H locs hP hD hS => ?_)
  have hP : va_P D classes [(h0, .inr (12, [.ref q_1, .int 0, .int 0, .ref q_2, .ref q_3, .ref q_4, .ref q_5, .ref q_6, .int 0, .int 0, .int 0, .int 0, .int 0, .int 0, .int 0, .ref q_7, .int 0, .ref q_8, .int 0, .ref q_9, .ref q_10, .int (-1), .int 0, .int 0, .ref q_11, .int 0, .null, .null, .null, .null, .null, .long 0, .null, .null, .null, .null])), (q_1, .inl (tc 2, 400, .inl (fun _ => 0))), (q_2, .inl (tc 0, 2400, .inl (fun _ => 0))), (q_3, .inl (tc 0, 7, .inl (fun _ => 0))), (q_4, .inl (tc 0, 288, .inl (fun _ => 0))), (q_5, .inl (tc 0, 6, .inl (fun _ => 0))), (q_6, .inl (tc 0, 95, .inl (fun _ => 0))), (q_7, .inl (tc 0, 400, .inl (fun _ => 0))), (q_8, .inl (tc 1, 64, .inr (.inl (fun _ => 0)))), (q_9, .inl (tc 1, 13, .inr (.inl (fun _ => 0)))), (q_10, .inl (tc 0, 126, .inl (fun _ => 0))), (q_11, .inl (tc 0, 920, .inl (fun _ => 0)))] H := hP
  have hD : va_D A [(h0, .inr (12, [.ref q_1, .int 0, .int 0, .ref q_2, .ref q_3, .ref q_4, .ref q_5, .ref q_6, .int 0, .int 0, .int 0, .int 0, .int 0, .int 0, .int 0, .ref q_7, .int 0, .ref q_8, .int 0, .ref q_9, .ref q_10, .int (-1), .int 0, .int 0, .ref q_11, .int 0, .null, .null, .null, .null, .null, .long 0, .null, .null, .null, .null])), (q_1, .inl (tc 2, 400, .inl (fun _ => 0))), (q_2, .inl (tc 0, 2400, .inl (fun _ => 0))), (q_3, .inl (tc 0, 7, .inl (fun _ => 0))), (q_4, .inl (tc 0, 288, .inl (fun _ => 0))), (q_5, .inl (tc 0, 6, .inl (fun _ => 0))), (q_6, .inl (tc 0, 95, .inl (fun _ => 0))), (q_7, .inl (tc 0, 400, .inl (fun _ => 0))), (q_8, .inl (tc 1, 64, .inr (.inl (fun _ => 0)))), (q_9, .inl (tc 1, 13, .inr (.inl (fun _ => 0)))), (q_10, .inl (tc 0, 126, .inl (fun _ => 0))), (q_11, .inl (tc 0, 920, .inl (fun _ => 0)))] := hD
  refine lv_aload_n hx hb dX12_init_102 rfl (lv_at hl 0 rfl) ?_
  refine lv_bipush (v := 46) hx hb dX12_init_103 (by decide) ?_
  refine nwA (atype := .int) (a0 := (46, .inl (fun _ => 0))) hx hb (hts _ k_156) rfl hK hP hD hS hA 0 rfl (fun _ => rfl) (by decide) (by decide) (by decide) (Nat.le_of_ble_eq_true rfl) (Nat.le_of_ble_eq_true rfl) dX12_init_105 (fun q_12 H hP hD hS => ?_)
  have hP : va_P D classes [(h0, .inr (12, [.ref q_1, .int 0, .int 0, .ref q_2, .ref q_3, .ref q_4, .ref q_5, .ref q_6, .int 0, .int 0, .int 0, .int 0, .int 0, .int 0, .int 0, .ref q_7, .int 0, .ref q_8, .int 0, .ref q_9, .ref q_10, .int (-1), .int 0, .int 0, .ref q_11, .int 0, .null, .null, .null, .null, .null, .long 0, .null, .null, .null, .null])), (q_1, .inl (tc 2, 400, .inl (fun _ => 0))), (q_2, .inl (tc 0, 2400, .inl (fun _ => 0))), (q_3, .inl (tc 0, 7, .inl (fun _ => 0))), (q_4, .inl (tc 0, 288, .inl (fun _ => 0))), (q_5, .inl (tc 0, 6, .inl (fun _ => 0))), (q_6, .inl (tc 0, 95, .inl (fun _ => 0))), (q_7, .inl (tc 0, 400, .inl (fun _ => 0))), (q_8, .inl (tc 1, 64, .inr (.inl (fun _ => 0)))), (q_9, .inl (tc 1, 13, .inr (.inl (fun _ => 0)))), (q_10, .inl (tc 0, 126, .inl (fun _ => 0))), (q_11, .inl (tc 0, 920, .inl (fun _ => 0))), (q_12, .inl (tc 0, 46, .inl (fun _ => 0)))] H := hP
  have hD : va_D A [(h0, .inr (12, [.ref q_1, .int 0, .int 0, .ref q_2, .ref q_3, .ref q_4, .ref q_5, .ref q_6, .int 0, .int 0, .int 0, .int 0, .int 0, .int 0, .int 0, .ref q_7, .int 0, .ref q_8, .int 0, .ref q_9, .ref q_10, .int (-1), .int 0, .int 0, .ref q_11, .int 0, .null, .null, .null, .null, .null, .long 0, .null, .null, .null, .null])), (q_1, .inl (tc 2, 400, .inl (fun _ => 0))), (q_2, .inl (tc 0, 2400, .inl (fun _ => 0))), (q_3, .inl (tc 0, 7, .inl (fun _ => 0))), (q_4, .inl (tc 0, 288, .inl (fun _ => 0))), (q_5, .inl (tc 0, 6, .inl (fun _ => 0))), (q_6, .inl (tc 0, 95, .inl (fun _ => 0))), (q_7, .inl (tc 0, 400, .inl (fun _ => 0))), (q_8, .inl (tc 1, 64, .inr (.inl (fun _ => 0)))), (q_9, .inl (tc 1, 13, .inr (.inl (fun _ => 0)))), (q_10, .inl (tc 0, 126, .inl (fun _ => 0))), (q_11, .inl (tc 0, 920, .inl (fun _ => 0))), (q_12, .inl (tc 0, 46, .inl (fun _ => 0)))] := hD
  refine pf_X12_49 (ty := (.array .int)) hx hb hts hown hin hK hP hD hS 0 rfl (Nat.le_of_ble_eq_true rfl) (by decide +kernel) rfl rfl dX12_init_107 (fun H locs hP hD hS => ?_)
  have hP : va_P D classes [(h0, .inr (12, [.ref q_1, .int 0, .int 0, .ref q_2, .ref q_3, .ref q_4, .ref q_5, .ref q_6, .int 0, .int 0, .int 0, .int 0, .int 0, .int 0, .int 0, .ref q_7, .int 0, .ref q_8, .int 0, .ref q_9, .ref q_10, .int (-1), .int 0, .int 0, .ref q_11, .int 0, .ref q_12, .null, .null, .null, .null, .long 0, .null, .null, .null, .null])), (q_1, .inl (tc 2, 400, .inl (fun _ => 0))), (q_2, .inl (tc 0, 2400, .inl (fun _ => 0))), (q_3, .inl (tc 0, 7, .inl (fun _ => 0))), (q_4, .inl (tc 0, 288, .inl (fun _ => 0))), (q_5, .inl (tc 0, 6, .inl (fun _ => 0))), (q_6, .inl (tc 0, 95, .inl (fun _ => 0))), (q_7, .inl (tc 0, 400, .inl (fun _ => 0))), (q_8, .inl (tc 1, 64, .inr (.inl (fun _ => 0)))), (q_9, .inl (tc 1, 13, .inr (.inl (fun _ => 0)))), (q_10, .inl (tc 0, 126, .inl (fun _ => 0))), (q_11, .inl (tc 0, 920, .inl (fun _ => 0))), (q_12, .inl (tc 0, 46, .inl (fun _ => 0)))] H := hP
  have hD : va_D A [(h0, .inr (12, [.ref q_1, .int 0, .int 0, .ref q_2, .ref q_3, .ref q_4, .ref q_5, .ref q_6, .int 0, .int 0, .int 0, .int 0, .int 0, .int 0, .int 0, .ref q_7, .int 0, .ref q_8, .int 0, .ref q_9, .ref q_10, .int (-1), .int 0, .int 0, .ref q_11, .int 0, .ref q_12, .null, .null, .null, .null, .long 0, .null, .null, .null, .null])), (q_1, .inl (tc 2, 400, .inl (fun _ => 0))), (q_2, .inl (tc 0, 2400, .inl (fun _ => 0))), (q_3, .inl (tc 0, 7, .inl (fun _ => 0))), (q_4, .inl (tc 0, 288, .inl (fun _ => 0))), (q_5, .inl (tc 0, 6, .inl (fun _ => 0))), (q_6, .inl (tc 0, 95, .inl (fun _ => 0))), (q_7, .inl (tc 0, 400, .inl (fun _ => 0))), (q_8, .inl (tc 1, 64, .inr (.inl (fun _ => 0)))), (q_9, .inl (tc 1, 13, .inr (.inl (fun _ => 0)))), (q_10, .inl (tc 0, 126, .inl (fun _ => 0))), (q_11, .inl (tc 0, 920, .inl (fun _ => 0))), (q_12, .inl (tc 0, 46, .inl (fun _ => 0)))] := hD
  refine lv_aload_n hx hb dX12_init_110 rfl (lv_at hl 0 rfl) ?_
  refine lv_bipush (v := 50) hx hb dX12_init_111 (by decide) ?_
  refine nwA (atype := .int) (a0 := (50, .inl (fun _ => 0))) hx hb (hts _ k_156) rfl hK hP hD hS hA 0 rfl (fun _ => rfl) (by decide) (by decide) (by decide) (Nat.le_of_ble_eq_true rfl) (Nat.le_of_ble_eq_true rfl) dX12_init_113 (fun q_13 H hP hD hS => ?_)
  have hP : va_P D classes [(h0, .inr (12, [.ref q_1, .int 0, .int 0, .ref q_2, .ref q_3, .ref q_4, .ref q_5, .ref q_6, .int 0, .int 0, .int 0, .int 0, .int 0, .int 0, .int 0, .ref q_7, .int 0, .ref q_8, .int 0, .ref q_9, .ref q_10, .int (-1), .int 0, .int 0, .ref q_11, .int 0, .ref q_12, .null, .null, .null, .null, .long 0, .null, .null, .null, .null])), (q_1, .inl (tc 2, 400, .inl (fun _ => 0))), (q_2, .inl (tc 0, 2400, .inl (fun _ => 0))), (q_3, .inl (tc 0, 7, .inl (fun _ => 0))), (q_4, .inl (tc 0, 288, .inl (fun _ => 0))), (q_5, .inl (tc 0, 6, .inl (fun _ => 0))), (q_6, .inl (tc 0, 95, .inl (fun _ => 0))), (q_7, .inl (tc 0, 400, .inl (fun _ => 0))), (q_8, .inl (tc 1, 64, .inr (.inl (fun _ => 0)))), (q_9, .inl (tc 1, 13, .inr (.inl (fun _ => 0)))), (q_10, .inl (tc 0, 126, .inl (fun _ => 0))), (q_11, .inl (tc 0, 920, .inl (fun _ => 0))), (q_12, .inl (tc 0, 46, .inl (fun _ => 0))), (q_13, .inl (tc 0, 50, .inl (fun _ => 0)))] H := hP
  have hD : va_D A [(h0, .inr (12, [.ref q_1, .int 0, .int 0, .ref q_2, .ref q_3, .ref q_4, .ref q_5, .ref q_6, .int 0, .int 0, .int 0, .int 0, .int 0, .int 0, .int 0, .ref q_7, .int 0, .ref q_8, .int 0, .ref q_9, .ref q_10, .int (-1), .int 0, .int 0, .ref q_11, .int 0, .ref q_12, .null, .null, .null, .null, .long 0, .null, .null, .null, .null])), (q_1, .inl (tc 2, 400, .inl (fun _ => 0))), (q_2, .inl (tc 0, 2400, .inl (fun _ => 0))), (q_3, .inl (tc 0, 7, .inl (fun _ => 0))), (q_4, .inl (tc 0, 288, .inl (fun _ => 0))), (q_5, .inl (tc 0, 6, .inl (fun _ => 0))), (q_6, .inl (tc 0, 95, .inl (fun _ => 0))), (q_7, .inl (tc 0, 400, .inl (fun _ => 0))), (q_8, .inl (tc 1, 64, .inr (.inl (fun _ => 0)))), (q_9, .inl (tc 1, 13, .inr (.inl (fun _ => 0)))), (q_10, .inl (tc 0, 126, .inl (fun _ => 0))), (q_11, .inl (tc 0, 920, .inl (fun _ => 0))), (q_12, .inl (tc 0, 46, .inl (fun _ => 0))), (q_13, .inl (tc 0, 50, .inl (fun _ => 0)))] := hD
  refine pf_X12_52 (ty := (.array .int)) hx hb hts hown hin hK hP hD hS 0 rfl (Nat.le_of_ble_eq_true rfl) (by decide +kernel) rfl rfl dX12_init_115 (fun H locs hP hD hS => ?_)
  have hP : va_P D classes [(h0, .inr (12, [.ref q_1, .int 0, .int 0, .ref q_2, .ref q_3, .ref q_4, .ref q_5, .ref q_6, .int 0, .int 0, .int 0, .int 0, .int 0, .int 0, .int 0, .ref q_7, .int 0, .ref q_8, .int 0, .ref q_9, .ref q_10, .int (-1), .int 0, .int 0, .ref q_11, .int 0, .ref q_12, .ref q_13, .null, .null, .null, .long 0, .null, .null, .null, .null])), (q_1, .inl (tc 2, 400, .inl (fun _ => 0))), (q_2, .inl (tc 0, 2400, .inl (fun _ => 0))), (q_3, .inl (tc 0, 7, .inl (fun _ => 0))), (q_4, .inl (tc 0, 288, .inl (fun _ => 0))), (q_5, .inl (tc 0, 6, .inl (fun _ => 0))), (q_6, .inl (tc 0, 95, .inl (fun _ => 0))), (q_7, .inl (tc 0, 400, .inl (fun _ => 0))), (q_8, .inl (tc 1, 64, .inr (.inl (fun _ => 0)))), (q_9, .inl (tc 1, 13, .inr (.inl (fun _ => 0)))), (q_10, .inl (tc 0, 126, .inl (fun _ => 0))), (q_11, .inl (tc 0, 920, .inl (fun _ => 0))), (q_12, .inl (tc 0, 46, .inl (fun _ => 0))), (q_13, .inl (tc 0, 50, .inl (fun _ => 0)))] H := hP
  have hD : va_D A [(h0, .inr (12, [.ref q_1, .int 0, .int 0, .ref q_2, .ref q_3, .ref q_4, .ref q_5, .ref q_6, .int 0, .int 0, .int 0, .int 0, .int 0, .int 0, .int 0, .ref q_7, .int 0, .ref q_8, .int 0, .ref q_9, .ref q_10, .int (-1), .int 0, .int 0, .ref q_11, .int 0, .ref q_12, .ref q_13, .null, .null, .null, .long 0, .null, .null, .null, .null])), (q_1, .inl (tc 2, 400, .inl (fun _ => 0))), (q_2, .inl (tc 0, 2400, .inl (fun _ => 0))), (q_3, .inl (tc 0, 7, .inl (fun _ => 0))), (q_4, .inl (tc 0, 288, .inl (fun _ => 0))), (q_5, .inl (tc 0, 6, .inl (fun _ => 0))), (q_6, .inl (tc 0, 95, .inl (fun _ => 0))), (q_7, .inl (tc 0, 400, .inl (fun _ => 0))), (q_8, .inl (tc 1, 64, .inr (.inl (fun _ => 0)))), (q_9, .inl (tc 1, 13, .inr (.inl (fun _ => 0)))), (q_10, .inl (tc 0, 126, .inl (fun _ => 0))), (q_11, .inl (tc 0, 920, .inl (fun _ => 0))), (q_12, .inl (tc 0, 46, .inl (fun _ => 0))), (q_13, .inl (tc 0, 50, .inl (fun _ => 0)))] := hD
  refine lv_aload_n hx hb dX12_init_118 rfl (lv_at hl 0 rfl) ?_
  refine lv_sipush (v := 427) hx hb dX12_init_119 (by decide) ?_
  refine nwA (atype := .int) (a0 := (427, .inl (fun _ => 0))) hx hb (hts _ k_156) rfl hK hP hD hS hA 0 rfl (fun _ => rfl) (by decide) (by decide) (by decide) (Nat.le_of_ble_eq_true rfl) (Nat.le_of_ble_eq_true rfl) dX12_init_122 (fun q_14 H hP hD hS => ?_)
  have hP : va_P D classes [(h0, .inr (12, [.ref q_1, .int 0, .int 0, .ref q_2, .ref q_3, .ref q_4, .ref q_5, .ref q_6, .int 0, .int 0, .int 0, .int 0, .int 0, .int 0, .int 0, .ref q_7, .int 0, .ref q_8, .int 0, .ref q_9, .ref q_10, .int (-1), .int 0, .int 0, .ref q_11, .int 0, .ref q_12, .ref q_13, .null, .null, .null, .long 0, .null, .null, .null, .null])), (q_1, .inl (tc 2, 400, .inl (fun _ => 0))), (q_2, .inl (tc 0, 2400, .inl (fun _ => 0))), (q_3, .inl (tc 0, 7, .inl (fun _ => 0))), (q_4, .inl (tc 0, 288, .inl (fun _ => 0))), (q_5, .inl (tc 0, 6, .inl (fun _ => 0))), (q_6, .inl (tc 0, 95, .inl (fun _ => 0))), (q_7, .inl (tc 0, 400, .inl (fun _ => 0))), (q_8, .inl (tc 1, 64, .inr (.inl (fun _ => 0)))), (q_9, .inl (tc 1, 13, .inr (.inl (fun _ => 0)))), (q_10, .inl (tc 0, 126, .inl (fun _ => 0))), (q_11, .inl (tc 0, 920, .inl (fun _ => 0))), (q_12, .inl (tc 0, 46, .inl (fun _ => 0))), (q_13, .inl (tc 0, 50, .inl (fun _ => 0))), (q_14, .inl (tc 0, 427, .inl (fun _ => 0)))] H := hP
  have hD : va_D A [(h0, .inr (12, [.ref q_1, .int 0, .int 0, .ref q_2, .ref q_3, .ref q_4, .ref q_5, .ref q_6, .int 0, .int 0, .int 0, .int 0, .int 0, .int 0, .int 0, .ref q_7, .int 0, .ref q_8, .int 0, .ref q_9, .ref q_10, .int (-1), .int 0, .int 0, .ref q_11, .int 0, .ref q_12, .ref q_13, .null, .null, .null, .long 0, .null, .null, .null, .null])), (q_1, .inl (tc 2, 400, .inl (fun _ => 0))), (q_2, .inl (tc 0, 2400, .inl (fun _ => 0))), (q_3, .inl (tc 0, 7, .inl (fun _ => 0))), (q_4, .inl (tc 0, 288, .inl (fun _ => 0))), (q_5, .inl (tc 0, 6, .inl (fun _ => 0))), (q_6, .inl (tc 0, 95, .inl (fun _ => 0))), (q_7, .inl (tc 0, 400, .inl (fun _ => 0))), (q_8, .inl (tc 1, 64, .inr (.inl (fun _ => 0)))), (q_9, .inl (tc 1, 13, .inr (.inl (fun _ => 0)))), (q_10, .inl (tc 0, 126, .inl (fun _ => 0))), (q_11, .inl (tc 0, 920, .inl (fun _ => 0))), (q_12, .inl (tc 0, 46, .inl (fun _ => 0))), (q_13, .inl (tc 0, 50, .inl (fun _ => 0))), (q_14, .inl (tc 0, 427, .inl (fun _ => 0)))] := hD
  refine pf_X12_55 (ty := (.array .int)) hx hb hts hown hin hK hP hD hS 0 rfl (Nat.le_of_ble_eq_true rfl) (by decide +kernel) rfl rfl dX12_init_124 (fun H locs hP hD hS => ?_)
  have hP : va_P D classes [(h0, .inr (12, [.ref q_1, .int 0, .int 0, .ref q_2, .ref q_3, .ref q_4, .ref q_5, .ref q_6, .int 0, .int 0, .int 0, .int 0, .int 0, .int 0, .int 0, .ref q_7, .int 0, .ref q_8, .int 0, .ref q_9, .ref q_10, .int (-1), .int 0, .int 0, .ref q_11, .int 0, .ref q_12, .ref q_13, .ref q_14, .null, .null, .long 0, .null, .null, .null, .null])), (q_1, .inl (tc 2, 400, .inl (fun _ => 0))), (q_2, .inl (tc 0, 2400, .inl (fun _ => 0))), (q_3, .inl (tc 0, 7, .inl (fun _ => 0))), (q_4, .inl (tc 0, 288, .inl (fun _ => 0))), (q_5, .inl (tc 0, 6, .inl (fun _ => 0))), (q_6, .inl (tc 0, 95, .inl (fun _ => 0))), (q_7, .inl (tc 0, 400, .inl (fun _ => 0))), (q_8, .inl (tc 1, 64, .inr (.inl (fun _ => 0)))), (q_9, .inl (tc 1, 13, .inr (.inl (fun _ => 0)))), (q_10, .inl (tc 0, 126, .inl (fun _ => 0))), (q_11, .inl (tc 0, 920, .inl (fun _ => 0))), (q_12, .inl (tc 0, 46, .inl (fun _ => 0))), (q_13, .inl (tc 0, 50, .inl (fun _ => 0))), (q_14, .inl (tc 0, 427, .inl (fun _ => 0)))] H := hP
  have hD : va_D A [(h0, .inr (12, [.ref q_1, .int 0, .int 0, .ref q_2, .ref q_3, .ref q_4, .ref q_5, .ref q_6, .int 0, .int 0, .int 0, .int 0, .int 0, .int 0, .int 0, .ref q_7, .int 0, .ref q_8, .int 0, .ref q_9, .ref q_10, .int (-1), .int 0, .int 0, .ref q_11, .int 0, .ref q_12, .ref q_13, .ref q_14, .null, .null, .long 0, .null, .null, .null, .null])), (q_1, .inl (tc 2, 400, .inl (fun _ => 0))), (q_2, .inl (tc 0, 2400, .inl (fun _ => 0))), (q_3, .inl (tc 0, 7, .inl (fun _ => 0))), (q_4, .inl (tc 0, 288, .inl (fun _ => 0))), (q_5, .inl (tc 0, 6, .inl (fun _ => 0))), (q_6, .inl (tc 0, 95, .inl (fun _ => 0))), (q_7, .inl (tc 0, 400, .inl (fun _ => 0))), (q_8, .inl (tc 1, 64, .inr (.inl (fun _ => 0)))), (q_9, .inl (tc 1, 13, .inr (.inl (fun _ => 0)))), (q_10, .inl (tc 0, 126, .inl (fun _ => 0))), (q_11, .inl (tc 0, 920, .inl (fun _ => 0))), (q_12, .inl (tc 0, 46, .inl (fun _ => 0))), (q_13, .inl (tc 0, 50, .inl (fun _ => 0))), (q_14, .inl (tc 0, 427, .inl (fun _ => 0)))] := hD
  refine lv_aload_n hx hb dX12_init_127 rfl (lv_at hl 0 rfl) ?_
  refine lv_bipush (v := 7) hx hb dX12_init_128 (by decide) ?_
  refine nwA (atype := .boolean) (a0 := (7, .inl (fun _ => 0))) hx hb (hts _ k_405) rfl hK hP hD hS hA 3 rfl (fun _ => rfl) (by decide) (by decide) (by decide) (Nat.le_of_ble_eq_true rfl) (Nat.le_of_ble_eq_true rfl) dX12_init_130 (fun q_15 H hP hD hS => ?_)
  have hP : va_P D classes [(h0, .inr (12, [.ref q_1, .int 0, .int 0, .ref q_2, .ref q_3, .ref q_4, .ref q_5, .ref q_6, .int 0, .int 0, .int 0, .int 0, .int 0, .int 0, .int 0, .ref q_7, .int 0, .ref q_8, .int 0, .ref q_9, .ref q_10, .int (-1), .int 0, .int 0, .ref q_11, .int 0, .ref q_12, .ref q_13, .ref q_14, .null, .null, .long 0, .null, .null, .null, .null])), (q_1, .inl (tc 2, 400, .inl (fun _ => 0))), (q_2, .inl (tc 0, 2400, .inl (fun _ => 0))), (q_3, .inl (tc 0, 7, .inl (fun _ => 0))), (q_4, .inl (tc 0, 288, .inl (fun _ => 0))), (q_5, .inl (tc 0, 6, .inl (fun _ => 0))), (q_6, .inl (tc 0, 95, .inl (fun _ => 0))), (q_7, .inl (tc 0, 400, .inl (fun _ => 0))), (q_8, .inl (tc 1, 64, .inr (.inl (fun _ => 0)))), (q_9, .inl (tc 1, 13, .inr (.inl (fun _ => 0)))), (q_10, .inl (tc 0, 126, .inl (fun _ => 0))), (q_11, .inl (tc 0, 920, .inl (fun _ => 0))), (q_12, .inl (tc 0, 46, .inl (fun _ => 0))), (q_13, .inl (tc 0, 50, .inl (fun _ => 0))), (q_14, .inl (tc 0, 427, .inl (fun _ => 0))), (q_15, .inl (tc 3, 7, .inl (fun _ => 0)))] H := hP
  have hD : va_D A [(h0, .inr (12, [.ref q_1, .int 0, .int 0, .ref q_2, .ref q_3, .ref q_4, .ref q_5, .ref q_6, .int 0, .int 0, .int 0, .int 0, .int 0, .int 0, .int 0, .ref q_7, .int 0, .ref q_8, .int 0, .ref q_9, .ref q_10, .int (-1), .int 0, .int 0, .ref q_11, .int 0, .ref q_12, .ref q_13, .ref q_14, .null, .null, .long 0, .null, .null, .null, .null])), (q_1, .inl (tc 2, 400, .inl (fun _ => 0))), (q_2, .inl (tc 0, 2400, .inl (fun _ => 0))), (q_3, .inl (tc 0, 7, .inl (fun _ => 0))), (q_4, .inl (tc 0, 288, .inl (fun _ => 0))), (q_5, .inl (tc 0, 6, .inl (fun _ => 0))), (q_6, .inl (tc 0, 95, .inl (fun _ => 0))), (q_7, .inl (tc 0, 400, .inl (fun _ => 0))), (q_8, .inl (tc 1, 64, .inr (.inl (fun _ => 0)))), (q_9, .inl (tc 1, 13, .inr (.inl (fun _ => 0)))), (q_10, .inl (tc 0, 126, .inl (fun _ => 0))), (q_11, .inl (tc 0, 920, .inl (fun _ => 0))), (q_12, .inl (tc 0, 46, .inl (fun _ => 0))), (q_13, .inl (tc 0, 50, .inl (fun _ => 0))), (q_14, .inl (tc 0, 427, .inl (fun _ => 0))), (q_15, .inl (tc 3, 7, .inl (fun _ => 0)))] := hD
  refine pf_X12_58 (ty := (.array .boolean)) hx hb hts hown hin hK hP hD hS 0 rfl (Nat.le_of_ble_eq_true rfl) (by decide +kernel) rfl rfl dX12_init_132 (fun H locs hP hD hS => ?_)
  have hP : va_P D classes [(h0, .inr (12, [.ref q_1, .int 0, .int 0, .ref q_2, .ref q_3, .ref q_4, .ref q_5, .ref q_6, .int 0, .int 0, .int 0, .int 0, .int 0, .int 0, .int 0, .ref q_7, .int 0, .ref q_8, .int 0, .ref q_9, .ref q_10, .int (-1), .int 0, .int 0, .ref q_11, .int 0, .ref q_12, .ref q_13, .ref q_14, .ref q_15, .null, .long 0, .null, .null, .null, .null])), (q_1, .inl (tc 2, 400, .inl (fun _ => 0))), (q_2, .inl (tc 0, 2400, .inl (fun _ => 0))), (q_3, .inl (tc 0, 7, .inl (fun _ => 0))), (q_4, .inl (tc 0, 288, .inl (fun _ => 0))), (q_5, .inl (tc 0, 6, .inl (fun _ => 0))), (q_6, .inl (tc 0, 95, .inl (fun _ => 0))), (q_7, .inl (tc 0, 400, .inl (fun _ => 0))), (q_8, .inl (tc 1, 64, .inr (.inl (fun _ => 0)))), (q_9, .inl (tc 1, 13, .inr (.inl (fun _ => 0)))), (q_10, .inl (tc 0, 126, .inl (fun _ => 0))), (q_11, .inl (tc 0, 920, .inl (fun _ => 0))), (q_12, .inl (tc 0, 46, .inl (fun _ => 0))), (q_13, .inl (tc 0, 50, .inl (fun _ => 0))), (q_14, .inl (tc 0, 427, .inl (fun _ => 0))), (q_15, .inl (tc 3, 7, .inl (fun _ => 0)))] H := hP
  have hD : va_D A [(h0, .inr (12, [.ref q_1, .int 0, .int 0, .ref q_2, .ref q_3, .ref q_4, .ref q_5, .ref q_6, .int 0, .int 0, .int 0, .int 0, .int 0, .int 0, .int 0, .ref q_7, .int 0, .ref q_8, .int 0, .ref q_9, .ref q_10, .int (-1), .int 0, .int 0, .ref q_11, .int 0, .ref q_12, .ref q_13, .ref q_14, .ref q_15, .null, .long 0, .null, .null, .null, .null])), (q_1, .inl (tc 2, 400, .inl (fun _ => 0))), (q_2, .inl (tc 0, 2400, .inl (fun _ => 0))), (q_3, .inl (tc 0, 7, .inl (fun _ => 0))), (q_4, .inl (tc 0, 288, .inl (fun _ => 0))), (q_5, .inl (tc 0, 6, .inl (fun _ => 0))), (q_6, .inl (tc 0, 95, .inl (fun _ => 0))), (q_7, .inl (tc 0, 400, .inl (fun _ => 0))), (q_8, .inl (tc 1, 64, .inr (.inl (fun _ => 0)))), (q_9, .inl (tc 1, 13, .inr (.inl (fun _ => 0)))), (q_10, .inl (tc 0, 126, .inl (fun _ => 0))), (q_11, .inl (tc 0, 920, .inl (fun _ => 0))), (q_12, .inl (tc 0, 46, .inl (fun _ => 0))), (q_13, .inl (tc 0, 50, .inl (fun _ => 0))), (q_14, .inl (tc 0, 427, .inl (fun _ => 0))), (q_15, .inl (tc 3, 7, .inl (fun _ => 0)))] := hD
  refine lv_aload_n hx hb dX12_init_135 rfl (lv_at hl 0 rfl) ?_
  refine lv_sipush (v := 427) hx hb dX12_init_136 (by decide) ?_
  refine nwA (atype := .int) (a0 := (427, .inl (fun _ => 0))) hx hb (hts _ k_156) rfl hK hP hD hS hA 0 rfl (fun _ => rfl) (by decide) (by decide) (by decide) (Nat.le_of_ble_eq_true rfl) (Nat.le_of_ble_eq_true rfl) dX12_init_139 (fun q_16 H hP hD hS => ?_)
  have hP : va_P D classes [(h0, .inr (12, [.ref q_1, .int 0, .int 0, .ref q_2, .ref q_3, .ref q_4, .ref q_5, .ref q_6, .int 0, .int 0, .int 0, .int 0, .int 0, .int 0, .int 0, .ref q_7, .int 0, .ref q_8, .int 0, .ref q_9, .ref q_10, .int (-1), .int 0, .int 0, .ref q_11, .int 0, .ref q_12, .ref q_13, .ref q_14, .ref q_15, .null, .long 0, .null, .null, .null, .null])), (q_1, .inl (tc 2, 400, .inl (fun _ => 0))), (q_2, .inl (tc 0, 2400, .inl (fun _ => 0))), (q_3, .inl (tc 0, 7, .inl (fun _ => 0))), (q_4, .inl (tc 0, 288, .inl (fun _ => 0))), (q_5, .inl (tc 0, 6, .inl (fun _ => 0))), (q_6, .inl (tc 0, 95, .inl (fun _ => 0))), (q_7, .inl (tc 0, 400, .inl (fun _ => 0))), (q_8, .inl (tc 1, 64, .inr (.inl (fun _ => 0)))), (q_9, .inl (tc 1, 13, .inr (.inl (fun _ => 0)))), (q_10, .inl (tc 0, 126, .inl (fun _ => 0))), (q_11, .inl (tc 0, 920, .inl (fun _ => 0))), (q_12, .inl (tc 0, 46, .inl (fun _ => 0))), (q_13, .inl (tc 0, 50, .inl (fun _ => 0))), (q_14, .inl (tc 0, 427, .inl (fun _ => 0))), (q_15, .inl (tc 3, 7, .inl (fun _ => 0))), (q_16, .inl (tc 0, 427, .inl (fun _ => 0)))] H := hP
  have hD : va_D A [(h0, .inr (12, [.ref q_1, .int 0, .int 0, .ref q_2, .ref q_3, .ref q_4, .ref q_5, .ref q_6, .int 0, .int 0, .int 0, .int 0, .int 0, .int 0, .int 0, .ref q_7, .int 0, .ref q_8, .int 0, .ref q_9, .ref q_10, .int (-1), .int 0, .int 0, .ref q_11, .int 0, .ref q_12, .ref q_13, .ref q_14, .ref q_15, .null, .long 0, .null, .null, .null, .null])), (q_1, .inl (tc 2, 400, .inl (fun _ => 0))), (q_2, .inl (tc 0, 2400, .inl (fun _ => 0))), (q_3, .inl (tc 0, 7, .inl (fun _ => 0))), (q_4, .inl (tc 0, 288, .inl (fun _ => 0))), (q_5, .inl (tc 0, 6, .inl (fun _ => 0))), (q_6, .inl (tc 0, 95, .inl (fun _ => 0))), (q_7, .inl (tc 0, 400, .inl (fun _ => 0))), (q_8, .inl (tc 1, 64, .inr (.inl (fun _ => 0)))), (q_9, .inl (tc 1, 13, .inr (.inl (fun _ => 0)))), (q_10, .inl (tc 0, 126, .inl (fun _ => 0))), (q_11, .inl (tc 0, 920, .inl (fun _ => 0))), (q_12, .inl (tc 0, 46, .inl (fun _ => 0))), (q_13, .inl (tc 0, 50, .inl (fun _ => 0))), (q_14, .inl (tc 0, 427, .inl (fun _ => 0))), (q_15, .inl (tc 3, 7, .inl (fun _ => 0))), (q_16, .inl (tc 0, 427, .inl (fun _ => 0)))] := hD
  refine pf_X12_62 (ty := (.array .int)) hx hb hts hown hin hK hP hD hS 0 rfl (Nat.le_of_ble_eq_true rfl) (by decide +kernel) rfl rfl dX12_init_141 (fun H locs hP hD hS => ?_)
  have hP : va_P D classes [(h0, .inr (12, [.ref q_1, .int 0, .int 0, .ref q_2, .ref q_3, .ref q_4, .ref q_5, .ref q_6, .int 0, .int 0, .int 0, .int 0, .int 0, .int 0, .int 0, .ref q_7, .int 0, .ref q_8, .int 0, .ref q_9, .ref q_10, .int (-1), .int 0, .int 0, .ref q_11, .int 0, .ref q_12, .ref q_13, .ref q_14, .ref q_15, .ref q_16, .long 0, .null, .null, .null, .null])), (q_1, .inl (tc 2, 400, .inl (fun _ => 0))), (q_2, .inl (tc 0, 2400, .inl (fun _ => 0))), (q_3, .inl (tc 0, 7, .inl (fun _ => 0))), (q_4, .inl (tc 0, 288, .inl (fun _ => 0))), (q_5, .inl (tc 0, 6, .inl (fun _ => 0))), (q_6, .inl (tc 0, 95, .inl (fun _ => 0))), (q_7, .inl (tc 0, 400, .inl (fun _ => 0))), (q_8, .inl (tc 1, 64, .inr (.inl (fun _ => 0)))), (q_9, .inl (tc 1, 13, .inr (.inl (fun _ => 0)))), (q_10, .inl (tc 0, 126, .inl (fun _ => 0))), (q_11, .inl (tc 0, 920, .inl (fun _ => 0))), (q_12, .inl (tc 0, 46, .inl (fun _ => 0))), (q_13, .inl (tc 0, 50, .inl (fun _ => 0))), (q_14, .inl (tc 0, 427, .inl (fun _ => 0))), (q_15, .inl (tc 3, 7, .inl (fun _ => 0))), (q_16, .inl (tc 0, 427, .inl (fun _ => 0)))] H := hP
  have hD : va_D A [(h0, .inr (12, [.ref q_1, .int 0, .int 0, .ref q_2, .ref q_3, .ref q_4, .ref q_5, .ref q_6, .int 0, .int 0, .int 0, .int 0, .int 0, .int 0, .int 0, .ref q_7, .int 0, .ref q_8, .int 0, .ref q_9, .ref q_10, .int (-1), .int 0, .int 0, .ref q_11, .int 0, .ref q_12, .ref q_13, .ref q_14, .ref q_15, .ref q_16, .long 0, .null, .null, .null, .null])), (q_1, .inl (tc 2, 400, .inl (fun _ => 0))), (q_2, .inl (tc 0, 2400, .inl (fun _ => 0))), (q_3, .inl (tc 0, 7, .inl (fun _ => 0))), (q_4, .inl (tc 0, 288, .inl (fun _ => 0))), (q_5, .inl (tc 0, 6, .inl (fun _ => 0))), (q_6, .inl (tc 0, 95, .inl (fun _ => 0))), (q_7, .inl (tc 0, 400, .inl (fun _ => 0))), (q_8, .inl (tc 1, 64, .inr (.inl (fun _ => 0)))), (q_9, .inl (tc 1, 13, .inr (.inl (fun _ => 0)))), (q_10, .inl (tc 0, 126, .inl (fun _ => 0))), (q_11, .inl (tc 0, 920, .inl (fun _ => 0))), (q_12, .inl (tc 0, 46, .inl (fun _ => 0))), (q_13, .inl (tc 0, 50, .inl (fun _ => 0))), (q_14, .inl (tc 0, 427, .inl (fun _ => 0))), (q_15, .inl (tc 3, 7, .inl (fun _ => 0))), (q_16, .inl (tc 0, 427, .inl (fun _ => 0)))] := hD
  refine lv_aload_n hx hb dX12_init_144 rfl (lv_at hl 0 rfl) ?_
  refine lv_sipush (v := 504) hx hb dX12_init_145 (by decide) ?_
  refine nwA (atype := .int) (a0 := (504, .inl (fun _ => 0))) hx hb (hts _ k_156) rfl hK hP hD hS hA 0 rfl (fun _ => rfl) (by decide) (by decide) (by decide) (Nat.le_of_ble_eq_true rfl) (Nat.le_of_ble_eq_true rfl) dX12_init_148 (fun q_17 H hP hD hS => ?_)
  have hP : va_P D classes [(h0, .inr (12, [.ref q_1, .int 0, .int 0, .ref q_2, .ref q_3, .ref q_4, .ref q_5, .ref q_6, .int 0, .int 0, .int 0, .int 0, .int 0, .int 0, .int 0, .ref q_7, .int 0, .ref q_8, .int 0, .ref q_9, .ref q_10, .int (-1), .int 0, .int 0, .ref q_11, .int 0, .ref q_12, .ref q_13, .ref q_14, .ref q_15, .ref q_16, .long 0, .null, .null, .null, .null])), (q_1, .inl (tc 2, 400, .inl (fun _ => 0))), (q_2, .inl (tc 0, 2400, .inl (fun _ => 0))), (q_3, .inl (tc 0, 7, .inl (fun _ => 0))), (q_4, .inl (tc 0, 288, .inl (fun _ => 0))), (q_5, .inl (tc 0, 6, .inl (fun _ => 0))), (q_6, .inl (tc 0, 95, .inl (fun _ => 0))), (q_7, .inl (tc 0, 400, .inl (fun _ => 0))), (q_8, .inl (tc 1, 64, .inr (.inl (fun _ => 0)))), (q_9, .inl (tc 1, 13, .inr (.inl (fun _ => 0)))), (q_10, .inl (tc 0, 126, .inl (fun _ => 0))), (q_11, .inl (tc 0, 920, .inl (fun _ => 0))), (q_12, .inl (tc 0, 46, .inl (fun _ => 0))), (q_13, .inl (tc 0, 50, .inl (fun _ => 0))), (q_14, .inl (tc 0, 427, .inl (fun _ => 0))), (q_15, .inl (tc 3, 7, .inl (fun _ => 0))), (q_16, .inl (tc 0, 427, .inl (fun _ => 0))), (q_17, .inl (tc 0, 504, .inl (fun _ => 0)))] H := hP
  have hD : va_D A [(h0, .inr (12, [.ref q_1, .int 0, .int 0, .ref q_2, .ref q_3, .ref q_4, .ref q_5, .ref q_6, .int 0, .int 0, .int 0, .int 0, .int 0, .int 0, .int 0, .ref q_7, .int 0, .ref q_8, .int 0, .ref q_9, .ref q_10, .int (-1), .int 0, .int 0, .ref q_11, .int 0, .ref q_12, .ref q_13, .ref q_14, .ref q_15, .ref q_16, .long 0, .null, .null, .null, .null])), (q_1, .inl (tc 2, 400, .inl (fun _ => 0))), (q_2, .inl (tc 0, 2400, .inl (fun _ => 0))), (q_3, .inl (tc 0, 7, .inl (fun _ => 0))), (q_4, .inl (tc 0, 288, .inl (fun _ => 0))), (q_5, .inl (tc 0, 6, .inl (fun _ => 0))), (q_6, .inl (tc 0, 95, .inl (fun _ => 0))), (q_7, .inl (tc 0, 400, .inl (fun _ => 0))), (q_8, .inl (tc 1, 64, .inr (.inl (fun _ => 0)))), (q_9, .inl (tc 1, 13, .inr (.inl (fun _ => 0)))), (q_10, .inl (tc 0, 126, .inl (fun _ => 0))), (q_11, .inl (tc 0, 920, .inl (fun _ => 0))), (q_12, .inl (tc 0, 46, .inl (fun _ => 0))), (q_13, .inl (tc 0, 50, .inl (fun _ => 0))), (q_14, .inl (tc 0, 427, .inl (fun _ => 0))), (q_15, .inl (tc 3, 7, .inl (fun _ => 0))), (q_16, .inl (tc 0, 427, .inl (fun _ => 0))), (q_17, .inl (tc 0, 504, .inl (fun _ => 0)))] := hD
  refine pf_X12_65 (ty := (.array .int)) hx hb hts hown hin hK hP hD hS 0 rfl (Nat.le_of_ble_eq_true rfl) (by decide +kernel) rfl rfl dX12_init_150 (fun H locs hP hD hS => ?_)
  have hP : va_P D classes [(h0, .inr (12, [.ref q_1, .int 0, .int 0, .ref q_2, .ref q_3, .ref q_4, .ref q_5, .ref q_6, .int 0, .int 0, .int 0, .int 0, .int 0, .int 0, .int 0, .ref q_7, .int 0, .ref q_8, .int 0, .ref q_9, .ref q_10, .int (-1), .int 0, .int 0, .ref q_11, .int 0, .ref q_12, .ref q_13, .ref q_14, .ref q_15, .ref q_16, .long 0, .ref q_17, .null, .null, .null])), (q_1, .inl (tc 2, 400, .inl (fun _ => 0))), (q_2, .inl (tc 0, 2400, .inl (fun _ => 0))), (q_3, .inl (tc 0, 7, .inl (fun _ => 0))), (q_4, .inl (tc 0, 288, .inl (fun _ => 0))), (q_5, .inl (tc 0, 6, .inl (fun _ => 0))), (q_6, .inl (tc 0, 95, .inl (fun _ => 0))), (q_7, .inl (tc 0, 400, .inl (fun _ => 0))), (q_8, .inl (tc 1, 64, .inr (.inl (fun _ => 0)))), (q_9, .inl (tc 1, 13, .inr (.inl (fun _ => 0)))), (q_10, .inl (tc 0, 126, .inl (fun _ => 0))), (q_11, .inl (tc 0, 920, .inl (fun _ => 0))), (q_12, .inl (tc 0, 46, .inl (fun _ => 0))), (q_13, .inl (tc 0, 50, .inl (fun _ => 0))), (q_14, .inl (tc 0, 427, .inl (fun _ => 0))), (q_15, .inl (tc 3, 7, .inl (fun _ => 0))), (q_16, .inl (tc 0, 427, .inl (fun _ => 0))), (q_17, .inl (tc 0, 504, .inl (fun _ => 0)))] H := hP
  have hD : va_D A [(h0, .inr (12, [.ref q_1, .int 0, .int 0, .ref q_2, .ref q_3, .ref q_4, .ref q_5, .ref q_6, .int 0, .int 0, .int 0, .int 0, .int 0, .int 0, .int 0, .ref q_7, .int 0, .ref q_8, .int 0, .ref q_9, .ref q_10, .int (-1), .int 0, .int 0, .ref q_11, .int 0, .ref q_12, .ref q_13, .ref q_14, .ref q_15, .ref q_16, .long 0, .ref q_17, .null, .null, .null])), (q_1, .inl (tc 2, 400, .inl (fun _ => 0))), (q_2, .inl (tc 0, 2400, .inl (fun _ => 0))), (q_3, .inl (tc 0, 7, .inl (fun _ => 0))), (q_4, .inl (tc 0, 288, .inl (fun _ => 0))), (q_5, .inl (tc 0, 6, .inl (fun _ => 0))), (q_6, .inl (tc 0, 95, .inl (fun _ => 0))), (q_7, .inl (tc 0, 400, .inl (fun _ => 0))), (q_8, .inl (tc 1, 64, .inr (.inl (fun _ => 0)))), (q_9, .inl (tc 1, 13, .inr (.inl (fun _ => 0)))), (q_10, .inl (tc 0, 126, .inl (fun _ => 0))), (q_11, .inl (tc 0, 920, .inl (fun _ => 0))), (q_12, .inl (tc 0, 46, .inl (fun _ => 0))), (q_13, .inl (tc 0, 50, .inl (fun _ => 0))), (q_14, .inl (tc 0, 427, .inl (fun _ => 0))), (q_15, .inl (tc 3, 7, .inl (fun _ => 0))), (q_16, .inl (tc 0, 427, .inl (fun _ => 0))), (q_17, .inl (tc 0, 504, .inl (fun _ => 0)))] := hD
  refine lv_aload_n hx hb dX12_init_153 rfl (lv_at hl 0 rfl) ?_
  refine lv_iconst (v := 4) hx hb dX12_init_154 (by decide) ?_
  refine nwA (atype := .int) (a0 := (4, .inl (fun _ => 0))) hx hb (hts _ k_156) rfl hK hP hD hS hA 0 rfl (fun _ => rfl) (by decide) (by decide) (by decide) (Nat.le_of_ble_eq_true rfl) (Nat.le_of_ble_eq_true rfl) dX12_init_155 (fun q_18 H hP hD hS => ?_)
  have hP : va_P D classes [(h0, .inr (12, [.ref q_1, .int 0, .int 0, .ref q_2, .ref q_3, .ref q_4, .ref q_5, .ref q_6, .int 0, .int 0, .int 0, .int 0, .int 0, .int 0, .int 0, .ref q_7, .int 0, .ref q_8, .int 0, .ref q_9, .ref q_10, .int (-1), .int 0, .int 0, .ref q_11, .int 0, .ref q_12, .ref q_13, .ref q_14, .ref q_15, .ref q_16, .long 0, .ref q_17, .null, .null, .null])), (q_1, .inl (tc 2, 400, .inl (fun _ => 0))), (q_2, .inl (tc 0, 2400, .inl (fun _ => 0))), (q_3, .inl (tc 0, 7, .inl (fun _ => 0))), (q_4, .inl (tc 0, 288, .inl (fun _ => 0))), (q_5, .inl (tc 0, 6, .inl (fun _ => 0))), (q_6, .inl (tc 0, 95, .inl (fun _ => 0))), (q_7, .inl (tc 0, 400, .inl (fun _ => 0))), (q_8, .inl (tc 1, 64, .inr (.inl (fun _ => 0)))), (q_9, .inl (tc 1, 13, .inr (.inl (fun _ => 0)))), (q_10, .inl (tc 0, 126, .inl (fun _ => 0))), (q_11, .inl (tc 0, 920, .inl (fun _ => 0))), (q_12, .inl (tc 0, 46, .inl (fun _ => 0))), (q_13, .inl (tc 0, 50, .inl (fun _ => 0))), (q_14, .inl (tc 0, 427, .inl (fun _ => 0))), (q_15, .inl (tc 3, 7, .inl (fun _ => 0))), (q_16, .inl (tc 0, 427, .inl (fun _ => 0))), (q_17, .inl (tc 0, 504, .inl (fun _ => 0))), (q_18, .inl (tc 0, 4, .inl (fun _ => 0)))] H := hP
  have hD : va_D A [(h0, .inr (12, [.ref q_1, .int 0, .int 0, .ref q_2, .ref q_3, .ref q_4, .ref q_5, .ref q_6, .int 0, .int 0, .int 0, .int 0, .int 0, .int 0, .int 0, .ref q_7, .int 0, .ref q_8, .int 0, .ref q_9, .ref q_10, .int (-1), .int 0, .int 0, .ref q_11, .int 0, .ref q_12, .ref q_13, .ref q_14, .ref q_15, .ref q_16, .long 0, .ref q_17, .null, .null, .null])), (q_1, .inl (tc 2, 400, .inl (fun _ => 0))), (q_2, .inl (tc 0, 2400, .inl (fun _ => 0))), (q_3, .inl (tc 0, 7, .inl (fun _ => 0))), (q_4, .inl (tc 0, 288, .inl (fun _ => 0))), (q_5, .inl (tc 0, 6, .inl (fun _ => 0))), (q_6, .inl (tc 0, 95, .inl (fun _ => 0))), (q_7, .inl (tc 0, 400, .inl (fun _ => 0))), (q_8, .inl (tc 1, 64, .inr (.inl (fun _ => 0)))), (q_9, .inl (tc 1, 13, .inr (.inl (fun _ => 0)))), (q_10, .inl (tc 0, 126, .inl (fun _ => 0))), (q_11, .inl (tc 0, 920, .inl (fun _ => 0))), (q_12, .inl (tc 0, 46, .inl (fun _ => 0))), (q_13, .inl (tc 0, 50, .inl (fun _ => 0))), (q_14, .inl (tc 0, 427, .inl (fun _ => 0))), (q_15, .inl (tc 3, 7, .inl (fun _ => 0))), (q_16, .inl (tc 0, 427, .inl (fun _ => 0))), (q_17, .inl (tc 0, 504, .inl (fun _ => 0))), (q_18, .inl (tc 0, 4, .inl (fun _ => 0)))] := hD
  refine pf_X12_68 (ty := (.array .int)) hx hb hts hown hin hK hP hD hS 0 rfl (Nat.le_of_ble_eq_true rfl) (by decide +kernel) rfl rfl dX12_init_157 (fun H locs hP hD hS => ?_)
  have hP : va_P D classes [(h0, .inr (12, [.ref q_1, .int 0, .int 0, .ref q_2, .ref q_3, .ref q_4, .ref q_5, .ref q_6, .int 0, .int 0, .int 0, .int 0, .int 0, .int 0, .int 0, .ref q_7, .int 0, .ref q_8, .int 0, .ref q_9, .ref q_10, .int (-1), .int 0, .int 0, .ref q_11, .int 0, .ref q_12, .ref q_13, .ref q_14, .ref q_15, .ref q_16, .long 0, .ref q_17, .ref q_18, .null, .null])), (q_1, .inl (tc 2, 400, .inl (fun _ => 0))), (q_2, .inl (tc 0, 2400, .inl (fun _ => 0))), (q_3, .inl (tc 0, 7, .inl (fun _ => 0))), (q_4, .inl (tc 0, 288, .inl (fun _ => 0))), (q_5, .inl (tc 0, 6, .inl (fun _ => 0))), (q_6, .inl (tc 0, 95, .inl (fun _ => 0))), (q_7, .inl (tc 0, 400, .inl (fun _ => 0))), (q_8, .inl (tc 1, 64, .inr (.inl (fun _ => 0)))), (q_9, .inl (tc 1, 13, .inr (.inl (fun _ => 0)))), (q_10, .inl (tc 0, 126, .inl (fun _ => 0))), (q_11, .inl (tc 0, 920, .inl (fun _ => 0))), (q_12, .inl (tc 0, 46, .inl (fun _ => 0))), (q_13, .inl (tc 0, 50, .inl (fun _ => 0))), (q_14, .inl (tc 0, 427, .inl (fun _ => 0))), (q_15, .inl (tc 3, 7, .inl (fun _ => 0))), (q_16, .inl (tc 0, 427, .inl (fun _ => 0))), (q_17, .inl (tc 0, 504, .inl (fun _ => 0))), (q_18, .inl (tc 0, 4, .inl (fun _ => 0)))] H := hP
  have hD : va_D A [(h0, .inr (12, [.ref q_1, .int 0, .int 0, .ref q_2, .ref q_3, .ref q_4, .ref q_5, .ref q_6, .int 0, .int 0, .int 0, .int 0, .int 0, .int 0, .int 0, .ref q_7, .int 0, .ref q_8, .int 0, .ref q_9, .ref q_10, .int (-1), .int 0, .int 0, .ref q_11, .int 0, .ref q_12, .ref q_13, .ref q_14, .ref q_15, .ref q_16, .long 0, .ref q_17, .ref q_18, .null, .null])), (q_1, .inl (tc 2, 400, .inl (fun _ => 0))), (q_2, .inl (tc 0, 2400, .inl (fun _ => 0))), (q_3, .inl (tc 0, 7, .inl (fun _ => 0))), (q_4, .inl (tc 0, 288, .inl (fun _ => 0))), (q_5, .inl (tc 0, 6, .inl (fun _ => 0))), (q_6, .inl (tc 0, 95, .inl (fun _ => 0))), (q_7, .inl (tc 0, 400, .inl (fun _ => 0))), (q_8, .inl (tc 1, 64, .inr (.inl (fun _ => 0)))), (q_9, .inl (tc 1, 13, .inr (.inl (fun _ => 0)))), (q_10, .inl (tc 0, 126, .inl (fun _ => 0))), (q_11, .inl (tc 0, 920, .inl (fun _ => 0))), (q_12, .inl (tc 0, 46, .inl (fun _ => 0))), (q_13, .inl (tc 0, 50, .inl (fun _ => 0))), (q_14, .inl (tc 0, 427, .inl (fun _ => 0))), (q_15, .inl (tc 3, 7, .inl (fun _ => 0))), (q_16, .inl (tc 0, 427, .inl (fun _ => 0))), (q_17, .inl (tc 0, 504, .inl (fun _ => 0))), (q_18, .inl (tc 0, 4, .inl (fun _ => 0)))] := hD
  refine lv_aload_n hx hb dX12_init_160 rfl (lv_at hl 0 rfl) ?_
  refine lv_iconst (v := 4) hx hb dX12_init_161 (by decide) ?_
  refine nwA (atype := .int) (a0 := (4, .inl (fun _ => 0))) hx hb (hts _ k_156) rfl hK hP hD hS hA 0 rfl (fun _ => rfl) (by decide) (by decide) (by decide) (Nat.le_of_ble_eq_true rfl) (Nat.le_of_ble_eq_true rfl) dX12_init_162 (fun q_19 H hP hD hS => ?_)
  have hP : va_P D classes [(h0, .inr (12, [.ref q_1, .int 0, .int 0, .ref q_2, .ref q_3, .ref q_4, .ref q_5, .ref q_6, .int 0, .int 0, .int 0, .int 0, .int 0, .int 0, .int 0, .ref q_7, .int 0, .ref q_8, .int 0, .ref q_9, .ref q_10, .int (-1), .int 0, .int 0, .ref q_11, .int 0, .ref q_12, .ref q_13, .ref q_14, .ref q_15, .ref q_16, .long 0, .ref q_17, .ref q_18, .null, .null])), (q_1, .inl (tc 2, 400, .inl (fun _ => 0))), (q_2, .inl (tc 0, 2400, .inl (fun _ => 0))), (q_3, .inl (tc 0, 7, .inl (fun _ => 0))), (q_4, .inl (tc 0, 288, .inl (fun _ => 0))), (q_5, .inl (tc 0, 6, .inl (fun _ => 0))), (q_6, .inl (tc 0, 95, .inl (fun _ => 0))), (q_7, .inl (tc 0, 400, .inl (fun _ => 0))), (q_8, .inl (tc 1, 64, .inr (.inl (fun _ => 0)))), (q_9, .inl (tc 1, 13, .inr (.inl (fun _ => 0)))), (q_10, .inl (tc 0, 126, .inl (fun _ => 0))), (q_11, .inl (tc 0, 920, .inl (fun _ => 0))), (q_12, .inl (tc 0, 46, .inl (fun _ => 0))), (q_13, .inl (tc 0, 50, .inl (fun _ => 0))), (q_14, .inl (tc 0, 427, .inl (fun _ => 0))), (q_15, .inl (tc 3, 7, .inl (fun _ => 0))), (q_16, .inl (tc 0, 427, .inl (fun _ => 0))), (q_17, .inl (tc 0, 504, .inl (fun _ => 0))), (q_18, .inl (tc 0, 4, .inl (fun _ => 0))), (q_19, .inl (tc 0, 4, .inl (fun _ => 0)))] H := hP
  have hD : va_D A [(h0, .inr (12, [.ref q_1, .int 0, .int 0, .ref q_2, .ref q_3, .ref q_4, .ref q_5, .ref q_6, .int 0, .int 0, .int 0, .int 0, .int 0, .int 0, .int 0, .ref q_7, .int 0, .ref q_8, .int 0, .ref q_9, .ref q_10, .int (-1), .int 0, .int 0, .ref q_11, .int 0, .ref q_12, .ref q_13, .ref q_14, .ref q_15, .ref q_16, .long 0, .ref q_17, .ref q_18, .null, .null])), (q_1, .inl (tc 2, 400, .inl (fun _ => 0))), (q_2, .inl (tc 0, 2400, .inl (fun _ => 0))), (q_3, .inl (tc 0, 7, .inl (fun _ => 0))), (q_4, .inl (tc 0, 288, .inl (fun _ => 0))), (q_5, .inl (tc 0, 6, .inl (fun _ => 0))), (q_6, .inl (tc 0, 95, .inl (fun _ => 0))), (q_7, .inl (tc 0, 400, .inl (fun _ => 0))), (q_8, .inl (tc 1, 64, .inr (.inl (fun _ => 0)))), (q_9, .inl (tc 1, 13, .inr (.inl (fun _ => 0)))), (q_10, .inl (tc 0, 126, .inl (fun _ => 0))), (q_11, .inl (tc 0, 920, .inl (fun _ => 0))), (q_12, .inl (tc 0, 46, .inl (fun _ => 0))), (q_13, .inl (tc 0, 50, .inl (fun _ => 0))), (q_14, .inl (tc 0, 427, .inl (fun _ => 0))), (q_15, .inl (tc 3, 7, .inl (fun _ => 0))), (q_16, .inl (tc 0, 427, .inl (fun _ => 0))), (q_17, .inl (tc 0, 504, .inl (fun _ => 0))), (q_18, .inl (tc 0, 4, .inl (fun _ => 0))), (q_19, .inl (tc 0, 4, .inl (fun _ => 0)))] := hD
  refine pf_X12_71 (ty := (.array .int)) hx hb hts hown hin hK hP hD hS 0 rfl (Nat.le_of_ble_eq_true rfl) (by decide +kernel) rfl rfl dX12_init_164 (fun H locs hP hD hS => ?_)
  have hP : va_P D classes [(h0, .inr (12, [.ref q_1, .int 0, .int 0, .ref q_2, .ref q_3, .ref q_4, .ref q_5, .ref q_6, .int 0, .int 0, .int 0, .int 0, .int 0, .int 0, .int 0, .ref q_7, .int 0, .ref q_8, .int 0, .ref q_9, .ref q_10, .int (-1), .int 0, .int 0, .ref q_11, .int 0, .ref q_12, .ref q_13, .ref q_14, .ref q_15, .ref q_16, .long 0, .ref q_17, .ref q_18, .ref q_19, .null])), (q_1, .inl (tc 2, 400, .inl (fun _ => 0))), (q_2, .inl (tc 0, 2400, .inl (fun _ => 0))), (q_3, .inl (tc 0, 7, .inl (fun _ => 0))), (q_4, .inl (tc 0, 288, .inl (fun _ => 0))), (q_5, .inl (tc 0, 6, .inl (fun _ => 0))), (q_6, .inl (tc 0, 95, .inl (fun _ => 0))), (q_7, .inl (tc 0, 400, .inl (fun _ => 0))), (q_8, .inl (tc 1, 64, .inr (.inl (fun _ => 0)))), (q_9, .inl (tc 1, 13, .inr (.inl (fun _ => 0)))), (q_10, .inl (tc 0, 126, .inl (fun _ => 0))), (q_11, .inl (tc 0, 920, .inl (fun _ => 0))), (q_12, .inl (tc 0, 46, .inl (fun _ => 0))), (q_13, .inl (tc 0, 50, .inl (fun _ => 0))), (q_14, .inl (tc 0, 427, .inl (fun _ => 0))), (q_15, .inl (tc 3, 7, .inl (fun _ => 0))), (q_16, .inl (tc 0, 427, .inl (fun _ => 0))), (q_17, .inl (tc 0, 504, .inl (fun _ => 0))), (q_18, .inl (tc 0, 4, .inl (fun _ => 0))), (q_19, .inl (tc 0, 4, .inl (fun _ => 0)))] H := hP
  have hD : va_D A [(h0, .inr (12, [.ref q_1, .int 0, .int 0, .ref q_2, .ref q_3, .ref q_4, .ref q_5, .ref q_6, .int 0, .int 0, .int 0, .int 0, .int 0, .int 0, .int 0, .ref q_7, .int 0, .ref q_8, .int 0, .ref q_9, .ref q_10, .int (-1), .int 0, .int 0, .ref q_11, .int 0, .ref q_12, .ref q_13, .ref q_14, .ref q_15, .ref q_16, .long 0, .ref q_17, .ref q_18, .ref q_19, .null])), (q_1, .inl (tc 2, 400, .inl (fun _ => 0))), (q_2, .inl (tc 0, 2400, .inl (fun _ => 0))), (q_3, .inl (tc 0, 7, .inl (fun _ => 0))), (q_4, .inl (tc 0, 288, .inl (fun _ => 0))), (q_5, .inl (tc 0, 6, .inl (fun _ => 0))), (q_6, .inl (tc 0, 95, .inl (fun _ => 0))), (q_7, .inl (tc 0, 400, .inl (fun _ => 0))), (q_8, .inl (tc 1, 64, .inr (.inl (fun _ => 0)))), (q_9, .inl (tc 1, 13, .inr (.inl (fun _ => 0)))), (q_10, .inl (tc 0, 126, .inl (fun _ => 0))), (q_11, .inl (tc 0, 920, .inl (fun _ => 0))), (q_12, .inl (tc 0, 46, .inl (fun _ => 0))), (q_13, .inl (tc 0, 50, .inl (fun _ => 0))), (q_14, .inl (tc 0, 427, .inl (fun _ => 0))), (q_15, .inl (tc 3, 7, .inl (fun _ => 0))), (q_16, .inl (tc 0, 427, .inl (fun _ => 0))), (q_17, .inl (tc 0, 504, .inl (fun _ => 0))), (q_18, .inl (tc 0, 4, .inl (fun _ => 0))), (q_19, .inl (tc 0, 4, .inl (fun _ => 0)))] := hD
  refine lv_aload_n hx hb dX12_init_167 rfl (lv_at hl 0 rfl) ?_
  refine lv_iconst (v := 4) hx hb dX12_init_168 (by decide) ?_
  refine nwA (atype := .boolean) (a0 := (4, .inl (fun _ => 0))) hx hb (hts _ k_405) rfl hK hP hD hS hA 3 rfl (fun _ => rfl) (by decide) (by decide) (by decide) (Nat.le_of_ble_eq_true rfl) (Nat.le_of_ble_eq_true rfl) dX12_init_169 (fun q_20 H hP hD hS => ?_)
  have hP : va_P D classes [(h0, .inr (12, [.ref q_1, .int 0, .int 0, .ref q_2, .ref q_3, .ref q_4, .ref q_5, .ref q_6, .int 0, .int 0, .int 0, .int 0, .int 0, .int 0, .int 0, .ref q_7, .int 0, .ref q_8, .int 0, .ref q_9, .ref q_10, .int (-1), .int 0, .int 0, .ref q_11, .int 0, .ref q_12, .ref q_13, .ref q_14, .ref q_15, .ref q_16, .long 0, .ref q_17, .ref q_18, .ref q_19, .null])), (q_1, .inl (tc 2, 400, .inl (fun _ => 0))), (q_2, .inl (tc 0, 2400, .inl (fun _ => 0))), (q_3, .inl (tc 0, 7, .inl (fun _ => 0))), (q_4, .inl (tc 0, 288, .inl (fun _ => 0))), (q_5, .inl (tc 0, 6, .inl (fun _ => 0))), (q_6, .inl (tc 0, 95, .inl (fun _ => 0))), (q_7, .inl (tc 0, 400, .inl (fun _ => 0))), (q_8, .inl (tc 1, 64, .inr (.inl (fun _ => 0)))), (q_9, .inl (tc 1, 13, .inr (.inl (fun _ => 0)))), (q_10, .inl (tc 0, 126, .inl (fun _ => 0))), (q_11, .inl (tc 0, 920, .inl (fun _ => 0))), (q_12, .inl (tc 0, 46, .inl (fun _ => 0))), (q_13, .inl (tc 0, 50, .inl (fun _ => 0))), (q_14, .inl (tc 0, 427, .inl (fun _ => 0))), (q_15, .inl (tc 3, 7, .inl (fun _ => 0))), (q_16, .inl (tc 0, 427, .inl (fun _ => 0))), (q_17, .inl (tc 0, 504, .inl (fun _ => 0))), (q_18, .inl (tc 0, 4, .inl (fun _ => 0))), (q_19, .inl (tc 0, 4, .inl (fun _ => 0))), (q_20, .inl (tc 3, 4, .inl (fun _ => 0)))] H := hP
  have hD : va_D A [(h0, .inr (12, [.ref q_1, .int 0, .int 0, .ref q_2, .ref q_3, .ref q_4, .ref q_5, .ref q_6, .int 0, .int 0, .int 0, .int 0, .int 0, .int 0, .int 0, .ref q_7, .int 0, .ref q_8, .int 0, .ref q_9, .ref q_10, .int (-1), .int 0, .int 0, .ref q_11, .int 0, .ref q_12, .ref q_13, .ref q_14, .ref q_15, .ref q_16, .long 0, .ref q_17, .ref q_18, .ref q_19, .null])), (q_1, .inl (tc 2, 400, .inl (fun _ => 0))), (q_2, .inl (tc 0, 2400, .inl (fun _ => 0))), (q_3, .inl (tc 0, 7, .inl (fun _ => 0))), (q_4, .inl (tc 0, 288, .inl (fun _ => 0))), (q_5, .inl (tc 0, 6, .inl (fun _ => 0))), (q_6, .inl (tc 0, 95, .inl (fun _ => 0))), (q_7, .inl (tc 0, 400, .inl (fun _ => 0))), (q_8, .inl (tc 1, 64, .inr (.inl (fun _ => 0)))), (q_9, .inl (tc 1, 13, .inr (.inl (fun _ => 0)))), (q_10, .inl (tc 0, 126, .inl (fun _ => 0))), (q_11, .inl (tc 0, 920, .inl (fun _ => 0))), (q_12, .inl (tc 0, 46, .inl (fun _ => 0))), (q_13, .inl (tc 0, 50, .inl (fun _ => 0))), (q_14, .inl (tc 0, 427, .inl (fun _ => 0))), (q_15, .inl (tc 3, 7, .inl (fun _ => 0))), (q_16, .inl (tc 0, 427, .inl (fun _ => 0))), (q_17, .inl (tc 0, 504, .inl (fun _ => 0))), (q_18, .inl (tc 0, 4, .inl (fun _ => 0))), (q_19, .inl (tc 0, 4, .inl (fun _ => 0))), (q_20, .inl (tc 3, 4, .inl (fun _ => 0)))] := hD
  refine pf_X12_74 (ty := (.array .boolean)) hx hb hts hown hin hK hP hD hS 0 rfl (Nat.le_of_ble_eq_true rfl) (by decide +kernel) rfl rfl dX12_init_171 (fun H locs hP hD hS => ?_)
  have hP : va_P D classes [(h0, .inr (12, [.ref q_1, .int 0, .int 0, .ref q_2, .ref q_3, .ref q_4, .ref q_5, .ref q_6, .int 0, .int 0, .int 0, .int 0, .int 0, .int 0, .int 0, .ref q_7, .int 0, .ref q_8, .int 0, .ref q_9, .ref q_10, .int (-1), .int 0, .int 0, .ref q_11, .int 0, .ref q_12, .ref q_13, .ref q_14, .ref q_15, .ref q_16, .long 0, .ref q_17, .ref q_18, .ref q_19, .ref q_20])), (q_1, .inl (tc 2, 400, .inl (fun _ => 0))), (q_2, .inl (tc 0, 2400, .inl (fun _ => 0))), (q_3, .inl (tc 0, 7, .inl (fun _ => 0))), (q_4, .inl (tc 0, 288, .inl (fun _ => 0))), (q_5, .inl (tc 0, 6, .inl (fun _ => 0))), (q_6, .inl (tc 0, 95, .inl (fun _ => 0))), (q_7, .inl (tc 0, 400, .inl (fun _ => 0))), (q_8, .inl (tc 1, 64, .inr (.inl (fun _ => 0)))), (q_9, .inl (tc 1, 13, .inr (.inl (fun _ => 0)))), (q_10, .inl (tc 0, 126, .inl (fun _ => 0))), (q_11, .inl (tc 0, 920, .inl (fun _ => 0))), (q_12, .inl (tc 0, 46, .inl (fun _ => 0))), (q_13, .inl (tc 0, 50, .inl (fun _ => 0))), (q_14, .inl (tc 0, 427, .inl (fun _ => 0))), (q_15, .inl (tc 3, 7, .inl (fun _ => 0))), (q_16, .inl (tc 0, 427, .inl (fun _ => 0))), (q_17, .inl (tc 0, 504, .inl (fun _ => 0))), (q_18, .inl (tc 0, 4, .inl (fun _ => 0))), (q_19, .inl (tc 0, 4, .inl (fun _ => 0))), (q_20, .inl (tc 3, 4, .inl (fun _ => 0)))] H := hP
  have hD : va_D A [(h0, .inr (12, [.ref q_1, .int 0, .int 0, .ref q_2, .ref q_3, .ref q_4, .ref q_5, .ref q_6, .int 0, .int 0, .int 0, .int 0, .int 0, .int 0, .int 0, .ref q_7, .int 0, .ref q_8, .int 0, .ref q_9, .ref q_10, .int (-1), .int 0, .int 0, .ref q_11, .int 0, .ref q_12, .ref q_13, .ref q_14, .ref q_15, .ref q_16, .long 0, .ref q_17, .ref q_18, .ref q_19, .ref q_20])), (q_1, .inl (tc 2, 400, .inl (fun _ => 0))), (q_2, .inl (tc 0, 2400, .inl (fun _ => 0))), (q_3, .inl (tc 0, 7, .inl (fun _ => 0))), (q_4, .inl (tc 0, 288, .inl (fun _ => 0))), (q_5, .inl (tc 0, 6, .inl (fun _ => 0))), (q_6, .inl (tc 0, 95, .inl (fun _ => 0))), (q_7, .inl (tc 0, 400, .inl (fun _ => 0))), (q_8, .inl (tc 1, 64, .inr (.inl (fun _ => 0)))), (q_9, .inl (tc 1, 13, .inr (.inl (fun _ => 0)))), (q_10, .inl (tc 0, 126, .inl (fun _ => 0))), (q_11, .inl (tc 0, 920, .inl (fun _ => 0))), (q_12, .inl (tc 0, 46, .inl (fun _ => 0))), (q_13, .inl (tc 0, 50, .inl (fun _ => 0))), (q_14, .inl (tc 0, 427, .inl (fun _ => 0))), (q_15, .inl (tc 3, 7, .inl (fun _ => 0))), (q_16, .inl (tc 0, 427, .inl (fun _ => 0))), (q_17, .inl (tc 0, 504, .inl (fun _ => 0))), (q_18, .inl (tc 0, 4, .inl (fun _ => 0))), (q_19, .inl (tc 0, 4, .inl (fun _ => 0))), (q_20, .inl (tc 3, 4, .inl (fun _ => 0)))] := hD
  exact retV hx hb hr hlk hP hD hS (q_1, q_2, q_3, q_4, q_5, q_6, q_7, q_8, q_9, q_10, q_11, q_12, q_13, q_14, q_15, q_16, q_17, q_18, q_19, q_20) rfl [0, 1, 3, 5, 6, 10, 17, 18, 19, 20] rfl rfl dX12_init_174 (Nat.le_of_ble_eq_true rfl) (Nat.le_of_ble_eq_true rfl) rfl
