set_option maxRecDepth 16384
theorem i32_64 (k : Int32) : k.toInt64.toInt = k.toInt := Int32.toInt_toInt64 k
theorem i32_le (x : Int32) : x.toInt ≤ 2147483647 := by have := x.toInt_lt; omega
theorem add_toInt {x y : Int32} (h1 : -2147483648 ≤ x.toInt + y.toInt) (h2 : x.toInt + y.toInt ≤ 2147483647) : (x + y).toInt = x.toInt + y.toInt := by
  rw [Int32.toInt_add]; exact Int.bmod_eq_of_le (by omega) (by omega)
theorem sub_toInt {x y : Int32} (h1 : -2147483648 ≤ x.toInt - y.toInt) (h2 : x.toInt - y.toInt ≤ 2147483647) : (x - y).toInt = x.toInt - y.toInt := by
  rw [Int32.toInt_sub]; exact Int.bmod_eq_of_le (by omega) (by omega)
theorem mul_toInt {x y : Int32} (h1 : -2147483648 ≤ x.toInt * y.toInt) (h2 : x.toInt * y.toInt ≤ 2147483647) : (x * y).toInt = x.toInt * y.toInt := by
  rw [Int32.toInt_mul]; exact Int.bmod_eq_of_le (by omega) (by omega)
theorem rem_bounds {x y : Int32} (h : 0 < y.toInt) : (0 ≤ x.toInt → 0 ≤ (x - x / y * y).toInt) ∧ (x - x / y * y).toInt < y.toInt := by
  rw [rem_toInt]
  exact ⟨fun h0 => Int.tmod_nonneg _ h0, (tmod_bounds h).2⟩
theorem dX9_everybody_0 : decode cX9_everybody 0 = .ok (.iconst 1, 1) := by decide +kernel
theorem dX9_everybody_1 : decode cX9_everybody 1 = .ok (.aload_n 0, 1) := by decide +kernel
theorem dX9_everybody_2 : decode cX9_everybody 2 = .ok (.getfield 21, 3) := by decide +kernel
theorem dX9_everybody_5 : decode cX9_everybody 5 = .ok (.ishl, 1) := by decide +kernel
theorem dX9_everybody_6 : decode cX9_everybody 6 = .ok (.iconst 1, 1) := by decide +kernel
theorem dX9_everybody_7 : decode cX9_everybody 7 = .ok (.isub, 1) := by decide +kernel
theorem dX9_everybody_8 : decode cX9_everybody 8 = .ok (.ireturn, 1) := by decide +kernel
theorem dX9_isTold_0 : decode cX9_isTold 0 = .ok (.aload_n 0, 1) := by decide +kernel
theorem dX9_isTold_1 : decode cX9_isTold 1 = .ok (.getfield 18, 3) := by decide +kernel
theorem dX9_isTold_4 : decode cX9_isTold 4 = .ok (.ifCond .le 7, 3) := by decide +kernel
theorem dX9_isTold_7 : decode cX9_isTold 7 = .ok (.iconst 1, 1) := by decide +kernel
theorem dX9_isTold_8 : decode cX9_isTold 8 = .ok (.goto 4, 3) := by decide +kernel
theorem dX9_isTold_11 : decode cX9_isTold 11 = .ok (.iconst 0, 1) := by decide +kernel
theorem dX9_isTold_12 : decode cX9_isTold 12 = .ok (.ireturn, 1) := by decide +kernel
theorem dX1_grainsOf_0 : decode cX1_grainsOf 0 = .ok (.iconst 0, 1) := by decide +kernel
theorem dX1_grainsOf_1 : decode cX1_grainsOf 1 = .ok (.istore_n 2, 1) := by decide +kernel
theorem dX1_grainsOf_2 : decode cX1_grainsOf 2 = .ok (.iconst 0, 1) := by decide +kernel
theorem dX1_grainsOf_3 : decode cX1_grainsOf 3 = .ok (.istore_n 3, 1) := by decide +kernel
theorem dX1_grainsOf_4 : decode cX1_grainsOf 4 = .ok (.iload_n 3, 1) := by decide +kernel
theorem dX1_grainsOf_5 : decode cX1_grainsOf 5 = .ok (.aload_n 0, 1) := by decide +kernel
theorem dX1_grainsOf_6 : decode cX1_grainsOf 6 = .ok (.getfield 66, 3) := by decide +kernel
theorem dX1_grainsOf_9 : decode cX1_grainsOf 9 = .ok (.if_icmp .ge 30, 3) := by decide +kernel
theorem dX1_grainsOf_12 : decode cX1_grainsOf 12 = .ok (.iload_n 3, 1) := by decide +kernel
theorem dX1_grainsOf_13 : decode cX1_grainsOf 13 = .ok (.bipush 6, 2) := by decide +kernel
theorem dX1_grainsOf_15 : decode cX1_grainsOf 15 = .ok (.if_icmp .ge 24, 3) := by decide +kernel
theorem dX1_grainsOf_18 : decode cX1_grainsOf 18 = .ok (.iload_n 2, 1) := by decide +kernel
theorem dX1_grainsOf_19 : decode cX1_grainsOf 19 = .ok (.iload_n 1, 1) := by decide +kernel
theorem dX1_grainsOf_20 : decode cX1_grainsOf 20 = .ok (.iload_n 3, 1) := by decide +kernel
theorem dX1_grainsOf_21 : decode cX1_grainsOf 21 = .ok (.ishr, 1) := by decide +kernel
theorem dX1_grainsOf_22 : decode cX1_grainsOf 22 = .ok (.iconst 1, 1) := by decide +kernel
theorem dX1_grainsOf_23 : decode cX1_grainsOf 23 = .ok (.iand, 1) := by decide +kernel
theorem dX1_grainsOf_24 : decode cX1_grainsOf 24 = .ok (.aload_n 0, 1) := by decide +kernel
theorem dX1_grainsOf_25 : decode cX1_grainsOf 25 = .ok (.getfield 73, 3) := by decide +kernel
theorem dX1_grainsOf_28 : decode cX1_grainsOf 28 = .ok (.iload_n 3, 1) := by decide +kernel
theorem dX1_grainsOf_29 : decode cX1_grainsOf 29 = .ok (.iaload, 1) := by decide +kernel
theorem dX1_grainsOf_30 : decode cX1_grainsOf 30 = .ok (.imul, 1) := by decide +kernel
theorem dX1_grainsOf_31 : decode cX1_grainsOf 31 = .ok (.iadd, 1) := by decide +kernel
theorem dX1_grainsOf_32 : decode cX1_grainsOf 32 = .ok (.istore_n 2, 1) := by decide +kernel
theorem dX1_grainsOf_33 : decode cX1_grainsOf 33 = .ok (.iinc 3 1, 3) := by decide +kernel
theorem dX1_grainsOf_36 : decode cX1_grainsOf 36 = .ok (.goto (-32), 3) := by decide +kernel
theorem dX1_grainsOf_39 : decode cX1_grainsOf 39 = .ok (.iload_n 2, 1) := by decide +kernel
theorem dX1_grainsOf_40 : decode cX1_grainsOf 40 = .ok (.ireturn, 1) := by decide +kernel
theorem dX1_setsOf_0 : decode cX1_setsOf 0 = .ok (.iconst 0, 1) := by decide +kernel
theorem dX1_setsOf_1 : decode cX1_setsOf 1 = .ok (.istore 4, 2) := by decide +kernel
theorem dX1_setsOf_3 : decode cX1_setsOf 3 = .ok (.bipush (-2), 2) := by decide +kernel
theorem dX1_setsOf_5 : decode cX1_setsOf 5 = .ok (.istore 5, 2) := by decide +kernel
theorem dX1_setsOf_7 : decode cX1_setsOf 7 = .ok (.aload_n 1, 1) := by decide +kernel
theorem dX1_setsOf_8 : decode cX1_setsOf 8 = .ok (.invokevirtual 36, 3) := by decide +kernel
theorem dX1_setsOf_11 : decode cX1_setsOf 11 = .ok (.istore 6, 2) := by decide +kernel
theorem dX1_setsOf_13 : decode cX1_setsOf 13 = .ok (.iconst 0, 1) := by decide +kernel
theorem dX1_setsOf_14 : decode cX1_setsOf 14 = .ok (.istore 7, 2) := by decide +kernel
theorem dX1_setsOf_16 : decode cX1_setsOf 16 = .ok (.iload 7, 2) := by decide +kernel
theorem dX1_setsOf_18 : decode cX1_setsOf 18 = .ok (.aload_n 1, 1) := by decide +kernel
theorem dX1_setsOf_19 : decode cX1_setsOf 19 = .ok (.invokevirtual 36, 3) := by decide +kernel
theorem dX1_setsOf_22 : decode cX1_setsOf 22 = .ok (.if_icmp .gt 43, 3) := by decide +kernel
theorem dX1_setsOf_25 : decode cX1_setsOf 25 = .ok (.aload_n 1, 1) := by decide +kernel
theorem dX1_setsOf_26 : decode cX1_setsOf 26 = .ok (.iload 7, 2) := by decide +kernel
theorem dX1_setsOf_28 : decode cX1_setsOf 28 = .ok (.invokestatic 69, 3) := by decide +kernel
theorem dX1_setsOf_31 : decode cX1_setsOf 31 = .ok (.iload_n 2, 1) := by decide +kernel
theorem dX1_setsOf_32 : decode cX1_setsOf 32 = .ok (.if_icmp .ne 27, 3) := by decide +kernel
theorem dX1_setsOf_35 : decode cX1_setsOf 35 = .ok (.iload 4, 2) := by decide +kernel
theorem dX1_setsOf_37 : decode cX1_setsOf 37 = .ok (.ifCond .ne 8, 3) := by decide +kernel
theorem dX1_setsOf_40 : decode cX1_setsOf 40 = .ok (.iload 7, 2) := by decide +kernel
theorem dX1_setsOf_42 : decode cX1_setsOf 42 = .ok (.goto 5, 3) := by decide +kernel
theorem dX1_setsOf_45 : decode cX1_setsOf 45 = .ok (.iload 5, 2) := by decide +kernel
theorem dX1_setsOf_47 : decode cX1_setsOf 47 = .ok (.istore 5, 2) := by decide +kernel
theorem dX1_setsOf_49 : decode cX1_setsOf 49 = .ok (.iload 6, 2) := by decide +kernel
theorem dX1_setsOf_51 : decode cX1_setsOf 51 = .ok (.iload 7, 2) := by decide +kernel
theorem dX1_setsOf_53 : decode cX1_setsOf 53 = .ok (.iand, 1) := by decide +kernel
theorem dX1_setsOf_54 : decode cX1_setsOf 54 = .ok (.istore 6, 2) := by decide +kernel
theorem dX1_setsOf_56 : decode cX1_setsOf 56 = .ok (.iinc 4 1, 3) := by decide +kernel
theorem dX1_setsOf_59 : decode cX1_setsOf 59 = .ok (.iinc 7 1, 3) := by decide +kernel
theorem dX1_setsOf_62 : decode cX1_setsOf 62 = .ok (.goto (-46), 3) := by decide +kernel
theorem dX1_setsOf_65 : decode cX1_setsOf 65 = .ok (.iload_n 3, 1) := by decide +kernel
theorem dX1_setsOf_66 : decode cX1_setsOf 66 = .ok (.ifCond .ne 6, 3) := by decide +kernel
theorem dX1_setsOf_69 : decode cX1_setsOf 69 = .ok (.iload 4, 2) := by decide +kernel
theorem dX1_setsOf_71 : decode cX1_setsOf 71 = .ok (.ireturn, 1) := by decide +kernel
theorem dX1_setsOf_72 : decode cX1_setsOf 72 = .ok (.iload_n 3, 1) := by decide +kernel
theorem dX1_setsOf_73 : decode cX1_setsOf 73 = .ok (.iconst 1, 1) := by decide +kernel
theorem dX1_setsOf_74 : decode cX1_setsOf 74 = .ok (.if_icmp .ne 6, 3) := by decide +kernel
theorem dX1_setsOf_77 : decode cX1_setsOf 77 = .ok (.iload 5, 2) := by decide +kernel
theorem dX1_setsOf_79 : decode cX1_setsOf 79 = .ok (.ireturn, 1) := by decide +kernel
theorem dX1_setsOf_80 : decode cX1_setsOf 80 = .ok (.iload 4, 2) := by decide +kernel
theorem dX1_setsOf_82 : decode cX1_setsOf 82 = .ok (.ifCond .ne 7, 3) := by decide +kernel
theorem dX1_setsOf_85 : decode cX1_setsOf 85 = .ok (.iconst 0, 1) := by decide +kernel
theorem dX1_setsOf_86 : decode cX1_setsOf 86 = .ok (.goto 5, 3) := by decide +kernel
theorem dX1_setsOf_89 : decode cX1_setsOf 89 = .ok (.iload 6, 2) := by decide +kernel
theorem dX1_setsOf_91 : decode cX1_setsOf 91 = .ok (.ireturn, 1) := by decide +kernel
theorem dX11_isWithin_0 : decode cX11_isWithin 0 = .ok (.iload_n 0, 1) := by decide +kernel
theorem dX11_isWithin_1 : decode cX11_isWithin 1 = .ok (.iload_n 1, 1) := by decide +kernel
theorem dX11_isWithin_2 : decode cX11_isWithin 2 = .ok (.if_icmp .lt 12, 3) := by decide +kernel
theorem dX11_isWithin_5 : decode cX11_isWithin 5 = .ok (.iload_n 0, 1) := by decide +kernel
theorem dX11_isWithin_6 : decode cX11_isWithin 6 = .ok (.iload_n 2, 1) := by decide +kernel
theorem dX11_isWithin_7 : decode cX11_isWithin 7 = .ok (.if_icmp .gt 7, 3) := by decide +kernel
theorem dX11_isWithin_10 : decode cX11_isWithin 10 = .ok (.iconst 1, 1) := by decide +kernel
theorem dX11_isWithin_11 : decode cX11_isWithin 11 = .ok (.goto 4, 3) := by decide +kernel
theorem dX11_isWithin_14 : decode cX11_isWithin 14 = .ok (.iconst 0, 1) := by decide +kernel
theorem dX11_isWithin_15 : decode cX11_isWithin 15 = .ok (.ireturn, 1) := by decide +kernel
theorem dX11_page_0 : decode cX11_page 0 = .ok (.aload_n 0, 1) := by decide +kernel
theorem dX11_page_1 : decode cX11_page 1 = .ok (.getfield 51, 3) := by decide +kernel
theorem dX11_page_4 : decode cX11_page 4 = .ok (.invokevirtual 176, 3) := by decide +kernel
theorem dX11_page_7 : decode cX11_page 7 = .ok (.ifCond .eq 22, 3) := by decide +kernel
theorem dX11_page_10 : decode cX11_page 10 = .ok (.iload_n 1, 1) := by decide +kernel
theorem dX11_page_11 : decode cX11_page 11 = .ok (.iconst 0, 1) := by decide +kernel
theorem dX11_page_12 : decode cX11_page 12 = .ok (.bipush 60, 2) := by decide +kernel
theorem dX11_page_14 : decode cX11_page 14 = .ok (.invokestatic 166, 3) := by decide +kernel
theorem dX11_page_17 : decode cX11_page 17 = .ok (.ifCond .eq 12, 3) := by decide +kernel
theorem dX11_page_20 : decode cX11_page 20 = .ok (.iload_n 2, 1) := by decide +kernel
theorem dX11_page_21 : decode cX11_page 21 = .ok (.iconst 0, 1) := by decide +kernel
theorem dX11_page_22 : decode cX11_page 22 = .ok (.iconst 2, 1) := by decide +kernel
theorem dX11_page_23 : decode cX11_page 23 = .ok (.invokestatic 166, 3) := by decide +kernel
theorem dX11_page_26 : decode cX11_page 26 = .ok (.ifCond .ne 5, 3) := by decide +kernel
theorem dX11_page_29 : decode cX11_page 29 = .ok (.iconst (-1), 1) := by decide +kernel
theorem dX11_page_30 : decode cX11_page 30 = .ok (.ireturn, 1) := by decide +kernel
theorem dX11_page_31 : decode cX11_page 31 = .ok (.aload_n 0, 1) := by decide +kernel
theorem dX11_page_32 : decode cX11_page 32 = .ok (.getfield 75, 3) := by decide +kernel
theorem dX11_page_35 : decode cX11_page 35 = .ok (.aload_n 0, 1) := by decide +kernel
theorem dX11_page_36 : decode cX11_page 36 = .ok (.getfield 51, 3) := by decide +kernel
theorem dX11_page_39 : decode cX11_page 39 = .ok (.iload_n 1, 1) := by decide +kernel
theorem dX11_page_40 : decode cX11_page 40 = .ok (.iload_n 2, 1) := by decide +kernel
theorem dX11_page_41 : decode cX11_page 41 = .ok (.invokevirtual 236, 3) := by decide +kernel
theorem dX11_page_44 : decode cX11_page 44 = .ok (.ireturn, 1) := by decide +kernel
theorem upd_ne {f : Nat → Int32} {i j : Nat} {x : Int32} (h : j ≠ i) : upd f i x j = f j := by unfold upd; rw [if_neg h]
theorem upd_at {f : Nat → Int32} {i : Nat} {x : Int32} : upd f i x i = x := by unfold upd; rw [if_pos rfl]
theorem clN {i : Int32} {n : Nat} (h : i.toInt = (n : Int)) : i.toNatClampNeg = n := by
  show i.toInt.toNat = n
  omega
def SaiB (f : Nat → Int32) : Prop := ((((f 0).toInt = 1 ∧ 1 ≤ (f 2).toInt ∧ (f 2).toInt ≤ 10) ∨ ((f 0).toInt = 0 ∧ (f 3).toInt = 0)) ∧ 0 ≤ (f 3).toInt ∧ (f 3).toInt ≤ 6 ∧ 0 ≤ (f 125).toInt ∧ (f 125).toInt ≤ 10) ∧ ∀ k : Nat, k < 10 → 0 ≤ (f (95 + 3 * k)).toInt ∧ (f (95 + 3 * k)).toInt ≤ 60
def SaidB (T : Nat → Option Int32) (f : Nat → Int32) : Prop := SaiB f ∧ ∀ (k : Nat) (v : Int32), (k < 10 ∨ 56 ≤ k) → T k = some v → f k = v
def SaidD (T : Nat → Option Int32) (f : Nat → Int32) (d : Int) : Prop := SaidB T f ∧ 0 ≤ (f 10).toInt ∧ (f 10).toInt ≤ d
theorem SaidB.ar {T : Nat → Option Int32} {f : Nat → Int32} (h : SaidB T f) : (((f 0).toInt = 1 ∧ 1 ≤ (f 2).toInt ∧ (f 2).toInt ≤ 10) ∨ ((f 0).toInt = 0 ∧ (f 3).toInt = 0)) ∧ 0 ≤ (f 3).toInt ∧ (f 3).toInt ≤ 6 ∧ 0 ≤ (f 125).toInt ∧ (f 125).toInt ≤ 10 := h.1.1
def WasD (w : Nat → Int32) : Prop := ∀ j : Nat, j < 20 → 0 ≤ (w (46 * j)).toInt ∧ (w (46 * j)).toInt ≤ 999
theorem WasD.put {T : Nat → Option Int32} {w g f : Nat → Int32} {i k u j x : Int32} (h : WasD w) (hf : SaidD T f 999) (eg : g = upd w i.toNatClampNeg x) (ex : x = f j.toNatClampNeg) (hi : i.toInt = 46 * u.toInt + k.toInt) (hj : j.toInt = 10 + k.toInt) (hk : 0 ≤ k.toInt ∧ k.toInt < 46) (hu : 0 ≤ u.toInt ∧ u.toInt < 20) : WasD g := by
  intro q hq
  subst eg
  have e : i.toNatClampNeg = i.toInt.toNat := rfl
  by_cases z : 46 * q = i.toNatClampNeg
  · rw [z, upd_at, ex, clN (i := j) (n := 10) (by omega)]
    exact hf.2
  · rw [upd_ne z]
    exact h q hq
def FrcD (fr md : Nat → Int32) (n : Int32) : Prop := ∀ k : Nat, k < 4 → (md k).toInt ≠ 0 → -1 ≤ (fr k).toInt ∧ (fr k).toInt < n.toInt
theorem FrcD.put {fr md fr' md' : Nat → Int32} {n k x y : Int32} (h : FrcD fr md n) (e1 : md' = upd md k.toNatClampNeg y) (e2 : fr' = upd fr k.toNatClampNeg x) (hx : -1 ≤ x.toInt ∧ x.toInt < n.toInt) : FrcD fr' md' n := by
  subst e1 e2
  intro j hj hm
  by_cases z : j = k.toNatClampNeg
  · rw [z, upd_at]; exact hx
  · rw [upd_ne z] at hm ⊢
    exact h j hj hm
def stp (e : Int32) (d : Nat) : Option Nat :=
  if (e &&& 15).toInt = 0 then (if d < 60 then some (d + 1) else none)
  else if (e &&& 15).toInt = 1 then (if d < 60 ∧ 0 ≤ (e >>> (4 &&& 31)).toInt ∧ (e >>> (4 &&& 31)).toInt ≤ 12 then some (d + 1) else none)
  else if (e &&& 15).toInt = 11 then (if 1 ≤ d then some d else none)
  else (if 2 ≤ d then some (d - 1) else none)
def dep (f : Nat → Int32) : Nat → Nat → Nat → Option Nat
  | 0, _, d => some d
  | n + 1, a, d => (stp (f a) d).bind (fun e => dep f n (a + 1) e)
theorem SaidD.lt {T : Nat → Option Int32} {f : Nat → Int32} (h : SaidD T f 999) (hx : ¬ (f 10).toInt = 999) : SaidD T f 998 := ⟨h.1, h.2.1, by have := h.2.2; omega⟩
theorem dX12_in_0 : decode cX12_in 0 = .ok (.lload_n 0, 1) := by decide +kernel
theorem dX12_in_1 : decode cX12_in 1 = .ok (.lload_n 2, 1) := by decide +kernel
theorem dX12_in_2 : decode cX12_in 2 = .ok (.lcmp, 1) := by decide +kernel
theorem dX12_in_3 : decode cX12_in 3 = .ok (.ifCond .lt 14, 3) := by decide +kernel
theorem dX12_in_6 : decode cX12_in 6 = .ok (.lload_n 0, 1) := by decide +kernel
theorem dX12_in_7 : decode cX12_in 7 = .ok (.lload 4, 2) := by decide +kernel
theorem dX12_in_9 : decode cX12_in 9 = .ok (.lcmp, 1) := by decide +kernel
theorem dX12_in_10 : decode cX12_in 10 = .ok (.ifCond .gt 7, 3) := by decide +kernel
theorem dX12_in_13 : decode cX12_in 13 = .ok (.iconst 1, 1) := by decide +kernel
theorem dX12_in_14 : decode cX12_in 14 = .ok (.goto 4, 3) := by decide +kernel
theorem dX12_in_17 : decode cX12_in 17 = .ok (.iconst 0, 1) := by decide +kernel
theorem dX12_in_18 : decode cX12_in 18 = .ok (.ireturn, 1) := by decide +kernel
theorem dX12_isBook_0 : decode cX12_isBook 0 = .ok (.aload_n 0, 1) := by decide +kernel
theorem dX12_isBook_1 : decode cX12_isBook 1 = .ok (.getfield 39, 3) := by decide +kernel
theorem dX12_isBook_4 : decode cX12_isBook 4 = .ok (.iconst 0, 1) := by decide +kernel
theorem dX12_isBook_5 : decode cX12_isBook 5 = .ok (.iaload, 1) := by decide +kernel
theorem dX12_isBook_6 : decode cX12_isBook 6 = .ok (.iconst 1, 1) := by decide +kernel
theorem dX12_isBook_7 : decode cX12_isBook 7 = .ok (.if_icmp .ne 7, 3) := by decide +kernel
theorem dX12_isBook_10 : decode cX12_isBook 10 = .ok (.iconst 1, 1) := by decide +kernel
theorem dX12_isBook_11 : decode cX12_isBook 11 = .ok (.goto 4, 3) := by decide +kernel
theorem dX12_isBook_14 : decode cX12_isBook 14 = .ok (.iconst 0, 1) := by decide +kernel
theorem dX12_isBook_15 : decode cX12_isBook 15 = .ok (.ireturn, 1) := by decide +kernel
theorem dX12_isOf_0 : decode cX12_isOf 0 = .ok (.iload_n 0, 1) := by decide +kernel
theorem dX12_isOf_1 : decode cX12_isOf 1 = .ok (.iload_n 1, 1) := by decide +kernel
theorem dX12_isOf_2 : decode cX12_isOf 2 = .ok (.ishr, 1) := by decide +kernel
theorem dX12_isOf_3 : decode cX12_isOf 3 = .ok (.iconst 1, 1) := by decide +kernel
theorem dX12_isOf_4 : decode cX12_isOf 4 = .ok (.iand, 1) := by decide +kernel
theorem dX12_isOf_5 : decode cX12_isOf 5 = .ok (.iconst 1, 1) := by decide +kernel
theorem dX12_isOf_6 : decode cX12_isOf 6 = .ok (.if_icmp .ne 7, 3) := by decide +kernel
theorem dX12_isOf_9 : decode cX12_isOf 9 = .ok (.iconst 1, 1) := by decide +kernel
theorem dX12_isOf_10 : decode cX12_isOf 10 = .ok (.goto 4, 3) := by decide +kernel
theorem dX12_isOf_13 : decode cX12_isOf 13 = .ok (.iconst 0, 1) := by decide +kernel
theorem dX12_isOf_14 : decode cX12_isOf 14 = .ok (.ireturn, 1) := by decide +kernel
theorem dX12_grainsOf_0 : decode cX12_grainsOf 0 = .ok (.iconst 0, 1) := by decide +kernel
theorem dX12_grainsOf_1 : decode cX12_grainsOf 1 = .ok (.istore_n 2, 1) := by decide +kernel
theorem dX12_grainsOf_2 : decode cX12_grainsOf 2 = .ok (.iconst 0, 1) := by decide +kernel
theorem dX12_grainsOf_3 : decode cX12_grainsOf 3 = .ok (.istore_n 3, 1) := by decide +kernel
theorem dX12_grainsOf_4 : decode cX12_grainsOf 4 = .ok (.iload_n 3, 1) := by decide +kernel
theorem dX12_grainsOf_5 : decode cX12_grainsOf 5 = .ok (.aload_n 0, 1) := by decide +kernel
theorem dX12_grainsOf_6 : decode cX12_grainsOf 6 = .ok (.getfield 39, 3) := by decide +kernel
theorem dX12_grainsOf_9 : decode cX12_grainsOf 9 = .ok (.iconst 3, 1) := by decide +kernel
theorem dX12_grainsOf_10 : decode cX12_grainsOf 10 = .ok (.iaload, 1) := by decide +kernel
theorem dX12_grainsOf_11 : decode cX12_grainsOf 11 = .ok (.if_icmp .ge 33, 3) := by decide +kernel
theorem dX12_grainsOf_14 : decode cX12_grainsOf 14 = .ok (.iload_n 2, 1) := by decide +kernel
theorem dX12_grainsOf_15 : decode cX12_grainsOf 15 = .ok (.iload_n 1, 1) := by decide +kernel
theorem dX12_grainsOf_16 : decode cX12_grainsOf 16 = .ok (.iload_n 3, 1) := by decide +kernel
theorem dX12_grainsOf_17 : decode cX12_grainsOf 17 = .ok (.invokestatic 327, 3) := by decide +kernel
theorem dX12_grainsOf_20 : decode cX12_grainsOf 20 = .ok (.ifCond .eq 15, 3) := by decide +kernel
theorem dX12_grainsOf_23 : decode cX12_grainsOf 23 = .ok (.aload_n 0, 1) := by decide +kernel
theorem dX12_grainsOf_24 : decode cX12_grainsOf 24 = .ok (.getfield 39, 3) := by decide +kernel
theorem dX12_grainsOf_27 : decode cX12_grainsOf 27 = .ok (.bipush 56, 2) := by decide +kernel
theorem dX12_grainsOf_29 : decode cX12_grainsOf 29 = .ok (.iload_n 3, 1) := by decide +kernel
theorem dX12_grainsOf_30 : decode cX12_grainsOf 30 = .ok (.iadd, 1) := by decide +kernel
theorem dX12_grainsOf_31 : decode cX12_grainsOf 31 = .ok (.iaload, 1) := by decide +kernel
theorem dX12_grainsOf_32 : decode cX12_grainsOf 32 = .ok (.goto 4, 3) := by decide +kernel
theorem dX12_grainsOf_35 : decode cX12_grainsOf 35 = .ok (.iconst 0, 1) := by decide +kernel
theorem dX12_grainsOf_36 : decode cX12_grainsOf 36 = .ok (.iadd, 1) := by decide +kernel
theorem dX12_grainsOf_37 : decode cX12_grainsOf 37 = .ok (.istore_n 2, 1) := by decide +kernel
theorem dX12_grainsOf_38 : decode cX12_grainsOf 38 = .ok (.iinc 3 1, 3) := by decide +kernel
theorem dX12_grainsOf_41 : decode cX12_grainsOf 41 = .ok (.goto (-37), 3) := by decide +kernel
theorem dX12_grainsOf_44 : decode cX12_grainsOf 44 = .ok (.iload_n 2, 1) := by decide +kernel
theorem dX12_grainsOf_45 : decode cX12_grainsOf 45 = .ok (.ireturn, 1) := by decide +kernel
theorem dX12_page_0 : decode cX12_page 0 = .ok (.aload_n 0, 1) := by decide +kernel
theorem dX12_page_1 : decode cX12_page 1 = .ok (.invokevirtual 283, 3) := by decide +kernel
theorem dX12_page_4 : decode cX12_page 4 = .ok (.ifCond .eq 27, 3) := by decide +kernel
theorem dX12_page_7 : decode cX12_page 7 = .ok (.iload_n 1, 1) := by decide +kernel
theorem dX12_page_8 : decode cX12_page 8 = .ok (.i2l, 1) := by decide +kernel
theorem dX12_page_9 : decode cX12_page 9 = .ok (.lconst 0, 1) := by decide +kernel
theorem dX12_page_10 : decode cX12_page 10 = .ok (.ldc2_w 386, 3) := by decide +kernel
theorem dX12_page_13 : decode cX12_page 13 = .ok (.invokestatic 115, 3) := by decide +kernel
theorem dX12_page_16 : decode cX12_page 16 = .ok (.ifCond .eq 15, 3) := by decide +kernel
theorem dX12_page_19 : decode cX12_page 19 = .ok (.iload_n 2, 1) := by decide +kernel
theorem dX12_page_20 : decode cX12_page 20 = .ok (.i2l, 1) := by decide +kernel
theorem dX12_page_21 : decode cX12_page 21 = .ok (.lconst 0, 1) := by decide +kernel
theorem dX12_page_22 : decode cX12_page 22 = .ok (.ldc2_w 360, 3) := by decide +kernel
theorem dX12_page_25 : decode cX12_page 25 = .ok (.invokestatic 115, 3) := by decide +kernel
theorem dX12_page_28 : decode cX12_page 28 = .ok (.ifCond .ne 5, 3) := by decide +kernel
theorem dX12_page_31 : decode cX12_page 31 = .ok (.iconst (-1), 1) := by decide +kernel
theorem dX12_page_32 : decode cX12_page 32 = .ok (.ireturn, 1) := by decide +kernel
theorem dX12_page_33 : decode cX12_page 33 = .ok (.iconst 0, 1) := by decide +kernel
theorem dX12_page_34 : decode cX12_page 34 = .ok (.istore_n 3, 1) := by decide +kernel
theorem dX12_page_35 : decode cX12_page 35 = .ok (.bipush (-2), 2) := by decide +kernel
theorem dX12_page_37 : decode cX12_page 37 = .ok (.istore 4, 2) := by decide +kernel
theorem dX12_page_39 : decode cX12_page 39 = .ok (.iconst 1, 1) := by decide +kernel
theorem dX12_page_40 : decode cX12_page 40 = .ok (.aload_n 0, 1) := by decide +kernel
theorem dX12_page_41 : decode cX12_page 41 = .ok (.getfield 39, 3) := by decide +kernel
theorem dX12_page_44 : decode cX12_page 44 = .ok (.iconst 3, 1) := by decide +kernel
theorem dX12_page_45 : decode cX12_page 45 = .ok (.iaload, 1) := by decide +kernel
theorem dX12_page_46 : decode cX12_page 46 = .ok (.ishl, 1) := by decide +kernel
theorem dX12_page_47 : decode cX12_page 47 = .ok (.iconst 1, 1) := by decide +kernel
theorem dX12_page_48 : decode cX12_page 48 = .ok (.isub, 1) := by decide +kernel
theorem dX12_page_49 : decode cX12_page 49 = .ok (.istore 5, 2) := by decide +kernel
theorem dX12_page_51 : decode cX12_page 51 = .ok (.iload 5, 2) := by decide +kernel
theorem dX12_page_53 : decode cX12_page 53 = .ok (.istore 6, 2) := by decide +kernel
theorem dX12_page_55 : decode cX12_page 55 = .ok (.iload 6, 2) := by decide +kernel
theorem dX12_page_57 : decode cX12_page 57 = .ok (.ifCond .lt 36, 3) := by decide +kernel
theorem dX12_page_60 : decode cX12_page 60 = .ok (.aload_n 0, 1) := by decide +kernel
theorem dX12_page_61 : decode cX12_page 61 = .ok (.iload 6, 2) := by decide +kernel
theorem dX12_page_63 : decode cX12_page 63 = .ok (.invokevirtual 388, 3) := by decide +kernel
theorem dX12_page_66 : decode cX12_page 66 = .ok (.iload_n 1, 1) := by decide +kernel
theorem dX12_page_67 : decode cX12_page 67 = .ok (.if_icmp .eq 6, 3) := by decide +kernel
theorem dX12_page_70 : decode cX12_page 70 = .ok (.goto 17, 3) := by decide +kernel
theorem dX12_page_73 : decode cX12_page 73 = .ok (.iinc 3 1, 3) := by decide +kernel
theorem dX12_page_76 : decode cX12_page 76 = .ok (.iload 6, 2) := by decide +kernel
theorem dX12_page_78 : decode cX12_page 78 = .ok (.istore 4, 2) := by decide +kernel
theorem dX12_page_80 : decode cX12_page 80 = .ok (.iload 5, 2) := by decide +kernel
theorem dX12_page_82 : decode cX12_page 82 = .ok (.iload 6, 2) := by decide +kernel
theorem dX12_page_84 : decode cX12_page 84 = .ok (.iand, 1) := by decide +kernel
theorem dX12_page_85 : decode cX12_page 85 = .ok (.istore 5, 2) := by decide +kernel
theorem dX12_page_87 : decode cX12_page 87 = .ok (.iinc 6 (-1), 3) := by decide +kernel
theorem dX12_page_90 : decode cX12_page 90 = .ok (.goto (-35), 3) := by decide +kernel
theorem dX12_page_93 : decode cX12_page 93 = .ok (.iload_n 2, 1) := by decide +kernel
theorem dX12_page_94 : decode cX12_page 94 = .ok (.ifCond .ne 7, 3) := by decide +kernel
theorem dX12_page_97 : decode cX12_page 97 = .ok (.iload_n 3, 1) := by decide +kernel
theorem dX12_page_98 : decode cX12_page 98 = .ok (.goto 23, 3) := by decide +kernel
theorem dX12_page_101 : decode cX12_page 101 = .ok (.iload_n 2, 1) := by decide +kernel
theorem dX12_page_102 : decode cX12_page 102 = .ok (.iconst 1, 1) := by decide +kernel
theorem dX12_page_103 : decode cX12_page 103 = .ok (.if_icmp .ne 8, 3) := by decide +kernel
theorem dX12_page_106 : decode cX12_page 106 = .ok (.iload 4, 2) := by decide +kernel
theorem dX12_page_108 : decode cX12_page 108 = .ok (.goto 13, 3) := by decide +kernel
theorem dX12_page_111 : decode cX12_page 111 = .ok (.iload_n 3, 1) := by decide +kernel
theorem dX12_page_112 : decode cX12_page 112 = .ok (.ifCond .ne 7, 3) := by decide +kernel
theorem dX12_page_115 : decode cX12_page 115 = .ok (.iconst 0, 1) := by decide +kernel
theorem dX12_page_116 : decode cX12_page 116 = .ok (.goto 5, 3) := by decide +kernel
theorem dX12_page_119 : decode cX12_page 119 = .ok (.iload 5, 2) := by decide +kernel
theorem dX12_page_121 : decode cX12_page 121 = .ok (.ireturn, 1) := by decide +kernel
theorem dep_snoc (f : Nat → Int32) (n a d : Nat) : dep f (n + 1) a d = (dep f n a d).bind (fun e => stp (f (a + n)) e) := by
  induction n generalizing a d with
  | zero =>
    show (stp (f a) d).bind (fun e => dep f 0 (a + 1) e) = (some d).bind _
    cases h : stp (f a) d with
    | none => show none = stp (f (a + 0)) d; rw [Nat.add_zero, h]
    | some e => show some e = stp (f (a + 0)) d; rw [Nat.add_zero, h]
  | succ n ih =>
    show (stp (f a) d).bind (fun e => dep f (n + 1) (a + 1) e) = ((stp (f a) d).bind (fun e => dep f n (a + 1) e)).bind (fun e => stp (f (a + (n + 1))) e)
    cases stp (f a) d with
    | none => rfl
    | some e =>
      show dep f (n + 1) (a + 1) e = (dep f n (a + 1) e).bind _
      rw [ih, show a + 1 + n = a + (n + 1) by omega]
theorem dep_congr {f g : Nat → Int32} (n a d : Nat) (h : ∀ i, a ≤ i → i < a + n → g i = f i) : dep g n a d = dep f n a d := by
  induction n generalizing a d with
  | zero => rfl
  | succ n ih =>
    show (stp (g a) d).bind _ = (stp (f a) d).bind _
    rw [h a (Nat.le_refl _) (by omega)]
    congr 1
    funext e
    exact ih (a + 1) e (fun i h1 h2 => h i (by omega) (by omega))
def Agr (f g : Nat → Int32) (k : Int) : Prop := ∀ i : Nat, (i : Int) < k → g i = f i
theorem Agr.trans {f g h : Nat → Int32} {k k2 k' : Int} (h1 : Agr f g k) (h2 : Agr g h k2) (hk : k' ≤ k ∧ k' ≤ k2) : Agr f h k' := fun i hi => (h2 i (by omega)).trans (h1 i (by omega))
def Cd (sg ln : Nat → Int32) (t b md : Int32) (d : Nat) : Prop := (0 ≤ t.toInt ∧ t.toInt ≤ 5 ∧ 0 ≤ b.toInt ∧ b.toInt ≤ (ln t.toNatClampNeg).toInt ∧ (ln t.toNatClampNeg).toInt ≤ 400 ∧ (d : Int) ≤ md.toInt ∧ md.toInt ≤ 60) ∧ dep sg ((ln t.toNatClampNeg).toInt.toNat - b.toInt.toNat) (400 * t.toInt.toNat + b.toInt.toNat) 0 = some d
def StpR (s v : Int32) (d e : Nat) : Prop := stp (s + 16 * v) d = some e
theorem Cd.put {sg sg' ln ln' : Nat → Int32} {t b md s v i x y : Int32} {d e : Nat} (h : Cd sg ln t b md d) (hs : StpR s v d e) (he : (e : Int) ≤ md.toInt) (e1 : sg' = upd sg i.toNatClampNeg x) (hi : i.toInt = 400 * t.toInt + (ln t.toNatClampNeg).toInt) (ex : x = s + 16 * v) (e2 : ln' = upd ln t.toNatClampNeg y) (hy : y.toInt = (ln t.toNatClampNeg).toInt + 1) (hL : (ln t.toNatClampNeg).toInt < 400) : Cd sg' ln' t b md e ∧ Agr sg sg' (400 * t.toInt + (ln t.toNatClampNeg).toInt) ∧ (ln' t.toNatClampNeg).toInt = (ln t.toNatClampNeg).toInt + 1 := by
  obtain ⟨h1, h2⟩ := h
  have ei : i.toNatClampNeg = 400 * t.toInt.toNat + (ln t.toNatClampNeg).toInt.toNat := by
    show i.toInt.toNat = _
    omega
  have el : ln' t.toNatClampNeg = y := by rw [e2, upd_at]
  have hag : ∀ j : Nat, j < 400 * t.toInt.toNat + (ln t.toNatClampNeg).toInt.toNat → sg' j = sg j := fun j hj => by rw [e1, ei, upd_ne (by omega)]
  refine ⟨⟨by rw [el]; omega, ?_⟩, fun j hj => hag j (by omega), by rw [el]; exact hy⟩
  rw [el]
  have en : y.toInt.toNat - b.toInt.toNat = ((ln t.toNatClampNeg).toInt.toNat - b.toInt.toNat) + 1 := by omega
  rw [en, dep_snoc, dep_congr (f := sg) (g := sg') _ _ _ (fun j hj1 hj2 => hag j (by omega)), h2]
  show stp (sg' _) d = some e
  have ea : 400 * t.toInt.toNat + b.toInt.toNat + ((ln t.toNatClampNeg).toInt.toNat - b.toInt.toNat) = i.toNatClampNeg := by omega
  rw [ea, e1, upd_at, ex]
  exact hs
theorem stp_op {s : Int32} {d : Nat} (h0 : ¬ (s &&& 15).toInt = 0) (h1 : ¬ (s &&& 15).toInt = 1) (h2 : ¬ (s &&& 15).toInt = 11) (hd : 2 ≤ d) : stp s d = some (d - 1) := by
  unfold stp
  rw [if_neg h0, if_neg h1, if_neg h2, if_pos hd]
theorem StpR.op {s : Int32} {d e : Nat} (hs : s = 2 ∨ s = 3 ∨ s = 4 ∨ s = 5 ∨ s = 6 ∨ s = 7 ∨ s = 8 ∨ s = 9 ∨ s = 10 ∨ s = 12 ∨ s = 13 ∨ s = 14) (hd : d = e + 1) (he : 1 ≤ e) : StpR s 0 d e := by
  unfold StpR
  have hh : ¬ ((s + 16 * 0) &&& 15).toInt = 0 ∧ ¬ ((s + 16 * 0) &&& 15).toInt = 1 ∧ ¬ ((s + 16 * 0) &&& 15).toInt = 11 := by
    rcases hs with rfl | rfl | rfl | rfl | rfl | rfl | rfl | rfl | rfl | rfl | rfl | rfl <;> decide
  rw [stp_op hh.1 hh.2.1 hh.2.2 (by omega), hd]
  rfl
theorem StpR.not {d : Nat} (hd : 1 ≤ d) : StpR 11 0 d d := by
  unfold StpR stp
  rw [if_neg (by decide), if_neg (by decide), if_pos (by decide), if_pos hd]
theorem StpR.word {w : Int32} {d : Nat} (hd : (d : Int) < 60) (h0 : 0 ≤ w.toInt ∧ w.toInt ≤ 12) : StpR 1 w d (d + 1) := by
  have e : ∀ k : Int32, w.toInt = k.toInt → w = k := fun k z => Int32.toInt_inj.mp z
  have hw : w = 0 ∨ w = 1 ∨ w = 2 ∨ w = 3 ∨ w = 4 ∨ w = 5 ∨ w = 6 ∨ w = 7 ∨ w = 8 ∨ w = 9 ∨ w = 10 ∨ w = 11 ∨ w = 12 := by
    have : w.toInt = 0 ∨ w.toInt = 1 ∨ w.toInt = 2 ∨ w.toInt = 3 ∨ w.toInt = 4 ∨ w.toInt = 5 ∨ w.toInt = 6 ∨ w.toInt = 7 ∨ w.toInt = 8 ∨ w.toInt = 9 ∨ w.toInt = 10 ∨ w.toInt = 11 ∨ w.toInt = 12 := by omega
    rcases this with z | z | z | z | z | z | z | z | z | z | z | z | z
    · exact .inl (e 0 (by rw [z]; decide))
    · exact .inr (.inl (e 1 (by rw [z]; decide)))
    · exact .inr (.inr (.inl (e 2 (by rw [z]; decide))))
    · exact .inr (.inr (.inr (.inl (e 3 (by rw [z]; decide)))))
    · exact .inr (.inr (.inr (.inr (.inl (e 4 (by rw [z]; decide))))))
    · exact .inr (.inr (.inr (.inr (.inr (.inl (e 5 (by rw [z]; decide)))))))
    · exact .inr (.inr (.inr (.inr (.inr (.inr (.inl (e 6 (by rw [z]; decide))))))))
    · exact .inr (.inr (.inr (.inr (.inr (.inr (.inr (.inl (e 7 (by rw [z]; decide)))))))))
    · exact .inr (.inr (.inr (.inr (.inr (.inr (.inr (.inr (.inl (e 8 (by rw [z]; decide))))))))))
    · exact .inr (.inr (.inr (.inr (.inr (.inr (.inr (.inr (.inr (.inl (e 9 (by rw [z]; decide)))))))))))
    · exact .inr (.inr (.inr (.inr (.inr (.inr (.inr (.inr (.inr (.inr (.inl (e 10 (by rw [z]; decide))))))))))))
    · exact .inr (.inr (.inr (.inr (.inr (.inr (.inr (.inr (.inr (.inr (.inr (.inl (e 11 (by rw [z]; decide)))))))))))))
    · exact .inr (.inr (.inr (.inr (.inr (.inr (.inr (.inr (.inr (.inr (.inr (.inr (e 12 (by rw [z]; decide)))))))))))))
  unfold StpR stp
  have h2 : ¬ ((1 + 16 * w : Int32) &&& 15).toInt = 0 ∧ ((1 + 16 * w : Int32) &&& 15).toInt = 1 ∧ 0 ≤ ((1 + 16 * w : Int32) >>> (4 &&& 31)).toInt ∧ ((1 + 16 * w : Int32) >>> (4 &&& 31)).toInt ≤ 12 := by
    rcases hw with rfl | rfl | rfl | rfl | rfl | rfl | rfl | rfl | rfl | rfl | rfl | rfl | rfl <;> decide
  rw [if_neg h2.1, if_pos h2.2.1, if_pos ⟨by omega, h2.2.2⟩]
def pnd (op : Nat → Int32) : Nat → Nat
  | 0 => 0
  | k + 1 => pnd op k + (if (op k).toInt = 12 ∨ (op k).toInt = 13 then 1 else 0)
def OpS (op : Nat → Int32) (n : Int32) (p : Nat) : Prop := (0 ≤ n.toInt ∧ n.toInt ≤ 400) ∧ (∀ k : Nat, (k : Int) < n.toInt → (op k).toInt = 11 ∨ (op k).toInt = 12 ∨ (op k).toInt = 13 ∨ (op k).toInt = 91) ∧ pnd op n.toInt.toNat = p
theorem OpS.pop {op : Nat → Int32} {n n' : Int32} {p : Nat} (h : OpS op n p) (hn : n'.toInt = n.toInt - 1) (hl : 1 ≤ n.toInt) : OpS op n' (p - (if (op n'.toNatClampNeg).toInt = 12 ∨ (op n'.toNatClampNeg).toInt = 13 then 1 else 0)) ∧ (if (op n'.toNatClampNeg).toInt = 12 ∨ (op n'.toNatClampNeg).toInt = 13 then 1 else 0) ≤ p := by
  obtain ⟨h1, h2, h3⟩ := h
  have en : n'.toNatClampNeg = n'.toInt.toNat := rfl
  have e1 : n.toInt.toNat = n'.toNatClampNeg + 1 := by omega
  rw [e1] at h3
  have h4 : pnd op n'.toNatClampNeg + (if (op n'.toNatClampNeg).toInt = 12 ∨ (op n'.toNatClampNeg).toInt = 13 then 1 else 0) = p := h3
  exact ⟨⟨by omega, fun k hk => h2 k (by omega), by rw [← en]; omega⟩, by omega⟩
def LSR (op : Nat → Int32) (n : Int32) (sg ln : Nat → Int32) (t b md : Int32) : Prop := ∃ p : Nat, OpS op n p ∧ Cd sg ln t b md (p + 1)
theorem LSR.pop {op : Nat → Int32} {n n' x : Int32} {sg ln : Nat → Int32} {t b md : Int32} (h : LSR op n sg ln t b md) (hn : n'.toInt = n.toInt - 1) (hl : 1 ≤ n.toInt) (ex : x = op n'.toNatClampNeg) (hx : x.toInt = 11 ∨ x.toInt = 12 ∨ x.toInt = 13) : ∃ d e : Nat, Cd sg ln t b md d ∧ StpR x 0 d e ∧ (e : Int) ≤ md.toInt ∧ ∀ sg' ln', Cd sg' ln' t b md e → LSR op n' sg' ln' t b md := by
  obtain ⟨p, h1, h2⟩ := h
  obtain ⟨h3, h4⟩ := h1.pop hn hl
  rw [← ex] at h3 h4
  have hd := h2.1
  by_cases z : x.toInt = 11
  · have e : x = 11 := Int32.toInt_inj.mp (by rw [z]; decide)
    rw [if_neg (by omega)] at h3
    rw [Nat.sub_zero] at h3
    refine ⟨p + 1, p + 1, h2, ?_, by omega, fun sg' ln' hc => ⟨p, h3, hc⟩⟩
    rw [e]
    exact StpR.not (by omega)
  · have hq : x = 12 ∨ x = 13 := by
      rcases hx with q | q | q
      · exact absurd q z
      · exact .inl (Int32.toInt_inj.mp (by rw [q]; decide))
      · exact .inr (Int32.toInt_inj.mp (by rw [q]; decide))
    rw [if_pos (by omega)] at h3 h4
    refine ⟨p + 1, p, h2, StpR.op ?_ rfl h4, by omega, fun sg' ln' hc => ⟨p - 1, h3, ?_⟩⟩
    · rcases hq with q | q
      · exact .inr (.inr (.inr (.inr (.inr (.inr (.inr (.inr (.inr (.inl q)))))))))
      · exact .inr (.inr (.inr (.inr (.inr (.inr (.inr (.inr (.inr (.inr (.inl q))))))))))
    · rw [show p - 1 + 1 = p by omega]
      exact hc
def LdE (op : Nat → Int32) (n least : Int32) : Prop := n.toInt = 0 ∨ ((1 ≤ least.toInt → (op (n.toInt.toNat - 1)).toInt ≠ 13 ∧ (op (n.toInt.toNat - 1)).toInt ≠ 12 ∧ (op (n.toInt.toNat - 1)).toInt ≠ 11) ∨ 1 < least.toInt)
def NIns (op : Nat → Int32) (n : Int32) : Prop := ∀ k : Nat, (k : Int) < n.toInt → (op k).toInt ≠ 91
theorem LSR.drop {op : Nat → Int32} {n n' least : Int32} {sg ln : Nat → Int32} {t b md : Int32} (h : LSR op n sg ln t b md) (hE : LdE op n least) (hl : least.toInt = 1) (h1 : 1 ≤ n.toInt) (hn : n'.toInt = n.toInt - 1) : LSR op n' sg ln t b md := by
  obtain ⟨p, h2, h3⟩ := h
  obtain ⟨h4, h5⟩ := h2.pop hn h1
  have e : n'.toNatClampNeg = n.toInt.toNat - 1 := by
    show n'.toInt.toNat = _
    omega
  have hz : (op n'.toNatClampNeg).toInt ≠ 13 ∧ (op n'.toNatClampNeg).toInt ≠ 12 ∧ (op n'.toNatClampNeg).toInt ≠ 11 := by
    rw [e]
    rcases hE with z | z | z
    · omega
    · exact z (by omega)
    · omega
  rw [if_neg (by omega), Nat.sub_zero] at h4
  exact ⟨p, h4, h3⟩
theorem LSR.fin {op : Nat → Int32} {n m least : Int32} {sg ln : Nat → Int32} {t b md : Int32} (h : LSR op n sg ln t b md) (hE : LdE op n least) (hl : least.toInt = 1) (hN : NIns op m) (hm : n.toInt ≤ m.toInt) : Cd sg ln t b md 1 := by
  obtain ⟨p, h2, h3⟩ := h
  have hz : n.toInt = 0 := by
    rcases hE with z | z | z
    · exact z
    · by_cases q : n.toInt = 0
      · exact q
      · have h0 := h2.1
        have hv := h2.2.1 (n.toInt.toNat - 1) (by omega)
        have hw := hN (n.toInt.toNat - 1) (by omega)
        have hq := z (by omega)
        omega
    · omega
  have hp := h2.2.2
  rw [hz] at hp
  have : p = 0 := hp.symm
  subst this
  exact h3
def RdC (f g : Nat → Int32) (c : Int32) : Prop := ∀ i : Nat, i ≠ c.toNatClampNeg → g i = f i
def ClV (cl : Nat → Int32) (A j : Nat) (v : Int32) : Prop := cl (A + j) = v
theorem ClV.put {cl cl' : Nat → Int32} {A j : Nat} {i x : Int32} (e : cl' = upd cl i.toNatClampNeg x) (hi : i.toInt = (A : Int) + (j : Int)) : ClV cl' A j x := by
  unfold ClV
  rw [e, clN (i := i) (n := A + j) (by omega), upd_at]
/-! the readers' language as functions of the bytes (-1 behind the last one): what class and reference have in common -/
def pz_run (P : Int → Bool) (B : Nat → Int) : Nat → Nat → Nat
  | 0, p => p
  | k + 1, p => if P (B p) = true then pz_run P B k (p + 1) else p
theorem pz_run_eq {P : Int → Bool} {B : Nat → Int} : ∀ (k p q : Nat), p ≤ q → q < p + k → (∀ i, p ≤ i → i < q → P (B i) = true) → ¬ P (B q) = true → pz_run P B k p = q
  | 0, p, q, h1, h2, h3, h4 => by omega
  | k + 1, p, q, h1, h2, h3, h4 => by
    unfold pz_run
    by_cases z : p = q
    · subst z; rw [if_neg h4]
    · rw [if_pos (h3 p (Nat.le_refl _) (by omega))]
      exact pz_run_eq k (p + 1) q (by omega) (by omega) (fun i a b => h3 i (by omega) b) h4
theorem pz_run_ge {P : Int → Bool} {B : Nat → Int} : ∀ (k p : Nat), p ≤ pz_run P B k p
  | 0, p => Nat.le_refl _
  | k + 1, p => by
    unfold pz_run
    by_cases z : P (B p) = true
    · rw [if_pos z]; exact Nat.le_trans (Nat.le_succ p) (pz_run_ge k (p + 1))
    · rw [if_neg z]; exact Nat.le_refl _
theorem pz_run_gt {P : Int → Bool} {B : Nat → Int} {k p : Nat} (h : P (B p) = true) : p + 1 ≤ pz_run P B (k + 1) p := by
  unfold pz_run
  rw [if_pos h]
  exact pz_run_ge k (p + 1)
def pz_isS (x : Int) : Bool := decide (x = 32)
def pz_isL (x : Int) : Bool := decide (97 ≤ x ∧ x ≤ 122)
def pz_isD (x : Int) : Bool := decide (48 ≤ x ∧ x ≤ 57)
def pz_sk (B : Nat → Int) (p : Nat) : Nat := pz_run pz_isS B 401 p
def pz_te (B : Nat → Int) (p : Nat) : Nat := if pz_isL (B p) = true then pz_run pz_isL B 401 p else if pz_isD (B p) = true then pz_run pz_isD B 401 p else if B p = -1 then p else if (B p = 60 ∨ B p = 62) ∧ B (p + 1) = 61 then p + 2 else p + 1
def pz_nt (B : Nat → Int) (p : Nat) : Nat := pz_sk B (pz_te B p)
theorem pz_te_gt {B : Nat → Int} {p : Nat} (h : B p ≠ -1) : p + 1 ≤ pz_te B p := by
  unfold pz_te
  split
  · exact pz_run_gt ‹_›
  · split
    · exact pz_run_gt ‹_›
    · split <;> omega
theorem pz_nt_gt {B : Nat → Int} {p : Nat} (h : B p ≠ -1) : p + 1 ≤ pz_nt B p := Nat.le_trans (pz_te_gt h) (pz_run_ge _ _)
def pz_b {S T : Type} (r : Except Int S) (f : S → Except Int T) : Except Int T := match r with
  | .error e => .error e
  | .ok s => f s
theorem pz_b_ok {S T : Type} {s : S} {f : S → Except Int T} : pz_b (.ok s) f = f s := rfl
theorem pz_b_er {S T : Type} {e : Int} {f : S → Except Int T} : pz_b (.error e) f = .error e := rfl
theorem pz_b_as {S T U : Type} {r : Except Int S} {f : S → Except Int T} {g : T → Except Int U} : pz_b (pz_b r f) g = pz_b r (fun s => pz_b (f s) g) := by cases r <;> rfl
theorem pz_b_id {S : Type} {r : Except Int S} : pz_b r .ok = r := by cases r <;> rfl
def pz_it {S : Type} (F : S → Option (Except Int S)) : Nat → S → Except Int S
  | 0, s => .ok s
  | k + 1, s => match F s with
    | none => .ok s
    | some r => pz_b r (pz_it F k)
/-- each turn of a loop goes on along the bytes -/
def pz_pr {S : Type} (pos : S → Nat) (F : S → Option (Except Int S)) : Prop := ∀ s r, F s = some r → pos s < 400 ∧ ∀ s', r = .ok s' → pos s < pos s'
theorem pz_it_big {S : Type} {pos : S → Nat} {F : S → Option (Except Int S)} (hF : pz_pr pos F) : ∀ (k : Nat) (s : S), 400 ≤ pos s + k → pz_it F (k + 1) s = pz_it F k s := by
  intro k
  induction k with
  | zero =>
    intro s h
    show (match F s with | none => Except.ok s | some r => pz_b r (pz_it F 0)) = Except.ok s
    cases e : F s with
    | none => rfl
    | some r => exact absurd (hF s r e).1 (by omega)
  | succ k ih =>
    intro s h
    show (match F s with | none => Except.ok s | some r => pz_b r (pz_it F (k + 1))) = (match F s with | none => Except.ok s | some r => pz_b r (pz_it F k))
    cases e : F s with
    | none => rfl
    | some r =>
      cases r with
      | error z => rfl
      | ok s' =>
        have := (hF s _ e).2 s' rfl
        exact ih s' (by omega)
def pz_lp {S : Type} (F : S → Option (Except Int S)) (s : S) : Except Int S := pz_it F 401 s
theorem pz_lp_no {S : Type} {F : S → Option (Except Int S)} {s : S} (h : F s = none) : pz_lp F s = .ok s := by
  show (match F s with | none => Except.ok s | some r => pz_b r (pz_it F 400)) = Except.ok s
  rw [h]
theorem pz_lp_on {S : Type} {pos : S → Nat} {F : S → Option (Except Int S)} (hF : pz_pr pos F) {s : S} {r : Except Int S} (h : F s = some r) : pz_lp F s = pz_b r (pz_lp F) := by
  show (match F s with | none => Except.ok s | some r => pz_b r (pz_it F 400)) = pz_b r (pz_it F 401)
  rw [h]
  cases r with
  | error z => show pz_b (Except.error z) (pz_it F 400) = _; rw [pz_b_er, pz_b_er]
  | ok s' =>
    have e : pz_it F (400 + 1) s' = pz_it F 400 s' := pz_it_big hF 400 s' (Nat.le_add_left _ _)
    have e' : (400 + 1 : Nat) = 401 := rfl
    rw [e'] at e
    show pz_b (Except.ok s') (pz_it F 400) = _
    rw [pz_b_ok, pz_b_ok, e]
/-- a loop goes on, or stays where it is -/
theorem pz_it_ge {S : Type} {pos : S → Nat} {F : S → Option (Except Int S)} (hF : pz_pr pos F) : ∀ (k : Nat) (s s' : S), pz_it F k s = .ok s' → pos s ≤ pos s' := by
  intro k
  induction k with
  | zero => intro s s' h; cases h; exact Nat.le_refl _
  | succ k ih =>
    intro s s' h
    have h : (match F s with | none => Except.ok s | some r => pz_b r (pz_it F k)) = Except.ok s' := h
    cases e : F s with
    | none => rw [e] at h; cases h; exact Nat.le_refl _
    | some r =>
      rw [e] at h
      cases r with
      | error z => cases h
      | ok s1 =>
        have h1 := (hF s _ e).2 s1 rfl
        have h2 := ih s1 s' h
        omega
theorem pz_lp_ge {S : Type} {pos : S → Nat} {F : S → Option (Except Int S)} (hF : pz_pr pos F) {s s' : S} (h : pz_lp F s = .ok s') : pos s ≤ pos s' := pz_it_ge hF 401 s s' h
/-- nothing stands behind the last byte -/
def pz_fi (B : Nat → Int) : Prop := ∀ k, 400 ≤ k → B k = -1
theorem pz_fi.lt {B : Nat → Int} (h : pz_fi B) {p : Nat} (hp : B p ≠ -1) : p < 400 := Nat.lt_of_not_le (fun z => hp (h p z))
def pz_er (k : Int) (p : Nat) : Int := 1 + 8 * (p : Int) + k
/-- the number of k digits from p on -/
def pz_nv (B : Nat → Int) (p : Nat) : Nat → Int
  | 0 => 0
  | k + 1 => 10 * pz_nv B p k + (B (p + k) - 48)
def pz_num (B : Nat → Int) (lo hi : Int) (p : Nat) : Except Int Int := if pz_isD (B p) = true then (if 5 < pz_te B p - p then .error (pz_er 1 p) else if pz_nv B p (pz_te B p - p) < lo ∨ hi < pz_nv B p (pz_te B p - p) then .error (pz_er 1 p) else .ok (pz_nv B p (pz_te B p - p))) else .error (pz_er 0 p)
def pz_wd (B : Nat → Int) (p : Nat) (w : List Int) : Bool := decide (pz_te B p = p + w.length ∧ ∀ i, i < w.length → B (p + i) = w.getD i 0)
/-- which of the words stands there -/
def pz_wa (B : Nat → Int) (p : Nat) : List (List Int) → Int → Int
  | [], _ => -1
  | w :: t, k => if pz_wd B p w = true then k else pz_wa B p t (k + 1)
theorem pz_wa_hit {B : Nat → Int} {p : Nat} : ∀ (ws : List (List Int)) (k : Int), 0 ≤ k → pz_wa B p ws k ≠ -1 → ∃ w ∈ ws, pz_wd B p w = true
  | [], k, _, h => absurd rfl h
  | w :: t, k, h0, h => by
    by_cases z : pz_wd B p w = true
    · exact ⟨w, List.mem_cons_self, z⟩
    · have e : pz_wa B p (w :: t) k = pz_wa B p t (k + 1) := by show (if _ then _ else _) = _; rw [if_neg z]
      rw [e] at h
      obtain ⟨v, hv, hw⟩ := pz_wa_hit t (k + 1) (by omega) h
      exact ⟨v, List.mem_cons_of_mem _ hv, hw⟩
def pz_buyer : List Int := [98, 117, 121, 101, 114]
def pz_words : List (List Int) := [pz_buyer, [116, 101, 109, 112, 101, 114], [103, 114, 97, 105, 110, 115], [119, 97, 105, 116, 115], [115, 116, 105, 108, 108], [110, 101, 120, 116], [115, 104, 101, 108, 102], [98, 111, 117, 103, 104, 116], [109, 101, 116], [115, 105, 110, 99, 101], [115, 111, 108, 100], [99, 108, 111, 99, 107], [100, 97, 121]]
def pz_book : List Int := [98, 111, 111, 107]
def pz_sky : List Int := [115, 107, 121]
def pz_watch : List Int := [119, 97, 116, 99, 104]
def pz_buy : List Int := [98, 117, 121]
def pz_if : List Int := [105, 102]
def pz_not : List Int := [110, 111, 116]
def pz_and : List Int := [97, 110, 100]
def pz_or : List Int := [111, 114]
/-- a word that is not empty stands on a byte -/
theorem pz_wd_ne {B : Nat → Int} {p : Nat} {w : List Int} (h : pz_wd B p w = true) (hw : 0 < w.length) (h1 : w.getD 0 0 ≠ -1) : B p ≠ -1 := by
  have := (of_decide_eq_true h).2 0 hw
  rw [Nat.add_zero] at this
  rw [this]
  exact h1
section PZ
variable (B : Nat → Int)
def pz_nx (s : Nat × Nat) : Nat × Nat := (pz_nt B s.1, s.2)
/-- one more that is counted: 60 are most -/
def pz_cnt (s : Nat × Nat) : Except Int (Nat × Nat) := if 60 ≤ s.2 then .error (pz_er 3 s.1) else .ok (pz_nt B s.1, s.2 + 1)
def pz_val (s : Nat × Nat) : Except Int (Nat × Nat) := if pz_isD (B s.1) = true then pz_b (pz_num B 0 99999 s.1) (fun _ => pz_cnt B s) else if pz_wa B s.1 pz_words 0 = -1 then .error (pz_er 0 s.1) else pz_cnt B s
def pz_op (x : Int) : Prop := x = 43 ∨ x = 45 ∨ x = 42 ∨ x = 47 ∨ x = 37
def pz_sF (s : Nat × Nat) : Option (Except Int (Nat × Nat)) := if B s.1 = 43 ∨ B s.1 = 45 ∨ B s.1 = 42 ∨ B s.1 = 47 ∨ B s.1 = 37 then some (pz_val B (pz_nx B s)) else none
def pz_sum (s : Nat × Nat) : Except Int (Nat × Nat) := pz_b (pz_val B s) (pz_lp (pz_sF B))
def pz_cmp (s : Nat × Nat) : Except Int (Nat × Nat) := if B s.1 = 60 ∨ B s.1 = 61 ∨ B s.1 = 62 then pz_cnt B s else .error (pz_er 0 s.1)
def pz_com (s : Nat × Nat) : Except Int (Nat × Nat) := pz_b (pz_b (pz_sum B s) (pz_cmp B)) (pz_sum B)
def pz_tF (f : Nat × Nat → Except Int (Nat × Nat)) (s : Nat × Nat) : Option (Except Int (Nat × Nat)) := if pz_wd B s.1 pz_and = true ∨ pz_wd B s.1 pz_or = true then some (f (pz_nx B s)) else none
def pz_rb (s : Nat × Nat) : Except Int (Nat × Nat) := if B s.1 = 93 then .ok (pz_nx B s) else .error (pz_er 0 s.1)
def pz_tst (f : Nat × Nat → Except Int (Nat × Nat)) (s : Nat × Nat) : Except Int (Nat × Nat) := pz_b (f s) (pz_lp (pz_tF B f))
def pz_fact : Nat → Nat × Nat → Except Int (Nat × Nat)
  | 0, s => if pz_wd B s.1 pz_not = true ∨ B s.1 = 91 then .error (pz_er 2 s.1) else pz_com B s
  | m + 1, s => if pz_wd B s.1 pz_not = true then pz_fact m (pz_nx B s) else if B s.1 = 91 then pz_b (pz_tst B (pz_fact m) (pz_nx B s)) (pz_rb B) else pz_com B s
/-- a clause: buy, a sum, and a test perhaps -/
def pz_cla (l : Nat) (s : Nat × Nat) : Except Int (Nat × Nat) := if pz_wd B s.1 pz_buy = true then (if l = 12 then .error (pz_er 4 s.1) else pz_b (pz_sum B (pz_nx B s)) (fun t => if pz_wd B t.1 pz_if = true then pz_tst B (pz_fact B 10) (pz_nx B t) else .ok t)) else .error (pz_er 0 s.1)
def pz_rF (u : (Nat × Nat) × Nat) : Option (Except Int ((Nat × Nat) × Nat)) := if B u.1.1 = 59 then some (pz_b (pz_cla B u.2 (pz_nx B u.1)) (fun t => .ok (t, u.2 + 1))) else none
def pz_end (p : Nat) : Except Int Nat := if B p = -1 then .ok p else .error (pz_er 0 p)
/-- a rule's text: the fault, or none -/
def pz_rule : Except Int Nat := pz_b (pz_b (pz_b (pz_cla B 0 (pz_sk B 0, 0)) (fun t => .ok (t, 1))) (pz_lp (pz_rF B))) (fun u => pz_end B u.1.1)
end PZ
/-! all of them go on along the bytes -/
section PZP
variable {B : Nat → Int}
theorem pz_cnt_gt {s t : Nat × Nat} (h : pz_cnt B s = .ok t) (hb : B s.1 ≠ -1) : s.1 < t.1 := by
  unfold pz_cnt at h
  by_cases z : 60 ≤ s.2
  · rw [if_pos z] at h; cases h
  · rw [if_neg z] at h; cases h; exact pz_nt_gt hb
theorem pz_isD_ne {x : Int} (h : pz_isD x = true) : x ≠ -1 := by
  have := of_decide_eq_true h
  omega
theorem pz_words_ne : ∀ w ∈ pz_words, 0 < w.length ∧ w.getD 0 0 ≠ -1 := by decide
theorem pz_val_gt {s t : Nat × Nat} (h : pz_val B s = .ok t) : B s.1 ≠ -1 ∧ s.1 < t.1 := by
  unfold pz_val at h
  by_cases z : pz_isD (B s.1) = true
  · rw [if_pos z] at h
    have hb := pz_isD_ne z
    cases e : pz_num B 0 99999 s.1 with
    | error x => rw [e] at h; cases h
    | ok x => rw [e] at h; exact ⟨hb, pz_cnt_gt h hb⟩
  · rw [if_neg z] at h
    by_cases y : pz_wa B s.1 pz_words 0 = -1
    · rw [if_pos y] at h; cases h
    · rw [if_neg y] at h
      obtain ⟨w, hw, hd⟩ := pz_wa_hit pz_words 0 (Int.le_refl _) y
      have hb := pz_wd_ne hd (pz_words_ne w hw).1 (pz_words_ne w hw).2
      exact ⟨hb, pz_cnt_gt h hb⟩
theorem pz_sF_pr (hB : pz_fi B) : pz_pr (fun s : Nat × Nat => s.1) (pz_sF B) := by
  intro s r h
  unfold pz_sF at h
  by_cases z : B s.1 = 43 ∨ B s.1 = 45 ∨ B s.1 = 42 ∨ B s.1 = 47 ∨ B s.1 = 37
  · rw [if_pos z] at h
    have hb : B s.1 ≠ -1 := by omega
    refine ⟨hB.lt hb, fun t ht => ?_⟩
    cases h
    have h1 := (pz_val_gt ht).2
    have h2 := pz_nt_gt hb
    have h3 : (pz_nx B s).1 = pz_nt B s.1 := rfl
    show s.1 < t.1
    omega
  · rw [if_neg z] at h; cases h
theorem pz_sum_gt (hB : pz_fi B) {s t : Nat × Nat} (h : pz_sum B s = .ok t) : B s.1 ≠ -1 ∧ s.1 < t.1 := by
  unfold pz_sum at h
  cases e : pz_val B s with
  | error x => rw [e] at h; cases h
  | ok s1 =>
    rw [e] at h
    have h1 := pz_val_gt e
    have h2 : s1.1 ≤ t.1 := pz_lp_ge (pz_sF_pr hB) h
    exact ⟨h1.1, by omega⟩
theorem pz_com_gt (hB : pz_fi B) {s t : Nat × Nat} (h : pz_com B s = .ok t) : B s.1 ≠ -1 ∧ s.1 < t.1 := by
  unfold pz_com at h
  cases e : pz_sum B s with
  | error x => rw [e] at h; cases h
  | ok s1 =>
    rw [e] at h
    have h1 := pz_sum_gt hB e
    have h : pz_b (pz_cmp B s1) (pz_sum B) = .ok t := h
    cases e2 : pz_cmp B s1 with
    | error x => rw [e2] at h; cases h
    | ok s2 =>
      rw [e2] at h
      have h3 := pz_sum_gt hB h
      unfold pz_cmp at e2
      by_cases z : B s1.1 = 60 ∨ B s1.1 = 61 ∨ B s1.1 = 62
      · rw [if_pos z] at e2
        have := pz_cnt_gt e2 (by omega)
        exact ⟨h1.1, by omega⟩
      · rw [if_neg z] at e2; cases e2
theorem pz_and_ne {p : Nat} (h : pz_wd B p pz_and = true ∨ pz_wd B p pz_or = true) : B p ≠ -1 := by
  rcases h with h | h
  · exact pz_wd_ne h (by decide) (by decide)
  · exact pz_wd_ne h (by decide) (by decide)
theorem pz_tF_pr (hB : pz_fi B) {f : Nat × Nat → Except Int (Nat × Nat)} (hf : ∀ s t, f s = .ok t → B s.1 ≠ -1 ∧ s.1 < t.1) : pz_pr (fun s : Nat × Nat => s.1) (pz_tF B f) := by
  intro s r h
  unfold pz_tF at h
  by_cases z : pz_wd B s.1 pz_and = true ∨ pz_wd B s.1 pz_or = true
  · rw [if_pos z] at h
    have hb : B s.1 ≠ -1 := pz_and_ne z
    refine ⟨hB.lt hb, fun t ht => ?_⟩
    cases h
    have h1 := (hf _ _ ht).2
    have h2 := pz_nt_gt hb
    have h3 : (pz_nx B s).1 = pz_nt B s.1 := rfl
    show s.1 < t.1
    omega
  · rw [if_neg z] at h; cases h
theorem pz_tst_gt (hB : pz_fi B) {f : Nat × Nat → Except Int (Nat × Nat)} (hf : ∀ s t, f s = .ok t → B s.1 ≠ -1 ∧ s.1 < t.1) {s t : Nat × Nat} (h : pz_tst B f s = .ok t) : B s.1 ≠ -1 ∧ s.1 < t.1 := by
  unfold pz_tst at h
  cases e : f s with
  | error x => rw [e] at h; cases h
  | ok s1 =>
    rw [e] at h
    have h1 := hf _ _ e
    have h2 : s1.1 ≤ t.1 := pz_lp_ge (pz_tF_pr hB hf) h
    exact ⟨h1.1, by omega⟩
theorem pz_not_ne {p : Nat} (h : pz_wd B p pz_not = true) : B p ≠ -1 := pz_wd_ne h (by decide) (by decide)
theorem pz_fact_gt (hB : pz_fi B) : ∀ (m : Nat) (s t : Nat × Nat), pz_fact B m s = .ok t → B s.1 ≠ -1 ∧ s.1 < t.1
  | 0, s, t, h => by
    unfold pz_fact at h
    by_cases z : pz_wd B s.1 pz_not = true ∨ B s.1 = 91
    · rw [if_pos z] at h; cases h
    · rw [if_neg z] at h; exact pz_com_gt hB h
  | m + 1, s, t, h => by
    unfold pz_fact at h
    by_cases z : pz_wd B s.1 pz_not = true
    · rw [if_pos z] at h
      have h1 := (pz_fact_gt hB m _ _ h).2
      have hb := pz_not_ne z
      have h2 := pz_nt_gt hb
      have h3 : (pz_nx B s).1 = pz_nt B s.1 := rfl
      exact ⟨hb, by omega⟩
    · rw [if_neg z] at h
      by_cases y : B s.1 = 91
      · rw [if_pos y] at h
        have hb : B s.1 ≠ -1 := by omega
        cases e : pz_tst B (pz_fact B m) (pz_nx B s) with
        | error x => rw [e] at h; cases h
        | ok s1 =>
          rw [e] at h
          have h1 := (pz_tst_gt hB (pz_fact_gt hB m) e).2
          have h : pz_rb B s1 = .ok t := h
          unfold pz_rb at h
          by_cases x : B s1.1 = 93
          · rw [if_pos x] at h
            cases h
            have h2 := pz_nt_gt hb
            have h3 : (pz_nx B s).1 = pz_nt B s.1 := rfl
            have h4 := pz_nt_gt (B := B) (p := s1.1) (by omega)
            have h5 : (pz_nx B s1).1 = pz_nt B s1.1 := rfl
            exact ⟨hb, by omega⟩
          · rw [if_neg x] at h; cases h
      · rw [if_neg y] at h; exact pz_com_gt hB h
/-! the loops' turns -/
theorem pz_sum_on (hB : pz_fi B) {s : Nat × Nat} (h : B s.1 = 43 ∨ B s.1 = 45 ∨ B s.1 = 42 ∨ B s.1 = 47 ∨ B s.1 = 37) : pz_lp (pz_sF B) s = pz_sum B (pz_nx B s) := pz_lp_on (pz_sF_pr hB) (if_pos h)
theorem pz_sum_no {s : Nat × Nat} (h : ¬ (B s.1 = 43 ∨ B s.1 = 45 ∨ B s.1 = 42 ∨ B s.1 = 47 ∨ B s.1 = 37)) : pz_lp (pz_sF B) s = .ok s := pz_lp_no (if_neg h)
theorem pz_tst_on (hB : pz_fi B) {m : Nat} {s : Nat × Nat} (h : pz_wd B s.1 pz_and = true ∨ pz_wd B s.1 pz_or = true) : pz_lp (pz_tF B (pz_fact B m)) s = pz_tst B (pz_fact B m) (pz_nx B s) := pz_lp_on (pz_tF_pr hB (pz_fact_gt hB m)) (if_pos h)
theorem pz_tst_no {f : Nat × Nat → Except Int (Nat × Nat)} {s : Nat × Nat} (h : ¬ (pz_wd B s.1 pz_and = true ∨ pz_wd B s.1 pz_or = true)) : pz_lp (pz_tF B f) s = .ok s := pz_lp_no (if_neg h)
/-! what is still to be read, by the brackets that are open: of each the depth that is left -/
def pz_K (B : Nat → Int) : List Nat → Except Int (Nat × Nat) → Except Int (Nat × Nat)
  | [], r => r
  | [m], r => pz_b r (pz_lp (pz_tF B (pz_fact B m)))
  | m :: m' :: ms, r => pz_K B (m' :: ms) (pz_b (pz_b r (pz_lp (pz_tF B (pz_fact B m)))) (pz_rb B))
theorem pz_K_er {e : Int} : ∀ (S : List Nat), pz_K B S (.error e) = .error e
  | [] => rfl
  | [_] => rfl
  | _ :: m' :: ms => pz_K_er (m' :: ms)
/-- a not: one level less is left -/
theorem pz_K_not {S : List Nat} {m : Nat} {s : Nat × Nat} (h : pz_wd B s.1 pz_not = true) : pz_K B S (pz_fact B (m + 1) s) = pz_K B S (pz_fact B m (pz_nx B s)) := by
  rw [show pz_fact B (m + 1) s = pz_fact B m (pz_nx B s) from if_pos h]
/-- a bracket opens -/
theorem pz_K_open {S : List Nat} {m m' : Nat} {s : Nat × Nat} (h : ¬ pz_wd B s.1 pz_not = true) (h1 : B s.1 = 91) : pz_K B (m' :: S) (pz_fact B (m + 1) s) = pz_K B (m :: m' :: S) (pz_fact B m (pz_nx B s)) := by
  rw [show pz_fact B (m + 1) s = pz_b (pz_tst B (pz_fact B m) (pz_nx B s)) (pz_rb B) from (if_neg h).trans (if_pos h1)]
  rfl
theorem pz_K_deep {S : List Nat} {s : Nat × Nat} (h : pz_wd B s.1 pz_not = true ∨ B s.1 = 91) : pz_K B S (pz_fact B 0 s) = .error (pz_er 2 s.1) := by
  rw [show pz_fact B 0 s = .error (pz_er 2 s.1) from if_pos h]
  exact pz_K_er S
theorem pz_K_com {S : List Nat} {m : Nat} {s : Nat × Nat} (h : ¬ pz_wd B s.1 pz_not = true) (h1 : ¬ B s.1 = 91) : pz_K B S (pz_fact B m s) = pz_K B S (pz_com B s) := by
  cases m with
  | zero => rw [show pz_fact B 0 s = pz_com B s from if_neg (by intro z; rcases z with z | z; exact h z; exact h1 z)]
  | succ m => rw [show pz_fact B (m + 1) s = pz_com B s from (if_neg h).trans (if_neg h1)]
/-- a bracket closes -/
theorem pz_K_close {S : List Nat} {m m' : Nat} {s : Nat × Nat} (h : B s.1 = 93) : pz_K B (m :: m' :: S) (.ok s) = pz_K B (m' :: S) (.ok (pz_nx B s)) := by
  have e : pz_lp (pz_tF B (pz_fact B m)) s = .ok s := pz_tst_no (fun z => by
    rcases z with z | z
    · have := (of_decide_eq_true z).2 0 (by decide)
      rw [Nat.add_zero, h] at this
      exact absurd this (by decide)
    · have := (of_decide_eq_true z).2 0 (by decide)
      rw [Nat.add_zero, h] at this
      exact absurd this (by decide))
  show pz_K B (m' :: S) (pz_b (pz_b (.ok s) (pz_lp (pz_tF B (pz_fact B m)))) (pz_rb B)) = _
  rw [show pz_b (Except.ok s) (pz_lp (pz_tF B (pz_fact B m))) = pz_lp (pz_tF B (pz_fact B m)) s from rfl, e]
  rw [show pz_b (Except.ok s) (pz_rb B) = pz_rb B s from rfl, show pz_rb B s = .ok (pz_nx B s) from if_pos h]
/-- and, or -/
theorem pz_K_and (hB : pz_fi B) {S : List Nat} {m : Nat} {s : Nat × Nat} (h : pz_wd B s.1 pz_and = true ∨ pz_wd B s.1 pz_or = true) : pz_K B (m :: S) (.ok s) = pz_K B (m :: S) (pz_fact B m (pz_nx B s)) := by
  have e := pz_tst_on hB (m := m) h
  cases S with
  | nil => exact e
  | cons m' S =>
    show pz_K B (m' :: S) (pz_b (pz_lp (pz_tF B (pz_fact B m)) s) (pz_rb B)) = pz_K B (m' :: S) (pz_b (pz_b (pz_fact B m (pz_nx B s)) (pz_lp (pz_tF B (pz_fact B m)))) (pz_rb B))
    rw [e]
    rfl
theorem pz_K_in {S : List Nat} {m m' : Nat} {s : Nat × Nat} (h : ¬ (pz_wd B s.1 pz_and = true ∨ pz_wd B s.1 pz_or = true)) (h1 : ¬ B s.1 = 93) : pz_K B (m :: m' :: S) (.ok s) = .error (pz_er 0 s.1) := by
  show pz_K B (m' :: S) (pz_b (pz_lp (pz_tF B (pz_fact B m)) s) (pz_rb B)) = _
  rw [pz_tst_no h]
  rw [show pz_b (Except.ok s) (pz_rb B) = pz_rb B s from rfl, show pz_rb B s = .error (pz_er 0 s.1) from if_neg h1]
  exact pz_K_er _
theorem pz_K_out {m : Nat} {s : Nat × Nat} (h : ¬ (pz_wd B s.1 pz_and = true ∨ pz_wd B s.1 pz_or = true)) : pz_K B [m] (.ok s) = .ok s := pz_tst_no h
end PZP
def cB (f : Nat → Int32) (n : Int32) (k : Nat) : Int := if (k : Int) < n.toInt then (f k).toInt else -1
theorem cB_out {f : Nat → Int32} {n : Int32} {k : Nat} (h : n.toInt ≤ (k : Int)) : cB f n k = -1 := if_neg (by omega)
theorem cB_fi {f : Nat → Int32} {n : Int32} (h : n.toInt ≤ 400) : pz_fi (cB f n) := fun k hk => cB_out (by omega)
def Rn (P : Int → Bool) (f : Nat → Int32) (n p q : Int32) : Prop := p.toInt ≤ q.toInt ∧ ∀ i : Nat, p.toInt ≤ (i : Int) → (i : Int) < q.toInt → P (cB f n i) = true
def TpR (f : Nat → Int32) (n : Int32) (r : Except Int (Nat × Nat)) (a b c d : Int32) : Prop := match r with
  | .error e => d.toInt = e ∧ e ≠ 0 ∧ c.toInt = -1
  | .ok s => d.toInt = 0 ∧ a.toInt = (s.1 : Int) ∧ b.toInt = (pz_te (cB f n) s.1 : Int) ∧ c.toInt = cB f n s.1
def TpB (r : Except Int (Nat × Nat)) (b d : Int32) : Prop := match r with
  | .error e => d.toInt = e ∧ e ≠ 0
  | .ok s => d.toInt = 0 ∧ b.toInt = (s.1 : Int)
def rSK (B : Nat → Int) (r : Except Int (Nat × Nat)) : Except Int (Nat × Nat) := pz_b r (fun s => .ok (pz_sk B s.1, s.2))
def rNX (B : Nat → Int) (r : Except Int (Nat × Nat)) : Except Int (Nat × Nat) := pz_b r (fun s => .ok (pz_nx B s))
def rER (k : Int) (r : Except Int (Nat × Nat)) : Except Int (Nat × Nat) := pz_b r (fun s => .error (pz_er k s.1))
def rNU (B : Nat → Int) (lo hi : Int) (r : Except Int (Nat × Nat)) : Except Int (Nat × Nat) := pz_b r (fun s => pz_b (pz_num B lo hi s.1) (fun _ => .ok s))
def rEN (B : Nat → Int) (r : Except Int (Nat × Nat)) : Except Int (Nat × Nat) := pz_b r (fun s => pz_b (pz_end B s.1) (fun _ => .ok s))
theorem TpB.er {f : Nat → Int32} {n : Int32} {r : Except Int (Nat × Nat)} {g : Nat × Nat → Except Int (Nat × Nat)} {a b b' c d : Int32} (h : TpB r b d) (hd : ¬ d.toInt = 0) (hc : c.toInt = -1) : TpR f n (pz_b r g) a b' c d := by
  cases r with
  | error e => exact ⟨h.1, h.2, hc⟩
  | ok s => exact absurd h.1 hd
theorem TpR.er {f : Nat → Int32} {n : Int32} {r : Except Int (Nat × Nat)} {g : Nat × Nat → Except Int (Nat × Nat)} {a b c d a' b' : Int32} (h : TpR f n r a b c d) (hd : ¬ d.toInt = 0) : TpR f n (pz_b r g) a' b' c d := by
  cases r with
  | error e => exact h
  | ok s => exact absurd h.1 hd
theorem TpR.fault0 {f : Nat → Int32} {n : Int32} {r : Except Int (Nat × Nat)} {a b c d : Int32} (h : TpR f n r a b c d) (hd : d.toInt = 0) : ∃ s, r = .ok s ∧ a.toInt = (s.1 : Int) ∧ b.toInt = (pz_te (cB f n) s.1 : Int) ∧ c.toInt = cB f n s.1 ∧ s.1 = a.toInt.toNat := by
  cases r with
  | error e => exact absurd (h.1.symm.trans hd) h.2.1
  | ok s => exact ⟨s, rfl, h.2.1, h.2.2.1, h.2.2.2, by have := h.2.1; omega⟩
def Sg (B : Nat → Int) (x : Int) (r : Except Int (Nat × Nat)) : Prop := ∃ s, r = .ok s ∧ B s.1 = x
def NSg (B : Nat → Int) (x : Int) (r : Except Int (Nat × Nat)) : Prop := ∀ s, r = .ok s → ¬ B s.1 = x
def stB (i k : Nat) : Int := ((bytS.getD i []).getD k 0).toInt
def sbS (i a b : Nat) : List Int := (List.range (b - a)).map (fun j => stB i (a + j))
def TWd (B : Nat → Int) (w : List Int) (r : Except Int (Nat × Nat)) : Prop := ∃ s, r = .ok s ∧ pz_wd B s.1 w = true
def NWd (B : Nat → Int) (w : List Int) (r : Except Int (Nat × Nat)) : Prop := ∀ s, r = .ok s → ¬ pz_wd B s.1 w = true
theorem NWd.er {f : Nat → Int32} {n : Int32} {r : Except Int (Nat × Nat)} {a b c d : Int32} {w : List Int} (h : TpR f n r a b c d) (hd : ¬ d.toInt = 0) : NWd (cB f n) w r := fun s hs => by
  subst hs
  exact absurd h.1 hd
def wR (i : Nat) : Nat → Nat → Nat → List (List Int)
  | 0, _, _ => []
  | k + 1, at', from' => if stB i at' = 32 then sbS i from' at' :: wR i k (at' + 1) (at' + 1) else wR i k (at' + 1) from'
def waR (B : Nat → Int) (ws : List (List Int)) (k : Int) (r : Except Int (Nat × Nat)) : Int := match r with
  | .error _ => -1
  | .ok s => pz_wa B s.1 ws k
def wL (i : Nat) : List (List Int) := wR i (lenS.getD i 0) 0 0
def Wa (B : Nat → Int) (i : Nat) (r : Except Int (Nat × Nat)) (num frm k : Int32) : Prop := waR B (wL i) 0 r = waR B (wR i (lenS.getD i 0 - k.toInt.toNat) k.toInt.toNat frm.toInt.toNat) num.toInt r
theorem Wa.go {B : Nat → Int} {i : Nat} {r : Except Int (Nat × Nat)} {num frm k k' x : Int32} (h : Wa B i r num frm k) (hk : 0 ≤ k.toInt ∧ k.toInt < ((lenS.getD i 0 : Nat) : Int)) (hx : x.toInt = stB i k.toInt.toNat) (h32 : ¬ x.toInt = 32) (hk' : k'.toInt = k.toInt + 1) : Wa B i r num frm k' := by
  unfold Wa at h ⊢
  rw [h, show lenS.getD i 0 - k.toInt.toNat = (lenS.getD i 0 - k'.toInt.toNat) + 1 by omega]
  rw [show wR i (lenS.getD i 0 - k'.toInt.toNat + 1) k.toInt.toNat frm.toInt.toNat = wR i (lenS.getD i 0 - k'.toInt.toNat) (k.toInt.toNat + 1) frm.toInt.toNat from if_neg (by rw [← hx]; exact h32)]
  rw [show k.toInt.toNat + 1 = k'.toInt.toNat by omega]
theorem wL2 : wL 2 = pz_words := by decide +kernel
theorem wL0 : wL 0 = [pz_book, pz_sky, pz_buyer, pz_watch] := by decide +kernel
def Nv (B : Nat → Int) (a v i : Int32) : Prop := v.toInt = pz_nv B a.toInt.toNat (i.toInt - a.toInt).toNat ∧ 0 ≤ v.toInt ∧ v.toInt + 1 ≤ 10 ^ (i.toInt - a.toInt).toNat
def NuV (B : Nat → Int) (lo hi : Int) (r : Except Int (Nat × Nat)) (v : Int32) : Prop := ∀ s x, r = .ok s → pz_num B lo hi s.1 = .ok x → v.toInt = x
theorem TpR.lt {f : Nat → Int32} {n : Int32} {r : Except Int (Nat × Nat)} {a b c d : Int32} (h : TpR f n r a b c d) (hc : 0 ≤ c.toInt) : a.toInt < b.toInt := by
  cases r with
  | error e => have := h.2.2; omega
  | ok s =>
    have h1 := h.2.1
    have h2 := h.2.2.1
    have h3 := h.2.2.2
    have h4 := pz_te_gt (B := cB f n) (p := s.1) (by omega)
    omega
theorem TpR.okc {f : Nat → Int32} {n : Int32} {r : Except Int (Nat × Nat)} {a b c d : Int32} (h : TpR f n r a b c d) (hc : 0 ≤ c.toInt) : ∃ s, r = .ok s ∧ d.toInt = 0 ∧ a.toInt = (s.1 : Int) ∧ b.toInt = (pz_te (cB f n) s.1 : Int) ∧ c.toInt = cB f n s.1 := by
  cases r with
  | error e => have := h.2.2; omega
  | ok s => exact ⟨s, rfl, h⟩
theorem num_dig {B : Nat → Int} {lo hi : Int} {p : Nat} (h : pz_isD (B p) = true) : pz_num B lo hi p = if 5 < pz_te B p - p then .error (pz_er 1 p) else if pz_nv B p (pz_te B p - p) < lo ∨ hi < pz_nv B p (pz_te B p - p) then .error (pz_er 1 p) else .ok (pz_nv B p (pz_te B p - p)) := if_pos h
theorem num_long {f : Nat → Int32} {n : Int32} {s : Nat × Nat} {a b c d : Int32} {lo hi : Int} (h : TpR f n (.ok s) a b c d) (hc : 48 ≤ c.toInt ∧ c.toInt ≤ 57) (hl : 5 < b.toInt - a.toInt) : pz_num (cB f n) lo hi s.1 = .error (pz_er 1 s.1) := by
  have h1 := h.2.2.2
  have h2 := h.2.1
  have h3 := h.2.2.1
  rw [num_dig (decide_eq_true (by rw [← h1]; exact hc)), if_pos (by omega)]
theorem num_val {f : Nat → Int32} {n : Int32} {s : Nat × Nat} {a b c d v : Int32} {lo hi : Int} (h : TpR f n (.ok s) a b c d) (hc : 48 ≤ c.toInt ∧ c.toInt ≤ 57) (hl : b.toInt - a.toInt ≤ 5) (hv : Nv (cB f n) a v b) : pz_num (cB f n) lo hi s.1 = if v.toInt < lo ∨ hi < v.toInt then .error (pz_er 1 s.1) else .ok v.toInt := by
  have h1 := h.2.2.2
  have h2 := h.2.1
  have h3 := h.2.2.1
  have h4 := hv.1
  rw [show a.toInt.toNat = s.1 by omega, show (b.toInt - a.toInt).toNat = pz_te (cB f n) s.1 - s.1 by omega] at h4
  rw [num_dig (decide_eq_true (by rw [← h1]; exact hc)), if_neg (by omega), ← h4]
theorem NuV.long {f : Nat → Int32} {n : Int32} {r : Except Int (Nat × Nat)} {a b c d v : Int32} {lo hi : Int} (h : TpR f n r a b c d) (hc : 48 ≤ c.toInt ∧ c.toInt ≤ 57) (hl : 5 < b.toInt - a.toInt) : NuV (cB f n) lo hi r v := fun s x hs hx => by
  subst hs
  rw [num_long h hc hl] at hx
  cases hx
theorem NuV.ok {f : Nat → Int32} {n : Int32} {r : Except Int (Nat × Nat)} {a b c d v : Int32} {lo hi : Int} (h : TpR f n r a b c d) (hc : 48 ≤ c.toInt ∧ c.toInt ≤ 57) (hl : b.toInt - a.toInt ≤ 5) (hv : Nv (cB f n) a v b) (ho : ¬ (v.toInt < lo ∨ hi < v.toInt)) : NuV (cB f n) lo hi r v := fun s x hs hx => by
  subst hs
  rw [num_val h hc hl hv, if_neg ho] at hx
  cases hx
  rfl
def Ctd (r : Except Int (Nat × Nat)) (ct : Int32) : Prop := ∀ s, r = .ok s → ct.toInt = (s.2 : Int)
def rC1 (r : Except Int (Nat × Nat)) : Except Int (Nat × Nat) := pz_b r (fun s => if 60 ≤ s.2 then .error (pz_er 3 s.1) else .ok (s.1, s.2 + 1))
theorem Ctd.er {k : Int} {r : Except Int (Nat × Nat)} {ct : Int32} : Ctd (rER k r) ct := fun s hs => by cases r <;> cases hs
theorem Ctd.sk {B : Nat → Int} {r : Except Int (Nat × Nat)} {ct : Int32} (h : Ctd r ct) : Ctd (rSK B r) ct := fun s hs => by
  cases r with
  | error e => cases hs
  | ok t => cases hs; exact h t rfl
theorem sum_turn {f : Nat → Int32} {n : Int32} {q : Except Int (Nat × Nat)} {a b c d : Int32} (hn : n.toInt ≤ 400) (h : TpR f n q a b c d) (hc : c.toInt = 43 ∨ c.toInt = 45 ∨ c.toInt = 42 ∨ c.toInt = 47 ∨ c.toInt = 37) : pz_b q (pz_lp (pz_sF (cB f n))) = pz_b (pz_b (rNX (cB f n) q) (pz_val (cB f n))) (pz_lp (pz_sF (cB f n))) := by
  obtain ⟨s, rfl, h0, h1, h2, h3⟩ := h.okc (by omega)
  rw [h3] at hc
  exact pz_sum_on (cB_fi hn) hc
theorem sum_end {f : Nat → Int32} {n : Int32} {q : Except Int (Nat × Nat)} {a b c d i : Int32} (hn : n.toInt ≤ 400) (h : TpR f n q a b c d) (hi : ∀ s, q = .ok s → i.toInt ≤ (s.1 : Int)) (hc : 400 ≤ i.toInt ∨ ¬ (c.toInt = 43 ∨ c.toInt = 45 ∨ c.toInt = 42 ∨ c.toInt = 47 ∨ c.toInt = 37)) : pz_b q (pz_lp (pz_sF (cB f n))) = q := by
  cases q with
  | error e => rfl
  | ok s =>
    refine pz_sum_no (fun z => ?_)
    have h3 := h.2.2.2
    rcases hc with hc | hc
    · have h4 := hi s rfl
      rw [cB_out (by omega)] at z
      omega
    · rw [← h3] at z; exact hc z
theorem tst_turn {f : Nat → Int32} {n : Int32} {m : Nat} {q : Except Int (Nat × Nat)} (hn : n.toInt ≤ 400) (hc : TWd (cB f n) pz_and q ∨ TWd (cB f n) pz_or q) : pz_b q (pz_lp (pz_tF (cB f n) (pz_fact (cB f n) m))) = pz_b (pz_b (rNX (cB f n) q) (pz_fact (cB f n) m)) (pz_lp (pz_tF (cB f n) (pz_fact (cB f n) m))) := by
  rcases hc with ⟨s, rfl, h⟩ | ⟨s, rfl, h⟩
  · exact pz_tst_on (cB_fi hn) (Or.inl h)
  · exact pz_tst_on (cB_fi hn) (Or.inr h)
theorem tst_end {f : Nat → Int32} {n : Int32} {m : Nat} {q : Except Int (Nat × Nat)} {i : Int32} (hn : n.toInt ≤ 400) (hi : ∀ s, q = .ok s → i.toInt ≤ (s.1 : Int)) (hc : 400 ≤ i.toInt ∨ (NWd (cB f n) pz_and q ∧ NWd (cB f n) pz_or q)) : pz_b q (pz_lp (pz_tF (cB f n) (pz_fact (cB f n) m))) = q := by
  cases q with
  | error e => rfl
  | ok s =>
    refine pz_tst_no (fun z => ?_)
    rcases hc with hc | hc
    · have h4 := hi s rfl
      exact pz_and_ne z (cB_out (by omega))
    · exact z.elim (hc.1 s rfl) (hc.2 s rfl)
def rTG (l : Nat) (r : Except Int (Nat × Nat)) : Except Int ((Nat × Nat) × Nat) := pz_b r (fun t => .ok (t, l))
def RuR (B : Nat → Int) : Except Int ((Nat × Nat) × Nat) := pz_b (rTG 1 (pz_cla B 0 (pz_sk B 0, 0))) (pz_lp (pz_rF B))
def RcL (f : Nat → Int32) (n : Int32) (a b c d ct l : Int32) : Prop := ∃ q, TpR f n q a b c d ∧ Ctd q ct ∧ ((l.toInt = 0 ∧ q = .ok (pz_sk (cB f n) 0, 0)) ∨ (1 ≤ l.toInt ∧ l.toInt ≤ 12 ∧ RuR (cB f n) = pz_b (rTG l.toInt.toNat q) (pz_lp (pz_rF (cB f n)))) ∨ (l.toInt = 13 ∧ ∃ e, q = .error e ∧ RuR (cB f n) = .error e))
theorem cla_un {B : Nat → Int} {l : Nat} {q : Except Int (Nat × Nat)} (h : TWd B pz_buy q) (hl : l ≠ 12) (h2 : NWd B pz_if (pz_b (rNX B q) (pz_sum B))) : pz_b q (pz_cla B l) = pz_b (rNX B q) (pz_sum B) := by
  obtain ⟨s, rfl, h⟩ := h
  show pz_cla B l s = pz_sum B (pz_nx B s)
  unfold pz_cla
  rw [if_pos h, if_neg hl]
  cases e : pz_sum B (pz_nx B s) with
  | error z => rfl
  | ok t =>
    have := h2 t e
    exact if_neg this
theorem pz_cla_gt {B : Nat → Int} (hB : pz_fi B) {l : Nat} {s t : Nat × Nat} (h : pz_cla B l s = .ok t) : B s.1 ≠ -1 ∧ s.1 < t.1 := by
  unfold pz_cla at h
  by_cases z : pz_wd B s.1 pz_buy = true
  · rw [if_pos z] at h
    have hb : B s.1 ≠ -1 := pz_wd_ne z (by decide) (by decide)
    by_cases y : l = 12
    · rw [if_pos y] at h; cases h
    · rw [if_neg y] at h
      cases e : pz_sum B (pz_nx B s) with
      | error x => rw [e] at h; cases h
      | ok s1 =>
        rw [e] at h
        have h1 := (pz_sum_gt hB e).2
        have h2 := pz_nt_gt hb
        have h3 : (pz_nx B s).1 = pz_nt B s.1 := rfl
        have h : (if pz_wd B s1.1 pz_if = true then pz_tst B (pz_fact B 10) (pz_nx B s1) else .ok s1) = .ok t := h
        by_cases x : pz_wd B s1.1 pz_if = true
        · rw [if_pos x] at h
          have h4 := (pz_tst_gt hB (pz_fact_gt hB 10) h).2
          have h5 := pz_nt_gt (B := B) (p := s1.1) (pz_wd_ne x (by decide) (by decide))
          have h6 : (pz_nx B s1).1 = pz_nt B s1.1 := rfl
          exact ⟨hb, by omega⟩
        · rw [if_neg x] at h
          cases h
          exact ⟨hb, by omega⟩
  · rw [if_neg z] at h; cases h
theorem pz_cla_12 {B : Nat → Int} {s : Nat × Nat} : ∃ e, pz_cla B 12 s = .error e := by
  unfold pz_cla
  by_cases z : pz_wd B s.1 pz_buy = true
  · rw [if_pos z]; exact ⟨_, if_pos rfl⟩
  · rw [if_neg z]; exact ⟨_, rfl⟩
theorem pz_rF_pr {B : Nat → Int} (hB : pz_fi B) : pz_pr (fun u : (Nat × Nat) × Nat => u.1.1) (pz_rF B) := by
  intro u r h
  unfold pz_rF at h
  by_cases z : B u.1.1 = 59
  · rw [if_pos z] at h
    have hb : B u.1.1 ≠ -1 := by omega
    refine ⟨hB.lt hb, fun t ht => ?_⟩
    cases h
    cases e : pz_cla B u.2 (pz_nx B u.1) with
    | error x => rw [e] at ht; cases ht
    | ok s1 =>
      rw [e] at ht
      cases ht
      have h1 := (pz_cla_gt hB e).2
      have h2 := pz_nt_gt hb
      have h3 : (pz_nx B u.1).1 = pz_nt B u.1.1 := rfl
      show u.1.1 < s1.1
      omega
  · rw [if_neg z] at h; cases h
theorem RcL.fin {f : Nat → Int32} {n : Int32} {q : Except Int (Nat × Nat)} {l : Int32} (hq : (l.toInt = 0 ∧ q = .ok (pz_sk (cB f n) 0, 0)) ∨ (1 ≤ l.toInt ∧ l.toInt ≤ 12 ∧ RuR (cB f n) = pz_b (rTG l.toInt.toNat q) (pz_lp (pz_rF (cB f n)))) ∨ (l.toInt = 13 ∧ ∃ e, q = .error e ∧ RuR (cB f n) = .error e)) (h0 : ¬ l.toInt = 0) (hx : 12 < l.toInt ∨ NSg (cB f n) 59 q) : pz_rule (cB f n) = pz_b q (fun s => pz_end (cB f n) s.1) := by
  have e0 : pz_rule (cB f n) = pz_b (RuR (cB f n)) (fun u => pz_end (cB f n) u.1.1) := rfl
  rcases hq with hq | hq | hq
  · omega
  · rw [e0, hq.2.2]
    rcases hx with hx | hx
    · omega
    · cases q with
      | error e => rfl
      | ok s =>
        show pz_b (pz_lp (pz_rF (cB f n)) (s, l.toInt.toNat)) _ = _
        rw [pz_lp_no (F := pz_rF (cB f n)) (s := (s, l.toInt.toNat)) (if_neg (hx s rfl))]
        rfl
  · obtain ⟨-, e, rfl, he⟩ := hq
    rw [e0, he]
    rfl
def RfO (r : Except Int (Nat × Nat)) (B : Nat → Int) (wr nx md : Int32) : Prop := ∃ s, r = .ok s ∧ wr.toInt = 0 ∧ pz_sk B nx.toInt.toNat = s.1 ∧ md.toInt = (s.2 : Int)
def RfE (r : Except Int (Nat × Nat)) (wr : Int32) : Prop := ∃ e, r = .error e ∧ wr.toInt = e
def St0 (B : Nat → Int) (nx md : Int32) : Nat × Nat := (pz_sk B nx.toInt.toNat, md.toInt.toNat)
def SkR (B : Nat → Int) (a b : Int32) : Prop := b.toInt = (pz_sk B a.toInt.toNat : Int) ∧ pz_sk B b.toInt.toNat = b.toInt.toNat ∧ ¬ B b.toInt.toNat = 32
theorem pz_sk_rf {B : Nat → Int} {p : Nat} (h : ¬ B p = 32) : pz_sk B p = p := pz_run_eq 401 p p (Nat.le_refl _) (by omega) (fun i a b => by omega) (fun z => h (of_decide_eq_true z))
theorem SkR.sk {B : Nat → Int} {a b : Int32} (h : SkR B a b) : pz_sk B b.toInt.toNat = pz_sk B a.toInt.toNat := by
  have := h.1
  rw [h.2.1]; omega
theorem SkR.nat {B : Nat → Int} {a b : Int32} (h : SkR B a b) : pz_sk B a.toInt.toNat = b.toInt.toNat := by
  have := h.1
  omega
theorem SkR.trans {B : Nat → Int} {a b c : Int32} (h : SkR B a b) (h2 : SkR B b c) : SkR B a c := by
  refine ⟨?_, h2.2⟩
  rw [← h.sk]; exact h2.1
def PsR (B : Nat → Int) (a b : Int32) : Prop := b.toInt = (pz_run pz_isL B 401 a.toInt.toNat : Int)
theorem PsR.te {B : Nat → Int} {a b : Int32} (h : PsR B a b) (hL : 97 ≤ B a.toInt.toNat ∧ B a.toInt.toNat ≤ 122) : b.toInt.toNat = pz_te B a.toInt.toNat := by
  have := h
  unfold PsR at this
  unfold pz_te
  rw [if_pos (show pz_isL (B a.toInt.toNat) = true from decide_eq_true hL)]
  omega
def NvF (B : Nat → Int) (a v i : Int32) : Prop := (i.toInt - a.toInt ≤ 5 → Nv B a v i) ∧ 0 ≤ v.toInt ∧ v.toInt ≤ 99999
theorem NvF.go {B : Nat → Int} {a v i i' : Int32} (h : NvF B a v i) (h5 : 5 ≤ i.toInt - a.toInt) (hi' : i'.toInt = i.toInt + 1) : NvF B a v i' := ⟨fun z => by omega, h.2⟩
def NmO (B : Nat → Int) (lo hi : Int) (nx nu nx' wr : Int32) : Prop := pz_num B lo hi (pz_sk B nx.toInt.toNat) = .ok nu.toInt ∧ nx'.toInt = (pz_te B (pz_sk B nx.toInt.toNat) : Int) ∧ wr.toInt = 0
def NmE (B : Nat → Int) (lo hi : Int) (nx wr : Int32) : Prop := pz_num B lo hi (pz_sk B nx.toInt.toNat) = .error wr.toInt
theorem val_word {B : Nat → Int} {p c : Nat} (h : ¬ (48 ≤ B p ∧ B p ≤ 57)) (hw : ¬ pz_wa B p pz_words 0 = -1) : pz_val B (p, c) = pz_cnt B (p, c) := (if_neg (fun z => h (of_decide_eq_true z))).trans (if_neg hw)
theorem cnt_one {B : Nat → Int} {p c : Nat} (h : ¬ 60 ≤ c) : pz_cnt B (p, c) = .ok (pz_nt B p, c + 1) := if_neg h
theorem RfO.word {B : Nat → Int} {nx n1 n2 md md' wr : Int32} (hs : SkR B nx n1) (hd : ¬ (48 ≤ B n1.toInt.toNat ∧ B n1.toInt.toNat ≤ 57)) (hw : ¬ pz_wa B n1.toInt.toNat pz_words 0 = -1) (hL : 97 ≤ B n1.toInt.toNat ∧ B n1.toInt.toNat ≤ 122) (hp : PsR B n1 n2) (hm : 0 ≤ md.toInt ∧ md.toInt < 60 ∧ md'.toInt = md.toInt + 1) (he : wr.toInt = 0) : RfO (pz_val B (St0 B nx md)) B wr n2 md' := by
  refine ⟨(pz_nt B n1.toInt.toNat, md.toInt.toNat + 1), ?_, he, ?_, ?_⟩
  · unfold St0
    rw [hs.nat, val_word hd hw]
    exact cnt_one (by omega)
  · show pz_sk B n2.toInt.toNat = pz_sk B (pz_te B n1.toInt.toNat)
    rw [hp.te hL]
  · show md'.toInt = ((md.toInt.toNat + 1 : Nat) : Int)
    omega
theorem SkR.eq {B : Nat → Int} {a b c : Int32} (h : SkR B a b) (h2 : SkR B b c) : c = b := by
  apply Int32.toInt_inj.mp
  have h3 := h2.1
  have h4 := h.1
  rw [h.2.1] at h3
  omega
theorem RfO.of {r : Except Int (Nat × Nat)} {B : Nat → Int} {wr nx md : Int32} (h : r = .ok (St0 B nx md)) (hw : wr.toInt = 0) (hm : 0 ≤ md.toInt) : RfO r B wr nx md := ⟨St0 B nx md, h, hw, rfl, by show md.toInt = (md.toInt.toNat : Int); omega⟩
theorem St0.sk {B : Nat → Int} {nx n1 md : Int32} (h : SkR B nx n1) : St0 B n1 md = St0 B nx md := by
  unfold St0; rw [h.sk]
theorem St0.at {B : Nat → Int} {nx n1 md : Int32} (h : SkR B nx n1) : St0 B nx md = (n1.toInt.toNat, md.toInt.toNat) := by
  unfold St0; rw [h.nat]
theorem te_op {B : Nat → Int} {p : Nat} (h : B p = 43 ∨ B p = 45 ∨ B p = 42 ∨ B p = 47 ∨ B p = 37) : pz_te B p = p + 1 := by
  unfold pz_te
  rw [if_neg (show ¬ pz_isL (B p) = true from fun z => by have := of_decide_eq_true z; omega), if_neg (show ¬ pz_isD (B p) = true from fun z => by have := of_decide_eq_true z; omega), if_neg (by omega), if_neg (by omega)]
theorem nx_te {B : Nat → Int} {nx n1 nx' md : Int32} (hs : SkR B nx n1) (ht : nx'.toInt = (pz_te B n1.toInt.toNat : Int)) : pz_nx B (St0 B nx md) = St0 B nx' md := by
  rw [St0.at hs]
  show (pz_sk B (pz_te B n1.toInt.toNat), md.toInt.toNat) = (pz_sk B nx'.toInt.toNat, md.toInt.toNat)
  rw [show nx'.toInt.toNat = pz_te B n1.toInt.toNat by omega]
theorem nx_op {B : Nat → Int} {nx n1 nx' md : Int32} (hs : SkR B nx n1) (h : B n1.toInt.toNat = 43 ∨ B n1.toInt.toNat = 45 ∨ B n1.toInt.toNat = 42 ∨ B n1.toInt.toNat = 47 ∨ B n1.toInt.toNat = 37) (h1 : nx'.toInt = n1.toInt + 1) : pz_nx B (St0 B nx md) = St0 B nx' md := nx_te hs (by have := hs.1; rw [te_op h]; omega)
def TmL (R : Except Int (Nat × Nat)) (B : Nat → Int) (wr nx md : Int32) : Prop := wr.toInt = 0 ∧ R = pz_lp (pz_sF B) (St0 B nx md)
def TmO (R : Except Int (Nat × Nat)) (B : Nat → Int) (wr nx md : Int32) : Prop := TmL R B wr nx md ∧ ¬ (B (pz_sk B nx.toInt.toNat) = 42 ∨ B (pz_sk B nx.toInt.toNat) = 47 ∨ B (pz_sk B nx.toInt.toNat) = 37)
theorem RfE.sum1 {B : Nat → Int} {s : Nat × Nat} {wr : Int32} (h : RfE (pz_val B s) wr) : RfE (pz_sum B s) wr := by
  obtain ⟨e, h1, h2⟩ := h
  exact ⟨e, by unfold pz_sum; rw [h1]; rfl, h2⟩
theorem TmL.go {R : Except Int (Nat × Nat)} {B : Nat → Int} {wr nx md n1 nx' : Int32} (hB : pz_fi B) (h : TmL R B wr nx md) (hs : SkR B nx n1) (hop : B n1.toInt.toNat = 43 ∨ B n1.toInt.toNat = 45 ∨ B n1.toInt.toNat = 42 ∨ B n1.toInt.toNat = 47 ∨ B n1.toInt.toNat = 37) (h1 : nx'.toInt = n1.toInt + 1) : R = pz_sum B (St0 B nx' md) := by
  rw [h.2, pz_sum_on hB (by rw [St0.at hs]; exact hop), nx_op hs hop h1]
theorem TmL.er {R : Except Int (Nat × Nat)} {B : Nat → Int} {wr nx md n1 nx' wr2 : Int32} (hB : pz_fi B) (h : TmL R B wr nx md) (hs : SkR B nx n1) (hop : B n1.toInt.toNat = 43 ∨ B n1.toInt.toNat = 45 ∨ B n1.toInt.toNat = 42 ∨ B n1.toInt.toNat = 47 ∨ B n1.toInt.toNat = 37) (h1 : nx'.toInt = n1.toInt + 1) (hv : RfE (pz_val B (St0 B nx' md)) wr2) : RfE R wr2 := by
  rw [h.go hB hs hop h1]; exact RfE.sum1 hv
theorem TmO.er {R : Except Int (Nat × Nat)} {B : Nat → Int} {wr nx md n1 nx' wr2 : Int32} (hB : pz_fi B) (h : TmO R B wr nx md) (hs : SkR B nx n1) (hop : B n1.toInt.toNat = 43 ∨ B n1.toInt.toNat = 45) (h1 : nx'.toInt = n1.toInt + 1) (hv : RfE (pz_sum B (St0 B nx' md)) wr2) : RfE R wr2 := by
  rw [h.1.go hB hs (by omega) h1]; exact hv
theorem TmO.fin {R : Except Int (Nat × Nat)} {B : Nat → Int} {wr nx md n1 : Int32} (h : TmO R B wr nx md) (hs : SkR B nx n1) (hn : ¬ (B n1.toInt.toNat = 43 ∨ B n1.toInt.toNat = 45)) (hm : 0 ≤ md.toInt) : RfO R B wr n1 md := by
  refine RfO.of ?_ h.1.1 hm
  have h2 := h.2
  rw [hs.nat] at h2
  rw [h.1.2, pz_sum_no (by rw [St0.at hs]; intro z; have z : B n1.toInt.toNat = 43 ∨ B n1.toInt.toNat = 45 ∨ B n1.toInt.toNat = 42 ∨ B n1.toInt.toNat = 47 ∨ B n1.toInt.toNat = 37 := z; omega), St0.sk hs]
def ok_os (f : Nat → Int32) : Nat → List Nat × Nat
  | 0 => ([10], 0)
  | k + 1 => if (f k).toInt = 11 then ((ok_os f k).1, (ok_os f k).2 + 1) else if (f k).toInt = 91 then ((10 - ((ok_os f k).2 + 1)) :: (ok_os f k).1, (ok_os f k).2 + 1) else ok_os f k
def ok_gs (f : Nat → Int32) (n : Nat) : Prop := ∀ k, k + 1 < n → ((f (k + 1)).toInt = 12 ∨ (f (k + 1)).toInt = 13) → (f k).toInt ≠ 11
def OsP (f : Nat → Int32) (n dp : Int32) : Prop := 0 ≤ n.toInt ∧ dp.toInt = ((ok_os f n.toInt.toNat).2 : Int) ∧ dp.toInt ≤ 10 ∧ ok_gs f n.toInt.toNat ∧ ∀ k : Nat, (k : Int) < n.toInt → (f k).toInt = 11 ∨ (f k).toInt = 12 ∨ (f k).toInt = 13 ∨ (f k).toInt = 91
def FcI (R : Except Int (Nat × Nat)) (B : Nat → Int) (f : Nat → Int32) (n dp nx md wr : Int32) : Prop := OsP f n dp ∧ wr.toInt = 0 ∧ R = pz_K B (ok_os f n.toInt.toNat).1 (pz_fact B (10 - dp.toInt.toNat) (St0 B nx md))
def FcL (R : Except Int (Nat × Nat)) (B : Nat → Int) (f : Nat → Int32) (n dp nx md wr mo : Int32) : Prop := (OsP f n dp ∧ wr.toInt = 0) ∧ (mo.toInt = 1 → FcI R B f n dp nx md wr) ∧ (mo.toInt = 0 → R = pz_K B (ok_os f n.toInt.toNat).1 (pz_com B (St0 B nx md)))
theorem te_br {B : Nat → Int} {p : Nat} (h : B p = 91 ∨ B p = 93 ∨ B p = 59) : pz_te B p = p + 1 := by
  unfold pz_te
  rw [if_neg (show ¬ pz_isL (B p) = true from fun z => by have := of_decide_eq_true z; omega), if_neg (show ¬ pz_isD (B p) = true from fun z => by have := of_decide_eq_true z; omega), if_neg (by omega), if_neg (by omega)]
theorem FcL.er {R : Except Int (Nat × Nat)} {B : Nat → Int} {f : Nat → Int32} {n dp nx md wr mo wr' : Int32} (h : FcL R B f n dp nx md wr mo) (hm : mo.toInt = 0) (hc : RfE (pz_com B (St0 B nx md)) wr') : RfE R wr' := by
  obtain ⟨e, h1, h2⟩ := hc
  refine ⟨e, ?_, h2⟩
  rw [h.2.2 hm, h1]; exact pz_K_er _
theorem buy_let {B : Nat → Int} {p : Nat} {L : List Int} (h : pz_wd B p L = true) (hl : 0 < L.length) (h0 : 97 ≤ L.getD 0 0 ∧ L.getD 0 0 ≤ 122) : 97 ≤ B p ∧ B p ≤ 122 := by
  have := (of_decide_eq_true h).2 0 hl
  rw [Nat.add_zero] at this
  rw [this]; exact h0
theorem SkR.wd {B : Nat → Int} {a : Int32} (h0 : 0 ≤ a.toInt) (h : 97 ≤ B a.toInt.toNat ∧ B a.toInt.toNat ≤ 122) : SkR B a a := by
  have hn : ¬ B a.toInt.toNat = 32 := by omega
  exact ⟨by rw [pz_sk_rf hn]; omega, pz_sk_rf hn, hn⟩
def BwH (B : Nat → Int) (nx : Int32) : Prop := pz_wd B nx.toInt.toNat pz_buy = true
def BuR (B : Nat → Int) (nx md : Int32) : Except Int (Nat × Nat) := pz_b (pz_sum B (pz_nx B (St0 B nx md))) (fun t => if pz_wd B t.1 pz_if = true then pz_tst B (pz_fact B 10) (pz_nx B t) else .ok t)
theorem nx_ps {B : Nat → Int} {nx n1 nx' md : Int32} (hs : SkR B nx n1) (hL : 97 ≤ B n1.toInt.toNat ∧ B n1.toInt.toNat ≤ 122) (hp : PsR B n1 nx') : pz_nx B (St0 B nx md) = St0 B nx' md := nx_te hs (by have := hp.te hL; have h5 := hp; unfold PsR at h5; omega)
theorem BuR.at {B : Nat → Int} {nx md nx' : Int32} (h0 : 0 ≤ nx.toInt) (hb : BwH B nx) (hp : PsR B nx nx') : pz_nx B (St0 B nx md) = St0 B nx' md := by
  have hL := buy_let hb (by decide) (by decide)
  exact nx_ps (SkR.wd h0 hL) hL hp
theorem BuR.er {B : Nat → Int} {nx md nx' wr : Int32} (h0 : 0 ≤ nx.toInt) (hb : BwH B nx) (hp : PsR B nx nx') (h : RfE (pz_sum B (St0 B nx' md)) wr) : RfE (BuR B nx md) wr := by
  obtain ⟨e, h1, h2⟩ := h
  refine ⟨e, ?_, h2⟩
  unfold BuR
  rw [BuR.at h0 hb hp, h1]; rfl
theorem RfO.eq {r r' : Except Int (Nat × Nat)} {B : Nat → Int} {wr nx md : Int32} (e : r = r') (h : RfO r' B wr nx md) : RfO r B wr nx md := e ▸ h
theorem RfE.eq {r r' : Except Int (Nat × Nat)} {wr : Int32} (e : r = r') (h : RfE r' wr) : RfE r wr := e ▸ h
def RuE (B : Nat → Int) (wr : Int32) : Prop := (wr.toInt = 0 ∧ ∃ p, pz_rule B = .ok p) ∨ (¬ wr.toInt = 0 ∧ pz_rule B = .error wr.toInt)
def bz (v : Int32) (n : Nat) : Int := ((v.toUInt32 >>> ((nI n).toUInt32 &&& Int32.toUInt32 31)).toInt32 &&& 255).toInt
def FdB (f g : Nat → Int32) (l l' v : Int32) : Prop := l'.toInt = l.toInt + 4 ∧ (∀ k : Nat, (k : Int) < l.toInt → (g k).toInt = (f k).toInt) ∧ ∀ j : Nat, j < 4 → (g (l.toInt.toNat + j)).toInt % 256 = bz v (24 - 8 * j)
def TpE (f : Nat → Int32) (n : Int32) (g : Nat → Int32) (m : Int32) : Prop := n.toInt = m.toInt ∧ ∀ k : Nat, (k : Int) < n.toInt → (f k).toInt % 256 = (g k).toInt % 256
theorem FdB.tp {f f' g g' : Nat → Int32} {l l' m m' v : Int32} (h : TpE f l g m) (hl : 0 ≤ l.toInt) (h1 : FdB f f' l l' v) (h2 : FdB g g' m m' v) : TpE f' l' g' m' := by
  obtain ⟨ha, hb⟩ := h
  obtain ⟨a1, a2, a3⟩ := h1
  obtain ⟨b1, b2, b3⟩ := h2
  refine ⟨by omega, fun k hk => ?_⟩
  by_cases z : (k : Int) < l.toInt
  · rw [a2 k z, b2 k (by omega)]; exact hb k z
  · have c1 := a3 (k - l.toInt.toNat) (by omega)
    have c2 := b3 (k - l.toInt.toNat) (by omega)
    rw [show l.toInt.toNat + (k - l.toInt.toNat) = k by omega] at c1
    rw [show m.toInt.toNat + (k - l.toInt.toNat) = k by omega] at c2
    rw [c1, c2]
def FeP (f g : Nat → Int32) (l l' a b c d e r : Int32) : Prop := (380 < l.toInt ∧ r.toInt = -1 ∧ l' = l ∧ g = f) ∨ (l.toInt ≤ 380 ∧ r = l' ∧ ∃ f1 f2 f3 f4 l1 l2 l3 l4, FdB f f1 l l1 a ∧ FdB f1 f2 l1 l2 b ∧ FdB f2 f3 l2 l3 c ∧ FdB f3 f4 l3 l4 d ∧ FdB f4 g l4 l' e)
theorem FeP.eq {f g f' g' : Nat → Int32} {l l' m m' a b c d e r s : Int32} (hl : 0 ≤ l.toInt) (h : TpE f l g m) (h1 : FeP f f' l l' a b c d e r) (h2 : FeP g g' m m' a b c d e s) : r = s ∧ TpE f' l' g' m' := by
  have h0 := h.1
  rcases h1 with ⟨a1, a2, a3, a4⟩ | ⟨a1, a2, f1, f2, f3, f4, l1, l2, l3, l4, p1, p2, p3, p4, p5⟩
  · rcases h2 with ⟨b1, b2, b3, b4⟩ | ⟨b1, _⟩
    · subst a3 a4 b3 b4
      exact ⟨Int32.toInt_inj.mp (by omega), h⟩
    · omega
  · rcases h2 with ⟨b1, _⟩ | ⟨b1, b2, g1, g2, g3, g4, m1, m2, m3, m4, q1, q2, q3, q4, q5⟩
    · omega
    · have e1 := p1.1
      have e2 := p2.1
      have e3 := p3.1
      have e4 := p4.1
      have t1 := FdB.tp h hl p1 q1
      have t2 := FdB.tp t1 (by omega) p2 q2
      have t3 := FdB.tp t2 (by omega) p3 q3
      have t4 := FdB.tp t3 (by omega) p4 q4
      have t5 := FdB.tp t4 (by omega) p5 q5
      exact ⟨by rw [a2, b2]; exact Int32.toInt_inj.mp t5.1, t5⟩
def RrC (B : Nat → Int) (c0 c1 l0 l1 r : Int32) : Prop := (6 ≤ c0.toInt ∧ c1 = c0 ∧ l1 = l0 ∧ r.toInt = -1) ∨ (c0.toInt < 6 ∧ l1.toInt = 0 ∧ ((∃ p, pz_rule B = .ok p) ∧ c1.toInt = c0.toInt + 1 ∧ r.toInt = c0.toInt ∨ ∃ d : Int32, pz_rule B = .error d.toInt ∧ c1 = c0 ∧ r = -2 - d))
theorem RrC.eq {B : Nat → Int} {c0 c1 l0 l1 r m0 m1 s0 s1 q : Int32} (h1 : RrC B c0 c1 l0 l1 r) (h2 : RrC B m0 m1 s0 s1 q) (hc : c0 = m0) (hl : l0 = s0) : r = q ∧ c1 = m1 ∧ l1 = s1 := by
  subst hc hl
  rcases h1 with ⟨a1, a2, a3, a4⟩ | ⟨a1, a2, a3⟩
  · rcases h2 with ⟨b1, b2, b3, b4⟩ | ⟨b1, _⟩
    · exact ⟨Int32.toInt_inj.mp (by omega), by rw [a2, b2], by rw [a3, b3]⟩
    · omega
  · rcases h2 with ⟨b1, _⟩ | ⟨b1, b2, b3⟩
    · omega
    · have el : l1 = s1 := Int32.toInt_inj.mp (by omega)
      rcases a3 with ⟨⟨p, hp⟩, a4, a5⟩ | ⟨d, hd, a4, a5⟩
      · rcases b3 with ⟨_, b4, b5⟩ | ⟨d, hd, _, _⟩
        · exact ⟨Int32.toInt_inj.mp (by omega), Int32.toInt_inj.mp (by omega), el⟩
        · rw [hp] at hd; cases hd
      · rcases b3 with ⟨⟨p, hp⟩, _, _⟩ | ⟨d', hd', b4, b5⟩
        · rw [hp] at hd; cases hd
        · rw [hd] at hd'
          have e : d = d' := Int32.toInt_inj.mp (Except.error.inj hd')
          subst e
          exact ⟨by rw [a5, b5], by rw [a4, b4], el⟩
def EnP (l l' n r : Int32) : Prop := ((n.toInt < 0 ∨ l.toInt < n.toInt) ∧ r.toInt = -1 ∧ l' = l) ∨ ((0 ≤ n.toInt ∧ n.toInt ≤ l.toInt) ∧ r = n ∧ l' = n)
theorem EnP.eq {f g : Nat → Int32} {l l' m m' n r s : Int32} (h : TpE f l g m) (h1 : EnP l l' n r) (h2 : EnP m m' n s) : r = s ∧ TpE f l' g m' := by
  obtain ⟨h3, h4⟩ := h
  rcases h1 with ⟨a1, a2, a3⟩ | ⟨a1, a2, a3⟩
  · rcases h2 with ⟨b1, b2, b3⟩ | ⟨b1, b2, b3⟩
    · subst a3 b3
      exact ⟨Int32.toInt_inj.mp (by omega), h3, h4⟩
    · omega
  · rcases h2 with ⟨b1, b2, b3⟩ | ⟨b1, b2, b3⟩
    · omega
    · subst a2 a3 b2 b3
      exact ⟨rfl, rfl, fun k hk => h4 k (by omega)⟩
theorem RuE.er {B : Nat → Int} {wr : Int32} (h : RuE B wr) (hw : ¬ wr.toInt = 0) : pz_rule B = .error wr.toInt := by
  rcases h with h | h
  · exact absurd h.1 hw
  · exact h.2
theorem RuE.ok {B : Nat → Int} {wr : Int32} (h : RuE B wr) (hw : wr.toInt = 0) : ∃ p, pz_rule B = .ok p := by
  rcases h with h | h
  · exact h.2
  · exact absurd hw h.1
def pz_bws : List (List Int) := [pz_book, pz_sky, pz_buyer, pz_watch]
abbrev BkU := (Nat × Nat) × Int × Int
def rN1 (B : Nat → Int) (a b : Int) (r : Except Int (Nat × Nat)) : Except Int (Nat × Nat) := rNX B (rNU B a b r)
def pz_bk (B : Nat → Int) (k : Int) (u : BkU) (r : Except Int (Nat × Nat)) : Except Int BkU := if k = 0 then pz_b (rN1 B 0 9 (rN1 B 0 99 r)) (fun s => pz_b (pz_num B 1 10 s.1) (fun v => .ok (pz_nx B s, v, u.2.2))) else if k = 1 then pz_b (rN1 B 0 9 (rN1 B 0 (u.2.1 - 1) r)) (fun s => .ok (s, u.2)) else if k = 2 then pz_b (rN1 B 0 9 (rN1 B 1 9 (rN1 B 0 20 r))) (fun s => .ok (s, u.2.1, u.2.2 + 1)) else pz_b (rN1 B 0 (u.2.2 - 1) (rN1 B 0 (u.2.1 - 1) r)) (fun s => .ok (s, u.2))
def pz_bcl (B : Nat → Int) (l : Nat) (u : BkU) : Except Int BkU := if pz_wa B u.1.1 pz_bws 0 = -1 then .error (pz_er 0 u.1.1) else if 40 ≤ l ∨ ¬ (pz_wa B u.1.1 pz_bws 0 = 0 ↔ l = 0) ∨ (pz_wa B u.1.1 pz_bws 0 = 2 ∧ 6 ≤ u.2.2) then .error (pz_er 4 u.1.1) else pz_bk B (pz_wa B u.1.1 pz_bws 0) u (.ok (pz_nx B u.1))
def pz_bF (B : Nat → Int) (w : BkU × Nat) : Option (Except Int (BkU × Nat)) := if B w.1.1.1 = 59 then some (pz_b (pz_bcl B w.2 (pz_nx B w.1.1, w.1.2)) (fun u => .ok (u, w.2 + 1))) else none
def bTG (l : Nat) (q : Except Int BkU) : Except Int (BkU × Nat) := pz_b q (fun u => .ok (u, l))
def pz_bRu (B : Nat → Int) : Except Int (BkU × Nat) := pz_b (bTG 1 (pz_bcl B 0 ((pz_sk B 0, 0), 0, 0))) (pz_lp (pz_bF B))
def bEN (B : Nat → Int) (q : Except Int BkU) : Except Int BkU := pz_b q (fun u => pz_b (pz_end B u.1.1) (fun _ => .ok u))
def pz_bookR (B : Nat → Int) : Except Int BkU := bEN B (pz_b (pz_bRu B) (fun w => .ok w.1))
theorem rN1_gt {B : Nat → Int} {a b : Int} {r : Except Int (Nat × Nat)} {t : Nat × Nat} (h : rN1 B a b r = .ok t) : ∃ s, r = .ok s ∧ s.1 < t.1 ∧ t = pz_nx B s ∧ ∃ v, pz_num B a b s.1 = .ok v := by
  cases r with
  | error e => cases h
  | ok s =>
    have h : pz_b (pz_b (pz_num B a b s.1) (fun _ => .ok s)) (fun s => .ok (pz_nx B s)) = .ok t := h
    cases e : pz_num B a b s.1 with
    | error z => rw [e] at h; cases h
    | ok v =>
      rw [e] at h
      cases h
      refine ⟨s, rfl, ?_, rfl, v, e⟩
      have hd : pz_isD (B s.1) = true := by
        by_cases z : pz_isD (B s.1) = true
        · exact z
        · exfalso
          rw [show pz_num B a b s.1 = .error (pz_er 0 s.1) from if_neg z] at e
          cases e
      exact pz_nt_gt (pz_isD_ne hd)
theorem pz_bws_ne : ∀ w ∈ pz_bws, 0 < w.length ∧ w.getD 0 0 ≠ -1 := by decide
def fstQ (q : Except Int BkU) : Except Int (Nat × Nat) := pz_b q (fun u => .ok u.1)
def BkQ (q : Except Int BkU) (rd bn : Int32) : Prop := ∀ u, q = .ok u → rd.toInt = u.2.1 ∧ bn.toInt = u.2.2 ∧ 0 ≤ u.2.1 ∧ u.2.1 ≤ 10
theorem num_rg {B : Nat → Int} {lo hi v : Int} {p : Nat} (h : pz_num B lo hi p = .ok v) : lo ≤ v ∧ v ≤ hi := by
  unfold pz_num at h
  by_cases z : pz_isD (B p) = true
  · rw [if_pos z] at h
    by_cases y : 5 < pz_te B p - p
    · rw [if_pos y] at h; cases h
    · rw [if_neg y] at h
      by_cases x : pz_nv B p (pz_te B p - p) < lo ∨ hi < pz_nv B p (pz_te B p - p)
      · rw [if_pos x] at h; cases h
      · rw [if_neg x] at h; cases h; omega
  · rw [if_neg z] at h; cases h
theorem rd_1 {rd : Int32} (h : 0 ≤ rd.toInt ∧ rd.toInt ≤ 10) : (rd - 1).toInt = rd.toInt - 1 := by
  have h1 : (1 : Int32).toInt = 1 := by decide
  rw [sub_toInt (by omega) (by omega), h1]
theorem BkQ.er {q : Except Int BkU} {k : Int} {l : Nat} {B : Nat → Int} {rd bn : Int32} (h : fstQ (pz_b q (pz_bcl B l)) = rER k (fstQ q)) : BkQ (pz_b q (pz_bcl B l)) rd bn := fun u hu => by
  rw [hu] at h
  cases q with
  | error e => cases hu
  | ok v => cases h
def BcL (f : Nat → Int32) (n : Int32) (a b c d rd bn l : Int32) : Prop := ∃ q, TpR f n (fstQ q) a b c d ∧ BkQ q rd bn ∧ ((l.toInt = 0 ∧ q = .ok ((pz_sk (cB f n) 0, 0), 0, 0)) ∨ (1 ≤ l.toInt ∧ l.toInt ≤ 40 ∧ pz_bRu (cB f n) = pz_b (bTG l.toInt.toNat q) (pz_lp (pz_bF (cB f n)))) ∨ (l.toInt = 41 ∧ ∃ e, q = .error e ∧ pz_bRu (cB f n) = .error e))
theorem BcL.fin {f : Nat → Int32} {n : Int32} {q : Except Int BkU} {l : Int32} (hq : (l.toInt = 0 ∧ q = .ok ((pz_sk (cB f n) 0, 0), 0, 0)) ∨ (1 ≤ l.toInt ∧ l.toInt ≤ 40 ∧ pz_bRu (cB f n) = pz_b (bTG l.toInt.toNat q) (pz_lp (pz_bF (cB f n)))) ∨ (l.toInt = 41 ∧ ∃ e, q = .error e ∧ pz_bRu (cB f n) = .error e)) (h0 : ¬ l.toInt = 0) (hx : 40 < l.toInt ∨ NSg (cB f n) 59 (fstQ q)) : pz_bookR (cB f n) = bEN (cB f n) q := by
  have e0 : pz_bookR (cB f n) = bEN (cB f n) (pz_b (pz_bRu (cB f n)) (fun w => .ok w.1)) := rfl
  rcases hq with hq | hq | hq
  · omega
  · rw [e0, hq.2.2]
    rcases hx with hx | hx
    · omega
    · cases q with
      | error e => rfl
      | ok u =>
        show bEN (cB f n) (pz_b (pz_lp (pz_bF (cB f n)) (u, l.toInt.toNat)) _) = _
        rw [pz_lp_no (F := pz_bF (cB f n)) (s := (u, l.toInt.toNat)) (if_neg (hx u.1 rfl))]
        rfl
  · obtain ⟨-, e, rfl, he⟩ := hq
    rw [e0, he]
    rfl
def BkR (B : Nat → Int) (d bn : Int32) : Prop := (d.toInt = 0 ∧ ∃ u, pz_bookR B = .ok u ∧ bn.toInt = u.2.2) ∨ (¬ d.toInt = 0 ∧ pz_bookR B = .error d.toInt)
def RbC (B : Nat → Int) (r : Int32) : Prop := (∃ d : Int32, pz_bookR B = .error d.toInt ∧ r = -2 - d) ∨ ∃ u, pz_bookR B = .ok u ∧ r.toInt = u.2.2
theorem RbC.eq {B : Nat → Int} {r s : Int32} (h : RbC B r) (h2 : RbC B s) : r = s := by
  rcases h with ⟨d, h, e⟩ | ⟨u, h, e⟩ <;> rcases h2 with ⟨d', h', e'⟩ | ⟨u', h', e'⟩
  · rw [h] at h'
    have : d = d' := Int32.toInt_inj.mp (Except.error.inj h')
    rw [e, e', this]
  · rw [h] at h'; cases h'
  · rw [h] at h'; cases h'
  · rw [h] at h'
    cases h'
    exact Int32.toInt_inj.mp (e.trans e'.symm)
theorem BkR.er {B : Nat → Int} {d bn : Int32} (h : BkR B d bn) (hd : ¬ d.toInt = 0) : pz_bookR B = .error d.toInt := by
  rcases h with h | h
  · exact absurd h.1 hd
  · exact h.2
theorem BkR.ok {B : Nat → Int} {d bn : Int32} (h : BkR B d bn) (hd : d.toInt = 0) : ∃ u, pz_bookR B = .ok u ∧ bn.toInt = u.2.2 := by
  rcases h with h | h
  · exact h.2
  · exact absurd hd h.1
def RgO (r : Except Int (Nat × Nat)) (B : Nat → Int) (wr nx : Int32) : Prop := r = .ok (pz_sk B nx.toInt.toNat, 0) ∧ wr.toInt = 0
def pNX (B : Nat → Int) (nx : Int32) : Except Int (Nat × Nat) := .ok (pz_nx B (nx.toInt.toNat, 0))
def BfO (q : Except Int BkU) (B : Nat → Int) (wr nx rd bn : Int32) : Prop := q = .ok ((pz_sk B nx.toInt.toNat, 0), rd.toInt, bn.toInt) ∧ wr.toInt = 0
def BfE (q : Except Int BkU) (wr : Int32) : Prop := q = .error wr.toInt
def BkW (B : Nat → Int) (nx : Int32) (k : Int) : Prop := pz_wa B nx.toInt.toNat pz_bws 0 = k
theorem BfO.eq {q q' : Except Int BkU} {B : Nat → Int} {wr nx rd bn : Int32} (e : q = q') (h : BfO q' B wr nx rd bn) : BfO q B wr nx rd bn := e ▸ h
theorem BfE.eq {q q' : Except Int BkU} {wr : Int32} (e : q = q') (h : BfE q' wr) : BfE q wr := e ▸ h
def NoP (x1 x2 x3 nb n r n' : Int32) : Prop := (x1.toInt = -1 ∧ r.toInt = 0 ∧ n'.toInt = 0) ∨ (¬ x1.toInt = -1 ∧ (x1.toInt < 0 ∨ 60 < x1.toInt ∨ x2.toInt < 0 ∨ nb.toInt ≤ x2.toInt ∨ x3.toInt < 0 ∨ 1 < x3.toInt ∨ n.toInt < 0 ∨ 10 ≤ n.toInt) ∧ r.toInt = -2 ∧ n'.toInt = n.toInt) ∨ (0 ≤ x1.toInt ∧ x1.toInt ≤ 60 ∧ 0 ≤ x2.toInt ∧ x2.toInt < nb.toInt ∧ 0 ≤ x3.toInt ∧ x3.toInt ≤ 1 ∧ 0 ≤ n.toInt ∧ n.toInt < 10 ∧ r.toInt = n.toInt + 1 ∧ n'.toInt = n.toInt + 1)
theorem NoP.eq {x1 x2 x3 nb n r1 r2 n1 n2 : Int32} (h1 : NoP x1 x2 x3 nb n r1 n1) (h2 : NoP x1 x2 x3 nb n r2 n2) : r1 = r2 ∧ n1 = n2 := by
  unfold NoP at h1 h2
  exact ⟨Int32.toInt_inj.mp (by omega), Int32.toInt_inj.mp (by omega)⟩
def BkX (B : Nat → Int) (r a n a' n' : Int32) : Prop := (∃ d : Int32, pz_bookR B = .error d.toInt ∧ r = -2 - d ∧ a' = a ∧ n' = n) ∨ ∃ u, pz_bookR B = .ok u ∧ r.toInt = u.2.2 ∧ a' = r ∧ n' = 0
theorem BkX.eq {B : Nat → Int} {r s a n a1 n1 a2 n2 : Int32} (h : BkX B r a n a1 n1) (h2 : BkX B s a n a2 n2) : r = s ∧ a1 = a2 ∧ n1 = n2 := by
  rcases h with ⟨d, e1, e2, e3, e4⟩ | ⟨u, e1, e2, e3, e4⟩ <;> rcases h2 with ⟨d', f1, f2, f3, f4⟩ | ⟨u', f1, f2, f3, f4⟩
  · rw [e1] at f1
    have hd : d = d' := Int32.toInt_inj.mp (Except.error.inj f1)
    exact ⟨by rw [e2, f2, hd], e3.trans f3.symm, e4.trans f4.symm⟩
  · rw [e1] at f1; cases f1
  · rw [e1] at f1; cases f1
  · rw [e1] at f1
    have hu : u = u' := Except.ok.inj f1
    have hr : r = s := Int32.toInt_inj.mp (by rw [e2, f2, hu])
    exact ⟨hr, by rw [e3, f3, hr], e4.trans f4.symm⟩
def ev_v (wd : Nat → Int64) (o : Int) : Int64 := if o < 100000 then Int64.ofInt o else wd (o - 100000).toNat
def ev_j (o : Int) (x y : Int64) : Int64 := if o = -12 then x + y else if o = -13 then x - y else if o = -14 then x * y else if o = -15 then (if y = 0 then 0 else x / y) else if o = -16 then (if y = 0 then 0 else x - x / y * y) else if o = -5 then (if x ≠ 0 ∧ y ≠ 0 then 1 else 0) else if o = -6 then (if x ≠ 0 ∨ y ≠ 0 then 1 else 0) else if o = -7 then (if x < y then 1 else 0) else if o = -8 then (if x ≤ y then 1 else 0) else if o = -9 then (if x = y then 1 else 0) else if o = -10 then (if y ≤ x then 1 else 0) else if o = -11 then (if y < x then 1 else 0) else 0
def ev_r (o : Int) (x y : Int64) : Int64 := if o = -5 then x &&& y else if o = -6 then x ||| y else ev_j o x y
def ev_nt (st : List Int64) : List Int64 := match st with
  | [] => []
  | x :: t => (if x = 0 then 1 else 0) :: t
def ev_c (wd : Nat → Int64) : List Int → List Int64 → Int64
  | [], _ => 0
  | o :: c, st => if 0 ≤ o then (if 64 ≤ st.length then 0 else ev_c wd c (ev_v wd o :: st)) else if o = -2 then st.headD 0 else if o = -4 then ev_c wd c (ev_nt st) else match st with
    | y :: x :: t => if o = -3 then (if y = 0 then ev_c wd c t else x) else ev_c wd c (ev_j o x y :: t)
    | _ => 0
theorem ev_c_nil {wd : Nat → Int64} {st : List Int64} : ev_c wd [] st = 0 := rfl
theorem ev_c_c {wd : Nat → Int64} {o : Int} {c : List Int} {st : List Int64} : ev_c wd (o :: c) st = if 0 ≤ o then (if 64 ≤ st.length then 0 else ev_c wd c (ev_v wd o :: st)) else if o = -2 then st.headD 0 else if o = -4 then ev_c wd c (ev_nt st) else match st with
    | y :: x :: t => if o = -3 then (if y = 0 then ev_c wd c t else x) else ev_c wd c (ev_j o x y :: t)
    | _ => 0 := rfl
theorem ev_c_psh {wd : Nat → Int64} {o : Int} {c : List Int} {st : List Int64} (h : 0 ≤ o) (hl : st.length < 64) : ev_c wd (o :: c) st = ev_c wd c (ev_v wd o :: st) := by
  rw [ev_c_c, if_pos h, if_neg (by omega)]
theorem ev_c_full {wd : Nat → Int64} {o : Int} {c : List Int} {st : List Int64} (h : 0 ≤ o) (hl : 64 ≤ st.length) : ev_c wd (o :: c) st = 0 := by
  rw [ev_c_c, if_pos h, if_pos hl]
theorem ev_c_ans {wd : Nat → Int64} {c : List Int} {st : List Int64} : ev_c wd (-2 :: c) st = st.headD 0 := by
  rw [ev_c_c, if_neg (by decide), if_pos rfl]
theorem ev_c_not {wd : Nat → Int64} {c : List Int} {st : List Int64} : ev_c wd (-4 :: c) st = ev_c wd c (ev_nt st) := by
  rw [ev_c_c, if_neg (by decide), if_neg (by decide), if_pos rfl]
theorem ev_c_if {wd : Nat → Int64} {c : List Int} {y x : Int64} {t : List Int64} : ev_c wd (-3 :: c) (y :: x :: t) = if y = 0 then ev_c wd c t else x := by
  rw [ev_c_c, if_neg (by decide), if_neg (by decide), if_neg (by decide)]
  exact if_pos rfl
theorem ev_c_two {wd : Nat → Int64} {o : Int} {c : List Int} {y x : Int64} {t : List Int64} (h : o < 0) (h2 : o ≠ -2) (h3 : o ≠ -3) (h4 : o ≠ -4) : ev_c wd (o :: c) (y :: x :: t) = ev_c wd c (ev_j o x y :: t) := by
  rw [ev_c_c, if_neg (by omega), if_neg h2, if_neg h4]
  exact if_neg h3
theorem ev_c_few {wd : Nat → Int64} {o : Int} {c : List Int} {st : List Int64} (h : o < 0) (h2 : o ≠ -2) (h4 : o ≠ -4) (hl : st.length < 2) : ev_c wd (o :: c) st = 0 := by
  rw [ev_c_c, if_neg (by omega), if_neg h2, if_neg h4]
  match st, hl with
  | [], _ => rfl
  | [_], _ => rfl
  | _ :: _ :: _, hl => exact absurd hl (by simp)
def ev_u (wd : Nat → Int64) (o : Int) (st : List Int64) : List Int64 := if 0 ≤ o then ev_v wd o :: st else if o = -4 then (match st with
    | [] => []
    | x :: t => (1 - x) :: t) else match st with
    | y :: x :: t => ev_r o x y :: t
    | _ => st
def ev_s (wd : Nat → Int64) : List Int → List Int64 → List Int64
  | [], st => st
  | o :: c, st => ev_s wd c (ev_u wd o st)
theorem ev_s_cons {wd : Nat → Int64} {o : Int} {c : List Int} {st : List Int64} : ev_s wd (o :: c) st = ev_s wd c (ev_u wd o st) := rfl
theorem ev_u_psh {wd : Nat → Int64} {o : Int} {st : List Int64} (h : 0 ≤ o) : ev_u wd o st = ev_v wd o :: st := if_pos h
theorem ev_u_not {wd : Nat → Int64} {x : Int64} {t : List Int64} : ev_u wd (-4) (x :: t) = (1 - x) :: t := (if_neg (by decide)).trans (if_pos rfl)
theorem ev_u_two {wd : Nat → Int64} {o : Int} {y x : Int64} {t : List Int64} (h : o < 0) (h4 : o ≠ -4) : ev_u wd o (y :: x :: t) = ev_r o x y :: t := (if_neg (by omega)).trans (if_neg h4)
def ev_k (o : Int) (k : List Bool) : Option (List Bool) := if 0 ≤ o then (if o < 100013 then some (false :: k) else none) else if o = -4 then (match k with
    | true :: t => some (true :: t)
    | _ => none) else if o = -5 ∨ o = -6 then (match k with
    | true :: true :: t => some (true :: t)
    | _ => none) else if -11 ≤ o ∧ o ≤ -7 then (match k with
    | false :: false :: t => some (true :: t)
    | _ => none) else if -16 ≤ o ∧ o ≤ -12 then (match k with
    | false :: false :: t => some (false :: t)
    | _ => none) else none
def ev_t : List Int → List Bool → Option (List Bool)
  | [], k => some k
  | o :: c, k => match ev_k o k with
    | none => none
    | some k' => ev_t c k'
def ev_ok : List Int64 → List Bool → Prop
  | [], [] => True
  | v :: st, b :: k => (b = true → v = 0 ∨ v = 1) ∧ ev_ok st k
  | _, _ => False
def ev_p (o : Int) : Nat := if 0 ≤ o then 1 else 0
def ev_n : List Int → Nat
  | [] => 0
  | o :: c => ev_p o + ev_n c
theorem ev_n_app : ∀ (c d : List Int), ev_n (c ++ d) = ev_n c + ev_n d
  | [], d => by show ev_n d = 0 + ev_n d; omega
  | o :: c, d => by
    show ev_p o + ev_n (c ++ d) = ev_p o + ev_n c + ev_n d
    rw [ev_n_app c d]; omega
theorem ev_t_app : ∀ (c d : List Int) (k k' : List Bool), ev_t c k = some k' → ev_t (c ++ d) k = ev_t d k'
  | [], d, k, k', h => by cases h; rfl
  | o :: c, d, k, k', h => by
    show (match ev_k o k with | none => none | some k1 => ev_t (c ++ d) k1) = ev_t d k'
    have h : (match ev_k o k with | none => none | some k1 => ev_t c k1) = some k' := h
    cases e : ev_k o k with
    | none => rw [e] at h; cases h
    | some k1 => rw [e] at h; exact ev_t_app c d k1 k' h
theorem ev_j_cmp {o : Int} {x y : Int64} (h : -11 ≤ o ∧ o ≤ -7) : ev_j o x y = 0 ∨ ev_j o x y = 1 := by
  unfold ev_j
  rw [if_neg (by omega), if_neg (by omega), if_neg (by omega), if_neg (by omega), if_neg (by omega), if_neg (by omega), if_neg (by omega)]
  split
  · split
    · exact Or.inr rfl
    · exact Or.inl rfl
  · split
    · split
      · exact Or.inr rfl
      · exact Or.inl rfl
    · split
      · split
        · exact Or.inr rfl
        · exact Or.inl rfl
      · split
        · split
          · exact Or.inr rfl
          · exact Or.inl rfl
        · split
          · split
            · exact Or.inr rfl
            · exact Or.inl rfl
          · exact Or.inl rfl
theorem ev_b2 {o : Int} {x y : Int64} (h : o = -5 ∨ o = -6) (hx : x = 0 ∨ x = 1) (hy : y = 0 ∨ y = 1) : ev_r o x y = ev_j o x y ∧ (ev_j o x y = 0 ∨ ev_j o x y = 1) := by
  rcases h with rfl | rfl <;> rcases hx with rfl | rfl <;> rcases hy with rfl | rfl <;> decide
theorem ev_r_j {o : Int} {x y : Int64} (h : o < -6) : ev_r o x y = ev_j o x y := by
  unfold ev_r
  rw [if_neg (by omega), if_neg (by omega)]
theorem ev_step {wd : Nat → Int64} {o : Int} {c : List Int} {st base : List Int64} {k k' : List Bool} (hk : ev_k o k = some k') (hs : ev_ok st k) (hl : st.length + base.length + ev_p o ≤ 64) : ev_c wd (o :: c) (st ++ base) = ev_c wd c (ev_u wd o st ++ base) ∧ ev_ok (ev_u wd o st) k' ∧ (ev_u wd o st).length ≤ st.length + ev_p o := by
  unfold ev_k at hk
  by_cases h0 : 0 ≤ o
  · rw [if_pos h0] at hk
    have hp : ev_p o = 1 := if_pos h0
    have hk : some (false :: k) = some k' := by
      by_cases y : o < 100013
      · rw [if_pos y] at hk; exact hk
      · rw [if_neg y] at hk; cases hk
    cases hk
    rw [ev_u_psh h0]
    refine ⟨?_, ⟨fun z => (by cases z), hs⟩, ?_⟩
    · exact ev_c_psh h0 (by rw [List.length_append]; omega)
    · show st.length + 1 ≤ st.length + ev_p o; omega
  · rw [if_neg h0] at hk
    by_cases h4 : o = -4
    · rw [if_pos h4] at hk
      subst h4
      match k, st, hs, hk with
      | true :: t, x :: s, hs, hk =>
        have hk : some (true :: t) = some k' := hk
        cases hk
        have hx := hs.1 rfl
        rw [ev_u_not]
        have e : (1 - x : Int64) = if x = 0 then 1 else 0 := by rcases hx with rfl | rfl <;> decide
        refine ⟨?_, ⟨fun _ => ?_, hs.2⟩, Nat.le_add_right _ _⟩
        · show ev_c wd (-4 :: c) (x :: (s ++ base)) = ev_c wd c ((1 - x) :: (s ++ base))
          rw [ev_c_not, e]; rfl
        · rcases hx with rfl | rfl <;> decide
      | false :: t, _, _, hk => cases (show none = some k' from hk)
      | [], _, _, hk => cases (show none = some k' from hk)
      | true :: t, [], hs, _ => exact (show False from hs).elim
    · rw [if_neg h4] at hk
      have two : ∀ (a b : Bool) (t : List Bool) (r : Bool), k = a :: b :: t → (∀ x y : Int64, (b = true → x = 0 ∨ x = 1) → (a = true → y = 0 ∨ y = 1) → ev_r o x y = ev_j o x y ∧ (r = true → ev_j o x y = 0 ∨ ev_j o x y = 1)) → k' = r :: t → o ≠ -2 → o ≠ -3 → ev_c wd (o :: c) (st ++ base) = ev_c wd c (ev_u wd o st ++ base) ∧ ev_ok (ev_u wd o st) k' ∧ (ev_u wd o st).length ≤ st.length + ev_p o := by
        intro a b t r ek hj ek' h2 h3
        subst ek ek'
        match st, hs with
        | y :: x :: s, hs =>
          have h1 := hj x y hs.2.1 hs.1
          rw [ev_u_two (by omega) h4]
          refine ⟨?_, ⟨fun z => ?_, hs.2.2⟩, ?_⟩
          · show ev_c wd (o :: c) (y :: x :: (s ++ base)) = ev_c wd c (ev_r o x y :: (s ++ base))
            rw [ev_c_two (by omega) h2 h3 h4, h1.1]
          · rw [h1.1]; exact h1.2 z
          · show s.length + 1 ≤ s.length + 1 + 1 + ev_p o; omega
        | [], hs => exact (show False from hs).elim
        | [_], hs => exact (show False from hs.2).elim
      by_cases h5 : o = -5 ∨ o = -6
      · rw [if_pos h5] at hk
        match k, hk, two with
        | true :: true :: t, hk, two =>
          have hk : some (true :: t) = some k' := hk
          cases hk
          exact two true true t true rfl (fun x y hx hy => ⟨(ev_b2 h5 (hx rfl) (hy rfl)).1, fun _ => (ev_b2 h5 (hx rfl) (hy rfl)).2⟩) rfl (by omega) (by omega)
        | [], hk, _ => cases (show none = some k' from hk)
        | [true], hk, _ => cases (show none = some k' from hk)
        | false :: _, hk, _ => cases (show none = some k' from hk)
        | true :: false :: _, hk, _ => cases (show none = some k' from hk)
      · rw [if_neg h5] at hk
        by_cases h7 : -11 ≤ o ∧ o ≤ -7
        · rw [if_pos h7] at hk
          match k, hk, two with
          | false :: false :: t, hk, two =>
            have hk : some (true :: t) = some k' := hk
            cases hk
            exact two false false t true rfl (fun x y _ _ => ⟨ev_r_j (by omega), fun _ => ev_j_cmp h7⟩) rfl (by omega) (by omega)
          | [], hk, _ => cases (show none = some k' from hk)
          | [false], hk, _ => cases (show none = some k' from hk)
          | true :: _, hk, _ => cases (show none = some k' from hk)
          | false :: true :: _, hk, _ => cases (show none = some k' from hk)
        · rw [if_neg h7] at hk
          by_cases h12 : -16 ≤ o ∧ o ≤ -12
          · rw [if_pos h12] at hk
            match k, hk, two with
            | false :: false :: t, hk, two =>
              have hk : some (false :: t) = some k' := hk
              cases hk
              exact two false false t false rfl (fun x y _ _ => ⟨ev_r_j (by omega), fun z => by cases z⟩) rfl (by omega) (by omega)
            | [], hk, _ => cases (show none = some k' from hk)
            | [false], hk, _ => cases (show none = some k' from hk)
            | true :: _, hk, _ => cases (show none = some k' from hk)
            | false :: true :: _, hk, _ => cases (show none = some k' from hk)
          · rw [if_neg h12] at hk; cases hk
theorem ev_k_push {o : Int} {k k' : List Bool} (h : ev_k o k = some k') (h0 : 0 ≤ o) : k' = false :: k ∧ o < 100013 := by
  unfold ev_k at h
  rw [if_pos h0] at h
  by_cases y : o < 100013
  · rw [if_pos y] at h; cases h; exact ⟨rfl, y⟩
  · rw [if_neg y] at h; cases h
theorem ev_s_wd {wd wd2 : Nat → Int64} (hw : ∀ k : Nat, k < 13 → wd k = wd2 k) : ∀ (c : List Int) (st : List Int64) (k k' : List Bool), ev_t c k = some k' → ev_s wd c st = ev_s wd2 c st
  | [], _, _, _, _ => rfl
  | o :: c, st, k, k', h => by
    have h : (match ev_k o k with | none => none | some k1 => ev_t c k1) = some k' := h
    cases e : ev_k o k with
    | none => rw [e] at h; cases h
    | some k1 =>
      rw [e] at h
      have eu : ev_u wd o st = ev_u wd2 o st := by
        by_cases h0 : 0 ≤ o
        · have hl := (ev_k_push e h0).2
          rw [ev_u_psh h0, ev_u_psh h0]
          unfold ev_v
          by_cases y : o < 100000
          · rw [if_pos y, if_pos y]
          · rw [if_neg y, if_neg y, hw _ (by omega)]
        · unfold ev_u
          rw [if_neg h0, if_neg h0]
      show ev_s wd c (ev_u wd o st) = ev_s wd2 c (ev_u wd2 o st)
      rw [eu]
      exact ev_s_wd hw c _ k1 k' h
theorem ev_run {wd : Nat → Int64} : ∀ (c d : List Int) (st base : List Int64) (k k' : List Bool), ev_t c k = some k' → ev_ok st k → st.length + base.length + ev_n c ≤ 64 → ev_c wd (c ++ d) (st ++ base) = ev_c wd d (ev_s wd c st ++ base) ∧ ev_ok (ev_s wd c st) k'
  | [], d, st, base, k, k', h, hs, _ => by cases h; exact ⟨rfl, hs⟩
  | o :: c, d, st, base, k, k', h, hs, hl => by
    have h : (match ev_k o k with | none => none | some k1 => ev_t c k1) = some k' := h
    have hn : ev_n (o :: c) = ev_p o + ev_n c := rfl
    cases e : ev_k o k with
    | none => rw [e] at h; cases h
    | some k1 =>
      rw [e] at h
      obtain ⟨h1, h2, h3⟩ := ev_step (wd := wd) (c := c ++ d) (base := base) e hs (by omega)
      obtain ⟨h4, h5⟩ := ev_run c d (ev_u wd o st) base k1 k' h h2 (by omega)
      exact ⟨h1.trans h4, h5⟩
abbrev RuA := List (List Int × Option (List Int))
def ru_fl : RuA → List Int
  | [] => []
  | (s, none) :: cs => s ++ -2 :: ru_fl cs
  | (s, some t) :: cs => s ++ (t ++ -3 :: ru_fl cs)
def ru_sum (wd : Nat → Int64) : RuA → Int64
  | [] => 0
  | (s, none) :: _ => (ev_s wd s []).headD 0
  | (s, some t) :: cs => if (ev_s wd t []).headD 0 = 1 then (ev_s wd s []).headD 0 else ru_sum wd cs
def ru_ok : RuA → Prop
  | [] => True
  | (s, none) :: cs => ev_t s [] = some [false] ∧ ev_n s ≤ 60 ∧ ru_ok cs
  | (s, some t) :: cs => ev_t s [] = some [false] ∧ ev_t t [] = some [true] ∧ ev_n s + ev_n t ≤ 60 ∧ ru_ok cs
theorem ev_one {st : List Int64} {b : Bool} (h : ev_ok st [b]) : ∃ v, st = [v] ∧ (b = true → v = 0 ∨ v = 1) := by
  match st, h with
  | [v], h => exact ⟨v, rfl, h.1⟩
  | [], h => exact (show False from h).elim
  | _ :: _ :: _, h => exact (show False from h.2).elim
theorem ru_eq {wd : Nat → Int64} : ∀ (R : RuA), ru_ok R → ev_c wd (ru_fl R) [] = ru_sum wd R
  | [], _ => ev_c_nil
  | (s, none) :: cs, h => by
    obtain ⟨h1, h2, -⟩ := h
    obtain ⟨e, ho⟩ := ev_run (wd := wd) s (-2 :: ru_fl cs) [] [] [] [false] h1 trivial (by show 0 + 0 + ev_n s ≤ 64; omega)
    show ev_c wd (s ++ -2 :: ru_fl cs) [] = (ev_s wd s []).headD 0
    have e : ev_c wd (s ++ -2 :: ru_fl cs) [] = ev_c wd (-2 :: ru_fl cs) (ev_s wd s [] ++ []) := e
    rw [e, List.append_nil, ev_c_ans]
  | (s, some t) :: cs, h => by
    obtain ⟨h1, h2, h3, h4⟩ := h
    obtain ⟨e, ho⟩ := ev_run (wd := wd) s (t ++ -3 :: ru_fl cs) [] [] [] [false] h1 trivial (by show 0 + 0 + ev_n s ≤ 64; omega)
    obtain ⟨v, ev, -⟩ := ev_one ho
    obtain ⟨e2, ho2⟩ := ev_run (wd := wd) t (-3 :: ru_fl cs) [] [v] [] [true] h2 trivial (by show 0 + 1 + ev_n t ≤ 64; omega)
    obtain ⟨b, eb, hb⟩ := ev_one ho2
    have e : ev_c wd (s ++ (t ++ -3 :: ru_fl cs)) [] = ev_c wd (t ++ -3 :: ru_fl cs) (ev_s wd s [] ++ []) := e
    have e2 : ev_c wd (t ++ -3 :: ru_fl cs) [v] = ev_c wd (-3 :: ru_fl cs) (ev_s wd t [] ++ [v]) := e2
    show ev_c wd (s ++ (t ++ -3 :: ru_fl cs)) [] = if (ev_s wd t []).headD 0 = 1 then (ev_s wd s []).headD 0 else ru_sum wd cs
    rw [e, List.append_nil, ev, e2, eb]
    show ev_c wd (-3 :: ru_fl cs) (b :: v :: []) = if b = 1 then v else ru_sum wd cs
    rw [ev_c_if, ru_eq cs h4]
    rcases hb rfl with rfl | rfl
    · rw [if_pos rfl, if_neg (by decide)]
    · rw [if_neg (by decide), if_pos rfl]
theorem ru_sum_wd {wd wd2 : Nat → Int64} (hw : ∀ k : Nat, k < 13 → wd k = wd2 k) : ∀ (R : RuA), ru_ok R → ru_sum wd R = ru_sum wd2 R
  | [], _ => rfl
  | (s, none) :: cs, h => by
    show (ev_s wd s []).headD 0 = (ev_s wd2 s []).headD 0
    rw [ev_s_wd hw s [] [] [false] h.1]
  | (s, some t) :: cs, h => by
    show (if (ev_s wd t []).headD 0 = 1 then (ev_s wd s []).headD 0 else ru_sum wd cs) = (if (ev_s wd2 t []).headD 0 = 1 then (ev_s wd2 s []).headD 0 else ru_sum wd2 cs)
    rw [ev_s_wd hw s [] [] [false] h.1, ev_s_wd hw t [] [] [true] h.2.1, ru_sum_wd hw cs h.2.2.2]
def hst (g : Nat → Int64) : Nat → List Int64
  | 0 => []
  | n + 1 => g n :: hst g n
theorem hst_len (g : Nat → Int64) : ∀ n, (hst g n).length = n
  | 0 => rfl
  | n + 1 => by show (hst g n).length + 1 = n + 1; rw [hst_len g n]
theorem hst_up {g g' : Nat → Int64} {i : Nat} {x : Int64} (e : g' = vp_updL g i x) : ∀ n, n ≤ i → hst g' n = hst g n
  | 0, _ => rfl
  | n + 1, h => by
    show g' n :: hst g' n = g n :: hst g n
    rw [hst_up e n (by omega), e]
    show (if n = i then x else g n) :: _ = _
    rw [if_neg (by omega)]
theorem hst_at {g g' : Nat → Int64} {i : Nat} {x : Int64} (e : g' = vp_updL g i x) : hst g' (i + 1) = x :: hst g i := by
  show g' i :: hst g' i = x :: hst g i
  rw [hst_up e i (Nat.le_refl _), e]
  show (if i = i then x else g i) :: _ = _
  rw [if_pos rfl]
def ec_v (B : Nat → Int) (p : Nat) : Int := if pz_isD (B p) = true then pz_nv B p (pz_te B p - p) else 100000 + pz_wa B p pz_words 0
def ec_o (x : Int) : Int := if x = 43 then -12 else if x = 45 then -13 else if x = 42 then -14 else if x = 47 then -15 else if x = 37 then -16 else -1
def ec_w (w : Int) : List Int := if w = -1 then [] else [w]
def ec_S (B : Nat → Int) : Nat → Nat → Int → List Int
  | 0, _, w => ec_w w
  | k + 1, p, w => if ec_o (B p) = -1 then ec_w w else if ec_o (B p) = -12 ∨ ec_o (B p) = -13 then ec_w w ++ ec_v B (pz_nt B p) :: ec_S B k (pz_nt B (pz_nt B p)) (ec_o (B p)) else ec_v B (pz_nt B p) :: ec_o (B p) :: ec_S B k (pz_nt B (pz_nt B p)) w
def ec_sL (B : Nat → Int) (p : Nat) (w : Int) : List Int := ec_S B 401 p w
def ec_sum (B : Nat → Int) (p : Nat) : List Int := ec_v B p :: ec_sL B (pz_nt B p) (-1)
def ec_c (B : Nat → Int) (p : Nat) : Int := if B p = 60 then (if pz_te B p = p + 2 then -8 else -7) else if B p = 61 then -9 else (if pz_te B p = p + 2 then -10 else -11)
def ec_com (B : Nat → Int) (s : Nat × Nat) : List Int := ec_sum B s.1 ++ (match pz_sum B s with
    | .ok t => ec_sum B (pz_nt B t.1) ++ [ec_c B t.1]
    | .error _ => [])
def ec_or (o : Bool) : List Int := if o = true then [-6] else []
def ec_TL (B : Nat → Int) (f : Nat × Nat → Except Int (Nat × Nat)) (F : Nat × Nat → List Int) : Nat → Nat × Nat → Bool → List Int
  | 0, _, o => ec_or o
  | k + 1, s, o => if pz_wd B s.1 pz_and = true then F (pz_nx B s) ++ -5 :: (match f (pz_nx B s) with
      | .ok t => ec_TL B f F k t o
      | .error _ => []) else if pz_wd B s.1 pz_or = true then ec_or o ++ (F (pz_nx B s) ++ (match f (pz_nx B s) with
      | .ok t => ec_TL B f F k t true
      | .error _ => [])) else ec_or o
def ec_tst (B : Nat → Int) (f : Nat × Nat → Except Int (Nat × Nat)) (F : Nat × Nat → List Int) (s : Nat × Nat) : List Int := F s ++ (match f s with
    | .ok t => ec_TL B f F 401 t false
    | .error _ => [])
def ec_fact (B : Nat → Int) : Nat → Nat × Nat → List Int
  | 0, s => ec_com B s
  | m + 1, s => if pz_wd B s.1 pz_not = true then ec_fact B m (pz_nx B s) ++ [-4] else if B s.1 = 91 then ec_tst B (pz_fact B m) (ec_fact B m) (pz_nx B s) else ec_com B s
def ru_cl (B : Nat → Int) (s : Nat × Nat) : List Int × Option (List Int) := (ec_sum B (pz_nt B s.1), match pz_sum B (pz_nx B s) with
    | .ok t => if pz_wd B t.1 pz_if = true then some (ec_tst B (pz_fact B 10) (ec_fact B 10) (pz_nx B t)) else none
    | .error _ => none)
def ru_lp (B : Nat → Int) : Nat → (Nat × Nat) × Nat → RuA
  | 0, _ => []
  | k + 1, u => if B u.1.1 = 59 then ru_cl B (pz_nx B u.1) :: (match pz_cla B u.2 (pz_nx B u.1) with
      | .ok t => ru_lp B k (t, u.2 + 1)
      | .error _ => []) else []
def ru_of (B : Nat → Int) : RuA := ru_cl B (pz_sk B 0, 0) :: (match pz_cla B 0 (pz_sk B 0, 0) with
    | .ok t => ru_lp B 401 (t, 1)
    | .error _ => [])
theorem pz_te_ge {B : Nat → Int} {p : Nat} : p ≤ pz_te B p := by
  by_cases h : B p = -1
  · unfold pz_te
    rw [h]
    exact Nat.le_refl _
  · exact Nat.le_of_succ_le (pz_te_gt h)
theorem pz_nt_ge {B : Nat → Int} {p : Nat} : p ≤ pz_nt B p := Nat.le_trans pz_te_ge (pz_run_ge _ _)
theorem ec_o_no {x : Int} : ec_o x = -1 ↔ ¬ (x = 43 ∨ x = 45 ∨ x = 42 ∨ x = 47 ∨ x = 37) := by
  unfold ec_o
  constructor
  · intro h z
    rcases z with rfl | rfl | rfl | rfl | rfl <;> exact absurd h (by decide)
  · intro h
    rw [if_neg (by omega), if_neg (by omega), if_neg (by omega), if_neg (by omega), if_neg (by omega)]
theorem ec_o_rg {x : Int} : ec_o x = -1 ∨ (-16 ≤ ec_o x ∧ ec_o x ≤ -12) := by
  unfold ec_o
  split
  · right; decide
  · split
    · right; decide
    · split
      · right; decide
      · split
        · right; decide
        · split
          · right; decide
          · left; rfl
theorem ec_o_ne {B : Nat → Int} {p : Nat} (h : ¬ ec_o (B p) = -1) : B p ≠ -1 := fun z => h (by rw [z]; decide)
theorem ec_S_big {B : Nat → Int} (hB : pz_fi B) : ∀ (k p : Nat) (w : Int), 400 ≤ p + k → ec_S B (k + 1) p w = ec_S B k p w
  | 0, p, w, h => by
    have e : ec_o (B p) = -1 := by rw [hB p (by omega)]; decide
    show (if ec_o (B p) = -1 then ec_w w else _) = ec_w w
    rw [if_pos e]
  | k + 1, p, w, h => by
    by_cases e : ec_o (B p) = -1
    · show (if ec_o (B p) = -1 then ec_w w else _) = (if ec_o (B p) = -1 then ec_w w else _)
      rw [if_pos e, if_pos e]
    · have h1 := pz_nt_gt (ec_o_ne e)
      have h2 := pz_nt_ge (B := B) (p := pz_nt B p)
      have h3 : ∀ v, ec_S B (k + 1) (pz_nt B (pz_nt B p)) v = ec_S B k (pz_nt B (pz_nt B p)) v := fun v => ec_S_big hB k _ v (by omega)
      show (if ec_o (B p) = -1 then ec_w w else if ec_o (B p) = -12 ∨ ec_o (B p) = -13 then ec_w w ++ ec_v B (pz_nt B p) :: ec_S B (k + 1) (pz_nt B (pz_nt B p)) (ec_o (B p)) else ec_v B (pz_nt B p) :: ec_o (B p) :: ec_S B (k + 1) (pz_nt B (pz_nt B p)) w) = (if ec_o (B p) = -1 then ec_w w else if ec_o (B p) = -12 ∨ ec_o (B p) = -13 then ec_w w ++ ec_v B (pz_nt B p) :: ec_S B k (pz_nt B (pz_nt B p)) (ec_o (B p)) else ec_v B (pz_nt B p) :: ec_o (B p) :: ec_S B k (pz_nt B (pz_nt B p)) w)
      rw [h3, h3]
theorem ec_sL_no {B : Nat → Int} {p : Nat} {w : Int} (h : ec_o (B p) = -1) : ec_sL B p w = ec_w w := by
  show (if ec_o (B p) = -1 then ec_w w else _) = ec_w w
  rw [if_pos h]
theorem ec_sL_pm {B : Nat → Int} (hB : pz_fi B) {p : Nat} {w : Int} (h : ec_o (B p) = -12 ∨ ec_o (B p) = -13) : ec_sL B p w = ec_w w ++ ec_v B (pz_nt B p) :: ec_sL B (pz_nt B (pz_nt B p)) (ec_o (B p)) := by
  have e : ec_S B 401 (pz_nt B (pz_nt B p)) (ec_o (B p)) = ec_S B 400 (pz_nt B (pz_nt B p)) (ec_o (B p)) := ec_S_big hB 400 _ _ (Nat.le_add_left _ _)
  show (if ec_o (B p) = -1 then ec_w w else if ec_o (B p) = -12 ∨ ec_o (B p) = -13 then ec_w w ++ ec_v B (pz_nt B p) :: ec_S B 400 (pz_nt B (pz_nt B p)) (ec_o (B p)) else _) = ec_w w ++ ec_v B (pz_nt B p) :: ec_S B 401 (pz_nt B (pz_nt B p)) (ec_o (B p))
  rw [if_neg (by omega), if_pos h, e]
theorem ec_sL_td {B : Nat → Int} (hB : pz_fi B) {p : Nat} {w : Int} (h0 : ¬ ec_o (B p) = -1) (h : ¬ (ec_o (B p) = -12 ∨ ec_o (B p) = -13)) : ec_sL B p w = ec_v B (pz_nt B p) :: ec_o (B p) :: ec_sL B (pz_nt B (pz_nt B p)) w := by
  have e : ec_S B 401 (pz_nt B (pz_nt B p)) w = ec_S B 400 (pz_nt B (pz_nt B p)) w := ec_S_big hB 400 _ _ (Nat.le_add_left _ _)
  show (if ec_o (B p) = -1 then ec_w w else if ec_o (B p) = -12 ∨ ec_o (B p) = -13 then _ else ec_v B (pz_nt B p) :: ec_o (B p) :: ec_S B 400 (pz_nt B (pz_nt B p)) w) = ec_v B (pz_nt B p) :: ec_o (B p) :: ec_S B 401 (pz_nt B (pz_nt B p)) w
  rw [if_neg h0, if_neg h, e]
theorem ec_TL_big {B : Nat → Int} (hB : pz_fi B) {f : Nat × Nat → Except Int (Nat × Nat)} {F : Nat × Nat → List Int} (hf : ∀ s t, f s = .ok t → B s.1 ≠ -1 ∧ s.1 < t.1) : ∀ (k : Nat) (s : Nat × Nat) (o : Bool), 400 ≤ s.1 + k → ec_TL B f F (k + 1) s o = ec_TL B f F k s o
  | 0, s, o, h => by
    have h1 : ¬ pz_wd B s.1 pz_and = true := fun z => pz_and_ne (Or.inl z) (hB s.1 (by omega))
    have h2 : ¬ pz_wd B s.1 pz_or = true := fun z => pz_and_ne (Or.inr z) (hB s.1 (by omega))
    show (if pz_wd B s.1 pz_and = true then _ else if pz_wd B s.1 pz_or = true then _ else ec_or o) = ec_or o
    rw [if_neg h1, if_neg h2]
  | k + 1, s, o, h => by
    by_cases h1 : pz_wd B s.1 pz_and = true
    · have hb := pz_nt_gt (pz_and_ne (B := B) (p := s.1) (Or.inl h1))
      show (if pz_wd B s.1 pz_and = true then F (pz_nx B s) ++ -5 :: (match f (pz_nx B s) with | .ok t => ec_TL B f F (k + 1) t o | .error _ => []) else _) = (if pz_wd B s.1 pz_and = true then F (pz_nx B s) ++ -5 :: (match f (pz_nx B s) with | .ok t => ec_TL B f F k t o | .error _ => []) else _)
      rw [if_pos h1, if_pos h1]
      cases e : f (pz_nx B s) with
      | error z => rfl
      | ok t =>
        have h3 := (hf _ _ e).2
        have h4 : (pz_nx B s).1 = pz_nt B s.1 := rfl
        show F (pz_nx B s) ++ -5 :: ec_TL B f F (k + 1) t o = F (pz_nx B s) ++ -5 :: ec_TL B f F k t o
        rw [ec_TL_big hB hf k t o (by omega)]
    · by_cases h2 : pz_wd B s.1 pz_or = true
      · have hb := pz_nt_gt (pz_and_ne (B := B) (p := s.1) (Or.inr h2))
        show (if pz_wd B s.1 pz_and = true then _ else if pz_wd B s.1 pz_or = true then ec_or o ++ (F (pz_nx B s) ++ (match f (pz_nx B s) with | .ok t => ec_TL B f F (k + 1) t true | .error _ => [])) else _) = (if pz_wd B s.1 pz_and = true then _ else if pz_wd B s.1 pz_or = true then ec_or o ++ (F (pz_nx B s) ++ (match f (pz_nx B s) with | .ok t => ec_TL B f F k t true | .error _ => [])) else _)
        rw [if_neg h1, if_neg h1, if_pos h2, if_pos h2]
        cases e : f (pz_nx B s) with
        | error z => rfl
        | ok t =>
          have h3 := (hf _ _ e).2
          have h4 : (pz_nx B s).1 = pz_nt B s.1 := rfl
          show ec_or o ++ (F (pz_nx B s) ++ ec_TL B f F (k + 1) t true) = ec_or o ++ (F (pz_nx B s) ++ ec_TL B f F k t true)
          rw [ec_TL_big hB hf k t true (by omega)]
      · show (if pz_wd B s.1 pz_and = true then _ else if pz_wd B s.1 pz_or = true then _ else ec_or o) = (if pz_wd B s.1 pz_and = true then _ else if pz_wd B s.1 pz_or = true then _ else ec_or o)
        rw [if_neg h1, if_neg h2, if_neg h1, if_neg h2]
theorem ec_TL_and {B : Nat → Int} (hB : pz_fi B) {f : Nat × Nat → Except Int (Nat × Nat)} {F : Nat × Nat → List Int} (hf : ∀ s t, f s = .ok t → B s.1 ≠ -1 ∧ s.1 < t.1) {s t : Nat × Nat} {o : Bool} (h : pz_wd B s.1 pz_and = true) (e : f (pz_nx B s) = .ok t) : ec_TL B f F 401 s o = F (pz_nx B s) ++ -5 :: ec_TL B f F 401 t o := by
  show (if pz_wd B s.1 pz_and = true then F (pz_nx B s) ++ -5 :: (match f (pz_nx B s) with | .ok t => ec_TL B f F 400 t o | .error _ => []) else _) = _
  rw [if_pos h, e]
  show F (pz_nx B s) ++ -5 :: ec_TL B f F 400 t o = _
  rw [ec_TL_big hB hf 400 t o (Nat.le_add_left _ _)]
theorem ec_TL_or {B : Nat → Int} (hB : pz_fi B) {f : Nat × Nat → Except Int (Nat × Nat)} {F : Nat × Nat → List Int} (hf : ∀ s t, f s = .ok t → B s.1 ≠ -1 ∧ s.1 < t.1) {s t : Nat × Nat} {o : Bool} (h1 : ¬ pz_wd B s.1 pz_and = true) (h : pz_wd B s.1 pz_or = true) (e : f (pz_nx B s) = .ok t) : ec_TL B f F 401 s o = ec_or o ++ (F (pz_nx B s) ++ ec_TL B f F 401 t true) := by
  show (if pz_wd B s.1 pz_and = true then _ else if pz_wd B s.1 pz_or = true then ec_or o ++ (F (pz_nx B s) ++ (match f (pz_nx B s) with | .ok t => ec_TL B f F 400 t true | .error _ => [])) else _) = _
  rw [if_neg h1, if_pos h, e]
  show ec_or o ++ (F (pz_nx B s) ++ ec_TL B f F 400 t true) = _
  rw [ec_TL_big hB hf 400 t true (Nat.le_add_left _ _)]
theorem ec_TL_no {B : Nat → Int} {f : Nat × Nat → Except Int (Nat × Nat)} {F : Nat × Nat → List Int} {s : Nat × Nat} {o : Bool} (h1 : ¬ pz_wd B s.1 pz_and = true) (h2 : ¬ pz_wd B s.1 pz_or = true) : ec_TL B f F 401 s o = ec_or o := by
  show (if pz_wd B s.1 pz_and = true then _ else if pz_wd B s.1 pz_or = true then _ else ec_or o) = ec_or o
  rw [if_neg h1, if_neg h2]
theorem pz_wa_ge0 {B : Nat → Int} {p : Nat} : ∀ (ws : List (List Int)) (k : Int), 0 ≤ k → -1 ≤ pz_wa B p ws k
  | [], k, _ => by show (-1 : Int) ≤ -1; omega
  | w :: t, k, h => by
    show -1 ≤ (if pz_wd B p w = true then k else pz_wa B p t (k + 1))
    by_cases z : pz_wd B p w = true
    · rw [if_pos z]; omega
    · rw [if_neg z]; exact pz_wa_ge0 t (k + 1) (by omega)
theorem pz_num_v {B : Nat → Int} {lo hi v : Int} {p : Nat} (h : pz_num B lo hi p = .ok v) : v = pz_nv B p (pz_te B p - p) ∧ lo ≤ v ∧ v ≤ hi := by
  unfold pz_num at h
  by_cases z : pz_isD (B p) = true
  · rw [if_pos z] at h
    by_cases y : 5 < pz_te B p - p
    · rw [if_pos y] at h; cases h
    · rw [if_neg y] at h
      by_cases x : pz_nv B p (pz_te B p - p) < lo ∨ hi < pz_nv B p (pz_te B p - p)
      · rw [if_pos x] at h; cases h
      · rw [if_neg x] at h; cases h; exact ⟨rfl, by omega⟩
  · rw [if_neg z] at h; cases h
theorem pz_cnt_ok {B : Nat → Int} {s t : Nat × Nat} (h : pz_cnt B s = .ok t) : t = (pz_nt B s.1, s.2 + 1) ∧ s.2 < 60 := by
  unfold pz_cnt at h
  by_cases z : 60 ≤ s.2
  · rw [if_pos z] at h; cases h
  · rw [if_neg z] at h; cases h; exact ⟨rfl, by omega⟩
theorem pz_wa_lt {B : Nat → Int} {p : Nat} : ∀ (ws : List (List Int)) (k : Int), 0 ≤ k → pz_wa B p ws k < k + (ws.length : Int)
  | [], k, h => by show (-1 : Int) < k + ((0 : Nat) : Int); omega
  | w :: t, k, h => by
    show (if pz_wd B p w = true then k else pz_wa B p t (k + 1)) < k + ((t.length + 1 : Nat) : Int)
    by_cases z : pz_wd B p w = true
    · rw [if_pos z]; omega
    · rw [if_neg z]
      have := pz_wa_lt (B := B) (p := p) t (k + 1) (by omega)
      omega
theorem pz_val_ok {B : Nat → Int} {s t : Nat × Nat} (h : pz_val B s = .ok t) : t = (pz_nt B s.1, s.2 + 1) ∧ s.2 < 60 ∧ 0 ≤ ec_v B s.1 ∧ ec_v B s.1 < 100013 := by
  unfold pz_val at h
  unfold ec_v
  by_cases z : pz_isD (B s.1) = true
  · rw [if_pos z] at h ⊢
    cases e : pz_num B 0 99999 s.1 with
    | error x => rw [e] at h; cases h
    | ok v =>
      rw [e] at h
      have h1 := pz_cnt_ok h
      have h2 := pz_num_v e
      exact ⟨h1.1, h1.2, by rw [← h2.1]; omega⟩
  · rw [if_neg z] at h ⊢
    by_cases y : pz_wa B s.1 pz_words 0 = -1
    · rw [if_pos y] at h; cases h
    · rw [if_neg y] at h
      have h1 := pz_cnt_ok h
      have h2 := pz_wa_ge0 (B := B) (p := s.1) pz_words 0 (Int.le_refl _)
      have h3 := pz_wa_lt (B := B) (p := s.1) pz_words 0 (Int.le_refl _)
      have h4 : (pz_words.length : Int) = 13 := by decide
      exact ⟨h1.1, h1.2, by omega⟩
def ec_wk (w : Int) (k : List Bool) : List Bool := if w = -1 then false :: k else false :: false :: k
def ec_w1 (w : Int) : Nat := if w = -1 then 0 else 1
theorem ev_k_v {o : Int} {k : List Bool} (h : 0 ≤ o ∧ o < 100013) : ev_k o k = some (false :: k) := (if_pos h.1).trans (if_pos h.2)
theorem ev_k_a {o : Int} {k : List Bool} (h : -16 ≤ o ∧ o ≤ -12) : ev_k o (false :: false :: k) = some (false :: k) := by
  unfold ev_k
  rw [if_neg (by omega), if_neg (by omega), if_neg (by omega), if_neg (by omega), if_pos h]
theorem ev_k_c {o : Int} {k : List Bool} (h : -11 ≤ o ∧ o ≤ -7) : ev_k o (false :: false :: k) = some (true :: k) := by
  unfold ev_k
  rw [if_neg (by omega), if_neg (by omega), if_neg (by omega), if_pos h]
theorem ev_k_b {o : Int} {k : List Bool} (h : o = -5 ∨ o = -6) : ev_k o (true :: true :: k) = some (true :: k) := by
  unfold ev_k
  rw [if_neg (by omega), if_neg (by omega), if_pos h]
theorem ev_k_n {k : List Bool} : ev_k (-4) (true :: k) = some (true :: k) := by
  unfold ev_k
  rw [if_neg (by decide), if_pos rfl]
theorem ev_t_c {o : Int} {c : List Int} {k k' : List Bool} (h : ev_k o k = some k') : ev_t (o :: c) k = ev_t c k' := by
  show (match ev_k o k with | none => none | some k1 => ev_t c k1) = _
  rw [h]
theorem ec_w_t {w : Int} {k : List Bool} (hw : w = -1 ∨ w = -12 ∨ w = -13) : ev_t (ec_w w) (ec_wk w k) = some (false :: k) ∧ ev_n (ec_w w) = 0 ∧ (ec_w w).length = ec_w1 w := by
  rcases hw with rfl | rfl | rfl
  · exact ⟨rfl, rfl, rfl⟩
  · refine ⟨?_, rfl, rfl⟩
    show ev_t [-12] (false :: false :: k) = _
    rw [ev_t_c (ev_k_a (by decide))]; rfl
  · refine ⟨?_, rfl, rfl⟩
    show ev_t [-13] (false :: false :: k) = _
    rw [ev_t_c (ev_k_a (by decide))]; rfl
theorem ec_S_t {B : Nat → Int} : ∀ (n : Nat) (s t : Nat × Nat) (w : Int) (k : List Bool), pz_it (pz_sF B) n s = .ok t → (w = -1 ∨ w = -12 ∨ w = -13) → s.2 ≤ 60 → ev_t (ec_S B n s.1 w) (ec_wk w k) = some (false :: k) ∧ ev_n (ec_S B n s.1 w) + s.2 ≤ t.2 ∧ (ec_S B n s.1 w).length + s.1 ≤ t.1 + ec_w1 w ∧ t.2 ≤ 60
  | 0, s, t, w, k, h, hw, h6 => by
    cases h
    obtain ⟨h1, h2, h3⟩ := ec_w_t (k := k) hw
    exact ⟨h1, by show ev_n (ec_w w) + s.2 ≤ s.2; omega, by show (ec_w w).length + s.1 ≤ s.1 + ec_w1 w; omega, h6⟩
  | n + 1, s, t, w, k, h, hw, h6 => by
    rw [pz_it] at h
    obtain ⟨w1, w2, w3⟩ := ec_w_t (k := k) hw
    by_cases e : ec_o (B s.1) = -1
    · have e1 : pz_sF B s = none := if_neg (ec_o_no.mp e)
      rw [e1] at h
      have h : (Except.ok s : Except Int (Nat × Nat)) = .ok t := h
      cases h
      have e2 : ec_S B (n + 1) s.1 w = ec_w w := if_pos e
      rw [e2]
      exact ⟨w1, by omega, by omega, h6⟩
    · have e1 : pz_sF B s = some (pz_val B (pz_nx B s)) := if_pos (Classical.byContradiction (fun z => e (ec_o_no.mpr z)))
      rw [e1] at h
      cases ev : pz_val B (pz_nx B s) with
      | error z => rw [ev] at h; cases h
      | ok sq1 =>
        rw [ev] at h
        have h : pz_it (pz_sF B) n sq1 = .ok t := h
        obtain ⟨v1, v2, v3⟩ := pz_val_ok ev
        have p1 := pz_nt_gt (ec_o_ne e)
        have q1 : (pz_nx B s).1 = pz_nt B s.1 := rfl
        have q2 : (pz_nx B s).2 = s.2 := rfl
        rw [q1, q2] at v1
        rw [q1] at v3
        have q3 : sq1.1 = pz_nt B (pz_nt B s.1) := by rw [v1]
        have q4 : sq1.2 = s.2 + 1 := by rw [v1]
        have p2 : pz_nt B s.1 + 1 ≤ pz_nt B (pz_nt B s.1) := by
          have := (pz_val_gt ev).2
          omega
        have ep : ev_p (ec_v B (pz_nt B s.1)) = 1 := if_pos v3.1
        by_cases o : ec_o (B s.1) = -12 ∨ ec_o (B s.1) = -13
        · have e2 : ec_S B (n + 1) s.1 w = ec_w w ++ ec_v B (pz_nt B s.1) :: ec_S B n (pz_nt B (pz_nt B s.1)) (ec_o (B s.1)) := (if_neg e).trans (if_pos o)
          obtain ⟨i1, i2, i3, i4⟩ := ec_S_t n sq1 t (ec_o (B s.1)) k h (Or.inr o) (by omega)
          rw [q3] at i1 i2 i3
          have k1 : ec_wk (ec_o (B s.1)) k = false :: false :: k := if_neg e
          have k2 : ec_w1 (ec_o (B s.1)) = 1 := if_neg e
          rw [k1] at i1
          rw [e2]
          refine ⟨?_, ?_, ?_, i4⟩
          · rw [ev_t_app _ _ _ _ w1, ev_t_c (ev_k_v v3)]; exact i1
          · rw [ev_n_app]
            show ev_n (ec_w w) + (ev_p (ec_v B (pz_nt B s.1)) + ev_n (ec_S B n (pz_nt B (pz_nt B s.1)) (ec_o (B s.1)))) + s.2 ≤ t.2
            omega
          · rw [List.length_append, List.length_cons]; omega
        · have e2 : ec_S B (n + 1) s.1 w = ec_v B (pz_nt B s.1) :: ec_o (B s.1) :: ec_S B n (pz_nt B (pz_nt B s.1)) w := (if_neg e).trans (if_neg o)
          obtain ⟨i1, i2, i3, i4⟩ := ec_S_t n sq1 t w k h hw (by omega)
          rw [q3] at i1 i2 i3
          have hr : -16 ≤ ec_o (B s.1) ∧ ec_o (B s.1) ≤ -12 := ec_o_rg.resolve_left e
          have en : ev_p (ec_o (B s.1)) = 0 := if_neg (by omega)
          rw [e2]
          refine ⟨?_, ?_, ?_, i4⟩
          · rw [ev_t_c (ev_k_v v3)]
            have hk : ∃ k2, ec_wk w k = false :: k2 := by
              rcases hw with rfl | rfl | rfl
              · exact ⟨_, rfl⟩
              · exact ⟨_, rfl⟩
              · exact ⟨_, rfl⟩
            obtain ⟨k2, hk⟩ := hk
            rw [hk, ev_t_c (ev_k_a hr), ← hk]
            exact i1
          · show ev_p (ec_v B (pz_nt B s.1)) + (ev_p (ec_o (B s.1)) + ev_n (ec_S B n (pz_nt B (pz_nt B s.1)) w)) + s.2 ≤ t.2
            omega
          · rw [List.length_cons, List.length_cons]; omega
def ec_gd (c : List Int) (s t : Nat × Nat) (b : Bool) : Prop := (∀ k, ev_t c k = some (b :: k)) ∧ ev_n c + s.2 ≤ t.2 ∧ c.length + s.1 ≤ t.1 ∧ t.2 ≤ 60
theorem ec_sum_gd {B : Nat → Int} {s t : Nat × Nat} (h : pz_sum B s = .ok t) : ec_gd (ec_sum B s.1) s t false := by
  unfold pz_sum at h
  cases ev : pz_val B s with
  | error z => rw [ev] at h; cases h
  | ok sq1 =>
    rw [ev] at h
    have h : pz_it (pz_sF B) 401 sq1 = .ok t := h
    obtain ⟨v1, v2, v3⟩ := pz_val_ok ev
    have q3 : sq1.1 = pz_nt B s.1 := by rw [v1]
    have q4 : sq1.2 = s.2 + 1 := by rw [v1]
    have p2 := (pz_val_gt ev).2
    have ep : ev_p (ec_v B s.1) = 1 := if_pos v3.1
    refine ⟨fun k => ?_, ?_, ?_, ?_⟩
    · have i := (ec_S_t 401 sq1 t (-1) k h (Or.inl rfl) (by omega)).1
      rw [q3] at i
      show ev_t (ec_v B s.1 :: ec_S B 401 (pz_nt B s.1) (-1)) k = _
      rw [ev_t_c (ev_k_v v3)]
      exact i
    · have i := (ec_S_t 401 sq1 t (-1) [] h (Or.inl rfl) (by omega)).2.1
      rw [q3] at i
      show ev_p (ec_v B s.1) + ev_n (ec_S B 401 (pz_nt B s.1) (-1)) + s.2 ≤ t.2
      omega
    · have i := (ec_S_t 401 sq1 t (-1) [] h (Or.inl rfl) (by omega)).2.2.1
      rw [q3] at i
      have e : ec_w1 (-1) = 0 := rfl
      show (ec_S B 401 (pz_nt B s.1) (-1)).length + 1 + s.1 ≤ t.1
      omega
    · exact (ec_S_t 401 sq1 t (-1) [] h (Or.inl rfl) (by omega)).2.2.2
theorem ec_c_rg {B : Nat → Int} {p : Nat} : -11 ≤ ec_c B p ∧ ec_c B p ≤ -7 := by
  unfold ec_c
  split
  · split <;> decide
  · split
    · decide
    · split <;> decide
theorem ec_com_gd {B : Nat → Int} {s t : Nat × Nat} (h : pz_com B s = .ok t) : ec_gd (ec_com B s) s t true := by
  unfold pz_com at h
  unfold ec_com
  cases e1 : pz_sum B s with
  | error z => rw [e1] at h; cases h
  | ok t1 =>
    rw [e1] at h
    have h : pz_b (pz_cmp B t1) (pz_sum B) = .ok t := h
    cases e2 : pz_cmp B t1 with
    | error z => rw [e2] at h; cases h
    | ok t2 =>
      rw [e2] at h
      have h : pz_sum B t2 = .ok t := h
      unfold pz_cmp at e2
      by_cases z : B t1.1 = 60 ∨ B t1.1 = 61 ∨ B t1.1 = 62
      · rw [if_pos z] at e2
        have hc := pz_cnt_ok e2
        have hp := pz_nt_gt (B := B) (p := t1.1) (by omega)
        have q1 : t2.1 = pz_nt B t1.1 := by rw [hc.1]
        have q2 : t2.2 = t1.2 + 1 := by rw [hc.1]
        obtain ⟨a1, a2, a3, a4⟩ := ec_sum_gd e1
        obtain ⟨b1, b2, b3, b4⟩ := ec_sum_gd h
        rw [q1] at b1 b2 b3
        have en : ev_p (ec_c B t1.1) = 0 := if_neg (by have := ec_c_rg (B := B) (p := t1.1); omega)
        show ec_gd (ec_sum B s.1 ++ (ec_sum B (pz_nt B t1.1) ++ [ec_c B t1.1])) s t true
        refine ⟨fun k => ?_, ?_, ?_, b4⟩
        · rw [ev_t_app _ _ _ _ (a1 k), ev_t_app _ _ _ _ (b1 (false :: k)), ev_t_c (ev_k_c ec_c_rg)]; rfl
        · rw [ev_n_app, ev_n_app]
          show ev_n (ec_sum B s.1) + (ev_n (ec_sum B (pz_nt B t1.1)) + (ev_p (ec_c B t1.1) + 0)) + s.2 ≤ t.2
          omega
        · rw [List.length_append, List.length_append, List.length_singleton]; omega
      · rw [if_neg z] at e2; cases e2
def ec_ok (o : Bool) (k : List Bool) : List Bool := if o = true then true :: true :: k else true :: k
def ec_o1 (o : Bool) : Nat := if o = true then 1 else 0
theorem ec_or_t {o : Bool} {k : List Bool} : ev_t (ec_or o) (ec_ok o k) = some (true :: k) ∧ ev_n (ec_or o) = 0 ∧ (ec_or o).length = ec_o1 o := by
  cases o with
  | false => exact ⟨rfl, rfl, rfl⟩
  | true =>
    refine ⟨?_, rfl, rfl⟩
    show ev_t [-6] (true :: true :: k) = _
    rw [ev_t_c (ev_k_b (Or.inr rfl))]; rfl
theorem ec_TL_t {B : Nat → Int} {f : Nat × Nat → Except Int (Nat × Nat)} {F : Nat × Nat → List Int} (hF : ∀ s t, f s = .ok t → s.2 ≤ 60 → ec_gd (F s) s t true) : ∀ (n : Nat) (s t : Nat × Nat) (o : Bool) (k : List Bool), pz_it (pz_tF B f) n s = .ok t → s.2 ≤ 60 → ev_t (ec_TL B f F n s o) (ec_ok o k) = some (true :: k) ∧ ev_n (ec_TL B f F n s o) + s.2 ≤ t.2 ∧ (ec_TL B f F n s o).length + s.1 ≤ t.1 + ec_o1 o ∧ t.2 ≤ 60
  | 0, s, t, o, k, h, h6 => by
    cases h
    obtain ⟨w1, w2, w3⟩ := ec_or_t (o := o) (k := k)
    exact ⟨w1, by show ev_n (ec_or o) + s.2 ≤ s.2; omega, by show (ec_or o).length + s.1 ≤ s.1 + ec_o1 o; omega, h6⟩
  | n + 1, s, t, o, k, h, h6 => by
    rw [pz_it] at h
    obtain ⟨w1, w2, w3⟩ := ec_or_t (o := o) (k := k)
    by_cases z : pz_wd B s.1 pz_and = true ∨ pz_wd B s.1 pz_or = true
    · have e1 : pz_tF B f s = some (f (pz_nx B s)) := if_pos z
      rw [e1] at h
      have p1 := pz_nt_gt (pz_and_ne z)
      have q1 : (pz_nx B s).1 = pz_nt B s.1 := rfl
      have q2 : (pz_nx B s).2 = s.2 := rfl
      cases ef : f (pz_nx B s) with
      | error y => rw [ef] at h; cases h
      | ok sq1 =>
        rw [ef] at h
        have h : pz_it (pz_tF B f) n sq1 = .ok t := h
        obtain ⟨a1, a2, a3, a4⟩ := hF _ _ ef (by omega)
        by_cases za : pz_wd B s.1 pz_and = true
        · have e2 : ec_TL B f F (n + 1) s o = F (pz_nx B s) ++ -5 :: ec_TL B f F n sq1 o := by
            show (if pz_wd B s.1 pz_and = true then F (pz_nx B s) ++ -5 :: (match f (pz_nx B s) with | .ok t => ec_TL B f F n t o | .error _ => []) else _) = _
            rw [if_pos za, ef]
          obtain ⟨i1, i2, i3, i4⟩ := ec_TL_t hF n sq1 t o k h a4
          rw [e2]
          refine ⟨?_, ?_, ?_, i4⟩
          · rw [ev_t_app _ _ _ _ (a1 _)]
            have hk : ∃ k2, ec_ok o k = true :: k2 := by cases o <;> exact ⟨_, rfl⟩
            obtain ⟨k2, hk⟩ := hk
            rw [hk, ev_t_c (ev_k_b (Or.inl rfl)), ← hk]
            exact i1
          · rw [ev_n_app]
            show ev_n (F (pz_nx B s)) + (0 + ev_n (ec_TL B f F n sq1 o)) + s.2 ≤ t.2
            omega
          · rw [List.length_append, List.length_cons]; omega
        · have zo : pz_wd B s.1 pz_or = true := z.resolve_left za
          have e2 : ec_TL B f F (n + 1) s o = ec_or o ++ (F (pz_nx B s) ++ ec_TL B f F n sq1 true) := by
            show (if pz_wd B s.1 pz_and = true then _ else if pz_wd B s.1 pz_or = true then ec_or o ++ (F (pz_nx B s) ++ (match f (pz_nx B s) with | .ok t => ec_TL B f F n t true | .error _ => [])) else _) = _
            rw [if_neg za, if_pos zo, ef]
          obtain ⟨i1, i2, i3, i4⟩ := ec_TL_t hF n sq1 t true k h a4
          have i1 : ev_t (ec_TL B f F n sq1 true) (true :: true :: k) = some (true :: k) := i1
          have i3 : (ec_TL B f F n sq1 true).length + sq1.1 ≤ t.1 + 1 := i3
          rw [e2]
          refine ⟨?_, ?_, ?_, i4⟩
          · rw [ev_t_app _ _ _ _ w1, ev_t_app _ _ _ _ (a1 _)]; exact i1
          · rw [ev_n_app, ev_n_app]; omega
          · rw [List.length_append, List.length_append]; omega
    · have e1 : pz_tF B f s = none := if_neg z
      rw [e1] at h
      have h : (Except.ok s : Except Int (Nat × Nat)) = .ok t := h
      cases h
      have e2 : ec_TL B f F (n + 1) s o = ec_or o := (if_neg (fun y => z (Or.inl y))).trans (if_neg (fun y => z (Or.inr y)))
      rw [e2]
      exact ⟨w1, by omega, by omega, h6⟩
theorem ec_tst_gd {B : Nat → Int} {f : Nat × Nat → Except Int (Nat × Nat)} {F : Nat × Nat → List Int} (hF : ∀ s t, f s = .ok t → s.2 ≤ 60 → ec_gd (F s) s t true) {s t : Nat × Nat} (h : pz_tst B f s = .ok t) (h6 : s.2 ≤ 60) : ec_gd (ec_tst B f F s) s t true := by
  unfold pz_tst at h
  unfold ec_tst
  cases ef : f s with
  | error y => rw [ef] at h; cases h
  | ok sq1 =>
    rw [ef] at h
    have h : pz_it (pz_tF B f) 401 sq1 = .ok t := h
    obtain ⟨a1, a2, a3, a4⟩ := hF _ _ ef h6
    show ec_gd (F s ++ ec_TL B f F 401 sq1 false) s t true
    refine ⟨fun k => ?_, ?_, ?_, ?_⟩
    · rw [ev_t_app _ _ _ _ (a1 k)]; exact (ec_TL_t hF 401 sq1 t false k h a4).1
    · have i := (ec_TL_t hF 401 sq1 t false [] h a4).2.1
      rw [ev_n_app]; omega
    · have i := (ec_TL_t hF 401 sq1 t false [] h a4).2.2.1
      have e : ec_o1 false = 0 := rfl
      rw [List.length_append]; omega
    · exact (ec_TL_t hF 401 sq1 t false [] h a4).2.2.2
theorem ec_fact_gd {B : Nat → Int} : ∀ (m : Nat) (s t : Nat × Nat), pz_fact B m s = .ok t → s.2 ≤ 60 → ec_gd (ec_fact B m s) s t true
  | 0, s, t, h, h6 => by
    unfold pz_fact at h
    by_cases z : pz_wd B s.1 pz_not = true ∨ B s.1 = 91
    · rw [if_pos z] at h; cases h
    · rw [if_neg z] at h; exact ec_com_gd h
  | m + 1, s, t, h, h6 => by
    unfold pz_fact at h
    unfold ec_fact
    by_cases z : pz_wd B s.1 pz_not = true
    · rw [if_pos z] at h ⊢
      have p1 := pz_nt_gt (pz_not_ne z)
      have q1 : (pz_nx B s).1 = pz_nt B s.1 := rfl
      have q2 : (pz_nx B s).2 = s.2 := rfl
      obtain ⟨a1, a2, a3, a4⟩ := ec_fact_gd m _ _ h (by omega)
      refine ⟨fun k => ?_, ?_, ?_, a4⟩
      · rw [ev_t_app _ _ _ _ (a1 k), ev_t_c ev_k_n]; rfl
      · rw [ev_n_app]
        show ev_n (ec_fact B m (pz_nx B s)) + (0 + 0) + s.2 ≤ t.2
        omega
      · rw [List.length_append, List.length_singleton]; omega
    · rw [if_neg z] at h ⊢
      by_cases y : B s.1 = 91
      · rw [if_pos y] at h ⊢
        have p1 := pz_nt_gt (B := B) (p := s.1) (by omega)
        have q1 : (pz_nx B s).1 = pz_nt B s.1 := rfl
        have q2 : (pz_nx B s).2 = s.2 := rfl
        cases e : pz_tst B (pz_fact B m) (pz_nx B s) with
        | error x => rw [e] at h; cases h
        | ok sq1 =>
          rw [e] at h
          have h : pz_rb B sq1 = .ok t := h
          unfold pz_rb at h
          by_cases x : B sq1.1 = 93
          · rw [if_pos x] at h
            cases h
            obtain ⟨a1, a2, a3, a4⟩ := ec_tst_gd (f := pz_fact B m) (F := ec_fact B m) (fun s t h h6 => ec_fact_gd m s t h h6) e (by omega)
            have q3 : (pz_nx B sq1).1 = pz_nt B sq1.1 := rfl
            have q4 : (pz_nx B sq1).2 = sq1.2 := rfl
            have p2 := pz_nt_ge (B := B) (p := sq1.1)
            exact ⟨a1, by omega, by omega, by omega⟩
          · rw [if_neg x] at h; cases h
      · rw [if_neg y] at h ⊢; exact ec_com_gd h
def ru_1 (c : List Int × Option (List Int)) : List Int := match c with
  | (s, none) => s ++ [-2]
  | (s, some t) => s ++ (t ++ [-3])
theorem ru_fl_c {c : List Int × Option (List Int)} {cs : RuA} : ru_fl (c :: cs) = ru_1 c ++ ru_fl cs := by
  match c with
  | (s, none) => show s ++ -2 :: ru_fl cs = (s ++ [-2]) ++ ru_fl cs; rw [List.append_assoc]; rfl
  | (s, some t) => show s ++ (t ++ -3 :: ru_fl cs) = (s ++ (t ++ [-3])) ++ ru_fl cs; rw [List.append_assoc, List.append_assoc]; rfl
theorem ru_cl_gd {B : Nat → Int} {l : Nat} {s t : Nat × Nat} (h : pz_cla B l s = .ok t) (h6 : s.2 ≤ 60) (cs : RuA) : (ru_ok cs → ru_ok (ru_cl B s :: cs)) ∧ (ru_1 (ru_cl B s)).length + s.1 ≤ t.1 ∧ s.2 ≤ t.2 ∧ t.2 ≤ 60 ∧ l ≠ 12 := by
  unfold pz_cla at h
  unfold ru_cl
  by_cases z : pz_wd B s.1 pz_buy = true
  · rw [if_pos z] at h
    have p1 := pz_nt_gt (B := B) (p := s.1) (pz_wd_ne z (by decide) (by decide))
    have q1 : (pz_nx B s).1 = pz_nt B s.1 := rfl
    have q2 : (pz_nx B s).2 = s.2 := rfl
    by_cases y : l = 12
    · rw [if_pos y] at h; cases h
    · rw [if_neg y] at h
      cases e : pz_sum B (pz_nx B s) with
      | error x => rw [e] at h; cases h
      | ok sq1 =>
        rw [e] at h
        obtain ⟨a1, a2, a3, a4⟩ := ec_sum_gd e
        rw [q1] at a1 a2 a3
        have h : (if pz_wd B sq1.1 pz_if = true then pz_tst B (pz_fact B 10) (pz_nx B sq1) else .ok sq1) = .ok t := h
        by_cases x : pz_wd B sq1.1 pz_if = true
        · rw [if_pos x] at h
          have e2 : (match (Except.ok sq1 : Except Int (Nat × Nat)) with | .ok t => if pz_wd B t.1 pz_if = true then some (ec_tst B (pz_fact B 10) (ec_fact B 10) (pz_nx B t)) else none | .error _ => none) = some (ec_tst B (pz_fact B 10) (ec_fact B 10) (pz_nx B sq1)) := if_pos x
          rw [e2]
          have p2 := pz_nt_gt (B := B) (p := sq1.1) (pz_wd_ne x (by decide) (by decide))
          have q3 : (pz_nx B sq1).1 = pz_nt B sq1.1 := rfl
          have q4 : (pz_nx B sq1).2 = sq1.2 := rfl
          obtain ⟨b1, b2, b3, b4⟩ := ec_tst_gd (f := pz_fact B 10) (F := ec_fact B 10) (fun s t h h6 => ec_fact_gd 10 s t h h6) h (by omega)
          refine ⟨fun hc => ⟨a1 [], b1 [], by omega, hc⟩, ?_, by omega, b4, y⟩
          show (ec_sum B (pz_nt B s.1) ++ (ec_tst B (pz_fact B 10) (ec_fact B 10) (pz_nx B sq1) ++ [-3])).length + s.1 ≤ t.1
          rw [List.length_append, List.length_append, List.length_singleton]; omega
        · rw [if_neg x] at h
          obtain rfl : sq1 = t := Except.ok.inj h
          have e2 : (match (Except.ok sq1 : Except Int (Nat × Nat)) with | .ok t => if pz_wd B t.1 pz_if = true then some (ec_tst B (pz_fact B 10) (ec_fact B 10) (pz_nx B t)) else none | .error _ => none) = none := if_neg x
          rw [e2]
          refine ⟨fun hc => ⟨a1 [], by omega, hc⟩, ?_, by omega, a4, y⟩
          show (ec_sum B (pz_nt B s.1) ++ [-2]).length + s.1 ≤ sq1.1
          rw [List.length_append, List.length_singleton]; omega
  · rw [if_neg z] at h; cases h
theorem ru_lp_big {B : Nat → Int} (hB : pz_fi B) : ∀ (k : Nat) (u : (Nat × Nat) × Nat), 400 ≤ u.1.1 + k → ru_lp B (k + 1) u = ru_lp B k u
  | 0, u, h => by
    have e : ¬ B u.1.1 = 59 := by rw [hB u.1.1 (by omega)]; decide
    show (if B u.1.1 = 59 then _ else []) = []
    rw [if_neg e]
  | k + 1, u, h => by
    by_cases z : B u.1.1 = 59
    · have p1 := pz_nt_gt (B := B) (p := u.1.1) (by omega)
      have q1 : (pz_nx B u.1).1 = pz_nt B u.1.1 := rfl
      show (if B u.1.1 = 59 then ru_cl B (pz_nx B u.1) :: (match pz_cla B u.2 (pz_nx B u.1) with | .ok t => ru_lp B (k + 1) (t, u.2 + 1) | .error _ => []) else []) = (if B u.1.1 = 59 then ru_cl B (pz_nx B u.1) :: (match pz_cla B u.2 (pz_nx B u.1) with | .ok t => ru_lp B k (t, u.2 + 1) | .error _ => []) else [])
      rw [if_pos z, if_pos z]
      cases e : pz_cla B u.2 (pz_nx B u.1) with
      | error y => rfl
      | ok t =>
        have h3 := (pz_cla_gt hB e).2
        show ru_cl B (pz_nx B u.1) :: ru_lp B (k + 1) (t, u.2 + 1) = ru_cl B (pz_nx B u.1) :: ru_lp B k (t, u.2 + 1)
        rw [ru_lp_big hB k (t, u.2 + 1) (by show 400 ≤ t.1 + k; omega)]
    · show (if B u.1.1 = 59 then _ else []) = (if B u.1.1 = 59 then _ else [])
      rw [if_neg z, if_neg z]
theorem ru_lp_on {B : Nat → Int} (hB : pz_fi B) {u : (Nat × Nat) × Nat} {t : Nat × Nat} (h : B u.1.1 = 59) (e : pz_cla B u.2 (pz_nx B u.1) = .ok t) : ru_lp B 401 u = ru_cl B (pz_nx B u.1) :: ru_lp B 401 (t, u.2 + 1) := by
  show (if B u.1.1 = 59 then ru_cl B (pz_nx B u.1) :: (match pz_cla B u.2 (pz_nx B u.1) with | .ok t => ru_lp B 400 (t, u.2 + 1) | .error _ => []) else []) = _
  rw [if_pos h, e]
  show ru_cl B (pz_nx B u.1) :: ru_lp B 400 (t, u.2 + 1) = _
  rw [ru_lp_big hB 400 (t, u.2 + 1) (Nat.le_add_left _ _)]
theorem ru_lp_no {B : Nat → Int} {u : (Nat × Nat) × Nat} (h : ¬ B u.1.1 = 59) : ru_lp B 401 u = [] := if_neg h
theorem ru_lp_gd {B : Nat → Int} : ∀ (n : Nat) (u w : (Nat × Nat) × Nat), pz_it (pz_rF B) n u = .ok w → u.1.2 ≤ 60 → u.2 ≤ 12 → ru_ok (ru_lp B n u) ∧ (ru_fl (ru_lp B n u)).length + u.1.1 ≤ w.1.1 ∧ (ru_lp B n u).length + u.2 ≤ 12
  | 0, u, w, h, _, hl => by cases h; exact ⟨trivial, by show 0 + u.1.1 ≤ u.1.1; omega, by show 0 + u.2 ≤ 12; omega⟩
  | n + 1, u, w, h, h6, hl => by
    rw [pz_it] at h
    by_cases z : B u.1.1 = 59
    · have e1 : pz_rF B u = some (pz_b (pz_cla B u.2 (pz_nx B u.1)) (fun t => .ok (t, u.2 + 1))) := if_pos z
      rw [e1] at h
      have p1 := pz_nt_gt (B := B) (p := u.1.1) (by omega)
      have q1 : (pz_nx B u.1).1 = pz_nt B u.1.1 := rfl
      have q2 : (pz_nx B u.1).2 = u.1.2 := rfl
      cases e : pz_cla B u.2 (pz_nx B u.1) with
      | error y => rw [e] at h; cases h
      | ok t =>
        rw [e] at h
        have h : pz_it (pz_rF B) n (t, u.2 + 1) = .ok w := h
        obtain ⟨a1, a2, a3, a4, a5⟩ := ru_cl_gd e (by omega) (ru_lp B n (t, u.2 + 1))
        obtain ⟨i1, i2, i3⟩ := ru_lp_gd n (t, u.2 + 1) w h a4 (by show u.2 + 1 ≤ 12; omega)
        have e2 : ru_lp B (n + 1) u = ru_cl B (pz_nx B u.1) :: ru_lp B n (t, u.2 + 1) := by
          show (if B u.1.1 = 59 then ru_cl B (pz_nx B u.1) :: (match pz_cla B u.2 (pz_nx B u.1) with | .ok t => ru_lp B n (t, u.2 + 1) | .error _ => []) else []) = _
          rw [if_pos z, e]
        have i2 : (ru_fl (ru_lp B n (t, u.2 + 1))).length + t.1 ≤ w.1.1 := i2
        have i3 : (ru_lp B n (t, u.2 + 1)).length + (u.2 + 1) ≤ 12 := i3
        rw [e2]
        refine ⟨a1 i1, ?_, ?_⟩
        · rw [ru_fl_c, List.length_append]; omega
        · rw [List.length_cons]; omega
    · have e1 : pz_rF B u = none := if_neg z
      rw [e1] at h
      have h : (Except.ok u : Except Int ((Nat × Nat) × Nat)) = .ok w := h
      cases h
      have e2 : ru_lp B (n + 1) u = [] := if_neg z
      rw [e2]
      exact ⟨trivial, by show 0 + u.1.1 ≤ u.1.1; omega, by show 0 + u.2 ≤ 12; omega⟩
theorem ru_of_gd {B : Nat → Int} {p : Nat} (h : pz_rule B = .ok p) : ru_ok (ru_of B) ∧ (ru_fl (ru_of B)).length ≤ p ∧ (ru_of B).length ≤ 12 := by
  unfold pz_rule at h
  unfold ru_of
  cases e : pz_cla B 0 (pz_sk B 0, 0) with
  | error y => rw [e] at h; cases h
  | ok t =>
    rw [e] at h
    have h : pz_b (pz_lp (pz_rF B) (t, 1)) (fun u => pz_end B u.1.1) = .ok p := h
    cases e2 : pz_lp (pz_rF B) (t, 1) with
    | error y => rw [e2] at h; cases h
    | ok w =>
      rw [e2] at h
      have h : pz_end B w.1.1 = .ok p := h
      have ep : w.1.1 = p := by
        unfold pz_end at h
        by_cases z : B w.1.1 = -1
        · rw [if_pos z] at h; cases h; rfl
        · rw [if_neg z] at h; cases h
      obtain ⟨a1, a2, a3, a4, a5⟩ := ru_cl_gd e (by show 0 ≤ 60; omega) (ru_lp B 401 (t, 1))
      obtain ⟨i1, i2, i3⟩ := ru_lp_gd 401 (t, 1) w e2 a4 (by show 1 ≤ 12; omega)
      have i2 : (ru_fl (ru_lp B 401 (t, 1))).length + t.1 ≤ w.1.1 := i2
      have i3 : (ru_lp B 401 (t, 1)).length + 1 ≤ 12 := i3
      show ru_ok (ru_cl B (pz_sk B 0, 0) :: ru_lp B 401 (t, 1)) ∧ (ru_fl (ru_cl B (pz_sk B 0, 0) :: ru_lp B 401 (t, 1))).length ≤ p ∧ (ru_cl B (pz_sk B 0, 0) :: ru_lp B 401 (t, 1)).length ≤ 12
      refine ⟨a1 i1, ?_, ?_⟩
      · rw [ru_fl_c, List.length_append]; omega
      · rw [List.length_cons]; omega
def CdE (rf : Nat → Int32) (L : List Int) : Prop := ∀ i : Nat, i < L.length → (rf i).toInt = L.getD i 0
def rC (o : Int) : Int := if o = -12 then 2 else if o = -13 then 3 else if o = -14 then 4 else if o = -15 then 5 else if o = -7 then 6 else if o = -8 then 7 else if o = -9 then 8 else if o = -10 then 9 else if o = -11 then 10 else if o = -4 then 11 else if o = -5 then 12 else if o = -6 then 13 else 14
def rE (o : Int) : Int := if 100000 ≤ o then 1 + 16 * (o - 100000) else if 0 ≤ o then 16 * o else rC o
def RwE (sg : Nat → Int32) (t p : Nat) (c : List Int) : Prop := ∀ j : Nat, j < c.length → (sg (400 * t + p + j)).toInt = rE (c.getD j 0)
def RoE (sg cl : Nat → Int32) (t c : Nat) (x : List Int × Option (List Int)) : Prop := (∃ p : Nat, (cl (48 * t + 4 * c)).toInt = (p : Int) ∧ (cl (48 * t + 4 * c + 1)).toInt = (p : Int) + (x.1.length : Int) ∧ (cl (48 * t + 4 * c + 1)).toInt ≤ 400 ∧ RwE sg t p x.1) ∧ match x.2 with
  | none => (cl (48 * t + 4 * c + 2)).toInt < 0
  | some u => ∃ q : Nat, (cl (48 * t + 4 * c + 2)).toInt = (q : Int) ∧ (cl (48 * t + 4 * c + 3)).toInt = (q : Int) + (u.length : Int) ∧ (cl (48 * t + 4 * c + 3)).toInt ≤ 400 ∧ RwE sg t q u
def RwR (sg cl cs : Nat → Int32) (t : Nat) (R : RuA) : Prop := (cs t).toInt = (R.length : Int) ∧ R.length ≤ 12 ∧ ∀ c : Nat, c < R.length → RoE sg cl t c (R.getD c ([], none))
