set_option maxRecDepth 16384
def dX9_hasBuyer (Av_3 : Int32) (x1 : Int32) : Int32 := (if x1 < (0 : Int32) then (0 : Int32) else (if Av_3 ≤ x1 then (0 : Int32) else (if (6 : Int32) ≤ x1 then (0 : Int32) else (1 : Int32))))
def dX9_hasClock (Av_2 : Int32) (x1 : Int32) : Int32 := (if x1 < (0 : Int32) then (0 : Int32) else (if Av_2 ≤ x1 then (0 : Int32) else (if (10 : Int32) ≤ x1 then (0 : Int32) else (1 : Int32))))
def dX9_clockOn (Av_2 : Int32) (x1 : Int32) : Int32 := (if Av_2 ≤ (0 : Int32) then (0 : Int32) else (if x1 < (0 : Int32) then (0 : Int32) else (x1 - x1 / Av_2 * Av_2)))
def dX9_stillOn (Af_1 : Nat → Int32) (Av_2 : Int32) (x1 : Int32) : Int32 := (if Av_2 ≤ (0 : Int32) then (0 : Int32) else (if (0 : Int32) ≤ x1 then (if (10 : Int32) ≤ (x1 - x1 / Av_2 * Av_2) then (0 : Int32) else (Af_1 ((x1 - x1 / Av_2 * Av_2)).toNatClampNeg)) else (0 : Int32)))
def dX9_daysSince (Af_8 : Nat → Int32) (Av_3 : Int32) (Av_4 : Int32) (x1 : Int32) : Int32 := (if (dX9_hasBuyer Av_3 x1) = (0 : Int32) then (99 : Int32) else (if (Af_8 (x1).toNatClampNeg) = (-1 : Int32) then (99 : Int32) else (Av_4 - (Af_8 (x1).toNatClampNeg))))
def dX9_canBuy (Af_4 : Nat → Int32) (Af_5 : Nat → Int32) (Af_8 : Nat → Int32) (Av_0 : Int32) (Av_3 : Int32) (Av_4 : Int32) (x1 : Int32) : Int32 := (if (dX9_hasBuyer Av_3 x1) = (0 : Int32) then (0 : Int32) else (if (Af_4 (x1).toNatClampNeg) ≤ Av_0 then (if (Af_8 (x1).toNatClampNeg) = (-1 : Int32) then (1 : Int32) else (if (Av_4 - (Af_8 (x1).toNatClampNeg)) ≤ (Af_5 (x1).toNatClampNeg) then (0 : Int32) else (1 : Int32))) else (0 : Int32)))
def dX9_wordOf (Af_1 : Nat → Int32) (Af_3 : Nat → Int32) (Af_4 : Nat → Int32) (Af_5 : Nat → Int32) (Af_6 : Nat → Int32) (Af_7 : Nat → Int32) (Af_8 : Nat → Int32) (Av_0 : Int32) (Av_2 : Int32) (Av_3 : Int32) (Av_4 : Int32) (Av_5 : Int32) (x1 : Int32) (x2 : Int32) : Int64 := (if (dX9_hasBuyer Av_3 x2) = (0 : Int32) then (0 : Int64) else (if x1 = (0 : Int32) then (x2).toInt64 else (if x1 = (1 : Int32) then ((Af_3 (x2).toNatClampNeg)).toInt64 else (if x1 = (2 : Int32) then ((Af_4 (x2).toNatClampNeg)).toInt64 else (if x1 = (3 : Int32) then ((Af_5 (x2).toNatClampNeg)).toInt64 else (if x1 = (4 : Int32) then ((dX9_stillOn Af_1 Av_2 Av_4)).toInt64 else (if x1 = (5 : Int32) then ((dX9_stillOn Af_1 Av_2 (Av_4 + (1 : Int32)))).toInt64 else (if x1 = (6 : Int32) then (Av_0).toInt64 else (if x1 = (7 : Int32) then ((Af_6 (x2).toNatClampNeg)).toInt64 else (if x1 = (8 : Int32) then ((Af_7 (x2).toNatClampNeg)).toInt64 else (if x1 = (9 : Int32) then ((dX9_daysSince Af_8 Av_3 Av_4 x2)).toInt64 else (if x1 = (10 : Int32) then (Av_5).toInt64 else (if x1 = (11 : Int32) then ((dX9_clockOn Av_2 Av_4)).toInt64 else (Av_4).toInt64)))))))))))))
def dX9_handOver (Af_3 : Nat → Int32) (Af_4 : Nat → Int32) (Af_6 : Nat → Int32) (Af_8 : Nat → Int32) (Av_0 : Int32) (Av_3 : Int32) (Av_4 : Int32) (Av_5 : Int32) (x1 : Int32) : Int32 × Int32 × (Nat → Int32) × (Nat → Int32) × (Nat → Int32) := (if (dX9_hasBuyer Av_3 x1) = (0 : Int32) then (Av_0, Av_5, Af_3, Af_6, Af_8) else ((Av_0 - (Af_4 (x1).toNatClampNeg)), (Av_5 + (Af_4 (x1).toNatClampNeg)), (upd Af_3 (x1).toNatClampNeg (if (0 : Int32) < ((Af_3 (x1).toNatClampNeg) - (6 : Int32)) then ((Af_3 (x1).toNatClampNeg) - (6 : Int32)) else (0 : Int32))), (upd Af_6 (x1).toNatClampNeg ((Af_6 (x1).toNatClampNeg) + (Af_4 (x1).toNatClampNeg))), (upd Af_8 (x1).toNatClampNeg Av_4)))
def dX9_changeTempers_l22 (Av_3 : Int32) (zz_2302 : Int32) : Nat → Int32 → (Nat → Int32) → Int32 × (Nat → Int32)
  | 0, _, _ => (0, (fun _ => 0))
  | n + 1, yy_2300, yy_2301 => (if Av_3 ≤ yy_2300 then (yy_2300, yy_2301) else (if (6 : Int32) ≤ yy_2300 then (yy_2300, yy_2301) else dX9_changeTempers_l22 Av_3 zz_2302 n (yy_2300 + 1) (upd yy_2301 (yy_2300).toNatClampNeg (if (0 : Int32) < (if ((yy_2301 (yy_2300).toNatClampNeg) + zz_2302) < (20 : Int32) then ((yy_2301 (yy_2300).toNatClampNeg) + zz_2302) else (20 : Int32)) then (if ((yy_2301 (yy_2300).toNatClampNeg) + zz_2302) < (20 : Int32) then ((yy_2301 (yy_2300).toNatClampNeg) + zz_2302) else (20 : Int32)) else (0 : Int32)))))
theorem dX9_changeTempers_l22_s {Av_3 : Int32} {zz_2302 : Int32} {n : Nat} {yy_2300 : Int32} {yy_2301 : Nat → Int32} : dX9_changeTempers_l22 Av_3 zz_2302 (n + 1) yy_2300 yy_2301 = (if Av_3 ≤ yy_2300 then (yy_2300, yy_2301) else (if (6 : Int32) ≤ yy_2300 then (yy_2300, yy_2301) else dX9_changeTempers_l22 Av_3 zz_2302 n (yy_2300 + 1) (upd yy_2301 (yy_2300).toNatClampNeg (if (0 : Int32) < (if ((yy_2301 (yy_2300).toNatClampNeg) + zz_2302) < (20 : Int32) then ((yy_2301 (yy_2300).toNatClampNeg) + zz_2302) else (20 : Int32)) then (if ((yy_2301 (yy_2300).toNatClampNeg) + zz_2302) < (20 : Int32) then ((yy_2301 (yy_2300).toNatClampNeg) + zz_2302) else (20 : Int32)) else (0 : Int32))))) := rfl
def dX9_changeTempers (Af_3 : Nat → Int32) (Av_3 : Int32) (x1 : Int32) : (Nat → Int32) := (if x1 < (5 : Int32) then (if (2 : Int32) < x1 then ((dX9_changeTempers_l22 Av_3 (0 : Int32) ((6 - (0 : Int32).toInt).toNat + 1) (0 : Int32) Af_3).2) else ((dX9_changeTempers_l22 Av_3 (-1 : Int32) ((6 - (0 : Int32).toInt).toNat + 1) (0 : Int32) Af_3).2)) else ((dX9_changeTempers_l22 Av_3 (1 : Int32) ((6 - (0 : Int32).toInt).toNat + 1) (0 : Int32) Af_3).2))
def dX9_copyFrom (Af_1 : Nat → Int32) (Af_2 : Nat → Int32) (Af_3 : Nat → Int32) (Af_4 : Nat → Int32) (Af_5 : Nat → Int32) (Af_6 : Nat → Int32) (Af_7 : Nat → Int32) (Af_8 : Nat → Int32) (Bf_1 : Nat → Int32) (Bf_2 : Nat → Int32) (Bf_3 : Nat → Int32) (Bf_4 : Nat → Int32) (Bf_5 : Nat → Int32) (Bf_6 : Nat → Int32) (Bf_7 : Nat → Int32) (Bf_8 : Nat → Int32) : (Nat → Int32) × (Nat → Int32) × (Nat → Int32) × (Nat → Int32) × (Nat → Int32) × (Nat → Int32) × (Nat → Int32) × (Nat → Int32) := ((va_cpy Bf_1 Af_1 ((0 : Int32)).toNatClampNeg ((0 : Int32)).toNatClampNeg ((10 : Int32)).toNatClampNeg), (va_cpy Bf_2 Af_2 ((0 : Int32)).toNatClampNeg ((0 : Int32)).toNatClampNeg ((10 : Int32)).toNatClampNeg), (va_cpy Bf_3 Af_3 ((0 : Int32)).toNatClampNeg ((0 : Int32)).toNatClampNeg ((6 : Int32)).toNatClampNeg), (va_cpy Bf_4 Af_4 ((0 : Int32)).toNatClampNeg ((0 : Int32)).toNatClampNeg ((6 : Int32)).toNatClampNeg), (va_cpy Bf_5 Af_5 ((0 : Int32)).toNatClampNeg ((0 : Int32)).toNatClampNeg ((6 : Int32)).toNatClampNeg), (va_cpy Bf_6 Af_6 ((0 : Int32)).toNatClampNeg ((0 : Int32)).toNatClampNeg ((6 : Int32)).toNatClampNeg), (va_cpy Bf_7 Af_7 ((0 : Int32)).toNatClampNeg ((0 : Int32)).toNatClampNeg ((6 : Int32)).toNatClampNeg), (va_cpy Bf_8 Af_8 ((0 : Int32)).toNatClampNeg ((0 : Int32)).toNatClampNeg ((6 : Int32)).toNatClampNeg))
def dX12_isOf (x1 : Int32) (x2 : Int32) : Int32 := (if ((x1 >>> (x2 &&& 31)) &&& (1 : Int32)) = (1 : Int32) then (1 : Int32) else (0 : Int32))
def dX12_isBook (Mf_10 : Nat → Int32) : Int32 := (if (Mf_10 ((0 : Int32)).toNatClampNeg) = (1 : Int32) then (1 : Int32) else (0 : Int32))
def dX12_temperOf (Mf_10 : Nat → Int32) (x1 : Int32) : Int32 := (Mf_10 (((12 : Int32) + ((4 : Int32) * x1))).toNatClampNeg)
def dX12_boughtBy (Mf_10 : Nat → Int32) (x1 : Int32) : Int32 := (Mf_10 ((((12 : Int32) + ((4 : Int32) * x1)) + (1 : Int32))).toNatClampNeg)
def dX12_metOf (Mf_10 : Nat → Int32) (x1 : Int32) : Int32 := (Mf_10 ((((12 : Int32) + ((4 : Int32) * x1)) + (2 : Int32))).toNatClampNeg)
def dX12_lastOf (Mf_10 : Nat → Int32) (x1 : Int32) : Int32 := (Mf_10 ((((12 : Int32) + ((4 : Int32) * x1)) + (3 : Int32))).toNatClampNeg)
def dX12_sinceOf (Mf_10 : Nat → Int32) (x1 : Int32) : Int32 := (if (dX12_lastOf Mf_10 x1) < (0 : Int32) then (99 : Int32) else (if ((Mf_10 ((10 : Int32)).toNatClampNeg) - (dX12_lastOf Mf_10 x1)) ≤ (99 : Int32) then ((Mf_10 ((10 : Int32)).toNatClampNeg) - (dX12_lastOf Mf_10 x1)) else (99 : Int32)))
def dX12_clock (Mf_10 : Nat → Int32) : Int32 := (if (dX12_isBook Mf_10) = (0 : Int32) then (0 : Int32) else ((Mf_10 ((10 : Int32)).toNatClampNeg) - (Mf_10 ((10 : Int32)).toNatClampNeg) / (Mf_10 ((2 : Int32)).toNatClampNeg) * (Mf_10 ((2 : Int32)).toNatClampNeg)))
def dX12_soldAll_l4 (Mf_10 : Nat → Int32) : Nat → Int32 → Int32 → Int32 × Int32
  | 0, _, _ => (0, 0)
  | n + 1, yy_500, yy_501 => (if (Mf_10 ((3 : Int32)).toNatClampNeg) ≤ yy_500 then (yy_500, yy_501) else dX12_soldAll_l4 Mf_10 n (yy_500 + 1) (yy_501 + (dX12_boughtBy Mf_10 yy_500)))
theorem dX12_soldAll_l4_s {Mf_10 : Nat → Int32} {n : Nat} {yy_500 : Int32} {yy_501 : Int32} : dX12_soldAll_l4 Mf_10 (n + 1) yy_500 yy_501 = (if (Mf_10 ((3 : Int32)).toNatClampNeg) ≤ yy_500 then (yy_500, yy_501) else dX12_soldAll_l4 Mf_10 n (yy_500 + 1) (yy_501 + (dX12_boughtBy Mf_10 yy_500))) := rfl
def dX12_soldAll (Mf_10 : Nat → Int32) : Int32 := (dX12_soldAll_l4 Mf_10 ((6 - (0 : Int32).toInt).toNat + 1) (0 : Int32) (0 : Int32)).2
def dX12_canBuy (Mf_10 : Nat → Int32) (x1 : Int32) : Int32 := (if (Mf_10 ((11 : Int32)).toNatClampNeg) < (Mf_10 (((56 : Int32) + x1)).toNatClampNeg) then (0 : Int32) else (if (dX12_lastOf Mf_10 x1) < (0 : Int32) then (1 : Int32) else (if ((Mf_10 ((10 : Int32)).toNatClampNeg) - (dX12_lastOf Mf_10 x1)) ≤ (Mf_10 (((62 : Int32) + x1)).toNatClampNeg) then (0 : Int32) else (1 : Int32))))
def dX12_begins_l24  : Nat → Int32 → (Nat → Int32) → Int32 × (Nat → Int32)
  | 0, _, _ => (0, (fun _ => 0))
  | n + 1, yy_2500, yy_2501 => (if (6 : Int32) ≤ yy_2500 then (yy_2500, yy_2501) else dX12_begins_l24 n (yy_2500 + 1) (upd (upd (upd (upd yy_2501 (((12 : Int32) + ((4 : Int32) * yy_2500))).toNatClampNeg (yy_2501 (((68 : Int32) + yy_2500)).toNatClampNeg)) ((((12 : Int32) + ((4 : Int32) * yy_2500)) + (1 : Int32))).toNatClampNeg (0 : Int32)) ((((12 : Int32) + ((4 : Int32) * yy_2500)) + (2 : Int32))).toNatClampNeg (0 : Int32)) ((((12 : Int32) + ((4 : Int32) * yy_2500)) + (3 : Int32))).toNatClampNeg (-1 : Int32)))
theorem dX12_begins_l24_s  {n : Nat} {yy_2500 : Int32} {yy_2501 : Nat → Int32} : dX12_begins_l24 (n + 1) yy_2500 yy_2501 = (if (6 : Int32) ≤ yy_2500 then (yy_2500, yy_2501) else dX12_begins_l24 n (yy_2500 + 1) (upd (upd (upd (upd yy_2501 (((12 : Int32) + ((4 : Int32) * yy_2500))).toNatClampNeg (yy_2501 (((68 : Int32) + yy_2500)).toNatClampNeg)) ((((12 : Int32) + ((4 : Int32) * yy_2500)) + (1 : Int32))).toNatClampNeg (0 : Int32)) ((((12 : Int32) + ((4 : Int32) * yy_2500)) + (2 : Int32))).toNatClampNeg (0 : Int32)) ((((12 : Int32) + ((4 : Int32) * yy_2500)) + (3 : Int32))).toNatClampNeg (-1 : Int32))) := rfl
def dX12_begins_l87  : Nat → Int32 → (Nat → Int32) → Int32 × (Nat → Int32)
  | 0, _, _ => (0, (fun _ => 0))
  | n + 1, yy_8800, yy_8801 => (if (10 : Int32) ≤ yy_8800 then (yy_8800, yy_8801) else dX12_begins_l87 n (yy_8800 + 1) (upd (upd yy_8801 (((36 : Int32) + yy_8800)).toNatClampNeg (yy_8801 (((74 : Int32) + yy_8800)).toNatClampNeg)) (((46 : Int32) + yy_8800)).toNatClampNeg ((upd yy_8801 (((36 : Int32) + yy_8800)).toNatClampNeg (yy_8801 (((74 : Int32) + yy_8800)).toNatClampNeg)) (((84 : Int32) + yy_8800)).toNatClampNeg)))
theorem dX12_begins_l87_s  {n : Nat} {yy_8800 : Int32} {yy_8801 : Nat → Int32} : dX12_begins_l87 (n + 1) yy_8800 yy_8801 = (if (10 : Int32) ≤ yy_8800 then (yy_8800, yy_8801) else dX12_begins_l87 n (yy_8800 + 1) (upd (upd yy_8801 (((36 : Int32) + yy_8800)).toNatClampNeg (yy_8801 (((74 : Int32) + yy_8800)).toNatClampNeg)) (((46 : Int32) + yy_8800)).toNatClampNeg ((upd yy_8801 (((36 : Int32) + yy_8800)).toNatClampNeg (yy_8801 (((74 : Int32) + yy_8800)).toNatClampNeg)) (((84 : Int32) + yy_8800)).toNatClampNeg))) := rfl
def dX12_begins (Mf_10 : Nat → Int32) : (Nat → Int32) := ((dX12_begins_l87 ((10 - (0 : Int32).toInt).toNat + 1) (0 : Int32) ((dX12_begins_l24 ((6 - (0 : Int32).toInt).toNat + 1) (0 : Int32) (upd (upd Mf_10 ((10 : Int32)).toNatClampNeg (0 : Int32)) ((11 : Int32)).toNatClampNeg ((upd Mf_10 ((10 : Int32)).toNatClampNeg (0 : Int32)) ((94 : Int32)).toNatClampNeg))).2)).2)
set_option maxRecDepth 16384
/-! the days: the class's shop and the reference's cells, by the functions of their methods -/
def sumB (s : Nat → Int32) : Nat → Int32
  | 0 => 0
  | n + 1 => sumB s n + s (13 + 4 * n)
def ShR (v0 v1 v2 v3 v4 v5 : Int32) (f1 f2 f3 f4 f5 f6 f7 f8 s : Nat → Int32) : Prop := (v0 = s 11 ∧ v1 = s 1 ∧ v2 = s 2 ∧ v3 = s 3 ∧ v4 = s 10 ∧ v5 = sumB s (s 3).toInt.toNat) ∧ (∀ k : Nat, k < 10 → f1 k = s (36 + k) ∧ f2 k = s (46 + k)) ∧ ∀ b : Nat, b < 6 → f3 b = s (12 + 4 * b) ∧ f4 b = s (56 + b) ∧ f5 b = s (62 + b) ∧ f6 b = s (13 + 4 * b) ∧ f7 b = s (14 + 4 * b) ∧ f8 b = s (15 + 4 * b)
/-- what holds of the cells on the first 61 days -/
def Gs (s : Nat → Int32) : Prop := (s 0 = 1 ∧ (1 ≤ (s 2).toInt ∧ (s 2).toInt ≤ 10) ∧ (0 ≤ (s 3).toInt ∧ (s 3).toInt ≤ 6) ∧ (0 ≤ (s 1).toInt ∧ (s 1).toInt ≤ 9) ∧ (0 ≤ (s 11).toInt ∧ (s 11).toInt ≤ 99) ∧ (0 ≤ (s 10).toInt ∧ (s 10).toInt ≤ 61)) ∧ ∀ b : Nat, b < 6 → (0 ≤ (s (12 + 4 * b)).toInt ∧ (s (12 + 4 * b)).toInt ≤ 20) ∧ (-1 ≤ (s (15 + 4 * b)).toInt ∧ (s (15 + 4 * b)).toInt ≤ (s 10).toInt) ∧ (0 ≤ (s (56 + b)).toInt ∧ (s (56 + b)).toInt ≤ 9)
theorem cl_eq {x : Int32} {n : Nat} (h : x.toInt = (n : Int)) : x.toNatClampNeg = n := by
  show x.toInt.toNat = n
  omega
theorem cl_l0 : (0 : Int32).toNatClampNeg = 0 := by decide
theorem cl_l1 : (1 : Int32).toNatClampNeg = 1 := by decide
theorem cl_l2 : (2 : Int32).toNatClampNeg = 2 := by decide
theorem cl_l3 : (3 : Int32).toNatClampNeg = 3 := by decide
theorem cl_l10 : (10 : Int32).toNatClampNeg = 10 := by decide
theorem cl_l11 : (11 : Int32).toNatClampNeg = 11 := by decide
theorem ix_12 {b : Int32} (h : 0 ≤ b.toInt ∧ b.toInt < 6) : ((12 : Int32) + (4 : Int32) * b).toInt = 12 + 4 * b.toInt := by
  have h4 : (4 : Int32).toInt = 4 := by decide
  have h12 : (12 : Int32).toInt = 12 := by decide
  have e1 : ((4 : Int32) * b).toInt = 4 * b.toInt := by rw [mul_toInt (by rw [h4]; omega) (by rw [h4]; omega), h4]
  rw [add_toInt (by rw [h12, e1]; omega) (by rw [h12, e1]; omega), h12, e1]
theorem ix_k {x k : Int32} {n m : Int} (hx : x.toInt = n) (hk : k.toInt = m) (h : -2147483648 ≤ n + m ∧ n + m ≤ 2147483647) : (x + k).toInt = n + m := by
  rw [add_toInt (by rw [hx, hk]; exact h.1) (by rw [hx, hk]; exact h.2), hx, hk]
theorem c12 {b : Int32} (h : 0 ≤ b.toInt ∧ b.toInt < 6) : ((12 : Int32) + (4 : Int32) * b).toNatClampNeg = 12 + 4 * b.toInt.toNat := cl_eq (by rw [ix_12 h]; omega)
theorem c13 {b : Int32} (h : 0 ≤ b.toInt ∧ b.toInt < 6) : ((12 : Int32) + (4 : Int32) * b + (1 : Int32)).toNatClampNeg = 13 + 4 * b.toInt.toNat := cl_eq (by rw [ix_k (ix_12 h) (show (1 : Int32).toInt = 1 by decide) (by omega)]; omega)
theorem c14 {b : Int32} (h : 0 ≤ b.toInt ∧ b.toInt < 6) : ((12 : Int32) + (4 : Int32) * b + (2 : Int32)).toNatClampNeg = 14 + 4 * b.toInt.toNat := cl_eq (by rw [ix_k (ix_12 h) (show (2 : Int32).toInt = 2 by decide) (by omega)]; omega)
theorem c15 {b : Int32} (h : 0 ≤ b.toInt ∧ b.toInt < 6) : ((12 : Int32) + (4 : Int32) * b + (3 : Int32)).toNatClampNeg = 15 + 4 * b.toInt.toNat := cl_eq (by rw [ix_k (ix_12 h) (show (3 : Int32).toInt = 3 by decide) (by omega)]; omega)
theorem c56 {b : Int32} (h : 0 ≤ b.toInt ∧ b.toInt < 6) : ((56 : Int32) + b).toNatClampNeg = 56 + b.toInt.toNat := cl_eq (by rw [ix_k (show (56 : Int32).toInt = 56 by decide) rfl (by omega)]; omega)
theorem c62 {b : Int32} (h : 0 ≤ b.toInt ∧ b.toInt < 6) : ((62 : Int32) + b).toNatClampNeg = 62 + b.toInt.toNat := cl_eq (by rw [ix_k (show (62 : Int32).toInt = 62 by decide) rfl (by omega)]; omega)
theorem c36 {b : Int32} (h : 0 ≤ b.toInt ∧ b.toInt < 10) : ((36 : Int32) + b).toNatClampNeg = 36 + b.toInt.toNat := cl_eq (by rw [ix_k (show (36 : Int32).toInt = 36 by decide) rfl (by omega)]; omega)
theorem c46 {b : Int32} (h : 0 ≤ b.toInt ∧ b.toInt < 10) : ((46 : Int32) + b).toNatClampNeg = 46 + b.toInt.toNat := cl_eq (by rw [ix_k (show (46 : Int32).toInt = 46 by decide) rfl (by omega)]; omega)
theorem cl_b {b : Int32} : b.toNatClampNeg = b.toInt.toNat := rfl
/-! reading the reference's cells -/
theorem rd_temper {s : Nat → Int32} {b : Int32} (h : 0 ≤ b.toInt ∧ b.toInt < 6) : dX12_temperOf s b = s (12 + 4 * b.toInt.toNat) := by unfold dX12_temperOf; rw [c12 h]
theorem rd_bought {s : Nat → Int32} {b : Int32} (h : 0 ≤ b.toInt ∧ b.toInt < 6) : dX12_boughtBy s b = s (13 + 4 * b.toInt.toNat) := by unfold dX12_boughtBy; rw [c13 h]
theorem rd_met {s : Nat → Int32} {b : Int32} (h : 0 ≤ b.toInt ∧ b.toInt < 6) : dX12_metOf s b = s (14 + 4 * b.toInt.toNat) := by unfold dX12_metOf; rw [c14 h]
theorem rd_last {s : Nat → Int32} {b : Int32} (h : 0 ≤ b.toInt ∧ b.toInt < 6) : dX12_lastOf s b = s (15 + 4 * b.toInt.toNat) := by unfold dX12_lastOf; rw [c15 h]
theorem i32_lt {x y : Int32} : x < y ↔ x.toInt < y.toInt := Int32.lt_iff_toInt_lt
theorem i32_leq {x y : Int32} : x ≤ y ↔ x.toInt ≤ y.toInt := Int32.le_iff_toInt_le
theorem i32_eq {x y : Int32} : x = y ↔ x.toInt = y.toInt := Int32.toInt_inj.symm
theorem t_0 : (0 : Int32).toInt = 0 := by decide
theorem t_1 : (1 : Int32).toInt = 1 := by decide
theorem t_m1 : (-1 : Int32).toInt = -1 := by decide
theorem t_6 : (6 : Int32).toInt = 6 := by decide
theorem t_10 : (10 : Int32).toInt = 10 := by decide
theorem t_99 : (99 : Int32).toInt = 99 := by decide
theorem hasB {n b : Int32} (h : 0 ≤ b.toInt ∧ b.toInt < n.toInt) (hn : n.toInt ≤ 6) : dX9_hasBuyer n b = 1 := by
  unfold dX9_hasBuyer
  rw [if_neg (by rw [i32_lt, t_0]; omega), if_neg (by rw [i32_leq]; omega), if_neg (by rw [i32_leq, t_6]; omega)]
theorem one_ne : ¬ (1 : Int32) = (0 : Int32) := by decide
theorem isBk {s : Nat → Int32} (g : Gs s) : dX12_isBook s = 1 := by
  unfold dX12_isBook
  rw [cl_l0, if_pos g.1.1]
/-- the day of the round -/
theorem clk {s : Nat → Int32} (g : Gs s) : dX12_clock s = s 10 - s 10 / s 2 * s 2 ∧ dX9_clockOn (s 2) (s 10) = dX12_clock s ∧ 0 ≤ (dX12_clock s).toInt ∧ (dX12_clock s).toInt < (s 2).toInt ∧ (dX12_clock s).toInt < 10 := by
  have h2 := g.1.2.1
  have h10 := g.1.2.2.2.2.2
  have e : dX12_clock s = s 10 - s 10 / s 2 * s 2 := by
    unfold dX12_clock
    rw [isBk g, if_neg one_ne, cl_l10, cl_l2]
  have hr := rem_bounds (x := s 10) (y := s 2) (by omega)
  rw [← e] at hr
  have h0 := hr.1 h10.1
  refine ⟨e, ?_, h0, hr.2, by omega⟩
  unfold dX9_clockOn
  rw [if_neg (by rw [i32_leq, t_0]; omega), if_neg (by rw [i32_lt, t_0]; omega), e]
theorem still_at {s f1 : Nat → Int32} {d : Int32} (h1 : ∀ k : Nat, k < 10 → f1 k = s (36 + k)) (h2 : 1 ≤ (s 2).toInt ∧ (s 2).toInt ≤ 10) (hd : 0 ≤ d.toInt) : dX9_stillOn f1 (s 2) d = s (36 + (d - d / s 2 * s 2).toInt.toNat) ∧ 0 ≤ (d - d / s 2 * s 2).toInt ∧ (d - d / s 2 * s 2).toInt < 10 := by
  have hr := rem_bounds (x := d) (y := s 2) (by omega)
  have h0 := hr.1 hd
  refine ⟨?_, h0, by omega⟩
  unfold dX9_stillOn
  rw [if_neg (by rw [i32_leq, t_0]; omega), if_pos (by rw [i32_leq, t_0]; omega), if_neg (by rw [i32_leq, t_10]; omega)]
  exact h1 _ (show (d - d / s 2 * s 2).toInt.toNat < 10 by omega)
section DAY
variable {v0 v1 v2 v3 v4 v5 : Int32} {f1 f2 f3 f4 f5 f6 f7 f8 s : Nat → Int32}
theorem ShR.still (h : ShR v0 v1 v2 v3 v4 v5 f1 f2 f3 f4 f5 f6 f7 f8 s) (g : Gs s) : dX9_stillOn f1 v2 v4 = s (36 + (dX12_clock s).toInt.toNat) := by
  have h10 := g.1.2.2.2.2.2
  rw [h.1.2.2.1, h.1.2.2.2.2.1, (clk g).1]
  exact (still_at (fun k hk => (h.2.1 k hk).1) g.1.2.1 h10.1).1
theorem ShR.can (h : ShR v0 v1 v2 v3 v4 v5 f1 f2 f3 f4 f5 f6 f7 f8 s) (g : Gs s) {b : Int32} (hb : 0 ≤ b.toInt ∧ b.toInt < (s 3).toInt) : dX9_canBuy f4 f5 f8 v0 v3 v4 b = dX12_canBuy s b := by
  have h6 : 0 ≤ b.toInt ∧ b.toInt < 6 := by have := g.1.2.2.1; omega
  have hn : b.toInt.toNat < 6 := by omega
  obtain ⟨-, a4, a5, -, -, a8⟩ := h.2.2 _ hn
  have hl := (g.2 _ hn).2.1
  unfold dX9_canBuy dX12_canBuy
  rw [h.1.2.2.2.1, hasB hb g.1.2.2.1.2, if_neg one_ne, cl_b (b := b), a4, a5, a8, h.1.1, h.1.2.2.2.2.1, rd_last h6, c56 h6, c62 h6, cl_l11, cl_l10]
  by_cases z : s (56 + b.toInt.toNat) ≤ s 11
  · rw [if_pos z, if_neg (show ¬ s 11 < s (56 + b.toInt.toNat) by rw [i32_lt]; rw [i32_leq] at z; omega)]
    by_cases y : s (15 + 4 * b.toInt.toNat) = -1
    · rw [if_pos y, if_pos (show s (15 + 4 * b.toInt.toNat) < 0 by rw [y]; decide)]
    · rw [if_neg y, if_neg (show ¬ s (15 + 4 * b.toInt.toNat) < 0 by rw [i32_lt, t_0]; rw [i32_eq, t_m1] at y; omega)]
  · rw [if_neg z, if_pos (by rw [i32_lt]; rw [i32_leq] at z; omega)]
end DAY
/-! the words of a buyer -/
def wdI (s : Nat → Int32) (b : Int32) (k : Nat) : Int32 := if k = 0 then b else if k = 1 then s (12 + 4 * b.toInt.toNat) else if k = 2 then s (56 + b.toInt.toNat) else if k = 3 then s (62 + b.toInt.toNat) else if k = 4 then s (36 + (dX12_clock s).toInt.toNat) else if k = 5 then s (36 + ((s 10 + 1) - (s 10 + 1) / s 2 * s 2).toInt.toNat) else if k = 6 then s 11 else if k = 7 then s (13 + 4 * b.toInt.toNat) else if k = 8 then s (14 + 4 * b.toInt.toNat) else if k = 9 then dX12_sinceOf s b else if k = 10 then dX12_soldAll s else if k = 11 then dX12_clock s else s 10
theorem soldL {s : Nat → Int32} (h3 : 0 ≤ (s 3).toInt ∧ (s 3).toInt ≤ 6) : ∀ (n : Nat) (b a : Int32), 0 ≤ b.toInt → b.toInt ≤ (s 3).toInt → (s 3).toInt - b.toInt < (n : Int) → a = sumB s b.toInt.toNat → (dX12_soldAll_l4 s n b a).2 = sumB s (s 3).toInt.toNat
  | 0, b, a, h0, h1, hn, ha => by omega
  | n + 1, b, a, h0, h1, hn, ha => by
    rw [dX12_soldAll_l4_s, cl_l3]
    by_cases z : s 3 ≤ b
    · rw [if_pos z]
      have e : b.toInt = (s 3).toInt := by rw [i32_leq] at z; omega
      show a = _
      rw [ha, e]
    · rw [if_neg z]
      have hb : b.toInt < (s 3).toInt := by rw [i32_leq] at z; omega
      have e1 : (b + 1).toInt = b.toInt + 1 := by rw [ix_k rfl t_1 (by omega)]
      refine soldL h3 n (b + 1) _ (by omega) (by omega) (by omega) ?_
      rw [rd_bought (by omega), ha, show (b + 1).toInt.toNat = b.toInt.toNat + 1 by omega]
      rfl
theorem sold_eq {s : Nat → Int32} (g : Gs s) : dX12_soldAll s = sumB s (s 3).toInt.toNat := by
  unfold dX12_soldAll
  have h3 := g.1.2.2.1
  refine soldL h3 _ 0 0 (by decide) (by rw [t_0]; omega) ?_ ?_
  · rw [t_0]
    show (s 3).toInt - 0 < (((6 - 0 : Int).toNat + 1 : Nat) : Int)
    omega
  · rw [t_0]; rfl
section DAYW
variable {v0 v1 v2 v3 v4 v5 : Int32} {f1 f2 f3 f4 f5 f6 f7 f8 s : Nat → Int32}
theorem ShR.since (h : ShR v0 v1 v2 v3 v4 v5 f1 f2 f3 f4 f5 f6 f7 f8 s) (g : Gs s) {b : Int32} (hb : 0 ≤ b.toInt ∧ b.toInt < (s 3).toInt) : dX9_daysSince f8 v3 v4 b = dX12_sinceOf s b := by
  have h6 : 0 ≤ b.toInt ∧ b.toInt < 6 := by have := g.1.2.2.1; omega
  have hn : b.toInt.toNat < 6 := by omega
  obtain ⟨-, -, -, -, -, a8⟩ := h.2.2 _ hn
  have hl := (g.2 _ hn).2.1
  have hd := g.1.2.2.2.2.2
  unfold dX9_daysSince dX12_sinceOf
  rw [h.1.2.2.2.1, hasB hb g.1.2.2.1.2, if_neg one_ne, cl_b (b := b), a8, h.1.2.2.2.2.1, rd_last h6, cl_l10]
  by_cases y : s (15 + 4 * b.toInt.toNat) = -1
  · rw [if_pos y, if_pos (by rw [y]; decide)]
  · have hy : 0 ≤ (s (15 + 4 * b.toInt.toNat)).toInt := by rw [i32_eq, t_m1] at y; omega
    have e : (s 10 - s (15 + 4 * b.toInt.toNat)).toInt = (s 10).toInt - (s (15 + 4 * b.toInt.toNat)).toInt := sub_toInt (by omega) (by omega)
    rw [if_neg y, if_neg (by rw [i32_lt, t_0]; omega), if_pos (by rw [i32_leq, t_99, e]; omega)]
theorem ShR.word (h : ShR v0 v1 v2 v3 v4 v5 f1 f2 f3 f4 f5 f6 f7 f8 s) (g : Gs s) {b k : Int32} (hb : 0 ≤ b.toInt ∧ b.toInt < (s 3).toInt) (hk : 0 ≤ k.toInt ∧ k.toInt ≤ 12) : dX9_wordOf f1 f3 f4 f5 f6 f7 f8 v0 v2 v3 v4 v5 k b = (wdI s b k.toInt.toNat).toInt64 := by
  have h6 : 0 ≤ b.toInt ∧ b.toInt < 6 := by have := g.1.2.2.1; omega
  have hn : b.toInt.toNat < 6 := by omega
  obtain ⟨a3, a4, a5, a6, a7, -⟩ := h.2.2 _ hn
  have hd := g.1.2.2.2.2.2
  have e1 : (s 10 + 1).toInt = (s 10).toInt + 1 := by rw [ix_k rfl t_1 (by omega)]
  have hs := h.still g
  have hs1 : dX9_stillOn f1 v2 (v4 + 1) = s (36 + ((s 10 + 1) - (s 10 + 1) / s 2 * s 2).toInt.toNat) := by
    rw [h.1.2.2.1, h.1.2.2.2.2.1]
    exact (still_at (fun k hk => (h.2.1 k hk).1) g.1.2.1 (by omega)).1
  have hc : dX9_clockOn v2 v4 = dX12_clock s := by rw [h.1.2.2.1, h.1.2.2.2.2.1]; exact (clk g).2.1
  have hsi := h.since g hb
  have hso : v5 = dX12_soldAll s := by rw [h.1.2.2.2.2.2, sold_eq g]
  unfold dX9_wordOf
  rw [show dX9_hasBuyer v3 b = 1 by rw [h.1.2.2.2.1]; exact hasB hb g.1.2.2.1.2, if_neg one_ne, cl_b (b := b), a3, a4, a5, a6, a7, hs, hs1, hc, hsi, hso, h.1.1, h.1.2.2.2.2.1]
  have hv : k = 0 ∨ k = 1 ∨ k = 2 ∨ k = 3 ∨ k = 4 ∨ k = 5 ∨ k = 6 ∨ k = 7 ∨ k = 8 ∨ k = 9 ∨ k = 10 ∨ k = 11 ∨ k = 12 := by
    have e : ∀ j : Int32, k.toInt = j.toInt → k = j := fun j z => Int32.toInt_inj.mp z
    have : k.toInt = 0 ∨ k.toInt = 1 ∨ k.toInt = 2 ∨ k.toInt = 3 ∨ k.toInt = 4 ∨ k.toInt = 5 ∨ k.toInt = 6 ∨ k.toInt = 7 ∨ k.toInt = 8 ∨ k.toInt = 9 ∨ k.toInt = 10 ∨ k.toInt = 11 ∨ k.toInt = 12 := by omega
    rcases this with z | z | z | z | z | z | z | z | z | z | z | z | z
    · exact Or.inl (e 0 (by rw [z]; decide))
    · exact Or.inr (Or.inl (e 1 (by rw [z]; decide)))
    · exact Or.inr (Or.inr (Or.inl (e 2 (by rw [z]; decide))))
    · exact Or.inr (Or.inr (Or.inr (Or.inl (e 3 (by rw [z]; decide)))))
    · exact Or.inr (Or.inr (Or.inr (Or.inr (Or.inl (e 4 (by rw [z]; decide))))))
    · exact Or.inr (Or.inr (Or.inr (Or.inr (Or.inr (Or.inl (e 5 (by rw [z]; decide)))))))
    · exact Or.inr (Or.inr (Or.inr (Or.inr (Or.inr (Or.inr (Or.inl (e 6 (by rw [z]; decide))))))))
    · exact Or.inr (Or.inr (Or.inr (Or.inr (Or.inr (Or.inr (Or.inr (Or.inl (e 7 (by rw [z]; decide)))))))))
    · exact Or.inr (Or.inr (Or.inr (Or.inr (Or.inr (Or.inr (Or.inr (Or.inr (Or.inl (e 8 (by rw [z]; decide))))))))))
    · exact Or.inr (Or.inr (Or.inr (Or.inr (Or.inr (Or.inr (Or.inr (Or.inr (Or.inr (Or.inl (e 9 (by rw [z]; decide)))))))))))
    · exact Or.inr (Or.inr (Or.inr (Or.inr (Or.inr (Or.inr (Or.inr (Or.inr (Or.inr (Or.inr (Or.inl (e 10 (by rw [z]; decide))))))))))))
    · exact Or.inr (Or.inr (Or.inr (Or.inr (Or.inr (Or.inr (Or.inr (Or.inr (Or.inr (Or.inr (Or.inr (Or.inl (e 11 (by rw [z]; decide)))))))))))))
    · exact Or.inr (Or.inr (Or.inr (Or.inr (Or.inr (Or.inr (Or.inr (Or.inr (Or.inr (Or.inr (Or.inr (Or.inr (e 12 (by rw [z]; decide)))))))))))))
  rcases hv with rfl | rfl | rfl | rfl | rfl | rfl | rfl | rfl | rfl | rfl | rfl | rfl | rfl <;> rfl
end DAYW
def dX6_holds (x1 : Int32) (w1 : Int64) (w2 : Int64) : Int32 := (if x1 = (-11 : Int32) then (if (lg_cmp w1 w2) ≤ (0 : Int32) then (0 : Int32) else (1 : Int32)) else (if x1 = (-10 : Int32) then (if (lg_cmp w1 w2) < (0 : Int32) then (0 : Int32) else (1 : Int32)) else (if x1 = (-9 : Int32) then (if (lg_cmp w1 w2) = (0 : Int32) then (1 : Int32) else (0 : Int32)) else (if x1 = (-8 : Int32) then (if (0 : Int32) < (lg_cmp w1 w2) then (0 : Int32) else (1 : Int32)) else (if x1 = (-7 : Int32) then (if (0 : Int32) ≤ (lg_cmp w1 w2) then (0 : Int32) else (1 : Int32)) else (if x1 = (-6 : Int32) then (if (lg_cmp w1 (0 : Int64)) = (0 : Int32) then (if (lg_cmp w2 (0 : Int64)) = (0 : Int32) then (0 : Int32) else (1 : Int32)) else (1 : Int32)) else (if x1 = (-5 : Int32) then (if (lg_cmp w1 (0 : Int64)) = (0 : Int32) then (0 : Int32) else (if (lg_cmp w2 (0 : Int64)) = (0 : Int32) then (0 : Int32) else (1 : Int32))) else (0 : Int32))))))))
def dX6_joined (x1 : Int32) (w1 : Int64) (w2 : Int64) : Int64 := (if x1 = (-16 : Int32) then (if (lg_cmp w2 (0 : Int64)) = (0 : Int32) then (0 : Int64) else (w1 - w1 / w2 * w2)) else (if x1 = (-15 : Int32) then (if (lg_cmp w2 (0 : Int64)) = (0 : Int32) then (0 : Int64) else (w1 / w2)) else (if x1 = (-14 : Int32) then (w1 * w2) else (if x1 = (-13 : Int32) then (w1 - w2) else (if x1 = (-12 : Int32) then (w1 + w2) else (if (dX6_holds x1 w1 w2) = (0 : Int32) then (0 : Int64) else (1 : Int64)))))))
def dX6_sumFor_l5 (Af_1 : Nat → Int32) (Af_3 : Nat → Int32) (Af_4 : Nat → Int32) (Af_5 : Nat → Int32) (Af_6 : Nat → Int32) (Af_7 : Nat → Int32) (Af_8 : Nat → Int32) (Av_0 : Int32) (Av_2 : Int32) (Av_3 : Int32) (Av_4 : Int32) (Av_5 : Int32) (Rf_1 : Nat → Int32) (Rn : Nat) (zz_602 : Int32) : Nat → Int32 → Int32 → (Nat → Int64) → Int32 × Int64 × Int32 × Int32 × (Nat → Int64)
  | 0, _, _, _ => (0, 0, 0, 0, (fun _ => 0))
  | n + 1, yy_600, yy_601, yy_602 => (if (nI Rn) ≤ yy_600 then ((0 : Int32), (0 : Int64), yy_600, yy_601, yy_602) else (if (Rf_1 (yy_600).toNatClampNeg) < (0 : Int32) then (if (Rf_1 (yy_600).toNatClampNeg) = (-2 : Int32) then (if yy_601 < (1 : Int32) then ((1 : Int32), (0 : Int64), yy_600, yy_601, yy_602) else (if (64 : Int32) < yy_601 then ((1 : Int32), (0 : Int64), yy_600, yy_601, yy_602) else ((1 : Int32), (yy_602 ((yy_601 - (1 : Int32))).toNatClampNeg), yy_600, yy_601, yy_602))) else (if (Rf_1 (yy_600).toNatClampNeg) = (-4 : Int32) then (if yy_601 < (1 : Int32) then dX6_sumFor_l5 Af_1 Af_3 Af_4 Af_5 Af_6 Af_7 Af_8 Av_0 Av_2 Av_3 Av_4 Av_5 Rf_1 Rn zz_602 n (yy_600 + 1) yy_601 yy_602 else (if (64 : Int32) < yy_601 then dX6_sumFor_l5 Af_1 Af_3 Af_4 Af_5 Af_6 Af_7 Af_8 Av_0 Av_2 Av_3 Av_4 Av_5 Rf_1 Rn zz_602 n (yy_600 + 1) yy_601 yy_602 else (if (lg_cmp (yy_602 ((yy_601 - (1 : Int32))).toNatClampNeg) (0 : Int64)) = (0 : Int32) then dX6_sumFor_l5 Af_1 Af_3 Af_4 Af_5 Af_6 Af_7 Af_8 Av_0 Av_2 Av_3 Av_4 Av_5 Rf_1 Rn zz_602 n (yy_600 + 1) yy_601 (vp_updL yy_602 ((yy_601 - (1 : Int32))).toNatClampNeg (1 : Int64)) else dX6_sumFor_l5 Af_1 Af_3 Af_4 Af_5 Af_6 Af_7 Af_8 Av_0 Av_2 Av_3 Av_4 Av_5 Rf_1 Rn zz_602 n (yy_600 + 1) yy_601 (vp_updL yy_602 ((yy_601 - (1 : Int32))).toNatClampNeg (0 : Int64))))) else (if yy_601 < (2 : Int32) then ((1 : Int32), (0 : Int64), yy_600, yy_601, yy_602) else (if yy_601 ≤ (64 : Int32) then (if (Rf_1 (yy_600).toNatClampNeg) = (-3 : Int32) then (if (lg_cmp (yy_602 ((yy_601 - (1 : Int32))).toNatClampNeg) (0 : Int64)) = (0 : Int32) then dX6_sumFor_l5 Af_1 Af_3 Af_4 Af_5 Af_6 Af_7 Af_8 Av_0 Av_2 Av_3 Av_4 Av_5 Rf_1 Rn zz_602 n (yy_600 + 1) (yy_601 + (-2)) yy_602 else ((1 : Int32), (yy_602 ((yy_601 - (2 : Int32))).toNatClampNeg), yy_600, yy_601, yy_602)) else dX6_sumFor_l5 Af_1 Af_3 Af_4 Af_5 Af_6 Af_7 Af_8 Av_0 Av_2 Av_3 Av_4 Av_5 Rf_1 Rn zz_602 n (yy_600 + 1) (yy_601 + (-1)) (vp_updL yy_602 ((yy_601 - (2 : Int32))).toNatClampNeg (dX6_joined (Rf_1 (yy_600).toNatClampNeg) (yy_602 ((yy_601 - (2 : Int32))).toNatClampNeg) (yy_602 ((yy_601 - (1 : Int32))).toNatClampNeg)))) else ((1 : Int32), (0 : Int64), yy_600, yy_601, yy_602))))) else (if yy_601 < (0 : Int32) then ((1 : Int32), (0 : Int64), yy_600, yy_601, yy_602) else (if yy_601 < (64 : Int32) then (if (100000 : Int32) ≤ (Rf_1 (yy_600).toNatClampNeg) then dX6_sumFor_l5 Af_1 Af_3 Af_4 Af_5 Af_6 Af_7 Af_8 Av_0 Av_2 Av_3 Av_4 Av_5 Rf_1 Rn zz_602 n (yy_600 + 1) (yy_601 + 1) (vp_updL yy_602 (yy_601).toNatClampNeg (dX9_wordOf Af_1 Af_3 Af_4 Af_5 Af_6 Af_7 Af_8 Av_0 Av_2 Av_3 Av_4 Av_5 ((Rf_1 (yy_600).toNatClampNeg) - (100000 : Int32)) zz_602)) else dX6_sumFor_l5 Af_1 Af_3 Af_4 Af_5 Af_6 Af_7 Af_8 Av_0 Av_2 Av_3 Av_4 Av_5 Rf_1 Rn zz_602 n (yy_600 + 1) (yy_601 + 1) (vp_updL yy_602 (yy_601).toNatClampNeg ((Rf_1 (yy_600).toNatClampNeg)).toInt64)) else ((1 : Int32), (0 : Int64), yy_600, yy_601, yy_602)))))
theorem dX6_sumFor_l5_s {Af_1 : Nat → Int32} {Af_3 : Nat → Int32} {Af_4 : Nat → Int32} {Af_5 : Nat → Int32} {Af_6 : Nat → Int32} {Af_7 : Nat → Int32} {Af_8 : Nat → Int32} {Av_0 : Int32} {Av_2 : Int32} {Av_3 : Int32} {Av_4 : Int32} {Av_5 : Int32} {Rf_1 : Nat → Int32} {Rn : Nat} {zz_602 : Int32} {n : Nat} {yy_600 : Int32} {yy_601 : Int32} {yy_602 : Nat → Int64} : dX6_sumFor_l5 Af_1 Af_3 Af_4 Af_5 Af_6 Af_7 Af_8 Av_0 Av_2 Av_3 Av_4 Av_5 Rf_1 Rn zz_602 (n + 1) yy_600 yy_601 yy_602 = (if (nI Rn) ≤ yy_600 then ((0 : Int32), (0 : Int64), yy_600, yy_601, yy_602) else (if (Rf_1 (yy_600).toNatClampNeg) < (0 : Int32) then (if (Rf_1 (yy_600).toNatClampNeg) = (-2 : Int32) then (if yy_601 < (1 : Int32) then ((1 : Int32), (0 : Int64), yy_600, yy_601, yy_602) else (if (64 : Int32) < yy_601 then ((1 : Int32), (0 : Int64), yy_600, yy_601, yy_602) else ((1 : Int32), (yy_602 ((yy_601 - (1 : Int32))).toNatClampNeg), yy_600, yy_601, yy_602))) else (if (Rf_1 (yy_600).toNatClampNeg) = (-4 : Int32) then (if yy_601 < (1 : Int32) then dX6_sumFor_l5 Af_1 Af_3 Af_4 Af_5 Af_6 Af_7 Af_8 Av_0 Av_2 Av_3 Av_4 Av_5 Rf_1 Rn zz_602 n (yy_600 + 1) yy_601 yy_602 else (if (64 : Int32) < yy_601 then dX6_sumFor_l5 Af_1 Af_3 Af_4 Af_5 Af_6 Af_7 Af_8 Av_0 Av_2 Av_3 Av_4 Av_5 Rf_1 Rn zz_602 n (yy_600 + 1) yy_601 yy_602 else (if (lg_cmp (yy_602 ((yy_601 - (1 : Int32))).toNatClampNeg) (0 : Int64)) = (0 : Int32) then dX6_sumFor_l5 Af_1 Af_3 Af_4 Af_5 Af_6 Af_7 Af_8 Av_0 Av_2 Av_3 Av_4 Av_5 Rf_1 Rn zz_602 n (yy_600 + 1) yy_601 (vp_updL yy_602 ((yy_601 - (1 : Int32))).toNatClampNeg (1 : Int64)) else dX6_sumFor_l5 Af_1 Af_3 Af_4 Af_5 Af_6 Af_7 Af_8 Av_0 Av_2 Av_3 Av_4 Av_5 Rf_1 Rn zz_602 n (yy_600 + 1) yy_601 (vp_updL yy_602 ((yy_601 - (1 : Int32))).toNatClampNeg (0 : Int64))))) else (if yy_601 < (2 : Int32) then ((1 : Int32), (0 : Int64), yy_600, yy_601, yy_602) else (if yy_601 ≤ (64 : Int32) then (if (Rf_1 (yy_600).toNatClampNeg) = (-3 : Int32) then (if (lg_cmp (yy_602 ((yy_601 - (1 : Int32))).toNatClampNeg) (0 : Int64)) = (0 : Int32) then dX6_sumFor_l5 Af_1 Af_3 Af_4 Af_5 Af_6 Af_7 Af_8 Av_0 Av_2 Av_3 Av_4 Av_5 Rf_1 Rn zz_602 n (yy_600 + 1) (yy_601 + (-2)) yy_602 else ((1 : Int32), (yy_602 ((yy_601 - (2 : Int32))).toNatClampNeg), yy_600, yy_601, yy_602)) else dX6_sumFor_l5 Af_1 Af_3 Af_4 Af_5 Af_6 Af_7 Af_8 Av_0 Av_2 Av_3 Av_4 Av_5 Rf_1 Rn zz_602 n (yy_600 + 1) (yy_601 + (-1)) (vp_updL yy_602 ((yy_601 - (2 : Int32))).toNatClampNeg (dX6_joined (Rf_1 (yy_600).toNatClampNeg) (yy_602 ((yy_601 - (2 : Int32))).toNatClampNeg) (yy_602 ((yy_601 - (1 : Int32))).toNatClampNeg)))) else ((1 : Int32), (0 : Int64), yy_600, yy_601, yy_602))))) else (if yy_601 < (0 : Int32) then ((1 : Int32), (0 : Int64), yy_600, yy_601, yy_602) else (if yy_601 < (64 : Int32) then (if (100000 : Int32) ≤ (Rf_1 (yy_600).toNatClampNeg) then dX6_sumFor_l5 Af_1 Af_3 Af_4 Af_5 Af_6 Af_7 Af_8 Av_0 Av_2 Av_3 Av_4 Av_5 Rf_1 Rn zz_602 n (yy_600 + 1) (yy_601 + 1) (vp_updL yy_602 (yy_601).toNatClampNeg (dX9_wordOf Af_1 Af_3 Af_4 Af_5 Af_6 Af_7 Af_8 Av_0 Av_2 Av_3 Av_4 Av_5 ((Rf_1 (yy_600).toNatClampNeg) - (100000 : Int32)) zz_602)) else dX6_sumFor_l5 Af_1 Af_3 Af_4 Af_5 Af_6 Af_7 Af_8 Av_0 Av_2 Av_3 Av_4 Av_5 Rf_1 Rn zz_602 n (yy_600 + 1) (yy_601 + 1) (vp_updL yy_602 (yy_601).toNatClampNeg ((Rf_1 (yy_600).toNatClampNeg)).toInt64)) else ((1 : Int32), (0 : Int64), yy_600, yy_601, yy_602))))) := rfl
def dX6_sumFor (Af_1 : Nat → Int32) (Af_3 : Nat → Int32) (Af_4 : Nat → Int32) (Af_5 : Nat → Int32) (Af_6 : Nat → Int32) (Af_7 : Nat → Int32) (Af_8 : Nat → Int32) (Av_0 : Int32) (Av_2 : Int32) (Av_3 : Int32) (Av_4 : Int32) (Av_5 : Int32) (Rf_1 : Nat → Int32) (Rg_2 : Nat → Int64) (x1 : Int32) (Rn : Nat) : Int64 × (Nat → Int64) := (if (dX6_sumFor_l5 Af_1 Af_3 Af_4 Af_5 Af_6 Af_7 Af_8 Av_0 Av_2 Av_3 Av_4 Av_5 Rf_1 Rn x1 ((400 - (0 : Int32).toInt).toNat + 1) (0 : Int32) (0 : Int32) Rg_2).1 = (1 : Int32) then ((dX6_sumFor_l5 Af_1 Af_3 Af_4 Af_5 Af_6 Af_7 Af_8 Av_0 Av_2 Av_3 Av_4 Av_5 Rf_1 Rn x1 ((400 - (0 : Int32).toInt).toNat + 1) (0 : Int32) (0 : Int32) Rg_2).2.1, ((dX6_sumFor_l5 Af_1 Af_3 Af_4 Af_5 Af_6 Af_7 Af_8 Av_0 Av_2 Av_3 Av_4 Av_5 Rf_1 Rn x1 ((400 - (0 : Int32).toInt).toNat + 1) (0 : Int32) (0 : Int32) Rg_2).2.2.2.2)) else ((0 : Int64), ((dX6_sumFor_l5 Af_1 Af_3 Af_4 Af_5 Af_6 Af_7 Af_8 Av_0 Av_2 Av_3 Av_4 Av_5 Rf_1 Rn x1 ((400 - (0 : Int32).toInt).toNat + 1) (0 : Int32) (0 : Int32) Rg_2).2.2.2.2)))
def dX9_goThroughDay_n_l44 (Af_4 : Nat → Int32) (Af_5 : Nat → Int32) (Av_3 : Int32) (Av_4 : Int32) (zz_4502 : Int32) (zz_4504 : Int32) : Nat → Int32 → Int32 → Int32 → Int32 → (Nat → Int32) → (Nat → Int32) → (Nat → Int32) → (Nat → Int32) → Int32 × Int32 × Int32 × Int32 × (Nat → Int32) × (Nat → Int32) × (Nat → Int32) × (Nat → Int32)
  | 0, _, _, _, _, _, _, _, _ => (0, 0, 0, 0, (fun _ => 0), (fun _ => 0), (fun _ => 0), (fun _ => 0))
  | n + 1, yy_4500, yy_4501, yy_4502, yy_4503, yy_4504, yy_4505, yy_4506, yy_4507 => (if Av_3 ≤ yy_4500 then (yy_4500, yy_4501, yy_4502, yy_4503, yy_4504, yy_4505, yy_4506, yy_4507) else (if (6 : Int32) ≤ yy_4500 then (yy_4500, yy_4501, yy_4502, yy_4503, yy_4504, yy_4505, yy_4506, yy_4507) else (if (dX9_canBuy Af_4 Af_5 yy_4506 yy_4502 Av_3 Av_4 yy_4500) = (0 : Int32) then dX9_goThroughDay_n_l44 Af_4 Af_5 Av_3 Av_4 zz_4502 zz_4504 n (yy_4500 + 1) yy_4501 yy_4502 yy_4503 yy_4504 yy_4505 yy_4506 yy_4507 else (if ((yy_4504 (yy_4500).toNatClampNeg) + zz_4502) < (12 : Int32) then dX9_goThroughDay_n_l44 Af_4 Af_5 Av_3 Av_4 zz_4502 zz_4504 n (yy_4500 + 1) yy_4501 yy_4502 yy_4503 yy_4504 yy_4505 yy_4506 yy_4507 else (if ((zz_4504 >>> (yy_4500 &&& 31)) &&& (1 : Int32)) = (0 : Int32) then dX9_goThroughDay_n_l44 Af_4 Af_5 Av_3 Av_4 zz_4502 zz_4504 n (yy_4500 + 1) (yy_4501 ||| ((1 : Int32) <<< (yy_4500 &&& 31))) ((dX9_handOver yy_4504 Af_4 yy_4505 yy_4506 yy_4502 Av_3 Av_4 yy_4503 yy_4500).1) ((dX9_handOver yy_4504 Af_4 yy_4505 yy_4506 yy_4502 Av_3 Av_4 yy_4503 yy_4500).2.1) ((dX9_handOver yy_4504 Af_4 yy_4505 yy_4506 yy_4502 Av_3 Av_4 yy_4503 yy_4500).2.2.1) ((dX9_handOver yy_4504 Af_4 yy_4505 yy_4506 yy_4502 Av_3 Av_4 yy_4503 yy_4500).2.2.2.1) ((dX9_handOver yy_4504 Af_4 yy_4505 yy_4506 yy_4502 Av_3 Av_4 yy_4503 yy_4500).2.2.2.2) yy_4507 else dX9_goThroughDay_n_l44 Af_4 Af_5 Av_3 Av_4 zz_4502 zz_4504 n (yy_4500 + 1) yy_4501 yy_4502 yy_4503 yy_4504 yy_4505 (upd yy_4506 (yy_4500).toNatClampNeg Av_4) (upd yy_4507 (yy_4500).toNatClampNeg ((yy_4507 (yy_4500).toNatClampNeg) + (1 : Int32))))))))
theorem dX9_goThroughDay_n_l44_s {Af_4 : Nat → Int32} {Af_5 : Nat → Int32} {Av_3 : Int32} {Av_4 : Int32} {zz_4502 : Int32} {zz_4504 : Int32} {n : Nat} {yy_4500 : Int32} {yy_4501 : Int32} {yy_4502 : Int32} {yy_4503 : Int32} {yy_4504 : Nat → Int32} {yy_4505 : Nat → Int32} {yy_4506 : Nat → Int32} {yy_4507 : Nat → Int32} : dX9_goThroughDay_n_l44 Af_4 Af_5 Av_3 Av_4 zz_4502 zz_4504 (n + 1) yy_4500 yy_4501 yy_4502 yy_4503 yy_4504 yy_4505 yy_4506 yy_4507 = (if Av_3 ≤ yy_4500 then (yy_4500, yy_4501, yy_4502, yy_4503, yy_4504, yy_4505, yy_4506, yy_4507) else (if (6 : Int32) ≤ yy_4500 then (yy_4500, yy_4501, yy_4502, yy_4503, yy_4504, yy_4505, yy_4506, yy_4507) else (if (dX9_canBuy Af_4 Af_5 yy_4506 yy_4502 Av_3 Av_4 yy_4500) = (0 : Int32) then dX9_goThroughDay_n_l44 Af_4 Af_5 Av_3 Av_4 zz_4502 zz_4504 n (yy_4500 + 1) yy_4501 yy_4502 yy_4503 yy_4504 yy_4505 yy_4506 yy_4507 else (if ((yy_4504 (yy_4500).toNatClampNeg) + zz_4502) < (12 : Int32) then dX9_goThroughDay_n_l44 Af_4 Af_5 Av_3 Av_4 zz_4502 zz_4504 n (yy_4500 + 1) yy_4501 yy_4502 yy_4503 yy_4504 yy_4505 yy_4506 yy_4507 else (if ((zz_4504 >>> (yy_4500 &&& 31)) &&& (1 : Int32)) = (0 : Int32) then dX9_goThroughDay_n_l44 Af_4 Af_5 Av_3 Av_4 zz_4502 zz_4504 n (yy_4500 + 1) (yy_4501 ||| ((1 : Int32) <<< (yy_4500 &&& 31))) ((dX9_handOver yy_4504 Af_4 yy_4505 yy_4506 yy_4502 Av_3 Av_4 yy_4503 yy_4500).1) ((dX9_handOver yy_4504 Af_4 yy_4505 yy_4506 yy_4502 Av_3 Av_4 yy_4503 yy_4500).2.1) ((dX9_handOver yy_4504 Af_4 yy_4505 yy_4506 yy_4502 Av_3 Av_4 yy_4503 yy_4500).2.2.1) ((dX9_handOver yy_4504 Af_4 yy_4505 yy_4506 yy_4502 Av_3 Av_4 yy_4503 yy_4500).2.2.2.1) ((dX9_handOver yy_4504 Af_4 yy_4505 yy_4506 yy_4502 Av_3 Av_4 yy_4503 yy_4500).2.2.2.2) yy_4507 else dX9_goThroughDay_n_l44 Af_4 Af_5 Av_3 Av_4 zz_4502 zz_4504 n (yy_4500 + 1) yy_4501 yy_4502 yy_4503 yy_4504 yy_4505 (upd yy_4506 (yy_4500).toNatClampNeg Av_4) (upd yy_4507 (yy_4500).toNatClampNeg ((yy_4507 (yy_4500).toNatClampNeg) + (1 : Int32)))))))) := rfl
def dX9_goThroughDay_n (Af_1 : Nat → Int32) (Af_2 : Nat → Int32) (Af_3 : Nat → Int32) (Af_4 : Nat → Int32) (Af_5 : Nat → Int32) (Af_6 : Nat → Int32) (Af_7 : Nat → Int32) (Af_8 : Nat → Int32) (Av_0 : Int32) (Av_1 : Int32) (Av_2 : Int32) (Av_3 : Int32) (Av_4 : Int32) (Av_5 : Int32) : Int32 × Int32 × Int32 × Int32 × (Nat → Int32) × (Nat → Int32) × (Nat → Int32) × (Nat → Int32) := (if (dX9_hasClock Av_2 (dX9_clockOn Av_2 Av_4)) = (0 : Int32) then (if (Av_4 - Av_4 / (7 : Int32) * (7 : Int32)) = (6 : Int32) then ((dX9_goThroughDay_n_l44 Af_4 Af_5 Av_3 Av_4 (dX9_stillOn Af_1 Av_2 Av_4) (0 : Int32) ((6 - (0 : Int32).toInt).toNat + 1) (0 : Int32) (0 : Int32) Av_0 Av_5 Af_3 Af_6 Af_8 Af_7).2.1, (if ((dX9_goThroughDay_n_l44 Af_4 Af_5 Av_3 Av_4 (dX9_stillOn Af_1 Av_2 Av_4) (0 : Int32) ((6 - (0 : Int32).toInt).toNat + 1) (0 : Int32) (0 : Int32) Av_0 Av_5 Af_3 Af_6 Af_8 Af_7).2.2.1 + Av_1) < (99 : Int32) then ((dX9_goThroughDay_n_l44 Af_4 Af_5 Av_3 Av_4 (dX9_stillOn Af_1 Av_2 Av_4) (0 : Int32) ((6 - (0 : Int32).toInt).toNat + 1) (0 : Int32) (0 : Int32) Av_0 Av_5 Af_3 Af_6 Af_8 Af_7).2.2.1 + Av_1) else (99 : Int32)), (Av_4 + (1 : Int32)), (dX9_goThroughDay_n_l44 Af_4 Af_5 Av_3 Av_4 (dX9_stillOn Af_1 Av_2 Av_4) (0 : Int32) ((6 - (0 : Int32).toInt).toNat + 1) (0 : Int32) (0 : Int32) Av_0 Av_5 Af_3 Af_6 Af_8 Af_7).2.2.2.1, (dX9_changeTempers ((dX9_goThroughDay_n_l44 Af_4 Af_5 Av_3 Av_4 (dX9_stillOn Af_1 Av_2 Av_4) (0 : Int32) ((6 - (0 : Int32).toInt).toNat + 1) (0 : Int32) (0 : Int32) Av_0 Av_5 Af_3 Af_6 Af_8 Af_7).2.2.2.2.1) Av_3 (dX9_stillOn Af_1 Av_2 Av_4)), ((dX9_goThroughDay_n_l44 Af_4 Af_5 Av_3 Av_4 (dX9_stillOn Af_1 Av_2 Av_4) (0 : Int32) ((6 - (0 : Int32).toInt).toNat + 1) (0 : Int32) (0 : Int32) Av_0 Av_5 Af_3 Af_6 Af_8 Af_7).2.2.2.2.2.1), ((dX9_goThroughDay_n_l44 Af_4 Af_5 Av_3 Av_4 (dX9_stillOn Af_1 Av_2 Av_4) (0 : Int32) ((6 - (0 : Int32).toInt).toNat + 1) (0 : Int32) (0 : Int32) Av_0 Av_5 Af_3 Af_6 Af_8 Af_7).2.2.2.2.2.2.2), ((dX9_goThroughDay_n_l44 Af_4 Af_5 Av_3 Av_4 (dX9_stillOn Af_1 Av_2 Av_4) (0 : Int32) ((6 - (0 : Int32).toInt).toNat + 1) (0 : Int32) (0 : Int32) Av_0 Av_5 Af_3 Af_6 Af_8 Af_7).2.2.2.2.2.2.1)) else ((dX9_goThroughDay_n_l44 Af_4 Af_5 Av_3 Av_4 (dX9_stillOn Af_1 Av_2 Av_4) (0 : Int32) ((6 - (0 : Int32).toInt).toNat + 1) (0 : Int32) (0 : Int32) Av_0 Av_5 Af_3 Af_6 Af_8 Af_7).2.1, (dX9_goThroughDay_n_l44 Af_4 Af_5 Av_3 Av_4 (dX9_stillOn Af_1 Av_2 Av_4) (0 : Int32) ((6 - (0 : Int32).toInt).toNat + 1) (0 : Int32) (0 : Int32) Av_0 Av_5 Af_3 Af_6 Af_8 Af_7).2.2.1, (Av_4 + (1 : Int32)), (dX9_goThroughDay_n_l44 Af_4 Af_5 Av_3 Av_4 (dX9_stillOn Af_1 Av_2 Av_4) (0 : Int32) ((6 - (0 : Int32).toInt).toNat + 1) (0 : Int32) (0 : Int32) Av_0 Av_5 Af_3 Af_6 Af_8 Af_7).2.2.2.1, (dX9_changeTempers ((dX9_goThroughDay_n_l44 Af_4 Af_5 Av_3 Av_4 (dX9_stillOn Af_1 Av_2 Av_4) (0 : Int32) ((6 - (0 : Int32).toInt).toNat + 1) (0 : Int32) (0 : Int32) Av_0 Av_5 Af_3 Af_6 Af_8 Af_7).2.2.2.2.1) Av_3 (dX9_stillOn Af_1 Av_2 Av_4)), ((dX9_goThroughDay_n_l44 Af_4 Af_5 Av_3 Av_4 (dX9_stillOn Af_1 Av_2 Av_4) (0 : Int32) ((6 - (0 : Int32).toInt).toNat + 1) (0 : Int32) (0 : Int32) Av_0 Av_5 Af_3 Af_6 Af_8 Af_7).2.2.2.2.2.1), ((dX9_goThroughDay_n_l44 Af_4 Af_5 Av_3 Av_4 (dX9_stillOn Af_1 Av_2 Av_4) (0 : Int32) ((6 - (0 : Int32).toInt).toNat + 1) (0 : Int32) (0 : Int32) Av_0 Av_5 Af_3 Af_6 Af_8 Af_7).2.2.2.2.2.2.2), ((dX9_goThroughDay_n_l44 Af_4 Af_5 Av_3 Av_4 (dX9_stillOn Af_1 Av_2 Av_4) (0 : Int32) ((6 - (0 : Int32).toInt).toNat + 1) (0 : Int32) (0 : Int32) Av_0 Av_5 Af_3 Af_6 Af_8 Af_7).2.2.2.2.2.2.1))) else (if (Av_4 - Av_4 / (7 : Int32) * (7 : Int32)) = (6 : Int32) then ((dX9_goThroughDay_n_l44 Af_4 Af_5 Av_3 Av_4 (dX9_stillOn Af_1 Av_2 Av_4) (Af_2 ((dX9_clockOn Av_2 Av_4)).toNatClampNeg) ((6 - (0 : Int32).toInt).toNat + 1) (0 : Int32) (0 : Int32) Av_0 Av_5 Af_3 Af_6 Af_8 Af_7).2.1, (if ((dX9_goThroughDay_n_l44 Af_4 Af_5 Av_3 Av_4 (dX9_stillOn Af_1 Av_2 Av_4) (Af_2 ((dX9_clockOn Av_2 Av_4)).toNatClampNeg) ((6 - (0 : Int32).toInt).toNat + 1) (0 : Int32) (0 : Int32) Av_0 Av_5 Af_3 Af_6 Af_8 Af_7).2.2.1 + Av_1) < (99 : Int32) then ((dX9_goThroughDay_n_l44 Af_4 Af_5 Av_3 Av_4 (dX9_stillOn Af_1 Av_2 Av_4) (Af_2 ((dX9_clockOn Av_2 Av_4)).toNatClampNeg) ((6 - (0 : Int32).toInt).toNat + 1) (0 : Int32) (0 : Int32) Av_0 Av_5 Af_3 Af_6 Af_8 Af_7).2.2.1 + Av_1) else (99 : Int32)), (Av_4 + (1 : Int32)), (dX9_goThroughDay_n_l44 Af_4 Af_5 Av_3 Av_4 (dX9_stillOn Af_1 Av_2 Av_4) (Af_2 ((dX9_clockOn Av_2 Av_4)).toNatClampNeg) ((6 - (0 : Int32).toInt).toNat + 1) (0 : Int32) (0 : Int32) Av_0 Av_5 Af_3 Af_6 Af_8 Af_7).2.2.2.1, (dX9_changeTempers ((dX9_goThroughDay_n_l44 Af_4 Af_5 Av_3 Av_4 (dX9_stillOn Af_1 Av_2 Av_4) (Af_2 ((dX9_clockOn Av_2 Av_4)).toNatClampNeg) ((6 - (0 : Int32).toInt).toNat + 1) (0 : Int32) (0 : Int32) Av_0 Av_5 Af_3 Af_6 Af_8 Af_7).2.2.2.2.1) Av_3 (dX9_stillOn Af_1 Av_2 Av_4)), ((dX9_goThroughDay_n_l44 Af_4 Af_5 Av_3 Av_4 (dX9_stillOn Af_1 Av_2 Av_4) (Af_2 ((dX9_clockOn Av_2 Av_4)).toNatClampNeg) ((6 - (0 : Int32).toInt).toNat + 1) (0 : Int32) (0 : Int32) Av_0 Av_5 Af_3 Af_6 Af_8 Af_7).2.2.2.2.2.1), ((dX9_goThroughDay_n_l44 Af_4 Af_5 Av_3 Av_4 (dX9_stillOn Af_1 Av_2 Av_4) (Af_2 ((dX9_clockOn Av_2 Av_4)).toNatClampNeg) ((6 - (0 : Int32).toInt).toNat + 1) (0 : Int32) (0 : Int32) Av_0 Av_5 Af_3 Af_6 Af_8 Af_7).2.2.2.2.2.2.2), ((dX9_goThroughDay_n_l44 Af_4 Af_5 Av_3 Av_4 (dX9_stillOn Af_1 Av_2 Av_4) (Af_2 ((dX9_clockOn Av_2 Av_4)).toNatClampNeg) ((6 - (0 : Int32).toInt).toNat + 1) (0 : Int32) (0 : Int32) Av_0 Av_5 Af_3 Af_6 Af_8 Af_7).2.2.2.2.2.2.1)) else ((dX9_goThroughDay_n_l44 Af_4 Af_5 Av_3 Av_4 (dX9_stillOn Af_1 Av_2 Av_4) (Af_2 ((dX9_clockOn Av_2 Av_4)).toNatClampNeg) ((6 - (0 : Int32).toInt).toNat + 1) (0 : Int32) (0 : Int32) Av_0 Av_5 Af_3 Af_6 Af_8 Af_7).2.1, (dX9_goThroughDay_n_l44 Af_4 Af_5 Av_3 Av_4 (dX9_stillOn Af_1 Av_2 Av_4) (Af_2 ((dX9_clockOn Av_2 Av_4)).toNatClampNeg) ((6 - (0 : Int32).toInt).toNat + 1) (0 : Int32) (0 : Int32) Av_0 Av_5 Af_3 Af_6 Af_8 Af_7).2.2.1, (Av_4 + (1 : Int32)), (dX9_goThroughDay_n_l44 Af_4 Af_5 Av_3 Av_4 (dX9_stillOn Af_1 Av_2 Av_4) (Af_2 ((dX9_clockOn Av_2 Av_4)).toNatClampNeg) ((6 - (0 : Int32).toInt).toNat + 1) (0 : Int32) (0 : Int32) Av_0 Av_5 Af_3 Af_6 Af_8 Af_7).2.2.2.1, (dX9_changeTempers ((dX9_goThroughDay_n_l44 Af_4 Af_5 Av_3 Av_4 (dX9_stillOn Af_1 Av_2 Av_4) (Af_2 ((dX9_clockOn Av_2 Av_4)).toNatClampNeg) ((6 - (0 : Int32).toInt).toNat + 1) (0 : Int32) (0 : Int32) Av_0 Av_5 Af_3 Af_6 Af_8 Af_7).2.2.2.2.1) Av_3 (dX9_stillOn Af_1 Av_2 Av_4)), ((dX9_goThroughDay_n_l44 Af_4 Af_5 Av_3 Av_4 (dX9_stillOn Af_1 Av_2 Av_4) (Af_2 ((dX9_clockOn Av_2 Av_4)).toNatClampNeg) ((6 - (0 : Int32).toInt).toNat + 1) (0 : Int32) (0 : Int32) Av_0 Av_5 Af_3 Af_6 Af_8 Af_7).2.2.2.2.2.1), ((dX9_goThroughDay_n_l44 Af_4 Af_5 Av_3 Av_4 (dX9_stillOn Af_1 Av_2 Av_4) (Af_2 ((dX9_clockOn Av_2 Av_4)).toNatClampNeg) ((6 - (0 : Int32).toInt).toNat + 1) (0 : Int32) (0 : Int32) Av_0 Av_5 Af_3 Af_6 Af_8 Af_7).2.2.2.2.2.2.2), ((dX9_goThroughDay_n_l44 Af_4 Af_5 Av_3 Av_4 (dX9_stillOn Af_1 Av_2 Av_4) (Af_2 ((dX9_clockOn Av_2 Av_4)).toNatClampNeg) ((6 - (0 : Int32).toInt).toNat + 1) (0 : Int32) (0 : Int32) Av_0 Av_5 Af_3 Af_6 Af_8 Af_7).2.2.2.2.2.2.1))))
def dX9_goThroughDay_r_l44 (Af_1 : Nat → Int32) (Af_4 : Nat → Int32) (Af_5 : Nat → Int32) (Av_2 : Int32) (Av_3 : Int32) (Av_4 : Int32) (Rf_1 : Nat → Int32) (Rn : Nat) (zz_4504 : Int32) : Nat → Int32 → (Nat → Int64) → Int32 → Int32 → Int32 → (Nat → Int32) → (Nat → Int32) → (Nat → Int32) → (Nat → Int32) → Int32 × (Nat → Int64) × Int32 × Int32 × Int32 × (Nat → Int32) × (Nat → Int32) × (Nat → Int32) × (Nat → Int32)
  | 0, _, _, _, _, _, _, _, _, _ => (0, (fun _ => 0), 0, 0, 0, (fun _ => 0), (fun _ => 0), (fun _ => 0), (fun _ => 0))
  | n + 1, yy_4500, yy_4501, yy_4502, yy_4503, yy_4504, yy_4505, yy_4506, yy_4507, yy_4508 => (if Av_3 ≤ yy_4500 then (yy_4500, yy_4501, yy_4502, yy_4503, yy_4504, yy_4505, yy_4506, yy_4507, yy_4508) else (if (6 : Int32) ≤ yy_4500 then (yy_4500, yy_4501, yy_4502, yy_4503, yy_4504, yy_4505, yy_4506, yy_4507, yy_4508) else (if (dX9_canBuy Af_4 Af_5 yy_4507 yy_4503 Av_3 Av_4 yy_4500) = (0 : Int32) then dX9_goThroughDay_r_l44 Af_1 Af_4 Af_5 Av_2 Av_3 Av_4 Rf_1 Rn zz_4504 n (yy_4500 + 1) yy_4501 yy_4502 yy_4503 yy_4504 yy_4505 yy_4506 yy_4507 yy_4508 else (if (lg_cmp (dX6_sumFor Af_1 yy_4505 Af_4 Af_5 yy_4506 yy_4508 yy_4507 yy_4503 Av_2 Av_3 Av_4 yy_4504 Rf_1 yy_4501 yy_4500 Rn).1 (0 : Int64)) ≤ (0 : Int32) then dX9_goThroughDay_r_l44 Af_1 Af_4 Af_5 Av_2 Av_3 Av_4 Rf_1 Rn zz_4504 n (yy_4500 + 1) ((dX6_sumFor Af_1 yy_4505 Af_4 Af_5 yy_4506 yy_4508 yy_4507 yy_4503 Av_2 Av_3 Av_4 yy_4504 Rf_1 yy_4501 yy_4500 Rn).2) yy_4502 yy_4503 yy_4504 yy_4505 yy_4506 yy_4507 yy_4508 else (if ((zz_4504 >>> (yy_4500 &&& 31)) &&& (1 : Int32)) = (0 : Int32) then dX9_goThroughDay_r_l44 Af_1 Af_4 Af_5 Av_2 Av_3 Av_4 Rf_1 Rn zz_4504 n (yy_4500 + 1) ((dX6_sumFor Af_1 yy_4505 Af_4 Af_5 yy_4506 yy_4508 yy_4507 yy_4503 Av_2 Av_3 Av_4 yy_4504 Rf_1 yy_4501 yy_4500 Rn).2) (yy_4502 ||| ((1 : Int32) <<< (yy_4500 &&& 31))) ((dX9_handOver yy_4505 Af_4 yy_4506 yy_4507 yy_4503 Av_3 Av_4 yy_4504 yy_4500).1) ((dX9_handOver yy_4505 Af_4 yy_4506 yy_4507 yy_4503 Av_3 Av_4 yy_4504 yy_4500).2.1) ((dX9_handOver yy_4505 Af_4 yy_4506 yy_4507 yy_4503 Av_3 Av_4 yy_4504 yy_4500).2.2.1) ((dX9_handOver yy_4505 Af_4 yy_4506 yy_4507 yy_4503 Av_3 Av_4 yy_4504 yy_4500).2.2.2.1) ((dX9_handOver yy_4505 Af_4 yy_4506 yy_4507 yy_4503 Av_3 Av_4 yy_4504 yy_4500).2.2.2.2) yy_4508 else dX9_goThroughDay_r_l44 Af_1 Af_4 Af_5 Av_2 Av_3 Av_4 Rf_1 Rn zz_4504 n (yy_4500 + 1) ((dX6_sumFor Af_1 yy_4505 Af_4 Af_5 yy_4506 yy_4508 yy_4507 yy_4503 Av_2 Av_3 Av_4 yy_4504 Rf_1 yy_4501 yy_4500 Rn).2) yy_4502 yy_4503 yy_4504 yy_4505 yy_4506 (upd yy_4507 (yy_4500).toNatClampNeg Av_4) (upd yy_4508 (yy_4500).toNatClampNeg ((yy_4508 (yy_4500).toNatClampNeg) + (1 : Int32))))))))
theorem dX9_goThroughDay_r_l44_s {Af_1 : Nat → Int32} {Af_4 : Nat → Int32} {Af_5 : Nat → Int32} {Av_2 : Int32} {Av_3 : Int32} {Av_4 : Int32} {Rf_1 : Nat → Int32} {Rn : Nat} {zz_4504 : Int32} {n : Nat} {yy_4500 : Int32} {yy_4501 : Nat → Int64} {yy_4502 : Int32} {yy_4503 : Int32} {yy_4504 : Int32} {yy_4505 : Nat → Int32} {yy_4506 : Nat → Int32} {yy_4507 : Nat → Int32} {yy_4508 : Nat → Int32} : dX9_goThroughDay_r_l44 Af_1 Af_4 Af_5 Av_2 Av_3 Av_4 Rf_1 Rn zz_4504 (n + 1) yy_4500 yy_4501 yy_4502 yy_4503 yy_4504 yy_4505 yy_4506 yy_4507 yy_4508 = (if Av_3 ≤ yy_4500 then (yy_4500, yy_4501, yy_4502, yy_4503, yy_4504, yy_4505, yy_4506, yy_4507, yy_4508) else (if (6 : Int32) ≤ yy_4500 then (yy_4500, yy_4501, yy_4502, yy_4503, yy_4504, yy_4505, yy_4506, yy_4507, yy_4508) else (if (dX9_canBuy Af_4 Af_5 yy_4507 yy_4503 Av_3 Av_4 yy_4500) = (0 : Int32) then dX9_goThroughDay_r_l44 Af_1 Af_4 Af_5 Av_2 Av_3 Av_4 Rf_1 Rn zz_4504 n (yy_4500 + 1) yy_4501 yy_4502 yy_4503 yy_4504 yy_4505 yy_4506 yy_4507 yy_4508 else (if (lg_cmp (dX6_sumFor Af_1 yy_4505 Af_4 Af_5 yy_4506 yy_4508 yy_4507 yy_4503 Av_2 Av_3 Av_4 yy_4504 Rf_1 yy_4501 yy_4500 Rn).1 (0 : Int64)) ≤ (0 : Int32) then dX9_goThroughDay_r_l44 Af_1 Af_4 Af_5 Av_2 Av_3 Av_4 Rf_1 Rn zz_4504 n (yy_4500 + 1) ((dX6_sumFor Af_1 yy_4505 Af_4 Af_5 yy_4506 yy_4508 yy_4507 yy_4503 Av_2 Av_3 Av_4 yy_4504 Rf_1 yy_4501 yy_4500 Rn).2) yy_4502 yy_4503 yy_4504 yy_4505 yy_4506 yy_4507 yy_4508 else (if ((zz_4504 >>> (yy_4500 &&& 31)) &&& (1 : Int32)) = (0 : Int32) then dX9_goThroughDay_r_l44 Af_1 Af_4 Af_5 Av_2 Av_3 Av_4 Rf_1 Rn zz_4504 n (yy_4500 + 1) ((dX6_sumFor Af_1 yy_4505 Af_4 Af_5 yy_4506 yy_4508 yy_4507 yy_4503 Av_2 Av_3 Av_4 yy_4504 Rf_1 yy_4501 yy_4500 Rn).2) (yy_4502 ||| ((1 : Int32) <<< (yy_4500 &&& 31))) ((dX9_handOver yy_4505 Af_4 yy_4506 yy_4507 yy_4503 Av_3 Av_4 yy_4504 yy_4500).1) ((dX9_handOver yy_4505 Af_4 yy_4506 yy_4507 yy_4503 Av_3 Av_4 yy_4504 yy_4500).2.1) ((dX9_handOver yy_4505 Af_4 yy_4506 yy_4507 yy_4503 Av_3 Av_4 yy_4504 yy_4500).2.2.1) ((dX9_handOver yy_4505 Af_4 yy_4506 yy_4507 yy_4503 Av_3 Av_4 yy_4504 yy_4500).2.2.2.1) ((dX9_handOver yy_4505 Af_4 yy_4506 yy_4507 yy_4503 Av_3 Av_4 yy_4504 yy_4500).2.2.2.2) yy_4508 else dX9_goThroughDay_r_l44 Af_1 Af_4 Af_5 Av_2 Av_3 Av_4 Rf_1 Rn zz_4504 n (yy_4500 + 1) ((dX6_sumFor Af_1 yy_4505 Af_4 Af_5 yy_4506 yy_4508 yy_4507 yy_4503 Av_2 Av_3 Av_4 yy_4504 Rf_1 yy_4501 yy_4500 Rn).2) yy_4502 yy_4503 yy_4504 yy_4505 yy_4506 (upd yy_4507 (yy_4500).toNatClampNeg Av_4) (upd yy_4508 (yy_4500).toNatClampNeg ((yy_4508 (yy_4500).toNatClampNeg) + (1 : Int32)))))))) := rfl
def dX12_push (Mg_8 : Nat → Int64) (Mv_10 : Int32) (w1 : Int64) : Int32 × (Nat → Int64) := ((Mv_10 + (1 : Int32)), (vp_updL Mg_8 (Mv_10).toNatClampNeg w1))
def dX12_pop (Mg_8 : Nat → Int64) (Mv_10 : Int32) : Int64 × Int32 := ((Mg_8 ((Mv_10 - (1 : Int32))).toNatClampNeg), (Mv_10 - (1 : Int32)))
def dX12_one (x1 : Int32) (w1 : Int64) (w2 : Int64) : Int64 := (if x1 = (2 : Int32) then (w1 + w2) else (if x1 = (3 : Int32) then (w1 - w2) else (if x1 = (4 : Int32) then (w1 * w2) else (if x1 = (5 : Int32) then (if (lg_cmp w2 (0 : Int64)) = (0 : Int32) then (0 : Int64) else (w1 / w2)) else (if x1 = (6 : Int32) then (if (0 : Int32) ≤ (lg_cmp w1 w2) then (0 : Int64) else (1 : Int64)) else (if x1 = (7 : Int32) then (if (0 : Int32) < (lg_cmp w1 w2) then (0 : Int64) else (1 : Int64)) else (if x1 = (8 : Int32) then (if (lg_cmp w1 w2) = (0 : Int32) then (1 : Int64) else (0 : Int64)) else (if x1 = (9 : Int32) then (if (lg_cmp w1 w2) < (0 : Int32) then (0 : Int64) else (1 : Int64)) else (if x1 = (10 : Int32) then (if (lg_cmp w1 w2) ≤ (0 : Int32) then (0 : Int64) else (1 : Int64)) else (if x1 = (11 : Int32) then (w1 ||| w2) else (if x1 = (12 : Int32) then (w1 &&& w2) else (if x1 = (13 : Int32) then (w1 ||| w2) else (if x1 = (14 : Int32) then (if (lg_cmp w2 (0 : Int64)) = (0 : Int32) then (0 : Int64) else (w1 - w1 / w2 * w2)) else (w1 ||| w2))))))))))))))
def dX12_reckons_l8 (Mf_2 : Nat → Int32) (Mg_9 : Nat → Int64) (zz_903 : Int32) (zz_901 : Int32) : Nat → Int32 → Int32 → (Nat → Int64) → Int32 × Int32 × (Nat → Int64)
  | 0, _, _, _ => (0, 0, (fun _ => 0))
  | n + 1, yy_900, yy_901, yy_902 => (if zz_903 ≤ yy_900 then (yy_900, yy_901, yy_902) else (if ((Mf_2 ((((400 : Int32) * zz_901) + yy_900)).toNatClampNeg) &&& (15 : Int32)) = (0 : Int32) then dX12_reckons_l8 Mf_2 Mg_9 zz_903 zz_901 n (yy_900 + 1) ((dX12_push yy_902 yy_901 (((Mf_2 ((((400 : Int32) * zz_901) + yy_900)).toNatClampNeg) >>> ((4 : Int32) &&& 31))).toInt64).1) ((dX12_push yy_902 yy_901 (((Mf_2 ((((400 : Int32) * zz_901) + yy_900)).toNatClampNeg) >>> ((4 : Int32) &&& 31))).toInt64).2) else (if ((Mf_2 ((((400 : Int32) * zz_901) + yy_900)).toNatClampNeg) &&& (15 : Int32)) = (1 : Int32) then dX12_reckons_l8 Mf_2 Mg_9 zz_903 zz_901 n (yy_900 + 1) ((dX12_push yy_902 yy_901 (Mg_9 (((Mf_2 ((((400 : Int32) * zz_901) + yy_900)).toNatClampNeg) >>> ((4 : Int32) &&& 31))).toNatClampNeg)).1) ((dX12_push yy_902 yy_901 (Mg_9 (((Mf_2 ((((400 : Int32) * zz_901) + yy_900)).toNatClampNeg) >>> ((4 : Int32) &&& 31))).toNatClampNeg)).2) else (if ((Mf_2 ((((400 : Int32) * zz_901) + yy_900)).toNatClampNeg) &&& (15 : Int32)) = (11 : Int32) then dX12_reckons_l8 Mf_2 Mg_9 zz_903 zz_901 n (yy_900 + 1) ((dX12_push yy_902 (dX12_pop yy_902 yy_901).2 ((1 : Int64) - (dX12_pop yy_902 yy_901).1)).1) ((dX12_push yy_902 (dX12_pop yy_902 yy_901).2 ((1 : Int64) - (dX12_pop yy_902 yy_901).1)).2) else dX12_reckons_l8 Mf_2 Mg_9 zz_903 zz_901 n (yy_900 + 1) ((dX12_push yy_902 (dX12_pop yy_902 (dX12_pop yy_902 yy_901).2).2 (dX12_one ((Mf_2 ((((400 : Int32) * zz_901) + yy_900)).toNatClampNeg) &&& (15 : Int32)) (dX12_pop yy_902 (dX12_pop yy_902 yy_901).2).1 (dX12_pop yy_902 yy_901).1)).1) ((dX12_push yy_902 (dX12_pop yy_902 (dX12_pop yy_902 yy_901).2).2 (dX12_one ((Mf_2 ((((400 : Int32) * zz_901) + yy_900)).toNatClampNeg) &&& (15 : Int32)) (dX12_pop yy_902 (dX12_pop yy_902 yy_901).2).1 (dX12_pop yy_902 yy_901).1)).2)))))
theorem dX12_reckons_l8_s {Mf_2 : Nat → Int32} {Mg_9 : Nat → Int64} {zz_903 : Int32} {zz_901 : Int32} {n : Nat} {yy_900 : Int32} {yy_901 : Int32} {yy_902 : Nat → Int64} : dX12_reckons_l8 Mf_2 Mg_9 zz_903 zz_901 (n + 1) yy_900 yy_901 yy_902 = (if zz_903 ≤ yy_900 then (yy_900, yy_901, yy_902) else (if ((Mf_2 ((((400 : Int32) * zz_901) + yy_900)).toNatClampNeg) &&& (15 : Int32)) = (0 : Int32) then dX12_reckons_l8 Mf_2 Mg_9 zz_903 zz_901 n (yy_900 + 1) ((dX12_push yy_902 yy_901 (((Mf_2 ((((400 : Int32) * zz_901) + yy_900)).toNatClampNeg) >>> ((4 : Int32) &&& 31))).toInt64).1) ((dX12_push yy_902 yy_901 (((Mf_2 ((((400 : Int32) * zz_901) + yy_900)).toNatClampNeg) >>> ((4 : Int32) &&& 31))).toInt64).2) else (if ((Mf_2 ((((400 : Int32) * zz_901) + yy_900)).toNatClampNeg) &&& (15 : Int32)) = (1 : Int32) then dX12_reckons_l8 Mf_2 Mg_9 zz_903 zz_901 n (yy_900 + 1) ((dX12_push yy_902 yy_901 (Mg_9 (((Mf_2 ((((400 : Int32) * zz_901) + yy_900)).toNatClampNeg) >>> ((4 : Int32) &&& 31))).toNatClampNeg)).1) ((dX12_push yy_902 yy_901 (Mg_9 (((Mf_2 ((((400 : Int32) * zz_901) + yy_900)).toNatClampNeg) >>> ((4 : Int32) &&& 31))).toNatClampNeg)).2) else (if ((Mf_2 ((((400 : Int32) * zz_901) + yy_900)).toNatClampNeg) &&& (15 : Int32)) = (11 : Int32) then dX12_reckons_l8 Mf_2 Mg_9 zz_903 zz_901 n (yy_900 + 1) ((dX12_push yy_902 (dX12_pop yy_902 yy_901).2 ((1 : Int64) - (dX12_pop yy_902 yy_901).1)).1) ((dX12_push yy_902 (dX12_pop yy_902 yy_901).2 ((1 : Int64) - (dX12_pop yy_902 yy_901).1)).2) else dX12_reckons_l8 Mf_2 Mg_9 zz_903 zz_901 n (yy_900 + 1) ((dX12_push yy_902 (dX12_pop yy_902 (dX12_pop yy_902 yy_901).2).2 (dX12_one ((Mf_2 ((((400 : Int32) * zz_901) + yy_900)).toNatClampNeg) &&& (15 : Int32)) (dX12_pop yy_902 (dX12_pop yy_902 yy_901).2).1 (dX12_pop yy_902 yy_901).1)).1) ((dX12_push yy_902 (dX12_pop yy_902 (dX12_pop yy_902 yy_901).2).2 (dX12_one ((Mf_2 ((((400 : Int32) * zz_901) + yy_900)).toNatClampNeg) &&& (15 : Int32)) (dX12_pop yy_902 (dX12_pop yy_902 yy_901).2).1 (dX12_pop yy_902 yy_901).1)).2))))) := rfl
def dX12_reckons (Mf_2 : Nat → Int32) (Mg_8 : Nat → Int64) (Mg_9 : Nat → Int64) (x1 : Int32) (x2 : Int32) (x3 : Int32) : Int64 × Int32 × (Nat → Int64) := ((dX12_pop ((dX12_reckons_l8 Mf_2 Mg_9 x3 x1 ((x3.toInt - (x2 : Int32).toInt).toNat + 1) x2 (0 : Int32) Mg_8).2.2) (dX12_reckons_l8 Mf_2 Mg_9 x3 x1 ((x3.toInt - (x2 : Int32).toInt).toNat + 1) x2 (0 : Int32) Mg_8).2.1).1, (dX12_pop ((dX12_reckons_l8 Mf_2 Mg_9 x3 x1 ((x3.toInt - (x2 : Int32).toInt).toNat + 1) x2 (0 : Int32) Mg_8).2.2) (dX12_reckons_l8 Mf_2 Mg_9 x3 x1 ((x3.toInt - (x2 : Int32).toInt).toNat + 1) x2 (0 : Int32) Mg_8).2.1).2, ((dX12_reckons_l8 Mf_2 Mg_9 x3 x1 ((x3.toInt - (x2 : Int32).toInt).toNat + 1) x2 (0 : Int32) Mg_8).2.2))
def dX12_summedBy_l2 (Mf_2 : Nat → Int32) (Mf_4 : Nat → Int32) (Mf_5 : Nat → Int32) (Mg_9 : Nat → Int64) (zz_301 : Int32) : Nat → Int32 → Int32 → (Nat → Int64) → Int32 × Int64 × Int32 × Int32 × (Nat → Int64)
  | 0, _, _, _ => (0, 0, 0, 0, (fun _ => 0))
  | n + 1, yy_300, yy_301, yy_302 => (if (Mf_5 (zz_301).toNatClampNeg) ≤ yy_300 then ((0 : Int32), (0 : Int64), yy_300, yy_301, yy_302) else (if (Mf_4 (((((48 : Int32) * zz_301) + ((4 : Int32) * yy_300)) + (2 : Int32))).toNatClampNeg) < (0 : Int32) then ((1 : Int32), (dX12_reckons Mf_2 yy_302 Mg_9 zz_301 (Mf_4 ((((48 : Int32) * zz_301) + ((4 : Int32) * yy_300))).toNatClampNeg) (Mf_4 (((((48 : Int32) * zz_301) + ((4 : Int32) * yy_300)) + (1 : Int32))).toNatClampNeg)).1, yy_300, (dX12_reckons Mf_2 yy_302 Mg_9 zz_301 (Mf_4 ((((48 : Int32) * zz_301) + ((4 : Int32) * yy_300))).toNatClampNeg) (Mf_4 (((((48 : Int32) * zz_301) + ((4 : Int32) * yy_300)) + (1 : Int32))).toNatClampNeg)).2.1, ((dX12_reckons Mf_2 yy_302 Mg_9 zz_301 (Mf_4 ((((48 : Int32) * zz_301) + ((4 : Int32) * yy_300))).toNatClampNeg) (Mf_4 (((((48 : Int32) * zz_301) + ((4 : Int32) * yy_300)) + (1 : Int32))).toNatClampNeg)).2.2)) else (if (lg_cmp (dX12_reckons Mf_2 yy_302 Mg_9 zz_301 (Mf_4 (((((48 : Int32) * zz_301) + ((4 : Int32) * yy_300)) + (2 : Int32))).toNatClampNeg) (Mf_4 (((((48 : Int32) * zz_301) + ((4 : Int32) * yy_300)) + (3 : Int32))).toNatClampNeg)).1 (1 : Int64)) = (0 : Int32) then ((1 : Int32), (dX12_reckons Mf_2 ((dX12_reckons Mf_2 yy_302 Mg_9 zz_301 (Mf_4 (((((48 : Int32) * zz_301) + ((4 : Int32) * yy_300)) + (2 : Int32))).toNatClampNeg) (Mf_4 (((((48 : Int32) * zz_301) + ((4 : Int32) * yy_300)) + (3 : Int32))).toNatClampNeg)).2.2) Mg_9 zz_301 (Mf_4 ((((48 : Int32) * zz_301) + ((4 : Int32) * yy_300))).toNatClampNeg) (Mf_4 (((((48 : Int32) * zz_301) + ((4 : Int32) * yy_300)) + (1 : Int32))).toNatClampNeg)).1, yy_300, (dX12_reckons Mf_2 ((dX12_reckons Mf_2 yy_302 Mg_9 zz_301 (Mf_4 (((((48 : Int32) * zz_301) + ((4 : Int32) * yy_300)) + (2 : Int32))).toNatClampNeg) (Mf_4 (((((48 : Int32) * zz_301) + ((4 : Int32) * yy_300)) + (3 : Int32))).toNatClampNeg)).2.2) Mg_9 zz_301 (Mf_4 ((((48 : Int32) * zz_301) + ((4 : Int32) * yy_300))).toNatClampNeg) (Mf_4 (((((48 : Int32) * zz_301) + ((4 : Int32) * yy_300)) + (1 : Int32))).toNatClampNeg)).2.1, ((dX12_reckons Mf_2 ((dX12_reckons Mf_2 yy_302 Mg_9 zz_301 (Mf_4 (((((48 : Int32) * zz_301) + ((4 : Int32) * yy_300)) + (2 : Int32))).toNatClampNeg) (Mf_4 (((((48 : Int32) * zz_301) + ((4 : Int32) * yy_300)) + (3 : Int32))).toNatClampNeg)).2.2) Mg_9 zz_301 (Mf_4 ((((48 : Int32) * zz_301) + ((4 : Int32) * yy_300))).toNatClampNeg) (Mf_4 (((((48 : Int32) * zz_301) + ((4 : Int32) * yy_300)) + (1 : Int32))).toNatClampNeg)).2.2)) else dX12_summedBy_l2 Mf_2 Mf_4 Mf_5 Mg_9 zz_301 n (yy_300 + 1) ((dX12_reckons Mf_2 yy_302 Mg_9 zz_301 (Mf_4 (((((48 : Int32) * zz_301) + ((4 : Int32) * yy_300)) + (2 : Int32))).toNatClampNeg) (Mf_4 (((((48 : Int32) * zz_301) + ((4 : Int32) * yy_300)) + (3 : Int32))).toNatClampNeg)).2.1) ((dX12_reckons Mf_2 yy_302 Mg_9 zz_301 (Mf_4 (((((48 : Int32) * zz_301) + ((4 : Int32) * yy_300)) + (2 : Int32))).toNatClampNeg) (Mf_4 (((((48 : Int32) * zz_301) + ((4 : Int32) * yy_300)) + (3 : Int32))).toNatClampNeg)).2.2))))
theorem dX12_summedBy_l2_s {Mf_2 : Nat → Int32} {Mf_4 : Nat → Int32} {Mf_5 : Nat → Int32} {Mg_9 : Nat → Int64} {zz_301 : Int32} {n : Nat} {yy_300 : Int32} {yy_301 : Int32} {yy_302 : Nat → Int64} : dX12_summedBy_l2 Mf_2 Mf_4 Mf_5 Mg_9 zz_301 (n + 1) yy_300 yy_301 yy_302 = (if (Mf_5 (zz_301).toNatClampNeg) ≤ yy_300 then ((0 : Int32), (0 : Int64), yy_300, yy_301, yy_302) else (if (Mf_4 (((((48 : Int32) * zz_301) + ((4 : Int32) * yy_300)) + (2 : Int32))).toNatClampNeg) < (0 : Int32) then ((1 : Int32), (dX12_reckons Mf_2 yy_302 Mg_9 zz_301 (Mf_4 ((((48 : Int32) * zz_301) + ((4 : Int32) * yy_300))).toNatClampNeg) (Mf_4 (((((48 : Int32) * zz_301) + ((4 : Int32) * yy_300)) + (1 : Int32))).toNatClampNeg)).1, yy_300, (dX12_reckons Mf_2 yy_302 Mg_9 zz_301 (Mf_4 ((((48 : Int32) * zz_301) + ((4 : Int32) * yy_300))).toNatClampNeg) (Mf_4 (((((48 : Int32) * zz_301) + ((4 : Int32) * yy_300)) + (1 : Int32))).toNatClampNeg)).2.1, ((dX12_reckons Mf_2 yy_302 Mg_9 zz_301 (Mf_4 ((((48 : Int32) * zz_301) + ((4 : Int32) * yy_300))).toNatClampNeg) (Mf_4 (((((48 : Int32) * zz_301) + ((4 : Int32) * yy_300)) + (1 : Int32))).toNatClampNeg)).2.2)) else (if (lg_cmp (dX12_reckons Mf_2 yy_302 Mg_9 zz_301 (Mf_4 (((((48 : Int32) * zz_301) + ((4 : Int32) * yy_300)) + (2 : Int32))).toNatClampNeg) (Mf_4 (((((48 : Int32) * zz_301) + ((4 : Int32) * yy_300)) + (3 : Int32))).toNatClampNeg)).1 (1 : Int64)) = (0 : Int32) then ((1 : Int32), (dX12_reckons Mf_2 ((dX12_reckons Mf_2 yy_302 Mg_9 zz_301 (Mf_4 (((((48 : Int32) * zz_301) + ((4 : Int32) * yy_300)) + (2 : Int32))).toNatClampNeg) (Mf_4 (((((48 : Int32) * zz_301) + ((4 : Int32) * yy_300)) + (3 : Int32))).toNatClampNeg)).2.2) Mg_9 zz_301 (Mf_4 ((((48 : Int32) * zz_301) + ((4 : Int32) * yy_300))).toNatClampNeg) (Mf_4 (((((48 : Int32) * zz_301) + ((4 : Int32) * yy_300)) + (1 : Int32))).toNatClampNeg)).1, yy_300, (dX12_reckons Mf_2 ((dX12_reckons Mf_2 yy_302 Mg_9 zz_301 (Mf_4 (((((48 : Int32) * zz_301) + ((4 : Int32) * yy_300)) + (2 : Int32))).toNatClampNeg) (Mf_4 (((((48 : Int32) * zz_301) + ((4 : Int32) * yy_300)) + (3 : Int32))).toNatClampNeg)).2.2) Mg_9 zz_301 (Mf_4 ((((48 : Int32) * zz_301) + ((4 : Int32) * yy_300))).toNatClampNeg) (Mf_4 (((((48 : Int32) * zz_301) + ((4 : Int32) * yy_300)) + (1 : Int32))).toNatClampNeg)).2.1, ((dX12_reckons Mf_2 ((dX12_reckons Mf_2 yy_302 Mg_9 zz_301 (Mf_4 (((((48 : Int32) * zz_301) + ((4 : Int32) * yy_300)) + (2 : Int32))).toNatClampNeg) (Mf_4 (((((48 : Int32) * zz_301) + ((4 : Int32) * yy_300)) + (3 : Int32))).toNatClampNeg)).2.2) Mg_9 zz_301 (Mf_4 ((((48 : Int32) * zz_301) + ((4 : Int32) * yy_300))).toNatClampNeg) (Mf_4 (((((48 : Int32) * zz_301) + ((4 : Int32) * yy_300)) + (1 : Int32))).toNatClampNeg)).2.2)) else dX12_summedBy_l2 Mf_2 Mf_4 Mf_5 Mg_9 zz_301 n (yy_300 + 1) ((dX12_reckons Mf_2 yy_302 Mg_9 zz_301 (Mf_4 (((((48 : Int32) * zz_301) + ((4 : Int32) * yy_300)) + (2 : Int32))).toNatClampNeg) (Mf_4 (((((48 : Int32) * zz_301) + ((4 : Int32) * yy_300)) + (3 : Int32))).toNatClampNeg)).2.1) ((dX12_reckons Mf_2 yy_302 Mg_9 zz_301 (Mf_4 (((((48 : Int32) * zz_301) + ((4 : Int32) * yy_300)) + (2 : Int32))).toNatClampNeg) (Mf_4 (((((48 : Int32) * zz_301) + ((4 : Int32) * yy_300)) + (3 : Int32))).toNatClampNeg)).2.2)))) := rfl
def dX12_summedBy (Mf_2 : Nat → Int32) (Mf_4 : Nat → Int32) (Mf_5 : Nat → Int32) (Mg_8 : Nat → Int64) (Mg_9 : Nat → Int64) (Mv_10 : Int32) (x1 : Int32) : Int64 × Int32 × (Nat → Int64) := (if (dX12_summedBy_l2 Mf_2 Mf_4 Mf_5 Mg_9 x1 ((12 - (0 : Int32).toInt).toNat + 1) (0 : Int32) Mv_10 Mg_8).1 = (1 : Int32) then ((dX12_summedBy_l2 Mf_2 Mf_4 Mf_5 Mg_9 x1 ((12 - (0 : Int32).toInt).toNat + 1) (0 : Int32) Mv_10 Mg_8).2.1, (dX12_summedBy_l2 Mf_2 Mf_4 Mf_5 Mg_9 x1 ((12 - (0 : Int32).toInt).toNat + 1) (0 : Int32) Mv_10 Mg_8).2.2.2.1, ((dX12_summedBy_l2 Mf_2 Mf_4 Mf_5 Mg_9 x1 ((12 - (0 : Int32).toInt).toNat + 1) (0 : Int32) Mv_10 Mg_8).2.2.2.2)) else ((0 : Int64), (dX12_summedBy_l2 Mf_2 Mf_4 Mf_5 Mg_9 x1 ((12 - (0 : Int32).toInt).toNat + 1) (0 : Int32) Mv_10 Mg_8).2.2.2.1, ((dX12_summedBy_l2 Mf_2 Mf_4 Mf_5 Mg_9 x1 ((12 - (0 : Int32).toInt).toNat + 1) (0 : Int32) Mv_10 Mg_8).2.2.2.2)))
def dX12_isWilling (Mf_2 : Nat → Int32) (Mf_4 : Nat → Int32) (Mf_5 : Nat → Int32) (Mf_10 : Nat → Int32) (Mg_8 : Nat → Int64) (Mg_9 : Nat → Int64) (Mv_10 : Int32) (Mv_11 : Int32) (x1 : Int32) : Int32 × Int32 × (Nat → Int64) × (Nat → Int64) := (if (0 : Int32) ≤ Mv_11 then (if (lg_cmp (dX12_summedBy Mf_2 Mf_4 Mf_5 Mg_8 (vp_updL (vp_updL (vp_updL (vp_updL (vp_updL (vp_updL (vp_updL (vp_updL (vp_updL (vp_updL (vp_updL (vp_updL (vp_updL Mg_9 ((0 : Int32)).toNatClampNeg (x1).toInt64) ((1 : Int32)).toNatClampNeg ((dX12_temperOf Mf_10 x1)).toInt64) ((2 : Int32)).toNatClampNeg ((Mf_10 (((56 : Int32) + x1)).toNatClampNeg)).toInt64) ((3 : Int32)).toNatClampNeg ((Mf_10 (((62 : Int32) + x1)).toNatClampNeg)).toInt64) ((4 : Int32)).toNatClampNeg ((Mf_10 (((36 : Int32) + (dX12_clock Mf_10))).toNatClampNeg)).toInt64) ((5 : Int32)).toNatClampNeg ((Mf_10 (((36 : Int32) + (((Mf_10 ((10 : Int32)).toNatClampNeg) + (1 : Int32)) - ((Mf_10 ((10 : Int32)).toNatClampNeg) + (1 : Int32)) / (Mf_10 ((2 : Int32)).toNatClampNeg) * (Mf_10 ((2 : Int32)).toNatClampNeg)))).toNatClampNeg)).toInt64) ((6 : Int32)).toNatClampNeg ((Mf_10 ((11 : Int32)).toNatClampNeg)).toInt64) ((7 : Int32)).toNatClampNeg ((dX12_boughtBy Mf_10 x1)).toInt64) ((8 : Int32)).toNatClampNeg ((dX12_metOf Mf_10 x1)).toInt64) ((9 : Int32)).toNatClampNeg ((dX12_sinceOf Mf_10 x1)).toInt64) ((10 : Int32)).toNatClampNeg ((dX12_soldAll Mf_10)).toInt64) ((11 : Int32)).toNatClampNeg ((dX12_clock Mf_10)).toInt64) ((12 : Int32)).toNatClampNeg ((Mf_10 ((10 : Int32)).toNatClampNeg)).toInt64) Mv_10 Mv_11).1 (0 : Int64)) ≤ (0 : Int32) then ((0 : Int32), (dX12_summedBy Mf_2 Mf_4 Mf_5 Mg_8 (vp_updL (vp_updL (vp_updL (vp_updL (vp_updL (vp_updL (vp_updL (vp_updL (vp_updL (vp_updL (vp_updL (vp_updL (vp_updL Mg_9 ((0 : Int32)).toNatClampNeg (x1).toInt64) ((1 : Int32)).toNatClampNeg ((dX12_temperOf Mf_10 x1)).toInt64) ((2 : Int32)).toNatClampNeg ((Mf_10 (((56 : Int32) + x1)).toNatClampNeg)).toInt64) ((3 : Int32)).toNatClampNeg ((Mf_10 (((62 : Int32) + x1)).toNatClampNeg)).toInt64) ((4 : Int32)).toNatClampNeg ((Mf_10 (((36 : Int32) + (dX12_clock Mf_10))).toNatClampNeg)).toInt64) ((5 : Int32)).toNatClampNeg ((Mf_10 (((36 : Int32) + (((Mf_10 ((10 : Int32)).toNatClampNeg) + (1 : Int32)) - ((Mf_10 ((10 : Int32)).toNatClampNeg) + (1 : Int32)) / (Mf_10 ((2 : Int32)).toNatClampNeg) * (Mf_10 ((2 : Int32)).toNatClampNeg)))).toNatClampNeg)).toInt64) ((6 : Int32)).toNatClampNeg ((Mf_10 ((11 : Int32)).toNatClampNeg)).toInt64) ((7 : Int32)).toNatClampNeg ((dX12_boughtBy Mf_10 x1)).toInt64) ((8 : Int32)).toNatClampNeg ((dX12_metOf Mf_10 x1)).toInt64) ((9 : Int32)).toNatClampNeg ((dX12_sinceOf Mf_10 x1)).toInt64) ((10 : Int32)).toNatClampNeg ((dX12_soldAll Mf_10)).toInt64) ((11 : Int32)).toNatClampNeg ((dX12_clock Mf_10)).toInt64) ((12 : Int32)).toNatClampNeg ((Mf_10 ((10 : Int32)).toNatClampNeg)).toInt64) Mv_10 Mv_11).2.1, ((dX12_summedBy Mf_2 Mf_4 Mf_5 Mg_8 (vp_updL (vp_updL (vp_updL (vp_updL (vp_updL (vp_updL (vp_updL (vp_updL (vp_updL (vp_updL (vp_updL (vp_updL (vp_updL Mg_9 ((0 : Int32)).toNatClampNeg (x1).toInt64) ((1 : Int32)).toNatClampNeg ((dX12_temperOf Mf_10 x1)).toInt64) ((2 : Int32)).toNatClampNeg ((Mf_10 (((56 : Int32) + x1)).toNatClampNeg)).toInt64) ((3 : Int32)).toNatClampNeg ((Mf_10 (((62 : Int32) + x1)).toNatClampNeg)).toInt64) ((4 : Int32)).toNatClampNeg ((Mf_10 (((36 : Int32) + (dX12_clock Mf_10))).toNatClampNeg)).toInt64) ((5 : Int32)).toNatClampNeg ((Mf_10 (((36 : Int32) + (((Mf_10 ((10 : Int32)).toNatClampNeg) + (1 : Int32)) - ((Mf_10 ((10 : Int32)).toNatClampNeg) + (1 : Int32)) / (Mf_10 ((2 : Int32)).toNatClampNeg) * (Mf_10 ((2 : Int32)).toNatClampNeg)))).toNatClampNeg)).toInt64) ((6 : Int32)).toNatClampNeg ((Mf_10 ((11 : Int32)).toNatClampNeg)).toInt64) ((7 : Int32)).toNatClampNeg ((dX12_boughtBy Mf_10 x1)).toInt64) ((8 : Int32)).toNatClampNeg ((dX12_metOf Mf_10 x1)).toInt64) ((9 : Int32)).toNatClampNeg ((dX12_sinceOf Mf_10 x1)).toInt64) ((10 : Int32)).toNatClampNeg ((dX12_soldAll Mf_10)).toInt64) ((11 : Int32)).toNatClampNeg ((dX12_clock Mf_10)).toInt64) ((12 : Int32)).toNatClampNeg ((Mf_10 ((10 : Int32)).toNatClampNeg)).toInt64) Mv_10 Mv_11).2.2), (vp_updL (vp_updL (vp_updL (vp_updL (vp_updL (vp_updL (vp_updL (vp_updL (vp_updL (vp_updL (vp_updL (vp_updL (vp_updL Mg_9 ((0 : Int32)).toNatClampNeg (x1).toInt64) ((1 : Int32)).toNatClampNeg ((dX12_temperOf Mf_10 x1)).toInt64) ((2 : Int32)).toNatClampNeg ((Mf_10 (((56 : Int32) + x1)).toNatClampNeg)).toInt64) ((3 : Int32)).toNatClampNeg ((Mf_10 (((62 : Int32) + x1)).toNatClampNeg)).toInt64) ((4 : Int32)).toNatClampNeg ((Mf_10 (((36 : Int32) + (dX12_clock Mf_10))).toNatClampNeg)).toInt64) ((5 : Int32)).toNatClampNeg ((Mf_10 (((36 : Int32) + (((Mf_10 ((10 : Int32)).toNatClampNeg) + (1 : Int32)) - ((Mf_10 ((10 : Int32)).toNatClampNeg) + (1 : Int32)) / (Mf_10 ((2 : Int32)).toNatClampNeg) * (Mf_10 ((2 : Int32)).toNatClampNeg)))).toNatClampNeg)).toInt64) ((6 : Int32)).toNatClampNeg ((Mf_10 ((11 : Int32)).toNatClampNeg)).toInt64) ((7 : Int32)).toNatClampNeg ((dX12_boughtBy Mf_10 x1)).toInt64) ((8 : Int32)).toNatClampNeg ((dX12_metOf Mf_10 x1)).toInt64) ((9 : Int32)).toNatClampNeg ((dX12_sinceOf Mf_10 x1)).toInt64) ((10 : Int32)).toNatClampNeg ((dX12_soldAll Mf_10)).toInt64) ((11 : Int32)).toNatClampNeg ((dX12_clock Mf_10)).toInt64) ((12 : Int32)).toNatClampNeg ((Mf_10 ((10 : Int32)).toNatClampNeg)).toInt64)) else ((1 : Int32), (dX12_summedBy Mf_2 Mf_4 Mf_5 Mg_8 (vp_updL (vp_updL (vp_updL (vp_updL (vp_updL (vp_updL (vp_updL (vp_updL (vp_updL (vp_updL (vp_updL (vp_updL (vp_updL Mg_9 ((0 : Int32)).toNatClampNeg (x1).toInt64) ((1 : Int32)).toNatClampNeg ((dX12_temperOf Mf_10 x1)).toInt64) ((2 : Int32)).toNatClampNeg ((Mf_10 (((56 : Int32) + x1)).toNatClampNeg)).toInt64) ((3 : Int32)).toNatClampNeg ((Mf_10 (((62 : Int32) + x1)).toNatClampNeg)).toInt64) ((4 : Int32)).toNatClampNeg ((Mf_10 (((36 : Int32) + (dX12_clock Mf_10))).toNatClampNeg)).toInt64) ((5 : Int32)).toNatClampNeg ((Mf_10 (((36 : Int32) + (((Mf_10 ((10 : Int32)).toNatClampNeg) + (1 : Int32)) - ((Mf_10 ((10 : Int32)).toNatClampNeg) + (1 : Int32)) / (Mf_10 ((2 : Int32)).toNatClampNeg) * (Mf_10 ((2 : Int32)).toNatClampNeg)))).toNatClampNeg)).toInt64) ((6 : Int32)).toNatClampNeg ((Mf_10 ((11 : Int32)).toNatClampNeg)).toInt64) ((7 : Int32)).toNatClampNeg ((dX12_boughtBy Mf_10 x1)).toInt64) ((8 : Int32)).toNatClampNeg ((dX12_metOf Mf_10 x1)).toInt64) ((9 : Int32)).toNatClampNeg ((dX12_sinceOf Mf_10 x1)).toInt64) ((10 : Int32)).toNatClampNeg ((dX12_soldAll Mf_10)).toInt64) ((11 : Int32)).toNatClampNeg ((dX12_clock Mf_10)).toInt64) ((12 : Int32)).toNatClampNeg ((Mf_10 ((10 : Int32)).toNatClampNeg)).toInt64) Mv_10 Mv_11).2.1, ((dX12_summedBy Mf_2 Mf_4 Mf_5 Mg_8 (vp_updL (vp_updL (vp_updL (vp_updL (vp_updL (vp_updL (vp_updL (vp_updL (vp_updL (vp_updL (vp_updL (vp_updL (vp_updL Mg_9 ((0 : Int32)).toNatClampNeg (x1).toInt64) ((1 : Int32)).toNatClampNeg ((dX12_temperOf Mf_10 x1)).toInt64) ((2 : Int32)).toNatClampNeg ((Mf_10 (((56 : Int32) + x1)).toNatClampNeg)).toInt64) ((3 : Int32)).toNatClampNeg ((Mf_10 (((62 : Int32) + x1)).toNatClampNeg)).toInt64) ((4 : Int32)).toNatClampNeg ((Mf_10 (((36 : Int32) + (dX12_clock Mf_10))).toNatClampNeg)).toInt64) ((5 : Int32)).toNatClampNeg ((Mf_10 (((36 : Int32) + (((Mf_10 ((10 : Int32)).toNatClampNeg) + (1 : Int32)) - ((Mf_10 ((10 : Int32)).toNatClampNeg) + (1 : Int32)) / (Mf_10 ((2 : Int32)).toNatClampNeg) * (Mf_10 ((2 : Int32)).toNatClampNeg)))).toNatClampNeg)).toInt64) ((6 : Int32)).toNatClampNeg ((Mf_10 ((11 : Int32)).toNatClampNeg)).toInt64) ((7 : Int32)).toNatClampNeg ((dX12_boughtBy Mf_10 x1)).toInt64) ((8 : Int32)).toNatClampNeg ((dX12_metOf Mf_10 x1)).toInt64) ((9 : Int32)).toNatClampNeg ((dX12_sinceOf Mf_10 x1)).toInt64) ((10 : Int32)).toNatClampNeg ((dX12_soldAll Mf_10)).toInt64) ((11 : Int32)).toNatClampNeg ((dX12_clock Mf_10)).toInt64) ((12 : Int32)).toNatClampNeg ((Mf_10 ((10 : Int32)).toNatClampNeg)).toInt64) Mv_10 Mv_11).2.2), (vp_updL (vp_updL (vp_updL (vp_updL (vp_updL (vp_updL (vp_updL (vp_updL (vp_updL (vp_updL (vp_updL (vp_updL (vp_updL Mg_9 ((0 : Int32)).toNatClampNeg (x1).toInt64) ((1 : Int32)).toNatClampNeg ((dX12_temperOf Mf_10 x1)).toInt64) ((2 : Int32)).toNatClampNeg ((Mf_10 (((56 : Int32) + x1)).toNatClampNeg)).toInt64) ((3 : Int32)).toNatClampNeg ((Mf_10 (((62 : Int32) + x1)).toNatClampNeg)).toInt64) ((4 : Int32)).toNatClampNeg ((Mf_10 (((36 : Int32) + (dX12_clock Mf_10))).toNatClampNeg)).toInt64) ((5 : Int32)).toNatClampNeg ((Mf_10 (((36 : Int32) + (((Mf_10 ((10 : Int32)).toNatClampNeg) + (1 : Int32)) - ((Mf_10 ((10 : Int32)).toNatClampNeg) + (1 : Int32)) / (Mf_10 ((2 : Int32)).toNatClampNeg) * (Mf_10 ((2 : Int32)).toNatClampNeg)))).toNatClampNeg)).toInt64) ((6 : Int32)).toNatClampNeg ((Mf_10 ((11 : Int32)).toNatClampNeg)).toInt64) ((7 : Int32)).toNatClampNeg ((dX12_boughtBy Mf_10 x1)).toInt64) ((8 : Int32)).toNatClampNeg ((dX12_metOf Mf_10 x1)).toInt64) ((9 : Int32)).toNatClampNeg ((dX12_sinceOf Mf_10 x1)).toInt64) ((10 : Int32)).toNatClampNeg ((dX12_soldAll Mf_10)).toInt64) ((11 : Int32)).toNatClampNeg ((dX12_clock Mf_10)).toInt64) ((12 : Int32)).toNatClampNeg ((Mf_10 ((10 : Int32)).toNatClampNeg)).toInt64))) else (if ((dX12_temperOf Mf_10 x1) + (Mf_10 (((36 : Int32) + (dX12_clock Mf_10))).toNatClampNeg)) < (12 : Int32) then ((0 : Int32), Mv_10, Mg_8, Mg_9) else ((1 : Int32), Mv_10, Mg_8, Mg_9)))
def dX12_takes (Mf_10 : Nat → Int32) (x1 : Int32) : (Nat → Int32) := (if ((upd Mf_10 ((11 : Int32)).toNatClampNeg ((Mf_10 ((11 : Int32)).toNatClampNeg) - (Mf_10 (((56 : Int32) + x1)).toNatClampNeg))) (((12 : Int32) + ((4 : Int32) * x1))).toNatClampNeg) ≤ (6 : Int32) then (upd (upd (upd (upd Mf_10 ((11 : Int32)).toNatClampNeg ((Mf_10 ((11 : Int32)).toNatClampNeg) - (Mf_10 (((56 : Int32) + x1)).toNatClampNeg))) (((12 : Int32) + ((4 : Int32) * x1))).toNatClampNeg (0 : Int32)) ((((12 : Int32) + ((4 : Int32) * x1)) + (1 : Int32))).toNatClampNeg (((upd (upd Mf_10 ((11 : Int32)).toNatClampNeg ((Mf_10 ((11 : Int32)).toNatClampNeg) - (Mf_10 (((56 : Int32) + x1)).toNatClampNeg))) (((12 : Int32) + ((4 : Int32) * x1))).toNatClampNeg (0 : Int32)) ((((12 : Int32) + ((4 : Int32) * x1)) + (1 : Int32))).toNatClampNeg) + ((upd (upd Mf_10 ((11 : Int32)).toNatClampNeg ((Mf_10 ((11 : Int32)).toNatClampNeg) - (Mf_10 (((56 : Int32) + x1)).toNatClampNeg))) (((12 : Int32) + ((4 : Int32) * x1))).toNatClampNeg (0 : Int32)) (((56 : Int32) + x1)).toNatClampNeg))) ((((12 : Int32) + ((4 : Int32) * x1)) + (3 : Int32))).toNatClampNeg ((upd (upd (upd Mf_10 ((11 : Int32)).toNatClampNeg ((Mf_10 ((11 : Int32)).toNatClampNeg) - (Mf_10 (((56 : Int32) + x1)).toNatClampNeg))) (((12 : Int32) + ((4 : Int32) * x1))).toNatClampNeg (0 : Int32)) ((((12 : Int32) + ((4 : Int32) * x1)) + (1 : Int32))).toNatClampNeg (((upd (upd Mf_10 ((11 : Int32)).toNatClampNeg ((Mf_10 ((11 : Int32)).toNatClampNeg) - (Mf_10 (((56 : Int32) + x1)).toNatClampNeg))) (((12 : Int32) + ((4 : Int32) * x1))).toNatClampNeg (0 : Int32)) ((((12 : Int32) + ((4 : Int32) * x1)) + (1 : Int32))).toNatClampNeg) + ((upd (upd Mf_10 ((11 : Int32)).toNatClampNeg ((Mf_10 ((11 : Int32)).toNatClampNeg) - (Mf_10 (((56 : Int32) + x1)).toNatClampNeg))) (((12 : Int32) + ((4 : Int32) * x1))).toNatClampNeg (0 : Int32)) (((56 : Int32) + x1)).toNatClampNeg))) ((10 : Int32)).toNatClampNeg)) else (upd (upd (upd (upd Mf_10 ((11 : Int32)).toNatClampNeg ((Mf_10 ((11 : Int32)).toNatClampNeg) - (Mf_10 (((56 : Int32) + x1)).toNatClampNeg))) (((12 : Int32) + ((4 : Int32) * x1))).toNatClampNeg (((upd Mf_10 ((11 : Int32)).toNatClampNeg ((Mf_10 ((11 : Int32)).toNatClampNeg) - (Mf_10 (((56 : Int32) + x1)).toNatClampNeg))) (((12 : Int32) + ((4 : Int32) * x1))).toNatClampNeg) - (6 : Int32))) ((((12 : Int32) + ((4 : Int32) * x1)) + (1 : Int32))).toNatClampNeg (((upd (upd Mf_10 ((11 : Int32)).toNatClampNeg ((Mf_10 ((11 : Int32)).toNatClampNeg) - (Mf_10 (((56 : Int32) + x1)).toNatClampNeg))) (((12 : Int32) + ((4 : Int32) * x1))).toNatClampNeg (((upd Mf_10 ((11 : Int32)).toNatClampNeg ((Mf_10 ((11 : Int32)).toNatClampNeg) - (Mf_10 (((56 : Int32) + x1)).toNatClampNeg))) (((12 : Int32) + ((4 : Int32) * x1))).toNatClampNeg) - (6 : Int32))) ((((12 : Int32) + ((4 : Int32) * x1)) + (1 : Int32))).toNatClampNeg) + ((upd (upd Mf_10 ((11 : Int32)).toNatClampNeg ((Mf_10 ((11 : Int32)).toNatClampNeg) - (Mf_10 (((56 : Int32) + x1)).toNatClampNeg))) (((12 : Int32) + ((4 : Int32) * x1))).toNatClampNeg (((upd Mf_10 ((11 : Int32)).toNatClampNeg ((Mf_10 ((11 : Int32)).toNatClampNeg) - (Mf_10 (((56 : Int32) + x1)).toNatClampNeg))) (((12 : Int32) + ((4 : Int32) * x1))).toNatClampNeg) - (6 : Int32))) (((56 : Int32) + x1)).toNatClampNeg))) ((((12 : Int32) + ((4 : Int32) * x1)) + (3 : Int32))).toNatClampNeg ((upd (upd (upd Mf_10 ((11 : Int32)).toNatClampNeg ((Mf_10 ((11 : Int32)).toNatClampNeg) - (Mf_10 (((56 : Int32) + x1)).toNatClampNeg))) (((12 : Int32) + ((4 : Int32) * x1))).toNatClampNeg (((upd Mf_10 ((11 : Int32)).toNatClampNeg ((Mf_10 ((11 : Int32)).toNatClampNeg) - (Mf_10 (((56 : Int32) + x1)).toNatClampNeg))) (((12 : Int32) + ((4 : Int32) * x1))).toNatClampNeg) - (6 : Int32))) ((((12 : Int32) + ((4 : Int32) * x1)) + (1 : Int32))).toNatClampNeg (((upd (upd Mf_10 ((11 : Int32)).toNatClampNeg ((Mf_10 ((11 : Int32)).toNatClampNeg) - (Mf_10 (((56 : Int32) + x1)).toNatClampNeg))) (((12 : Int32) + ((4 : Int32) * x1))).toNatClampNeg (((upd Mf_10 ((11 : Int32)).toNatClampNeg ((Mf_10 ((11 : Int32)).toNatClampNeg) - (Mf_10 (((56 : Int32) + x1)).toNatClampNeg))) (((12 : Int32) + ((4 : Int32) * x1))).toNatClampNeg) - (6 : Int32))) ((((12 : Int32) + ((4 : Int32) * x1)) + (1 : Int32))).toNatClampNeg) + ((upd (upd Mf_10 ((11 : Int32)).toNatClampNeg ((Mf_10 ((11 : Int32)).toNatClampNeg) - (Mf_10 (((56 : Int32) + x1)).toNatClampNeg))) (((12 : Int32) + ((4 : Int32) * x1))).toNatClampNeg (((upd Mf_10 ((11 : Int32)).toNatClampNeg ((Mf_10 ((11 : Int32)).toNatClampNeg) - (Mf_10 (((56 : Int32) + x1)).toNatClampNeg))) (((12 : Int32) + ((4 : Int32) * x1))).toNatClampNeg) - (6 : Int32))) (((56 : Int32) + x1)).toNatClampNeg))) ((10 : Int32)).toNatClampNeg)))
def dX12_isMet (Mf_10 : Nat → Int32) (Mv_13 : Int32) (x1 : Int32) : Int32 := (if (dX12_isOf Mv_13 (dX12_clock Mf_10)) = (0 : Int32) then (if (dX12_isOf (Mf_10 (((46 : Int32) + (dX12_clock Mf_10))).toNatClampNeg) x1) = (0 : Int32) then (0 : Int32) else (1 : Int32)) else (1 : Int32))
def dX12_comes (Mf_10 : Nat → Int32) (Mv_13 : Int32) (x1 : Int32) : Int32 × (Nat → Int32) := (if (dX12_isMet Mf_10 Mv_13 x1) = (0 : Int32) then ((1 : Int32), (dX12_takes Mf_10 x1)) else ((0 : Int32), (upd (upd Mf_10 ((((12 : Int32) + ((4 : Int32) * x1)) + (2 : Int32))).toNatClampNeg ((Mf_10 ((((12 : Int32) + ((4 : Int32) * x1)) + (2 : Int32))).toNatClampNeg) + (1 : Int32))) ((((12 : Int32) + ((4 : Int32) * x1)) + (3 : Int32))).toNatClampNeg ((upd Mf_10 ((((12 : Int32) + ((4 : Int32) * x1)) + (2 : Int32))).toNatClampNeg ((Mf_10 ((((12 : Int32) + ((4 : Int32) * x1)) + (2 : Int32))).toNatClampNeg) + (1 : Int32))) ((10 : Int32)).toNatClampNeg))))
def dX12_weathers_l15 (zz_1601 : Int32) : Nat → Int32 → (Nat → Int32) → Int32 × (Nat → Int32)
  | 0, _, _ => (0, (fun _ => 0))
  | n + 1, yy_1600, yy_1601 => (if (yy_1601 ((3 : Int32)).toNatClampNeg) ≤ yy_1600 then (yy_1600, yy_1601) else (if zz_1601 < (5 : Int32) then (if (2 : Int32) < zz_1601 then dX12_weathers_l15 zz_1601 n (yy_1600 + 1) yy_1601 else (if (yy_1601 (((12 : Int32) + ((4 : Int32) * yy_1600))).toNatClampNeg) ≤ (0 : Int32) then dX12_weathers_l15 zz_1601 n (yy_1600 + 1) (upd yy_1601 (((12 : Int32) + ((4 : Int32) * yy_1600))).toNatClampNeg ((yy_1601 (((12 : Int32) + ((4 : Int32) * yy_1600))).toNatClampNeg) - (0 : Int32))) else dX12_weathers_l15 zz_1601 n (yy_1600 + 1) (upd yy_1601 (((12 : Int32) + ((4 : Int32) * yy_1600))).toNatClampNeg ((yy_1601 (((12 : Int32) + ((4 : Int32) * yy_1600))).toNatClampNeg) - (1 : Int32))))) else (if (20 : Int32) ≤ (yy_1601 (((12 : Int32) + ((4 : Int32) * yy_1600))).toNatClampNeg) then dX12_weathers_l15 zz_1601 n (yy_1600 + 1) (upd yy_1601 (((12 : Int32) + ((4 : Int32) * yy_1600))).toNatClampNeg ((yy_1601 (((12 : Int32) + ((4 : Int32) * yy_1600))).toNatClampNeg) + (0 : Int32))) else dX12_weathers_l15 zz_1601 n (yy_1600 + 1) (upd yy_1601 (((12 : Int32) + ((4 : Int32) * yy_1600))).toNatClampNeg ((yy_1601 (((12 : Int32) + ((4 : Int32) * yy_1600))).toNatClampNeg) + (1 : Int32))))))
theorem dX12_weathers_l15_s {zz_1601 : Int32} {n : Nat} {yy_1600 : Int32} {yy_1601 : Nat → Int32} : dX12_weathers_l15 zz_1601 (n + 1) yy_1600 yy_1601 = (if (yy_1601 ((3 : Int32)).toNatClampNeg) ≤ yy_1600 then (yy_1600, yy_1601) else (if zz_1601 < (5 : Int32) then (if (2 : Int32) < zz_1601 then dX12_weathers_l15 zz_1601 n (yy_1600 + 1) yy_1601 else (if (yy_1601 (((12 : Int32) + ((4 : Int32) * yy_1600))).toNatClampNeg) ≤ (0 : Int32) then dX12_weathers_l15 zz_1601 n (yy_1600 + 1) (upd yy_1601 (((12 : Int32) + ((4 : Int32) * yy_1600))).toNatClampNeg ((yy_1601 (((12 : Int32) + ((4 : Int32) * yy_1600))).toNatClampNeg) - (0 : Int32))) else dX12_weathers_l15 zz_1601 n (yy_1600 + 1) (upd yy_1601 (((12 : Int32) + ((4 : Int32) * yy_1600))).toNatClampNeg ((yy_1601 (((12 : Int32) + ((4 : Int32) * yy_1600))).toNatClampNeg) - (1 : Int32))))) else (if (20 : Int32) ≤ (yy_1601 (((12 : Int32) + ((4 : Int32) * yy_1600))).toNatClampNeg) then dX12_weathers_l15 zz_1601 n (yy_1600 + 1) (upd yy_1601 (((12 : Int32) + ((4 : Int32) * yy_1600))).toNatClampNeg ((yy_1601 (((12 : Int32) + ((4 : Int32) * yy_1600))).toNatClampNeg) + (0 : Int32))) else dX12_weathers_l15 zz_1601 n (yy_1600 + 1) (upd yy_1601 (((12 : Int32) + ((4 : Int32) * yy_1600))).toNatClampNeg ((yy_1601 (((12 : Int32) + ((4 : Int32) * yy_1600))).toNatClampNeg) + (1 : Int32)))))) := rfl
def dX12_weathers (Mf_10 : Nat → Int32) : (Nat → Int32) := ((dX12_weathers_l15 (Mf_10 (((36 : Int32) + (dX12_clock Mf_10))).toNatClampNeg) ((6 - (0 : Int32).toInt).toNat + 1) (0 : Int32) Mf_10).2)
def dX12_passes_l4 (Mf_2 : Nat → Int32) (Mf_4 : Nat → Int32) (Mf_5 : Nat → Int32) (Mv_11 : Int32) (Mv_13 : Int32) : Nat → Int32 → Int32 → (Nat → Int64) → (Nat → Int64) → (Nat → Int32) → Int32 → Int32 × Int32 × (Nat → Int64) × (Nat → Int64) × (Nat → Int32) × Int32
  | 0, _, _, _, _, _, _ => (0, 0, (fun _ => 0), (fun _ => 0), (fun _ => 0), 0)
  | n + 1, yy_500, yy_501, yy_502, yy_503, yy_504, yy_505 => (if (yy_504 ((3 : Int32)).toNatClampNeg) ≤ yy_500 then (yy_500, yy_501, yy_502, yy_503, yy_504, yy_505) else (if (dX12_canBuy yy_504 yy_500) = (0 : Int32) then dX12_passes_l4 Mf_2 Mf_4 Mf_5 Mv_11 Mv_13 n (yy_500 + 1) yy_501 yy_502 yy_503 yy_504 yy_505 else (if (dX12_isWilling Mf_2 Mf_4 Mf_5 yy_504 yy_502 yy_503 yy_501 Mv_11 yy_500).1 = (0 : Int32) then dX12_passes_l4 Mf_2 Mf_4 Mf_5 Mv_11 Mv_13 n (yy_500 + 1) ((dX12_isWilling Mf_2 Mf_4 Mf_5 yy_504 yy_502 yy_503 yy_501 Mv_11 yy_500).2.1) ((dX12_isWilling Mf_2 Mf_4 Mf_5 yy_504 yy_502 yy_503 yy_501 Mv_11 yy_500).2.2.1) ((dX12_isWilling Mf_2 Mf_4 Mf_5 yy_504 yy_502 yy_503 yy_501 Mv_11 yy_500).2.2.2) yy_504 yy_505 else (if (dX12_comes yy_504 Mv_13 yy_500).1 = (0 : Int32) then dX12_passes_l4 Mf_2 Mf_4 Mf_5 Mv_11 Mv_13 n (yy_500 + 1) ((dX12_isWilling Mf_2 Mf_4 Mf_5 yy_504 yy_502 yy_503 yy_501 Mv_11 yy_500).2.1) ((dX12_isWilling Mf_2 Mf_4 Mf_5 yy_504 yy_502 yy_503 yy_501 Mv_11 yy_500).2.2.1) ((dX12_isWilling Mf_2 Mf_4 Mf_5 yy_504 yy_502 yy_503 yy_501 Mv_11 yy_500).2.2.2) ((dX12_comes yy_504 Mv_13 yy_500).2) yy_505 else dX12_passes_l4 Mf_2 Mf_4 Mf_5 Mv_11 Mv_13 n (yy_500 + 1) ((dX12_isWilling Mf_2 Mf_4 Mf_5 yy_504 yy_502 yy_503 yy_501 Mv_11 yy_500).2.1) ((dX12_isWilling Mf_2 Mf_4 Mf_5 yy_504 yy_502 yy_503 yy_501 Mv_11 yy_500).2.2.1) ((dX12_isWilling Mf_2 Mf_4 Mf_5 yy_504 yy_502 yy_503 yy_501 Mv_11 yy_500).2.2.2) ((dX12_comes yy_504 Mv_13 yy_500).2) (yy_505 ||| ((1 : Int32) <<< (yy_500 &&& 31)))))))
theorem dX12_passes_l4_s {Mf_2 : Nat → Int32} {Mf_4 : Nat → Int32} {Mf_5 : Nat → Int32} {Mv_11 : Int32} {Mv_13 : Int32} {n : Nat} {yy_500 : Int32} {yy_501 : Int32} {yy_502 : Nat → Int64} {yy_503 : Nat → Int64} {yy_504 : Nat → Int32} {yy_505 : Int32} : dX12_passes_l4 Mf_2 Mf_4 Mf_5 Mv_11 Mv_13 (n + 1) yy_500 yy_501 yy_502 yy_503 yy_504 yy_505 = (if (yy_504 ((3 : Int32)).toNatClampNeg) ≤ yy_500 then (yy_500, yy_501, yy_502, yy_503, yy_504, yy_505) else (if (dX12_canBuy yy_504 yy_500) = (0 : Int32) then dX12_passes_l4 Mf_2 Mf_4 Mf_5 Mv_11 Mv_13 n (yy_500 + 1) yy_501 yy_502 yy_503 yy_504 yy_505 else (if (dX12_isWilling Mf_2 Mf_4 Mf_5 yy_504 yy_502 yy_503 yy_501 Mv_11 yy_500).1 = (0 : Int32) then dX12_passes_l4 Mf_2 Mf_4 Mf_5 Mv_11 Mv_13 n (yy_500 + 1) ((dX12_isWilling Mf_2 Mf_4 Mf_5 yy_504 yy_502 yy_503 yy_501 Mv_11 yy_500).2.1) ((dX12_isWilling Mf_2 Mf_4 Mf_5 yy_504 yy_502 yy_503 yy_501 Mv_11 yy_500).2.2.1) ((dX12_isWilling Mf_2 Mf_4 Mf_5 yy_504 yy_502 yy_503 yy_501 Mv_11 yy_500).2.2.2) yy_504 yy_505 else (if (dX12_comes yy_504 Mv_13 yy_500).1 = (0 : Int32) then dX12_passes_l4 Mf_2 Mf_4 Mf_5 Mv_11 Mv_13 n (yy_500 + 1) ((dX12_isWilling Mf_2 Mf_4 Mf_5 yy_504 yy_502 yy_503 yy_501 Mv_11 yy_500).2.1) ((dX12_isWilling Mf_2 Mf_4 Mf_5 yy_504 yy_502 yy_503 yy_501 Mv_11 yy_500).2.2.1) ((dX12_isWilling Mf_2 Mf_4 Mf_5 yy_504 yy_502 yy_503 yy_501 Mv_11 yy_500).2.2.2) ((dX12_comes yy_504 Mv_13 yy_500).2) yy_505 else dX12_passes_l4 Mf_2 Mf_4 Mf_5 Mv_11 Mv_13 n (yy_500 + 1) ((dX12_isWilling Mf_2 Mf_4 Mf_5 yy_504 yy_502 yy_503 yy_501 Mv_11 yy_500).2.1) ((dX12_isWilling Mf_2 Mf_4 Mf_5 yy_504 yy_502 yy_503 yy_501 Mv_11 yy_500).2.2.1) ((dX12_isWilling Mf_2 Mf_4 Mf_5 yy_504 yy_502 yy_503 yy_501 Mv_11 yy_500).2.2.2) ((dX12_comes yy_504 Mv_13 yy_500).2) (yy_505 ||| ((1 : Int32) <<< (yy_500 &&& 31))))))) := rfl
def dX12_passes (Mf_2 : Nat → Int32) (Mf_4 : Nat → Int32) (Mf_5 : Nat → Int32) (Mf_10 : Nat → Int32) (Mg_8 : Nat → Int64) (Mg_9 : Nat → Int64) (Mv_10 : Int32) (Mv_11 : Int32) (Mv_13 : Int32) : Int32 × Int32 × (Nat → Int64) × (Nat → Int64) × (Nat → Int32) := (if (((dX12_weathers ((dX12_passes_l4 Mf_2 Mf_4 Mf_5 Mv_11 Mv_13 ((6 - (0 : Int32).toInt).toNat + 1) (0 : Int32) Mv_10 Mg_8 Mg_9 Mf_10 (0 : Int32)).2.2.2.2.1)) ((10 : Int32)).toNatClampNeg) - ((dX12_weathers ((dX12_passes_l4 Mf_2 Mf_4 Mf_5 Mv_11 Mv_13 ((6 - (0 : Int32).toInt).toNat + 1) (0 : Int32) Mv_10 Mg_8 Mg_9 Mf_10 (0 : Int32)).2.2.2.2.1)) ((10 : Int32)).toNatClampNeg) / (7 : Int32) * (7 : Int32)) = (6 : Int32) then (if ((upd (dX12_weathers ((dX12_passes_l4 Mf_2 Mf_4 Mf_5 Mv_11 Mv_13 ((6 - (0 : Int32).toInt).toNat + 1) (0 : Int32) Mv_10 Mg_8 Mg_9 Mf_10 (0 : Int32)).2.2.2.2.1)) ((11 : Int32)).toNatClampNeg (((dX12_weathers ((dX12_passes_l4 Mf_2 Mf_4 Mf_5 Mv_11 Mv_13 ((6 - (0 : Int32).toInt).toNat + 1) (0 : Int32) Mv_10 Mg_8 Mg_9 Mf_10 (0 : Int32)).2.2.2.2.1)) ((11 : Int32)).toNatClampNeg) + ((dX12_weathers ((dX12_passes_l4 Mf_2 Mf_4 Mf_5 Mv_11 Mv_13 ((6 - (0 : Int32).toInt).toNat + 1) (0 : Int32) Mv_10 Mg_8 Mg_9 Mf_10 (0 : Int32)).2.2.2.2.1)) ((1 : Int32)).toNatClampNeg))) ((11 : Int32)).toNatClampNeg) ≤ (99 : Int32) then ((dX12_passes_l4 Mf_2 Mf_4 Mf_5 Mv_11 Mv_13 ((6 - (0 : Int32).toInt).toNat + 1) (0 : Int32) Mv_10 Mg_8 Mg_9 Mf_10 (0 : Int32)).2.2.2.2.2, (dX12_passes_l4 Mf_2 Mf_4 Mf_5 Mv_11 Mv_13 ((6 - (0 : Int32).toInt).toNat + 1) (0 : Int32) Mv_10 Mg_8 Mg_9 Mf_10 (0 : Int32)).2.1, ((dX12_passes_l4 Mf_2 Mf_4 Mf_5 Mv_11 Mv_13 ((6 - (0 : Int32).toInt).toNat + 1) (0 : Int32) Mv_10 Mg_8 Mg_9 Mf_10 (0 : Int32)).2.2.1), ((dX12_passes_l4 Mf_2 Mf_4 Mf_5 Mv_11 Mv_13 ((6 - (0 : Int32).toInt).toNat + 1) (0 : Int32) Mv_10 Mg_8 Mg_9 Mf_10 (0 : Int32)).2.2.2.1), (upd (upd (dX12_weathers ((dX12_passes_l4 Mf_2 Mf_4 Mf_5 Mv_11 Mv_13 ((6 - (0 : Int32).toInt).toNat + 1) (0 : Int32) Mv_10 Mg_8 Mg_9 Mf_10 (0 : Int32)).2.2.2.2.1)) ((11 : Int32)).toNatClampNeg (((dX12_weathers ((dX12_passes_l4 Mf_2 Mf_4 Mf_5 Mv_11 Mv_13 ((6 - (0 : Int32).toInt).toNat + 1) (0 : Int32) Mv_10 Mg_8 Mg_9 Mf_10 (0 : Int32)).2.2.2.2.1)) ((11 : Int32)).toNatClampNeg) + ((dX12_weathers ((dX12_passes_l4 Mf_2 Mf_4 Mf_5 Mv_11 Mv_13 ((6 - (0 : Int32).toInt).toNat + 1) (0 : Int32) Mv_10 Mg_8 Mg_9 Mf_10 (0 : Int32)).2.2.2.2.1)) ((1 : Int32)).toNatClampNeg))) ((10 : Int32)).toNatClampNeg (((upd (dX12_weathers ((dX12_passes_l4 Mf_2 Mf_4 Mf_5 Mv_11 Mv_13 ((6 - (0 : Int32).toInt).toNat + 1) (0 : Int32) Mv_10 Mg_8 Mg_9 Mf_10 (0 : Int32)).2.2.2.2.1)) ((11 : Int32)).toNatClampNeg (((dX12_weathers ((dX12_passes_l4 Mf_2 Mf_4 Mf_5 Mv_11 Mv_13 ((6 - (0 : Int32).toInt).toNat + 1) (0 : Int32) Mv_10 Mg_8 Mg_9 Mf_10 (0 : Int32)).2.2.2.2.1)) ((11 : Int32)).toNatClampNeg) + ((dX12_weathers ((dX12_passes_l4 Mf_2 Mf_4 Mf_5 Mv_11 Mv_13 ((6 - (0 : Int32).toInt).toNat + 1) (0 : Int32) Mv_10 Mg_8 Mg_9 Mf_10 (0 : Int32)).2.2.2.2.1)) ((1 : Int32)).toNatClampNeg))) ((10 : Int32)).toNatClampNeg) + (1 : Int32)))) else ((dX12_passes_l4 Mf_2 Mf_4 Mf_5 Mv_11 Mv_13 ((6 - (0 : Int32).toInt).toNat + 1) (0 : Int32) Mv_10 Mg_8 Mg_9 Mf_10 (0 : Int32)).2.2.2.2.2, (dX12_passes_l4 Mf_2 Mf_4 Mf_5 Mv_11 Mv_13 ((6 - (0 : Int32).toInt).toNat + 1) (0 : Int32) Mv_10 Mg_8 Mg_9 Mf_10 (0 : Int32)).2.1, ((dX12_passes_l4 Mf_2 Mf_4 Mf_5 Mv_11 Mv_13 ((6 - (0 : Int32).toInt).toNat + 1) (0 : Int32) Mv_10 Mg_8 Mg_9 Mf_10 (0 : Int32)).2.2.1), ((dX12_passes_l4 Mf_2 Mf_4 Mf_5 Mv_11 Mv_13 ((6 - (0 : Int32).toInt).toNat + 1) (0 : Int32) Mv_10 Mg_8 Mg_9 Mf_10 (0 : Int32)).2.2.2.1), (upd (upd (upd (dX12_weathers ((dX12_passes_l4 Mf_2 Mf_4 Mf_5 Mv_11 Mv_13 ((6 - (0 : Int32).toInt).toNat + 1) (0 : Int32) Mv_10 Mg_8 Mg_9 Mf_10 (0 : Int32)).2.2.2.2.1)) ((11 : Int32)).toNatClampNeg (((dX12_weathers ((dX12_passes_l4 Mf_2 Mf_4 Mf_5 Mv_11 Mv_13 ((6 - (0 : Int32).toInt).toNat + 1) (0 : Int32) Mv_10 Mg_8 Mg_9 Mf_10 (0 : Int32)).2.2.2.2.1)) ((11 : Int32)).toNatClampNeg) + ((dX12_weathers ((dX12_passes_l4 Mf_2 Mf_4 Mf_5 Mv_11 Mv_13 ((6 - (0 : Int32).toInt).toNat + 1) (0 : Int32) Mv_10 Mg_8 Mg_9 Mf_10 (0 : Int32)).2.2.2.2.1)) ((1 : Int32)).toNatClampNeg))) ((11 : Int32)).toNatClampNeg (99 : Int32)) ((10 : Int32)).toNatClampNeg (((upd (upd (dX12_weathers ((dX12_passes_l4 Mf_2 Mf_4 Mf_5 Mv_11 Mv_13 ((6 - (0 : Int32).toInt).toNat + 1) (0 : Int32) Mv_10 Mg_8 Mg_9 Mf_10 (0 : Int32)).2.2.2.2.1)) ((11 : Int32)).toNatClampNeg (((dX12_weathers ((dX12_passes_l4 Mf_2 Mf_4 Mf_5 Mv_11 Mv_13 ((6 - (0 : Int32).toInt).toNat + 1) (0 : Int32) Mv_10 Mg_8 Mg_9 Mf_10 (0 : Int32)).2.2.2.2.1)) ((11 : Int32)).toNatClampNeg) + ((dX12_weathers ((dX12_passes_l4 Mf_2 Mf_4 Mf_5 Mv_11 Mv_13 ((6 - (0 : Int32).toInt).toNat + 1) (0 : Int32) Mv_10 Mg_8 Mg_9 Mf_10 (0 : Int32)).2.2.2.2.1)) ((1 : Int32)).toNatClampNeg))) ((11 : Int32)).toNatClampNeg (99 : Int32)) ((10 : Int32)).toNatClampNeg) + (1 : Int32))))) else ((dX12_passes_l4 Mf_2 Mf_4 Mf_5 Mv_11 Mv_13 ((6 - (0 : Int32).toInt).toNat + 1) (0 : Int32) Mv_10 Mg_8 Mg_9 Mf_10 (0 : Int32)).2.2.2.2.2, (dX12_passes_l4 Mf_2 Mf_4 Mf_5 Mv_11 Mv_13 ((6 - (0 : Int32).toInt).toNat + 1) (0 : Int32) Mv_10 Mg_8 Mg_9 Mf_10 (0 : Int32)).2.1, ((dX12_passes_l4 Mf_2 Mf_4 Mf_5 Mv_11 Mv_13 ((6 - (0 : Int32).toInt).toNat + 1) (0 : Int32) Mv_10 Mg_8 Mg_9 Mf_10 (0 : Int32)).2.2.1), ((dX12_passes_l4 Mf_2 Mf_4 Mf_5 Mv_11 Mv_13 ((6 - (0 : Int32).toInt).toNat + 1) (0 : Int32) Mv_10 Mg_8 Mg_9 Mf_10 (0 : Int32)).2.2.2.1), (upd (dX12_weathers ((dX12_passes_l4 Mf_2 Mf_4 Mf_5 Mv_11 Mv_13 ((6 - (0 : Int32).toInt).toNat + 1) (0 : Int32) Mv_10 Mg_8 Mg_9 Mf_10 (0 : Int32)).2.2.2.2.1)) ((10 : Int32)).toNatClampNeg (((dX12_weathers ((dX12_passes_l4 Mf_2 Mf_4 Mf_5 Mv_11 Mv_13 ((6 - (0 : Int32).toInt).toNat + 1) (0 : Int32) Mv_10 Mg_8 Mg_9 Mf_10 (0 : Int32)).2.2.2.2.1)) ((10 : Int32)).toNatClampNeg) + (1 : Int32)))))
set_option maxRecDepth 16384
/-! a purchase, a meeting -/
def tmB (x : Int32) : Int32 := if x ≤ 6 then 0 else x - 6
def tkB (s : Nat → Int32) (n : Nat) : Nat → Int32 := upd (upd (upd (upd s 11 (s 11 - s (56 + n))) (12 + 4 * n) (tmB (s (12 + 4 * n)))) (13 + 4 * n) (s (13 + 4 * n) + s (56 + n))) (15 + 4 * n) (s 10)
def mtB (s : Nat → Int32) (n : Nat) : Nat → Int32 := upd (upd s (14 + 4 * n) (s (14 + 4 * n) + 1)) (15 + 4 * n) (s 10)
theorem tk_no {s : Nat → Int32} {n k : Nat} (h1 : k ≠ 11) (h2 : k ≠ 12 + 4 * n) (h3 : k ≠ 13 + 4 * n) (h4 : k ≠ 15 + 4 * n) : tkB s n k = s k := by
  unfold tkB
  rw [upd_ne h4, upd_ne h3, upd_ne h2, upd_ne h1]
theorem tk_11 {s : Nat → Int32} {n : Nat} : tkB s n 11 = s 11 - s (56 + n) := by
  unfold tkB
  rw [upd_ne (by omega), upd_ne (by omega), upd_ne (by omega), upd_at]
theorem tk_12 {s : Nat → Int32} {n : Nat} : tkB s n (12 + 4 * n) = tmB (s (12 + 4 * n)) := by
  unfold tkB
  rw [upd_ne (by omega), upd_ne (by omega), upd_at]
theorem tk_13 {s : Nat → Int32} {n : Nat} : tkB s n (13 + 4 * n) = s (13 + 4 * n) + s (56 + n) := by
  unfold tkB
  rw [upd_ne (by omega), upd_at]
theorem tk_15 {s : Nat → Int32} {n : Nat} : tkB s n (15 + 4 * n) = s 10 := by
  unfold tkB
  rw [upd_at]
theorem mt_no {s : Nat → Int32} {n k : Nat} (h1 : k ≠ 14 + 4 * n) (h2 : k ≠ 15 + 4 * n) : mtB s n k = s k := by
  unfold mtB
  rw [upd_ne h2, upd_ne h1]
theorem mt_14 {s : Nat → Int32} {n : Nat} : mtB s n (14 + 4 * n) = s (14 + 4 * n) + 1 := by
  unfold mtB
  rw [upd_ne (by omega), upd_at]
theorem mt_15 {s : Nat → Int32} {n : Nat} : mtB s n (15 + 4 * n) = s 10 := by
  unfold mtB
  rw [upd_at]
theorem takes_eq {s : Nat → Int32} {b : Int32} (h6 : 0 ≤ b.toInt ∧ b.toInt < 6) (hn : b.toInt.toNat < 6) : dX12_takes s b = tkB s b.toInt.toNat := by
  unfold dX12_takes
  rw [c12 h6, c13 h6, c15 h6, c56 h6, cl_l11, cl_l10]
  generalize b.toInt.toNat = n at hn
  have e1 : ∀ X, upd s 11 X (12 + 4 * n) = s (12 + 4 * n) := fun X => upd_ne (by omega)
  have e2 : ∀ X Y, upd (upd s 11 X) (12 + 4 * n) Y (13 + 4 * n) = s (13 + 4 * n) := fun X Y => by rw [upd_ne (by omega), upd_ne (by omega)]
  have e3 : ∀ X Y, upd (upd s 11 X) (12 + 4 * n) Y (56 + n) = s (56 + n) := fun X Y => by rw [upd_ne (by omega), upd_ne (by omega)]
  have e4 : ∀ X Y Z, upd (upd (upd s 11 X) (12 + 4 * n) Y) (13 + 4 * n) Z 10 = s 10 := fun X Y Z => by rw [upd_ne (by omega), upd_ne (by omega), upd_ne (by omega)]
  simp only [e1, e2, e3, e4]
  unfold tkB tmB
  by_cases z : s (12 + 4 * n) ≤ 6
  · rw [if_pos z, if_pos z]
  · rw [if_neg z, if_neg z]
theorem comes_eq {s : Nat → Int32} {g b : Int32} (h6 : 0 ≤ b.toInt ∧ b.toInt < 6) (hn : b.toInt.toNat < 6) : dX12_comes s g b = if dX12_isMet s g b = 0 then (1, tkB s b.toInt.toNat) else (0, mtB s b.toInt.toNat) := by
  unfold dX12_comes
  rw [takes_eq h6 hn, c14 h6, c15 h6, cl_l10]
  unfold mtB
  rw [upd_ne (f := s) (show (10 : Nat) ≠ 14 + 4 * b.toInt.toNat by omega)]
theorem sumB_tk {s : Nat → Int32} {n : Nat} (hn : n < 6) : ∀ m, sumB (tkB s n) m = if n < m then sumB s m + s (56 + n) else sumB s m
  | 0 => by rw [if_neg (by omega)]; rfl
  | m + 1 => by
    show sumB (tkB s n) m + tkB s n (13 + 4 * m) = if n < m + 1 then sumB s m + s (13 + 4 * m) + s (56 + n) else sumB s m + s (13 + 4 * m)
    rw [sumB_tk hn m]
    by_cases z : m = n
    · rw [z, tk_13, if_neg (by omega), if_pos (by omega), Int32.add_assoc]
    · rw [tk_no (by omega) (by omega) (by omega) (by omega)]
      by_cases y : n < m
      · rw [if_pos y, if_pos (by omega), Int32.add_assoc, Int32.add_comm (s (56 + n)), ← Int32.add_assoc]
      · rw [if_neg y, if_neg (by omega)]
theorem sumB_mt {s : Nat → Int32} {n : Nat} : ∀ m, sumB (mtB s n) m = sumB s m
  | 0 => rfl
  | m + 1 => by
    show sumB (mtB s n) m + mtB s n (13 + 4 * m) = sumB s m + s (13 + 4 * m)
    rw [sumB_mt m, mt_no (by omega) (by omega)]
/-- what stays while buyers come -/
def StL (s t : Nat → Int32) : Prop := ∀ k : Nat, (k < 11 ∨ 36 ≤ k) → t k = s k
theorem StL.rf {s : Nat → Int32} : StL s s := fun _ _ => rfl
theorem StL.tr {s t u : Nat → Int32} (h : StL s t) (h2 : StL t u) : StL s u := fun k hk => (h2 k hk).trans (h k hk)
theorem StL.tk {s : Nat → Int32} {n : Nat} (hn : n < 6) : StL s (tkB s n) := fun k hk => tk_no (by omega) (by omega) (by omega) (by omega)
theorem StL.mt {s : Nat → Int32} {n : Nat} (hn : n < 6) : StL s (mtB s n) := fun k hk => mt_no (by omega) (by omega)
theorem StL.clock {s t : Nat → Int32} (h : StL s t) : dX12_clock t = dX12_clock s := by
  unfold dX12_clock dX12_isBook
  rw [cl_l0, cl_l10, cl_l2, h 0 (by omega), h 10 (by omega), h 2 (by omega)]
section STEP
variable {v0 v1 v2 v3 v4 v5 : Int32} {f1 f2 f3 f4 f5 f6 f7 f8 s : Nat → Int32}
theorem ShR.takes (h : ShR v0 v1 v2 v3 v4 v5 f1 f2 f3 f4 f5 f6 f7 f8 s) (g : Gs s) {b : Int32} (hb : 0 ≤ b.toInt ∧ b.toInt < (s 3).toInt) : dX9_handOver f3 f4 f6 f8 v0 v3 v4 v5 b = (s 11 - s (56 + b.toInt.toNat), v5 + s (56 + b.toInt.toNat), upd f3 b.toInt.toNat (tmB (s (12 + 4 * b.toInt.toNat))), upd f6 b.toInt.toNat (s (13 + 4 * b.toInt.toNat) + s (56 + b.toInt.toNat)), upd f8 b.toInt.toNat (s 10)) ∧ ShR (s 11 - s (56 + b.toInt.toNat)) v1 v2 v3 v4 (v5 + s (56 + b.toInt.toNat)) f1 f2 (upd f3 b.toInt.toNat (tmB (s (12 + 4 * b.toInt.toNat)))) f4 f5 (upd f6 b.toInt.toNat (s (13 + 4 * b.toInt.toNat) + s (56 + b.toInt.toNat))) f7 (upd f8 b.toInt.toNat (s 10)) (tkB s b.toInt.toNat) := by
  have hn : b.toInt.toNat < 6 := by have := g.1.2.2.1; omega
  obtain ⟨a3, a4, a5, a6, a7, a8⟩ := h.2.2 _ hn
  have ht := (g.2 _ hn).1
  have hh : dX9_hasBuyer v3 b = 1 := by rw [h.1.2.2.2.1]; exact hasB hb g.1.2.2.1.2
  refine ⟨?_, ?_, ?_, ?_⟩
  · unfold dX9_handOver
    rw [hh, if_neg one_ne, cl_b (b := b), a3, a4, a6, h.1.1, h.1.2.2.2.2.1]
    have e6 : (s (12 + 4 * b.toInt.toNat) - 6).toInt = (s (12 + 4 * b.toInt.toNat)).toInt - 6 := by rw [sub_toInt (by rw [t_6]; omega) (by rw [t_6]; omega), t_6]
    have e : (if (0 : Int32) < s (12 + 4 * b.toInt.toNat) - 6 then s (12 + 4 * b.toInt.toNat) - 6 else 0) = tmB (s (12 + 4 * b.toInt.toNat)) := by
      unfold tmB
      by_cases z : s (12 + 4 * b.toInt.toNat) ≤ 6
      · rw [if_pos z, if_neg (by rw [i32_lt, t_0, e6]; rw [i32_leq, t_6] at z; omega)]
      · rw [if_neg z, if_pos (by rw [i32_lt, t_0, e6]; rw [i32_leq, t_6] at z; omega)]
    rw [e]
  · refine ⟨tk_11.symm, ?_, ?_, ?_, ?_, ?_⟩
    · rw [tk_no (by omega) (by omega) (by omega) (by omega)]; exact h.1.2.1
    · rw [tk_no (by omega) (by omega) (by omega) (by omega)]; exact h.1.2.2.1
    · rw [tk_no (by omega) (by omega) (by omega) (by omega)]; exact h.1.2.2.2.1
    · rw [tk_no (by omega) (by omega) (by omega) (by omega)]; exact h.1.2.2.2.2.1
    · rw [tk_no (k := 3) (by omega) (by omega) (by omega) (by omega), sumB_tk hn, if_pos (by omega), h.1.2.2.2.2.2]
  · intro k hk
    rw [tk_no (by omega) (by omega) (by omega) (by omega), tk_no (by omega) (by omega) (by omega) (by omega)]
    exact h.2.1 k hk
  · intro k hk
    obtain ⟨c3, c4, c5, c6, c7, c8⟩ := h.2.2 k hk
    by_cases z : k = b.toInt.toNat
    · subst z
      refine ⟨by rw [upd_at, tk_12], ?_, ?_, by rw [upd_at, tk_13], ?_, by rw [upd_at, tk_15]⟩
      · rw [tk_no (by omega) (by omega) (by omega) (by omega)]; exact c4
      · rw [tk_no (by omega) (by omega) (by omega) (by omega)]; exact c5
      · rw [tk_no (by omega) (by omega) (by omega) (by omega)]; exact c7
    · rw [upd_ne z, upd_ne z, upd_ne z, tk_no (k := 12 + 4 * k) (by omega) (by omega) (by omega) (by omega), tk_no (k := 56 + k) (by omega) (by omega) (by omega) (by omega), tk_no (k := 62 + k) (by omega) (by omega) (by omega) (by omega), tk_no (k := 13 + 4 * k) (by omega) (by omega) (by omega) (by omega), tk_no (k := 14 + 4 * k) (by omega) (by omega) (by omega) (by omega), tk_no (k := 15 + 4 * k) (by omega) (by omega) (by omega) (by omega)]
      exact ⟨c3, c4, c5, c6, c7, c8⟩
theorem ShR.meets (h : ShR v0 v1 v2 v3 v4 v5 f1 f2 f3 f4 f5 f6 f7 f8 s) {n : Nat} (hn : n < 6) : ShR v0 v1 v2 v3 v4 v5 f1 f2 f3 f4 f5 f6 (upd f7 n (s (14 + 4 * n) + 1)) (upd f8 n (s 10)) (mtB s n) := by
  refine ⟨⟨?_, ?_, ?_, ?_, ?_, ?_⟩, ?_, ?_⟩
  · rw [mt_no (by omega) (by omega)]; exact h.1.1
  · rw [mt_no (by omega) (by omega)]; exact h.1.2.1
  · rw [mt_no (by omega) (by omega)]; exact h.1.2.2.1
  · rw [mt_no (by omega) (by omega)]; exact h.1.2.2.2.1
  · rw [mt_no (by omega) (by omega)]; exact h.1.2.2.2.2.1
  · rw [mt_no (k := 3) (by omega) (by omega), sumB_mt]; exact h.1.2.2.2.2.2
  · intro k hk
    rw [mt_no (by omega) (by omega), mt_no (by omega) (by omega)]
    exact h.2.1 k hk
  · intro k hk
    obtain ⟨c3, c4, c5, c6, c7, c8⟩ := h.2.2 k hk
    by_cases z : k = n
    · subst z
      rw [mt_no (k := 12 + 4 * k) (by omega) (by omega), mt_no (k := 56 + k) (by omega) (by omega), mt_no (k := 62 + k) (by omega) (by omega), mt_no (k := 13 + 4 * k) (by omega) (by omega)]
      exact ⟨c3, c4, c5, c6, by rw [upd_at, mt_14], by rw [upd_at, mt_15]⟩
    · rw [upd_ne z, upd_ne z, mt_no (k := 12 + 4 * k) (by omega) (by omega), mt_no (k := 56 + k) (by omega) (by omega), mt_no (k := 62 + k) (by omega) (by omega), mt_no (k := 13 + 4 * k) (by omega) (by omega), mt_no (k := 14 + 4 * k) (by omega) (by omega), mt_no (k := 15 + 4 * k) (by omega) (by omega)]
      exact ⟨c3, c4, c5, c6, c7, c8⟩
end STEP
theorem tm_rg {x : Int32} (h : 0 ≤ x.toInt ∧ x.toInt ≤ 20) : 0 ≤ (tmB x).toInt ∧ (tmB x).toInt ≤ 20 := by
  unfold tmB
  by_cases z : x ≤ 6
  · rw [if_pos z, t_0]; omega
  · rw [if_neg z, sub_toInt (by rw [t_6]; omega) (by rw [t_6]; omega), t_6]
    rw [i32_leq, t_6] at z
    omega
theorem Gs.takes {s : Nat → Int32} (g : Gs s) {n : Nat} (hn : n < 6) (hc : s (56 + n) ≤ s 11) : Gs (tkB s n) := by
  have hg := (g.2 n hn).2.2
  have hs := g.1.2.2.2.2.1
  rw [i32_leq] at hc
  have e : (s 11 - s (56 + n)).toInt = (s 11).toInt - (s (56 + n)).toInt := sub_toInt (by omega) (by omega)
  refine ⟨?_, ?_⟩
  · rw [tk_11, tk_no (k := 0) (by omega) (by omega) (by omega) (by omega), tk_no (k := 2) (by omega) (by omega) (by omega) (by omega), tk_no (k := 3) (by omega) (by omega) (by omega) (by omega), tk_no (k := 1) (by omega) (by omega) (by omega) (by omega), tk_no (k := 10) (by omega) (by omega) (by omega) (by omega), e]
    exact ⟨g.1.1, g.1.2.1, g.1.2.2.1, g.1.2.2.2.1, by omega, g.1.2.2.2.2.2⟩
  · intro k hk
    obtain ⟨c1, c2, c3⟩ := g.2 k hk
    rw [tk_no (k := 10) (by omega) (by omega) (by omega) (by omega), tk_no (k := 56 + k) (by omega) (by omega) (by omega) (by omega)]
    by_cases z : k = n
    · subst z
      rw [tk_12, tk_15]
      have := g.1.2.2.2.2.2
      exact ⟨tm_rg c1, by omega, c3⟩
    · rw [tk_no (k := 12 + 4 * k) (by omega) (by omega) (by omega) (by omega), tk_no (k := 15 + 4 * k) (by omega) (by omega) (by omega) (by omega)]
      exact ⟨c1, c2, c3⟩
theorem Gs.meets {s : Nat → Int32} (g : Gs s) {n : Nat} (hn : n < 6) : Gs (mtB s n) := by
  refine ⟨?_, ?_⟩
  · rw [mt_no (k := 0) (by omega) (by omega), mt_no (k := 2) (by omega) (by omega), mt_no (k := 3) (by omega) (by omega), mt_no (k := 1) (by omega) (by omega), mt_no (k := 10) (by omega) (by omega), mt_no (k := 11) (by omega) (by omega)]
    exact g.1
  · intro k hk
    obtain ⟨c1, c2, c3⟩ := g.2 k hk
    rw [mt_no (k := 10) (by omega) (by omega), mt_no (k := 56 + k) (by omega) (by omega), mt_no (k := 12 + 4 * k) (by omega) (by omega)]
    by_cases z : k = n
    · subst z
      rw [mt_15]
      have := g.1.2.2.2.2.2
      exact ⟨c1, by omega, c3⟩
    · rw [mt_no (k := 15 + 4 * k) (by omega) (by omega)]
      exact ⟨c1, c2, c3⟩
/-- by the reference's own word one can buy: enough is there -/
theorem can_le {s : Nat → Int32} {b : Int32} (h6 : 0 ≤ b.toInt ∧ b.toInt < 6) (h : ¬ dX12_canBuy s b = 0) : s (56 + b.toInt.toNat) ≤ s 11 := by
  unfold dX12_canBuy at h
  rw [c56 h6, cl_l11] at h
  by_cases z : s 11 < s (56 + b.toInt.toNat)
  · exact absurd (if_pos z) h
  · exact Int32.not_lt.mp z
theorem and1 (x : Int32) : (x &&& 1) = 0 ∨ (x &&& 1) = 1 := by
  have h := Jvm.Kit.i32_mask x 1 (k := 1) (by decide) (by decide)
  have e : (2 : Int) ^ 1 = 2 := by decide
  rw [e] at h
  have : (x &&& 1).toInt = 0 ∨ (x &&& 1).toInt = 1 := by omega
  rcases this with z | z
  · exact Or.inl (Int32.toInt_inj.mp (by rw [z]; decide))
  · exact Or.inr (Int32.toInt_inj.mp (by rw [z]; decide))
theorem isOf_0 {k : Int32} : dX12_isOf 0 k = 0 := by
  unfold dX12_isOf
  rw [Int32.zero_shiftRight, Int32.zero_and, if_neg (by decide)]
theorem met_eq {s : Nat → Int32} (g : Gs s) {b : Int32} : dX12_isMet s 0 b = 0 ↔ ((s (46 + (dX12_clock s).toInt.toNat) >>> (b &&& 31)) &&& 1) = 0 := by
  obtain ⟨-, -, h0, -, h10⟩ := clk g
  unfold dX12_isMet
  rw [isOf_0, if_pos rfl, c46 ⟨h0, h10⟩]
  unfold dX12_isOf
  rcases and1 (s (46 + (dX12_clock s).toInt.toNat) >>> (b &&& 31)) with z | z
  · rw [z, if_neg (show ¬ (0 : Int32) = 1 by decide), if_pos rfl]
  · rw [z, if_pos rfl, if_neg one_ne]
theorem will_n {g2 g4 g5 s : Nat → Int32} {g8 g9 : Nat → Int64} {top fo b : Int32} (hf : fo.toInt < 0) : dX12_isWilling g2 g4 g5 s g8 g9 top fo b = (if (dX12_temperOf s b + s ((36 : Int32) + dX12_clock s).toNatClampNeg) < 12 then 0 else 1, top, g8, g9) := by
  unfold dX12_isWilling
  rw [if_neg (by rw [i32_leq, t_0]; omega)]
  by_cases z : dX12_temperOf s b + s ((36 : Int32) + dX12_clock s).toNatClampNeg < 12
  · rw [if_pos z, if_pos z]
  · rw [if_neg z, if_neg z]
abbrev PsT := Int32 × Int32 × (Nat → Int64) × (Nat → Int64) × (Nat → Int32) × Int32
def PsE (v1 v2 v3 v4 : Int32) (f1 f2 f4 f5 s0 : Nat → Int32) (who v0 v5 : Int32) (f3 f6 f8 f7 : Nat → Int32) (P : PsT) : Prop := ShR v0 v1 v2 v3 v4 v5 f1 f2 f3 f4 f5 f6 f7 f8 P.2.2.2.2.1 ∧ Gs P.2.2.2.2.1 ∧ who = P.2.2.2.2.2 ∧ StL s0 P.2.2.2.2.1
theorem day_n {v1 v2 v3 v4 st po fo : Int32} {f1 f2 f4 f5 g2 g4 g5 s0 : Nat → Int32} (hf : fo.toInt < 0) : ∀ (n : Nat) (b who v0 v5 top : Int32) (f3 f6 f8 f7 s : Nat → Int32) (g8 g9 : Nat → Int64), ShR v0 v1 v2 v3 v4 v5 f1 f2 f3 f4 f5 f6 f7 f8 s → Gs s → StL s0 s → st = s0 (36 + (dX12_clock s0).toInt.toNat) → po = s0 (46 + (dX12_clock s0).toInt.toNat) → 0 ≤ b.toInt → b.toInt ≤ (s 3).toInt → (s 3).toInt - b.toInt < (n : Int) →
    (∃ w a0 a5 a3 a6 a8 a7 z, dX9_goThroughDay_n_l44 f4 f5 v3 v4 st po n b who v0 v5 f3 f6 f8 f7 = (z, w, a0, a5, a3, a6, a8, a7) ∧ PsE v1 v2 v3 v4 f1 f2 f4 f5 s0 w a0 a5 a3 a6 a8 a7 (dX12_passes_l4 g2 g4 g5 fo 0 n b top g8 g9 s who))
  | 0, b, who, v0, v5, top, f3, f6, f8, f7, s, g8, g9, h, g, hst, es, ep, h0, h1, hn => by omega
  | n + 1, b, who, v0, v5, top, f3, f6, f8, f7, s, g8, g9, h, g, hst, es, ep, h0, h1, hn => by
    have g3 := g.1.2.2.1
    have ec := hst.clock
    obtain ⟨-, -, k0, -, k10⟩ := clk g
    rw [dX9_goThroughDay_n_l44_s, dX12_passes_l4_s, cl_l3]
    by_cases z : s 3 ≤ b
    · rw [if_pos (show v3 ≤ b by rw [h.1.2.2.2.1]; exact z), if_pos z]
      exact ⟨_, _, _, _, _, _, _, _, rfl, h, g, rfl, hst⟩
    · have hb : b.toInt < (s 3).toInt := by rw [i32_leq] at z; omega
      have h6 : 0 ≤ b.toInt ∧ b.toInt < 6 := by omega
      have hn6 : b.toInt.toNat < 6 := by omega
      have e1 : (b + 1).toInt = b.toInt + 1 := by rw [ix_k rfl t_1 (by omega)]
      obtain ⟨a3, -, -, -, a7, -⟩ := h.2.2 _ hn6
      rw [if_neg (show ¬ v3 ≤ b by rw [h.1.2.2.2.1]; exact z), if_neg (show ¬ (6 : Int32) ≤ b by rw [i32_leq, t_6]; omega), if_neg z, h.can g ⟨h0, hb⟩, will_n hf, rd_temper h6, c36 ⟨k0, k10⟩, cl_b (b := b), a3]
      have es2 : st = s (36 + (dX12_clock s).toInt.toNat) := by rw [es, ec, hst _ (by omega)]
      have ep2 : po = s (46 + (dX12_clock s).toInt.toNat) := by rw [ep, ec, hst _ (by omega)]
      rw [← es2]
      by_cases zc : dX12_canBuy s b = 0
      · rw [if_pos zc, if_pos zc]
        exact day_n hf n (b + 1) who v0 v5 _ f3 f6 f8 f7 s _ _ h g hst es ep (by omega) (by omega) (by omega)
      · rw [if_neg zc, if_neg zc]
        by_cases zw : s (12 + 4 * b.toInt.toNat) + st < 12
        · rw [if_pos zw, if_pos zw, if_pos rfl]
          exact day_n hf n (b + 1) who v0 v5 _ f3 f6 f8 f7 s _ _ h g hst es ep (by omega) (by omega) (by omega)
        · rw [if_neg zw, if_neg zw, if_neg one_ne, comes_eq h6 hn6]
          by_cases zm : dX12_isMet s 0 b = 0
          · have zp : ((po >>> (b &&& 31)) &&& 1) = 0 := by rw [ep2]; exact (met_eq g).mp zm
            obtain ⟨t1, t2⟩ := h.takes g ⟨h0, hb⟩
            rw [if_pos zm, if_pos zp, if_neg one_ne, t1]
            have hs3 : tkB s b.toInt.toNat 3 = s 3 := tk_no (by omega) (by omega) (by omega) (by omega)
            exact day_n hf n (b + 1) _ _ _ _ _ _ _ f7 (tkB s b.toInt.toNat) _ _ t2 (g.takes hn6 (can_le h6 zc)) (hst.tr (StL.tk hn6)) es ep (by omega) (by rw [hs3]; omega) (by rw [hs3]; omega)
          · have zp : ¬ ((po >>> (b &&& 31)) &&& 1) = 0 := by rw [ep2]; exact fun y => zm ((met_eq g).mpr y)
            rw [if_neg zm, if_neg zp, if_pos rfl, a7]
            have hs3 : mtB s b.toInt.toNat 3 = s 3 := mt_no (by omega) (by omega)
            have h' := h.meets hn6
            rw [← h.1.2.2.2.2.1] at h'
            exact day_n hf n (b + 1) who v0 v5 _ f3 f6 _ _ (mtB s b.toInt.toNat) _ _ h' (g.meets hn6) (hst.tr (StL.mt hn6)) es ep (by omega) (by rw [hs3]; omega) (by rw [hs3]; omega)
def wtB (st x : Int32) : Int32 := if st < 5 then (if 2 < st then x else if x ≤ 0 then x - 0 else x - 1) else if 20 ≤ x then x + 0 else x + 1
def mrB (st : Int32) : Int32 := if st < 5 then (if 2 < st then 0 else -1) else 1
def ctB (m x : Int32) : Int32 := if (0 : Int32) < (if (x + m) < (20 : Int32) then (x + m) else (20 : Int32)) then (if (x + m) < (20 : Int32) then (x + m) else (20 : Int32)) else (0 : Int32)
theorem t_20 : (20 : Int32).toInt = 20 := by decide
theorem wt_eq {st x : Int32} (h : 0 ≤ x.toInt ∧ x.toInt ≤ 20) : ctB (mrB st) x = wtB st x ∧ 0 ≤ (wtB st x).toInt ∧ (wtB st x).toInt ≤ 20 := by
  have e0 : (x + 0).toInt = x.toInt := by rw [ix_k rfl t_0 (by omega)]; omega
  have e1 : (x + 1).toInt = x.toInt + 1 := by rw [ix_k rfl t_1 (by omega)]
  have em : (x + -1).toInt = x.toInt - 1 := by rw [ix_k rfl t_m1 (by omega)]; omega
  have s0 : (x - 0).toInt = x.toInt := by rw [sub_toInt (by rw [t_0]; omega) (by rw [t_0]; omega), t_0]; omega
  have s1 : (x - 1).toInt = x.toInt - 1 := by rw [sub_toInt (by rw [t_1]; omega) (by rw [t_1]; omega), t_1]
  unfold ctB wtB mrB
  by_cases a : st < 5
  · rw [if_pos a, if_pos a]
    by_cases b : 2 < st
    · rw [if_pos b, if_pos b]
      refine ⟨?_, h⟩
      by_cases c : x + 0 < (20 : Int32)
      · rw [if_pos c]
        by_cases d : (0 : Int32) < x + 0
        · rw [if_pos d]; exact Int32.toInt_inj.mp e0
        · rw [if_neg d]
          rw [i32_lt, t_0, e0] at d
          exact Int32.toInt_inj.mp (by rw [t_0]; omega)
      · rw [if_neg c, if_pos (by decide)]
        rw [i32_lt, t_20, e0] at c
        exact Int32.toInt_inj.mp (by rw [t_20]; omega)
    · rw [if_neg b, if_neg b]
      have c : x + -1 < (20 : Int32) := by rw [i32_lt, t_20, em]; omega
      rw [if_pos c]
      by_cases d : x ≤ 0
      · rw [if_pos d, if_neg (by rw [i32_lt, t_0, em]; rw [i32_leq, t_0] at d; omega)]
        rw [i32_leq, t_0] at d
        exact ⟨Int32.toInt_inj.mp (by rw [s0, t_0]; omega), by rw [s0]; omega⟩
      · rw [if_neg d]
        rw [i32_leq, t_0] at d
        refine ⟨?_, by rw [s1]; omega⟩
        by_cases e : (0 : Int32) < x + -1
        · rw [if_pos e]; exact Int32.toInt_inj.mp (by rw [em, s1])
        · rw [if_neg e]
          rw [i32_lt, t_0, em] at e
          exact Int32.toInt_inj.mp (by rw [t_0, s1]; omega)
  · rw [if_neg a, if_neg a]
    by_cases d : (20 : Int32) ≤ x
    · rw [if_pos d, if_neg (show ¬ x + 1 < (20 : Int32) by rw [i32_lt, t_20, e1]; rw [i32_leq, t_20] at d; omega), if_pos (show (0 : Int32) < 20 by decide)]
      rw [i32_leq, t_20] at d
      exact ⟨Int32.toInt_inj.mp (by rw [t_20, e0]; omega), by rw [e0]; omega⟩
    · rw [if_neg d]
      rw [i32_leq, t_20] at d
      refine ⟨?_, by rw [e1]; omega⟩
      by_cases c : x + 1 < (20 : Int32)
      · rw [if_pos c, if_pos (by rw [i32_lt, t_0, e1]; omega)]
      · rw [if_neg c, if_pos (by decide)]
        rw [i32_lt, t_20, e1] at c
        exact Int32.toInt_inj.mp (by rw [t_20, e1]; omega)
def WtE (s : Nat → Int32) (f3 t : Nat → Int32) : Prop := (∀ k : Nat, k < 6 → f3 k = t (12 + 4 * k)) ∧ (∀ k : Nat, (∀ j : Nat, j < 6 → k ≠ 12 + 4 * j) → t k = s k) ∧ ∀ k : Nat, k < 6 → 0 ≤ (t (12 + 4 * k)).toInt ∧ (t (12 + 4 * k)).toInt ≤ 20
theorem weath {st : Int32} {v3 : Int32} {s : Nat → Int32} (h3 : v3 = s 3) (h36 : 0 ≤ (s 3).toInt ∧ (s 3).toInt ≤ 6) : ∀ (n : Nat) (b : Int32) (f3 t : Nat → Int32), WtE s f3 t → 0 ≤ b.toInt → b.toInt ≤ (s 3).toInt → (s 3).toInt - b.toInt < (n : Int) → WtE s (dX9_changeTempers_l22 v3 (mrB st) n b f3).2 (dX12_weathers_l15 st n b t).2
  | 0, b, f3, t, h, h0, h1, hn => by omega
  | n + 1, b, f3, t, h, h0, h1, hn => by
    have et3 : t 3 = s 3 := h.2.1 3 (fun j hj => by omega)
    rw [dX9_changeTempers_l22_s, dX12_weathers_l15_s, cl_l3, et3, h3]
    by_cases z : s 3 ≤ b
    · rw [if_pos z, if_pos z]
      exact h
    · have hb : b.toInt < (s 3).toInt := by rw [i32_leq] at z; omega
      have h6 : 0 ≤ b.toInt ∧ b.toInt < 6 := by omega
      have hn6 : b.toInt.toNat < 6 := by omega
      have e1 : (b + 1).toInt = b.toInt + 1 := by rw [ix_k rfl t_1 (by omega)]
      rw [if_neg z, if_neg z, if_neg (show ¬ (6 : Int32) ≤ b by rw [i32_leq, t_6]; omega), c12 h6, cl_b (b := b)]
      have ea := h.1 _ hn6
      obtain ⟨w1, w2⟩ := wt_eq (st := st) (h.2.2 _ hn6)
      have key : WtE s (upd f3 b.toInt.toNat (ctB (mrB st) (f3 b.toInt.toNat))) (upd t (12 + 4 * b.toInt.toNat) (wtB st (t (12 + 4 * b.toInt.toNat)))) := by
        refine ⟨fun k hk => ?_, fun k hk => ?_, fun k hk => ?_⟩
        · by_cases y : k = b.toInt.toNat
          · rw [y, upd_at, upd_at, ea, w1]
          · rw [upd_ne y, upd_ne (by omega)]; exact h.1 k hk
        · rw [upd_ne (hk _ hn6)]; exact h.2.1 k hk
        · by_cases y : k = b.toInt.toNat
          · rw [y, upd_at]; exact w2
          · rw [upd_ne (by omega)]; exact h.2.2 k hk
      have hm : ∀ t', t' = upd t (12 + 4 * b.toInt.toNat) (wtB st (t (12 + 4 * b.toInt.toNat))) → WtE s (dX9_changeTempers_l22 (s 3) (mrB st) n (b + 1) (upd f3 b.toInt.toNat (ctB (mrB st) (f3 b.toInt.toNat)))).2 (dX12_weathers_l15 st n (b + 1) t').2 := fun t' et => by
        rw [et]
        exact weath rfl h36 n (b + 1) _ _ key (by omega) (by omega) (by omega)
      have hk0 : wtB st (t (12 + 4 * b.toInt.toNat)) = t (12 + 4 * b.toInt.toNat) → t = upd t (12 + 4 * b.toInt.toNat) (wtB st (t (12 + 4 * b.toInt.toNat))) := fun e => by
        rw [e]
        funext k
        by_cases y : k = 12 + 4 * b.toInt.toNat
        · rw [y, upd_at]
        · rw [upd_ne y]
      show WtE s (dX9_changeTempers_l22 (s 3) (mrB st) n (b + 1) (upd f3 b.toInt.toNat (ctB (mrB st) (f3 b.toInt.toNat)))).2 _
      by_cases a : st < 5
      · rw [if_pos a]
        by_cases c : 2 < st
        · rw [if_pos c]
          exact hm t (hk0 (by unfold wtB; rw [if_pos a, if_pos c]))
        · rw [if_neg c]
          by_cases d : t (12 + 4 * b.toInt.toNat) ≤ 0
          · rw [if_pos d]; exact hm _ (by unfold wtB; rw [if_pos a, if_neg c, if_pos d])
          · rw [if_neg d]; exact hm _ (by unfold wtB; rw [if_pos a, if_neg c, if_neg d])
      · rw [if_neg a]
        by_cases d : (20 : Int32) ≤ t (12 + 4 * b.toInt.toNat)
        · rw [if_pos d]; exact hm _ (by unfold wtB; rw [if_neg a, if_pos d])
        · rw [if_neg d]; exact hm _ (by unfold wtB; rw [if_neg a, if_neg d])
theorem change_eq {f3 : Nat → Int32} {v3 st : Int32} : dX9_changeTempers f3 v3 st = (dX9_changeTempers_l22 v3 (mrB st) ((6 - (0 : Int32).toInt).toNat + 1) 0 f3).2 := by
  unfold dX9_changeTempers mrB
  by_cases a : st < 5
  · rw [if_pos a, if_pos a]
    by_cases c : 2 < st
    · rw [if_pos c, if_pos c]
    · rw [if_neg c, if_neg c]
  · rw [if_neg a, if_neg a]
theorem weath_all {f3 s : Nat → Int32} {v3 : Int32} (g : Gs s) (h3 : v3 = s 3) (hf : ∀ k : Nat, k < 6 → f3 k = s (12 + 4 * k)) : WtE s (dX9_changeTempers f3 v3 (s (36 + (dX12_clock s).toInt.toNat))) (dX12_weathers s) := by
  obtain ⟨-, -, k0, -, k10⟩ := clk g
  have g3 := g.1.2.2.1
  rw [change_eq]
  unfold dX12_weathers
  rw [c36 ⟨k0, k10⟩]
  refine weath h3 g3 _ 0 f3 s ⟨hf, fun _ _ => rfl, fun k hk => (g.2 k hk).1⟩ (by decide) (by rw [t_0]; omega) ?_
  rw [t_0]
  show (s 3).toInt - 0 < (((6 - 0 : Int).toNat + 1 : Nat) : Int)
  omega
theorem cmp0 {b : Int64} : (lg_cmp b 0 = 0) ↔ b = 0 := lg_cmp_eq b 0
theorem joined_eq {x : Int32} {a b : Int64} : dX6_joined x a b = ev_j x.toInt a b := by
  by_cases h16 : x = -16
  · subst h16
    unfold dX6_joined
    rw [if_pos (show ((-16) : Int32) = (-16) from rfl), show ((-16) : Int32).toInt = -16 by decide]
    unfold ev_j
    rw [if_neg (show ¬ ((-16) : Int) = (-12) by decide), if_neg (show ¬ ((-16) : Int) = (-13) by decide), if_neg (show ¬ ((-16) : Int) = (-14) by decide), if_neg (show ¬ ((-16) : Int) = (-15) by decide), if_pos (show ((-16) : Int) = (-16) from rfl)]
    by_cases z : b = 0
    · rw [if_pos z, if_pos (cmp0.mpr z)]
    · rw [if_neg z, if_neg (fun y => z (cmp0.mp y))]
  by_cases h15 : x = -15
  · subst h15
    unfold dX6_joined
    rw [if_neg (show ¬ ((-15) : Int32) = (-16) by decide), if_pos (show ((-15) : Int32) = (-15) from rfl), show ((-15) : Int32).toInt = -15 by decide]
    unfold ev_j
    rw [if_neg (show ¬ ((-15) : Int) = (-12) by decide), if_neg (show ¬ ((-15) : Int) = (-13) by decide), if_neg (show ¬ ((-15) : Int) = (-14) by decide), if_pos (show ((-15) : Int) = (-15) from rfl)]
    by_cases z : b = 0
    · rw [if_pos z, if_pos (cmp0.mpr z)]
    · rw [if_neg z, if_neg (fun y => z (cmp0.mp y))]
  by_cases h14 : x = -14
  · subst h14
    unfold dX6_joined
    rw [if_neg (show ¬ ((-14) : Int32) = (-16) by decide), if_neg (show ¬ ((-14) : Int32) = (-15) by decide), if_pos (show ((-14) : Int32) = (-14) from rfl), show ((-14) : Int32).toInt = -14 by decide]
    unfold ev_j
    rw [if_neg (show ¬ ((-14) : Int) = (-12) by decide), if_neg (show ¬ ((-14) : Int) = (-13) by decide), if_pos (show ((-14) : Int) = (-14) from rfl)]
  by_cases h13 : x = -13
  · subst h13
    unfold dX6_joined
    rw [if_neg (show ¬ ((-13) : Int32) = (-16) by decide), if_neg (show ¬ ((-13) : Int32) = (-15) by decide), if_neg (show ¬ ((-13) : Int32) = (-14) by decide), if_pos (show ((-13) : Int32) = (-13) from rfl), show ((-13) : Int32).toInt = -13 by decide]
    unfold ev_j
    rw [if_neg (show ¬ ((-13) : Int) = (-12) by decide), if_pos (show ((-13) : Int) = (-13) from rfl)]
  by_cases h12 : x = -12
  · subst h12
    unfold dX6_joined
    rw [if_neg (show ¬ ((-12) : Int32) = (-16) by decide), if_neg (show ¬ ((-12) : Int32) = (-15) by decide), if_neg (show ¬ ((-12) : Int32) = (-14) by decide), if_neg (show ¬ ((-12) : Int32) = (-13) by decide), if_pos (show ((-12) : Int32) = (-12) from rfl), show ((-12) : Int32).toInt = -12 by decide]
    unfold ev_j
    rw [if_pos (show ((-12) : Int) = (-12) from rfl)]
  have hj : dX6_joined x a b = if dX6_holds x a b = 0 then 0 else 1 := by
    unfold dX6_joined
    rw [if_neg h16, if_neg h15, if_neg h14, if_neg h13, if_neg h12]
  rw [hj]
  by_cases h11 : x = -11
  · subst h11
    unfold dX6_holds
    rw [if_pos (show ((-11) : Int32) = (-11) from rfl), show ((-11) : Int32).toInt = -11 by decide]
    unfold ev_j
    rw [if_neg (show ¬ ((-11) : Int) = (-12) by decide), if_neg (show ¬ ((-11) : Int) = (-13) by decide), if_neg (show ¬ ((-11) : Int) = (-14) by decide), if_neg (show ¬ ((-11) : Int) = (-15) by decide), if_neg (show ¬ ((-11) : Int) = (-16) by decide), if_neg (show ¬ ((-11) : Int) = (-5) by decide), if_neg (show ¬ ((-11) : Int) = (-6) by decide), if_neg (show ¬ ((-11) : Int) = (-7) by decide), if_neg (show ¬ ((-11) : Int) = (-8) by decide), if_neg (show ¬ ((-11) : Int) = (-9) by decide), if_neg (show ¬ ((-11) : Int) = (-10) by decide), if_pos (show ((-11) : Int) = (-11) from rfl)]
    by_cases z : b < a
    · rw [if_pos z, if_neg (fun y => absurd ((lg_cmp_le a b).mp y) (Int64.not_le.mpr z)), if_neg one_ne]
    · rw [if_neg z, if_pos ((lg_cmp_le a b).mpr (Int64.not_lt.mp z)), if_pos rfl]
  by_cases h10 : x = -10
  · subst h10
    unfold dX6_holds
    rw [if_neg (show ¬ ((-10) : Int32) = (-11) by decide), if_pos (show ((-10) : Int32) = (-10) from rfl), show ((-10) : Int32).toInt = -10 by decide]
    unfold ev_j
    rw [if_neg (show ¬ ((-10) : Int) = (-12) by decide), if_neg (show ¬ ((-10) : Int) = (-13) by decide), if_neg (show ¬ ((-10) : Int) = (-14) by decide), if_neg (show ¬ ((-10) : Int) = (-15) by decide), if_neg (show ¬ ((-10) : Int) = (-16) by decide), if_neg (show ¬ ((-10) : Int) = (-5) by decide), if_neg (show ¬ ((-10) : Int) = (-6) by decide), if_neg (show ¬ ((-10) : Int) = (-7) by decide), if_neg (show ¬ ((-10) : Int) = (-8) by decide), if_neg (show ¬ ((-10) : Int) = (-9) by decide), if_pos (show ((-10) : Int) = (-10) from rfl)]
    by_cases z : b ≤ a
    · rw [if_pos z, if_neg (fun y => absurd ((lg_cmp_lt a b).mp y) (Int64.not_lt.mpr z)), if_neg one_ne]
    · rw [if_neg z, if_pos ((lg_cmp_lt a b).mpr (Int64.not_le.mp z)), if_pos rfl]
  by_cases h9 : x = -9
  · subst h9
    unfold dX6_holds
    rw [if_neg (show ¬ ((-9) : Int32) = (-11) by decide), if_neg (show ¬ ((-9) : Int32) = (-10) by decide), if_pos (show ((-9) : Int32) = (-9) from rfl), show ((-9) : Int32).toInt = -9 by decide]
    unfold ev_j
    rw [if_neg (show ¬ ((-9) : Int) = (-12) by decide), if_neg (show ¬ ((-9) : Int) = (-13) by decide), if_neg (show ¬ ((-9) : Int) = (-14) by decide), if_neg (show ¬ ((-9) : Int) = (-15) by decide), if_neg (show ¬ ((-9) : Int) = (-16) by decide), if_neg (show ¬ ((-9) : Int) = (-5) by decide), if_neg (show ¬ ((-9) : Int) = (-6) by decide), if_neg (show ¬ ((-9) : Int) = (-7) by decide), if_neg (show ¬ ((-9) : Int) = (-8) by decide), if_pos (show ((-9) : Int) = (-9) from rfl)]
    by_cases z : a = b
    · rw [if_pos z, if_pos ((lg_cmp_eq a b).mpr z), if_neg one_ne]
    · rw [if_neg z, if_neg (fun y => z ((lg_cmp_eq a b).mp y)), if_pos rfl]
  by_cases h8 : x = -8
  · subst h8
    unfold dX6_holds
    rw [if_neg (show ¬ ((-8) : Int32) = (-11) by decide), if_neg (show ¬ ((-8) : Int32) = (-10) by decide), if_neg (show ¬ ((-8) : Int32) = (-9) by decide), if_pos (show ((-8) : Int32) = (-8) from rfl), show ((-8) : Int32).toInt = -8 by decide]
    unfold ev_j
    rw [if_neg (show ¬ ((-8) : Int) = (-12) by decide), if_neg (show ¬ ((-8) : Int) = (-13) by decide), if_neg (show ¬ ((-8) : Int) = (-14) by decide), if_neg (show ¬ ((-8) : Int) = (-15) by decide), if_neg (show ¬ ((-8) : Int) = (-16) by decide), if_neg (show ¬ ((-8) : Int) = (-5) by decide), if_neg (show ¬ ((-8) : Int) = (-6) by decide), if_neg (show ¬ ((-8) : Int) = (-7) by decide), if_pos (show ((-8) : Int) = (-8) from rfl)]
    by_cases z : a ≤ b
    · rw [if_pos z, if_neg (fun y => absurd ((lg_cmp_gt a b).mp y) (Int64.not_lt.mpr z)), if_neg one_ne]
    · rw [if_neg z, if_pos ((lg_cmp_gt a b).mpr (Int64.not_le.mp z)), if_pos rfl]
  by_cases h7 : x = -7
  · subst h7
    unfold dX6_holds
    rw [if_neg (show ¬ ((-7) : Int32) = (-11) by decide), if_neg (show ¬ ((-7) : Int32) = (-10) by decide), if_neg (show ¬ ((-7) : Int32) = (-9) by decide), if_neg (show ¬ ((-7) : Int32) = (-8) by decide), if_pos (show ((-7) : Int32) = (-7) from rfl), show ((-7) : Int32).toInt = -7 by decide]
    unfold ev_j
    rw [if_neg (show ¬ ((-7) : Int) = (-12) by decide), if_neg (show ¬ ((-7) : Int) = (-13) by decide), if_neg (show ¬ ((-7) : Int) = (-14) by decide), if_neg (show ¬ ((-7) : Int) = (-15) by decide), if_neg (show ¬ ((-7) : Int) = (-16) by decide), if_neg (show ¬ ((-7) : Int) = (-5) by decide), if_neg (show ¬ ((-7) : Int) = (-6) by decide), if_pos (show ((-7) : Int) = (-7) from rfl)]
    by_cases z : a < b
    · rw [if_pos z, if_neg (fun y => absurd ((lg_cmp_ge a b).mp y) (Int64.not_le.mpr z)), if_neg one_ne]
    · rw [if_neg z, if_pos ((lg_cmp_ge a b).mpr (Int64.not_lt.mp z)), if_pos rfl]
  by_cases h6 : x = -6
  · subst h6
    unfold dX6_holds
    rw [if_neg (show ¬ ((-6) : Int32) = (-11) by decide), if_neg (show ¬ ((-6) : Int32) = (-10) by decide), if_neg (show ¬ ((-6) : Int32) = (-9) by decide), if_neg (show ¬ ((-6) : Int32) = (-8) by decide), if_neg (show ¬ ((-6) : Int32) = (-7) by decide), if_pos (show ((-6) : Int32) = (-6) from rfl), show ((-6) : Int32).toInt = -6 by decide]
    unfold ev_j
    rw [if_neg (show ¬ ((-6) : Int) = (-12) by decide), if_neg (show ¬ ((-6) : Int) = (-13) by decide), if_neg (show ¬ ((-6) : Int) = (-14) by decide), if_neg (show ¬ ((-6) : Int) = (-15) by decide), if_neg (show ¬ ((-6) : Int) = (-16) by decide), if_neg (show ¬ ((-6) : Int) = (-5) by decide), if_pos (show ((-6) : Int) = (-6) from rfl)]
    by_cases za : a = 0
    · rw [if_pos (cmp0.mpr za)]
      by_cases zb : b = 0
      · rw [if_pos (cmp0.mpr zb), if_pos rfl, if_neg (show ¬ (a ≠ 0 ∨ b ≠ 0) from fun y => y.elim (fun q => q za) (fun q => q zb))]
      · rw [if_neg (fun y => zb (cmp0.mp y)), if_neg one_ne, if_pos (show a ≠ 0 ∨ b ≠ 0 from Or.inr zb)]
    · rw [if_neg (fun y => za (cmp0.mp y)), if_neg one_ne, if_pos (show a ≠ 0 ∨ b ≠ 0 from Or.inl za)]
  by_cases h5 : x = -5
  · subst h5
    unfold dX6_holds
    rw [if_neg (show ¬ ((-5) : Int32) = (-11) by decide), if_neg (show ¬ ((-5) : Int32) = (-10) by decide), if_neg (show ¬ ((-5) : Int32) = (-9) by decide), if_neg (show ¬ ((-5) : Int32) = (-8) by decide), if_neg (show ¬ ((-5) : Int32) = (-7) by decide), if_neg (show ¬ ((-5) : Int32) = (-6) by decide), if_pos (show ((-5) : Int32) = (-5) from rfl), show ((-5) : Int32).toInt = -5 by decide]
    unfold ev_j
    rw [if_neg (show ¬ ((-5) : Int) = (-12) by decide), if_neg (show ¬ ((-5) : Int) = (-13) by decide), if_neg (show ¬ ((-5) : Int) = (-14) by decide), if_neg (show ¬ ((-5) : Int) = (-15) by decide), if_neg (show ¬ ((-5) : Int) = (-16) by decide), if_pos (show ((-5) : Int) = (-5) from rfl)]
    by_cases za : a = 0
    · rw [if_pos (cmp0.mpr za), if_pos rfl, if_neg (show ¬ (a ≠ 0 ∧ b ≠ 0) from fun y => y.1 za)]
    · rw [if_neg (fun y => za (cmp0.mp y))]
      by_cases zb : b = 0
      · rw [if_pos (cmp0.mpr zb), if_pos rfl, if_neg (show ¬ (a ≠ 0 ∧ b ≠ 0) from fun y => y.2 zb)]
      · rw [if_neg (fun y => zb (cmp0.mp y)), if_neg one_ne, if_pos (show a ≠ 0 ∧ b ≠ 0 from ⟨za, zb⟩)]
  unfold dX6_holds
  rw [if_neg h11, if_neg h10, if_neg h9, if_neg h8, if_neg h7, if_neg h6, if_neg h5, if_pos rfl]
  have nn : ∀ (v : Int32) (w : Int), v.toInt = w → ¬ x = v → ¬ x.toInt = w := fun v w hv hx z => hx (Int32.toInt_inj.mp (z.trans hv.symm))
  unfold ev_j
  rw [if_neg (nn (-12) (-12) (by decide) h12), if_neg (nn (-13) (-13) (by decide) h13), if_neg (nn (-14) (-14) (by decide) h14), if_neg (nn (-15) (-15) (by decide) h15), if_neg (nn (-16) (-16) (by decide) h16), if_neg (nn (-5) (-5) (by decide) h5), if_neg (nn (-6) (-6) (by decide) h6), if_neg (nn (-7) (-7) (by decide) h7), if_neg (nn (-8) (-8) (by decide) h8), if_neg (nn (-9) (-9) (by decide) h9), if_neg (nn (-10) (-10) (by decide) h10), if_neg (nn (-11) (-11) (by decide) h11)]
theorem one_eq {x : Int32} {o : Int} {a b : Int64} (ho : -16 ≤ o ∧ o ≤ -5) (hx : x.toInt = rC o) : dX12_one x a b = ev_r o a b := by
  have lit : ∀ v : Int32, x.toInt = v.toInt → x = v := fun v z => Int32.toInt_inj.mp z
  have hv : o = -16 ∨ o = -15 ∨ o = -14 ∨ o = -13 ∨ o = -12 ∨ o = -11 ∨ o = -10 ∨ o = -9 ∨ o = -8 ∨ o = -7 ∨ o = -6 ∨ o = -5 := by omega
  rcases hv with rfl | rfl | rfl | rfl | rfl | rfl | rfl | rfl | rfl | rfl | rfl | rfl
  · skip
    have hx : x = 14 := lit 14 (by rw [hx]; decide)
    subst hx
    unfold dX12_one
    rw [if_neg (show ¬ ((14) : Int32) = (2) by decide), if_neg (show ¬ ((14) : Int32) = (3) by decide), if_neg (show ¬ ((14) : Int32) = (4) by decide), if_neg (show ¬ ((14) : Int32) = (5) by decide), if_neg (show ¬ ((14) : Int32) = (6) by decide), if_neg (show ¬ ((14) : Int32) = (7) by decide), if_neg (show ¬ ((14) : Int32) = (8) by decide), if_neg (show ¬ ((14) : Int32) = (9) by decide), if_neg (show ¬ ((14) : Int32) = (10) by decide), if_neg (show ¬ ((14) : Int32) = (11) by decide), if_neg (show ¬ ((14) : Int32) = (12) by decide), if_neg (show ¬ ((14) : Int32) = (13) by decide), if_pos (show ((14) : Int32) = (14) from rfl)]
    unfold ev_r
    rw [if_neg (show ¬ ((-16) : Int) = (-5) by decide), if_neg (show ¬ ((-16) : Int) = (-6) by decide)]
    unfold ev_j
    rw [if_neg (show ¬ ((-16) : Int) = (-12) by decide), if_neg (show ¬ ((-16) : Int) = (-13) by decide), if_neg (show ¬ ((-16) : Int) = (-14) by decide), if_neg (show ¬ ((-16) : Int) = (-15) by decide), if_pos (show ((-16) : Int) = (-16) from rfl)]
    by_cases z : b = 0
    · rw [if_pos z, if_pos (cmp0.mpr z)]
    · rw [if_neg z, if_neg (fun y => z (cmp0.mp y))]
  · skip
    have hx : x = 5 := lit 5 (by rw [hx]; decide)
    subst hx
    unfold dX12_one
    rw [if_neg (show ¬ ((5) : Int32) = (2) by decide), if_neg (show ¬ ((5) : Int32) = (3) by decide), if_neg (show ¬ ((5) : Int32) = (4) by decide), if_pos (show ((5) : Int32) = (5) from rfl)]
    unfold ev_r
    rw [if_neg (show ¬ ((-15) : Int) = (-5) by decide), if_neg (show ¬ ((-15) : Int) = (-6) by decide)]
    unfold ev_j
    rw [if_neg (show ¬ ((-15) : Int) = (-12) by decide), if_neg (show ¬ ((-15) : Int) = (-13) by decide), if_neg (show ¬ ((-15) : Int) = (-14) by decide), if_pos (show ((-15) : Int) = (-15) from rfl)]
    by_cases z : b = 0
    · rw [if_pos z, if_pos (cmp0.mpr z)]
    · rw [if_neg z, if_neg (fun y => z (cmp0.mp y))]
  · skip
    have hx : x = 4 := lit 4 (by rw [hx]; decide)
    subst hx
    unfold dX12_one
    rw [if_neg (show ¬ ((4) : Int32) = (2) by decide), if_neg (show ¬ ((4) : Int32) = (3) by decide), if_pos (show ((4) : Int32) = (4) from rfl)]
    unfold ev_r
    rw [if_neg (show ¬ ((-14) : Int) = (-5) by decide), if_neg (show ¬ ((-14) : Int) = (-6) by decide)]
    unfold ev_j
    rw [if_neg (show ¬ ((-14) : Int) = (-12) by decide), if_neg (show ¬ ((-14) : Int) = (-13) by decide), if_pos (show ((-14) : Int) = (-14) from rfl)]
  · skip
    have hx : x = 3 := lit 3 (by rw [hx]; decide)
    subst hx
    unfold dX12_one
    rw [if_neg (show ¬ ((3) : Int32) = (2) by decide), if_pos (show ((3) : Int32) = (3) from rfl)]
    unfold ev_r
    rw [if_neg (show ¬ ((-13) : Int) = (-5) by decide), if_neg (show ¬ ((-13) : Int) = (-6) by decide)]
    unfold ev_j
    rw [if_neg (show ¬ ((-13) : Int) = (-12) by decide), if_pos (show ((-13) : Int) = (-13) from rfl)]
  · skip
    have hx : x = 2 := lit 2 (by rw [hx]; decide)
    subst hx
    unfold dX12_one
    rw [if_pos (show ((2) : Int32) = (2) from rfl)]
    unfold ev_r
    rw [if_neg (show ¬ ((-12) : Int) = (-5) by decide), if_neg (show ¬ ((-12) : Int) = (-6) by decide)]
    unfold ev_j
    rw [if_pos (show ((-12) : Int) = (-12) from rfl)]
  · skip
    have hx : x = 10 := lit 10 (by rw [hx]; decide)
    subst hx
    unfold dX12_one
    rw [if_neg (show ¬ ((10) : Int32) = (2) by decide), if_neg (show ¬ ((10) : Int32) = (3) by decide), if_neg (show ¬ ((10) : Int32) = (4) by decide), if_neg (show ¬ ((10) : Int32) = (5) by decide), if_neg (show ¬ ((10) : Int32) = (6) by decide), if_neg (show ¬ ((10) : Int32) = (7) by decide), if_neg (show ¬ ((10) : Int32) = (8) by decide), if_neg (show ¬ ((10) : Int32) = (9) by decide), if_pos (show ((10) : Int32) = (10) from rfl)]
    unfold ev_r
    rw [if_neg (show ¬ ((-11) : Int) = (-5) by decide), if_neg (show ¬ ((-11) : Int) = (-6) by decide)]
    unfold ev_j
    rw [if_neg (show ¬ ((-11) : Int) = (-12) by decide), if_neg (show ¬ ((-11) : Int) = (-13) by decide), if_neg (show ¬ ((-11) : Int) = (-14) by decide), if_neg (show ¬ ((-11) : Int) = (-15) by decide), if_neg (show ¬ ((-11) : Int) = (-16) by decide), if_neg (show ¬ ((-11) : Int) = (-5) by decide), if_neg (show ¬ ((-11) : Int) = (-6) by decide), if_neg (show ¬ ((-11) : Int) = (-7) by decide), if_neg (show ¬ ((-11) : Int) = (-8) by decide), if_neg (show ¬ ((-11) : Int) = (-9) by decide), if_neg (show ¬ ((-11) : Int) = (-10) by decide), if_pos (show ((-11) : Int) = (-11) from rfl)]
    by_cases z : b < a
    · rw [if_pos z, if_neg (fun y => absurd ((lg_cmp_le a b).mp y) (Int64.not_le.mpr z))]
    · rw [if_neg z, if_pos ((lg_cmp_le a b).mpr (Int64.not_lt.mp z))]
  · skip
    have hx : x = 9 := lit 9 (by rw [hx]; decide)
    subst hx
    unfold dX12_one
    rw [if_neg (show ¬ ((9) : Int32) = (2) by decide), if_neg (show ¬ ((9) : Int32) = (3) by decide), if_neg (show ¬ ((9) : Int32) = (4) by decide), if_neg (show ¬ ((9) : Int32) = (5) by decide), if_neg (show ¬ ((9) : Int32) = (6) by decide), if_neg (show ¬ ((9) : Int32) = (7) by decide), if_neg (show ¬ ((9) : Int32) = (8) by decide), if_pos (show ((9) : Int32) = (9) from rfl)]
    unfold ev_r
    rw [if_neg (show ¬ ((-10) : Int) = (-5) by decide), if_neg (show ¬ ((-10) : Int) = (-6) by decide)]
    unfold ev_j
    rw [if_neg (show ¬ ((-10) : Int) = (-12) by decide), if_neg (show ¬ ((-10) : Int) = (-13) by decide), if_neg (show ¬ ((-10) : Int) = (-14) by decide), if_neg (show ¬ ((-10) : Int) = (-15) by decide), if_neg (show ¬ ((-10) : Int) = (-16) by decide), if_neg (show ¬ ((-10) : Int) = (-5) by decide), if_neg (show ¬ ((-10) : Int) = (-6) by decide), if_neg (show ¬ ((-10) : Int) = (-7) by decide), if_neg (show ¬ ((-10) : Int) = (-8) by decide), if_neg (show ¬ ((-10) : Int) = (-9) by decide), if_pos (show ((-10) : Int) = (-10) from rfl)]
    by_cases z : b ≤ a
    · rw [if_pos z, if_neg (fun y => absurd ((lg_cmp_lt a b).mp y) (Int64.not_lt.mpr z))]
    · rw [if_neg z, if_pos ((lg_cmp_lt a b).mpr (Int64.not_le.mp z))]
  · skip
    have hx : x = 8 := lit 8 (by rw [hx]; decide)
    subst hx
    unfold dX12_one
    rw [if_neg (show ¬ ((8) : Int32) = (2) by decide), if_neg (show ¬ ((8) : Int32) = (3) by decide), if_neg (show ¬ ((8) : Int32) = (4) by decide), if_neg (show ¬ ((8) : Int32) = (5) by decide), if_neg (show ¬ ((8) : Int32) = (6) by decide), if_neg (show ¬ ((8) : Int32) = (7) by decide), if_pos (show ((8) : Int32) = (8) from rfl)]
    unfold ev_r
    rw [if_neg (show ¬ ((-9) : Int) = (-5) by decide), if_neg (show ¬ ((-9) : Int) = (-6) by decide)]
    unfold ev_j
    rw [if_neg (show ¬ ((-9) : Int) = (-12) by decide), if_neg (show ¬ ((-9) : Int) = (-13) by decide), if_neg (show ¬ ((-9) : Int) = (-14) by decide), if_neg (show ¬ ((-9) : Int) = (-15) by decide), if_neg (show ¬ ((-9) : Int) = (-16) by decide), if_neg (show ¬ ((-9) : Int) = (-5) by decide), if_neg (show ¬ ((-9) : Int) = (-6) by decide), if_neg (show ¬ ((-9) : Int) = (-7) by decide), if_neg (show ¬ ((-9) : Int) = (-8) by decide), if_pos (show ((-9) : Int) = (-9) from rfl)]
    by_cases z : a = b
    · rw [if_pos z, if_pos ((lg_cmp_eq a b).mpr z)]
    · rw [if_neg z, if_neg (fun y => z ((lg_cmp_eq a b).mp y))]
  · skip
    have hx : x = 7 := lit 7 (by rw [hx]; decide)
    subst hx
    unfold dX12_one
    rw [if_neg (show ¬ ((7) : Int32) = (2) by decide), if_neg (show ¬ ((7) : Int32) = (3) by decide), if_neg (show ¬ ((7) : Int32) = (4) by decide), if_neg (show ¬ ((7) : Int32) = (5) by decide), if_neg (show ¬ ((7) : Int32) = (6) by decide), if_pos (show ((7) : Int32) = (7) from rfl)]
    unfold ev_r
    rw [if_neg (show ¬ ((-8) : Int) = (-5) by decide), if_neg (show ¬ ((-8) : Int) = (-6) by decide)]
    unfold ev_j
    rw [if_neg (show ¬ ((-8) : Int) = (-12) by decide), if_neg (show ¬ ((-8) : Int) = (-13) by decide), if_neg (show ¬ ((-8) : Int) = (-14) by decide), if_neg (show ¬ ((-8) : Int) = (-15) by decide), if_neg (show ¬ ((-8) : Int) = (-16) by decide), if_neg (show ¬ ((-8) : Int) = (-5) by decide), if_neg (show ¬ ((-8) : Int) = (-6) by decide), if_neg (show ¬ ((-8) : Int) = (-7) by decide), if_pos (show ((-8) : Int) = (-8) from rfl)]
    by_cases z : a ≤ b
    · rw [if_pos z, if_neg (fun y => absurd ((lg_cmp_gt a b).mp y) (Int64.not_lt.mpr z))]
    · rw [if_neg z, if_pos ((lg_cmp_gt a b).mpr (Int64.not_le.mp z))]
  · skip
    have hx : x = 6 := lit 6 (by rw [hx]; decide)
    subst hx
    unfold dX12_one
    rw [if_neg (show ¬ ((6) : Int32) = (2) by decide), if_neg (show ¬ ((6) : Int32) = (3) by decide), if_neg (show ¬ ((6) : Int32) = (4) by decide), if_neg (show ¬ ((6) : Int32) = (5) by decide), if_pos (show ((6) : Int32) = (6) from rfl)]
    unfold ev_r
    rw [if_neg (show ¬ ((-7) : Int) = (-5) by decide), if_neg (show ¬ ((-7) : Int) = (-6) by decide)]
    unfold ev_j
    rw [if_neg (show ¬ ((-7) : Int) = (-12) by decide), if_neg (show ¬ ((-7) : Int) = (-13) by decide), if_neg (show ¬ ((-7) : Int) = (-14) by decide), if_neg (show ¬ ((-7) : Int) = (-15) by decide), if_neg (show ¬ ((-7) : Int) = (-16) by decide), if_neg (show ¬ ((-7) : Int) = (-5) by decide), if_neg (show ¬ ((-7) : Int) = (-6) by decide), if_pos (show ((-7) : Int) = (-7) from rfl)]
    by_cases z : a < b
    · rw [if_pos z, if_neg (fun y => absurd ((lg_cmp_ge a b).mp y) (Int64.not_le.mpr z))]
    · rw [if_neg z, if_pos ((lg_cmp_ge a b).mpr (Int64.not_lt.mp z))]
  · skip
    have hx : x = 13 := lit 13 (by rw [hx]; decide)
    subst hx
    unfold dX12_one
    rw [if_neg (show ¬ ((13) : Int32) = (2) by decide), if_neg (show ¬ ((13) : Int32) = (3) by decide), if_neg (show ¬ ((13) : Int32) = (4) by decide), if_neg (show ¬ ((13) : Int32) = (5) by decide), if_neg (show ¬ ((13) : Int32) = (6) by decide), if_neg (show ¬ ((13) : Int32) = (7) by decide), if_neg (show ¬ ((13) : Int32) = (8) by decide), if_neg (show ¬ ((13) : Int32) = (9) by decide), if_neg (show ¬ ((13) : Int32) = (10) by decide), if_neg (show ¬ ((13) : Int32) = (11) by decide), if_neg (show ¬ ((13) : Int32) = (12) by decide), if_pos (show ((13) : Int32) = (13) from rfl)]
    unfold ev_r
    rw [if_neg (show ¬ ((-6) : Int) = (-5) by decide), if_pos (show ((-6) : Int) = (-6) from rfl)]
  · skip
    have hx : x = 12 := lit 12 (by rw [hx]; decide)
    subst hx
    unfold dX12_one
    rw [if_neg (show ¬ ((12) : Int32) = (2) by decide), if_neg (show ¬ ((12) : Int32) = (3) by decide), if_neg (show ¬ ((12) : Int32) = (4) by decide), if_neg (show ¬ ((12) : Int32) = (5) by decide), if_neg (show ¬ ((12) : Int32) = (6) by decide), if_neg (show ¬ ((12) : Int32) = (7) by decide), if_neg (show ¬ ((12) : Int32) = (8) by decide), if_neg (show ¬ ((12) : Int32) = (9) by decide), if_neg (show ¬ ((12) : Int32) = (10) by decide), if_neg (show ¬ ((12) : Int32) = (11) by decide), if_pos (show ((12) : Int32) = (12) from rfl)]
    unfold ev_r
    rw [if_pos (show ((-5) : Int) = (-5) from rfl)]
