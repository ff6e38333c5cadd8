set_option maxRecDepth 16384
theorem i32_64 (k : Int32) : k.toInt64.toInt = k.toInt := Int32.toInt_toInt64 k
theorem i32_le (x : Int32) : x.toInt ≤ 2147483647 := by have := x.toInt_lt; omega
theorem imin_f {r x y : Int32} (e : r = if y < x then y else x) : r.toInt ≤ x.toInt ∧ r.toInt ≤ y.toInt ∧ (r.toInt = x.toInt ∨ r.toInt = y.toInt) := by
  by_cases h : y < x
  · rw [if_pos h] at e; subst e; have := Int32.lt_iff_toInt_lt.mp h; omega
  · rw [if_neg h] at e; subst e; have := Int32.le_iff_toInt_le.mp (Int32.not_lt.mp h); omega
theorem imax_f {r x y : Int32} (e : r = if x < y then y else x) : x.toInt ≤ r.toInt ∧ y.toInt ≤ r.toInt ∧ (r.toInt = x.toInt ∨ r.toInt = y.toInt) := by
  by_cases h : x < y
  · rw [if_pos h] at e; subst e; have := Int32.lt_iff_toInt_lt.mp h; omega
  · rw [if_neg h] at e; subst e; have := Int32.le_iff_toInt_le.mp (Int32.not_lt.mp h); omega
theorem add_toInt {x y : Int32} (h1 : -2147483648 ≤ x.toInt + y.toInt) (h2 : x.toInt + y.toInt ≤ 2147483647) : (x + y).toInt = x.toInt + y.toInt := by
  rw [Int32.toInt_add]; exact Int.bmod_eq_of_le (by omega) (by omega)
theorem sub_toInt {x y : Int32} (h1 : -2147483648 ≤ x.toInt - y.toInt) (h2 : x.toInt - y.toInt ≤ 2147483647) : (x - y).toInt = x.toInt - y.toInt := by
  rw [Int32.toInt_sub]; exact Int.bmod_eq_of_le (by omega) (by omega)
theorem mul_toInt {x y : Int32} (h1 : -2147483648 ≤ x.toInt * y.toInt) (h2 : x.toInt * y.toInt ≤ 2147483647) : (x * y).toInt = x.toInt * y.toInt := by
  rw [Int32.toInt_mul]; exact Int.bmod_eq_of_le (by omega) (by omega)
theorem rem_bounds {x y : Int32} (h : 0 < y.toInt) : (0 ≤ x.toInt → 0 ≤ (x - x / y * y).toInt) ∧ (x - x / y * y).toInt < y.toInt := by
  rw [rem_toInt]
  exact ⟨fun h0 => Int.tmod_nonneg _ h0, (tmod_bounds h).2⟩
theorem div_toInt {x y : Int32} (h : 0 ≤ x.toInt) (hy : 0 < y.toInt) : (x / y).toInt = x.toInt / y.toInt := by
  rw [Int32.toInt_div_of_ne_right _ _ (fun z => by rw [z] at hy; exact absurd hy (by decide))]
  exact Int.tdiv_eq_ediv_of_nonneg h
theorem ev63 {b : Int32} (h0 : 0 ≤ b.toInt) (h6 : b.toInt ≤ 6) : ((1 <<< (b &&& 31) : Int32) - 1).toInt ≤ 63 ∧ 0 ≤ ((1 <<< (b &&& 31) : Int32) - 1).toInt := by
  have h : b = 0 ∨ b = 1 ∨ b = 2 ∨ b = 3 ∨ b = 4 ∨ b = 5 ∨ b = 6 := by
    have e : ∀ k : Int32, b.toInt = k.toInt → b = k := fun k z => Int32.toInt_inj.mp z
    have : b.toInt = 0 ∨ b.toInt = 1 ∨ b.toInt = 2 ∨ b.toInt = 3 ∨ b.toInt = 4 ∨ b.toInt = 5 ∨ b.toInt = 6 := by omega
    rcases this with z | z | z | z | z | z | z
    · exact Or.inl (e 0 (by rw [z]; decide))
    · exact Or.inr (Or.inl (e 1 (by rw [z]; decide)))
    · exact Or.inr (Or.inr (Or.inl (e 2 (by rw [z]; decide))))
    · exact Or.inr (Or.inr (Or.inr (Or.inl (e 3 (by rw [z]; decide)))))
    · exact Or.inr (Or.inr (Or.inr (Or.inr (Or.inl (e 4 (by rw [z]; decide))))))
    · exact Or.inr (Or.inr (Or.inr (Or.inr (Or.inr (Or.inl (e 5 (by rw [z]; decide)))))))
    · exact Or.inr (Or.inr (Or.inr (Or.inr (Or.inr (Or.inr (e 6 (by rw [z]; decide)))))))
  rcases h with rfl | rfl | rfl | rfl | rfl | rfl | rfl <;> decide
theorem i64_ne {x : Int32} (h : ¬ x.toInt = 0) : ¬ x.toInt64 = 0 := fun z => h (by rw [← i32_64 x, z]; decide)
theorem nar01 {r : Int32} (h : r.toInt = 0 ∨ r.toInt = 1) : narrow .boolean (.int r) = .int r := by
  rcases h with h | h
  · have : r = 0 := Int32.toInt_inj.mp (by rw [h]; decide)
    rw [this]; rfl
  · have : r = 1 := Int32.toInt_inj.mp (by rw [h]; decide)
    rw [this]; rfl
theorem dX9_canBuy_0 : decode cX9_canBuy 0 = .ok (.aload_n 0, 1) := by decide +kernel
theorem dX9_canBuy_1 : decode cX9_canBuy 1 = .ok (.iload_n 1, 1) := by decide +kernel
theorem dX9_canBuy_2 : decode cX9_canBuy 2 = .ok (.invokevirtual 61, 3) := by decide +kernel
theorem dX9_canBuy_5 : decode cX9_canBuy 5 = .ok (.ifCond .eq 16, 3) := by decide +kernel
theorem dX9_canBuy_8 : decode cX9_canBuy 8 = .ok (.aload_n 0, 1) := by decide +kernel
theorem dX9_canBuy_9 : decode cX9_canBuy 9 = .ok (.getfield 9, 3) := by decide +kernel
theorem dX9_canBuy_12 : decode cX9_canBuy 12 = .ok (.aload_n 0, 1) := by decide +kernel
theorem dX9_canBuy_13 : decode cX9_canBuy 13 = .ok (.getfield 40, 3) := by decide +kernel
theorem dX9_canBuy_16 : decode cX9_canBuy 16 = .ok (.iload_n 1, 1) := by decide +kernel
theorem dX9_canBuy_17 : decode cX9_canBuy 17 = .ok (.iaload, 1) := by decide +kernel
theorem dX9_canBuy_18 : decode cX9_canBuy 18 = .ok (.if_icmp .ge 5, 3) := by decide +kernel
theorem dX9_canBuy_21 : decode cX9_canBuy 21 = .ok (.iconst 0, 1) := by decide +kernel
theorem dX9_canBuy_22 : decode cX9_canBuy 22 = .ok (.ireturn, 1) := by decide +kernel
theorem dX9_canBuy_23 : decode cX9_canBuy 23 = .ok (.aload_n 0, 1) := by decide +kernel
theorem dX9_canBuy_24 : decode cX9_canBuy 24 = .ok (.getfield 52, 3) := by decide +kernel
theorem dX9_canBuy_27 : decode cX9_canBuy 27 = .ok (.iload_n 1, 1) := by decide +kernel
theorem dX9_canBuy_28 : decode cX9_canBuy 28 = .ok (.iaload, 1) := by decide +kernel
theorem dX9_canBuy_29 : decode cX9_canBuy 29 = .ok (.iconst (-1), 1) := by decide +kernel
theorem dX9_canBuy_30 : decode cX9_canBuy 30 = .ok (.if_icmp .eq 23, 3) := by decide +kernel
theorem dX9_canBuy_33 : decode cX9_canBuy 33 = .ok (.aload_n 0, 1) := by decide +kernel
theorem dX9_canBuy_34 : decode cX9_canBuy 34 = .ok (.getfield 24, 3) := by decide +kernel
theorem dX9_canBuy_37 : decode cX9_canBuy 37 = .ok (.aload_n 0, 1) := by decide +kernel
theorem dX9_canBuy_38 : decode cX9_canBuy 38 = .ok (.getfield 52, 3) := by decide +kernel
theorem dX9_canBuy_41 : decode cX9_canBuy 41 = .ok (.iload_n 1, 1) := by decide +kernel
theorem dX9_canBuy_42 : decode cX9_canBuy 42 = .ok (.iaload, 1) := by decide +kernel
theorem dX9_canBuy_43 : decode cX9_canBuy 43 = .ok (.isub, 1) := by decide +kernel
theorem dX9_canBuy_44 : decode cX9_canBuy 44 = .ok (.aload_n 0, 1) := by decide +kernel
theorem dX9_canBuy_45 : decode cX9_canBuy 45 = .ok (.getfield 43, 3) := by decide +kernel
theorem dX9_canBuy_48 : decode cX9_canBuy 48 = .ok (.iload_n 1, 1) := by decide +kernel
theorem dX9_canBuy_49 : decode cX9_canBuy 49 = .ok (.iaload, 1) := by decide +kernel
theorem dX9_canBuy_50 : decode cX9_canBuy 50 = .ok (.if_icmp .le 7, 3) := by decide +kernel
theorem dX9_canBuy_53 : decode cX9_canBuy 53 = .ok (.iconst 1, 1) := by decide +kernel
theorem dX9_canBuy_54 : decode cX9_canBuy 54 = .ok (.goto 4, 3) := by decide +kernel
theorem dX9_canBuy_57 : decode cX9_canBuy 57 = .ok (.iconst 0, 1) := by decide +kernel
theorem dX9_canBuy_58 : decode cX9_canBuy 58 = .ok (.ireturn, 1) := by decide +kernel
theorem dX9_changeTempers_0 : decode cX9_changeTempers 0 = .ok (.iload_n 1, 1) := by decide +kernel
theorem dX9_changeTempers_1 : decode cX9_changeTempers 1 = .ok (.iconst 5, 1) := by decide +kernel
theorem dX9_changeTempers_2 : decode cX9_changeTempers 2 = .ok (.if_icmp .lt 7, 3) := by decide +kernel
theorem dX9_changeTempers_5 : decode cX9_changeTempers 5 = .ok (.iconst 1, 1) := by decide +kernel
theorem dX9_changeTempers_6 : decode cX9_changeTempers 6 = .ok (.goto 13, 3) := by decide +kernel
theorem dX9_changeTempers_9 : decode cX9_changeTempers 9 = .ok (.iload_n 1, 1) := by decide +kernel
theorem dX9_changeTempers_10 : decode cX9_changeTempers 10 = .ok (.iconst 2, 1) := by decide +kernel
theorem dX9_changeTempers_11 : decode cX9_changeTempers 11 = .ok (.if_icmp .gt 7, 3) := by decide +kernel
theorem dX9_changeTempers_14 : decode cX9_changeTempers 14 = .ok (.iconst (-1), 1) := by decide +kernel
theorem dX9_changeTempers_15 : decode cX9_changeTempers 15 = .ok (.goto 4, 3) := by decide +kernel
theorem dX9_changeTempers_18 : decode cX9_changeTempers 18 = .ok (.iconst 0, 1) := by decide +kernel
theorem dX9_changeTempers_19 : decode cX9_changeTempers 19 = .ok (.istore_n 2, 1) := by decide +kernel
theorem dX9_changeTempers_20 : decode cX9_changeTempers 20 = .ok (.iconst 0, 1) := by decide +kernel
theorem dX9_changeTempers_21 : decode cX9_changeTempers 21 = .ok (.istore_n 3, 1) := by decide +kernel
theorem dX9_changeTempers_22 : decode cX9_changeTempers 22 = .ok (.iload_n 3, 1) := by decide +kernel
theorem dX9_changeTempers_23 : decode cX9_changeTempers 23 = .ok (.aload_n 0, 1) := by decide +kernel
theorem dX9_changeTempers_24 : decode cX9_changeTempers 24 = .ok (.getfield 21, 3) := by decide +kernel
theorem dX9_changeTempers_27 : decode cX9_changeTempers 27 = .ok (.if_icmp .ge 38, 3) := by decide +kernel
theorem dX9_changeTempers_30 : decode cX9_changeTempers 30 = .ok (.iload_n 3, 1) := by decide +kernel
theorem dX9_changeTempers_31 : decode cX9_changeTempers 31 = .ok (.bipush 6, 2) := by decide +kernel
theorem dX9_changeTempers_33 : decode cX9_changeTempers 33 = .ok (.if_icmp .ge 32, 3) := by decide +kernel
theorem dX9_changeTempers_36 : decode cX9_changeTempers 36 = .ok (.aload_n 0, 1) := by decide +kernel
theorem dX9_changeTempers_37 : decode cX9_changeTempers 37 = .ok (.getfield 37, 3) := by decide +kernel
theorem dX9_changeTempers_40 : decode cX9_changeTempers 40 = .ok (.iload_n 3, 1) := by decide +kernel
theorem dX9_changeTempers_41 : decode cX9_changeTempers 41 = .ok (.iconst 0, 1) := by decide +kernel
theorem dX9_changeTempers_42 : decode cX9_changeTempers 42 = .ok (.bipush 20, 2) := by decide +kernel
theorem dX9_changeTempers_44 : decode cX9_changeTempers 44 = .ok (.aload_n 0, 1) := by decide +kernel
theorem dX9_changeTempers_45 : decode cX9_changeTempers 45 = .ok (.getfield 37, 3) := by decide +kernel
theorem dX9_changeTempers_48 : decode cX9_changeTempers 48 = .ok (.iload_n 3, 1) := by decide +kernel
theorem dX9_changeTempers_49 : decode cX9_changeTempers 49 = .ok (.iaload, 1) := by decide +kernel
theorem dX9_changeTempers_50 : decode cX9_changeTempers 50 = .ok (.iload_n 2, 1) := by decide +kernel
theorem dX9_changeTempers_51 : decode cX9_changeTempers 51 = .ok (.iadd, 1) := by decide +kernel
theorem dX9_changeTempers_52 : decode cX9_changeTempers 52 = .ok (.invokestatic 100, 3) := by decide +kernel
theorem dX9_changeTempers_55 : decode cX9_changeTempers 55 = .ok (.invokestatic 78, 3) := by decide +kernel
theorem dX9_changeTempers_58 : decode cX9_changeTempers 58 = .ok (.iastore, 1) := by decide +kernel
theorem dX9_changeTempers_59 : decode cX9_changeTempers 59 = .ok (.iinc 3 1, 3) := by decide +kernel
theorem dX9_changeTempers_62 : decode cX9_changeTempers 62 = .ok (.goto (-40), 3) := by decide +kernel
theorem dX9_changeTempers_65 : decode cX9_changeTempers 65 = .ok (.return_, 1) := by decide +kernel
theorem dX9_clear_0 : decode cX9_clear 0 = .ok (.aload_n 0, 1) := by decide +kernel
theorem dX9_clear_1 : decode cX9_clear 1 = .ok (.iconst 0, 1) := by decide +kernel
theorem dX9_clear_2 : decode cX9_clear 2 = .ok (.putfield 9, 3) := by decide +kernel
theorem dX9_clear_5 : decode cX9_clear 5 = .ok (.aload_n 0, 1) := by decide +kernel
theorem dX9_clear_6 : decode cX9_clear 6 = .ok (.iconst 0, 1) := by decide +kernel
theorem dX9_clear_7 : decode cX9_clear 7 = .ok (.putfield 15, 3) := by decide +kernel
theorem dX9_clear_10 : decode cX9_clear 10 = .ok (.aload_n 0, 1) := by decide +kernel
theorem dX9_clear_11 : decode cX9_clear 11 = .ok (.iconst 0, 1) := by decide +kernel
theorem dX9_clear_12 : decode cX9_clear 12 = .ok (.putfield 18, 3) := by decide +kernel
theorem dX9_clear_15 : decode cX9_clear 15 = .ok (.aload_n 0, 1) := by decide +kernel
theorem dX9_clear_16 : decode cX9_clear 16 = .ok (.iconst 0, 1) := by decide +kernel
theorem dX9_clear_17 : decode cX9_clear 17 = .ok (.putfield 21, 3) := by decide +kernel
theorem dX9_clear_20 : decode cX9_clear 20 = .ok (.aload_n 0, 1) := by decide +kernel
theorem dX9_clear_21 : decode cX9_clear 21 = .ok (.iconst 0, 1) := by decide +kernel
theorem dX9_clear_22 : decode cX9_clear 22 = .ok (.putfield 24, 3) := by decide +kernel
theorem dX9_clear_25 : decode cX9_clear 25 = .ok (.aload_n 0, 1) := by decide +kernel
theorem dX9_clear_26 : decode cX9_clear 26 = .ok (.iconst 0, 1) := by decide +kernel
theorem dX9_clear_27 : decode cX9_clear 27 = .ok (.putfield 27, 3) := by decide +kernel
theorem dX9_clear_30 : decode cX9_clear 30 = .ok (.iconst 0, 1) := by decide +kernel
theorem dX9_clear_31 : decode cX9_clear 31 = .ok (.istore_n 1, 1) := by decide +kernel
theorem dX9_clear_32 : decode cX9_clear 32 = .ok (.iload_n 1, 1) := by decide +kernel
theorem dX9_clear_33 : decode cX9_clear 33 = .ok (.bipush 10, 2) := by decide +kernel
theorem dX9_clear_35 : decode cX9_clear 35 = .ok (.if_icmp .ge 23, 3) := by decide +kernel
theorem dX9_clear_38 : decode cX9_clear 38 = .ok (.aload_n 0, 1) := by decide +kernel
theorem dX9_clear_39 : decode cX9_clear 39 = .ok (.getfield 30, 3) := by decide +kernel
theorem dX9_clear_42 : decode cX9_clear 42 = .ok (.iload_n 1, 1) := by decide +kernel
theorem dX9_clear_43 : decode cX9_clear 43 = .ok (.iconst 0, 1) := by decide +kernel
theorem dX9_clear_44 : decode cX9_clear 44 = .ok (.iastore, 1) := by decide +kernel
theorem dX9_clear_45 : decode cX9_clear 45 = .ok (.aload_n 0, 1) := by decide +kernel
theorem dX9_clear_46 : decode cX9_clear 46 = .ok (.getfield 34, 3) := by decide +kernel
theorem dX9_clear_49 : decode cX9_clear 49 = .ok (.iload_n 1, 1) := by decide +kernel
theorem dX9_clear_50 : decode cX9_clear 50 = .ok (.iconst 0, 1) := by decide +kernel
theorem dX9_clear_51 : decode cX9_clear 51 = .ok (.iastore, 1) := by decide +kernel
theorem dX9_clear_52 : decode cX9_clear 52 = .ok (.iinc 1 1, 3) := by decide +kernel
theorem dX9_clear_55 : decode cX9_clear 55 = .ok (.goto (-23), 3) := by decide +kernel
theorem dX9_clear_58 : decode cX9_clear 58 = .ok (.iconst 0, 1) := by decide +kernel
theorem dX9_clear_59 : decode cX9_clear 59 = .ok (.istore_n 1, 1) := by decide +kernel
theorem dX9_clear_60 : decode cX9_clear 60 = .ok (.iload_n 1, 1) := by decide +kernel
theorem dX9_clear_61 : decode cX9_clear 61 = .ok (.bipush 6, 2) := by decide +kernel
theorem dX9_clear_63 : decode cX9_clear 63 = .ok (.if_icmp .ge 51, 3) := by decide +kernel
theorem dX9_clear_66 : decode cX9_clear 66 = .ok (.aload_n 0, 1) := by decide +kernel
theorem dX9_clear_67 : decode cX9_clear 67 = .ok (.getfield 37, 3) := by decide +kernel
theorem dX9_clear_70 : decode cX9_clear 70 = .ok (.iload_n 1, 1) := by decide +kernel
theorem dX9_clear_71 : decode cX9_clear 71 = .ok (.iconst 0, 1) := by decide +kernel
theorem dX9_clear_72 : decode cX9_clear 72 = .ok (.iastore, 1) := by decide +kernel
theorem dX9_clear_73 : decode cX9_clear 73 = .ok (.aload_n 0, 1) := by decide +kernel
theorem dX9_clear_74 : decode cX9_clear 74 = .ok (.getfield 40, 3) := by decide +kernel
theorem dX9_clear_77 : decode cX9_clear 77 = .ok (.iload_n 1, 1) := by decide +kernel
theorem dX9_clear_78 : decode cX9_clear 78 = .ok (.iconst 0, 1) := by decide +kernel
theorem dX9_clear_79 : decode cX9_clear 79 = .ok (.iastore, 1) := by decide +kernel
theorem dX9_clear_80 : decode cX9_clear 80 = .ok (.aload_n 0, 1) := by decide +kernel
theorem dX9_clear_81 : decode cX9_clear 81 = .ok (.getfield 43, 3) := by decide +kernel
theorem dX9_clear_84 : decode cX9_clear 84 = .ok (.iload_n 1, 1) := by decide +kernel
theorem dX9_clear_85 : decode cX9_clear 85 = .ok (.iconst 0, 1) := by decide +kernel
theorem dX9_clear_86 : decode cX9_clear 86 = .ok (.iastore, 1) := by decide +kernel
theorem dX9_clear_87 : decode cX9_clear 87 = .ok (.aload_n 0, 1) := by decide +kernel
theorem dX9_clear_88 : decode cX9_clear 88 = .ok (.getfield 46, 3) := by decide +kernel
theorem dX9_clear_91 : decode cX9_clear 91 = .ok (.iload_n 1, 1) := by decide +kernel
theorem dX9_clear_92 : decode cX9_clear 92 = .ok (.iconst 0, 1) := by decide +kernel
theorem dX9_clear_93 : decode cX9_clear 93 = .ok (.iastore, 1) := by decide +kernel
theorem dX9_clear_94 : decode cX9_clear 94 = .ok (.aload_n 0, 1) := by decide +kernel
theorem dX9_clear_95 : decode cX9_clear 95 = .ok (.getfield 49, 3) := by decide +kernel
theorem dX9_clear_98 : decode cX9_clear 98 = .ok (.iload_n 1, 1) := by decide +kernel
theorem dX9_clear_99 : decode cX9_clear 99 = .ok (.iconst 0, 1) := by decide +kernel
theorem dX9_clear_100 : decode cX9_clear 100 = .ok (.iastore, 1) := by decide +kernel
theorem dX9_clear_101 : decode cX9_clear 101 = .ok (.aload_n 0, 1) := by decide +kernel
theorem dX9_clear_102 : decode cX9_clear 102 = .ok (.getfield 52, 3) := by decide +kernel
theorem dX9_clear_105 : decode cX9_clear 105 = .ok (.iload_n 1, 1) := by decide +kernel
theorem dX9_clear_106 : decode cX9_clear 106 = .ok (.iconst (-1), 1) := by decide +kernel
theorem dX9_clear_107 : decode cX9_clear 107 = .ok (.iastore, 1) := by decide +kernel
theorem dX9_clear_108 : decode cX9_clear 108 = .ok (.iinc 1 1, 3) := by decide +kernel
theorem dX9_clear_111 : decode cX9_clear 111 = .ok (.goto (-51), 3) := by decide +kernel
theorem dX9_clear_114 : decode cX9_clear 114 = .ok (.return_, 1) := by decide +kernel
theorem dX9_clockOn_0 : decode cX9_clockOn 0 = .ok (.aload_n 0, 1) := by decide +kernel
theorem dX9_clockOn_1 : decode cX9_clockOn 1 = .ok (.getfield 18, 3) := by decide +kernel
theorem dX9_clockOn_4 : decode cX9_clockOn 4 = .ok (.ifCond .le 16, 3) := by decide +kernel
theorem dX9_clockOn_7 : decode cX9_clockOn 7 = .ok (.iload_n 1, 1) := by decide +kernel
theorem dX9_clockOn_8 : decode cX9_clockOn 8 = .ok (.ifCond .lt 12, 3) := by decide +kernel
theorem dX9_clockOn_11 : decode cX9_clockOn 11 = .ok (.iload_n 1, 1) := by decide +kernel
theorem dX9_clockOn_12 : decode cX9_clockOn 12 = .ok (.aload_n 0, 1) := by decide +kernel
theorem dX9_clockOn_13 : decode cX9_clockOn 13 = .ok (.getfield 18, 3) := by decide +kernel
theorem dX9_clockOn_16 : decode cX9_clockOn 16 = .ok (.irem, 1) := by decide +kernel
theorem dX9_clockOn_17 : decode cX9_clockOn 17 = .ok (.goto 4, 3) := by decide +kernel
theorem dX9_clockOn_20 : decode cX9_clockOn 20 = .ok (.iconst 0, 1) := by decide +kernel
theorem dX9_clockOn_21 : decode cX9_clockOn 21 = .ok (.ireturn, 1) := by decide +kernel
theorem dX9_copyFrom_0 : decode cX9_copyFrom 0 = .ok (.aload_n 0, 1) := by decide +kernel
theorem dX9_copyFrom_1 : decode cX9_copyFrom 1 = .ok (.aload_n 1, 1) := by decide +kernel
theorem dX9_copyFrom_2 : decode cX9_copyFrom 2 = .ok (.getfield 9, 3) := by decide +kernel
theorem dX9_copyFrom_5 : decode cX9_copyFrom 5 = .ok (.putfield 9, 3) := by decide +kernel
theorem dX9_copyFrom_8 : decode cX9_copyFrom 8 = .ok (.aload_n 0, 1) := by decide +kernel
theorem dX9_copyFrom_9 : decode cX9_copyFrom 9 = .ok (.aload_n 1, 1) := by decide +kernel
theorem dX9_copyFrom_10 : decode cX9_copyFrom 10 = .ok (.getfield 15, 3) := by decide +kernel
theorem dX9_copyFrom_13 : decode cX9_copyFrom 13 = .ok (.putfield 15, 3) := by decide +kernel
theorem dX9_copyFrom_16 : decode cX9_copyFrom 16 = .ok (.aload_n 0, 1) := by decide +kernel
theorem dX9_copyFrom_17 : decode cX9_copyFrom 17 = .ok (.aload_n 1, 1) := by decide +kernel
theorem dX9_copyFrom_18 : decode cX9_copyFrom 18 = .ok (.getfield 18, 3) := by decide +kernel
theorem dX9_copyFrom_21 : decode cX9_copyFrom 21 = .ok (.putfield 18, 3) := by decide +kernel
theorem dX9_copyFrom_24 : decode cX9_copyFrom 24 = .ok (.aload_n 0, 1) := by decide +kernel
theorem dX9_copyFrom_25 : decode cX9_copyFrom 25 = .ok (.aload_n 1, 1) := by decide +kernel
theorem dX9_copyFrom_26 : decode cX9_copyFrom 26 = .ok (.getfield 21, 3) := by decide +kernel
theorem dX9_copyFrom_29 : decode cX9_copyFrom 29 = .ok (.putfield 21, 3) := by decide +kernel
theorem dX9_copyFrom_32 : decode cX9_copyFrom 32 = .ok (.aload_n 0, 1) := by decide +kernel
theorem dX9_copyFrom_33 : decode cX9_copyFrom 33 = .ok (.aload_n 1, 1) := by decide +kernel
theorem dX9_copyFrom_34 : decode cX9_copyFrom 34 = .ok (.getfield 24, 3) := by decide +kernel
theorem dX9_copyFrom_37 : decode cX9_copyFrom 37 = .ok (.putfield 24, 3) := by decide +kernel
theorem dX9_copyFrom_40 : decode cX9_copyFrom 40 = .ok (.aload_n 0, 1) := by decide +kernel
theorem dX9_copyFrom_41 : decode cX9_copyFrom 41 = .ok (.aload_n 1, 1) := by decide +kernel
theorem dX9_copyFrom_42 : decode cX9_copyFrom 42 = .ok (.getfield 27, 3) := by decide +kernel
theorem dX9_copyFrom_45 : decode cX9_copyFrom 45 = .ok (.putfield 27, 3) := by decide +kernel
theorem dX9_copyFrom_48 : decode cX9_copyFrom 48 = .ok (.aload_n 1, 1) := by decide +kernel
theorem dX9_copyFrom_49 : decode cX9_copyFrom 49 = .ok (.getfield 30, 3) := by decide +kernel
theorem dX9_copyFrom_52 : decode cX9_copyFrom 52 = .ok (.iconst 0, 1) := by decide +kernel
theorem dX9_copyFrom_53 : decode cX9_copyFrom 53 = .ok (.aload_n 0, 1) := by decide +kernel
theorem dX9_copyFrom_54 : decode cX9_copyFrom 54 = .ok (.getfield 30, 3) := by decide +kernel
theorem dX9_copyFrom_57 : decode cX9_copyFrom 57 = .ok (.iconst 0, 1) := by decide +kernel
theorem dX9_copyFrom_58 : decode cX9_copyFrom 58 = .ok (.bipush 10, 2) := by decide +kernel
theorem dX9_copyFrom_60 : decode cX9_copyFrom 60 = .ok (.invokestatic 55, 3) := by decide +kernel
theorem dX9_copyFrom_63 : decode cX9_copyFrom 63 = .ok (.aload_n 1, 1) := by decide +kernel
theorem dX9_copyFrom_64 : decode cX9_copyFrom 64 = .ok (.getfield 34, 3) := by decide +kernel
theorem dX9_copyFrom_67 : decode cX9_copyFrom 67 = .ok (.iconst 0, 1) := by decide +kernel
theorem dX9_copyFrom_68 : decode cX9_copyFrom 68 = .ok (.aload_n 0, 1) := by decide +kernel
theorem dX9_copyFrom_69 : decode cX9_copyFrom 69 = .ok (.getfield 34, 3) := by decide +kernel
theorem dX9_copyFrom_72 : decode cX9_copyFrom 72 = .ok (.iconst 0, 1) := by decide +kernel
theorem dX9_copyFrom_73 : decode cX9_copyFrom 73 = .ok (.bipush 10, 2) := by decide +kernel
theorem dX9_copyFrom_75 : decode cX9_copyFrom 75 = .ok (.invokestatic 55, 3) := by decide +kernel
theorem dX9_copyFrom_78 : decode cX9_copyFrom 78 = .ok (.aload_n 1, 1) := by decide +kernel
theorem dX9_copyFrom_79 : decode cX9_copyFrom 79 = .ok (.getfield 37, 3) := by decide +kernel
theorem dX9_copyFrom_82 : decode cX9_copyFrom 82 = .ok (.iconst 0, 1) := by decide +kernel
theorem dX9_copyFrom_83 : decode cX9_copyFrom 83 = .ok (.aload_n 0, 1) := by decide +kernel
theorem dX9_copyFrom_84 : decode cX9_copyFrom 84 = .ok (.getfield 37, 3) := by decide +kernel
theorem dX9_copyFrom_87 : decode cX9_copyFrom 87 = .ok (.iconst 0, 1) := by decide +kernel
theorem dX9_copyFrom_88 : decode cX9_copyFrom 88 = .ok (.bipush 6, 2) := by decide +kernel
theorem dX9_copyFrom_90 : decode cX9_copyFrom 90 = .ok (.invokestatic 55, 3) := by decide +kernel
theorem dX9_copyFrom_93 : decode cX9_copyFrom 93 = .ok (.aload_n 1, 1) := by decide +kernel
theorem dX9_copyFrom_94 : decode cX9_copyFrom 94 = .ok (.getfield 40, 3) := by decide +kernel
theorem dX9_copyFrom_97 : decode cX9_copyFrom 97 = .ok (.iconst 0, 1) := by decide +kernel
theorem dX9_copyFrom_98 : decode cX9_copyFrom 98 = .ok (.aload_n 0, 1) := by decide +kernel
theorem dX9_copyFrom_99 : decode cX9_copyFrom 99 = .ok (.getfield 40, 3) := by decide +kernel
theorem dX9_copyFrom_102 : decode cX9_copyFrom 102 = .ok (.iconst 0, 1) := by decide +kernel
theorem dX9_copyFrom_103 : decode cX9_copyFrom 103 = .ok (.bipush 6, 2) := by decide +kernel
theorem dX9_copyFrom_105 : decode cX9_copyFrom 105 = .ok (.invokestatic 55, 3) := by decide +kernel
theorem dX9_copyFrom_108 : decode cX9_copyFrom 108 = .ok (.aload_n 1, 1) := by decide +kernel
theorem dX9_copyFrom_109 : decode cX9_copyFrom 109 = .ok (.getfield 43, 3) := by decide +kernel
theorem dX9_copyFrom_112 : decode cX9_copyFrom 112 = .ok (.iconst 0, 1) := by decide +kernel
theorem dX9_copyFrom_113 : decode cX9_copyFrom 113 = .ok (.aload_n 0, 1) := by decide +kernel
theorem dX9_copyFrom_114 : decode cX9_copyFrom 114 = .ok (.getfield 43, 3) := by decide +kernel
theorem dX9_copyFrom_117 : decode cX9_copyFrom 117 = .ok (.iconst 0, 1) := by decide +kernel
theorem dX9_copyFrom_118 : decode cX9_copyFrom 118 = .ok (.bipush 6, 2) := by decide +kernel
theorem dX9_copyFrom_120 : decode cX9_copyFrom 120 = .ok (.invokestatic 55, 3) := by decide +kernel
theorem dX9_copyFrom_123 : decode cX9_copyFrom 123 = .ok (.aload_n 1, 1) := by decide +kernel
theorem dX9_copyFrom_124 : decode cX9_copyFrom 124 = .ok (.getfield 46, 3) := by decide +kernel
theorem dX9_copyFrom_127 : decode cX9_copyFrom 127 = .ok (.iconst 0, 1) := by decide +kernel
theorem dX9_copyFrom_128 : decode cX9_copyFrom 128 = .ok (.aload_n 0, 1) := by decide +kernel
theorem dX9_copyFrom_129 : decode cX9_copyFrom 129 = .ok (.getfield 46, 3) := by decide +kernel
theorem dX9_copyFrom_132 : decode cX9_copyFrom 132 = .ok (.iconst 0, 1) := by decide +kernel
theorem dX9_copyFrom_133 : decode cX9_copyFrom 133 = .ok (.bipush 6, 2) := by decide +kernel
theorem dX9_copyFrom_135 : decode cX9_copyFrom 135 = .ok (.invokestatic 55, 3) := by decide +kernel
theorem dX9_copyFrom_138 : decode cX9_copyFrom 138 = .ok (.aload_n 1, 1) := by decide +kernel
theorem dX9_copyFrom_139 : decode cX9_copyFrom 139 = .ok (.getfield 49, 3) := by decide +kernel
theorem dX9_copyFrom_142 : decode cX9_copyFrom 142 = .ok (.iconst 0, 1) := by decide +kernel
theorem dX9_copyFrom_143 : decode cX9_copyFrom 143 = .ok (.aload_n 0, 1) := by decide +kernel
theorem dX9_copyFrom_144 : decode cX9_copyFrom 144 = .ok (.getfield 49, 3) := by decide +kernel
theorem dX9_copyFrom_147 : decode cX9_copyFrom 147 = .ok (.iconst 0, 1) := by decide +kernel
theorem dX9_copyFrom_148 : decode cX9_copyFrom 148 = .ok (.bipush 6, 2) := by decide +kernel
theorem dX9_copyFrom_150 : decode cX9_copyFrom 150 = .ok (.invokestatic 55, 3) := by decide +kernel
theorem dX9_copyFrom_153 : decode cX9_copyFrom 153 = .ok (.aload_n 1, 1) := by decide +kernel
theorem dX9_copyFrom_154 : decode cX9_copyFrom 154 = .ok (.getfield 52, 3) := by decide +kernel
theorem dX9_copyFrom_157 : decode cX9_copyFrom 157 = .ok (.iconst 0, 1) := by decide +kernel
theorem dX9_copyFrom_158 : decode cX9_copyFrom 158 = .ok (.aload_n 0, 1) := by decide +kernel
theorem dX9_copyFrom_159 : decode cX9_copyFrom 159 = .ok (.getfield 52, 3) := by decide +kernel
theorem dX9_copyFrom_162 : decode cX9_copyFrom 162 = .ok (.iconst 0, 1) := by decide +kernel
theorem dX9_copyFrom_163 : decode cX9_copyFrom 163 = .ok (.bipush 6, 2) := by decide +kernel
theorem dX9_copyFrom_165 : decode cX9_copyFrom 165 = .ok (.invokestatic 55, 3) := by decide +kernel
theorem dX9_copyFrom_168 : decode cX9_copyFrom 168 = .ok (.return_, 1) := by decide +kernel
theorem dX9_daysSince_0 : decode cX9_daysSince 0 = .ok (.aload_n 0, 1) := by decide +kernel
theorem dX9_daysSince_1 : decode cX9_daysSince 1 = .ok (.iload_n 1, 1) := by decide +kernel
theorem dX9_daysSince_2 : decode cX9_daysSince 2 = .ok (.invokevirtual 61, 3) := by decide +kernel
theorem dX9_daysSince_5 : decode cX9_daysSince 5 = .ok (.ifCond .eq 13, 3) := by decide +kernel
theorem dX9_daysSince_8 : decode cX9_daysSince 8 = .ok (.aload_n 0, 1) := by decide +kernel
theorem dX9_daysSince_9 : decode cX9_daysSince 9 = .ok (.getfield 52, 3) := by decide +kernel
theorem dX9_daysSince_12 : decode cX9_daysSince 12 = .ok (.iload_n 1, 1) := by decide +kernel
theorem dX9_daysSince_13 : decode cX9_daysSince 13 = .ok (.iaload, 1) := by decide +kernel
theorem dX9_daysSince_14 : decode cX9_daysSince 14 = .ok (.iconst (-1), 1) := by decide +kernel
theorem dX9_daysSince_15 : decode cX9_daysSince 15 = .ok (.if_icmp .ne 8, 3) := by decide +kernel
theorem dX9_daysSince_18 : decode cX9_daysSince 18 = .ok (.bipush 99, 2) := by decide +kernel
theorem dX9_daysSince_20 : decode cX9_daysSince 20 = .ok (.goto 14, 3) := by decide +kernel
theorem dX9_daysSince_23 : decode cX9_daysSince 23 = .ok (.aload_n 0, 1) := by decide +kernel
theorem dX9_daysSince_24 : decode cX9_daysSince 24 = .ok (.getfield 24, 3) := by decide +kernel
theorem dX9_daysSince_27 : decode cX9_daysSince 27 = .ok (.aload_n 0, 1) := by decide +kernel
theorem dX9_daysSince_28 : decode cX9_daysSince 28 = .ok (.getfield 52, 3) := by decide +kernel
theorem dX9_daysSince_31 : decode cX9_daysSince 31 = .ok (.iload_n 1, 1) := by decide +kernel
theorem dX9_daysSince_32 : decode cX9_daysSince 32 = .ok (.iaload, 1) := by decide +kernel
theorem dX9_daysSince_33 : decode cX9_daysSince 33 = .ok (.isub, 1) := by decide +kernel
theorem dX9_daysSince_34 : decode cX9_daysSince 34 = .ok (.ireturn, 1) := by decide +kernel
theorem dX9_everybody_0 : decode cX9_everybody 0 = .ok (.iconst 1, 1) := by decide +kernel
theorem dX9_everybody_1 : decode cX9_everybody 1 = .ok (.aload_n 0, 1) := by decide +kernel
theorem dX9_everybody_2 : decode cX9_everybody 2 = .ok (.getfield 21, 3) := by decide +kernel
theorem dX9_everybody_5 : decode cX9_everybody 5 = .ok (.ishl, 1) := by decide +kernel
theorem dX9_everybody_6 : decode cX9_everybody 6 = .ok (.iconst 1, 1) := by decide +kernel
theorem dX9_everybody_7 : decode cX9_everybody 7 = .ok (.isub, 1) := by decide +kernel
theorem dX9_everybody_8 : decode cX9_everybody 8 = .ok (.ireturn, 1) := by decide +kernel
theorem dX9_fineOf_0 : decode cX9_fineOf 0 = .ok (.aload_n 0, 1) := by decide +kernel
theorem dX9_fineOf_1 : decode cX9_fineOf 1 = .ok (.getfield 27, 3) := by decide +kernel
theorem dX9_fineOf_4 : decode cX9_fineOf 4 = .ok (.ifCond .le 11, 3) := by decide +kernel
theorem dX9_fineOf_7 : decode cX9_fineOf 7 = .ok (.aload_n 0, 1) := by decide +kernel
theorem dX9_fineOf_8 : decode cX9_fineOf 8 = .ok (.iload_n 1, 1) := by decide +kernel
theorem dX9_fineOf_9 : decode cX9_fineOf 9 = .ok (.invokevirtual 61, 3) := by decide +kernel
theorem dX9_fineOf_12 : decode cX9_fineOf 12 = .ok (.ifCond .ne 5, 3) := by decide +kernel
theorem dX9_fineOf_15 : decode cX9_fineOf 15 = .ok (.iconst 0, 1) := by decide +kernel
theorem dX9_fineOf_16 : decode cX9_fineOf 16 = .ok (.ireturn, 1) := by decide +kernel
theorem dX9_fineOf_17 : decode cX9_fineOf 17 = .ok (.iload_n 2, 1) := by decide +kernel
theorem dX9_fineOf_18 : decode cX9_fineOf 18 = .ok (.i2l, 1) := by decide +kernel
theorem dX9_fineOf_19 : decode cX9_fineOf 19 = .ok (.lstore_n 3, 1) := by decide +kernel
theorem dX9_fineOf_20 : decode cX9_fineOf 20 = .ok (.iconst 0, 1) := by decide +kernel
theorem dX9_fineOf_21 : decode cX9_fineOf 21 = .ok (.istore 5, 2) := by decide +kernel
theorem dX9_fineOf_23 : decode cX9_fineOf 23 = .ok (.iload_n 2, 1) := by decide +kernel
theorem dX9_fineOf_24 : decode cX9_fineOf 24 = .ok (.i2l, 1) := by decide +kernel
theorem dX9_fineOf_25 : decode cX9_fineOf 25 = .ok (.aload_n 0, 1) := by decide +kernel
theorem dX9_fineOf_26 : decode cX9_fineOf 26 = .ok (.getfield 46, 3) := by decide +kernel
theorem dX9_fineOf_29 : decode cX9_fineOf 29 = .ok (.iload_n 1, 1) := by decide +kernel
theorem dX9_fineOf_30 : decode cX9_fineOf 30 = .ok (.iaload, 1) := by decide +kernel
theorem dX9_fineOf_31 : decode cX9_fineOf 31 = .ok (.i2l, 1) := by decide +kernel
theorem dX9_fineOf_32 : decode cX9_fineOf 32 = .ok (.lmul, 1) := by decide +kernel
theorem dX9_fineOf_33 : decode cX9_fineOf 33 = .ok (.aload_n 0, 1) := by decide +kernel
theorem dX9_fineOf_34 : decode cX9_fineOf 34 = .ok (.getfield 27, 3) := by decide +kernel
theorem dX9_fineOf_37 : decode cX9_fineOf 37 = .ok (.i2l, 1) := by decide +kernel
theorem dX9_fineOf_38 : decode cX9_fineOf 38 = .ok (.lrem, 1) := by decide +kernel
theorem dX9_fineOf_39 : decode cX9_fineOf 39 = .ok (.lstore 6, 2) := by decide +kernel
theorem dX9_fineOf_41 : decode cX9_fineOf 41 = .ok (.iconst 0, 1) := by decide +kernel
theorem dX9_fineOf_42 : decode cX9_fineOf 42 = .ok (.istore 8, 2) := by decide +kernel
theorem dX9_fineOf_44 : decode cX9_fineOf 44 = .ok (.iload 8, 2) := by decide +kernel
theorem dX9_fineOf_46 : decode cX9_fineOf 46 = .ok (.aload_n 0, 1) := by decide +kernel
theorem dX9_fineOf_47 : decode cX9_fineOf 47 = .ok (.getfield 21, 3) := by decide +kernel
theorem dX9_fineOf_50 : decode cX9_fineOf 50 = .ok (.if_icmp .ge 75, 3) := by decide +kernel
theorem dX9_fineOf_53 : decode cX9_fineOf 53 = .ok (.iload 8, 2) := by decide +kernel
theorem dX9_fineOf_55 : decode cX9_fineOf 55 = .ok (.bipush 6, 2) := by decide +kernel
theorem dX9_fineOf_57 : decode cX9_fineOf 57 = .ok (.if_icmp .ge 68, 3) := by decide +kernel
theorem dX9_fineOf_60 : decode cX9_fineOf 60 = .ok (.iload_n 2, 1) := by decide +kernel
theorem dX9_fineOf_61 : decode cX9_fineOf 61 = .ok (.i2l, 1) := by decide +kernel
theorem dX9_fineOf_62 : decode cX9_fineOf 62 = .ok (.aload_n 0, 1) := by decide +kernel
theorem dX9_fineOf_63 : decode cX9_fineOf 63 = .ok (.getfield 46, 3) := by decide +kernel
theorem dX9_fineOf_66 : decode cX9_fineOf 66 = .ok (.iload 8, 2) := by decide +kernel
theorem dX9_fineOf_68 : decode cX9_fineOf 68 = .ok (.iaload, 1) := by decide +kernel
theorem dX9_fineOf_69 : decode cX9_fineOf 69 = .ok (.i2l, 1) := by decide +kernel
theorem dX9_fineOf_70 : decode cX9_fineOf 70 = .ok (.lmul, 1) := by decide +kernel
theorem dX9_fineOf_71 : decode cX9_fineOf 71 = .ok (.lstore 9, 2) := by decide +kernel
theorem dX9_fineOf_73 : decode cX9_fineOf 73 = .ok (.lload_n 3, 1) := by decide +kernel
theorem dX9_fineOf_74 : decode cX9_fineOf 74 = .ok (.lload 9, 2) := by decide +kernel
theorem dX9_fineOf_76 : decode cX9_fineOf 76 = .ok (.aload_n 0, 1) := by decide +kernel
theorem dX9_fineOf_77 : decode cX9_fineOf 77 = .ok (.getfield 27, 3) := by decide +kernel
theorem dX9_fineOf_80 : decode cX9_fineOf 80 = .ok (.i2l, 1) := by decide +kernel
theorem dX9_fineOf_81 : decode cX9_fineOf 81 = .ok (.ldiv, 1) := by decide +kernel
theorem dX9_fineOf_82 : decode cX9_fineOf 82 = .ok (.lsub, 1) := by decide +kernel
theorem dX9_fineOf_83 : decode cX9_fineOf 83 = .ok (.lstore_n 3, 1) := by decide +kernel
theorem dX9_fineOf_84 : decode cX9_fineOf 84 = .ok (.lload 9, 2) := by decide +kernel
theorem dX9_fineOf_86 : decode cX9_fineOf 86 = .ok (.aload_n 0, 1) := by decide +kernel
theorem dX9_fineOf_87 : decode cX9_fineOf 87 = .ok (.getfield 27, 3) := by decide +kernel
theorem dX9_fineOf_90 : decode cX9_fineOf 90 = .ok (.i2l, 1) := by decide +kernel
theorem dX9_fineOf_91 : decode cX9_fineOf 91 = .ok (.lrem, 1) := by decide +kernel
theorem dX9_fineOf_92 : decode cX9_fineOf 92 = .ok (.lstore 11, 2) := by decide +kernel
theorem dX9_fineOf_94 : decode cX9_fineOf 94 = .ok (.lload 11, 2) := by decide +kernel
theorem dX9_fineOf_96 : decode cX9_fineOf 96 = .ok (.lload 6, 2) := by decide +kernel
theorem dX9_fineOf_98 : decode cX9_fineOf 98 = .ok (.lcmp, 1) := by decide +kernel
theorem dX9_fineOf_99 : decode cX9_fineOf 99 = .ok (.ifCond .gt 17, 3) := by decide +kernel
theorem dX9_fineOf_102 : decode cX9_fineOf 102 = .ok (.lload 11, 2) := by decide +kernel
theorem dX9_fineOf_104 : decode cX9_fineOf 104 = .ok (.lload 6, 2) := by decide +kernel
theorem dX9_fineOf_106 : decode cX9_fineOf 106 = .ok (.lcmp, 1) := by decide +kernel
theorem dX9_fineOf_107 : decode cX9_fineOf 107 = .ok (.ifCond .ne 12, 3) := by decide +kernel
theorem dX9_fineOf_110 : decode cX9_fineOf 110 = .ok (.iload 8, 2) := by decide +kernel
theorem dX9_fineOf_112 : decode cX9_fineOf 112 = .ok (.iload_n 1, 1) := by decide +kernel
theorem dX9_fineOf_113 : decode cX9_fineOf 113 = .ok (.if_icmp .ge 6, 3) := by decide +kernel
theorem dX9_fineOf_116 : decode cX9_fineOf 116 = .ok (.iinc 5 1, 3) := by decide +kernel
theorem dX9_fineOf_119 : decode cX9_fineOf 119 = .ok (.iinc 8 1, 3) := by decide +kernel
theorem dX9_fineOf_122 : decode cX9_fineOf 122 = .ok (.goto (-78), 3) := by decide +kernel
theorem dX9_fineOf_125 : decode cX9_fineOf 125 = .ok (.iload_n 2, 1) := by decide +kernel
theorem dX9_fineOf_126 : decode cX9_fineOf 126 = .ok (.i2l, 1) := by decide +kernel
theorem dX9_fineOf_127 : decode cX9_fineOf 127 = .ok (.aload_n 0, 1) := by decide +kernel
theorem dX9_fineOf_128 : decode cX9_fineOf 128 = .ok (.getfield 46, 3) := by decide +kernel
theorem dX9_fineOf_131 : decode cX9_fineOf 131 = .ok (.iload_n 1, 1) := by decide +kernel
theorem dX9_fineOf_132 : decode cX9_fineOf 132 = .ok (.iaload, 1) := by decide +kernel
theorem dX9_fineOf_133 : decode cX9_fineOf 133 = .ok (.i2l, 1) := by decide +kernel
theorem dX9_fineOf_134 : decode cX9_fineOf 134 = .ok (.lmul, 1) := by decide +kernel
theorem dX9_fineOf_135 : decode cX9_fineOf 135 = .ok (.aload_n 0, 1) := by decide +kernel
theorem dX9_fineOf_136 : decode cX9_fineOf 136 = .ok (.getfield 27, 3) := by decide +kernel
theorem dX9_fineOf_139 : decode cX9_fineOf 139 = .ok (.i2l, 1) := by decide +kernel
theorem dX9_fineOf_140 : decode cX9_fineOf 140 = .ok (.ldiv, 1) := by decide +kernel
theorem dX9_fineOf_141 : decode cX9_fineOf 141 = .ok (.lstore 8, 2) := by decide +kernel
theorem dX9_fineOf_143 : decode cX9_fineOf 143 = .ok (.iload 5, 2) := by decide +kernel
theorem dX9_fineOf_145 : decode cX9_fineOf 145 = .ok (.i2l, 1) := by decide +kernel
theorem dX9_fineOf_146 : decode cX9_fineOf 146 = .ok (.lload_n 3, 1) := by decide +kernel
theorem dX9_fineOf_147 : decode cX9_fineOf 147 = .ok (.lcmp, 1) := by decide +kernel
theorem dX9_fineOf_148 : decode cX9_fineOf 148 = .ok (.ifCond .ge 10, 3) := by decide +kernel
theorem dX9_fineOf_151 : decode cX9_fineOf 151 = .ok (.lload 8, 2) := by decide +kernel
theorem dX9_fineOf_153 : decode cX9_fineOf 153 = .ok (.lconst 1, 1) := by decide +kernel
theorem dX9_fineOf_154 : decode cX9_fineOf 154 = .ok (.ladd, 1) := by decide +kernel
theorem dX9_fineOf_155 : decode cX9_fineOf 155 = .ok (.goto 5, 3) := by decide +kernel
theorem dX9_fineOf_158 : decode cX9_fineOf 158 = .ok (.lload 8, 2) := by decide +kernel
theorem dX9_fineOf_160 : decode cX9_fineOf 160 = .ok (.l2i, 1) := by decide +kernel
theorem dX9_fineOf_161 : decode cX9_fineOf 161 = .ok (.ireturn, 1) := by decide +kernel
theorem dX9_handOver_0 : decode cX9_handOver 0 = .ok (.aload_n 0, 1) := by decide +kernel
theorem dX9_handOver_1 : decode cX9_handOver 1 = .ok (.iload_n 1, 1) := by decide +kernel
theorem dX9_handOver_2 : decode cX9_handOver 2 = .ok (.invokevirtual 61, 3) := by decide +kernel
theorem dX9_handOver_5 : decode cX9_handOver 5 = .ok (.ifCond .ne 4, 3) := by decide +kernel
theorem dX9_handOver_8 : decode cX9_handOver 8 = .ok (.return_, 1) := by decide +kernel
theorem dX9_handOver_9 : decode cX9_handOver 9 = .ok (.aload_n 0, 1) := by decide +kernel
theorem dX9_handOver_10 : decode cX9_handOver 10 = .ok (.dup, 1) := by decide +kernel
theorem dX9_handOver_11 : decode cX9_handOver 11 = .ok (.getfield 9, 3) := by decide +kernel
theorem dX9_handOver_14 : decode cX9_handOver 14 = .ok (.aload_n 0, 1) := by decide +kernel
theorem dX9_handOver_15 : decode cX9_handOver 15 = .ok (.getfield 40, 3) := by decide +kernel
theorem dX9_handOver_18 : decode cX9_handOver 18 = .ok (.iload_n 1, 1) := by decide +kernel
theorem dX9_handOver_19 : decode cX9_handOver 19 = .ok (.iaload, 1) := by decide +kernel
theorem dX9_handOver_20 : decode cX9_handOver 20 = .ok (.isub, 1) := by decide +kernel
theorem dX9_handOver_21 : decode cX9_handOver 21 = .ok (.putfield 9, 3) := by decide +kernel
theorem dX9_handOver_24 : decode cX9_handOver 24 = .ok (.aload_n 0, 1) := by decide +kernel
theorem dX9_handOver_25 : decode cX9_handOver 25 = .ok (.getfield 37, 3) := by decide +kernel
theorem dX9_handOver_28 : decode cX9_handOver 28 = .ok (.iload_n 1, 1) := by decide +kernel
theorem dX9_handOver_29 : decode cX9_handOver 29 = .ok (.iconst 0, 1) := by decide +kernel
theorem dX9_handOver_30 : decode cX9_handOver 30 = .ok (.aload_n 0, 1) := by decide +kernel
theorem dX9_handOver_31 : decode cX9_handOver 31 = .ok (.getfield 37, 3) := by decide +kernel
theorem dX9_handOver_34 : decode cX9_handOver 34 = .ok (.iload_n 1, 1) := by decide +kernel
theorem dX9_handOver_35 : decode cX9_handOver 35 = .ok (.iaload, 1) := by decide +kernel
theorem dX9_handOver_36 : decode cX9_handOver 36 = .ok (.bipush 6, 2) := by decide +kernel
theorem dX9_handOver_38 : decode cX9_handOver 38 = .ok (.isub, 1) := by decide +kernel
theorem dX9_handOver_39 : decode cX9_handOver 39 = .ok (.invokestatic 78, 3) := by decide +kernel
theorem dX9_handOver_42 : decode cX9_handOver 42 = .ok (.iastore, 1) := by decide +kernel
theorem dX9_handOver_43 : decode cX9_handOver 43 = .ok (.aload_n 0, 1) := by decide +kernel
theorem dX9_handOver_44 : decode cX9_handOver 44 = .ok (.getfield 46, 3) := by decide +kernel
theorem dX9_handOver_47 : decode cX9_handOver 47 = .ok (.iload_n 1, 1) := by decide +kernel
theorem dX9_handOver_48 : decode cX9_handOver 48 = .ok (.dup2, 1) := by decide +kernel
theorem dX9_handOver_49 : decode cX9_handOver 49 = .ok (.iaload, 1) := by decide +kernel
theorem dX9_handOver_50 : decode cX9_handOver 50 = .ok (.aload_n 0, 1) := by decide +kernel
theorem dX9_handOver_51 : decode cX9_handOver 51 = .ok (.getfield 40, 3) := by decide +kernel
theorem dX9_handOver_54 : decode cX9_handOver 54 = .ok (.iload_n 1, 1) := by decide +kernel
theorem dX9_handOver_55 : decode cX9_handOver 55 = .ok (.iaload, 1) := by decide +kernel
theorem dX9_handOver_56 : decode cX9_handOver 56 = .ok (.iadd, 1) := by decide +kernel
theorem dX9_handOver_57 : decode cX9_handOver 57 = .ok (.iastore, 1) := by decide +kernel
theorem dX9_handOver_58 : decode cX9_handOver 58 = .ok (.aload_n 0, 1) := by decide +kernel
theorem dX9_handOver_59 : decode cX9_handOver 59 = .ok (.dup, 1) := by decide +kernel
theorem dX9_handOver_60 : decode cX9_handOver 60 = .ok (.getfield 27, 3) := by decide +kernel
theorem dX9_handOver_63 : decode cX9_handOver 63 = .ok (.aload_n 0, 1) := by decide +kernel
theorem dX9_handOver_64 : decode cX9_handOver 64 = .ok (.getfield 40, 3) := by decide +kernel
theorem dX9_handOver_67 : decode cX9_handOver 67 = .ok (.iload_n 1, 1) := by decide +kernel
theorem dX9_handOver_68 : decode cX9_handOver 68 = .ok (.iaload, 1) := by decide +kernel
theorem dX9_handOver_69 : decode cX9_handOver 69 = .ok (.iadd, 1) := by decide +kernel
theorem dX9_handOver_70 : decode cX9_handOver 70 = .ok (.putfield 27, 3) := by decide +kernel
theorem dX9_handOver_73 : decode cX9_handOver 73 = .ok (.aload_n 0, 1) := by decide +kernel
theorem dX9_handOver_74 : decode cX9_handOver 74 = .ok (.getfield 52, 3) := by decide +kernel
theorem dX9_handOver_77 : decode cX9_handOver 77 = .ok (.iload_n 1, 1) := by decide +kernel
theorem dX9_handOver_78 : decode cX9_handOver 78 = .ok (.aload_n 0, 1) := by decide +kernel
theorem dX9_handOver_79 : decode cX9_handOver 79 = .ok (.getfield 24, 3) := by decide +kernel
theorem dX9_handOver_82 : decode cX9_handOver 82 = .ok (.iastore, 1) := by decide +kernel
theorem dX9_handOver_83 : decode cX9_handOver 83 = .ok (.return_, 1) := by decide +kernel
theorem dX9_hasBuyer_0 : decode cX9_hasBuyer 0 = .ok (.iload_n 1, 1) := by decide +kernel
theorem dX9_hasBuyer_1 : decode cX9_hasBuyer 1 = .ok (.ifCond .lt 21, 3) := by decide +kernel
theorem dX9_hasBuyer_4 : decode cX9_hasBuyer 4 = .ok (.iload_n 1, 1) := by decide +kernel
theorem dX9_hasBuyer_5 : decode cX9_hasBuyer 5 = .ok (.aload_n 0, 1) := by decide +kernel
theorem dX9_hasBuyer_6 : decode cX9_hasBuyer 6 = .ok (.getfield 21, 3) := by decide +kernel
theorem dX9_hasBuyer_9 : decode cX9_hasBuyer 9 = .ok (.if_icmp .ge 13, 3) := by decide +kernel
theorem dX9_hasBuyer_12 : decode cX9_hasBuyer 12 = .ok (.iload_n 1, 1) := by decide +kernel
theorem dX9_hasBuyer_13 : decode cX9_hasBuyer 13 = .ok (.bipush 6, 2) := by decide +kernel
theorem dX9_hasBuyer_15 : decode cX9_hasBuyer 15 = .ok (.if_icmp .ge 7, 3) := by decide +kernel
theorem dX9_hasBuyer_18 : decode cX9_hasBuyer 18 = .ok (.iconst 1, 1) := by decide +kernel
theorem dX9_hasBuyer_19 : decode cX9_hasBuyer 19 = .ok (.goto 4, 3) := by decide +kernel
theorem dX9_hasBuyer_22 : decode cX9_hasBuyer 22 = .ok (.iconst 0, 1) := by decide +kernel
theorem dX9_hasBuyer_23 : decode cX9_hasBuyer 23 = .ok (.ireturn, 1) := by decide +kernel
theorem dX9_hasClock_0 : decode cX9_hasClock 0 = .ok (.iload_n 1, 1) := by decide +kernel
theorem dX9_hasClock_1 : decode cX9_hasClock 1 = .ok (.ifCond .lt 21, 3) := by decide +kernel
theorem dX9_hasClock_4 : decode cX9_hasClock 4 = .ok (.iload_n 1, 1) := by decide +kernel
theorem dX9_hasClock_5 : decode cX9_hasClock 5 = .ok (.aload_n 0, 1) := by decide +kernel
theorem dX9_hasClock_6 : decode cX9_hasClock 6 = .ok (.getfield 18, 3) := by decide +kernel
theorem dX9_hasClock_9 : decode cX9_hasClock 9 = .ok (.if_icmp .ge 13, 3) := by decide +kernel
theorem dX9_hasClock_12 : decode cX9_hasClock 12 = .ok (.iload_n 1, 1) := by decide +kernel
theorem dX9_hasClock_13 : decode cX9_hasClock 13 = .ok (.bipush 10, 2) := by decide +kernel
theorem dX9_hasClock_15 : decode cX9_hasClock 15 = .ok (.if_icmp .ge 7, 3) := by decide +kernel
theorem dX9_hasClock_18 : decode cX9_hasClock 18 = .ok (.iconst 1, 1) := by decide +kernel
theorem dX9_hasClock_19 : decode cX9_hasClock 19 = .ok (.goto 4, 3) := by decide +kernel
theorem dX9_hasClock_22 : decode cX9_hasClock 22 = .ok (.iconst 0, 1) := by decide +kernel
theorem dX9_hasClock_23 : decode cX9_hasClock 23 = .ok (.ireturn, 1) := by decide +kernel
theorem dX9_isTold_0 : decode cX9_isTold 0 = .ok (.aload_n 0, 1) := by decide +kernel
theorem dX9_isTold_1 : decode cX9_isTold 1 = .ok (.getfield 18, 3) := by decide +kernel
theorem dX9_isTold_4 : decode cX9_isTold 4 = .ok (.ifCond .le 7, 3) := by decide +kernel
theorem dX9_isTold_7 : decode cX9_isTold 7 = .ok (.iconst 1, 1) := by decide +kernel
theorem dX9_isTold_8 : decode cX9_isTold 8 = .ok (.goto 4, 3) := by decide +kernel
theorem dX9_isTold_11 : decode cX9_isTold 11 = .ok (.iconst 0, 1) := by decide +kernel
theorem dX9_isTold_12 : decode cX9_isTold 12 = .ok (.ireturn, 1) := by decide +kernel
theorem dX9_likeness_0 : decode cX9_likeness 0 = .ok (.aload_n 0, 1) := by decide +kernel
theorem dX9_likeness_1 : decode cX9_likeness 1 = .ok (.getfield 9, 3) := by decide +kernel
theorem dX9_likeness_4 : decode cX9_likeness 4 = .ok (.i2l, 1) := by decide +kernel
theorem dX9_likeness_5 : decode cX9_likeness 5 = .ok (.lstore_n 1, 1) := by decide +kernel
theorem dX9_likeness_6 : decode cX9_likeness 6 = .ok (.iconst 0, 1) := by decide +kernel
theorem dX9_likeness_7 : decode cX9_likeness 7 = .ok (.istore_n 3, 1) := by decide +kernel
theorem dX9_likeness_8 : decode cX9_likeness 8 = .ok (.iload_n 3, 1) := by decide +kernel
theorem dX9_likeness_9 : decode cX9_likeness 9 = .ok (.aload_n 0, 1) := by decide +kernel
theorem dX9_likeness_10 : decode cX9_likeness 10 = .ok (.getfield 21, 3) := by decide +kernel
theorem dX9_likeness_13 : decode cX9_likeness 13 = .ok (.if_icmp .ge 29, 3) := by decide +kernel
theorem dX9_likeness_16 : decode cX9_likeness 16 = .ok (.iload_n 3, 1) := by decide +kernel
theorem dX9_likeness_17 : decode cX9_likeness 17 = .ok (.bipush 6, 2) := by decide +kernel
theorem dX9_likeness_19 : decode cX9_likeness 19 = .ok (.if_icmp .ge 23, 3) := by decide +kernel
theorem dX9_likeness_22 : decode cX9_likeness 22 = .ok (.lload_n 1, 1) := by decide +kernel
theorem dX9_likeness_23 : decode cX9_likeness 23 = .ok (.ldc2_w 107, 3) := by decide +kernel
theorem dX9_likeness_26 : decode cX9_likeness 26 = .ok (.lmul, 1) := by decide +kernel
theorem dX9_likeness_27 : decode cX9_likeness 27 = .ok (.aload_n 0, 1) := by decide +kernel
theorem dX9_likeness_28 : decode cX9_likeness 28 = .ok (.getfield 37, 3) := by decide +kernel
theorem dX9_likeness_31 : decode cX9_likeness 31 = .ok (.iload_n 3, 1) := by decide +kernel
theorem dX9_likeness_32 : decode cX9_likeness 32 = .ok (.iaload, 1) := by decide +kernel
theorem dX9_likeness_33 : decode cX9_likeness 33 = .ok (.i2l, 1) := by decide +kernel
theorem dX9_likeness_34 : decode cX9_likeness 34 = .ok (.ladd, 1) := by decide +kernel
theorem dX9_likeness_35 : decode cX9_likeness 35 = .ok (.lstore_n 1, 1) := by decide +kernel
theorem dX9_likeness_36 : decode cX9_likeness 36 = .ok (.iinc 3 1, 3) := by decide +kernel
theorem dX9_likeness_39 : decode cX9_likeness 39 = .ok (.goto (-31), 3) := by decide +kernel
theorem dX9_likeness_42 : decode cX9_likeness 42 = .ok (.lload_n 1, 1) := by decide +kernel
theorem dX9_likeness_43 : decode cX9_likeness 43 = .ok (.lreturn, 1) := by decide +kernel
theorem dX9_stillOn_0 : decode cX9_stillOn 0 = .ok (.aload_n 0, 1) := by decide +kernel
theorem dX9_stillOn_1 : decode cX9_stillOn 1 = .ok (.getfield 18, 3) := by decide +kernel
theorem dX9_stillOn_4 : decode cX9_stillOn 4 = .ok (.ifCond .le 7, 3) := by decide +kernel
theorem dX9_stillOn_7 : decode cX9_stillOn 7 = .ok (.iload_n 1, 1) := by decide +kernel
theorem dX9_stillOn_8 : decode cX9_stillOn 8 = .ok (.ifCond .ge 5, 3) := by decide +kernel
theorem dX9_stillOn_11 : decode cX9_stillOn 11 = .ok (.iconst 0, 1) := by decide +kernel
theorem dX9_stillOn_12 : decode cX9_stillOn 12 = .ok (.ireturn, 1) := by decide +kernel
theorem dX9_stillOn_13 : decode cX9_stillOn 13 = .ok (.iload_n 1, 1) := by decide +kernel
theorem dX9_stillOn_14 : decode cX9_stillOn 14 = .ok (.aload_n 0, 1) := by decide +kernel
theorem dX9_stillOn_15 : decode cX9_stillOn 15 = .ok (.getfield 18, 3) := by decide +kernel
theorem dX9_stillOn_18 : decode cX9_stillOn 18 = .ok (.irem, 1) := by decide +kernel
theorem dX9_stillOn_19 : decode cX9_stillOn 19 = .ok (.istore_n 2, 1) := by decide +kernel
theorem dX9_stillOn_20 : decode cX9_stillOn 20 = .ok (.iload_n 2, 1) := by decide +kernel
theorem dX9_stillOn_21 : decode cX9_stillOn 21 = .ok (.bipush 10, 2) := by decide +kernel
theorem dX9_stillOn_23 : decode cX9_stillOn 23 = .ok (.if_icmp .ge 12, 3) := by decide +kernel
theorem dX9_stillOn_26 : decode cX9_stillOn 26 = .ok (.aload_n 0, 1) := by decide +kernel
theorem dX9_stillOn_27 : decode cX9_stillOn 27 = .ok (.getfield 30, 3) := by decide +kernel
theorem dX9_stillOn_30 : decode cX9_stillOn 30 = .ok (.iload_n 2, 1) := by decide +kernel
theorem dX9_stillOn_31 : decode cX9_stillOn 31 = .ok (.iaload, 1) := by decide +kernel
theorem dX9_stillOn_32 : decode cX9_stillOn 32 = .ok (.goto 4, 3) := by decide +kernel
theorem dX9_stillOn_35 : decode cX9_stillOn 35 = .ok (.iconst 0, 1) := by decide +kernel
theorem dX9_stillOn_36 : decode cX9_stillOn 36 = .ok (.ireturn, 1) := by decide +kernel
theorem dX9_timesMet_0 : decode cX9_timesMet 0 = .ok (.iconst 0, 1) := by decide +kernel
theorem dX9_timesMet_1 : decode cX9_timesMet 1 = .ok (.istore_n 1, 1) := by decide +kernel
theorem dX9_timesMet_2 : decode cX9_timesMet 2 = .ok (.iconst 0, 1) := by decide +kernel
theorem dX9_timesMet_3 : decode cX9_timesMet 3 = .ok (.istore_n 2, 1) := by decide +kernel
theorem dX9_timesMet_4 : decode cX9_timesMet 4 = .ok (.iload_n 2, 1) := by decide +kernel
theorem dX9_timesMet_5 : decode cX9_timesMet 5 = .ok (.aload_n 0, 1) := by decide +kernel
theorem dX9_timesMet_6 : decode cX9_timesMet 6 = .ok (.getfield 21, 3) := by decide +kernel
theorem dX9_timesMet_9 : decode cX9_timesMet 9 = .ok (.if_icmp .ge 24, 3) := by decide +kernel
theorem dX9_timesMet_12 : decode cX9_timesMet 12 = .ok (.iload_n 2, 1) := by decide +kernel
theorem dX9_timesMet_13 : decode cX9_timesMet 13 = .ok (.bipush 6, 2) := by decide +kernel
theorem dX9_timesMet_15 : decode cX9_timesMet 15 = .ok (.if_icmp .ge 18, 3) := by decide +kernel
theorem dX9_timesMet_18 : decode cX9_timesMet 18 = .ok (.iload_n 1, 1) := by decide +kernel
theorem dX9_timesMet_19 : decode cX9_timesMet 19 = .ok (.aload_n 0, 1) := by decide +kernel
theorem dX9_timesMet_20 : decode cX9_timesMet 20 = .ok (.getfield 49, 3) := by decide +kernel
theorem dX9_timesMet_23 : decode cX9_timesMet 23 = .ok (.iload_n 2, 1) := by decide +kernel
theorem dX9_timesMet_24 : decode cX9_timesMet 24 = .ok (.iaload, 1) := by decide +kernel
theorem dX9_timesMet_25 : decode cX9_timesMet 25 = .ok (.iadd, 1) := by decide +kernel
theorem dX9_timesMet_26 : decode cX9_timesMet 26 = .ok (.istore_n 1, 1) := by decide +kernel
theorem dX9_timesMet_27 : decode cX9_timesMet 27 = .ok (.iinc 2 1, 3) := by decide +kernel
theorem dX9_timesMet_30 : decode cX9_timesMet 30 = .ok (.goto (-26), 3) := by decide +kernel
theorem dX9_timesMet_33 : decode cX9_timesMet 33 = .ok (.iload_n 1, 1) := by decide +kernel
theorem dX9_timesMet_34 : decode cX9_timesMet 34 = .ok (.ireturn, 1) := by decide +kernel
theorem dX9_whoCanBuy_0 : decode cX9_whoCanBuy 0 = .ok (.iconst 0, 1) := by decide +kernel
theorem dX9_whoCanBuy_1 : decode cX9_whoCanBuy 1 = .ok (.istore_n 1, 1) := by decide +kernel
theorem dX9_whoCanBuy_2 : decode cX9_whoCanBuy 2 = .ok (.iconst 0, 1) := by decide +kernel
theorem dX9_whoCanBuy_3 : decode cX9_whoCanBuy 3 = .ok (.istore_n 2, 1) := by decide +kernel
theorem dX9_whoCanBuy_4 : decode cX9_whoCanBuy 4 = .ok (.iload_n 2, 1) := by decide +kernel
theorem dX9_whoCanBuy_5 : decode cX9_whoCanBuy 5 = .ok (.aload_n 0, 1) := by decide +kernel
theorem dX9_whoCanBuy_6 : decode cX9_whoCanBuy 6 = .ok (.getfield 21, 3) := by decide +kernel
theorem dX9_whoCanBuy_9 : decode cX9_whoCanBuy 9 = .ok (.if_icmp .ge 29, 3) := by decide +kernel
theorem dX9_whoCanBuy_12 : decode cX9_whoCanBuy 12 = .ok (.iload_n 2, 1) := by decide +kernel
theorem dX9_whoCanBuy_13 : decode cX9_whoCanBuy 13 = .ok (.bipush 6, 2) := by decide +kernel
theorem dX9_whoCanBuy_15 : decode cX9_whoCanBuy 15 = .ok (.if_icmp .ge 23, 3) := by decide +kernel
theorem dX9_whoCanBuy_18 : decode cX9_whoCanBuy 18 = .ok (.aload_n 0, 1) := by decide +kernel
theorem dX9_whoCanBuy_19 : decode cX9_whoCanBuy 19 = .ok (.iload_n 2, 1) := by decide +kernel
theorem dX9_whoCanBuy_20 : decode cX9_whoCanBuy 20 = .ok (.invokevirtual 65, 3) := by decide +kernel
theorem dX9_whoCanBuy_23 : decode cX9_whoCanBuy 23 = .ok (.ifCond .eq 9, 3) := by decide +kernel
theorem dX9_whoCanBuy_26 : decode cX9_whoCanBuy 26 = .ok (.iload_n 1, 1) := by decide +kernel
theorem dX9_whoCanBuy_27 : decode cX9_whoCanBuy 27 = .ok (.iconst 1, 1) := by decide +kernel
theorem dX9_whoCanBuy_28 : decode cX9_whoCanBuy 28 = .ok (.iload_n 2, 1) := by decide +kernel
theorem dX9_whoCanBuy_29 : decode cX9_whoCanBuy 29 = .ok (.ishl, 1) := by decide +kernel
theorem dX9_whoCanBuy_30 : decode cX9_whoCanBuy 30 = .ok (.ior, 1) := by decide +kernel
theorem dX9_whoCanBuy_31 : decode cX9_whoCanBuy 31 = .ok (.istore_n 1, 1) := by decide +kernel
theorem dX9_whoCanBuy_32 : decode cX9_whoCanBuy 32 = .ok (.iinc 2 1, 3) := by decide +kernel
theorem dX9_whoCanBuy_35 : decode cX9_whoCanBuy 35 = .ok (.goto (-31), 3) := by decide +kernel
theorem dX9_whoCanBuy_38 : decode cX9_whoCanBuy 38 = .ok (.iload_n 1, 1) := by decide +kernel
theorem dX9_whoCanBuy_39 : decode cX9_whoCanBuy 39 = .ok (.ireturn, 1) := by decide +kernel
theorem dX9_wordOf_0 : decode cX9_wordOf 0 = .ok (.aload_n 0, 1) := by decide +kernel
theorem dX9_wordOf_1 : decode cX9_wordOf 1 = .ok (.iload_n 2, 1) := by decide +kernel
theorem dX9_wordOf_2 : decode cX9_wordOf 2 = .ok (.invokevirtual 61, 3) := by decide +kernel
theorem dX9_wordOf_5 : decode cX9_wordOf 5 = .ok (.ifCond .ne 5, 3) := by decide +kernel
theorem dX9_wordOf_8 : decode cX9_wordOf 8 = .ok (.lconst 0, 1) := by decide +kernel
theorem dX9_wordOf_9 : decode cX9_wordOf 9 = .ok (.lreturn, 1) := by decide +kernel
theorem dX9_wordOf_10 : decode cX9_wordOf 10 = .ok (.iload_n 1, 1) := by decide +kernel
theorem dX9_wordOf_11 : decode cX9_wordOf 11 = .ok (.tableswitch 155 0 11 #[61, 64, 72, 80, 88, 98, 110, 116, 124, 132, 139, 145], 61) := by decide +kernel
theorem dX9_wordOf_72 : decode cX9_wordOf 72 = .ok (.iload_n 2, 1) := by decide +kernel
theorem dX9_wordOf_73 : decode cX9_wordOf 73 = .ok (.i2l, 1) := by decide +kernel
theorem dX9_wordOf_74 : decode cX9_wordOf 74 = .ok (.lreturn, 1) := by decide +kernel
theorem dX9_wordOf_75 : decode cX9_wordOf 75 = .ok (.aload_n 0, 1) := by decide +kernel
theorem dX9_wordOf_76 : decode cX9_wordOf 76 = .ok (.getfield 37, 3) := by decide +kernel
theorem dX9_wordOf_79 : decode cX9_wordOf 79 = .ok (.iload_n 2, 1) := by decide +kernel
theorem dX9_wordOf_80 : decode cX9_wordOf 80 = .ok (.iaload, 1) := by decide +kernel
theorem dX9_wordOf_81 : decode cX9_wordOf 81 = .ok (.i2l, 1) := by decide +kernel
theorem dX9_wordOf_82 : decode cX9_wordOf 82 = .ok (.lreturn, 1) := by decide +kernel
theorem dX9_wordOf_83 : decode cX9_wordOf 83 = .ok (.aload_n 0, 1) := by decide +kernel
theorem dX9_wordOf_84 : decode cX9_wordOf 84 = .ok (.getfield 40, 3) := by decide +kernel
theorem dX9_wordOf_87 : decode cX9_wordOf 87 = .ok (.iload_n 2, 1) := by decide +kernel
theorem dX9_wordOf_88 : decode cX9_wordOf 88 = .ok (.iaload, 1) := by decide +kernel
theorem dX9_wordOf_89 : decode cX9_wordOf 89 = .ok (.i2l, 1) := by decide +kernel
theorem dX9_wordOf_90 : decode cX9_wordOf 90 = .ok (.lreturn, 1) := by decide +kernel
theorem dX9_wordOf_91 : decode cX9_wordOf 91 = .ok (.aload_n 0, 1) := by decide +kernel
theorem dX9_wordOf_92 : decode cX9_wordOf 92 = .ok (.getfield 43, 3) := by decide +kernel
theorem dX9_wordOf_95 : decode cX9_wordOf 95 = .ok (.iload_n 2, 1) := by decide +kernel
theorem dX9_wordOf_96 : decode cX9_wordOf 96 = .ok (.iaload, 1) := by decide +kernel
theorem dX9_wordOf_97 : decode cX9_wordOf 97 = .ok (.i2l, 1) := by decide +kernel
theorem dX9_wordOf_98 : decode cX9_wordOf 98 = .ok (.lreturn, 1) := by decide +kernel
theorem dX9_wordOf_99 : decode cX9_wordOf 99 = .ok (.aload_n 0, 1) := by decide +kernel
theorem dX9_wordOf_100 : decode cX9_wordOf 100 = .ok (.aload_n 0, 1) := by decide +kernel
theorem dX9_wordOf_101 : decode cX9_wordOf 101 = .ok (.getfield 24, 3) := by decide +kernel
theorem dX9_wordOf_104 : decode cX9_wordOf 104 = .ok (.invokevirtual 68, 3) := by decide +kernel
theorem dX9_wordOf_107 : decode cX9_wordOf 107 = .ok (.i2l, 1) := by decide +kernel
theorem dX9_wordOf_108 : decode cX9_wordOf 108 = .ok (.lreturn, 1) := by decide +kernel
theorem dX9_wordOf_109 : decode cX9_wordOf 109 = .ok (.aload_n 0, 1) := by decide +kernel
theorem dX9_wordOf_110 : decode cX9_wordOf 110 = .ok (.aload_n 0, 1) := by decide +kernel
theorem dX9_wordOf_111 : decode cX9_wordOf 111 = .ok (.getfield 24, 3) := by decide +kernel
theorem dX9_wordOf_114 : decode cX9_wordOf 114 = .ok (.iconst 1, 1) := by decide +kernel
theorem dX9_wordOf_115 : decode cX9_wordOf 115 = .ok (.iadd, 1) := by decide +kernel
theorem dX9_wordOf_116 : decode cX9_wordOf 116 = .ok (.invokevirtual 68, 3) := by decide +kernel
theorem dX9_wordOf_119 : decode cX9_wordOf 119 = .ok (.i2l, 1) := by decide +kernel
theorem dX9_wordOf_120 : decode cX9_wordOf 120 = .ok (.lreturn, 1) := by decide +kernel
theorem dX9_wordOf_121 : decode cX9_wordOf 121 = .ok (.aload_n 0, 1) := by decide +kernel
theorem dX9_wordOf_122 : decode cX9_wordOf 122 = .ok (.getfield 9, 3) := by decide +kernel
theorem dX9_wordOf_125 : decode cX9_wordOf 125 = .ok (.i2l, 1) := by decide +kernel
theorem dX9_wordOf_126 : decode cX9_wordOf 126 = .ok (.lreturn, 1) := by decide +kernel
theorem dX9_wordOf_127 : decode cX9_wordOf 127 = .ok (.aload_n 0, 1) := by decide +kernel
theorem dX9_wordOf_128 : decode cX9_wordOf 128 = .ok (.getfield 46, 3) := by decide +kernel
theorem dX9_wordOf_131 : decode cX9_wordOf 131 = .ok (.iload_n 2, 1) := by decide +kernel
theorem dX9_wordOf_132 : decode cX9_wordOf 132 = .ok (.iaload, 1) := by decide +kernel
theorem dX9_wordOf_133 : decode cX9_wordOf 133 = .ok (.i2l, 1) := by decide +kernel
theorem dX9_wordOf_134 : decode cX9_wordOf 134 = .ok (.lreturn, 1) := by decide +kernel
theorem dX9_wordOf_135 : decode cX9_wordOf 135 = .ok (.aload_n 0, 1) := by decide +kernel
theorem dX9_wordOf_136 : decode cX9_wordOf 136 = .ok (.getfield 49, 3) := by decide +kernel
theorem dX9_wordOf_139 : decode cX9_wordOf 139 = .ok (.iload_n 2, 1) := by decide +kernel
theorem dX9_wordOf_140 : decode cX9_wordOf 140 = .ok (.iaload, 1) := by decide +kernel
theorem dX9_wordOf_141 : decode cX9_wordOf 141 = .ok (.i2l, 1) := by decide +kernel
theorem dX9_wordOf_142 : decode cX9_wordOf 142 = .ok (.lreturn, 1) := by decide +kernel
theorem dX9_wordOf_143 : decode cX9_wordOf 143 = .ok (.aload_n 0, 1) := by decide +kernel
theorem dX9_wordOf_144 : decode cX9_wordOf 144 = .ok (.iload_n 2, 1) := by decide +kernel
theorem dX9_wordOf_145 : decode cX9_wordOf 145 = .ok (.invokevirtual 72, 3) := by decide +kernel
theorem dX9_wordOf_148 : decode cX9_wordOf 148 = .ok (.i2l, 1) := by decide +kernel
theorem dX9_wordOf_149 : decode cX9_wordOf 149 = .ok (.lreturn, 1) := by decide +kernel
theorem dX9_wordOf_150 : decode cX9_wordOf 150 = .ok (.aload_n 0, 1) := by decide +kernel
theorem dX9_wordOf_151 : decode cX9_wordOf 151 = .ok (.getfield 27, 3) := by decide +kernel
theorem dX9_wordOf_154 : decode cX9_wordOf 154 = .ok (.i2l, 1) := by decide +kernel
theorem dX9_wordOf_155 : decode cX9_wordOf 155 = .ok (.lreturn, 1) := by decide +kernel
theorem dX9_wordOf_156 : decode cX9_wordOf 156 = .ok (.aload_n 0, 1) := by decide +kernel
theorem dX9_wordOf_157 : decode cX9_wordOf 157 = .ok (.aload_n 0, 1) := by decide +kernel
theorem dX9_wordOf_158 : decode cX9_wordOf 158 = .ok (.getfield 24, 3) := by decide +kernel
theorem dX9_wordOf_161 : decode cX9_wordOf 161 = .ok (.invokevirtual 75, 3) := by decide +kernel
theorem dX9_wordOf_164 : decode cX9_wordOf 164 = .ok (.i2l, 1) := by decide +kernel
theorem dX9_wordOf_165 : decode cX9_wordOf 165 = .ok (.lreturn, 1) := by decide +kernel
theorem dX9_wordOf_166 : decode cX9_wordOf 166 = .ok (.aload_n 0, 1) := by decide +kernel
theorem dX9_wordOf_167 : decode cX9_wordOf 167 = .ok (.getfield 24, 3) := by decide +kernel
theorem dX9_wordOf_170 : decode cX9_wordOf 170 = .ok (.i2l, 1) := by decide +kernel
theorem dX9_wordOf_171 : decode cX9_wordOf 171 = .ok (.lreturn, 1) := by decide +kernel
set_option maxHeartbeats 4000000 in
set_option maxRecDepth 100000 in
theorem ct_X9_isTold (l : Launch) (D : va_G) (tc : Nat → ClassId) (sk : (Nat → Nat) × (Nat → Nat)) (Aa : Nat → Nat) (Av : Nat → Int32) (Af : Nat → Nat → Int32)  : Ct l yX9_isTold cX9_isTold 1 (some .boolean) { frames := 0, cells := 0, slots := 0, locals := 0 } D tc sk [.ref (Aa 0)] [((Aa 0), .inr (9, [.int (Av 0), .int (Av 1), .int (Av 2), .int (Av 3), .int (Av 4), .int (Av 5), .ref (Aa 1), .ref (Aa 2), .ref (Aa 3), .ref (Aa 4), .ref (Aa 5), .ref (Aa 6), .ref (Aa 7), .ref (Aa 8)])), ((Aa 1), .inl (tc 0, 10, .inl (Af 1))), ((Aa 2), .inl (tc 0, 10, .inl (Af 2))), ((Aa 3), .inl (tc 0, 6, .inl (Af 3))), ((Aa 4), .inl (tc 0, 6, .inl (Af 4))), ((Aa 5), .inl (tc 0, 6, .inl (Af 5))), ((Aa 6), .inl (tc 0, 6, .inl (Af 6))), ((Aa 7), .inl (tc 0, 6, .inl (Af 7))), ((Aa 8), .inl (tc 0, 6, .inl (Af 8)))] (fun (v : Option Value) (_ : Unit) => ∃ r : Int32, v = some (.int r) ∧ ((r.toInt = 0 ∨ r.toInt = 1))) (fun (_ : Unit) => [((Aa 0), .inr (9, [.int (Av 0), .int (Av 1), .int (Av 2), .int (Av 3), .int (Av 4), .int (Av 5), .ref (Aa 1), .ref (Aa 2), .ref (Aa 3), .ref (Aa 4), .ref (Aa 5), .ref (Aa 6), .ref (Aa 7), .ref (Aa 8)])), ((Aa 1), .inl (tc 0, 10, .inl (Af 1))), ((Aa 2), .inl (tc 0, 10, .inl (Af 2))), ((Aa 3), .inl (tc 0, 6, .inl (Af 3))), ((Aa 4), .inl (tc 0, 6, .inl (Af 4))), ((Aa 5), .inl (tc 0, 6, .inl (Af 5))), ((Aa 6), .inl (tc 0, 6, .inl (Af 6))), ((Aa 7), .inl (tc 0, 6, .inl (Af 7))), ((Aa 8), .inl (tc 0, 6, .inl (Af 8)))]) 0 0 := by
  refine Ct.start (by decide) (Nat.le_of_ble_eq_true rfl) (fun p e s m below meth c A ls hx hb hr hlk hin hml hown hts hK hX hP hD hA hl hS => ?_)
  have hl : lv_has ls 1 [(0, .ref (Aa 0))] := hl
  refine lv_aload_n hx hb dX9_isTold_0 rfl (lv_at hl 0 rfl) ?_
  refine gf_X9_18 hx hb hts hown hK hP 0 rfl rfl dX9_isTold_1 ?_
  refine lv_if_le (tgt := 11) hx hb dX9_isTold_4 (by decide) (fun c_1 => ?_) (fun c_1 => ?_)
  · skip
    refine lv_iconst (v := 0) hx hb dX9_isTold_11 (by decide) ?_
    have hp_2 : ((0 : Int32).toInt = 0 ∨ (0 : Int32).toInt = 1) := by
      have z_1 := Int32.le_iff_toInt_le.mp c_1
      have y_0 : (0 : Int32).toInt = 0 := by decide
      omega
    exact retI (v := 0) hx hb hr hlk (rfl) hP hD hS () ⟨_, rfl, hp_2⟩ [0, 1, 2, 3, 4, 5, 6, 7, 8] rfl rfl dX9_isTold_12 (Nat.le_of_ble_eq_true rfl) (Nat.le_of_ble_eq_true rfl) rfl
  · skip
    refine lv_iconst (v := 1) hx hb dX9_isTold_7 (by decide) ?_
    refine lv_goto (tgt := 12) hx hb dX9_isTold_8 (by decide) ?_
    have hp_3 : ((1 : Int32).toInt = 0 ∨ (1 : Int32).toInt = 1) := by
      have z_1 := Int32.lt_iff_toInt_lt.mp (Int32.not_le.mp c_1)
      have y_0 : (0 : Int32).toInt = 0 := by decide
      have y_1 : (1 : Int32).toInt = 1 := by decide
      have yr : (1 : Int32).toInt = 1 := by decide
      omega
    exact retI (v := 1) hx hb hr hlk (rfl) hP hD hS () ⟨_, rfl, hp_3⟩ [0, 1, 2, 3, 4, 5, 6, 7, 8] rfl rfl dX9_isTold_12 (Nat.le_of_ble_eq_true rfl) (Nat.le_of_ble_eq_true rfl) rfl
set_option maxRecDepth 100000 in
theorem cu_X9_isTold (l : Launch) (D : va_G) (tc : Nat → ClassId) (sk : (Nat → Nat) × (Nat → Nat)) (Aa_0 : Nat) (Aa_1 : Nat) (Aa_2 : Nat) (Aa_3 : Nat) (Aa_4 : Nat) (Aa_5 : Nat) (Aa_6 : Nat) (Aa_7 : Nat) (Aa_8 : Nat) (Av_0 : Int32) (Av_1 : Int32) (Av_2 : Int32) (Av_3 : Int32) (Av_4 : Int32) (Av_5 : Int32) (Af_1 : Nat → Int32) (Af_2 : Nat → Int32) (Af_3 : Nat → Int32) (Af_4 : Nat → Int32) (Af_5 : Nat → Int32) (Af_6 : Nat → Int32) (Af_7 : Nat → Int32) (Af_8 : Nat → Int32)  : Ct l yX9_isTold cX9_isTold 1 (some .boolean) { frames := 0, cells := 0, slots := 0, locals := 0 } D tc sk [.ref Aa_0] [(Aa_0, .inr (9, [.int Av_0, .int Av_1, .int Av_2, .int Av_3, .int Av_4, .int Av_5, .ref Aa_1, .ref Aa_2, .ref Aa_3, .ref Aa_4, .ref Aa_5, .ref Aa_6, .ref Aa_7, .ref Aa_8])), (Aa_1, .inl (tc 0, 10, .inl Af_1)), (Aa_2, .inl (tc 0, 10, .inl Af_2)), (Aa_3, .inl (tc 0, 6, .inl Af_3)), (Aa_4, .inl (tc 0, 6, .inl Af_4)), (Aa_5, .inl (tc 0, 6, .inl Af_5)), (Aa_6, .inl (tc 0, 6, .inl Af_6)), (Aa_7, .inl (tc 0, 6, .inl Af_7)), (Aa_8, .inl (tc 0, 6, .inl Af_8))] (fun (v : Option Value) (_ : Unit) => ∃ r : Int32, v = some (.int r) ∧ ((r.toInt = 0 ∨ r.toInt = 1))) (fun (_ : Unit) => [(Aa_0, .inr (9, [.int Av_0, .int Av_1, .int Av_2, .int Av_3, .int Av_4, .int Av_5, .ref Aa_1, .ref Aa_2, .ref Aa_3, .ref Aa_4, .ref Aa_5, .ref Aa_6, .ref Aa_7, .ref Aa_8])), (Aa_1, .inl (tc 0, 10, .inl Af_1)), (Aa_2, .inl (tc 0, 10, .inl Af_2)), (Aa_3, .inl (tc 0, 6, .inl Af_3)), (Aa_4, .inl (tc 0, 6, .inl Af_4)), (Aa_5, .inl (tc 0, 6, .inl Af_5)), (Aa_6, .inl (tc 0, 6, .inl Af_6)), (Aa_7, .inl (tc 0, 6, .inl Af_7)), (Aa_8, .inl (tc 0, 6, .inl Af_8))]) 0 0 :=
  ct_X9_isTold l D tc sk (fun k => ([Aa_0, Aa_1, Aa_2, Aa_3, Aa_4, Aa_5, Aa_6, Aa_7, Aa_8] : List (Nat)).getD k 0) (fun k => ([Av_0, Av_1, Av_2, Av_3, Av_4, Av_5] : List (Int32)).getD k 0) (fun k => ([(fun _ => 0), Af_1, Af_2, Af_3, Af_4, Af_5, Af_6, Af_7, Af_8] : List (Nat → Int32)).getD k (fun _ => 0)) 
set_option maxHeartbeats 4000000 in
set_option maxRecDepth 100000 in
theorem ct_X9_hasBuyer (l : Launch) (D : va_G) (tc : Nat → ClassId) (sk : (Nat → Nat) × (Nat → Nat)) (Aa : Nat → Nat) (Av : Nat → Int32) (Af : Nat → Nat → Int32) (x1 : Int32)  : Ct l yX9_hasBuyer cX9_hasBuyer 2 (some .boolean) { frames := 0, cells := 0, slots := 0, locals := 0 } D tc sk [.ref (Aa 0), .int x1] [((Aa 0), .inr (9, [.int (Av 0), .int (Av 1), .int (Av 2), .int (Av 3), .int (Av 4), .int (Av 5), .ref (Aa 1), .ref (Aa 2), .ref (Aa 3), .ref (Aa 4), .ref (Aa 5), .ref (Aa 6), .ref (Aa 7), .ref (Aa 8)])), ((Aa 1), .inl (tc 0, 10, .inl (Af 1))), ((Aa 2), .inl (tc 0, 10, .inl (Af 2))), ((Aa 3), .inl (tc 0, 6, .inl (Af 3))), ((Aa 4), .inl (tc 0, 6, .inl (Af 4))), ((Aa 5), .inl (tc 0, 6, .inl (Af 5))), ((Aa 6), .inl (tc 0, 6, .inl (Af 6))), ((Aa 7), .inl (tc 0, 6, .inl (Af 7))), ((Aa 8), .inl (tc 0, 6, .inl (Af 8)))] (fun (v : Option Value) (_ : Unit) => ∃ r : Int32, v = some (.int r) ∧ ((r.toInt = 0 ∨ (r.toInt = 1 ∧ 0 ≤ x1.toInt ∧ x1.toInt < 6 ∧ x1.toInt < (Av 3).toInt)))) (fun (_ : Unit) => [((Aa 0), .inr (9, [.int (Av 0), .int (Av 1), .int (Av 2), .int (Av 3), .int (Av 4), .int (Av 5), .ref (Aa 1), .ref (Aa 2), .ref (Aa 3), .ref (Aa 4), .ref (Aa 5), .ref (Aa 6), .ref (Aa 7), .ref (Aa 8)])), ((Aa 1), .inl (tc 0, 10, .inl (Af 1))), ((Aa 2), .inl (tc 0, 10, .inl (Af 2))), ((Aa 3), .inl (tc 0, 6, .inl (Af 3))), ((Aa 4), .inl (tc 0, 6, .inl (Af 4))), ((Aa 5), .inl (tc 0, 6, .inl (Af 5))), ((Aa 6), .inl (tc 0, 6, .inl (Af 6))), ((Aa 7), .inl (tc 0, 6, .inl (Af 7))), ((Aa 8), .inl (tc 0, 6, .inl (Af 8)))]) 0 0 := by
  refine Ct.start (by decide) (Nat.le_of_ble_eq_true rfl) (fun p e s m below meth c A ls hx hb hr hlk hin hml hown hts hK hX hP hD hA hl hS => ?_)
  have hl : lv_has ls 2 [(0, .ref (Aa 0)), (1, .int x1)] := hl
  refine lv_iload_n hx hb dX9_hasBuyer_0 rfl (lv_at hl 1 rfl) ?_
  refine lv_if_lt (tgt := 22) hx hb dX9_hasBuyer_1 (by decide) (fun c_1 => ?_) (fun c_1 => ?_)
  · skip
    refine lv_iconst (v := 0) hx hb dX9_hasBuyer_22 (by decide) ?_
    have hp_2 : ((0 : Int32).toInt = 0 ∨ ((0 : Int32).toInt = 1 ∧ 0 ≤ x1.toInt ∧ x1.toInt < 6 ∧ x1.toInt < (Av 3).toInt)) := by
      have z_1 := Int32.lt_iff_toInt_lt.mp c_1
      have y_0 : (0 : Int32).toInt = 0 := by decide
      omega
    exact retI (v := 0) hx hb hr hlk (rfl) hP hD hS () ⟨_, rfl, hp_2⟩ [0, 1, 2, 3, 4, 5, 6, 7, 8] rfl rfl dX9_hasBuyer_23 (Nat.le_of_ble_eq_true rfl) (Nat.le_of_ble_eq_true rfl) rfl
  · skip
    refine lv_iload_n hx hb dX9_hasBuyer_4 rfl (lv_at hl 1 rfl) ?_
    refine lv_aload_n hx hb dX9_hasBuyer_5 rfl (lv_at hl 0 rfl) ?_
    refine gf_X9_21 hx hb hts hown hK hP 0 rfl rfl dX9_hasBuyer_6 ?_
    refine lv_icmp_ge (tgt := 22) hx hb dX9_hasBuyer_9 (by decide) (fun c_3 => ?_) (fun c_3 => ?_)
    · skip
      refine lv_iconst (v := 0) hx hb dX9_hasBuyer_22 (by decide) ?_
      have hp_4 : ((0 : Int32).toInt = 0 ∨ ((0 : Int32).toInt = 1 ∧ 0 ≤ x1.toInt ∧ x1.toInt < 6 ∧ x1.toInt < (Av 3).toInt)) := by
        have z_1 := Int32.le_iff_toInt_le.mp (Int32.not_lt.mp c_1)
        have z_2 := Int32.le_iff_toInt_le.mp c_3
        have y_0 : (0 : Int32).toInt = 0 := by decide
        omega
      exact retI (v := 0) hx hb hr hlk (rfl) hP hD hS () ⟨_, rfl, hp_4⟩ [0, 1, 2, 3, 4, 5, 6, 7, 8] rfl rfl dX9_hasBuyer_23 (Nat.le_of_ble_eq_true rfl) (Nat.le_of_ble_eq_true rfl) rfl
    · skip
      refine lv_iload_n hx hb dX9_hasBuyer_12 rfl (lv_at hl 1 rfl) ?_
      refine lv_bipush (v := 6) hx hb dX9_hasBuyer_13 (by decide) ?_
      refine lv_icmp_ge (tgt := 22) hx hb dX9_hasBuyer_15 (by decide) (fun c_5 => ?_) (fun c_5 => ?_)
      · skip
        refine lv_iconst (v := 0) hx hb dX9_hasBuyer_22 (by decide) ?_
        have hp_6 : ((0 : Int32).toInt = 0 ∨ ((0 : Int32).toInt = 1 ∧ 0 ≤ x1.toInt ∧ x1.toInt < 6 ∧ x1.toInt < (Av 3).toInt)) := by
          have z_1 := Int32.le_iff_toInt_le.mp (Int32.not_lt.mp c_1)
          have z_2 := Int32.lt_iff_toInt_lt.mp (Int32.not_le.mp c_3)
          have z_3 := Int32.le_iff_toInt_le.mp c_5
          have y_0 : (0 : Int32).toInt = 0 := by decide
          have y_6 : (6 : Int32).toInt = 6 := by decide
          omega
        exact retI (v := 0) hx hb hr hlk (rfl) hP hD hS () ⟨_, rfl, hp_6⟩ [0, 1, 2, 3, 4, 5, 6, 7, 8] rfl rfl dX9_hasBuyer_23 (Nat.le_of_ble_eq_true rfl) (Nat.le_of_ble_eq_true rfl) rfl
      · skip
        refine lv_iconst (v := 1) hx hb dX9_hasBuyer_18 (by decide) ?_
        refine lv_goto (tgt := 23) hx hb dX9_hasBuyer_19 (by decide) ?_
        have hp_7 : ((1 : Int32).toInt = 0 ∨ ((1 : Int32).toInt = 1 ∧ 0 ≤ x1.toInt ∧ x1.toInt < 6 ∧ x1.toInt < (Av 3).toInt)) := by
          have z_1 := Int32.le_iff_toInt_le.mp (Int32.not_lt.mp c_1)
          have z_2 := Int32.lt_iff_toInt_lt.mp (Int32.not_le.mp c_3)
          have z_3 := Int32.lt_iff_toInt_lt.mp (Int32.not_le.mp c_5)
          have y_0 : (0 : Int32).toInt = 0 := by decide
          have y_6 : (6 : Int32).toInt = 6 := by decide
          have y_1 : (1 : Int32).toInt = 1 := by decide
          have yr : (1 : Int32).toInt = 1 := by decide
          omega
        exact retI (v := 1) hx hb hr hlk (rfl) hP hD hS () ⟨_, rfl, hp_7⟩ [0, 1, 2, 3, 4, 5, 6, 7, 8] rfl rfl dX9_hasBuyer_23 (Nat.le_of_ble_eq_true rfl) (Nat.le_of_ble_eq_true rfl) rfl
set_option maxRecDepth 100000 in
theorem cu_X9_hasBuyer (l : Launch) (D : va_G) (tc : Nat → ClassId) (sk : (Nat → Nat) × (Nat → Nat)) (Aa_0 : Nat) (Aa_1 : Nat) (Aa_2 : Nat) (Aa_3 : Nat) (Aa_4 : Nat) (Aa_5 : Nat) (Aa_6 : Nat) (Aa_7 : Nat) (Aa_8 : Nat) (Av_0 : Int32) (Av_1 : Int32) (Av_2 : Int32) (Av_3 : Int32) (Av_4 : Int32) (Av_5 : Int32) (Af_1 : Nat → Int32) (Af_2 : Nat → Int32) (Af_3 : Nat → Int32) (Af_4 : Nat → Int32) (Af_5 : Nat → Int32) (Af_6 : Nat → Int32) (Af_7 : Nat → Int32) (Af_8 : Nat → Int32) (x1 : Int32)  : Ct l yX9_hasBuyer cX9_hasBuyer 2 (some .boolean) { frames := 0, cells := 0, slots := 0, locals := 0 } D tc sk [.ref Aa_0, .int x1] [(Aa_0, .inr (9, [.int Av_0, .int Av_1, .int Av_2, .int Av_3, .int Av_4, .int Av_5, .ref Aa_1, .ref Aa_2, .ref Aa_3, .ref Aa_4, .ref Aa_5, .ref Aa_6, .ref Aa_7, .ref Aa_8])), (Aa_1, .inl (tc 0, 10, .inl Af_1)), (Aa_2, .inl (tc 0, 10, .inl Af_2)), (Aa_3, .inl (tc 0, 6, .inl Af_3)), (Aa_4, .inl (tc 0, 6, .inl Af_4)), (Aa_5, .inl (tc 0, 6, .inl Af_5)), (Aa_6, .inl (tc 0, 6, .inl Af_6)), (Aa_7, .inl (tc 0, 6, .inl Af_7)), (Aa_8, .inl (tc 0, 6, .inl Af_8))] (fun (v : Option Value) (_ : Unit) => ∃ r : Int32, v = some (.int r) ∧ ((r.toInt = 0 ∨ (r.toInt = 1 ∧ 0 ≤ x1.toInt ∧ x1.toInt < 6 ∧ x1.toInt < Av_3.toInt)))) (fun (_ : Unit) => [(Aa_0, .inr (9, [.int Av_0, .int Av_1, .int Av_2, .int Av_3, .int Av_4, .int Av_5, .ref Aa_1, .ref Aa_2, .ref Aa_3, .ref Aa_4, .ref Aa_5, .ref Aa_6, .ref Aa_7, .ref Aa_8])), (Aa_1, .inl (tc 0, 10, .inl Af_1)), (Aa_2, .inl (tc 0, 10, .inl Af_2)), (Aa_3, .inl (tc 0, 6, .inl Af_3)), (Aa_4, .inl (tc 0, 6, .inl Af_4)), (Aa_5, .inl (tc 0, 6, .inl Af_5)), (Aa_6, .inl (tc 0, 6, .inl Af_6)), (Aa_7, .inl (tc 0, 6, .inl Af_7)), (Aa_8, .inl (tc 0, 6, .inl Af_8))]) 0 0 :=
  ct_X9_hasBuyer l D tc sk (fun k => ([Aa_0, Aa_1, Aa_2, Aa_3, Aa_4, Aa_5, Aa_6, Aa_7, Aa_8] : List (Nat)).getD k 0) (fun k => ([Av_0, Av_1, Av_2, Av_3, Av_4, Av_5] : List (Int32)).getD k 0) (fun k => ([(fun _ => 0), Af_1, Af_2, Af_3, Af_4, Af_5, Af_6, Af_7, Af_8] : List (Nat → Int32)).getD k (fun _ => 0)) x1 
set_option maxHeartbeats 4000000 in
set_option maxRecDepth 100000 in
theorem ct_X9_hasClock (l : Launch) (D : va_G) (tc : Nat → ClassId) (sk : (Nat → Nat) × (Nat → Nat)) (Aa : Nat → Nat) (Av : Nat → Int32) (Af : Nat → Nat → Int32) (x1 : Int32)  : Ct l yX9_hasClock cX9_hasClock 2 (some .boolean) { frames := 0, cells := 0, slots := 0, locals := 0 } D tc sk [.ref (Aa 0), .int x1] [((Aa 0), .inr (9, [.int (Av 0), .int (Av 1), .int (Av 2), .int (Av 3), .int (Av 4), .int (Av 5), .ref (Aa 1), .ref (Aa 2), .ref (Aa 3), .ref (Aa 4), .ref (Aa 5), .ref (Aa 6), .ref (Aa 7), .ref (Aa 8)])), ((Aa 1), .inl (tc 0, 10, .inl (Af 1))), ((Aa 2), .inl (tc 0, 10, .inl (Af 2))), ((Aa 3), .inl (tc 0, 6, .inl (Af 3))), ((Aa 4), .inl (tc 0, 6, .inl (Af 4))), ((Aa 5), .inl (tc 0, 6, .inl (Af 5))), ((Aa 6), .inl (tc 0, 6, .inl (Af 6))), ((Aa 7), .inl (tc 0, 6, .inl (Af 7))), ((Aa 8), .inl (tc 0, 6, .inl (Af 8)))] (fun (v : Option Value) (_ : Unit) => ∃ r : Int32, v = some (.int r) ∧ ((r.toInt = 0 ∨ (r.toInt = 1 ∧ 0 ≤ x1.toInt ∧ x1.toInt < 10)))) (fun (_ : Unit) => [((Aa 0), .inr (9, [.int (Av 0), .int (Av 1), .int (Av 2), .int (Av 3), .int (Av 4), .int (Av 5), .ref (Aa 1), .ref (Aa 2), .ref (Aa 3), .ref (Aa 4), .ref (Aa 5), .ref (Aa 6), .ref (Aa 7), .ref (Aa 8)])), ((Aa 1), .inl (tc 0, 10, .inl (Af 1))), ((Aa 2), .inl (tc 0, 10, .inl (Af 2))), ((Aa 3), .inl (tc 0, 6, .inl (Af 3))), ((Aa 4), .inl (tc 0, 6, .inl (Af 4))), ((Aa 5), .inl (tc 0, 6, .inl (Af 5))), ((Aa 6), .inl (tc 0, 6, .inl (Af 6))), ((Aa 7), .inl (tc 0, 6, .inl (Af 7))), ((Aa 8), .inl (tc 0, 6, .inl (Af 8)))]) 0 0 := by
  refine Ct.start (by decide) (Nat.le_of_ble_eq_true rfl) (fun p e s m below meth c A ls hx hb hr hlk hin hml hown hts hK hX hP hD hA hl hS => ?_)
  have hl : lv_has ls 2 [(0, .ref (Aa 0)), (1, .int x1)] := hl
  refine lv_iload_n hx hb dX9_hasClock_0 rfl (lv_at hl 1 rfl) ?_
  refine lv_if_lt (tgt := 22) hx hb dX9_hasClock_1 (by decide) (fun c_1 => ?_) (fun c_1 => ?_)
  · skip
    refine lv_iconst (v := 0) hx hb dX9_hasClock_22 (by decide) ?_
    have hp_2 : ((0 : Int32).toInt = 0 ∨ ((0 : Int32).toInt = 1 ∧ 0 ≤ x1.toInt ∧ x1.toInt < 10)) := by
      have z_1 := Int32.lt_iff_toInt_lt.mp c_1
      have y_0 : (0 : Int32).toInt = 0 := by decide
      omega
    exact retI (v := 0) hx hb hr hlk (rfl) hP hD hS () ⟨_, rfl, hp_2⟩ [0, 1, 2, 3, 4, 5, 6, 7, 8] rfl rfl dX9_hasClock_23 (Nat.le_of_ble_eq_true rfl) (Nat.le_of_ble_eq_true rfl) rfl
  · skip
    refine lv_iload_n hx hb dX9_hasClock_4 rfl (lv_at hl 1 rfl) ?_
    refine lv_aload_n hx hb dX9_hasClock_5 rfl (lv_at hl 0 rfl) ?_
    refine gf_X9_18 hx hb hts hown hK hP 0 rfl rfl dX9_hasClock_6 ?_
    refine lv_icmp_ge (tgt := 22) hx hb dX9_hasClock_9 (by decide) (fun c_3 => ?_) (fun c_3 => ?_)
    · skip
      refine lv_iconst (v := 0) hx hb dX9_hasClock_22 (by decide) ?_
      have hp_4 : ((0 : Int32).toInt = 0 ∨ ((0 : Int32).toInt = 1 ∧ 0 ≤ x1.toInt ∧ x1.toInt < 10)) := by
        have z_1 := Int32.le_iff_toInt_le.mp (Int32.not_lt.mp c_1)
        have z_2 := Int32.le_iff_toInt_le.mp c_3
        have y_0 : (0 : Int32).toInt = 0 := by decide
        omega
      exact retI (v := 0) hx hb hr hlk (rfl) hP hD hS () ⟨_, rfl, hp_4⟩ [0, 1, 2, 3, 4, 5, 6, 7, 8] rfl rfl dX9_hasClock_23 (Nat.le_of_ble_eq_true rfl) (Nat.le_of_ble_eq_true rfl) rfl
    · skip
      refine lv_iload_n hx hb dX9_hasClock_12 rfl (lv_at hl 1 rfl) ?_
      refine lv_bipush (v := 10) hx hb dX9_hasClock_13 (by decide) ?_
      refine lv_icmp_ge (tgt := 22) hx hb dX9_hasClock_15 (by decide) (fun c_5 => ?_) (fun c_5 => ?_)
      · skip
        refine lv_iconst (v := 0) hx hb dX9_hasClock_22 (by decide) ?_
        have hp_6 : ((0 : Int32).toInt = 0 ∨ ((0 : Int32).toInt = 1 ∧ 0 ≤ x1.toInt ∧ x1.toInt < 10)) := by
          have z_1 := Int32.le_iff_toInt_le.mp (Int32.not_lt.mp c_1)
          have z_2 := Int32.lt_iff_toInt_lt.mp (Int32.not_le.mp c_3)
          have z_3 := Int32.le_iff_toInt_le.mp c_5
          have y_0 : (0 : Int32).toInt = 0 := by decide
          have y_10 : (10 : Int32).toInt = 10 := by decide
          omega
        exact retI (v := 0) hx hb hr hlk (rfl) hP hD hS () ⟨_, rfl, hp_6⟩ [0, 1, 2, 3, 4, 5, 6, 7, 8] rfl rfl dX9_hasClock_23 (Nat.le_of_ble_eq_true rfl) (Nat.le_of_ble_eq_true rfl) rfl
      · skip
        refine lv_iconst (v := 1) hx hb dX9_hasClock_18 (by decide) ?_
        refine lv_goto (tgt := 23) hx hb dX9_hasClock_19 (by decide) ?_
        have hp_7 : ((1 : Int32).toInt = 0 ∨ ((1 : Int32).toInt = 1 ∧ 0 ≤ x1.toInt ∧ x1.toInt < 10)) := by
          have z_1 := Int32.le_iff_toInt_le.mp (Int32.not_lt.mp c_1)
          have z_2 := Int32.lt_iff_toInt_lt.mp (Int32.not_le.mp c_3)
          have z_3 := Int32.lt_iff_toInt_lt.mp (Int32.not_le.mp c_5)
          have y_0 : (0 : Int32).toInt = 0 := by decide
          have y_10 : (10 : Int32).toInt = 10 := by decide
          have y_1 : (1 : Int32).toInt = 1 := by decide
          have yr : (1 : Int32).toInt = 1 := by decide
          omega
        exact retI (v := 1) hx hb hr hlk (rfl) hP hD hS () ⟨_, rfl, hp_7⟩ [0, 1, 2, 3, 4, 5, 6, 7, 8] rfl rfl dX9_hasClock_23 (Nat.le_of_ble_eq_true rfl) (Nat.le_of_ble_eq_true rfl) rfl
set_option maxRecDepth 100000 in
theorem cu_X9_hasClock (l : Launch) (D : va_G) (tc : Nat → ClassId) (sk : (Nat → Nat) × (Nat → Nat)) (Aa_0 : Nat) (Aa_1 : Nat) (Aa_2 : Nat) (Aa_3 : Nat) (Aa_4 : Nat) (Aa_5 : Nat) (Aa_6 : Nat) (Aa_7 : Nat) (Aa_8 : Nat) (Av_0 : Int32) (Av_1 : Int32) (Av_2 : Int32) (Av_3 : Int32) (Av_4 : Int32) (Av_5 : Int32) (Af_1 : Nat → Int32) (Af_2 : Nat → Int32) (Af_3 : Nat → Int32) (Af_4 : Nat → Int32) (Af_5 : Nat → Int32) (Af_6 : Nat → Int32) (Af_7 : Nat → Int32) (Af_8 : Nat → Int32) (x1 : Int32)  : Ct l yX9_hasClock cX9_hasClock 2 (some .boolean) { frames := 0, cells := 0, slots := 0, locals := 0 } D tc sk [.ref Aa_0, .int x1] [(Aa_0, .inr (9, [.int Av_0, .int Av_1, .int Av_2, .int Av_3, .int Av_4, .int Av_5, .ref Aa_1, .ref Aa_2, .ref Aa_3, .ref Aa_4, .ref Aa_5, .ref Aa_6, .ref Aa_7, .ref Aa_8])), (Aa_1, .inl (tc 0, 10, .inl Af_1)), (Aa_2, .inl (tc 0, 10, .inl Af_2)), (Aa_3, .inl (tc 0, 6, .inl Af_3)), (Aa_4, .inl (tc 0, 6, .inl Af_4)), (Aa_5, .inl (tc 0, 6, .inl Af_5)), (Aa_6, .inl (tc 0, 6, .inl Af_6)), (Aa_7, .inl (tc 0, 6, .inl Af_7)), (Aa_8, .inl (tc 0, 6, .inl Af_8))] (fun (v : Option Value) (_ : Unit) => ∃ r : Int32, v = some (.int r) ∧ ((r.toInt = 0 ∨ (r.toInt = 1 ∧ 0 ≤ x1.toInt ∧ x1.toInt < 10)))) (fun (_ : Unit) => [(Aa_0, .inr (9, [.int Av_0, .int Av_1, .int Av_2, .int Av_3, .int Av_4, .int Av_5, .ref Aa_1, .ref Aa_2, .ref Aa_3, .ref Aa_4, .ref Aa_5, .ref Aa_6, .ref Aa_7, .ref Aa_8])), (Aa_1, .inl (tc 0, 10, .inl Af_1)), (Aa_2, .inl (tc 0, 10, .inl Af_2)), (Aa_3, .inl (tc 0, 6, .inl Af_3)), (Aa_4, .inl (tc 0, 6, .inl Af_4)), (Aa_5, .inl (tc 0, 6, .inl Af_5)), (Aa_6, .inl (tc 0, 6, .inl Af_6)), (Aa_7, .inl (tc 0, 6, .inl Af_7)), (Aa_8, .inl (tc 0, 6, .inl Af_8))]) 0 0 :=
  ct_X9_hasClock l D tc sk (fun k => ([Aa_0, Aa_1, Aa_2, Aa_3, Aa_4, Aa_5, Aa_6, Aa_7, Aa_8] : List (Nat)).getD k 0) (fun k => ([Av_0, Av_1, Av_2, Av_3, Av_4, Av_5] : List (Int32)).getD k 0) (fun k => ([(fun _ => 0), Af_1, Af_2, Af_3, Af_4, Af_5, Af_6, Af_7, Af_8] : List (Nat → Int32)).getD k (fun _ => 0)) x1 
set_option maxHeartbeats 4000000 in
set_option maxRecDepth 100000 in
theorem ct_X9_clockOn (l : Launch) (D : va_G) (tc : Nat → ClassId) (sk : (Nat → Nat) × (Nat → Nat)) (Aa : Nat → Nat) (Av : Nat → Int32) (Af : Nat → Nat → Int32) (x1 : Int32)  : Ct l yX9_clockOn cX9_clockOn 2 (some .int) { frames := 0, cells := 0, slots := 0, locals := 0 } D tc sk [.ref (Aa 0), .int x1] [((Aa 0), .inr (9, [.int (Av 0), .int (Av 1), .int (Av 2), .int (Av 3), .int (Av 4), .int (Av 5), .ref (Aa 1), .ref (Aa 2), .ref (Aa 3), .ref (Aa 4), .ref (Aa 5), .ref (Aa 6), .ref (Aa 7), .ref (Aa 8)])), ((Aa 1), .inl (tc 0, 10, .inl (Af 1))), ((Aa 2), .inl (tc 0, 10, .inl (Af 2))), ((Aa 3), .inl (tc 0, 6, .inl (Af 3))), ((Aa 4), .inl (tc 0, 6, .inl (Af 4))), ((Aa 5), .inl (tc 0, 6, .inl (Af 5))), ((Aa 6), .inl (tc 0, 6, .inl (Af 6))), ((Aa 7), .inl (tc 0, 6, .inl (Af 7))), ((Aa 8), .inl (tc 0, 6, .inl (Af 8)))] (fun (v : Option Value) (_ : Unit) => ∃ r : Int32, v = some (.int r) ∧ (True)) (fun (_ : Unit) => [((Aa 0), .inr (9, [.int (Av 0), .int (Av 1), .int (Av 2), .int (Av 3), .int (Av 4), .int (Av 5), .ref (Aa 1), .ref (Aa 2), .ref (Aa 3), .ref (Aa 4), .ref (Aa 5), .ref (Aa 6), .ref (Aa 7), .ref (Aa 8)])), ((Aa 1), .inl (tc 0, 10, .inl (Af 1))), ((Aa 2), .inl (tc 0, 10, .inl (Af 2))), ((Aa 3), .inl (tc 0, 6, .inl (Af 3))), ((Aa 4), .inl (tc 0, 6, .inl (Af 4))), ((Aa 5), .inl (tc 0, 6, .inl (Af 5))), ((Aa 6), .inl (tc 0, 6, .inl (Af 6))), ((Aa 7), .inl (tc 0, 6, .inl (Af 7))), ((Aa 8), .inl (tc 0, 6, .inl (Af 8)))]) 0 0 := by
  refine Ct.start (by decide) (Nat.le_of_ble_eq_true rfl) (fun p e s m below meth c A ls hx hb hr hlk hin hml hown hts hK hX hP hD hA hl hS => ?_)
  have hl : lv_has ls 2 [(0, .ref (Aa 0)), (1, .int x1)] := hl
  refine lv_aload_n hx hb dX9_clockOn_0 rfl (lv_at hl 0 rfl) ?_
  refine gf_X9_18 hx hb hts hown hK hP 0 rfl rfl dX9_clockOn_1 ?_
  refine lv_if_le (tgt := 20) hx hb dX9_clockOn_4 (by decide) (fun c_1 => ?_) (fun c_1 => ?_)
  · skip
    refine lv_iconst (v := 0) hx hb dX9_clockOn_20 (by decide) ?_
    exact retI (v := 0) hx hb hr hlk (rfl) hP hD hS () ⟨_, rfl, trivial⟩ [0, 1, 2, 3, 4, 5, 6, 7, 8] rfl rfl dX9_clockOn_21 (Nat.le_of_ble_eq_true rfl) (Nat.le_of_ble_eq_true rfl) rfl
  · skip
    refine lv_iload_n hx hb dX9_clockOn_7 rfl (lv_at hl 1 rfl) ?_
    refine lv_if_lt (tgt := 20) hx hb dX9_clockOn_8 (by decide) (fun c_2 => ?_) (fun c_2 => ?_)
    · skip
      refine lv_iconst (v := 0) hx hb dX9_clockOn_20 (by decide) ?_
      exact retI (v := 0) hx hb hr hlk (rfl) hP hD hS () ⟨_, rfl, trivial⟩ [0, 1, 2, 3, 4, 5, 6, 7, 8] rfl rfl dX9_clockOn_21 (Nat.le_of_ble_eq_true rfl) (Nat.le_of_ble_eq_true rfl) rfl
    · skip
      refine lv_iload_n hx hb dX9_clockOn_11 rfl (lv_at hl 1 rfl) ?_
      refine lv_aload_n hx hb dX9_clockOn_12 rfl (lv_at hl 0 rfl) ?_
      refine gf_X9_18 hx hb hts hown hK hP 0 rfl rfl dX9_clockOn_13 ?_
      have hz_3 : ¬ (Av 2) = 0 := by
        intro z
        have zz : ((Av 2) : Int32).toInt = 0 := by rw [z]; decide
        have z_1 := Int32.lt_iff_toInt_lt.mp (Int32.not_le.mp c_1)
        have z_2 := Int32.le_iff_toInt_le.mp (Int32.not_lt.mp c_2)
        have y_0 : (0 : Int32).toInt = 0 := by decide
        omega
      refine lv_irem hx hb dX9_clockOn_16 hz_3 ?_
      refine lv_topi (fun x_4 ex_4 => ?_)
      refine lv_goto (tgt := 21) hx hb dX9_clockOn_17 (by decide) ?_
      exact retI (v := x_4) hx hb hr hlk (rfl) hP hD hS () ⟨_, rfl, trivial⟩ [0, 1, 2, 3, 4, 5, 6, 7, 8] rfl rfl dX9_clockOn_21 (Nat.le_of_ble_eq_true rfl) (Nat.le_of_ble_eq_true rfl) rfl
set_option maxRecDepth 100000 in
theorem cu_X9_clockOn (l : Launch) (D : va_G) (tc : Nat → ClassId) (sk : (Nat → Nat) × (Nat → Nat)) (Aa_0 : Nat) (Aa_1 : Nat) (Aa_2 : Nat) (Aa_3 : Nat) (Aa_4 : Nat) (Aa_5 : Nat) (Aa_6 : Nat) (Aa_7 : Nat) (Aa_8 : Nat) (Av_0 : Int32) (Av_1 : Int32) (Av_2 : Int32) (Av_3 : Int32) (Av_4 : Int32) (Av_5 : Int32) (Af_1 : Nat → Int32) (Af_2 : Nat → Int32) (Af_3 : Nat → Int32) (Af_4 : Nat → Int32) (Af_5 : Nat → Int32) (Af_6 : Nat → Int32) (Af_7 : Nat → Int32) (Af_8 : Nat → Int32) (x1 : Int32)  : Ct l yX9_clockOn cX9_clockOn 2 (some .int) { frames := 0, cells := 0, slots := 0, locals := 0 } D tc sk [.ref Aa_0, .int x1] [(Aa_0, .inr (9, [.int Av_0, .int Av_1, .int Av_2, .int Av_3, .int Av_4, .int Av_5, .ref Aa_1, .ref Aa_2, .ref Aa_3, .ref Aa_4, .ref Aa_5, .ref Aa_6, .ref Aa_7, .ref Aa_8])), (Aa_1, .inl (tc 0, 10, .inl Af_1)), (Aa_2, .inl (tc 0, 10, .inl Af_2)), (Aa_3, .inl (tc 0, 6, .inl Af_3)), (Aa_4, .inl (tc 0, 6, .inl Af_4)), (Aa_5, .inl (tc 0, 6, .inl Af_5)), (Aa_6, .inl (tc 0, 6, .inl Af_6)), (Aa_7, .inl (tc 0, 6, .inl Af_7)), (Aa_8, .inl (tc 0, 6, .inl Af_8))] (fun (v : Option Value) (_ : Unit) => ∃ r : Int32, v = some (.int r) ∧ (True)) (fun (_ : Unit) => [(Aa_0, .inr (9, [.int Av_0, .int Av_1, .int Av_2, .int Av_3, .int Av_4, .int Av_5, .ref Aa_1, .ref Aa_2, .ref Aa_3, .ref Aa_4, .ref Aa_5, .ref Aa_6, .ref Aa_7, .ref Aa_8])), (Aa_1, .inl (tc 0, 10, .inl Af_1)), (Aa_2, .inl (tc 0, 10, .inl Af_2)), (Aa_3, .inl (tc 0, 6, .inl Af_3)), (Aa_4, .inl (tc 0, 6, .inl Af_4)), (Aa_5, .inl (tc 0, 6, .inl Af_5)), (Aa_6, .inl (tc 0, 6, .inl Af_6)), (Aa_7, .inl (tc 0, 6, .inl Af_7)), (Aa_8, .inl (tc 0, 6, .inl Af_8))]) 0 0 :=
  ct_X9_clockOn l D tc sk (fun k => ([Aa_0, Aa_1, Aa_2, Aa_3, Aa_4, Aa_5, Aa_6, Aa_7, Aa_8] : List (Nat)).getD k 0) (fun k => ([Av_0, Av_1, Av_2, Av_3, Av_4, Av_5] : List (Int32)).getD k 0) (fun k => ([(fun _ => 0), Af_1, Af_2, Af_3, Af_4, Af_5, Af_6, Af_7, Af_8] : List (Nat → Int32)).getD k (fun _ => 0)) x1 
set_option maxHeartbeats 4000000 in
set_option maxRecDepth 100000 in
theorem ct_X9_stillOn (l : Launch) (D : va_G) (tc : Nat → ClassId) (sk : (Nat → Nat) × (Nat → Nat)) (Aa : Nat → Nat) (Av : Nat → Int32) (Af : Nat → Nat → Int32) (x1 : Int32)  : Ct l yX9_stillOn cX9_stillOn 3 (some .int) { frames := 0, cells := 0, slots := 0, locals := 0 } D tc sk [.ref (Aa 0), .int x1] [((Aa 0), .inr (9, [.int (Av 0), .int (Av 1), .int (Av 2), .int (Av 3), .int (Av 4), .int (Av 5), .ref (Aa 1), .ref (Aa 2), .ref (Aa 3), .ref (Aa 4), .ref (Aa 5), .ref (Aa 6), .ref (Aa 7), .ref (Aa 8)])), ((Aa 1), .inl (tc 0, 10, .inl (Af 1))), ((Aa 2), .inl (tc 0, 10, .inl (Af 2))), ((Aa 3), .inl (tc 0, 6, .inl (Af 3))), ((Aa 4), .inl (tc 0, 6, .inl (Af 4))), ((Aa 5), .inl (tc 0, 6, .inl (Af 5))), ((Aa 6), .inl (tc 0, 6, .inl (Af 6))), ((Aa 7), .inl (tc 0, 6, .inl (Af 7))), ((Aa 8), .inl (tc 0, 6, .inl (Af 8)))] (fun (v : Option Value) (_ : Unit) => ∃ r : Int32, v = some (.int r) ∧ (True)) (fun (_ : Unit) => [((Aa 0), .inr (9, [.int (Av 0), .int (Av 1), .int (Av 2), .int (Av 3), .int (Av 4), .int (Av 5), .ref (Aa 1), .ref (Aa 2), .ref (Aa 3), .ref (Aa 4), .ref (Aa 5), .ref (Aa 6), .ref (Aa 7), .ref (Aa 8)])), ((Aa 1), .inl (tc 0, 10, .inl (Af 1))), ((Aa 2), .inl (tc 0, 10, .inl (Af 2))), ((Aa 3), .inl (tc 0, 6, .inl (Af 3))), ((Aa 4), .inl (tc 0, 6, .inl (Af 4))), ((Aa 5), .inl (tc 0, 6, .inl (Af 5))), ((Aa 6), .inl (tc 0, 6, .inl (Af 6))), ((Aa 7), .inl (tc 0, 6, .inl (Af 7))), ((Aa 8), .inl (tc 0, 6, .inl (Af 8)))]) 0 0 := by
  refine Ct.start (by decide) (Nat.le_of_ble_eq_true rfl) (fun p e s m below meth c A ls hx hb hr hlk hin hml hown hts hK hX hP hD hA hl hS => ?_)
  have hl : lv_has ls 3 [(0, .ref (Aa 0)), (1, .int x1)] := hl
  refine lv_aload_n hx hb dX9_stillOn_0 rfl (lv_at hl 0 rfl) ?_
  refine gf_X9_18 hx hb hts hown hK hP 0 rfl rfl dX9_stillOn_1 ?_
  refine lv_if_le (tgt := 11) hx hb dX9_stillOn_4 (by decide) (fun c_1 => ?_) (fun c_1 => ?_)
  · skip
    refine lv_iconst (v := 0) hx hb dX9_stillOn_11 (by decide) ?_
    exact retI (v := 0) hx hb hr hlk (rfl) hP hD hS () ⟨_, rfl, trivial⟩ [0, 1, 2, 3, 4, 5, 6, 7, 8] rfl rfl dX9_stillOn_12 (Nat.le_of_ble_eq_true rfl) (Nat.le_of_ble_eq_true rfl) rfl
  · skip
    refine lv_iload_n hx hb dX9_stillOn_7 rfl (lv_at hl 1 rfl) ?_
    refine lv_if_ge (tgt := 13) hx hb dX9_stillOn_8 (by decide) (fun c_2 => ?_) (fun c_2 => ?_)
    · skip
      refine lv_iload_n hx hb dX9_stillOn_13 rfl (lv_at hl 1 rfl) ?_
      refine lv_aload_n hx hb dX9_stillOn_14 rfl (lv_at hl 0 rfl) ?_
      refine gf_X9_18 hx hb hts hown hK hP 0 rfl rfl dX9_stillOn_15 ?_
      have hz_3 : ¬ (Av 2) = 0 := by
        intro z
        have zz : ((Av 2) : Int32).toInt = 0 := by rw [z]; decide
        have z_1 := Int32.lt_iff_toInt_lt.mp (Int32.not_le.mp c_1)
        have z_2 := Int32.le_iff_toInt_le.mp c_2
        have y_0 : (0 : Int32).toInt = 0 := by decide
        omega
      refine lv_irem hx hb dX9_stillOn_18 hz_3 ?_
      refine lv_topi (fun x_4 ex_4 => ?_)
      refine lv_istore_n (lv' := [(2, .int x_4), (0, .ref (Aa 0)), (1, .int x1)]) hx hb dX9_stillOn_19 rfl hl (by decide) rfl (fun ls hl => ?_)
      refine lv_iload_n hx hb dX9_stillOn_20 rfl (lv_at hl 0 rfl) ?_
      refine lv_bipush (v := 10) hx hb dX9_stillOn_21 (by decide) ?_
      refine lv_icmp_ge (tgt := 35) hx hb dX9_stillOn_23 (by decide) (fun c_5 => ?_) (fun c_5 => ?_)
      · skip
        refine lv_iconst (v := 0) hx hb dX9_stillOn_35 (by decide) ?_
        exact retI (v := 0) hx hb hr hlk (rfl) hP hD hS () ⟨_, rfl, trivial⟩ [0, 1, 2, 3, 4, 5, 6, 7, 8] rfl rfl dX9_stillOn_36 (Nat.le_of_ble_eq_true rfl) (Nat.le_of_ble_eq_true rfl) rfl
      · skip
        refine lv_aload_n hx hb dX9_stillOn_26 rfl (lv_at hl 1 rfl) ?_
        refine gf_X9_30 hx hb hts hown hK hP 0 rfl rfl dX9_stillOn_27 ?_
        refine lv_iload_n hx hb dX9_stillOn_30 rfl (lv_at hl 0 rfl) ?_
        have hi_6 : vp_in x_4 10 := by
          have z_1 := Int32.lt_iff_toInt_lt.mp (Int32.not_le.mp c_1)
          have z_2 := Int32.le_iff_toInt_le.mp c_2
          have z_3 := Int32.lt_iff_toInt_lt.mp (Int32.not_le.mp c_5)
          have y_0 : (0 : Int32).toInt = 0 := by decide
          have y_10 : (10 : Int32).toInt = 10 := by decide
          have t_x_4 := rem_bounds (x := x1) (y := (Av 2)) (by omega)
          rw [← ex_4] at t_x_4
          refine vp_in_iff.mpr ⟨?_, ?_⟩ <;> omega
        refine va_iald hx hb hK hP 1 0 rfl rfl hi_6 dX9_stillOn_31 ?_
        refine lv_topi (fun x_7 ex_7 => ?_)
        refine lv_goto (tgt := 36) hx hb dX9_stillOn_32 (by decide) ?_
        exact retI (v := x_7) hx hb hr hlk (rfl) hP hD hS () ⟨_, rfl, trivial⟩ [0, 1, 2, 3, 4, 5, 6, 7, 8] rfl rfl dX9_stillOn_36 (Nat.le_of_ble_eq_true rfl) (Nat.le_of_ble_eq_true rfl) rfl
    · skip
      refine lv_iconst (v := 0) hx hb dX9_stillOn_11 (by decide) ?_
      exact retI (v := 0) hx hb hr hlk (rfl) hP hD hS () ⟨_, rfl, trivial⟩ [0, 1, 2, 3, 4, 5, 6, 7, 8] rfl rfl dX9_stillOn_12 (Nat.le_of_ble_eq_true rfl) (Nat.le_of_ble_eq_true rfl) rfl
set_option maxRecDepth 100000 in
theorem cu_X9_stillOn (l : Launch) (D : va_G) (tc : Nat → ClassId) (sk : (Nat → Nat) × (Nat → Nat)) (Aa_0 : Nat) (Aa_1 : Nat) (Aa_2 : Nat) (Aa_3 : Nat) (Aa_4 : Nat) (Aa_5 : Nat) (Aa_6 : Nat) (Aa_7 : Nat) (Aa_8 : Nat) (Av_0 : Int32) (Av_1 : Int32) (Av_2 : Int32) (Av_3 : Int32) (Av_4 : Int32) (Av_5 : Int32) (Af_1 : Nat → Int32) (Af_2 : Nat → Int32) (Af_3 : Nat → Int32) (Af_4 : Nat → Int32) (Af_5 : Nat → Int32) (Af_6 : Nat → Int32) (Af_7 : Nat → Int32) (Af_8 : Nat → Int32) (x1 : Int32)  : Ct l yX9_stillOn cX9_stillOn 3 (some .int) { frames := 0, cells := 0, slots := 0, locals := 0 } D tc sk [.ref Aa_0, .int x1] [(Aa_0, .inr (9, [.int Av_0, .int Av_1, .int Av_2, .int Av_3, .int Av_4, .int Av_5, .ref Aa_1, .ref Aa_2, .ref Aa_3, .ref Aa_4, .ref Aa_5, .ref Aa_6, .ref Aa_7, .ref Aa_8])), (Aa_1, .inl (tc 0, 10, .inl Af_1)), (Aa_2, .inl (tc 0, 10, .inl Af_2)), (Aa_3, .inl (tc 0, 6, .inl Af_3)), (Aa_4, .inl (tc 0, 6, .inl Af_4)), (Aa_5, .inl (tc 0, 6, .inl Af_5)), (Aa_6, .inl (tc 0, 6, .inl Af_6)), (Aa_7, .inl (tc 0, 6, .inl Af_7)), (Aa_8, .inl (tc 0, 6, .inl Af_8))] (fun (v : Option Value) (_ : Unit) => ∃ r : Int32, v = some (.int r) ∧ (True)) (fun (_ : Unit) => [(Aa_0, .inr (9, [.int Av_0, .int Av_1, .int Av_2, .int Av_3, .int Av_4, .int Av_5, .ref Aa_1, .ref Aa_2, .ref Aa_3, .ref Aa_4, .ref Aa_5, .ref Aa_6, .ref Aa_7, .ref Aa_8])), (Aa_1, .inl (tc 0, 10, .inl Af_1)), (Aa_2, .inl (tc 0, 10, .inl Af_2)), (Aa_3, .inl (tc 0, 6, .inl Af_3)), (Aa_4, .inl (tc 0, 6, .inl Af_4)), (Aa_5, .inl (tc 0, 6, .inl Af_5)), (Aa_6, .inl (tc 0, 6, .inl Af_6)), (Aa_7, .inl (tc 0, 6, .inl Af_7)), (Aa_8, .inl (tc 0, 6, .inl Af_8))]) 0 0 :=
  ct_X9_stillOn l D tc sk (fun k => ([Aa_0, Aa_1, Aa_2, Aa_3, Aa_4, Aa_5, Aa_6, Aa_7, Aa_8] : List (Nat)).getD k 0) (fun k => ([Av_0, Av_1, Av_2, Av_3, Av_4, Av_5] : List (Int32)).getD k 0) (fun k => ([(fun _ => 0), Af_1, Af_2, Af_3, Af_4, Af_5, Af_6, Af_7, Af_8] : List (Nat → Int32)).getD k (fun _ => 0)) x1 
set_option maxHeartbeats 4000000 in
set_option maxRecDepth 100000 in
theorem ct_X9_daysSince (l : Launch) (D : va_G) (tc : Nat → ClassId) (sk : (Nat → Nat) × (Nat → Nat)) (Aa : Nat → Nat) (Av : Nat → Int32) (Af : Nat → Nat → Int32) (x1 : Int32)  : Ct l yX9_daysSince cX9_daysSince 2 (some .int) { frames := 1, cells := 0, slots := 0, locals := 21 } D tc sk [.ref (Aa 0), .int x1] [((Aa 0), .inr (9, [.int (Av 0), .int (Av 1), .int (Av 2), .int (Av 3), .int (Av 4), .int (Av 5), .ref (Aa 1), .ref (Aa 2), .ref (Aa 3), .ref (Aa 4), .ref (Aa 5), .ref (Aa 6), .ref (Aa 7), .ref (Aa 8)])), ((Aa 1), .inl (tc 0, 10, .inl (Af 1))), ((Aa 2), .inl (tc 0, 10, .inl (Af 2))), ((Aa 3), .inl (tc 0, 6, .inl (Af 3))), ((Aa 4), .inl (tc 0, 6, .inl (Af 4))), ((Aa 5), .inl (tc 0, 6, .inl (Af 5))), ((Aa 6), .inl (tc 0, 6, .inl (Af 6))), ((Aa 7), .inl (tc 0, 6, .inl (Af 7))), ((Aa 8), .inl (tc 0, 6, .inl (Af 8)))] (fun (v : Option Value) (_ : Unit) => ∃ r : Int32, v = some (.int r) ∧ (True)) (fun (_ : Unit) => [((Aa 0), .inr (9, [.int (Av 0), .int (Av 1), .int (Av 2), .int (Av 3), .int (Av 4), .int (Av 5), .ref (Aa 1), .ref (Aa 2), .ref (Aa 3), .ref (Aa 4), .ref (Aa 5), .ref (Aa 6), .ref (Aa 7), .ref (Aa 8)])), ((Aa 1), .inl (tc 0, 10, .inl (Af 1))), ((Aa 2), .inl (tc 0, 10, .inl (Af 2))), ((Aa 3), .inl (tc 0, 6, .inl (Af 3))), ((Aa 4), .inl (tc 0, 6, .inl (Af 4))), ((Aa 5), .inl (tc 0, 6, .inl (Af 5))), ((Aa 6), .inl (tc 0, 6, .inl (Af 6))), ((Aa 7), .inl (tc 0, 6, .inl (Af 7))), ((Aa 8), .inl (tc 0, 6, .inl (Af 8)))]) 0 0 := by
  refine Ct.start (by decide) (Nat.le_of_ble_eq_true rfl) (fun p e s m below meth c A ls hx hb hr hlk hin hml hown hts hK hX hP hD hA hl hS => ?_)
  have hl : lv_has ls 2 [(0, .ref (Aa 0)), (1, .int x1)] := hl
  refine lv_aload_n hx hb dX9_daysSince_0 rfl (lv_at hl 0 rfl) ?_
  refine lv_iload_n hx hb dX9_daysSince_1 rfl (lv_at hl 1 rfl) ?_
  refine cV (a := (Aa 0)) (As := [.int x1]) (rest := []) (wr := []) ⟨hx, hb, hml, hown, hts⟩ hK hX hA (cu_X9_hasBuyer l D tc sk (Aa 0) (Aa 1) (Aa 2) (Aa 3) (Aa 4) (Aa 5) (Aa 6) (Aa 7) (Aa 8) (Av 0) (Av 1) (Av 2) (Av 3) (Av 4) (Av 5) (Af 1) (Af 2) (Af 3) (Af 4) (Af 5) (Af 6) (Af 7) (Af 8) x1) k_591 k_707 k_589 k_590 k_98 pl_X9_hasBuyer ⟨Nat.le_of_ble_eq_true rfl, Nat.le_of_ble_eq_true rfl⟩ rfl rfl (va_recv hK hP (ci := 9) (q0 := 0) rfl rfl) hP hD hS [0, 1, 2, 3, 4, 5, 6, 7, 8] [] rfl rfl rfl rfl rfl (by decide) rfl hl.1 rfl (Nat.le_of_ble_eq_true rfl) dX9_daysSince_2 ⟨Nat.le_of_ble_eq_true rfl, Nat.le_of_ble_eq_true rfl⟩ (fun v_1 u_2 H locs hv_3 hP hD hS => ?_)
  obtain ⟨r_4, rfl, he_5⟩ := hv_3
  have he_5 : ((r_4.toInt = 0 ∨ (r_4.toInt = 1 ∧ 0 ≤ x1.toInt ∧ x1.toInt < 6 ∧ x1.toInt < (Av 3).toInt))) := he_5
  refine W.eq (g2 := F0 m 5 ls [.int r_4]) rfl ?_
  have hP : va_P D classes [((Aa 0), .inr (9, [.int (Av 0), .int (Av 1), .int (Av 2), .int (Av 3), .int (Av 4), .int (Av 5), .ref (Aa 1), .ref (Aa 2), .ref (Aa 3), .ref (Aa 4), .ref (Aa 5), .ref (Aa 6), .ref (Aa 7), .ref (Aa 8)])), ((Aa 1), .inl (tc 0, 10, .inl (Af 1))), ((Aa 2), .inl (tc 0, 10, .inl (Af 2))), ((Aa 3), .inl (tc 0, 6, .inl (Af 3))), ((Aa 4), .inl (tc 0, 6, .inl (Af 4))), ((Aa 5), .inl (tc 0, 6, .inl (Af 5))), ((Aa 6), .inl (tc 0, 6, .inl (Af 6))), ((Aa 7), .inl (tc 0, 6, .inl (Af 7))), ((Aa 8), .inl (tc 0, 6, .inl (Af 8)))] H := hP
  have hD : va_D A [((Aa 0), .inr (9, [.int (Av 0), .int (Av 1), .int (Av 2), .int (Av 3), .int (Av 4), .int (Av 5), .ref (Aa 1), .ref (Aa 2), .ref (Aa 3), .ref (Aa 4), .ref (Aa 5), .ref (Aa 6), .ref (Aa 7), .ref (Aa 8)])), ((Aa 1), .inl (tc 0, 10, .inl (Af 1))), ((Aa 2), .inl (tc 0, 10, .inl (Af 2))), ((Aa 3), .inl (tc 0, 6, .inl (Af 3))), ((Aa 4), .inl (tc 0, 6, .inl (Af 4))), ((Aa 5), .inl (tc 0, 6, .inl (Af 5))), ((Aa 6), .inl (tc 0, 6, .inl (Af 6))), ((Aa 7), .inl (tc 0, 6, .inl (Af 7))), ((Aa 8), .inl (tc 0, 6, .inl (Af 8)))] := hD
  refine lv_if_eq (tgt := 18) hx hb dX9_daysSince_5 (by decide) (fun c_6 => ?_) (fun c_6 => ?_)
  · skip
    refine lv_bipush (v := 99) hx hb dX9_daysSince_18 (by decide) ?_
    refine lv_goto (tgt := 34) hx hb dX9_daysSince_20 (by decide) ?_
    exact retI (v := 99) hx hb hr hlk (rfl) hP hD hS () ⟨_, rfl, trivial⟩ [0, 1, 2, 3, 4, 5, 6, 7, 8] rfl rfl dX9_daysSince_34 (Nat.le_of_ble_eq_true rfl) (Nat.le_of_ble_eq_true rfl) rfl
  · skip
    refine lv_aload_n hx hb dX9_daysSince_8 rfl (lv_at hl 0 rfl) ?_
    refine gf_X9_52 hx hb hts hown hK hP 0 rfl rfl dX9_daysSince_9 ?_
    refine lv_iload_n hx hb dX9_daysSince_12 rfl (lv_at hl 1 rfl) ?_
    have hi_7 : vp_in x1 6 := by
      have z_1 : ¬ (r_4 : Int32).toInt = (0 : Int32).toInt := fun z => c_6 (Int32.toInt_inj.mp z)
      have y_0 : (0 : Int32).toInt = 0 := by decide
      refine vp_in_iff.mpr ⟨?_, ?_⟩ <;> omega
    refine va_iald hx hb hK hP 8 0 rfl rfl hi_7 dX9_daysSince_13 ?_
    refine lv_topi (fun x_8 ex_8 => ?_)
    refine lv_iconst (v := (-1)) hx hb dX9_daysSince_14 (by decide) ?_
    refine lv_icmp_ne (tgt := 23) hx hb dX9_daysSince_15 (by decide) (fun c_9 => ?_) (fun c_9 => ?_)
    · skip
      refine lv_aload_n hx hb dX9_daysSince_23 rfl (lv_at hl 0 rfl) ?_
      refine gf_X9_24 hx hb hts hown hK hP 0 rfl rfl dX9_daysSince_24 ?_
      refine lv_aload_n hx hb dX9_daysSince_27 rfl (lv_at hl 0 rfl) ?_
      refine gf_X9_52 hx hb hts hown hK hP 0 rfl rfl dX9_daysSince_28 ?_
      refine lv_iload_n hx hb dX9_daysSince_31 rfl (lv_at hl 1 rfl) ?_
      have hi_10 : vp_in x1 6 := by
        have z_1 : ¬ (r_4 : Int32).toInt = (0 : Int32).toInt := fun z => c_6 (Int32.toInt_inj.mp z)
        have z_2 : ¬ (x_8 : Int32).toInt = ((-1) : Int32).toInt := fun z => c_9 (Int32.toInt_inj.mp z)
        have y_m1 : (-1 : Int32).toInt = -1 := by decide
        have y_0 : (0 : Int32).toInt = 0 := by decide
        refine vp_in_iff.mpr ⟨?_, ?_⟩ <;> omega
      refine va_iald hx hb hK hP 8 0 rfl rfl hi_10 dX9_daysSince_32 ?_
      refine lv_topi (fun x_11 ex_11 => ?_)
      refine lv_isub hx hb dX9_daysSince_33 ?_
      refine lv_topi (fun x_12 ex_12 => ?_)
      exact retI (v := x_12) hx hb hr hlk (rfl) hP hD hS () ⟨_, rfl, trivial⟩ [0, 1, 2, 3, 4, 5, 6, 7, 8] rfl rfl dX9_daysSince_34 (Nat.le_of_ble_eq_true rfl) (Nat.le_of_ble_eq_true rfl) rfl
    · skip
      refine lv_bipush (v := 99) hx hb dX9_daysSince_18 (by decide) ?_
      refine lv_goto (tgt := 34) hx hb dX9_daysSince_20 (by decide) ?_
      exact retI (v := 99) hx hb hr hlk (rfl) hP hD hS () ⟨_, rfl, trivial⟩ [0, 1, 2, 3, 4, 5, 6, 7, 8] rfl rfl dX9_daysSince_34 (Nat.le_of_ble_eq_true rfl) (Nat.le_of_ble_eq_true rfl) rfl
set_option maxRecDepth 100000 in
theorem cu_X9_daysSince (l : Launch) (D : va_G) (tc : Nat → ClassId) (sk : (Nat → Nat) × (Nat → Nat)) (Aa_0 : Nat) (Aa_1 : Nat) (Aa_2 : Nat) (Aa_3 : Nat) (Aa_4 : Nat) (Aa_5 : Nat) (Aa_6 : Nat) (Aa_7 : Nat) (Aa_8 : Nat) (Av_0 : Int32) (Av_1 : Int32) (Av_2 : Int32) (Av_3 : Int32) (Av_4 : Int32) (Av_5 : Int32) (Af_1 : Nat → Int32) (Af_2 : Nat → Int32) (Af_3 : Nat → Int32) (Af_4 : Nat → Int32) (Af_5 : Nat → Int32) (Af_6 : Nat → Int32) (Af_7 : Nat → Int32) (Af_8 : Nat → Int32) (x1 : Int32)  : Ct l yX9_daysSince cX9_daysSince 2 (some .int) { frames := 1, cells := 0, slots := 0, locals := 21 } D tc sk [.ref Aa_0, .int x1] [(Aa_0, .inr (9, [.int Av_0, .int Av_1, .int Av_2, .int Av_3, .int Av_4, .int Av_5, .ref Aa_1, .ref Aa_2, .ref Aa_3, .ref Aa_4, .ref Aa_5, .ref Aa_6, .ref Aa_7, .ref Aa_8])), (Aa_1, .inl (tc 0, 10, .inl Af_1)), (Aa_2, .inl (tc 0, 10, .inl Af_2)), (Aa_3, .inl (tc 0, 6, .inl Af_3)), (Aa_4, .inl (tc 0, 6, .inl Af_4)), (Aa_5, .inl (tc 0, 6, .inl Af_5)), (Aa_6, .inl (tc 0, 6, .inl Af_6)), (Aa_7, .inl (tc 0, 6, .inl Af_7)), (Aa_8, .inl (tc 0, 6, .inl Af_8))] (fun (v : Option Value) (_ : Unit) => ∃ r : Int32, v = some (.int r) ∧ (True)) (fun (_ : Unit) => [(Aa_0, .inr (9, [.int Av_0, .int Av_1, .int Av_2, .int Av_3, .int Av_4, .int Av_5, .ref Aa_1, .ref Aa_2, .ref Aa_3, .ref Aa_4, .ref Aa_5, .ref Aa_6, .ref Aa_7, .ref Aa_8])), (Aa_1, .inl (tc 0, 10, .inl Af_1)), (Aa_2, .inl (tc 0, 10, .inl Af_2)), (Aa_3, .inl (tc 0, 6, .inl Af_3)), (Aa_4, .inl (tc 0, 6, .inl Af_4)), (Aa_5, .inl (tc 0, 6, .inl Af_5)), (Aa_6, .inl (tc 0, 6, .inl Af_6)), (Aa_7, .inl (tc 0, 6, .inl Af_7)), (Aa_8, .inl (tc 0, 6, .inl Af_8))]) 0 0 :=
  ct_X9_daysSince l D tc sk (fun k => ([Aa_0, Aa_1, Aa_2, Aa_3, Aa_4, Aa_5, Aa_6, Aa_7, Aa_8] : List (Nat)).getD k 0) (fun k => ([Av_0, Av_1, Av_2, Av_3, Av_4, Av_5] : List (Int32)).getD k 0) (fun k => ([(fun _ => 0), Af_1, Af_2, Af_3, Af_4, Af_5, Af_6, Af_7, Af_8] : List (Nat → Int32)).getD k (fun _ => 0)) x1 
set_option maxHeartbeats 4000000 in
set_option maxRecDepth 100000 in
theorem ct_X9_canBuy (l : Launch) (D : va_G) (tc : Nat → ClassId) (sk : (Nat → Nat) × (Nat → Nat)) (Aa : Nat → Nat) (Av : Nat → Int32) (Af : Nat → Nat → Int32) (x1 : Int32)  : Ct l yX9_canBuy cX9_canBuy 2 (some .boolean) { frames := 1, cells := 0, slots := 0, locals := 21 } D tc sk [.ref (Aa 0), .int x1] [((Aa 0), .inr (9, [.int (Av 0), .int (Av 1), .int (Av 2), .int (Av 3), .int (Av 4), .int (Av 5), .ref (Aa 1), .ref (Aa 2), .ref (Aa 3), .ref (Aa 4), .ref (Aa 5), .ref (Aa 6), .ref (Aa 7), .ref (Aa 8)])), ((Aa 1), .inl (tc 0, 10, .inl (Af 1))), ((Aa 2), .inl (tc 0, 10, .inl (Af 2))), ((Aa 3), .inl (tc 0, 6, .inl (Af 3))), ((Aa 4), .inl (tc 0, 6, .inl (Af 4))), ((Aa 5), .inl (tc 0, 6, .inl (Af 5))), ((Aa 6), .inl (tc 0, 6, .inl (Af 6))), ((Aa 7), .inl (tc 0, 6, .inl (Af 7))), ((Aa 8), .inl (tc 0, 6, .inl (Af 8)))] (fun (v : Option Value) (_ : Unit) => ∃ r : Int32, v = some (.int r) ∧ ((r.toInt = 0 ∨ r.toInt = 1))) (fun (_ : Unit) => [((Aa 0), .inr (9, [.int (Av 0), .int (Av 1), .int (Av 2), .int (Av 3), .int (Av 4), .int (Av 5), .ref (Aa 1), .ref (Aa 2), .ref (Aa 3), .ref (Aa 4), .ref (Aa 5), .ref (Aa 6), .ref (Aa 7), .ref (Aa 8)])), ((Aa 1), .inl (tc 0, 10, .inl (Af 1))), ((Aa 2), .inl (tc 0, 10, .inl (Af 2))), ((Aa 3), .inl (tc 0, 6, .inl (Af 3))), ((Aa 4), .inl (tc 0, 6, .inl (Af 4))), ((Aa 5), .inl (tc 0, 6, .inl (Af 5))), ((Aa 6), .inl (tc 0, 6, .inl (Af 6))), ((Aa 7), .inl (tc 0, 6, .inl (Af 7))), ((Aa 8), .inl (tc 0, 6, .inl (Af 8)))]) 0 0 := by
  refine Ct.start (by decide) (Nat.le_of_ble_eq_true rfl) (fun p e s m below meth c A ls hx hb hr hlk hin hml hown hts hK hX hP hD hA hl hS => ?_)
  have hl : lv_has ls 2 [(0, .ref (Aa 0)), (1, .int x1)] := hl
  refine lv_aload_n hx hb dX9_canBuy_0 rfl (lv_at hl 0 rfl) ?_
  refine lv_iload_n hx hb dX9_canBuy_1 rfl (lv_at hl 1 rfl) ?_
  refine cV (a := (Aa 0)) (As := [.int x1]) (rest := []) (wr := []) ⟨hx, hb, hml, hown, hts⟩ hK hX hA (cu_X9_hasBuyer l D tc sk (Aa 0) (Aa 1) (Aa 2) (Aa 3) (Aa 4) (Aa 5) (Aa 6) (Aa 7) (Aa 8) (Av 0) (Av 1) (Av 2) (Av 3) (Av 4) (Av 5) (Af 1) (Af 2) (Af 3) (Af 4) (Af 5) (Af 6) (Af 7) (Af 8) x1) k_591 k_707 k_589 k_590 k_98 pl_X9_hasBuyer ⟨Nat.le_of_ble_eq_true rfl, Nat.le_of_ble_eq_true rfl⟩ rfl rfl (va_recv hK hP (ci := 9) (q0 := 0) rfl rfl) hP hD hS [0, 1, 2, 3, 4, 5, 6, 7, 8] [] rfl rfl rfl rfl rfl (by decide) rfl hl.1 rfl (Nat.le_of_ble_eq_true rfl) dX9_canBuy_2 ⟨Nat.le_of_ble_eq_true rfl, Nat.le_of_ble_eq_true rfl⟩ (fun v_1 u_2 H locs hv_3 hP hD hS => ?_)
  obtain ⟨r_4, rfl, he_5⟩ := hv_3
  have he_5 : ((r_4.toInt = 0 ∨ (r_4.toInt = 1 ∧ 0 ≤ x1.toInt ∧ x1.toInt < 6 ∧ x1.toInt < (Av 3).toInt))) := he_5
  refine W.eq (g2 := F0 m 5 ls [.int r_4]) rfl ?_
  have hP : va_P D classes [((Aa 0), .inr (9, [.int (Av 0), .int (Av 1), .int (Av 2), .int (Av 3), .int (Av 4), .int (Av 5), .ref (Aa 1), .ref (Aa 2), .ref (Aa 3), .ref (Aa 4), .ref (Aa 5), .ref (Aa 6), .ref (Aa 7), .ref (Aa 8)])), ((Aa 1), .inl (tc 0, 10, .inl (Af 1))), ((Aa 2), .inl (tc 0, 10, .inl (Af 2))), ((Aa 3), .inl (tc 0, 6, .inl (Af 3))), ((Aa 4), .inl (tc 0, 6, .inl (Af 4))), ((Aa 5), .inl (tc 0, 6, .inl (Af 5))), ((Aa 6), .inl (tc 0, 6, .inl (Af 6))), ((Aa 7), .inl (tc 0, 6, .inl (Af 7))), ((Aa 8), .inl (tc 0, 6, .inl (Af 8)))] H := hP
  have hD : va_D A [((Aa 0), .inr (9, [.int (Av 0), .int (Av 1), .int (Av 2), .int (Av 3), .int (Av 4), .int (Av 5), .ref (Aa 1), .ref (Aa 2), .ref (Aa 3), .ref (Aa 4), .ref (Aa 5), .ref (Aa 6), .ref (Aa 7), .ref (Aa 8)])), ((Aa 1), .inl (tc 0, 10, .inl (Af 1))), ((Aa 2), .inl (tc 0, 10, .inl (Af 2))), ((Aa 3), .inl (tc 0, 6, .inl (Af 3))), ((Aa 4), .inl (tc 0, 6, .inl (Af 4))), ((Aa 5), .inl (tc 0, 6, .inl (Af 5))), ((Aa 6), .inl (tc 0, 6, .inl (Af 6))), ((Aa 7), .inl (tc 0, 6, .inl (Af 7))), ((Aa 8), .inl (tc 0, 6, .inl (Af 8)))] := hD
  refine lv_if_eq (tgt := 21) hx hb dX9_canBuy_5 (by decide) (fun c_6 => ?_) (fun c_6 => ?_)
  · skip
    refine lv_iconst (v := 0) hx hb dX9_canBuy_21 (by decide) ?_
    have hp_7 : ((0 : Int32).toInt = 0 ∨ (0 : Int32).toInt = 1) := by
      have z_1 := congrArg Int32.toInt c_6
      have y_0 : (0 : Int32).toInt = 0 := by decide
      omega
    exact retI (v := 0) hx hb hr hlk (rfl) hP hD hS () ⟨_, rfl, hp_7⟩ [0, 1, 2, 3, 4, 5, 6, 7, 8] rfl rfl dX9_canBuy_22 (Nat.le_of_ble_eq_true rfl) (Nat.le_of_ble_eq_true rfl) rfl
  · skip
    refine lv_aload_n hx hb dX9_canBuy_8 rfl (lv_at hl 0 rfl) ?_
    refine gf_X9_9 hx hb hts hown hK hP 0 rfl rfl dX9_canBuy_9 ?_
    refine lv_aload_n hx hb dX9_canBuy_12 rfl (lv_at hl 0 rfl) ?_
    refine gf_X9_40 hx hb hts hown hK hP 0 rfl rfl dX9_canBuy_13 ?_
    refine lv_iload_n hx hb dX9_canBuy_16 rfl (lv_at hl 1 rfl) ?_
    have hi_8 : vp_in x1 6 := by
      have z_1 : ¬ (r_4 : Int32).toInt = (0 : Int32).toInt := fun z => c_6 (Int32.toInt_inj.mp z)
      have y_0 : (0 : Int32).toInt = 0 := by decide
      refine vp_in_iff.mpr ⟨?_, ?_⟩ <;> omega
    refine va_iald hx hb hK hP 4 0 rfl rfl hi_8 dX9_canBuy_17 ?_
    refine lv_topi (fun x_9 ex_9 => ?_)
    refine lv_icmp_ge (tgt := 23) hx hb dX9_canBuy_18 (by decide) (fun c_10 => ?_) (fun c_10 => ?_)
    · skip
      refine lv_aload_n hx hb dX9_canBuy_23 rfl (lv_at hl 0 rfl) ?_
      refine gf_X9_52 hx hb hts hown hK hP 0 rfl rfl dX9_canBuy_24 ?_
      refine lv_iload_n hx hb dX9_canBuy_27 rfl (lv_at hl 1 rfl) ?_
      have hi_11 : vp_in x1 6 := by
        have z_1 : ¬ (r_4 : Int32).toInt = (0 : Int32).toInt := fun z => c_6 (Int32.toInt_inj.mp z)
        have z_2 := Int32.le_iff_toInt_le.mp c_10
        have y_0 : (0 : Int32).toInt = 0 := by decide
        refine vp_in_iff.mpr ⟨?_, ?_⟩ <;> omega
      refine va_iald hx hb hK hP 8 0 rfl rfl hi_11 dX9_canBuy_28 ?_
      refine lv_topi (fun x_12 ex_12 => ?_)
      refine lv_iconst (v := (-1)) hx hb dX9_canBuy_29 (by decide) ?_
      refine lv_icmp_eq (tgt := 53) hx hb dX9_canBuy_30 (by decide) (fun c_13 => ?_) (fun c_13 => ?_)
      · skip
        refine lv_iconst (v := 1) hx hb dX9_canBuy_53 (by decide) ?_
        refine lv_goto (tgt := 58) hx hb dX9_canBuy_54 (by decide) ?_
        have hp_14 : ((1 : Int32).toInt = 0 ∨ (1 : Int32).toInt = 1) := by
          have z_1 : ¬ (r_4 : Int32).toInt = (0 : Int32).toInt := fun z => c_6 (Int32.toInt_inj.mp z)
          have z_2 := Int32.le_iff_toInt_le.mp c_10
          have z_3 := congrArg Int32.toInt c_13
          have y_m1 : (-1 : Int32).toInt = -1 := by decide
          have y_0 : (0 : Int32).toInt = 0 := by decide
          have y_1 : (1 : Int32).toInt = 1 := by decide
          have yr : (1 : Int32).toInt = 1 := by decide
          omega
        exact retI (v := 1) hx hb hr hlk (rfl) hP hD hS () ⟨_, rfl, hp_14⟩ [0, 1, 2, 3, 4, 5, 6, 7, 8] rfl rfl dX9_canBuy_58 (Nat.le_of_ble_eq_true rfl) (Nat.le_of_ble_eq_true rfl) rfl
      · skip
        refine lv_aload_n hx hb dX9_canBuy_33 rfl (lv_at hl 0 rfl) ?_
        refine gf_X9_24 hx hb hts hown hK hP 0 rfl rfl dX9_canBuy_34 ?_
        refine lv_aload_n hx hb dX9_canBuy_37 rfl (lv_at hl 0 rfl) ?_
        refine gf_X9_52 hx hb hts hown hK hP 0 rfl rfl dX9_canBuy_38 ?_
        refine lv_iload_n hx hb dX9_canBuy_41 rfl (lv_at hl 1 rfl) ?_
        have hi_15 : vp_in x1 6 := by
          have z_1 : ¬ (r_4 : Int32).toInt = (0 : Int32).toInt := fun z => c_6 (Int32.toInt_inj.mp z)
          have z_2 := Int32.le_iff_toInt_le.mp c_10
          have z_3 : ¬ (x_12 : Int32).toInt = ((-1) : Int32).toInt := fun z => c_13 (Int32.toInt_inj.mp z)
          have y_m1 : (-1 : Int32).toInt = -1 := by decide
          have y_0 : (0 : Int32).toInt = 0 := by decide
          refine vp_in_iff.mpr ⟨?_, ?_⟩ <;> omega
        refine va_iald hx hb hK hP 8 0 rfl rfl hi_15 dX9_canBuy_42 ?_
        refine lv_topi (fun x_16 ex_16 => ?_)
        refine lv_isub hx hb dX9_canBuy_43 ?_
        refine lv_topi (fun x_17 ex_17 => ?_)
        refine lv_aload_n hx hb dX9_canBuy_44 rfl (lv_at hl 0 rfl) ?_
        refine gf_X9_43 hx hb hts hown hK hP 0 rfl rfl dX9_canBuy_45 ?_
        refine lv_iload_n hx hb dX9_canBuy_48 rfl (lv_at hl 1 rfl) ?_
        have hi_18 : vp_in x1 6 := by
          have z_1 : ¬ (r_4 : Int32).toInt = (0 : Int32).toInt := fun z => c_6 (Int32.toInt_inj.mp z)
          have z_2 := Int32.le_iff_toInt_le.mp c_10
          have z_3 : ¬ (x_12 : Int32).toInt = ((-1) : Int32).toInt := fun z => c_13 (Int32.toInt_inj.mp z)
          have y_m1 : (-1 : Int32).toInt = -1 := by decide
          have y_0 : (0 : Int32).toInt = 0 := by decide
          refine vp_in_iff.mpr ⟨?_, ?_⟩ <;> omega
        refine va_iald hx hb hK hP 5 0 rfl rfl hi_18 dX9_canBuy_49 ?_
        refine lv_topi (fun x_19 ex_19 => ?_)
        refine lv_icmp_le (tgt := 57) hx hb dX9_canBuy_50 (by decide) (fun c_20 => ?_) (fun c_20 => ?_)
        · skip
          refine lv_iconst (v := 0) hx hb dX9_canBuy_57 (by decide) ?_
          have hp_21 : ((0 : Int32).toInt = 0 ∨ (0 : Int32).toInt = 1) := by
            have z_1 : ¬ (r_4 : Int32).toInt = (0 : Int32).toInt := fun z => c_6 (Int32.toInt_inj.mp z)
            have z_2 := Int32.le_iff_toInt_le.mp c_10
            have z_3 : ¬ (x_12 : Int32).toInt = ((-1) : Int32).toInt := fun z => c_13 (Int32.toInt_inj.mp z)
            have z_4 := Int32.le_iff_toInt_le.mp c_20
            have y_m1 : (-1 : Int32).toInt = -1 := by decide
            have y_0 : (0 : Int32).toInt = 0 := by decide
            omega
          exact retI (v := 0) hx hb hr hlk (rfl) hP hD hS () ⟨_, rfl, hp_21⟩ [0, 1, 2, 3, 4, 5, 6, 7, 8] rfl rfl dX9_canBuy_58 (Nat.le_of_ble_eq_true rfl) (Nat.le_of_ble_eq_true rfl) rfl
        · skip
          refine lv_iconst (v := 1) hx hb dX9_canBuy_53 (by decide) ?_
          refine lv_goto (tgt := 58) hx hb dX9_canBuy_54 (by decide) ?_
          have hp_22 : ((1 : Int32).toInt = 0 ∨ (1 : Int32).toInt = 1) := by
            have z_1 : ¬ (r_4 : Int32).toInt = (0 : Int32).toInt := fun z => c_6 (Int32.toInt_inj.mp z)
            have z_2 := Int32.le_iff_toInt_le.mp c_10
            have z_3 : ¬ (x_12 : Int32).toInt = ((-1) : Int32).toInt := fun z => c_13 (Int32.toInt_inj.mp z)
            have z_4 := Int32.lt_iff_toInt_lt.mp (Int32.not_le.mp c_20)
            have y_m1 : (-1 : Int32).toInt = -1 := by decide
            have y_0 : (0 : Int32).toInt = 0 := by decide
            have y_1 : (1 : Int32).toInt = 1 := by decide
            have yr : (1 : Int32).toInt = 1 := by decide
            omega
          exact retI (v := 1) hx hb hr hlk (rfl) hP hD hS () ⟨_, rfl, hp_22⟩ [0, 1, 2, 3, 4, 5, 6, 7, 8] rfl rfl dX9_canBuy_58 (Nat.le_of_ble_eq_true rfl) (Nat.le_of_ble_eq_true rfl) rfl
    · skip
      refine lv_iconst (v := 0) hx hb dX9_canBuy_21 (by decide) ?_
      have hp_23 : ((0 : Int32).toInt = 0 ∨ (0 : Int32).toInt = 1) := by
        have z_1 : ¬ (r_4 : Int32).toInt = (0 : Int32).toInt := fun z => c_6 (Int32.toInt_inj.mp z)
        have z_2 := Int32.lt_iff_toInt_lt.mp (Int32.not_le.mp c_10)
        have y_0 : (0 : Int32).toInt = 0 := by decide
        omega
      exact retI (v := 0) hx hb hr hlk (rfl) hP hD hS () ⟨_, rfl, hp_23⟩ [0, 1, 2, 3, 4, 5, 6, 7, 8] rfl rfl dX9_canBuy_22 (Nat.le_of_ble_eq_true rfl) (Nat.le_of_ble_eq_true rfl) rfl
set_option maxRecDepth 100000 in
theorem cu_X9_canBuy (l : Launch) (D : va_G) (tc : Nat → ClassId) (sk : (Nat → Nat) × (Nat → Nat)) (Aa_0 : Nat) (Aa_1 : Nat) (Aa_2 : Nat) (Aa_3 : Nat) (Aa_4 : Nat) (Aa_5 : Nat) (Aa_6 : Nat) (Aa_7 : Nat) (Aa_8 : Nat) (Av_0 : Int32) (Av_1 : Int32) (Av_2 : Int32) (Av_3 : Int32) (Av_4 : Int32) (Av_5 : Int32) (Af_1 : Nat → Int32) (Af_2 : Nat → Int32) (Af_3 : Nat → Int32) (Af_4 : Nat → Int32) (Af_5 : Nat → Int32) (Af_6 : Nat → Int32) (Af_7 : Nat → Int32) (Af_8 : Nat → Int32) (x1 : Int32)  : Ct l yX9_canBuy cX9_canBuy 2 (some .boolean) { frames := 1, cells := 0, slots := 0, locals := 21 } D tc sk [.ref Aa_0, .int x1] [(Aa_0, .inr (9, [.int Av_0, .int Av_1, .int Av_2, .int Av_3, .int Av_4, .int Av_5, .ref Aa_1, .ref Aa_2, .ref Aa_3, .ref Aa_4, .ref Aa_5, .ref Aa_6, .ref Aa_7, .ref Aa_8])), (Aa_1, .inl (tc 0, 10, .inl Af_1)), (Aa_2, .inl (tc 0, 10, .inl Af_2)), (Aa_3, .inl (tc 0, 6, .inl Af_3)), (Aa_4, .inl (tc 0, 6, .inl Af_4)), (Aa_5, .inl (tc 0, 6, .inl Af_5)), (Aa_6, .inl (tc 0, 6, .inl Af_6)), (Aa_7, .inl (tc 0, 6, .inl Af_7)), (Aa_8, .inl (tc 0, 6, .inl Af_8))] (fun (v : Option Value) (_ : Unit) => ∃ r : Int32, v = some (.int r) ∧ ((r.toInt = 0 ∨ r.toInt = 1))) (fun (_ : Unit) => [(Aa_0, .inr (9, [.int Av_0, .int Av_1, .int Av_2, .int Av_3, .int Av_4, .int Av_5, .ref Aa_1, .ref Aa_2, .ref Aa_3, .ref Aa_4, .ref Aa_5, .ref Aa_6, .ref Aa_7, .ref Aa_8])), (Aa_1, .inl (tc 0, 10, .inl Af_1)), (Aa_2, .inl (tc 0, 10, .inl Af_2)), (Aa_3, .inl (tc 0, 6, .inl Af_3)), (Aa_4, .inl (tc 0, 6, .inl Af_4)), (Aa_5, .inl (tc 0, 6, .inl Af_5)), (Aa_6, .inl (tc 0, 6, .inl Af_6)), (Aa_7, .inl (tc 0, 6, .inl Af_7)), (Aa_8, .inl (tc 0, 6, .inl Af_8))]) 0 0 :=
  ct_X9_canBuy l D tc sk (fun k => ([Aa_0, Aa_1, Aa_2, Aa_3, Aa_4, Aa_5, Aa_6, Aa_7, Aa_8] : List (Nat)).getD k 0) (fun k => ([Av_0, Av_1, Av_2, Av_3, Av_4, Av_5] : List (Int32)).getD k 0) (fun k => ([(fun _ => 0), Af_1, Af_2, Af_3, Af_4, Af_5, Af_6, Af_7, Af_8] : List (Nat → Int32)).getD k (fun _ => 0)) x1 
set_option maxHeartbeats 4000000 in
set_option maxRecDepth 100000 in
theorem ct_X9_whoCanBuy (l : Launch) (D : va_G) (tc : Nat → ClassId) (sk : (Nat → Nat) × (Nat → Nat)) (Aa : Nat → Nat) (Av : Nat → Int32) (Af : Nat → Nat → Int32)  : Ct l yX9_whoCanBuy cX9_whoCanBuy 3 (some .int) { frames := 2, cells := 0, slots := 0, locals := 42 } D tc sk [.ref (Aa 0)] [((Aa 0), .inr (9, [.int (Av 0), .int (Av 1), .int (Av 2), .int (Av 3), .int (Av 4), .int (Av 5), .ref (Aa 1), .ref (Aa 2), .ref (Aa 3), .ref (Aa 4), .ref (Aa 5), .ref (Aa 6), .ref (Aa 7), .ref (Aa 8)])), ((Aa 1), .inl (tc 0, 10, .inl (Af 1))), ((Aa 2), .inl (tc 0, 10, .inl (Af 2))), ((Aa 3), .inl (tc 0, 6, .inl (Af 3))), ((Aa 4), .inl (tc 0, 6, .inl (Af 4))), ((Aa 5), .inl (tc 0, 6, .inl (Af 5))), ((Aa 6), .inl (tc 0, 6, .inl (Af 6))), ((Aa 7), .inl (tc 0, 6, .inl (Af 7))), ((Aa 8), .inl (tc 0, 6, .inl (Af 8)))] (fun (v : Option Value) (_ : Unit) => ∃ r : Int32, v = some (.int r) ∧ (True)) (fun (_ : Unit) => [((Aa 0), .inr (9, [.int (Av 0), .int (Av 1), .int (Av 2), .int (Av 3), .int (Av 4), .int (Av 5), .ref (Aa 1), .ref (Aa 2), .ref (Aa 3), .ref (Aa 4), .ref (Aa 5), .ref (Aa 6), .ref (Aa 7), .ref (Aa 8)])), ((Aa 1), .inl (tc 0, 10, .inl (Af 1))), ((Aa 2), .inl (tc 0, 10, .inl (Af 2))), ((Aa 3), .inl (tc 0, 6, .inl (Af 3))), ((Aa 4), .inl (tc 0, 6, .inl (Af 4))), ((Aa 5), .inl (tc 0, 6, .inl (Af 5))), ((Aa 6), .inl (tc 0, 6, .inl (Af 6))), ((Aa 7), .inl (tc 0, 6, .inl (Af 7))), ((Aa 8), .inl (tc 0, 6, .inl (Af 8)))]) 0 0 := by
  refine Ct.start (by decide) (Nat.le_of_ble_eq_true rfl) (fun p e s m below meth c A ls hx hb hr hlk hin hml hown hts hK hX hP hD hA hl hS => ?_)
  have hl : lv_has ls 3 [(0, .ref (Aa 0))] := hl
  refine lv_iconst (v := 0) hx hb dX9_whoCanBuy_0 (by decide) ?_
  refine lv_istore_n (lv' := [(1, .int 0), (0, .ref (Aa 0))]) hx hb dX9_whoCanBuy_1 rfl hl (by decide) rfl (fun ls hl => ?_)
  refine lv_iconst (v := 0) hx hb dX9_whoCanBuy_2 (by decide) ?_
  refine lv_istore_n (lv' := [(2, .int 0), (1, .int 0), (0, .ref (Aa 0))]) hx hb dX9_whoCanBuy_3 rfl hl (by decide) rfl (fun ls hl => ?_)
  have loop_8 : ∀ (n_6 : Nat) (vy_4 : Int32) (vy_5 : Int32) (H : Heap) (locs : List Loc) (ls : Array Slot), 0 ≤ (vy_4 : Int32).toInt → (6 - (vy_4 : Int32).toInt).toNat < n_6 → va_P D classes [((Aa 0), .inr (9, [.int (Av 0), .int (Av 1), .int (Av 2), .int (Av 3), .int (Av 4), .int (Av 5), .ref (Aa 1), .ref (Aa 2), .ref (Aa 3), .ref (Aa 4), .ref (Aa 5), .ref (Aa 6), .ref (Aa 7), .ref (Aa 8)])), ((Aa 1), .inl (tc 0, 10, .inl (Af 1))), ((Aa 2), .inl (tc 0, 10, .inl (Af 2))), ((Aa 3), .inl (tc 0, 6, .inl (Af 3))), ((Aa 4), .inl (tc 0, 6, .inl (Af 4))), ((Aa 5), .inl (tc 0, 6, .inl (Af 5))), ((Aa 6), .inl (tc 0, 6, .inl (Af 6))), ((Aa 7), .inl (tc 0, 6, .inl (Af 7))), ((Aa 8), .inl (tc 0, 6, .inl (Af 8)))] H → va_D A [((Aa 0), .inr (9, [.int (Av 0), .int (Av 1), .int (Av 2), .int (Av 3), .int (Av 4), .int (Av 5), .ref (Aa 1), .ref (Aa 2), .ref (Aa 3), .ref (Aa 4), .ref (Aa 5), .ref (Aa 6), .ref (Aa 7), .ref (Aa 8)])), ((Aa 1), .inl (tc 0, 10, .inl (Af 1))), ((Aa 2), .inl (tc 0, 10, .inl (Af 2))), ((Aa 3), .inl (tc 0, 6, .inl (Af 3))), ((Aa 4), .inl (tc 0, 6, .inl (Af 4))), ((Aa 5), .inl (tc 0, 6, .inl (Af 5))), ((Aa 6), .inl (tc 0, 6, .inl (Af 6))), ((Aa 7), .inl (tc 0, 6, .inl (Af 7))), ((Aa 8), .inl (tc 0, 6, .inl (Af 8)))] → va_S A s.heap H locs → lv_has ls 3 [(2, .int vy_4), (1, .int vy_5), (0, .ref (Aa 0))] → W p l e ({ frames := 2, cells := 0, slots := 0, locals := 42 }) s m ([.ref (Aa 0)].toArray) below meth c H locs 0 0 (MQ below (QW (fun (v : Option Value) (_ : Unit) => ∃ r : Int32, v = some (.int r) ∧ (True)) (BW D (fun (_ : Unit) => [((Aa 0), .inr (9, [.int (Av 0), .int (Av 1), .int (Av 2), .int (Av 3), .int (Av 4), .int (Av 5), .ref (Aa 1), .ref (Aa 2), .ref (Aa 3), .ref (Aa 4), .ref (Aa 5), .ref (Aa 6), .ref (Aa 7), .ref (Aa 8)])), ((Aa 1), .inl (tc 0, 10, .inl (Af 1))), ((Aa 2), .inl (tc 0, 10, .inl (Af 2))), ((Aa 3), .inl (tc 0, 6, .inl (Af 3))), ((Aa 4), .inl (tc 0, 6, .inl (Af 4))), ((Aa 5), .inl (tc 0, 6, .inl (Af 5))), ((Aa 6), .inl (tc 0, 6, .inl (Af 6))), ((Aa 7), .inl (tc 0, 6, .inl (Af 7))), ((Aa 8), .inl (tc 0, 6, .inl (Af 8)))]) A) A) ([.ref (Aa 0)].toArray) s 0 0 A) (F0 m 4 ls []) := by
    intro n_6
    induction n_6 with
    | zero =>
      intro vy_4 vy_5 H locs ls h1 h2
      exact absurd h2 (Nat.not_lt_zero _)
    | succ n_6 ih_7 =>
      intro vy_4 vy_5 H locs ls hi_10 hn_11 hP hD hS hl
      refine lv_iload_n hx hb dX9_whoCanBuy_4 rfl (lv_at hl 0 rfl) ?_
      refine lv_aload_n hx hb dX9_whoCanBuy_5 rfl (lv_at hl 2 rfl) ?_
      refine gf_X9_21 hx hb hts hown hK hP 0 rfl rfl dX9_whoCanBuy_6 ?_
      refine lv_icmp_ge (tgt := 38) hx hb dX9_whoCanBuy_9 (by decide) (fun c_12 => ?_) (fun c_12 => ?_)
      · skip
        refine lv_iload_n hx hb dX9_whoCanBuy_38 rfl (lv_at hl 1 rfl) ?_
        exact retI (v := vy_5) hx hb hr hlk (rfl) hP hD hS () ⟨_, rfl, trivial⟩ [0, 1, 2, 3, 4, 5, 6, 7, 8] rfl rfl dX9_whoCanBuy_39 (Nat.le_of_ble_eq_true rfl) (Nat.le_of_ble_eq_true rfl) rfl
      · skip
        refine lv_iload_n hx hb dX9_whoCanBuy_12 rfl (lv_at hl 0 rfl) ?_
        refine lv_bipush (v := 6) hx hb dX9_whoCanBuy_13 (by decide) ?_
        refine lv_icmp_ge (tgt := 38) hx hb dX9_whoCanBuy_15 (by decide) (fun c_13 => ?_) (fun c_13 => ?_)
        · skip
          refine lv_iload_n hx hb dX9_whoCanBuy_38 rfl (lv_at hl 1 rfl) ?_
          exact retI (v := vy_5) hx hb hr hlk (rfl) hP hD hS () ⟨_, rfl, trivial⟩ [0, 1, 2, 3, 4, 5, 6, 7, 8] rfl rfl dX9_whoCanBuy_39 (Nat.le_of_ble_eq_true rfl) (Nat.le_of_ble_eq_true rfl) rfl
        · skip
          refine lv_aload_n hx hb dX9_whoCanBuy_18 rfl (lv_at hl 2 rfl) ?_
          refine lv_iload_n hx hb dX9_whoCanBuy_19 rfl (lv_at hl 0 rfl) ?_
          refine cV (a := (Aa 0)) (As := [.int vy_4]) (rest := []) (wr := []) ⟨hx, hb, hml, hown, hts⟩ hK hX hA (cu_X9_canBuy l D tc sk (Aa 0) (Aa 1) (Aa 2) (Aa 3) (Aa 4) (Aa 5) (Aa 6) (Aa 7) (Aa 8) (Av 0) (Av 1) (Av 2) (Av 3) (Av 4) (Av 5) (Af 1) (Af 2) (Af 3) (Af 4) (Af 5) (Af 6) (Af 7) (Af 8) vy_4) k_752 k_749 k_751 k_14 k_98 pl_X9_canBuy ⟨Nat.le_of_ble_eq_true rfl, Nat.le_of_ble_eq_true rfl⟩ rfl rfl (va_recv hK hP (ci := 9) (q0 := 0) rfl rfl) hP hD hS [0, 1, 2, 3, 4, 5, 6, 7, 8] [] rfl rfl rfl rfl rfl (by decide) rfl hl.1 rfl (Nat.le_of_ble_eq_true rfl) dX9_whoCanBuy_20 ⟨Nat.le_of_ble_eq_true rfl, Nat.le_of_ble_eq_true rfl⟩ (fun v_14 u_15 H locs hv_16 hP hD hS => ?_)
          obtain ⟨r_17, rfl, he_18⟩ := hv_16
          have he_18 : ((r_17.toInt = 0 ∨ r_17.toInt = 1)) := he_18
          refine W.eq (g2 := F0 m 23 ls [.int r_17]) rfl ?_
          have hP : va_P D classes [((Aa 0), .inr (9, [.int (Av 0), .int (Av 1), .int (Av 2), .int (Av 3), .int (Av 4), .int (Av 5), .ref (Aa 1), .ref (Aa 2), .ref (Aa 3), .ref (Aa 4), .ref (Aa 5), .ref (Aa 6), .ref (Aa 7), .ref (Aa 8)])), ((Aa 1), .inl (tc 0, 10, .inl (Af 1))), ((Aa 2), .inl (tc 0, 10, .inl (Af 2))), ((Aa 3), .inl (tc 0, 6, .inl (Af 3))), ((Aa 4), .inl (tc 0, 6, .inl (Af 4))), ((Aa 5), .inl (tc 0, 6, .inl (Af 5))), ((Aa 6), .inl (tc 0, 6, .inl (Af 6))), ((Aa 7), .inl (tc 0, 6, .inl (Af 7))), ((Aa 8), .inl (tc 0, 6, .inl (Af 8)))] H := hP
          have hD : va_D A [((Aa 0), .inr (9, [.int (Av 0), .int (Av 1), .int (Av 2), .int (Av 3), .int (Av 4), .int (Av 5), .ref (Aa 1), .ref (Aa 2), .ref (Aa 3), .ref (Aa 4), .ref (Aa 5), .ref (Aa 6), .ref (Aa 7), .ref (Aa 8)])), ((Aa 1), .inl (tc 0, 10, .inl (Af 1))), ((Aa 2), .inl (tc 0, 10, .inl (Af 2))), ((Aa 3), .inl (tc 0, 6, .inl (Af 3))), ((Aa 4), .inl (tc 0, 6, .inl (Af 4))), ((Aa 5), .inl (tc 0, 6, .inl (Af 5))), ((Aa 6), .inl (tc 0, 6, .inl (Af 6))), ((Aa 7), .inl (tc 0, 6, .inl (Af 7))), ((Aa 8), .inl (tc 0, 6, .inl (Af 8)))] := hD
          refine lv_if_eq (tgt := 32) hx hb dX9_whoCanBuy_23 (by decide) (fun c_19 => ?_) (fun c_19 => ?_)
          · skip
            obtain ⟨x_20, ex_20⟩ : ∃ y : Int32, y = vy_4 + 1 := ⟨_, rfl⟩
            refine lv_iinc (v := x_20) (lv' := [(2, .int x_20), (1, .int vy_5), (0, .ref (Aa 0))]) hx hb dX9_whoCanBuy_32 hl (k := 0) rfl (by rw [ex_20]; rfl) (by decide) rfl (fun ls hl => ?_)
            refine lv_goto (tgt := 4) hx hb dX9_whoCanBuy_35 (by decide) ?_
            have hb_21 : 0 ≤ (x_20 : Int32).toInt ∧ (6 - (x_20 : Int32).toInt).toNat < n_6 := by
              have z_1 := Int32.lt_iff_toInt_lt.mp (Int32.not_le.mp c_12)
              have z_2 := Int32.lt_iff_toInt_lt.mp (Int32.not_le.mp c_13)
              have z_3 := congrArg Int32.toInt c_19
              have y_0 : (0 : Int32).toInt = 0 := by decide
              have y_6 : (6 : Int32).toInt = 6 := by decide
              have y_1 : (1 : Int32).toInt = 1 := by decide
              have t_x_20 : x_20.toInt = (vy_4 : Int32).toInt + (1 : Int32).toInt := by rw [ex_20]; exact add_toInt (by omega) (by omega)
              omega
            exact ih_7 x_20 vy_5 _ _ _ hb_21.1 hb_21.2 (hP.sub [0, 1, 2, 3, 4, 5, 6, 7, 8] rfl) (hD.sub [0, 1, 2, 3, 4, 5, 6, 7, 8] rfl rfl) hS (lv_sub hl [0, 1, 2] rfl)
          · skip
            refine lv_iload_n hx hb dX9_whoCanBuy_26 rfl (lv_at hl 1 rfl) ?_
            refine lv_iconst (v := 1) hx hb dX9_whoCanBuy_27 (by decide) ?_
            refine lv_iload_n hx hb dX9_whoCanBuy_28 rfl (lv_at hl 0 rfl) ?_
            refine lv_ishl hx hb dX9_whoCanBuy_29 ?_
            refine lv_topi (fun x_22 ex_22 => ?_)
            refine lv_ior hx hb dX9_whoCanBuy_30 ?_
            refine lv_topi (fun x_23 ex_23 => ?_)
            refine lv_istore_n (lv' := [(1, .int x_23), (2, .int vy_4), (0, .ref (Aa 0))]) hx hb dX9_whoCanBuy_31 rfl hl (by decide) rfl (fun ls hl => ?_)
            obtain ⟨x_24, ex_24⟩ : ∃ y : Int32, y = vy_4 + 1 := ⟨_, rfl⟩
            refine lv_iinc (v := x_24) (lv' := [(2, .int x_24), (1, .int x_23), (0, .ref (Aa 0))]) hx hb dX9_whoCanBuy_32 hl (k := 1) rfl (by rw [ex_24]; rfl) (by decide) rfl (fun ls hl => ?_)
            refine lv_goto (tgt := 4) hx hb dX9_whoCanBuy_35 (by decide) ?_
            have hb_25 : 0 ≤ (x_24 : Int32).toInt ∧ (6 - (x_24 : Int32).toInt).toNat < n_6 := by
              have z_1 := Int32.lt_iff_toInt_lt.mp (Int32.not_le.mp c_12)
              have z_2 := Int32.lt_iff_toInt_lt.mp (Int32.not_le.mp c_13)
              have z_3 : ¬ (r_17 : Int32).toInt = (0 : Int32).toInt := fun z => c_19 (Int32.toInt_inj.mp z)
              have y_0 : (0 : Int32).toInt = 0 := by decide
              have y_6 : (6 : Int32).toInt = 6 := by decide
              have y_1 : (1 : Int32).toInt = 1 := by decide
              have t_x_24 : x_24.toInt = (vy_4 : Int32).toInt + (1 : Int32).toInt := by rw [ex_24]; exact add_toInt (by omega) (by omega)
              omega
            exact ih_7 x_24 x_23 _ _ _ hb_25.1 hb_25.2 (hP.sub [0, 1, 2, 3, 4, 5, 6, 7, 8] rfl) (hD.sub [0, 1, 2, 3, 4, 5, 6, 7, 8] rfl rfl) hS (lv_sub hl [0, 1, 2] rfl)
  have h0_26 : 0 ≤ (0 : Int32).toInt := by
    have y_0 : (0 : Int32).toInt = 0 := by decide
    decide
  exact loop_8 _ 0 0 _ _ _ h0_26 (Nat.lt_succ_self _) hP hD hS hl
set_option maxRecDepth 100000 in
theorem cu_X9_whoCanBuy (l : Launch) (D : va_G) (tc : Nat → ClassId) (sk : (Nat → Nat) × (Nat → Nat)) (Aa_0 : Nat) (Aa_1 : Nat) (Aa_2 : Nat) (Aa_3 : Nat) (Aa_4 : Nat) (Aa_5 : Nat) (Aa_6 : Nat) (Aa_7 : Nat) (Aa_8 : Nat) (Av_0 : Int32) (Av_1 : Int32) (Av_2 : Int32) (Av_3 : Int32) (Av_4 : Int32) (Av_5 : Int32) (Af_1 : Nat → Int32) (Af_2 : Nat → Int32) (Af_3 : Nat → Int32) (Af_4 : Nat → Int32) (Af_5 : Nat → Int32) (Af_6 : Nat → Int32) (Af_7 : Nat → Int32) (Af_8 : Nat → Int32)  : Ct l yX9_whoCanBuy cX9_whoCanBuy 3 (some .int) { frames := 2, cells := 0, slots := 0, locals := 42 } D tc sk [.ref Aa_0] [(Aa_0, .inr (9, [.int Av_0, .int Av_1, .int Av_2, .int Av_3, .int Av_4, .int Av_5, .ref Aa_1, .ref Aa_2, .ref Aa_3, .ref Aa_4, .ref Aa_5, .ref Aa_6, .ref Aa_7, .ref Aa_8])), (Aa_1, .inl (tc 0, 10, .inl Af_1)), (Aa_2, .inl (tc 0, 10, .inl Af_2)), (Aa_3, .inl (tc 0, 6, .inl Af_3)), (Aa_4, .inl (tc 0, 6, .inl Af_4)), (Aa_5, .inl (tc 0, 6, .inl Af_5)), (Aa_6, .inl (tc 0, 6, .inl Af_6)), (Aa_7, .inl (tc 0, 6, .inl Af_7)), (Aa_8, .inl (tc 0, 6, .inl Af_8))] (fun (v : Option Value) (_ : Unit) => ∃ r : Int32, v = some (.int r) ∧ (True)) (fun (_ : Unit) => [(Aa_0, .inr (9, [.int Av_0, .int Av_1, .int Av_2, .int Av_3, .int Av_4, .int Av_5, .ref Aa_1, .ref Aa_2, .ref Aa_3, .ref Aa_4, .ref Aa_5, .ref Aa_6, .ref Aa_7, .ref Aa_8])), (Aa_1, .inl (tc 0, 10, .inl Af_1)), (Aa_2, .inl (tc 0, 10, .inl Af_2)), (Aa_3, .inl (tc 0, 6, .inl Af_3)), (Aa_4, .inl (tc 0, 6, .inl Af_4)), (Aa_5, .inl (tc 0, 6, .inl Af_5)), (Aa_6, .inl (tc 0, 6, .inl Af_6)), (Aa_7, .inl (tc 0, 6, .inl Af_7)), (Aa_8, .inl (tc 0, 6, .inl Af_8))]) 0 0 :=
  ct_X9_whoCanBuy l D tc sk (fun k => ([Aa_0, Aa_1, Aa_2, Aa_3, Aa_4, Aa_5, Aa_6, Aa_7, Aa_8] : List (Nat)).getD k 0) (fun k => ([Av_0, Av_1, Av_2, Av_3, Av_4, Av_5] : List (Int32)).getD k 0) (fun k => ([(fun _ => 0), Af_1, Af_2, Af_3, Af_4, Af_5, Af_6, Af_7, Af_8] : List (Nat → Int32)).getD k (fun _ => 0)) 
set_option maxHeartbeats 4000000 in
set_option maxRecDepth 100000 in
theorem ct_X9_timesMet (l : Launch) (D : va_G) (tc : Nat → ClassId) (sk : (Nat → Nat) × (Nat → Nat)) (Aa : Nat → Nat) (Av : Nat → Int32) (Af : Nat → Nat → Int32)  : Ct l yX9_timesMet cX9_timesMet 3 (some .int) { frames := 0, cells := 0, slots := 0, locals := 0 } D tc sk [.ref (Aa 0)] [((Aa 0), .inr (9, [.int (Av 0), .int (Av 1), .int (Av 2), .int (Av 3), .int (Av 4), .int (Av 5), .ref (Aa 1), .ref (Aa 2), .ref (Aa 3), .ref (Aa 4), .ref (Aa 5), .ref (Aa 6), .ref (Aa 7), .ref (Aa 8)])), ((Aa 1), .inl (tc 0, 10, .inl (Af 1))), ((Aa 2), .inl (tc 0, 10, .inl (Af 2))), ((Aa 3), .inl (tc 0, 6, .inl (Af 3))), ((Aa 4), .inl (tc 0, 6, .inl (Af 4))), ((Aa 5), .inl (tc 0, 6, .inl (Af 5))), ((Aa 6), .inl (tc 0, 6, .inl (Af 6))), ((Aa 7), .inl (tc 0, 6, .inl (Af 7))), ((Aa 8), .inl (tc 0, 6, .inl (Af 8)))] (fun (v : Option Value) (_ : Unit) => ∃ r : Int32, v = some (.int r) ∧ (True)) (fun (_ : Unit) => [((Aa 0), .inr (9, [.int (Av 0), .int (Av 1), .int (Av 2), .int (Av 3), .int (Av 4), .int (Av 5), .ref (Aa 1), .ref (Aa 2), .ref (Aa 3), .ref (Aa 4), .ref (Aa 5), .ref (Aa 6), .ref (Aa 7), .ref (Aa 8)])), ((Aa 1), .inl (tc 0, 10, .inl (Af 1))), ((Aa 2), .inl (tc 0, 10, .inl (Af 2))), ((Aa 3), .inl (tc 0, 6, .inl (Af 3))), ((Aa 4), .inl (tc 0, 6, .inl (Af 4))), ((Aa 5), .inl (tc 0, 6, .inl (Af 5))), ((Aa 6), .inl (tc 0, 6, .inl (Af 6))), ((Aa 7), .inl (tc 0, 6, .inl (Af 7))), ((Aa 8), .inl (tc 0, 6, .inl (Af 8)))]) 0 0 := by
  refine Ct.start (by decide) (Nat.le_of_ble_eq_true rfl) (fun p e s m below meth c A ls hx hb hr hlk hin hml hown hts hK hX hP hD hA hl hS => ?_)
  have hl : lv_has ls 3 [(0, .ref (Aa 0))] := hl
  refine lv_iconst (v := 0) hx hb dX9_timesMet_0 (by decide) ?_
  refine lv_istore_n (lv' := [(1, .int 0), (0, .ref (Aa 0))]) hx hb dX9_timesMet_1 rfl hl (by decide) rfl (fun ls hl => ?_)
  refine lv_iconst (v := 0) hx hb dX9_timesMet_2 (by decide) ?_
  refine lv_istore_n (lv' := [(2, .int 0), (1, .int 0), (0, .ref (Aa 0))]) hx hb dX9_timesMet_3 rfl hl (by decide) rfl (fun ls hl => ?_)
  have loop_8 : ∀ (n_6 : Nat) (vy_4 : Int32) (vy_5 : Int32) (H : Heap) (locs : List Loc) (ls : Array Slot), 0 ≤ (vy_4 : Int32).toInt → (6 - (vy_4 : Int32).toInt).toNat < n_6 → va_P D classes [((Aa 0), .inr (9, [.int (Av 0), .int (Av 1), .int (Av 2), .int (Av 3), .int (Av 4), .int (Av 5), .ref (Aa 1), .ref (Aa 2), .ref (Aa 3), .ref (Aa 4), .ref (Aa 5), .ref (Aa 6), .ref (Aa 7), .ref (Aa 8)])), ((Aa 1), .inl (tc 0, 10, .inl (Af 1))), ((Aa 2), .inl (tc 0, 10, .inl (Af 2))), ((Aa 3), .inl (tc 0, 6, .inl (Af 3))), ((Aa 4), .inl (tc 0, 6, .inl (Af 4))), ((Aa 5), .inl (tc 0, 6, .inl (Af 5))), ((Aa 6), .inl (tc 0, 6, .inl (Af 6))), ((Aa 7), .inl (tc 0, 6, .inl (Af 7))), ((Aa 8), .inl (tc 0, 6, .inl (Af 8)))] H → va_D A [((Aa 0), .inr (9, [.int (Av 0), .int (Av 1), .int (Av 2), .int (Av 3), .int (Av 4), .int (Av 5), .ref (Aa 1), .ref (Aa 2), .ref (Aa 3), .ref (Aa 4), .ref (Aa 5), .ref (Aa 6), .ref (Aa 7), .ref (Aa 8)])), ((Aa 1), .inl (tc 0, 10, .inl (Af 1))), ((Aa 2), .inl (tc 0, 10, .inl (Af 2))), ((Aa 3), .inl (tc 0, 6, .inl (Af 3))), ((Aa 4), .inl (tc 0, 6, .inl (Af 4))), ((Aa 5), .inl (tc 0, 6, .inl (Af 5))), ((Aa 6), .inl (tc 0, 6, .inl (Af 6))), ((Aa 7), .inl (tc 0, 6, .inl (Af 7))), ((Aa 8), .inl (tc 0, 6, .inl (Af 8)))] → va_S A s.heap H locs → lv_has ls 3 [(2, .int vy_4), (1, .int vy_5), (0, .ref (Aa 0))] → W p l e ({ frames := 0, cells := 0, slots := 0, locals := 0 }) s m ([.ref (Aa 0)].toArray) below meth c H locs 0 0 (MQ below (QW (fun (v : Option Value) (_ : Unit) => ∃ r : Int32, v = some (.int r) ∧ (True)) (BW D (fun (_ : Unit) => [((Aa 0), .inr (9, [.int (Av 0), .int (Av 1), .int (Av 2), .int (Av 3), .int (Av 4), .int (Av 5), .ref (Aa 1), .ref (Aa 2), .ref (Aa 3), .ref (Aa 4), .ref (Aa 5), .ref (Aa 6), .ref (Aa 7), .ref (Aa 8)])), ((Aa 1), .inl (tc 0, 10, .inl (Af 1))), ((Aa 2), .inl (tc 0, 10, .inl (Af 2))), ((Aa 3), .inl (tc 0, 6, .inl (Af 3))), ((Aa 4), .inl (tc 0, 6, .inl (Af 4))), ((Aa 5), .inl (tc 0, 6, .inl (Af 5))), ((Aa 6), .inl (tc 0, 6, .inl (Af 6))), ((Aa 7), .inl (tc 0, 6, .inl (Af 7))), ((Aa 8), .inl (tc 0, 6, .inl (Af 8)))]) A) A) ([.ref (Aa 0)].toArray) s 0 0 A) (F0 m 4 ls []) := by
    intro n_6
    induction n_6 with
    | zero =>
      intro vy_4 vy_5 H locs ls h1 h2
      exact absurd h2 (Nat.not_lt_zero _)
    | succ n_6 ih_7 =>
      intro vy_4 vy_5 H locs ls hi_10 hn_11 hP hD hS hl
      refine lv_iload_n hx hb dX9_timesMet_4 rfl (lv_at hl 0 rfl) ?_
      refine lv_aload_n hx hb dX9_timesMet_5 rfl (lv_at hl 2 rfl) ?_
      refine gf_X9_21 hx hb hts hown hK hP 0 rfl rfl dX9_timesMet_6 ?_
      refine lv_icmp_ge (tgt := 33) hx hb dX9_timesMet_9 (by decide) (fun c_12 => ?_) (fun c_12 => ?_)
      · skip
        refine lv_iload_n hx hb dX9_timesMet_33 rfl (lv_at hl 1 rfl) ?_
        exact retI (v := vy_5) hx hb hr hlk (rfl) hP hD hS () ⟨_, rfl, trivial⟩ [0, 1, 2, 3, 4, 5, 6, 7, 8] rfl rfl dX9_timesMet_34 (Nat.le_of_ble_eq_true rfl) (Nat.le_of_ble_eq_true rfl) rfl
      · skip
        refine lv_iload_n hx hb dX9_timesMet_12 rfl (lv_at hl 0 rfl) ?_
        refine lv_bipush (v := 6) hx hb dX9_timesMet_13 (by decide) ?_
        refine lv_icmp_ge (tgt := 33) hx hb dX9_timesMet_15 (by decide) (fun c_13 => ?_) (fun c_13 => ?_)
        · skip
          refine lv_iload_n hx hb dX9_timesMet_33 rfl (lv_at hl 1 rfl) ?_
          exact retI (v := vy_5) hx hb hr hlk (rfl) hP hD hS () ⟨_, rfl, trivial⟩ [0, 1, 2, 3, 4, 5, 6, 7, 8] rfl rfl dX9_timesMet_34 (Nat.le_of_ble_eq_true rfl) (Nat.le_of_ble_eq_true rfl) rfl
        · skip
          refine lv_iload_n hx hb dX9_timesMet_18 rfl (lv_at hl 1 rfl) ?_
          refine lv_aload_n hx hb dX9_timesMet_19 rfl (lv_at hl 2 rfl) ?_
          refine gf_X9_49 hx hb hts hown hK hP 0 rfl rfl dX9_timesMet_20 ?_
          refine lv_iload_n hx hb dX9_timesMet_23 rfl (lv_at hl 0 rfl) ?_
          have hi_14 : vp_in vy_4 6 := by
            have z_1 := Int32.lt_iff_toInt_lt.mp (Int32.not_le.mp c_12)
            have z_2 := Int32.lt_iff_toInt_lt.mp (Int32.not_le.mp c_13)
            have y_6 : (6 : Int32).toInt = 6 := by decide
            refine vp_in_iff.mpr ⟨?_, ?_⟩ <;> omega
          refine va_iald hx hb hK hP 7 0 rfl rfl hi_14 dX9_timesMet_24 ?_
          refine lv_topi (fun x_15 ex_15 => ?_)
          refine lv_iadd hx hb dX9_timesMet_25 ?_
          refine lv_topi (fun x_16 ex_16 => ?_)
          refine lv_istore_n (lv' := [(1, .int x_16), (2, .int vy_4), (0, .ref (Aa 0))]) hx hb dX9_timesMet_26 rfl hl (by decide) rfl (fun ls hl => ?_)
          obtain ⟨x_17, ex_17⟩ : ∃ y : Int32, y = vy_4 + 1 := ⟨_, rfl⟩
          refine lv_iinc (v := x_17) (lv' := [(2, .int x_17), (1, .int x_16), (0, .ref (Aa 0))]) hx hb dX9_timesMet_27 hl (k := 1) rfl (by rw [ex_17]; rfl) (by decide) rfl (fun ls hl => ?_)
          refine lv_goto (tgt := 4) hx hb dX9_timesMet_30 (by decide) ?_
          have hb_18 : 0 ≤ (x_17 : Int32).toInt ∧ (6 - (x_17 : Int32).toInt).toNat < n_6 := by
            have z_1 := Int32.lt_iff_toInt_lt.mp (Int32.not_le.mp c_12)
            have z_2 := Int32.lt_iff_toInt_lt.mp (Int32.not_le.mp c_13)
            have y_6 : (6 : Int32).toInt = 6 := by decide
            have y_1 : (1 : Int32).toInt = 1 := by decide
            have t_x_17 : x_17.toInt = (vy_4 : Int32).toInt + (1 : Int32).toInt := by rw [ex_17]; exact add_toInt (by omega) (by omega)
            omega
          exact ih_7 x_17 x_16 _ _ _ hb_18.1 hb_18.2 (hP.sub [0, 1, 2, 3, 4, 5, 6, 7, 8] rfl) (hD.sub [0, 1, 2, 3, 4, 5, 6, 7, 8] rfl rfl) hS (lv_sub hl [0, 1, 2] rfl)
  have h0_19 : 0 ≤ (0 : Int32).toInt := by
    have y_0 : (0 : Int32).toInt = 0 := by decide
    decide
  exact loop_8 _ 0 0 _ _ _ h0_19 (Nat.lt_succ_self _) hP hD hS hl
set_option maxRecDepth 100000 in
theorem cu_X9_timesMet (l : Launch) (D : va_G) (tc : Nat → ClassId) (sk : (Nat → Nat) × (Nat → Nat)) (Aa_0 : Nat) (Aa_1 : Nat) (Aa_2 : Nat) (Aa_3 : Nat) (Aa_4 : Nat) (Aa_5 : Nat) (Aa_6 : Nat) (Aa_7 : Nat) (Aa_8 : Nat) (Av_0 : Int32) (Av_1 : Int32) (Av_2 : Int32) (Av_3 : Int32) (Av_4 : Int32) (Av_5 : Int32) (Af_1 : Nat → Int32) (Af_2 : Nat → Int32) (Af_3 : Nat → Int32) (Af_4 : Nat → Int32) (Af_5 : Nat → Int32) (Af_6 : Nat → Int32) (Af_7 : Nat → Int32) (Af_8 : Nat → Int32)  : Ct l yX9_timesMet cX9_timesMet 3 (some .int) { frames := 0, cells := 0, slots := 0, locals := 0 } D tc sk [.ref Aa_0] [(Aa_0, .inr (9, [.int Av_0, .int Av_1, .int Av_2, .int Av_3, .int Av_4, .int Av_5, .ref Aa_1, .ref Aa_2, .ref Aa_3, .ref Aa_4, .ref Aa_5, .ref Aa_6, .ref Aa_7, .ref Aa_8])), (Aa_1, .inl (tc 0, 10, .inl Af_1)), (Aa_2, .inl (tc 0, 10, .inl Af_2)), (Aa_3, .inl (tc 0, 6, .inl Af_3)), (Aa_4, .inl (tc 0, 6, .inl Af_4)), (Aa_5, .inl (tc 0, 6, .inl Af_5)), (Aa_6, .inl (tc 0, 6, .inl Af_6)), (Aa_7, .inl (tc 0, 6, .inl Af_7)), (Aa_8, .inl (tc 0, 6, .inl Af_8))] (fun (v : Option Value) (_ : Unit) => ∃ r : Int32, v = some (.int r) ∧ (True)) (fun (_ : Unit) => [(Aa_0, .inr (9, [.int Av_0, .int Av_1, .int Av_2, .int Av_3, .int Av_4, .int Av_5, .ref Aa_1, .ref Aa_2, .ref Aa_3, .ref Aa_4, .ref Aa_5, .ref Aa_6, .ref Aa_7, .ref Aa_8])), (Aa_1, .inl (tc 0, 10, .inl Af_1)), (Aa_2, .inl (tc 0, 10, .inl Af_2)), (Aa_3, .inl (tc 0, 6, .inl Af_3)), (Aa_4, .inl (tc 0, 6, .inl Af_4)), (Aa_5, .inl (tc 0, 6, .inl Af_5)), (Aa_6, .inl (tc 0, 6, .inl Af_6)), (Aa_7, .inl (tc 0, 6, .inl Af_7)), (Aa_8, .inl (tc 0, 6, .inl Af_8))]) 0 0 :=
  ct_X9_timesMet l D tc sk (fun k => ([Aa_0, Aa_1, Aa_2, Aa_3, Aa_4, Aa_5, Aa_6, Aa_7, Aa_8] : List (Nat)).getD k 0) (fun k => ([Av_0, Av_1, Av_2, Av_3, Av_4, Av_5] : List (Int32)).getD k 0) (fun k => ([(fun _ => 0), Af_1, Af_2, Af_3, Af_4, Af_5, Af_6, Af_7, Af_8] : List (Nat → Int32)).getD k (fun _ => 0)) 
set_option maxHeartbeats 4000000 in
set_option maxRecDepth 100000 in
theorem ct_X9_everybody (l : Launch) (D : va_G) (tc : Nat → ClassId) (sk : (Nat → Nat) × (Nat → Nat)) (Aa : Nat → Nat) (Av : Nat → Int32) (Af : Nat → Nat → Int32) (h_buy : 0 ≤ (Av 3).toInt ∧ (Av 3).toInt ≤ 6) : Ct l yX9_everybody cX9_everybody 1 (some .int) { frames := 0, cells := 0, slots := 0, locals := 0 } D tc sk [.ref (Aa 0)] [((Aa 0), .inr (9, [.int (Av 0), .int (Av 1), .int (Av 2), .int (Av 3), .int (Av 4), .int (Av 5), .ref (Aa 1), .ref (Aa 2), .ref (Aa 3), .ref (Aa 4), .ref (Aa 5), .ref (Aa 6), .ref (Aa 7), .ref (Aa 8)])), ((Aa 1), .inl (tc 0, 10, .inl (Af 1))), ((Aa 2), .inl (tc 0, 10, .inl (Af 2))), ((Aa 3), .inl (tc 0, 6, .inl (Af 3))), ((Aa 4), .inl (tc 0, 6, .inl (Af 4))), ((Aa 5), .inl (tc 0, 6, .inl (Af 5))), ((Aa 6), .inl (tc 0, 6, .inl (Af 6))), ((Aa 7), .inl (tc 0, 6, .inl (Af 7))), ((Aa 8), .inl (tc 0, 6, .inl (Af 8)))] (fun (v : Option Value) (_ : Unit) => ∃ r : Int32, v = some (.int r) ∧ ((r.toInt ≤ 63 ∧ 0 ≤ r.toInt))) (fun (_ : Unit) => [((Aa 0), .inr (9, [.int (Av 0), .int (Av 1), .int (Av 2), .int (Av 3), .int (Av 4), .int (Av 5), .ref (Aa 1), .ref (Aa 2), .ref (Aa 3), .ref (Aa 4), .ref (Aa 5), .ref (Aa 6), .ref (Aa 7), .ref (Aa 8)])), ((Aa 1), .inl (tc 0, 10, .inl (Af 1))), ((Aa 2), .inl (tc 0, 10, .inl (Af 2))), ((Aa 3), .inl (tc 0, 6, .inl (Af 3))), ((Aa 4), .inl (tc 0, 6, .inl (Af 4))), ((Aa 5), .inl (tc 0, 6, .inl (Af 5))), ((Aa 6), .inl (tc 0, 6, .inl (Af 6))), ((Aa 7), .inl (tc 0, 6, .inl (Af 7))), ((Aa 8), .inl (tc 0, 6, .inl (Af 8)))]) 0 0 := by
  refine Ct.start (by decide) (Nat.le_of_ble_eq_true rfl) (fun p e s m below meth c A ls hx hb hr hlk hin hml hown hts hK hX hP hD hA hl hS => ?_)
  have hl : lv_has ls 1 [(0, .ref (Aa 0))] := hl
  refine lv_iconst (v := 1) hx hb dX9_everybody_0 (by decide) ?_
  refine lv_aload_n hx hb dX9_everybody_1 rfl (lv_at hl 0 rfl) ?_
  refine gf_X9_21 hx hb hts hown hK hP 0 rfl rfl dX9_everybody_2 ?_
  refine lv_ishl hx hb dX9_everybody_5 ?_
  refine lv_topi (fun x_1 ex_1 => ?_)
  refine lv_iconst (v := 1) hx hb dX9_everybody_6 (by decide) ?_
  refine lv_isub hx hb dX9_everybody_7 ?_
  refine lv_topi (fun x_2 ex_2 => ?_)
  have hp_4 : (x_2 : Int32).toInt ≤ 63 ∧ 0 ≤ (x_2 : Int32).toInt := by rw [ex_2, ex_1]; exact ev63 h_buy.1 h_buy.2
  exact retI (v := x_2) hx hb hr hlk (rfl) hP hD hS () ⟨_, rfl, hp_4⟩ [0, 1, 2, 3, 4, 5, 6, 7, 8] rfl rfl dX9_everybody_8 (Nat.le_of_ble_eq_true rfl) (Nat.le_of_ble_eq_true rfl) rfl
set_option maxRecDepth 100000 in
theorem cu_X9_everybody (l : Launch) (D : va_G) (tc : Nat → ClassId) (sk : (Nat → Nat) × (Nat → Nat)) (Aa_0 : Nat) (Aa_1 : Nat) (Aa_2 : Nat) (Aa_3 : Nat) (Aa_4 : Nat) (Aa_5 : Nat) (Aa_6 : Nat) (Aa_7 : Nat) (Aa_8 : Nat) (Av_0 : Int32) (Av_1 : Int32) (Av_2 : Int32) (Av_3 : Int32) (Av_4 : Int32) (Av_5 : Int32) (Af_1 : Nat → Int32) (Af_2 : Nat → Int32) (Af_3 : Nat → Int32) (Af_4 : Nat → Int32) (Af_5 : Nat → Int32) (Af_6 : Nat → Int32) (Af_7 : Nat → Int32) (Af_8 : Nat → Int32) (h_buy : 0 ≤ Av_3.toInt ∧ Av_3.toInt ≤ 6) : Ct l yX9_everybody cX9_everybody 1 (some .int) { frames := 0, cells := 0, slots := 0, locals := 0 } D tc sk [.ref Aa_0] [(Aa_0, .inr (9, [.int Av_0, .int Av_1, .int Av_2, .int Av_3, .int Av_4, .int Av_5, .ref Aa_1, .ref Aa_2, .ref Aa_3, .ref Aa_4, .ref Aa_5, .ref Aa_6, .ref Aa_7, .ref Aa_8])), (Aa_1, .inl (tc 0, 10, .inl Af_1)), (Aa_2, .inl (tc 0, 10, .inl Af_2)), (Aa_3, .inl (tc 0, 6, .inl Af_3)), (Aa_4, .inl (tc 0, 6, .inl Af_4)), (Aa_5, .inl (tc 0, 6, .inl Af_5)), (Aa_6, .inl (tc 0, 6, .inl Af_6)), (Aa_7, .inl (tc 0, 6, .inl Af_7)), (Aa_8, .inl (tc 0, 6, .inl Af_8))] (fun (v : Option Value) (_ : Unit) => ∃ r : Int32, v = some (.int r) ∧ ((r.toInt ≤ 63 ∧ 0 ≤ r.toInt))) (fun (_ : Unit) => [(Aa_0, .inr (9, [.int Av_0, .int Av_1, .int Av_2, .int Av_3, .int Av_4, .int Av_5, .ref Aa_1, .ref Aa_2, .ref Aa_3, .ref Aa_4, .ref Aa_5, .ref Aa_6, .ref Aa_7, .ref Aa_8])), (Aa_1, .inl (tc 0, 10, .inl Af_1)), (Aa_2, .inl (tc 0, 10, .inl Af_2)), (Aa_3, .inl (tc 0, 6, .inl Af_3)), (Aa_4, .inl (tc 0, 6, .inl Af_4)), (Aa_5, .inl (tc 0, 6, .inl Af_5)), (Aa_6, .inl (tc 0, 6, .inl Af_6)), (Aa_7, .inl (tc 0, 6, .inl Af_7)), (Aa_8, .inl (tc 0, 6, .inl Af_8))]) 0 0 :=
  ct_X9_everybody l D tc sk (fun k => ([Aa_0, Aa_1, Aa_2, Aa_3, Aa_4, Aa_5, Aa_6, Aa_7, Aa_8] : List (Nat)).getD k 0) (fun k => ([Av_0, Av_1, Av_2, Av_3, Av_4, Av_5] : List (Int32)).getD k 0) (fun k => ([(fun _ => 0), Af_1, Af_2, Af_3, Af_4, Af_5, Af_6, Af_7, Af_8] : List (Nat → Int32)).getD k (fun _ => 0)) h_buy
set_option maxHeartbeats 4000000 in
set_option maxRecDepth 100000 in
theorem ct_X9_wordOf (l : Launch) (D : va_G) (tc : Nat → ClassId) (sk : (Nat → Nat) × (Nat → Nat)) (Aa : Nat → Nat) (Av : Nat → Int32) (Af : Nat → Nat → Int32) (x1 : Int32) (x2 : Int32)  : Ct l yX9_wordOf cX9_wordOf 3 (some .long) { frames := 2, cells := 0, slots := 0, locals := 42 } D tc sk [.ref (Aa 0), .int x1, .int x2] [((Aa 0), .inr (9, [.int (Av 0), .int (Av 1), .int (Av 2), .int (Av 3), .int (Av 4), .int (Av 5), .ref (Aa 1), .ref (Aa 2), .ref (Aa 3), .ref (Aa 4), .ref (Aa 5), .ref (Aa 6), .ref (Aa 7), .ref (Aa 8)])), ((Aa 1), .inl (tc 0, 10, .inl (Af 1))), ((Aa 2), .inl (tc 0, 10, .inl (Af 2))), ((Aa 3), .inl (tc 0, 6, .inl (Af 3))), ((Aa 4), .inl (tc 0, 6, .inl (Af 4))), ((Aa 5), .inl (tc 0, 6, .inl (Af 5))), ((Aa 6), .inl (tc 0, 6, .inl (Af 6))), ((Aa 7), .inl (tc 0, 6, .inl (Af 7))), ((Aa 8), .inl (tc 0, 6, .inl (Af 8)))] (fun (v : Option Value) (_ : Unit) => ∃ r : Int64, v = some (.long r) ∧ (True)) (fun (_ : Unit) => [((Aa 0), .inr (9, [.int (Av 0), .int (Av 1), .int (Av 2), .int (Av 3), .int (Av 4), .int (Av 5), .ref (Aa 1), .ref (Aa 2), .ref (Aa 3), .ref (Aa 4), .ref (Aa 5), .ref (Aa 6), .ref (Aa 7), .ref (Aa 8)])), ((Aa 1), .inl (tc 0, 10, .inl (Af 1))), ((Aa 2), .inl (tc 0, 10, .inl (Af 2))), ((Aa 3), .inl (tc 0, 6, .inl (Af 3))), ((Aa 4), .inl (tc 0, 6, .inl (Af 4))), ((Aa 5), .inl (tc 0, 6, .inl (Af 5))), ((Aa 6), .inl (tc 0, 6, .inl (Af 6))), ((Aa 7), .inl (tc 0, 6, .inl (Af 7))), ((Aa 8), .inl (tc 0, 6, .inl (Af 8)))]) 0 0 := by
  refine Ct.start (by decide) (Nat.le_of_ble_eq_true rfl) (fun p e s m below meth c A ls hx hb hr hlk hin hml hown hts hK hX hP hD hA hl hS => ?_)
  have hl : lv_has ls 3 [(0, .ref (Aa 0)), (1, .int x1), (2, .int x2)] := hl
  refine lv_aload_n hx hb dX9_wordOf_0 rfl (lv_at hl 0 rfl) ?_
  refine lv_iload_n hx hb dX9_wordOf_1 rfl (lv_at hl 2 rfl) ?_
  refine cV (a := (Aa 0)) (As := [.int x2]) (rest := []) (wr := []) ⟨hx, hb, hml, hown, hts⟩ hK hX hA (cu_X9_hasBuyer l D tc sk (Aa 0) (Aa 1) (Aa 2) (Aa 3) (Aa 4) (Aa 5) (Aa 6) (Aa 7) (Aa 8) (Av 0) (Av 1) (Av 2) (Av 3) (Av 4) (Av 5) (Af 1) (Af 2) (Af 3) (Af 4) (Af 5) (Af 6) (Af 7) (Af 8) x2) k_591 k_707 k_589 k_590 k_98 pl_X9_hasBuyer ⟨Nat.le_of_ble_eq_true rfl, Nat.le_of_ble_eq_true rfl⟩ rfl rfl (va_recv hK hP (ci := 9) (q0 := 0) rfl rfl) hP hD hS [0, 1, 2, 3, 4, 5, 6, 7, 8] [] rfl rfl rfl rfl rfl (by decide) rfl hl.1 rfl (Nat.le_of_ble_eq_true rfl) dX9_wordOf_2 ⟨Nat.le_of_ble_eq_true rfl, Nat.le_of_ble_eq_true rfl⟩ (fun v_1 u_2 H locs hv_3 hP hD hS => ?_)
  obtain ⟨r_4, rfl, he_5⟩ := hv_3
  have he_5 : ((r_4.toInt = 0 ∨ (r_4.toInt = 1 ∧ 0 ≤ x2.toInt ∧ x2.toInt < 6 ∧ x2.toInt < (Av 3).toInt))) := he_5
  refine W.eq (g2 := F0 m 5 ls [.int r_4]) rfl ?_
  have hP : va_P D classes [((Aa 0), .inr (9, [.int (Av 0), .int (Av 1), .int (Av 2), .int (Av 3), .int (Av 4), .int (Av 5), .ref (Aa 1), .ref (Aa 2), .ref (Aa 3), .ref (Aa 4), .ref (Aa 5), .ref (Aa 6), .ref (Aa 7), .ref (Aa 8)])), ((Aa 1), .inl (tc 0, 10, .inl (Af 1))), ((Aa 2), .inl (tc 0, 10, .inl (Af 2))), ((Aa 3), .inl (tc 0, 6, .inl (Af 3))), ((Aa 4), .inl (tc 0, 6, .inl (Af 4))), ((Aa 5), .inl (tc 0, 6, .inl (Af 5))), ((Aa 6), .inl (tc 0, 6, .inl (Af 6))), ((Aa 7), .inl (tc 0, 6, .inl (Af 7))), ((Aa 8), .inl (tc 0, 6, .inl (Af 8)))] H := hP
  have hD : va_D A [((Aa 0), .inr (9, [.int (Av 0), .int (Av 1), .int (Av 2), .int (Av 3), .int (Av 4), .int (Av 5), .ref (Aa 1), .ref (Aa 2), .ref (Aa 3), .ref (Aa 4), .ref (Aa 5), .ref (Aa 6), .ref (Aa 7), .ref (Aa 8)])), ((Aa 1), .inl (tc 0, 10, .inl (Af 1))), ((Aa 2), .inl (tc 0, 10, .inl (Af 2))), ((Aa 3), .inl (tc 0, 6, .inl (Af 3))), ((Aa 4), .inl (tc 0, 6, .inl (Af 4))), ((Aa 5), .inl (tc 0, 6, .inl (Af 5))), ((Aa 6), .inl (tc 0, 6, .inl (Af 6))), ((Aa 7), .inl (tc 0, 6, .inl (Af 7))), ((Aa 8), .inl (tc 0, 6, .inl (Af 8)))] := hD
  refine lv_if_ne (tgt := 10) hx hb dX9_wordOf_5 (by decide) (fun c_6 => ?_) (fun c_6 => ?_)
  · skip
    refine lv_iload_n hx hb dX9_wordOf_10 rfl (lv_at hl 1 rfl) ?_
    refine lv_topi (fun x_7 ex_7 => ?_)
    by_cases c_8 : x_7 = 0
    · skip
      subst c_8
      refine lv_tableIn (off := 61) (tgt := 72) hx hb dX9_wordOf_11 (by decide) (by decide) (by decide) (by decide) ?_
      refine lv_iload_n hx hb dX9_wordOf_72 rfl (lv_at hl 2 rfl) ?_
      refine lv_i2l (v := (x2).toInt64) hx hb dX9_wordOf_73 rfl ?_
      exact retL (v := (x2).toInt64) hx hb hr hlk hP hD hS () ⟨_, rfl, trivial⟩ [0, 1, 2, 3, 4, 5, 6, 7, 8] rfl rfl dX9_wordOf_74 (Nat.le_of_ble_eq_true rfl) (Nat.le_of_ble_eq_true rfl) rfl
    · skip
      by_cases c_9 : x_7 = 1
      · skip
        subst c_9
        refine lv_tableIn (off := 64) (tgt := 75) hx hb dX9_wordOf_11 (by decide) (by decide) (by decide) (by decide) ?_
        refine lv_aload_n hx hb dX9_wordOf_75 rfl (lv_at hl 0 rfl) ?_
        refine gf_X9_37 hx hb hts hown hK hP 0 rfl rfl dX9_wordOf_76 ?_
        refine lv_iload_n hx hb dX9_wordOf_79 rfl (lv_at hl 2 rfl) ?_
        have hi_10 : vp_in x2 6 := by
          have z_1 : ¬ (r_4 : Int32).toInt = (0 : Int32).toInt := fun z => c_6 (Int32.toInt_inj.mp z)
          have y_0 : (0 : Int32).toInt = 0 := by decide
          refine vp_in_iff.mpr ⟨?_, ?_⟩ <;> omega
        refine va_iald hx hb hK hP 3 0 rfl rfl hi_10 dX9_wordOf_80 ?_
        refine lv_topi (fun x_11 ex_11 => ?_)
        refine lv_i2l (v := (x_11).toInt64) hx hb dX9_wordOf_81 rfl ?_
        exact retL (v := (x_11).toInt64) hx hb hr hlk hP hD hS () ⟨_, rfl, trivial⟩ [0, 1, 2, 3, 4, 5, 6, 7, 8] rfl rfl dX9_wordOf_82 (Nat.le_of_ble_eq_true rfl) (Nat.le_of_ble_eq_true rfl) rfl
      · skip
        by_cases c_12 : x_7 = 2
        · skip
          subst c_12
          refine lv_tableIn (off := 72) (tgt := 83) hx hb dX9_wordOf_11 (by decide) (by decide) (by decide) (by decide) ?_
          refine lv_aload_n hx hb dX9_wordOf_83 rfl (lv_at hl 0 rfl) ?_
          refine gf_X9_40 hx hb hts hown hK hP 0 rfl rfl dX9_wordOf_84 ?_
          refine lv_iload_n hx hb dX9_wordOf_87 rfl (lv_at hl 2 rfl) ?_
          have hi_13 : vp_in x2 6 := by
            have z_1 : ¬ (r_4 : Int32).toInt = (0 : Int32).toInt := fun z => c_6 (Int32.toInt_inj.mp z)
            have y_0 : (0 : Int32).toInt = 0 := by decide
            refine vp_in_iff.mpr ⟨?_, ?_⟩ <;> omega
          refine va_iald hx hb hK hP 4 0 rfl rfl hi_13 dX9_wordOf_88 ?_
          refine lv_topi (fun x_14 ex_14 => ?_)
          refine lv_i2l (v := (x_14).toInt64) hx hb dX9_wordOf_89 rfl ?_
          exact retL (v := (x_14).toInt64) hx hb hr hlk hP hD hS () ⟨_, rfl, trivial⟩ [0, 1, 2, 3, 4, 5, 6, 7, 8] rfl rfl dX9_wordOf_90 (Nat.le_of_ble_eq_true rfl) (Nat.le_of_ble_eq_true rfl) rfl
        · skip
          by_cases c_15 : x_7 = 3
          · skip
            subst c_15
            refine lv_tableIn (off := 80) (tgt := 91) hx hb dX9_wordOf_11 (by decide) (by decide) (by decide) (by decide) ?_
            refine lv_aload_n hx hb dX9_wordOf_91 rfl (lv_at hl 0 rfl) ?_
            refine gf_X9_43 hx hb hts hown hK hP 0 rfl rfl dX9_wordOf_92 ?_
            refine lv_iload_n hx hb dX9_wordOf_95 rfl (lv_at hl 2 rfl) ?_
            have hi_16 : vp_in x2 6 := by
              have z_1 : ¬ (r_4 : Int32).toInt = (0 : Int32).toInt := fun z => c_6 (Int32.toInt_inj.mp z)
              have y_0 : (0 : Int32).toInt = 0 := by decide
              refine vp_in_iff.mpr ⟨?_, ?_⟩ <;> omega
            refine va_iald hx hb hK hP 5 0 rfl rfl hi_16 dX9_wordOf_96 ?_
            refine lv_topi (fun x_17 ex_17 => ?_)
            refine lv_i2l (v := (x_17).toInt64) hx hb dX9_wordOf_97 rfl ?_
            exact retL (v := (x_17).toInt64) hx hb hr hlk hP hD hS () ⟨_, rfl, trivial⟩ [0, 1, 2, 3, 4, 5, 6, 7, 8] rfl rfl dX9_wordOf_98 (Nat.le_of_ble_eq_true rfl) (Nat.le_of_ble_eq_true rfl) rfl
          · skip
            by_cases c_18 : x_7 = 4
            · skip
              subst c_18
              refine lv_tableIn (off := 88) (tgt := 99) hx hb dX9_wordOf_11 (by decide) (by decide) (by decide) (by decide) ?_
              refine lv_aload_n hx hb dX9_wordOf_99 rfl (lv_at hl 0 rfl) ?_
              refine lv_aload_n hx hb dX9_wordOf_100 rfl (lv_at hl 0 rfl) ?_
              refine gf_X9_24 hx hb hts hown hK hP 0 rfl rfl dX9_wordOf_101 ?_
              refine cV (a := (Aa 0)) (As := [.int (Av 4)]) (rest := []) (wr := []) ⟨hx, hb, hml, hown, hts⟩ hK hX hA (cu_X9_stillOn l D tc sk (Aa 0) (Aa 1) (Aa 2) (Aa 3) (Aa 4) (Aa 5) (Aa 6) (Aa 7) (Aa 8) (Av 0) (Av 1) (Av 2) (Av 3) (Av 4) (Av 5) (Af 1) (Af 2) (Af 3) (Af 4) (Af 5) (Af 6) (Af 7) (Af 8) (Av 4)) k_743 k_740 k_741 k_742 k_98 pl_X9_stillOn ⟨Nat.le_of_ble_eq_true rfl, Nat.le_of_ble_eq_true rfl⟩ rfl rfl (va_recv hK hP (ci := 9) (q0 := 0) rfl rfl) hP hD hS [0, 1, 2, 3, 4, 5, 6, 7, 8] [] rfl rfl rfl rfl rfl (by decide) rfl hl.1 rfl (Nat.le_of_ble_eq_true rfl) dX9_wordOf_104 ⟨Nat.le_of_ble_eq_true rfl, Nat.le_of_ble_eq_true rfl⟩ (fun v_19 u_20 H locs hv_21 hP hD hS => ?_)
              obtain ⟨r_22, rfl, he_23⟩ := hv_21
              have he_23 : (True) := he_23
              refine W.eq (g2 := F0 m 107 ls [.int r_22]) rfl ?_
              have hP : va_P D classes [((Aa 0), .inr (9, [.int (Av 0), .int (Av 1), .int (Av 2), .int (Av 3), .int (Av 4), .int (Av 5), .ref (Aa 1), .ref (Aa 2), .ref (Aa 3), .ref (Aa 4), .ref (Aa 5), .ref (Aa 6), .ref (Aa 7), .ref (Aa 8)])), ((Aa 1), .inl (tc 0, 10, .inl (Af 1))), ((Aa 2), .inl (tc 0, 10, .inl (Af 2))), ((Aa 3), .inl (tc 0, 6, .inl (Af 3))), ((Aa 4), .inl (tc 0, 6, .inl (Af 4))), ((Aa 5), .inl (tc 0, 6, .inl (Af 5))), ((Aa 6), .inl (tc 0, 6, .inl (Af 6))), ((Aa 7), .inl (tc 0, 6, .inl (Af 7))), ((Aa 8), .inl (tc 0, 6, .inl (Af 8)))] H := hP
              have hD : va_D A [((Aa 0), .inr (9, [.int (Av 0), .int (Av 1), .int (Av 2), .int (Av 3), .int (Av 4), .int (Av 5), .ref (Aa 1), .ref (Aa 2), .ref (Aa 3), .ref (Aa 4), .ref (Aa 5), .ref (Aa 6), .ref (Aa 7), .ref (Aa 8)])), ((Aa 1), .inl (tc 0, 10, .inl (Af 1))), ((Aa 2), .inl (tc 0, 10, .inl (Af 2))), ((Aa 3), .inl (tc 0, 6, .inl (Af 3))), ((Aa 4), .inl (tc 0, 6, .inl (Af 4))), ((Aa 5), .inl (tc 0, 6, .inl (Af 5))), ((Aa 6), .inl (tc 0, 6, .inl (Af 6))), ((Aa 7), .inl (tc 0, 6, .inl (Af 7))), ((Aa 8), .inl (tc 0, 6, .inl (Af 8)))] := hD
              refine lv_i2l (v := (r_22).toInt64) hx hb dX9_wordOf_107 rfl ?_
              exact retL (v := (r_22).toInt64) hx hb hr hlk hP hD hS () ⟨_, rfl, trivial⟩ [0, 1, 2, 3, 4, 5, 6, 7, 8] rfl rfl dX9_wordOf_108 (Nat.le_of_ble_eq_true rfl) (Nat.le_of_ble_eq_true rfl) rfl
            · skip
              by_cases c_24 : x_7 = 5
              · skip
                subst c_24
                refine lv_tableIn (off := 98) (tgt := 109) hx hb dX9_wordOf_11 (by decide) (by decide) (by decide) (by decide) ?_
                refine lv_aload_n hx hb dX9_wordOf_109 rfl (lv_at hl 0 rfl) ?_
                refine lv_aload_n hx hb dX9_wordOf_110 rfl (lv_at hl 0 rfl) ?_
                refine gf_X9_24 hx hb hts hown hK hP 0 rfl rfl dX9_wordOf_111 ?_
                refine lv_iconst (v := 1) hx hb dX9_wordOf_114 (by decide) ?_
                refine lv_iadd hx hb dX9_wordOf_115 ?_
                refine lv_topi (fun x_25 ex_25 => ?_)
                refine cV (a := (Aa 0)) (As := [.int x_25]) (rest := []) (wr := []) ⟨hx, hb, hml, hown, hts⟩ hK hX hA (cu_X9_stillOn l D tc sk (Aa 0) (Aa 1) (Aa 2) (Aa 3) (Aa 4) (Aa 5) (Aa 6) (Aa 7) (Aa 8) (Av 0) (Av 1) (Av 2) (Av 3) (Av 4) (Av 5) (Af 1) (Af 2) (Af 3) (Af 4) (Af 5) (Af 6) (Af 7) (Af 8) x_25) k_743 k_740 k_741 k_742 k_98 pl_X9_stillOn ⟨Nat.le_of_ble_eq_true rfl, Nat.le_of_ble_eq_true rfl⟩ rfl rfl (va_recv hK hP (ci := 9) (q0 := 0) rfl rfl) hP hD hS [0, 1, 2, 3, 4, 5, 6, 7, 8] [] rfl rfl rfl rfl rfl (by decide) rfl hl.1 rfl (Nat.le_of_ble_eq_true rfl) dX9_wordOf_116 ⟨Nat.le_of_ble_eq_true rfl, Nat.le_of_ble_eq_true rfl⟩ (fun v_26 u_27 H locs hv_28 hP hD hS => ?_)
                obtain ⟨r_29, rfl, he_30⟩ := hv_28
                have he_30 : (True) := he_30
                refine W.eq (g2 := F0 m 119 ls [.int r_29]) rfl ?_
                have hP : va_P D classes [((Aa 0), .inr (9, [.int (Av 0), .int (Av 1), .int (Av 2), .int (Av 3), .int (Av 4), .int (Av 5), .ref (Aa 1), .ref (Aa 2), .ref (Aa 3), .ref (Aa 4), .ref (Aa 5), .ref (Aa 6), .ref (Aa 7), .ref (Aa 8)])), ((Aa 1), .inl (tc 0, 10, .inl (Af 1))), ((Aa 2), .inl (tc 0, 10, .inl (Af 2))), ((Aa 3), .inl (tc 0, 6, .inl (Af 3))), ((Aa 4), .inl (tc 0, 6, .inl (Af 4))), ((Aa 5), .inl (tc 0, 6, .inl (Af 5))), ((Aa 6), .inl (tc 0, 6, .inl (Af 6))), ((Aa 7), .inl (tc 0, 6, .inl (Af 7))), ((Aa 8), .inl (tc 0, 6, .inl (Af 8)))] H := hP
                have hD : va_D A [((Aa 0), .inr (9, [.int (Av 0), .int (Av 1), .int (Av 2), .int (Av 3), .int (Av 4), .int (Av 5), .ref (Aa 1), .ref (Aa 2), .ref (Aa 3), .ref (Aa 4), .ref (Aa 5), .ref (Aa 6), .ref (Aa 7), .ref (Aa 8)])), ((Aa 1), .inl (tc 0, 10, .inl (Af 1))), ((Aa 2), .inl (tc 0, 10, .inl (Af 2))), ((Aa 3), .inl (tc 0, 6, .inl (Af 3))), ((Aa 4), .inl (tc 0, 6, .inl (Af 4))), ((Aa 5), .inl (tc 0, 6, .inl (Af 5))), ((Aa 6), .inl (tc 0, 6, .inl (Af 6))), ((Aa 7), .inl (tc 0, 6, .inl (Af 7))), ((Aa 8), .inl (tc 0, 6, .inl (Af 8)))] := hD
                refine lv_i2l (v := (r_29).toInt64) hx hb dX9_wordOf_119 rfl ?_
                exact retL (v := (r_29).toInt64) hx hb hr hlk hP hD hS () ⟨_, rfl, trivial⟩ [0, 1, 2, 3, 4, 5, 6, 7, 8] rfl rfl dX9_wordOf_120 (Nat.le_of_ble_eq_true rfl) (Nat.le_of_ble_eq_true rfl) rfl
              · skip
                by_cases c_31 : x_7 = 6
                · skip
                  subst c_31
                  refine lv_tableIn (off := 110) (tgt := 121) hx hb dX9_wordOf_11 (by decide) (by decide) (by decide) (by decide) ?_
                  refine lv_aload_n hx hb dX9_wordOf_121 rfl (lv_at hl 0 rfl) ?_
                  refine gf_X9_9 hx hb hts hown hK hP 0 rfl rfl dX9_wordOf_122 ?_
                  refine lv_i2l (v := ((Av 0)).toInt64) hx hb dX9_wordOf_125 rfl ?_
                  exact retL (v := ((Av 0)).toInt64) hx hb hr hlk hP hD hS () ⟨_, rfl, trivial⟩ [0, 1, 2, 3, 4, 5, 6, 7, 8] rfl rfl dX9_wordOf_126 (Nat.le_of_ble_eq_true rfl) (Nat.le_of_ble_eq_true rfl) rfl
                · skip
                  by_cases c_32 : x_7 = 7
                  · skip
                    subst c_32
                    refine lv_tableIn (off := 116) (tgt := 127) hx hb dX9_wordOf_11 (by decide) (by decide) (by decide) (by decide) ?_
                    refine lv_aload_n hx hb dX9_wordOf_127 rfl (lv_at hl 0 rfl) ?_
                    refine gf_X9_46 hx hb hts hown hK hP 0 rfl rfl dX9_wordOf_128 ?_
                    refine lv_iload_n hx hb dX9_wordOf_131 rfl (lv_at hl 2 rfl) ?_
                    have hi_33 : vp_in x2 6 := by
                      have z_1 : ¬ (r_4 : Int32).toInt = (0 : Int32).toInt := fun z => c_6 (Int32.toInt_inj.mp z)
                      have y_0 : (0 : Int32).toInt = 0 := by decide
                      refine vp_in_iff.mpr ⟨?_, ?_⟩ <;> omega
                    refine va_iald hx hb hK hP 6 0 rfl rfl hi_33 dX9_wordOf_132 ?_
                    refine lv_topi (fun x_34 ex_34 => ?_)
                    refine lv_i2l (v := (x_34).toInt64) hx hb dX9_wordOf_133 rfl ?_
                    exact retL (v := (x_34).toInt64) hx hb hr hlk hP hD hS () ⟨_, rfl, trivial⟩ [0, 1, 2, 3, 4, 5, 6, 7, 8] rfl rfl dX9_wordOf_134 (Nat.le_of_ble_eq_true rfl) (Nat.le_of_ble_eq_true rfl) rfl
                  · skip
                    by_cases c_35 : x_7 = 8
                    · skip
                      subst c_35
                      refine lv_tableIn (off := 124) (tgt := 135) hx hb dX9_wordOf_11 (by decide) (by decide) (by decide) (by decide) ?_
                      refine lv_aload_n hx hb dX9_wordOf_135 rfl (lv_at hl 0 rfl) ?_
                      refine gf_X9_49 hx hb hts hown hK hP 0 rfl rfl dX9_wordOf_136 ?_
                      refine lv_iload_n hx hb dX9_wordOf_139 rfl (lv_at hl 2 rfl) ?_
                      have hi_36 : vp_in x2 6 := by
                        have z_1 : ¬ (r_4 : Int32).toInt = (0 : Int32).toInt := fun z => c_6 (Int32.toInt_inj.mp z)
                        have y_0 : (0 : Int32).toInt = 0 := by decide
                        refine vp_in_iff.mpr ⟨?_, ?_⟩ <;> omega
                      refine va_iald hx hb hK hP 7 0 rfl rfl hi_36 dX9_wordOf_140 ?_
                      refine lv_topi (fun x_37 ex_37 => ?_)
                      refine lv_i2l (v := (x_37).toInt64) hx hb dX9_wordOf_141 rfl ?_
                      exact retL (v := (x_37).toInt64) hx hb hr hlk hP hD hS () ⟨_, rfl, trivial⟩ [0, 1, 2, 3, 4, 5, 6, 7, 8] rfl rfl dX9_wordOf_142 (Nat.le_of_ble_eq_true rfl) (Nat.le_of_ble_eq_true rfl) rfl
                    · skip
                      by_cases c_38 : x_7 = 9
                      · skip
                        subst c_38
                        refine lv_tableIn (off := 132) (tgt := 143) hx hb dX9_wordOf_11 (by decide) (by decide) (by decide) (by decide) ?_
                        refine lv_aload_n hx hb dX9_wordOf_143 rfl (lv_at hl 0 rfl) ?_
                        refine lv_iload_n hx hb dX9_wordOf_144 rfl (lv_at hl 2 rfl) ?_
                        refine cV (a := (Aa 0)) (As := [.int x2]) (rest := []) (wr := []) ⟨hx, hb, hml, hown, hts⟩ hK hX hA (cu_X9_daysSince l D tc sk (Aa 0) (Aa 1) (Aa 2) (Aa 3) (Aa 4) (Aa 5) (Aa 6) (Aa 7) (Aa 8) (Av 0) (Av 1) (Av 2) (Av 3) (Av 4) (Av 5) (Af 1) (Af 2) (Af 3) (Af 4) (Af 5) (Af 6) (Af 7) (Af 8) x2) k_706 k_762 k_704 k_705 k_98 pl_X9_daysSince ⟨Nat.le_of_ble_eq_true rfl, Nat.le_of_ble_eq_true rfl⟩ rfl rfl (va_recv hK hP (ci := 9) (q0 := 0) rfl rfl) hP hD hS [0, 1, 2, 3, 4, 5, 6, 7, 8] [] rfl rfl rfl rfl rfl (by decide) rfl hl.1 rfl (Nat.le_of_ble_eq_true rfl) dX9_wordOf_145 ⟨Nat.le_of_ble_eq_true rfl, Nat.le_of_ble_eq_true rfl⟩ (fun v_39 u_40 H locs hv_41 hP hD hS => ?_)
                        obtain ⟨r_42, rfl, he_43⟩ := hv_41
                        have he_43 : (True) := he_43
                        refine W.eq (g2 := F0 m 148 ls [.int r_42]) rfl ?_
                        have hP : va_P D classes [((Aa 0), .inr (9, [.int (Av 0), .int (Av 1), .int (Av 2), .int (Av 3), .int (Av 4), .int (Av 5), .ref (Aa 1), .ref (Aa 2), .ref (Aa 3), .ref (Aa 4), .ref (Aa 5), .ref (Aa 6), .ref (Aa 7), .ref (Aa 8)])), ((Aa 1), .inl (tc 0, 10, .inl (Af 1))), ((Aa 2), .inl (tc 0, 10, .inl (Af 2))), ((Aa 3), .inl (tc 0, 6, .inl (Af 3))), ((Aa 4), .inl (tc 0, 6, .inl (Af 4))), ((Aa 5), .inl (tc 0, 6, .inl (Af 5))), ((Aa 6), .inl (tc 0, 6, .inl (Af 6))), ((Aa 7), .inl (tc 0, 6, .inl (Af 7))), ((Aa 8), .inl (tc 0, 6, .inl (Af 8)))] H := hP
                        have hD : va_D A [((Aa 0), .inr (9, [.int (Av 0), .int (Av 1), .int (Av 2), .int (Av 3), .int (Av 4), .int (Av 5), .ref (Aa 1), .ref (Aa 2), .ref (Aa 3), .ref (Aa 4), .ref (Aa 5), .ref (Aa 6), .ref (Aa 7), .ref (Aa 8)])), ((Aa 1), .inl (tc 0, 10, .inl (Af 1))), ((Aa 2), .inl (tc 0, 10, .inl (Af 2))), ((Aa 3), .inl (tc 0, 6, .inl (Af 3))), ((Aa 4), .inl (tc 0, 6, .inl (Af 4))), ((Aa 5), .inl (tc 0, 6, .inl (Af 5))), ((Aa 6), .inl (tc 0, 6, .inl (Af 6))), ((Aa 7), .inl (tc 0, 6, .inl (Af 7))), ((Aa 8), .inl (tc 0, 6, .inl (Af 8)))] := hD
                        refine lv_i2l (v := (r_42).toInt64) hx hb dX9_wordOf_148 rfl ?_
                        exact retL (v := (r_42).toInt64) hx hb hr hlk hP hD hS () ⟨_, rfl, trivial⟩ [0, 1, 2, 3, 4, 5, 6, 7, 8] rfl rfl dX9_wordOf_149 (Nat.le_of_ble_eq_true rfl) (Nat.le_of_ble_eq_true rfl) rfl
                      · skip
                        by_cases c_44 : x_7 = 10
                        · skip
                          subst c_44
                          refine lv_tableIn (off := 139) (tgt := 150) hx hb dX9_wordOf_11 (by decide) (by decide) (by decide) (by decide) ?_
                          refine lv_aload_n hx hb dX9_wordOf_150 rfl (lv_at hl 0 rfl) ?_
                          refine gf_X9_27 hx hb hts hown hK hP 0 rfl rfl dX9_wordOf_151 ?_
                          refine lv_i2l (v := ((Av 5)).toInt64) hx hb dX9_wordOf_154 rfl ?_
                          exact retL (v := ((Av 5)).toInt64) hx hb hr hlk hP hD hS () ⟨_, rfl, trivial⟩ [0, 1, 2, 3, 4, 5, 6, 7, 8] rfl rfl dX9_wordOf_155 (Nat.le_of_ble_eq_true rfl) (Nat.le_of_ble_eq_true rfl) rfl
                        · skip
                          by_cases c_45 : x_7 = 11
                          · skip
                            subst c_45
                            refine lv_tableIn (off := 145) (tgt := 156) hx hb dX9_wordOf_11 (by decide) (by decide) (by decide) (by decide) ?_
                            refine lv_aload_n hx hb dX9_wordOf_156 rfl (lv_at hl 0 rfl) ?_
                            refine lv_aload_n hx hb dX9_wordOf_157 rfl (lv_at hl 0 rfl) ?_
                            refine gf_X9_24 hx hb hts hown hK hP 0 rfl rfl dX9_wordOf_158 ?_
                            refine cV (a := (Aa 0)) (As := [.int (Av 4)]) (rest := []) (wr := []) ⟨hx, hb, hml, hown, hts⟩ hK hX hA (cu_X9_clockOn l D tc sk (Aa 0) (Aa 1) (Aa 2) (Aa 3) (Aa 4) (Aa 5) (Aa 6) (Aa 7) (Aa 8) (Av 0) (Av 1) (Av 2) (Av 3) (Av 4) (Av 5) (Af 1) (Af 2) (Af 3) (Af 4) (Af 5) (Af 6) (Af 7) (Af 8) (Av 4)) k_747 k_744 k_745 k_746 k_98 pl_X9_clockOn ⟨Nat.le_of_ble_eq_true rfl, Nat.le_of_ble_eq_true rfl⟩ rfl rfl (va_recv hK hP (ci := 9) (q0 := 0) rfl rfl) hP hD hS [0, 1, 2, 3, 4, 5, 6, 7, 8] [] rfl rfl rfl rfl rfl (by decide) rfl hl.1 rfl (Nat.le_of_ble_eq_true rfl) dX9_wordOf_161 ⟨Nat.le_of_ble_eq_true rfl, Nat.le_of_ble_eq_true rfl⟩ (fun v_46 u_47 H locs hv_48 hP hD hS => ?_)
                            obtain ⟨r_49, rfl, he_50⟩ := hv_48
                            have he_50 : (True) := he_50
                            refine W.eq (g2 := F0 m 164 ls [.int r_49]) rfl ?_
                            have hP : va_P D classes [((Aa 0), .inr (9, [.int (Av 0), .int (Av 1), .int (Av 2), .int (Av 3), .int (Av 4), .int (Av 5), .ref (Aa 1), .ref (Aa 2), .ref (Aa 3), .ref (Aa 4), .ref (Aa 5), .ref (Aa 6), .ref (Aa 7), .ref (Aa 8)])), ((Aa 1), .inl (tc 0, 10, .inl (Af 1))), ((Aa 2), .inl (tc 0, 10, .inl (Af 2))), ((Aa 3), .inl (tc 0, 6, .inl (Af 3))), ((Aa 4), .inl (tc 0, 6, .inl (Af 4))), ((Aa 5), .inl (tc 0, 6, .inl (Af 5))), ((Aa 6), .inl (tc 0, 6, .inl (Af 6))), ((Aa 7), .inl (tc 0, 6, .inl (Af 7))), ((Aa 8), .inl (tc 0, 6, .inl (Af 8)))] H := hP
                            have hD : va_D A [((Aa 0), .inr (9, [.int (Av 0), .int (Av 1), .int (Av 2), .int (Av 3), .int (Av 4), .int (Av 5), .ref (Aa 1), .ref (Aa 2), .ref (Aa 3), .ref (Aa 4), .ref (Aa 5), .ref (Aa 6), .ref (Aa 7), .ref (Aa 8)])), ((Aa 1), .inl (tc 0, 10, .inl (Af 1))), ((Aa 2), .inl (tc 0, 10, .inl (Af 2))), ((Aa 3), .inl (tc 0, 6, .inl (Af 3))), ((Aa 4), .inl (tc 0, 6, .inl (Af 4))), ((Aa 5), .inl (tc 0, 6, .inl (Af 5))), ((Aa 6), .inl (tc 0, 6, .inl (Af 6))), ((Aa 7), .inl (tc 0, 6, .inl (Af 7))), ((Aa 8), .inl (tc 0, 6, .inl (Af 8)))] := hD
                            refine lv_i2l (v := (r_49).toInt64) hx hb dX9_wordOf_164 rfl ?_
                            exact retL (v := (r_49).toInt64) hx hb hr hlk hP hD hS () ⟨_, rfl, trivial⟩ [0, 1, 2, 3, 4, 5, 6, 7, 8] rfl rfl dX9_wordOf_165 (Nat.le_of_ble_eq_true rfl) (Nat.le_of_ble_eq_true rfl) rfl
                          · skip
                            have ho_51 : (x_7 : Int32).toInt < 0 ∨ 11 < (x_7 : Int32).toInt := by
                              have z_1 : ¬ (r_4 : Int32).toInt = (0 : Int32).toInt := fun z => c_6 (Int32.toInt_inj.mp z)
                              have z_2 : ¬ (x_7 : Int32).toInt = (0 : Int32).toInt := fun z => c_8 (Int32.toInt_inj.mp z)
                              have z_3 : ¬ (x_7 : Int32).toInt = (1 : Int32).toInt := fun z => c_9 (Int32.toInt_inj.mp z)
                              have z_4 : ¬ (x_7 : Int32).toInt = (2 : Int32).toInt := fun z => c_12 (Int32.toInt_inj.mp z)
                              have z_5 : ¬ (x_7 : Int32).toInt = (3 : Int32).toInt := fun z => c_15 (Int32.toInt_inj.mp z)
                              have z_6 : ¬ (x_7 : Int32).toInt = (4 : Int32).toInt := fun z => c_18 (Int32.toInt_inj.mp z)
                              have z_7 : ¬ (x_7 : Int32).toInt = (5 : Int32).toInt := fun z => c_24 (Int32.toInt_inj.mp z)
                              have z_8 : ¬ (x_7 : Int32).toInt = (6 : Int32).toInt := fun z => c_31 (Int32.toInt_inj.mp z)
                              have z_9 : ¬ (x_7 : Int32).toInt = (7 : Int32).toInt := fun z => c_32 (Int32.toInt_inj.mp z)
                              have z_10 : ¬ (x_7 : Int32).toInt = (8 : Int32).toInt := fun z => c_35 (Int32.toInt_inj.mp z)
                              have z_11 : ¬ (x_7 : Int32).toInt = (9 : Int32).toInt := fun z => c_38 (Int32.toInt_inj.mp z)
                              have z_12 : ¬ (x_7 : Int32).toInt = (10 : Int32).toInt := fun z => c_44 (Int32.toInt_inj.mp z)
                              have z_13 : ¬ (x_7 : Int32).toInt = (11 : Int32).toInt := fun z => c_45 (Int32.toInt_inj.mp z)
                              have y_0 : (0 : Int32).toInt = 0 := by decide
                              have y_1 : (1 : Int32).toInt = 1 := by decide
                              have y_2 : (2 : Int32).toInt = 2 := by decide
                              have y_3 : (3 : Int32).toInt = 3 := by decide
                              have y_4 : (4 : Int32).toInt = 4 := by decide
                              have y_5 : (5 : Int32).toInt = 5 := by decide
                              have y_6 : (6 : Int32).toInt = 6 := by decide
                              have y_7 : (7 : Int32).toInt = 7 := by decide
                              have y_8 : (8 : Int32).toInt = 8 := by decide
                              have y_9 : (9 : Int32).toInt = 9 := by decide
                              have y_10 : (10 : Int32).toInt = 10 := by decide
                              have y_11 : (11 : Int32).toInt = 11 := by decide
                              omega
                            refine lv_tableOut (tgt := 166) hx hb dX9_wordOf_11 ho_51 (by decide) ?_
                            refine lv_aload_n hx hb dX9_wordOf_166 rfl (lv_at hl 0 rfl) ?_
                            refine gf_X9_24 hx hb hts hown hK hP 0 rfl rfl dX9_wordOf_167 ?_
                            refine lv_i2l (v := ((Av 4)).toInt64) hx hb dX9_wordOf_170 rfl ?_
                            exact retL (v := ((Av 4)).toInt64) hx hb hr hlk hP hD hS () ⟨_, rfl, trivial⟩ [0, 1, 2, 3, 4, 5, 6, 7, 8] rfl rfl dX9_wordOf_171 (Nat.le_of_ble_eq_true rfl) (Nat.le_of_ble_eq_true rfl) rfl
  · skip
    refine lv_lconst (v := 0) hx hb dX9_wordOf_8 (by decide) ?_
    exact retL (v := 0) hx hb hr hlk hP hD hS () ⟨_, rfl, trivial⟩ [0, 1, 2, 3, 4, 5, 6, 7, 8] rfl rfl dX9_wordOf_9 (Nat.le_of_ble_eq_true rfl) (Nat.le_of_ble_eq_true rfl) rfl
set_option maxRecDepth 100000 in
theorem cu_X9_wordOf (l : Launch) (D : va_G) (tc : Nat → ClassId) (sk : (Nat → Nat) × (Nat → Nat)) (Aa_0 : Nat) (Aa_1 : Nat) (Aa_2 : Nat) (Aa_3 : Nat) (Aa_4 : Nat) (Aa_5 : Nat) (Aa_6 : Nat) (Aa_7 : Nat) (Aa_8 : Nat) (Av_0 : Int32) (Av_1 : Int32) (Av_2 : Int32) (Av_3 : Int32) (Av_4 : Int32) (Av_5 : Int32) (Af_1 : Nat → Int32) (Af_2 : Nat → Int32) (Af_3 : Nat → Int32) (Af_4 : Nat → Int32) (Af_5 : Nat → Int32) (Af_6 : Nat → Int32) (Af_7 : Nat → Int32) (Af_8 : Nat → Int32) (x1 : Int32) (x2 : Int32)  : Ct l yX9_wordOf cX9_wordOf 3 (some .long) { frames := 2, cells := 0, slots := 0, locals := 42 } D tc sk [.ref Aa_0, .int x1, .int x2] [(Aa_0, .inr (9, [.int Av_0, .int Av_1, .int Av_2, .int Av_3, .int Av_4, .int Av_5, .ref Aa_1, .ref Aa_2, .ref Aa_3, .ref Aa_4, .ref Aa_5, .ref Aa_6, .ref Aa_7, .ref Aa_8])), (Aa_1, .inl (tc 0, 10, .inl Af_1)), (Aa_2, .inl (tc 0, 10, .inl Af_2)), (Aa_3, .inl (tc 0, 6, .inl Af_3)), (Aa_4, .inl (tc 0, 6, .inl Af_4)), (Aa_5, .inl (tc 0, 6, .inl Af_5)), (Aa_6, .inl (tc 0, 6, .inl Af_6)), (Aa_7, .inl (tc 0, 6, .inl Af_7)), (Aa_8, .inl (tc 0, 6, .inl Af_8))] (fun (v : Option Value) (_ : Unit) => ∃ r : Int64, v = some (.long r) ∧ (True)) (fun (_ : Unit) => [(Aa_0, .inr (9, [.int Av_0, .int Av_1, .int Av_2, .int Av_3, .int Av_4, .int Av_5, .ref Aa_1, .ref Aa_2, .ref Aa_3, .ref Aa_4, .ref Aa_5, .ref Aa_6, .ref Aa_7, .ref Aa_8])), (Aa_1, .inl (tc 0, 10, .inl Af_1)), (Aa_2, .inl (tc 0, 10, .inl Af_2)), (Aa_3, .inl (tc 0, 6, .inl Af_3)), (Aa_4, .inl (tc 0, 6, .inl Af_4)), (Aa_5, .inl (tc 0, 6, .inl Af_5)), (Aa_6, .inl (tc 0, 6, .inl Af_6)), (Aa_7, .inl (tc 0, 6, .inl Af_7)), (Aa_8, .inl (tc 0, 6, .inl Af_8))]) 0 0 :=
  ct_X9_wordOf l D tc sk (fun k => ([Aa_0, Aa_1, Aa_2, Aa_3, Aa_4, Aa_5, Aa_6, Aa_7, Aa_8] : List (Nat)).getD k 0) (fun k => ([Av_0, Av_1, Av_2, Av_3, Av_4, Av_5] : List (Int32)).getD k 0) (fun k => ([(fun _ => 0), Af_1, Af_2, Af_3, Af_4, Af_5, Af_6, Af_7, Af_8] : List (Nat → Int32)).getD k (fun _ => 0)) x1 x2 
set_option maxHeartbeats 4000000 in
set_option maxRecDepth 100000 in
theorem ct_X9_handOver (l : Launch) (D : va_G) (tc : Nat → ClassId) (sk : (Nat → Nat) × (Nat → Nat)) (Aa : Nat → Nat) (Av : Nat → Int32) (Af : Nat → Nat → Int32) (x1 : Int32)  : Ct l yX9_handOver cX9_handOver 2 none { frames := 1, cells := 0, slots := 0, locals := 21 } D tc sk [.ref (Aa 0), .int x1] [((Aa 0), .inr (9, [.int (Av 0), .int (Av 1), .int (Av 2), .int (Av 3), .int (Av 4), .int (Av 5), .ref (Aa 1), .ref (Aa 2), .ref (Aa 3), .ref (Aa 4), .ref (Aa 5), .ref (Aa 6), .ref (Aa 7), .ref (Aa 8)])), ((Aa 1), .inl (tc 0, 10, .inl (Af 1))), ((Aa 2), .inl (tc 0, 10, .inl (Af 2))), ((Aa 3), .inl (tc 0, 6, .inl (Af 3))), ((Aa 4), .inl (tc 0, 6, .inl (Af 4))), ((Aa 5), .inl (tc 0, 6, .inl (Af 5))), ((Aa 6), .inl (tc 0, 6, .inl (Af 6))), ((Aa 7), .inl (tc 0, 6, .inl (Af 7))), ((Aa 8), .inl (tc 0, 6, .inl (Af 8)))] (fun (v : Option Value) (u : (Int32) × (Int32) × (Nat → Int32) × (Nat → Int32) × (Nat → Int32)) => match u with | (o1, o2, o3, o4, o5) => v = none) (fun (u : (Int32) × (Int32) × (Nat → Int32) × (Nat → Int32) × (Nat → Int32)) => match u with | (o1, o2, o3, o4, o5) => [((Aa 0), .inr (9, [.int o1, .int (Av 1), .int (Av 2), .int (Av 3), .int (Av 4), .int o2, .ref (Aa 1), .ref (Aa 2), .ref (Aa 3), .ref (Aa 4), .ref (Aa 5), .ref (Aa 6), .ref (Aa 7), .ref (Aa 8)])), ((Aa 1), .inl (tc 0, 10, .inl (Af 1))), ((Aa 2), .inl (tc 0, 10, .inl (Af 2))), ((Aa 3), .inl (tc 0, 6, .inl o3)), ((Aa 4), .inl (tc 0, 6, .inl (Af 4))), ((Aa 5), .inl (tc 0, 6, .inl (Af 5))), ((Aa 6), .inl (tc 0, 6, .inl o4)), ((Aa 7), .inl (tc 0, 6, .inl (Af 7))), ((Aa 8), .inl (tc 0, 6, .inl o5))]) 0 0 := by
  refine Ct.start (by decide) (Nat.le_of_ble_eq_true rfl) (fun p e s m below meth c A ls hx hb hr hlk hin hml hown hts hK hX hP hD hA hl hS => ?_)
  have hl : lv_has ls 2 [(0, .ref (Aa 0)), (1, .int x1)] := hl
  refine lv_aload_n hx hb dX9_handOver_0 rfl (lv_at hl 0 rfl) ?_
  refine lv_iload_n hx hb dX9_handOver_1 rfl (lv_at hl 1 rfl) ?_
  refine cV (a := (Aa 0)) (As := [.int x1]) (rest := []) (wr := []) ⟨hx, hb, hml, hown, hts⟩ hK hX hA (cu_X9_hasBuyer l D tc sk (Aa 0) (Aa 1) (Aa 2) (Aa 3) (Aa 4) (Aa 5) (Aa 6) (Aa 7) (Aa 8) (Av 0) (Av 1) (Av 2) (Av 3) (Av 4) (Av 5) (Af 1) (Af 2) (Af 3) (Af 4) (Af 5) (Af 6) (Af 7) (Af 8) x1) k_591 k_707 k_589 k_590 k_98 pl_X9_hasBuyer ⟨Nat.le_of_ble_eq_true rfl, Nat.le_of_ble_eq_true rfl⟩ rfl rfl (va_recv hK hP (ci := 9) (q0 := 0) rfl rfl) hP hD hS [0, 1, 2, 3, 4, 5, 6, 7, 8] [] rfl rfl rfl rfl rfl (by decide) rfl hl.1 rfl (Nat.le_of_ble_eq_true rfl) dX9_handOver_2 ⟨Nat.le_of_ble_eq_true rfl, Nat.le_of_ble_eq_true rfl⟩ (fun v_1 u_2 H locs hv_3 hP hD hS => ?_)
  obtain ⟨r_4, rfl, he_5⟩ := hv_3
  have he_5 : ((r_4.toInt = 0 ∨ (r_4.toInt = 1 ∧ 0 ≤ x1.toInt ∧ x1.toInt < 6 ∧ x1.toInt < (Av 3).toInt))) := he_5
  refine W.eq (g2 := F0 m 5 ls [.int r_4]) rfl ?_
  have hP : va_P D classes [((Aa 0), .inr (9, [.int (Av 0), .int (Av 1), .int (Av 2), .int (Av 3), .int (Av 4), .int (Av 5), .ref (Aa 1), .ref (Aa 2), .ref (Aa 3), .ref (Aa 4), .ref (Aa 5), .ref (Aa 6), .ref (Aa 7), .ref (Aa 8)])), ((Aa 1), .inl (tc 0, 10, .inl (Af 1))), ((Aa 2), .inl (tc 0, 10, .inl (Af 2))), ((Aa 3), .inl (tc 0, 6, .inl (Af 3))), ((Aa 4), .inl (tc 0, 6, .inl (Af 4))), ((Aa 5), .inl (tc 0, 6, .inl (Af 5))), ((Aa 6), .inl (tc 0, 6, .inl (Af 6))), ((Aa 7), .inl (tc 0, 6, .inl (Af 7))), ((Aa 8), .inl (tc 0, 6, .inl (Af 8)))] H := hP
  have hD : va_D A [((Aa 0), .inr (9, [.int (Av 0), .int (Av 1), .int (Av 2), .int (Av 3), .int (Av 4), .int (Av 5), .ref (Aa 1), .ref (Aa 2), .ref (Aa 3), .ref (Aa 4), .ref (Aa 5), .ref (Aa 6), .ref (Aa 7), .ref (Aa 8)])), ((Aa 1), .inl (tc 0, 10, .inl (Af 1))), ((Aa 2), .inl (tc 0, 10, .inl (Af 2))), ((Aa 3), .inl (tc 0, 6, .inl (Af 3))), ((Aa 4), .inl (tc 0, 6, .inl (Af 4))), ((Aa 5), .inl (tc 0, 6, .inl (Af 5))), ((Aa 6), .inl (tc 0, 6, .inl (Af 6))), ((Aa 7), .inl (tc 0, 6, .inl (Af 7))), ((Aa 8), .inl (tc 0, 6, .inl (Af 8)))] := hD
  refine lv_if_ne (tgt := 9) hx hb dX9_handOver_5 (by decide) (fun c_6 => ?_) (fun c_6 => ?_)
  · skip
    refine lv_aload_n hx hb dX9_handOver_9 rfl (lv_at hl 0 rfl) ?_
    refine lv_dup hx hb dX9_handOver_10 rfl ?_
    refine gf_X9_9 hx hb hts hown hK hP 0 rfl rfl dX9_handOver_11 ?_
    refine lv_aload_n hx hb dX9_handOver_14 rfl (lv_at hl 0 rfl) ?_
    refine gf_X9_40 hx hb hts hown hK hP 0 rfl rfl dX9_handOver_15 ?_
    refine lv_iload_n hx hb dX9_handOver_18 rfl (lv_at hl 1 rfl) ?_
    have hi_7 : vp_in x1 6 := by
      have z_1 : ¬ (r_4 : Int32).toInt = (0 : Int32).toInt := fun z => c_6 (Int32.toInt_inj.mp z)
      have y_0 : (0 : Int32).toInt = 0 := by decide
      refine vp_in_iff.mpr ⟨?_, ?_⟩ <;> omega
    refine va_iald hx hb hK hP 4 0 rfl rfl hi_7 dX9_handOver_19 ?_
    refine lv_topi (fun x_8 ex_8 => ?_)
    refine lv_isub hx hb dX9_handOver_20 ?_
    refine lv_topi (fun x_9 ex_9 => ?_)
    refine pf_X9_9 hx hb hts hown hK hP hD hS 0 rfl (Nat.le_of_ble_eq_true rfl) rfl rfl dX9_handOver_21 (fun H locs hP hD hS => ?_)
    have hP : va_P D classes [((Aa 0), .inr (9, [.int x_9, .int (Av 1), .int (Av 2), .int (Av 3), .int (Av 4), .int (Av 5), .ref (Aa 1), .ref (Aa 2), .ref (Aa 3), .ref (Aa 4), .ref (Aa 5), .ref (Aa 6), .ref (Aa 7), .ref (Aa 8)])), ((Aa 1), .inl (tc 0, 10, .inl (Af 1))), ((Aa 2), .inl (tc 0, 10, .inl (Af 2))), ((Aa 3), .inl (tc 0, 6, .inl (Af 3))), ((Aa 4), .inl (tc 0, 6, .inl (Af 4))), ((Aa 5), .inl (tc 0, 6, .inl (Af 5))), ((Aa 6), .inl (tc 0, 6, .inl (Af 6))), ((Aa 7), .inl (tc 0, 6, .inl (Af 7))), ((Aa 8), .inl (tc 0, 6, .inl (Af 8)))] H := hP
    have hD : va_D A [((Aa 0), .inr (9, [.int x_9, .int (Av 1), .int (Av 2), .int (Av 3), .int (Av 4), .int (Av 5), .ref (Aa 1), .ref (Aa 2), .ref (Aa 3), .ref (Aa 4), .ref (Aa 5), .ref (Aa 6), .ref (Aa 7), .ref (Aa 8)])), ((Aa 1), .inl (tc 0, 10, .inl (Af 1))), ((Aa 2), .inl (tc 0, 10, .inl (Af 2))), ((Aa 3), .inl (tc 0, 6, .inl (Af 3))), ((Aa 4), .inl (tc 0, 6, .inl (Af 4))), ((Aa 5), .inl (tc 0, 6, .inl (Af 5))), ((Aa 6), .inl (tc 0, 6, .inl (Af 6))), ((Aa 7), .inl (tc 0, 6, .inl (Af 7))), ((Aa 8), .inl (tc 0, 6, .inl (Af 8)))] := hD
    refine lv_aload_n hx hb dX9_handOver_24 rfl (lv_at hl 0 rfl) ?_
    refine gf_X9_37 hx hb hts hown hK hP 0 rfl rfl dX9_handOver_25 ?_
    refine lv_iload_n hx hb dX9_handOver_28 rfl (lv_at hl 1 rfl) ?_
    refine lv_iconst (v := 0) hx hb dX9_handOver_29 (by decide) ?_
    refine lv_aload_n hx hb dX9_handOver_30 rfl (lv_at hl 0 rfl) ?_
    refine gf_X9_37 hx hb hts hown hK hP 0 rfl rfl dX9_handOver_31 ?_
    refine lv_iload_n hx hb dX9_handOver_34 rfl (lv_at hl 1 rfl) ?_
    have hi_10 : vp_in x1 6 := by
      have z_1 : ¬ (r_4 : Int32).toInt = (0 : Int32).toInt := fun z => c_6 (Int32.toInt_inj.mp z)
      have y_0 : (0 : Int32).toInt = 0 := by decide
      refine vp_in_iff.mpr ⟨?_, ?_⟩ <;> omega
    refine va_iald hx hb hK hP 3 0 rfl rfl hi_10 dX9_handOver_35 ?_
    refine lv_topi (fun x_11 ex_11 => ?_)
    refine lv_bipush (v := 6) hx hb dX9_handOver_36 (by decide) ?_
    refine lv_isub hx hb dX9_handOver_38 ?_
    refine lv_topi (fun x_12 ex_12 => ?_)
    refine va_mmax hx hb (hml.trans hl.1.symm) hown (hts _ k_773) (hts _ k_774) (hts _ k_114) (hts _ k_775) (Nat.le_of_ble_eq_true rfl) (Nat.le_of_ble_eq_true rfl) (Nat.le_of_ble_eq_true rfl) (Nat.le_of_ble_eq_true rfl) dX9_handOver_39 ?_
    refine lv_topi (fun x_13 ex_13 => ?_)
    have mx_13 := imax_f ex_13
    rw [show (0 : Int32).toInt = 0 by decide] at mx_13
    have hi_14 : vp_in x1 6 := by
      have z_1 : ¬ (r_4 : Int32).toInt = (0 : Int32).toInt := fun z => c_6 (Int32.toInt_inj.mp z)
      have y_0 : (0 : Int32).toInt = 0 := by decide
      refine vp_in_iff.mpr ⟨?_, ?_⟩ <;> omega
    refine st_int hx hb hK hP hD hS 3 0 rfl rfl hi_14 dX9_handOver_42 (fun g_15 H locs eg_15 hP hD hS => ?_)
    have hP : va_P D classes [((Aa 0), .inr (9, [.int x_9, .int (Av 1), .int (Av 2), .int (Av 3), .int (Av 4), .int (Av 5), .ref (Aa 1), .ref (Aa 2), .ref (Aa 3), .ref (Aa 4), .ref (Aa 5), .ref (Aa 6), .ref (Aa 7), .ref (Aa 8)])), ((Aa 1), .inl (tc 0, 10, .inl (Af 1))), ((Aa 2), .inl (tc 0, 10, .inl (Af 2))), ((Aa 3), .inl (tc 0, 6, .inl g_15)), ((Aa 4), .inl (tc 0, 6, .inl (Af 4))), ((Aa 5), .inl (tc 0, 6, .inl (Af 5))), ((Aa 6), .inl (tc 0, 6, .inl (Af 6))), ((Aa 7), .inl (tc 0, 6, .inl (Af 7))), ((Aa 8), .inl (tc 0, 6, .inl (Af 8)))] H := hP
    have hD : va_D A [((Aa 0), .inr (9, [.int x_9, .int (Av 1), .int (Av 2), .int (Av 3), .int (Av 4), .int (Av 5), .ref (Aa 1), .ref (Aa 2), .ref (Aa 3), .ref (Aa 4), .ref (Aa 5), .ref (Aa 6), .ref (Aa 7), .ref (Aa 8)])), ((Aa 1), .inl (tc 0, 10, .inl (Af 1))), ((Aa 2), .inl (tc 0, 10, .inl (Af 2))), ((Aa 3), .inl (tc 0, 6, .inl g_15)), ((Aa 4), .inl (tc 0, 6, .inl (Af 4))), ((Aa 5), .inl (tc 0, 6, .inl (Af 5))), ((Aa 6), .inl (tc 0, 6, .inl (Af 6))), ((Aa 7), .inl (tc 0, 6, .inl (Af 7))), ((Aa 8), .inl (tc 0, 6, .inl (Af 8)))] := hD
    refine lv_aload_n hx hb dX9_handOver_43 rfl (lv_at hl 0 rfl) ?_
    refine gf_X9_46 hx hb hts hown hK hP 0 rfl rfl dX9_handOver_44 ?_
    refine lv_iload_n hx hb dX9_handOver_47 rfl (lv_at hl 1 rfl) ?_
    refine lv_dup2_11 hx hb dX9_handOver_48 rfl rfl ?_
    have hi_16 : vp_in x1 6 := by
      have z_1 : ¬ (r_4 : Int32).toInt = (0 : Int32).toInt := fun z => c_6 (Int32.toInt_inj.mp z)
      have y_0 : (0 : Int32).toInt = 0 := by decide
      refine vp_in_iff.mpr ⟨?_, ?_⟩ <;> omega
    refine va_iald hx hb hK hP 6 0 rfl rfl hi_16 dX9_handOver_49 ?_
    refine lv_topi (fun x_17 ex_17 => ?_)
    refine lv_aload_n hx hb dX9_handOver_50 rfl (lv_at hl 0 rfl) ?_
    refine gf_X9_40 hx hb hts hown hK hP 0 rfl rfl dX9_handOver_51 ?_
    refine lv_iload_n hx hb dX9_handOver_54 rfl (lv_at hl 1 rfl) ?_
    have hi_18 : vp_in x1 6 := by
      have z_1 : ¬ (r_4 : Int32).toInt = (0 : Int32).toInt := fun z => c_6 (Int32.toInt_inj.mp z)
      have y_0 : (0 : Int32).toInt = 0 := by decide
      refine vp_in_iff.mpr ⟨?_, ?_⟩ <;> omega
    refine va_iald hx hb hK hP 4 0 rfl rfl hi_18 dX9_handOver_55 ?_
    refine lv_topi (fun x_19 ex_19 => ?_)
    refine lv_iadd hx hb dX9_handOver_56 ?_
    refine lv_topi (fun x_20 ex_20 => ?_)
    have hi_21 : vp_in x1 6 := by
      have z_1 : ¬ (r_4 : Int32).toInt = (0 : Int32).toInt := fun z => c_6 (Int32.toInt_inj.mp z)
      have y_0 : (0 : Int32).toInt = 0 := by decide
      refine vp_in_iff.mpr ⟨?_, ?_⟩ <;> omega
    refine st_int hx hb hK hP hD hS 6 0 rfl rfl hi_21 dX9_handOver_57 (fun g_22 H locs eg_22 hP hD hS => ?_)
    have hP : va_P D classes [((Aa 0), .inr (9, [.int x_9, .int (Av 1), .int (Av 2), .int (Av 3), .int (Av 4), .int (Av 5), .ref (Aa 1), .ref (Aa 2), .ref (Aa 3), .ref (Aa 4), .ref (Aa 5), .ref (Aa 6), .ref (Aa 7), .ref (Aa 8)])), ((Aa 1), .inl (tc 0, 10, .inl (Af 1))), ((Aa 2), .inl (tc 0, 10, .inl (Af 2))), ((Aa 3), .inl (tc 0, 6, .inl g_15)), ((Aa 4), .inl (tc 0, 6, .inl (Af 4))), ((Aa 5), .inl (tc 0, 6, .inl (Af 5))), ((Aa 6), .inl (tc 0, 6, .inl g_22)), ((Aa 7), .inl (tc 0, 6, .inl (Af 7))), ((Aa 8), .inl (tc 0, 6, .inl (Af 8)))] H := hP
    have hD : va_D A [((Aa 0), .inr (9, [.int x_9, .int (Av 1), .int (Av 2), .int (Av 3), .int (Av 4), .int (Av 5), .ref (Aa 1), .ref (Aa 2), .ref (Aa 3), .ref (Aa 4), .ref (Aa 5), .ref (Aa 6), .ref (Aa 7), .ref (Aa 8)])), ((Aa 1), .inl (tc 0, 10, .inl (Af 1))), ((Aa 2), .inl (tc 0, 10, .inl (Af 2))), ((Aa 3), .inl (tc 0, 6, .inl g_15)), ((Aa 4), .inl (tc 0, 6, .inl (Af 4))), ((Aa 5), .inl (tc 0, 6, .inl (Af 5))), ((Aa 6), .inl (tc 0, 6, .inl g_22)), ((Aa 7), .inl (tc 0, 6, .inl (Af 7))), ((Aa 8), .inl (tc 0, 6, .inl (Af 8)))] := hD
    refine lv_aload_n hx hb dX9_handOver_58 rfl (lv_at hl 0 rfl) ?_
    refine lv_dup hx hb dX9_handOver_59 rfl ?_
    refine gf_X9_27 hx hb hts hown hK hP 0 rfl rfl dX9_handOver_60 ?_
    refine lv_aload_n hx hb dX9_handOver_63 rfl (lv_at hl 0 rfl) ?_
    refine gf_X9_40 hx hb hts hown hK hP 0 rfl rfl dX9_handOver_64 ?_
    refine lv_iload_n hx hb dX9_handOver_67 rfl (lv_at hl 1 rfl) ?_
    have hi_23 : vp_in x1 6 := by
      have z_1 : ¬ (r_4 : Int32).toInt = (0 : Int32).toInt := fun z => c_6 (Int32.toInt_inj.mp z)
      have y_0 : (0 : Int32).toInt = 0 := by decide
      refine vp_in_iff.mpr ⟨?_, ?_⟩ <;> omega
    refine va_iald hx hb hK hP 4 0 rfl rfl hi_23 dX9_handOver_68 ?_
    refine lv_topi (fun x_24 ex_24 => ?_)
    refine lv_iadd hx hb dX9_handOver_69 ?_
    refine lv_topi (fun x_25 ex_25 => ?_)
    refine pf_X9_27 hx hb hts hown hK hP hD hS 0 rfl (Nat.le_of_ble_eq_true rfl) rfl rfl dX9_handOver_70 (fun H locs hP hD hS => ?_)
    have hP : va_P D classes [((Aa 0), .inr (9, [.int x_9, .int (Av 1), .int (Av 2), .int (Av 3), .int (Av 4), .int x_25, .ref (Aa 1), .ref (Aa 2), .ref (Aa 3), .ref (Aa 4), .ref (Aa 5), .ref (Aa 6), .ref (Aa 7), .ref (Aa 8)])), ((Aa 1), .inl (tc 0, 10, .inl (Af 1))), ((Aa 2), .inl (tc 0, 10, .inl (Af 2))), ((Aa 3), .inl (tc 0, 6, .inl g_15)), ((Aa 4), .inl (tc 0, 6, .inl (Af 4))), ((Aa 5), .inl (tc 0, 6, .inl (Af 5))), ((Aa 6), .inl (tc 0, 6, .inl g_22)), ((Aa 7), .inl (tc 0, 6, .inl (Af 7))), ((Aa 8), .inl (tc 0, 6, .inl (Af 8)))] H := hP
    have hD : va_D A [((Aa 0), .inr (9, [.int x_9, .int (Av 1), .int (Av 2), .int (Av 3), .int (Av 4), .int x_25, .ref (Aa 1), .ref (Aa 2), .ref (Aa 3), .ref (Aa 4), .ref (Aa 5), .ref (Aa 6), .ref (Aa 7), .ref (Aa 8)])), ((Aa 1), .inl (tc 0, 10, .inl (Af 1))), ((Aa 2), .inl (tc 0, 10, .inl (Af 2))), ((Aa 3), .inl (tc 0, 6, .inl g_15)), ((Aa 4), .inl (tc 0, 6, .inl (Af 4))), ((Aa 5), .inl (tc 0, 6, .inl (Af 5))), ((Aa 6), .inl (tc 0, 6, .inl g_22)), ((Aa 7), .inl (tc 0, 6, .inl (Af 7))), ((Aa 8), .inl (tc 0, 6, .inl (Af 8)))] := hD
    refine lv_aload_n hx hb dX9_handOver_73 rfl (lv_at hl 0 rfl) ?_
    refine gf_X9_52 hx hb hts hown hK hP 0 rfl rfl dX9_handOver_74 ?_
    refine lv_iload_n hx hb dX9_handOver_77 rfl (lv_at hl 1 rfl) ?_
    refine lv_aload_n hx hb dX9_handOver_78 rfl (lv_at hl 0 rfl) ?_
    refine gf_X9_24 hx hb hts hown hK hP 0 rfl rfl dX9_handOver_79 ?_
    have hi_26 : vp_in x1 6 := by
      have z_1 : ¬ (r_4 : Int32).toInt = (0 : Int32).toInt := fun z => c_6 (Int32.toInt_inj.mp z)
      have y_0 : (0 : Int32).toInt = 0 := by decide
      refine vp_in_iff.mpr ⟨?_, ?_⟩ <;> omega
    refine st_int hx hb hK hP hD hS 8 0 rfl rfl hi_26 dX9_handOver_82 (fun g_27 H locs eg_27 hP hD hS => ?_)
    have hP : va_P D classes [((Aa 0), .inr (9, [.int x_9, .int (Av 1), .int (Av 2), .int (Av 3), .int (Av 4), .int x_25, .ref (Aa 1), .ref (Aa 2), .ref (Aa 3), .ref (Aa 4), .ref (Aa 5), .ref (Aa 6), .ref (Aa 7), .ref (Aa 8)])), ((Aa 1), .inl (tc 0, 10, .inl (Af 1))), ((Aa 2), .inl (tc 0, 10, .inl (Af 2))), ((Aa 3), .inl (tc 0, 6, .inl g_15)), ((Aa 4), .inl (tc 0, 6, .inl (Af 4))), ((Aa 5), .inl (tc 0, 6, .inl (Af 5))), ((Aa 6), .inl (tc 0, 6, .inl g_22)), ((Aa 7), .inl (tc 0, 6, .inl (Af 7))), ((Aa 8), .inl (tc 0, 6, .inl g_27))] H := hP
    have hD : va_D A [((Aa 0), .inr (9, [.int x_9, .int (Av 1), .int (Av 2), .int (Av 3), .int (Av 4), .int x_25, .ref (Aa 1), .ref (Aa 2), .ref (Aa 3), .ref (Aa 4), .ref (Aa 5), .ref (Aa 6), .ref (Aa 7), .ref (Aa 8)])), ((Aa 1), .inl (tc 0, 10, .inl (Af 1))), ((Aa 2), .inl (tc 0, 10, .inl (Af 2))), ((Aa 3), .inl (tc 0, 6, .inl g_15)), ((Aa 4), .inl (tc 0, 6, .inl (Af 4))), ((Aa 5), .inl (tc 0, 6, .inl (Af 5))), ((Aa 6), .inl (tc 0, 6, .inl g_22)), ((Aa 7), .inl (tc 0, 6, .inl (Af 7))), ((Aa 8), .inl (tc 0, 6, .inl g_27))] := hD
    exact retV hx hb hr hlk hP hD hS (x_9, x_25, g_15, g_22, g_27) rfl [0, 1, 2, 3, 4, 5, 6, 7, 8] rfl rfl dX9_handOver_83 (Nat.le_of_ble_eq_true rfl) (Nat.le_of_ble_eq_true rfl) rfl
  · skip
    exact retV hx hb hr hlk hP hD hS ((Av 0), (Av 5), (Af 3), (Af 6), (Af 8)) rfl [0, 1, 2, 3, 4, 5, 6, 7, 8] rfl rfl dX9_handOver_8 (Nat.le_of_ble_eq_true rfl) (Nat.le_of_ble_eq_true rfl) rfl
set_option maxRecDepth 100000 in
theorem cu_X9_handOver (l : Launch) (D : va_G) (tc : Nat → ClassId) (sk : (Nat → Nat) × (Nat → Nat)) (Aa_0 : Nat) (Aa_1 : Nat) (Aa_2 : Nat) (Aa_3 : Nat) (Aa_4 : Nat) (Aa_5 : Nat) (Aa_6 : Nat) (Aa_7 : Nat) (Aa_8 : Nat) (Av_0 : Int32) (Av_1 : Int32) (Av_2 : Int32) (Av_3 : Int32) (Av_4 : Int32) (Av_5 : Int32) (Af_1 : Nat → Int32) (Af_2 : Nat → Int32) (Af_3 : Nat → Int32) (Af_4 : Nat → Int32) (Af_5 : Nat → Int32) (Af_6 : Nat → Int32) (Af_7 : Nat → Int32) (Af_8 : Nat → Int32) (x1 : Int32)  : Ct l yX9_handOver cX9_handOver 2 none { frames := 1, cells := 0, slots := 0, locals := 21 } D tc sk [.ref Aa_0, .int x1] [(Aa_0, .inr (9, [.int Av_0, .int Av_1, .int Av_2, .int Av_3, .int Av_4, .int Av_5, .ref Aa_1, .ref Aa_2, .ref Aa_3, .ref Aa_4, .ref Aa_5, .ref Aa_6, .ref Aa_7, .ref Aa_8])), (Aa_1, .inl (tc 0, 10, .inl Af_1)), (Aa_2, .inl (tc 0, 10, .inl Af_2)), (Aa_3, .inl (tc 0, 6, .inl Af_3)), (Aa_4, .inl (tc 0, 6, .inl Af_4)), (Aa_5, .inl (tc 0, 6, .inl Af_5)), (Aa_6, .inl (tc 0, 6, .inl Af_6)), (Aa_7, .inl (tc 0, 6, .inl Af_7)), (Aa_8, .inl (tc 0, 6, .inl Af_8))] (fun (v : Option Value) (u : (Int32) × (Int32) × (Nat → Int32) × (Nat → Int32) × (Nat → Int32)) => match u with | (o1, o2, o3, o4, o5) => v = none) (fun (u : (Int32) × (Int32) × (Nat → Int32) × (Nat → Int32) × (Nat → Int32)) => match u with | (o1, o2, o3, o4, o5) => [(Aa_0, .inr (9, [.int o1, .int Av_1, .int Av_2, .int Av_3, .int Av_4, .int o2, .ref Aa_1, .ref Aa_2, .ref Aa_3, .ref Aa_4, .ref Aa_5, .ref Aa_6, .ref Aa_7, .ref Aa_8])), (Aa_1, .inl (tc 0, 10, .inl Af_1)), (Aa_2, .inl (tc 0, 10, .inl Af_2)), (Aa_3, .inl (tc 0, 6, .inl o3)), (Aa_4, .inl (tc 0, 6, .inl Af_4)), (Aa_5, .inl (tc 0, 6, .inl Af_5)), (Aa_6, .inl (tc 0, 6, .inl o4)), (Aa_7, .inl (tc 0, 6, .inl Af_7)), (Aa_8, .inl (tc 0, 6, .inl o5))]) 0 0 :=
  ct_X9_handOver l D tc sk (fun k => ([Aa_0, Aa_1, Aa_2, Aa_3, Aa_4, Aa_5, Aa_6, Aa_7, Aa_8] : List (Nat)).getD k 0) (fun k => ([Av_0, Av_1, Av_2, Av_3, Av_4, Av_5] : List (Int32)).getD k 0) (fun k => ([(fun _ => 0), Af_1, Af_2, Af_3, Af_4, Af_5, Af_6, Af_7, Af_8] : List (Nat → Int32)).getD k (fun _ => 0)) x1 
set_option maxHeartbeats 4000000 in
set_option maxRecDepth 100000 in
theorem ct_X9_changeTempers (l : Launch) (D : va_G) (tc : Nat → ClassId) (sk : (Nat → Nat) × (Nat → Nat)) (Aa : Nat → Nat) (Av : Nat → Int32) (Af : Nat → Nat → Int32) (x1 : Int32)  : Ct l yX9_changeTempers cX9_changeTempers 4 none { frames := 1, cells := 0, slots := 0, locals := 16 } D tc sk [.ref (Aa 0), .int x1] [((Aa 0), .inr (9, [.int (Av 0), .int (Av 1), .int (Av 2), .int (Av 3), .int (Av 4), .int (Av 5), .ref (Aa 1), .ref (Aa 2), .ref (Aa 3), .ref (Aa 4), .ref (Aa 5), .ref (Aa 6), .ref (Aa 7), .ref (Aa 8)])), ((Aa 1), .inl (tc 0, 10, .inl (Af 1))), ((Aa 2), .inl (tc 0, 10, .inl (Af 2))), ((Aa 3), .inl (tc 0, 6, .inl (Af 3))), ((Aa 4), .inl (tc 0, 6, .inl (Af 4))), ((Aa 5), .inl (tc 0, 6, .inl (Af 5))), ((Aa 6), .inl (tc 0, 6, .inl (Af 6))), ((Aa 7), .inl (tc 0, 6, .inl (Af 7))), ((Aa 8), .inl (tc 0, 6, .inl (Af 8)))] (fun (v : Option Value) (o1 : Nat → Int32) => v = none) (fun (o1 : Nat → Int32) => [((Aa 0), .inr (9, [.int (Av 0), .int (Av 1), .int (Av 2), .int (Av 3), .int (Av 4), .int (Av 5), .ref (Aa 1), .ref (Aa 2), .ref (Aa 3), .ref (Aa 4), .ref (Aa 5), .ref (Aa 6), .ref (Aa 7), .ref (Aa 8)])), ((Aa 1), .inl (tc 0, 10, .inl (Af 1))), ((Aa 2), .inl (tc 0, 10, .inl (Af 2))), ((Aa 3), .inl (tc 0, 6, .inl o1)), ((Aa 4), .inl (tc 0, 6, .inl (Af 4))), ((Aa 5), .inl (tc 0, 6, .inl (Af 5))), ((Aa 6), .inl (tc 0, 6, .inl (Af 6))), ((Aa 7), .inl (tc 0, 6, .inl (Af 7))), ((Aa 8), .inl (tc 0, 6, .inl (Af 8)))]) 0 0 := by
  refine Ct.start (by decide) (Nat.le_of_ble_eq_true rfl) (fun p e s m below meth c A ls hx hb hr hlk hin hml hown hts hK hX hP hD hA hl hS => ?_)
  have hl : lv_has ls 4 [(0, .ref (Aa 0)), (1, .int x1)] := hl
  refine lv_iload_n hx hb dX9_changeTempers_0 rfl (lv_at hl 1 rfl) ?_
  refine lv_iconst (v := 5) hx hb dX9_changeTempers_1 (by decide) ?_
  refine lv_icmp_lt (tgt := 9) hx hb dX9_changeTempers_2 (by decide) (fun c_1 => ?_) (fun c_1 => ?_)
  · skip
    refine lv_iload_n hx hb dX9_changeTempers_9 rfl (lv_at hl 1 rfl) ?_
    refine lv_iconst (v := 2) hx hb dX9_changeTempers_10 (by decide) ?_
    refine lv_icmp_gt (tgt := 18) hx hb dX9_changeTempers_11 (by decide) (fun c_2 => ?_) (fun c_2 => ?_)
    · skip
      refine lv_iconst (v := 0) hx hb dX9_changeTempers_18 (by decide) ?_
      refine lv_istore_n (lv' := [(2, .int 0), (0, .ref (Aa 0)), (1, .int x1)]) hx hb dX9_changeTempers_19 rfl hl (by decide) rfl (fun ls hl => ?_)
      refine lv_iconst (v := 0) hx hb dX9_changeTempers_20 (by decide) ?_
      refine lv_istore_n (lv' := [(3, .int 0), (2, .int 0), (0, .ref (Aa 0)), (1, .int x1)]) hx hb dX9_changeTempers_21 rfl hl (by decide) rfl (fun ls hl => ?_)
      have loop_10 : ∀ (n_8 : Nat) (vy_6 : Int32) (vy_7 : Nat → Int32) (H : Heap) (locs : List Loc) (ls : Array Slot), 0 ≤ (vy_6 : Int32).toInt → (6 - (vy_6 : Int32).toInt).toNat < n_8 → va_P D classes [((Aa 0), .inr (9, [.int (Av 0), .int (Av 1), .int (Av 2), .int (Av 3), .int (Av 4), .int (Av 5), .ref (Aa 1), .ref (Aa 2), .ref (Aa 3), .ref (Aa 4), .ref (Aa 5), .ref (Aa 6), .ref (Aa 7), .ref (Aa 8)])), ((Aa 1), .inl (tc 0, 10, .inl (Af 1))), ((Aa 2), .inl (tc 0, 10, .inl (Af 2))), ((Aa 3), .inl (tc 0, 6, .inl vy_7)), ((Aa 4), .inl (tc 0, 6, .inl (Af 4))), ((Aa 5), .inl (tc 0, 6, .inl (Af 5))), ((Aa 6), .inl (tc 0, 6, .inl (Af 6))), ((Aa 7), .inl (tc 0, 6, .inl (Af 7))), ((Aa 8), .inl (tc 0, 6, .inl (Af 8)))] H → va_D A [((Aa 0), .inr (9, [.int (Av 0), .int (Av 1), .int (Av 2), .int (Av 3), .int (Av 4), .int (Av 5), .ref (Aa 1), .ref (Aa 2), .ref (Aa 3), .ref (Aa 4), .ref (Aa 5), .ref (Aa 6), .ref (Aa 7), .ref (Aa 8)])), ((Aa 1), .inl (tc 0, 10, .inl (Af 1))), ((Aa 2), .inl (tc 0, 10, .inl (Af 2))), ((Aa 3), .inl (tc 0, 6, .inl vy_7)), ((Aa 4), .inl (tc 0, 6, .inl (Af 4))), ((Aa 5), .inl (tc 0, 6, .inl (Af 5))), ((Aa 6), .inl (tc 0, 6, .inl (Af 6))), ((Aa 7), .inl (tc 0, 6, .inl (Af 7))), ((Aa 8), .inl (tc 0, 6, .inl (Af 8)))] → va_S A s.heap H locs → lv_has ls 4 [(3, .int vy_6), (2, .int 0), (0, .ref (Aa 0)), (1, .int x1)] → W p l e ({ frames := 1, cells := 0, slots := 0, locals := 16 }) s m ([.ref (Aa 0), .int x1].toArray) below meth c H locs 0 0 (MQ below (QW (fun (v : Option Value) (o1 : Nat → Int32) => v = none) (BW D (fun (o1 : Nat → Int32) => [((Aa 0), .inr (9, [.int (Av 0), .int (Av 1), .int (Av 2), .int (Av 3), .int (Av 4), .int (Av 5), .ref (Aa 1), .ref (Aa 2), .ref (Aa 3), .ref (Aa 4), .ref (Aa 5), .ref (Aa 6), .ref (Aa 7), .ref (Aa 8)])), ((Aa 1), .inl (tc 0, 10, .inl (Af 1))), ((Aa 2), .inl (tc 0, 10, .inl (Af 2))), ((Aa 3), .inl (tc 0, 6, .inl o1)), ((Aa 4), .inl (tc 0, 6, .inl (Af 4))), ((Aa 5), .inl (tc 0, 6, .inl (Af 5))), ((Aa 6), .inl (tc 0, 6, .inl (Af 6))), ((Aa 7), .inl (tc 0, 6, .inl (Af 7))), ((Aa 8), .inl (tc 0, 6, .inl (Af 8)))]) A) A) ([.ref (Aa 0), .int x1].toArray) s 0 0 A) (F0 m 22 ls []) := by
        intro n_8
        induction n_8 with
        | zero =>
          intro vy_6 vy_7 H locs ls h1 h2
          exact absurd h2 (Nat.not_lt_zero _)
        | succ n_8 ih_9 =>
          intro vy_6 vy_7 H locs ls hi_12 hn_13 hP hD hS hl
          refine lv_iload_n hx hb dX9_changeTempers_22 rfl (lv_at hl 0 rfl) ?_
          refine lv_aload_n hx hb dX9_changeTempers_23 rfl (lv_at hl 2 rfl) ?_
          refine gf_X9_21 hx hb hts hown hK hP 0 rfl rfl dX9_changeTempers_24 ?_
          refine lv_icmp_ge (tgt := 65) hx hb dX9_changeTempers_27 (by decide) (fun c_14 => ?_) (fun c_14 => ?_)
          · skip
            exact retV hx hb hr hlk hP hD hS vy_7 rfl [0, 1, 2, 3, 4, 5, 6, 7, 8] rfl rfl dX9_changeTempers_65 (Nat.le_of_ble_eq_true rfl) (Nat.le_of_ble_eq_true rfl) rfl
          · skip
            refine lv_iload_n hx hb dX9_changeTempers_30 rfl (lv_at hl 0 rfl) ?_
            refine lv_bipush (v := 6) hx hb dX9_changeTempers_31 (by decide) ?_
            refine lv_icmp_ge (tgt := 65) hx hb dX9_changeTempers_33 (by decide) (fun c_15 => ?_) (fun c_15 => ?_)
            · skip
              exact retV hx hb hr hlk hP hD hS vy_7 rfl [0, 1, 2, 3, 4, 5, 6, 7, 8] rfl rfl dX9_changeTempers_65 (Nat.le_of_ble_eq_true rfl) (Nat.le_of_ble_eq_true rfl) rfl
            · skip
              refine lv_aload_n hx hb dX9_changeTempers_36 rfl (lv_at hl 2 rfl) ?_
              refine gf_X9_37 hx hb hts hown hK hP 0 rfl rfl dX9_changeTempers_37 ?_
              refine lv_iload_n hx hb dX9_changeTempers_40 rfl (lv_at hl 0 rfl) ?_
              refine lv_iconst (v := 0) hx hb dX9_changeTempers_41 (by decide) ?_
              refine lv_bipush (v := 20) hx hb dX9_changeTempers_42 (by decide) ?_
              refine lv_aload_n hx hb dX9_changeTempers_44 rfl (lv_at hl 2 rfl) ?_
              refine gf_X9_37 hx hb hts hown hK hP 0 rfl rfl dX9_changeTempers_45 ?_
              refine lv_iload_n hx hb dX9_changeTempers_48 rfl (lv_at hl 0 rfl) ?_
              have hi_16 : vp_in vy_6 6 := by
                have z_1 := Int32.lt_iff_toInt_lt.mp c_1
                have z_2 := Int32.lt_iff_toInt_lt.mp c_2
                have z_3 := Int32.lt_iff_toInt_lt.mp (Int32.not_le.mp c_14)
                have z_4 := Int32.lt_iff_toInt_lt.mp (Int32.not_le.mp c_15)
                have y_2 : (2 : Int32).toInt = 2 := by decide
                have y_5 : (5 : Int32).toInt = 5 := by decide
                have y_6 : (6 : Int32).toInt = 6 := by decide
                refine vp_in_iff.mpr ⟨?_, ?_⟩ <;> omega
              refine va_iald hx hb hK hP 3 0 rfl rfl hi_16 dX9_changeTempers_49 ?_
              refine lv_topi (fun x_17 ex_17 => ?_)
              refine lv_iload_n hx hb dX9_changeTempers_50 rfl (lv_at hl 1 rfl) ?_
              refine lv_iadd hx hb dX9_changeTempers_51 ?_
              refine lv_topi (fun x_18 ex_18 => ?_)
              refine va_mmin hx hb (hml.trans hl.1.symm) hown (hts _ k_780) (hts _ k_680) (hts _ k_114) (hts _ k_681) (Nat.le_of_ble_eq_true rfl) (Nat.le_of_ble_eq_true rfl) (Nat.le_of_ble_eq_true rfl) (Nat.le_of_ble_eq_true rfl) dX9_changeTempers_52 ?_
              refine lv_topi (fun x_19 ex_19 => ?_)
              have mx_19 := imin_f ex_19
              rw [show (20 : Int32).toInt = 20 by decide] at mx_19
              refine va_mmax hx hb (hml.trans hl.1.symm) hown (hts _ k_773) (hts _ k_774) (hts _ k_114) (hts _ k_775) (Nat.le_of_ble_eq_true rfl) (Nat.le_of_ble_eq_true rfl) (Nat.le_of_ble_eq_true rfl) (Nat.le_of_ble_eq_true rfl) dX9_changeTempers_55 ?_
              refine lv_topi (fun x_20 ex_20 => ?_)
              have mx_20 := imax_f ex_20
              rw [show (0 : Int32).toInt = 0 by decide] at mx_20
              have hi_21 : vp_in vy_6 6 := by
                have z_1 := Int32.lt_iff_toInt_lt.mp c_1
                have z_2 := Int32.lt_iff_toInt_lt.mp c_2
                have z_3 := Int32.lt_iff_toInt_lt.mp (Int32.not_le.mp c_14)
                have z_4 := Int32.lt_iff_toInt_lt.mp (Int32.not_le.mp c_15)
                have y_2 : (2 : Int32).toInt = 2 := by decide
                have y_5 : (5 : Int32).toInt = 5 := by decide
                have y_6 : (6 : Int32).toInt = 6 := by decide
                refine vp_in_iff.mpr ⟨?_, ?_⟩ <;> omega
              refine st_int hx hb hK hP hD hS 3 0 rfl rfl hi_21 dX9_changeTempers_58 (fun g_22 H locs eg_22 hP hD hS => ?_)
              have hP : va_P D classes [((Aa 0), .inr (9, [.int (Av 0), .int (Av 1), .int (Av 2), .int (Av 3), .int (Av 4), .int (Av 5), .ref (Aa 1), .ref (Aa 2), .ref (Aa 3), .ref (Aa 4), .ref (Aa 5), .ref (Aa 6), .ref (Aa 7), .ref (Aa 8)])), ((Aa 1), .inl (tc 0, 10, .inl (Af 1))), ((Aa 2), .inl (tc 0, 10, .inl (Af 2))), ((Aa 3), .inl (tc 0, 6, .inl g_22)), ((Aa 4), .inl (tc 0, 6, .inl (Af 4))), ((Aa 5), .inl (tc 0, 6, .inl (Af 5))), ((Aa 6), .inl (tc 0, 6, .inl (Af 6))), ((Aa 7), .inl (tc 0, 6, .inl (Af 7))), ((Aa 8), .inl (tc 0, 6, .inl (Af 8)))] H := hP
              have hD : va_D A [((Aa 0), .inr (9, [.int (Av 0), .int (Av 1), .int (Av 2), .int (Av 3), .int (Av 4), .int (Av 5), .ref (Aa 1), .ref (Aa 2), .ref (Aa 3), .ref (Aa 4), .ref (Aa 5), .ref (Aa 6), .ref (Aa 7), .ref (Aa 8)])), ((Aa 1), .inl (tc 0, 10, .inl (Af 1))), ((Aa 2), .inl (tc 0, 10, .inl (Af 2))), ((Aa 3), .inl (tc 0, 6, .inl g_22)), ((Aa 4), .inl (tc 0, 6, .inl (Af 4))), ((Aa 5), .inl (tc 0, 6, .inl (Af 5))), ((Aa 6), .inl (tc 0, 6, .inl (Af 6))), ((Aa 7), .inl (tc 0, 6, .inl (Af 7))), ((Aa 8), .inl (tc 0, 6, .inl (Af 8)))] := hD
              obtain ⟨x_23, ex_23⟩ : ∃ y : Int32, y = vy_6 + 1 := ⟨_, rfl⟩
              refine lv_iinc (v := x_23) (lv' := [(3, .int x_23), (2, .int 0), (0, .ref (Aa 0)), (1, .int x1)]) hx hb dX9_changeTempers_59 hl (k := 0) rfl (by rw [ex_23]; rfl) (by decide) rfl (fun ls hl => ?_)
              refine lv_goto (tgt := 22) hx hb dX9_changeTempers_62 (by decide) ?_
              have hb_24 : 0 ≤ (x_23 : Int32).toInt ∧ (6 - (x_23 : Int32).toInt).toNat < n_8 := by
                have z_1 := Int32.lt_iff_toInt_lt.mp c_1
                have z_2 := Int32.lt_iff_toInt_lt.mp c_2
                have z_3 := Int32.lt_iff_toInt_lt.mp (Int32.not_le.mp c_14)
                have z_4 := Int32.lt_iff_toInt_lt.mp (Int32.not_le.mp c_15)
                have y_2 : (2 : Int32).toInt = 2 := by decide
                have y_5 : (5 : Int32).toInt = 5 := by decide
                have y_6 : (6 : Int32).toInt = 6 := by decide
                have y_1 : (1 : Int32).toInt = 1 := by decide
                have t_x_23 : x_23.toInt = (vy_6 : Int32).toInt + (1 : Int32).toInt := by rw [ex_23]; exact add_toInt (by omega) (by omega)
                omega
              exact ih_9 x_23 g_22 _ _ _ hb_24.1 hb_24.2 (hP.sub [0, 1, 2, 3, 4, 5, 6, 7, 8] rfl) (hD.sub [0, 1, 2, 3, 4, 5, 6, 7, 8] rfl rfl) hS (lv_sub hl [0, 1, 2, 3] rfl)
      have h0_25 : 0 ≤ (0 : Int32).toInt := by
        have z_1 := Int32.lt_iff_toInt_lt.mp c_1
        have z_2 := Int32.lt_iff_toInt_lt.mp c_2
        have y_2 : (2 : Int32).toInt = 2 := by decide
        have y_5 : (5 : Int32).toInt = 5 := by decide
        have y_0 : (0 : Int32).toInt = 0 := by decide
        decide
      exact loop_10 _ 0 (Af 3) _ _ _ h0_25 (Nat.lt_succ_self _) hP hD hS hl
    · skip
      refine lv_iconst (v := (-1)) hx hb dX9_changeTempers_14 (by decide) ?_
      refine lv_goto (tgt := 19) hx hb dX9_changeTempers_15 (by decide) ?_
      refine lv_istore_n (lv' := [(2, .int (-1)), (0, .ref (Aa 0)), (1, .int x1)]) hx hb dX9_changeTempers_19 rfl hl (by decide) rfl (fun ls hl => ?_)
      refine lv_iconst (v := 0) hx hb dX9_changeTempers_20 (by decide) ?_
      refine lv_istore_n (lv' := [(3, .int 0), (2, .int (-1)), (0, .ref (Aa 0)), (1, .int x1)]) hx hb dX9_changeTempers_21 rfl hl (by decide) rfl (fun ls hl => ?_)
      have loop_33 : ∀ (n_31 : Nat) (vy_29 : Int32) (vy_30 : Nat → Int32) (H : Heap) (locs : List Loc) (ls : Array Slot), 0 ≤ (vy_29 : Int32).toInt → (6 - (vy_29 : Int32).toInt).toNat < n_31 → va_P D classes [((Aa 0), .inr (9, [.int (Av 0), .int (Av 1), .int (Av 2), .int (Av 3), .int (Av 4), .int (Av 5), .ref (Aa 1), .ref (Aa 2), .ref (Aa 3), .ref (Aa 4), .ref (Aa 5), .ref (Aa 6), .ref (Aa 7), .ref (Aa 8)])), ((Aa 1), .inl (tc 0, 10, .inl (Af 1))), ((Aa 2), .inl (tc 0, 10, .inl (Af 2))), ((Aa 3), .inl (tc 0, 6, .inl vy_30)), ((Aa 4), .inl (tc 0, 6, .inl (Af 4))), ((Aa 5), .inl (tc 0, 6, .inl (Af 5))), ((Aa 6), .inl (tc 0, 6, .inl (Af 6))), ((Aa 7), .inl (tc 0, 6, .inl (Af 7))), ((Aa 8), .inl (tc 0, 6, .inl (Af 8)))] H → va_D A [((Aa 0), .inr (9, [.int (Av 0), .int (Av 1), .int (Av 2), .int (Av 3), .int (Av 4), .int (Av 5), .ref (Aa 1), .ref (Aa 2), .ref (Aa 3), .ref (Aa 4), .ref (Aa 5), .ref (Aa 6), .ref (Aa 7), .ref (Aa 8)])), ((Aa 1), .inl (tc 0, 10, .inl (Af 1))), ((Aa 2), .inl (tc 0, 10, .inl (Af 2))), ((Aa 3), .inl (tc 0, 6, .inl vy_30)), ((Aa 4), .inl (tc 0, 6, .inl (Af 4))), ((Aa 5), .inl (tc 0, 6, .inl (Af 5))), ((Aa 6), .inl (tc 0, 6, .inl (Af 6))), ((Aa 7), .inl (tc 0, 6, .inl (Af 7))), ((Aa 8), .inl (tc 0, 6, .inl (Af 8)))] → va_S A s.heap H locs → lv_has ls 4 [(3, .int vy_29), (2, .int (-1)), (0, .ref (Aa 0)), (1, .int x1)] → W p l e ({ frames := 1, cells := 0, slots := 0, locals := 16 }) s m ([.ref (Aa 0), .int x1].toArray) below meth c H locs 0 0 (MQ below (QW (fun (v : Option Value) (o1 : Nat → Int32) => v = none) (BW D (fun (o1 : Nat → Int32) => [((Aa 0), .inr (9, [.int (Av 0), .int (Av 1), .int (Av 2), .int (Av 3), .int (Av 4), .int (Av 5), .ref (Aa 1), .ref (Aa 2), .ref (Aa 3), .ref (Aa 4), .ref (Aa 5), .ref (Aa 6), .ref (Aa 7), .ref (Aa 8)])), ((Aa 1), .inl (tc 0, 10, .inl (Af 1))), ((Aa 2), .inl (tc 0, 10, .inl (Af 2))), ((Aa 3), .inl (tc 0, 6, .inl o1)), ((Aa 4), .inl (tc 0, 6, .inl (Af 4))), ((Aa 5), .inl (tc 0, 6, .inl (Af 5))), ((Aa 6), .inl (tc 0, 6, .inl (Af 6))), ((Aa 7), .inl (tc 0, 6, .inl (Af 7))), ((Aa 8), .inl (tc 0, 6, .inl (Af 8)))]) A) A) ([.ref (Aa 0), .int x1].toArray) s 0 0 A) (F0 m 22 ls []) := by
        intro n_31
        induction n_31 with
        | zero =>
          intro vy_29 vy_30 H locs ls h1 h2
          exact absurd h2 (Nat.not_lt_zero _)
        | succ n_31 ih_32 =>
          intro vy_29 vy_30 H locs ls hi_35 hn_36 hP hD hS hl
          refine lv_iload_n hx hb dX9_changeTempers_22 rfl (lv_at hl 0 rfl) ?_
          refine lv_aload_n hx hb dX9_changeTempers_23 rfl (lv_at hl 2 rfl) ?_
          refine gf_X9_21 hx hb hts hown hK hP 0 rfl rfl dX9_changeTempers_24 ?_
          refine lv_icmp_ge (tgt := 65) hx hb dX9_changeTempers_27 (by decide) (fun c_37 => ?_) (fun c_37 => ?_)
          · skip
            exact retV hx hb hr hlk hP hD hS vy_30 rfl [0, 1, 2, 3, 4, 5, 6, 7, 8] rfl rfl dX9_changeTempers_65 (Nat.le_of_ble_eq_true rfl) (Nat.le_of_ble_eq_true rfl) rfl
          · skip
            refine lv_iload_n hx hb dX9_changeTempers_30 rfl (lv_at hl 0 rfl) ?_
            refine lv_bipush (v := 6) hx hb dX9_changeTempers_31 (by decide) ?_
            refine lv_icmp_ge (tgt := 65) hx hb dX9_changeTempers_33 (by decide) (fun c_38 => ?_) (fun c_38 => ?_)
            · skip
              exact retV hx hb hr hlk hP hD hS vy_30 rfl [0, 1, 2, 3, 4, 5, 6, 7, 8] rfl rfl dX9_changeTempers_65 (Nat.le_of_ble_eq_true rfl) (Nat.le_of_ble_eq_true rfl) rfl
            · skip
              refine lv_aload_n hx hb dX9_changeTempers_36 rfl (lv_at hl 2 rfl) ?_
              refine gf_X9_37 hx hb hts hown hK hP 0 rfl rfl dX9_changeTempers_37 ?_
              refine lv_iload_n hx hb dX9_changeTempers_40 rfl (lv_at hl 0 rfl) ?_
              refine lv_iconst (v := 0) hx hb dX9_changeTempers_41 (by decide) ?_
              refine lv_bipush (v := 20) hx hb dX9_changeTempers_42 (by decide) ?_
              refine lv_aload_n hx hb dX9_changeTempers_44 rfl (lv_at hl 2 rfl) ?_
              refine gf_X9_37 hx hb hts hown hK hP 0 rfl rfl dX9_changeTempers_45 ?_
              refine lv_iload_n hx hb dX9_changeTempers_48 rfl (lv_at hl 0 rfl) ?_
              have hi_39 : vp_in vy_29 6 := by
                have z_1 := Int32.lt_iff_toInt_lt.mp c_1
                have z_2 := Int32.le_iff_toInt_le.mp (Int32.not_lt.mp c_2)
                have z_3 := Int32.lt_iff_toInt_lt.mp (Int32.not_le.mp c_37)
                have z_4 := Int32.lt_iff_toInt_lt.mp (Int32.not_le.mp c_38)
                have y_2 : (2 : Int32).toInt = 2 := by decide
                have y_5 : (5 : Int32).toInt = 5 := by decide
                have y_6 : (6 : Int32).toInt = 6 := by decide
                refine vp_in_iff.mpr ⟨?_, ?_⟩ <;> omega
              refine va_iald hx hb hK hP 3 0 rfl rfl hi_39 dX9_changeTempers_49 ?_
              refine lv_topi (fun x_40 ex_40 => ?_)
              refine lv_iload_n hx hb dX9_changeTempers_50 rfl (lv_at hl 1 rfl) ?_
              refine lv_iadd hx hb dX9_changeTempers_51 ?_
              refine lv_topi (fun x_41 ex_41 => ?_)
              refine va_mmin hx hb (hml.trans hl.1.symm) hown (hts _ k_780) (hts _ k_680) (hts _ k_114) (hts _ k_681) (Nat.le_of_ble_eq_true rfl) (Nat.le_of_ble_eq_true rfl) (Nat.le_of_ble_eq_true rfl) (Nat.le_of_ble_eq_true rfl) dX9_changeTempers_52 ?_
              refine lv_topi (fun x_42 ex_42 => ?_)
              have mx_42 := imin_f ex_42
              rw [show (20 : Int32).toInt = 20 by decide] at mx_42
              refine va_mmax hx hb (hml.trans hl.1.symm) hown (hts _ k_773) (hts _ k_774) (hts _ k_114) (hts _ k_775) (Nat.le_of_ble_eq_true rfl) (Nat.le_of_ble_eq_true rfl) (Nat.le_of_ble_eq_true rfl) (Nat.le_of_ble_eq_true rfl) dX9_changeTempers_55 ?_
              refine lv_topi (fun x_43 ex_43 => ?_)
              have mx_43 := imax_f ex_43
              rw [show (0 : Int32).toInt = 0 by decide] at mx_43
              have hi_44 : vp_in vy_29 6 := by
                have z_1 := Int32.lt_iff_toInt_lt.mp c_1
                have z_2 := Int32.le_iff_toInt_le.mp (Int32.not_lt.mp c_2)
                have z_3 := Int32.lt_iff_toInt_lt.mp (Int32.not_le.mp c_37)
                have z_4 := Int32.lt_iff_toInt_lt.mp (Int32.not_le.mp c_38)
                have y_2 : (2 : Int32).toInt = 2 := by decide
                have y_5 : (5 : Int32).toInt = 5 := by decide
                have y_6 : (6 : Int32).toInt = 6 := by decide
                refine vp_in_iff.mpr ⟨?_, ?_⟩ <;> omega
              refine st_int hx hb hK hP hD hS 3 0 rfl rfl hi_44 dX9_changeTempers_58 (fun g_45 H locs eg_45 hP hD hS => ?_)
              have hP : va_P D classes [((Aa 0), .inr (9, [.int (Av 0), .int (Av 1), .int (Av 2), .int (Av 3), .int (Av 4), .int (Av 5), .ref (Aa 1), .ref (Aa 2), .ref (Aa 3), .ref (Aa 4), .ref (Aa 5), .ref (Aa 6), .ref (Aa 7), .ref (Aa 8)])), ((Aa 1), .inl (tc 0, 10, .inl (Af 1))), ((Aa 2), .inl (tc 0, 10, .inl (Af 2))), ((Aa 3), .inl (tc 0, 6, .inl g_45)), ((Aa 4), .inl (tc 0, 6, .inl (Af 4))), ((Aa 5), .inl (tc 0, 6, .inl (Af 5))), ((Aa 6), .inl (tc 0, 6, .inl (Af 6))), ((Aa 7), .inl (tc 0, 6, .inl (Af 7))), ((Aa 8), .inl (tc 0, 6, .inl (Af 8)))] H := hP
              have hD : va_D A [((Aa 0), .inr (9, [.int (Av 0), .int (Av 1), .int (Av 2), .int (Av 3), .int (Av 4), .int (Av 5), .ref (Aa 1), .ref (Aa 2), .ref (Aa 3), .ref (Aa 4), .ref (Aa 5), .ref (Aa 6), .ref (Aa 7), .ref (Aa 8)])), ((Aa 1), .inl (tc 0, 10, .inl (Af 1))), ((Aa 2), .inl (tc 0, 10, .inl (Af 2))), ((Aa 3), .inl (tc 0, 6, .inl g_45)), ((Aa 4), .inl (tc 0, 6, .inl (Af 4))), ((Aa 5), .inl (tc 0, 6, .inl (Af 5))), ((Aa 6), .inl (tc 0, 6, .inl (Af 6))), ((Aa 7), .inl (tc 0, 6, .inl (Af 7))), ((Aa 8), .inl (tc 0, 6, .inl (Af 8)))] := hD
              obtain ⟨x_46, ex_46⟩ : ∃ y : Int32, y = vy_29 + 1 := ⟨_, rfl⟩
              refine lv_iinc (v := x_46) (lv' := [(3, .int x_46), (2, .int (-1)), (0, .ref (Aa 0)), (1, .int x1)]) hx hb dX9_changeTempers_59 hl (k := 0) rfl (by rw [ex_46]; rfl) (by decide) rfl (fun ls hl => ?_)
              refine lv_goto (tgt := 22) hx hb dX9_changeTempers_62 (by decide) ?_
              have hb_47 : 0 ≤ (x_46 : Int32).toInt ∧ (6 - (x_46 : Int32).toInt).toNat < n_31 := by
                have z_1 := Int32.lt_iff_toInt_lt.mp c_1
                have z_2 := Int32.le_iff_toInt_le.mp (Int32.not_lt.mp c_2)
                have z_3 := Int32.lt_iff_toInt_lt.mp (Int32.not_le.mp c_37)
                have z_4 := Int32.lt_iff_toInt_lt.mp (Int32.not_le.mp c_38)
                have y_2 : (2 : Int32).toInt = 2 := by decide
                have y_5 : (5 : Int32).toInt = 5 := by decide
                have y_6 : (6 : Int32).toInt = 6 := by decide
                have y_1 : (1 : Int32).toInt = 1 := by decide
                have t_x_46 : x_46.toInt = (vy_29 : Int32).toInt + (1 : Int32).toInt := by rw [ex_46]; exact add_toInt (by omega) (by omega)
                omega
              exact ih_32 x_46 g_45 _ _ _ hb_47.1 hb_47.2 (hP.sub [0, 1, 2, 3, 4, 5, 6, 7, 8] rfl) (hD.sub [0, 1, 2, 3, 4, 5, 6, 7, 8] rfl rfl) hS (lv_sub hl [0, 1, 2, 3] rfl)
      have h0_48 : 0 ≤ (0 : Int32).toInt := by
        have z_1 := Int32.lt_iff_toInt_lt.mp c_1
        have z_2 := Int32.le_iff_toInt_le.mp (Int32.not_lt.mp c_2)
        have y_2 : (2 : Int32).toInt = 2 := by decide
        have y_5 : (5 : Int32).toInt = 5 := by decide
        have y_0 : (0 : Int32).toInt = 0 := by decide
        decide
      exact loop_33 _ 0 (Af 3) _ _ _ h0_48 (Nat.lt_succ_self _) hP hD hS hl
  · skip
    refine lv_iconst (v := 1) hx hb dX9_changeTempers_5 (by decide) ?_
    refine lv_goto (tgt := 19) hx hb dX9_changeTempers_6 (by decide) ?_
    refine lv_istore_n (lv' := [(2, .int 1), (0, .ref (Aa 0)), (1, .int x1)]) hx hb dX9_changeTempers_19 rfl hl (by decide) rfl (fun ls hl => ?_)
    refine lv_iconst (v := 0) hx hb dX9_changeTempers_20 (by decide) ?_
    refine lv_istore_n (lv' := [(3, .int 0), (2, .int 1), (0, .ref (Aa 0)), (1, .int x1)]) hx hb dX9_changeTempers_21 rfl hl (by decide) rfl (fun ls hl => ?_)
    have loop_56 : ∀ (n_54 : Nat) (vy_52 : Int32) (vy_53 : Nat → Int32) (H : Heap) (locs : List Loc) (ls : Array Slot), 0 ≤ (vy_52 : Int32).toInt → (6 - (vy_52 : Int32).toInt).toNat < n_54 → va_P D classes [((Aa 0), .inr (9, [.int (Av 0), .int (Av 1), .int (Av 2), .int (Av 3), .int (Av 4), .int (Av 5), .ref (Aa 1), .ref (Aa 2), .ref (Aa 3), .ref (Aa 4), .ref (Aa 5), .ref (Aa 6), .ref (Aa 7), .ref (Aa 8)])), ((Aa 1), .inl (tc 0, 10, .inl (Af 1))), ((Aa 2), .inl (tc 0, 10, .inl (Af 2))), ((Aa 3), .inl (tc 0, 6, .inl vy_53)), ((Aa 4), .inl (tc 0, 6, .inl (Af 4))), ((Aa 5), .inl (tc 0, 6, .inl (Af 5))), ((Aa 6), .inl (tc 0, 6, .inl (Af 6))), ((Aa 7), .inl (tc 0, 6, .inl (Af 7))), ((Aa 8), .inl (tc 0, 6, .inl (Af 8)))] H → va_D A [((Aa 0), .inr (9, [.int (Av 0), .int (Av 1), .int (Av 2), .int (Av 3), .int (Av 4), .int (Av 5), .ref (Aa 1), .ref (Aa 2), .ref (Aa 3), .ref (Aa 4), .ref (Aa 5), .ref (Aa 6), .ref (Aa 7), .ref (Aa 8)])), ((Aa 1), .inl (tc 0, 10, .inl (Af 1))), ((Aa 2), .inl (tc 0, 10, .inl (Af 2))), ((Aa 3), .inl (tc 0, 6, .inl vy_53)), ((Aa 4), .inl (tc 0, 6, .inl (Af 4))), ((Aa 5), .inl (tc 0, 6, .inl (Af 5))), ((Aa 6), .inl (tc 0, 6, .inl (Af 6))), ((Aa 7), .inl (tc 0, 6, .inl (Af 7))), ((Aa 8), .inl (tc 0, 6, .inl (Af 8)))] → va_S A s.heap H locs → lv_has ls 4 [(3, .int vy_52), (2, .int 1), (0, .ref (Aa 0)), (1, .int x1)] → W p l e ({ frames := 1, cells := 0, slots := 0, locals := 16 }) s m ([.ref (Aa 0), .int x1].toArray) below meth c H locs 0 0 (MQ below (QW (fun (v : Option Value) (o1 : Nat → Int32) => v = none) (BW D (fun (o1 : Nat → Int32) => [((Aa 0), .inr (9, [.int (Av 0), .int (Av 1), .int (Av 2), .int (Av 3), .int (Av 4), .int (Av 5), .ref (Aa 1), .ref (Aa 2), .ref (Aa 3), .ref (Aa 4), .ref (Aa 5), .ref (Aa 6), .ref (Aa 7), .ref (Aa 8)])), ((Aa 1), .inl (tc 0, 10, .inl (Af 1))), ((Aa 2), .inl (tc 0, 10, .inl (Af 2))), ((Aa 3), .inl (tc 0, 6, .inl o1)), ((Aa 4), .inl (tc 0, 6, .inl (Af 4))), ((Aa 5), .inl (tc 0, 6, .inl (Af 5))), ((Aa 6), .inl (tc 0, 6, .inl (Af 6))), ((Aa 7), .inl (tc 0, 6, .inl (Af 7))), ((Aa 8), .inl (tc 0, 6, .inl (Af 8)))]) A) A) ([.ref (Aa 0), .int x1].toArray) s 0 0 A) (F0 m 22 ls []) := by
      intro n_54
      induction n_54 with
      | zero =>
        intro vy_52 vy_53 H locs ls h1 h2
        exact absurd h2 (Nat.not_lt_zero _)
      | succ n_54 ih_55 =>
        intro vy_52 vy_53 H locs ls hi_58 hn_59 hP hD hS hl
        refine lv_iload_n hx hb dX9_changeTempers_22 rfl (lv_at hl 0 rfl) ?_
        refine lv_aload_n hx hb dX9_changeTempers_23 rfl (lv_at hl 2 rfl) ?_
        refine gf_X9_21 hx hb hts hown hK hP 0 rfl rfl dX9_changeTempers_24 ?_
        refine lv_icmp_ge (tgt := 65) hx hb dX9_changeTempers_27 (by decide) (fun c_60 => ?_) (fun c_60 => ?_)
        · skip
          exact retV hx hb hr hlk hP hD hS vy_53 rfl [0, 1, 2, 3, 4, 5, 6, 7, 8] rfl rfl dX9_changeTempers_65 (Nat.le_of_ble_eq_true rfl) (Nat.le_of_ble_eq_true rfl) rfl
        · skip
          refine lv_iload_n hx hb dX9_changeTempers_30 rfl (lv_at hl 0 rfl) ?_
          refine lv_bipush (v := 6) hx hb dX9_changeTempers_31 (by decide) ?_
          refine lv_icmp_ge (tgt := 65) hx hb dX9_changeTempers_33 (by decide) (fun c_61 => ?_) (fun c_61 => ?_)
          · skip
            exact retV hx hb hr hlk hP hD hS vy_53 rfl [0, 1, 2, 3, 4, 5, 6, 7, 8] rfl rfl dX9_changeTempers_65 (Nat.le_of_ble_eq_true rfl) (Nat.le_of_ble_eq_true rfl) rfl
          · skip
            refine lv_aload_n hx hb dX9_changeTempers_36 rfl (lv_at hl 2 rfl) ?_
            refine gf_X9_37 hx hb hts hown hK hP 0 rfl rfl dX9_changeTempers_37 ?_
            refine lv_iload_n hx hb dX9_changeTempers_40 rfl (lv_at hl 0 rfl) ?_
            refine lv_iconst (v := 0) hx hb dX9_changeTempers_41 (by decide) ?_
            refine lv_bipush (v := 20) hx hb dX9_changeTempers_42 (by decide) ?_
            refine lv_aload_n hx hb dX9_changeTempers_44 rfl (lv_at hl 2 rfl) ?_
            refine gf_X9_37 hx hb hts hown hK hP 0 rfl rfl dX9_changeTempers_45 ?_
            refine lv_iload_n hx hb dX9_changeTempers_48 rfl (lv_at hl 0 rfl) ?_
            have hi_62 : vp_in vy_52 6 := by
              have z_1 := Int32.le_iff_toInt_le.mp (Int32.not_lt.mp c_1)
              have z_2 := Int32.lt_iff_toInt_lt.mp (Int32.not_le.mp c_60)
              have z_3 := Int32.lt_iff_toInt_lt.mp (Int32.not_le.mp c_61)
              have y_5 : (5 : Int32).toInt = 5 := by decide
              have y_6 : (6 : Int32).toInt = 6 := by decide
              refine vp_in_iff.mpr ⟨?_, ?_⟩ <;> omega
            refine va_iald hx hb hK hP 3 0 rfl rfl hi_62 dX9_changeTempers_49 ?_
            refine lv_topi (fun x_63 ex_63 => ?_)
            refine lv_iload_n hx hb dX9_changeTempers_50 rfl (lv_at hl 1 rfl) ?_
            refine lv_iadd hx hb dX9_changeTempers_51 ?_
            refine lv_topi (fun x_64 ex_64 => ?_)
            refine va_mmin hx hb (hml.trans hl.1.symm) hown (hts _ k_780) (hts _ k_680) (hts _ k_114) (hts _ k_681) (Nat.le_of_ble_eq_true rfl) (Nat.le_of_ble_eq_true rfl) (Nat.le_of_ble_eq_true rfl) (Nat.le_of_ble_eq_true rfl) dX9_changeTempers_52 ?_
            refine lv_topi (fun x_65 ex_65 => ?_)
            have mx_65 := imin_f ex_65
            rw [show (20 : Int32).toInt = 20 by decide] at mx_65
            refine va_mmax hx hb (hml.trans hl.1.symm) hown (hts _ k_773) (hts _ k_774) (hts _ k_114) (hts _ k_775) (Nat.le_of_ble_eq_true rfl) (Nat.le_of_ble_eq_true rfl) (Nat.le_of_ble_eq_true rfl) (Nat.le_of_ble_eq_true rfl) dX9_changeTempers_55 ?_
            refine lv_topi (fun x_66 ex_66 => ?_)
            have mx_66 := imax_f ex_66
            rw [show (0 : Int32).toInt = 0 by decide] at mx_66
            have hi_67 : vp_in vy_52 6 := by
              have z_1 := Int32.le_iff_toInt_le.mp (Int32.not_lt.mp c_1)
              have z_2 := Int32.lt_iff_toInt_lt.mp (Int32.not_le.mp c_60)
              have z_3 := Int32.lt_iff_toInt_lt.mp (Int32.not_le.mp c_61)
              have y_5 : (5 : Int32).toInt = 5 := by decide
              have y_6 : (6 : Int32).toInt = 6 := by decide
              refine vp_in_iff.mpr ⟨?_, ?_⟩ <;> omega
            refine st_int hx hb hK hP hD hS 3 0 rfl rfl hi_67 dX9_changeTempers_58 (fun g_68 H locs eg_68 hP hD hS => ?_)
            have hP : va_P D classes [((Aa 0), .inr (9, [.int (Av 0), .int (Av 1), .int (Av 2), .int (Av 3), .int (Av 4), .int (Av 5), .ref (Aa 1), .ref (Aa 2), .ref (Aa 3), .ref (Aa 4), .ref (Aa 5), .ref (Aa 6), .ref (Aa 7), .ref (Aa 8)])), ((Aa 1), .inl (tc 0, 10, .inl (Af 1))), ((Aa 2), .inl (tc 0, 10, .inl (Af 2))), ((Aa 3), .inl (tc 0, 6, .inl g_68)), ((Aa 4), .inl (tc 0, 6, .inl (Af 4))), ((Aa 5), .inl (tc 0, 6, .inl (Af 5))), ((Aa 6), .inl (tc 0, 6, .inl (Af 6))), ((Aa 7), .inl (tc 0, 6, .inl (Af 7))), ((Aa 8), .inl (tc 0, 6, .inl (Af 8)))] H := hP
            have hD : va_D A [((Aa 0), .inr (9, [.int (Av 0), .int (Av 1), .int (Av 2), .int (Av 3), .int (Av 4), .int (Av 5), .ref (Aa 1), .ref (Aa 2), .ref (Aa 3), .ref (Aa 4), .ref (Aa 5), .ref (Aa 6), .ref (Aa 7), .ref (Aa 8)])), ((Aa 1), .inl (tc 0, 10, .inl (Af 1))), ((Aa 2), .inl (tc 0, 10, .inl (Af 2))), ((Aa 3), .inl (tc 0, 6, .inl g_68)), ((Aa 4), .inl (tc 0, 6, .inl (Af 4))), ((Aa 5), .inl (tc 0, 6, .inl (Af 5))), ((Aa 6), .inl (tc 0, 6, .inl (Af 6))), ((Aa 7), .inl (tc 0, 6, .inl (Af 7))), ((Aa 8), .inl (tc 0, 6, .inl (Af 8)))] := hD
            obtain ⟨x_69, ex_69⟩ : ∃ y : Int32, y = vy_52 + 1 := ⟨_, rfl⟩
            refine lv_iinc (v := x_69) (lv' := [(3, .int x_69), (2, .int 1), (0, .ref (Aa 0)), (1, .int x1)]) hx hb dX9_changeTempers_59 hl (k := 0) rfl (by rw [ex_69]; rfl) (by decide) rfl (fun ls hl => ?_)
            refine lv_goto (tgt := 22) hx hb dX9_changeTempers_62 (by decide) ?_
            have hb_70 : 0 ≤ (x_69 : Int32).toInt ∧ (6 - (x_69 : Int32).toInt).toNat < n_54 := by
              have z_1 := Int32.le_iff_toInt_le.mp (Int32.not_lt.mp c_1)
              have z_2 := Int32.lt_iff_toInt_lt.mp (Int32.not_le.mp c_60)
              have z_3 := Int32.lt_iff_toInt_lt.mp (Int32.not_le.mp c_61)
              have y_5 : (5 : Int32).toInt = 5 := by decide
              have y_6 : (6 : Int32).toInt = 6 := by decide
              have y_1 : (1 : Int32).toInt = 1 := by decide
              have t_x_69 : x_69.toInt = (vy_52 : Int32).toInt + (1 : Int32).toInt := by rw [ex_69]; exact add_toInt (by omega) (by omega)
              omega
            exact ih_55 x_69 g_68 _ _ _ hb_70.1 hb_70.2 (hP.sub [0, 1, 2, 3, 4, 5, 6, 7, 8] rfl) (hD.sub [0, 1, 2, 3, 4, 5, 6, 7, 8] rfl rfl) hS (lv_sub hl [0, 1, 2, 3] rfl)
    have h0_71 : 0 ≤ (0 : Int32).toInt := by
      have z_1 := Int32.le_iff_toInt_le.mp (Int32.not_lt.mp c_1)
      have y_5 : (5 : Int32).toInt = 5 := by decide
      have y_0 : (0 : Int32).toInt = 0 := by decide
      decide
    exact loop_56 _ 0 (Af 3) _ _ _ h0_71 (Nat.lt_succ_self _) hP hD hS hl
set_option maxRecDepth 100000 in
theorem cu_X9_changeTempers (l : Launch) (D : va_G) (tc : Nat → ClassId) (sk : (Nat → Nat) × (Nat → Nat)) (Aa_0 : Nat) (Aa_1 : Nat) (Aa_2 : Nat) (Aa_3 : Nat) (Aa_4 : Nat) (Aa_5 : Nat) (Aa_6 : Nat) (Aa_7 : Nat) (Aa_8 : Nat) (Av_0 : Int32) (Av_1 : Int32) (Av_2 : Int32) (Av_3 : Int32) (Av_4 : Int32) (Av_5 : Int32) (Af_1 : Nat → Int32) (Af_2 : Nat → Int32) (Af_3 : Nat → Int32) (Af_4 : Nat → Int32) (Af_5 : Nat → Int32) (Af_6 : Nat → Int32) (Af_7 : Nat → Int32) (Af_8 : Nat → Int32) (x1 : Int32)  : Ct l yX9_changeTempers cX9_changeTempers 4 none { frames := 1, cells := 0, slots := 0, locals := 16 } D tc sk [.ref Aa_0, .int x1] [(Aa_0, .inr (9, [.int Av_0, .int Av_1, .int Av_2, .int Av_3, .int Av_4, .int Av_5, .ref Aa_1, .ref Aa_2, .ref Aa_3, .ref Aa_4, .ref Aa_5, .ref Aa_6, .ref Aa_7, .ref Aa_8])), (Aa_1, .inl (tc 0, 10, .inl Af_1)), (Aa_2, .inl (tc 0, 10, .inl Af_2)), (Aa_3, .inl (tc 0, 6, .inl Af_3)), (Aa_4, .inl (tc 0, 6, .inl Af_4)), (Aa_5, .inl (tc 0, 6, .inl Af_5)), (Aa_6, .inl (tc 0, 6, .inl Af_6)), (Aa_7, .inl (tc 0, 6, .inl Af_7)), (Aa_8, .inl (tc 0, 6, .inl Af_8))] (fun (v : Option Value) (o1 : Nat → Int32) => v = none) (fun (o1 : Nat → Int32) => [(Aa_0, .inr (9, [.int Av_0, .int Av_1, .int Av_2, .int Av_3, .int Av_4, .int Av_5, .ref Aa_1, .ref Aa_2, .ref Aa_3, .ref Aa_4, .ref Aa_5, .ref Aa_6, .ref Aa_7, .ref Aa_8])), (Aa_1, .inl (tc 0, 10, .inl Af_1)), (Aa_2, .inl (tc 0, 10, .inl Af_2)), (Aa_3, .inl (tc 0, 6, .inl o1)), (Aa_4, .inl (tc 0, 6, .inl Af_4)), (Aa_5, .inl (tc 0, 6, .inl Af_5)), (Aa_6, .inl (tc 0, 6, .inl Af_6)), (Aa_7, .inl (tc 0, 6, .inl Af_7)), (Aa_8, .inl (tc 0, 6, .inl Af_8))]) 0 0 :=
  ct_X9_changeTempers l D tc sk (fun k => ([Aa_0, Aa_1, Aa_2, Aa_3, Aa_4, Aa_5, Aa_6, Aa_7, Aa_8] : List (Nat)).getD k 0) (fun k => ([Av_0, Av_1, Av_2, Av_3, Av_4, Av_5] : List (Int32)).getD k 0) (fun k => ([(fun _ => 0), Af_1, Af_2, Af_3, Af_4, Af_5, Af_6, Af_7, Af_8] : List (Nat → Int32)).getD k (fun _ => 0)) x1 
set_option maxHeartbeats 4000000 in
set_option maxRecDepth 100000 in
theorem ct_X9_likeness (l : Launch) (D : va_G) (tc : Nat → ClassId) (sk : (Nat → Nat) × (Nat → Nat)) (Aa : Nat → Nat) (Av : Nat → Int32) (Af : Nat → Nat → Int32)  : Ct l yX9_likeness cX9_likeness 4 (some .long) { frames := 0, cells := 0, slots := 0, locals := 0 } D tc sk [.ref (Aa 0)] [((Aa 0), .inr (9, [.int (Av 0), .int (Av 1), .int (Av 2), .int (Av 3), .int (Av 4), .int (Av 5), .ref (Aa 1), .ref (Aa 2), .ref (Aa 3), .ref (Aa 4), .ref (Aa 5), .ref (Aa 6), .ref (Aa 7), .ref (Aa 8)])), ((Aa 1), .inl (tc 0, 10, .inl (Af 1))), ((Aa 2), .inl (tc 0, 10, .inl (Af 2))), ((Aa 3), .inl (tc 0, 6, .inl (Af 3))), ((Aa 4), .inl (tc 0, 6, .inl (Af 4))), ((Aa 5), .inl (tc 0, 6, .inl (Af 5))), ((Aa 6), .inl (tc 0, 6, .inl (Af 6))), ((Aa 7), .inl (tc 0, 6, .inl (Af 7))), ((Aa 8), .inl (tc 0, 6, .inl (Af 8)))] (fun (v : Option Value) (_ : Unit) => ∃ r : Int64, v = some (.long r) ∧ (True)) (fun (_ : Unit) => [((Aa 0), .inr (9, [.int (Av 0), .int (Av 1), .int (Av 2), .int (Av 3), .int (Av 4), .int (Av 5), .ref (Aa 1), .ref (Aa 2), .ref (Aa 3), .ref (Aa 4), .ref (Aa 5), .ref (Aa 6), .ref (Aa 7), .ref (Aa 8)])), ((Aa 1), .inl (tc 0, 10, .inl (Af 1))), ((Aa 2), .inl (tc 0, 10, .inl (Af 2))), ((Aa 3), .inl (tc 0, 6, .inl (Af 3))), ((Aa 4), .inl (tc 0, 6, .inl (Af 4))), ((Aa 5), .inl (tc 0, 6, .inl (Af 5))), ((Aa 6), .inl (tc 0, 6, .inl (Af 6))), ((Aa 7), .inl (tc 0, 6, .inl (Af 7))), ((Aa 8), .inl (tc 0, 6, .inl (Af 8)))]) 0 0 := by
  refine Ct.start (by decide) (Nat.le_of_ble_eq_true rfl) (fun p e s m below meth c A ls hx hb hr hlk hin hml hown hts hK hX hP hD hA hl hS => ?_)
  have hl : lv_has ls 4 [(0, .ref (Aa 0))] := hl
  refine lv_aload_n hx hb dX9_likeness_0 rfl (lv_at hl 0 rfl) ?_
  refine gf_X9_9 hx hb hts hown hK hP 0 rfl rfl dX9_likeness_1 ?_
  refine lv_i2l (v := ((Av 0)).toInt64) hx hb dX9_likeness_4 rfl ?_
  refine lv_lstore_n (lv' := [(1, .long ((Av 0)).toInt64), (0, .ref (Aa 0))]) hx hb dX9_likeness_5 rfl hl (by decide) rfl (fun ls hl => ?_)
  refine lv_iconst (v := 0) hx hb dX9_likeness_6 (by decide) ?_
  refine lv_istore_n (lv' := [(3, .int 0), (1, .long ((Av 0)).toInt64), (0, .ref (Aa 0))]) hx hb dX9_likeness_7 rfl hl (by decide) rfl (fun ls hl => ?_)
  have loop_8 : ∀ (n_6 : Nat) (vy_4 : Int32) (vy_5 : Int64) (H : Heap) (locs : List Loc) (ls : Array Slot), 0 ≤ (vy_4 : Int32).toInt → (6 - (vy_4 : Int32).toInt).toNat < n_6 → va_P D classes [((Aa 0), .inr (9, [.int (Av 0), .int (Av 1), .int (Av 2), .int (Av 3), .int (Av 4), .int (Av 5), .ref (Aa 1), .ref (Aa 2), .ref (Aa 3), .ref (Aa 4), .ref (Aa 5), .ref (Aa 6), .ref (Aa 7), .ref (Aa 8)])), ((Aa 1), .inl (tc 0, 10, .inl (Af 1))), ((Aa 2), .inl (tc 0, 10, .inl (Af 2))), ((Aa 3), .inl (tc 0, 6, .inl (Af 3))), ((Aa 4), .inl (tc 0, 6, .inl (Af 4))), ((Aa 5), .inl (tc 0, 6, .inl (Af 5))), ((Aa 6), .inl (tc 0, 6, .inl (Af 6))), ((Aa 7), .inl (tc 0, 6, .inl (Af 7))), ((Aa 8), .inl (tc 0, 6, .inl (Af 8)))] H → va_D A [((Aa 0), .inr (9, [.int (Av 0), .int (Av 1), .int (Av 2), .int (Av 3), .int (Av 4), .int (Av 5), .ref (Aa 1), .ref (Aa 2), .ref (Aa 3), .ref (Aa 4), .ref (Aa 5), .ref (Aa 6), .ref (Aa 7), .ref (Aa 8)])), ((Aa 1), .inl (tc 0, 10, .inl (Af 1))), ((Aa 2), .inl (tc 0, 10, .inl (Af 2))), ((Aa 3), .inl (tc 0, 6, .inl (Af 3))), ((Aa 4), .inl (tc 0, 6, .inl (Af 4))), ((Aa 5), .inl (tc 0, 6, .inl (Af 5))), ((Aa 6), .inl (tc 0, 6, .inl (Af 6))), ((Aa 7), .inl (tc 0, 6, .inl (Af 7))), ((Aa 8), .inl (tc 0, 6, .inl (Af 8)))] → va_S A s.heap H locs → lv_has ls 4 [(3, .int vy_4), (1, .long vy_5), (0, .ref (Aa 0))] → W p l e ({ frames := 0, cells := 0, slots := 0, locals := 0 }) s m ([.ref (Aa 0)].toArray) below meth c H locs 0 0 (MQ below (QW (fun (v : Option Value) (_ : Unit) => ∃ r : Int64, v = some (.long r) ∧ (True)) (BW D (fun (_ : Unit) => [((Aa 0), .inr (9, [.int (Av 0), .int (Av 1), .int (Av 2), .int (Av 3), .int (Av 4), .int (Av 5), .ref (Aa 1), .ref (Aa 2), .ref (Aa 3), .ref (Aa 4), .ref (Aa 5), .ref (Aa 6), .ref (Aa 7), .ref (Aa 8)])), ((Aa 1), .inl (tc 0, 10, .inl (Af 1))), ((Aa 2), .inl (tc 0, 10, .inl (Af 2))), ((Aa 3), .inl (tc 0, 6, .inl (Af 3))), ((Aa 4), .inl (tc 0, 6, .inl (Af 4))), ((Aa 5), .inl (tc 0, 6, .inl (Af 5))), ((Aa 6), .inl (tc 0, 6, .inl (Af 6))), ((Aa 7), .inl (tc 0, 6, .inl (Af 7))), ((Aa 8), .inl (tc 0, 6, .inl (Af 8)))]) A) A) ([.ref (Aa 0)].toArray) s 0 0 A) (F0 m 8 ls []) := by
    intro n_6
    induction n_6 with
    | zero =>
      intro vy_4 vy_5 H locs ls h1 h2
      exact absurd h2 (Nat.not_lt_zero _)
    | succ n_6 ih_7 =>
      intro vy_4 vy_5 H locs ls hi_10 hn_11 hP hD hS hl
      refine lv_iload_n hx hb dX9_likeness_8 rfl (lv_at hl 0 rfl) ?_
      refine lv_aload_n hx hb dX9_likeness_9 rfl (lv_at hl 2 rfl) ?_
      refine gf_X9_21 hx hb hts hown hK hP 0 rfl rfl dX9_likeness_10 ?_
      refine lv_icmp_ge (tgt := 42) hx hb dX9_likeness_13 (by decide) (fun c_12 => ?_) (fun c_12 => ?_)
      · skip
        refine lv_lload_n hx hb dX9_likeness_42 rfl (lv_at hl 1 rfl) ?_
        exact retL (v := vy_5) hx hb hr hlk hP hD hS () ⟨_, rfl, trivial⟩ [0, 1, 2, 3, 4, 5, 6, 7, 8] rfl rfl dX9_likeness_43 (Nat.le_of_ble_eq_true rfl) (Nat.le_of_ble_eq_true rfl) rfl
      · skip
        refine lv_iload_n hx hb dX9_likeness_16 rfl (lv_at hl 0 rfl) ?_
        refine lv_bipush (v := 6) hx hb dX9_likeness_17 (by decide) ?_
        refine lv_icmp_ge (tgt := 42) hx hb dX9_likeness_19 (by decide) (fun c_13 => ?_) (fun c_13 => ?_)
        · skip
          refine lv_lload_n hx hb dX9_likeness_42 rfl (lv_at hl 1 rfl) ?_
          exact retL (v := vy_5) hx hb hr hlk hP hD hS () ⟨_, rfl, trivial⟩ [0, 1, 2, 3, 4, 5, 6, 7, 8] rfl rfl dX9_likeness_43 (Nat.le_of_ble_eq_true rfl) (Nat.le_of_ble_eq_true rfl) rfl
        · skip
          refine lv_lload_n hx hb dX9_likeness_22 rfl (lv_at hl 1 rfl) ?_
          refine lv_ldc2 hx hb hown (hts _ k_957) dX9_likeness_23 ?_
          refine lv_lmul hx hb dX9_likeness_26 ?_
          refine lv_topl (fun x_14 ex_14 => ?_)
          refine lv_aload_n hx hb dX9_likeness_27 rfl (lv_at hl 2 rfl) ?_
          refine gf_X9_37 hx hb hts hown hK hP 0 rfl rfl dX9_likeness_28 ?_
          refine lv_iload_n hx hb dX9_likeness_31 rfl (lv_at hl 0 rfl) ?_
          have hi_15 : vp_in vy_4 6 := by
            have z_1 := Int32.lt_iff_toInt_lt.mp (Int32.not_le.mp c_12)
            have z_2 := Int32.lt_iff_toInt_lt.mp (Int32.not_le.mp c_13)
            have y_6 : (6 : Int32).toInt = 6 := by decide
            refine vp_in_iff.mpr ⟨?_, ?_⟩ <;> omega
          refine va_iald hx hb hK hP 3 0 rfl rfl hi_15 dX9_likeness_32 ?_
          refine lv_topi (fun x_16 ex_16 => ?_)
          refine lv_i2l (v := (x_16).toInt64) hx hb dX9_likeness_33 rfl ?_
          refine lv_ladd hx hb dX9_likeness_34 ?_
          refine lv_topl (fun x_17 ex_17 => ?_)
          refine lv_lstore_n (lv' := [(1, .long x_17), (3, .int vy_4), (0, .ref (Aa 0))]) hx hb dX9_likeness_35 rfl hl (by decide) rfl (fun ls hl => ?_)
          obtain ⟨x_18, ex_18⟩ : ∃ y : Int32, y = vy_4 + 1 := ⟨_, rfl⟩
          refine lv_iinc (v := x_18) (lv' := [(3, .int x_18), (1, .long x_17), (0, .ref (Aa 0))]) hx hb dX9_likeness_36 hl (k := 1) rfl (by rw [ex_18]; rfl) (by decide) rfl (fun ls hl => ?_)
          refine lv_goto (tgt := 8) hx hb dX9_likeness_39 (by decide) ?_
          have hb_19 : 0 ≤ (x_18 : Int32).toInt ∧ (6 - (x_18 : Int32).toInt).toNat < n_6 := by
            have z_1 := Int32.lt_iff_toInt_lt.mp (Int32.not_le.mp c_12)
            have z_2 := Int32.lt_iff_toInt_lt.mp (Int32.not_le.mp c_13)
            have y_6 : (6 : Int32).toInt = 6 := by decide
            have y_1 : (1 : Int32).toInt = 1 := by decide
            have t_x_18 : x_18.toInt = (vy_4 : Int32).toInt + (1 : Int32).toInt := by rw [ex_18]; exact add_toInt (by omega) (by omega)
            omega
          exact ih_7 x_18 x_17 _ _ _ hb_19.1 hb_19.2 (hP.sub [0, 1, 2, 3, 4, 5, 6, 7, 8] rfl) (hD.sub [0, 1, 2, 3, 4, 5, 6, 7, 8] rfl rfl) hS (lv_sub hl [0, 1, 2] rfl)
  have h0_20 : 0 ≤ (0 : Int32).toInt := by
    have y_0 : (0 : Int32).toInt = 0 := by decide
    decide
  exact loop_8 _ 0 ((Av 0)).toInt64 _ _ _ h0_20 (Nat.lt_succ_self _) hP hD hS hl
set_option maxRecDepth 100000 in
theorem cu_X9_likeness (l : Launch) (D : va_G) (tc : Nat → ClassId) (sk : (Nat → Nat) × (Nat → Nat)) (Aa_0 : Nat) (Aa_1 : Nat) (Aa_2 : Nat) (Aa_3 : Nat) (Aa_4 : Nat) (Aa_5 : Nat) (Aa_6 : Nat) (Aa_7 : Nat) (Aa_8 : Nat) (Av_0 : Int32) (Av_1 : Int32) (Av_2 : Int32) (Av_3 : Int32) (Av_4 : Int32) (Av_5 : Int32) (Af_1 : Nat → Int32) (Af_2 : Nat → Int32) (Af_3 : Nat → Int32) (Af_4 : Nat → Int32) (Af_5 : Nat → Int32) (Af_6 : Nat → Int32) (Af_7 : Nat → Int32) (Af_8 : Nat → Int32)  : Ct l yX9_likeness cX9_likeness 4 (some .long) { frames := 0, cells := 0, slots := 0, locals := 0 } D tc sk [.ref Aa_0] [(Aa_0, .inr (9, [.int Av_0, .int Av_1, .int Av_2, .int Av_3, .int Av_4, .int Av_5, .ref Aa_1, .ref Aa_2, .ref Aa_3, .ref Aa_4, .ref Aa_5, .ref Aa_6, .ref Aa_7, .ref Aa_8])), (Aa_1, .inl (tc 0, 10, .inl Af_1)), (Aa_2, .inl (tc 0, 10, .inl Af_2)), (Aa_3, .inl (tc 0, 6, .inl Af_3)), (Aa_4, .inl (tc 0, 6, .inl Af_4)), (Aa_5, .inl (tc 0, 6, .inl Af_5)), (Aa_6, .inl (tc 0, 6, .inl Af_6)), (Aa_7, .inl (tc 0, 6, .inl Af_7)), (Aa_8, .inl (tc 0, 6, .inl Af_8))] (fun (v : Option Value) (_ : Unit) => ∃ r : Int64, v = some (.long r) ∧ (True)) (fun (_ : Unit) => [(Aa_0, .inr (9, [.int Av_0, .int Av_1, .int Av_2, .int Av_3, .int Av_4, .int Av_5, .ref Aa_1, .ref Aa_2, .ref Aa_3, .ref Aa_4, .ref Aa_5, .ref Aa_6, .ref Aa_7, .ref Aa_8])), (Aa_1, .inl (tc 0, 10, .inl Af_1)), (Aa_2, .inl (tc 0, 10, .inl Af_2)), (Aa_3, .inl (tc 0, 6, .inl Af_3)), (Aa_4, .inl (tc 0, 6, .inl Af_4)), (Aa_5, .inl (tc 0, 6, .inl Af_5)), (Aa_6, .inl (tc 0, 6, .inl Af_6)), (Aa_7, .inl (tc 0, 6, .inl Af_7)), (Aa_8, .inl (tc 0, 6, .inl Af_8))]) 0 0 :=
  ct_X9_likeness l D tc sk (fun k => ([Aa_0, Aa_1, Aa_2, Aa_3, Aa_4, Aa_5, Aa_6, Aa_7, Aa_8] : List (Nat)).getD k 0) (fun k => ([Av_0, Av_1, Av_2, Av_3, Av_4, Av_5] : List (Int32)).getD k 0) (fun k => ([(fun _ => 0), Af_1, Af_2, Af_3, Af_4, Af_5, Af_6, Af_7, Af_8] : List (Nat → Int32)).getD k (fun _ => 0)) 
set_option maxHeartbeats 4000000 in
set_option maxRecDepth 100000 in
theorem ct_X9_copyFrom (l : Launch) (D : va_G) (tc : Nat → ClassId) (sk : (Nat → Nat) × (Nat → Nat)) (Aa : Nat → Nat) (Av : Nat → Int32) (Af : Nat → Nat → Int32) (Ba : Nat → Nat) (Bv : Nat → Int32) (Bf : Nat → Nat → Int32)  : Ct l yX9_copyFrom cX9_copyFrom 2 none { frames := 1, cells := 0, slots := 0, locals := 40 } D tc sk [.ref (Aa 0), .ref (Ba 0)] [((Aa 0), .inr (9, [.int (Av 0), .int (Av 1), .int (Av 2), .int (Av 3), .int (Av 4), .int (Av 5), .ref (Aa 1), .ref (Aa 2), .ref (Aa 3), .ref (Aa 4), .ref (Aa 5), .ref (Aa 6), .ref (Aa 7), .ref (Aa 8)])), ((Aa 1), .inl (tc 0, 10, .inl (Af 1))), ((Aa 2), .inl (tc 0, 10, .inl (Af 2))), ((Aa 3), .inl (tc 0, 6, .inl (Af 3))), ((Aa 4), .inl (tc 0, 6, .inl (Af 4))), ((Aa 5), .inl (tc 0, 6, .inl (Af 5))), ((Aa 6), .inl (tc 0, 6, .inl (Af 6))), ((Aa 7), .inl (tc 0, 6, .inl (Af 7))), ((Aa 8), .inl (tc 0, 6, .inl (Af 8))), ((Ba 0), .inr (9, [.int (Bv 0), .int (Bv 1), .int (Bv 2), .int (Bv 3), .int (Bv 4), .int (Bv 5), .ref (Ba 1), .ref (Ba 2), .ref (Ba 3), .ref (Ba 4), .ref (Ba 5), .ref (Ba 6), .ref (Ba 7), .ref (Ba 8)])), ((Ba 1), .inl (tc 0, 10, .inl (Bf 1))), ((Ba 2), .inl (tc 0, 10, .inl (Bf 2))), ((Ba 3), .inl (tc 0, 6, .inl (Bf 3))), ((Ba 4), .inl (tc 0, 6, .inl (Bf 4))), ((Ba 5), .inl (tc 0, 6, .inl (Bf 5))), ((Ba 6), .inl (tc 0, 6, .inl (Bf 6))), ((Ba 7), .inl (tc 0, 6, .inl (Bf 7))), ((Ba 8), .inl (tc 0, 6, .inl (Bf 8)))] (fun (v : Option Value) (u : (Nat → Int32) × (Nat → Int32) × (Nat → Int32) × (Nat → Int32) × (Nat → Int32) × (Nat → Int32) × (Nat → Int32) × (Nat → Int32)) => match u with | (o1, o2, o3, o4, o5, o6, o7, o8) => v = none) (fun (u : (Nat → Int32) × (Nat → Int32) × (Nat → Int32) × (Nat → Int32) × (Nat → Int32) × (Nat → Int32) × (Nat → Int32) × (Nat → Int32)) => match u with | (o1, o2, o3, o4, o5, o6, o7, o8) => [((Aa 0), .inr (9, [.int (Bv 0), .int (Bv 1), .int (Bv 2), .int (Bv 3), .int (Bv 4), .int (Bv 5), .ref (Aa 1), .ref (Aa 2), .ref (Aa 3), .ref (Aa 4), .ref (Aa 5), .ref (Aa 6), .ref (Aa 7), .ref (Aa 8)])), ((Aa 1), .inl (tc 0, 10, .inl o1)), ((Aa 2), .inl (tc 0, 10, .inl o2)), ((Aa 3), .inl (tc 0, 6, .inl o3)), ((Aa 4), .inl (tc 0, 6, .inl o4)), ((Aa 5), .inl (tc 0, 6, .inl o5)), ((Aa 6), .inl (tc 0, 6, .inl o6)), ((Aa 7), .inl (tc 0, 6, .inl o7)), ((Aa 8), .inl (tc 0, 6, .inl o8)), ((Ba 0), .inr (9, [.int (Bv 0), .int (Bv 1), .int (Bv 2), .int (Bv 3), .int (Bv 4), .int (Bv 5), .ref (Ba 1), .ref (Ba 2), .ref (Ba 3), .ref (Ba 4), .ref (Ba 5), .ref (Ba 6), .ref (Ba 7), .ref (Ba 8)])), ((Ba 1), .inl (tc 0, 10, .inl (Bf 1))), ((Ba 2), .inl (tc 0, 10, .inl (Bf 2))), ((Ba 3), .inl (tc 0, 6, .inl (Bf 3))), ((Ba 4), .inl (tc 0, 6, .inl (Bf 4))), ((Ba 5), .inl (tc 0, 6, .inl (Bf 5))), ((Ba 6), .inl (tc 0, 6, .inl (Bf 6))), ((Ba 7), .inl (tc 0, 6, .inl (Bf 7))), ((Ba 8), .inl (tc 0, 6, .inl (Bf 8)))]) 0 0 := by
  refine Ct.start (by decide) (Nat.le_of_ble_eq_true rfl) (fun p e s m below meth c A ls hx hb hr hlk hin hml hown hts hK hX hP hD hA hl hS => ?_)
  have hl : lv_has ls 2 [(0, .ref (Aa 0)), (1, .ref (Ba 0))] := hl
  refine lv_aload_n hx hb dX9_copyFrom_0 rfl (lv_at hl 0 rfl) ?_
  refine lv_aload_n hx hb dX9_copyFrom_1 rfl (lv_at hl 1 rfl) ?_
  refine gf_X9_9 hx hb hts hown hK hP 9 rfl rfl dX9_copyFrom_2 ?_
  refine pf_X9_9 hx hb hts hown hK hP hD hS 0 rfl (Nat.le_of_ble_eq_true rfl) rfl rfl dX9_copyFrom_5 (fun H locs hP hD hS => ?_)
  have hP : va_P D classes [((Aa 0), .inr (9, [.int (Bv 0), .int (Av 1), .int (Av 2), .int (Av 3), .int (Av 4), .int (Av 5), .ref (Aa 1), .ref (Aa 2), .ref (Aa 3), .ref (Aa 4), .ref (Aa 5), .ref (Aa 6), .ref (Aa 7), .ref (Aa 8)])), ((Aa 1), .inl (tc 0, 10, .inl (Af 1))), ((Aa 2), .inl (tc 0, 10, .inl (Af 2))), ((Aa 3), .inl (tc 0, 6, .inl (Af 3))), ((Aa 4), .inl (tc 0, 6, .inl (Af 4))), ((Aa 5), .inl (tc 0, 6, .inl (Af 5))), ((Aa 6), .inl (tc 0, 6, .inl (Af 6))), ((Aa 7), .inl (tc 0, 6, .inl (Af 7))), ((Aa 8), .inl (tc 0, 6, .inl (Af 8))), ((Ba 0), .inr (9, [.int (Bv 0), .int (Bv 1), .int (Bv 2), .int (Bv 3), .int (Bv 4), .int (Bv 5), .ref (Ba 1), .ref (Ba 2), .ref (Ba 3), .ref (Ba 4), .ref (Ba 5), .ref (Ba 6), .ref (Ba 7), .ref (Ba 8)])), ((Ba 1), .inl (tc 0, 10, .inl (Bf 1))), ((Ba 2), .inl (tc 0, 10, .inl (Bf 2))), ((Ba 3), .inl (tc 0, 6, .inl (Bf 3))), ((Ba 4), .inl (tc 0, 6, .inl (Bf 4))), ((Ba 5), .inl (tc 0, 6, .inl (Bf 5))), ((Ba 6), .inl (tc 0, 6, .inl (Bf 6))), ((Ba 7), .inl (tc 0, 6, .inl (Bf 7))), ((Ba 8), .inl (tc 0, 6, .inl (Bf 8)))] H := hP
  have hD : va_D A [((Aa 0), .inr (9, [.int (Bv 0), .int (Av 1), .int (Av 2), .int (Av 3), .int (Av 4), .int (Av 5), .ref (Aa 1), .ref (Aa 2), .ref (Aa 3), .ref (Aa 4), .ref (Aa 5), .ref (Aa 6), .ref (Aa 7), .ref (Aa 8)])), ((Aa 1), .inl (tc 0, 10, .inl (Af 1))), ((Aa 2), .inl (tc 0, 10, .inl (Af 2))), ((Aa 3), .inl (tc 0, 6, .inl (Af 3))), ((Aa 4), .inl (tc 0, 6, .inl (Af 4))), ((Aa 5), .inl (tc 0, 6, .inl (Af 5))), ((Aa 6), .inl (tc 0, 6, .inl (Af 6))), ((Aa 7), .inl (tc 0, 6, .inl (Af 7))), ((Aa 8), .inl (tc 0, 6, .inl (Af 8))), ((Ba 0), .inr (9, [.int (Bv 0), .int (Bv 1), .int (Bv 2), .int (Bv 3), .int (Bv 4), .int (Bv 5), .ref (Ba 1), .ref (Ba 2), .ref (Ba 3), .ref (Ba 4), .ref (Ba 5), .ref (Ba 6), .ref (Ba 7), .ref (Ba 8)])), ((Ba 1), .inl (tc 0, 10, .inl (Bf 1))), ((Ba 2), .inl (tc 0, 10, .inl (Bf 2))), ((Ba 3), .inl (tc 0, 6, .inl (Bf 3))), ((Ba 4), .inl (tc 0, 6, .inl (Bf 4))), ((Ba 5), .inl (tc 0, 6, .inl (Bf 5))), ((Ba 6), .inl (tc 0, 6, .inl (Bf 6))), ((Ba 7), .inl (tc 0, 6, .inl (Bf 7))), ((Ba 8), .inl (tc 0, 6, .inl (Bf 8)))] := hD
  refine lv_aload_n hx hb dX9_copyFrom_8 rfl (lv_at hl 0 rfl) ?_
  refine lv_aload_n hx hb dX9_copyFrom_9 rfl (lv_at hl 1 rfl) ?_
  refine gf_X9_15 hx hb hts hown hK hP 9 rfl rfl dX9_copyFrom_10 ?_
  refine pf_X9_15 hx hb hts hown hK hP hD hS 0 rfl (Nat.le_of_ble_eq_true rfl) rfl rfl dX9_copyFrom_13 (fun H locs hP hD hS => ?_)
  have hP : va_P D classes [((Aa 0), .inr (9, [.int (Bv 0), .int (Bv 1), .int (Av 2), .int (Av 3), .int (Av 4), .int (Av 5), .ref (Aa 1), .ref (Aa 2), .ref (Aa 3), .ref (Aa 4), .ref (Aa 5), .ref (Aa 6), .ref (Aa 7), .ref (Aa 8)])), ((Aa 1), .inl (tc 0, 10, .inl (Af 1))), ((Aa 2), .inl (tc 0, 10, .inl (Af 2))), ((Aa 3), .inl (tc 0, 6, .inl (Af 3))), ((Aa 4), .inl (tc 0, 6, .inl (Af 4))), ((Aa 5), .inl (tc 0, 6, .inl (Af 5))), ((Aa 6), .inl (tc 0, 6, .inl (Af 6))), ((Aa 7), .inl (tc 0, 6, .inl (Af 7))), ((Aa 8), .inl (tc 0, 6, .inl (Af 8))), ((Ba 0), .inr (9, [.int (Bv 0), .int (Bv 1), .int (Bv 2), .int (Bv 3), .int (Bv 4), .int (Bv 5), .ref (Ba 1), .ref (Ba 2), .ref (Ba 3), .ref (Ba 4), .ref (Ba 5), .ref (Ba 6), .ref (Ba 7), .ref (Ba 8)])), ((Ba 1), .inl (tc 0, 10, .inl (Bf 1))), ((Ba 2), .inl (tc 0, 10, .inl (Bf 2))), ((Ba 3), .inl (tc 0, 6, .inl (Bf 3))), ((Ba 4), .inl (tc 0, 6, .inl (Bf 4))), ((Ba 5), .inl (tc 0, 6, .inl (Bf 5))), ((Ba 6), .inl (tc 0, 6, .inl (Bf 6))), ((Ba 7), .inl (tc 0, 6, .inl (Bf 7))), ((Ba 8), .inl (tc 0, 6, .inl (Bf 8)))] H := hP
  have hD : va_D A [((Aa 0), .inr (9, [.int (Bv 0), .int (Bv 1), .int (Av 2), .int (Av 3), .int (Av 4), .int (Av 5), .ref (Aa 1), .ref (Aa 2), .ref (Aa 3), .ref (Aa 4), .ref (Aa 5), .ref (Aa 6), .ref (Aa 7), .ref (Aa 8)])), ((Aa 1), .inl (tc 0, 10, .inl (Af 1))), ((Aa 2), .inl (tc 0, 10, .inl (Af 2))), ((Aa 3), .inl (tc 0, 6, .inl (Af 3))), ((Aa 4), .inl (tc 0, 6, .inl (Af 4))), ((Aa 5), .inl (tc 0, 6, .inl (Af 5))), ((Aa 6), .inl (tc 0, 6, .inl (Af 6))), ((Aa 7), .inl (tc 0, 6, .inl (Af 7))), ((Aa 8), .inl (tc 0, 6, .inl (Af 8))), ((Ba 0), .inr (9, [.int (Bv 0), .int (Bv 1), .int (Bv 2), .int (Bv 3), .int (Bv 4), .int (Bv 5), .ref (Ba 1), .ref (Ba 2), .ref (Ba 3), .ref (Ba 4), .ref (Ba 5), .ref (Ba 6), .ref (Ba 7), .ref (Ba 8)])), ((Ba 1), .inl (tc 0, 10, .inl (Bf 1))), ((Ba 2), .inl (tc 0, 10, .inl (Bf 2))), ((Ba 3), .inl (tc 0, 6, .inl (Bf 3))), ((Ba 4), .inl (tc 0, 6, .inl (Bf 4))), ((Ba 5), .inl (tc 0, 6, .inl (Bf 5))), ((Ba 6), .inl (tc 0, 6, .inl (Bf 6))), ((Ba 7), .inl (tc 0, 6, .inl (Bf 7))), ((Ba 8), .inl (tc 0, 6, .inl (Bf 8)))] := hD
  refine lv_aload_n hx hb dX9_copyFrom_16 rfl (lv_at hl 0 rfl) ?_
  refine lv_aload_n hx hb dX9_copyFrom_17 rfl (lv_at hl 1 rfl) ?_
  refine gf_X9_18 hx hb hts hown hK hP 9 rfl rfl dX9_copyFrom_18 ?_
  refine pf_X9_18 hx hb hts hown hK hP hD hS 0 rfl (Nat.le_of_ble_eq_true rfl) rfl rfl dX9_copyFrom_21 (fun H locs hP hD hS => ?_)
  have hP : va_P D classes [((Aa 0), .inr (9, [.int (Bv 0), .int (Bv 1), .int (Bv 2), .int (Av 3), .int (Av 4), .int (Av 5), .ref (Aa 1), .ref (Aa 2), .ref (Aa 3), .ref (Aa 4), .ref (Aa 5), .ref (Aa 6), .ref (Aa 7), .ref (Aa 8)])), ((Aa 1), .inl (tc 0, 10, .inl (Af 1))), ((Aa 2), .inl (tc 0, 10, .inl (Af 2))), ((Aa 3), .inl (tc 0, 6, .inl (Af 3))), ((Aa 4), .inl (tc 0, 6, .inl (Af 4))), ((Aa 5), .inl (tc 0, 6, .inl (Af 5))), ((Aa 6), .inl (tc 0, 6, .inl (Af 6))), ((Aa 7), .inl (tc 0, 6, .inl (Af 7))), ((Aa 8), .inl (tc 0, 6, .inl (Af 8))), ((Ba 0), .inr (9, [.int (Bv 0), .int (Bv 1), .int (Bv 2), .int (Bv 3), .int (Bv 4), .int (Bv 5), .ref (Ba 1), .ref (Ba 2), .ref (Ba 3), .ref (Ba 4), .ref (Ba 5), .ref (Ba 6), .ref (Ba 7), .ref (Ba 8)])), ((Ba 1), .inl (tc 0, 10, .inl (Bf 1))), ((Ba 2), .inl (tc 0, 10, .inl (Bf 2))), ((Ba 3), .inl (tc 0, 6, .inl (Bf 3))), ((Ba 4), .inl (tc 0, 6, .inl (Bf 4))), ((Ba 5), .inl (tc 0, 6, .inl (Bf 5))), ((Ba 6), .inl (tc 0, 6, .inl (Bf 6))), ((Ba 7), .inl (tc 0, 6, .inl (Bf 7))), ((Ba 8), .inl (tc 0, 6, .inl (Bf 8)))] H := hP
  have hD : va_D A [((Aa 0), .inr (9, [.int (Bv 0), .int (Bv 1), .int (Bv 2), .int (Av 3), .int (Av 4), .int (Av 5), .ref (Aa 1), .ref (Aa 2), .ref (Aa 3), .ref (Aa 4), .ref (Aa 5), .ref (Aa 6), .ref (Aa 7), .ref (Aa 8)])), ((Aa 1), .inl (tc 0, 10, .inl (Af 1))), ((Aa 2), .inl (tc 0, 10, .inl (Af 2))), ((Aa 3), .inl (tc 0, 6, .inl (Af 3))), ((Aa 4), .inl (tc 0, 6, .inl (Af 4))), ((Aa 5), .inl (tc 0, 6, .inl (Af 5))), ((Aa 6), .inl (tc 0, 6, .inl (Af 6))), ((Aa 7), .inl (tc 0, 6, .inl (Af 7))), ((Aa 8), .inl (tc 0, 6, .inl (Af 8))), ((Ba 0), .inr (9, [.int (Bv 0), .int (Bv 1), .int (Bv 2), .int (Bv 3), .int (Bv 4), .int (Bv 5), .ref (Ba 1), .ref (Ba 2), .ref (Ba 3), .ref (Ba 4), .ref (Ba 5), .ref (Ba 6), .ref (Ba 7), .ref (Ba 8)])), ((Ba 1), .inl (tc 0, 10, .inl (Bf 1))), ((Ba 2), .inl (tc 0, 10, .inl (Bf 2))), ((Ba 3), .inl (tc 0, 6, .inl (Bf 3))), ((Ba 4), .inl (tc 0, 6, .inl (Bf 4))), ((Ba 5), .inl (tc 0, 6, .inl (Bf 5))), ((Ba 6), .inl (tc 0, 6, .inl (Bf 6))), ((Ba 7), .inl (tc 0, 6, .inl (Bf 7))), ((Ba 8), .inl (tc 0, 6, .inl (Bf 8)))] := hD
  refine lv_aload_n hx hb dX9_copyFrom_24 rfl (lv_at hl 0 rfl) ?_
  refine lv_aload_n hx hb dX9_copyFrom_25 rfl (lv_at hl 1 rfl) ?_
  refine gf_X9_21 hx hb hts hown hK hP 9 rfl rfl dX9_copyFrom_26 ?_
  refine pf_X9_21 hx hb hts hown hK hP hD hS 0 rfl (Nat.le_of_ble_eq_true rfl) rfl rfl dX9_copyFrom_29 (fun H locs hP hD hS => ?_)
  have hP : va_P D classes [((Aa 0), .inr (9, [.int (Bv 0), .int (Bv 1), .int (Bv 2), .int (Bv 3), .int (Av 4), .int (Av 5), .ref (Aa 1), .ref (Aa 2), .ref (Aa 3), .ref (Aa 4), .ref (Aa 5), .ref (Aa 6), .ref (Aa 7), .ref (Aa 8)])), ((Aa 1), .inl (tc 0, 10, .inl (Af 1))), ((Aa 2), .inl (tc 0, 10, .inl (Af 2))), ((Aa 3), .inl (tc 0, 6, .inl (Af 3))), ((Aa 4), .inl (tc 0, 6, .inl (Af 4))), ((Aa 5), .inl (tc 0, 6, .inl (Af 5))), ((Aa 6), .inl (tc 0, 6, .inl (Af 6))), ((Aa 7), .inl (tc 0, 6, .inl (Af 7))), ((Aa 8), .inl (tc 0, 6, .inl (Af 8))), ((Ba 0), .inr (9, [.int (Bv 0), .int (Bv 1), .int (Bv 2), .int (Bv 3), .int (Bv 4), .int (Bv 5), .ref (Ba 1), .ref (Ba 2), .ref (Ba 3), .ref (Ba 4), .ref (Ba 5), .ref (Ba 6), .ref (Ba 7), .ref (Ba 8)])), ((Ba 1), .inl (tc 0, 10, .inl (Bf 1))), ((Ba 2), .inl (tc 0, 10, .inl (Bf 2))), ((Ba 3), .inl (tc 0, 6, .inl (Bf 3))), ((Ba 4), .inl (tc 0, 6, .inl (Bf 4))), ((Ba 5), .inl (tc 0, 6, .inl (Bf 5))), ((Ba 6), .inl (tc 0, 6, .inl (Bf 6))), ((Ba 7), .inl (tc 0, 6, .inl (Bf 7))), ((Ba 8), .inl (tc 0, 6, .inl (Bf 8)))] H := hP
  have hD : va_D A [((Aa 0), .inr (9, [.int (Bv 0), .int (Bv 1), .int (Bv 2), .int (Bv 3), .int (Av 4), .int (Av 5), .ref (Aa 1), .ref (Aa 2), .ref (Aa 3), .ref (Aa 4), .ref (Aa 5), .ref (Aa 6), .ref (Aa 7), .ref (Aa 8)])), ((Aa 1), .inl (tc 0, 10, .inl (Af 1))), ((Aa 2), .inl (tc 0, 10, .inl (Af 2))), ((Aa 3), .inl (tc 0, 6, .inl (Af 3))), ((Aa 4), .inl (tc 0, 6, .inl (Af 4))), ((Aa 5), .inl (tc 0, 6, .inl (Af 5))), ((Aa 6), .inl (tc 0, 6, .inl (Af 6))), ((Aa 7), .inl (tc 0, 6, .inl (Af 7))), ((Aa 8), .inl (tc 0, 6, .inl (Af 8))), ((Ba 0), .inr (9, [.int (Bv 0), .int (Bv 1), .int (Bv 2), .int (Bv 3), .int (Bv 4), .int (Bv 5), .ref (Ba 1), .ref (Ba 2), .ref (Ba 3), .ref (Ba 4), .ref (Ba 5), .ref (Ba 6), .ref (Ba 7), .ref (Ba 8)])), ((Ba 1), .inl (tc 0, 10, .inl (Bf 1))), ((Ba 2), .inl (tc 0, 10, .inl (Bf 2))), ((Ba 3), .inl (tc 0, 6, .inl (Bf 3))), ((Ba 4), .inl (tc 0, 6, .inl (Bf 4))), ((Ba 5), .inl (tc 0, 6, .inl (Bf 5))), ((Ba 6), .inl (tc 0, 6, .inl (Bf 6))), ((Ba 7), .inl (tc 0, 6, .inl (Bf 7))), ((Ba 8), .inl (tc 0, 6, .inl (Bf 8)))] := hD
  refine lv_aload_n hx hb dX9_copyFrom_32 rfl (lv_at hl 0 rfl) ?_
  refine lv_aload_n hx hb dX9_copyFrom_33 rfl (lv_at hl 1 rfl) ?_
  refine gf_X9_24 hx hb hts hown hK hP 9 rfl rfl dX9_copyFrom_34 ?_
  refine pf_X9_24 hx hb hts hown hK hP hD hS 0 rfl (Nat.le_of_ble_eq_true rfl) rfl rfl dX9_copyFrom_37 (fun H locs hP hD hS => ?_)
  have hP : va_P D classes [((Aa 0), .inr (9, [.int (Bv 0), .int (Bv 1), .int (Bv 2), .int (Bv 3), .int (Bv 4), .int (Av 5), .ref (Aa 1), .ref (Aa 2), .ref (Aa 3), .ref (Aa 4), .ref (Aa 5), .ref (Aa 6), .ref (Aa 7), .ref (Aa 8)])), ((Aa 1), .inl (tc 0, 10, .inl (Af 1))), ((Aa 2), .inl (tc 0, 10, .inl (Af 2))), ((Aa 3), .inl (tc 0, 6, .inl (Af 3))), ((Aa 4), .inl (tc 0, 6, .inl (Af 4))), ((Aa 5), .inl (tc 0, 6, .inl (Af 5))), ((Aa 6), .inl (tc 0, 6, .inl (Af 6))), ((Aa 7), .inl (tc 0, 6, .inl (Af 7))), ((Aa 8), .inl (tc 0, 6, .inl (Af 8))), ((Ba 0), .inr (9, [.int (Bv 0), .int (Bv 1), .int (Bv 2), .int (Bv 3), .int (Bv 4), .int (Bv 5), .ref (Ba 1), .ref (Ba 2), .ref (Ba 3), .ref (Ba 4), .ref (Ba 5), .ref (Ba 6), .ref (Ba 7), .ref (Ba 8)])), ((Ba 1), .inl (tc 0, 10, .inl (Bf 1))), ((Ba 2), .inl (tc 0, 10, .inl (Bf 2))), ((Ba 3), .inl (tc 0, 6, .inl (Bf 3))), ((Ba 4), .inl (tc 0, 6, .inl (Bf 4))), ((Ba 5), .inl (tc 0, 6, .inl (Bf 5))), ((Ba 6), .inl (tc 0, 6, .inl (Bf 6))), ((Ba 7), .inl (tc 0, 6, .inl (Bf 7))), ((Ba 8), .inl (tc 0, 6, .inl (Bf 8)))] H := hP
  have hD : va_D A [((Aa 0), .inr (9, [.int (Bv 0), .int (Bv 1), .int (Bv 2), .int (Bv 3), .int (Bv 4), .int (Av 5), .ref (Aa 1), .ref (Aa 2), .ref (Aa 3), .ref (Aa 4), .ref (Aa 5), .ref (Aa 6), .ref (Aa 7), .ref (Aa 8)])), ((Aa 1), .inl (tc 0, 10, .inl (Af 1))), ((Aa 2), .inl (tc 0, 10, .inl (Af 2))), ((Aa 3), .inl (tc 0, 6, .inl (Af 3))), ((Aa 4), .inl (tc 0, 6, .inl (Af 4))), ((Aa 5), .inl (tc 0, 6, .inl (Af 5))), ((Aa 6), .inl (tc 0, 6, .inl (Af 6))), ((Aa 7), .inl (tc 0, 6, .inl (Af 7))), ((Aa 8), .inl (tc 0, 6, .inl (Af 8))), ((Ba 0), .inr (9, [.int (Bv 0), .int (Bv 1), .int (Bv 2), .int (Bv 3), .int (Bv 4), .int (Bv 5), .ref (Ba 1), .ref (Ba 2), .ref (Ba 3), .ref (Ba 4), .ref (Ba 5), .ref (Ba 6), .ref (Ba 7), .ref (Ba 8)])), ((Ba 1), .inl (tc 0, 10, .inl (Bf 1))), ((Ba 2), .inl (tc 0, 10, .inl (Bf 2))), ((Ba 3), .inl (tc 0, 6, .inl (Bf 3))), ((Ba 4), .inl (tc 0, 6, .inl (Bf 4))), ((Ba 5), .inl (tc 0, 6, .inl (Bf 5))), ((Ba 6), .inl (tc 0, 6, .inl (Bf 6))), ((Ba 7), .inl (tc 0, 6, .inl (Bf 7))), ((Ba 8), .inl (tc 0, 6, .inl (Bf 8)))] := hD
  refine lv_aload_n hx hb dX9_copyFrom_40 rfl (lv_at hl 0 rfl) ?_
  refine lv_aload_n hx hb dX9_copyFrom_41 rfl (lv_at hl 1 rfl) ?_
  refine gf_X9_27 hx hb hts hown hK hP 9 rfl rfl dX9_copyFrom_42 ?_
  refine pf_X9_27 hx hb hts hown hK hP hD hS 0 rfl (Nat.le_of_ble_eq_true rfl) rfl rfl dX9_copyFrom_45 (fun H locs hP hD hS => ?_)
  have hP : va_P D classes [((Aa 0), .inr (9, [.int (Bv 0), .int (Bv 1), .int (Bv 2), .int (Bv 3), .int (Bv 4), .int (Bv 5), .ref (Aa 1), .ref (Aa 2), .ref (Aa 3), .ref (Aa 4), .ref (Aa 5), .ref (Aa 6), .ref (Aa 7), .ref (Aa 8)])), ((Aa 1), .inl (tc 0, 10, .inl (Af 1))), ((Aa 2), .inl (tc 0, 10, .inl (Af 2))), ((Aa 3), .inl (tc 0, 6, .inl (Af 3))), ((Aa 4), .inl (tc 0, 6, .inl (Af 4))), ((Aa 5), .inl (tc 0, 6, .inl (Af 5))), ((Aa 6), .inl (tc 0, 6, .inl (Af 6))), ((Aa 7), .inl (tc 0, 6, .inl (Af 7))), ((Aa 8), .inl (tc 0, 6, .inl (Af 8))), ((Ba 0), .inr (9, [.int (Bv 0), .int (Bv 1), .int (Bv 2), .int (Bv 3), .int (Bv 4), .int (Bv 5), .ref (Ba 1), .ref (Ba 2), .ref (Ba 3), .ref (Ba 4), .ref (Ba 5), .ref (Ba 6), .ref (Ba 7), .ref (Ba 8)])), ((Ba 1), .inl (tc 0, 10, .inl (Bf 1))), ((Ba 2), .inl (tc 0, 10, .inl (Bf 2))), ((Ba 3), .inl (tc 0, 6, .inl (Bf 3))), ((Ba 4), .inl (tc 0, 6, .inl (Bf 4))), ((Ba 5), .inl (tc 0, 6, .inl (Bf 5))), ((Ba 6), .inl (tc 0, 6, .inl (Bf 6))), ((Ba 7), .inl (tc 0, 6, .inl (Bf 7))), ((Ba 8), .inl (tc 0, 6, .inl (Bf 8)))] H := hP
  have hD : va_D A [((Aa 0), .inr (9, [.int (Bv 0), .int (Bv 1), .int (Bv 2), .int (Bv 3), .int (Bv 4), .int (Bv 5), .ref (Aa 1), .ref (Aa 2), .ref (Aa 3), .ref (Aa 4), .ref (Aa 5), .ref (Aa 6), .ref (Aa 7), .ref (Aa 8)])), ((Aa 1), .inl (tc 0, 10, .inl (Af 1))), ((Aa 2), .inl (tc 0, 10, .inl (Af 2))), ((Aa 3), .inl (tc 0, 6, .inl (Af 3))), ((Aa 4), .inl (tc 0, 6, .inl (Af 4))), ((Aa 5), .inl (tc 0, 6, .inl (Af 5))), ((Aa 6), .inl (tc 0, 6, .inl (Af 6))), ((Aa 7), .inl (tc 0, 6, .inl (Af 7))), ((Aa 8), .inl (tc 0, 6, .inl (Af 8))), ((Ba 0), .inr (9, [.int (Bv 0), .int (Bv 1), .int (Bv 2), .int (Bv 3), .int (Bv 4), .int (Bv 5), .ref (Ba 1), .ref (Ba 2), .ref (Ba 3), .ref (Ba 4), .ref (Ba 5), .ref (Ba 6), .ref (Ba 7), .ref (Ba 8)])), ((Ba 1), .inl (tc 0, 10, .inl (Bf 1))), ((Ba 2), .inl (tc 0, 10, .inl (Bf 2))), ((Ba 3), .inl (tc 0, 6, .inl (Bf 3))), ((Ba 4), .inl (tc 0, 6, .inl (Bf 4))), ((Ba 5), .inl (tc 0, 6, .inl (Bf 5))), ((Ba 6), .inl (tc 0, 6, .inl (Bf 6))), ((Ba 7), .inl (tc 0, 6, .inl (Bf 7))), ((Ba 8), .inl (tc 0, 6, .inl (Bf 8)))] := hD
  refine lv_aload_n hx hb dX9_copyFrom_48 rfl (lv_at hl 1 rfl) ?_
  refine gf_X9_30 hx hb hts hown hK hP 9 rfl rfl dX9_copyFrom_49 ?_
  refine lv_iconst (v := 0) hx hb dX9_copyFrom_52 (by decide) ?_
  refine lv_aload_n hx hb dX9_copyFrom_53 rfl (lv_at hl 0 rfl) ?_
  refine gf_X9_30 hx hb hts hown hK hP 0 rfl rfl dX9_copyFrom_54 ?_
  refine lv_iconst (v := 0) hx hb dX9_copyFrom_57 (by decide) ?_
  refine lv_bipush (v := 10) hx hb dX9_copyFrom_58 (by decide) ?_
  refine cp_int hx hb (hml.trans hl.1.symm) hown (hts _ k_600) (hts _ k_602) (hts _ k_601) (hts _ k_111) hK hP hD hS 10 1 0 0 rfl rfl rfl rfl (by decide) (by decide) (by decide) (by decide) (by decide) (Nat.le_of_ble_eq_true rfl) (Nat.le_of_ble_eq_true rfl) dX9_copyFrom_60 (fun g_1 H locs eg_1 hP hD hS => ?_)
  have hP : va_P D classes [((Aa 0), .inr (9, [.int (Bv 0), .int (Bv 1), .int (Bv 2), .int (Bv 3), .int (Bv 4), .int (Bv 5), .ref (Aa 1), .ref (Aa 2), .ref (Aa 3), .ref (Aa 4), .ref (Aa 5), .ref (Aa 6), .ref (Aa 7), .ref (Aa 8)])), ((Aa 1), .inl (tc 0, 10, .inl g_1)), ((Aa 2), .inl (tc 0, 10, .inl (Af 2))), ((Aa 3), .inl (tc 0, 6, .inl (Af 3))), ((Aa 4), .inl (tc 0, 6, .inl (Af 4))), ((Aa 5), .inl (tc 0, 6, .inl (Af 5))), ((Aa 6), .inl (tc 0, 6, .inl (Af 6))), ((Aa 7), .inl (tc 0, 6, .inl (Af 7))), ((Aa 8), .inl (tc 0, 6, .inl (Af 8))), ((Ba 0), .inr (9, [.int (Bv 0), .int (Bv 1), .int (Bv 2), .int (Bv 3), .int (Bv 4), .int (Bv 5), .ref (Ba 1), .ref (Ba 2), .ref (Ba 3), .ref (Ba 4), .ref (Ba 5), .ref (Ba 6), .ref (Ba 7), .ref (Ba 8)])), ((Ba 1), .inl (tc 0, 10, .inl (Bf 1))), ((Ba 2), .inl (tc 0, 10, .inl (Bf 2))), ((Ba 3), .inl (tc 0, 6, .inl (Bf 3))), ((Ba 4), .inl (tc 0, 6, .inl (Bf 4))), ((Ba 5), .inl (tc 0, 6, .inl (Bf 5))), ((Ba 6), .inl (tc 0, 6, .inl (Bf 6))), ((Ba 7), .inl (tc 0, 6, .inl (Bf 7))), ((Ba 8), .inl (tc 0, 6, .inl (Bf 8)))] H := hP
  have hD : va_D A [((Aa 0), .inr (9, [.int (Bv 0), .int (Bv 1), .int (Bv 2), .int (Bv 3), .int (Bv 4), .int (Bv 5), .ref (Aa 1), .ref (Aa 2), .ref (Aa 3), .ref (Aa 4), .ref (Aa 5), .ref (Aa 6), .ref (Aa 7), .ref (Aa 8)])), ((Aa 1), .inl (tc 0, 10, .inl g_1)), ((Aa 2), .inl (tc 0, 10, .inl (Af 2))), ((Aa 3), .inl (tc 0, 6, .inl (Af 3))), ((Aa 4), .inl (tc 0, 6, .inl (Af 4))), ((Aa 5), .inl (tc 0, 6, .inl (Af 5))), ((Aa 6), .inl (tc 0, 6, .inl (Af 6))), ((Aa 7), .inl (tc 0, 6, .inl (Af 7))), ((Aa 8), .inl (tc 0, 6, .inl (Af 8))), ((Ba 0), .inr (9, [.int (Bv 0), .int (Bv 1), .int (Bv 2), .int (Bv 3), .int (Bv 4), .int (Bv 5), .ref (Ba 1), .ref (Ba 2), .ref (Ba 3), .ref (Ba 4), .ref (Ba 5), .ref (Ba 6), .ref (Ba 7), .ref (Ba 8)])), ((Ba 1), .inl (tc 0, 10, .inl (Bf 1))), ((Ba 2), .inl (tc 0, 10, .inl (Bf 2))), ((Ba 3), .inl (tc 0, 6, .inl (Bf 3))), ((Ba 4), .inl (tc 0, 6, .inl (Bf 4))), ((Ba 5), .inl (tc 0, 6, .inl (Bf 5))), ((Ba 6), .inl (tc 0, 6, .inl (Bf 6))), ((Ba 7), .inl (tc 0, 6, .inl (Bf 7))), ((Ba 8), .inl (tc 0, 6, .inl (Bf 8)))] := hD
  refine lv_aload_n hx hb dX9_copyFrom_63 rfl (lv_at hl 1 rfl) ?_
  refine gf_X9_34 hx hb hts hown hK hP 9 rfl rfl dX9_copyFrom_64 ?_
  refine lv_iconst (v := 0) hx hb dX9_copyFrom_67 (by decide) ?_
  refine lv_aload_n hx hb dX9_copyFrom_68 rfl (lv_at hl 0 rfl) ?_
  refine gf_X9_34 hx hb hts hown hK hP 0 rfl rfl dX9_copyFrom_69 ?_
  refine lv_iconst (v := 0) hx hb dX9_copyFrom_72 (by decide) ?_
  refine lv_bipush (v := 10) hx hb dX9_copyFrom_73 (by decide) ?_
  refine cp_int hx hb (hml.trans hl.1.symm) hown (hts _ k_600) (hts _ k_602) (hts _ k_601) (hts _ k_111) hK hP hD hS 11 2 0 0 rfl rfl rfl rfl (by decide) (by decide) (by decide) (by decide) (by decide) (Nat.le_of_ble_eq_true rfl) (Nat.le_of_ble_eq_true rfl) dX9_copyFrom_75 (fun g_2 H locs eg_2 hP hD hS => ?_)
  have hP : va_P D classes [((Aa 0), .inr (9, [.int (Bv 0), .int (Bv 1), .int (Bv 2), .int (Bv 3), .int (Bv 4), .int (Bv 5), .ref (Aa 1), .ref (Aa 2), .ref (Aa 3), .ref (Aa 4), .ref (Aa 5), .ref (Aa 6), .ref (Aa 7), .ref (Aa 8)])), ((Aa 1), .inl (tc 0, 10, .inl g_1)), ((Aa 2), .inl (tc 0, 10, .inl g_2)), ((Aa 3), .inl (tc 0, 6, .inl (Af 3))), ((Aa 4), .inl (tc 0, 6, .inl (Af 4))), ((Aa 5), .inl (tc 0, 6, .inl (Af 5))), ((Aa 6), .inl (tc 0, 6, .inl (Af 6))), ((Aa 7), .inl (tc 0, 6, .inl (Af 7))), ((Aa 8), .inl (tc 0, 6, .inl (Af 8))), ((Ba 0), .inr (9, [.int (Bv 0), .int (Bv 1), .int (Bv 2), .int (Bv 3), .int (Bv 4), .int (Bv 5), .ref (Ba 1), .ref (Ba 2), .ref (Ba 3), .ref (Ba 4), .ref (Ba 5), .ref (Ba 6), .ref (Ba 7), .ref (Ba 8)])), ((Ba 1), .inl (tc 0, 10, .inl (Bf 1))), ((Ba 2), .inl (tc 0, 10, .inl (Bf 2))), ((Ba 3), .inl (tc 0, 6, .inl (Bf 3))), ((Ba 4), .inl (tc 0, 6, .inl (Bf 4))), ((Ba 5), .inl (tc 0, 6, .inl (Bf 5))), ((Ba 6), .inl (tc 0, 6, .inl (Bf 6))), ((Ba 7), .inl (tc 0, 6, .inl (Bf 7))), ((Ba 8), .inl (tc 0, 6, .inl (Bf 8)))] H := hP
  have hD : va_D A [((Aa 0), .inr (9, [.int (Bv 0), .int (Bv 1), .int (Bv 2), .int (Bv 3), .int (Bv 4), .int (Bv 5), .ref (Aa 1), .ref (Aa 2), .ref (Aa 3), .ref (Aa 4), .ref (Aa 5), .ref (Aa 6), .ref (Aa 7), .ref (Aa 8)])), ((Aa 1), .inl (tc 0, 10, .inl g_1)), ((Aa 2), .inl (tc 0, 10, .inl g_2)), ((Aa 3), .inl (tc 0, 6, .inl (Af 3))), ((Aa 4), .inl (tc 0, 6, .inl (Af 4))), ((Aa 5), .inl (tc 0, 6, .inl (Af 5))), ((Aa 6), .inl (tc 0, 6, .inl (Af 6))), ((Aa 7), .inl (tc 0, 6, .inl (Af 7))), ((Aa 8), .inl (tc 0, 6, .inl (Af 8))), ((Ba 0), .inr (9, [.int (Bv 0), .int (Bv 1), .int (Bv 2), .int (Bv 3), .int (Bv 4), .int (Bv 5), .ref (Ba 1), .ref (Ba 2), .ref (Ba 3), .ref (Ba 4), .ref (Ba 5), .ref (Ba 6), .ref (Ba 7), .ref (Ba 8)])), ((Ba 1), .inl (tc 0, 10, .inl (Bf 1))), ((Ba 2), .inl (tc 0, 10, .inl (Bf 2))), ((Ba 3), .inl (tc 0, 6, .inl (Bf 3))), ((Ba 4), .inl (tc 0, 6, .inl (Bf 4))), ((Ba 5), .inl (tc 0, 6, .inl (Bf 5))), ((Ba 6), .inl (tc 0, 6, .inl (Bf 6))), ((Ba 7), .inl (tc 0, 6, .inl (Bf 7))), ((Ba 8), .inl (tc 0, 6, .inl (Bf 8)))] := hD
  refine lv_aload_n hx hb dX9_copyFrom_78 rfl (lv_at hl 1 rfl) ?_
  refine gf_X9_37 hx hb hts hown hK hP 9 rfl rfl dX9_copyFrom_79 ?_
  refine lv_iconst (v := 0) hx hb dX9_copyFrom_82 (by decide) ?_
  refine lv_aload_n hx hb dX9_copyFrom_83 rfl (lv_at hl 0 rfl) ?_
  refine gf_X9_37 hx hb hts hown hK hP 0 rfl rfl dX9_copyFrom_84 ?_
  refine lv_iconst (v := 0) hx hb dX9_copyFrom_87 (by decide) ?_
  refine lv_bipush (v := 6) hx hb dX9_copyFrom_88 (by decide) ?_
  refine cp_int hx hb (hml.trans hl.1.symm) hown (hts _ k_600) (hts _ k_602) (hts _ k_601) (hts _ k_111) hK hP hD hS 12 3 0 0 rfl rfl rfl rfl (by decide) (by decide) (by decide) (by decide) (by decide) (Nat.le_of_ble_eq_true rfl) (Nat.le_of_ble_eq_true rfl) dX9_copyFrom_90 (fun g_3 H locs eg_3 hP hD hS => ?_)
  have hP : va_P D classes [((Aa 0), .inr (9, [.int (Bv 0), .int (Bv 1), .int (Bv 2), .int (Bv 3), .int (Bv 4), .int (Bv 5), .ref (Aa 1), .ref (Aa 2), .ref (Aa 3), .ref (Aa 4), .ref (Aa 5), .ref (Aa 6), .ref (Aa 7), .ref (Aa 8)])), ((Aa 1), .inl (tc 0, 10, .inl g_1)), ((Aa 2), .inl (tc 0, 10, .inl g_2)), ((Aa 3), .inl (tc 0, 6, .inl g_3)), ((Aa 4), .inl (tc 0, 6, .inl (Af 4))), ((Aa 5), .inl (tc 0, 6, .inl (Af 5))), ((Aa 6), .inl (tc 0, 6, .inl (Af 6))), ((Aa 7), .inl (tc 0, 6, .inl (Af 7))), ((Aa 8), .inl (tc 0, 6, .inl (Af 8))), ((Ba 0), .inr (9, [.int (Bv 0), .int (Bv 1), .int (Bv 2), .int (Bv 3), .int (Bv 4), .int (Bv 5), .ref (Ba 1), .ref (Ba 2), .ref (Ba 3), .ref (Ba 4), .ref (Ba 5), .ref (Ba 6), .ref (Ba 7), .ref (Ba 8)])), ((Ba 1), .inl (tc 0, 10, .inl (Bf 1))), ((Ba 2), .inl (tc 0, 10, .inl (Bf 2))), ((Ba 3), .inl (tc 0, 6, .inl (Bf 3))), ((Ba 4), .inl (tc 0, 6, .inl (Bf 4))), ((Ba 5), .inl (tc 0, 6, .inl (Bf 5))), ((Ba 6), .inl (tc 0, 6, .inl (Bf 6))), ((Ba 7), .inl (tc 0, 6, .inl (Bf 7))), ((Ba 8), .inl (tc 0, 6, .inl (Bf 8)))] H := hP
  have hD : va_D A [((Aa 0), .inr (9, [.int (Bv 0), .int (Bv 1), .int (Bv 2), .int (Bv 3), .int (Bv 4), .int (Bv 5), .ref (Aa 1), .ref (Aa 2), .ref (Aa 3), .ref (Aa 4), .ref (Aa 5), .ref (Aa 6), .ref (Aa 7), .ref (Aa 8)])), ((Aa 1), .inl (tc 0, 10, .inl g_1)), ((Aa 2), .inl (tc 0, 10, .inl g_2)), ((Aa 3), .inl (tc 0, 6, .inl g_3)), ((Aa 4), .inl (tc 0, 6, .inl (Af 4))), ((Aa 5), .inl (tc 0, 6, .inl (Af 5))), ((Aa 6), .inl (tc 0, 6, .inl (Af 6))), ((Aa 7), .inl (tc 0, 6, .inl (Af 7))), ((Aa 8), .inl (tc 0, 6, .inl (Af 8))), ((Ba 0), .inr (9, [.int (Bv 0), .int (Bv 1), .int (Bv 2), .int (Bv 3), .int (Bv 4), .int (Bv 5), .ref (Ba 1), .ref (Ba 2), .ref (Ba 3), .ref (Ba 4), .ref (Ba 5), .ref (Ba 6), .ref (Ba 7), .ref (Ba 8)])), ((Ba 1), .inl (tc 0, 10, .inl (Bf 1))), ((Ba 2), .inl (tc 0, 10, .inl (Bf 2))), ((Ba 3), .inl (tc 0, 6, .inl (Bf 3))), ((Ba 4), .inl (tc 0, 6, .inl (Bf 4))), ((Ba 5), .inl (tc 0, 6, .inl (Bf 5))), ((Ba 6), .inl (tc 0, 6, .inl (Bf 6))), ((Ba 7), .inl (tc 0, 6, .inl (Bf 7))), ((Ba 8), .inl (tc 0, 6, .inl (Bf 8)))] := hD
  refine lv_aload_n hx hb dX9_copyFrom_93 rfl (lv_at hl 1 rfl) ?_
  refine gf_X9_40 hx hb hts hown hK hP 9 rfl rfl dX9_copyFrom_94 ?_
  refine lv_iconst (v := 0) hx hb dX9_copyFrom_97 (by decide) ?_
  refine lv_aload_n hx hb dX9_copyFrom_98 rfl (lv_at hl 0 rfl) ?_
  refine gf_X9_40 hx hb hts hown hK hP 0 rfl rfl dX9_copyFrom_99 ?_
  refine lv_iconst (v := 0) hx hb dX9_copyFrom_102 (by decide) ?_
  refine lv_bipush (v := 6) hx hb dX9_copyFrom_103 (by decide) ?_
  refine cp_int hx hb (hml.trans hl.1.symm) hown (hts _ k_600) (hts _ k_602) (hts _ k_601) (hts _ k_111) hK hP hD hS 13 4 0 0 rfl rfl rfl rfl (by decide) (by decide) (by decide) (by decide) (by decide) (Nat.le_of_ble_eq_true rfl) (Nat.le_of_ble_eq_true rfl) dX9_copyFrom_105 (fun g_4 H locs eg_4 hP hD hS => ?_)
  have hP : va_P D classes [((Aa 0), .inr (9, [.int (Bv 0), .int (Bv 1), .int (Bv 2), .int (Bv 3), .int (Bv 4), .int (Bv 5), .ref (Aa 1), .ref (Aa 2), .ref (Aa 3), .ref (Aa 4), .ref (Aa 5), .ref (Aa 6), .ref (Aa 7), .ref (Aa 8)])), ((Aa 1), .inl (tc 0, 10, .inl g_1)), ((Aa 2), .inl (tc 0, 10, .inl g_2)), ((Aa 3), .inl (tc 0, 6, .inl g_3)), ((Aa 4), .inl (tc 0, 6, .inl g_4)), ((Aa 5), .inl (tc 0, 6, .inl (Af 5))), ((Aa 6), .inl (tc 0, 6, .inl (Af 6))), ((Aa 7), .inl (tc 0, 6, .inl (Af 7))), ((Aa 8), .inl (tc 0, 6, .inl (Af 8))), ((Ba 0), .inr (9, [.int (Bv 0), .int (Bv 1), .int (Bv 2), .int (Bv 3), .int (Bv 4), .int (Bv 5), .ref (Ba 1), .ref (Ba 2), .ref (Ba 3), .ref (Ba 4), .ref (Ba 5), .ref (Ba 6), .ref (Ba 7), .ref (Ba 8)])), ((Ba 1), .inl (tc 0, 10, .inl (Bf 1))), ((Ba 2), .inl (tc 0, 10, .inl (Bf 2))), ((Ba 3), .inl (tc 0, 6, .inl (Bf 3))), ((Ba 4), .inl (tc 0, 6, .inl (Bf 4))), ((Ba 5), .inl (tc 0, 6, .inl (Bf 5))), ((Ba 6), .inl (tc 0, 6, .inl (Bf 6))), ((Ba 7), .inl (tc 0, 6, .inl (Bf 7))), ((Ba 8), .inl (tc 0, 6, .inl (Bf 8)))] H := hP
  have hD : va_D A [((Aa 0), .inr (9, [.int (Bv 0), .int (Bv 1), .int (Bv 2), .int (Bv 3), .int (Bv 4), .int (Bv 5), .ref (Aa 1), .ref (Aa 2), .ref (Aa 3), .ref (Aa 4), .ref (Aa 5), .ref (Aa 6), .ref (Aa 7), .ref (Aa 8)])), ((Aa 1), .inl (tc 0, 10, .inl g_1)), ((Aa 2), .inl (tc 0, 10, .inl g_2)), ((Aa 3), .inl (tc 0, 6, .inl g_3)), ((Aa 4), .inl (tc 0, 6, .inl g_4)), ((Aa 5), .inl (tc 0, 6, .inl (Af 5))), ((Aa 6), .inl (tc 0, 6, .inl (Af 6))), ((Aa 7), .inl (tc 0, 6, .inl (Af 7))), ((Aa 8), .inl (tc 0, 6, .inl (Af 8))), ((Ba 0), .inr (9, [.int (Bv 0), .int (Bv 1), .int (Bv 2), .int (Bv 3), .int (Bv 4), .int (Bv 5), .ref (Ba 1), .ref (Ba 2), .ref (Ba 3), .ref (Ba 4), .ref (Ba 5), .ref (Ba 6), .ref (Ba 7), .ref (Ba 8)])), ((Ba 1), .inl (tc 0, 10, .inl (Bf 1))), ((Ba 2), .inl (tc 0, 10, .inl (Bf 2))), ((Ba 3), .inl (tc 0, 6, .inl (Bf 3))), ((Ba 4), .inl (tc 0, 6, .inl (Bf 4))), ((Ba 5), .inl (tc 0, 6, .inl (Bf 5))), ((Ba 6), .inl (tc 0, 6, .inl (Bf 6))), ((Ba 7), .inl (tc 0, 6, .inl (Bf 7))), ((Ba 8), .inl (tc 0, 6, .inl (Bf 8)))] := hD
  refine lv_aload_n hx hb dX9_copyFrom_108 rfl (lv_at hl 1 rfl) ?_
  refine gf_X9_43 hx hb hts hown hK hP 9 rfl rfl dX9_copyFrom_109 ?_
  refine lv_iconst (v := 0) hx hb dX9_copyFrom_112 (by decide) ?_
  refine lv_aload_n hx hb dX9_copyFrom_113 rfl (lv_at hl 0 rfl) ?_
  refine gf_X9_43 hx hb hts hown hK hP 0 rfl rfl dX9_copyFrom_114 ?_
  refine lv_iconst (v := 0) hx hb dX9_copyFrom_117 (by decide) ?_
  refine lv_bipush (v := 6) hx hb dX9_copyFrom_118 (by decide) ?_
  refine cp_int hx hb (hml.trans hl.1.symm) hown (hts _ k_600) (hts _ k_602) (hts _ k_601) (hts _ k_111) hK hP hD hS 14 5 0 0 rfl rfl rfl rfl (by decide) (by decide) (by decide) (by decide) (by decide) (Nat.le_of_ble_eq_true rfl) (Nat.le_of_ble_eq_true rfl) dX9_copyFrom_120 (fun g_5 H locs eg_5 hP hD hS => ?_)
  have hP : va_P D classes [((Aa 0), .inr (9, [.int (Bv 0), .int (Bv 1), .int (Bv 2), .int (Bv 3), .int (Bv 4), .int (Bv 5), .ref (Aa 1), .ref (Aa 2), .ref (Aa 3), .ref (Aa 4), .ref (Aa 5), .ref (Aa 6), .ref (Aa 7), .ref (Aa 8)])), ((Aa 1), .inl (tc 0, 10, .inl g_1)), ((Aa 2), .inl (tc 0, 10, .inl g_2)), ((Aa 3), .inl (tc 0, 6, .inl g_3)), ((Aa 4), .inl (tc 0, 6, .inl g_4)), ((Aa 5), .inl (tc 0, 6, .inl g_5)), ((Aa 6), .inl (tc 0, 6, .inl (Af 6))), ((Aa 7), .inl (tc 0, 6, .inl (Af 7))), ((Aa 8), .inl (tc 0, 6, .inl (Af 8))), ((Ba 0), .inr (9, [.int (Bv 0), .int (Bv 1), .int (Bv 2), .int (Bv 3), .int (Bv 4), .int (Bv 5), .ref (Ba 1), .ref (Ba 2), .ref (Ba 3), .ref (Ba 4), .ref (Ba 5), .ref (Ba 6), .ref (Ba 7), .ref (Ba 8)])), ((Ba 1), .inl (tc 0, 10, .inl (Bf 1))), ((Ba 2), .inl (tc 0, 10, .inl (Bf 2))), ((Ba 3), .inl (tc 0, 6, .inl (Bf 3))), ((Ba 4), .inl (tc 0, 6, .inl (Bf 4))), ((Ba 5), .inl (tc 0, 6, .inl (Bf 5))), ((Ba 6), .inl (tc 0, 6, .inl (Bf 6))), ((Ba 7), .inl (tc 0, 6, .inl (Bf 7))), ((Ba 8), .inl (tc 0, 6, .inl (Bf 8)))] H := hP
  have hD : va_D A [((Aa 0), .inr (9, [.int (Bv 0), .int (Bv 1), .int (Bv 2), .int (Bv 3), .int (Bv 4), .int (Bv 5), .ref (Aa 1), .ref (Aa 2), .ref (Aa 3), .ref (Aa 4), .ref (Aa 5), .ref (Aa 6), .ref (Aa 7), .ref (Aa 8)])), ((Aa 1), .inl (tc 0, 10, .inl g_1)), ((Aa 2), .inl (tc 0, 10, .inl g_2)), ((Aa 3), .inl (tc 0, 6, .inl g_3)), ((Aa 4), .inl (tc 0, 6, .inl g_4)), ((Aa 5), .inl (tc 0, 6, .inl g_5)), ((Aa 6), .inl (tc 0, 6, .inl (Af 6))), ((Aa 7), .inl (tc 0, 6, .inl (Af 7))), ((Aa 8), .inl (tc 0, 6, .inl (Af 8))), ((Ba 0), .inr (9, [.int (Bv 0), .int (Bv 1), .int (Bv 2), .int (Bv 3), .int (Bv 4), .int (Bv 5), .ref (Ba 1), .ref (Ba 2), .ref (Ba 3), .ref (Ba 4), .ref (Ba 5), .ref (Ba 6), .ref (Ba 7), .ref (Ba 8)])), ((Ba 1), .inl (tc 0, 10, .inl (Bf 1))), ((Ba 2), .inl (tc 0, 10, .inl (Bf 2))), ((Ba 3), .inl (tc 0, 6, .inl (Bf 3))), ((Ba 4), .inl (tc 0, 6, .inl (Bf 4))), ((Ba 5), .inl (tc 0, 6, .inl (Bf 5))), ((Ba 6), .inl (tc 0, 6, .inl (Bf 6))), ((Ba 7), .inl (tc 0, 6, .inl (Bf 7))), ((Ba 8), .inl (tc 0, 6, .inl (Bf 8)))] := hD
  refine lv_aload_n hx hb dX9_copyFrom_123 rfl (lv_at hl 1 rfl) ?_
  refine gf_X9_46 hx hb hts hown hK hP 9 rfl rfl dX9_copyFrom_124 ?_
  refine lv_iconst (v := 0) hx hb dX9_copyFrom_127 (by decide) ?_
  refine lv_aload_n hx hb dX9_copyFrom_128 rfl (lv_at hl 0 rfl) ?_
  refine gf_X9_46 hx hb hts hown hK hP 0 rfl rfl dX9_copyFrom_129 ?_
  refine lv_iconst (v := 0) hx hb dX9_copyFrom_132 (by decide) ?_
  refine lv_bipush (v := 6) hx hb dX9_copyFrom_133 (by decide) ?_
  refine cp_int hx hb (hml.trans hl.1.symm) hown (hts _ k_600) (hts _ k_602) (hts _ k_601) (hts _ k_111) hK hP hD hS 15 6 0 0 rfl rfl rfl rfl (by decide) (by decide) (by decide) (by decide) (by decide) (Nat.le_of_ble_eq_true rfl) (Nat.le_of_ble_eq_true rfl) dX9_copyFrom_135 (fun g_6 H locs eg_6 hP hD hS => ?_)
  have hP : va_P D classes [((Aa 0), .inr (9, [.int (Bv 0), .int (Bv 1), .int (Bv 2), .int (Bv 3), .int (Bv 4), .int (Bv 5), .ref (Aa 1), .ref (Aa 2), .ref (Aa 3), .ref (Aa 4), .ref (Aa 5), .ref (Aa 6), .ref (Aa 7), .ref (Aa 8)])), ((Aa 1), .inl (tc 0, 10, .inl g_1)), ((Aa 2), .inl (tc 0, 10, .inl g_2)), ((Aa 3), .inl (tc 0, 6, .inl g_3)), ((Aa 4), .inl (tc 0, 6, .inl g_4)), ((Aa 5), .inl (tc 0, 6, .inl g_5)), ((Aa 6), .inl (tc 0, 6, .inl g_6)), ((Aa 7), .inl (tc 0, 6, .inl (Af 7))), ((Aa 8), .inl (tc 0, 6, .inl (Af 8))), ((Ba 0), .inr (9, [.int (Bv 0), .int (Bv 1), .int (Bv 2), .int (Bv 3), .int (Bv 4), .int (Bv 5), .ref (Ba 1), .ref (Ba 2), .ref (Ba 3), .ref (Ba 4), .ref (Ba 5), .ref (Ba 6), .ref (Ba 7), .ref (Ba 8)])), ((Ba 1), .inl (tc 0, 10, .inl (Bf 1))), ((Ba 2), .inl (tc 0, 10, .inl (Bf 2))), ((Ba 3), .inl (tc 0, 6, .inl (Bf 3))), ((Ba 4), .inl (tc 0, 6, .inl (Bf 4))), ((Ba 5), .inl (tc 0, 6, .inl (Bf 5))), ((Ba 6), .inl (tc 0, 6, .inl (Bf 6))), ((Ba 7), .inl (tc 0, 6, .inl (Bf 7))), ((Ba 8), .inl (tc 0, 6, .inl (Bf 8)))] H := hP
  have hD : va_D A [((Aa 0), .inr (9, [.int (Bv 0), .int (Bv 1), .int (Bv 2), .int (Bv 3), .int (Bv 4), .int (Bv 5), .ref (Aa 1), .ref (Aa 2), .ref (Aa 3), .ref (Aa 4), .ref (Aa 5), .ref (Aa 6), .ref (Aa 7), .ref (Aa 8)])), ((Aa 1), .inl (tc 0, 10, .inl g_1)), ((Aa 2), .inl (tc 0, 10, .inl g_2)), ((Aa 3), .inl (tc 0, 6, .inl g_3)), ((Aa 4), .inl (tc 0, 6, .inl g_4)), ((Aa 5), .inl (tc 0, 6, .inl g_5)), ((Aa 6), .inl (tc 0, 6, .inl g_6)), ((Aa 7), .inl (tc 0, 6, .inl (Af 7))), ((Aa 8), .inl (tc 0, 6, .inl (Af 8))), ((Ba 0), .inr (9, [.int (Bv 0), .int (Bv 1), .int (Bv 2), .int (Bv 3), .int (Bv 4), .int (Bv 5), .ref (Ba 1), .ref (Ba 2), .ref (Ba 3), .ref (Ba 4), .ref (Ba 5), .ref (Ba 6), .ref (Ba 7), .ref (Ba 8)])), ((Ba 1), .inl (tc 0, 10, .inl (Bf 1))), ((Ba 2), .inl (tc 0, 10, .inl (Bf 2))), ((Ba 3), .inl (tc 0, 6, .inl (Bf 3))), ((Ba 4), .inl (tc 0, 6, .inl (Bf 4))), ((Ba 5), .inl (tc 0, 6, .inl (Bf 5))), ((Ba 6), .inl (tc 0, 6, .inl (Bf 6))), ((Ba 7), .inl (tc 0, 6, .inl (Bf 7))), ((Ba 8), .inl (tc 0, 6, .inl (Bf 8)))] := hD
  refine lv_aload_n hx hb dX9_copyFrom_138 rfl (lv_at hl 1 rfl) ?_
  refine gf_X9_49 hx hb hts hown hK hP 9 rfl rfl dX9_copyFrom_139 ?_
  refine lv_iconst (v := 0) hx hb dX9_copyFrom_142 (by decide) ?_
  refine lv_aload_n hx hb dX9_copyFrom_143 rfl (lv_at hl 0 rfl) ?_
  refine gf_X9_49 hx hb hts hown hK hP 0 rfl rfl dX9_copyFrom_144 ?_
  refine lv_iconst (v := 0) hx hb dX9_copyFrom_147 (by decide) ?_
  refine lv_bipush (v := 6) hx hb dX9_copyFrom_148 (by decide) ?_
  refine cp_int hx hb (hml.trans hl.1.symm) hown (hts _ k_600) (hts _ k_602) (hts _ k_601) (hts _ k_111) hK hP hD hS 16 7 0 0 rfl rfl rfl rfl (by decide) (by decide) (by decide) (by decide) (by decide) (Nat.le_of_ble_eq_true rfl) (Nat.le_of_ble_eq_true rfl) dX9_copyFrom_150 (fun g_7 H locs eg_7 hP hD hS => ?_)
  have hP : va_P D classes [((Aa 0), .inr (9, [.int (Bv 0), .int (Bv 1), .int (Bv 2), .int (Bv 3), .int (Bv 4), .int (Bv 5), .ref (Aa 1), .ref (Aa 2), .ref (Aa 3), .ref (Aa 4), .ref (Aa 5), .ref (Aa 6), .ref (Aa 7), .ref (Aa 8)])), ((Aa 1), .inl (tc 0, 10, .inl g_1)), ((Aa 2), .inl (tc 0, 10, .inl g_2)), ((Aa 3), .inl (tc 0, 6, .inl g_3)), ((Aa 4), .inl (tc 0, 6, .inl g_4)), ((Aa 5), .inl (tc 0, 6, .inl g_5)), ((Aa 6), .inl (tc 0, 6, .inl g_6)), ((Aa 7), .inl (tc 0, 6, .inl g_7)), ((Aa 8), .inl (tc 0, 6, .inl (Af 8))), ((Ba 0), .inr (9, [.int (Bv 0), .int (Bv 1), .int (Bv 2), .int (Bv 3), .int (Bv 4), .int (Bv 5), .ref (Ba 1), .ref (Ba 2), .ref (Ba 3), .ref (Ba 4), .ref (Ba 5), .ref (Ba 6), .ref (Ba 7), .ref (Ba 8)])), ((Ba 1), .inl (tc 0, 10, .inl (Bf 1))), ((Ba 2), .inl (tc 0, 10, .inl (Bf 2))), ((Ba 3), .inl (tc 0, 6, .inl (Bf 3))), ((Ba 4), .inl (tc 0, 6, .inl (Bf 4))), ((Ba 5), .inl (tc 0, 6, .inl (Bf 5))), ((Ba 6), .inl (tc 0, 6, .inl (Bf 6))), ((Ba 7), .inl (tc 0, 6, .inl (Bf 7))), ((Ba 8), .inl (tc 0, 6, .inl (Bf 8)))] H := hP
  have hD : va_D A [((Aa 0), .inr (9, [.int (Bv 0), .int (Bv 1), .int (Bv 2), .int (Bv 3), .int (Bv 4), .int (Bv 5), .ref (Aa 1), .ref (Aa 2), .ref (Aa 3), .ref (Aa 4), .ref (Aa 5), .ref (Aa 6), .ref (Aa 7), .ref (Aa 8)])), ((Aa 1), .inl (tc 0, 10, .inl g_1)), ((Aa 2), .inl (tc 0, 10, .inl g_2)), ((Aa 3), .inl (tc 0, 6, .inl g_3)), ((Aa 4), .inl (tc 0, 6, .inl g_4)), ((Aa 5), .inl (tc 0, 6, .inl g_5)), ((Aa 6), .inl (tc 0, 6, .inl g_6)), ((Aa 7), .inl (tc 0, 6, .inl g_7)), ((Aa 8), .inl (tc 0, 6, .inl (Af 8))), ((Ba 0), .inr (9, [.int (Bv 0), .int (Bv 1), .int (Bv 2), .int (Bv 3), .int (Bv 4), .int (Bv 5), .ref (Ba 1), .ref (Ba 2), .ref (Ba 3), .ref (Ba 4), .ref (Ba 5), .ref (Ba 6), .ref (Ba 7), .ref (Ba 8)])), ((Ba 1), .inl (tc 0, 10, .inl (Bf 1))), ((Ba 2), .inl (tc 0, 10, .inl (Bf 2))), ((Ba 3), .inl (tc 0, 6, .inl (Bf 3))), ((Ba 4), .inl (tc 0, 6, .inl (Bf 4))), ((Ba 5), .inl (tc 0, 6, .inl (Bf 5))), ((Ba 6), .inl (tc 0, 6, .inl (Bf 6))), ((Ba 7), .inl (tc 0, 6, .inl (Bf 7))), ((Ba 8), .inl (tc 0, 6, .inl (Bf 8)))] := hD
  refine lv_aload_n hx hb dX9_copyFrom_153 rfl (lv_at hl 1 rfl) ?_
  refine gf_X9_52 hx hb hts hown hK hP 9 rfl rfl dX9_copyFrom_154 ?_
  refine lv_iconst (v := 0) hx hb dX9_copyFrom_157 (by decide) ?_
  refine lv_aload_n hx hb dX9_copyFrom_158 rfl (lv_at hl 0 rfl) ?_
  refine gf_X9_52 hx hb hts hown hK hP 0 rfl rfl dX9_copyFrom_159 ?_
  refine lv_iconst (v := 0) hx hb dX9_copyFrom_162 (by decide) ?_
  refine lv_bipush (v := 6) hx hb dX9_copyFrom_163 (by decide) ?_
  refine cp_int hx hb (hml.trans hl.1.symm) hown (hts _ k_600) (hts _ k_602) (hts _ k_601) (hts _ k_111) hK hP hD hS 17 8 0 0 rfl rfl rfl rfl (by decide) (by decide) (by decide) (by decide) (by decide) (Nat.le_of_ble_eq_true rfl) (Nat.le_of_ble_eq_true rfl) dX9_copyFrom_165 (fun g_8 H locs eg_8 hP hD hS => ?_)
  have hP : va_P D classes [((Aa 0), .inr (9, [.int (Bv 0), .int (Bv 1), .int (Bv 2), .int (Bv 3), .int (Bv 4), .int (Bv 5), .ref (Aa 1), .ref (Aa 2), .ref (Aa 3), .ref (Aa 4), .ref (Aa 5), .ref (Aa 6), .ref (Aa 7), .ref (Aa 8)])), ((Aa 1), .inl (tc 0, 10, .inl g_1)), ((Aa 2), .inl (tc 0, 10, .inl g_2)), ((Aa 3), .inl (tc 0, 6, .inl g_3)), ((Aa 4), .inl (tc 0, 6, .inl g_4)), ((Aa 5), .inl (tc 0, 6, .inl g_5)), ((Aa 6), .inl (tc 0, 6, .inl g_6)), ((Aa 7), .inl (tc 0, 6, .inl g_7)), ((Aa 8), .inl (tc 0, 6, .inl g_8)), ((Ba 0), .inr (9, [.int (Bv 0), .int (Bv 1), .int (Bv 2), .int (Bv 3), .int (Bv 4), .int (Bv 5), .ref (Ba 1), .ref (Ba 2), .ref (Ba 3), .ref (Ba 4), .ref (Ba 5), .ref (Ba 6), .ref (Ba 7), .ref (Ba 8)])), ((Ba 1), .inl (tc 0, 10, .inl (Bf 1))), ((Ba 2), .inl (tc 0, 10, .inl (Bf 2))), ((Ba 3), .inl (tc 0, 6, .inl (Bf 3))), ((Ba 4), .inl (tc 0, 6, .inl (Bf 4))), ((Ba 5), .inl (tc 0, 6, .inl (Bf 5))), ((Ba 6), .inl (tc 0, 6, .inl (Bf 6))), ((Ba 7), .inl (tc 0, 6, .inl (Bf 7))), ((Ba 8), .inl (tc 0, 6, .inl (Bf 8)))] H := hP
  have hD : va_D A [((Aa 0), .inr (9, [.int (Bv 0), .int (Bv 1), .int (Bv 2), .int (Bv 3), .int (Bv 4), .int (Bv 5), .ref (Aa 1), .ref (Aa 2), .ref (Aa 3), .ref (Aa 4), .ref (Aa 5), .ref (Aa 6), .ref (Aa 7), .ref (Aa 8)])), ((Aa 1), .inl (tc 0, 10, .inl g_1)), ((Aa 2), .inl (tc 0, 10, .inl g_2)), ((Aa 3), .inl (tc 0, 6, .inl g_3)), ((Aa 4), .inl (tc 0, 6, .inl g_4)), ((Aa 5), .inl (tc 0, 6, .inl g_5)), ((Aa 6), .inl (tc 0, 6, .inl g_6)), ((Aa 7), .inl (tc 0, 6, .inl g_7)), ((Aa 8), .inl (tc 0, 6, .inl g_8)), ((Ba 0), .inr (9, [.int (Bv 0), .int (Bv 1), .int (Bv 2), .int (Bv 3), .int (Bv 4), .int (Bv 5), .ref (Ba 1), .ref (Ba 2), .ref (Ba 3), .ref (Ba 4), .ref (Ba 5), .ref (Ba 6), .ref (Ba 7), .ref (Ba 8)])), ((Ba 1), .inl (tc 0, 10, .inl (Bf 1))), ((Ba 2), .inl (tc 0, 10, .inl (Bf 2))), ((Ba 3), .inl (tc 0, 6, .inl (Bf 3))), ((Ba 4), .inl (tc 0, 6, .inl (Bf 4))), ((Ba 5), .inl (tc 0, 6, .inl (Bf 5))), ((Ba 6), .inl (tc 0, 6, .inl (Bf 6))), ((Ba 7), .inl (tc 0, 6, .inl (Bf 7))), ((Ba 8), .inl (tc 0, 6, .inl (Bf 8)))] := hD
  exact retV hx hb hr hlk hP hD hS (g_1, g_2, g_3, g_4, g_5, g_6, g_7, g_8) rfl [0, 1, 2, 3, 4, 5, 6, 7, 8, 9, 10, 11, 12, 13, 14, 15, 16, 17] rfl rfl dX9_copyFrom_168 (Nat.le_of_ble_eq_true rfl) (Nat.le_of_ble_eq_true rfl) rfl
set_option maxRecDepth 100000 in
theorem cu_X9_copyFrom (l : Launch) (D : va_G) (tc : Nat → ClassId) (sk : (Nat → Nat) × (Nat → Nat)) (Aa_0 : Nat) (Aa_1 : Nat) (Aa_2 : Nat) (Aa_3 : Nat) (Aa_4 : Nat) (Aa_5 : Nat) (Aa_6 : Nat) (Aa_7 : Nat) (Aa_8 : Nat) (Av_0 : Int32) (Av_1 : Int32) (Av_2 : Int32) (Av_3 : Int32) (Av_4 : Int32) (Av_5 : Int32) (Af_1 : Nat → Int32) (Af_2 : Nat → Int32) (Af_3 : Nat → Int32) (Af_4 : Nat → Int32) (Af_5 : Nat → Int32) (Af_6 : Nat → Int32) (Af_7 : Nat → Int32) (Af_8 : Nat → Int32) (Ba_0 : Nat) (Ba_1 : Nat) (Ba_2 : Nat) (Ba_3 : Nat) (Ba_4 : Nat) (Ba_5 : Nat) (Ba_6 : Nat) (Ba_7 : Nat) (Ba_8 : Nat) (Bv_0 : Int32) (Bv_1 : Int32) (Bv_2 : Int32) (Bv_3 : Int32) (Bv_4 : Int32) (Bv_5 : Int32) (Bf_1 : Nat → Int32) (Bf_2 : Nat → Int32) (Bf_3 : Nat → Int32) (Bf_4 : Nat → Int32) (Bf_5 : Nat → Int32) (Bf_6 : Nat → Int32) (Bf_7 : Nat → Int32) (Bf_8 : Nat → Int32)  : Ct l yX9_copyFrom cX9_copyFrom 2 none { frames := 1, cells := 0, slots := 0, locals := 40 } D tc sk [.ref Aa_0, .ref Ba_0] [(Aa_0, .inr (9, [.int Av_0, .int Av_1, .int Av_2, .int Av_3, .int Av_4, .int Av_5, .ref Aa_1, .ref Aa_2, .ref Aa_3, .ref Aa_4, .ref Aa_5, .ref Aa_6, .ref Aa_7, .ref Aa_8])), (Aa_1, .inl (tc 0, 10, .inl Af_1)), (Aa_2, .inl (tc 0, 10, .inl Af_2)), (Aa_3, .inl (tc 0, 6, .inl Af_3)), (Aa_4, .inl (tc 0, 6, .inl Af_4)), (Aa_5, .inl (tc 0, 6, .inl Af_5)), (Aa_6, .inl (tc 0, 6, .inl Af_6)), (Aa_7, .inl (tc 0, 6, .inl Af_7)), (Aa_8, .inl (tc 0, 6, .inl Af_8)), (Ba_0, .inr (9, [.int Bv_0, .int Bv_1, .int Bv_2, .int Bv_3, .int Bv_4, .int Bv_5, .ref Ba_1, .ref Ba_2, .ref Ba_3, .ref Ba_4, .ref Ba_5, .ref Ba_6, .ref Ba_7, .ref Ba_8])), (Ba_1, .inl (tc 0, 10, .inl Bf_1)), (Ba_2, .inl (tc 0, 10, .inl Bf_2)), (Ba_3, .inl (tc 0, 6, .inl Bf_3)), (Ba_4, .inl (tc 0, 6, .inl Bf_4)), (Ba_5, .inl (tc 0, 6, .inl Bf_5)), (Ba_6, .inl (tc 0, 6, .inl Bf_6)), (Ba_7, .inl (tc 0, 6, .inl Bf_7)), (Ba_8, .inl (tc 0, 6, .inl Bf_8))] (fun (v : Option Value) (u : (Nat → Int32) × (Nat → Int32) × (Nat → Int32) × (Nat → Int32) × (Nat → Int32) × (Nat → Int32) × (Nat → Int32) × (Nat → Int32)) => match u with | (o1, o2, o3, o4, o5, o6, o7, o8) => v = none) (fun (u : (Nat → Int32) × (Nat → Int32) × (Nat → Int32) × (Nat → Int32) × (Nat → Int32) × (Nat → Int32) × (Nat → Int32) × (Nat → Int32)) => match u with | (o1, o2, o3, o4, o5, o6, o7, o8) => [(Aa_0, .inr (9, [.int Bv_0, .int Bv_1, .int Bv_2, .int Bv_3, .int Bv_4, .int Bv_5, .ref Aa_1, .ref Aa_2, .ref Aa_3, .ref Aa_4, .ref Aa_5, .ref Aa_6, .ref Aa_7, .ref Aa_8])), (Aa_1, .inl (tc 0, 10, .inl o1)), (Aa_2, .inl (tc 0, 10, .inl o2)), (Aa_3, .inl (tc 0, 6, .inl o3)), (Aa_4, .inl (tc 0, 6, .inl o4)), (Aa_5, .inl (tc 0, 6, .inl o5)), (Aa_6, .inl (tc 0, 6, .inl o6)), (Aa_7, .inl (tc 0, 6, .inl o7)), (Aa_8, .inl (tc 0, 6, .inl o8)), (Ba_0, .inr (9, [.int Bv_0, .int Bv_1, .int Bv_2, .int Bv_3, .int Bv_4, .int Bv_5, .ref Ba_1, .ref Ba_2, .ref Ba_3, .ref Ba_4, .ref Ba_5, .ref Ba_6, .ref Ba_7, .ref Ba_8])), (Ba_1, .inl (tc 0, 10, .inl Bf_1)), (Ba_2, .inl (tc 0, 10, .inl Bf_2)), (Ba_3, .inl (tc 0, 6, .inl Bf_3)), (Ba_4, .inl (tc 0, 6, .inl Bf_4)), (Ba_5, .inl (tc 0, 6, .inl Bf_5)), (Ba_6, .inl (tc 0, 6, .inl Bf_6)), (Ba_7, .inl (tc 0, 6, .inl Bf_7)), (Ba_8, .inl (tc 0, 6, .inl Bf_8))]) 0 0 :=
  ct_X9_copyFrom l D tc sk (fun k => ([Aa_0, Aa_1, Aa_2, Aa_3, Aa_4, Aa_5, Aa_6, Aa_7, Aa_8] : List (Nat)).getD k 0) (fun k => ([Av_0, Av_1, Av_2, Av_3, Av_4, Av_5] : List (Int32)).getD k 0) (fun k => ([(fun _ => 0), Af_1, Af_2, Af_3, Af_4, Af_5, Af_6, Af_7, Af_8] : List (Nat → Int32)).getD k (fun _ => 0)) (fun k => ([Ba_0, Ba_1, Ba_2, Ba_3, Ba_4, Ba_5, Ba_6, Ba_7, Ba_8] : List (Nat)).getD k 0) (fun k => ([Bv_0, Bv_1, Bv_2, Bv_3, Bv_4, Bv_5] : List (Int32)).getD k 0) (fun k => ([(fun _ => 0), Bf_1, Bf_2, Bf_3, Bf_4, Bf_5, Bf_6, Bf_7, Bf_8] : List (Nat → Int32)).getD k (fun _ => 0)) 
set_option maxHeartbeats 4000000 in
set_option maxRecDepth 100000 in
theorem ct_X9_fineOf (l : Launch) (D : va_G) (tc : Nat → ClassId) (sk : (Nat → Nat) × (Nat → Nat)) (Aa : Nat → Nat) (Av : Nat → Int32) (Af : Nat → Nat → Int32) (x1 : Int32) (x2 : Int32)  : Ct l yX9_fineOf cX9_fineOf 13 (some .int) { frames := 1, cells := 0, slots := 0, locals := 21 } D tc sk [.ref (Aa 0), .int x1, .int x2] [((Aa 0), .inr (9, [.int (Av 0), .int (Av 1), .int (Av 2), .int (Av 3), .int (Av 4), .int (Av 5), .ref (Aa 1), .ref (Aa 2), .ref (Aa 3), .ref (Aa 4), .ref (Aa 5), .ref (Aa 6), .ref (Aa 7), .ref (Aa 8)])), ((Aa 1), .inl (tc 0, 10, .inl (Af 1))), ((Aa 2), .inl (tc 0, 10, .inl (Af 2))), ((Aa 3), .inl (tc 0, 6, .inl (Af 3))), ((Aa 4), .inl (tc 0, 6, .inl (Af 4))), ((Aa 5), .inl (tc 0, 6, .inl (Af 5))), ((Aa 6), .inl (tc 0, 6, .inl (Af 6))), ((Aa 7), .inl (tc 0, 6, .inl (Af 7))), ((Aa 8), .inl (tc 0, 6, .inl (Af 8)))] (fun (v : Option Value) (_ : Unit) => ∃ r : Int32, v = some (.int r) ∧ (True)) (fun (_ : Unit) => [((Aa 0), .inr (9, [.int (Av 0), .int (Av 1), .int (Av 2), .int (Av 3), .int (Av 4), .int (Av 5), .ref (Aa 1), .ref (Aa 2), .ref (Aa 3), .ref (Aa 4), .ref (Aa 5), .ref (Aa 6), .ref (Aa 7), .ref (Aa 8)])), ((Aa 1), .inl (tc 0, 10, .inl (Af 1))), ((Aa 2), .inl (tc 0, 10, .inl (Af 2))), ((Aa 3), .inl (tc 0, 6, .inl (Af 3))), ((Aa 4), .inl (tc 0, 6, .inl (Af 4))), ((Aa 5), .inl (tc 0, 6, .inl (Af 5))), ((Aa 6), .inl (tc 0, 6, .inl (Af 6))), ((Aa 7), .inl (tc 0, 6, .inl (Af 7))), ((Aa 8), .inl (tc 0, 6, .inl (Af 8)))]) 0 0 := by
  refine Ct.start (by decide) (Nat.le_of_ble_eq_true rfl) (fun p e s m below meth c A ls hx hb hr hlk hin hml hown hts hK hX hP hD hA hl hS => ?_)
  have hl : lv_has ls 13 [(0, .ref (Aa 0)), (1, .int x1), (2, .int x2)] := hl
  refine lv_aload_n hx hb dX9_fineOf_0 rfl (lv_at hl 0 rfl) ?_
  refine gf_X9_27 hx hb hts hown hK hP 0 rfl rfl dX9_fineOf_1 ?_
  refine lv_if_le (tgt := 15) hx hb dX9_fineOf_4 (by decide) (fun c_1 => ?_) (fun c_1 => ?_)
  · skip
    refine lv_iconst (v := 0) hx hb dX9_fineOf_15 (by decide) ?_
    exact retI (v := 0) hx hb hr hlk (rfl) hP hD hS () ⟨_, rfl, trivial⟩ [0, 1, 2, 3, 4, 5, 6, 7, 8] rfl rfl dX9_fineOf_16 (Nat.le_of_ble_eq_true rfl) (Nat.le_of_ble_eq_true rfl) rfl
  · skip
    refine lv_aload_n hx hb dX9_fineOf_7 rfl (lv_at hl 0 rfl) ?_
    refine lv_iload_n hx hb dX9_fineOf_8 rfl (lv_at hl 1 rfl) ?_
    refine cV (a := (Aa 0)) (As := [.int x1]) (rest := []) (wr := []) ⟨hx, hb, hml, hown, hts⟩ hK hX hA (cu_X9_hasBuyer l D tc sk (Aa 0) (Aa 1) (Aa 2) (Aa 3) (Aa 4) (Aa 5) (Aa 6) (Aa 7) (Aa 8) (Av 0) (Av 1) (Av 2) (Av 3) (Av 4) (Av 5) (Af 1) (Af 2) (Af 3) (Af 4) (Af 5) (Af 6) (Af 7) (Af 8) x1) k_591 k_707 k_589 k_590 k_98 pl_X9_hasBuyer ⟨Nat.le_of_ble_eq_true rfl, Nat.le_of_ble_eq_true rfl⟩ rfl rfl (va_recv hK hP (ci := 9) (q0 := 0) rfl rfl) hP hD hS [0, 1, 2, 3, 4, 5, 6, 7, 8] [] rfl rfl rfl rfl rfl (by decide) rfl hl.1 rfl (Nat.le_of_ble_eq_true rfl) dX9_fineOf_9 ⟨Nat.le_of_ble_eq_true rfl, Nat.le_of_ble_eq_true rfl⟩ (fun v_2 u_3 H locs hv_4 hP hD hS => ?_)
    obtain ⟨r_5, rfl, he_6⟩ := hv_4
    have he_6 : ((r_5.toInt = 0 ∨ (r_5.toInt = 1 ∧ 0 ≤ x1.toInt ∧ x1.toInt < 6 ∧ x1.toInt < (Av 3).toInt))) := he_6
    refine W.eq (g2 := F0 m 12 ls [.int r_5]) rfl ?_
    have hP : va_P D classes [((Aa 0), .inr (9, [.int (Av 0), .int (Av 1), .int (Av 2), .int (Av 3), .int (Av 4), .int (Av 5), .ref (Aa 1), .ref (Aa 2), .ref (Aa 3), .ref (Aa 4), .ref (Aa 5), .ref (Aa 6), .ref (Aa 7), .ref (Aa 8)])), ((Aa 1), .inl (tc 0, 10, .inl (Af 1))), ((Aa 2), .inl (tc 0, 10, .inl (Af 2))), ((Aa 3), .inl (tc 0, 6, .inl (Af 3))), ((Aa 4), .inl (tc 0, 6, .inl (Af 4))), ((Aa 5), .inl (tc 0, 6, .inl (Af 5))), ((Aa 6), .inl (tc 0, 6, .inl (Af 6))), ((Aa 7), .inl (tc 0, 6, .inl (Af 7))), ((Aa 8), .inl (tc 0, 6, .inl (Af 8)))] H := hP
    have hD : va_D A [((Aa 0), .inr (9, [.int (Av 0), .int (Av 1), .int (Av 2), .int (Av 3), .int (Av 4), .int (Av 5), .ref (Aa 1), .ref (Aa 2), .ref (Aa 3), .ref (Aa 4), .ref (Aa 5), .ref (Aa 6), .ref (Aa 7), .ref (Aa 8)])), ((Aa 1), .inl (tc 0, 10, .inl (Af 1))), ((Aa 2), .inl (tc 0, 10, .inl (Af 2))), ((Aa 3), .inl (tc 0, 6, .inl (Af 3))), ((Aa 4), .inl (tc 0, 6, .inl (Af 4))), ((Aa 5), .inl (tc 0, 6, .inl (Af 5))), ((Aa 6), .inl (tc 0, 6, .inl (Af 6))), ((Aa 7), .inl (tc 0, 6, .inl (Af 7))), ((Aa 8), .inl (tc 0, 6, .inl (Af 8)))] := hD
    refine lv_if_ne (tgt := 17) hx hb dX9_fineOf_12 (by decide) (fun c_7 => ?_) (fun c_7 => ?_)
    · skip
      refine lv_iload_n hx hb dX9_fineOf_17 rfl (lv_at hl 2 rfl) ?_
      refine lv_i2l (v := (x2).toInt64) hx hb dX9_fineOf_18 rfl ?_
      refine lv_lstore_n (lv' := [(3, .long (x2).toInt64), (0, .ref (Aa 0)), (1, .int x1), (2, .int x2)]) hx hb dX9_fineOf_19 rfl hl (by decide) rfl (fun ls hl => ?_)
      refine lv_iconst (v := 0) hx hb dX9_fineOf_20 (by decide) ?_
      refine lv_istore (lv' := [(5, .int 0), (3, .long (x2).toInt64), (0, .ref (Aa 0)), (1, .int x1), (2, .int x2)]) hx hb dX9_fineOf_21 hl (by decide) rfl (fun ls hl => ?_)
      refine lv_iload_n hx hb dX9_fineOf_23 rfl (lv_at hl 4 rfl) ?_
      refine lv_i2l (v := (x2).toInt64) hx hb dX9_fineOf_24 rfl ?_
      refine lv_aload_n hx hb dX9_fineOf_25 rfl (lv_at hl 2 rfl) ?_
      refine gf_X9_46 hx hb hts hown hK hP 0 rfl rfl dX9_fineOf_26 ?_
      refine lv_iload_n hx hb dX9_fineOf_29 rfl (lv_at hl 3 rfl) ?_
      have hi_8 : vp_in x1 6 := by
        have z_1 := Int32.lt_iff_toInt_lt.mp (Int32.not_le.mp c_1)
        have z_2 : ¬ (r_5 : Int32).toInt = (0 : Int32).toInt := fun z => c_7 (Int32.toInt_inj.mp z)
        have y_0 : (0 : Int32).toInt = 0 := by decide
        refine vp_in_iff.mpr ⟨?_, ?_⟩ <;> omega
      refine va_iald hx hb hK hP 6 0 rfl rfl hi_8 dX9_fineOf_30 ?_
      refine lv_topi (fun x_9 ex_9 => ?_)
      refine lv_i2l (v := (x_9).toInt64) hx hb dX9_fineOf_31 rfl ?_
      refine lv_lmul hx hb dX9_fineOf_32 ?_
      refine lv_topl (fun x_10 ex_10 => ?_)
      refine lv_aload_n hx hb dX9_fineOf_33 rfl (lv_at hl 2 rfl) ?_
      refine gf_X9_27 hx hb hts hown hK hP 0 rfl rfl dX9_fineOf_34 ?_
      refine lv_i2l (v := ((Av 5)).toInt64) hx hb dX9_fineOf_37 rfl ?_
      have hz_11 : ¬ ((Av 5)).toInt64 = 0 := i64_ne (by
        have z_1 := Int32.lt_iff_toInt_lt.mp (Int32.not_le.mp c_1)
        have z_2 : ¬ (r_5 : Int32).toInt = (0 : Int32).toInt := fun z => c_7 (Int32.toInt_inj.mp z)
        have y_0 : (0 : Int32).toInt = 0 := by decide
        omega)
      refine lv_lrem hx hb dX9_fineOf_38 hz_11 ?_
      refine lv_topl (fun x_12 ex_12 => ?_)
      refine lv_lstore (lv' := [(6, .long x_12), (5, .int 0), (3, .long (x2).toInt64), (0, .ref (Aa 0)), (1, .int x1), (2, .int x2)]) hx hb dX9_fineOf_39 hl (by decide) rfl (fun ls hl => ?_)
      refine lv_iconst (v := 0) hx hb dX9_fineOf_41 (by decide) ?_
      refine lv_istore (lv' := [(8, .int 0), (6, .long x_12), (5, .int 0), (3, .long (x2).toInt64), (0, .ref (Aa 0)), (1, .int x1), (2, .int x2)]) hx hb dX9_fineOf_42 hl (by decide) rfl (fun ls hl => ?_)
      have loop_22 : ∀ (n_20 : Nat) (vy_17 : Int32) (vy_18 : Int32) (vy_19 : Int64) (H : Heap) (locs : List Loc) (ls : Array Slot), 0 ≤ (vy_17 : Int32).toInt → (6 - (vy_17 : Int32).toInt).toNat < n_20 → va_P D classes [((Aa 0), .inr (9, [.int (Av 0), .int (Av 1), .int (Av 2), .int (Av 3), .int (Av 4), .int (Av 5), .ref (Aa 1), .ref (Aa 2), .ref (Aa 3), .ref (Aa 4), .ref (Aa 5), .ref (Aa 6), .ref (Aa 7), .ref (Aa 8)])), ((Aa 1), .inl (tc 0, 10, .inl (Af 1))), ((Aa 2), .inl (tc 0, 10, .inl (Af 2))), ((Aa 3), .inl (tc 0, 6, .inl (Af 3))), ((Aa 4), .inl (tc 0, 6, .inl (Af 4))), ((Aa 5), .inl (tc 0, 6, .inl (Af 5))), ((Aa 6), .inl (tc 0, 6, .inl (Af 6))), ((Aa 7), .inl (tc 0, 6, .inl (Af 7))), ((Aa 8), .inl (tc 0, 6, .inl (Af 8)))] H → va_D A [((Aa 0), .inr (9, [.int (Av 0), .int (Av 1), .int (Av 2), .int (Av 3), .int (Av 4), .int (Av 5), .ref (Aa 1), .ref (Aa 2), .ref (Aa 3), .ref (Aa 4), .ref (Aa 5), .ref (Aa 6), .ref (Aa 7), .ref (Aa 8)])), ((Aa 1), .inl (tc 0, 10, .inl (Af 1))), ((Aa 2), .inl (tc 0, 10, .inl (Af 2))), ((Aa 3), .inl (tc 0, 6, .inl (Af 3))), ((Aa 4), .inl (tc 0, 6, .inl (Af 4))), ((Aa 5), .inl (tc 0, 6, .inl (Af 5))), ((Aa 6), .inl (tc 0, 6, .inl (Af 6))), ((Aa 7), .inl (tc 0, 6, .inl (Af 7))), ((Aa 8), .inl (tc 0, 6, .inl (Af 8)))] → va_S A s.heap H locs → lv_has ls 13 [(8, .int vy_17), (6, .long x_12), (5, .int vy_18), (3, .long vy_19), (0, .ref (Aa 0)), (1, .int x1), (2, .int x2)] → W p l e ({ frames := 1, cells := 0, slots := 0, locals := 21 }) s m ([.ref (Aa 0), .int x1, .int x2].toArray) below meth c H locs 0 0 (MQ below (QW (fun (v : Option Value) (_ : Unit) => ∃ r : Int32, v = some (.int r) ∧ (True)) (BW D (fun (_ : Unit) => [((Aa 0), .inr (9, [.int (Av 0), .int (Av 1), .int (Av 2), .int (Av 3), .int (Av 4), .int (Av 5), .ref (Aa 1), .ref (Aa 2), .ref (Aa 3), .ref (Aa 4), .ref (Aa 5), .ref (Aa 6), .ref (Aa 7), .ref (Aa 8)])), ((Aa 1), .inl (tc 0, 10, .inl (Af 1))), ((Aa 2), .inl (tc 0, 10, .inl (Af 2))), ((Aa 3), .inl (tc 0, 6, .inl (Af 3))), ((Aa 4), .inl (tc 0, 6, .inl (Af 4))), ((Aa 5), .inl (tc 0, 6, .inl (Af 5))), ((Aa 6), .inl (tc 0, 6, .inl (Af 6))), ((Aa 7), .inl (tc 0, 6, .inl (Af 7))), ((Aa 8), .inl (tc 0, 6, .inl (Af 8)))]) A) A) ([.ref (Aa 0), .int x1, .int x2].toArray) s 0 0 A) (F0 m 44 ls []) := by
        intro n_20
        induction n_20 with
        | zero =>
          intro vy_17 vy_18 vy_19 H locs ls h1 h2
          exact absurd h2 (Nat.not_lt_zero _)
        | succ n_20 ih_21 =>
          intro vy_17 vy_18 vy_19 H locs ls hi_24 hn_25 hP hD hS hl
          refine lv_iload hx hb dX9_fineOf_44 (lv_at hl 0 rfl) ?_
          refine lv_aload_n hx hb dX9_fineOf_46 rfl (lv_at hl 4 rfl) ?_
          refine gf_X9_21 hx hb hts hown hK hP 0 rfl rfl dX9_fineOf_47 ?_
          refine lv_icmp_ge (tgt := 125) hx hb dX9_fineOf_50 (by decide) (fun c_26 => ?_) (fun c_26 => ?_)
          · skip
            refine lv_iload_n hx hb dX9_fineOf_125 rfl (lv_at hl 6 rfl) ?_
            refine lv_i2l (v := (x2).toInt64) hx hb dX9_fineOf_126 rfl ?_
            refine lv_aload_n hx hb dX9_fineOf_127 rfl (lv_at hl 4 rfl) ?_
            refine gf_X9_46 hx hb hts hown hK hP 0 rfl rfl dX9_fineOf_128 ?_
            refine lv_iload_n hx hb dX9_fineOf_131 rfl (lv_at hl 5 rfl) ?_
            have hi_27 : vp_in x1 6 := by
              have z_1 := Int32.lt_iff_toInt_lt.mp (Int32.not_le.mp c_1)
              have z_2 : ¬ (r_5 : Int32).toInt = (0 : Int32).toInt := fun z => c_7 (Int32.toInt_inj.mp z)
              have z_3 := Int32.le_iff_toInt_le.mp c_26
              have y_0 : (0 : Int32).toInt = 0 := by decide
              refine vp_in_iff.mpr ⟨?_, ?_⟩ <;> omega
            refine va_iald hx hb hK hP 6 0 rfl rfl hi_27 dX9_fineOf_132 ?_
            refine lv_topi (fun x_28 ex_28 => ?_)
            refine lv_i2l (v := (x_28).toInt64) hx hb dX9_fineOf_133 rfl ?_
            refine lv_lmul hx hb dX9_fineOf_134 ?_
            refine lv_topl (fun x_29 ex_29 => ?_)
            refine lv_aload_n hx hb dX9_fineOf_135 rfl (lv_at hl 4 rfl) ?_
            refine gf_X9_27 hx hb hts hown hK hP 0 rfl rfl dX9_fineOf_136 ?_
            refine lv_i2l (v := ((Av 5)).toInt64) hx hb dX9_fineOf_139 rfl ?_
            have hz_30 : ¬ ((Av 5)).toInt64 = 0 := i64_ne (by
              have z_1 := Int32.lt_iff_toInt_lt.mp (Int32.not_le.mp c_1)
              have z_2 : ¬ (r_5 : Int32).toInt = (0 : Int32).toInt := fun z => c_7 (Int32.toInt_inj.mp z)
              have z_3 := Int32.le_iff_toInt_le.mp c_26
              have y_0 : (0 : Int32).toInt = 0 := by decide
              omega)
            refine lv_ldiv hx hb dX9_fineOf_140 hz_30 ?_
            refine lv_topl (fun x_31 ex_31 => ?_)
            refine lv_lstore (lv' := [(8, .long x_31), (6, .long x_12), (5, .int vy_18), (3, .long vy_19), (0, .ref (Aa 0)), (1, .int x1), (2, .int x2)]) hx hb dX9_fineOf_141 hl (by decide) rfl (fun ls hl => ?_)
            refine lv_iload hx hb dX9_fineOf_143 (lv_at hl 2 rfl) ?_
            refine lv_i2l (v := (vy_18).toInt64) hx hb dX9_fineOf_145 rfl ?_
            refine lv_lload_n hx hb dX9_fineOf_146 rfl (lv_at hl 3 rfl) ?_
            refine W.lcmp hx hb dX9_fineOf_147 ?_
            refine lv_topi (fun x_32 ex_32 => ?_)
            refine lv_if_ge (tgt := 158) hx hb dX9_fineOf_148 (by decide) (fun c_33 => ?_) (fun c_33 => ?_)
            · skip
              refine lv_lload hx hb dX9_fineOf_158 (lv_at hl 0 rfl) ?_
              obtain ⟨x_34, ex_34⟩ : ∃ y : Int32, y = (x_31 : Int64).toInt32 := ⟨_, rfl⟩
              refine lv_l2i (v := x_34) hx hb dX9_fineOf_160 ex_34.symm ?_
              exact retI (v := x_34) hx hb hr hlk (rfl) hP hD hS () ⟨_, rfl, trivial⟩ [0, 1, 2, 3, 4, 5, 6, 7, 8] rfl rfl dX9_fineOf_161 (Nat.le_of_ble_eq_true rfl) (Nat.le_of_ble_eq_true rfl) rfl
            · skip
              refine lv_lload hx hb dX9_fineOf_151 (lv_at hl 0 rfl) ?_
              refine lv_lconst (v := 1) hx hb dX9_fineOf_153 (by decide) ?_
              refine lv_ladd hx hb dX9_fineOf_154 ?_
              refine lv_topl (fun x_35 ex_35 => ?_)
              refine lv_goto (tgt := 160) hx hb dX9_fineOf_155 (by decide) ?_
              obtain ⟨x_36, ex_36⟩ : ∃ y : Int32, y = (x_35 : Int64).toInt32 := ⟨_, rfl⟩
              refine lv_l2i (v := x_36) hx hb dX9_fineOf_160 ex_36.symm ?_
              exact retI (v := x_36) hx hb hr hlk (rfl) hP hD hS () ⟨_, rfl, trivial⟩ [0, 1, 2, 3, 4, 5, 6, 7, 8] rfl rfl dX9_fineOf_161 (Nat.le_of_ble_eq_true rfl) (Nat.le_of_ble_eq_true rfl) rfl
          · skip
            refine lv_iload hx hb dX9_fineOf_53 (lv_at hl 0 rfl) ?_
            refine lv_bipush (v := 6) hx hb dX9_fineOf_55 (by decide) ?_
            refine lv_icmp_ge (tgt := 125) hx hb dX9_fineOf_57 (by decide) (fun c_37 => ?_) (fun c_37 => ?_)
            · skip
              refine lv_iload_n hx hb dX9_fineOf_125 rfl (lv_at hl 6 rfl) ?_
              refine lv_i2l (v := (x2).toInt64) hx hb dX9_fineOf_126 rfl ?_
              refine lv_aload_n hx hb dX9_fineOf_127 rfl (lv_at hl 4 rfl) ?_
              refine gf_X9_46 hx hb hts hown hK hP 0 rfl rfl dX9_fineOf_128 ?_
              refine lv_iload_n hx hb dX9_fineOf_131 rfl (lv_at hl 5 rfl) ?_
              have hi_38 : vp_in x1 6 := by
                have z_1 := Int32.lt_iff_toInt_lt.mp (Int32.not_le.mp c_1)
                have z_2 : ¬ (r_5 : Int32).toInt = (0 : Int32).toInt := fun z => c_7 (Int32.toInt_inj.mp z)
                have z_3 := Int32.lt_iff_toInt_lt.mp (Int32.not_le.mp c_26)
                have z_4 := Int32.le_iff_toInt_le.mp c_37
                have y_0 : (0 : Int32).toInt = 0 := by decide
                have y_6 : (6 : Int32).toInt = 6 := by decide
                refine vp_in_iff.mpr ⟨?_, ?_⟩ <;> omega
              refine va_iald hx hb hK hP 6 0 rfl rfl hi_38 dX9_fineOf_132 ?_
              refine lv_topi (fun x_39 ex_39 => ?_)
              refine lv_i2l (v := (x_39).toInt64) hx hb dX9_fineOf_133 rfl ?_
              refine lv_lmul hx hb dX9_fineOf_134 ?_
              refine lv_topl (fun x_40 ex_40 => ?_)
              refine lv_aload_n hx hb dX9_fineOf_135 rfl (lv_at hl 4 rfl) ?_
              refine gf_X9_27 hx hb hts hown hK hP 0 rfl rfl dX9_fineOf_136 ?_
              refine lv_i2l (v := ((Av 5)).toInt64) hx hb dX9_fineOf_139 rfl ?_
              have hz_41 : ¬ ((Av 5)).toInt64 = 0 := i64_ne (by
                have z_1 := Int32.lt_iff_toInt_lt.mp (Int32.not_le.mp c_1)
                have z_2 : ¬ (r_5 : Int32).toInt = (0 : Int32).toInt := fun z => c_7 (Int32.toInt_inj.mp z)
                have z_3 := Int32.lt_iff_toInt_lt.mp (Int32.not_le.mp c_26)
                have z_4 := Int32.le_iff_toInt_le.mp c_37
                have y_0 : (0 : Int32).toInt = 0 := by decide
                have y_6 : (6 : Int32).toInt = 6 := by decide
                omega)
              refine lv_ldiv hx hb dX9_fineOf_140 hz_41 ?_
              refine lv_topl (fun x_42 ex_42 => ?_)
              refine lv_lstore (lv' := [(8, .long x_42), (6, .long x_12), (5, .int vy_18), (3, .long vy_19), (0, .ref (Aa 0)), (1, .int x1), (2, .int x2)]) hx hb dX9_fineOf_141 hl (by decide) rfl (fun ls hl => ?_)
              refine lv_iload hx hb dX9_fineOf_143 (lv_at hl 2 rfl) ?_
              refine lv_i2l (v := (vy_18).toInt64) hx hb dX9_fineOf_145 rfl ?_
              refine lv_lload_n hx hb dX9_fineOf_146 rfl (lv_at hl 3 rfl) ?_
              refine W.lcmp hx hb dX9_fineOf_147 ?_
              refine lv_topi (fun x_43 ex_43 => ?_)
              refine lv_if_ge (tgt := 158) hx hb dX9_fineOf_148 (by decide) (fun c_44 => ?_) (fun c_44 => ?_)
              · skip
                refine lv_lload hx hb dX9_fineOf_158 (lv_at hl 0 rfl) ?_
                obtain ⟨x_45, ex_45⟩ : ∃ y : Int32, y = (x_42 : Int64).toInt32 := ⟨_, rfl⟩
                refine lv_l2i (v := x_45) hx hb dX9_fineOf_160 ex_45.symm ?_
                exact retI (v := x_45) hx hb hr hlk (rfl) hP hD hS () ⟨_, rfl, trivial⟩ [0, 1, 2, 3, 4, 5, 6, 7, 8] rfl rfl dX9_fineOf_161 (Nat.le_of_ble_eq_true rfl) (Nat.le_of_ble_eq_true rfl) rfl
              · skip
                refine lv_lload hx hb dX9_fineOf_151 (lv_at hl 0 rfl) ?_
                refine lv_lconst (v := 1) hx hb dX9_fineOf_153 (by decide) ?_
                refine lv_ladd hx hb dX9_fineOf_154 ?_
                refine lv_topl (fun x_46 ex_46 => ?_)
                refine lv_goto (tgt := 160) hx hb dX9_fineOf_155 (by decide) ?_
                obtain ⟨x_47, ex_47⟩ : ∃ y : Int32, y = (x_46 : Int64).toInt32 := ⟨_, rfl⟩
                refine lv_l2i (v := x_47) hx hb dX9_fineOf_160 ex_47.symm ?_
                exact retI (v := x_47) hx hb hr hlk (rfl) hP hD hS () ⟨_, rfl, trivial⟩ [0, 1, 2, 3, 4, 5, 6, 7, 8] rfl rfl dX9_fineOf_161 (Nat.le_of_ble_eq_true rfl) (Nat.le_of_ble_eq_true rfl) rfl
            · skip
              refine lv_iload_n hx hb dX9_fineOf_60 rfl (lv_at hl 6 rfl) ?_
              refine lv_i2l (v := (x2).toInt64) hx hb dX9_fineOf_61 rfl ?_
              refine lv_aload_n hx hb dX9_fineOf_62 rfl (lv_at hl 4 rfl) ?_
              refine gf_X9_46 hx hb hts hown hK hP 0 rfl rfl dX9_fineOf_63 ?_
              refine lv_iload hx hb dX9_fineOf_66 (lv_at hl 0 rfl) ?_
              have hi_48 : vp_in vy_17 6 := by
                have z_1 := Int32.lt_iff_toInt_lt.mp (Int32.not_le.mp c_1)
                have z_2 : ¬ (r_5 : Int32).toInt = (0 : Int32).toInt := fun z => c_7 (Int32.toInt_inj.mp z)
                have z_3 := Int32.lt_iff_toInt_lt.mp (Int32.not_le.mp c_26)
                have z_4 := Int32.lt_iff_toInt_lt.mp (Int32.not_le.mp c_37)
                have y_0 : (0 : Int32).toInt = 0 := by decide
                have y_6 : (6 : Int32).toInt = 6 := by decide
                refine vp_in_iff.mpr ⟨?_, ?_⟩ <;> omega
              refine va_iald hx hb hK hP 6 0 rfl rfl hi_48 dX9_fineOf_68 ?_
              refine lv_topi (fun x_49 ex_49 => ?_)
              refine lv_i2l (v := (x_49).toInt64) hx hb dX9_fineOf_69 rfl ?_
              refine lv_lmul hx hb dX9_fineOf_70 ?_
              refine lv_topl (fun x_50 ex_50 => ?_)
              refine lv_lstore (lv' := [(9, .long x_50), (8, .int vy_17), (6, .long x_12), (5, .int vy_18), (3, .long vy_19), (0, .ref (Aa 0)), (1, .int x1), (2, .int x2)]) hx hb dX9_fineOf_71 hl (by decide) rfl (fun ls hl => ?_)
              refine lv_lload_n hx hb dX9_fineOf_73 rfl (lv_at hl 4 rfl) ?_
              refine lv_lload hx hb dX9_fineOf_74 (lv_at hl 0 rfl) ?_
              refine lv_aload_n hx hb dX9_fineOf_76 rfl (lv_at hl 5 rfl) ?_
              refine gf_X9_27 hx hb hts hown hK hP 0 rfl rfl dX9_fineOf_77 ?_
              refine lv_i2l (v := ((Av 5)).toInt64) hx hb dX9_fineOf_80 rfl ?_
              have hz_51 : ¬ ((Av 5)).toInt64 = 0 := i64_ne (by
                have z_1 := Int32.lt_iff_toInt_lt.mp (Int32.not_le.mp c_1)
                have z_2 : ¬ (r_5 : Int32).toInt = (0 : Int32).toInt := fun z => c_7 (Int32.toInt_inj.mp z)
                have z_3 := Int32.lt_iff_toInt_lt.mp (Int32.not_le.mp c_26)
                have z_4 := Int32.lt_iff_toInt_lt.mp (Int32.not_le.mp c_37)
                have y_0 : (0 : Int32).toInt = 0 := by decide
                have y_6 : (6 : Int32).toInt = 6 := by decide
                omega)
              refine lv_ldiv hx hb dX9_fineOf_81 hz_51 ?_
              refine lv_topl (fun x_52 ex_52 => ?_)
              refine lv_lsub hx hb dX9_fineOf_82 ?_
              refine lv_topl (fun x_53 ex_53 => ?_)
              refine lv_lstore_n (lv' := [(3, .long x_53), (9, .long x_50), (8, .int vy_17), (6, .long x_12), (5, .int vy_18), (0, .ref (Aa 0)), (1, .int x1), (2, .int x2)]) hx hb dX9_fineOf_83 rfl hl (by decide) rfl (fun ls hl => ?_)
              refine lv_lload hx hb dX9_fineOf_84 (lv_at hl 1 rfl) ?_
              refine lv_aload_n hx hb dX9_fineOf_86 rfl (lv_at hl 5 rfl) ?_
              refine gf_X9_27 hx hb hts hown hK hP 0 rfl rfl dX9_fineOf_87 ?_
              refine lv_i2l (v := ((Av 5)).toInt64) hx hb dX9_fineOf_90 rfl ?_
              have hz_54 : ¬ ((Av 5)).toInt64 = 0 := i64_ne (by
                have z_1 := Int32.lt_iff_toInt_lt.mp (Int32.not_le.mp c_1)
                have z_2 : ¬ (r_5 : Int32).toInt = (0 : Int32).toInt := fun z => c_7 (Int32.toInt_inj.mp z)
                have z_3 := Int32.lt_iff_toInt_lt.mp (Int32.not_le.mp c_26)
                have z_4 := Int32.lt_iff_toInt_lt.mp (Int32.not_le.mp c_37)
                have y_0 : (0 : Int32).toInt = 0 := by decide
                have y_6 : (6 : Int32).toInt = 6 := by decide
                omega)
              refine lv_lrem hx hb dX9_fineOf_91 hz_54 ?_
              refine lv_topl (fun x_55 ex_55 => ?_)
              refine lv_lstore (lv' := [(11, .long x_55), (3, .long x_53), (9, .long x_50), (8, .int vy_17), (6, .long x_12), (5, .int vy_18), (0, .ref (Aa 0)), (1, .int x1), (2, .int x2)]) hx hb dX9_fineOf_92 hl (by decide) rfl (fun ls hl => ?_)
              refine lv_lload hx hb dX9_fineOf_94 (lv_at hl 0 rfl) ?_
              refine lv_lload hx hb dX9_fineOf_96 (lv_at hl 4 rfl) ?_
              refine W.lcmp hx hb dX9_fineOf_98 ?_
              refine lv_topi (fun x_56 ex_56 => ?_)
              refine lv_if_gt (tgt := 116) hx hb dX9_fineOf_99 (by decide) (fun c_57 => ?_) (fun c_57 => ?_)
              · skip
                obtain ⟨x_58, ex_58⟩ : ∃ y : Int32, y = vy_18 + 1 := ⟨_, rfl⟩
                refine lv_iinc (v := x_58) (lv' := [(5, .int x_58), (11, .long x_55), (3, .long x_53), (9, .long x_50), (8, .int vy_17), (6, .long x_12), (0, .ref (Aa 0)), (1, .int x1), (2, .int x2)]) hx hb dX9_fineOf_116 hl (k := 5) rfl (by rw [ex_58]; rfl) (by decide) rfl (fun ls hl => ?_)
                obtain ⟨x_59, ex_59⟩ : ∃ y : Int32, y = vy_17 + 1 := ⟨_, rfl⟩
                refine lv_iinc (v := x_59) (lv' := [(8, .int x_59), (5, .int x_58), (11, .long x_55), (3, .long x_53), (9, .long x_50), (6, .long x_12), (0, .ref (Aa 0)), (1, .int x1), (2, .int x2)]) hx hb dX9_fineOf_119 hl (k := 4) rfl (by rw [ex_59]; rfl) (by decide) rfl (fun ls hl => ?_)
                refine lv_goto (tgt := 44) hx hb dX9_fineOf_122 (by decide) ?_
                have hb_60 : 0 ≤ (x_59 : Int32).toInt ∧ (6 - (x_59 : Int32).toInt).toNat < n_20 := by
                  have z_1 := Int32.lt_iff_toInt_lt.mp (Int32.not_le.mp c_1)
                  have z_2 : ¬ (r_5 : Int32).toInt = (0 : Int32).toInt := fun z => c_7 (Int32.toInt_inj.mp z)
                  have z_3 := Int32.lt_iff_toInt_lt.mp (Int32.not_le.mp c_26)
                  have z_4 := Int32.lt_iff_toInt_lt.mp (Int32.not_le.mp c_37)
                  have z_5 := Int32.lt_iff_toInt_lt.mp c_57
                  have y_0 : (0 : Int32).toInt = 0 := by decide
                  have y_6 : (6 : Int32).toInt = 6 := by decide
                  have y_1 : (1 : Int32).toInt = 1 := by decide
                  have t_x_59 : x_59.toInt = (vy_17 : Int32).toInt + (1 : Int32).toInt := by rw [ex_59]; exact add_toInt (by omega) (by omega)
                  omega
                exact ih_21 x_59 x_58 x_53 _ _ _ hb_60.1 hb_60.2 (hP.sub [0, 1, 2, 3, 4, 5, 6, 7, 8] rfl) (hD.sub [0, 1, 2, 3, 4, 5, 6, 7, 8] rfl rfl) hS (lv_sub hl [0, 5, 1, 3, 6, 7, 8] rfl)
              · skip
                refine lv_lload hx hb dX9_fineOf_102 (lv_at hl 0 rfl) ?_
                refine lv_lload hx hb dX9_fineOf_104 (lv_at hl 4 rfl) ?_
                refine W.lcmp hx hb dX9_fineOf_106 ?_
                refine lv_topi (fun x_61 ex_61 => ?_)
                refine lv_if_ne (tgt := 119) hx hb dX9_fineOf_107 (by decide) (fun c_62 => ?_) (fun c_62 => ?_)
                · skip
                  obtain ⟨x_63, ex_63⟩ : ∃ y : Int32, y = vy_17 + 1 := ⟨_, rfl⟩
                  refine lv_iinc (v := x_63) (lv' := [(8, .int x_63), (11, .long x_55), (3, .long x_53), (9, .long x_50), (6, .long x_12), (5, .int vy_18), (0, .ref (Aa 0)), (1, .int x1), (2, .int x2)]) hx hb dX9_fineOf_119 hl (k := 3) rfl (by rw [ex_63]; rfl) (by decide) rfl (fun ls hl => ?_)
                  refine lv_goto (tgt := 44) hx hb dX9_fineOf_122 (by decide) ?_
                  have hb_64 : 0 ≤ (x_63 : Int32).toInt ∧ (6 - (x_63 : Int32).toInt).toNat < n_20 := by
                    have z_1 := Int32.lt_iff_toInt_lt.mp (Int32.not_le.mp c_1)
                    have z_2 : ¬ (r_5 : Int32).toInt = (0 : Int32).toInt := fun z => c_7 (Int32.toInt_inj.mp z)
                    have z_3 := Int32.lt_iff_toInt_lt.mp (Int32.not_le.mp c_26)
                    have z_4 := Int32.lt_iff_toInt_lt.mp (Int32.not_le.mp c_37)
                    have z_5 := Int32.le_iff_toInt_le.mp (Int32.not_lt.mp c_57)
                    have z_6 : ¬ (x_61 : Int32).toInt = (0 : Int32).toInt := fun z => c_62 (Int32.toInt_inj.mp z)
                    have y_0 : (0 : Int32).toInt = 0 := by decide
                    have y_6 : (6 : Int32).toInt = 6 := by decide
                    have y_1 : (1 : Int32).toInt = 1 := by decide
                    have t_x_63 : x_63.toInt = (vy_17 : Int32).toInt + (1 : Int32).toInt := by rw [ex_63]; exact add_toInt (by omega) (by omega)
                    omega
                  exact ih_21 x_63 vy_18 x_53 _ _ _ hb_64.1 hb_64.2 (hP.sub [0, 1, 2, 3, 4, 5, 6, 7, 8] rfl) (hD.sub [0, 1, 2, 3, 4, 5, 6, 7, 8] rfl rfl) hS (lv_sub hl [0, 4, 5, 2, 6, 7, 8] rfl)
                · skip
                  refine lv_iload hx hb dX9_fineOf_110 (lv_at hl 3 rfl) ?_
                  refine lv_iload_n hx hb dX9_fineOf_112 rfl (lv_at hl 7 rfl) ?_
                  refine lv_icmp_ge (tgt := 119) hx hb dX9_fineOf_113 (by decide) (fun c_65 => ?_) (fun c_65 => ?_)
                  · skip
                    obtain ⟨x_66, ex_66⟩ : ∃ y : Int32, y = vy_17 + 1 := ⟨_, rfl⟩
                    refine lv_iinc (v := x_66) (lv' := [(8, .int x_66), (11, .long x_55), (3, .long x_53), (9, .long x_50), (6, .long x_12), (5, .int vy_18), (0, .ref (Aa 0)), (1, .int x1), (2, .int x2)]) hx hb dX9_fineOf_119 hl (k := 3) rfl (by rw [ex_66]; rfl) (by decide) rfl (fun ls hl => ?_)
                    refine lv_goto (tgt := 44) hx hb dX9_fineOf_122 (by decide) ?_
                    have hb_67 : 0 ≤ (x_66 : Int32).toInt ∧ (6 - (x_66 : Int32).toInt).toNat < n_20 := by
                      have z_1 := Int32.lt_iff_toInt_lt.mp (Int32.not_le.mp c_1)
                      have z_2 : ¬ (r_5 : Int32).toInt = (0 : Int32).toInt := fun z => c_7 (Int32.toInt_inj.mp z)
                      have z_3 := Int32.lt_iff_toInt_lt.mp (Int32.not_le.mp c_26)
                      have z_4 := Int32.lt_iff_toInt_lt.mp (Int32.not_le.mp c_37)
                      have z_5 := Int32.le_iff_toInt_le.mp (Int32.not_lt.mp c_57)
                      have z_6 := congrArg Int32.toInt c_62
                      have z_7 := Int32.le_iff_toInt_le.mp c_65
                      have y_0 : (0 : Int32).toInt = 0 := by decide
                      have y_6 : (6 : Int32).toInt = 6 := by decide
                      have y_1 : (1 : Int32).toInt = 1 := by decide
                      have t_x_66 : x_66.toInt = (vy_17 : Int32).toInt + (1 : Int32).toInt := by rw [ex_66]; exact add_toInt (by omega) (by omega)
                      omega
                    exact ih_21 x_66 vy_18 x_53 _ _ _ hb_67.1 hb_67.2 (hP.sub [0, 1, 2, 3, 4, 5, 6, 7, 8] rfl) (hD.sub [0, 1, 2, 3, 4, 5, 6, 7, 8] rfl rfl) hS (lv_sub hl [0, 4, 5, 2, 6, 7, 8] rfl)
                  · skip
                    obtain ⟨x_68, ex_68⟩ : ∃ y : Int32, y = vy_18 + 1 := ⟨_, rfl⟩
                    refine lv_iinc (v := x_68) (lv' := [(5, .int x_68), (11, .long x_55), (3, .long x_53), (9, .long x_50), (8, .int vy_17), (6, .long x_12), (0, .ref (Aa 0)), (1, .int x1), (2, .int x2)]) hx hb dX9_fineOf_116 hl (k := 5) rfl (by rw [ex_68]; rfl) (by decide) rfl (fun ls hl => ?_)
                    obtain ⟨x_69, ex_69⟩ : ∃ y : Int32, y = vy_17 + 1 := ⟨_, rfl⟩
                    refine lv_iinc (v := x_69) (lv' := [(8, .int x_69), (5, .int x_68), (11, .long x_55), (3, .long x_53), (9, .long x_50), (6, .long x_12), (0, .ref (Aa 0)), (1, .int x1), (2, .int x2)]) hx hb dX9_fineOf_119 hl (k := 4) rfl (by rw [ex_69]; rfl) (by decide) rfl (fun ls hl => ?_)
                    refine lv_goto (tgt := 44) hx hb dX9_fineOf_122 (by decide) ?_
                    have hb_70 : 0 ≤ (x_69 : Int32).toInt ∧ (6 - (x_69 : Int32).toInt).toNat < n_20 := by
                      have z_1 := Int32.lt_iff_toInt_lt.mp (Int32.not_le.mp c_1)
                      have z_2 : ¬ (r_5 : Int32).toInt = (0 : Int32).toInt := fun z => c_7 (Int32.toInt_inj.mp z)
                      have z_3 := Int32.lt_iff_toInt_lt.mp (Int32.not_le.mp c_26)
                      have z_4 := Int32.lt_iff_toInt_lt.mp (Int32.not_le.mp c_37)
                      have z_5 := Int32.le_iff_toInt_le.mp (Int32.not_lt.mp c_57)
                      have z_6 := congrArg Int32.toInt c_62
                      have z_7 := Int32.lt_iff_toInt_lt.mp (Int32.not_le.mp c_65)
                      have y_0 : (0 : Int32).toInt = 0 := by decide
                      have y_6 : (6 : Int32).toInt = 6 := by decide
                      have y_1 : (1 : Int32).toInt = 1 := by decide
                      have t_x_69 : x_69.toInt = (vy_17 : Int32).toInt + (1 : Int32).toInt := by rw [ex_69]; exact add_toInt (by omega) (by omega)
                      omega
                    exact ih_21 x_69 x_68 x_53 _ _ _ hb_70.1 hb_70.2 (hP.sub [0, 1, 2, 3, 4, 5, 6, 7, 8] rfl) (hD.sub [0, 1, 2, 3, 4, 5, 6, 7, 8] rfl rfl) hS (lv_sub hl [0, 5, 1, 3, 6, 7, 8] rfl)
      have h0_71 : 0 ≤ (0 : Int32).toInt := by
        have z_1 := Int32.lt_iff_toInt_lt.mp (Int32.not_le.mp c_1)
        have z_2 : ¬ (r_5 : Int32).toInt = (0 : Int32).toInt := fun z => c_7 (Int32.toInt_inj.mp z)
        have y_0 : (0 : Int32).toInt = 0 := by decide
        decide
      exact loop_22 _ 0 0 (x2).toInt64 _ _ _ h0_71 (Nat.lt_succ_self _) hP hD hS hl
    · skip
      refine lv_iconst (v := 0) hx hb dX9_fineOf_15 (by decide) ?_
      exact retI (v := 0) hx hb hr hlk (rfl) hP hD hS () ⟨_, rfl, trivial⟩ [0, 1, 2, 3, 4, 5, 6, 7, 8] rfl rfl dX9_fineOf_16 (Nat.le_of_ble_eq_true rfl) (Nat.le_of_ble_eq_true rfl) rfl
set_option maxRecDepth 100000 in
theorem cu_X9_fineOf (l : Launch) (D : va_G) (tc : Nat → ClassId) (sk : (Nat → Nat) × (Nat → Nat)) (Aa_0 : Nat) (Aa_1 : Nat) (Aa_2 : Nat) (Aa_3 : Nat) (Aa_4 : Nat) (Aa_5 : Nat) (Aa_6 : Nat) (Aa_7 : Nat) (Aa_8 : Nat) (Av_0 : Int32) (Av_1 : Int32) (Av_2 : Int32) (Av_3 : Int32) (Av_4 : Int32) (Av_5 : Int32) (Af_1 : Nat → Int32) (Af_2 : Nat → Int32) (Af_3 : Nat → Int32) (Af_4 : Nat → Int32) (Af_5 : Nat → Int32) (Af_6 : Nat → Int32) (Af_7 : Nat → Int32) (Af_8 : Nat → Int32) (x1 : Int32) (x2 : Int32)  : Ct l yX9_fineOf cX9_fineOf 13 (some .int) { frames := 1, cells := 0, slots := 0, locals := 21 } D tc sk [.ref Aa_0, .int x1, .int x2] [(Aa_0, .inr (9, [.int Av_0, .int Av_1, .int Av_2, .int Av_3, .int Av_4, .int Av_5, .ref Aa_1, .ref Aa_2, .ref Aa_3, .ref Aa_4, .ref Aa_5, .ref Aa_6, .ref Aa_7, .ref Aa_8])), (Aa_1, .inl (tc 0, 10, .inl Af_1)), (Aa_2, .inl (tc 0, 10, .inl Af_2)), (Aa_3, .inl (tc 0, 6, .inl Af_3)), (Aa_4, .inl (tc 0, 6, .inl Af_4)), (Aa_5, .inl (tc 0, 6, .inl Af_5)), (Aa_6, .inl (tc 0, 6, .inl Af_6)), (Aa_7, .inl (tc 0, 6, .inl Af_7)), (Aa_8, .inl (tc 0, 6, .inl Af_8))] (fun (v : Option Value) (_ : Unit) => ∃ r : Int32, v = some (.int r) ∧ (True)) (fun (_ : Unit) => [(Aa_0, .inr (9, [.int Av_0, .int Av_1, .int Av_2, .int Av_3, .int Av_4, .int Av_5, .ref Aa_1, .ref Aa_2, .ref Aa_3, .ref Aa_4, .ref Aa_5, .ref Aa_6, .ref Aa_7, .ref Aa_8])), (Aa_1, .inl (tc 0, 10, .inl Af_1)), (Aa_2, .inl (tc 0, 10, .inl Af_2)), (Aa_3, .inl (tc 0, 6, .inl Af_3)), (Aa_4, .inl (tc 0, 6, .inl Af_4)), (Aa_5, .inl (tc 0, 6, .inl Af_5)), (Aa_6, .inl (tc 0, 6, .inl Af_6)), (Aa_7, .inl (tc 0, 6, .inl Af_7)), (Aa_8, .inl (tc 0, 6, .inl Af_8))]) 0 0 :=
  ct_X9_fineOf l D tc sk (fun k => ([Aa_0, Aa_1, Aa_2, Aa_3, Aa_4, Aa_5, Aa_6, Aa_7, Aa_8] : List (Nat)).getD k 0) (fun k => ([Av_0, Av_1, Av_2, Av_3, Av_4, Av_5] : List (Int32)).getD k 0) (fun k => ([(fun _ => 0), Af_1, Af_2, Af_3, Af_4, Af_5, Af_6, Af_7, Af_8] : List (Nat → Int32)).getD k (fun _ => 0)) x1 x2 
