set_option maxRecDepth 16384
theorem pg_t0 : (0 : Int32).toInt = 0 := by decide
theorem pg_t1 : (1 : Int32).toInt = 1 := by decide
theorem pg_m1 : (-1 : Int32).toInt = -1 := by decide
theorem pg_lt {x y : Int32} : x < y ↔ x.toInt < y.toInt := Int32.lt_iff_toInt_lt
theorem pg_le {x y : Int32} : x ≤ y ↔ x.toInt ≤ y.toInt := Int32.le_iff_toInt_le
theorem pg_cl {x : Int32} {n : Nat} (h : x.toInt = (n : Int)) : x.toNatClampNeg = n := by
  show x.toInt.toNat = n
  omega
theorem pg_ix {x k : Int32} {n m : Int} (hx : x.toInt = n) (hk : k.toInt = m) (h : -2147483648 ≤ n + m ∧ n + m ≤ 2147483647) : (x + k).toInt = n + m := by
  rw [add_toInt (by rw [hx, hk]; exact h.1) (by rw [hx, hk]; exact h.2), hx, hk]
theorem pg_c3 : (3 : Int32).toNatClampNeg = 3 := by decide
theorem pg_c0 : (0 : Int32).toNatClampNeg = 0 := by decide
theorem pg_56 : (56 : Int32).toInt = 56 := by decide
theorem pg_6 : (6 : Int32).toInt = 6 := by decide
theorem pg_0 : nI 0 = (0 : Int32) := rfl
theorem pg_s (j : Nat) : nI j + (1 : Int32) = nI (j + 1) := nI_add j 1
theorem pg_z {k : Nat} (h : k ≤ 100) : nI k = (0 : Int32) ↔ k = 0 := ⟨fun e => by
  have e1 := congrArg Int32.toInt e
  rw [nI_toInt (by omega), pg_t0] at e1
  omega, fun e => by rw [e]; rfl⟩
theorem pg_of {i : Int32} {m : Nat} (h : i.toInt = (m : Int)) : i = nI m := by
  apply Int32.toInt_inj.mp
  rw [nI_toInt (by have := i.toInt_lt; omega)]
  exact h
theorem pg_in {x k : Int32} {K : Int64} (hk : K.toInt = k.toInt) : (dX11_isWithin x (0 : Int32) k = 0 ∧ dX12_in x.toInt64 (0 : Int64) K = 0) ∨ (dX11_isWithin x (0 : Int32) k = 1 ∧ dX12_in x.toInt64 (0 : Int64) K = 1) := by
  have e0 : (0 : Int64).toInt = 0 := by decide
  have ex : x.toInt64.toInt = x.toInt := Int32.toInt_toInt64 x
  unfold dX11_isWithin dX12_in
  by_cases z : x < (0 : Int32)
  · have z1 : lg_cmp x.toInt64 (0 : Int64) < (0 : Int32) := (lg_cmp_lt _ _).mpr (Int64.lt_iff_toInt_lt.mpr (by rw [pg_lt, pg_t0] at z; rw [ex, e0]; exact z))
    rw [if_pos z, if_pos z1]
    exact Or.inl ⟨rfl, rfl⟩
  · have z1 : ¬ lg_cmp x.toInt64 (0 : Int64) < (0 : Int32) := fun h => z (by have h1 := Int64.lt_iff_toInt_lt.mp ((lg_cmp_lt _ _).mp h); rw [ex, e0] at h1; rw [pg_lt, pg_t0]; exact h1)
    rw [if_neg z, if_neg z1]
    by_cases y : k < x
    · have y1 : (0 : Int32) < lg_cmp x.toInt64 K := (lg_cmp_gt _ _).mpr (Int64.lt_iff_toInt_lt.mpr (by rw [pg_lt] at y; rw [ex, hk]; exact y))
      rw [if_pos y, if_pos y1]
      exact Or.inl ⟨rfl, rfl⟩
    · have y1 : ¬ (0 : Int32) < lg_cmp x.toInt64 K := fun h => y (by have h1 := Int64.lt_iff_toInt_lt.mp ((lg_cmp_gt _ _).mp h); rw [ex, hk] at h1; rw [pg_lt]; exact h1)
      rw [if_neg y, if_neg y1]
      exact Or.inr ⟨rfl, rfl⟩
def PgS (a : Int32) (f s : Nat → Int32) : Prop := s 3 = a ∧ (0 ≤ a.toInt ∧ a.toInt ≤ 6) ∧ ∀ b : Nat, b < 6 → s (56 + b) = f b
theorem pg_and1 (x : Int32) : (x &&& 1) = 0 ∨ (x &&& 1) = 1 := by
  have h := Jvm.Kit.i32_mask x 1 (k := 1) (by decide) (by decide)
  have e : (2 : Int) ^ 1 = 2 := by decide
  rw [e] at h
  have : (x &&& 1).toInt = 0 ∨ (x &&& 1).toInt = 1 := by omega
  rcases this with z | z
  · exact Or.inl (Int32.toInt_inj.mp (by rw [z]; decide))
  · exact Or.inr (Int32.toInt_inj.mp (by rw [z]; decide))
theorem pgL {a x : Int32} {f s : Nat → Int32} (h : PgS a f s) : ∀ (n : Nat) (i c : Int32), 0 ≤ i.toInt → dX1_grainsOf_l4 f a x n i c = dX12_grainsOf_l4 s x n i c
  | 0, i, c, _ => rfl
  | n + 1, i, c, h0 => by
    rw [dX1_grainsOf_l4_s, dX12_grainsOf_l4_s, pg_c3, h.1]
    by_cases z : a ≤ i
    · rw [if_pos z, if_pos z]
    · have hz : i.toInt < 6 := by
        have h6 := h.2.1
        rw [pg_le] at z
        omega
      have z6 : ¬ (6 : Int32) ≤ i := by rw [pg_le, pg_6]; omega
      have en : (i + 1).toInt = i.toInt + 1 := by rw [pg_ix rfl pg_t1 (by omega)]
      have e56 : ((56 : Int32) + i).toInt = 56 + i.toInt := pg_ix pg_56 rfl (by omega)
      have ec : ((56 : Int32) + i).toNatClampNeg = 56 + i.toInt.toNat := pg_cl (by rw [e56]; omega)
      have es : s (56 + i.toInt.toNat) = f i.toInt.toNat := h.2.2 _ (by omega)
      have ei : i.toNatClampNeg = i.toInt.toNat := rfl
      rw [if_neg z, if_neg z6, if_neg z, ec, es, ei]
      unfold dX12_isOf
      rcases pg_and1 (x >>> (i &&& 31)) with y | y
      · rw [y, if_neg (show ¬ (0 : Int32) = 1 by decide), if_pos (show (0 : Int32) = 0 from rfl), Int32.zero_mul]
        exact pgL h n (i + 1) (c + 0) (by omega)
      · rw [y, if_pos (show (1 : Int32) = 1 from rfl), if_neg (show ¬ (1 : Int32) = 0 by decide), Int32.one_mul]
        exact pgL h n (i + 1) _ (by omega)
theorem pg_grains {a x : Int32} {f s : Nat → Int32} (h : PgS a f s) : dX1_grainsOf f a x = dX12_grainsOf s x := by
  unfold dX1_grainsOf dX12_grainsOf
  rw [pgL h _ _ _ (by decide)]
def pgS (G : Nat → Int32) (x : Int32) : Nat → Nat → List Int32
  | _, 0 => []
  | j, m + 1 => if G j = x then nI j :: pgS G x (j + 1) m else pgS G x (j + 1) m
theorem pgS_snoc {G : Nat → Int32} {x : Int32} : ∀ (m j : Nat), pgS G x j (m + 1) = pgS G x j m ++ (if G (j + m) = x then [nI (j + m)] else [])
  | 0, j => by
    rw [Nat.add_zero]
    show (if G j = x then nI j :: [] else []) = [] ++ (if G j = x then [nI j] else [])
    rfl
  | m + 1, j => by
    have ih := pgS_snoc (G := G) (x := x) m (j + 1)
    rw [show j + 1 + m = j + (m + 1) by omega] at ih
    show (if G j = x then nI j :: pgS G x (j + 1) (m + 1) else pgS G x (j + 1) (m + 1)) = (if G j = x then nI j :: pgS G x (j + 1) m else pgS G x (j + 1) m) ++ _
    by_cases z : G j = x
    · rw [if_pos z, if_pos z, ih]
      rfl
    · rw [if_neg z, if_neg z, ih]
def pgA (a : Int32) : List Int32 → Int32
  | [] => a
  | z :: L => pgA (a &&& z) L
theorem pgA_snoc {z : Int32} : ∀ (L : List Int32) (a : Int32), pgA a (L ++ [z]) = pgA a L &&& z
  | [], a => rfl
  | y :: L, a => pgA_snoc L (a &&& y)
theorem pgA_comm {z : Int32} : ∀ (L : List Int32) (a : Int32), pgA (a &&& z) L = pgA a L &&& z
  | [], a => rfl
  | y :: L, a => by
    show pgA (a &&& z &&& y) L = pgA (a &&& y) L &&& z
    rw [← pgA_comm L (a &&& y), Int32.and_assoc, Int32.and_comm z y, ← Int32.and_assoc]
def pgH (d : Int32) : List Int32 → Int32
  | [] => d
  | z :: _ => z
theorem pgH_snoc {d z : Int32} : ∀ L : List Int32, pgH d (L ++ [z]) = pgH z L
  | [] => rfl
  | _ :: _ => rfl
theorem clL {f : Nat → Int32} {a x : Int32} {N : Nat} (hE : (dX9_everybody a).toInt + 1 = (N : Int)) (hN : N ≤ 64) : ∀ (n j k : Nat) (b d : Int32), j ≤ N → N - j < n → k ≤ j → (dX1_setsOf_l16 f a x n (nI j) b (nI k) d).2 = (pgA b (pgS (fun m => dX1_grainsOf f a (nI m)) x j (N - j)), nI (k + (pgS (fun m => dX1_grainsOf f a (nI m)) x j (N - j)).length), if k = 0 then pgH d (pgS (fun m => dX1_grainsOf f a (nI m)) x j (N - j)) else d)
  | 0, j, k, b, d, h1, h2, h3 => by omega
  | n + 1, j, k, b, d, h1, h2, h3 => by
    have ej : (nI j).toInt = (j : Int) := nI_toInt (by omega)
    rw [dX1_setsOf_l16_s]
    by_cases z : dX9_everybody a < nI j
    · rw [if_pos z]
      rw [pg_lt, ej] at z
      rw [show N - j = 0 by omega]
      show (b, nI k, d) = (b, nI (k + 0), if k = 0 then d else d)
      rw [Nat.add_zero, ite_self]
    · rw [if_neg z]
      rw [pg_lt, ej] at z
      have ih := fun (k2 : Nat) (b2 d2 : Int32) (h : k2 ≤ j + 1) => clL (f := f) (x := x) hE hN n (j + 1) k2 b2 d2 (by omega) (by omega) h
      obtain ⟨L, eL⟩ : ∃ L, L = pgS (fun m => dX1_grainsOf f a (nI m)) x (j + 1) (N - (j + 1)) := ⟨_, rfl⟩
      rw [← eL] at ih
      rw [show N - j = (N - (j + 1)) + 1 by omega]
      by_cases y : dX1_grainsOf f a (nI j) = x
      · have eP : pgS (fun m => dX1_grainsOf f a (nI m)) x j ((N - (j + 1)) + 1) = nI j :: L := by rw [eL]; exact if_pos y
        rw [eP, if_pos y]
        by_cases w : k = 0
        · have w2 : nI k = (0 : Int32) := (pg_z (by omega)).mpr w
          rw [if_pos w2, if_pos w, pg_s, pg_s, ih (k + 1) _ _ (by omega), if_neg (show ¬ k + 1 = 0 by omega)]
          show (pgA (b &&& nI j) L, nI (k + 1 + L.length), nI j) = (pgA (b &&& nI j) L, nI (k + (L.length + 1)), nI j)
          rw [show k + 1 + L.length = k + (L.length + 1) by omega]
        · have w2 : ¬ nI k = (0 : Int32) := fun e => w ((pg_z (by omega)).mp e)
          rw [if_neg w2, if_neg w, pg_s, pg_s, ih (k + 1) _ _ (by omega), if_neg (show ¬ k + 1 = 0 by omega)]
          show (pgA (b &&& nI j) L, nI (k + 1 + L.length), d) = (pgA (b &&& nI j) L, nI (k + (L.length + 1)), d)
          rw [show k + 1 + L.length = k + (L.length + 1) by omega]
      · have eP : pgS (fun m => dX1_grainsOf f a (nI m)) x j ((N - (j + 1)) + 1) = L := by rw [eL]; exact if_neg y
        rw [eP, if_neg y, pg_s, ih k _ _ (by omega)]
theorem rfL {s G : Nat → Int32} {x : Int32} (hG : ∀ k : Nat, G k = dX12_grainsOf s (nI k)) : ∀ (n j k : Nat) (i b l : Int32), i.toInt + 1 = (j : Int) → j < n → j ≤ 64 → (dX12_page_l55 s x n i b l (nI k)).2 = (pgA b (pgS G x 0 j), pgH l (pgS G x 0 j), nI (k + (pgS G x 0 j).length))
  | 0, j, k, i, b, l, h1, h2, h3 => by omega
  | n + 1, j, k, i, b, l, h1, h2, h3 => by
    rw [dX12_page_l55_s]
    by_cases z : i < (0 : Int32)
    · rw [if_pos z]
      rw [pg_lt, pg_t0] at z
      rw [show j = 0 by omega]
      rfl
    · rw [if_neg z]
      rw [pg_lt, pg_t0] at z
      obtain ⟨m, hm⟩ : ∃ m, j = m + 1 := ⟨j - 1, by omega⟩
      subst hm
      have ei : i = nI m := pg_of (by omega)
      have en : (i + (-1)).toInt + 1 = (m : Int) := by rw [pg_ix rfl pg_m1 (by omega)]; omega
      have eP := pgS_snoc (G := G) (x := x) m 0
      rw [Nat.zero_add] at eP
      have ih := fun (k2 : Nat) (b2 l2 : Int32) => rfL (x := x) hG n m k2 (i + (-1)) b2 l2 en (by omega) (by omega)
      rw [eP]
      obtain ⟨L, eL⟩ : ∃ L, L = pgS G x 0 m := ⟨_, rfl⟩
      rw [← eL] at ih ⊢
      by_cases y : dX12_grainsOf s i = x
      · have y2 : G m = x := by rw [hG m, ← ei]; exact y
        rw [if_pos y, if_pos y2, pg_s, ih, pgA_snoc, pgH_snoc, pgA_comm, List.length_append, ← ei]
        show (pgA b L &&& i, pgH i L, nI (k + 1 + L.length)) = (pgA b L &&& i, pgH i L, nI (k + (L.length + 1)))
        rw [show k + 1 + L.length = k + (L.length + 1) by omega]
      · have y2 : ¬ G m = x := by rw [hG m, ← ei]; exact y
        rw [if_neg y, if_neg y2, List.append_nil, ih]
theorem pg_N {a : Int32} (h : 0 ≤ a.toInt ∧ a.toInt ≤ 6) : ∃ N : Nat, (dX9_everybody a).toInt + 1 = (N : Int) ∧ N ≤ 64 := by
  have e : ∀ k : Int32, a.toInt = k.toInt → a = k := fun k z => Int32.toInt_inj.mp z
  have hk : a.toInt = 0 ∨ a.toInt = 1 ∨ a.toInt = 2 ∨ a.toInt = 3 ∨ a.toInt = 4 ∨ a.toInt = 5 ∨ a.toInt = 6 := by omega
  rcases hk with z | z | z | z | z | z | z
  · rw [e 0 (z.trans (by decide))]; exact ⟨1, by decide +kernel, by decide⟩
  · rw [e 1 (z.trans (by decide))]; exact ⟨2, by decide +kernel, by decide⟩
  · rw [e 2 (z.trans (by decide))]; exact ⟨4, by decide +kernel, by decide⟩
  · rw [e 3 (z.trans (by decide))]; exact ⟨8, by decide +kernel, by decide⟩
  · rw [e 4 (z.trans (by decide))]; exact ⟨16, by decide +kernel, by decide⟩
  · rw [e 5 (z.trans (by decide))]; exact ⟨32, by decide +kernel, by decide⟩
  · rw [e 6 (z.trans (by decide))]; exact ⟨64, by decide +kernel, by decide⟩
theorem sets_eq {f s : Nat → Int32} {a x1 x2 : Int32} (h : PgS a f s) : dX1_setsOf f a x1 x2 = (if x2 = (0 : Int32) then (dX12_page_l55 s x1 (((dX9_everybody a).toInt + 1).toNat + 1) (dX9_everybody a) (dX9_everybody a) (-2 : Int32) (0 : Int32)).2.2.2 else (if x2 = (1 : Int32) then (dX12_page_l55 s x1 (((dX9_everybody a).toInt + 1).toNat + 1) (dX9_everybody a) (dX9_everybody a) (-2 : Int32) (0 : Int32)).2.2.1 else (if (dX12_page_l55 s x1 (((dX9_everybody a).toInt + 1).toNat + 1) (dX9_everybody a) (dX9_everybody a) (-2 : Int32) (0 : Int32)).2.2.2 = (0 : Int32) then (0 : Int32) else (dX12_page_l55 s x1 (((dX9_everybody a).toInt + 1).toNat + 1) (dX9_everybody a) (dX9_everybody a) (-2 : Int32) (0 : Int32)).2.1))) := by
  obtain ⟨N, hE, hN⟩ := pg_N h.2.1
  have c := clL (f := f) (a := a) (x := x1) hE hN ((64 - (0 : Int32).toInt).toNat + 1) 0 0 (dX9_everybody a) (-2) (Nat.zero_le _) (by rw [pg_t0]; omega) (Nat.le_refl _)
  have r := rfL (s := s) (x := x1) (G := fun m => dX1_grainsOf f a (nI m)) (fun k => pg_grains h) (((dX9_everybody a).toInt + 1).toNat + 1) N 0 (dX9_everybody a) (dX9_everybody a) (-2) hE (by omega) hN
  rw [pg_0, Nat.sub_zero, if_pos rfl] at c
  rw [pg_0] at r
  unfold dX1_setsOf
  rw [c, r] <;> rfl
theorem pg_ti {v : Int32} (h : 0 < v.toInt) : (if v ≤ (0 : Int32) then (0 : Int32) else (1 : Int32)) = 1 := if_neg (by rw [pg_le, pg_t0]; omega)
theorem pg_to {v : Int32} (h : v.toInt ≤ 0) : (if v ≤ (0 : Int32) then (0 : Int32) else (1 : Int32)) = 0 := if_pos (by rw [pg_le, pg_t0]; omega)
theorem page_eq {f s : Nat → Int32} {a2 a3 x1 x2 : Int32} {dr : Nat → Int} (hk : KyC dr a2 a3 f) (hg : TdG dr) (hm : TdM dr s) : dX11_page f a2 a3 x1 x2 = dX12_page s x1 x2 := by
  have k1 := hk.1
  have k2 := hk.2.1
  have m0 := hm.1 0 (by omega)
  have e3 : s 3 = a3 := Int32.toInt_inj.mp ((hm.1 3 (by omega)).trans k2.symm)
  have hb : 0 ≤ a3.toInt ∧ a3.toInt ≤ 6 := by
    rcases hg.1 with h | h
    · omega
    · have h3 := h.2.2.1
      omega
  have hP : PgS a3 f s := ⟨e3, hb, fun b hb => Int32.toInt_inj.mp ((hm.1 (56 + b) (by omega)).trans (hk.2.2 b hb).symm)⟩
  have eE : ((1 : Int32) <<< (s 3 &&& 31)) - (1 : Int32) = dX9_everybody a3 := by rw [e3]; rfl
  unfold dX11_page dX12_page dX9_isTold dX12_isBook
  rw [pg_c0, pg_c3, eE]
  by_cases z : s 0 = 1
  · have hv : 0 < a2.toInt := by
      have h0 : dr 0 = 1 := by rw [← m0, z, pg_t1]
      rcases hg.1 with h | h
      · omega
      · rcases h.1 with c0 | c0
        · omega
        · omega
    rw [pg_ti hv, if_pos z, if_neg (show ¬ (1 : Int32) = 0 by decide), if_neg (show ¬ (1 : Int32) = 0 by decide)]
    rcases pg_in (x := x1) (k := 60) (K := 60) (by decide) with ⟨i1, i2⟩ | ⟨i1, i2⟩
    · rw [i1, i2, if_pos rfl, if_pos rfl]
    · rw [i1, i2, if_neg (show ¬ (1 : Int32) = 0 by decide), if_neg (show ¬ (1 : Int32) = 0 by decide)]
      rcases pg_in (x := x2) (k := 2) (K := 2) (by decide) with ⟨j1, j2⟩ | ⟨j1, j2⟩
      · rw [j1, j2, if_pos rfl, if_pos rfl]
      · rw [j1, j2, if_neg (show ¬ (1 : Int32) = 0 by decide), if_neg (show ¬ (1 : Int32) = 0 by decide)]
        exact sets_eq hP
  · have hv : a2.toInt ≤ 0 := by
      rcases hg.1 with h | h
      · omega
      · rcases h.1 with c0 | c0
        · omega
        · exact absurd (Int32.toInt_inj.mp (m0.trans (c0.1.trans pg_t1.symm))) z
    rw [pg_to hv, if_neg z, if_pos rfl, if_pos rfl]
