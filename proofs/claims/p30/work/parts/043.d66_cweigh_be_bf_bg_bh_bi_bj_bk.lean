set_option maxRecDepth 100000 in
theorem cu_dX2_wgh6 (l : Launch) (D : va_G) (tc : Nat → ClassId) (sk : (Nat → Nat) × (Nat → Nat)) (Ya_0 : Nat) (Ya_2 : Nat) (Ya_3 : Nat) (Yv_0 : Int32) (Yf_2 : Nat → Int32) (Yf_3 : Nat → Int32) (Wa_0 : Nat) (Wa_1 : Nat) (Wa_2 : Nat) (Wa_3 : Nat) (Wa_4 : Nat) (Wa_5 : Nat) (Wa_6 : Nat) (Wa_7 : Nat) (Wa_8 : Nat) (Wv_0 : Int32) (Wv_1 : Int32) (Wv_2 : Int32) (Wv_3 : Int32) (Wv_4 : Int32) (Wv_5 : Int32) (Wf_1 : Nat → Int32) (Wf_2 : Nat → Int32) (Wf_3 : Nat → Int32) (Wf_4 : Nat → Int32) (Wf_5 : Nat → Int32) (Wf_6 : Nat → Int32) (Wf_7 : Nat → Int32) (Wf_8 : Nat → Int32) (Sa_0 : Nat) (Sa_1 : Nat) (Sv_0 : Int32) (Sv_1 : Int32) (Ba_0 : Nat) (Ba_1 : Nat) (Ba_2 : Nat) (Ba_3 : Nat) (Ba_4 : Nat) (Ba_5 : Nat) (Ba_6 : Nat) (Ba_7 : Nat) (Ba_8 : Nat) (Bv_0 : Int32) (Bv_1 : Int32) (Bv_2 : Int32) (Bv_3 : Int32) (Bv_4 : Int32) (Bv_5 : Int32) (Bf_1 : Nat → Int32) (Bf_2 : Nat → Int32) (Bf_3 : Nat → Int32) (Bf_4 : Nat → Int32) (Bf_5 : Nat → Int32) (Bf_6 : Nat → Int32) (Bf_7 : Nat → Int32) (Bf_8 : Nat → Int32) (Na_0 : Nat) (Na_1 : Nat) (Na_2 : Nat) (Na_3 : Nat) (Nv_0 : Int32) (Nf_1 : Nat → Int32) (Nf_2 : Nat → Int32) (Nf_3 : Nat → Int32) (La_0 : Nat) (Lq_0 : Nat → Option Nat) (R0a_0 : Nat) (R0a_1 : Nat) (R0a_2 : Nat) (R0f_1 : Nat → Int32) (R0g_2 : Nat → Int64) (R0n : Nat) (R1a_0 : Nat) (R1a_1 : Nat) (R1a_2 : Nat) (R1f_1 : Nat → Int32) (R1g_2 : Nat → Int64) (R1n : Nat) (R2a_0 : Nat) (R2a_1 : Nat) (R2a_2 : Nat) (R2f_1 : Nat → Int32) (R2g_2 : Nat → Int64) (R2n : Nat) (R3a_0 : Nat) (R3a_1 : Nat) (R3a_2 : Nat) (R3f_1 : Nat → Int32) (R3g_2 : Nat → Int64) (R3n : Nat) (R4a_0 : Nat) (R4a_1 : Nat) (R4a_2 : Nat) (R4f_1 : Nat → Int32) (R4g_2 : Nat → Int64) (R4n : Nat) (R5a_0 : Nat) (R5a_1 : Nat) (R5a_2 : Nat) (R5f_1 : Nat → Int32) (R5g_2 : Nat → Int64) (R5n : Nat) (h_q0 : Lq_0 0 = some R0a_0) (h_q1 : Lq_0 1 = some R1a_0) (h_q2 : Lq_0 2 = some R2a_0) (h_q3 : Lq_0 3 = some R3a_0) (h_q4 : Lq_0 4 = some R4a_0) (h_q5 : Lq_0 5 = some R5a_0) (h_n0 : R0n ≤ 400) (h_n1 : R1n ≤ 400) (h_n2 : R2n ≤ 400) (h_n3 : R3n ≤ 400) (h_n4 : R4n ≤ 400) (h_n5 : R5n ≤ 400) : Ct l yX2_weigh cX2_weigh 7 none { frames := 5, cells := 0, slots := 0, locals := 116 } D tc sk [.ref Ya_0, .ref Sa_0, .ref La_0, .int 6] [(Ya_0, .inr (2, [.ref Wa_0, .ref Ya_2, .ref Ya_3, .int Yv_0])), (Ya_2, .inl (tc 0, 427, .inl Yf_2)), (Ya_3, .inl (tc 3, 7, .inl Yf_3)), (Wa_0, .inr (9, [.int Wv_0, .int Wv_1, .int Wv_2, .int Wv_3, .int Wv_4, .int Wv_5, .ref Wa_1, .ref Wa_2, .ref Wa_3, .ref Wa_4, .ref Wa_5, .ref Wa_6, .ref Wa_7, .ref Wa_8])), (Wa_1, .inl (tc 0, 10, .inl Wf_1)), (Wa_2, .inl (tc 0, 10, .inl Wf_2)), (Wa_3, .inl (tc 0, 6, .inl Wf_3)), (Wa_4, .inl (tc 0, 6, .inl Wf_4)), (Wa_5, .inl (tc 0, 6, .inl Wf_5)), (Wa_6, .inl (tc 0, 6, .inl Wf_6)), (Wa_7, .inl (tc 0, 6, .inl Wf_7)), (Wa_8, .inl (tc 0, 6, .inl Wf_8)), (Sa_0, .inr (8, [.ref Sa_1, .ref Ba_0, .ref Na_0, .int Sv_0, .int Sv_1])), (Ba_0, .inr (9, [.int Bv_0, .int Bv_1, .int Bv_2, .int Bv_3, .int Bv_4, .int Bv_5, .ref Ba_1, .ref Ba_2, .ref Ba_3, .ref Ba_4, .ref Ba_5, .ref Ba_6, .ref Ba_7, .ref Ba_8])), (Ba_1, .inl (tc 0, 10, .inl Bf_1)), (Ba_2, .inl (tc 0, 10, .inl Bf_2)), (Ba_3, .inl (tc 0, 6, .inl Bf_3)), (Ba_4, .inl (tc 0, 6, .inl Bf_4)), (Ba_5, .inl (tc 0, 6, .inl Bf_5)), (Ba_6, .inl (tc 0, 6, .inl Bf_6)), (Ba_7, .inl (tc 0, 6, .inl Bf_7)), (Ba_8, .inl (tc 0, 6, .inl Bf_8)), (Na_0, .inr (3, [.ref Na_1, .ref Na_2, .ref Na_3, .int Nv_0])), (Na_1, .inl (tc 0, 10, .inl Nf_1)), (Na_2, .inl (tc 0, 10, .inl Nf_2)), (Na_3, .inl (tc 0, 10, .inl Nf_3)), (La_0, .inl (tc 4, 6, .inr (.inr (.inr (.inr Lq_0))))), (R0a_0, .inr (6, [.ref R0a_1, .ref R0a_2])), (R0a_1, .inl (tc 0, R0n, .inl R0f_1)), (R0a_2, .inl (tc 1, 64, .inr (.inl R0g_2))), (R1a_0, .inr (6, [.ref R1a_1, .ref R1a_2])), (R1a_1, .inl (tc 0, R1n, .inl R1f_1)), (R1a_2, .inl (tc 1, 64, .inr (.inl R1g_2))), (R2a_0, .inr (6, [.ref R2a_1, .ref R2a_2])), (R2a_1, .inl (tc 0, R2n, .inl R2f_1)), (R2a_2, .inl (tc 1, 64, .inr (.inl R2g_2))), (R3a_0, .inr (6, [.ref R3a_1, .ref R3a_2])), (R3a_1, .inl (tc 0, R3n, .inl R3f_1)), (R3a_2, .inl (tc 1, 64, .inr (.inl R3g_2))), (R4a_0, .inr (6, [.ref R4a_1, .ref R4a_2])), (R4a_1, .inl (tc 0, R4n, .inl R4f_1)), (R4a_2, .inl (tc 1, 64, .inr (.inl R4g_2))), (R5a_0, .inr (6, [.ref R5a_1, .ref R5a_2])), (R5a_1, .inl (tc 0, R5n, .inl R5f_1)), (R5a_2, .inl (tc 1, 64, .inr (.inl R5g_2)))] (fun (v : Option Value) (u : (Int32) × (Nat → Int32) × (Nat → Int32) × (Int32) × (Int32) × (Int32) × (Int32) × (Int32) × (Int32) × (Nat → Int32) × (Nat → Int32) × (Nat → Int32) × (Nat → Int32) × (Nat → Int32) × (Nat → Int32) × (Nat → Int32) × (Nat → Int32) × (Nat → Int64) × (Nat → Int64) × (Nat → Int64) × (Nat → Int64) × (Nat → Int64) × (Nat → Int64)) => match u with | (oo0x1, oo0x2, oo0x3, oo0x4, oo0x5, oo0x6, oo0x7, oo0x8, oo0x9, oo0x10, oo0x11, oo0x12, oo0x13, oo0x14, oo0x15, oo0x16, oo0x17, oo0x18, oo0x19, oo0x20, oo0x21, oo0x22, oo0x23) => v = none ∧ (DEq ((oo0x1, oo0x2, oo0x3, oo0x4, oo0x5, oo0x6, oo0x7, oo0x8, oo0x9, oo0x10, oo0x11, oo0x12, oo0x13, oo0x14, oo0x15, oo0x16, oo0x17, oo0x18, oo0x19, oo0x20, oo0x21, oo0x22, oo0x23)) (dX2_wgh6 Bf_1 Bf_2 Bf_3 Bf_4 Bf_5 Bf_6 Bf_7 Bf_8 Bv_0 Bv_1 Bv_2 Bv_3 Bv_4 Bv_5 Nf_1 Nf_2 Nf_3 Nv_0 R0f_1 R0g_2 R1f_1 R1g_2 R2f_1 R2g_2 R3f_1 R3g_2 R4f_1 R4g_2 R5f_1 R5g_2 Wf_1 Wf_2 Wf_3 Wf_4 Wf_5 Wf_6 Wf_7 Wf_8 Wv_0 Wv_1 Wv_2 Wv_3 Wv_4 Wv_5 Yf_2 Yf_3 R0n R1n R2n R3n R4n R5n))) (fun (u : (Int32) × (Nat → Int32) × (Nat → Int32) × (Int32) × (Int32) × (Int32) × (Int32) × (Int32) × (Int32) × (Nat → Int32) × (Nat → Int32) × (Nat → Int32) × (Nat → Int32) × (Nat → Int32) × (Nat → Int32) × (Nat → Int32) × (Nat → Int32) × (Nat → Int64) × (Nat → Int64) × (Nat → Int64) × (Nat → Int64) × (Nat → Int64) × (Nat → Int64)) => match u with | (oo0x1, oo0x2, oo0x3, oo0x4, oo0x5, oo0x6, oo0x7, oo0x8, oo0x9, oo0x10, oo0x11, oo0x12, oo0x13, oo0x14, oo0x15, oo0x16, oo0x17, oo0x18, oo0x19, oo0x20, oo0x21, oo0x22, oo0x23) => [(Ya_0, .inr (2, [.ref Wa_0, .ref Ya_2, .ref Ya_3, .int oo0x1])), (Ya_2, .inl (tc 0, 427, .inl oo0x2)), (Ya_3, .inl (tc 3, 7, .inl oo0x3)), (Wa_0, .inr (9, [.int oo0x4, .int oo0x5, .int oo0x6, .int oo0x7, .int oo0x8, .int oo0x9, .ref Wa_1, .ref Wa_2, .ref Wa_3, .ref Wa_4, .ref Wa_5, .ref Wa_6, .ref Wa_7, .ref Wa_8])), (Wa_1, .inl (tc 0, 10, .inl oo0x10)), (Wa_2, .inl (tc 0, 10, .inl oo0x11)), (Wa_3, .inl (tc 0, 6, .inl oo0x12)), (Wa_4, .inl (tc 0, 6, .inl oo0x13)), (Wa_5, .inl (tc 0, 6, .inl oo0x14)), (Wa_6, .inl (tc 0, 6, .inl oo0x15)), (Wa_7, .inl (tc 0, 6, .inl oo0x16)), (Wa_8, .inl (tc 0, 6, .inl oo0x17)), (Sa_0, .inr (8, [.ref Sa_1, .ref Ba_0, .ref Na_0, .int Sv_0, .int Sv_1])), (Ba_0, .inr (9, [.int Bv_0, .int Bv_1, .int Bv_2, .int Bv_3, .int Bv_4, .int Bv_5, .ref Ba_1, .ref Ba_2, .ref Ba_3, .ref Ba_4, .ref Ba_5, .ref Ba_6, .ref Ba_7, .ref Ba_8])), (Ba_1, .inl (tc 0, 10, .inl Bf_1)), (Ba_2, .inl (tc 0, 10, .inl Bf_2)), (Ba_3, .inl (tc 0, 6, .inl Bf_3)), (Ba_4, .inl (tc 0, 6, .inl Bf_4)), (Ba_5, .inl (tc 0, 6, .inl Bf_5)), (Ba_6, .inl (tc 0, 6, .inl Bf_6)), (Ba_7, .inl (tc 0, 6, .inl Bf_7)), (Ba_8, .inl (tc 0, 6, .inl Bf_8)), (Na_0, .inr (3, [.ref Na_1, .ref Na_2, .ref Na_3, .int Nv_0])), (Na_1, .inl (tc 0, 10, .inl Nf_1)), (Na_2, .inl (tc 0, 10, .inl Nf_2)), (Na_3, .inl (tc 0, 10, .inl Nf_3)), (La_0, .inl (tc 4, 6, .inr (.inr (.inr (.inr Lq_0))))), (R0a_0, .inr (6, [.ref R0a_1, .ref R0a_2])), (R0a_1, .inl (tc 0, R0n, .inl R0f_1)), (R0a_2, .inl (tc 1, 64, .inr (.inl oo0x18))), (R1a_0, .inr (6, [.ref R1a_1, .ref R1a_2])), (R1a_1, .inl (tc 0, R1n, .inl R1f_1)), (R1a_2, .inl (tc 1, 64, .inr (.inl oo0x19))), (R2a_0, .inr (6, [.ref R2a_1, .ref R2a_2])), (R2a_1, .inl (tc 0, R2n, .inl R2f_1)), (R2a_2, .inl (tc 1, 64, .inr (.inl oo0x20))), (R3a_0, .inr (6, [.ref R3a_1, .ref R3a_2])), (R3a_1, .inl (tc 0, R3n, .inl R3f_1)), (R3a_2, .inl (tc 1, 64, .inr (.inl oo0x21))), (R4a_0, .inr (6, [.ref R4a_1, .ref R4a_2])), (R4a_1, .inl (tc 0, R4n, .inl R4f_1)), (R4a_2, .inl (tc 1, 64, .inr (.inl oo0x22))), (R5a_0, .inr (6, [.ref R5a_1, .ref R5a_2])), (R5a_1, .inl (tc 0, R5n, .inl R5f_1)), (R5a_2, .inl (tc 1, 64, .inr (.inl oo0x23)))]) 0 0 :=
  ct_dX2_wgh6 l D tc sk (fun k => ([Ya_0, 0, Ya_2, Ya_3] : List (Nat)).getD k 0) (fun k => ([Yv_0] : List (Int32)).getD k 0) (fun k => ([(fun _ => 0), (fun _ => 0), Yf_2, Yf_3] : List (Nat → Int32)).getD k (fun _ => 0)) (fun k => ([Wa_0, Wa_1, Wa_2, Wa_3, Wa_4, Wa_5, Wa_6, Wa_7, Wa_8] : List (Nat)).getD k 0) (fun k => ([Wv_0, Wv_1, Wv_2, Wv_3, Wv_4, Wv_5] : List (Int32)).getD k 0) (fun k => ([(fun _ => 0), Wf_1, Wf_2, Wf_3, Wf_4, Wf_5, Wf_6, Wf_7, Wf_8] : List (Nat → Int32)).getD k (fun _ => 0)) (fun k => ([Sa_0, Sa_1] : List (Nat)).getD k 0) (fun k => ([Sv_0, Sv_1] : List (Int32)).getD k 0) (fun k => ([Ba_0, Ba_1, Ba_2, Ba_3, Ba_4, Ba_5, Ba_6, Ba_7, Ba_8] : List (Nat)).getD k 0) (fun k => ([Bv_0, Bv_1, Bv_2, Bv_3, Bv_4, Bv_5] : List (Int32)).getD k 0) (fun k => ([(fun _ => 0), Bf_1, Bf_2, Bf_3, Bf_4, Bf_5, Bf_6, Bf_7, Bf_8] : List (Nat → Int32)).getD k (fun _ => 0)) (fun k => ([Na_0, Na_1, Na_2, Na_3] : List (Nat)).getD k 0) (fun k => ([Nv_0] : List (Int32)).getD k 0) (fun k => ([(fun _ => 0), Nf_1, Nf_2, Nf_3] : List (Nat → Int32)).getD k (fun _ => 0)) (fun k => ([La_0] : List (Nat)).getD k 0) (fun k => ([Lq_0] : List (Nat → Option Nat)).getD k (fun _ => none)) (fun k => ([R0a_0, R0a_1, R0a_2] : List (Nat)).getD k 0) (fun k => ([(fun _ => 0), R0f_1] : List (Nat → Int32)).getD k (fun _ => 0)) (fun k => ([(fun _ => 0), (fun _ => 0), R0g_2] : List (Nat → Int64)).getD k (fun _ => 0)) R0n (fun k => ([R1a_0, R1a_1, R1a_2] : List (Nat)).getD k 0) (fun k => ([(fun _ => 0), R1f_1] : List (Nat → Int32)).getD k (fun _ => 0)) (fun k => ([(fun _ => 0), (fun _ => 0), R1g_2] : List (Nat → Int64)).getD k (fun _ => 0)) R1n (fun k => ([R2a_0, R2a_1, R2a_2] : List (Nat)).getD k 0) (fun k => ([(fun _ => 0), R2f_1] : List (Nat → Int32)).getD k (fun _ => 0)) (fun k => ([(fun _ => 0), (fun _ => 0), R2g_2] : List (Nat → Int64)).getD k (fun _ => 0)) R2n (fun k => ([R3a_0, R3a_1, R3a_2] : List (Nat)).getD k 0) (fun k => ([(fun _ => 0), R3f_1] : List (Nat → Int32)).getD k (fun _ => 0)) (fun k => ([(fun _ => 0), (fun _ => 0), R3g_2] : List (Nat → Int64)).getD k (fun _ => 0)) R3n (fun k => ([R4a_0, R4a_1, R4a_2] : List (Nat)).getD k 0) (fun k => ([(fun _ => 0), R4f_1] : List (Nat → Int32)).getD k (fun _ => 0)) (fun k => ([(fun _ => 0), (fun _ => 0), R4g_2] : List (Nat → Int64)).getD k (fun _ => 0)) R4n (fun k => ([R5a_0, R5a_1, R5a_2] : List (Nat)).getD k 0) (fun k => ([(fun _ => 0), R5f_1] : List (Nat → Int32)).getD k (fun _ => 0)) (fun k => ([(fun _ => 0), (fun _ => 0), R5g_2] : List (Nat → Int64)).getD k (fun _ => 0)) R5n h_q0 h_q1 h_q2 h_q3 h_q4 h_q5 h_n0 h_n1 h_n2 h_n3 h_n4 h_n5
def TbE (W V : Nat → Int32) (m : Nat) : Prop := ∀ k : Nat, k < m → W k = V k
theorem TbE.on {W V : Nat → Int32} {m : Nat} (h : TbE W V m) {w : Int32} : TbE (upd W m w) (upd V m w) (m + 1) := fun k hk => by
  by_cases z : k = m
  · rw [z, upd_at, upd_at]
  · rw [upd_ne z, upd_ne z]; exact h k (by omega)
theorem TlS.rf {s : Nat → Int32} : TlS s s := fun _ _ => rfl
theorem TlS.tr {s t u : Nat → Int32} (h : TlS s t) (h2 : TlS t u) : TlS s u := fun k hk => (h2 k hk).trans (h k hk)
theorem t_60 : (60 : Int32).toInt = 60 := by decide
theorem t_61 : (61 : Int32).toInt = 61 := by decide
theorem i61 {r d : Int32} (hr : 0 ≤ r.toInt ∧ r.toInt ≤ 6) (hd : 0 ≤ d.toInt ∧ d.toInt ≤ 60) : (r * (61 : Int32) + d).toNatClampNeg = 61 * r.toInt.toNat + d.toInt.toNat := by
  have e1 : (r * (61 : Int32)).toInt = r.toInt * 61 := by rw [mul_toInt (by rw [t_61]; omega) (by rw [t_61]; omega), t_61]
  exact cl_eq (by rw [ix_k e1 rfl (by omega)]; omega)
theorem spot_is {r d : Int32} (hr : 0 ≤ r.toInt ∧ r.toInt ≤ 6) (hd : 0 ≤ d.toInt ∧ d.toInt ≤ 60) : (dX12_spot r d).toNatClampNeg = 61 * r.toInt.toNat + d.toInt.toNat := by
  have e1 : ((61 : Int32) * r).toInt = 61 * r.toInt := by rw [mul_toInt (by rw [t_61]; omega) (by rw [t_61]; omega), t_61]
  unfold dX12_spot
  exact cl_eq (by rw [ix_k e1 rfl (by omega)]; omega)
theorem wk_idx {r d e : Nat} (h : e = d + 1) : 61 * r + e = 61 * r + d + 1 := by omega
theorem wk_nx {d : Int32} (h0 : 0 ≤ d.toInt) (h1 : d.toInt ≤ 60) : (d + 1).toInt = d.toInt + 1 := by rw [ix_k rfl t_1 (by omega)]
theorem wk_wgh0_l67 {B1f B2f B3f B4f B5f B6f B7f B8f y8 y9 y10 y11 y12 y13 y14 y15 g2 g4 g5 : Nat → Int32} {b1 b2 b3 r : Int32} (hr : 0 ≤ r.toInt ∧ r.toInt ≤ 6) (hf : (r - 1).toInt < 0) : ∀ (n : Nat) (d v0 v4 v5 top : Int32) (W f3 f6 f7 f8 V s : Nat → Int32) (g8 g9 : Nat → Int64), ShR v0 b1 b2 b3 v4 v5 (dX9_copyFrom y8 y9 y10 y11 y12 y13 y14 y15 B1f B2f B3f B4f B5f B6f B7f B8f).1 (dX9_copyFrom y8 y9 y10 y11 y12 y13 y14 y15 B1f B2f B3f B4f B5f B6f B7f B8f).2.1 f3 (dX9_copyFrom y8 y9 y10 y11 y12 y13 y14 y15 B1f B2f B3f B4f B5f B6f B7f B8f).2.2.2.1 (dX9_copyFrom y8 y9 y10 y11 y12 y13 y14 y15 B1f B2f B3f B4f B5f B6f B7f B8f).2.2.2.2.1 f6 f7 f8 s → Gs s → (s 10).toInt = d.toInt → 0 ≤ d.toInt → d.toInt ≤ 61 → 61 - d.toInt < (n : Int) → TbE W V (61 * r.toInt.toNat + d.toInt.toNat) →
    TbE (dX2_wgh0_l67 B1f B2f B3f B4f B5f B6f B7f B8f b1 b2 b3 r y8 y9 y10 y11 y12 y13 y14 y15 n d W v0 v4 v5 f3 f6 f7 f8).2.1 (dX12_fillsFits_l32 g2 g4 g5 0 r r n d g8 g9 V top s).2.2.2.1 (61 * r.toInt.toNat + 61) ∧ TlS s (dX12_fillsFits_l32 g2 g4 g5 0 r r n d g8 g9 V top s).2.2.2.2.2
  | 0, d, v0, v4, v5, top, W, f3, f6, f7, f8, V, s, g8, g9, h, g, h10, h0, h1, hm, hT => by omega
  | n + 1, d, v0, v4, v5, top, W, f3, f6, f7, f8, V, s, g8, g9, h, g, h10, h0, h1, hm, hT => by
    rw [dX2_wgh0_l67_s, dX12_fillsFits_l32_s]
    by_cases z : (61 : Int32) ≤ d
    · have ez : d.toInt = 61 := by rw [i32_leq, t_61] at z; omega
      have z2 : (60 : Int32) < d := by rw [i32_lt, t_60]; omega
      rw [if_pos z, if_pos z2]
      rw [show d.toInt.toNat = 61 by omega] at hT
      exact ⟨hT, TlS.rf⟩
    · have hd6 : d.toInt ≤ 60 := by rw [i32_leq, t_61] at z; omega
      have z2 : ¬ (60 : Int32) < d := by rw [i32_lt, t_60]; omega
      rw [if_neg z, if_neg z2, i61 hr ⟨h0, hd6⟩, spot_is hr ⟨h0, hd6⟩]
      obtain ⟨who, sh, so, c3, a6, a7, a8, tp, h8, h9, t, eC, eR, hS, gS, e10, hl⟩ := full_n (top := top) (g2 := g2) (g4 := g4) (g5 := g5) (g8 := g8) (g9 := g9) h g (by omega) hf
      rw [eC, eR]
      have en := wk_nx h0 hd6
      have ih := wk_wgh0_l67 (g2 := g2) (g4 := g4) (g5 := g5) hr hf n (d + 1) sh (v4 + 1) so tp (upd W (61 * r.toInt.toNat + d.toInt.toNat) who) c3 a6 a7 a8 (upd V (61 * r.toInt.toNat + d.toInt.toNat) who) t h8 h9 hS gS (by rw [e10, en, h10]) (by omega) (by omega) (by omega) (by rw [wk_idx (d := d.toInt.toNat) (e := (d + 1).toInt.toNat) (by omega)]; exact hT.on)
      exact ⟨ih.1, hl.tr ih.2⟩
theorem wk_wgh1_l67 {B1f B2f B3f B4f B5f B6f B7f B8f y8 y9 y10 y11 y12 y13 y14 y15 g2 g4 g5 : Nat → Int32} {b1 b2 b3 r : Int32} {rf : Nat → Int32} {rn : Nat} {R : RuA} (hr : 0 ≤ r.toInt ∧ r.toInt ≤ 6) (hL : CdE rf (ru_fl R)) (hn : (ru_fl R).length = rn) (h4 : rn ≤ 400) (hfo : 0 ≤ (r - 1).toInt ∧ (r - 1).toInt < 6) (hR : RwR g2 g4 g5 (r - 1).toInt.toNat R) (hk : ru_ok R) : ∀ (n : Nat) (d v0 v4 v5 top : Int32) (W f3 f6 f7 f8 V s : Nat → Int32) (hd g8 g9 : Nat → Int64), ShR v0 b1 b2 b3 v4 v5 (dX9_copyFrom y8 y9 y10 y11 y12 y13 y14 y15 B1f B2f B3f B4f B5f B6f B7f B8f).1 (dX9_copyFrom y8 y9 y10 y11 y12 y13 y14 y15 B1f B2f B3f B4f B5f B6f B7f B8f).2.1 f3 (dX9_copyFrom y8 y9 y10 y11 y12 y13 y14 y15 B1f B2f B3f B4f B5f B6f B7f B8f).2.2.2.1 (dX9_copyFrom y8 y9 y10 y11 y12 y13 y14 y15 B1f B2f B3f B4f B5f B6f B7f B8f).2.2.2.2.1 f6 f7 f8 s → Gs s → (s 10).toInt = d.toInt → 0 ≤ d.toInt → d.toInt ≤ 61 → 61 - d.toInt < (n : Int) → TbE W V (61 * r.toInt.toNat + d.toInt.toNat) →
    TbE (dX2_wgh1_l67 B1f B2f B3f B4f B5f B6f B7f B8f b1 b2 b3 rf rn r y8 y9 y10 y11 y12 y13 y14 y15 n d W hd v0 v4 v5 f3 f6 f7 f8).2.1 (dX12_fillsFits_l32 g2 g4 g5 0 r r n d g8 g9 V top s).2.2.2.1 (61 * r.toInt.toNat + 61) ∧ TlS s (dX12_fillsFits_l32 g2 g4 g5 0 r r n d g8 g9 V top s).2.2.2.2.2
  | 0, d, v0, v4, v5, top, W, f3, f6, f7, f8, V, s, hd, g8, g9, h, g, h10, h0, h1, hm, hT => by omega
  | n + 1, d, v0, v4, v5, top, W, f3, f6, f7, f8, V, s, hd, g8, g9, h, g, h10, h0, h1, hm, hT => by
    rw [dX2_wgh1_l67_s, dX12_fillsFits_l32_s]
    by_cases z : (61 : Int32) ≤ d
    · have ez : d.toInt = 61 := by rw [i32_leq, t_61] at z; omega
      have z2 : (60 : Int32) < d := by rw [i32_lt, t_60]; omega
      rw [if_pos z, if_pos z2]
      rw [show d.toInt.toNat = 61 by omega] at hT
      exact ⟨hT, TlS.rf⟩
    · have hd6 : d.toInt ≤ 60 := by rw [i32_leq, t_61] at z; omega
      have z2 : ¬ (60 : Int32) < d := by rw [i32_lt, t_60]; omega
      rw [if_neg z, if_neg z2, i61 hr ⟨h0, hd6⟩, spot_is hr ⟨h0, hd6⟩]
      obtain ⟨who, sh, so, c3, a6, a7, a8, hd1, tp, h8, h9, t, eC, eR, hS, gS, e10, hl⟩ := full_r (top := top) (g8 := g8) (g9 := g9) (hd0 := hd) hL hn h4 hfo hR hk h g (by omega)
      rw [eC, eR]
      have en := wk_nx h0 hd6
      have ih := wk_wgh1_l67 hr hL hn h4 hfo hR hk n (d + 1) sh (v4 + 1) so tp (upd W (61 * r.toInt.toNat + d.toInt.toNat) who) c3 a6 a7 a8 (upd V (61 * r.toInt.toNat + d.toInt.toNat) who) t hd1 h8 h9 hS gS (by rw [e10, en, h10]) (by omega) (by omega) (by omega) (by rw [wk_idx (d := d.toInt.toNat) (e := (d + 1).toInt.toNat) (by omega)]; exact hT.on)
      exact ⟨ih.1, hl.tr ih.2⟩
theorem wk_wgh1_l67v1 {B1f B2f B3f B4f B5f B6f B7f B8f y8 y9 y10 y11 y12 y13 y14 y15 g2 g4 g5 : Nat → Int32} {b1 b2 b3 r : Int32} (hr : 0 ≤ r.toInt ∧ r.toInt ≤ 6) (hf : (r - 1).toInt < 0) : ∀ (n : Nat) (d v0 v4 v5 top : Int32) (W f3 f6 f7 f8 V s : Nat → Int32) (g8 g9 : Nat → Int64), ShR v0 b1 b2 b3 v4 v5 (dX9_copyFrom y8 y9 y10 y11 y12 y13 y14 y15 B1f B2f B3f B4f B5f B6f B7f B8f).1 (dX9_copyFrom y8 y9 y10 y11 y12 y13 y14 y15 B1f B2f B3f B4f B5f B6f B7f B8f).2.1 f3 (dX9_copyFrom y8 y9 y10 y11 y12 y13 y14 y15 B1f B2f B3f B4f B5f B6f B7f B8f).2.2.2.1 (dX9_copyFrom y8 y9 y10 y11 y12 y13 y14 y15 B1f B2f B3f B4f B5f B6f B7f B8f).2.2.2.2.1 f6 f7 f8 s → Gs s → (s 10).toInt = d.toInt → 0 ≤ d.toInt → d.toInt ≤ 61 → 61 - d.toInt < (n : Int) → TbE W V (61 * r.toInt.toNat + d.toInt.toNat) →
    TbE (dX2_wgh1_l67v1 B1f B2f B3f B4f B5f B6f B7f B8f b1 b2 b3 r y8 y9 y10 y11 y12 y13 y14 y15 n d W v0 v4 v5 f3 f6 f7 f8).2.1 (dX12_fillsFits_l32 g2 g4 g5 0 r r n d g8 g9 V top s).2.2.2.1 (61 * r.toInt.toNat + 61) ∧ TlS s (dX12_fillsFits_l32 g2 g4 g5 0 r r n d g8 g9 V top s).2.2.2.2.2
  | 0, d, v0, v4, v5, top, W, f3, f6, f7, f8, V, s, g8, g9, h, g, h10, h0, h1, hm, hT => by omega
  | n + 1, d, v0, v4, v5, top, W, f3, f6, f7, f8, V, s, g8, g9, h, g, h10, h0, h1, hm, hT => by
    rw [dX2_wgh1_l67v1_s, dX12_fillsFits_l32_s]
    by_cases z : (61 : Int32) ≤ d
    · have ez : d.toInt = 61 := by rw [i32_leq, t_61] at z; omega
      have z2 : (60 : Int32) < d := by rw [i32_lt, t_60]; omega
      rw [if_pos z, if_pos z2]
      rw [show d.toInt.toNat = 61 by omega] at hT
      exact ⟨hT, TlS.rf⟩
    · have hd6 : d.toInt ≤ 60 := by rw [i32_leq, t_61] at z; omega
      have z2 : ¬ (60 : Int32) < d := by rw [i32_lt, t_60]; omega
      rw [if_neg z, if_neg z2, i61 hr ⟨h0, hd6⟩, spot_is hr ⟨h0, hd6⟩]
      obtain ⟨who, sh, so, c3, a6, a7, a8, tp, h8, h9, t, eC, eR, hS, gS, e10, hl⟩ := full_n (top := top) (g2 := g2) (g4 := g4) (g5 := g5) (g8 := g8) (g9 := g9) h g (by omega) hf
      rw [eC, eR]
      have en := wk_nx h0 hd6
      have ih := wk_wgh1_l67v1 (g2 := g2) (g4 := g4) (g5 := g5) hr hf n (d + 1) sh (v4 + 1) so tp (upd W (61 * r.toInt.toNat + d.toInt.toNat) who) c3 a6 a7 a8 (upd V (61 * r.toInt.toNat + d.toInt.toNat) who) t h8 h9 hS gS (by rw [e10, en, h10]) (by omega) (by omega) (by omega) (by rw [wk_idx (d := d.toInt.toNat) (e := (d + 1).toInt.toNat) (by omega)]; exact hT.on)
      exact ⟨ih.1, hl.tr ih.2⟩
theorem wk_wgh2_l67 {B1f B2f B3f B4f B5f B6f B7f B8f y8 y9 y10 y11 y12 y13 y14 y15 g2 g4 g5 : Nat → Int32} {b1 b2 b3 r : Int32} {rf : Nat → Int32} {rn : Nat} {R : RuA} (hr : 0 ≤ r.toInt ∧ r.toInt ≤ 6) (hL : CdE rf (ru_fl R)) (hn : (ru_fl R).length = rn) (h4 : rn ≤ 400) (hfo : 0 ≤ (r - 1).toInt ∧ (r - 1).toInt < 6) (hR : RwR g2 g4 g5 (r - 1).toInt.toNat R) (hk : ru_ok R) : ∀ (n : Nat) (d v0 v4 v5 top : Int32) (W f3 f6 f7 f8 V s : Nat → Int32) (hd g8 g9 : Nat → Int64), ShR v0 b1 b2 b3 v4 v5 (dX9_copyFrom y8 y9 y10 y11 y12 y13 y14 y15 B1f B2f B3f B4f B5f B6f B7f B8f).1 (dX9_copyFrom y8 y9 y10 y11 y12 y13 y14 y15 B1f B2f B3f B4f B5f B6f B7f B8f).2.1 f3 (dX9_copyFrom y8 y9 y10 y11 y12 y13 y14 y15 B1f B2f B3f B4f B5f B6f B7f B8f).2.2.2.1 (dX9_copyFrom y8 y9 y10 y11 y12 y13 y14 y15 B1f B2f B3f B4f B5f B6f B7f B8f).2.2.2.2.1 f6 f7 f8 s → Gs s → (s 10).toInt = d.toInt → 0 ≤ d.toInt → d.toInt ≤ 61 → 61 - d.toInt < (n : Int) → TbE W V (61 * r.toInt.toNat + d.toInt.toNat) →
    TbE (dX2_wgh2_l67 B1f B2f B3f B4f B5f B6f B7f B8f b1 b2 b3 rf rn r y8 y9 y10 y11 y12 y13 y14 y15 n d W hd v0 v4 v5 f3 f6 f7 f8).2.1 (dX12_fillsFits_l32 g2 g4 g5 0 r r n d g8 g9 V top s).2.2.2.1 (61 * r.toInt.toNat + 61) ∧ TlS s (dX12_fillsFits_l32 g2 g4 g5 0 r r n d g8 g9 V top s).2.2.2.2.2
  | 0, d, v0, v4, v5, top, W, f3, f6, f7, f8, V, s, hd, g8, g9, h, g, h10, h0, h1, hm, hT => by omega
  | n + 1, d, v0, v4, v5, top, W, f3, f6, f7, f8, V, s, hd, g8, g9, h, g, h10, h0, h1, hm, hT => by
    rw [dX2_wgh2_l67_s, dX12_fillsFits_l32_s]
    by_cases z : (61 : Int32) ≤ d
    · have ez : d.toInt = 61 := by rw [i32_leq, t_61] at z; omega
      have z2 : (60 : Int32) < d := by rw [i32_lt, t_60]; omega
      rw [if_pos z, if_pos z2]
      rw [show d.toInt.toNat = 61 by omega] at hT
      exact ⟨hT, TlS.rf⟩
    · have hd6 : d.toInt ≤ 60 := by rw [i32_leq, t_61] at z; omega
      have z2 : ¬ (60 : Int32) < d := by rw [i32_lt, t_60]; omega
      rw [if_neg z, if_neg z2, i61 hr ⟨h0, hd6⟩, spot_is hr ⟨h0, hd6⟩]
      obtain ⟨who, sh, so, c3, a6, a7, a8, hd1, tp, h8, h9, t, eC, eR, hS, gS, e10, hl⟩ := full_r (top := top) (g8 := g8) (g9 := g9) (hd0 := hd) hL hn h4 hfo hR hk h g (by omega)
      rw [eC, eR]
      have en := wk_nx h0 hd6
      have ih := wk_wgh2_l67 hr hL hn h4 hfo hR hk n (d + 1) sh (v4 + 1) so tp (upd W (61 * r.toInt.toNat + d.toInt.toNat) who) c3 a6 a7 a8 (upd V (61 * r.toInt.toNat + d.toInt.toNat) who) t hd1 h8 h9 hS gS (by rw [e10, en, h10]) (by omega) (by omega) (by omega) (by rw [wk_idx (d := d.toInt.toNat) (e := (d + 1).toInt.toNat) (by omega)]; exact hT.on)
      exact ⟨ih.1, hl.tr ih.2⟩
theorem wk_wgh2_l67v1 {B1f B2f B3f B4f B5f B6f B7f B8f y8 y9 y10 y11 y12 y13 y14 y15 g2 g4 g5 : Nat → Int32} {b1 b2 b3 r : Int32} {rf : Nat → Int32} {rn : Nat} {R : RuA} (hr : 0 ≤ r.toInt ∧ r.toInt ≤ 6) (hL : CdE rf (ru_fl R)) (hn : (ru_fl R).length = rn) (h4 : rn ≤ 400) (hfo : 0 ≤ (r - 1).toInt ∧ (r - 1).toInt < 6) (hR : RwR g2 g4 g5 (r - 1).toInt.toNat R) (hk : ru_ok R) : ∀ (n : Nat) (d v0 v4 v5 top : Int32) (W f3 f6 f7 f8 V s : Nat → Int32) (hd g8 g9 : Nat → Int64), ShR v0 b1 b2 b3 v4 v5 (dX9_copyFrom y8 y9 y10 y11 y12 y13 y14 y15 B1f B2f B3f B4f B5f B6f B7f B8f).1 (dX9_copyFrom y8 y9 y10 y11 y12 y13 y14 y15 B1f B2f B3f B4f B5f B6f B7f B8f).2.1 f3 (dX9_copyFrom y8 y9 y10 y11 y12 y13 y14 y15 B1f B2f B3f B4f B5f B6f B7f B8f).2.2.2.1 (dX9_copyFrom y8 y9 y10 y11 y12 y13 y14 y15 B1f B2f B3f B4f B5f B6f B7f B8f).2.2.2.2.1 f6 f7 f8 s → Gs s → (s 10).toInt = d.toInt → 0 ≤ d.toInt → d.toInt ≤ 61 → 61 - d.toInt < (n : Int) → TbE W V (61 * r.toInt.toNat + d.toInt.toNat) →
    TbE (dX2_wgh2_l67v1 B1f B2f B3f B4f B5f B6f B7f B8f b1 b2 b3 rf rn r y8 y9 y10 y11 y12 y13 y14 y15 n d W hd v0 v4 v5 f3 f6 f7 f8).2.1 (dX12_fillsFits_l32 g2 g4 g5 0 r r n d g8 g9 V top s).2.2.2.1 (61 * r.toInt.toNat + 61) ∧ TlS s (dX12_fillsFits_l32 g2 g4 g5 0 r r n d g8 g9 V top s).2.2.2.2.2
  | 0, d, v0, v4, v5, top, W, f3, f6, f7, f8, V, s, hd, g8, g9, h, g, h10, h0, h1, hm, hT => by omega
  | n + 1, d, v0, v4, v5, top, W, f3, f6, f7, f8, V, s, hd, g8, g9, h, g, h10, h0, h1, hm, hT => by
    rw [dX2_wgh2_l67v1_s, dX12_fillsFits_l32_s]
    by_cases z : (61 : Int32) ≤ d
    · have ez : d.toInt = 61 := by rw [i32_leq, t_61] at z; omega
      have z2 : (60 : Int32) < d := by rw [i32_lt, t_60]; omega
      rw [if_pos z, if_pos z2]
      rw [show d.toInt.toNat = 61 by omega] at hT
      exact ⟨hT, TlS.rf⟩
    · have hd6 : d.toInt ≤ 60 := by rw [i32_leq, t_61] at z; omega
      have z2 : ¬ (60 : Int32) < d := by rw [i32_lt, t_60]; omega
      rw [if_neg z, if_neg z2, i61 hr ⟨h0, hd6⟩, spot_is hr ⟨h0, hd6⟩]
      obtain ⟨who, sh, so, c3, a6, a7, a8, hd1, tp, h8, h9, t, eC, eR, hS, gS, e10, hl⟩ := full_r (top := top) (g8 := g8) (g9 := g9) (hd0 := hd) hL hn h4 hfo hR hk h g (by omega)
      rw [eC, eR]
      have en := wk_nx h0 hd6
      have ih := wk_wgh2_l67v1 hr hL hn h4 hfo hR hk n (d + 1) sh (v4 + 1) so tp (upd W (61 * r.toInt.toNat + d.toInt.toNat) who) c3 a6 a7 a8 (upd V (61 * r.toInt.toNat + d.toInt.toNat) who) t hd1 h8 h9 hS gS (by rw [e10, en, h10]) (by omega) (by omega) (by omega) (by rw [wk_idx (d := d.toInt.toNat) (e := (d + 1).toInt.toNat) (by omega)]; exact hT.on)
      exact ⟨ih.1, hl.tr ih.2⟩
theorem wk_wgh2_l67v2 {B1f B2f B3f B4f B5f B6f B7f B8f y8 y9 y10 y11 y12 y13 y14 y15 g2 g4 g5 : Nat → Int32} {b1 b2 b3 r : Int32} (hr : 0 ≤ r.toInt ∧ r.toInt ≤ 6) (hf : (r - 1).toInt < 0) : ∀ (n : Nat) (d v0 v4 v5 top : Int32) (W f3 f6 f7 f8 V s : Nat → Int32) (g8 g9 : Nat → Int64), ShR v0 b1 b2 b3 v4 v5 (dX9_copyFrom y8 y9 y10 y11 y12 y13 y14 y15 B1f B2f B3f B4f B5f B6f B7f B8f).1 (dX9_copyFrom y8 y9 y10 y11 y12 y13 y14 y15 B1f B2f B3f B4f B5f B6f B7f B8f).2.1 f3 (dX9_copyFrom y8 y9 y10 y11 y12 y13 y14 y15 B1f B2f B3f B4f B5f B6f B7f B8f).2.2.2.1 (dX9_copyFrom y8 y9 y10 y11 y12 y13 y14 y15 B1f B2f B3f B4f B5f B6f B7f B8f).2.2.2.2.1 f6 f7 f8 s → Gs s → (s 10).toInt = d.toInt → 0 ≤ d.toInt → d.toInt ≤ 61 → 61 - d.toInt < (n : Int) → TbE W V (61 * r.toInt.toNat + d.toInt.toNat) →
    TbE (dX2_wgh2_l67v2 B1f B2f B3f B4f B5f B6f B7f B8f b1 b2 b3 r y8 y9 y10 y11 y12 y13 y14 y15 n d W v0 v4 v5 f3 f6 f7 f8).2.1 (dX12_fillsFits_l32 g2 g4 g5 0 r r n d g8 g9 V top s).2.2.2.1 (61 * r.toInt.toNat + 61) ∧ TlS s (dX12_fillsFits_l32 g2 g4 g5 0 r r n d g8 g9 V top s).2.2.2.2.2
  | 0, d, v0, v4, v5, top, W, f3, f6, f7, f8, V, s, g8, g9, h, g, h10, h0, h1, hm, hT => by omega
  | n + 1, d, v0, v4, v5, top, W, f3, f6, f7, f8, V, s, g8, g9, h, g, h10, h0, h1, hm, hT => by
    rw [dX2_wgh2_l67v2_s, dX12_fillsFits_l32_s]
    by_cases z : (61 : Int32) ≤ d
    · have ez : d.toInt = 61 := by rw [i32_leq, t_61] at z; omega
      have z2 : (60 : Int32) < d := by rw [i32_lt, t_60]; omega
      rw [if_pos z, if_pos z2]
      rw [show d.toInt.toNat = 61 by omega] at hT
      exact ⟨hT, TlS.rf⟩
    · have hd6 : d.toInt ≤ 60 := by rw [i32_leq, t_61] at z; omega
      have z2 : ¬ (60 : Int32) < d := by rw [i32_lt, t_60]; omega
      rw [if_neg z, if_neg z2, i61 hr ⟨h0, hd6⟩, spot_is hr ⟨h0, hd6⟩]
      obtain ⟨who, sh, so, c3, a6, a7, a8, tp, h8, h9, t, eC, eR, hS, gS, e10, hl⟩ := full_n (top := top) (g2 := g2) (g4 := g4) (g5 := g5) (g8 := g8) (g9 := g9) h g (by omega) hf
      rw [eC, eR]
      have en := wk_nx h0 hd6
      have ih := wk_wgh2_l67v2 (g2 := g2) (g4 := g4) (g5 := g5) hr hf n (d + 1) sh (v4 + 1) so tp (upd W (61 * r.toInt.toNat + d.toInt.toNat) who) c3 a6 a7 a8 (upd V (61 * r.toInt.toNat + d.toInt.toNat) who) t h8 h9 hS gS (by rw [e10, en, h10]) (by omega) (by omega) (by omega) (by rw [wk_idx (d := d.toInt.toNat) (e := (d + 1).toInt.toNat) (by omega)]; exact hT.on)
      exact ⟨ih.1, hl.tr ih.2⟩
theorem wk_wgh3_l67 {B1f B2f B3f B4f B5f B6f B7f B8f y8 y9 y10 y11 y12 y13 y14 y15 g2 g4 g5 : Nat → Int32} {b1 b2 b3 r : Int32} {rf : Nat → Int32} {rn : Nat} {R : RuA} (hr : 0 ≤ r.toInt ∧ r.toInt ≤ 6) (hL : CdE rf (ru_fl R)) (hn : (ru_fl R).length = rn) (h4 : rn ≤ 400) (hfo : 0 ≤ (r - 1).toInt ∧ (r - 1).toInt < 6) (hR : RwR g2 g4 g5 (r - 1).toInt.toNat R) (hk : ru_ok R) : ∀ (n : Nat) (d v0 v4 v5 top : Int32) (W f3 f6 f7 f8 V s : Nat → Int32) (hd g8 g9 : Nat → Int64), ShR v0 b1 b2 b3 v4 v5 (dX9_copyFrom y8 y9 y10 y11 y12 y13 y14 y15 B1f B2f B3f B4f B5f B6f B7f B8f).1 (dX9_copyFrom y8 y9 y10 y11 y12 y13 y14 y15 B1f B2f B3f B4f B5f B6f B7f B8f).2.1 f3 (dX9_copyFrom y8 y9 y10 y11 y12 y13 y14 y15 B1f B2f B3f B4f B5f B6f B7f B8f).2.2.2.1 (dX9_copyFrom y8 y9 y10 y11 y12 y13 y14 y15 B1f B2f B3f B4f B5f B6f B7f B8f).2.2.2.2.1 f6 f7 f8 s → Gs s → (s 10).toInt = d.toInt → 0 ≤ d.toInt → d.toInt ≤ 61 → 61 - d.toInt < (n : Int) → TbE W V (61 * r.toInt.toNat + d.toInt.toNat) →
    TbE (dX2_wgh3_l67 B1f B2f B3f B4f B5f B6f B7f B8f b1 b2 b3 rf rn r y8 y9 y10 y11 y12 y13 y14 y15 n d W hd v0 v4 v5 f3 f6 f7 f8).2.1 (dX12_fillsFits_l32 g2 g4 g5 0 r r n d g8 g9 V top s).2.2.2.1 (61 * r.toInt.toNat + 61) ∧ TlS s (dX12_fillsFits_l32 g2 g4 g5 0 r r n d g8 g9 V top s).2.2.2.2.2
  | 0, d, v0, v4, v5, top, W, f3, f6, f7, f8, V, s, hd, g8, g9, h, g, h10, h0, h1, hm, hT => by omega
  | n + 1, d, v0, v4, v5, top, W, f3, f6, f7, f8, V, s, hd, g8, g9, h, g, h10, h0, h1, hm, hT => by
    rw [dX2_wgh3_l67_s, dX12_fillsFits_l32_s]
    by_cases z : (61 : Int32) ≤ d
    · have ez : d.toInt = 61 := by rw [i32_leq, t_61] at z; omega
      have z2 : (60 : Int32) < d := by rw [i32_lt, t_60]; omega
      rw [if_pos z, if_pos z2]
      rw [show d.toInt.toNat = 61 by omega] at hT
      exact ⟨hT, TlS.rf⟩
    · have hd6 : d.toInt ≤ 60 := by rw [i32_leq, t_61] at z; omega
      have z2 : ¬ (60 : Int32) < d := by rw [i32_lt, t_60]; omega
      rw [if_neg z, if_neg z2, i61 hr ⟨h0, hd6⟩, spot_is hr ⟨h0, hd6⟩]
      obtain ⟨who, sh, so, c3, a6, a7, a8, hd1, tp, h8, h9, t, eC, eR, hS, gS, e10, hl⟩ := full_r (top := top) (g8 := g8) (g9 := g9) (hd0 := hd) hL hn h4 hfo hR hk h g (by omega)
      rw [eC, eR]
      have en := wk_nx h0 hd6
      have ih := wk_wgh3_l67 hr hL hn h4 hfo hR hk n (d + 1) sh (v4 + 1) so tp (upd W (61 * r.toInt.toNat + d.toInt.toNat) who) c3 a6 a7 a8 (upd V (61 * r.toInt.toNat + d.toInt.toNat) who) t hd1 h8 h9 hS gS (by rw [e10, en, h10]) (by omega) (by omega) (by omega) (by rw [wk_idx (d := d.toInt.toNat) (e := (d + 1).toInt.toNat) (by omega)]; exact hT.on)
      exact ⟨ih.1, hl.tr ih.2⟩
theorem wk_wgh3_l67v1 {B1f B2f B3f B4f B5f B6f B7f B8f y8 y9 y10 y11 y12 y13 y14 y15 g2 g4 g5 : Nat → Int32} {b1 b2 b3 r : Int32} {rf : Nat → Int32} {rn : Nat} {R : RuA} (hr : 0 ≤ r.toInt ∧ r.toInt ≤ 6) (hL : CdE rf (ru_fl R)) (hn : (ru_fl R).length = rn) (h4 : rn ≤ 400) (hfo : 0 ≤ (r - 1).toInt ∧ (r - 1).toInt < 6) (hR : RwR g2 g4 g5 (r - 1).toInt.toNat R) (hk : ru_ok R) : ∀ (n : Nat) (d v0 v4 v5 top : Int32) (W f3 f6 f7 f8 V s : Nat → Int32) (hd g8 g9 : Nat → Int64), ShR v0 b1 b2 b3 v4 v5 (dX9_copyFrom y8 y9 y10 y11 y12 y13 y14 y15 B1f B2f B3f B4f B5f B6f B7f B8f).1 (dX9_copyFrom y8 y9 y10 y11 y12 y13 y14 y15 B1f B2f B3f B4f B5f B6f B7f B8f).2.1 f3 (dX9_copyFrom y8 y9 y10 y11 y12 y13 y14 y15 B1f B2f B3f B4f B5f B6f B7f B8f).2.2.2.1 (dX9_copyFrom y8 y9 y10 y11 y12 y13 y14 y15 B1f B2f B3f B4f B5f B6f B7f B8f).2.2.2.2.1 f6 f7 f8 s → Gs s → (s 10).toInt = d.toInt → 0 ≤ d.toInt → d.toInt ≤ 61 → 61 - d.toInt < (n : Int) → TbE W V (61 * r.toInt.toNat + d.toInt.toNat) →
    TbE (dX2_wgh3_l67v1 B1f B2f B3f B4f B5f B6f B7f B8f b1 b2 b3 rf rn r y8 y9 y10 y11 y12 y13 y14 y15 n d W hd v0 v4 v5 f3 f6 f7 f8).2.1 (dX12_fillsFits_l32 g2 g4 g5 0 r r n d g8 g9 V top s).2.2.2.1 (61 * r.toInt.toNat + 61) ∧ TlS s (dX12_fillsFits_l32 g2 g4 g5 0 r r n d g8 g9 V top s).2.2.2.2.2
  | 0, d, v0, v4, v5, top, W, f3, f6, f7, f8, V, s, hd, g8, g9, h, g, h10, h0, h1, hm, hT => by omega
  | n + 1, d, v0, v4, v5, top, W, f3, f6, f7, f8, V, s, hd, g8, g9, h, g, h10, h0, h1, hm, hT => by
    rw [dX2_wgh3_l67v1_s, dX12_fillsFits_l32_s]
    by_cases z : (61 : Int32) ≤ d
    · have ez : d.toInt = 61 := by rw [i32_leq, t_61] at z; omega
      have z2 : (60 : Int32) < d := by rw [i32_lt, t_60]; omega
      rw [if_pos z, if_pos z2]
      rw [show d.toInt.toNat = 61 by omega] at hT
      exact ⟨hT, TlS.rf⟩
    · have hd6 : d.toInt ≤ 60 := by rw [i32_leq, t_61] at z; omega
      have z2 : ¬ (60 : Int32) < d := by rw [i32_lt, t_60]; omega
      rw [if_neg z, if_neg z2, i61 hr ⟨h0, hd6⟩, spot_is hr ⟨h0, hd6⟩]
      obtain ⟨who, sh, so, c3, a6, a7, a8, hd1, tp, h8, h9, t, eC, eR, hS, gS, e10, hl⟩ := full_r (top := top) (g8 := g8) (g9 := g9) (hd0 := hd) hL hn h4 hfo hR hk h g (by omega)
      rw [eC, eR]
      have en := wk_nx h0 hd6
      have ih := wk_wgh3_l67v1 hr hL hn h4 hfo hR hk n (d + 1) sh (v4 + 1) so tp (upd W (61 * r.toInt.toNat + d.toInt.toNat) who) c3 a6 a7 a8 (upd V (61 * r.toInt.toNat + d.toInt.toNat) who) t hd1 h8 h9 hS gS (by rw [e10, en, h10]) (by omega) (by omega) (by omega) (by rw [wk_idx (d := d.toInt.toNat) (e := (d + 1).toInt.toNat) (by omega)]; exact hT.on)
      exact ⟨ih.1, hl.tr ih.2⟩
theorem wk_wgh3_l67v2 {B1f B2f B3f B4f B5f B6f B7f B8f y8 y9 y10 y11 y12 y13 y14 y15 g2 g4 g5 : Nat → Int32} {b1 b2 b3 r : Int32} {rf : Nat → Int32} {rn : Nat} {R : RuA} (hr : 0 ≤ r.toInt ∧ r.toInt ≤ 6) (hL : CdE rf (ru_fl R)) (hn : (ru_fl R).length = rn) (h4 : rn ≤ 400) (hfo : 0 ≤ (r - 1).toInt ∧ (r - 1).toInt < 6) (hR : RwR g2 g4 g5 (r - 1).toInt.toNat R) (hk : ru_ok R) : ∀ (n : Nat) (d v0 v4 v5 top : Int32) (W f3 f6 f7 f8 V s : Nat → Int32) (hd g8 g9 : Nat → Int64), ShR v0 b1 b2 b3 v4 v5 (dX9_copyFrom y8 y9 y10 y11 y12 y13 y14 y15 B1f B2f B3f B4f B5f B6f B7f B8f).1 (dX9_copyFrom y8 y9 y10 y11 y12 y13 y14 y15 B1f B2f B3f B4f B5f B6f B7f B8f).2.1 f3 (dX9_copyFrom y8 y9 y10 y11 y12 y13 y14 y15 B1f B2f B3f B4f B5f B6f B7f B8f).2.2.2.1 (dX9_copyFrom y8 y9 y10 y11 y12 y13 y14 y15 B1f B2f B3f B4f B5f B6f B7f B8f).2.2.2.2.1 f6 f7 f8 s → Gs s → (s 10).toInt = d.toInt → 0 ≤ d.toInt → d.toInt ≤ 61 → 61 - d.toInt < (n : Int) → TbE W V (61 * r.toInt.toNat + d.toInt.toNat) →
    TbE (dX2_wgh3_l67v2 B1f B2f B3f B4f B5f B6f B7f B8f b1 b2 b3 rf rn r y8 y9 y10 y11 y12 y13 y14 y15 n d W hd v0 v4 v5 f3 f6 f7 f8).2.1 (dX12_fillsFits_l32 g2 g4 g5 0 r r n d g8 g9 V top s).2.2.2.1 (61 * r.toInt.toNat + 61) ∧ TlS s (dX12_fillsFits_l32 g2 g4 g5 0 r r n d g8 g9 V top s).2.2.2.2.2
  | 0, d, v0, v4, v5, top, W, f3, f6, f7, f8, V, s, hd, g8, g9, h, g, h10, h0, h1, hm, hT => by omega
  | n + 1, d, v0, v4, v5, top, W, f3, f6, f7, f8, V, s, hd, g8, g9, h, g, h10, h0, h1, hm, hT => by
    rw [dX2_wgh3_l67v2_s, dX12_fillsFits_l32_s]
    by_cases z : (61 : Int32) ≤ d
    · have ez : d.toInt = 61 := by rw [i32_leq, t_61] at z; omega
      have z2 : (60 : Int32) < d := by rw [i32_lt, t_60]; omega
      rw [if_pos z, if_pos z2]
      rw [show d.toInt.toNat = 61 by omega] at hT
      exact ⟨hT, TlS.rf⟩
    · have hd6 : d.toInt ≤ 60 := by rw [i32_leq, t_61] at z; omega
      have z2 : ¬ (60 : Int32) < d := by rw [i32_lt, t_60]; omega
      rw [if_neg z, if_neg z2, i61 hr ⟨h0, hd6⟩, spot_is hr ⟨h0, hd6⟩]
      obtain ⟨who, sh, so, c3, a6, a7, a8, hd1, tp, h8, h9, t, eC, eR, hS, gS, e10, hl⟩ := full_r (top := top) (g8 := g8) (g9 := g9) (hd0 := hd) hL hn h4 hfo hR hk h g (by omega)
      rw [eC, eR]
      have en := wk_nx h0 hd6
      have ih := wk_wgh3_l67v2 hr hL hn h4 hfo hR hk n (d + 1) sh (v4 + 1) so tp (upd W (61 * r.toInt.toNat + d.toInt.toNat) who) c3 a6 a7 a8 (upd V (61 * r.toInt.toNat + d.toInt.toNat) who) t hd1 h8 h9 hS gS (by rw [e10, en, h10]) (by omega) (by omega) (by omega) (by rw [wk_idx (d := d.toInt.toNat) (e := (d + 1).toInt.toNat) (by omega)]; exact hT.on)
      exact ⟨ih.1, hl.tr ih.2⟩
theorem wk_wgh3_l67v3 {B1f B2f B3f B4f B5f B6f B7f B8f y8 y9 y10 y11 y12 y13 y14 y15 g2 g4 g5 : Nat → Int32} {b1 b2 b3 r : Int32} (hr : 0 ≤ r.toInt ∧ r.toInt ≤ 6) (hf : (r - 1).toInt < 0) : ∀ (n : Nat) (d v0 v4 v5 top : Int32) (W f3 f6 f7 f8 V s : Nat → Int32) (g8 g9 : Nat → Int64), ShR v0 b1 b2 b3 v4 v5 (dX9_copyFrom y8 y9 y10 y11 y12 y13 y14 y15 B1f B2f B3f B4f B5f B6f B7f B8f).1 (dX9_copyFrom y8 y9 y10 y11 y12 y13 y14 y15 B1f B2f B3f B4f B5f B6f B7f B8f).2.1 f3 (dX9_copyFrom y8 y9 y10 y11 y12 y13 y14 y15 B1f B2f B3f B4f B5f B6f B7f B8f).2.2.2.1 (dX9_copyFrom y8 y9 y10 y11 y12 y13 y14 y15 B1f B2f B3f B4f B5f B6f B7f B8f).2.2.2.2.1 f6 f7 f8 s → Gs s → (s 10).toInt = d.toInt → 0 ≤ d.toInt → d.toInt ≤ 61 → 61 - d.toInt < (n : Int) → TbE W V (61 * r.toInt.toNat + d.toInt.toNat) →
    TbE (dX2_wgh3_l67v3 B1f B2f B3f B4f B5f B6f B7f B8f b1 b2 b3 r y8 y9 y10 y11 y12 y13 y14 y15 n d W v0 v4 v5 f3 f6 f7 f8).2.1 (dX12_fillsFits_l32 g2 g4 g5 0 r r n d g8 g9 V top s).2.2.2.1 (61 * r.toInt.toNat + 61) ∧ TlS s (dX12_fillsFits_l32 g2 g4 g5 0 r r n d g8 g9 V top s).2.2.2.2.2
  | 0, d, v0, v4, v5, top, W, f3, f6, f7, f8, V, s, g8, g9, h, g, h10, h0, h1, hm, hT => by omega
  | n + 1, d, v0, v4, v5, top, W, f3, f6, f7, f8, V, s, g8, g9, h, g, h10, h0, h1, hm, hT => by
    rw [dX2_wgh3_l67v3_s, dX12_fillsFits_l32_s]
    by_cases z : (61 : Int32) ≤ d
    · have ez : d.toInt = 61 := by rw [i32_leq, t_61] at z; omega
      have z2 : (60 : Int32) < d := by rw [i32_lt, t_60]; omega
      rw [if_pos z, if_pos z2]
      rw [show d.toInt.toNat = 61 by omega] at hT
      exact ⟨hT, TlS.rf⟩
    · have hd6 : d.toInt ≤ 60 := by rw [i32_leq, t_61] at z; omega
      have z2 : ¬ (60 : Int32) < d := by rw [i32_lt, t_60]; omega
      rw [if_neg z, if_neg z2, i61 hr ⟨h0, hd6⟩, spot_is hr ⟨h0, hd6⟩]
      obtain ⟨who, sh, so, c3, a6, a7, a8, tp, h8, h9, t, eC, eR, hS, gS, e10, hl⟩ := full_n (top := top) (g2 := g2) (g4 := g4) (g5 := g5) (g8 := g8) (g9 := g9) h g (by omega) hf
      rw [eC, eR]
      have en := wk_nx h0 hd6
      have ih := wk_wgh3_l67v3 (g2 := g2) (g4 := g4) (g5 := g5) hr hf n (d + 1) sh (v4 + 1) so tp (upd W (61 * r.toInt.toNat + d.toInt.toNat) who) c3 a6 a7 a8 (upd V (61 * r.toInt.toNat + d.toInt.toNat) who) t h8 h9 hS gS (by rw [e10, en, h10]) (by omega) (by omega) (by omega) (by rw [wk_idx (d := d.toInt.toNat) (e := (d + 1).toInt.toNat) (by omega)]; exact hT.on)
      exact ⟨ih.1, hl.tr ih.2⟩
theorem wk_wgh4_l67 {B1f B2f B3f B4f B5f B6f B7f B8f y8 y9 y10 y11 y12 y13 y14 y15 g2 g4 g5 : Nat → Int32} {b1 b2 b3 r : Int32} {rf : Nat → Int32} {rn : Nat} {R : RuA} (hr : 0 ≤ r.toInt ∧ r.toInt ≤ 6) (hL : CdE rf (ru_fl R)) (hn : (ru_fl R).length = rn) (h4 : rn ≤ 400) (hfo : 0 ≤ (r - 1).toInt ∧ (r - 1).toInt < 6) (hR : RwR g2 g4 g5 (r - 1).toInt.toNat R) (hk : ru_ok R) : ∀ (n : Nat) (d v0 v4 v5 top : Int32) (W f3 f6 f7 f8 V s : Nat → Int32) (hd g8 g9 : Nat → Int64), ShR v0 b1 b2 b3 v4 v5 (dX9_copyFrom y8 y9 y10 y11 y12 y13 y14 y15 B1f B2f B3f B4f B5f B6f B7f B8f).1 (dX9_copyFrom y8 y9 y10 y11 y12 y13 y14 y15 B1f B2f B3f B4f B5f B6f B7f B8f).2.1 f3 (dX9_copyFrom y8 y9 y10 y11 y12 y13 y14 y15 B1f B2f B3f B4f B5f B6f B7f B8f).2.2.2.1 (dX9_copyFrom y8 y9 y10 y11 y12 y13 y14 y15 B1f B2f B3f B4f B5f B6f B7f B8f).2.2.2.2.1 f6 f7 f8 s → Gs s → (s 10).toInt = d.toInt → 0 ≤ d.toInt → d.toInt ≤ 61 → 61 - d.toInt < (n : Int) → TbE W V (61 * r.toInt.toNat + d.toInt.toNat) →
    TbE (dX2_wgh4_l67 B1f B2f B3f B4f B5f B6f B7f B8f b1 b2 b3 rf rn r y8 y9 y10 y11 y12 y13 y14 y15 n d W hd v0 v4 v5 f3 f6 f7 f8).2.1 (dX12_fillsFits_l32 g2 g4 g5 0 r r n d g8 g9 V top s).2.2.2.1 (61 * r.toInt.toNat + 61) ∧ TlS s (dX12_fillsFits_l32 g2 g4 g5 0 r r n d g8 g9 V top s).2.2.2.2.2
  | 0, d, v0, v4, v5, top, W, f3, f6, f7, f8, V, s, hd, g8, g9, h, g, h10, h0, h1, hm, hT => by omega
  | n + 1, d, v0, v4, v5, top, W, f3, f6, f7, f8, V, s, hd, g8, g9, h, g, h10, h0, h1, hm, hT => by
    rw [dX2_wgh4_l67_s, dX12_fillsFits_l32_s]
    by_cases z : (61 : Int32) ≤ d
    · have ez : d.toInt = 61 := by rw [i32_leq, t_61] at z; omega
      have z2 : (60 : Int32) < d := by rw [i32_lt, t_60]; omega
      rw [if_pos z, if_pos z2]
      rw [show d.toInt.toNat = 61 by omega] at hT
      exact ⟨hT, TlS.rf⟩
    · have hd6 : d.toInt ≤ 60 := by rw [i32_leq, t_61] at z; omega
      have z2 : ¬ (60 : Int32) < d := by rw [i32_lt, t_60]; omega
      rw [if_neg z, if_neg z2, i61 hr ⟨h0, hd6⟩, spot_is hr ⟨h0, hd6⟩]
      obtain ⟨who, sh, so, c3, a6, a7, a8, hd1, tp, h8, h9, t, eC, eR, hS, gS, e10, hl⟩ := full_r (top := top) (g8 := g8) (g9 := g9) (hd0 := hd) hL hn h4 hfo hR hk h g (by omega)
      rw [eC, eR]
      have en := wk_nx h0 hd6
      have ih := wk_wgh4_l67 hr hL hn h4 hfo hR hk n (d + 1) sh (v4 + 1) so tp (upd W (61 * r.toInt.toNat + d.toInt.toNat) who) c3 a6 a7 a8 (upd V (61 * r.toInt.toNat + d.toInt.toNat) who) t hd1 h8 h9 hS gS (by rw [e10, en, h10]) (by omega) (by omega) (by omega) (by rw [wk_idx (d := d.toInt.toNat) (e := (d + 1).toInt.toNat) (by omega)]; exact hT.on)
      exact ⟨ih.1, hl.tr ih.2⟩
theorem wk_wgh4_l67v1 {B1f B2f B3f B4f B5f B6f B7f B8f y8 y9 y10 y11 y12 y13 y14 y15 g2 g4 g5 : Nat → Int32} {b1 b2 b3 r : Int32} {rf : Nat → Int32} {rn : Nat} {R : RuA} (hr : 0 ≤ r.toInt ∧ r.toInt ≤ 6) (hL : CdE rf (ru_fl R)) (hn : (ru_fl R).length = rn) (h4 : rn ≤ 400) (hfo : 0 ≤ (r - 1).toInt ∧ (r - 1).toInt < 6) (hR : RwR g2 g4 g5 (r - 1).toInt.toNat R) (hk : ru_ok R) : ∀ (n : Nat) (d v0 v4 v5 top : Int32) (W f3 f6 f7 f8 V s : Nat → Int32) (hd g8 g9 : Nat → Int64), ShR v0 b1 b2 b3 v4 v5 (dX9_copyFrom y8 y9 y10 y11 y12 y13 y14 y15 B1f B2f B3f B4f B5f B6f B7f B8f).1 (dX9_copyFrom y8 y9 y10 y11 y12 y13 y14 y15 B1f B2f B3f B4f B5f B6f B7f B8f).2.1 f3 (dX9_copyFrom y8 y9 y10 y11 y12 y13 y14 y15 B1f B2f B3f B4f B5f B6f B7f B8f).2.2.2.1 (dX9_copyFrom y8 y9 y10 y11 y12 y13 y14 y15 B1f B2f B3f B4f B5f B6f B7f B8f).2.2.2.2.1 f6 f7 f8 s → Gs s → (s 10).toInt = d.toInt → 0 ≤ d.toInt → d.toInt ≤ 61 → 61 - d.toInt < (n : Int) → TbE W V (61 * r.toInt.toNat + d.toInt.toNat) →
    TbE (dX2_wgh4_l67v1 B1f B2f B3f B4f B5f B6f B7f B8f b1 b2 b3 rf rn r y8 y9 y10 y11 y12 y13 y14 y15 n d W hd v0 v4 v5 f3 f6 f7 f8).2.1 (dX12_fillsFits_l32 g2 g4 g5 0 r r n d g8 g9 V top s).2.2.2.1 (61 * r.toInt.toNat + 61) ∧ TlS s (dX12_fillsFits_l32 g2 g4 g5 0 r r n d g8 g9 V top s).2.2.2.2.2
  | 0, d, v0, v4, v5, top, W, f3, f6, f7, f8, V, s, hd, g8, g9, h, g, h10, h0, h1, hm, hT => by omega
  | n + 1, d, v0, v4, v5, top, W, f3, f6, f7, f8, V, s, hd, g8, g9, h, g, h10, h0, h1, hm, hT => by
    rw [dX2_wgh4_l67v1_s, dX12_fillsFits_l32_s]
    by_cases z : (61 : Int32) ≤ d
    · have ez : d.toInt = 61 := by rw [i32_leq, t_61] at z; omega
      have z2 : (60 : Int32) < d := by rw [i32_lt, t_60]; omega
      rw [if_pos z, if_pos z2]
      rw [show d.toInt.toNat = 61 by omega] at hT
      exact ⟨hT, TlS.rf⟩
    · have hd6 : d.toInt ≤ 60 := by rw [i32_leq, t_61] at z; omega
      have z2 : ¬ (60 : Int32) < d := by rw [i32_lt, t_60]; omega
      rw [if_neg z, if_neg z2, i61 hr ⟨h0, hd6⟩, spot_is hr ⟨h0, hd6⟩]
      obtain ⟨who, sh, so, c3, a6, a7, a8, hd1, tp, h8, h9, t, eC, eR, hS, gS, e10, hl⟩ := full_r (top := top) (g8 := g8) (g9 := g9) (hd0 := hd) hL hn h4 hfo hR hk h g (by omega)
      rw [eC, eR]
      have en := wk_nx h0 hd6
      have ih := wk_wgh4_l67v1 hr hL hn h4 hfo hR hk n (d + 1) sh (v4 + 1) so tp (upd W (61 * r.toInt.toNat + d.toInt.toNat) who) c3 a6 a7 a8 (upd V (61 * r.toInt.toNat + d.toInt.toNat) who) t hd1 h8 h9 hS gS (by rw [e10, en, h10]) (by omega) (by omega) (by omega) (by rw [wk_idx (d := d.toInt.toNat) (e := (d + 1).toInt.toNat) (by omega)]; exact hT.on)
      exact ⟨ih.1, hl.tr ih.2⟩
theorem wk_wgh4_l67v2 {B1f B2f B3f B4f B5f B6f B7f B8f y8 y9 y10 y11 y12 y13 y14 y15 g2 g4 g5 : Nat → Int32} {b1 b2 b3 r : Int32} {rf : Nat → Int32} {rn : Nat} {R : RuA} (hr : 0 ≤ r.toInt ∧ r.toInt ≤ 6) (hL : CdE rf (ru_fl R)) (hn : (ru_fl R).length = rn) (h4 : rn ≤ 400) (hfo : 0 ≤ (r - 1).toInt ∧ (r - 1).toInt < 6) (hR : RwR g2 g4 g5 (r - 1).toInt.toNat R) (hk : ru_ok R) : ∀ (n : Nat) (d v0 v4 v5 top : Int32) (W f3 f6 f7 f8 V s : Nat → Int32) (hd g8 g9 : Nat → Int64), ShR v0 b1 b2 b3 v4 v5 (dX9_copyFrom y8 y9 y10 y11 y12 y13 y14 y15 B1f B2f B3f B4f B5f B6f B7f B8f).1 (dX9_copyFrom y8 y9 y10 y11 y12 y13 y14 y15 B1f B2f B3f B4f B5f B6f B7f B8f).2.1 f3 (dX9_copyFrom y8 y9 y10 y11 y12 y13 y14 y15 B1f B2f B3f B4f B5f B6f B7f B8f).2.2.2.1 (dX9_copyFrom y8 y9 y10 y11 y12 y13 y14 y15 B1f B2f B3f B4f B5f B6f B7f B8f).2.2.2.2.1 f6 f7 f8 s → Gs s → (s 10).toInt = d.toInt → 0 ≤ d.toInt → d.toInt ≤ 61 → 61 - d.toInt < (n : Int) → TbE W V (61 * r.toInt.toNat + d.toInt.toNat) →
    TbE (dX2_wgh4_l67v2 B1f B2f B3f B4f B5f B6f B7f B8f b1 b2 b3 rf rn r y8 y9 y10 y11 y12 y13 y14 y15 n d W hd v0 v4 v5 f3 f6 f7 f8).2.1 (dX12_fillsFits_l32 g2 g4 g5 0 r r n d g8 g9 V top s).2.2.2.1 (61 * r.toInt.toNat + 61) ∧ TlS s (dX12_fillsFits_l32 g2 g4 g5 0 r r n d g8 g9 V top s).2.2.2.2.2
  | 0, d, v0, v4, v5, top, W, f3, f6, f7, f8, V, s, hd, g8, g9, h, g, h10, h0, h1, hm, hT => by omega
  | n + 1, d, v0, v4, v5, top, W, f3, f6, f7, f8, V, s, hd, g8, g9, h, g, h10, h0, h1, hm, hT => by
    rw [dX2_wgh4_l67v2_s, dX12_fillsFits_l32_s]
    by_cases z : (61 : Int32) ≤ d
    · have ez : d.toInt = 61 := by rw [i32_leq, t_61] at z; omega
      have z2 : (60 : Int32) < d := by rw [i32_lt, t_60]; omega
      rw [if_pos z, if_pos z2]
      rw [show d.toInt.toNat = 61 by omega] at hT
      exact ⟨hT, TlS.rf⟩
    · have hd6 : d.toInt ≤ 60 := by rw [i32_leq, t_61] at z; omega
      have z2 : ¬ (60 : Int32) < d := by rw [i32_lt, t_60]; omega
      rw [if_neg z, if_neg z2, i61 hr ⟨h0, hd6⟩, spot_is hr ⟨h0, hd6⟩]
      obtain ⟨who, sh, so, c3, a6, a7, a8, hd1, tp, h8, h9, t, eC, eR, hS, gS, e10, hl⟩ := full_r (top := top) (g8 := g8) (g9 := g9) (hd0 := hd) hL hn h4 hfo hR hk h g (by omega)
      rw [eC, eR]
      have en := wk_nx h0 hd6
      have ih := wk_wgh4_l67v2 hr hL hn h4 hfo hR hk n (d + 1) sh (v4 + 1) so tp (upd W (61 * r.toInt.toNat + d.toInt.toNat) who) c3 a6 a7 a8 (upd V (61 * r.toInt.toNat + d.toInt.toNat) who) t hd1 h8 h9 hS gS (by rw [e10, en, h10]) (by omega) (by omega) (by omega) (by rw [wk_idx (d := d.toInt.toNat) (e := (d + 1).toInt.toNat) (by omega)]; exact hT.on)
      exact ⟨ih.1, hl.tr ih.2⟩
theorem wk_wgh4_l67v3 {B1f B2f B3f B4f B5f B6f B7f B8f y8 y9 y10 y11 y12 y13 y14 y15 g2 g4 g5 : Nat → Int32} {b1 b2 b3 r : Int32} {rf : Nat → Int32} {rn : Nat} {R : RuA} (hr : 0 ≤ r.toInt ∧ r.toInt ≤ 6) (hL : CdE rf (ru_fl R)) (hn : (ru_fl R).length = rn) (h4 : rn ≤ 400) (hfo : 0 ≤ (r - 1).toInt ∧ (r - 1).toInt < 6) (hR : RwR g2 g4 g5 (r - 1).toInt.toNat R) (hk : ru_ok R) : ∀ (n : Nat) (d v0 v4 v5 top : Int32) (W f3 f6 f7 f8 V s : Nat → Int32) (hd g8 g9 : Nat → Int64), ShR v0 b1 b2 b3 v4 v5 (dX9_copyFrom y8 y9 y10 y11 y12 y13 y14 y15 B1f B2f B3f B4f B5f B6f B7f B8f).1 (dX9_copyFrom y8 y9 y10 y11 y12 y13 y14 y15 B1f B2f B3f B4f B5f B6f B7f B8f).2.1 f3 (dX9_copyFrom y8 y9 y10 y11 y12 y13 y14 y15 B1f B2f B3f B4f B5f B6f B7f B8f).2.2.2.1 (dX9_copyFrom y8 y9 y10 y11 y12 y13 y14 y15 B1f B2f B3f B4f B5f B6f B7f B8f).2.2.2.2.1 f6 f7 f8 s → Gs s → (s 10).toInt = d.toInt → 0 ≤ d.toInt → d.toInt ≤ 61 → 61 - d.toInt < (n : Int) → TbE W V (61 * r.toInt.toNat + d.toInt.toNat) →
    TbE (dX2_wgh4_l67v3 B1f B2f B3f B4f B5f B6f B7f B8f b1 b2 b3 rf rn r y8 y9 y10 y11 y12 y13 y14 y15 n d W hd v0 v4 v5 f3 f6 f7 f8).2.1 (dX12_fillsFits_l32 g2 g4 g5 0 r r n d g8 g9 V top s).2.2.2.1 (61 * r.toInt.toNat + 61) ∧ TlS s (dX12_fillsFits_l32 g2 g4 g5 0 r r n d g8 g9 V top s).2.2.2.2.2
  | 0, d, v0, v4, v5, top, W, f3, f6, f7, f8, V, s, hd, g8, g9, h, g, h10, h0, h1, hm, hT => by omega
  | n + 1, d, v0, v4, v5, top, W, f3, f6, f7, f8, V, s, hd, g8, g9, h, g, h10, h0, h1, hm, hT => by
    rw [dX2_wgh4_l67v3_s, dX12_fillsFits_l32_s]
    by_cases z : (61 : Int32) ≤ d
    · have ez : d.toInt = 61 := by rw [i32_leq, t_61] at z; omega
      have z2 : (60 : Int32) < d := by rw [i32_lt, t_60]; omega
      rw [if_pos z, if_pos z2]
      rw [show d.toInt.toNat = 61 by omega] at hT
      exact ⟨hT, TlS.rf⟩
    · have hd6 : d.toInt ≤ 60 := by rw [i32_leq, t_61] at z; omega
      have z2 : ¬ (60 : Int32) < d := by rw [i32_lt, t_60]; omega
      rw [if_neg z, if_neg z2, i61 hr ⟨h0, hd6⟩, spot_is hr ⟨h0, hd6⟩]
      obtain ⟨who, sh, so, c3, a6, a7, a8, hd1, tp, h8, h9, t, eC, eR, hS, gS, e10, hl⟩ := full_r (top := top) (g8 := g8) (g9 := g9) (hd0 := hd) hL hn h4 hfo hR hk h g (by omega)
      rw [eC, eR]
      have en := wk_nx h0 hd6
      have ih := wk_wgh4_l67v3 hr hL hn h4 hfo hR hk n (d + 1) sh (v4 + 1) so tp (upd W (61 * r.toInt.toNat + d.toInt.toNat) who) c3 a6 a7 a8 (upd V (61 * r.toInt.toNat + d.toInt.toNat) who) t hd1 h8 h9 hS gS (by rw [e10, en, h10]) (by omega) (by omega) (by omega) (by rw [wk_idx (d := d.toInt.toNat) (e := (d + 1).toInt.toNat) (by omega)]; exact hT.on)
      exact ⟨ih.1, hl.tr ih.2⟩
theorem wk_wgh4_l67v4 {B1f B2f B3f B4f B5f B6f B7f B8f y8 y9 y10 y11 y12 y13 y14 y15 g2 g4 g5 : Nat → Int32} {b1 b2 b3 r : Int32} (hr : 0 ≤ r.toInt ∧ r.toInt ≤ 6) (hf : (r - 1).toInt < 0) : ∀ (n : Nat) (d v0 v4 v5 top : Int32) (W f3 f6 f7 f8 V s : Nat → Int32) (g8 g9 : Nat → Int64), ShR v0 b1 b2 b3 v4 v5 (dX9_copyFrom y8 y9 y10 y11 y12 y13 y14 y15 B1f B2f B3f B4f B5f B6f B7f B8f).1 (dX9_copyFrom y8 y9 y10 y11 y12 y13 y14 y15 B1f B2f B3f B4f B5f B6f B7f B8f).2.1 f3 (dX9_copyFrom y8 y9 y10 y11 y12 y13 y14 y15 B1f B2f B3f B4f B5f B6f B7f B8f).2.2.2.1 (dX9_copyFrom y8 y9 y10 y11 y12 y13 y14 y15 B1f B2f B3f B4f B5f B6f B7f B8f).2.2.2.2.1 f6 f7 f8 s → Gs s → (s 10).toInt = d.toInt → 0 ≤ d.toInt → d.toInt ≤ 61 → 61 - d.toInt < (n : Int) → TbE W V (61 * r.toInt.toNat + d.toInt.toNat) →
    TbE (dX2_wgh4_l67v4 B1f B2f B3f B4f B5f B6f B7f B8f b1 b2 b3 r y8 y9 y10 y11 y12 y13 y14 y15 n d W v0 v4 v5 f3 f6 f7 f8).2.1 (dX12_fillsFits_l32 g2 g4 g5 0 r r n d g8 g9 V top s).2.2.2.1 (61 * r.toInt.toNat + 61) ∧ TlS s (dX12_fillsFits_l32 g2 g4 g5 0 r r n d g8 g9 V top s).2.2.2.2.2
  | 0, d, v0, v4, v5, top, W, f3, f6, f7, f8, V, s, g8, g9, h, g, h10, h0, h1, hm, hT => by omega
  | n + 1, d, v0, v4, v5, top, W, f3, f6, f7, f8, V, s, g8, g9, h, g, h10, h0, h1, hm, hT => by
    rw [dX2_wgh4_l67v4_s, dX12_fillsFits_l32_s]
    by_cases z : (61 : Int32) ≤ d
    · have ez : d.toInt = 61 := by rw [i32_leq, t_61] at z; omega
      have z2 : (60 : Int32) < d := by rw [i32_lt, t_60]; omega
      rw [if_pos z, if_pos z2]
      rw [show d.toInt.toNat = 61 by omega] at hT
      exact ⟨hT, TlS.rf⟩
    · have hd6 : d.toInt ≤ 60 := by rw [i32_leq, t_61] at z; omega
      have z2 : ¬ (60 : Int32) < d := by rw [i32_lt, t_60]; omega
      rw [if_neg z, if_neg z2, i61 hr ⟨h0, hd6⟩, spot_is hr ⟨h0, hd6⟩]
      obtain ⟨who, sh, so, c3, a6, a7, a8, tp, h8, h9, t, eC, eR, hS, gS, e10, hl⟩ := full_n (top := top) (g2 := g2) (g4 := g4) (g5 := g5) (g8 := g8) (g9 := g9) h g (by omega) hf
      rw [eC, eR]
      have en := wk_nx h0 hd6
      have ih := wk_wgh4_l67v4 (g2 := g2) (g4 := g4) (g5 := g5) hr hf n (d + 1) sh (v4 + 1) so tp (upd W (61 * r.toInt.toNat + d.toInt.toNat) who) c3 a6 a7 a8 (upd V (61 * r.toInt.toNat + d.toInt.toNat) who) t h8 h9 hS gS (by rw [e10, en, h10]) (by omega) (by omega) (by omega) (by rw [wk_idx (d := d.toInt.toNat) (e := (d + 1).toInt.toNat) (by omega)]; exact hT.on)
      exact ⟨ih.1, hl.tr ih.2⟩
theorem wk_wgh5_l67 {B1f B2f B3f B4f B5f B6f B7f B8f y8 y9 y10 y11 y12 y13 y14 y15 g2 g4 g5 : Nat → Int32} {b1 b2 b3 r : Int32} {rf : Nat → Int32} {rn : Nat} {R : RuA} (hr : 0 ≤ r.toInt ∧ r.toInt ≤ 6) (hL : CdE rf (ru_fl R)) (hn : (ru_fl R).length = rn) (h4 : rn ≤ 400) (hfo : 0 ≤ (r - 1).toInt ∧ (r - 1).toInt < 6) (hR : RwR g2 g4 g5 (r - 1).toInt.toNat R) (hk : ru_ok R) : ∀ (n : Nat) (d v0 v4 v5 top : Int32) (W f3 f6 f7 f8 V s : Nat → Int32) (hd g8 g9 : Nat → Int64), ShR v0 b1 b2 b3 v4 v5 (dX9_copyFrom y8 y9 y10 y11 y12 y13 y14 y15 B1f B2f B3f B4f B5f B6f B7f B8f).1 (dX9_copyFrom y8 y9 y10 y11 y12 y13 y14 y15 B1f B2f B3f B4f B5f B6f B7f B8f).2.1 f3 (dX9_copyFrom y8 y9 y10 y11 y12 y13 y14 y15 B1f B2f B3f B4f B5f B6f B7f B8f).2.2.2.1 (dX9_copyFrom y8 y9 y10 y11 y12 y13 y14 y15 B1f B2f B3f B4f B5f B6f B7f B8f).2.2.2.2.1 f6 f7 f8 s → Gs s → (s 10).toInt = d.toInt → 0 ≤ d.toInt → d.toInt ≤ 61 → 61 - d.toInt < (n : Int) → TbE W V (61 * r.toInt.toNat + d.toInt.toNat) →
    TbE (dX2_wgh5_l67 B1f B2f B3f B4f B5f B6f B7f B8f b1 b2 b3 rf rn r y8 y9 y10 y11 y12 y13 y14 y15 n d W hd v0 v4 v5 f3 f6 f7 f8).2.1 (dX12_fillsFits_l32 g2 g4 g5 0 r r n d g8 g9 V top s).2.2.2.1 (61 * r.toInt.toNat + 61) ∧ TlS s (dX12_fillsFits_l32 g2 g4 g5 0 r r n d g8 g9 V top s).2.2.2.2.2
  | 0, d, v0, v4, v5, top, W, f3, f6, f7, f8, V, s, hd, g8, g9, h, g, h10, h0, h1, hm, hT => by omega
  | n + 1, d, v0, v4, v5, top, W, f3, f6, f7, f8, V, s, hd, g8, g9, h, g, h10, h0, h1, hm, hT => by
    rw [dX2_wgh5_l67_s, dX12_fillsFits_l32_s]
    by_cases z : (61 : Int32) ≤ d
    · have ez : d.toInt = 61 := by rw [i32_leq, t_61] at z; omega
      have z2 : (60 : Int32) < d := by rw [i32_lt, t_60]; omega
      rw [if_pos z, if_pos z2]
      rw [show d.toInt.toNat = 61 by omega] at hT
      exact ⟨hT, TlS.rf⟩
    · have hd6 : d.toInt ≤ 60 := by rw [i32_leq, t_61] at z; omega
      have z2 : ¬ (60 : Int32) < d := by rw [i32_lt, t_60]; omega
      rw [if_neg z, if_neg z2, i61 hr ⟨h0, hd6⟩, spot_is hr ⟨h0, hd6⟩]
      obtain ⟨who, sh, so, c3, a6, a7, a8, hd1, tp, h8, h9, t, eC, eR, hS, gS, e10, hl⟩ := full_r (top := top) (g8 := g8) (g9 := g9) (hd0 := hd) hL hn h4 hfo hR hk h g (by omega)
      rw [eC, eR]
      have en := wk_nx h0 hd6
      have ih := wk_wgh5_l67 hr hL hn h4 hfo hR hk n (d + 1) sh (v4 + 1) so tp (upd W (61 * r.toInt.toNat + d.toInt.toNat) who) c3 a6 a7 a8 (upd V (61 * r.toInt.toNat + d.toInt.toNat) who) t hd1 h8 h9 hS gS (by rw [e10, en, h10]) (by omega) (by omega) (by omega) (by rw [wk_idx (d := d.toInt.toNat) (e := (d + 1).toInt.toNat) (by omega)]; exact hT.on)
      exact ⟨ih.1, hl.tr ih.2⟩
theorem wk_wgh5_l67v1 {B1f B2f B3f B4f B5f B6f B7f B8f y8 y9 y10 y11 y12 y13 y14 y15 g2 g4 g5 : Nat → Int32} {b1 b2 b3 r : Int32} {rf : Nat → Int32} {rn : Nat} {R : RuA} (hr : 0 ≤ r.toInt ∧ r.toInt ≤ 6) (hL : CdE rf (ru_fl R)) (hn : (ru_fl R).length = rn) (h4 : rn ≤ 400) (hfo : 0 ≤ (r - 1).toInt ∧ (r - 1).toInt < 6) (hR : RwR g2 g4 g5 (r - 1).toInt.toNat R) (hk : ru_ok R) : ∀ (n : Nat) (d v0 v4 v5 top : Int32) (W f3 f6 f7 f8 V s : Nat → Int32) (hd g8 g9 : Nat → Int64), ShR v0 b1 b2 b3 v4 v5 (dX9_copyFrom y8 y9 y10 y11 y12 y13 y14 y15 B1f B2f B3f B4f B5f B6f B7f B8f).1 (dX9_copyFrom y8 y9 y10 y11 y12 y13 y14 y15 B1f B2f B3f B4f B5f B6f B7f B8f).2.1 f3 (dX9_copyFrom y8 y9 y10 y11 y12 y13 y14 y15 B1f B2f B3f B4f B5f B6f B7f B8f).2.2.2.1 (dX9_copyFrom y8 y9 y10 y11 y12 y13 y14 y15 B1f B2f B3f B4f B5f B6f B7f B8f).2.2.2.2.1 f6 f7 f8 s → Gs s → (s 10).toInt = d.toInt → 0 ≤ d.toInt → d.toInt ≤ 61 → 61 - d.toInt < (n : Int) → TbE W V (61 * r.toInt.toNat + d.toInt.toNat) →
    TbE (dX2_wgh5_l67v1 B1f B2f B3f B4f B5f B6f B7f B8f b1 b2 b3 rf rn r y8 y9 y10 y11 y12 y13 y14 y15 n d W hd v0 v4 v5 f3 f6 f7 f8).2.1 (dX12_fillsFits_l32 g2 g4 g5 0 r r n d g8 g9 V top s).2.2.2.1 (61 * r.toInt.toNat + 61) ∧ TlS s (dX12_fillsFits_l32 g2 g4 g5 0 r r n d g8 g9 V top s).2.2.2.2.2
  | 0, d, v0, v4, v5, top, W, f3, f6, f7, f8, V, s, hd, g8, g9, h, g, h10, h0, h1, hm, hT => by omega
  | n + 1, d, v0, v4, v5, top, W, f3, f6, f7, f8, V, s, hd, g8, g9, h, g, h10, h0, h1, hm, hT => by
    rw [dX2_wgh5_l67v1_s, dX12_fillsFits_l32_s]
    by_cases z : (61 : Int32) ≤ d
    · have ez : d.toInt = 61 := by rw [i32_leq, t_61] at z; omega
      have z2 : (60 : Int32) < d := by rw [i32_lt, t_60]; omega
      rw [if_pos z, if_pos z2]
      rw [show d.toInt.toNat = 61 by omega] at hT
      exact ⟨hT, TlS.rf⟩
    · have hd6 : d.toInt ≤ 60 := by rw [i32_leq, t_61] at z; omega
      have z2 : ¬ (60 : Int32) < d := by rw [i32_lt, t_60]; omega
      rw [if_neg z, if_neg z2, i61 hr ⟨h0, hd6⟩, spot_is hr ⟨h0, hd6⟩]
      obtain ⟨who, sh, so, c3, a6, a7, a8, hd1, tp, h8, h9, t, eC, eR, hS, gS, e10, hl⟩ := full_r (top := top) (g8 := g8) (g9 := g9) (hd0 := hd) hL hn h4 hfo hR hk h g (by omega)
      rw [eC, eR]
      have en := wk_nx h0 hd6
      have ih := wk_wgh5_l67v1 hr hL hn h4 hfo hR hk n (d + 1) sh (v4 + 1) so tp (upd W (61 * r.toInt.toNat + d.toInt.toNat) who) c3 a6 a7 a8 (upd V (61 * r.toInt.toNat + d.toInt.toNat) who) t hd1 h8 h9 hS gS (by rw [e10, en, h10]) (by omega) (by omega) (by omega) (by rw [wk_idx (d := d.toInt.toNat) (e := (d + 1).toInt.toNat) (by omega)]; exact hT.on)
      exact ⟨ih.1, hl.tr ih.2⟩
theorem wk_wgh5_l67v2 {B1f B2f B3f B4f B5f B6f B7f B8f y8 y9 y10 y11 y12 y13 y14 y15 g2 g4 g5 : Nat → Int32} {b1 b2 b3 r : Int32} {rf : Nat → Int32} {rn : Nat} {R : RuA} (hr : 0 ≤ r.toInt ∧ r.toInt ≤ 6) (hL : CdE rf (ru_fl R)) (hn : (ru_fl R).length = rn) (h4 : rn ≤ 400) (hfo : 0 ≤ (r - 1).toInt ∧ (r - 1).toInt < 6) (hR : RwR g2 g4 g5 (r - 1).toInt.toNat R) (hk : ru_ok R) : ∀ (n : Nat) (d v0 v4 v5 top : Int32) (W f3 f6 f7 f8 V s : Nat → Int32) (hd g8 g9 : Nat → Int64), ShR v0 b1 b2 b3 v4 v5 (dX9_copyFrom y8 y9 y10 y11 y12 y13 y14 y15 B1f B2f B3f B4f B5f B6f B7f B8f).1 (dX9_copyFrom y8 y9 y10 y11 y12 y13 y14 y15 B1f B2f B3f B4f B5f B6f B7f B8f).2.1 f3 (dX9_copyFrom y8 y9 y10 y11 y12 y13 y14 y15 B1f B2f B3f B4f B5f B6f B7f B8f).2.2.2.1 (dX9_copyFrom y8 y9 y10 y11 y12 y13 y14 y15 B1f B2f B3f B4f B5f B6f B7f B8f).2.2.2.2.1 f6 f7 f8 s → Gs s → (s 10).toInt = d.toInt → 0 ≤ d.toInt → d.toInt ≤ 61 → 61 - d.toInt < (n : Int) → TbE W V (61 * r.toInt.toNat + d.toInt.toNat) →
    TbE (dX2_wgh5_l67v2 B1f B2f B3f B4f B5f B6f B7f B8f b1 b2 b3 rf rn r y8 y9 y10 y11 y12 y13 y14 y15 n d W hd v0 v4 v5 f3 f6 f7 f8).2.1 (dX12_fillsFits_l32 g2 g4 g5 0 r r n d g8 g9 V top s).2.2.2.1 (61 * r.toInt.toNat + 61) ∧ TlS s (dX12_fillsFits_l32 g2 g4 g5 0 r r n d g8 g9 V top s).2.2.2.2.2
  | 0, d, v0, v4, v5, top, W, f3, f6, f7, f8, V, s, hd, g8, g9, h, g, h10, h0, h1, hm, hT => by omega
  | n + 1, d, v0, v4, v5, top, W, f3, f6, f7, f8, V, s, hd, g8, g9, h, g, h10, h0, h1, hm, hT => by
    rw [dX2_wgh5_l67v2_s, dX12_fillsFits_l32_s]
    by_cases z : (61 : Int32) ≤ d
    · have ez : d.toInt = 61 := by rw [i32_leq, t_61] at z; omega
      have z2 : (60 : Int32) < d := by rw [i32_lt, t_60]; omega
      rw [if_pos z, if_pos z2]
      rw [show d.toInt.toNat = 61 by omega] at hT
      exact ⟨hT, TlS.rf⟩
    · have hd6 : d.toInt ≤ 60 := by rw [i32_leq, t_61] at z; omega
      have z2 : ¬ (60 : Int32) < d := by rw [i32_lt, t_60]; omega
      rw [if_neg z, if_neg z2, i61 hr ⟨h0, hd6⟩, spot_is hr ⟨h0, hd6⟩]
      obtain ⟨who, sh, so, c3, a6, a7, a8, hd1, tp, h8, h9, t, eC, eR, hS, gS, e10, hl⟩ := full_r (top := top) (g8 := g8) (g9 := g9) (hd0 := hd) hL hn h4 hfo hR hk h g (by omega)
      rw [eC, eR]
      have en := wk_nx h0 hd6
      have ih := wk_wgh5_l67v2 hr hL hn h4 hfo hR hk n (d + 1) sh (v4 + 1) so tp (upd W (61 * r.toInt.toNat + d.toInt.toNat) who) c3 a6 a7 a8 (upd V (61 * r.toInt.toNat + d.toInt.toNat) who) t hd1 h8 h9 hS gS (by rw [e10, en, h10]) (by omega) (by omega) (by omega) (by rw [wk_idx (d := d.toInt.toNat) (e := (d + 1).toInt.toNat) (by omega)]; exact hT.on)
      exact ⟨ih.1, hl.tr ih.2⟩
theorem wk_wgh5_l67v3 {B1f B2f B3f B4f B5f B6f B7f B8f y8 y9 y10 y11 y12 y13 y14 y15 g2 g4 g5 : Nat → Int32} {b1 b2 b3 r : Int32} {rf : Nat → Int32} {rn : Nat} {R : RuA} (hr : 0 ≤ r.toInt ∧ r.toInt ≤ 6) (hL : CdE rf (ru_fl R)) (hn : (ru_fl R).length = rn) (h4 : rn ≤ 400) (hfo : 0 ≤ (r - 1).toInt ∧ (r - 1).toInt < 6) (hR : RwR g2 g4 g5 (r - 1).toInt.toNat R) (hk : ru_ok R) : ∀ (n : Nat) (d v0 v4 v5 top : Int32) (W f3 f6 f7 f8 V s : Nat → Int32) (hd g8 g9 : Nat → Int64), ShR v0 b1 b2 b3 v4 v5 (dX9_copyFrom y8 y9 y10 y11 y12 y13 y14 y15 B1f B2f B3f B4f B5f B6f B7f B8f).1 (dX9_copyFrom y8 y9 y10 y11 y12 y13 y14 y15 B1f B2f B3f B4f B5f B6f B7f B8f).2.1 f3 (dX9_copyFrom y8 y9 y10 y11 y12 y13 y14 y15 B1f B2f B3f B4f B5f B6f B7f B8f).2.2.2.1 (dX9_copyFrom y8 y9 y10 y11 y12 y13 y14 y15 B1f B2f B3f B4f B5f B6f B7f B8f).2.2.2.2.1 f6 f7 f8 s → Gs s → (s 10).toInt = d.toInt → 0 ≤ d.toInt → d.toInt ≤ 61 → 61 - d.toInt < (n : Int) → TbE W V (61 * r.toInt.toNat + d.toInt.toNat) →
    TbE (dX2_wgh5_l67v3 B1f B2f B3f B4f B5f B6f B7f B8f b1 b2 b3 rf rn r y8 y9 y10 y11 y12 y13 y14 y15 n d W hd v0 v4 v5 f3 f6 f7 f8).2.1 (dX12_fillsFits_l32 g2 g4 g5 0 r r n d g8 g9 V top s).2.2.2.1 (61 * r.toInt.toNat + 61) ∧ TlS s (dX12_fillsFits_l32 g2 g4 g5 0 r r n d g8 g9 V top s).2.2.2.2.2
  | 0, d, v0, v4, v5, top, W, f3, f6, f7, f8, V, s, hd, g8, g9, h, g, h10, h0, h1, hm, hT => by omega
  | n + 1, d, v0, v4, v5, top, W, f3, f6, f7, f8, V, s, hd, g8, g9, h, g, h10, h0, h1, hm, hT => by
    rw [dX2_wgh5_l67v3_s, dX12_fillsFits_l32_s]
    by_cases z : (61 : Int32) ≤ d
    · have ez : d.toInt = 61 := by rw [i32_leq, t_61] at z; omega
      have z2 : (60 : Int32) < d := by rw [i32_lt, t_60]; omega
      rw [if_pos z, if_pos z2]
      rw [show d.toInt.toNat = 61 by omega] at hT
      exact ⟨hT, TlS.rf⟩
    · have hd6 : d.toInt ≤ 60 := by rw [i32_leq, t_61] at z; omega
      have z2 : ¬ (60 : Int32) < d := by rw [i32_lt, t_60]; omega
      rw [if_neg z, if_neg z2, i61 hr ⟨h0, hd6⟩, spot_is hr ⟨h0, hd6⟩]
      obtain ⟨who, sh, so, c3, a6, a7, a8, hd1, tp, h8, h9, t, eC, eR, hS, gS, e10, hl⟩ := full_r (top := top) (g8 := g8) (g9 := g9) (hd0 := hd) hL hn h4 hfo hR hk h g (by omega)
      rw [eC, eR]
      have en := wk_nx h0 hd6
      have ih := wk_wgh5_l67v3 hr hL hn h4 hfo hR hk n (d + 1) sh (v4 + 1) so tp (upd W (61 * r.toInt.toNat + d.toInt.toNat) who) c3 a6 a7 a8 (upd V (61 * r.toInt.toNat + d.toInt.toNat) who) t hd1 h8 h9 hS gS (by rw [e10, en, h10]) (by omega) (by omega) (by omega) (by rw [wk_idx (d := d.toInt.toNat) (e := (d + 1).toInt.toNat) (by omega)]; exact hT.on)
      exact ⟨ih.1, hl.tr ih.2⟩
theorem wk_wgh5_l67v4 {B1f B2f B3f B4f B5f B6f B7f B8f y8 y9 y10 y11 y12 y13 y14 y15 g2 g4 g5 : Nat → Int32} {b1 b2 b3 r : Int32} {rf : Nat → Int32} {rn : Nat} {R : RuA} (hr : 0 ≤ r.toInt ∧ r.toInt ≤ 6) (hL : CdE rf (ru_fl R)) (hn : (ru_fl R).length = rn) (h4 : rn ≤ 400) (hfo : 0 ≤ (r - 1).toInt ∧ (r - 1).toInt < 6) (hR : RwR g2 g4 g5 (r - 1).toInt.toNat R) (hk : ru_ok R) : ∀ (n : Nat) (d v0 v4 v5 top : Int32) (W f3 f6 f7 f8 V s : Nat → Int32) (hd g8 g9 : Nat → Int64), ShR v0 b1 b2 b3 v4 v5 (dX9_copyFrom y8 y9 y10 y11 y12 y13 y14 y15 B1f B2f B3f B4f B5f B6f B7f B8f).1 (dX9_copyFrom y8 y9 y10 y11 y12 y13 y14 y15 B1f B2f B3f B4f B5f B6f B7f B8f).2.1 f3 (dX9_copyFrom y8 y9 y10 y11 y12 y13 y14 y15 B1f B2f B3f B4f B5f B6f B7f B8f).2.2.2.1 (dX9_copyFrom y8 y9 y10 y11 y12 y13 y14 y15 B1f B2f B3f B4f B5f B6f B7f B8f).2.2.2.2.1 f6 f7 f8 s → Gs s → (s 10).toInt = d.toInt → 0 ≤ d.toInt → d.toInt ≤ 61 → 61 - d.toInt < (n : Int) → TbE W V (61 * r.toInt.toNat + d.toInt.toNat) →
    TbE (dX2_wgh5_l67v4 B1f B2f B3f B4f B5f B6f B7f B8f b1 b2 b3 rf rn r y8 y9 y10 y11 y12 y13 y14 y15 n d W hd v0 v4 v5 f3 f6 f7 f8).2.1 (dX12_fillsFits_l32 g2 g4 g5 0 r r n d g8 g9 V top s).2.2.2.1 (61 * r.toInt.toNat + 61) ∧ TlS s (dX12_fillsFits_l32 g2 g4 g5 0 r r n d g8 g9 V top s).2.2.2.2.2
  | 0, d, v0, v4, v5, top, W, f3, f6, f7, f8, V, s, hd, g8, g9, h, g, h10, h0, h1, hm, hT => by omega
  | n + 1, d, v0, v4, v5, top, W, f3, f6, f7, f8, V, s, hd, g8, g9, h, g, h10, h0, h1, hm, hT => by
    rw [dX2_wgh5_l67v4_s, dX12_fillsFits_l32_s]
    by_cases z : (61 : Int32) ≤ d
    · have ez : d.toInt = 61 := by rw [i32_leq, t_61] at z; omega
      have z2 : (60 : Int32) < d := by rw [i32_lt, t_60]; omega
      rw [if_pos z, if_pos z2]
      rw [show d.toInt.toNat = 61 by omega] at hT
      exact ⟨hT, TlS.rf⟩
    · have hd6 : d.toInt ≤ 60 := by rw [i32_leq, t_61] at z; omega
      have z2 : ¬ (60 : Int32) < d := by rw [i32_lt, t_60]; omega
      rw [if_neg z, if_neg z2, i61 hr ⟨h0, hd6⟩, spot_is hr ⟨h0, hd6⟩]
      obtain ⟨who, sh, so, c3, a6, a7, a8, hd1, tp, h8, h9, t, eC, eR, hS, gS, e10, hl⟩ := full_r (top := top) (g8 := g8) (g9 := g9) (hd0 := hd) hL hn h4 hfo hR hk h g (by omega)
      rw [eC, eR]
      have en := wk_nx h0 hd6
      have ih := wk_wgh5_l67v4 hr hL hn h4 hfo hR hk n (d + 1) sh (v4 + 1) so tp (upd W (61 * r.toInt.toNat + d.toInt.toNat) who) c3 a6 a7 a8 (upd V (61 * r.toInt.toNat + d.toInt.toNat) who) t hd1 h8 h9 hS gS (by rw [e10, en, h10]) (by omega) (by omega) (by omega) (by rw [wk_idx (d := d.toInt.toNat) (e := (d + 1).toInt.toNat) (by omega)]; exact hT.on)
      exact ⟨ih.1, hl.tr ih.2⟩
theorem wk_wgh5_l67v5 {B1f B2f B3f B4f B5f B6f B7f B8f y8 y9 y10 y11 y12 y13 y14 y15 g2 g4 g5 : Nat → Int32} {b1 b2 b3 r : Int32} (hr : 0 ≤ r.toInt ∧ r.toInt ≤ 6) (hf : (r - 1).toInt < 0) : ∀ (n : Nat) (d v0 v4 v5 top : Int32) (W f3 f6 f7 f8 V s : Nat → Int32) (g8 g9 : Nat → Int64), ShR v0 b1 b2 b3 v4 v5 (dX9_copyFrom y8 y9 y10 y11 y12 y13 y14 y15 B1f B2f B3f B4f B5f B6f B7f B8f).1 (dX9_copyFrom y8 y9 y10 y11 y12 y13 y14 y15 B1f B2f B3f B4f B5f B6f B7f B8f).2.1 f3 (dX9_copyFrom y8 y9 y10 y11 y12 y13 y14 y15 B1f B2f B3f B4f B5f B6f B7f B8f).2.2.2.1 (dX9_copyFrom y8 y9 y10 y11 y12 y13 y14 y15 B1f B2f B3f B4f B5f B6f B7f B8f).2.2.2.2.1 f6 f7 f8 s → Gs s → (s 10).toInt = d.toInt → 0 ≤ d.toInt → d.toInt ≤ 61 → 61 - d.toInt < (n : Int) → TbE W V (61 * r.toInt.toNat + d.toInt.toNat) →
    TbE (dX2_wgh5_l67v5 B1f B2f B3f B4f B5f B6f B7f B8f b1 b2 b3 r y8 y9 y10 y11 y12 y13 y14 y15 n d W v0 v4 v5 f3 f6 f7 f8).2.1 (dX12_fillsFits_l32 g2 g4 g5 0 r r n d g8 g9 V top s).2.2.2.1 (61 * r.toInt.toNat + 61) ∧ TlS s (dX12_fillsFits_l32 g2 g4 g5 0 r r n d g8 g9 V top s).2.2.2.2.2
  | 0, d, v0, v4, v5, top, W, f3, f6, f7, f8, V, s, g8, g9, h, g, h10, h0, h1, hm, hT => by omega
  | n + 1, d, v0, v4, v5, top, W, f3, f6, f7, f8, V, s, g8, g9, h, g, h10, h0, h1, hm, hT => by
    rw [dX2_wgh5_l67v5_s, dX12_fillsFits_l32_s]
    by_cases z : (61 : Int32) ≤ d
    · have ez : d.toInt = 61 := by rw [i32_leq, t_61] at z; omega
      have z2 : (60 : Int32) < d := by rw [i32_lt, t_60]; omega
      rw [if_pos z, if_pos z2]
      rw [show d.toInt.toNat = 61 by omega] at hT
      exact ⟨hT, TlS.rf⟩
    · have hd6 : d.toInt ≤ 60 := by rw [i32_leq, t_61] at z; omega
      have z2 : ¬ (60 : Int32) < d := by rw [i32_lt, t_60]; omega
      rw [if_neg z, if_neg z2, i61 hr ⟨h0, hd6⟩, spot_is hr ⟨h0, hd6⟩]
      obtain ⟨who, sh, so, c3, a6, a7, a8, tp, h8, h9, t, eC, eR, hS, gS, e10, hl⟩ := full_n (top := top) (g2 := g2) (g4 := g4) (g5 := g5) (g8 := g8) (g9 := g9) h g (by omega) hf
      rw [eC, eR]
      have en := wk_nx h0 hd6
      have ih := wk_wgh5_l67v5 (g2 := g2) (g4 := g4) (g5 := g5) hr hf n (d + 1) sh (v4 + 1) so tp (upd W (61 * r.toInt.toNat + d.toInt.toNat) who) c3 a6 a7 a8 (upd V (61 * r.toInt.toNat + d.toInt.toNat) who) t h8 h9 hS gS (by rw [e10, en, h10]) (by omega) (by omega) (by omega) (by rw [wk_idx (d := d.toInt.toNat) (e := (d + 1).toInt.toNat) (by omega)]; exact hT.on)
      exact ⟨ih.1, hl.tr ih.2⟩
theorem wk_wgh6_l67 {B1f B2f B3f B4f B5f B6f B7f B8f y8 y9 y10 y11 y12 y13 y14 y15 g2 g4 g5 : Nat → Int32} {b1 b2 b3 r : Int32} {rf : Nat → Int32} {rn : Nat} {R : RuA} (hr : 0 ≤ r.toInt ∧ r.toInt ≤ 6) (hL : CdE rf (ru_fl R)) (hn : (ru_fl R).length = rn) (h4 : rn ≤ 400) (hfo : 0 ≤ (r - 1).toInt ∧ (r - 1).toInt < 6) (hR : RwR g2 g4 g5 (r - 1).toInt.toNat R) (hk : ru_ok R) : ∀ (n : Nat) (d v0 v4 v5 top : Int32) (W f3 f6 f7 f8 V s : Nat → Int32) (hd g8 g9 : Nat → Int64), ShR v0 b1 b2 b3 v4 v5 (dX9_copyFrom y8 y9 y10 y11 y12 y13 y14 y15 B1f B2f B3f B4f B5f B6f B7f B8f).1 (dX9_copyFrom y8 y9 y10 y11 y12 y13 y14 y15 B1f B2f B3f B4f B5f B6f B7f B8f).2.1 f3 (dX9_copyFrom y8 y9 y10 y11 y12 y13 y14 y15 B1f B2f B3f B4f B5f B6f B7f B8f).2.2.2.1 (dX9_copyFrom y8 y9 y10 y11 y12 y13 y14 y15 B1f B2f B3f B4f B5f B6f B7f B8f).2.2.2.2.1 f6 f7 f8 s → Gs s → (s 10).toInt = d.toInt → 0 ≤ d.toInt → d.toInt ≤ 61 → 61 - d.toInt < (n : Int) → TbE W V (61 * r.toInt.toNat + d.toInt.toNat) →
    TbE (dX2_wgh6_l67 B1f B2f B3f B4f B5f B6f B7f B8f b1 b2 b3 rf rn r y8 y9 y10 y11 y12 y13 y14 y15 n d W hd v0 v4 v5 f3 f6 f7 f8).2.1 (dX12_fillsFits_l32 g2 g4 g5 0 r r n d g8 g9 V top s).2.2.2.1 (61 * r.toInt.toNat + 61) ∧ TlS s (dX12_fillsFits_l32 g2 g4 g5 0 r r n d g8 g9 V top s).2.2.2.2.2
  | 0, d, v0, v4, v5, top, W, f3, f6, f7, f8, V, s, hd, g8, g9, h, g, h10, h0, h1, hm, hT => by omega
  | n + 1, d, v0, v4, v5, top, W, f3, f6, f7, f8, V, s, hd, g8, g9, h, g, h10, h0, h1, hm, hT => by
    rw [dX2_wgh6_l67_s, dX12_fillsFits_l32_s]
    by_cases z : (61 : Int32) ≤ d
    · have ez : d.toInt = 61 := by rw [i32_leq, t_61] at z; omega
      have z2 : (60 : Int32) < d := by rw [i32_lt, t_60]; omega
      rw [if_pos z, if_pos z2]
      rw [show d.toInt.toNat = 61 by omega] at hT
      exact ⟨hT, TlS.rf⟩
    · have hd6 : d.toInt ≤ 60 := by rw [i32_leq, t_61] at z; omega
      have z2 : ¬ (60 : Int32) < d := by rw [i32_lt, t_60]; omega
      rw [if_neg z, if_neg z2, i61 hr ⟨h0, hd6⟩, spot_is hr ⟨h0, hd6⟩]
      obtain ⟨who, sh, so, c3, a6, a7, a8, hd1, tp, h8, h9, t, eC, eR, hS, gS, e10, hl⟩ := full_r (top := top) (g8 := g8) (g9 := g9) (hd0 := hd) hL hn h4 hfo hR hk h g (by omega)
      rw [eC, eR]
      have en := wk_nx h0 hd6
      have ih := wk_wgh6_l67 hr hL hn h4 hfo hR hk n (d + 1) sh (v4 + 1) so tp (upd W (61 * r.toInt.toNat + d.toInt.toNat) who) c3 a6 a7 a8 (upd V (61 * r.toInt.toNat + d.toInt.toNat) who) t hd1 h8 h9 hS gS (by rw [e10, en, h10]) (by omega) (by omega) (by omega) (by rw [wk_idx (d := d.toInt.toNat) (e := (d + 1).toInt.toNat) (by omega)]; exact hT.on)
      exact ⟨ih.1, hl.tr ih.2⟩
theorem wk_wgh6_l67v1 {B1f B2f B3f B4f B5f B6f B7f B8f y8 y9 y10 y11 y12 y13 y14 y15 g2 g4 g5 : Nat → Int32} {b1 b2 b3 r : Int32} {rf : Nat → Int32} {rn : Nat} {R : RuA} (hr : 0 ≤ r.toInt ∧ r.toInt ≤ 6) (hL : CdE rf (ru_fl R)) (hn : (ru_fl R).length = rn) (h4 : rn ≤ 400) (hfo : 0 ≤ (r - 1).toInt ∧ (r - 1).toInt < 6) (hR : RwR g2 g4 g5 (r - 1).toInt.toNat R) (hk : ru_ok R) : ∀ (n : Nat) (d v0 v4 v5 top : Int32) (W f3 f6 f7 f8 V s : Nat → Int32) (hd g8 g9 : Nat → Int64), ShR v0 b1 b2 b3 v4 v5 (dX9_copyFrom y8 y9 y10 y11 y12 y13 y14 y15 B1f B2f B3f B4f B5f B6f B7f B8f).1 (dX9_copyFrom y8 y9 y10 y11 y12 y13 y14 y15 B1f B2f B3f B4f B5f B6f B7f B8f).2.1 f3 (dX9_copyFrom y8 y9 y10 y11 y12 y13 y14 y15 B1f B2f B3f B4f B5f B6f B7f B8f).2.2.2.1 (dX9_copyFrom y8 y9 y10 y11 y12 y13 y14 y15 B1f B2f B3f B4f B5f B6f B7f B8f).2.2.2.2.1 f6 f7 f8 s → Gs s → (s 10).toInt = d.toInt → 0 ≤ d.toInt → d.toInt ≤ 61 → 61 - d.toInt < (n : Int) → TbE W V (61 * r.toInt.toNat + d.toInt.toNat) →
    TbE (dX2_wgh6_l67v1 B1f B2f B3f B4f B5f B6f B7f B8f b1 b2 b3 rf rn r y8 y9 y10 y11 y12 y13 y14 y15 n d W hd v0 v4 v5 f3 f6 f7 f8).2.1 (dX12_fillsFits_l32 g2 g4 g5 0 r r n d g8 g9 V top s).2.2.2.1 (61 * r.toInt.toNat + 61) ∧ TlS s (dX12_fillsFits_l32 g2 g4 g5 0 r r n d g8 g9 V top s).2.2.2.2.2
  | 0, d, v0, v4, v5, top, W, f3, f6, f7, f8, V, s, hd, g8, g9, h, g, h10, h0, h1, hm, hT => by omega
  | n + 1, d, v0, v4, v5, top, W, f3, f6, f7, f8, V, s, hd, g8, g9, h, g, h10, h0, h1, hm, hT => by
    rw [dX2_wgh6_l67v1_s, dX12_fillsFits_l32_s]
    by_cases z : (61 : Int32) ≤ d
    · have ez : d.toInt = 61 := by rw [i32_leq, t_61] at z; omega
      have z2 : (60 : Int32) < d := by rw [i32_lt, t_60]; omega
      rw [if_pos z, if_pos z2]
      rw [show d.toInt.toNat = 61 by omega] at hT
      exact ⟨hT, TlS.rf⟩
    · have hd6 : d.toInt ≤ 60 := by rw [i32_leq, t_61] at z; omega
      have z2 : ¬ (60 : Int32) < d := by rw [i32_lt, t_60]; omega
      rw [if_neg z, if_neg z2, i61 hr ⟨h0, hd6⟩, spot_is hr ⟨h0, hd6⟩]
      obtain ⟨who, sh, so, c3, a6, a7, a8, hd1, tp, h8, h9, t, eC, eR, hS, gS, e10, hl⟩ := full_r (top := top) (g8 := g8) (g9 := g9) (hd0 := hd) hL hn h4 hfo hR hk h g (by omega)
      rw [eC, eR]
      have en := wk_nx h0 hd6
      have ih := wk_wgh6_l67v1 hr hL hn h4 hfo hR hk n (d + 1) sh (v4 + 1) so tp (upd W (61 * r.toInt.toNat + d.toInt.toNat) who) c3 a6 a7 a8 (upd V (61 * r.toInt.toNat + d.toInt.toNat) who) t hd1 h8 h9 hS gS (by rw [e10, en, h10]) (by omega) (by omega) (by omega) (by rw [wk_idx (d := d.toInt.toNat) (e := (d + 1).toInt.toNat) (by omega)]; exact hT.on)
      exact ⟨ih.1, hl.tr ih.2⟩
theorem wk_wgh6_l67v2 {B1f B2f B3f B4f B5f B6f B7f B8f y8 y9 y10 y11 y12 y13 y14 y15 g2 g4 g5 : Nat → Int32} {b1 b2 b3 r : Int32} {rf : Nat → Int32} {rn : Nat} {R : RuA} (hr : 0 ≤ r.toInt ∧ r.toInt ≤ 6) (hL : CdE rf (ru_fl R)) (hn : (ru_fl R).length = rn) (h4 : rn ≤ 400) (hfo : 0 ≤ (r - 1).toInt ∧ (r - 1).toInt < 6) (hR : RwR g2 g4 g5 (r - 1).toInt.toNat R) (hk : ru_ok R) : ∀ (n : Nat) (d v0 v4 v5 top : Int32) (W f3 f6 f7 f8 V s : Nat → Int32) (hd g8 g9 : Nat → Int64), ShR v0 b1 b2 b3 v4 v5 (dX9_copyFrom y8 y9 y10 y11 y12 y13 y14 y15 B1f B2f B3f B4f B5f B6f B7f B8f).1 (dX9_copyFrom y8 y9 y10 y11 y12 y13 y14 y15 B1f B2f B3f B4f B5f B6f B7f B8f).2.1 f3 (dX9_copyFrom y8 y9 y10 y11 y12 y13 y14 y15 B1f B2f B3f B4f B5f B6f B7f B8f).2.2.2.1 (dX9_copyFrom y8 y9 y10 y11 y12 y13 y14 y15 B1f B2f B3f B4f B5f B6f B7f B8f).2.2.2.2.1 f6 f7 f8 s → Gs s → (s 10).toInt = d.toInt → 0 ≤ d.toInt → d.toInt ≤ 61 → 61 - d.toInt < (n : Int) → TbE W V (61 * r.toInt.toNat + d.toInt.toNat) →
    TbE (dX2_wgh6_l67v2 B1f B2f B3f B4f B5f B6f B7f B8f b1 b2 b3 rf rn r y8 y9 y10 y11 y12 y13 y14 y15 n d W hd v0 v4 v5 f3 f6 f7 f8).2.1 (dX12_fillsFits_l32 g2 g4 g5 0 r r n d g8 g9 V top s).2.2.2.1 (61 * r.toInt.toNat + 61) ∧ TlS s (dX12_fillsFits_l32 g2 g4 g5 0 r r n d g8 g9 V top s).2.2.2.2.2
  | 0, d, v0, v4, v5, top, W, f3, f6, f7, f8, V, s, hd, g8, g9, h, g, h10, h0, h1, hm, hT => by omega
  | n + 1, d, v0, v4, v5, top, W, f3, f6, f7, f8, V, s, hd, g8, g9, h, g, h10, h0, h1, hm, hT => by
    rw [dX2_wgh6_l67v2_s, dX12_fillsFits_l32_s]
    by_cases z : (61 : Int32) ≤ d
    · have ez : d.toInt = 61 := by rw [i32_leq, t_61] at z; omega
      have z2 : (60 : Int32) < d := by rw [i32_lt, t_60]; omega
      rw [if_pos z, if_pos z2]
      rw [show d.toInt.toNat = 61 by omega] at hT
      exact ⟨hT, TlS.rf⟩
    · have hd6 : d.toInt ≤ 60 := by rw [i32_leq, t_61] at z; omega
      have z2 : ¬ (60 : Int32) < d := by rw [i32_lt, t_60]; omega
      rw [if_neg z, if_neg z2, i61 hr ⟨h0, hd6⟩, spot_is hr ⟨h0, hd6⟩]
      obtain ⟨who, sh, so, c3, a6, a7, a8, hd1, tp, h8, h9, t, eC, eR, hS, gS, e10, hl⟩ := full_r (top := top) (g8 := g8) (g9 := g9) (hd0 := hd) hL hn h4 hfo hR hk h g (by omega)
      rw [eC, eR]
      have en := wk_nx h0 hd6
      have ih := wk_wgh6_l67v2 hr hL hn h4 hfo hR hk n (d + 1) sh (v4 + 1) so tp (upd W (61 * r.toInt.toNat + d.toInt.toNat) who) c3 a6 a7 a8 (upd V (61 * r.toInt.toNat + d.toInt.toNat) who) t hd1 h8 h9 hS gS (by rw [e10, en, h10]) (by omega) (by omega) (by omega) (by rw [wk_idx (d := d.toInt.toNat) (e := (d + 1).toInt.toNat) (by omega)]; exact hT.on)
      exact ⟨ih.1, hl.tr ih.2⟩
theorem wk_wgh6_l67v3 {B1f B2f B3f B4f B5f B6f B7f B8f y8 y9 y10 y11 y12 y13 y14 y15 g2 g4 g5 : Nat → Int32} {b1 b2 b3 r : Int32} {rf : Nat → Int32} {rn : Nat} {R : RuA} (hr : 0 ≤ r.toInt ∧ r.toInt ≤ 6) (hL : CdE rf (ru_fl R)) (hn : (ru_fl R).length = rn) (h4 : rn ≤ 400) (hfo : 0 ≤ (r - 1).toInt ∧ (r - 1).toInt < 6) (hR : RwR g2 g4 g5 (r - 1).toInt.toNat R) (hk : ru_ok R) : ∀ (n : Nat) (d v0 v4 v5 top : Int32) (W f3 f6 f7 f8 V s : Nat → Int32) (hd g8 g9 : Nat → Int64), ShR v0 b1 b2 b3 v4 v5 (dX9_copyFrom y8 y9 y10 y11 y12 y13 y14 y15 B1f B2f B3f B4f B5f B6f B7f B8f).1 (dX9_copyFrom y8 y9 y10 y11 y12 y13 y14 y15 B1f B2f B3f B4f B5f B6f B7f B8f).2.1 f3 (dX9_copyFrom y8 y9 y10 y11 y12 y13 y14 y15 B1f B2f B3f B4f B5f B6f B7f B8f).2.2.2.1 (dX9_copyFrom y8 y9 y10 y11 y12 y13 y14 y15 B1f B2f B3f B4f B5f B6f B7f B8f).2.2.2.2.1 f6 f7 f8 s → Gs s → (s 10).toInt = d.toInt → 0 ≤ d.toInt → d.toInt ≤ 61 → 61 - d.toInt < (n : Int) → TbE W V (61 * r.toInt.toNat + d.toInt.toNat) →
    TbE (dX2_wgh6_l67v3 B1f B2f B3f B4f B5f B6f B7f B8f b1 b2 b3 rf rn r y8 y9 y10 y11 y12 y13 y14 y15 n d W hd v0 v4 v5 f3 f6 f7 f8).2.1 (dX12_fillsFits_l32 g2 g4 g5 0 r r n d g8 g9 V top s).2.2.2.1 (61 * r.toInt.toNat + 61) ∧ TlS s (dX12_fillsFits_l32 g2 g4 g5 0 r r n d g8 g9 V top s).2.2.2.2.2
  | 0, d, v0, v4, v5, top, W, f3, f6, f7, f8, V, s, hd, g8, g9, h, g, h10, h0, h1, hm, hT => by omega
  | n + 1, d, v0, v4, v5, top, W, f3, f6, f7, f8, V, s, hd, g8, g9, h, g, h10, h0, h1, hm, hT => by
    rw [dX2_wgh6_l67v3_s, dX12_fillsFits_l32_s]
    by_cases z : (61 : Int32) ≤ d
    · have ez : d.toInt = 61 := by rw [i32_leq, t_61] at z; omega
      have z2 : (60 : Int32) < d := by rw [i32_lt, t_60]; omega
      rw [if_pos z, if_pos z2]
      rw [show d.toInt.toNat = 61 by omega] at hT
      exact ⟨hT, TlS.rf⟩
    · have hd6 : d.toInt ≤ 60 := by rw [i32_leq, t_61] at z; omega
      have z2 : ¬ (60 : Int32) < d := by rw [i32_lt, t_60]; omega
      rw [if_neg z, if_neg z2, i61 hr ⟨h0, hd6⟩, spot_is hr ⟨h0, hd6⟩]
      obtain ⟨who, sh, so, c3, a6, a7, a8, hd1, tp, h8, h9, t, eC, eR, hS, gS, e10, hl⟩ := full_r (top := top) (g8 := g8) (g9 := g9) (hd0 := hd) hL hn h4 hfo hR hk h g (by omega)
      rw [eC, eR]
      have en := wk_nx h0 hd6
      have ih := wk_wgh6_l67v3 hr hL hn h4 hfo hR hk n (d + 1) sh (v4 + 1) so tp (upd W (61 * r.toInt.toNat + d.toInt.toNat) who) c3 a6 a7 a8 (upd V (61 * r.toInt.toNat + d.toInt.toNat) who) t hd1 h8 h9 hS gS (by rw [e10, en, h10]) (by omega) (by omega) (by omega) (by rw [wk_idx (d := d.toInt.toNat) (e := (d + 1).toInt.toNat) (by omega)]; exact hT.on)
      exact ⟨ih.1, hl.tr ih.2⟩
theorem wk_wgh6_l67v4 {B1f B2f B3f B4f B5f B6f B7f B8f y8 y9 y10 y11 y12 y13 y14 y15 g2 g4 g5 : Nat → Int32} {b1 b2 b3 r : Int32} {rf : Nat → Int32} {rn : Nat} {R : RuA} (hr : 0 ≤ r.toInt ∧ r.toInt ≤ 6) (hL : CdE rf (ru_fl R)) (hn : (ru_fl R).length = rn) (h4 : rn ≤ 400) (hfo : 0 ≤ (r - 1).toInt ∧ (r - 1).toInt < 6) (hR : RwR g2 g4 g5 (r - 1).toInt.toNat R) (hk : ru_ok R) : ∀ (n : Nat) (d v0 v4 v5 top : Int32) (W f3 f6 f7 f8 V s : Nat → Int32) (hd g8 g9 : Nat → Int64), ShR v0 b1 b2 b3 v4 v5 (dX9_copyFrom y8 y9 y10 y11 y12 y13 y14 y15 B1f B2f B3f B4f B5f B6f B7f B8f).1 (dX9_copyFrom y8 y9 y10 y11 y12 y13 y14 y15 B1f B2f B3f B4f B5f B6f B7f B8f).2.1 f3 (dX9_copyFrom y8 y9 y10 y11 y12 y13 y14 y15 B1f B2f B3f B4f B5f B6f B7f B8f).2.2.2.1 (dX9_copyFrom y8 y9 y10 y11 y12 y13 y14 y15 B1f B2f B3f B4f B5f B6f B7f B8f).2.2.2.2.1 f6 f7 f8 s → Gs s → (s 10).toInt = d.toInt → 0 ≤ d.toInt → d.toInt ≤ 61 → 61 - d.toInt < (n : Int) → TbE W V (61 * r.toInt.toNat + d.toInt.toNat) →
    TbE (dX2_wgh6_l67v4 B1f B2f B3f B4f B5f B6f B7f B8f b1 b2 b3 rf rn r y8 y9 y10 y11 y12 y13 y14 y15 n d W hd v0 v4 v5 f3 f6 f7 f8).2.1 (dX12_fillsFits_l32 g2 g4 g5 0 r r n d g8 g9 V top s).2.2.2.1 (61 * r.toInt.toNat + 61) ∧ TlS s (dX12_fillsFits_l32 g2 g4 g5 0 r r n d g8 g9 V top s).2.2.2.2.2
  | 0, d, v0, v4, v5, top, W, f3, f6, f7, f8, V, s, hd, g8, g9, h, g, h10, h0, h1, hm, hT => by omega
  | n + 1, d, v0, v4, v5, top, W, f3, f6, f7, f8, V, s, hd, g8, g9, h, g, h10, h0, h1, hm, hT => by
    rw [dX2_wgh6_l67v4_s, dX12_fillsFits_l32_s]
    by_cases z : (61 : Int32) ≤ d
    · have ez : d.toInt = 61 := by rw [i32_leq, t_61] at z; omega
      have z2 : (60 : Int32) < d := by rw [i32_lt, t_60]; omega
      rw [if_pos z, if_pos z2]
      rw [show d.toInt.toNat = 61 by omega] at hT
      exact ⟨hT, TlS.rf⟩
    · have hd6 : d.toInt ≤ 60 := by rw [i32_leq, t_61] at z; omega
      have z2 : ¬ (60 : Int32) < d := by rw [i32_lt, t_60]; omega
      rw [if_neg z, if_neg z2, i61 hr ⟨h0, hd6⟩, spot_is hr ⟨h0, hd6⟩]
      obtain ⟨who, sh, so, c3, a6, a7, a8, hd1, tp, h8, h9, t, eC, eR, hS, gS, e10, hl⟩ := full_r (top := top) (g8 := g8) (g9 := g9) (hd0 := hd) hL hn h4 hfo hR hk h g (by omega)
      rw [eC, eR]
      have en := wk_nx h0 hd6
      have ih := wk_wgh6_l67v4 hr hL hn h4 hfo hR hk n (d + 1) sh (v4 + 1) so tp (upd W (61 * r.toInt.toNat + d.toInt.toNat) who) c3 a6 a7 a8 (upd V (61 * r.toInt.toNat + d.toInt.toNat) who) t hd1 h8 h9 hS gS (by rw [e10, en, h10]) (by omega) (by omega) (by omega) (by rw [wk_idx (d := d.toInt.toNat) (e := (d + 1).toInt.toNat) (by omega)]; exact hT.on)
      exact ⟨ih.1, hl.tr ih.2⟩
theorem wk_wgh6_l67v5 {B1f B2f B3f B4f B5f B6f B7f B8f y8 y9 y10 y11 y12 y13 y14 y15 g2 g4 g5 : Nat → Int32} {b1 b2 b3 r : Int32} {rf : Nat → Int32} {rn : Nat} {R : RuA} (hr : 0 ≤ r.toInt ∧ r.toInt ≤ 6) (hL : CdE rf (ru_fl R)) (hn : (ru_fl R).length = rn) (h4 : rn ≤ 400) (hfo : 0 ≤ (r - 1).toInt ∧ (r - 1).toInt < 6) (hR : RwR g2 g4 g5 (r - 1).toInt.toNat R) (hk : ru_ok R) : ∀ (n : Nat) (d v0 v4 v5 top : Int32) (W f3 f6 f7 f8 V s : Nat → Int32) (hd g8 g9 : Nat → Int64), ShR v0 b1 b2 b3 v4 v5 (dX9_copyFrom y8 y9 y10 y11 y12 y13 y14 y15 B1f B2f B3f B4f B5f B6f B7f B8f).1 (dX9_copyFrom y8 y9 y10 y11 y12 y13 y14 y15 B1f B2f B3f B4f B5f B6f B7f B8f).2.1 f3 (dX9_copyFrom y8 y9 y10 y11 y12 y13 y14 y15 B1f B2f B3f B4f B5f B6f B7f B8f).2.2.2.1 (dX9_copyFrom y8 y9 y10 y11 y12 y13 y14 y15 B1f B2f B3f B4f B5f B6f B7f B8f).2.2.2.2.1 f6 f7 f8 s → Gs s → (s 10).toInt = d.toInt → 0 ≤ d.toInt → d.toInt ≤ 61 → 61 - d.toInt < (n : Int) → TbE W V (61 * r.toInt.toNat + d.toInt.toNat) →
    TbE (dX2_wgh6_l67v5 B1f B2f B3f B4f B5f B6f B7f B8f b1 b2 b3 rf rn r y8 y9 y10 y11 y12 y13 y14 y15 n d W hd v0 v4 v5 f3 f6 f7 f8).2.1 (dX12_fillsFits_l32 g2 g4 g5 0 r r n d g8 g9 V top s).2.2.2.1 (61 * r.toInt.toNat + 61) ∧ TlS s (dX12_fillsFits_l32 g2 g4 g5 0 r r n d g8 g9 V top s).2.2.2.2.2
  | 0, d, v0, v4, v5, top, W, f3, f6, f7, f8, V, s, hd, g8, g9, h, g, h10, h0, h1, hm, hT => by omega
  | n + 1, d, v0, v4, v5, top, W, f3, f6, f7, f8, V, s, hd, g8, g9, h, g, h10, h0, h1, hm, hT => by
    rw [dX2_wgh6_l67v5_s, dX12_fillsFits_l32_s]
    by_cases z : (61 : Int32) ≤ d
    · have ez : d.toInt = 61 := by rw [i32_leq, t_61] at z; omega
      have z2 : (60 : Int32) < d := by rw [i32_lt, t_60]; omega
      rw [if_pos z, if_pos z2]
      rw [show d.toInt.toNat = 61 by omega] at hT
      exact ⟨hT, TlS.rf⟩
    · have hd6 : d.toInt ≤ 60 := by rw [i32_leq, t_61] at z; omega
      have z2 : ¬ (60 : Int32) < d := by rw [i32_lt, t_60]; omega
      rw [if_neg z, if_neg z2, i61 hr ⟨h0, hd6⟩, spot_is hr ⟨h0, hd6⟩]
      obtain ⟨who, sh, so, c3, a6, a7, a8, hd1, tp, h8, h9, t, eC, eR, hS, gS, e10, hl⟩ := full_r (top := top) (g8 := g8) (g9 := g9) (hd0 := hd) hL hn h4 hfo hR hk h g (by omega)
      rw [eC, eR]
      have en := wk_nx h0 hd6
      have ih := wk_wgh6_l67v5 hr hL hn h4 hfo hR hk n (d + 1) sh (v4 + 1) so tp (upd W (61 * r.toInt.toNat + d.toInt.toNat) who) c3 a6 a7 a8 (upd V (61 * r.toInt.toNat + d.toInt.toNat) who) t hd1 h8 h9 hS gS (by rw [e10, en, h10]) (by omega) (by omega) (by omega) (by rw [wk_idx (d := d.toInt.toNat) (e := (d + 1).toInt.toNat) (by omega)]; exact hT.on)
      exact ⟨ih.1, hl.tr ih.2⟩
theorem wk_wgh6_l67v6 {B1f B2f B3f B4f B5f B6f B7f B8f y8 y9 y10 y11 y12 y13 y14 y15 g2 g4 g5 : Nat → Int32} {b1 b2 b3 r : Int32} (hr : 0 ≤ r.toInt ∧ r.toInt ≤ 6) (hf : (r - 1).toInt < 0) : ∀ (n : Nat) (d v0 v4 v5 top : Int32) (W f3 f6 f7 f8 V s : Nat → Int32) (g8 g9 : Nat → Int64), ShR v0 b1 b2 b3 v4 v5 (dX9_copyFrom y8 y9 y10 y11 y12 y13 y14 y15 B1f B2f B3f B4f B5f B6f B7f B8f).1 (dX9_copyFrom y8 y9 y10 y11 y12 y13 y14 y15 B1f B2f B3f B4f B5f B6f B7f B8f).2.1 f3 (dX9_copyFrom y8 y9 y10 y11 y12 y13 y14 y15 B1f B2f B3f B4f B5f B6f B7f B8f).2.2.2.1 (dX9_copyFrom y8 y9 y10 y11 y12 y13 y14 y15 B1f B2f B3f B4f B5f B6f B7f B8f).2.2.2.2.1 f6 f7 f8 s → Gs s → (s 10).toInt = d.toInt → 0 ≤ d.toInt → d.toInt ≤ 61 → 61 - d.toInt < (n : Int) → TbE W V (61 * r.toInt.toNat + d.toInt.toNat) →
    TbE (dX2_wgh6_l67v6 B1f B2f B3f B4f B5f B6f B7f B8f b1 b2 b3 r y8 y9 y10 y11 y12 y13 y14 y15 n d W v0 v4 v5 f3 f6 f7 f8).2.1 (dX12_fillsFits_l32 g2 g4 g5 0 r r n d g8 g9 V top s).2.2.2.1 (61 * r.toInt.toNat + 61) ∧ TlS s (dX12_fillsFits_l32 g2 g4 g5 0 r r n d g8 g9 V top s).2.2.2.2.2
  | 0, d, v0, v4, v5, top, W, f3, f6, f7, f8, V, s, g8, g9, h, g, h10, h0, h1, hm, hT => by omega
  | n + 1, d, v0, v4, v5, top, W, f3, f6, f7, f8, V, s, g8, g9, h, g, h10, h0, h1, hm, hT => by
    rw [dX2_wgh6_l67v6_s, dX12_fillsFits_l32_s]
    by_cases z : (61 : Int32) ≤ d
    · have ez : d.toInt = 61 := by rw [i32_leq, t_61] at z; omega
      have z2 : (60 : Int32) < d := by rw [i32_lt, t_60]; omega
      rw [if_pos z, if_pos z2]
      rw [show d.toInt.toNat = 61 by omega] at hT
      exact ⟨hT, TlS.rf⟩
    · have hd6 : d.toInt ≤ 60 := by rw [i32_leq, t_61] at z; omega
      have z2 : ¬ (60 : Int32) < d := by rw [i32_lt, t_60]; omega
      rw [if_neg z, if_neg z2, i61 hr ⟨h0, hd6⟩, spot_is hr ⟨h0, hd6⟩]
      obtain ⟨who, sh, so, c3, a6, a7, a8, tp, h8, h9, t, eC, eR, hS, gS, e10, hl⟩ := full_n (top := top) (g2 := g2) (g4 := g4) (g5 := g5) (g8 := g8) (g9 := g9) h g (by omega) hf
      rw [eC, eR]
      have en := wk_nx h0 hd6
      have ih := wk_wgh6_l67v6 (g2 := g2) (g4 := g4) (g5 := g5) hr hf n (d + 1) sh (v4 + 1) so tp (upd W (61 * r.toInt.toNat + d.toInt.toNat) who) c3 a6 a7 a8 (upd V (61 * r.toInt.toNat + d.toInt.toNat) who) t h8 h9 hS gS (by rw [e10, en, h10]) (by omega) (by omega) (by omega) (by rw [wk_idx (d := d.toInt.toNat) (e := (d + 1).toInt.toNat) (by omega)]; exact hT.on)
      exact ⟨ih.1, hl.tr ih.2⟩
set_option maxRecDepth 16384
/-! a book's begin: the class's copy and the reference's begins -/
theorem c68 {b : Int32} (h : 0 ≤ b.toInt ∧ b.toInt < 6) : ((68 : Int32) + b).toNatClampNeg = 68 + b.toInt.toNat := cl_eq (by rw [ix_k (show (68 : Int32).toInt = 68 by decide) rfl (by omega)]; omega)
theorem c74 {b : Int32} (h : 0 ≤ b.toInt ∧ b.toInt < 10) : ((74 : Int32) + b).toNatClampNeg = 74 + b.toInt.toNat := cl_eq (by rw [ix_k (show (74 : Int32).toInt = 74 by decide) rfl (by omega)]; omega)
theorem c84 {b : Int32} (h : 0 ≤ b.toInt ∧ b.toInt < 10) : ((84 : Int32) + b).toNatClampNeg = 84 + b.toInt.toNat := cl_eq (by rw [ix_k (show (84 : Int32).toInt = 84 by decide) rfl (by omega)]; omega)
theorem cl_l94 : (94 : Int32).toNatClampNeg = 94 := by decide
def Bg1 (u t : Nat → Int32) (m : Nat) : Prop := (∀ j : Nat, j < m → t (12 + 4 * j) = u (68 + j) ∧ t (13 + 4 * j) = 0 ∧ t (14 + 4 * j) = 0 ∧ t (15 + 4 * j) = -1) ∧ ∀ k : Nat, (k < 12 ∨ 12 + 4 * m ≤ k) → t k = u k
theorem bg1_on {u t : Nat → Int32} {m : Nat} (h : Bg1 u t m) (hm : m < 6) : Bg1 u (upd (upd (upd (upd t (12 + 4 * m) (t (68 + m))) (13 + 4 * m) 0) (14 + 4 * m) 0) (15 + 4 * m) (-1)) (m + 1) := by
  have e68 : t (68 + m) = u (68 + m) := h.2 _ (by omega)
  refine ⟨fun j hj => ?_, fun k hk => ?_⟩
  · by_cases z : j = m
    · rw [z]
      refine ⟨?_, ?_, ?_, ?_⟩
      · rw [upd_ne (by omega), upd_ne (by omega), upd_ne (by omega), upd_at]; exact e68
      · rw [upd_ne (by omega), upd_ne (by omega), upd_at]
      · rw [upd_ne (by omega), upd_at]
      · rw [upd_at]
    · obtain ⟨q1, q2, q3, q4⟩ := h.1 j (by omega)
      refine ⟨?_, ?_, ?_, ?_⟩
      · rw [upd_ne (by omega), upd_ne (by omega), upd_ne (by omega), upd_ne (by omega)]; exact q1
      · rw [upd_ne (by omega), upd_ne (by omega), upd_ne (by omega), upd_ne (by omega)]; exact q2
      · rw [upd_ne (by omega), upd_ne (by omega), upd_ne (by omega), upd_ne (by omega)]; exact q3
      · rw [upd_ne (by omega), upd_ne (by omega), upd_ne (by omega), upd_ne (by omega)]; exact q4
  · rw [upd_ne (by omega), upd_ne (by omega), upd_ne (by omega), upd_ne (by omega)]; exact h.2 k (by omega)
theorem bg1L {u : Nat → Int32} : ∀ (n : Nat) (b : Int32) (t : Nat → Int32), Bg1 u t b.toInt.toNat → 0 ≤ b.toInt → b.toInt ≤ 6 → 6 - b.toInt < (n : Int) → Bg1 u (dX12_begins_l24 n b t).2 6
  | 0, b, t, h, h0, h1, hn => by omega
  | n + 1, b, t, h, h0, h1, hn => by
    rw [dX12_begins_l24_s]
    by_cases z : (6 : Int32) ≤ b
    · rw [if_pos z]
      have e : b.toInt.toNat = 6 := by rw [i32_leq, t_6] at z; omega
      rw [e] at h
      exact h
    · rw [if_neg z]
      have hb : 0 ≤ b.toInt ∧ b.toInt < 6 := by rw [i32_leq, t_6] at z; omega
      have e1 : (b + 1).toInt = b.toInt + 1 := by rw [ix_k rfl t_1 (by omega)]
      rw [c12 hb, c13 hb, c14 hb, c15 hb, c68 hb]
      refine bg1L n (b + 1) _ ?_ (by omega) (by omega) (by omega)
      rw [show (b + 1).toInt.toNat = b.toInt.toNat + 1 by omega]
      exact bg1_on h (by omega)
def Bg2 (u t : Nat → Int32) (m : Nat) : Prop := (∀ j : Nat, j < m → t (36 + j) = u (74 + j) ∧ t (46 + j) = u (84 + j)) ∧ ∀ k : Nat, (k < 36 ∨ 56 ≤ k) → t k = u k
theorem bg2_on {u t : Nat → Int32} {m : Nat} (h : Bg2 u t m) (hm : m < 10) : Bg2 u (upd (upd t (36 + m) (t (74 + m))) (46 + m) (upd t (36 + m) (t (74 + m)) (84 + m))) (m + 1) := by
  have e74 : t (74 + m) = u (74 + m) := h.2 _ (by omega)
  have e84 : upd t (36 + m) (t (74 + m)) (84 + m) = u (84 + m) := by rw [upd_ne (by omega)]; exact h.2 _ (by omega)
  rw [e84, e74]
  refine ⟨fun j hj => ?_, fun k hk => ?_⟩
  · by_cases z : j = m
    · rw [z]
      refine ⟨?_, ?_⟩
      · rw [upd_ne (by omega), upd_at]
      · rw [upd_at]
    · obtain ⟨q1, q2⟩ := h.1 j (by omega)
      refine ⟨?_, ?_⟩
      · rw [upd_ne (by omega), upd_ne (by omega)]; exact q1
      · rw [upd_ne (by omega), upd_ne (by omega)]; exact q2
  · rw [upd_ne (by omega), upd_ne (by omega)]; exact h.2 k (by omega)
theorem bg2L {u : Nat → Int32} : ∀ (n : Nat) (b : Int32) (t : Nat → Int32), Bg2 u t b.toInt.toNat → 0 ≤ b.toInt → b.toInt ≤ 10 → 10 - b.toInt < (n : Int) → Bg2 u (dX12_begins_l87 n b t).2 10
  | 0, b, t, h, h0, h1, hn => by omega
  | n + 1, b, t, h, h0, h1, hn => by
    rw [dX12_begins_l87_s]
    by_cases z : (10 : Int32) ≤ b
    · rw [if_pos z]
      have e : b.toInt.toNat = 10 := by rw [i32_leq, t_10] at z; omega
      rw [e] at h
      exact h
    · rw [if_neg z]
      have hb : 0 ≤ b.toInt ∧ b.toInt < 10 := by rw [i32_leq, t_10] at z; omega
      have e1 : (b + 1).toInt = b.toInt + 1 := by rw [ix_k rfl t_1 (by omega)]
      rw [c36 hb, c46 hb, c74 hb, c84 hb]
      refine bg2L n (b + 1) _ ?_ (by omega) (by omega) (by omega)
      rw [show (b + 1).toInt.toNat = b.toInt.toNat + 1 by omega]
      exact bg2_on h (by omega)
/-- how the reference's cells stand at the begin -/
def BgE (s t : Nat → Int32) : Prop := (t 10 = 0 ∧ t 11 = s 94) ∧ (∀ j : Nat, j < 6 → t (12 + 4 * j) = s (68 + j) ∧ t (13 + 4 * j) = 0 ∧ t (14 + 4 * j) = 0 ∧ t (15 + 4 * j) = -1) ∧ (∀ j : Nat, j < 10 → t (36 + j) = s (74 + j) ∧ t (46 + j) = s (84 + j)) ∧ ∀ k : Nat, (k < 10 ∨ 56 ≤ k) → t k = s k
theorem begins_is {s : Nat → Int32} : BgE s (dX12_begins s) := by
  unfold dX12_begins
  rw [cl_l10, cl_l11, cl_l94, upd_ne (f := s) (show (94 : Nat) ≠ 10 by omega)]
  have h1 := bg1L (u := upd (upd s 10 0) 11 (s 94)) ((6 - (0 : Int32).toInt).toNat + 1) 0 (upd (upd s 10 0) 11 (s 94)) ⟨fun j hj => absurd hj (Nat.not_lt_zero _), fun _ _ => rfl⟩ (by decide) (by decide) (by decide)
  generalize (dX12_begins_l24 ((6 - (0 : Int32).toInt).toNat + 1) 0 (upd (upd s 10 0) 11 (s 94))).2 = t at h1 ⊢
  have h2 := bg2L (u := t) ((10 - (0 : Int32).toInt).toNat + 1) 0 t ⟨fun j hj => absurd hj (Nat.not_lt_zero _), fun _ _ => rfl⟩ (by decide) (by decide) (by decide)
  generalize (dX12_begins_l87 ((10 - (0 : Int32).toInt).toNat + 1) 0 t).2 = w at h2 ⊢
  have ot : ∀ k : Nat, k ≠ 10 → k ≠ 11 → upd (upd s 10 0) 11 (s 94) k = s k := fun k a b => by rw [upd_ne b, upd_ne a]
  refine ⟨⟨?_, ?_⟩, fun j hj => ?_, fun j hj => ?_, fun k hk => ?_⟩
  · rw [h2.2 10 (by omega), h1.2 10 (by omega), upd_ne (by omega), upd_at]
  · rw [h2.2 11 (by omega), h1.2 11 (by omega), upd_at]
  · obtain ⟨q1, q2, q3, q4⟩ := h1.1 j hj
    rw [h2.2 (12 + 4 * j) (by omega), h2.2 (13 + 4 * j) (by omega), h2.2 (14 + 4 * j) (by omega), h2.2 (15 + 4 * j) (by omega), q1, q2, q3, q4, ot _ (by omega) (by omega)]
    exact ⟨rfl, rfl, rfl, rfl⟩
  · obtain ⟨q1, q2⟩ := h2.1 j hj
    rw [q1, q2, h1.2 (74 + j) (by omega), h1.2 (84 + j) (by omega), ot _ (by omega) (by omega), ot _ (by omega) (by omega)]
    exact ⟨rfl, rfl⟩
  · rw [h2.2 k (by omega), h1.2 k (by omega), ot k (by omega) (by omega)]
/-- the class's shop as told, the reference's cells -/
def BgC (v0 v1 v2 v3 v4 v5 : Int32) (f1 f2 f3 f4 f5 f6 f7 f8 s : Nat → Int32) : Prop := (v0 = s 94 ∧ v1 = s 1 ∧ v2 = s 2 ∧ v3 = s 3 ∧ v4 = 0 ∧ v5 = 0) ∧ (∀ k : Nat, k < 10 → f1 k = s (74 + k) ∧ f2 k = s (84 + k)) ∧ ∀ b : Nat, b < 6 → f3 b = s (68 + b) ∧ f4 b = s (56 + b) ∧ f5 b = s (62 + b) ∧ f6 b = 0 ∧ f7 b = 0 ∧ f8 b = -1
/-- what the told cells may be -/
def GsB (s : Nat → Int32) : Prop := (s 0 = 1 ∧ (1 ≤ (s 2).toInt ∧ (s 2).toInt ≤ 10) ∧ (0 ≤ (s 3).toInt ∧ (s 3).toInt ≤ 6) ∧ (0 ≤ (s 1).toInt ∧ (s 1).toInt ≤ 9) ∧ (0 ≤ (s 94).toInt ∧ (s 94).toInt ≤ 99)) ∧ ∀ b : Nat, b < 6 → (0 ≤ (s (68 + b)).toInt ∧ (s (68 + b)).toInt ≤ 20) ∧ (0 ≤ (s (56 + b)).toInt ∧ (s (56 + b)).toInt ≤ 9)
/-- the told cells stay -/
def Tl6 (s t : Nat → Int32) : Prop := ∀ k : Nat, (k < 10 ∨ 56 ≤ k) → t k = s k
theorem TlS.six {s t : Nat → Int32} (h : TlS s t) : Tl6 s t := fun k hk => h k (by omega)
theorem Tl6.tr {s t u : Nat → Int32} (h : Tl6 s t) (h2 : Tl6 t u) : Tl6 s u := fun k hk => (h2 k hk).trans (h k hk)
theorem BgE.six {s t : Nat → Int32} (h : BgE s t) : Tl6 s t := h.2.2.2
theorem GsB.tl {s t : Nat → Int32} (g : GsB s) (h : Tl6 s t) : GsB t := by
  refine ⟨?_, fun b hb => ?_⟩
  · rw [h 0 (by omega), h 1 (by omega), h 2 (by omega), h 3 (by omega), h 94 (by omega)]; exact g.1
  · rw [h (68 + b) (by omega), h (56 + b) (by omega)]; exact g.2 b hb
theorem BgC.tl {v0 v1 v2 v3 v4 v5 : Int32} {f1 f2 f3 f4 f5 f6 f7 f8 s t : Nat → Int32} (c : BgC v0 v1 v2 v3 v4 v5 f1 f2 f3 f4 f5 f6 f7 f8 s) (h : Tl6 s t) : BgC v0 v1 v2 v3 v4 v5 f1 f2 f3 f4 f5 f6 f7 f8 t := by
  refine ⟨?_, fun k hk => ?_, fun b hb => ?_⟩
  · rw [h 1 (by omega), h 2 (by omega), h 3 (by omega), h 94 (by omega)]; exact c.1
  · rw [h (74 + k) (by omega), h (84 + k) (by omega)]; exact c.2.1 k hk
  · rw [h (68 + b) (by omega), h (56 + b) (by omega), h (62 + b) (by omega)]; exact c.2.2 b hb
theorem GsB.begin {s t : Nat → Int32} (g : GsB s) (h : BgE s t) : Gs t ∧ (t 10).toInt = 0 := by
  have e10 : (t 10).toInt = 0 := by rw [h.1.1, t_0]
  refine ⟨⟨?_, fun b hb => ?_⟩, e10⟩
  · rw [h.2.2.2 0 (by omega), h.2.2.2 2 (by omega), h.2.2.2 3 (by omega), h.2.2.2 1 (by omega), h.1.2, e10]
    exact ⟨g.1.1, g.1.2.1, g.1.2.2.1, g.1.2.2.2.1, g.1.2.2.2.2, by omega⟩
  · obtain ⟨q1, -, -, q4⟩ := h.2.1 b hb
    rw [q1, q4, h.2.2.2 (56 + b) (by omega), e10, t_m1]
    exact ⟨(g.2 b hb).1, by omega, (g.2 b hb).2⟩
theorem cpy10 {f g : Nat → Int32} {k : Nat} (h : k < 10) : va_cpy f g ((0 : Int32)).toNatClampNeg ((0 : Int32)).toNatClampNeg ((10 : Int32)).toNatClampNeg k = f k := by
  rw [cl_l0, cl_l10]
  unfold va_cpy
  rw [if_pos (show 0 ≤ k ∧ k < 0 + 10 by omega), show 0 + (k - 0) = k by omega]
theorem cpy6 {f g : Nat → Int32} {k : Nat} (h : k < 6) : va_cpy f g ((0 : Int32)).toNatClampNeg ((0 : Int32)).toNatClampNeg ((6 : Int32)).toNatClampNeg k = f k := by
  rw [cl_l0, cl_l6]
  unfold va_cpy
  rw [if_pos (show 0 ≤ k ∧ k < 0 + 6 by omega), show 0 + (k - 0) = k by omega]
theorem sumB_0 {s : Nat → Int32} (h : ∀ j : Nat, j < 6 → s (13 + 4 * j) = 0) : ∀ m : Nat, m ≤ 6 → sumB s m = 0
  | 0, _ => rfl
  | m + 1, hm => by
    show sumB s m + s (13 + 4 * m) = 0
    rw [sumB_0 h m (by omega), h m (by omega)]
    rfl
section BEG
variable {v0 v1 v2 v3 v4 v5 : Int32} {f1 f2 f3 f4 f5 f6 f7 f8 y1 y2 y3 y4 y5 y6 y7 y8 s t : Nat → Int32}
theorem BgC.begin (c : BgC v0 v1 v2 v3 v4 v5 f1 f2 f3 f4 f5 f6 f7 f8 s) (g : GsB s) (h : BgE s t) : ShR v0 v1 v2 v3 v4 v5 (dX9_copyFrom y1 y2 y3 y4 y5 y6 y7 y8 f1 f2 f3 f4 f5 f6 f7 f8).1 (dX9_copyFrom y1 y2 y3 y4 y5 y6 y7 y8 f1 f2 f3 f4 f5 f6 f7 f8).2.1 (dX9_copyFrom y1 y2 y3 y4 y5 y6 y7 y8 f1 f2 f3 f4 f5 f6 f7 f8).2.2.1 (dX9_copyFrom y1 y2 y3 y4 y5 y6 y7 y8 f1 f2 f3 f4 f5 f6 f7 f8).2.2.2.1 (dX9_copyFrom y1 y2 y3 y4 y5 y6 y7 y8 f1 f2 f3 f4 f5 f6 f7 f8).2.2.2.2.1 (dX9_copyFrom y1 y2 y3 y4 y5 y6 y7 y8 f1 f2 f3 f4 f5 f6 f7 f8).2.2.2.2.2.1 (dX9_copyFrom y1 y2 y3 y4 y5 y6 y7 y8 f1 f2 f3 f4 f5 f6 f7 f8).2.2.2.2.2.2.1 (dX9_copyFrom y1 y2 y3 y4 y5 y6 y7 y8 f1 f2 f3 f4 f5 f6 f7 f8).2.2.2.2.2.2.2 t := by
  have g3 := g.1.2.2.1
  refine ⟨⟨?_, ?_, ?_, ?_, ?_, ?_⟩, fun k hk => ?_, fun b hb => ?_⟩
  · rw [h.1.2]; exact c.1.1
  · rw [h.2.2.2 1 (by omega)]; exact c.1.2.1
  · rw [h.2.2.2 2 (by omega)]; exact c.1.2.2.1
  · rw [h.2.2.2 3 (by omega)]; exact c.1.2.2.2.1
  · rw [h.1.1]; exact c.1.2.2.2.2.1
  · rw [h.2.2.2 3 (by omega), c.1.2.2.2.2.2]
    exact (sumB_0 (fun j hj => (h.2.1 j hj).2.1) _ (by omega)).symm
  · obtain ⟨q1, q2⟩ := h.2.2.1 k hk
    rw [q1, q2]
    exact ⟨(cpy10 hk).trans (c.2.1 k hk).1, (cpy10 hk).trans (c.2.1 k hk).2⟩
  · obtain ⟨q1, q2, q3, q4⟩ := h.2.1 b hb
    obtain ⟨p3, p4, p5, p6, p7, p8⟩ := c.2.2 b hb
    rw [q1, q2, q3, q4, h.2.2.2 (56 + b) (by omega), h.2.2.2 (62 + b) (by omega)]
    exact ⟨(cpy6 hb).trans p3, (cpy6 hb).trans p4, (cpy6 hb).trans p5, (cpy6 hb).trans p6, (cpy6 hb).trans p7, (cpy6 hb).trans p8⟩
end BEG
theorem cl_l125 : (125 : Int32).toNatClampNeg = 125 := by decide
theorem t_3 : (3 : Int32).toInt = 3 := by decide
theorem t_95 : (95 : Int32).toInt = 95 := by decide
theorem t_427 : (427 : Int32).toInt = 427 := by decide
theorem who_is {W : Nat → Int32} {r d : Int32} (hr : 0 ≤ r.toInt ∧ r.toInt ≤ 6) (hd : 0 ≤ d.toInt ∧ d.toInt ≤ 60) : dX2_whoOn W r d = W (61 * r.toInt.toNat + d.toInt.toNat) := by
  have e1 : (r * (61 : Int32)).toInt = r.toInt * 61 := by rw [mul_toInt (by rw [t_61]; omega) (by rw [t_61]; omega), t_61]
  have e2 : (r * (61 : Int32) + d).toInt = r.toInt * 61 + d.toInt := ix_k e1 rfl (by omega)
  unfold dX2_whoOn
  rw [if_neg (show ¬ r * (61 : Int32) + d < 0 by rw [i32_lt, t_0, e2]; omega), if_neg (show ¬ (427 : Int32) ≤ r * (61 : Int32) + d by rw [i32_leq, t_427, e2]; omega), i61 hr hd]
def NtE (n1 n2 n3 : Nat → Int32) (n0 : Int32) (s : Nat → Int32) : Prop := n0 = s 125 ∧ (0 ≤ (s 125).toInt ∧ (s 125).toInt ≤ 10) ∧ ∀ k : Nat, (k : Int) < (s 125).toInt → n1 k = s (95 + 3 * k) ∧ n2 k = s (96 + 3 * k) ∧ n3 k = s (97 + 3 * k) ∧ 0 ≤ (s (95 + 3 * k)).toInt ∧ (s (95 + 3 * k)).toInt ≤ 60
theorem agL {n1 n2 n3 s W V : Nat → Int32} {n0 r : Int32} (hN : NtE n1 n2 n3 n0 s) (hr : 0 ≤ r.toInt ∧ r.toInt ≤ 6) (hT : TbE W V (61 * r.toInt.toNat + 61)) : ∀ (n m : Nat) (i j : Int32), 0 ≤ i.toInt → i.toInt ≤ (s 125).toInt → j.toInt = 3 * i.toInt → (s 125).toInt - i.toInt < (n : Int) → (s 125).toInt - i.toInt < (m : Int) → (dX2_agrees_l2 n1 n2 n3 n0 W r n i).1 = (dX12_areNotesSo_l2 s V r m j).1 ∧ (dX2_agrees_l2 n1 n2 n3 n0 W r n i).2.1 = (dX12_areNotesSo_l2 s V r m j).2.1
  | 0, m, i, j, h0, h1, hj, hn, hm => by omega
  | n + 1, 0, i, j, h0, h1, hj, hn, hm => by omega
  | n + 1, m + 1, i, j, h0, h1, hj, hn, hm => by
    have hc := hN.2.1
    have e3 : ((3 : Int32) * s 125).toInt = 3 * (s 125).toInt := by rw [mul_toInt (by rw [t_3]; omega) (by rw [t_3]; omega), t_3]
    rw [dX2_agrees_l2_s, dX12_areNotesSo_l2_s, cl_l125, hN.1]
    by_cases z : s 125 ≤ i
    · have z2 : (3 : Int32) * s 125 ≤ j := by rw [i32_leq] at z; rw [i32_leq, e3]; omega
      rw [if_pos z, if_pos z2]
      exact ⟨rfl, rfl⟩
    · have hi : i.toInt < (s 125).toInt := by rw [i32_leq] at z; omega
      have z2 : ¬ (3 : Int32) * s 125 ≤ j := by rw [i32_leq, e3]; omega
      have z10 : ¬ (10 : Int32) ≤ i := by rw [i32_leq, t_10]; omega
      have e95 : ((95 : Int32) + j).toInt = 95 + 3 * i.toInt := by rw [ix_k t_95 hj (by omega)]
      have i1 : ((95 : Int32) + j).toNatClampNeg = 95 + 3 * i.toInt.toNat := cl_eq (by rw [e95]; omega)
      have i2 : ((95 : Int32) + j + (1 : Int32)).toNatClampNeg = 96 + 3 * i.toInt.toNat := cl_eq (by rw [ix_k e95 t_1 (by omega)]; omega)
      have i3 : ((95 : Int32) + j + (2 : Int32)).toNatClampNeg = 97 + 3 * i.toInt.toNat := cl_eq (by rw [ix_k e95 t_2 (by omega)]; omega)
      obtain ⟨q1, q2, q3, q4, q5⟩ := hN.2.2 i.toInt.toNat (by omega)
      rw [if_neg z, if_neg z10, if_neg z2, i1, i2, i3, cl_b (b := i), q1, q2, q3, who_is hr ⟨q4, q5⟩, spot_is hr ⟨q4, q5⟩, hT _ (by omega)]
      have en : (i + 1).toInt = i.toInt + 1 := by rw [ix_k rfl t_1 (by omega)]
      have ej : (j + 3).toInt = j.toInt + 3 := by rw [ix_k rfl t_3 (by omega)]
      have ih := agL hN hr hT n m (i + 1) (j + 3) (by omega) (by omega) (by omega) (by omega) (by omega)
      rw [hN.1] at ih
      by_cases y : ((V (61 * r.toInt.toNat + (s (95 + 3 * i.toInt.toNat)).toInt.toNat) >>> (s (96 + 3 * i.toInt.toNat) &&& 31)) &&& (1 : Int32)) = s (97 + 3 * i.toInt.toNat)
      · rw [if_pos y, if_pos y]
        exact ih
      · rw [if_neg y, if_neg y]
        exact ⟨rfl, rfl⟩
theorem agree_is {n1 n2 n3 s W V : Nat → Int32} {n0 r : Int32} (hN : NtE n1 n2 n3 n0 s) (hr : 0 ≤ r.toInt ∧ r.toInt ≤ 6) (hT : TbE W V (61 * r.toInt.toNat + 61)) : dX2_agrees n1 n2 n3 n0 W r = dX12_areNotesSo s V r := by
  have hc := hN.2.1
  have h := agL hN hr hT ((10 - (0 : Int32).toInt).toNat + 1) (((33 - (0 : Int32).toInt) / 3).toNat + 1) 0 0 (by decide) (by rw [t_0]; omega) (by decide) (by rw [t_0]; omega) (by rw [t_0]; omega)
  unfold dX2_agrees dX12_areNotesSo
  rw [h.1, h.2]
theorem t_7 : (7 : Int32).toInt = 7 := by decide
def FtE (F G : Nat → Int32) (q : Int32) : Prop := (0 ≤ q.toInt ∧ q.toInt ≤ 6) ∧ (∀ k : Nat, (k : Int) ≤ q.toInt → F k = G k) ∧ ∀ k : Nat, q.toInt < (k : Int) → k < 7 → F k = 0
theorem alTail {W F G : Nat → Int32} {q a d : Int32} (hF : FtE F G q) : ∀ (n : Nat) (i acc : Int32), q.toInt < i.toInt → i.toInt ≤ 7 → 7 - i.toInt < (n : Int) → (dX2_mostAlike_l16 W F a d n i acc).2 = acc
  | 0, i, acc, h0, h1, hn => by omega
  | n + 1, i, acc, h0, h1, hn => by
    have hq := hF.1
    rw [dX2_mostAlike_l16_s]
    by_cases z : (7 : Int32) ≤ i
    · rw [if_pos z]
    · have hi : i.toInt < 7 := by rw [i32_leq, t_7] at z; omega
      have en : (i + 1).toInt = i.toInt + 1 := by rw [ix_k rfl t_1 (by omega)]
      have ih := alTail (W := W) (a := a) (d := d) hF n (i + 1) acc (by omega) (by omega) (by omega)
      rw [if_neg z]
      by_cases y : F a.toNatClampNeg = 0
      · rw [if_pos y]; exact ih
      · rw [if_neg y, if_pos (show F i.toNatClampNeg = 0 from hF.2.2 i.toInt.toNat (by omega) (by omega))]; exact ih
theorem alZero {W F : Nat → Int32} {a d : Int32} (hA : F a.toNatClampNeg = 0) : ∀ (n : Nat) (i acc : Int32), 0 ≤ i.toInt → i.toInt ≤ 7 → 7 - i.toInt < (n : Int) → (dX2_mostAlike_l16 W F a d n i acc).2 = acc
  | 0, i, acc, h0, h1, hn => by omega
  | n + 1, i, acc, h0, h1, hn => by
    rw [dX2_mostAlike_l16_s]
    by_cases z : (7 : Int32) ≤ i
    · rw [if_pos z]
    · have hi : i.toInt < 7 := by rw [i32_leq, t_7] at z; omega
      have en : (i + 1).toInt = i.toInt + 1 := by rw [ix_k rfl t_1 (by omega)]
      rw [if_neg z, if_pos hA]
      exact alZero hA n (i + 1) acc (by omega) (by omega) (by omega)
theorem alIn {W V F G : Nat → Int32} {q a d : Int32} (hF : FtE F G q) (hT : TbE W V (61 * q.toInt.toNat + 61)) (ha : 0 ≤ a.toInt ∧ a.toInt ≤ q.toInt) (hd : 0 ≤ d.toInt ∧ d.toInt ≤ 60) (hA : ¬ G a.toNatClampNeg = 0) : ∀ (n m : Nat) (i acc : Int32), 0 ≤ i.toInt → i.toInt ≤ q.toInt + 1 → 7 - i.toInt < (n : Int) → 7 - i.toInt < (m : Int) → (dX2_mostAlike_l16 W F a d n i acc).2 = (dX12_alikeAt_l18 G V q a d m i acc).2
  | 0, m, i, acc, h0, h1, hn, hm => by have := hF.1; omega
  | n + 1, 0, i, acc, h0, h1, hn, hm => by have := hF.1; omega
  | n + 1, m + 1, i, acc, h0, h1, hn, hm => by
    have hq := hF.1
    rw [dX12_alikeAt_l18_s]
    by_cases z : q < i
    · rw [if_pos z]
      rw [i32_lt] at z
      exact alTail hF (n + 1) i acc z (by omega) hn
    · have hi : i.toInt ≤ q.toInt := by rw [i32_lt] at z; omega
      have en : (i + 1).toInt = i.toInt + 1 := by rw [ix_k rfl t_1 (by omega)]
      have z7 : ¬ (7 : Int32) ≤ i := by rw [i32_leq, t_7]; omega
      have fa : F a.toNatClampNeg = G a.toNatClampNeg := hF.2.1 a.toInt.toNat (by omega)
      have fi : F i.toNatClampNeg = G i.toNatClampNeg := hF.2.1 i.toInt.toNat (by omega)
      have ih := fun acc => alIn hF hT ha hd hA n m (i + 1) acc (by omega) (by omega) (by omega) (by omega)
      rw [if_neg z, dX2_mostAlike_l16_s, if_neg z7, fa, fi, if_neg hA, if_neg hA]
      by_cases y : G i.toNatClampNeg = 0
      · rw [if_pos y, if_pos y, Int32.add_zero]; exact ih acc
      · rw [if_neg y, if_neg y, who_is (r := a) (by omega) hd, who_is (r := i) (by omega) hd, spot_is (r := a) (by omega) hd, spot_is (r := i) (by omega) hd, hT _ (by omega), hT _ (by omega)]
        by_cases x : V (61 * a.toInt.toNat + d.toInt.toNat) = V (61 * i.toInt.toNat + d.toInt.toNat)
        · rw [if_pos x, if_pos x]; exact ih (acc + 1)
        · rw [if_neg x, if_neg x, Int32.add_zero]; exact ih acc
set_option maxRecDepth 16384
/-! the most that are alike on a day -/
section MOST
variable {W V F G : Nat → Int32} {q d : Int32}
theorem cn_eq (hF : FtE F G q) (hT : TbE W V (61 * q.toInt.toNat + 61)) (hd : 0 ≤ d.toInt ∧ d.toInt ≤ 60) {a : Int32} (ha : 0 ≤ a.toInt ∧ a.toInt ≤ q.toInt) : (dX2_mostAlike_l16 W F a d ((7 - (0 : Int32).toInt).toNat + 1) 0 0).2 = (dX12_alikeAt_l18 G V q a d ((7 - (0 : Int32).toInt).toNat + 1) 0 0).2 := by
  have hq := hF.1
  by_cases y : G a.toNatClampNeg = 0
  · have fa : F a.toNatClampNeg = 0 := (hF.2.1 a.toInt.toNat (by omega)).trans y
    rw [alZero fa _ 0 0 (by decide) (by decide) (by decide), dX12_alikeAt_l18_s, if_neg (show ¬ q < 0 by rw [i32_lt, t_0]; omega), if_pos y]
  · exact alIn hF hT ha hd y _ _ 0 0 (by decide) (by rw [t_0]; omega) (by decide) (by decide)
theorem moTail (hF : FtE F G q) : ∀ (n : Nat) (a acc : Int32), q.toInt < a.toInt → a.toInt ≤ 7 → 7 - a.toInt < (n : Int) → 0 ≤ acc.toInt → (dX2_mostAlike_l4 W F d n a acc).2 = acc
  | 0, a, acc, h0, h1, hn, hp => by omega
  | n + 1, a, acc, h0, h1, hn, hp => by
    have hq := hF.1
    rw [dX2_mostAlike_l4_s]
    by_cases z : (7 : Int32) ≤ a
    · rw [if_pos z]
    · have hi : a.toInt < 7 := by rw [i32_leq, t_7] at z; omega
      have en : (a + 1).toInt = a.toInt + 1 := by rw [ix_k rfl t_1 (by omega)]
      have fa : F a.toNatClampNeg = 0 := hF.2.2 a.toInt.toNat (by omega) (by omega)
      rw [if_neg z, alZero fa _ 0 0 (by decide) (by decide) (by decide), if_neg (show ¬ acc < 0 by rw [i32_lt, t_0]; omega)]
      exact moTail hF n (a + 1) acc (by omega) (by omega) (by omega) hp
theorem moL (hF : FtE F G q) (hT : TbE W V (61 * q.toInt.toNat + 61)) (hd : 0 ≤ d.toInt ∧ d.toInt ≤ 60) : ∀ (n m : Nat) (a acc : Int32), 0 ≤ a.toInt → a.toInt ≤ q.toInt + 1 → 7 - a.toInt < (n : Int) → 7 - a.toInt < (m : Int) → 0 ≤ acc.toInt → (dX2_mostAlike_l4 W F d n a acc).2 = (dX12_alikeAt_l4 G V q d m a acc).2
  | 0, m, a, acc, h0, h1, hn, hm, hp => by have := hF.1; omega
  | n + 1, 0, a, acc, h0, h1, hn, hm, hp => by have := hF.1; omega
  | n + 1, m + 1, a, acc, h0, h1, hn, hm, hp => by
    have hq := hF.1
    rw [dX12_alikeAt_l4_s]
    by_cases z : q < a
    · rw [if_pos z]
      rw [i32_lt] at z
      exact moTail hF (n + 1) a acc z (by omega) hn hp
    · have hi : a.toInt ≤ q.toInt := by rw [i32_lt] at z; omega
      have en : (a + 1).toInt = a.toInt + 1 := by rw [ix_k rfl t_1 (by omega)]
      have z7 : ¬ (7 : Int32) ≤ a := by rw [i32_leq, t_7]; omega
      rw [if_neg z, dX2_mostAlike_l4_s, if_neg z7, cn_eq hF hT hd ⟨h0, hi⟩]
      generalize (dX12_alikeAt_l18 G V q a d ((7 - (0 : Int32).toInt).toNat + 1) 0 0).2 = x
      by_cases y : x ≤ acc
      · rw [if_pos y, if_neg (Int32.not_lt.mpr y)]
        exact moL hF hT hd n m (a + 1) acc (by omega) (by omega) (by omega) (by omega) hp
      · have y2 : acc < x := Int32.not_le.mp y
        have y3 : acc.toInt < x.toInt := by rw [i32_lt] at y2; exact y2
        rw [if_neg y, if_pos y2]
        exact moL hF hT hd n m (a + 1) x (by omega) (by omega) (by omega) (by omega) (by omega)
theorem most_is (hF : FtE F G q) (hT : TbE W V (61 * q.toInt.toNat + 61)) (hd : 0 ≤ d.toInt ∧ d.toInt ≤ 60) : dX2_mostAlike W F d = dX12_alikeAt G V q d := by
  have hq := hF.1
  unfold dX2_mostAlike dX12_alikeAt
  exact moL hF hT hd _ _ 0 0 (by decide) (by rw [t_0]; omega) (by decide) (by decide) (by decide)
end MOST
set_option maxRecDepth 16384
/-! the day to look at -/
theorem t_8 : (8 : Int32).toInt = 8 := by decide
theorem cn_rg {W F : Nat → Int32} {a d : Int32} : ∀ (n : Nat) (i acc : Int32), 0 ≤ i.toInt → i.toInt ≤ 7 → 0 ≤ acc.toInt → acc.toInt ≤ i.toInt → 0 ≤ (dX2_mostAlike_l16 W F a d n i acc).2.toInt ∧ (dX2_mostAlike_l16 W F a d n i acc).2.toInt ≤ 7
  | 0, i, acc, h0, h1, h2, h3 => by
    show 0 ≤ (0 : Int32).toInt ∧ (0 : Int32).toInt ≤ 7
    rw [t_0]; omega
  | n + 1, i, acc, h0, h1, h2, h3 => by
    rw [dX2_mostAlike_l16_s]
    by_cases z : (7 : Int32) ≤ i
    · rw [if_pos z]
      show 0 ≤ acc.toInt ∧ acc.toInt ≤ 7
      omega
    · have hi : i.toInt < 7 := by rw [i32_leq, t_7] at z; omega
      have en : (i + 1).toInt = i.toInt + 1 := by rw [ix_k rfl t_1 (by omega)]
      have ea : (acc + 1).toInt = acc.toInt + 1 := by rw [ix_k rfl t_1 (by omega)]
      have ih := cn_rg (W := W) (F := F) (a := a) (d := d) n (i + 1) acc (by omega) (by omega) h2 (by omega)
      have ih1 := cn_rg (W := W) (F := F) (a := a) (d := d) n (i + 1) (acc + 1) (by omega) (by omega) (by omega) (by omega)
      rw [if_neg z]
      by_cases y : F a.toNatClampNeg = 0
      · rw [if_pos y]; exact ih
      · rw [if_neg y]
        by_cases x : F i.toNatClampNeg = 0
        · rw [if_pos x]; exact ih
        · rw [if_neg x]
          by_cases w : dX2_whoOn W a d = dX2_whoOn W i d
          · rw [if_pos w]; exact ih1
          · rw [if_neg w]; exact ih
theorem mo_rg {W F : Nat → Int32} {d : Int32} : ∀ (n : Nat) (a acc : Int32), 0 ≤ acc.toInt → acc.toInt ≤ 7 → 0 ≤ (dX2_mostAlike_l4 W F d n a acc).2.toInt ∧ (dX2_mostAlike_l4 W F d n a acc).2.toInt ≤ 7
  | 0, a, acc, h0, h1 => by
    show 0 ≤ (0 : Int32).toInt ∧ (0 : Int32).toInt ≤ 7
    rw [t_0]; omega
  | n + 1, a, acc, h0, h1 => by
    rw [dX2_mostAlike_l4_s]
    by_cases z : (7 : Int32) ≤ a
    · rw [if_pos z]; exact ⟨h0, h1⟩
    · rw [if_neg z]
      have hc := cn_rg (W := W) (F := F) (a := a) (d := d) ((7 - (0 : Int32).toInt).toNat + 1) 0 0 (by decide) (by decide) (by decide) (by decide)
      generalize (dX2_mostAlike_l16 W F a d ((7 - (0 : Int32).toInt).toNat + 1) 0 0).2 = x at hc ⊢
      by_cases y : acc < x
      · rw [if_pos y]; exact mo_rg n (a + 1) x hc.1 hc.2
      · rw [if_neg y]; exact mo_rg n (a + 1) acc h0 h1
theorem most_rg {W F : Nat → Int32} {d : Int32} : 0 ≤ (dX2_mostAlike W F d).toInt ∧ (dX2_mostAlike W F d).toInt ≤ 7 := by
  unfold dX2_mostAlike
  exact mo_rg _ 0 0 (by decide) (by decide)
section LOOK
variable {g2 g4 g5 s kp ft wh W V F G : Nat → Int32} {g8 g9 : Nat → Int64} {q tp fo gd : Int32}
theorem lkL (hF : FtE F G q) (hT : TbE W V (61 * q.toInt.toNat + 61)) (eG : (dX12_fillsFits g2 g4 g5 s kp ft wh g8 g9 q tp fo gd).2.2.2.2.2.1 = G) (eV : (dX12_fillsFits g2 g4 g5 s kp ft wh g8 g9 q tp fo gd).2.2.2.2.2.2 = V) : ∀ (n m : Nat) (d at_ : Int32), 0 ≤ d.toInt → d.toInt ≤ 61 → 0 ≤ at_.toInt → at_.toInt ≤ 60 → 61 - d.toInt < (n : Int) → 61 - d.toInt < (m : Int) → ∃ z, (0 ≤ z.toInt ∧ z.toInt ≤ 60) ∧ (dX12_look_l27 g2 g4 g5 s kp ft wh g8 g9 q tp fo gd m d at_).2 = z ∧ (dX2_dayToLook_l18 W F n d (dX12_alikeAt G V q at_) at_).2 = (dX12_alikeAt G V q z, z)
  | 0, m, d, a, h0, h1, h2, h3, hn, hm => by omega
  | n + 1, 0, d, a, h0, h1, h2, h3, hn, hm => by omega
  | n + 1, m + 1, d, a, h0, h1, h2, h3, hn, hm => by
    rw [dX2_dayToLook_l18_s, dX12_look_l27_s, eG, eV]
    by_cases z : (61 : Int32) ≤ d
    · have z2 : (60 : Int32) < d := by rw [i32_leq, t_61] at z; rw [i32_lt, t_60]; omega
      rw [if_pos z, if_pos z2]
      exact ⟨a, ⟨h2, h3⟩, rfl, rfl⟩
    · have hd : d.toInt ≤ 60 := by rw [i32_leq, t_61] at z; omega
      have z2 : ¬ (60 : Int32) < d := by rw [i32_lt, t_60]; omega
      have en := wk_nx h0 hd
      rw [if_neg z, if_neg z2, most_is hF hT ⟨h0, hd⟩]
      by_cases y : dX12_alikeAt G V q a ≤ dX12_alikeAt G V q d
      · rw [if_pos y, if_pos y]
        exact lkL hF hT eG eV n m (d + 1) a (by omega) (by omega) h2 h3 (by omega) (by omega)
      · rw [if_neg y, if_neg y]
        exact lkL hF hT eG eV n m (d + 1) d (by omega) (by omega) h0 hd (by omega) (by omega)
theorem look_loop (hF : FtE F G q) (hT : TbE W V (61 * q.toInt.toNat + 61)) (eG : (dX12_fillsFits g2 g4 g5 s kp ft wh g8 g9 q tp fo gd).2.2.2.2.2.1 = G) (eV : (dX12_fillsFits g2 g4 g5 s kp ft wh g8 g9 q tp fo gd).2.2.2.2.2.2 = V) : ∃ z, (0 ≤ z.toInt ∧ z.toInt ≤ 60) ∧ (dX12_look_l27 g2 g4 g5 s kp ft wh g8 g9 q tp fo gd ((61 - (1 : Int32).toInt).toNat + 1) 1 0).2 = z ∧ (dX2_dayToLook_l18 W F ((61 - (0 : Int32).toInt).toNat + 1) 0 8 0).2 = (dX12_alikeAt G V q z, z) := by
  obtain ⟨z, hz, e1, e2⟩ := lkL hF hT eG eV ((61 - (0 : Int32).toInt).toNat) ((61 - (1 : Int32).toInt).toNat + 1) 1 0 (by decide) (by decide) (by decide) (by decide) (by decide) (by decide)
  refine ⟨z, hz, e1, ?_⟩
  have h8 : ¬ (8 : Int32) ≤ dX2_mostAlike W F 0 := by
    have := most_rg (W := W) (F := F) (d := 0)
    rw [i32_leq, t_8]; omega
  rw [dX2_dayToLook_l18_s, if_neg (show ¬ (61 : Int32) ≤ 0 by decide), if_neg h8, most_is hF hT ⟨by decide, by decide⟩, show (0 : Int32) + 1 = 1 by decide]
  exact e2
end LOOK
def cntG (G : Nat → Int32) : Nat → Int32
  | 0 => 0
  | m + 1 => cntG G m + (if G m = 0 then 0 else 1)
theorem cntG_eq {F G : Nat → Int32} : ∀ m : Nat, (∀ k, k < m → F k = G k) → cntG F m = cntG G m
  | 0, _ => rfl
  | m + 1, h => by
    show cntG F m + (if F m = 0 then 0 else 1) = cntG G m + (if G m = 0 then 0 else 1)
    rw [cntG_eq m (fun k hk => h k (by omega)), h m (by omega)]
def WgI (j : Nat) (W F V G s0 s : Nat → Int32) (ft : Int32) : Prop := TbE W V (61 * j) ∧ (∀ k, k < j → F k = G k) ∧ ft = cntG G j ∧ Tl6 s0 s
theorem WgI.step {j : Nat} {W F V G s0 s W₁ V₁ s₁ : Nat → Int32} {ft a a₁ x d : Int32} {r : Int32} (h : WgI j W F V G s0 s ft) (hr : r.toNatClampNeg = j) (hT : TbE W₁ V₁ (61 * j + 61)) (hl : Tl6 s s₁) (ha : a = a₁) (hd : d = if a₁ = 0 then 0 else 1) : WgI (j + 1) W₁ (upd (upd F r.toNatClampNeg x) r.toNatClampNeg a) V₁ (upd G r.toNatClampNeg a₁) s0 s₁ (ft + d) := by
  obtain ⟨h1, h2, h3, h4⟩ := h
  rw [hr]
  refine ⟨fun k hk => hT k (by omega), fun k hk => ?_, ?_, h4.tr hl⟩
  · by_cases z : k = j
    · rw [z, upd_at, upd_at, ha]
    · rw [upd_ne z, upd_ne z, upd_ne z]; exact h2 k (by omega)
  · show ft + d = cntG (upd G j a₁) j + (if upd G j a₁ j = 0 then 0 else 1)
    rw [upd_at, cntG_eq (F := upd G j a₁) (G := G) j (fun k hk => upd_ne (by omega)), h3, hd]
def WgE (c j : Nat) (W F V G s0 s : Nat → Int32) (ft : Int32) : Prop := TbE W V (61 * c + 61) ∧ (∀ k, k < c + 1 → F k = G k) ∧ (∀ k, c < k → k < j → F k = 0) ∧ ft = cntG G (c + 1) ∧ Tl6 s0 s
theorem WgI.e {c : Nat} {W F V G s0 s : Nat → Int32} {ft : Int32} (h : WgI (c + 1) W F V G s0 s ft) : WgE c (c + 1) W F V G s0 s ft := ⟨fun k hk => h.1 k (by omega), h.2.1, fun k h1 h2 => by omega, h.2.2.1, h.2.2.2⟩
theorem WgE.step {c j : Nat} {W F V G s0 s : Nat → Int32} {ft x r : Int32} (h : WgE c j W F V G s0 s ft) (hr : r.toNatClampNeg = j) (hj : c < j) (hx : x = 0) : WgE c (j + 1) W (upd F r.toNatClampNeg x) V G s0 s ft := by
  obtain ⟨h1, h2, h3, h4, h5⟩ := h
  rw [hr]
  refine ⟨h1, fun k hk => by rw [upd_ne (by omega)]; exact h2 k hk, fun k a b => ?_, h4, h5⟩
  by_cases z : k = j
  · rw [z, upd_at, hx]
  · rw [upd_ne z]; exact h3 k a (by omega)
def WgQ (c : Nat) (W F : Nat → Int32) (ft : Int32) (V G s0 s : Nat → Int32) : Prop := TbE W V (61 * c + 61) ∧ (∀ k, k < c + 1 → F k = G k) ∧ (∀ k, c < k → k < 7 → F k = 0) ∧ ft = cntG G (c + 1) ∧ Tl6 s0 s
theorem nar0 : vp_nar .boolean (0 : Int32) = 0 := by decide
theorem NtE.tl {n1 n2 n3 s t : Nat → Int32} {n0 : Int32} (h : NtE n1 n2 n3 n0 s) (hl : Tl6 s t) : NtE n1 n2 n3 n0 t := by
  have e : t 125 = s 125 := hl 125 (by omega)
  unfold NtE
  rw [e]
  refine ⟨h.1, h.2.1, fun k hk => ?_⟩
  have hk2 : (k : Int) < 10 := by have := h.2.1; omega
  rw [hl (95 + 3 * k) (by omega), hl (96 + 3 * k) (by omega), hl (97 + 3 * k) (by omega)]
  exact h.2.2 k hk
theorem wgP_0_7 {V G s0 s : Nat → Int32} : ∀ (yy_900 yy_901 : Nat → Int32) (yy_902 yy_903 yy_904 yy_905 yy_906 yy_907 : Int32) (yy_908 yy_909 yy_910 yy_911 yy_912 yy_913 yy_914 yy_915 : Nat → Int32) (yy_916 : Int32), WgE 0 7 yy_900 yy_901 V G s0 s yy_916 → WgQ 0 (dX2_wgh0_u8_7 yy_900 yy_901 yy_902 yy_903 yy_904 yy_905 yy_906 yy_907 yy_908 yy_909 yy_910 yy_911 yy_912 yy_913 yy_914 yy_915 yy_916).1 (dX2_wgh0_u8_7 yy_900 yy_901 yy_902 yy_903 yy_904 yy_905 yy_906 yy_907 yy_908 yy_909 yy_910 yy_911 yy_912 yy_913 yy_914 yy_915 yy_916).2.1 (dX2_wgh0_u8_7 yy_900 yy_901 yy_902 yy_903 yy_904 yy_905 yy_906 yy_907 yy_908 yy_909 yy_910 yy_911 yy_912 yy_913 yy_914 yy_915 yy_916).2.2.2.2.2.2.2.2.2.2.2.2.2.2.2.2 V G s0 s := by
  intro yy_900 yy_901 yy_902 yy_903 yy_904 yy_905 yy_906 yy_907 yy_908 yy_909 yy_910 yy_911 yy_912 yy_913 yy_914 yy_915 yy_916 h
  rw [dX2_wgh0_u8_7_s]
  exact ⟨h.1, h.2.1, h.2.2.1, h.2.2.2.1, h.2.2.2.2⟩
theorem wgP_0_6 {V G s0 s : Nat → Int32} : ∀ (yy_900 yy_901 : Nat → Int32) (yy_902 yy_903 yy_904 yy_905 yy_906 yy_907 : Int32) (yy_908 yy_909 yy_910 yy_911 yy_912 yy_913 yy_914 yy_915 : Nat → Int32) (yy_916 : Int32), WgE 0 6 yy_900 yy_901 V G s0 s yy_916 → WgQ 0 (dX2_wgh0_u8_6 yy_900 yy_901 yy_902 yy_903 yy_904 yy_905 yy_906 yy_907 yy_908 yy_909 yy_910 yy_911 yy_912 yy_913 yy_914 yy_915 yy_916).1 (dX2_wgh0_u8_6 yy_900 yy_901 yy_902 yy_903 yy_904 yy_905 yy_906 yy_907 yy_908 yy_909 yy_910 yy_911 yy_912 yy_913 yy_914 yy_915 yy_916).2.1 (dX2_wgh0_u8_6 yy_900 yy_901 yy_902 yy_903 yy_904 yy_905 yy_906 yy_907 yy_908 yy_909 yy_910 yy_911 yy_912 yy_913 yy_914 yy_915 yy_916).2.2.2.2.2.2.2.2.2.2.2.2.2.2.2.2 V G s0 s := by
  intro yy_900 yy_901 yy_902 yy_903 yy_904 yy_905 yy_906 yy_907 yy_908 yy_909 yy_910 yy_911 yy_912 yy_913 yy_914 yy_915 yy_916 h
  rw [dX2_wgh0_u8_6_s]
  exact wgP_0_7 _ _ _ _ _ _ _ _ _ _ _ _ _ _ _ _ _ (h.step (by decide) (by decide) nar0)
theorem wgP_0_5 {V G s0 s : Nat → Int32} : ∀ (yy_900 yy_901 : Nat → Int32) (yy_902 yy_903 yy_904 yy_905 yy_906 yy_907 : Int32) (yy_908 yy_909 yy_910 yy_911 yy_912 yy_913 yy_914 yy_915 : Nat → Int32) (yy_916 : Int32), WgE 0 5 yy_900 yy_901 V G s0 s yy_916 → WgQ 0 (dX2_wgh0_u8_5 yy_900 yy_901 yy_902 yy_903 yy_904 yy_905 yy_906 yy_907 yy_908 yy_909 yy_910 yy_911 yy_912 yy_913 yy_914 yy_915 yy_916).1 (dX2_wgh0_u8_5 yy_900 yy_901 yy_902 yy_903 yy_904 yy_905 yy_906 yy_907 yy_908 yy_909 yy_910 yy_911 yy_912 yy_913 yy_914 yy_915 yy_916).2.1 (dX2_wgh0_u8_5 yy_900 yy_901 yy_902 yy_903 yy_904 yy_905 yy_906 yy_907 yy_908 yy_909 yy_910 yy_911 yy_912 yy_913 yy_914 yy_915 yy_916).2.2.2.2.2.2.2.2.2.2.2.2.2.2.2.2 V G s0 s := by
  intro yy_900 yy_901 yy_902 yy_903 yy_904 yy_905 yy_906 yy_907 yy_908 yy_909 yy_910 yy_911 yy_912 yy_913 yy_914 yy_915 yy_916 h
  rw [dX2_wgh0_u8_5_s]
  exact wgP_0_6 _ _ _ _ _ _ _ _ _ _ _ _ _ _ _ _ _ (h.step (by decide) (by decide) nar0)
theorem wgP_0_4 {V G s0 s : Nat → Int32} : ∀ (yy_900 yy_901 : Nat → Int32) (yy_902 yy_903 yy_904 yy_905 yy_906 yy_907 : Int32) (yy_908 yy_909 yy_910 yy_911 yy_912 yy_913 yy_914 yy_915 : Nat → Int32) (yy_916 : Int32), WgE 0 4 yy_900 yy_901 V G s0 s yy_916 → WgQ 0 (dX2_wgh0_u8_4 yy_900 yy_901 yy_902 yy_903 yy_904 yy_905 yy_906 yy_907 yy_908 yy_909 yy_910 yy_911 yy_912 yy_913 yy_914 yy_915 yy_916).1 (dX2_wgh0_u8_4 yy_900 yy_901 yy_902 yy_903 yy_904 yy_905 yy_906 yy_907 yy_908 yy_909 yy_910 yy_911 yy_912 yy_913 yy_914 yy_915 yy_916).2.1 (dX2_wgh0_u8_4 yy_900 yy_901 yy_902 yy_903 yy_904 yy_905 yy_906 yy_907 yy_908 yy_909 yy_910 yy_911 yy_912 yy_913 yy_914 yy_915 yy_916).2.2.2.2.2.2.2.2.2.2.2.2.2.2.2.2 V G s0 s := by
  intro yy_900 yy_901 yy_902 yy_903 yy_904 yy_905 yy_906 yy_907 yy_908 yy_909 yy_910 yy_911 yy_912 yy_913 yy_914 yy_915 yy_916 h
  rw [dX2_wgh0_u8_4_s]
  exact wgP_0_5 _ _ _ _ _ _ _ _ _ _ _ _ _ _ _ _ _ (h.step (by decide) (by decide) nar0)
theorem wgP_0_3 {V G s0 s : Nat → Int32} : ∀ (yy_900 yy_901 : Nat → Int32) (yy_902 yy_903 yy_904 yy_905 yy_906 yy_907 : Int32) (yy_908 yy_909 yy_910 yy_911 yy_912 yy_913 yy_914 yy_915 : Nat → Int32) (yy_916 : Int32), WgE 0 3 yy_900 yy_901 V G s0 s yy_916 → WgQ 0 (dX2_wgh0_u8_3 yy_900 yy_901 yy_902 yy_903 yy_904 yy_905 yy_906 yy_907 yy_908 yy_909 yy_910 yy_911 yy_912 yy_913 yy_914 yy_915 yy_916).1 (dX2_wgh0_u8_3 yy_900 yy_901 yy_902 yy_903 yy_904 yy_905 yy_906 yy_907 yy_908 yy_909 yy_910 yy_911 yy_912 yy_913 yy_914 yy_915 yy_916).2.1 (dX2_wgh0_u8_3 yy_900 yy_901 yy_902 yy_903 yy_904 yy_905 yy_906 yy_907 yy_908 yy_909 yy_910 yy_911 yy_912 yy_913 yy_914 yy_915 yy_916).2.2.2.2.2.2.2.2.2.2.2.2.2.2.2.2 V G s0 s := by
  intro yy_900 yy_901 yy_902 yy_903 yy_904 yy_905 yy_906 yy_907 yy_908 yy_909 yy_910 yy_911 yy_912 yy_913 yy_914 yy_915 yy_916 h
  rw [dX2_wgh0_u8_3_s]
  exact wgP_0_4 _ _ _ _ _ _ _ _ _ _ _ _ _ _ _ _ _ (h.step (by decide) (by decide) nar0)
theorem wgP_0_2 {V G s0 s : Nat → Int32} : ∀ (yy_900 yy_901 : Nat → Int32) (yy_902 yy_903 yy_904 yy_905 yy_906 yy_907 : Int32) (yy_908 yy_909 yy_910 yy_911 yy_912 yy_913 yy_914 yy_915 : Nat → Int32) (yy_916 : Int32), WgE 0 2 yy_900 yy_901 V G s0 s yy_916 → WgQ 0 (dX2_wgh0_u8_2 yy_900 yy_901 yy_902 yy_903 yy_904 yy_905 yy_906 yy_907 yy_908 yy_909 yy_910 yy_911 yy_912 yy_913 yy_914 yy_915 yy_916).1 (dX2_wgh0_u8_2 yy_900 yy_901 yy_902 yy_903 yy_904 yy_905 yy_906 yy_907 yy_908 yy_909 yy_910 yy_911 yy_912 yy_913 yy_914 yy_915 yy_916).2.1 (dX2_wgh0_u8_2 yy_900 yy_901 yy_902 yy_903 yy_904 yy_905 yy_906 yy_907 yy_908 yy_909 yy_910 yy_911 yy_912 yy_913 yy_914 yy_915 yy_916).2.2.2.2.2.2.2.2.2.2.2.2.2.2.2.2 V G s0 s := by
  intro yy_900 yy_901 yy_902 yy_903 yy_904 yy_905 yy_906 yy_907 yy_908 yy_909 yy_910 yy_911 yy_912 yy_913 yy_914 yy_915 yy_916 h
  rw [dX2_wgh0_u8_2_s]
  exact wgP_0_3 _ _ _ _ _ _ _ _ _ _ _ _ _ _ _ _ _ (h.step (by decide) (by decide) nar0)
theorem wgP_0_1 {V G s0 s : Nat → Int32} : ∀ (yy_900 yy_901 : Nat → Int32) (yy_902 yy_903 yy_904 yy_905 yy_906 yy_907 : Int32) (yy_908 yy_909 yy_910 yy_911 yy_912 yy_913 yy_914 yy_915 : Nat → Int32) (yy_916 : Int32), WgE 0 1 yy_900 yy_901 V G s0 s yy_916 → WgQ 0 (dX2_wgh0_u8_1 yy_900 yy_901 yy_902 yy_903 yy_904 yy_905 yy_906 yy_907 yy_908 yy_909 yy_910 yy_911 yy_912 yy_913 yy_914 yy_915 yy_916).1 (dX2_wgh0_u8_1 yy_900 yy_901 yy_902 yy_903 yy_904 yy_905 yy_906 yy_907 yy_908 yy_909 yy_910 yy_911 yy_912 yy_913 yy_914 yy_915 yy_916).2.1 (dX2_wgh0_u8_1 yy_900 yy_901 yy_902 yy_903 yy_904 yy_905 yy_906 yy_907 yy_908 yy_909 yy_910 yy_911 yy_912 yy_913 yy_914 yy_915 yy_916).2.2.2.2.2.2.2.2.2.2.2.2.2.2.2.2 V G s0 s := by
  intro yy_900 yy_901 yy_902 yy_903 yy_904 yy_905 yy_906 yy_907 yy_908 yy_909 yy_910 yy_911 yy_912 yy_913 yy_914 yy_915 yy_916 h
  rw [dX2_wgh0_u8_1_s]
  exact wgP_0_2 _ _ _ _ _ _ _ _ _ _ _ _ _ _ _ _ _ (h.step (by decide) (by decide) nar0)
theorem wgP_0_0 {Bf_1 Bf_2 Bf_3 Bf_4 Bf_5 Bf_6 Bf_7 Bf_8 Nf_1 Nf_2 Nf_3  g2 g4 g5 s0 : Nat → Int32} {Bv_0 Bv_1 Bv_2 Bv_3 Bv_4 Bv_5 Nv_0 : Int32} (hC : BgC Bv_0 Bv_1 Bv_2 Bv_3 Bv_4 Bv_5 Bf_1 Bf_2 Bf_3 Bf_4 Bf_5 Bf_6 Bf_7 Bf_8 s0) (hG : GsB s0) (hN : NtE Nf_1 Nf_2 Nf_3 Nv_0 s0) : ∀ (yy_900 yy_901 : Nat → Int32) (yy_902 yy_903 yy_904 yy_905 yy_906 yy_907 : Int32) (yy_908 yy_909 yy_910 yy_911 yy_912 yy_913 yy_914 yy_915 : Nat → Int32) (yy_916 : Int32) (V G s : Nat → Int32) (g8 g9 : Nat → Int64) (tp fo : Int32) (n : Nat), 8 ≤ n → WgI 0 yy_900 yy_901 V G s0 s yy_916 → WgQ 0 (dX2_wgh0_u8_0 Bf_1 Bf_2 Bf_3 Bf_4 Bf_5 Bf_6 Bf_7 Bf_8 Bv_0 Bv_1 Bv_2 Bv_3 Bv_4 Bv_5 Nf_1 Nf_2 Nf_3 Nv_0 yy_900 yy_901 yy_902 yy_903 yy_904 yy_905 yy_906 yy_907 yy_908 yy_909 yy_910 yy_911 yy_912 yy_913 yy_914 yy_915 yy_916).1 (dX2_wgh0_u8_0 Bf_1 Bf_2 Bf_3 Bf_4 Bf_5 Bf_6 Bf_7 Bf_8 Bv_0 Bv_1 Bv_2 Bv_3 Bv_4 Bv_5 Nf_1 Nf_2 Nf_3 Nv_0 yy_900 yy_901 yy_902 yy_903 yy_904 yy_905 yy_906 yy_907 yy_908 yy_909 yy_910 yy_911 yy_912 yy_913 yy_914 yy_915 yy_916).2.1 (dX2_wgh0_u8_0 Bf_1 Bf_2 Bf_3 Bf_4 Bf_5 Bf_6 Bf_7 Bf_8 Bv_0 Bv_1 Bv_2 Bv_3 Bv_4 Bv_5 Nf_1 Nf_2 Nf_3 Nv_0 yy_900 yy_901 yy_902 yy_903 yy_904 yy_905 yy_906 yy_907 yy_908 yy_909 yy_910 yy_911 yy_912 yy_913 yy_914 yy_915 yy_916).2.2.2.2.2.2.2.2.2.2.2.2.2.2.2.2 (dX12_fillsFits_l11 g2 g4 g5 (0 : Int32) 0 n (0 : Int32) g8 g9 G V tp fo s).2.2.2.2.1 (dX12_fillsFits_l11 g2 g4 g5 (0 : Int32) 0 n (0 : Int32) g8 g9 G V tp fo s).2.2.2.1 s0 (dX12_fillsFits_l11 g2 g4 g5 (0 : Int32) 0 n (0 : Int32) g8 g9 G V tp fo s).2.2.2.2.2.2.2 := by
  intro yy_900 yy_901 yy_902 yy_903 yy_904 yy_905 yy_906 yy_907 yy_908 yy_909 yy_910 yy_911 yy_912 yy_913 yy_914 yy_915 yy_916 V G s g8 g9 tp fo n hn h
  obtain ⟨n, rfl⟩ : ∃ m, n = m + 1 := ⟨n - 1, by omega⟩
  rw [dX2_wgh0_u8_0_s, dX12_fillsFits_l11_s, if_neg (show ¬ (0 : Int32) < (0 : Int32) by decide)]
  have hB := begins_is (s := s)
  have hg := hG.tl h.2.2.2
  have hb := hg.begin hB
  have hc := BgC.begin (y1 := yy_908) (y2 := yy_909) (y3 := yy_910) (y4 := yy_911) (y5 := yy_912) (y6 := yy_913) (y7 := yy_914) (y8 := yy_915) (hC.tl h.2.2.2) hg hB
  have hw := wk_wgh0_l67 (r := 0) (g2 := g2) (g4 := g4) (g5 := g5) (by decide) (by decide) ((61 - (0 : Int32).toInt).toNat + 1) 0 Bv_0 Bv_4 Bv_5 tp yy_900 _ _ _ _ V (dX12_begins s) g8 g9 hc hb.1 (by rw [hb.2]; decide) (by decide) (by decide) (by decide) (by rw [show 61 * (0 : Int32).toInt.toNat + (0 : Int32).toInt.toNat = 61 * 0 by decide]; exact h.1)
  rw [show 61 * (0 : Int32).toInt.toNat + 61 = 61 * 0 + 61 by decide] at hw
  generalize (dX2_wgh0_l67 Bf_1 Bf_2 Bf_3 Bf_4 Bf_5 Bf_6 Bf_7 Bf_8 Bv_1 Bv_2 Bv_3 (0 : Int32) yy_908 yy_909 yy_910 yy_911 yy_912 yy_913 yy_914 yy_915 ((61 - (0 : Int32).toInt).toNat + 1) (0 : Int32) yy_900 Bv_0 Bv_4 Bv_5 ((dX9_copyFrom yy_908 yy_909 yy_910 yy_911 yy_912 yy_913 yy_914 yy_915 Bf_1 Bf_2 Bf_3 Bf_4 Bf_5 Bf_6 Bf_7 Bf_8).2.2.1) ((dX9_copyFrom yy_908 yy_909 yy_910 yy_911 yy_912 yy_913 yy_914 yy_915 Bf_1 Bf_2 Bf_3 Bf_4 Bf_5 Bf_6 Bf_7 Bf_8).2.2.2.2.2.1) ((dX9_copyFrom yy_908 yy_909 yy_910 yy_911 yy_912 yy_913 yy_914 yy_915 Bf_1 Bf_2 Bf_3 Bf_4 Bf_5 Bf_6 Bf_7 Bf_8).2.2.2.2.2.2.1) ((dX9_copyFrom yy_908 yy_909 yy_910 yy_911 yy_912 yy_913 yy_914 yy_915 Bf_1 Bf_2 Bf_3 Bf_4 Bf_5 Bf_6 Bf_7 Bf_8).2.2.2.2.2.2.2)) = X at hw ⊢
  generalize dX12_fillsFits_l32 g2 g4 g5 0 (0 : Int32) (0 : Int32) ((61 - (0 : Int32).toInt).toNat + 1) (0 : Int32) g8 g9 V tp (dX12_begins s) = Z at hw ⊢
  have hl : Tl6 s Z.2.2.2.2.2 := hB.six.tr hw.2.six
  have ha : dX2_agrees Nf_1 Nf_2 Nf_3 Nv_0 X.2.1 (0 : Int32) = dX12_areNotesSo Z.2.2.2.2.2 Z.2.2.2.1 (0 : Int32) := agree_is (hN.tl (h.2.2.2.tr hl)) (by decide) (by rw [show 61 * (0 : Int32).toInt.toNat + 61 = 61 * 0 + 61 by decide]; exact hw.1)
  rw [ha]
  generalize vp_nar .boolean (dX12_areNotesSo Z.2.2.2.2.2 Z.2.2.2.1 (0 : Int32)) = a
  rw [upd_at]
  by_cases hz : a = 0
  · rw [if_pos hz]
    obtain ⟨n, rfl⟩ : ∃ m, n = m + 1 := ⟨n - 1, by omega⟩
    rw [dX12_fillsFits_l11_s, if_pos (show (0 : Int32) < (0 : Int32) + 1 by decide)]
    refine wgP_0_1 _ _ _ _ _ _ _ _ _ _ _ _ _ _ _ _ _ ?_
    have hE := (h.step (r := 0) (a := a) (a₁ := a) (x := vp_nar .boolean (0 : Int32)) (d := 0) (by decide) hw.1 hl rfl (by rw [if_pos hz])).e
    obtain ⟨e1, e2, e3, e4, e5⟩ := hE
    refine ⟨?_, e2, e3, e4, ?_⟩
    · intro k hk
      exact e1 k hk
    · intro k hk
      exact e5 k hk
  · rw [if_neg hz]
    obtain ⟨n, rfl⟩ : ∃ m, n = m + 1 := ⟨n - 1, by omega⟩
    rw [dX12_fillsFits_l11_s, if_pos (show (0 : Int32) < (0 : Int32) + 1 by decide)]
    refine wgP_0_1 _ _ _ _ _ _ _ _ _ _ _ _ _ _ _ _ _ ?_
    have hE := (h.step (r := 0) (a := a) (a₁ := a) (x := vp_nar .boolean (0 : Int32)) (d := 1) (by decide) hw.1 hl rfl (by rw [if_neg hz])).e
    obtain ⟨e1, e2, e3, e4, e5⟩ := hE
    refine ⟨?_, e2, e3, e4, ?_⟩
    · intro k hk
      exact e1 k hk
    · intro k hk
      exact e5 k hk
theorem wgP_1_7 {V G s0 s : Nat → Int32} : ∀ (yy_900 yy_901 : Nat → Int32) (yy_902 yy_903 yy_904 yy_905 yy_906 yy_907 : Int32) (yy_908 yy_909 yy_910 yy_911 yy_912 yy_913 yy_914 yy_915 : Nat → Int32) (yy_916 : Int32) (yy_917 : Nat → Int64), WgE 1 7 yy_900 yy_901 V G s0 s yy_916 → WgQ 1 (dX2_wgh1_u8_7 yy_900 yy_901 yy_902 yy_903 yy_904 yy_905 yy_906 yy_907 yy_908 yy_909 yy_910 yy_911 yy_912 yy_913 yy_914 yy_915 yy_916 yy_917).1 (dX2_wgh1_u8_7 yy_900 yy_901 yy_902 yy_903 yy_904 yy_905 yy_906 yy_907 yy_908 yy_909 yy_910 yy_911 yy_912 yy_913 yy_914 yy_915 yy_916 yy_917).2.1 (dX2_wgh1_u8_7 yy_900 yy_901 yy_902 yy_903 yy_904 yy_905 yy_906 yy_907 yy_908 yy_909 yy_910 yy_911 yy_912 yy_913 yy_914 yy_915 yy_916 yy_917).2.2.2.2.2.2.2.2.2.2.2.2.2.2.2.2.1 V G s0 s := by
  intro yy_900 yy_901 yy_902 yy_903 yy_904 yy_905 yy_906 yy_907 yy_908 yy_909 yy_910 yy_911 yy_912 yy_913 yy_914 yy_915 yy_916 yy_917 h
  rw [dX2_wgh1_u8_7_s]
  exact ⟨h.1, h.2.1, h.2.2.1, h.2.2.2.1, h.2.2.2.2⟩
theorem wgP_1_6 {V G s0 s : Nat → Int32} : ∀ (yy_900 yy_901 : Nat → Int32) (yy_902 yy_903 yy_904 yy_905 yy_906 yy_907 : Int32) (yy_908 yy_909 yy_910 yy_911 yy_912 yy_913 yy_914 yy_915 : Nat → Int32) (yy_916 : Int32) (yy_917 : Nat → Int64), WgE 1 6 yy_900 yy_901 V G s0 s yy_916 → WgQ 1 (dX2_wgh1_u8_6 yy_900 yy_901 yy_902 yy_903 yy_904 yy_905 yy_906 yy_907 yy_908 yy_909 yy_910 yy_911 yy_912 yy_913 yy_914 yy_915 yy_916 yy_917).1 (dX2_wgh1_u8_6 yy_900 yy_901 yy_902 yy_903 yy_904 yy_905 yy_906 yy_907 yy_908 yy_909 yy_910 yy_911 yy_912 yy_913 yy_914 yy_915 yy_916 yy_917).2.1 (dX2_wgh1_u8_6 yy_900 yy_901 yy_902 yy_903 yy_904 yy_905 yy_906 yy_907 yy_908 yy_909 yy_910 yy_911 yy_912 yy_913 yy_914 yy_915 yy_916 yy_917).2.2.2.2.2.2.2.2.2.2.2.2.2.2.2.2.1 V G s0 s := by
  intro yy_900 yy_901 yy_902 yy_903 yy_904 yy_905 yy_906 yy_907 yy_908 yy_909 yy_910 yy_911 yy_912 yy_913 yy_914 yy_915 yy_916 yy_917 h
  rw [dX2_wgh1_u8_6_s]
  exact wgP_1_7 _ _ _ _ _ _ _ _ _ _ _ _ _ _ _ _ _ _ (h.step (by decide) (by decide) nar0)
theorem wgP_1_5 {V G s0 s : Nat → Int32} : ∀ (yy_900 yy_901 : Nat → Int32) (yy_902 yy_903 yy_904 yy_905 yy_906 yy_907 : Int32) (yy_908 yy_909 yy_910 yy_911 yy_912 yy_913 yy_914 yy_915 : Nat → Int32) (yy_916 : Int32) (yy_917 : Nat → Int64), WgE 1 5 yy_900 yy_901 V G s0 s yy_916 → WgQ 1 (dX2_wgh1_u8_5 yy_900 yy_901 yy_902 yy_903 yy_904 yy_905 yy_906 yy_907 yy_908 yy_909 yy_910 yy_911 yy_912 yy_913 yy_914 yy_915 yy_916 yy_917).1 (dX2_wgh1_u8_5 yy_900 yy_901 yy_902 yy_903 yy_904 yy_905 yy_906 yy_907 yy_908 yy_909 yy_910 yy_911 yy_912 yy_913 yy_914 yy_915 yy_916 yy_917).2.1 (dX2_wgh1_u8_5 yy_900 yy_901 yy_902 yy_903 yy_904 yy_905 yy_906 yy_907 yy_908 yy_909 yy_910 yy_911 yy_912 yy_913 yy_914 yy_915 yy_916 yy_917).2.2.2.2.2.2.2.2.2.2.2.2.2.2.2.2.1 V G s0 s := by
  intro yy_900 yy_901 yy_902 yy_903 yy_904 yy_905 yy_906 yy_907 yy_908 yy_909 yy_910 yy_911 yy_912 yy_913 yy_914 yy_915 yy_916 yy_917 h
  rw [dX2_wgh1_u8_5_s]
  exact wgP_1_6 _ _ _ _ _ _ _ _ _ _ _ _ _ _ _ _ _ _ (h.step (by decide) (by decide) nar0)
theorem wgP_1_4 {V G s0 s : Nat → Int32} : ∀ (yy_900 yy_901 : Nat → Int32) (yy_902 yy_903 yy_904 yy_905 yy_906 yy_907 : Int32) (yy_908 yy_909 yy_910 yy_911 yy_912 yy_913 yy_914 yy_915 : Nat → Int32) (yy_916 : Int32) (yy_917 : Nat → Int64), WgE 1 4 yy_900 yy_901 V G s0 s yy_916 → WgQ 1 (dX2_wgh1_u8_4 yy_900 yy_901 yy_902 yy_903 yy_904 yy_905 yy_906 yy_907 yy_908 yy_909 yy_910 yy_911 yy_912 yy_913 yy_914 yy_915 yy_916 yy_917).1 (dX2_wgh1_u8_4 yy_900 yy_901 yy_902 yy_903 yy_904 yy_905 yy_906 yy_907 yy_908 yy_909 yy_910 yy_911 yy_912 yy_913 yy_914 yy_915 yy_916 yy_917).2.1 (dX2_wgh1_u8_4 yy_900 yy_901 yy_902 yy_903 yy_904 yy_905 yy_906 yy_907 yy_908 yy_909 yy_910 yy_911 yy_912 yy_913 yy_914 yy_915 yy_916 yy_917).2.2.2.2.2.2.2.2.2.2.2.2.2.2.2.2.1 V G s0 s := by
  intro yy_900 yy_901 yy_902 yy_903 yy_904 yy_905 yy_906 yy_907 yy_908 yy_909 yy_910 yy_911 yy_912 yy_913 yy_914 yy_915 yy_916 yy_917 h
  rw [dX2_wgh1_u8_4_s]
  exact wgP_1_5 _ _ _ _ _ _ _ _ _ _ _ _ _ _ _ _ _ _ (h.step (by decide) (by decide) nar0)
theorem wgP_1_3 {V G s0 s : Nat → Int32} : ∀ (yy_900 yy_901 : Nat → Int32) (yy_902 yy_903 yy_904 yy_905 yy_906 yy_907 : Int32) (yy_908 yy_909 yy_910 yy_911 yy_912 yy_913 yy_914 yy_915 : Nat → Int32) (yy_916 : Int32) (yy_917 : Nat → Int64), WgE 1 3 yy_900 yy_901 V G s0 s yy_916 → WgQ 1 (dX2_wgh1_u8_3 yy_900 yy_901 yy_902 yy_903 yy_904 yy_905 yy_906 yy_907 yy_908 yy_909 yy_910 yy_911 yy_912 yy_913 yy_914 yy_915 yy_916 yy_917).1 (dX2_wgh1_u8_3 yy_900 yy_901 yy_902 yy_903 yy_904 yy_905 yy_906 yy_907 yy_908 yy_909 yy_910 yy_911 yy_912 yy_913 yy_914 yy_915 yy_916 yy_917).2.1 (dX2_wgh1_u8_3 yy_900 yy_901 yy_902 yy_903 yy_904 yy_905 yy_906 yy_907 yy_908 yy_909 yy_910 yy_911 yy_912 yy_913 yy_914 yy_915 yy_916 yy_917).2.2.2.2.2.2.2.2.2.2.2.2.2.2.2.2.1 V G s0 s := by
  intro yy_900 yy_901 yy_902 yy_903 yy_904 yy_905 yy_906 yy_907 yy_908 yy_909 yy_910 yy_911 yy_912 yy_913 yy_914 yy_915 yy_916 yy_917 h
  rw [dX2_wgh1_u8_3_s]
  exact wgP_1_4 _ _ _ _ _ _ _ _ _ _ _ _ _ _ _ _ _ _ (h.step (by decide) (by decide) nar0)
theorem wgP_1_2 {V G s0 s : Nat → Int32} : ∀ (yy_900 yy_901 : Nat → Int32) (yy_902 yy_903 yy_904 yy_905 yy_906 yy_907 : Int32) (yy_908 yy_909 yy_910 yy_911 yy_912 yy_913 yy_914 yy_915 : Nat → Int32) (yy_916 : Int32) (yy_917 : Nat → Int64), WgE 1 2 yy_900 yy_901 V G s0 s yy_916 → WgQ 1 (dX2_wgh1_u8_2 yy_900 yy_901 yy_902 yy_903 yy_904 yy_905 yy_906 yy_907 yy_908 yy_909 yy_910 yy_911 yy_912 yy_913 yy_914 yy_915 yy_916 yy_917).1 (dX2_wgh1_u8_2 yy_900 yy_901 yy_902 yy_903 yy_904 yy_905 yy_906 yy_907 yy_908 yy_909 yy_910 yy_911 yy_912 yy_913 yy_914 yy_915 yy_916 yy_917).2.1 (dX2_wgh1_u8_2 yy_900 yy_901 yy_902 yy_903 yy_904 yy_905 yy_906 yy_907 yy_908 yy_909 yy_910 yy_911 yy_912 yy_913 yy_914 yy_915 yy_916 yy_917).2.2.2.2.2.2.2.2.2.2.2.2.2.2.2.2.1 V G s0 s := by
  intro yy_900 yy_901 yy_902 yy_903 yy_904 yy_905 yy_906 yy_907 yy_908 yy_909 yy_910 yy_911 yy_912 yy_913 yy_914 yy_915 yy_916 yy_917 h
  rw [dX2_wgh1_u8_2_s]
  exact wgP_1_3 _ _ _ _ _ _ _ _ _ _ _ _ _ _ _ _ _ _ (h.step (by decide) (by decide) nar0)
theorem wgP_1_1 {Bf_1 Bf_2 Bf_3 Bf_4 Bf_5 Bf_6 Bf_7 Bf_8 Nf_1 Nf_2 Nf_3 R0f_1 g2 g4 g5 s0 : Nat → Int32} {Bv_0 Bv_1 Bv_2 Bv_3 Bv_4 Bv_5 Nv_0 : Int32} {R0n : Nat} {Q0 : RuA} (hC : BgC Bv_0 Bv_1 Bv_2 Bv_3 Bv_4 Bv_5 Bf_1 Bf_2 Bf_3 Bf_4 Bf_5 Bf_6 Bf_7 Bf_8 s0) (hG : GsB s0) (hN : NtE Nf_1 Nf_2 Nf_3 Nv_0 s0) (hL0 : CdE R0f_1 (ru_fl Q0) ∧ (ru_fl Q0).length = R0n ∧ R0n ≤ 400 ∧ RwR g2 g4 g5 0 Q0 ∧ ru_ok Q0) : ∀ (yy_900 yy_901 : Nat → Int32) (yy_902 yy_903 yy_904 yy_905 yy_906 yy_907 : Int32) (yy_908 yy_909 yy_910 yy_911 yy_912 yy_913 yy_914 yy_915 : Nat → Int32) (yy_916 : Int32) (yy_917 : Nat → Int64) (V G s : Nat → Int32) (g8 g9 : Nat → Int64) (tp fo : Int32) (n : Nat), 7 ≤ n → WgI 1 yy_900 yy_901 V G s0 s yy_916 → WgQ 1 (dX2_wgh1_u8_1 Bf_1 Bf_2 Bf_3 Bf_4 Bf_5 Bf_6 Bf_7 Bf_8 Bv_0 Bv_1 Bv_2 Bv_3 Bv_4 Bv_5 Nf_1 Nf_2 Nf_3 Nv_0 R0f_1 R0n yy_900 yy_901 yy_902 yy_903 yy_904 yy_905 yy_906 yy_907 yy_908 yy_909 yy_910 yy_911 yy_912 yy_913 yy_914 yy_915 yy_916 yy_917).1 (dX2_wgh1_u8_1 Bf_1 Bf_2 Bf_3 Bf_4 Bf_5 Bf_6 Bf_7 Bf_8 Bv_0 Bv_1 Bv_2 Bv_3 Bv_4 Bv_5 Nf_1 Nf_2 Nf_3 Nv_0 R0f_1 R0n yy_900 yy_901 yy_902 yy_903 yy_904 yy_905 yy_906 yy_907 yy_908 yy_909 yy_910 yy_911 yy_912 yy_913 yy_914 yy_915 yy_916 yy_917).2.1 (dX2_wgh1_u8_1 Bf_1 Bf_2 Bf_3 Bf_4 Bf_5 Bf_6 Bf_7 Bf_8 Bv_0 Bv_1 Bv_2 Bv_3 Bv_4 Bv_5 Nf_1 Nf_2 Nf_3 Nv_0 R0f_1 R0n yy_900 yy_901 yy_902 yy_903 yy_904 yy_905 yy_906 yy_907 yy_908 yy_909 yy_910 yy_911 yy_912 yy_913 yy_914 yy_915 yy_916 yy_917).2.2.2.2.2.2.2.2.2.2.2.2.2.2.2.2.1 (dX12_fillsFits_l11 g2 g4 g5 (1 : Int32) 0 n (1 : Int32) g8 g9 G V tp fo s).2.2.2.2.1 (dX12_fillsFits_l11 g2 g4 g5 (1 : Int32) 0 n (1 : Int32) g8 g9 G V tp fo s).2.2.2.1 s0 (dX12_fillsFits_l11 g2 g4 g5 (1 : Int32) 0 n (1 : Int32) g8 g9 G V tp fo s).2.2.2.2.2.2.2 := by
  intro yy_900 yy_901 yy_902 yy_903 yy_904 yy_905 yy_906 yy_907 yy_908 yy_909 yy_910 yy_911 yy_912 yy_913 yy_914 yy_915 yy_916 yy_917 V G s g8 g9 tp fo n hn h
  obtain ⟨n, rfl⟩ : ∃ m, n = m + 1 := ⟨n - 1, by omega⟩
  rw [dX2_wgh1_u8_1_s, dX12_fillsFits_l11_s, if_neg (show ¬ (1 : Int32) < (1 : Int32) by decide)]
  have hB := begins_is (s := s)
  have hg := hG.tl h.2.2.2
  have hb := hg.begin hB
  have hc := BgC.begin (y1 := yy_908) (y2 := yy_909) (y3 := yy_910) (y4 := yy_911) (y5 := yy_912) (y6 := yy_913) (y7 := yy_914) (y8 := yy_915) (hC.tl h.2.2.2) hg hB
  have hw := wk_wgh1_l67 (r := 1) (by decide) hL0.1 hL0.2.1 hL0.2.2.1 (by decide) (by rw [show ((1 : Int32) - 1).toInt.toNat = 0 by decide]; exact hL0.2.2.2.1) hL0.2.2.2.2 ((61 - (0 : Int32).toInt).toNat + 1) 0 Bv_0 Bv_4 Bv_5 tp yy_900 _ _ _ _ V (dX12_begins s) yy_917 g8 g9 hc hb.1 (by rw [hb.2]; decide) (by decide) (by decide) (by decide) (by rw [show 61 * (1 : Int32).toInt.toNat + (0 : Int32).toInt.toNat = 61 * 1 by decide]; exact h.1)
  rw [show 61 * (1 : Int32).toInt.toNat + 61 = 61 * 1 + 61 by decide] at hw
  generalize (dX2_wgh1_l67 Bf_1 Bf_2 Bf_3 Bf_4 Bf_5 Bf_6 Bf_7 Bf_8 Bv_1 Bv_2 Bv_3 R0f_1 R0n (1 : Int32) yy_908 yy_909 yy_910 yy_911 yy_912 yy_913 yy_914 yy_915 ((61 - (0 : Int32).toInt).toNat + 1) (0 : Int32) yy_900 yy_917 Bv_0 Bv_4 Bv_5 ((dX9_copyFrom yy_908 yy_909 yy_910 yy_911 yy_912 yy_913 yy_914 yy_915 Bf_1 Bf_2 Bf_3 Bf_4 Bf_5 Bf_6 Bf_7 Bf_8).2.2.1) ((dX9_copyFrom yy_908 yy_909 yy_910 yy_911 yy_912 yy_913 yy_914 yy_915 Bf_1 Bf_2 Bf_3 Bf_4 Bf_5 Bf_6 Bf_7 Bf_8).2.2.2.2.2.1) ((dX9_copyFrom yy_908 yy_909 yy_910 yy_911 yy_912 yy_913 yy_914 yy_915 Bf_1 Bf_2 Bf_3 Bf_4 Bf_5 Bf_6 Bf_7 Bf_8).2.2.2.2.2.2.1) ((dX9_copyFrom yy_908 yy_909 yy_910 yy_911 yy_912 yy_913 yy_914 yy_915 Bf_1 Bf_2 Bf_3 Bf_4 Bf_5 Bf_6 Bf_7 Bf_8).2.2.2.2.2.2.2)) = X at hw ⊢
  generalize dX12_fillsFits_l32 g2 g4 g5 0 (1 : Int32) (1 : Int32) ((61 - (0 : Int32).toInt).toNat + 1) (0 : Int32) g8 g9 V tp (dX12_begins s) = Z at hw ⊢
  have hl : Tl6 s Z.2.2.2.2.2 := hB.six.tr hw.2.six
  have ha : dX2_agrees Nf_1 Nf_2 Nf_3 Nv_0 X.2.1 (1 : Int32) = dX12_areNotesSo Z.2.2.2.2.2 Z.2.2.2.1 (1 : Int32) := agree_is (hN.tl (h.2.2.2.tr hl)) (by decide) (by rw [show 61 * (1 : Int32).toInt.toNat + 61 = 61 * 1 + 61 by decide]; exact hw.1)
  rw [ha]
  generalize vp_nar .boolean (dX12_areNotesSo Z.2.2.2.2.2 Z.2.2.2.1 (1 : Int32)) = a
  rw [upd_at]
  by_cases hz : a = 0
  · rw [if_pos hz]
    obtain ⟨n, rfl⟩ : ∃ m, n = m + 1 := ⟨n - 1, by omega⟩
    rw [dX12_fillsFits_l11_s, if_pos (show (1 : Int32) < (1 : Int32) + 1 by decide)]
    refine wgP_1_2 _ _ _ _ _ _ _ _ _ _ _ _ _ _ _ _ _ _ ?_
    have hE := (h.step (r := 1) (a := a) (a₁ := a) (x := vp_nar .boolean (0 : Int32)) (d := 0) (by decide) hw.1 hl rfl (by rw [if_pos hz])).e
    obtain ⟨e1, e2, e3, e4, e5⟩ := hE
    refine ⟨?_, e2, e3, e4, ?_⟩
    · intro k hk
      exact e1 k hk
    · intro k hk
      exact e5 k hk
  · rw [if_neg hz]
    obtain ⟨n, rfl⟩ : ∃ m, n = m + 1 := ⟨n - 1, by omega⟩
    rw [dX12_fillsFits_l11_s, if_pos (show (1 : Int32) < (1 : Int32) + 1 by decide)]
    refine wgP_1_2 _ _ _ _ _ _ _ _ _ _ _ _ _ _ _ _ _ _ ?_
    have hE := (h.step (r := 1) (a := a) (a₁ := a) (x := vp_nar .boolean (0 : Int32)) (d := 1) (by decide) hw.1 hl rfl (by rw [if_neg hz])).e
    obtain ⟨e1, e2, e3, e4, e5⟩ := hE
    refine ⟨?_, e2, e3, e4, ?_⟩
    · intro k hk
      exact e1 k hk
    · intro k hk
      exact e5 k hk
theorem wgP_1_0 {Bf_1 Bf_2 Bf_3 Bf_4 Bf_5 Bf_6 Bf_7 Bf_8 Nf_1 Nf_2 Nf_3 R0f_1 g2 g4 g5 s0 : Nat → Int32} {Bv_0 Bv_1 Bv_2 Bv_3 Bv_4 Bv_5 Nv_0 : Int32} {R0n : Nat} {Q0 : RuA} (hC : BgC Bv_0 Bv_1 Bv_2 Bv_3 Bv_4 Bv_5 Bf_1 Bf_2 Bf_3 Bf_4 Bf_5 Bf_6 Bf_7 Bf_8 s0) (hG : GsB s0) (hN : NtE Nf_1 Nf_2 Nf_3 Nv_0 s0) (hL0 : CdE R0f_1 (ru_fl Q0) ∧ (ru_fl Q0).length = R0n ∧ R0n ≤ 400 ∧ RwR g2 g4 g5 0 Q0 ∧ ru_ok Q0) : ∀ (yy_900 yy_901 : Nat → Int32) (yy_902 yy_903 yy_904 yy_905 yy_906 yy_907 : Int32) (yy_908 yy_909 yy_910 yy_911 yy_912 yy_913 yy_914 yy_915 : Nat → Int32) (yy_916 : Int32) (yy_917 : Nat → Int64) (V G s : Nat → Int32) (g8 g9 : Nat → Int64) (tp fo : Int32) (n : Nat), 8 ≤ n → WgI 0 yy_900 yy_901 V G s0 s yy_916 → WgQ 1 (dX2_wgh1_u8_0 Bf_1 Bf_2 Bf_3 Bf_4 Bf_5 Bf_6 Bf_7 Bf_8 Bv_0 Bv_1 Bv_2 Bv_3 Bv_4 Bv_5 Nf_1 Nf_2 Nf_3 Nv_0 R0f_1 R0n yy_900 yy_901 yy_902 yy_903 yy_904 yy_905 yy_906 yy_907 yy_908 yy_909 yy_910 yy_911 yy_912 yy_913 yy_914 yy_915 yy_916 yy_917).1 (dX2_wgh1_u8_0 Bf_1 Bf_2 Bf_3 Bf_4 Bf_5 Bf_6 Bf_7 Bf_8 Bv_0 Bv_1 Bv_2 Bv_3 Bv_4 Bv_5 Nf_1 Nf_2 Nf_3 Nv_0 R0f_1 R0n yy_900 yy_901 yy_902 yy_903 yy_904 yy_905 yy_906 yy_907 yy_908 yy_909 yy_910 yy_911 yy_912 yy_913 yy_914 yy_915 yy_916 yy_917).2.1 (dX2_wgh1_u8_0 Bf_1 Bf_2 Bf_3 Bf_4 Bf_5 Bf_6 Bf_7 Bf_8 Bv_0 Bv_1 Bv_2 Bv_3 Bv_4 Bv_5 Nf_1 Nf_2 Nf_3 Nv_0 R0f_1 R0n yy_900 yy_901 yy_902 yy_903 yy_904 yy_905 yy_906 yy_907 yy_908 yy_909 yy_910 yy_911 yy_912 yy_913 yy_914 yy_915 yy_916 yy_917).2.2.2.2.2.2.2.2.2.2.2.2.2.2.2.2.1 (dX12_fillsFits_l11 g2 g4 g5 (1 : Int32) 0 n (0 : Int32) g8 g9 G V tp fo s).2.2.2.2.1 (dX12_fillsFits_l11 g2 g4 g5 (1 : Int32) 0 n (0 : Int32) g8 g9 G V tp fo s).2.2.2.1 s0 (dX12_fillsFits_l11 g2 g4 g5 (1 : Int32) 0 n (0 : Int32) g8 g9 G V tp fo s).2.2.2.2.2.2.2 := by
  intro yy_900 yy_901 yy_902 yy_903 yy_904 yy_905 yy_906 yy_907 yy_908 yy_909 yy_910 yy_911 yy_912 yy_913 yy_914 yy_915 yy_916 yy_917 V G s g8 g9 tp fo n hn h
  obtain ⟨n, rfl⟩ : ∃ m, n = m + 1 := ⟨n - 1, by omega⟩
  rw [dX2_wgh1_u8_0_s, dX12_fillsFits_l11_s, if_neg (show ¬ (1 : Int32) < (0 : Int32) by decide)]
  have hB := begins_is (s := s)
  have hg := hG.tl h.2.2.2
  have hb := hg.begin hB
  have hc := BgC.begin (y1 := yy_908) (y2 := yy_909) (y3 := yy_910) (y4 := yy_911) (y5 := yy_912) (y6 := yy_913) (y7 := yy_914) (y8 := yy_915) (hC.tl h.2.2.2) hg hB
  have hw := wk_wgh1_l67v1 (r := 0) (g2 := g2) (g4 := g4) (g5 := g5) (by decide) (by decide) ((61 - (0 : Int32).toInt).toNat + 1) 0 Bv_0 Bv_4 Bv_5 tp yy_900 _ _ _ _ V (dX12_begins s) g8 g9 hc hb.1 (by rw [hb.2]; decide) (by decide) (by decide) (by decide) (by rw [show 61 * (0 : Int32).toInt.toNat + (0 : Int32).toInt.toNat = 61 * 0 by decide]; exact h.1)
  rw [show 61 * (0 : Int32).toInt.toNat + 61 = 61 * 0 + 61 by decide] at hw
  generalize (dX2_wgh1_l67v1 Bf_1 Bf_2 Bf_3 Bf_4 Bf_5 Bf_6 Bf_7 Bf_8 Bv_1 Bv_2 Bv_3 (0 : Int32) yy_908 yy_909 yy_910 yy_911 yy_912 yy_913 yy_914 yy_915 ((61 - (0 : Int32).toInt).toNat + 1) (0 : Int32) yy_900 Bv_0 Bv_4 Bv_5 ((dX9_copyFrom yy_908 yy_909 yy_910 yy_911 yy_912 yy_913 yy_914 yy_915 Bf_1 Bf_2 Bf_3 Bf_4 Bf_5 Bf_6 Bf_7 Bf_8).2.2.1) ((dX9_copyFrom yy_908 yy_909 yy_910 yy_911 yy_912 yy_913 yy_914 yy_915 Bf_1 Bf_2 Bf_3 Bf_4 Bf_5 Bf_6 Bf_7 Bf_8).2.2.2.2.2.1) ((dX9_copyFrom yy_908 yy_909 yy_910 yy_911 yy_912 yy_913 yy_914 yy_915 Bf_1 Bf_2 Bf_3 Bf_4 Bf_5 Bf_6 Bf_7 Bf_8).2.2.2.2.2.2.1) ((dX9_copyFrom yy_908 yy_909 yy_910 yy_911 yy_912 yy_913 yy_914 yy_915 Bf_1 Bf_2 Bf_3 Bf_4 Bf_5 Bf_6 Bf_7 Bf_8).2.2.2.2.2.2.2)) = X at hw ⊢
  generalize dX12_fillsFits_l32 g2 g4 g5 0 (0 : Int32) (0 : Int32) ((61 - (0 : Int32).toInt).toNat + 1) (0 : Int32) g8 g9 V tp (dX12_begins s) = Z at hw ⊢
  have hl : Tl6 s Z.2.2.2.2.2 := hB.six.tr hw.2.six
  have ha : dX2_agrees Nf_1 Nf_2 Nf_3 Nv_0 X.2.1 (0 : Int32) = dX12_areNotesSo Z.2.2.2.2.2 Z.2.2.2.1 (0 : Int32) := agree_is (hN.tl (h.2.2.2.tr hl)) (by decide) (by rw [show 61 * (0 : Int32).toInt.toNat + 61 = 61 * 0 + 61 by decide]; exact hw.1)
  rw [ha]
  generalize vp_nar .boolean (dX12_areNotesSo Z.2.2.2.2.2 Z.2.2.2.1 (0 : Int32)) = a
  rw [upd_at]
  by_cases hz : a = 0
  · rw [if_pos hz]
    rw [show (0 : Int32) + 1 = 1 by decide]
    exact wgP_1_1 hC hG hN hL0 _ _ _ _ _ _ _ _ _ _ _ _ _ _ _ _ _ _ _ _ _ _ _ _ _ n (by omega) (h.step (r := 0) (a := a) (a₁ := a) (d := 0) (by decide) hw.1 hl rfl (by rw [if_pos hz]))
  · rw [if_neg hz]
    rw [show (0 : Int32) + 1 = 1 by decide]
    exact wgP_1_1 hC hG hN hL0 _ _ _ _ _ _ _ _ _ _ _ _ _ _ _ _ _ _ _ _ _ _ _ _ _ n (by omega) (h.step (r := 0) (a := a) (a₁ := a) (d := 1) (by decide) hw.1 hl rfl (by rw [if_neg hz]))
theorem wgP_2_7 {V G s0 s : Nat → Int32} : ∀ (yy_900 yy_901 : Nat → Int32) (yy_902 yy_903 yy_904 yy_905 yy_906 yy_907 : Int32) (yy_908 yy_909 yy_910 yy_911 yy_912 yy_913 yy_914 yy_915 : Nat → Int32) (yy_916 : Int32) (yy_917 yy_918 : Nat → Int64), WgE 2 7 yy_900 yy_901 V G s0 s yy_916 → WgQ 2 (dX2_wgh2_u8_7 yy_900 yy_901 yy_902 yy_903 yy_904 yy_905 yy_906 yy_907 yy_908 yy_909 yy_910 yy_911 yy_912 yy_913 yy_914 yy_915 yy_916 yy_917 yy_918).1 (dX2_wgh2_u8_7 yy_900 yy_901 yy_902 yy_903 yy_904 yy_905 yy_906 yy_907 yy_908 yy_909 yy_910 yy_911 yy_912 yy_913 yy_914 yy_915 yy_916 yy_917 yy_918).2.1 (dX2_wgh2_u8_7 yy_900 yy_901 yy_902 yy_903 yy_904 yy_905 yy_906 yy_907 yy_908 yy_909 yy_910 yy_911 yy_912 yy_913 yy_914 yy_915 yy_916 yy_917 yy_918).2.2.2.2.2.2.2.2.2.2.2.2.2.2.2.2.1 V G s0 s := by
  intro yy_900 yy_901 yy_902 yy_903 yy_904 yy_905 yy_906 yy_907 yy_908 yy_909 yy_910 yy_911 yy_912 yy_913 yy_914 yy_915 yy_916 yy_917 yy_918 h
  rw [dX2_wgh2_u8_7_s]
  exact ⟨h.1, h.2.1, h.2.2.1, h.2.2.2.1, h.2.2.2.2⟩
theorem wgP_2_6 {V G s0 s : Nat → Int32} : ∀ (yy_900 yy_901 : Nat → Int32) (yy_902 yy_903 yy_904 yy_905 yy_906 yy_907 : Int32) (yy_908 yy_909 yy_910 yy_911 yy_912 yy_913 yy_914 yy_915 : Nat → Int32) (yy_916 : Int32) (yy_917 yy_918 : Nat → Int64), WgE 2 6 yy_900 yy_901 V G s0 s yy_916 → WgQ 2 (dX2_wgh2_u8_6 yy_900 yy_901 yy_902 yy_903 yy_904 yy_905 yy_906 yy_907 yy_908 yy_909 yy_910 yy_911 yy_912 yy_913 yy_914 yy_915 yy_916 yy_917 yy_918).1 (dX2_wgh2_u8_6 yy_900 yy_901 yy_902 yy_903 yy_904 yy_905 yy_906 yy_907 yy_908 yy_909 yy_910 yy_911 yy_912 yy_913 yy_914 yy_915 yy_916 yy_917 yy_918).2.1 (dX2_wgh2_u8_6 yy_900 yy_901 yy_902 yy_903 yy_904 yy_905 yy_906 yy_907 yy_908 yy_909 yy_910 yy_911 yy_912 yy_913 yy_914 yy_915 yy_916 yy_917 yy_918).2.2.2.2.2.2.2.2.2.2.2.2.2.2.2.2.1 V G s0 s := by
  intro yy_900 yy_901 yy_902 yy_903 yy_904 yy_905 yy_906 yy_907 yy_908 yy_909 yy_910 yy_911 yy_912 yy_913 yy_914 yy_915 yy_916 yy_917 yy_918 h
  rw [dX2_wgh2_u8_6_s]
  exact wgP_2_7 _ _ _ _ _ _ _ _ _ _ _ _ _ _ _ _ _ _ _ (h.step (by decide) (by decide) nar0)
theorem wgP_2_5 {V G s0 s : Nat → Int32} : ∀ (yy_900 yy_901 : Nat → Int32) (yy_902 yy_903 yy_904 yy_905 yy_906 yy_907 : Int32) (yy_908 yy_909 yy_910 yy_911 yy_912 yy_913 yy_914 yy_915 : Nat → Int32) (yy_916 : Int32) (yy_917 yy_918 : Nat → Int64), WgE 2 5 yy_900 yy_901 V G s0 s yy_916 → WgQ 2 (dX2_wgh2_u8_5 yy_900 yy_901 yy_902 yy_903 yy_904 yy_905 yy_906 yy_907 yy_908 yy_909 yy_910 yy_911 yy_912 yy_913 yy_914 yy_915 yy_916 yy_917 yy_918).1 (dX2_wgh2_u8_5 yy_900 yy_901 yy_902 yy_903 yy_904 yy_905 yy_906 yy_907 yy_908 yy_909 yy_910 yy_911 yy_912 yy_913 yy_914 yy_915 yy_916 yy_917 yy_918).2.1 (dX2_wgh2_u8_5 yy_900 yy_901 yy_902 yy_903 yy_904 yy_905 yy_906 yy_907 yy_908 yy_909 yy_910 yy_911 yy_912 yy_913 yy_914 yy_915 yy_916 yy_917 yy_918).2.2.2.2.2.2.2.2.2.2.2.2.2.2.2.2.1 V G s0 s := by
  intro yy_900 yy_901 yy_902 yy_903 yy_904 yy_905 yy_906 yy_907 yy_908 yy_909 yy_910 yy_911 yy_912 yy_913 yy_914 yy_915 yy_916 yy_917 yy_918 h
  rw [dX2_wgh2_u8_5_s]
  exact wgP_2_6 _ _ _ _ _ _ _ _ _ _ _ _ _ _ _ _ _ _ _ (h.step (by decide) (by decide) nar0)
theorem wgP_2_4 {V G s0 s : Nat → Int32} : ∀ (yy_900 yy_901 : Nat → Int32) (yy_902 yy_903 yy_904 yy_905 yy_906 yy_907 : Int32) (yy_908 yy_909 yy_910 yy_911 yy_912 yy_913 yy_914 yy_915 : Nat → Int32) (yy_916 : Int32) (yy_917 yy_918 : Nat → Int64), WgE 2 4 yy_900 yy_901 V G s0 s yy_916 → WgQ 2 (dX2_wgh2_u8_4 yy_900 yy_901 yy_902 yy_903 yy_904 yy_905 yy_906 yy_907 yy_908 yy_909 yy_910 yy_911 yy_912 yy_913 yy_914 yy_915 yy_916 yy_917 yy_918).1 (dX2_wgh2_u8_4 yy_900 yy_901 yy_902 yy_903 yy_904 yy_905 yy_906 yy_907 yy_908 yy_909 yy_910 yy_911 yy_912 yy_913 yy_914 yy_915 yy_916 yy_917 yy_918).2.1 (dX2_wgh2_u8_4 yy_900 yy_901 yy_902 yy_903 yy_904 yy_905 yy_906 yy_907 yy_908 yy_909 yy_910 yy_911 yy_912 yy_913 yy_914 yy_915 yy_916 yy_917 yy_918).2.2.2.2.2.2.2.2.2.2.2.2.2.2.2.2.1 V G s0 s := by
  intro yy_900 yy_901 yy_902 yy_903 yy_904 yy_905 yy_906 yy_907 yy_908 yy_909 yy_910 yy_911 yy_912 yy_913 yy_914 yy_915 yy_916 yy_917 yy_918 h
  rw [dX2_wgh2_u8_4_s]
  exact wgP_2_5 _ _ _ _ _ _ _ _ _ _ _ _ _ _ _ _ _ _ _ (h.step (by decide) (by decide) nar0)
theorem wgP_2_3 {V G s0 s : Nat → Int32} : ∀ (yy_900 yy_901 : Nat → Int32) (yy_902 yy_903 yy_904 yy_905 yy_906 yy_907 : Int32) (yy_908 yy_909 yy_910 yy_911 yy_912 yy_913 yy_914 yy_915 : Nat → Int32) (yy_916 : Int32) (yy_917 yy_918 : Nat → Int64), WgE 2 3 yy_900 yy_901 V G s0 s yy_916 → WgQ 2 (dX2_wgh2_u8_3 yy_900 yy_901 yy_902 yy_903 yy_904 yy_905 yy_906 yy_907 yy_908 yy_909 yy_910 yy_911 yy_912 yy_913 yy_914 yy_915 yy_916 yy_917 yy_918).1 (dX2_wgh2_u8_3 yy_900 yy_901 yy_902 yy_903 yy_904 yy_905 yy_906 yy_907 yy_908 yy_909 yy_910 yy_911 yy_912 yy_913 yy_914 yy_915 yy_916 yy_917 yy_918).2.1 (dX2_wgh2_u8_3 yy_900 yy_901 yy_902 yy_903 yy_904 yy_905 yy_906 yy_907 yy_908 yy_909 yy_910 yy_911 yy_912 yy_913 yy_914 yy_915 yy_916 yy_917 yy_918).2.2.2.2.2.2.2.2.2.2.2.2.2.2.2.2.1 V G s0 s := by
  intro yy_900 yy_901 yy_902 yy_903 yy_904 yy_905 yy_906 yy_907 yy_908 yy_909 yy_910 yy_911 yy_912 yy_913 yy_914 yy_915 yy_916 yy_917 yy_918 h
  rw [dX2_wgh2_u8_3_s]
  exact wgP_2_4 _ _ _ _ _ _ _ _ _ _ _ _ _ _ _ _ _ _ _ (h.step (by decide) (by decide) nar0)
theorem wgP_2_2 {Bf_1 Bf_2 Bf_3 Bf_4 Bf_5 Bf_6 Bf_7 Bf_8 Nf_1 Nf_2 Nf_3 R0f_1 R1f_1 g2 g4 g5 s0 : Nat → Int32} {Bv_0 Bv_1 Bv_2 Bv_3 Bv_4 Bv_5 Nv_0 : Int32} {R0n R1n : Nat} {Q0 Q1 : RuA} (hC : BgC Bv_0 Bv_1 Bv_2 Bv_3 Bv_4 Bv_5 Bf_1 Bf_2 Bf_3 Bf_4 Bf_5 Bf_6 Bf_7 Bf_8 s0) (hG : GsB s0) (hN : NtE Nf_1 Nf_2 Nf_3 Nv_0 s0) (hL0 : CdE R0f_1 (ru_fl Q0) ∧ (ru_fl Q0).length = R0n ∧ R0n ≤ 400 ∧ RwR g2 g4 g5 0 Q0 ∧ ru_ok Q0) (hL1 : CdE R1f_1 (ru_fl Q1) ∧ (ru_fl Q1).length = R1n ∧ R1n ≤ 400 ∧ RwR g2 g4 g5 1 Q1 ∧ ru_ok Q1) : ∀ (yy_900 yy_901 : Nat → Int32) (yy_902 yy_903 yy_904 yy_905 yy_906 yy_907 : Int32) (yy_908 yy_909 yy_910 yy_911 yy_912 yy_913 yy_914 yy_915 : Nat → Int32) (yy_916 : Int32) (yy_917 yy_918 : Nat → Int64) (V G s : Nat → Int32) (g8 g9 : Nat → Int64) (tp fo : Int32) (n : Nat), 6 ≤ n → WgI 2 yy_900 yy_901 V G s0 s yy_916 → WgQ 2 (dX2_wgh2_u8_2 Bf_1 Bf_2 Bf_3 Bf_4 Bf_5 Bf_6 Bf_7 Bf_8 Bv_0 Bv_1 Bv_2 Bv_3 Bv_4 Bv_5 Nf_1 Nf_2 Nf_3 Nv_0 R1f_1 R1n yy_900 yy_901 yy_902 yy_903 yy_904 yy_905 yy_906 yy_907 yy_908 yy_909 yy_910 yy_911 yy_912 yy_913 yy_914 yy_915 yy_916 yy_917 yy_918).1 (dX2_wgh2_u8_2 Bf_1 Bf_2 Bf_3 Bf_4 Bf_5 Bf_6 Bf_7 Bf_8 Bv_0 Bv_1 Bv_2 Bv_3 Bv_4 Bv_5 Nf_1 Nf_2 Nf_3 Nv_0 R1f_1 R1n yy_900 yy_901 yy_902 yy_903 yy_904 yy_905 yy_906 yy_907 yy_908 yy_909 yy_910 yy_911 yy_912 yy_913 yy_914 yy_915 yy_916 yy_917 yy_918).2.1 (dX2_wgh2_u8_2 Bf_1 Bf_2 Bf_3 Bf_4 Bf_5 Bf_6 Bf_7 Bf_8 Bv_0 Bv_1 Bv_2 Bv_3 Bv_4 Bv_5 Nf_1 Nf_2 Nf_3 Nv_0 R1f_1 R1n yy_900 yy_901 yy_902 yy_903 yy_904 yy_905 yy_906 yy_907 yy_908 yy_909 yy_910 yy_911 yy_912 yy_913 yy_914 yy_915 yy_916 yy_917 yy_918).2.2.2.2.2.2.2.2.2.2.2.2.2.2.2.2.1 (dX12_fillsFits_l11 g2 g4 g5 (2 : Int32) 0 n (2 : Int32) g8 g9 G V tp fo s).2.2.2.2.1 (dX12_fillsFits_l11 g2 g4 g5 (2 : Int32) 0 n (2 : Int32) g8 g9 G V tp fo s).2.2.2.1 s0 (dX12_fillsFits_l11 g2 g4 g5 (2 : Int32) 0 n (2 : Int32) g8 g9 G V tp fo s).2.2.2.2.2.2.2 := by
  intro yy_900 yy_901 yy_902 yy_903 yy_904 yy_905 yy_906 yy_907 yy_908 yy_909 yy_910 yy_911 yy_912 yy_913 yy_914 yy_915 yy_916 yy_917 yy_918 V G s g8 g9 tp fo n hn h
  obtain ⟨n, rfl⟩ : ∃ m, n = m + 1 := ⟨n - 1, by omega⟩
  rw [dX2_wgh2_u8_2_s, dX12_fillsFits_l11_s, if_neg (show ¬ (2 : Int32) < (2 : Int32) by decide)]
  have hB := begins_is (s := s)
  have hg := hG.tl h.2.2.2
  have hb := hg.begin hB
  have hc := BgC.begin (y1 := yy_908) (y2 := yy_909) (y3 := yy_910) (y4 := yy_911) (y5 := yy_912) (y6 := yy_913) (y7 := yy_914) (y8 := yy_915) (hC.tl h.2.2.2) hg hB
  have hw := wk_wgh2_l67 (r := 2) (by decide) hL1.1 hL1.2.1 hL1.2.2.1 (by decide) (by rw [show ((2 : Int32) - 1).toInt.toNat = 1 by decide]; exact hL1.2.2.2.1) hL1.2.2.2.2 ((61 - (0 : Int32).toInt).toNat + 1) 0 Bv_0 Bv_4 Bv_5 tp yy_900 _ _ _ _ V (dX12_begins s) yy_918 g8 g9 hc hb.1 (by rw [hb.2]; decide) (by decide) (by decide) (by decide) (by rw [show 61 * (2 : Int32).toInt.toNat + (0 : Int32).toInt.toNat = 61 * 2 by decide]; exact h.1)
  rw [show 61 * (2 : Int32).toInt.toNat + 61 = 61 * 2 + 61 by decide] at hw
  generalize (dX2_wgh2_l67 Bf_1 Bf_2 Bf_3 Bf_4 Bf_5 Bf_6 Bf_7 Bf_8 Bv_1 Bv_2 Bv_3 R1f_1 R1n (2 : Int32) yy_908 yy_909 yy_910 yy_911 yy_912 yy_913 yy_914 yy_915 ((61 - (0 : Int32).toInt).toNat + 1) (0 : Int32) yy_900 yy_918 Bv_0 Bv_4 Bv_5 ((dX9_copyFrom yy_908 yy_909 yy_910 yy_911 yy_912 yy_913 yy_914 yy_915 Bf_1 Bf_2 Bf_3 Bf_4 Bf_5 Bf_6 Bf_7 Bf_8).2.2.1) ((dX9_copyFrom yy_908 yy_909 yy_910 yy_911 yy_912 yy_913 yy_914 yy_915 Bf_1 Bf_2 Bf_3 Bf_4 Bf_5 Bf_6 Bf_7 Bf_8).2.2.2.2.2.1) ((dX9_copyFrom yy_908 yy_909 yy_910 yy_911 yy_912 yy_913 yy_914 yy_915 Bf_1 Bf_2 Bf_3 Bf_4 Bf_5 Bf_6 Bf_7 Bf_8).2.2.2.2.2.2.1) ((dX9_copyFrom yy_908 yy_909 yy_910 yy_911 yy_912 yy_913 yy_914 yy_915 Bf_1 Bf_2 Bf_3 Bf_4 Bf_5 Bf_6 Bf_7 Bf_8).2.2.2.2.2.2.2)) = X at hw ⊢
  generalize dX12_fillsFits_l32 g2 g4 g5 0 (2 : Int32) (2 : Int32) ((61 - (0 : Int32).toInt).toNat + 1) (0 : Int32) g8 g9 V tp (dX12_begins s) = Z at hw ⊢
  have hl : Tl6 s Z.2.2.2.2.2 := hB.six.tr hw.2.six
  have ha : dX2_agrees Nf_1 Nf_2 Nf_3 Nv_0 X.2.1 (2 : Int32) = dX12_areNotesSo Z.2.2.2.2.2 Z.2.2.2.1 (2 : Int32) := agree_is (hN.tl (h.2.2.2.tr hl)) (by decide) (by rw [show 61 * (2 : Int32).toInt.toNat + 61 = 61 * 2 + 61 by decide]; exact hw.1)
  rw [ha]
  generalize vp_nar .boolean (dX12_areNotesSo Z.2.2.2.2.2 Z.2.2.2.1 (2 : Int32)) = a
  rw [upd_at]
  by_cases hz : a = 0
  · rw [if_pos hz]
    obtain ⟨n, rfl⟩ : ∃ m, n = m + 1 := ⟨n - 1, by omega⟩
    rw [dX12_fillsFits_l11_s, if_pos (show (2 : Int32) < (2 : Int32) + 1 by decide)]
    refine wgP_2_3 _ _ _ _ _ _ _ _ _ _ _ _ _ _ _ _ _ _ _ ?_
    have hE := (h.step (r := 2) (a := a) (a₁ := a) (x := vp_nar .boolean (0 : Int32)) (d := 0) (by decide) hw.1 hl rfl (by rw [if_pos hz])).e
    obtain ⟨e1, e2, e3, e4, e5⟩ := hE
    refine ⟨?_, e2, e3, e4, ?_⟩
    · intro k hk
      exact e1 k hk
    · intro k hk
      exact e5 k hk
  · rw [if_neg hz]
    obtain ⟨n, rfl⟩ : ∃ m, n = m + 1 := ⟨n - 1, by omega⟩
    rw [dX12_fillsFits_l11_s, if_pos (show (2 : Int32) < (2 : Int32) + 1 by decide)]
    refine wgP_2_3 _ _ _ _ _ _ _ _ _ _ _ _ _ _ _ _ _ _ _ ?_
    have hE := (h.step (r := 2) (a := a) (a₁ := a) (x := vp_nar .boolean (0 : Int32)) (d := 1) (by decide) hw.1 hl rfl (by rw [if_neg hz])).e
    obtain ⟨e1, e2, e3, e4, e5⟩ := hE
    refine ⟨?_, e2, e3, e4, ?_⟩
    · intro k hk
      exact e1 k hk
    · intro k hk
      exact e5 k hk
theorem wgP_2_1 {Bf_1 Bf_2 Bf_3 Bf_4 Bf_5 Bf_6 Bf_7 Bf_8 Nf_1 Nf_2 Nf_3 R0f_1 R1f_1 g2 g4 g5 s0 : Nat → Int32} {Bv_0 Bv_1 Bv_2 Bv_3 Bv_4 Bv_5 Nv_0 : Int32} {R0n R1n : Nat} {Q0 Q1 : RuA} (hC : BgC Bv_0 Bv_1 Bv_2 Bv_3 Bv_4 Bv_5 Bf_1 Bf_2 Bf_3 Bf_4 Bf_5 Bf_6 Bf_7 Bf_8 s0) (hG : GsB s0) (hN : NtE Nf_1 Nf_2 Nf_3 Nv_0 s0) (hL0 : CdE R0f_1 (ru_fl Q0) ∧ (ru_fl Q0).length = R0n ∧ R0n ≤ 400 ∧ RwR g2 g4 g5 0 Q0 ∧ ru_ok Q0) (hL1 : CdE R1f_1 (ru_fl Q1) ∧ (ru_fl Q1).length = R1n ∧ R1n ≤ 400 ∧ RwR g2 g4 g5 1 Q1 ∧ ru_ok Q1) : ∀ (yy_900 yy_901 : Nat → Int32) (yy_902 yy_903 yy_904 yy_905 yy_906 yy_907 : Int32) (yy_908 yy_909 yy_910 yy_911 yy_912 yy_913 yy_914 yy_915 : Nat → Int32) (yy_916 : Int32) (yy_917 yy_918 : Nat → Int64) (V G s : Nat → Int32) (g8 g9 : Nat → Int64) (tp fo : Int32) (n : Nat), 7 ≤ n → WgI 1 yy_900 yy_901 V G s0 s yy_916 → WgQ 2 (dX2_wgh2_u8_1 Bf_1 Bf_2 Bf_3 Bf_4 Bf_5 Bf_6 Bf_7 Bf_8 Bv_0 Bv_1 Bv_2 Bv_3 Bv_4 Bv_5 Nf_1 Nf_2 Nf_3 Nv_0 R0f_1 R1f_1 R0n R1n yy_900 yy_901 yy_902 yy_903 yy_904 yy_905 yy_906 yy_907 yy_908 yy_909 yy_910 yy_911 yy_912 yy_913 yy_914 yy_915 yy_916 yy_917 yy_918).1 (dX2_wgh2_u8_1 Bf_1 Bf_2 Bf_3 Bf_4 Bf_5 Bf_6 Bf_7 Bf_8 Bv_0 Bv_1 Bv_2 Bv_3 Bv_4 Bv_5 Nf_1 Nf_2 Nf_3 Nv_0 R0f_1 R1f_1 R0n R1n yy_900 yy_901 yy_902 yy_903 yy_904 yy_905 yy_906 yy_907 yy_908 yy_909 yy_910 yy_911 yy_912 yy_913 yy_914 yy_915 yy_916 yy_917 yy_918).2.1 (dX2_wgh2_u8_1 Bf_1 Bf_2 Bf_3 Bf_4 Bf_5 Bf_6 Bf_7 Bf_8 Bv_0 Bv_1 Bv_2 Bv_3 Bv_4 Bv_5 Nf_1 Nf_2 Nf_3 Nv_0 R0f_1 R1f_1 R0n R1n yy_900 yy_901 yy_902 yy_903 yy_904 yy_905 yy_906 yy_907 yy_908 yy_909 yy_910 yy_911 yy_912 yy_913 yy_914 yy_915 yy_916 yy_917 yy_918).2.2.2.2.2.2.2.2.2.2.2.2.2.2.2.2.1 (dX12_fillsFits_l11 g2 g4 g5 (2 : Int32) 0 n (1 : Int32) g8 g9 G V tp fo s).2.2.2.2.1 (dX12_fillsFits_l11 g2 g4 g5 (2 : Int32) 0 n (1 : Int32) g8 g9 G V tp fo s).2.2.2.1 s0 (dX12_fillsFits_l11 g2 g4 g5 (2 : Int32) 0 n (1 : Int32) g8 g9 G V tp fo s).2.2.2.2.2.2.2 := by
  intro yy_900 yy_901 yy_902 yy_903 yy_904 yy_905 yy_906 yy_907 yy_908 yy_909 yy_910 yy_911 yy_912 yy_913 yy_914 yy_915 yy_916 yy_917 yy_918 V G s g8 g9 tp fo n hn h
  obtain ⟨n, rfl⟩ : ∃ m, n = m + 1 := ⟨n - 1, by omega⟩
  rw [dX2_wgh2_u8_1_s, dX12_fillsFits_l11_s, if_neg (show ¬ (2 : Int32) < (1 : Int32) by decide)]
  have hB := begins_is (s := s)
  have hg := hG.tl h.2.2.2
  have hb := hg.begin hB
  have hc := BgC.begin (y1 := yy_908) (y2 := yy_909) (y3 := yy_910) (y4 := yy_911) (y5 := yy_912) (y6 := yy_913) (y7 := yy_914) (y8 := yy_915) (hC.tl h.2.2.2) hg hB
  have hw := wk_wgh2_l67v1 (r := 1) (by decide) hL0.1 hL0.2.1 hL0.2.2.1 (by decide) (by rw [show ((1 : Int32) - 1).toInt.toNat = 0 by decide]; exact hL0.2.2.2.1) hL0.2.2.2.2 ((61 - (0 : Int32).toInt).toNat + 1) 0 Bv_0 Bv_4 Bv_5 tp yy_900 _ _ _ _ V (dX12_begins s) yy_917 g8 g9 hc hb.1 (by rw [hb.2]; decide) (by decide) (by decide) (by decide) (by rw [show 61 * (1 : Int32).toInt.toNat + (0 : Int32).toInt.toNat = 61 * 1 by decide]; exact h.1)
  rw [show 61 * (1 : Int32).toInt.toNat + 61 = 61 * 1 + 61 by decide] at hw
  generalize (dX2_wgh2_l67v1 Bf_1 Bf_2 Bf_3 Bf_4 Bf_5 Bf_6 Bf_7 Bf_8 Bv_1 Bv_2 Bv_3 R0f_1 R0n (1 : Int32) yy_908 yy_909 yy_910 yy_911 yy_912 yy_913 yy_914 yy_915 ((61 - (0 : Int32).toInt).toNat + 1) (0 : Int32) yy_900 yy_917 Bv_0 Bv_4 Bv_5 ((dX9_copyFrom yy_908 yy_909 yy_910 yy_911 yy_912 yy_913 yy_914 yy_915 Bf_1 Bf_2 Bf_3 Bf_4 Bf_5 Bf_6 Bf_7 Bf_8).2.2.1) ((dX9_copyFrom yy_908 yy_909 yy_910 yy_911 yy_912 yy_913 yy_914 yy_915 Bf_1 Bf_2 Bf_3 Bf_4 Bf_5 Bf_6 Bf_7 Bf_8).2.2.2.2.2.1) ((dX9_copyFrom yy_908 yy_909 yy_910 yy_911 yy_912 yy_913 yy_914 yy_915 Bf_1 Bf_2 Bf_3 Bf_4 Bf_5 Bf_6 Bf_7 Bf_8).2.2.2.2.2.2.1) ((dX9_copyFrom yy_908 yy_909 yy_910 yy_911 yy_912 yy_913 yy_914 yy_915 Bf_1 Bf_2 Bf_3 Bf_4 Bf_5 Bf_6 Bf_7 Bf_8).2.2.2.2.2.2.2)) = X at hw ⊢
  generalize dX12_fillsFits_l32 g2 g4 g5 0 (1 : Int32) (1 : Int32) ((61 - (0 : Int32).toInt).toNat + 1) (0 : Int32) g8 g9 V tp (dX12_begins s) = Z at hw ⊢
  have hl : Tl6 s Z.2.2.2.2.2 := hB.six.tr hw.2.six
  have ha : dX2_agrees Nf_1 Nf_2 Nf_3 Nv_0 X.2.1 (1 : Int32) = dX12_areNotesSo Z.2.2.2.2.2 Z.2.2.2.1 (1 : Int32) := agree_is (hN.tl (h.2.2.2.tr hl)) (by decide) (by rw [show 61 * (1 : Int32).toInt.toNat + 61 = 61 * 1 + 61 by decide]; exact hw.1)
  rw [ha]
  generalize vp_nar .boolean (dX12_areNotesSo Z.2.2.2.2.2 Z.2.2.2.1 (1 : Int32)) = a
  rw [upd_at]
  by_cases hz : a = 0
  · rw [if_pos hz]
    rw [show (1 : Int32) + 1 = 2 by decide]
    exact wgP_2_2 hC hG hN hL0 hL1 _ _ _ _ _ _ _ _ _ _ _ _ _ _ _ _ _ _ _ _ _ _ _ _ _ _ n (by omega) (h.step (r := 1) (a := a) (a₁ := a) (d := 0) (by decide) hw.1 hl rfl (by rw [if_pos hz]))
  · rw [if_neg hz]
    rw [show (1 : Int32) + 1 = 2 by decide]
    exact wgP_2_2 hC hG hN hL0 hL1 _ _ _ _ _ _ _ _ _ _ _ _ _ _ _ _ _ _ _ _ _ _ _ _ _ _ n (by omega) (h.step (r := 1) (a := a) (a₁ := a) (d := 1) (by decide) hw.1 hl rfl (by rw [if_neg hz]))
theorem wgP_2_0 {Bf_1 Bf_2 Bf_3 Bf_4 Bf_5 Bf_6 Bf_7 Bf_8 Nf_1 Nf_2 Nf_3 R0f_1 R1f_1 g2 g4 g5 s0 : Nat → Int32} {Bv_0 Bv_1 Bv_2 Bv_3 Bv_4 Bv_5 Nv_0 : Int32} {R0n R1n : Nat} {Q0 Q1 : RuA} (hC : BgC Bv_0 Bv_1 Bv_2 Bv_3 Bv_4 Bv_5 Bf_1 Bf_2 Bf_3 Bf_4 Bf_5 Bf_6 Bf_7 Bf_8 s0) (hG : GsB s0) (hN : NtE Nf_1 Nf_2 Nf_3 Nv_0 s0) (hL0 : CdE R0f_1 (ru_fl Q0) ∧ (ru_fl Q0).length = R0n ∧ R0n ≤ 400 ∧ RwR g2 g4 g5 0 Q0 ∧ ru_ok Q0) (hL1 : CdE R1f_1 (ru_fl Q1) ∧ (ru_fl Q1).length = R1n ∧ R1n ≤ 400 ∧ RwR g2 g4 g5 1 Q1 ∧ ru_ok Q1) : ∀ (yy_900 yy_901 : Nat → Int32) (yy_902 yy_903 yy_904 yy_905 yy_906 yy_907 : Int32) (yy_908 yy_909 yy_910 yy_911 yy_912 yy_913 yy_914 yy_915 : Nat → Int32) (yy_916 : Int32) (yy_917 yy_918 : Nat → Int64) (V G s : Nat → Int32) (g8 g9 : Nat → Int64) (tp fo : Int32) (n : Nat), 8 ≤ n → WgI 0 yy_900 yy_901 V G s0 s yy_916 → WgQ 2 (dX2_wgh2_u8_0 Bf_1 Bf_2 Bf_3 Bf_4 Bf_5 Bf_6 Bf_7 Bf_8 Bv_0 Bv_1 Bv_2 Bv_3 Bv_4 Bv_5 Nf_1 Nf_2 Nf_3 Nv_0 R0f_1 R1f_1 R0n R1n yy_900 yy_901 yy_902 yy_903 yy_904 yy_905 yy_906 yy_907 yy_908 yy_909 yy_910 yy_911 yy_912 yy_913 yy_914 yy_915 yy_916 yy_917 yy_918).1 (dX2_wgh2_u8_0 Bf_1 Bf_2 Bf_3 Bf_4 Bf_5 Bf_6 Bf_7 Bf_8 Bv_0 Bv_1 Bv_2 Bv_3 Bv_4 Bv_5 Nf_1 Nf_2 Nf_3 Nv_0 R0f_1 R1f_1 R0n R1n yy_900 yy_901 yy_902 yy_903 yy_904 yy_905 yy_906 yy_907 yy_908 yy_909 yy_910 yy_911 yy_912 yy_913 yy_914 yy_915 yy_916 yy_917 yy_918).2.1 (dX2_wgh2_u8_0 Bf_1 Bf_2 Bf_3 Bf_4 Bf_5 Bf_6 Bf_7 Bf_8 Bv_0 Bv_1 Bv_2 Bv_3 Bv_4 Bv_5 Nf_1 Nf_2 Nf_3 Nv_0 R0f_1 R1f_1 R0n R1n yy_900 yy_901 yy_902 yy_903 yy_904 yy_905 yy_906 yy_907 yy_908 yy_909 yy_910 yy_911 yy_912 yy_913 yy_914 yy_915 yy_916 yy_917 yy_918).2.2.2.2.2.2.2.2.2.2.2.2.2.2.2.2.1 (dX12_fillsFits_l11 g2 g4 g5 (2 : Int32) 0 n (0 : Int32) g8 g9 G V tp fo s).2.2.2.2.1 (dX12_fillsFits_l11 g2 g4 g5 (2 : Int32) 0 n (0 : Int32) g8 g9 G V tp fo s).2.2.2.1 s0 (dX12_fillsFits_l11 g2 g4 g5 (2 : Int32) 0 n (0 : Int32) g8 g9 G V tp fo s).2.2.2.2.2.2.2 := by
  intro yy_900 yy_901 yy_902 yy_903 yy_904 yy_905 yy_906 yy_907 yy_908 yy_909 yy_910 yy_911 yy_912 yy_913 yy_914 yy_915 yy_916 yy_917 yy_918 V G s g8 g9 tp fo n hn h
  obtain ⟨n, rfl⟩ : ∃ m, n = m + 1 := ⟨n - 1, by omega⟩
  rw [dX2_wgh2_u8_0_s, dX12_fillsFits_l11_s, if_neg (show ¬ (2 : Int32) < (0 : Int32) by decide)]
  have hB := begins_is (s := s)
  have hg := hG.tl h.2.2.2
  have hb := hg.begin hB
  have hc := BgC.begin (y1 := yy_908) (y2 := yy_909) (y3 := yy_910) (y4 := yy_911) (y5 := yy_912) (y6 := yy_913) (y7 := yy_914) (y8 := yy_915) (hC.tl h.2.2.2) hg hB
  have hw := wk_wgh2_l67v2 (r := 0) (g2 := g2) (g4 := g4) (g5 := g5) (by decide) (by decide) ((61 - (0 : Int32).toInt).toNat + 1) 0 Bv_0 Bv_4 Bv_5 tp yy_900 _ _ _ _ V (dX12_begins s) g8 g9 hc hb.1 (by rw [hb.2]; decide) (by decide) (by decide) (by decide) (by rw [show 61 * (0 : Int32).toInt.toNat + (0 : Int32).toInt.toNat = 61 * 0 by decide]; exact h.1)
  rw [show 61 * (0 : Int32).toInt.toNat + 61 = 61 * 0 + 61 by decide] at hw
  generalize (dX2_wgh2_l67v2 Bf_1 Bf_2 Bf_3 Bf_4 Bf_5 Bf_6 Bf_7 Bf_8 Bv_1 Bv_2 Bv_3 (0 : Int32) yy_908 yy_909 yy_910 yy_911 yy_912 yy_913 yy_914 yy_915 ((61 - (0 : Int32).toInt).toNat + 1) (0 : Int32) yy_900 Bv_0 Bv_4 Bv_5 ((dX9_copyFrom yy_908 yy_909 yy_910 yy_911 yy_912 yy_913 yy_914 yy_915 Bf_1 Bf_2 Bf_3 Bf_4 Bf_5 Bf_6 Bf_7 Bf_8).2.2.1) ((dX9_copyFrom yy_908 yy_909 yy_910 yy_911 yy_912 yy_913 yy_914 yy_915 Bf_1 Bf_2 Bf_3 Bf_4 Bf_5 Bf_6 Bf_7 Bf_8).2.2.2.2.2.1) ((dX9_copyFrom yy_908 yy_909 yy_910 yy_911 yy_912 yy_913 yy_914 yy_915 Bf_1 Bf_2 Bf_3 Bf_4 Bf_5 Bf_6 Bf_7 Bf_8).2.2.2.2.2.2.1) ((dX9_copyFrom yy_908 yy_909 yy_910 yy_911 yy_912 yy_913 yy_914 yy_915 Bf_1 Bf_2 Bf_3 Bf_4 Bf_5 Bf_6 Bf_7 Bf_8).2.2.2.2.2.2.2)) = X at hw ⊢
  generalize dX12_fillsFits_l32 g2 g4 g5 0 (0 : Int32) (0 : Int32) ((61 - (0 : Int32).toInt).toNat + 1) (0 : Int32) g8 g9 V tp (dX12_begins s) = Z at hw ⊢
  have hl : Tl6 s Z.2.2.2.2.2 := hB.six.tr hw.2.six
  have ha : dX2_agrees Nf_1 Nf_2 Nf_3 Nv_0 X.2.1 (0 : Int32) = dX12_areNotesSo Z.2.2.2.2.2 Z.2.2.2.1 (0 : Int32) := agree_is (hN.tl (h.2.2.2.tr hl)) (by decide) (by rw [show 61 * (0 : Int32).toInt.toNat + 61 = 61 * 0 + 61 by decide]; exact hw.1)
  rw [ha]
  generalize vp_nar .boolean (dX12_areNotesSo Z.2.2.2.2.2 Z.2.2.2.1 (0 : Int32)) = a
  rw [upd_at]
  by_cases hz : a = 0
  · rw [if_pos hz]
    rw [show (0 : Int32) + 1 = 1 by decide]
    exact wgP_2_1 hC hG hN hL0 hL1 _ _ _ _ _ _ _ _ _ _ _ _ _ _ _ _ _ _ _ _ _ _ _ _ _ _ n (by omega) (h.step (r := 0) (a := a) (a₁ := a) (d := 0) (by decide) hw.1 hl rfl (by rw [if_pos hz]))
  · rw [if_neg hz]
    rw [show (0 : Int32) + 1 = 1 by decide]
    exact wgP_2_1 hC hG hN hL0 hL1 _ _ _ _ _ _ _ _ _ _ _ _ _ _ _ _ _ _ _ _ _ _ _ _ _ _ n (by omega) (h.step (r := 0) (a := a) (a₁ := a) (d := 1) (by decide) hw.1 hl rfl (by rw [if_neg hz]))
theorem wgP_3_7 {V G s0 s : Nat → Int32} : ∀ (yy_900 yy_901 : Nat → Int32) (yy_902 yy_903 yy_904 yy_905 yy_906 yy_907 : Int32) (yy_908 yy_909 yy_910 yy_911 yy_912 yy_913 yy_914 yy_915 : Nat → Int32) (yy_916 : Int32) (yy_917 yy_918 yy_919 : Nat → Int64), WgE 3 7 yy_900 yy_901 V G s0 s yy_916 → WgQ 3 (dX2_wgh3_u8_7 yy_900 yy_901 yy_902 yy_903 yy_904 yy_905 yy_906 yy_907 yy_908 yy_909 yy_910 yy_911 yy_912 yy_913 yy_914 yy_915 yy_916 yy_917 yy_918 yy_919).1 (dX2_wgh3_u8_7 yy_900 yy_901 yy_902 yy_903 yy_904 yy_905 yy_906 yy_907 yy_908 yy_909 yy_910 yy_911 yy_912 yy_913 yy_914 yy_915 yy_916 yy_917 yy_918 yy_919).2.1 (dX2_wgh3_u8_7 yy_900 yy_901 yy_902 yy_903 yy_904 yy_905 yy_906 yy_907 yy_908 yy_909 yy_910 yy_911 yy_912 yy_913 yy_914 yy_915 yy_916 yy_917 yy_918 yy_919).2.2.2.2.2.2.2.2.2.2.2.2.2.2.2.2.1 V G s0 s := by
  intro yy_900 yy_901 yy_902 yy_903 yy_904 yy_905 yy_906 yy_907 yy_908 yy_909 yy_910 yy_911 yy_912 yy_913 yy_914 yy_915 yy_916 yy_917 yy_918 yy_919 h
  rw [dX2_wgh3_u8_7_s]
  exact ⟨h.1, h.2.1, h.2.2.1, h.2.2.2.1, h.2.2.2.2⟩
theorem wgP_3_6 {V G s0 s : Nat → Int32} : ∀ (yy_900 yy_901 : Nat → Int32) (yy_902 yy_903 yy_904 yy_905 yy_906 yy_907 : Int32) (yy_908 yy_909 yy_910 yy_911 yy_912 yy_913 yy_914 yy_915 : Nat → Int32) (yy_916 : Int32) (yy_917 yy_918 yy_919 : Nat → Int64), WgE 3 6 yy_900 yy_901 V G s0 s yy_916 → WgQ 3 (dX2_wgh3_u8_6 yy_900 yy_901 yy_902 yy_903 yy_904 yy_905 yy_906 yy_907 yy_908 yy_909 yy_910 yy_911 yy_912 yy_913 yy_914 yy_915 yy_916 yy_917 yy_918 yy_919).1 (dX2_wgh3_u8_6 yy_900 yy_901 yy_902 yy_903 yy_904 yy_905 yy_906 yy_907 yy_908 yy_909 yy_910 yy_911 yy_912 yy_913 yy_914 yy_915 yy_916 yy_917 yy_918 yy_919).2.1 (dX2_wgh3_u8_6 yy_900 yy_901 yy_902 yy_903 yy_904 yy_905 yy_906 yy_907 yy_908 yy_909 yy_910 yy_911 yy_912 yy_913 yy_914 yy_915 yy_916 yy_917 yy_918 yy_919).2.2.2.2.2.2.2.2.2.2.2.2.2.2.2.2.1 V G s0 s := by
  intro yy_900 yy_901 yy_902 yy_903 yy_904 yy_905 yy_906 yy_907 yy_908 yy_909 yy_910 yy_911 yy_912 yy_913 yy_914 yy_915 yy_916 yy_917 yy_918 yy_919 h
  rw [dX2_wgh3_u8_6_s]
  exact wgP_3_7 _ _ _ _ _ _ _ _ _ _ _ _ _ _ _ _ _ _ _ _ (h.step (by decide) (by decide) nar0)
theorem wgP_3_5 {V G s0 s : Nat → Int32} : ∀ (yy_900 yy_901 : Nat → Int32) (yy_902 yy_903 yy_904 yy_905 yy_906 yy_907 : Int32) (yy_908 yy_909 yy_910 yy_911 yy_912 yy_913 yy_914 yy_915 : Nat → Int32) (yy_916 : Int32) (yy_917 yy_918 yy_919 : Nat → Int64), WgE 3 5 yy_900 yy_901 V G s0 s yy_916 → WgQ 3 (dX2_wgh3_u8_5 yy_900 yy_901 yy_902 yy_903 yy_904 yy_905 yy_906 yy_907 yy_908 yy_909 yy_910 yy_911 yy_912 yy_913 yy_914 yy_915 yy_916 yy_917 yy_918 yy_919).1 (dX2_wgh3_u8_5 yy_900 yy_901 yy_902 yy_903 yy_904 yy_905 yy_906 yy_907 yy_908 yy_909 yy_910 yy_911 yy_912 yy_913 yy_914 yy_915 yy_916 yy_917 yy_918 yy_919).2.1 (dX2_wgh3_u8_5 yy_900 yy_901 yy_902 yy_903 yy_904 yy_905 yy_906 yy_907 yy_908 yy_909 yy_910 yy_911 yy_912 yy_913 yy_914 yy_915 yy_916 yy_917 yy_918 yy_919).2.2.2.2.2.2.2.2.2.2.2.2.2.2.2.2.1 V G s0 s := by
  intro yy_900 yy_901 yy_902 yy_903 yy_904 yy_905 yy_906 yy_907 yy_908 yy_909 yy_910 yy_911 yy_912 yy_913 yy_914 yy_915 yy_916 yy_917 yy_918 yy_919 h
  rw [dX2_wgh3_u8_5_s]
  exact wgP_3_6 _ _ _ _ _ _ _ _ _ _ _ _ _ _ _ _ _ _ _ _ (h.step (by decide) (by decide) nar0)
theorem wgP_3_4 {V G s0 s : Nat → Int32} : ∀ (yy_900 yy_901 : Nat → Int32) (yy_902 yy_903 yy_904 yy_905 yy_906 yy_907 : Int32) (yy_908 yy_909 yy_910 yy_911 yy_912 yy_913 yy_914 yy_915 : Nat → Int32) (yy_916 : Int32) (yy_917 yy_918 yy_919 : Nat → Int64), WgE 3 4 yy_900 yy_901 V G s0 s yy_916 → WgQ 3 (dX2_wgh3_u8_4 yy_900 yy_901 yy_902 yy_903 yy_904 yy_905 yy_906 yy_907 yy_908 yy_909 yy_910 yy_911 yy_912 yy_913 yy_914 yy_915 yy_916 yy_917 yy_918 yy_919).1 (dX2_wgh3_u8_4 yy_900 yy_901 yy_902 yy_903 yy_904 yy_905 yy_906 yy_907 yy_908 yy_909 yy_910 yy_911 yy_912 yy_913 yy_914 yy_915 yy_916 yy_917 yy_918 yy_919).2.1 (dX2_wgh3_u8_4 yy_900 yy_901 yy_902 yy_903 yy_904 yy_905 yy_906 yy_907 yy_908 yy_909 yy_910 yy_911 yy_912 yy_913 yy_914 yy_915 yy_916 yy_917 yy_918 yy_919).2.2.2.2.2.2.2.2.2.2.2.2.2.2.2.2.1 V G s0 s := by
  intro yy_900 yy_901 yy_902 yy_903 yy_904 yy_905 yy_906 yy_907 yy_908 yy_909 yy_910 yy_911 yy_912 yy_913 yy_914 yy_915 yy_916 yy_917 yy_918 yy_919 h
  rw [dX2_wgh3_u8_4_s]
  exact wgP_3_5 _ _ _ _ _ _ _ _ _ _ _ _ _ _ _ _ _ _ _ _ (h.step (by decide) (by decide) nar0)
theorem wgP_3_3 {Bf_1 Bf_2 Bf_3 Bf_4 Bf_5 Bf_6 Bf_7 Bf_8 Nf_1 Nf_2 Nf_3 R0f_1 R1f_1 R2f_1 g2 g4 g5 s0 : Nat → Int32} {Bv_0 Bv_1 Bv_2 Bv_3 Bv_4 Bv_5 Nv_0 : Int32} {R0n R1n R2n : Nat} {Q0 Q1 Q2 : RuA} (hC : BgC Bv_0 Bv_1 Bv_2 Bv_3 Bv_4 Bv_5 Bf_1 Bf_2 Bf_3 Bf_4 Bf_5 Bf_6 Bf_7 Bf_8 s0) (hG : GsB s0) (hN : NtE Nf_1 Nf_2 Nf_3 Nv_0 s0) (hL0 : CdE R0f_1 (ru_fl Q0) ∧ (ru_fl Q0).length = R0n ∧ R0n ≤ 400 ∧ RwR g2 g4 g5 0 Q0 ∧ ru_ok Q0) (hL1 : CdE R1f_1 (ru_fl Q1) ∧ (ru_fl Q1).length = R1n ∧ R1n ≤ 400 ∧ RwR g2 g4 g5 1 Q1 ∧ ru_ok Q1) (hL2 : CdE R2f_1 (ru_fl Q2) ∧ (ru_fl Q2).length = R2n ∧ R2n ≤ 400 ∧ RwR g2 g4 g5 2 Q2 ∧ ru_ok Q2) : ∀ (yy_900 yy_901 : Nat → Int32) (yy_902 yy_903 yy_904 yy_905 yy_906 yy_907 : Int32) (yy_908 yy_909 yy_910 yy_911 yy_912 yy_913 yy_914 yy_915 : Nat → Int32) (yy_916 : Int32) (yy_917 yy_918 yy_919 : Nat → Int64) (V G s : Nat → Int32) (g8 g9 : Nat → Int64) (tp fo : Int32) (n : Nat), 5 ≤ n → WgI 3 yy_900 yy_901 V G s0 s yy_916 → WgQ 3 (dX2_wgh3_u8_3 Bf_1 Bf_2 Bf_3 Bf_4 Bf_5 Bf_6 Bf_7 Bf_8 Bv_0 Bv_1 Bv_2 Bv_3 Bv_4 Bv_5 Nf_1 Nf_2 Nf_3 Nv_0 R2f_1 R2n yy_900 yy_901 yy_902 yy_903 yy_904 yy_905 yy_906 yy_907 yy_908 yy_909 yy_910 yy_911 yy_912 yy_913 yy_914 yy_915 yy_916 yy_917 yy_918 yy_919).1 (dX2_wgh3_u8_3 Bf_1 Bf_2 Bf_3 Bf_4 Bf_5 Bf_6 Bf_7 Bf_8 Bv_0 Bv_1 Bv_2 Bv_3 Bv_4 Bv_5 Nf_1 Nf_2 Nf_3 Nv_0 R2f_1 R2n yy_900 yy_901 yy_902 yy_903 yy_904 yy_905 yy_906 yy_907 yy_908 yy_909 yy_910 yy_911 yy_912 yy_913 yy_914 yy_915 yy_916 yy_917 yy_918 yy_919).2.1 (dX2_wgh3_u8_3 Bf_1 Bf_2 Bf_3 Bf_4 Bf_5 Bf_6 Bf_7 Bf_8 Bv_0 Bv_1 Bv_2 Bv_3 Bv_4 Bv_5 Nf_1 Nf_2 Nf_3 Nv_0 R2f_1 R2n yy_900 yy_901 yy_902 yy_903 yy_904 yy_905 yy_906 yy_907 yy_908 yy_909 yy_910 yy_911 yy_912 yy_913 yy_914 yy_915 yy_916 yy_917 yy_918 yy_919).2.2.2.2.2.2.2.2.2.2.2.2.2.2.2.2.1 (dX12_fillsFits_l11 g2 g4 g5 (3 : Int32) 0 n (3 : Int32) g8 g9 G V tp fo s).2.2.2.2.1 (dX12_fillsFits_l11 g2 g4 g5 (3 : Int32) 0 n (3 : Int32) g8 g9 G V tp fo s).2.2.2.1 s0 (dX12_fillsFits_l11 g2 g4 g5 (3 : Int32) 0 n (3 : Int32) g8 g9 G V tp fo s).2.2.2.2.2.2.2 := by
  intro yy_900 yy_901 yy_902 yy_903 yy_904 yy_905 yy_906 yy_907 yy_908 yy_909 yy_910 yy_911 yy_912 yy_913 yy_914 yy_915 yy_916 yy_917 yy_918 yy_919 V G s g8 g9 tp fo n hn h
  obtain ⟨n, rfl⟩ : ∃ m, n = m + 1 := ⟨n - 1, by omega⟩
  rw [dX2_wgh3_u8_3_s, dX12_fillsFits_l11_s, if_neg (show ¬ (3 : Int32) < (3 : Int32) by decide)]
  have hB := begins_is (s := s)
  have hg := hG.tl h.2.2.2
  have hb := hg.begin hB
  have hc := BgC.begin (y1 := yy_908) (y2 := yy_909) (y3 := yy_910) (y4 := yy_911) (y5 := yy_912) (y6 := yy_913) (y7 := yy_914) (y8 := yy_915) (hC.tl h.2.2.2) hg hB
  have hw := wk_wgh3_l67 (r := 3) (by decide) hL2.1 hL2.2.1 hL2.2.2.1 (by decide) (by rw [show ((3 : Int32) - 1).toInt.toNat = 2 by decide]; exact hL2.2.2.2.1) hL2.2.2.2.2 ((61 - (0 : Int32).toInt).toNat + 1) 0 Bv_0 Bv_4 Bv_5 tp yy_900 _ _ _ _ V (dX12_begins s) yy_919 g8 g9 hc hb.1 (by rw [hb.2]; decide) (by decide) (by decide) (by decide) (by rw [show 61 * (3 : Int32).toInt.toNat + (0 : Int32).toInt.toNat = 61 * 3 by decide]; exact h.1)
  rw [show 61 * (3 : Int32).toInt.toNat + 61 = 61 * 3 + 61 by decide] at hw
  generalize (dX2_wgh3_l67 Bf_1 Bf_2 Bf_3 Bf_4 Bf_5 Bf_6 Bf_7 Bf_8 Bv_1 Bv_2 Bv_3 R2f_1 R2n (3 : Int32) yy_908 yy_909 yy_910 yy_911 yy_912 yy_913 yy_914 yy_915 ((61 - (0 : Int32).toInt).toNat + 1) (0 : Int32) yy_900 yy_919 Bv_0 Bv_4 Bv_5 ((dX9_copyFrom yy_908 yy_909 yy_910 yy_911 yy_912 yy_913 yy_914 yy_915 Bf_1 Bf_2 Bf_3 Bf_4 Bf_5 Bf_6 Bf_7 Bf_8).2.2.1) ((dX9_copyFrom yy_908 yy_909 yy_910 yy_911 yy_912 yy_913 yy_914 yy_915 Bf_1 Bf_2 Bf_3 Bf_4 Bf_5 Bf_6 Bf_7 Bf_8).2.2.2.2.2.1) ((dX9_copyFrom yy_908 yy_909 yy_910 yy_911 yy_912 yy_913 yy_914 yy_915 Bf_1 Bf_2 Bf_3 Bf_4 Bf_5 Bf_6 Bf_7 Bf_8).2.2.2.2.2.2.1) ((dX9_copyFrom yy_908 yy_909 yy_910 yy_911 yy_912 yy_913 yy_914 yy_915 Bf_1 Bf_2 Bf_3 Bf_4 Bf_5 Bf_6 Bf_7 Bf_8).2.2.2.2.2.2.2)) = X at hw ⊢
  generalize dX12_fillsFits_l32 g2 g4 g5 0 (3 : Int32) (3 : Int32) ((61 - (0 : Int32).toInt).toNat + 1) (0 : Int32) g8 g9 V tp (dX12_begins s) = Z at hw ⊢
  have hl : Tl6 s Z.2.2.2.2.2 := hB.six.tr hw.2.six
  have ha : dX2_agrees Nf_1 Nf_2 Nf_3 Nv_0 X.2.1 (3 : Int32) = dX12_areNotesSo Z.2.2.2.2.2 Z.2.2.2.1 (3 : Int32) := agree_is (hN.tl (h.2.2.2.tr hl)) (by decide) (by rw [show 61 * (3 : Int32).toInt.toNat + 61 = 61 * 3 + 61 by decide]; exact hw.1)
  rw [ha]
  generalize vp_nar .boolean (dX12_areNotesSo Z.2.2.2.2.2 Z.2.2.2.1 (3 : Int32)) = a
  rw [upd_at]
  by_cases hz : a = 0
  · rw [if_pos hz]
    obtain ⟨n, rfl⟩ : ∃ m, n = m + 1 := ⟨n - 1, by omega⟩
    rw [dX12_fillsFits_l11_s, if_pos (show (3 : Int32) < (3 : Int32) + 1 by decide)]
    refine wgP_3_4 _ _ _ _ _ _ _ _ _ _ _ _ _ _ _ _ _ _ _ _ ?_
    have hE := (h.step (r := 3) (a := a) (a₁ := a) (x := vp_nar .boolean (0 : Int32)) (d := 0) (by decide) hw.1 hl rfl (by rw [if_pos hz])).e
    obtain ⟨e1, e2, e3, e4, e5⟩ := hE
    refine ⟨?_, e2, e3, e4, ?_⟩
    · intro k hk
      exact e1 k hk
    · intro k hk
      exact e5 k hk
  · rw [if_neg hz]
    obtain ⟨n, rfl⟩ : ∃ m, n = m + 1 := ⟨n - 1, by omega⟩
    rw [dX12_fillsFits_l11_s, if_pos (show (3 : Int32) < (3 : Int32) + 1 by decide)]
    refine wgP_3_4 _ _ _ _ _ _ _ _ _ _ _ _ _ _ _ _ _ _ _ _ ?_
    have hE := (h.step (r := 3) (a := a) (a₁ := a) (x := vp_nar .boolean (0 : Int32)) (d := 1) (by decide) hw.1 hl rfl (by rw [if_neg hz])).e
    obtain ⟨e1, e2, e3, e4, e5⟩ := hE
    refine ⟨?_, e2, e3, e4, ?_⟩
    · intro k hk
      exact e1 k hk
    · intro k hk
      exact e5 k hk
theorem wgP_3_2 {Bf_1 Bf_2 Bf_3 Bf_4 Bf_5 Bf_6 Bf_7 Bf_8 Nf_1 Nf_2 Nf_3 R0f_1 R1f_1 R2f_1 g2 g4 g5 s0 : Nat → Int32} {Bv_0 Bv_1 Bv_2 Bv_3 Bv_4 Bv_5 Nv_0 : Int32} {R0n R1n R2n : Nat} {Q0 Q1 Q2 : RuA} (hC : BgC Bv_0 Bv_1 Bv_2 Bv_3 Bv_4 Bv_5 Bf_1 Bf_2 Bf_3 Bf_4 Bf_5 Bf_6 Bf_7 Bf_8 s0) (hG : GsB s0) (hN : NtE Nf_1 Nf_2 Nf_3 Nv_0 s0) (hL0 : CdE R0f_1 (ru_fl Q0) ∧ (ru_fl Q0).length = R0n ∧ R0n ≤ 400 ∧ RwR g2 g4 g5 0 Q0 ∧ ru_ok Q0) (hL1 : CdE R1f_1 (ru_fl Q1) ∧ (ru_fl Q1).length = R1n ∧ R1n ≤ 400 ∧ RwR g2 g4 g5 1 Q1 ∧ ru_ok Q1) (hL2 : CdE R2f_1 (ru_fl Q2) ∧ (ru_fl Q2).length = R2n ∧ R2n ≤ 400 ∧ RwR g2 g4 g5 2 Q2 ∧ ru_ok Q2) : ∀ (yy_900 yy_901 : Nat → Int32) (yy_902 yy_903 yy_904 yy_905 yy_906 yy_907 : Int32) (yy_908 yy_909 yy_910 yy_911 yy_912 yy_913 yy_914 yy_915 : Nat → Int32) (yy_916 : Int32) (yy_917 yy_918 yy_919 : Nat → Int64) (V G s : Nat → Int32) (g8 g9 : Nat → Int64) (tp fo : Int32) (n : Nat), 6 ≤ n → WgI 2 yy_900 yy_901 V G s0 s yy_916 → WgQ 3 (dX2_wgh3_u8_2 Bf_1 Bf_2 Bf_3 Bf_4 Bf_5 Bf_6 Bf_7 Bf_8 Bv_0 Bv_1 Bv_2 Bv_3 Bv_4 Bv_5 Nf_1 Nf_2 Nf_3 Nv_0 R1f_1 R2f_1 R1n R2n yy_900 yy_901 yy_902 yy_903 yy_904 yy_905 yy_906 yy_907 yy_908 yy_909 yy_910 yy_911 yy_912 yy_913 yy_914 yy_915 yy_916 yy_917 yy_918 yy_919).1 (dX2_wgh3_u8_2 Bf_1 Bf_2 Bf_3 Bf_4 Bf_5 Bf_6 Bf_7 Bf_8 Bv_0 Bv_1 Bv_2 Bv_3 Bv_4 Bv_5 Nf_1 Nf_2 Nf_3 Nv_0 R1f_1 R2f_1 R1n R2n yy_900 yy_901 yy_902 yy_903 yy_904 yy_905 yy_906 yy_907 yy_908 yy_909 yy_910 yy_911 yy_912 yy_913 yy_914 yy_915 yy_916 yy_917 yy_918 yy_919).2.1 (dX2_wgh3_u8_2 Bf_1 Bf_2 Bf_3 Bf_4 Bf_5 Bf_6 Bf_7 Bf_8 Bv_0 Bv_1 Bv_2 Bv_3 Bv_4 Bv_5 Nf_1 Nf_2 Nf_3 Nv_0 R1f_1 R2f_1 R1n R2n yy_900 yy_901 yy_902 yy_903 yy_904 yy_905 yy_906 yy_907 yy_908 yy_909 yy_910 yy_911 yy_912 yy_913 yy_914 yy_915 yy_916 yy_917 yy_918 yy_919).2.2.2.2.2.2.2.2.2.2.2.2.2.2.2.2.1 (dX12_fillsFits_l11 g2 g4 g5 (3 : Int32) 0 n (2 : Int32) g8 g9 G V tp fo s).2.2.2.2.1 (dX12_fillsFits_l11 g2 g4 g5 (3 : Int32) 0 n (2 : Int32) g8 g9 G V tp fo s).2.2.2.1 s0 (dX12_fillsFits_l11 g2 g4 g5 (3 : Int32) 0 n (2 : Int32) g8 g9 G V tp fo s).2.2.2.2.2.2.2 := by
  intro yy_900 yy_901 yy_902 yy_903 yy_904 yy_905 yy_906 yy_907 yy_908 yy_909 yy_910 yy_911 yy_912 yy_913 yy_914 yy_915 yy_916 yy_917 yy_918 yy_919 V G s g8 g9 tp fo n hn h
  obtain ⟨n, rfl⟩ : ∃ m, n = m + 1 := ⟨n - 1, by omega⟩
  rw [dX2_wgh3_u8_2_s, dX12_fillsFits_l11_s, if_neg (show ¬ (3 : Int32) < (2 : Int32) by decide)]
  have hB := begins_is (s := s)
  have hg := hG.tl h.2.2.2
  have hb := hg.begin hB
  have hc := BgC.begin (y1 := yy_908) (y2 := yy_909) (y3 := yy_910) (y4 := yy_911) (y5 := yy_912) (y6 := yy_913) (y7 := yy_914) (y8 := yy_915) (hC.tl h.2.2.2) hg hB
  have hw := wk_wgh3_l67v1 (r := 2) (by decide) hL1.1 hL1.2.1 hL1.2.2.1 (by decide) (by rw [show ((2 : Int32) - 1).toInt.toNat = 1 by decide]; exact hL1.2.2.2.1) hL1.2.2.2.2 ((61 - (0 : Int32).toInt).toNat + 1) 0 Bv_0 Bv_4 Bv_5 tp yy_900 _ _ _ _ V (dX12_begins s) yy_918 g8 g9 hc hb.1 (by rw [hb.2]; decide) (by decide) (by decide) (by decide) (by rw [show 61 * (2 : Int32).toInt.toNat + (0 : Int32).toInt.toNat = 61 * 2 by decide]; exact h.1)
  rw [show 61 * (2 : Int32).toInt.toNat + 61 = 61 * 2 + 61 by decide] at hw
  generalize (dX2_wgh3_l67v1 Bf_1 Bf_2 Bf_3 Bf_4 Bf_5 Bf_6 Bf_7 Bf_8 Bv_1 Bv_2 Bv_3 R1f_1 R1n (2 : Int32) yy_908 yy_909 yy_910 yy_911 yy_912 yy_913 yy_914 yy_915 ((61 - (0 : Int32).toInt).toNat + 1) (0 : Int32) yy_900 yy_918 Bv_0 Bv_4 Bv_5 ((dX9_copyFrom yy_908 yy_909 yy_910 yy_911 yy_912 yy_913 yy_914 yy_915 Bf_1 Bf_2 Bf_3 Bf_4 Bf_5 Bf_6 Bf_7 Bf_8).2.2.1) ((dX9_copyFrom yy_908 yy_909 yy_910 yy_911 yy_912 yy_913 yy_914 yy_915 Bf_1 Bf_2 Bf_3 Bf_4 Bf_5 Bf_6 Bf_7 Bf_8).2.2.2.2.2.1) ((dX9_copyFrom yy_908 yy_909 yy_910 yy_911 yy_912 yy_913 yy_914 yy_915 Bf_1 Bf_2 Bf_3 Bf_4 Bf_5 Bf_6 Bf_7 Bf_8).2.2.2.2.2.2.1) ((dX9_copyFrom yy_908 yy_909 yy_910 yy_911 yy_912 yy_913 yy_914 yy_915 Bf_1 Bf_2 Bf_3 Bf_4 Bf_5 Bf_6 Bf_7 Bf_8).2.2.2.2.2.2.2)) = X at hw ⊢
  generalize dX12_fillsFits_l32 g2 g4 g5 0 (2 : Int32) (2 : Int32) ((61 - (0 : Int32).toInt).toNat + 1) (0 : Int32) g8 g9 V tp (dX12_begins s) = Z at hw ⊢
  have hl : Tl6 s Z.2.2.2.2.2 := hB.six.tr hw.2.six
  have ha : dX2_agrees Nf_1 Nf_2 Nf_3 Nv_0 X.2.1 (2 : Int32) = dX12_areNotesSo Z.2.2.2.2.2 Z.2.2.2.1 (2 : Int32) := agree_is (hN.tl (h.2.2.2.tr hl)) (by decide) (by rw [show 61 * (2 : Int32).toInt.toNat + 61 = 61 * 2 + 61 by decide]; exact hw.1)
  rw [ha]
  generalize vp_nar .boolean (dX12_areNotesSo Z.2.2.2.2.2 Z.2.2.2.1 (2 : Int32)) = a
  rw [upd_at]
  by_cases hz : a = 0
  · rw [if_pos hz]
    rw [show (2 : Int32) + 1 = 3 by decide]
    exact wgP_3_3 hC hG hN hL0 hL1 hL2 _ _ _ _ _ _ _ _ _ _ _ _ _ _ _ _ _ _ _ _ _ _ _ _ _ _ _ n (by omega) (h.step (r := 2) (a := a) (a₁ := a) (d := 0) (by decide) hw.1 hl rfl (by rw [if_pos hz]))
  · rw [if_neg hz]
    rw [show (2 : Int32) + 1 = 3 by decide]
    exact wgP_3_3 hC hG hN hL0 hL1 hL2 _ _ _ _ _ _ _ _ _ _ _ _ _ _ _ _ _ _ _ _ _ _ _ _ _ _ _ n (by omega) (h.step (r := 2) (a := a) (a₁ := a) (d := 1) (by decide) hw.1 hl rfl (by rw [if_neg hz]))
theorem wgP_3_1 {Bf_1 Bf_2 Bf_3 Bf_4 Bf_5 Bf_6 Bf_7 Bf_8 Nf_1 Nf_2 Nf_3 R0f_1 R1f_1 R2f_1 g2 g4 g5 s0 : Nat → Int32} {Bv_0 Bv_1 Bv_2 Bv_3 Bv_4 Bv_5 Nv_0 : Int32} {R0n R1n R2n : Nat} {Q0 Q1 Q2 : RuA} (hC : BgC Bv_0 Bv_1 Bv_2 Bv_3 Bv_4 Bv_5 Bf_1 Bf_2 Bf_3 Bf_4 Bf_5 Bf_6 Bf_7 Bf_8 s0) (hG : GsB s0) (hN : NtE Nf_1 Nf_2 Nf_3 Nv_0 s0) (hL0 : CdE R0f_1 (ru_fl Q0) ∧ (ru_fl Q0).length = R0n ∧ R0n ≤ 400 ∧ RwR g2 g4 g5 0 Q0 ∧ ru_ok Q0) (hL1 : CdE R1f_1 (ru_fl Q1) ∧ (ru_fl Q1).length = R1n ∧ R1n ≤ 400 ∧ RwR g2 g4 g5 1 Q1 ∧ ru_ok Q1) (hL2 : CdE R2f_1 (ru_fl Q2) ∧ (ru_fl Q2).length = R2n ∧ R2n ≤ 400 ∧ RwR g2 g4 g5 2 Q2 ∧ ru_ok Q2) : ∀ (yy_900 yy_901 : Nat → Int32) (yy_902 yy_903 yy_904 yy_905 yy_906 yy_907 : Int32) (yy_908 yy_909 yy_910 yy_911 yy_912 yy_913 yy_914 yy_915 : Nat → Int32) (yy_916 : Int32) (yy_917 yy_918 yy_919 : Nat → Int64) (V G s : Nat → Int32) (g8 g9 : Nat → Int64) (tp fo : Int32) (n : Nat), 7 ≤ n → WgI 1 yy_900 yy_901 V G s0 s yy_916 → WgQ 3 (dX2_wgh3_u8_1 Bf_1 Bf_2 Bf_3 Bf_4 Bf_5 Bf_6 Bf_7 Bf_8 Bv_0 Bv_1 Bv_2 Bv_3 Bv_4 Bv_5 Nf_1 Nf_2 Nf_3 Nv_0 R0f_1 R1f_1 R2f_1 R0n R1n R2n yy_900 yy_901 yy_902 yy_903 yy_904 yy_905 yy_906 yy_907 yy_908 yy_909 yy_910 yy_911 yy_912 yy_913 yy_914 yy_915 yy_916 yy_917 yy_918 yy_919).1 (dX2_wgh3_u8_1 Bf_1 Bf_2 Bf_3 Bf_4 Bf_5 Bf_6 Bf_7 Bf_8 Bv_0 Bv_1 Bv_2 Bv_3 Bv_4 Bv_5 Nf_1 Nf_2 Nf_3 Nv_0 R0f_1 R1f_1 R2f_1 R0n R1n R2n yy_900 yy_901 yy_902 yy_903 yy_904 yy_905 yy_906 yy_907 yy_908 yy_909 yy_910 yy_911 yy_912 yy_913 yy_914 yy_915 yy_916 yy_917 yy_918 yy_919).2.1 (dX2_wgh3_u8_1 Bf_1 Bf_2 Bf_3 Bf_4 Bf_5 Bf_6 Bf_7 Bf_8 Bv_0 Bv_1 Bv_2 Bv_3 Bv_4 Bv_5 Nf_1 Nf_2 Nf_3 Nv_0 R0f_1 R1f_1 R2f_1 R0n R1n R2n yy_900 yy_901 yy_902 yy_903 yy_904 yy_905 yy_906 yy_907 yy_908 yy_909 yy_910 yy_911 yy_912 yy_913 yy_914 yy_915 yy_916 yy_917 yy_918 yy_919).2.2.2.2.2.2.2.2.2.2.2.2.2.2.2.2.1 (dX12_fillsFits_l11 g2 g4 g5 (3 : Int32) 0 n (1 : Int32) g8 g9 G V tp fo s).2.2.2.2.1 (dX12_fillsFits_l11 g2 g4 g5 (3 : Int32) 0 n (1 : Int32) g8 g9 G V tp fo s).2.2.2.1 s0 (dX12_fillsFits_l11 g2 g4 g5 (3 : Int32) 0 n (1 : Int32) g8 g9 G V tp fo s).2.2.2.2.2.2.2 := by
  intro yy_900 yy_901 yy_902 yy_903 yy_904 yy_905 yy_906 yy_907 yy_908 yy_909 yy_910 yy_911 yy_912 yy_913 yy_914 yy_915 yy_916 yy_917 yy_918 yy_919 V G s g8 g9 tp fo n hn h
  obtain ⟨n, rfl⟩ : ∃ m, n = m + 1 := ⟨n - 1, by omega⟩
  rw [dX2_wgh3_u8_1_s, dX12_fillsFits_l11_s, if_neg (show ¬ (3 : Int32) < (1 : Int32) by decide)]
  have hB := begins_is (s := s)
  have hg := hG.tl h.2.2.2
  have hb := hg.begin hB
  have hc := BgC.begin (y1 := yy_908) (y2 := yy_909) (y3 := yy_910) (y4 := yy_911) (y5 := yy_912) (y6 := yy_913) (y7 := yy_914) (y8 := yy_915) (hC.tl h.2.2.2) hg hB
  have hw := wk_wgh3_l67v2 (r := 1) (by decide) hL0.1 hL0.2.1 hL0.2.2.1 (by decide) (by rw [show ((1 : Int32) - 1).toInt.toNat = 0 by decide]; exact hL0.2.2.2.1) hL0.2.2.2.2 ((61 - (0 : Int32).toInt).toNat + 1) 0 Bv_0 Bv_4 Bv_5 tp yy_900 _ _ _ _ V (dX12_begins s) yy_917 g8 g9 hc hb.1 (by rw [hb.2]; decide) (by decide) (by decide) (by decide) (by rw [show 61 * (1 : Int32).toInt.toNat + (0 : Int32).toInt.toNat = 61 * 1 by decide]; exact h.1)
  rw [show 61 * (1 : Int32).toInt.toNat + 61 = 61 * 1 + 61 by decide] at hw
  generalize (dX2_wgh3_l67v2 Bf_1 Bf_2 Bf_3 Bf_4 Bf_5 Bf_6 Bf_7 Bf_8 Bv_1 Bv_2 Bv_3 R0f_1 R0n (1 : Int32) yy_908 yy_909 yy_910 yy_911 yy_912 yy_913 yy_914 yy_915 ((61 - (0 : Int32).toInt).toNat + 1) (0 : Int32) yy_900 yy_917 Bv_0 Bv_4 Bv_5 ((dX9_copyFrom yy_908 yy_909 yy_910 yy_911 yy_912 yy_913 yy_914 yy_915 Bf_1 Bf_2 Bf_3 Bf_4 Bf_5 Bf_6 Bf_7 Bf_8).2.2.1) ((dX9_copyFrom yy_908 yy_909 yy_910 yy_911 yy_912 yy_913 yy_914 yy_915 Bf_1 Bf_2 Bf_3 Bf_4 Bf_5 Bf_6 Bf_7 Bf_8).2.2.2.2.2.1) ((dX9_copyFrom yy_908 yy_909 yy_910 yy_911 yy_912 yy_913 yy_914 yy_915 Bf_1 Bf_2 Bf_3 Bf_4 Bf_5 Bf_6 Bf_7 Bf_8).2.2.2.2.2.2.1) ((dX9_copyFrom yy_908 yy_909 yy_910 yy_911 yy_912 yy_913 yy_914 yy_915 Bf_1 Bf_2 Bf_3 Bf_4 Bf_5 Bf_6 Bf_7 Bf_8).2.2.2.2.2.2.2)) = X at hw ⊢
  generalize dX12_fillsFits_l32 g2 g4 g5 0 (1 : Int32) (1 : Int32) ((61 - (0 : Int32).toInt).toNat + 1) (0 : Int32) g8 g9 V tp (dX12_begins s) = Z at hw ⊢
  have hl : Tl6 s Z.2.2.2.2.2 := hB.six.tr hw.2.six
  have ha : dX2_agrees Nf_1 Nf_2 Nf_3 Nv_0 X.2.1 (1 : Int32) = dX12_areNotesSo Z.2.2.2.2.2 Z.2.2.2.1 (1 : Int32) := agree_is (hN.tl (h.2.2.2.tr hl)) (by decide) (by rw [show 61 * (1 : Int32).toInt.toNat + 61 = 61 * 1 + 61 by decide]; exact hw.1)
  rw [ha]
  generalize vp_nar .boolean (dX12_areNotesSo Z.2.2.2.2.2 Z.2.2.2.1 (1 : Int32)) = a
  rw [upd_at]
  by_cases hz : a = 0
  · rw [if_pos hz]
    rw [show (1 : Int32) + 1 = 2 by decide]
    exact wgP_3_2 hC hG hN hL0 hL1 hL2 _ _ _ _ _ _ _ _ _ _ _ _ _ _ _ _ _ _ _ _ _ _ _ _ _ _ _ n (by omega) (h.step (r := 1) (a := a) (a₁ := a) (d := 0) (by decide) hw.1 hl rfl (by rw [if_pos hz]))
  · rw [if_neg hz]
    rw [show (1 : Int32) + 1 = 2 by decide]
    exact wgP_3_2 hC hG hN hL0 hL1 hL2 _ _ _ _ _ _ _ _ _ _ _ _ _ _ _ _ _ _ _ _ _ _ _ _ _ _ _ n (by omega) (h.step (r := 1) (a := a) (a₁ := a) (d := 1) (by decide) hw.1 hl rfl (by rw [if_neg hz]))
theorem wgP_3_0 {Bf_1 Bf_2 Bf_3 Bf_4 Bf_5 Bf_6 Bf_7 Bf_8 Nf_1 Nf_2 Nf_3 R0f_1 R1f_1 R2f_1 g2 g4 g5 s0 : Nat → Int32} {Bv_0 Bv_1 Bv_2 Bv_3 Bv_4 Bv_5 Nv_0 : Int32} {R0n R1n R2n : Nat} {Q0 Q1 Q2 : RuA} (hC : BgC Bv_0 Bv_1 Bv_2 Bv_3 Bv_4 Bv_5 Bf_1 Bf_2 Bf_3 Bf_4 Bf_5 Bf_6 Bf_7 Bf_8 s0) (hG : GsB s0) (hN : NtE Nf_1 Nf_2 Nf_3 Nv_0 s0) (hL0 : CdE R0f_1 (ru_fl Q0) ∧ (ru_fl Q0).length = R0n ∧ R0n ≤ 400 ∧ RwR g2 g4 g5 0 Q0 ∧ ru_ok Q0) (hL1 : CdE R1f_1 (ru_fl Q1) ∧ (ru_fl Q1).length = R1n ∧ R1n ≤ 400 ∧ RwR g2 g4 g5 1 Q1 ∧ ru_ok Q1) (hL2 : CdE R2f_1 (ru_fl Q2) ∧ (ru_fl Q2).length = R2n ∧ R2n ≤ 400 ∧ RwR g2 g4 g5 2 Q2 ∧ ru_ok Q2) : ∀ (yy_900 yy_901 : Nat → Int32) (yy_902 yy_903 yy_904 yy_905 yy_906 yy_907 : Int32) (yy_908 yy_909 yy_910 yy_911 yy_912 yy_913 yy_914 yy_915 : Nat → Int32) (yy_916 : Int32) (yy_917 yy_918 yy_919 : Nat → Int64) (V G s : Nat → Int32) (g8 g9 : Nat → Int64) (tp fo : Int32) (n : Nat), 8 ≤ n → WgI 0 yy_900 yy_901 V G s0 s yy_916 → WgQ 3 (dX2_wgh3_u8_0 Bf_1 Bf_2 Bf_3 Bf_4 Bf_5 Bf_6 Bf_7 Bf_8 Bv_0 Bv_1 Bv_2 Bv_3 Bv_4 Bv_5 Nf_1 Nf_2 Nf_3 Nv_0 R0f_1 R1f_1 R2f_1 R0n R1n R2n yy_900 yy_901 yy_902 yy_903 yy_904 yy_905 yy_906 yy_907 yy_908 yy_909 yy_910 yy_911 yy_912 yy_913 yy_914 yy_915 yy_916 yy_917 yy_918 yy_919).1 (dX2_wgh3_u8_0 Bf_1 Bf_2 Bf_3 Bf_4 Bf_5 Bf_6 Bf_7 Bf_8 Bv_0 Bv_1 Bv_2 Bv_3 Bv_4 Bv_5 Nf_1 Nf_2 Nf_3 Nv_0 R0f_1 R1f_1 R2f_1 R0n R1n R2n yy_900 yy_901 yy_902 yy_903 yy_904 yy_905 yy_906 yy_907 yy_908 yy_909 yy_910 yy_911 yy_912 yy_913 yy_914 yy_915 yy_916 yy_917 yy_918 yy_919).2.1 (dX2_wgh3_u8_0 Bf_1 Bf_2 Bf_3 Bf_4 Bf_5 Bf_6 Bf_7 Bf_8 Bv_0 Bv_1 Bv_2 Bv_3 Bv_4 Bv_5 Nf_1 Nf_2 Nf_3 Nv_0 R0f_1 R1f_1 R2f_1 R0n R1n R2n yy_900 yy_901 yy_902 yy_903 yy_904 yy_905 yy_906 yy_907 yy_908 yy_909 yy_910 yy_911 yy_912 yy_913 yy_914 yy_915 yy_916 yy_917 yy_918 yy_919).2.2.2.2.2.2.2.2.2.2.2.2.2.2.2.2.1 (dX12_fillsFits_l11 g2 g4 g5 (3 : Int32) 0 n (0 : Int32) g8 g9 G V tp fo s).2.2.2.2.1 (dX12_fillsFits_l11 g2 g4 g5 (3 : Int32) 0 n (0 : Int32) g8 g9 G V tp fo s).2.2.2.1 s0 (dX12_fillsFits_l11 g2 g4 g5 (3 : Int32) 0 n (0 : Int32) g8 g9 G V tp fo s).2.2.2.2.2.2.2 := by
  intro yy_900 yy_901 yy_902 yy_903 yy_904 yy_905 yy_906 yy_907 yy_908 yy_909 yy_910 yy_911 yy_912 yy_913 yy_914 yy_915 yy_916 yy_917 yy_918 yy_919 V G s g8 g9 tp fo n hn h
  obtain ⟨n, rfl⟩ : ∃ m, n = m + 1 := ⟨n - 1, by omega⟩
  rw [dX2_wgh3_u8_0_s, dX12_fillsFits_l11_s, if_neg (show ¬ (3 : Int32) < (0 : Int32) by decide)]
  have hB := begins_is (s := s)
  have hg := hG.tl h.2.2.2
  have hb := hg.begin hB
  have hc := BgC.begin (y1 := yy_908) (y2 := yy_909) (y3 := yy_910) (y4 := yy_911) (y5 := yy_912) (y6 := yy_913) (y7 := yy_914) (y8 := yy_915) (hC.tl h.2.2.2) hg hB
  have hw := wk_wgh3_l67v3 (r := 0) (g2 := g2) (g4 := g4) (g5 := g5) (by decide) (by decide) ((61 - (0 : Int32).toInt).toNat + 1) 0 Bv_0 Bv_4 Bv_5 tp yy_900 _ _ _ _ V (dX12_begins s) g8 g9 hc hb.1 (by rw [hb.2]; decide) (by decide) (by decide) (by decide) (by rw [show 61 * (0 : Int32).toInt.toNat + (0 : Int32).toInt.toNat = 61 * 0 by decide]; exact h.1)
  rw [show 61 * (0 : Int32).toInt.toNat + 61 = 61 * 0 + 61 by decide] at hw
  generalize (dX2_wgh3_l67v3 Bf_1 Bf_2 Bf_3 Bf_4 Bf_5 Bf_6 Bf_7 Bf_8 Bv_1 Bv_2 Bv_3 (0 : Int32) yy_908 yy_909 yy_910 yy_911 yy_912 yy_913 yy_914 yy_915 ((61 - (0 : Int32).toInt).toNat + 1) (0 : Int32) yy_900 Bv_0 Bv_4 Bv_5 ((dX9_copyFrom yy_908 yy_909 yy_910 yy_911 yy_912 yy_913 yy_914 yy_915 Bf_1 Bf_2 Bf_3 Bf_4 Bf_5 Bf_6 Bf_7 Bf_8).2.2.1) ((dX9_copyFrom yy_908 yy_909 yy_910 yy_911 yy_912 yy_913 yy_914 yy_915 Bf_1 Bf_2 Bf_3 Bf_4 Bf_5 Bf_6 Bf_7 Bf_8).2.2.2.2.2.1) ((dX9_copyFrom yy_908 yy_909 yy_910 yy_911 yy_912 yy_913 yy_914 yy_915 Bf_1 Bf_2 Bf_3 Bf_4 Bf_5 Bf_6 Bf_7 Bf_8).2.2.2.2.2.2.1) ((dX9_copyFrom yy_908 yy_909 yy_910 yy_911 yy_912 yy_913 yy_914 yy_915 Bf_1 Bf_2 Bf_3 Bf_4 Bf_5 Bf_6 Bf_7 Bf_8).2.2.2.2.2.2.2)) = X at hw ⊢
  generalize dX12_fillsFits_l32 g2 g4 g5 0 (0 : Int32) (0 : Int32) ((61 - (0 : Int32).toInt).toNat + 1) (0 : Int32) g8 g9 V tp (dX12_begins s) = Z at hw ⊢
  have hl : Tl6 s Z.2.2.2.2.2 := hB.six.tr hw.2.six
  have ha : dX2_agrees Nf_1 Nf_2 Nf_3 Nv_0 X.2.1 (0 : Int32) = dX12_areNotesSo Z.2.2.2.2.2 Z.2.2.2.1 (0 : Int32) := agree_is (hN.tl (h.2.2.2.tr hl)) (by decide) (by rw [show 61 * (0 : Int32).toInt.toNat + 61 = 61 * 0 + 61 by decide]; exact hw.1)
  rw [ha]
  generalize vp_nar .boolean (dX12_areNotesSo Z.2.2.2.2.2 Z.2.2.2.1 (0 : Int32)) = a
  rw [upd_at]
  by_cases hz : a = 0
  · rw [if_pos hz]
    rw [show (0 : Int32) + 1 = 1 by decide]
    exact wgP_3_1 hC hG hN hL0 hL1 hL2 _ _ _ _ _ _ _ _ _ _ _ _ _ _ _ _ _ _ _ _ _ _ _ _ _ _ _ n (by omega) (h.step (r := 0) (a := a) (a₁ := a) (d := 0) (by decide) hw.1 hl rfl (by rw [if_pos hz]))
  · rw [if_neg hz]
    rw [show (0 : Int32) + 1 = 1 by decide]
    exact wgP_3_1 hC hG hN hL0 hL1 hL2 _ _ _ _ _ _ _ _ _ _ _ _ _ _ _ _ _ _ _ _ _ _ _ _ _ _ _ n (by omega) (h.step (r := 0) (a := a) (a₁ := a) (d := 1) (by decide) hw.1 hl rfl (by rw [if_neg hz]))
theorem wgP_4_7 {V G s0 s : Nat → Int32} : ∀ (yy_900 yy_901 : Nat → Int32) (yy_902 yy_903 yy_904 yy_905 yy_906 yy_907 : Int32) (yy_908 yy_909 yy_910 yy_911 yy_912 yy_913 yy_914 yy_915 : Nat → Int32) (yy_916 : Int32) (yy_917 yy_918 yy_919 yy_920 : Nat → Int64), WgE 4 7 yy_900 yy_901 V G s0 s yy_916 → WgQ 4 (dX2_wgh4_u8_7 yy_900 yy_901 yy_902 yy_903 yy_904 yy_905 yy_906 yy_907 yy_908 yy_909 yy_910 yy_911 yy_912 yy_913 yy_914 yy_915 yy_916 yy_917 yy_918 yy_919 yy_920).1 (dX2_wgh4_u8_7 yy_900 yy_901 yy_902 yy_903 yy_904 yy_905 yy_906 yy_907 yy_908 yy_909 yy_910 yy_911 yy_912 yy_913 yy_914 yy_915 yy_916 yy_917 yy_918 yy_919 yy_920).2.1 (dX2_wgh4_u8_7 yy_900 yy_901 yy_902 yy_903 yy_904 yy_905 yy_906 yy_907 yy_908 yy_909 yy_910 yy_911 yy_912 yy_913 yy_914 yy_915 yy_916 yy_917 yy_918 yy_919 yy_920).2.2.2.2.2.2.2.2.2.2.2.2.2.2.2.2.1 V G s0 s := by
  intro yy_900 yy_901 yy_902 yy_903 yy_904 yy_905 yy_906 yy_907 yy_908 yy_909 yy_910 yy_911 yy_912 yy_913 yy_914 yy_915 yy_916 yy_917 yy_918 yy_919 yy_920 h
  rw [dX2_wgh4_u8_7_s]
  exact ⟨h.1, h.2.1, h.2.2.1, h.2.2.2.1, h.2.2.2.2⟩
theorem wgP_4_6 {V G s0 s : Nat → Int32} : ∀ (yy_900 yy_901 : Nat → Int32) (yy_902 yy_903 yy_904 yy_905 yy_906 yy_907 : Int32) (yy_908 yy_909 yy_910 yy_911 yy_912 yy_913 yy_914 yy_915 : Nat → Int32) (yy_916 : Int32) (yy_917 yy_918 yy_919 yy_920 : Nat → Int64), WgE 4 6 yy_900 yy_901 V G s0 s yy_916 → WgQ 4 (dX2_wgh4_u8_6 yy_900 yy_901 yy_902 yy_903 yy_904 yy_905 yy_906 yy_907 yy_908 yy_909 yy_910 yy_911 yy_912 yy_913 yy_914 yy_915 yy_916 yy_917 yy_918 yy_919 yy_920).1 (dX2_wgh4_u8_6 yy_900 yy_901 yy_902 yy_903 yy_904 yy_905 yy_906 yy_907 yy_908 yy_909 yy_910 yy_911 yy_912 yy_913 yy_914 yy_915 yy_916 yy_917 yy_918 yy_919 yy_920).2.1 (dX2_wgh4_u8_6 yy_900 yy_901 yy_902 yy_903 yy_904 yy_905 yy_906 yy_907 yy_908 yy_909 yy_910 yy_911 yy_912 yy_913 yy_914 yy_915 yy_916 yy_917 yy_918 yy_919 yy_920).2.2.2.2.2.2.2.2.2.2.2.2.2.2.2.2.1 V G s0 s := by
  intro yy_900 yy_901 yy_902 yy_903 yy_904 yy_905 yy_906 yy_907 yy_908 yy_909 yy_910 yy_911 yy_912 yy_913 yy_914 yy_915 yy_916 yy_917 yy_918 yy_919 yy_920 h
  rw [dX2_wgh4_u8_6_s]
  exact wgP_4_7 _ _ _ _ _ _ _ _ _ _ _ _ _ _ _ _ _ _ _ _ _ (h.step (by decide) (by decide) nar0)
theorem wgP_4_5 {V G s0 s : Nat → Int32} : ∀ (yy_900 yy_901 : Nat → Int32) (yy_902 yy_903 yy_904 yy_905 yy_906 yy_907 : Int32) (yy_908 yy_909 yy_910 yy_911 yy_912 yy_913 yy_914 yy_915 : Nat → Int32) (yy_916 : Int32) (yy_917 yy_918 yy_919 yy_920 : Nat → Int64), WgE 4 5 yy_900 yy_901 V G s0 s yy_916 → WgQ 4 (dX2_wgh4_u8_5 yy_900 yy_901 yy_902 yy_903 yy_904 yy_905 yy_906 yy_907 yy_908 yy_909 yy_910 yy_911 yy_912 yy_913 yy_914 yy_915 yy_916 yy_917 yy_918 yy_919 yy_920).1 (dX2_wgh4_u8_5 yy_900 yy_901 yy_902 yy_903 yy_904 yy_905 yy_906 yy_907 yy_908 yy_909 yy_910 yy_911 yy_912 yy_913 yy_914 yy_915 yy_916 yy_917 yy_918 yy_919 yy_920).2.1 (dX2_wgh4_u8_5 yy_900 yy_901 yy_902 yy_903 yy_904 yy_905 yy_906 yy_907 yy_908 yy_909 yy_910 yy_911 yy_912 yy_913 yy_914 yy_915 yy_916 yy_917 yy_918 yy_919 yy_920).2.2.2.2.2.2.2.2.2.2.2.2.2.2.2.2.1 V G s0 s := by
  intro yy_900 yy_901 yy_902 yy_903 yy_904 yy_905 yy_906 yy_907 yy_908 yy_909 yy_910 yy_911 yy_912 yy_913 yy_914 yy_915 yy_916 yy_917 yy_918 yy_919 yy_920 h
  rw [dX2_wgh4_u8_5_s]
  exact wgP_4_6 _ _ _ _ _ _ _ _ _ _ _ _ _ _ _ _ _ _ _ _ _ (h.step (by decide) (by decide) nar0)
theorem wgP_4_4 {Bf_1 Bf_2 Bf_3 Bf_4 Bf_5 Bf_6 Bf_7 Bf_8 Nf_1 Nf_2 Nf_3 R0f_1 R1f_1 R2f_1 R3f_1 g2 g4 g5 s0 : Nat → Int32} {Bv_0 Bv_1 Bv_2 Bv_3 Bv_4 Bv_5 Nv_0 : Int32} {R0n R1n R2n R3n : Nat} {Q0 Q1 Q2 Q3 : RuA} (hC : BgC Bv_0 Bv_1 Bv_2 Bv_3 Bv_4 Bv_5 Bf_1 Bf_2 Bf_3 Bf_4 Bf_5 Bf_6 Bf_7 Bf_8 s0) (hG : GsB s0) (hN : NtE Nf_1 Nf_2 Nf_3 Nv_0 s0) (hL0 : CdE R0f_1 (ru_fl Q0) ∧ (ru_fl Q0).length = R0n ∧ R0n ≤ 400 ∧ RwR g2 g4 g5 0 Q0 ∧ ru_ok Q0) (hL1 : CdE R1f_1 (ru_fl Q1) ∧ (ru_fl Q1).length = R1n ∧ R1n ≤ 400 ∧ RwR g2 g4 g5 1 Q1 ∧ ru_ok Q1) (hL2 : CdE R2f_1 (ru_fl Q2) ∧ (ru_fl Q2).length = R2n ∧ R2n ≤ 400 ∧ RwR g2 g4 g5 2 Q2 ∧ ru_ok Q2) (hL3 : CdE R3f_1 (ru_fl Q3) ∧ (ru_fl Q3).length = R3n ∧ R3n ≤ 400 ∧ RwR g2 g4 g5 3 Q3 ∧ ru_ok Q3) : ∀ (yy_900 yy_901 : Nat → Int32) (yy_902 yy_903 yy_904 yy_905 yy_906 yy_907 : Int32) (yy_908 yy_909 yy_910 yy_911 yy_912 yy_913 yy_914 yy_915 : Nat → Int32) (yy_916 : Int32) (yy_917 yy_918 yy_919 yy_920 : Nat → Int64) (V G s : Nat → Int32) (g8 g9 : Nat → Int64) (tp fo : Int32) (n : Nat), 4 ≤ n → WgI 4 yy_900 yy_901 V G s0 s yy_916 → WgQ 4 (dX2_wgh4_u8_4 Bf_1 Bf_2 Bf_3 Bf_4 Bf_5 Bf_6 Bf_7 Bf_8 Bv_0 Bv_1 Bv_2 Bv_3 Bv_4 Bv_5 Nf_1 Nf_2 Nf_3 Nv_0 R3f_1 R3n yy_900 yy_901 yy_902 yy_903 yy_904 yy_905 yy_906 yy_907 yy_908 yy_909 yy_910 yy_911 yy_912 yy_913 yy_914 yy_915 yy_916 yy_917 yy_918 yy_919 yy_920).1 (dX2_wgh4_u8_4 Bf_1 Bf_2 Bf_3 Bf_4 Bf_5 Bf_6 Bf_7 Bf_8 Bv_0 Bv_1 Bv_2 Bv_3 Bv_4 Bv_5 Nf_1 Nf_2 Nf_3 Nv_0 R3f_1 R3n yy_900 yy_901 yy_902 yy_903 yy_904 yy_905 yy_906 yy_907 yy_908 yy_909 yy_910 yy_911 yy_912 yy_913 yy_914 yy_915 yy_916 yy_917 yy_918 yy_919 yy_920).2.1 (dX2_wgh4_u8_4 Bf_1 Bf_2 Bf_3 Bf_4 Bf_5 Bf_6 Bf_7 Bf_8 Bv_0 Bv_1 Bv_2 Bv_3 Bv_4 Bv_5 Nf_1 Nf_2 Nf_3 Nv_0 R3f_1 R3n yy_900 yy_901 yy_902 yy_903 yy_904 yy_905 yy_906 yy_907 yy_908 yy_909 yy_910 yy_911 yy_912 yy_913 yy_914 yy_915 yy_916 yy_917 yy_918 yy_919 yy_920).2.2.2.2.2.2.2.2.2.2.2.2.2.2.2.2.1 (dX12_fillsFits_l11 g2 g4 g5 (4 : Int32) 0 n (4 : Int32) g8 g9 G V tp fo s).2.2.2.2.1 (dX12_fillsFits_l11 g2 g4 g5 (4 : Int32) 0 n (4 : Int32) g8 g9 G V tp fo s).2.2.2.1 s0 (dX12_fillsFits_l11 g2 g4 g5 (4 : Int32) 0 n (4 : Int32) g8 g9 G V tp fo s).2.2.2.2.2.2.2 := by
  intro yy_900 yy_901 yy_902 yy_903 yy_904 yy_905 yy_906 yy_907 yy_908 yy_909 yy_910 yy_911 yy_912 yy_913 yy_914 yy_915 yy_916 yy_917 yy_918 yy_919 yy_920 V G s g8 g9 tp fo n hn h
  obtain ⟨n, rfl⟩ : ∃ m, n = m + 1 := ⟨n - 1, by omega⟩
  rw [dX2_wgh4_u8_4_s, dX12_fillsFits_l11_s, if_neg (show ¬ (4 : Int32) < (4 : Int32) by decide)]
  have hB := begins_is (s := s)
  have hg := hG.tl h.2.2.2
  have hb := hg.begin hB
  have hc := BgC.begin (y1 := yy_908) (y2 := yy_909) (y3 := yy_910) (y4 := yy_911) (y5 := yy_912) (y6 := yy_913) (y7 := yy_914) (y8 := yy_915) (hC.tl h.2.2.2) hg hB
  have hw := wk_wgh4_l67 (r := 4) (by decide) hL3.1 hL3.2.1 hL3.2.2.1 (by decide) (by rw [show ((4 : Int32) - 1).toInt.toNat = 3 by decide]; exact hL3.2.2.2.1) hL3.2.2.2.2 ((61 - (0 : Int32).toInt).toNat + 1) 0 Bv_0 Bv_4 Bv_5 tp yy_900 _ _ _ _ V (dX12_begins s) yy_920 g8 g9 hc hb.1 (by rw [hb.2]; decide) (by decide) (by decide) (by decide) (by rw [show 61 * (4 : Int32).toInt.toNat + (0 : Int32).toInt.toNat = 61 * 4 by decide]; exact h.1)
  rw [show 61 * (4 : Int32).toInt.toNat + 61 = 61 * 4 + 61 by decide] at hw
  generalize (dX2_wgh4_l67 Bf_1 Bf_2 Bf_3 Bf_4 Bf_5 Bf_6 Bf_7 Bf_8 Bv_1 Bv_2 Bv_3 R3f_1 R3n (4 : Int32) yy_908 yy_909 yy_910 yy_911 yy_912 yy_913 yy_914 yy_915 ((61 - (0 : Int32).toInt).toNat + 1) (0 : Int32) yy_900 yy_920 Bv_0 Bv_4 Bv_5 ((dX9_copyFrom yy_908 yy_909 yy_910 yy_911 yy_912 yy_913 yy_914 yy_915 Bf_1 Bf_2 Bf_3 Bf_4 Bf_5 Bf_6 Bf_7 Bf_8).2.2.1) ((dX9_copyFrom yy_908 yy_909 yy_910 yy_911 yy_912 yy_913 yy_914 yy_915 Bf_1 Bf_2 Bf_3 Bf_4 Bf_5 Bf_6 Bf_7 Bf_8).2.2.2.2.2.1) ((dX9_copyFrom yy_908 yy_909 yy_910 yy_911 yy_912 yy_913 yy_914 yy_915 Bf_1 Bf_2 Bf_3 Bf_4 Bf_5 Bf_6 Bf_7 Bf_8).2.2.2.2.2.2.1) ((dX9_copyFrom yy_908 yy_909 yy_910 yy_911 yy_912 yy_913 yy_914 yy_915 Bf_1 Bf_2 Bf_3 Bf_4 Bf_5 Bf_6 Bf_7 Bf_8).2.2.2.2.2.2.2)) = X at hw ⊢
  generalize dX12_fillsFits_l32 g2 g4 g5 0 (4 : Int32) (4 : Int32) ((61 - (0 : Int32).toInt).toNat + 1) (0 : Int32) g8 g9 V tp (dX12_begins s) = Z at hw ⊢
  have hl : Tl6 s Z.2.2.2.2.2 := hB.six.tr hw.2.six
  have ha : dX2_agrees Nf_1 Nf_2 Nf_3 Nv_0 X.2.1 (4 : Int32) = dX12_areNotesSo Z.2.2.2.2.2 Z.2.2.2.1 (4 : Int32) := agree_is (hN.tl (h.2.2.2.tr hl)) (by decide) (by rw [show 61 * (4 : Int32).toInt.toNat + 61 = 61 * 4 + 61 by decide]; exact hw.1)
  rw [ha]
  generalize vp_nar .boolean (dX12_areNotesSo Z.2.2.2.2.2 Z.2.2.2.1 (4 : Int32)) = a
  rw [upd_at]
  by_cases hz : a = 0
  · rw [if_pos hz]
    obtain ⟨n, rfl⟩ : ∃ m, n = m + 1 := ⟨n - 1, by omega⟩
    rw [dX12_fillsFits_l11_s, if_pos (show (4 : Int32) < (4 : Int32) + 1 by decide)]
    refine wgP_4_5 _ _ _ _ _ _ _ _ _ _ _ _ _ _ _ _ _ _ _ _ _ ?_
    have hE := (h.step (r := 4) (a := a) (a₁ := a) (x := vp_nar .boolean (0 : Int32)) (d := 0) (by decide) hw.1 hl rfl (by rw [if_pos hz])).e
    obtain ⟨e1, e2, e3, e4, e5⟩ := hE
    refine ⟨?_, e2, e3, e4, ?_⟩
    · intro k hk
      exact e1 k hk
    · intro k hk
      exact e5 k hk
  · rw [if_neg hz]
    obtain ⟨n, rfl⟩ : ∃ m, n = m + 1 := ⟨n - 1, by omega⟩
    rw [dX12_fillsFits_l11_s, if_pos (show (4 : Int32) < (4 : Int32) + 1 by decide)]
    refine wgP_4_5 _ _ _ _ _ _ _ _ _ _ _ _ _ _ _ _ _ _ _ _ _ ?_
    have hE := (h.step (r := 4) (a := a) (a₁ := a) (x := vp_nar .boolean (0 : Int32)) (d := 1) (by decide) hw.1 hl rfl (by rw [if_neg hz])).e
    obtain ⟨e1, e2, e3, e4, e5⟩ := hE
    refine ⟨?_, e2, e3, e4, ?_⟩
    · intro k hk
      exact e1 k hk
    · intro k hk
      exact e5 k hk
theorem wgP_4_3 {Bf_1 Bf_2 Bf_3 Bf_4 Bf_5 Bf_6 Bf_7 Bf_8 Nf_1 Nf_2 Nf_3 R0f_1 R1f_1 R2f_1 R3f_1 g2 g4 g5 s0 : Nat → Int32} {Bv_0 Bv_1 Bv_2 Bv_3 Bv_4 Bv_5 Nv_0 : Int32} {R0n R1n R2n R3n : Nat} {Q0 Q1 Q2 Q3 : RuA} (hC : BgC Bv_0 Bv_1 Bv_2 Bv_3 Bv_4 Bv_5 Bf_1 Bf_2 Bf_3 Bf_4 Bf_5 Bf_6 Bf_7 Bf_8 s0) (hG : GsB s0) (hN : NtE Nf_1 Nf_2 Nf_3 Nv_0 s0) (hL0 : CdE R0f_1 (ru_fl Q0) ∧ (ru_fl Q0).length = R0n ∧ R0n ≤ 400 ∧ RwR g2 g4 g5 0 Q0 ∧ ru_ok Q0) (hL1 : CdE R1f_1 (ru_fl Q1) ∧ (ru_fl Q1).length = R1n ∧ R1n ≤ 400 ∧ RwR g2 g4 g5 1 Q1 ∧ ru_ok Q1) (hL2 : CdE R2f_1 (ru_fl Q2) ∧ (ru_fl Q2).length = R2n ∧ R2n ≤ 400 ∧ RwR g2 g4 g5 2 Q2 ∧ ru_ok Q2) (hL3 : CdE R3f_1 (ru_fl Q3) ∧ (ru_fl Q3).length = R3n ∧ R3n ≤ 400 ∧ RwR g2 g4 g5 3 Q3 ∧ ru_ok Q3) : ∀ (yy_900 yy_901 : Nat → Int32) (yy_902 yy_903 yy_904 yy_905 yy_906 yy_907 : Int32) (yy_908 yy_909 yy_910 yy_911 yy_912 yy_913 yy_914 yy_915 : Nat → Int32) (yy_916 : Int32) (yy_917 yy_918 yy_919 yy_920 : Nat → Int64) (V G s : Nat → Int32) (g8 g9 : Nat → Int64) (tp fo : Int32) (n : Nat), 5 ≤ n → WgI 3 yy_900 yy_901 V G s0 s yy_916 → WgQ 4 (dX2_wgh4_u8_3 Bf_1 Bf_2 Bf_3 Bf_4 Bf_5 Bf_6 Bf_7 Bf_8 Bv_0 Bv_1 Bv_2 Bv_3 Bv_4 Bv_5 Nf_1 Nf_2 Nf_3 Nv_0 R2f_1 R3f_1 R2n R3n yy_900 yy_901 yy_902 yy_903 yy_904 yy_905 yy_906 yy_907 yy_908 yy_909 yy_910 yy_911 yy_912 yy_913 yy_914 yy_915 yy_916 yy_917 yy_918 yy_919 yy_920).1 (dX2_wgh4_u8_3 Bf_1 Bf_2 Bf_3 Bf_4 Bf_5 Bf_6 Bf_7 Bf_8 Bv_0 Bv_1 Bv_2 Bv_3 Bv_4 Bv_5 Nf_1 Nf_2 Nf_3 Nv_0 R2f_1 R3f_1 R2n R3n yy_900 yy_901 yy_902 yy_903 yy_904 yy_905 yy_906 yy_907 yy_908 yy_909 yy_910 yy_911 yy_912 yy_913 yy_914 yy_915 yy_916 yy_917 yy_918 yy_919 yy_920).2.1 (dX2_wgh4_u8_3 Bf_1 Bf_2 Bf_3 Bf_4 Bf_5 Bf_6 Bf_7 Bf_8 Bv_0 Bv_1 Bv_2 Bv_3 Bv_4 Bv_5 Nf_1 Nf_2 Nf_3 Nv_0 R2f_1 R3f_1 R2n R3n yy_900 yy_901 yy_902 yy_903 yy_904 yy_905 yy_906 yy_907 yy_908 yy_909 yy_910 yy_911 yy_912 yy_913 yy_914 yy_915 yy_916 yy_917 yy_918 yy_919 yy_920).2.2.2.2.2.2.2.2.2.2.2.2.2.2.2.2.1 (dX12_fillsFits_l11 g2 g4 g5 (4 : Int32) 0 n (3 : Int32) g8 g9 G V tp fo s).2.2.2.2.1 (dX12_fillsFits_l11 g2 g4 g5 (4 : Int32) 0 n (3 : Int32) g8 g9 G V tp fo s).2.2.2.1 s0 (dX12_fillsFits_l11 g2 g4 g5 (4 : Int32) 0 n (3 : Int32) g8 g9 G V tp fo s).2.2.2.2.2.2.2 := by
  intro yy_900 yy_901 yy_902 yy_903 yy_904 yy_905 yy_906 yy_907 yy_908 yy_909 yy_910 yy_911 yy_912 yy_913 yy_914 yy_915 yy_916 yy_917 yy_918 yy_919 yy_920 V G s g8 g9 tp fo n hn h
  obtain ⟨n, rfl⟩ : ∃ m, n = m + 1 := ⟨n - 1, by omega⟩
  rw [dX2_wgh4_u8_3_s, dX12_fillsFits_l11_s, if_neg (show ¬ (4 : Int32) < (3 : Int32) by decide)]
  have hB := begins_is (s := s)
  have hg := hG.tl h.2.2.2
  have hb := hg.begin hB
  have hc := BgC.begin (y1 := yy_908) (y2 := yy_909) (y3 := yy_910) (y4 := yy_911) (y5 := yy_912) (y6 := yy_913) (y7 := yy_914) (y8 := yy_915) (hC.tl h.2.2.2) hg hB
  have hw := wk_wgh4_l67v1 (r := 3) (by decide) hL2.1 hL2.2.1 hL2.2.2.1 (by decide) (by rw [show ((3 : Int32) - 1).toInt.toNat = 2 by decide]; exact hL2.2.2.2.1) hL2.2.2.2.2 ((61 - (0 : Int32).toInt).toNat + 1) 0 Bv_0 Bv_4 Bv_5 tp yy_900 _ _ _ _ V (dX12_begins s) yy_919 g8 g9 hc hb.1 (by rw [hb.2]; decide) (by decide) (by decide) (by decide) (by rw [show 61 * (3 : Int32).toInt.toNat + (0 : Int32).toInt.toNat = 61 * 3 by decide]; exact h.1)
  rw [show 61 * (3 : Int32).toInt.toNat + 61 = 61 * 3 + 61 by decide] at hw
  generalize (dX2_wgh4_l67v1 Bf_1 Bf_2 Bf_3 Bf_4 Bf_5 Bf_6 Bf_7 Bf_8 Bv_1 Bv_2 Bv_3 R2f_1 R2n (3 : Int32) yy_908 yy_909 yy_910 yy_911 yy_912 yy_913 yy_914 yy_915 ((61 - (0 : Int32).toInt).toNat + 1) (0 : Int32) yy_900 yy_919 Bv_0 Bv_4 Bv_5 ((dX9_copyFrom yy_908 yy_909 yy_910 yy_911 yy_912 yy_913 yy_914 yy_915 Bf_1 Bf_2 Bf_3 Bf_4 Bf_5 Bf_6 Bf_7 Bf_8).2.2.1) ((dX9_copyFrom yy_908 yy_909 yy_910 yy_911 yy_912 yy_913 yy_914 yy_915 Bf_1 Bf_2 Bf_3 Bf_4 Bf_5 Bf_6 Bf_7 Bf_8).2.2.2.2.2.1) ((dX9_copyFrom yy_908 yy_909 yy_910 yy_911 yy_912 yy_913 yy_914 yy_915 Bf_1 Bf_2 Bf_3 Bf_4 Bf_5 Bf_6 Bf_7 Bf_8).2.2.2.2.2.2.1) ((dX9_copyFrom yy_908 yy_909 yy_910 yy_911 yy_912 yy_913 yy_914 yy_915 Bf_1 Bf_2 Bf_3 Bf_4 Bf_5 Bf_6 Bf_7 Bf_8).2.2.2.2.2.2.2)) = X at hw ⊢
  generalize dX12_fillsFits_l32 g2 g4 g5 0 (3 : Int32) (3 : Int32) ((61 - (0 : Int32).toInt).toNat + 1) (0 : Int32) g8 g9 V tp (dX12_begins s) = Z at hw ⊢
  have hl : Tl6 s Z.2.2.2.2.2 := hB.six.tr hw.2.six
  have ha : dX2_agrees Nf_1 Nf_2 Nf_3 Nv_0 X.2.1 (3 : Int32) = dX12_areNotesSo Z.2.2.2.2.2 Z.2.2.2.1 (3 : Int32) := agree_is (hN.tl (h.2.2.2.tr hl)) (by decide) (by rw [show 61 * (3 : Int32).toInt.toNat + 61 = 61 * 3 + 61 by decide]; exact hw.1)
  rw [ha]
  generalize vp_nar .boolean (dX12_areNotesSo Z.2.2.2.2.2 Z.2.2.2.1 (3 : Int32)) = a
  rw [upd_at]
  by_cases hz : a = 0
  · rw [if_pos hz]
    rw [show (3 : Int32) + 1 = 4 by decide]
    exact wgP_4_4 hC hG hN hL0 hL1 hL2 hL3 _ _ _ _ _ _ _ _ _ _ _ _ _ _ _ _ _ _ _ _ _ _ _ _ _ _ _ _ n (by omega) (h.step (r := 3) (a := a) (a₁ := a) (d := 0) (by decide) hw.1 hl rfl (by rw [if_pos hz]))
  · rw [if_neg hz]
    rw [show (3 : Int32) + 1 = 4 by decide]
    exact wgP_4_4 hC hG hN hL0 hL1 hL2 hL3 _ _ _ _ _ _ _ _ _ _ _ _ _ _ _ _ _ _ _ _ _ _ _ _ _ _ _ _ n (by omega) (h.step (r := 3) (a := a) (a₁ := a) (d := 1) (by decide) hw.1 hl rfl (by rw [if_neg hz]))
theorem wgP_4_2 {Bf_1 Bf_2 Bf_3 Bf_4 Bf_5 Bf_6 Bf_7 Bf_8 Nf_1 Nf_2 Nf_3 R0f_1 R1f_1 R2f_1 R3f_1 g2 g4 g5 s0 : Nat → Int32} {Bv_0 Bv_1 Bv_2 Bv_3 Bv_4 Bv_5 Nv_0 : Int32} {R0n R1n R2n R3n : Nat} {Q0 Q1 Q2 Q3 : RuA} (hC : BgC Bv_0 Bv_1 Bv_2 Bv_3 Bv_4 Bv_5 Bf_1 Bf_2 Bf_3 Bf_4 Bf_5 Bf_6 Bf_7 Bf_8 s0) (hG : GsB s0) (hN : NtE Nf_1 Nf_2 Nf_3 Nv_0 s0) (hL0 : CdE R0f_1 (ru_fl Q0) ∧ (ru_fl Q0).length = R0n ∧ R0n ≤ 400 ∧ RwR g2 g4 g5 0 Q0 ∧ ru_ok Q0) (hL1 : CdE R1f_1 (ru_fl Q1) ∧ (ru_fl Q1).length = R1n ∧ R1n ≤ 400 ∧ RwR g2 g4 g5 1 Q1 ∧ ru_ok Q1) (hL2 : CdE R2f_1 (ru_fl Q2) ∧ (ru_fl Q2).length = R2n ∧ R2n ≤ 400 ∧ RwR g2 g4 g5 2 Q2 ∧ ru_ok Q2) (hL3 : CdE R3f_1 (ru_fl Q3) ∧ (ru_fl Q3).length = R3n ∧ R3n ≤ 400 ∧ RwR g2 g4 g5 3 Q3 ∧ ru_ok Q3) : ∀ (yy_900 yy_901 : Nat → Int32) (yy_902 yy_903 yy_904 yy_905 yy_906 yy_907 : Int32) (yy_908 yy_909 yy_910 yy_911 yy_912 yy_913 yy_914 yy_915 : Nat → Int32) (yy_916 : Int32) (yy_917 yy_918 yy_919 yy_920 : Nat → Int64) (V G s : Nat → Int32) (g8 g9 : Nat → Int64) (tp fo : Int32) (n : Nat), 6 ≤ n → WgI 2 yy_900 yy_901 V G s0 s yy_916 → WgQ 4 (dX2_wgh4_u8_2 Bf_1 Bf_2 Bf_3 Bf_4 Bf_5 Bf_6 Bf_7 Bf_8 Bv_0 Bv_1 Bv_2 Bv_3 Bv_4 Bv_5 Nf_1 Nf_2 Nf_3 Nv_0 R1f_1 R2f_1 R3f_1 R1n R2n R3n yy_900 yy_901 yy_902 yy_903 yy_904 yy_905 yy_906 yy_907 yy_908 yy_909 yy_910 yy_911 yy_912 yy_913 yy_914 yy_915 yy_916 yy_917 yy_918 yy_919 yy_920).1 (dX2_wgh4_u8_2 Bf_1 Bf_2 Bf_3 Bf_4 Bf_5 Bf_6 Bf_7 Bf_8 Bv_0 Bv_1 Bv_2 Bv_3 Bv_4 Bv_5 Nf_1 Nf_2 Nf_3 Nv_0 R1f_1 R2f_1 R3f_1 R1n R2n R3n yy_900 yy_901 yy_902 yy_903 yy_904 yy_905 yy_906 yy_907 yy_908 yy_909 yy_910 yy_911 yy_912 yy_913 yy_914 yy_915 yy_916 yy_917 yy_918 yy_919 yy_920).2.1 (dX2_wgh4_u8_2 Bf_1 Bf_2 Bf_3 Bf_4 Bf_5 Bf_6 Bf_7 Bf_8 Bv_0 Bv_1 Bv_2 Bv_3 Bv_4 Bv_5 Nf_1 Nf_2 Nf_3 Nv_0 R1f_1 R2f_1 R3f_1 R1n R2n R3n yy_900 yy_901 yy_902 yy_903 yy_904 yy_905 yy_906 yy_907 yy_908 yy_909 yy_910 yy_911 yy_912 yy_913 yy_914 yy_915 yy_916 yy_917 yy_918 yy_919 yy_920).2.2.2.2.2.2.2.2.2.2.2.2.2.2.2.2.1 (dX12_fillsFits_l11 g2 g4 g5 (4 : Int32) 0 n (2 : Int32) g8 g9 G V tp fo s).2.2.2.2.1 (dX12_fillsFits_l11 g2 g4 g5 (4 : Int32) 0 n (2 : Int32) g8 g9 G V tp fo s).2.2.2.1 s0 (dX12_fillsFits_l11 g2 g4 g5 (4 : Int32) 0 n (2 : Int32) g8 g9 G V tp fo s).2.2.2.2.2.2.2 := by
  intro yy_900 yy_901 yy_902 yy_903 yy_904 yy_905 yy_906 yy_907 yy_908 yy_909 yy_910 yy_911 yy_912 yy_913 yy_914 yy_915 yy_916 yy_917 yy_918 yy_919 yy_920 V G s g8 g9 tp fo n hn h
  obtain ⟨n, rfl⟩ : ∃ m, n = m + 1 := ⟨n - 1, by omega⟩
  rw [dX2_wgh4_u8_2_s, dX12_fillsFits_l11_s, if_neg (show ¬ (4 : Int32) < (2 : Int32) by decide)]
  have hB := begins_is (s := s)
  have hg := hG.tl h.2.2.2
  have hb := hg.begin hB
  have hc := BgC.begin (y1 := yy_908) (y2 := yy_909) (y3 := yy_910) (y4 := yy_911) (y5 := yy_912) (y6 := yy_913) (y7 := yy_914) (y8 := yy_915) (hC.tl h.2.2.2) hg hB
  have hw := wk_wgh4_l67v2 (r := 2) (by decide) hL1.1 hL1.2.1 hL1.2.2.1 (by decide) (by rw [show ((2 : Int32) - 1).toInt.toNat = 1 by decide]; exact hL1.2.2.2.1) hL1.2.2.2.2 ((61 - (0 : Int32).toInt).toNat + 1) 0 Bv_0 Bv_4 Bv_5 tp yy_900 _ _ _ _ V (dX12_begins s) yy_918 g8 g9 hc hb.1 (by rw [hb.2]; decide) (by decide) (by decide) (by decide) (by rw [show 61 * (2 : Int32).toInt.toNat + (0 : Int32).toInt.toNat = 61 * 2 by decide]; exact h.1)
  rw [show 61 * (2 : Int32).toInt.toNat + 61 = 61 * 2 + 61 by decide] at hw
  generalize (dX2_wgh4_l67v2 Bf_1 Bf_2 Bf_3 Bf_4 Bf_5 Bf_6 Bf_7 Bf_8 Bv_1 Bv_2 Bv_3 R1f_1 R1n (2 : Int32) yy_908 yy_909 yy_910 yy_911 yy_912 yy_913 yy_914 yy_915 ((61 - (0 : Int32).toInt).toNat + 1) (0 : Int32) yy_900 yy_918 Bv_0 Bv_4 Bv_5 ((dX9_copyFrom yy_908 yy_909 yy_910 yy_911 yy_912 yy_913 yy_914 yy_915 Bf_1 Bf_2 Bf_3 Bf_4 Bf_5 Bf_6 Bf_7 Bf_8).2.2.1) ((dX9_copyFrom yy_908 yy_909 yy_910 yy_911 yy_912 yy_913 yy_914 yy_915 Bf_1 Bf_2 Bf_3 Bf_4 Bf_5 Bf_6 Bf_7 Bf_8).2.2.2.2.2.1) ((dX9_copyFrom yy_908 yy_909 yy_910 yy_911 yy_912 yy_913 yy_914 yy_915 Bf_1 Bf_2 Bf_3 Bf_4 Bf_5 Bf_6 Bf_7 Bf_8).2.2.2.2.2.2.1) ((dX9_copyFrom yy_908 yy_909 yy_910 yy_911 yy_912 yy_913 yy_914 yy_915 Bf_1 Bf_2 Bf_3 Bf_4 Bf_5 Bf_6 Bf_7 Bf_8).2.2.2.2.2.2.2)) = X at hw ⊢
  generalize dX12_fillsFits_l32 g2 g4 g5 0 (2 : Int32) (2 : Int32) ((61 - (0 : Int32).toInt).toNat + 1) (0 : Int32) g8 g9 V tp (dX12_begins s) = Z at hw ⊢
  have hl : Tl6 s Z.2.2.2.2.2 := hB.six.tr hw.2.six
  have ha : dX2_agrees Nf_1 Nf_2 Nf_3 Nv_0 X.2.1 (2 : Int32) = dX12_areNotesSo Z.2.2.2.2.2 Z.2.2.2.1 (2 : Int32) := agree_is (hN.tl (h.2.2.2.tr hl)) (by decide) (by rw [show 61 * (2 : Int32).toInt.toNat + 61 = 61 * 2 + 61 by decide]; exact hw.1)
  rw [ha]
  generalize vp_nar .boolean (dX12_areNotesSo Z.2.2.2.2.2 Z.2.2.2.1 (2 : Int32)) = a
  rw [upd_at]
  by_cases hz : a = 0
  · rw [if_pos hz]
    rw [show (2 : Int32) + 1 = 3 by decide]
    exact wgP_4_3 hC hG hN hL0 hL1 hL2 hL3 _ _ _ _ _ _ _ _ _ _ _ _ _ _ _ _ _ _ _ _ _ _ _ _ _ _ _ _ n (by omega) (h.step (r := 2) (a := a) (a₁ := a) (d := 0) (by decide) hw.1 hl rfl (by rw [if_pos hz]))
  · rw [if_neg hz]
    rw [show (2 : Int32) + 1 = 3 by decide]
    exact wgP_4_3 hC hG hN hL0 hL1 hL2 hL3 _ _ _ _ _ _ _ _ _ _ _ _ _ _ _ _ _ _ _ _ _ _ _ _ _ _ _ _ n (by omega) (h.step (r := 2) (a := a) (a₁ := a) (d := 1) (by decide) hw.1 hl rfl (by rw [if_neg hz]))
theorem wgP_4_1 {Bf_1 Bf_2 Bf_3 Bf_4 Bf_5 Bf_6 Bf_7 Bf_8 Nf_1 Nf_2 Nf_3 R0f_1 R1f_1 R2f_1 R3f_1 g2 g4 g5 s0 : Nat → Int32} {Bv_0 Bv_1 Bv_2 Bv_3 Bv_4 Bv_5 Nv_0 : Int32} {R0n R1n R2n R3n : Nat} {Q0 Q1 Q2 Q3 : RuA} (hC : BgC Bv_0 Bv_1 Bv_2 Bv_3 Bv_4 Bv_5 Bf_1 Bf_2 Bf_3 Bf_4 Bf_5 Bf_6 Bf_7 Bf_8 s0) (hG : GsB s0) (hN : NtE Nf_1 Nf_2 Nf_3 Nv_0 s0) (hL0 : CdE R0f_1 (ru_fl Q0) ∧ (ru_fl Q0).length = R0n ∧ R0n ≤ 400 ∧ RwR g2 g4 g5 0 Q0 ∧ ru_ok Q0) (hL1 : CdE R1f_1 (ru_fl Q1) ∧ (ru_fl Q1).length = R1n ∧ R1n ≤ 400 ∧ RwR g2 g4 g5 1 Q1 ∧ ru_ok Q1) (hL2 : CdE R2f_1 (ru_fl Q2) ∧ (ru_fl Q2).length = R2n ∧ R2n ≤ 400 ∧ RwR g2 g4 g5 2 Q2 ∧ ru_ok Q2) (hL3 : CdE R3f_1 (ru_fl Q3) ∧ (ru_fl Q3).length = R3n ∧ R3n ≤ 400 ∧ RwR g2 g4 g5 3 Q3 ∧ ru_ok Q3) : ∀ (yy_900 yy_901 : Nat → Int32) (yy_902 yy_903 yy_904 yy_905 yy_906 yy_907 : Int32) (yy_908 yy_909 yy_910 yy_911 yy_912 yy_913 yy_914 yy_915 : Nat → Int32) (yy_916 : Int32) (yy_917 yy_918 yy_919 yy_920 : Nat → Int64) (V G s : Nat → Int32) (g8 g9 : Nat → Int64) (tp fo : Int32) (n : Nat), 7 ≤ n → WgI 1 yy_900 yy_901 V G s0 s yy_916 → WgQ 4 (dX2_wgh4_u8_1 Bf_1 Bf_2 Bf_3 Bf_4 Bf_5 Bf_6 Bf_7 Bf_8 Bv_0 Bv_1 Bv_2 Bv_3 Bv_4 Bv_5 Nf_1 Nf_2 Nf_3 Nv_0 R0f_1 R1f_1 R2f_1 R3f_1 R0n R1n R2n R3n yy_900 yy_901 yy_902 yy_903 yy_904 yy_905 yy_906 yy_907 yy_908 yy_909 yy_910 yy_911 yy_912 yy_913 yy_914 yy_915 yy_916 yy_917 yy_918 yy_919 yy_920).1 (dX2_wgh4_u8_1 Bf_1 Bf_2 Bf_3 Bf_4 Bf_5 Bf_6 Bf_7 Bf_8 Bv_0 Bv_1 Bv_2 Bv_3 Bv_4 Bv_5 Nf_1 Nf_2 Nf_3 Nv_0 R0f_1 R1f_1 R2f_1 R3f_1 R0n R1n R2n R3n yy_900 yy_901 yy_902 yy_903 yy_904 yy_905 yy_906 yy_907 yy_908 yy_909 yy_910 yy_911 yy_912 yy_913 yy_914 yy_915 yy_916 yy_917 yy_918 yy_919 yy_920).2.1 (dX2_wgh4_u8_1 Bf_1 Bf_2 Bf_3 Bf_4 Bf_5 Bf_6 Bf_7 Bf_8 Bv_0 Bv_1 Bv_2 Bv_3 Bv_4 Bv_5 Nf_1 Nf_2 Nf_3 Nv_0 R0f_1 R1f_1 R2f_1 R3f_1 R0n R1n R2n R3n yy_900 yy_901 yy_902 yy_903 yy_904 yy_905 yy_906 yy_907 yy_908 yy_909 yy_910 yy_911 yy_912 yy_913 yy_914 yy_915 yy_916 yy_917 yy_918 yy_919 yy_920).2.2.2.2.2.2.2.2.2.2.2.2.2.2.2.2.1 (dX12_fillsFits_l11 g2 g4 g5 (4 : Int32) 0 n (1 : Int32) g8 g9 G V tp fo s).2.2.2.2.1 (dX12_fillsFits_l11 g2 g4 g5 (4 : Int32) 0 n (1 : Int32) g8 g9 G V tp fo s).2.2.2.1 s0 (dX12_fillsFits_l11 g2 g4 g5 (4 : Int32) 0 n (1 : Int32) g8 g9 G V tp fo s).2.2.2.2.2.2.2 := by
  intro yy_900 yy_901 yy_902 yy_903 yy_904 yy_905 yy_906 yy_907 yy_908 yy_909 yy_910 yy_911 yy_912 yy_913 yy_914 yy_915 yy_916 yy_917 yy_918 yy_919 yy_920 V G s g8 g9 tp fo n hn h
  obtain ⟨n, rfl⟩ : ∃ m, n = m + 1 := ⟨n - 1, by omega⟩
  rw [dX2_wgh4_u8_1_s, dX12_fillsFits_l11_s, if_neg (show ¬ (4 : Int32) < (1 : Int32) by decide)]
  have hB := begins_is (s := s)
  have hg := hG.tl h.2.2.2
  have hb := hg.begin hB
  have hc := BgC.begin (y1 := yy_908) (y2 := yy_909) (y3 := yy_910) (y4 := yy_911) (y5 := yy_912) (y6 := yy_913) (y7 := yy_914) (y8 := yy_915) (hC.tl h.2.2.2) hg hB
  have hw := wk_wgh4_l67v3 (r := 1) (by decide) hL0.1 hL0.2.1 hL0.2.2.1 (by decide) (by rw [show ((1 : Int32) - 1).toInt.toNat = 0 by decide]; exact hL0.2.2.2.1) hL0.2.2.2.2 ((61 - (0 : Int32).toInt).toNat + 1) 0 Bv_0 Bv_4 Bv_5 tp yy_900 _ _ _ _ V (dX12_begins s) yy_917 g8 g9 hc hb.1 (by rw [hb.2]; decide) (by decide) (by decide) (by decide) (by rw [show 61 * (1 : Int32).toInt.toNat + (0 : Int32).toInt.toNat = 61 * 1 by decide]; exact h.1)
  rw [show 61 * (1 : Int32).toInt.toNat + 61 = 61 * 1 + 61 by decide] at hw
  generalize (dX2_wgh4_l67v3 Bf_1 Bf_2 Bf_3 Bf_4 Bf_5 Bf_6 Bf_7 Bf_8 Bv_1 Bv_2 Bv_3 R0f_1 R0n (1 : Int32) yy_908 yy_909 yy_910 yy_911 yy_912 yy_913 yy_914 yy_915 ((61 - (0 : Int32).toInt).toNat + 1) (0 : Int32) yy_900 yy_917 Bv_0 Bv_4 Bv_5 ((dX9_copyFrom yy_908 yy_909 yy_910 yy_911 yy_912 yy_913 yy_914 yy_915 Bf_1 Bf_2 Bf_3 Bf_4 Bf_5 Bf_6 Bf_7 Bf_8).2.2.1) ((dX9_copyFrom yy_908 yy_909 yy_910 yy_911 yy_912 yy_913 yy_914 yy_915 Bf_1 Bf_2 Bf_3 Bf_4 Bf_5 Bf_6 Bf_7 Bf_8).2.2.2.2.2.1) ((dX9_copyFrom yy_908 yy_909 yy_910 yy_911 yy_912 yy_913 yy_914 yy_915 Bf_1 Bf_2 Bf_3 Bf_4 Bf_5 Bf_6 Bf_7 Bf_8).2.2.2.2.2.2.1) ((dX9_copyFrom yy_908 yy_909 yy_910 yy_911 yy_912 yy_913 yy_914 yy_915 Bf_1 Bf_2 Bf_3 Bf_4 Bf_5 Bf_6 Bf_7 Bf_8).2.2.2.2.2.2.2)) = X at hw ⊢
  generalize dX12_fillsFits_l32 g2 g4 g5 0 (1 : Int32) (1 : Int32) ((61 - (0 : Int32).toInt).toNat + 1) (0 : Int32) g8 g9 V tp (dX12_begins s) = Z at hw ⊢
  have hl : Tl6 s Z.2.2.2.2.2 := hB.six.tr hw.2.six
  have ha : dX2_agrees Nf_1 Nf_2 Nf_3 Nv_0 X.2.1 (1 : Int32) = dX12_areNotesSo Z.2.2.2.2.2 Z.2.2.2.1 (1 : Int32) := agree_is (hN.tl (h.2.2.2.tr hl)) (by decide) (by rw [show 61 * (1 : Int32).toInt.toNat + 61 = 61 * 1 + 61 by decide]; exact hw.1)
  rw [ha]
  generalize vp_nar .boolean (dX12_areNotesSo Z.2.2.2.2.2 Z.2.2.2.1 (1 : Int32)) = a
  rw [upd_at]
  by_cases hz : a = 0
  · rw [if_pos hz]
    rw [show (1 : Int32) + 1 = 2 by decide]
    exact wgP_4_2 hC hG hN hL0 hL1 hL2 hL3 _ _ _ _ _ _ _ _ _ _ _ _ _ _ _ _ _ _ _ _ _ _ _ _ _ _ _ _ n (by omega) (h.step (r := 1) (a := a) (a₁ := a) (d := 0) (by decide) hw.1 hl rfl (by rw [if_pos hz]))
  · rw [if_neg hz]
    rw [show (1 : Int32) + 1 = 2 by decide]
    exact wgP_4_2 hC hG hN hL0 hL1 hL2 hL3 _ _ _ _ _ _ _ _ _ _ _ _ _ _ _ _ _ _ _ _ _ _ _ _ _ _ _ _ n (by omega) (h.step (r := 1) (a := a) (a₁ := a) (d := 1) (by decide) hw.1 hl rfl (by rw [if_neg hz]))
theorem wgP_4_0 {Bf_1 Bf_2 Bf_3 Bf_4 Bf_5 Bf_6 Bf_7 Bf_8 Nf_1 Nf_2 Nf_3 R0f_1 R1f_1 R2f_1 R3f_1 g2 g4 g5 s0 : Nat → Int32} {Bv_0 Bv_1 Bv_2 Bv_3 Bv_4 Bv_5 Nv_0 : Int32} {R0n R1n R2n R3n : Nat} {Q0 Q1 Q2 Q3 : RuA} (hC : BgC Bv_0 Bv_1 Bv_2 Bv_3 Bv_4 Bv_5 Bf_1 Bf_2 Bf_3 Bf_4 Bf_5 Bf_6 Bf_7 Bf_8 s0) (hG : GsB s0) (hN : NtE Nf_1 Nf_2 Nf_3 Nv_0 s0) (hL0 : CdE R0f_1 (ru_fl Q0) ∧ (ru_fl Q0).length = R0n ∧ R0n ≤ 400 ∧ RwR g2 g4 g5 0 Q0 ∧ ru_ok Q0) (hL1 : CdE R1f_1 (ru_fl Q1) ∧ (ru_fl Q1).length = R1n ∧ R1n ≤ 400 ∧ RwR g2 g4 g5 1 Q1 ∧ ru_ok Q1) (hL2 : CdE R2f_1 (ru_fl Q2) ∧ (ru_fl Q2).length = R2n ∧ R2n ≤ 400 ∧ RwR g2 g4 g5 2 Q2 ∧ ru_ok Q2) (hL3 : CdE R3f_1 (ru_fl Q3) ∧ (ru_fl Q3).length = R3n ∧ R3n ≤ 400 ∧ RwR g2 g4 g5 3 Q3 ∧ ru_ok Q3) : ∀ (yy_900 yy_901 : Nat → Int32) (yy_902 yy_903 yy_904 yy_905 yy_906 yy_907 : Int32) (yy_908 yy_909 yy_910 yy_911 yy_912 yy_913 yy_914 yy_915 : Nat → Int32) (yy_916 : Int32) (yy_917 yy_918 yy_919 yy_920 : Nat → Int64) (V G s : Nat → Int32) (g8 g9 : Nat → Int64) (tp fo : Int32) (n : Nat), 8 ≤ n → WgI 0 yy_900 yy_901 V G s0 s yy_916 → WgQ 4 (dX2_wgh4_u8_0 Bf_1 Bf_2 Bf_3 Bf_4 Bf_5 Bf_6 Bf_7 Bf_8 Bv_0 Bv_1 Bv_2 Bv_3 Bv_4 Bv_5 Nf_1 Nf_2 Nf_3 Nv_0 R0f_1 R1f_1 R2f_1 R3f_1 R0n R1n R2n R3n yy_900 yy_901 yy_902 yy_903 yy_904 yy_905 yy_906 yy_907 yy_908 yy_909 yy_910 yy_911 yy_912 yy_913 yy_914 yy_915 yy_916 yy_917 yy_918 yy_919 yy_920).1 (dX2_wgh4_u8_0 Bf_1 Bf_2 Bf_3 Bf_4 Bf_5 Bf_6 Bf_7 Bf_8 Bv_0 Bv_1 Bv_2 Bv_3 Bv_4 Bv_5 Nf_1 Nf_2 Nf_3 Nv_0 R0f_1 R1f_1 R2f_1 R3f_1 R0n R1n R2n R3n yy_900 yy_901 yy_902 yy_903 yy_904 yy_905 yy_906 yy_907 yy_908 yy_909 yy_910 yy_911 yy_912 yy_913 yy_914 yy_915 yy_916 yy_917 yy_918 yy_919 yy_920).2.1 (dX2_wgh4_u8_0 Bf_1 Bf_2 Bf_3 Bf_4 Bf_5 Bf_6 Bf_7 Bf_8 Bv_0 Bv_1 Bv_2 Bv_3 Bv_4 Bv_5 Nf_1 Nf_2 Nf_3 Nv_0 R0f_1 R1f_1 R2f_1 R3f_1 R0n R1n R2n R3n yy_900 yy_901 yy_902 yy_903 yy_904 yy_905 yy_906 yy_907 yy_908 yy_909 yy_910 yy_911 yy_912 yy_913 yy_914 yy_915 yy_916 yy_917 yy_918 yy_919 yy_920).2.2.2.2.2.2.2.2.2.2.2.2.2.2.2.2.1 (dX12_fillsFits_l11 g2 g4 g5 (4 : Int32) 0 n (0 : Int32) g8 g9 G V tp fo s).2.2.2.2.1 (dX12_fillsFits_l11 g2 g4 g5 (4 : Int32) 0 n (0 : Int32) g8 g9 G V tp fo s).2.2.2.1 s0 (dX12_fillsFits_l11 g2 g4 g5 (4 : Int32) 0 n (0 : Int32) g8 g9 G V tp fo s).2.2.2.2.2.2.2 := by
  intro yy_900 yy_901 yy_902 yy_903 yy_904 yy_905 yy_906 yy_907 yy_908 yy_909 yy_910 yy_911 yy_912 yy_913 yy_914 yy_915 yy_916 yy_917 yy_918 yy_919 yy_920 V G s g8 g9 tp fo n hn h
  obtain ⟨n, rfl⟩ : ∃ m, n = m + 1 := ⟨n - 1, by omega⟩
  rw [dX2_wgh4_u8_0_s, dX12_fillsFits_l11_s, if_neg (show ¬ (4 : Int32) < (0 : Int32) by decide)]
  have hB := begins_is (s := s)
  have hg := hG.tl h.2.2.2
  have hb := hg.begin hB
  have hc := BgC.begin (y1 := yy_908) (y2 := yy_909) (y3 := yy_910) (y4 := yy_911) (y5 := yy_912) (y6 := yy_913) (y7 := yy_914) (y8 := yy_915) (hC.tl h.2.2.2) hg hB
  have hw := wk_wgh4_l67v4 (r := 0) (g2 := g2) (g4 := g4) (g5 := g5) (by decide) (by decide) ((61 - (0 : Int32).toInt).toNat + 1) 0 Bv_0 Bv_4 Bv_5 tp yy_900 _ _ _ _ V (dX12_begins s) g8 g9 hc hb.1 (by rw [hb.2]; decide) (by decide) (by decide) (by decide) (by rw [show 61 * (0 : Int32).toInt.toNat + (0 : Int32).toInt.toNat = 61 * 0 by decide]; exact h.1)
  rw [show 61 * (0 : Int32).toInt.toNat + 61 = 61 * 0 + 61 by decide] at hw
  generalize (dX2_wgh4_l67v4 Bf_1 Bf_2 Bf_3 Bf_4 Bf_5 Bf_6 Bf_7 Bf_8 Bv_1 Bv_2 Bv_3 (0 : Int32) yy_908 yy_909 yy_910 yy_911 yy_912 yy_913 yy_914 yy_915 ((61 - (0 : Int32).toInt).toNat + 1) (0 : Int32) yy_900 Bv_0 Bv_4 Bv_5 ((dX9_copyFrom yy_908 yy_909 yy_910 yy_911 yy_912 yy_913 yy_914 yy_915 Bf_1 Bf_2 Bf_3 Bf_4 Bf_5 Bf_6 Bf_7 Bf_8).2.2.1) ((dX9_copyFrom yy_908 yy_909 yy_910 yy_911 yy_912 yy_913 yy_914 yy_915 Bf_1 Bf_2 Bf_3 Bf_4 Bf_5 Bf_6 Bf_7 Bf_8).2.2.2.2.2.1) ((dX9_copyFrom yy_908 yy_909 yy_910 yy_911 yy_912 yy_913 yy_914 yy_915 Bf_1 Bf_2 Bf_3 Bf_4 Bf_5 Bf_6 Bf_7 Bf_8).2.2.2.2.2.2.1) ((dX9_copyFrom yy_908 yy_909 yy_910 yy_911 yy_912 yy_913 yy_914 yy_915 Bf_1 Bf_2 Bf_3 Bf_4 Bf_5 Bf_6 Bf_7 Bf_8).2.2.2.2.2.2.2)) = X at hw ⊢
  generalize dX12_fillsFits_l32 g2 g4 g5 0 (0 : Int32) (0 : Int32) ((61 - (0 : Int32).toInt).toNat + 1) (0 : Int32) g8 g9 V tp (dX12_begins s) = Z at hw ⊢
  have hl : Tl6 s Z.2.2.2.2.2 := hB.six.tr hw.2.six
  have ha : dX2_agrees Nf_1 Nf_2 Nf_3 Nv_0 X.2.1 (0 : Int32) = dX12_areNotesSo Z.2.2.2.2.2 Z.2.2.2.1 (0 : Int32) := agree_is (hN.tl (h.2.2.2.tr hl)) (by decide) (by rw [show 61 * (0 : Int32).toInt.toNat + 61 = 61 * 0 + 61 by decide]; exact hw.1)
  rw [ha]
  generalize vp_nar .boolean (dX12_areNotesSo Z.2.2.2.2.2 Z.2.2.2.1 (0 : Int32)) = a
  rw [upd_at]
  by_cases hz : a = 0
  · rw [if_pos hz]
    rw [show (0 : Int32) + 1 = 1 by decide]
    exact wgP_4_1 hC hG hN hL0 hL1 hL2 hL3 _ _ _ _ _ _ _ _ _ _ _ _ _ _ _ _ _ _ _ _ _ _ _ _ _ _ _ _ n (by omega) (h.step (r := 0) (a := a) (a₁ := a) (d := 0) (by decide) hw.1 hl rfl (by rw [if_pos hz]))
  · rw [if_neg hz]
    rw [show (0 : Int32) + 1 = 1 by decide]
    exact wgP_4_1 hC hG hN hL0 hL1 hL2 hL3 _ _ _ _ _ _ _ _ _ _ _ _ _ _ _ _ _ _ _ _ _ _ _ _ _ _ _ _ n (by omega) (h.step (r := 0) (a := a) (a₁ := a) (d := 1) (by decide) hw.1 hl rfl (by rw [if_neg hz]))
theorem wgP_5_7 {V G s0 s : Nat → Int32} : ∀ (yy_900 yy_901 : Nat → Int32) (yy_902 yy_903 yy_904 yy_905 yy_906 yy_907 : Int32) (yy_908 yy_909 yy_910 yy_911 yy_912 yy_913 yy_914 yy_915 : Nat → Int32) (yy_916 : Int32) (yy_917 yy_918 yy_919 yy_920 yy_921 : Nat → Int64), WgE 5 7 yy_900 yy_901 V G s0 s yy_916 → WgQ 5 (dX2_wgh5_u8_7 yy_900 yy_901 yy_902 yy_903 yy_904 yy_905 yy_906 yy_907 yy_908 yy_909 yy_910 yy_911 yy_912 yy_913 yy_914 yy_915 yy_916 yy_917 yy_918 yy_919 yy_920 yy_921).1 (dX2_wgh5_u8_7 yy_900 yy_901 yy_902 yy_903 yy_904 yy_905 yy_906 yy_907 yy_908 yy_909 yy_910 yy_911 yy_912 yy_913 yy_914 yy_915 yy_916 yy_917 yy_918 yy_919 yy_920 yy_921).2.1 (dX2_wgh5_u8_7 yy_900 yy_901 yy_902 yy_903 yy_904 yy_905 yy_906 yy_907 yy_908 yy_909 yy_910 yy_911 yy_912 yy_913 yy_914 yy_915 yy_916 yy_917 yy_918 yy_919 yy_920 yy_921).2.2.2.2.2.2.2.2.2.2.2.2.2.2.2.2.1 V G s0 s := by
  intro yy_900 yy_901 yy_902 yy_903 yy_904 yy_905 yy_906 yy_907 yy_908 yy_909 yy_910 yy_911 yy_912 yy_913 yy_914 yy_915 yy_916 yy_917 yy_918 yy_919 yy_920 yy_921 h
  rw [dX2_wgh5_u8_7_s]
  exact ⟨h.1, h.2.1, h.2.2.1, h.2.2.2.1, h.2.2.2.2⟩
theorem wgP_5_6 {V G s0 s : Nat → Int32} : ∀ (yy_900 yy_901 : Nat → Int32) (yy_902 yy_903 yy_904 yy_905 yy_906 yy_907 : Int32) (yy_908 yy_909 yy_910 yy_911 yy_912 yy_913 yy_914 yy_915 : Nat → Int32) (yy_916 : Int32) (yy_917 yy_918 yy_919 yy_920 yy_921 : Nat → Int64), WgE 5 6 yy_900 yy_901 V G s0 s yy_916 → WgQ 5 (dX2_wgh5_u8_6 yy_900 yy_901 yy_902 yy_903 yy_904 yy_905 yy_906 yy_907 yy_908 yy_909 yy_910 yy_911 yy_912 yy_913 yy_914 yy_915 yy_916 yy_917 yy_918 yy_919 yy_920 yy_921).1 (dX2_wgh5_u8_6 yy_900 yy_901 yy_902 yy_903 yy_904 yy_905 yy_906 yy_907 yy_908 yy_909 yy_910 yy_911 yy_912 yy_913 yy_914 yy_915 yy_916 yy_917 yy_918 yy_919 yy_920 yy_921).2.1 (dX2_wgh5_u8_6 yy_900 yy_901 yy_902 yy_903 yy_904 yy_905 yy_906 yy_907 yy_908 yy_909 yy_910 yy_911 yy_912 yy_913 yy_914 yy_915 yy_916 yy_917 yy_918 yy_919 yy_920 yy_921).2.2.2.2.2.2.2.2.2.2.2.2.2.2.2.2.1 V G s0 s := by
  intro yy_900 yy_901 yy_902 yy_903 yy_904 yy_905 yy_906 yy_907 yy_908 yy_909 yy_910 yy_911 yy_912 yy_913 yy_914 yy_915 yy_916 yy_917 yy_918 yy_919 yy_920 yy_921 h
  rw [dX2_wgh5_u8_6_s]
  exact wgP_5_7 _ _ _ _ _ _ _ _ _ _ _ _ _ _ _ _ _ _ _ _ _ _ (h.step (by decide) (by decide) nar0)
theorem wgP_5_5 {Bf_1 Bf_2 Bf_3 Bf_4 Bf_5 Bf_6 Bf_7 Bf_8 Nf_1 Nf_2 Nf_3 R0f_1 R1f_1 R2f_1 R3f_1 R4f_1 g2 g4 g5 s0 : Nat → Int32} {Bv_0 Bv_1 Bv_2 Bv_3 Bv_4 Bv_5 Nv_0 : Int32} {R0n R1n R2n R3n R4n : Nat} {Q0 Q1 Q2 Q3 Q4 : RuA} (hC : BgC Bv_0 Bv_1 Bv_2 Bv_3 Bv_4 Bv_5 Bf_1 Bf_2 Bf_3 Bf_4 Bf_5 Bf_6 Bf_7 Bf_8 s0) (hG : GsB s0) (hN : NtE Nf_1 Nf_2 Nf_3 Nv_0 s0) (hL0 : CdE R0f_1 (ru_fl Q0) ∧ (ru_fl Q0).length = R0n ∧ R0n ≤ 400 ∧ RwR g2 g4 g5 0 Q0 ∧ ru_ok Q0) (hL1 : CdE R1f_1 (ru_fl Q1) ∧ (ru_fl Q1).length = R1n ∧ R1n ≤ 400 ∧ RwR g2 g4 g5 1 Q1 ∧ ru_ok Q1) (hL2 : CdE R2f_1 (ru_fl Q2) ∧ (ru_fl Q2).length = R2n ∧ R2n ≤ 400 ∧ RwR g2 g4 g5 2 Q2 ∧ ru_ok Q2) (hL3 : CdE R3f_1 (ru_fl Q3) ∧ (ru_fl Q3).length = R3n ∧ R3n ≤ 400 ∧ RwR g2 g4 g5 3 Q3 ∧ ru_ok Q3) (hL4 : CdE R4f_1 (ru_fl Q4) ∧ (ru_fl Q4).length = R4n ∧ R4n ≤ 400 ∧ RwR g2 g4 g5 4 Q4 ∧ ru_ok Q4) : ∀ (yy_900 yy_901 : Nat → Int32) (yy_902 yy_903 yy_904 yy_905 yy_906 yy_907 : Int32) (yy_908 yy_909 yy_910 yy_911 yy_912 yy_913 yy_914 yy_915 : Nat → Int32) (yy_916 : Int32) (yy_917 yy_918 yy_919 yy_920 yy_921 : Nat → Int64) (V G s : Nat → Int32) (g8 g9 : Nat → Int64) (tp fo : Int32) (n : Nat), 3 ≤ n → WgI 5 yy_900 yy_901 V G s0 s yy_916 → WgQ 5 (dX2_wgh5_u8_5 Bf_1 Bf_2 Bf_3 Bf_4 Bf_5 Bf_6 Bf_7 Bf_8 Bv_0 Bv_1 Bv_2 Bv_3 Bv_4 Bv_5 Nf_1 Nf_2 Nf_3 Nv_0 R4f_1 R4n yy_900 yy_901 yy_902 yy_903 yy_904 yy_905 yy_906 yy_907 yy_908 yy_909 yy_910 yy_911 yy_912 yy_913 yy_914 yy_915 yy_916 yy_917 yy_918 yy_919 yy_920 yy_921).1 (dX2_wgh5_u8_5 Bf_1 Bf_2 Bf_3 Bf_4 Bf_5 Bf_6 Bf_7 Bf_8 Bv_0 Bv_1 Bv_2 Bv_3 Bv_4 Bv_5 Nf_1 Nf_2 Nf_3 Nv_0 R4f_1 R4n yy_900 yy_901 yy_902 yy_903 yy_904 yy_905 yy_906 yy_907 yy_908 yy_909 yy_910 yy_911 yy_912 yy_913 yy_914 yy_915 yy_916 yy_917 yy_918 yy_919 yy_920 yy_921).2.1 (dX2_wgh5_u8_5 Bf_1 Bf_2 Bf_3 Bf_4 Bf_5 Bf_6 Bf_7 Bf_8 Bv_0 Bv_1 Bv_2 Bv_3 Bv_4 Bv_5 Nf_1 Nf_2 Nf_3 Nv_0 R4f_1 R4n yy_900 yy_901 yy_902 yy_903 yy_904 yy_905 yy_906 yy_907 yy_908 yy_909 yy_910 yy_911 yy_912 yy_913 yy_914 yy_915 yy_916 yy_917 yy_918 yy_919 yy_920 yy_921).2.2.2.2.2.2.2.2.2.2.2.2.2.2.2.2.1 (dX12_fillsFits_l11 g2 g4 g5 (5 : Int32) 0 n (5 : Int32) g8 g9 G V tp fo s).2.2.2.2.1 (dX12_fillsFits_l11 g2 g4 g5 (5 : Int32) 0 n (5 : Int32) g8 g9 G V tp fo s).2.2.2.1 s0 (dX12_fillsFits_l11 g2 g4 g5 (5 : Int32) 0 n (5 : Int32) g8 g9 G V tp fo s).2.2.2.2.2.2.2 := by
  intro yy_900 yy_901 yy_902 yy_903 yy_904 yy_905 yy_906 yy_907 yy_908 yy_909 yy_910 yy_911 yy_912 yy_913 yy_914 yy_915 yy_916 yy_917 yy_918 yy_919 yy_920 yy_921 V G s g8 g9 tp fo n hn h
  obtain ⟨n, rfl⟩ : ∃ m, n = m + 1 := ⟨n - 1, by omega⟩
  rw [dX2_wgh5_u8_5_s, dX12_fillsFits_l11_s, if_neg (show ¬ (5 : Int32) < (5 : Int32) by decide)]
  have hB := begins_is (s := s)
  have hg := hG.tl h.2.2.2
  have hb := hg.begin hB
  have hc := BgC.begin (y1 := yy_908) (y2 := yy_909) (y3 := yy_910) (y4 := yy_911) (y5 := yy_912) (y6 := yy_913) (y7 := yy_914) (y8 := yy_915) (hC.tl h.2.2.2) hg hB
  have hw := wk_wgh5_l67 (r := 5) (by decide) hL4.1 hL4.2.1 hL4.2.2.1 (by decide) (by rw [show ((5 : Int32) - 1).toInt.toNat = 4 by decide]; exact hL4.2.2.2.1) hL4.2.2.2.2 ((61 - (0 : Int32).toInt).toNat + 1) 0 Bv_0 Bv_4 Bv_5 tp yy_900 _ _ _ _ V (dX12_begins s) yy_921 g8 g9 hc hb.1 (by rw [hb.2]; decide) (by decide) (by decide) (by decide) (by rw [show 61 * (5 : Int32).toInt.toNat + (0 : Int32).toInt.toNat = 61 * 5 by decide]; exact h.1)
  rw [show 61 * (5 : Int32).toInt.toNat + 61 = 61 * 5 + 61 by decide] at hw
  generalize (dX2_wgh5_l67 Bf_1 Bf_2 Bf_3 Bf_4 Bf_5 Bf_6 Bf_7 Bf_8 Bv_1 Bv_2 Bv_3 R4f_1 R4n (5 : Int32) yy_908 yy_909 yy_910 yy_911 yy_912 yy_913 yy_914 yy_915 ((61 - (0 : Int32).toInt).toNat + 1) (0 : Int32) yy_900 yy_921 Bv_0 Bv_4 Bv_5 ((dX9_copyFrom yy_908 yy_909 yy_910 yy_911 yy_912 yy_913 yy_914 yy_915 Bf_1 Bf_2 Bf_3 Bf_4 Bf_5 Bf_6 Bf_7 Bf_8).2.2.1) ((dX9_copyFrom yy_908 yy_909 yy_910 yy_911 yy_912 yy_913 yy_914 yy_915 Bf_1 Bf_2 Bf_3 Bf_4 Bf_5 Bf_6 Bf_7 Bf_8).2.2.2.2.2.1) ((dX9_copyFrom yy_908 yy_909 yy_910 yy_911 yy_912 yy_913 yy_914 yy_915 Bf_1 Bf_2 Bf_3 Bf_4 Bf_5 Bf_6 Bf_7 Bf_8).2.2.2.2.2.2.1) ((dX9_copyFrom yy_908 yy_909 yy_910 yy_911 yy_912 yy_913 yy_914 yy_915 Bf_1 Bf_2 Bf_3 Bf_4 Bf_5 Bf_6 Bf_7 Bf_8).2.2.2.2.2.2.2)) = X at hw ⊢
  generalize dX12_fillsFits_l32 g2 g4 g5 0 (5 : Int32) (5 : Int32) ((61 - (0 : Int32).toInt).toNat + 1) (0 : Int32) g8 g9 V tp (dX12_begins s) = Z at hw ⊢
  have hl : Tl6 s Z.2.2.2.2.2 := hB.six.tr hw.2.six
  have ha : dX2_agrees Nf_1 Nf_2 Nf_3 Nv_0 X.2.1 (5 : Int32) = dX12_areNotesSo Z.2.2.2.2.2 Z.2.2.2.1 (5 : Int32) := agree_is (hN.tl (h.2.2.2.tr hl)) (by decide) (by rw [show 61 * (5 : Int32).toInt.toNat + 61 = 61 * 5 + 61 by decide]; exact hw.1)
  rw [ha]
  generalize vp_nar .boolean (dX12_areNotesSo Z.2.2.2.2.2 Z.2.2.2.1 (5 : Int32)) = a
  rw [upd_at]
  by_cases hz : a = 0
  · rw [if_pos hz]
    obtain ⟨n, rfl⟩ : ∃ m, n = m + 1 := ⟨n - 1, by omega⟩
    rw [dX12_fillsFits_l11_s, if_pos (show (5 : Int32) < (5 : Int32) + 1 by decide)]
    refine wgP_5_6 _ _ _ _ _ _ _ _ _ _ _ _ _ _ _ _ _ _ _ _ _ _ ?_
    have hE := (h.step (r := 5) (a := a) (a₁ := a) (x := vp_nar .boolean (0 : Int32)) (d := 0) (by decide) hw.1 hl rfl (by rw [if_pos hz])).e
    obtain ⟨e1, e2, e3, e4, e5⟩ := hE
    refine ⟨?_, e2, e3, e4, ?_⟩
    · intro k hk
      exact e1 k hk
    · intro k hk
      exact e5 k hk
  · rw [if_neg hz]
    obtain ⟨n, rfl⟩ : ∃ m, n = m + 1 := ⟨n - 1, by omega⟩
    rw [dX12_fillsFits_l11_s, if_pos (show (5 : Int32) < (5 : Int32) + 1 by decide)]
    refine wgP_5_6 _ _ _ _ _ _ _ _ _ _ _ _ _ _ _ _ _ _ _ _ _ _ ?_
    have hE := (h.step (r := 5) (a := a) (a₁ := a) (x := vp_nar .boolean (0 : Int32)) (d := 1) (by decide) hw.1 hl rfl (by rw [if_neg hz])).e
    obtain ⟨e1, e2, e3, e4, e5⟩ := hE
    refine ⟨?_, e2, e3, e4, ?_⟩
    · intro k hk
      exact e1 k hk
    · intro k hk
      exact e5 k hk
theorem wgP_5_4 {Bf_1 Bf_2 Bf_3 Bf_4 Bf_5 Bf_6 Bf_7 Bf_8 Nf_1 Nf_2 Nf_3 R0f_1 R1f_1 R2f_1 R3f_1 R4f_1 g2 g4 g5 s0 : Nat → Int32} {Bv_0 Bv_1 Bv_2 Bv_3 Bv_4 Bv_5 Nv_0 : Int32} {R0n R1n R2n R3n R4n : Nat} {Q0 Q1 Q2 Q3 Q4 : RuA} (hC : BgC Bv_0 Bv_1 Bv_2 Bv_3 Bv_4 Bv_5 Bf_1 Bf_2 Bf_3 Bf_4 Bf_5 Bf_6 Bf_7 Bf_8 s0) (hG : GsB s0) (hN : NtE Nf_1 Nf_2 Nf_3 Nv_0 s0) (hL0 : CdE R0f_1 (ru_fl Q0) ∧ (ru_fl Q0).length = R0n ∧ R0n ≤ 400 ∧ RwR g2 g4 g5 0 Q0 ∧ ru_ok Q0) (hL1 : CdE R1f_1 (ru_fl Q1) ∧ (ru_fl Q1).length = R1n ∧ R1n ≤ 400 ∧ RwR g2 g4 g5 1 Q1 ∧ ru_ok Q1) (hL2 : CdE R2f_1 (ru_fl Q2) ∧ (ru_fl Q2).length = R2n ∧ R2n ≤ 400 ∧ RwR g2 g4 g5 2 Q2 ∧ ru_ok Q2) (hL3 : CdE R3f_1 (ru_fl Q3) ∧ (ru_fl Q3).length = R3n ∧ R3n ≤ 400 ∧ RwR g2 g4 g5 3 Q3 ∧ ru_ok Q3) (hL4 : CdE R4f_1 (ru_fl Q4) ∧ (ru_fl Q4).length = R4n ∧ R4n ≤ 400 ∧ RwR g2 g4 g5 4 Q4 ∧ ru_ok Q4) : ∀ (yy_900 yy_901 : Nat → Int32) (yy_902 yy_903 yy_904 yy_905 yy_906 yy_907 : Int32) (yy_908 yy_909 yy_910 yy_911 yy_912 yy_913 yy_914 yy_915 : Nat → Int32) (yy_916 : Int32) (yy_917 yy_918 yy_919 yy_920 yy_921 : Nat → Int64) (V G s : Nat → Int32) (g8 g9 : Nat → Int64) (tp fo : Int32) (n : Nat), 4 ≤ n → WgI 4 yy_900 yy_901 V G s0 s yy_916 → WgQ 5 (dX2_wgh5_u8_4 Bf_1 Bf_2 Bf_3 Bf_4 Bf_5 Bf_6 Bf_7 Bf_8 Bv_0 Bv_1 Bv_2 Bv_3 Bv_4 Bv_5 Nf_1 Nf_2 Nf_3 Nv_0 R3f_1 R4f_1 R3n R4n yy_900 yy_901 yy_902 yy_903 yy_904 yy_905 yy_906 yy_907 yy_908 yy_909 yy_910 yy_911 yy_912 yy_913 yy_914 yy_915 yy_916 yy_917 yy_918 yy_919 yy_920 yy_921).1 (dX2_wgh5_u8_4 Bf_1 Bf_2 Bf_3 Bf_4 Bf_5 Bf_6 Bf_7 Bf_8 Bv_0 Bv_1 Bv_2 Bv_3 Bv_4 Bv_5 Nf_1 Nf_2 Nf_3 Nv_0 R3f_1 R4f_1 R3n R4n yy_900 yy_901 yy_902 yy_903 yy_904 yy_905 yy_906 yy_907 yy_908 yy_909 yy_910 yy_911 yy_912 yy_913 yy_914 yy_915 yy_916 yy_917 yy_918 yy_919 yy_920 yy_921).2.1 (dX2_wgh5_u8_4 Bf_1 Bf_2 Bf_3 Bf_4 Bf_5 Bf_6 Bf_7 Bf_8 Bv_0 Bv_1 Bv_2 Bv_3 Bv_4 Bv_5 Nf_1 Nf_2 Nf_3 Nv_0 R3f_1 R4f_1 R3n R4n yy_900 yy_901 yy_902 yy_903 yy_904 yy_905 yy_906 yy_907 yy_908 yy_909 yy_910 yy_911 yy_912 yy_913 yy_914 yy_915 yy_916 yy_917 yy_918 yy_919 yy_920 yy_921).2.2.2.2.2.2.2.2.2.2.2.2.2.2.2.2.1 (dX12_fillsFits_l11 g2 g4 g5 (5 : Int32) 0 n (4 : Int32) g8 g9 G V tp fo s).2.2.2.2.1 (dX12_fillsFits_l11 g2 g4 g5 (5 : Int32) 0 n (4 : Int32) g8 g9 G V tp fo s).2.2.2.1 s0 (dX12_fillsFits_l11 g2 g4 g5 (5 : Int32) 0 n (4 : Int32) g8 g9 G V tp fo s).2.2.2.2.2.2.2 := by
  intro yy_900 yy_901 yy_902 yy_903 yy_904 yy_905 yy_906 yy_907 yy_908 yy_909 yy_910 yy_911 yy_912 yy_913 yy_914 yy_915 yy_916 yy_917 yy_918 yy_919 yy_920 yy_921 V G s g8 g9 tp fo n hn h
  obtain ⟨n, rfl⟩ : ∃ m, n = m + 1 := ⟨n - 1, by omega⟩
  rw [dX2_wgh5_u8_4_s, dX12_fillsFits_l11_s, if_neg (show ¬ (5 : Int32) < (4 : Int32) by decide)]
  have hB := begins_is (s := s)
  have hg := hG.tl h.2.2.2
  have hb := hg.begin hB
  have hc := BgC.begin (y1 := yy_908) (y2 := yy_909) (y3 := yy_910) (y4 := yy_911) (y5 := yy_912) (y6 := yy_913) (y7 := yy_914) (y8 := yy_915) (hC.tl h.2.2.2) hg hB
  have hw := wk_wgh5_l67v1 (r := 4) (by decide) hL3.1 hL3.2.1 hL3.2.2.1 (by decide) (by rw [show ((4 : Int32) - 1).toInt.toNat = 3 by decide]; exact hL3.2.2.2.1) hL3.2.2.2.2 ((61 - (0 : Int32).toInt).toNat + 1) 0 Bv_0 Bv_4 Bv_5 tp yy_900 _ _ _ _ V (dX12_begins s) yy_920 g8 g9 hc hb.1 (by rw [hb.2]; decide) (by decide) (by decide) (by decide) (by rw [show 61 * (4 : Int32).toInt.toNat + (0 : Int32).toInt.toNat = 61 * 4 by decide]; exact h.1)
  rw [show 61 * (4 : Int32).toInt.toNat + 61 = 61 * 4 + 61 by decide] at hw
  generalize (dX2_wgh5_l67v1 Bf_1 Bf_2 Bf_3 Bf_4 Bf_5 Bf_6 Bf_7 Bf_8 Bv_1 Bv_2 Bv_3 R3f_1 R3n (4 : Int32) yy_908 yy_909 yy_910 yy_911 yy_912 yy_913 yy_914 yy_915 ((61 - (0 : Int32).toInt).toNat + 1) (0 : Int32) yy_900 yy_920 Bv_0 Bv_4 Bv_5 ((dX9_copyFrom yy_908 yy_909 yy_910 yy_911 yy_912 yy_913 yy_914 yy_915 Bf_1 Bf_2 Bf_3 Bf_4 Bf_5 Bf_6 Bf_7 Bf_8).2.2.1) ((dX9_copyFrom yy_908 yy_909 yy_910 yy_911 yy_912 yy_913 yy_914 yy_915 Bf_1 Bf_2 Bf_3 Bf_4 Bf_5 Bf_6 Bf_7 Bf_8).2.2.2.2.2.1) ((dX9_copyFrom yy_908 yy_909 yy_910 yy_911 yy_912 yy_913 yy_914 yy_915 Bf_1 Bf_2 Bf_3 Bf_4 Bf_5 Bf_6 Bf_7 Bf_8).2.2.2.2.2.2.1) ((dX9_copyFrom yy_908 yy_909 yy_910 yy_911 yy_912 yy_913 yy_914 yy_915 Bf_1 Bf_2 Bf_3 Bf_4 Bf_5 Bf_6 Bf_7 Bf_8).2.2.2.2.2.2.2)) = X at hw ⊢
  generalize dX12_fillsFits_l32 g2 g4 g5 0 (4 : Int32) (4 : Int32) ((61 - (0 : Int32).toInt).toNat + 1) (0 : Int32) g8 g9 V tp (dX12_begins s) = Z at hw ⊢
  have hl : Tl6 s Z.2.2.2.2.2 := hB.six.tr hw.2.six
  have ha : dX2_agrees Nf_1 Nf_2 Nf_3 Nv_0 X.2.1 (4 : Int32) = dX12_areNotesSo Z.2.2.2.2.2 Z.2.2.2.1 (4 : Int32) := agree_is (hN.tl (h.2.2.2.tr hl)) (by decide) (by rw [show 61 * (4 : Int32).toInt.toNat + 61 = 61 * 4 + 61 by decide]; exact hw.1)
  rw [ha]
  generalize vp_nar .boolean (dX12_areNotesSo Z.2.2.2.2.2 Z.2.2.2.1 (4 : Int32)) = a
  rw [upd_at]
  by_cases hz : a = 0
  · rw [if_pos hz]
    rw [show (4 : Int32) + 1 = 5 by decide]
    exact wgP_5_5 hC hG hN hL0 hL1 hL2 hL3 hL4 _ _ _ _ _ _ _ _ _ _ _ _ _ _ _ _ _ _ _ _ _ _ _ _ _ _ _ _ _ n (by omega) (h.step (r := 4) (a := a) (a₁ := a) (d := 0) (by decide) hw.1 hl rfl (by rw [if_pos hz]))
  · rw [if_neg hz]
    rw [show (4 : Int32) + 1 = 5 by decide]
    exact wgP_5_5 hC hG hN hL0 hL1 hL2 hL3 hL4 _ _ _ _ _ _ _ _ _ _ _ _ _ _ _ _ _ _ _ _ _ _ _ _ _ _ _ _ _ n (by omega) (h.step (r := 4) (a := a) (a₁ := a) (d := 1) (by decide) hw.1 hl rfl (by rw [if_neg hz]))
theorem wgP_5_3 {Bf_1 Bf_2 Bf_3 Bf_4 Bf_5 Bf_6 Bf_7 Bf_8 Nf_1 Nf_2 Nf_3 R0f_1 R1f_1 R2f_1 R3f_1 R4f_1 g2 g4 g5 s0 : Nat → Int32} {Bv_0 Bv_1 Bv_2 Bv_3 Bv_4 Bv_5 Nv_0 : Int32} {R0n R1n R2n R3n R4n : Nat} {Q0 Q1 Q2 Q3 Q4 : RuA} (hC : BgC Bv_0 Bv_1 Bv_2 Bv_3 Bv_4 Bv_5 Bf_1 Bf_2 Bf_3 Bf_4 Bf_5 Bf_6 Bf_7 Bf_8 s0) (hG : GsB s0) (hN : NtE Nf_1 Nf_2 Nf_3 Nv_0 s0) (hL0 : CdE R0f_1 (ru_fl Q0) ∧ (ru_fl Q0).length = R0n ∧ R0n ≤ 400 ∧ RwR g2 g4 g5 0 Q0 ∧ ru_ok Q0) (hL1 : CdE R1f_1 (ru_fl Q1) ∧ (ru_fl Q1).length = R1n ∧ R1n ≤ 400 ∧ RwR g2 g4 g5 1 Q1 ∧ ru_ok Q1) (hL2 : CdE R2f_1 (ru_fl Q2) ∧ (ru_fl Q2).length = R2n ∧ R2n ≤ 400 ∧ RwR g2 g4 g5 2 Q2 ∧ ru_ok Q2) (hL3 : CdE R3f_1 (ru_fl Q3) ∧ (ru_fl Q3).length = R3n ∧ R3n ≤ 400 ∧ RwR g2 g4 g5 3 Q3 ∧ ru_ok Q3) (hL4 : CdE R4f_1 (ru_fl Q4) ∧ (ru_fl Q4).length = R4n ∧ R4n ≤ 400 ∧ RwR g2 g4 g5 4 Q4 ∧ ru_ok Q4) : ∀ (yy_900 yy_901 : Nat → Int32) (yy_902 yy_903 yy_904 yy_905 yy_906 yy_907 : Int32) (yy_908 yy_909 yy_910 yy_911 yy_912 yy_913 yy_914 yy_915 : Nat → Int32) (yy_916 : Int32) (yy_917 yy_918 yy_919 yy_920 yy_921 : Nat → Int64) (V G s : Nat → Int32) (g8 g9 : Nat → Int64) (tp fo : Int32) (n : Nat), 5 ≤ n → WgI 3 yy_900 yy_901 V G s0 s yy_916 → WgQ 5 (dX2_wgh5_u8_3 Bf_1 Bf_2 Bf_3 Bf_4 Bf_5 Bf_6 Bf_7 Bf_8 Bv_0 Bv_1 Bv_2 Bv_3 Bv_4 Bv_5 Nf_1 Nf_2 Nf_3 Nv_0 R2f_1 R3f_1 R4f_1 R2n R3n R4n yy_900 yy_901 yy_902 yy_903 yy_904 yy_905 yy_906 yy_907 yy_908 yy_909 yy_910 yy_911 yy_912 yy_913 yy_914 yy_915 yy_916 yy_917 yy_918 yy_919 yy_920 yy_921).1 (dX2_wgh5_u8_3 Bf_1 Bf_2 Bf_3 Bf_4 Bf_5 Bf_6 Bf_7 Bf_8 Bv_0 Bv_1 Bv_2 Bv_3 Bv_4 Bv_5 Nf_1 Nf_2 Nf_3 Nv_0 R2f_1 R3f_1 R4f_1 R2n R3n R4n yy_900 yy_901 yy_902 yy_903 yy_904 yy_905 yy_906 yy_907 yy_908 yy_909 yy_910 yy_911 yy_912 yy_913 yy_914 yy_915 yy_916 yy_917 yy_918 yy_919 yy_920 yy_921).2.1 (dX2_wgh5_u8_3 Bf_1 Bf_2 Bf_3 Bf_4 Bf_5 Bf_6 Bf_7 Bf_8 Bv_0 Bv_1 Bv_2 Bv_3 Bv_4 Bv_5 Nf_1 Nf_2 Nf_3 Nv_0 R2f_1 R3f_1 R4f_1 R2n R3n R4n yy_900 yy_901 yy_902 yy_903 yy_904 yy_905 yy_906 yy_907 yy_908 yy_909 yy_910 yy_911 yy_912 yy_913 yy_914 yy_915 yy_916 yy_917 yy_918 yy_919 yy_920 yy_921).2.2.2.2.2.2.2.2.2.2.2.2.2.2.2.2.1 (dX12_fillsFits_l11 g2 g4 g5 (5 : Int32) 0 n (3 : Int32) g8 g9 G V tp fo s).2.2.2.2.1 (dX12_fillsFits_l11 g2 g4 g5 (5 : Int32) 0 n (3 : Int32) g8 g9 G V tp fo s).2.2.2.1 s0 (dX12_fillsFits_l11 g2 g4 g5 (5 : Int32) 0 n (3 : Int32) g8 g9 G V tp fo s).2.2.2.2.2.2.2 := by
  intro yy_900 yy_901 yy_902 yy_903 yy_904 yy_905 yy_906 yy_907 yy_908 yy_909 yy_910 yy_911 yy_912 yy_913 yy_914 yy_915 yy_916 yy_917 yy_918 yy_919 yy_920 yy_921 V G s g8 g9 tp fo n hn h
  obtain ⟨n, rfl⟩ : ∃ m, n = m + 1 := ⟨n - 1, by omega⟩
  rw [dX2_wgh5_u8_3_s, dX12_fillsFits_l11_s, if_neg (show ¬ (5 : Int32) < (3 : Int32) by decide)]
  have hB := begins_is (s := s)
  have hg := hG.tl h.2.2.2
  have hb := hg.begin hB
  have hc := BgC.begin (y1 := yy_908) (y2 := yy_909) (y3 := yy_910) (y4 := yy_911) (y5 := yy_912) (y6 := yy_913) (y7 := yy_914) (y8 := yy_915) (hC.tl h.2.2.2) hg hB
  have hw := wk_wgh5_l67v2 (r := 3) (by decide) hL2.1 hL2.2.1 hL2.2.2.1 (by decide) (by rw [show ((3 : Int32) - 1).toInt.toNat = 2 by decide]; exact hL2.2.2.2.1) hL2.2.2.2.2 ((61 - (0 : Int32).toInt).toNat + 1) 0 Bv_0 Bv_4 Bv_5 tp yy_900 _ _ _ _ V (dX12_begins s) yy_919 g8 g9 hc hb.1 (by rw [hb.2]; decide) (by decide) (by decide) (by decide) (by rw [show 61 * (3 : Int32).toInt.toNat + (0 : Int32).toInt.toNat = 61 * 3 by decide]; exact h.1)
  rw [show 61 * (3 : Int32).toInt.toNat + 61 = 61 * 3 + 61 by decide] at hw
  generalize (dX2_wgh5_l67v2 Bf_1 Bf_2 Bf_3 Bf_4 Bf_5 Bf_6 Bf_7 Bf_8 Bv_1 Bv_2 Bv_3 R2f_1 R2n (3 : Int32) yy_908 yy_909 yy_910 yy_911 yy_912 yy_913 yy_914 yy_915 ((61 - (0 : Int32).toInt).toNat + 1) (0 : Int32) yy_900 yy_919 Bv_0 Bv_4 Bv_5 ((dX9_copyFrom yy_908 yy_909 yy_910 yy_911 yy_912 yy_913 yy_914 yy_915 Bf_1 Bf_2 Bf_3 Bf_4 Bf_5 Bf_6 Bf_7 Bf_8).2.2.1) ((dX9_copyFrom yy_908 yy_909 yy_910 yy_911 yy_912 yy_913 yy_914 yy_915 Bf_1 Bf_2 Bf_3 Bf_4 Bf_5 Bf_6 Bf_7 Bf_8).2.2.2.2.2.1) ((dX9_copyFrom yy_908 yy_909 yy_910 yy_911 yy_912 yy_913 yy_914 yy_915 Bf_1 Bf_2 Bf_3 Bf_4 Bf_5 Bf_6 Bf_7 Bf_8).2.2.2.2.2.2.1) ((dX9_copyFrom yy_908 yy_909 yy_910 yy_911 yy_912 yy_913 yy_914 yy_915 Bf_1 Bf_2 Bf_3 Bf_4 Bf_5 Bf_6 Bf_7 Bf_8).2.2.2.2.2.2.2)) = X at hw ⊢
  generalize dX12_fillsFits_l32 g2 g4 g5 0 (3 : Int32) (3 : Int32) ((61 - (0 : Int32).toInt).toNat + 1) (0 : Int32) g8 g9 V tp (dX12_begins s) = Z at hw ⊢
  have hl : Tl6 s Z.2.2.2.2.2 := hB.six.tr hw.2.six
  have ha : dX2_agrees Nf_1 Nf_2 Nf_3 Nv_0 X.2.1 (3 : Int32) = dX12_areNotesSo Z.2.2.2.2.2 Z.2.2.2.1 (3 : Int32) := agree_is (hN.tl (h.2.2.2.tr hl)) (by decide) (by rw [show 61 * (3 : Int32).toInt.toNat + 61 = 61 * 3 + 61 by decide]; exact hw.1)
  rw [ha]
  generalize vp_nar .boolean (dX12_areNotesSo Z.2.2.2.2.2 Z.2.2.2.1 (3 : Int32)) = a
  rw [upd_at]
  by_cases hz : a = 0
  · rw [if_pos hz]
    rw [show (3 : Int32) + 1 = 4 by decide]
    exact wgP_5_4 hC hG hN hL0 hL1 hL2 hL3 hL4 _ _ _ _ _ _ _ _ _ _ _ _ _ _ _ _ _ _ _ _ _ _ _ _ _ _ _ _ _ n (by omega) (h.step (r := 3) (a := a) (a₁ := a) (d := 0) (by decide) hw.1 hl rfl (by rw [if_pos hz]))
  · rw [if_neg hz]
    rw [show (3 : Int32) + 1 = 4 by decide]
    exact wgP_5_4 hC hG hN hL0 hL1 hL2 hL3 hL4 _ _ _ _ _ _ _ _ _ _ _ _ _ _ _ _ _ _ _ _ _ _ _ _ _ _ _ _ _ n (by omega) (h.step (r := 3) (a := a) (a₁ := a) (d := 1) (by decide) hw.1 hl rfl (by rw [if_neg hz]))
theorem wgP_5_2 {Bf_1 Bf_2 Bf_3 Bf_4 Bf_5 Bf_6 Bf_7 Bf_8 Nf_1 Nf_2 Nf_3 R0f_1 R1f_1 R2f_1 R3f_1 R4f_1 g2 g4 g5 s0 : Nat → Int32} {Bv_0 Bv_1 Bv_2 Bv_3 Bv_4 Bv_5 Nv_0 : Int32} {R0n R1n R2n R3n R4n : Nat} {Q0 Q1 Q2 Q3 Q4 : RuA} (hC : BgC Bv_0 Bv_1 Bv_2 Bv_3 Bv_4 Bv_5 Bf_1 Bf_2 Bf_3 Bf_4 Bf_5 Bf_6 Bf_7 Bf_8 s0) (hG : GsB s0) (hN : NtE Nf_1 Nf_2 Nf_3 Nv_0 s0) (hL0 : CdE R0f_1 (ru_fl Q0) ∧ (ru_fl Q0).length = R0n ∧ R0n ≤ 400 ∧ RwR g2 g4 g5 0 Q0 ∧ ru_ok Q0) (hL1 : CdE R1f_1 (ru_fl Q1) ∧ (ru_fl Q1).length = R1n ∧ R1n ≤ 400 ∧ RwR g2 g4 g5 1 Q1 ∧ ru_ok Q1) (hL2 : CdE R2f_1 (ru_fl Q2) ∧ (ru_fl Q2).length = R2n ∧ R2n ≤ 400 ∧ RwR g2 g4 g5 2 Q2 ∧ ru_ok Q2) (hL3 : CdE R3f_1 (ru_fl Q3) ∧ (ru_fl Q3).length = R3n ∧ R3n ≤ 400 ∧ RwR g2 g4 g5 3 Q3 ∧ ru_ok Q3) (hL4 : CdE R4f_1 (ru_fl Q4) ∧ (ru_fl Q4).length = R4n ∧ R4n ≤ 400 ∧ RwR g2 g4 g5 4 Q4 ∧ ru_ok Q4) : ∀ (yy_900 yy_901 : Nat → Int32) (yy_902 yy_903 yy_904 yy_905 yy_906 yy_907 : Int32) (yy_908 yy_909 yy_910 yy_911 yy_912 yy_913 yy_914 yy_915 : Nat → Int32) (yy_916 : Int32) (yy_917 yy_918 yy_919 yy_920 yy_921 : Nat → Int64) (V G s : Nat → Int32) (g8 g9 : Nat → Int64) (tp fo : Int32) (n : Nat), 6 ≤ n → WgI 2 yy_900 yy_901 V G s0 s yy_916 → WgQ 5 (dX2_wgh5_u8_2 Bf_1 Bf_2 Bf_3 Bf_4 Bf_5 Bf_6 Bf_7 Bf_8 Bv_0 Bv_1 Bv_2 Bv_3 Bv_4 Bv_5 Nf_1 Nf_2 Nf_3 Nv_0 R1f_1 R2f_1 R3f_1 R4f_1 R1n R2n R3n R4n yy_900 yy_901 yy_902 yy_903 yy_904 yy_905 yy_906 yy_907 yy_908 yy_909 yy_910 yy_911 yy_912 yy_913 yy_914 yy_915 yy_916 yy_917 yy_918 yy_919 yy_920 yy_921).1 (dX2_wgh5_u8_2 Bf_1 Bf_2 Bf_3 Bf_4 Bf_5 Bf_6 Bf_7 Bf_8 Bv_0 Bv_1 Bv_2 Bv_3 Bv_4 Bv_5 Nf_1 Nf_2 Nf_3 Nv_0 R1f_1 R2f_1 R3f_1 R4f_1 R1n R2n R3n R4n yy_900 yy_901 yy_902 yy_903 yy_904 yy_905 yy_906 yy_907 yy_908 yy_909 yy_910 yy_911 yy_912 yy_913 yy_914 yy_915 yy_916 yy_917 yy_918 yy_919 yy_920 yy_921).2.1 (dX2_wgh5_u8_2 Bf_1 Bf_2 Bf_3 Bf_4 Bf_5 Bf_6 Bf_7 Bf_8 Bv_0 Bv_1 Bv_2 Bv_3 Bv_4 Bv_5 Nf_1 Nf_2 Nf_3 Nv_0 R1f_1 R2f_1 R3f_1 R4f_1 R1n R2n R3n R4n yy_900 yy_901 yy_902 yy_903 yy_904 yy_905 yy_906 yy_907 yy_908 yy_909 yy_910 yy_911 yy_912 yy_913 yy_914 yy_915 yy_916 yy_917 yy_918 yy_919 yy_920 yy_921).2.2.2.2.2.2.2.2.2.2.2.2.2.2.2.2.1 (dX12_fillsFits_l11 g2 g4 g5 (5 : Int32) 0 n (2 : Int32) g8 g9 G V tp fo s).2.2.2.2.1 (dX12_fillsFits_l11 g2 g4 g5 (5 : Int32) 0 n (2 : Int32) g8 g9 G V tp fo s).2.2.2.1 s0 (dX12_fillsFits_l11 g2 g4 g5 (5 : Int32) 0 n (2 : Int32) g8 g9 G V tp fo s).2.2.2.2.2.2.2 := by
  intro yy_900 yy_901 yy_902 yy_903 yy_904 yy_905 yy_906 yy_907 yy_908 yy_909 yy_910 yy_911 yy_912 yy_913 yy_914 yy_915 yy_916 yy_917 yy_918 yy_919 yy_920 yy_921 V G s g8 g9 tp fo n hn h
  obtain ⟨n, rfl⟩ : ∃ m, n = m + 1 := ⟨n - 1, by omega⟩
  rw [dX2_wgh5_u8_2_s, dX12_fillsFits_l11_s, if_neg (show ¬ (5 : Int32) < (2 : Int32) by decide)]
  have hB := begins_is (s := s)
  have hg := hG.tl h.2.2.2
  have hb := hg.begin hB
  have hc := BgC.begin (y1 := yy_908) (y2 := yy_909) (y3 := yy_910) (y4 := yy_911) (y5 := yy_912) (y6 := yy_913) (y7 := yy_914) (y8 := yy_915) (hC.tl h.2.2.2) hg hB
  have hw := wk_wgh5_l67v3 (r := 2) (by decide) hL1.1 hL1.2.1 hL1.2.2.1 (by decide) (by rw [show ((2 : Int32) - 1).toInt.toNat = 1 by decide]; exact hL1.2.2.2.1) hL1.2.2.2.2 ((61 - (0 : Int32).toInt).toNat + 1) 0 Bv_0 Bv_4 Bv_5 tp yy_900 _ _ _ _ V (dX12_begins s) yy_918 g8 g9 hc hb.1 (by rw [hb.2]; decide) (by decide) (by decide) (by decide) (by rw [show 61 * (2 : Int32).toInt.toNat + (0 : Int32).toInt.toNat = 61 * 2 by decide]; exact h.1)
  rw [show 61 * (2 : Int32).toInt.toNat + 61 = 61 * 2 + 61 by decide] at hw
  generalize (dX2_wgh5_l67v3 Bf_1 Bf_2 Bf_3 Bf_4 Bf_5 Bf_6 Bf_7 Bf_8 Bv_1 Bv_2 Bv_3 R1f_1 R1n (2 : Int32) yy_908 yy_909 yy_910 yy_911 yy_912 yy_913 yy_914 yy_915 ((61 - (0 : Int32).toInt).toNat + 1) (0 : Int32) yy_900 yy_918 Bv_0 Bv_4 Bv_5 ((dX9_copyFrom yy_908 yy_909 yy_910 yy_911 yy_912 yy_913 yy_914 yy_915 Bf_1 Bf_2 Bf_3 Bf_4 Bf_5 Bf_6 Bf_7 Bf_8).2.2.1) ((dX9_copyFrom yy_908 yy_909 yy_910 yy_911 yy_912 yy_913 yy_914 yy_915 Bf_1 Bf_2 Bf_3 Bf_4 Bf_5 Bf_6 Bf_7 Bf_8).2.2.2.2.2.1) ((dX9_copyFrom yy_908 yy_909 yy_910 yy_911 yy_912 yy_913 yy_914 yy_915 Bf_1 Bf_2 Bf_3 Bf_4 Bf_5 Bf_6 Bf_7 Bf_8).2.2.2.2.2.2.1) ((dX9_copyFrom yy_908 yy_909 yy_910 yy_911 yy_912 yy_913 yy_914 yy_915 Bf_1 Bf_2 Bf_3 Bf_4 Bf_5 Bf_6 Bf_7 Bf_8).2.2.2.2.2.2.2)) = X at hw ⊢
  generalize dX12_fillsFits_l32 g2 g4 g5 0 (2 : Int32) (2 : Int32) ((61 - (0 : Int32).toInt).toNat + 1) (0 : Int32) g8 g9 V tp (dX12_begins s) = Z at hw ⊢
  have hl : Tl6 s Z.2.2.2.2.2 := hB.six.tr hw.2.six
  have ha : dX2_agrees Nf_1 Nf_2 Nf_3 Nv_0 X.2.1 (2 : Int32) = dX12_areNotesSo Z.2.2.2.2.2 Z.2.2.2.1 (2 : Int32) := agree_is (hN.tl (h.2.2.2.tr hl)) (by decide) (by rw [show 61 * (2 : Int32).toInt.toNat + 61 = 61 * 2 + 61 by decide]; exact hw.1)
  rw [ha]
  generalize vp_nar .boolean (dX12_areNotesSo Z.2.2.2.2.2 Z.2.2.2.1 (2 : Int32)) = a
  rw [upd_at]
  by_cases hz : a = 0
  · rw [if_pos hz]
    rw [show (2 : Int32) + 1 = 3 by decide]
    exact wgP_5_3 hC hG hN hL0 hL1 hL2 hL3 hL4 _ _ _ _ _ _ _ _ _ _ _ _ _ _ _ _ _ _ _ _ _ _ _ _ _ _ _ _ _ n (by omega) (h.step (r := 2) (a := a) (a₁ := a) (d := 0) (by decide) hw.1 hl rfl (by rw [if_pos hz]))
  · rw [if_neg hz]
    rw [show (2 : Int32) + 1 = 3 by decide]
    exact wgP_5_3 hC hG hN hL0 hL1 hL2 hL3 hL4 _ _ _ _ _ _ _ _ _ _ _ _ _ _ _ _ _ _ _ _ _ _ _ _ _ _ _ _ _ n (by omega) (h.step (r := 2) (a := a) (a₁ := a) (d := 1) (by decide) hw.1 hl rfl (by rw [if_neg hz]))
theorem wgP_5_1 {Bf_1 Bf_2 Bf_3 Bf_4 Bf_5 Bf_6 Bf_7 Bf_8 Nf_1 Nf_2 Nf_3 R0f_1 R1f_1 R2f_1 R3f_1 R4f_1 g2 g4 g5 s0 : Nat → Int32} {Bv_0 Bv_1 Bv_2 Bv_3 Bv_4 Bv_5 Nv_0 : Int32} {R0n R1n R2n R3n R4n : Nat} {Q0 Q1 Q2 Q3 Q4 : RuA} (hC : BgC Bv_0 Bv_1 Bv_2 Bv_3 Bv_4 Bv_5 Bf_1 Bf_2 Bf_3 Bf_4 Bf_5 Bf_6 Bf_7 Bf_8 s0) (hG : GsB s0) (hN : NtE Nf_1 Nf_2 Nf_3 Nv_0 s0) (hL0 : CdE R0f_1 (ru_fl Q0) ∧ (ru_fl Q0).length = R0n ∧ R0n ≤ 400 ∧ RwR g2 g4 g5 0 Q0 ∧ ru_ok Q0) (hL1 : CdE R1f_1 (ru_fl Q1) ∧ (ru_fl Q1).length = R1n ∧ R1n ≤ 400 ∧ RwR g2 g4 g5 1 Q1 ∧ ru_ok Q1) (hL2 : CdE R2f_1 (ru_fl Q2) ∧ (ru_fl Q2).length = R2n ∧ R2n ≤ 400 ∧ RwR g2 g4 g5 2 Q2 ∧ ru_ok Q2) (hL3 : CdE R3f_1 (ru_fl Q3) ∧ (ru_fl Q3).length = R3n ∧ R3n ≤ 400 ∧ RwR g2 g4 g5 3 Q3 ∧ ru_ok Q3) (hL4 : CdE R4f_1 (ru_fl Q4) ∧ (ru_fl Q4).length = R4n ∧ R4n ≤ 400 ∧ RwR g2 g4 g5 4 Q4 ∧ ru_ok Q4) : ∀ (yy_900 yy_901 : Nat → Int32) (yy_902 yy_903 yy_904 yy_905 yy_906 yy_907 : Int32) (yy_908 yy_909 yy_910 yy_911 yy_912 yy_913 yy_914 yy_915 : Nat → Int32) (yy_916 : Int32) (yy_917 yy_918 yy_919 yy_920 yy_921 : Nat → Int64) (V G s : Nat → Int32) (g8 g9 : Nat → Int64) (tp fo : Int32) (n : Nat), 7 ≤ n → WgI 1 yy_900 yy_901 V G s0 s yy_916 → WgQ 5 (dX2_wgh5_u8_1 Bf_1 Bf_2 Bf_3 Bf_4 Bf_5 Bf_6 Bf_7 Bf_8 Bv_0 Bv_1 Bv_2 Bv_3 Bv_4 Bv_5 Nf_1 Nf_2 Nf_3 Nv_0 R0f_1 R1f_1 R2f_1 R3f_1 R4f_1 R0n R1n R2n R3n R4n yy_900 yy_901 yy_902 yy_903 yy_904 yy_905 yy_906 yy_907 yy_908 yy_909 yy_910 yy_911 yy_912 yy_913 yy_914 yy_915 yy_916 yy_917 yy_918 yy_919 yy_920 yy_921).1 (dX2_wgh5_u8_1 Bf_1 Bf_2 Bf_3 Bf_4 Bf_5 Bf_6 Bf_7 Bf_8 Bv_0 Bv_1 Bv_2 Bv_3 Bv_4 Bv_5 Nf_1 Nf_2 Nf_3 Nv_0 R0f_1 R1f_1 R2f_1 R3f_1 R4f_1 R0n R1n R2n R3n R4n yy_900 yy_901 yy_902 yy_903 yy_904 yy_905 yy_906 yy_907 yy_908 yy_909 yy_910 yy_911 yy_912 yy_913 yy_914 yy_915 yy_916 yy_917 yy_918 yy_919 yy_920 yy_921).2.1 (dX2_wgh5_u8_1 Bf_1 Bf_2 Bf_3 Bf_4 Bf_5 Bf_6 Bf_7 Bf_8 Bv_0 Bv_1 Bv_2 Bv_3 Bv_4 Bv_5 Nf_1 Nf_2 Nf_3 Nv_0 R0f_1 R1f_1 R2f_1 R3f_1 R4f_1 R0n R1n R2n R3n R4n yy_900 yy_901 yy_902 yy_903 yy_904 yy_905 yy_906 yy_907 yy_908 yy_909 yy_910 yy_911 yy_912 yy_913 yy_914 yy_915 yy_916 yy_917 yy_918 yy_919 yy_920 yy_921).2.2.2.2.2.2.2.2.2.2.2.2.2.2.2.2.1 (dX12_fillsFits_l11 g2 g4 g5 (5 : Int32) 0 n (1 : Int32) g8 g9 G V tp fo s).2.2.2.2.1 (dX12_fillsFits_l11 g2 g4 g5 (5 : Int32) 0 n (1 : Int32) g8 g9 G V tp fo s).2.2.2.1 s0 (dX12_fillsFits_l11 g2 g4 g5 (5 : Int32) 0 n (1 : Int32) g8 g9 G V tp fo s).2.2.2.2.2.2.2 := by
  intro yy_900 yy_901 yy_902 yy_903 yy_904 yy_905 yy_906 yy_907 yy_908 yy_909 yy_910 yy_911 yy_912 yy_913 yy_914 yy_915 yy_916 yy_917 yy_918 yy_919 yy_920 yy_921 V G s g8 g9 tp fo n hn h
  obtain ⟨n, rfl⟩ : ∃ m, n = m + 1 := ⟨n - 1, by omega⟩
  rw [dX2_wgh5_u8_1_s, dX12_fillsFits_l11_s, if_neg (show ¬ (5 : Int32) < (1 : Int32) by decide)]
  have hB := begins_is (s := s)
  have hg := hG.tl h.2.2.2
  have hb := hg.begin hB
  have hc := BgC.begin (y1 := yy_908) (y2 := yy_909) (y3 := yy_910) (y4 := yy_911) (y5 := yy_912) (y6 := yy_913) (y7 := yy_914) (y8 := yy_915) (hC.tl h.2.2.2) hg hB
  have hw := wk_wgh5_l67v4 (r := 1) (by decide) hL0.1 hL0.2.1 hL0.2.2.1 (by decide) (by rw [show ((1 : Int32) - 1).toInt.toNat = 0 by decide]; exact hL0.2.2.2.1) hL0.2.2.2.2 ((61 - (0 : Int32).toInt).toNat + 1) 0 Bv_0 Bv_4 Bv_5 tp yy_900 _ _ _ _ V (dX12_begins s) yy_917 g8 g9 hc hb.1 (by rw [hb.2]; decide) (by decide) (by decide) (by decide) (by rw [show 61 * (1 : Int32).toInt.toNat + (0 : Int32).toInt.toNat = 61 * 1 by decide]; exact h.1)
  rw [show 61 * (1 : Int32).toInt.toNat + 61 = 61 * 1 + 61 by decide] at hw
  generalize (dX2_wgh5_l67v4 Bf_1 Bf_2 Bf_3 Bf_4 Bf_5 Bf_6 Bf_7 Bf_8 Bv_1 Bv_2 Bv_3 R0f_1 R0n (1 : Int32) yy_908 yy_909 yy_910 yy_911 yy_912 yy_913 yy_914 yy_915 ((61 - (0 : Int32).toInt).toNat + 1) (0 : Int32) yy_900 yy_917 Bv_0 Bv_4 Bv_5 ((dX9_copyFrom yy_908 yy_909 yy_910 yy_911 yy_912 yy_913 yy_914 yy_915 Bf_1 Bf_2 Bf_3 Bf_4 Bf_5 Bf_6 Bf_7 Bf_8).2.2.1) ((dX9_copyFrom yy_908 yy_909 yy_910 yy_911 yy_912 yy_913 yy_914 yy_915 Bf_1 Bf_2 Bf_3 Bf_4 Bf_5 Bf_6 Bf_7 Bf_8).2.2.2.2.2.1) ((dX9_copyFrom yy_908 yy_909 yy_910 yy_911 yy_912 yy_913 yy_914 yy_915 Bf_1 Bf_2 Bf_3 Bf_4 Bf_5 Bf_6 Bf_7 Bf_8).2.2.2.2.2.2.1) ((dX9_copyFrom yy_908 yy_909 yy_910 yy_911 yy_912 yy_913 yy_914 yy_915 Bf_1 Bf_2 Bf_3 Bf_4 Bf_5 Bf_6 Bf_7 Bf_8).2.2.2.2.2.2.2)) = X at hw ⊢
  generalize dX12_fillsFits_l32 g2 g4 g5 0 (1 : Int32) (1 : Int32) ((61 - (0 : Int32).toInt).toNat + 1) (0 : Int32) g8 g9 V tp (dX12_begins s) = Z at hw ⊢
  have hl : Tl6 s Z.2.2.2.2.2 := hB.six.tr hw.2.six
  have ha : dX2_agrees Nf_1 Nf_2 Nf_3 Nv_0 X.2.1 (1 : Int32) = dX12_areNotesSo Z.2.2.2.2.2 Z.2.2.2.1 (1 : Int32) := agree_is (hN.tl (h.2.2.2.tr hl)) (by decide) (by rw [show 61 * (1 : Int32).toInt.toNat + 61 = 61 * 1 + 61 by decide]; exact hw.1)
  rw [ha]
  generalize vp_nar .boolean (dX12_areNotesSo Z.2.2.2.2.2 Z.2.2.2.1 (1 : Int32)) = a
  rw [upd_at]
  by_cases hz : a = 0
  · rw [if_pos hz]
    rw [show (1 : Int32) + 1 = 2 by decide]
    exact wgP_5_2 hC hG hN hL0 hL1 hL2 hL3 hL4 _ _ _ _ _ _ _ _ _ _ _ _ _ _ _ _ _ _ _ _ _ _ _ _ _ _ _ _ _ n (by omega) (h.step (r := 1) (a := a) (a₁ := a) (d := 0) (by decide) hw.1 hl rfl (by rw [if_pos hz]))
  · rw [if_neg hz]
    rw [show (1 : Int32) + 1 = 2 by decide]
    exact wgP_5_2 hC hG hN hL0 hL1 hL2 hL3 hL4 _ _ _ _ _ _ _ _ _ _ _ _ _ _ _ _ _ _ _ _ _ _ _ _ _ _ _ _ _ n (by omega) (h.step (r := 1) (a := a) (a₁ := a) (d := 1) (by decide) hw.1 hl rfl (by rw [if_neg hz]))
theorem wgP_5_0 {Bf_1 Bf_2 Bf_3 Bf_4 Bf_5 Bf_6 Bf_7 Bf_8 Nf_1 Nf_2 Nf_3 R0f_1 R1f_1 R2f_1 R3f_1 R4f_1 g2 g4 g5 s0 : Nat → Int32} {Bv_0 Bv_1 Bv_2 Bv_3 Bv_4 Bv_5 Nv_0 : Int32} {R0n R1n R2n R3n R4n : Nat} {Q0 Q1 Q2 Q3 Q4 : RuA} (hC : BgC Bv_0 Bv_1 Bv_2 Bv_3 Bv_4 Bv_5 Bf_1 Bf_2 Bf_3 Bf_4 Bf_5 Bf_6 Bf_7 Bf_8 s0) (hG : GsB s0) (hN : NtE Nf_1 Nf_2 Nf_3 Nv_0 s0) (hL0 : CdE R0f_1 (ru_fl Q0) ∧ (ru_fl Q0).length = R0n ∧ R0n ≤ 400 ∧ RwR g2 g4 g5 0 Q0 ∧ ru_ok Q0) (hL1 : CdE R1f_1 (ru_fl Q1) ∧ (ru_fl Q1).length = R1n ∧ R1n ≤ 400 ∧ RwR g2 g4 g5 1 Q1 ∧ ru_ok Q1) (hL2 : CdE R2f_1 (ru_fl Q2) ∧ (ru_fl Q2).length = R2n ∧ R2n ≤ 400 ∧ RwR g2 g4 g5 2 Q2 ∧ ru_ok Q2) (hL3 : CdE R3f_1 (ru_fl Q3) ∧ (ru_fl Q3).length = R3n ∧ R3n ≤ 400 ∧ RwR g2 g4 g5 3 Q3 ∧ ru_ok Q3) (hL4 : CdE R4f_1 (ru_fl Q4) ∧ (ru_fl Q4).length = R4n ∧ R4n ≤ 400 ∧ RwR g2 g4 g5 4 Q4 ∧ ru_ok Q4) : ∀ (yy_900 yy_901 : Nat → Int32) (yy_902 yy_903 yy_904 yy_905 yy_906 yy_907 : Int32) (yy_908 yy_909 yy_910 yy_911 yy_912 yy_913 yy_914 yy_915 : Nat → Int32) (yy_916 : Int32) (yy_917 yy_918 yy_919 yy_920 yy_921 : Nat → Int64) (V G s : Nat → Int32) (g8 g9 : Nat → Int64) (tp fo : Int32) (n : Nat), 8 ≤ n → WgI 0 yy_900 yy_901 V G s0 s yy_916 → WgQ 5 (dX2_wgh5_u8_0 Bf_1 Bf_2 Bf_3 Bf_4 Bf_5 Bf_6 Bf_7 Bf_8 Bv_0 Bv_1 Bv_2 Bv_3 Bv_4 Bv_5 Nf_1 Nf_2 Nf_3 Nv_0 R0f_1 R1f_1 R2f_1 R3f_1 R4f_1 R0n R1n R2n R3n R4n yy_900 yy_901 yy_902 yy_903 yy_904 yy_905 yy_906 yy_907 yy_908 yy_909 yy_910 yy_911 yy_912 yy_913 yy_914 yy_915 yy_916 yy_917 yy_918 yy_919 yy_920 yy_921).1 (dX2_wgh5_u8_0 Bf_1 Bf_2 Bf_3 Bf_4 Bf_5 Bf_6 Bf_7 Bf_8 Bv_0 Bv_1 Bv_2 Bv_3 Bv_4 Bv_5 Nf_1 Nf_2 Nf_3 Nv_0 R0f_1 R1f_1 R2f_1 R3f_1 R4f_1 R0n R1n R2n R3n R4n yy_900 yy_901 yy_902 yy_903 yy_904 yy_905 yy_906 yy_907 yy_908 yy_909 yy_910 yy_911 yy_912 yy_913 yy_914 yy_915 yy_916 yy_917 yy_918 yy_919 yy_920 yy_921).2.1 (dX2_wgh5_u8_0 Bf_1 Bf_2 Bf_3 Bf_4 Bf_5 Bf_6 Bf_7 Bf_8 Bv_0 Bv_1 Bv_2 Bv_3 Bv_4 Bv_5 Nf_1 Nf_2 Nf_3 Nv_0 R0f_1 R1f_1 R2f_1 R3f_1 R4f_1 R0n R1n R2n R3n R4n yy_900 yy_901 yy_902 yy_903 yy_904 yy_905 yy_906 yy_907 yy_908 yy_909 yy_910 yy_911 yy_912 yy_913 yy_914 yy_915 yy_916 yy_917 yy_918 yy_919 yy_920 yy_921).2.2.2.2.2.2.2.2.2.2.2.2.2.2.2.2.1 (dX12_fillsFits_l11 g2 g4 g5 (5 : Int32) 0 n (0 : Int32) g8 g9 G V tp fo s).2.2.2.2.1 (dX12_fillsFits_l11 g2 g4 g5 (5 : Int32) 0 n (0 : Int32) g8 g9 G V tp fo s).2.2.2.1 s0 (dX12_fillsFits_l11 g2 g4 g5 (5 : Int32) 0 n (0 : Int32) g8 g9 G V tp fo s).2.2.2.2.2.2.2 := by
  intro yy_900 yy_901 yy_902 yy_903 yy_904 yy_905 yy_906 yy_907 yy_908 yy_909 yy_910 yy_911 yy_912 yy_913 yy_914 yy_915 yy_916 yy_917 yy_918 yy_919 yy_920 yy_921 V G s g8 g9 tp fo n hn h
  obtain ⟨n, rfl⟩ : ∃ m, n = m + 1 := ⟨n - 1, by omega⟩
  rw [dX2_wgh5_u8_0_s, dX12_fillsFits_l11_s, if_neg (show ¬ (5 : Int32) < (0 : Int32) by decide)]
  have hB := begins_is (s := s)
  have hg := hG.tl h.2.2.2
  have hb := hg.begin hB
  have hc := BgC.begin (y1 := yy_908) (y2 := yy_909) (y3 := yy_910) (y4 := yy_911) (y5 := yy_912) (y6 := yy_913) (y7 := yy_914) (y8 := yy_915) (hC.tl h.2.2.2) hg hB
  have hw := wk_wgh5_l67v5 (r := 0) (g2 := g2) (g4 := g4) (g5 := g5) (by decide) (by decide) ((61 - (0 : Int32).toInt).toNat + 1) 0 Bv_0 Bv_4 Bv_5 tp yy_900 _ _ _ _ V (dX12_begins s) g8 g9 hc hb.1 (by rw [hb.2]; decide) (by decide) (by decide) (by decide) (by rw [show 61 * (0 : Int32).toInt.toNat + (0 : Int32).toInt.toNat = 61 * 0 by decide]; exact h.1)
  rw [show 61 * (0 : Int32).toInt.toNat + 61 = 61 * 0 + 61 by decide] at hw
  generalize (dX2_wgh5_l67v5 Bf_1 Bf_2 Bf_3 Bf_4 Bf_5 Bf_6 Bf_7 Bf_8 Bv_1 Bv_2 Bv_3 (0 : Int32) yy_908 yy_909 yy_910 yy_911 yy_912 yy_913 yy_914 yy_915 ((61 - (0 : Int32).toInt).toNat + 1) (0 : Int32) yy_900 Bv_0 Bv_4 Bv_5 ((dX9_copyFrom yy_908 yy_909 yy_910 yy_911 yy_912 yy_913 yy_914 yy_915 Bf_1 Bf_2 Bf_3 Bf_4 Bf_5 Bf_6 Bf_7 Bf_8).2.2.1) ((dX9_copyFrom yy_908 yy_909 yy_910 yy_911 yy_912 yy_913 yy_914 yy_915 Bf_1 Bf_2 Bf_3 Bf_4 Bf_5 Bf_6 Bf_7 Bf_8).2.2.2.2.2.1) ((dX9_copyFrom yy_908 yy_909 yy_910 yy_911 yy_912 yy_913 yy_914 yy_915 Bf_1 Bf_2 Bf_3 Bf_4 Bf_5 Bf_6 Bf_7 Bf_8).2.2.2.2.2.2.1) ((dX9_copyFrom yy_908 yy_909 yy_910 yy_911 yy_912 yy_913 yy_914 yy_915 Bf_1 Bf_2 Bf_3 Bf_4 Bf_5 Bf_6 Bf_7 Bf_8).2.2.2.2.2.2.2)) = X at hw ⊢
  generalize dX12_fillsFits_l32 g2 g4 g5 0 (0 : Int32) (0 : Int32) ((61 - (0 : Int32).toInt).toNat + 1) (0 : Int32) g8 g9 V tp (dX12_begins s) = Z at hw ⊢
  have hl : Tl6 s Z.2.2.2.2.2 := hB.six.tr hw.2.six
  have ha : dX2_agrees Nf_1 Nf_2 Nf_3 Nv_0 X.2.1 (0 : Int32) = dX12_areNotesSo Z.2.2.2.2.2 Z.2.2.2.1 (0 : Int32) := agree_is (hN.tl (h.2.2.2.tr hl)) (by decide) (by rw [show 61 * (0 : Int32).toInt.toNat + 61 = 61 * 0 + 61 by decide]; exact hw.1)
  rw [ha]
  generalize vp_nar .boolean (dX12_areNotesSo Z.2.2.2.2.2 Z.2.2.2.1 (0 : Int32)) = a
  rw [upd_at]
  by_cases hz : a = 0
  · rw [if_pos hz]
    rw [show (0 : Int32) + 1 = 1 by decide]
    exact wgP_5_1 hC hG hN hL0 hL1 hL2 hL3 hL4 _ _ _ _ _ _ _ _ _ _ _ _ _ _ _ _ _ _ _ _ _ _ _ _ _ _ _ _ _ n (by omega) (h.step (r := 0) (a := a) (a₁ := a) (d := 0) (by decide) hw.1 hl rfl (by rw [if_pos hz]))
  · rw [if_neg hz]
    rw [show (0 : Int32) + 1 = 1 by decide]
    exact wgP_5_1 hC hG hN hL0 hL1 hL2 hL3 hL4 _ _ _ _ _ _ _ _ _ _ _ _ _ _ _ _ _ _ _ _ _ _ _ _ _ _ _ _ _ n (by omega) (h.step (r := 0) (a := a) (a₁ := a) (d := 1) (by decide) hw.1 hl rfl (by rw [if_neg hz]))
theorem wgP_6_7 {V G s0 s : Nat → Int32} : ∀ (yy_900 yy_901 : Nat → Int32) (yy_902 yy_903 yy_904 yy_905 yy_906 yy_907 : Int32) (yy_908 yy_909 yy_910 yy_911 yy_912 yy_913 yy_914 yy_915 : Nat → Int32) (yy_916 : Int32) (yy_917 yy_918 yy_919 yy_920 yy_921 yy_922 : Nat → Int64), WgE 6 7 yy_900 yy_901 V G s0 s yy_916 → WgQ 6 (dX2_wgh6_u8_7 yy_900 yy_901 yy_902 yy_903 yy_904 yy_905 yy_906 yy_907 yy_908 yy_909 yy_910 yy_911 yy_912 yy_913 yy_914 yy_915 yy_916 yy_917 yy_918 yy_919 yy_920 yy_921 yy_922).1 (dX2_wgh6_u8_7 yy_900 yy_901 yy_902 yy_903 yy_904 yy_905 yy_906 yy_907 yy_908 yy_909 yy_910 yy_911 yy_912 yy_913 yy_914 yy_915 yy_916 yy_917 yy_918 yy_919 yy_920 yy_921 yy_922).2.1 (dX2_wgh6_u8_7 yy_900 yy_901 yy_902 yy_903 yy_904 yy_905 yy_906 yy_907 yy_908 yy_909 yy_910 yy_911 yy_912 yy_913 yy_914 yy_915 yy_916 yy_917 yy_918 yy_919 yy_920 yy_921 yy_922).2.2.2.2.2.2.2.2.2.2.2.2.2.2.2.2.1 V G s0 s := by
  intro yy_900 yy_901 yy_902 yy_903 yy_904 yy_905 yy_906 yy_907 yy_908 yy_909 yy_910 yy_911 yy_912 yy_913 yy_914 yy_915 yy_916 yy_917 yy_918 yy_919 yy_920 yy_921 yy_922 h
  rw [dX2_wgh6_u8_7_s]
  exact ⟨h.1, h.2.1, h.2.2.1, h.2.2.2.1, h.2.2.2.2⟩
theorem wgP_6_6 {Bf_1 Bf_2 Bf_3 Bf_4 Bf_5 Bf_6 Bf_7 Bf_8 Nf_1 Nf_2 Nf_3 R0f_1 R1f_1 R2f_1 R3f_1 R4f_1 R5f_1 g2 g4 g5 s0 : Nat → Int32} {Bv_0 Bv_1 Bv_2 Bv_3 Bv_4 Bv_5 Nv_0 : Int32} {R0n R1n R2n R3n R4n R5n : Nat} {Q0 Q1 Q2 Q3 Q4 Q5 : RuA} (hC : BgC Bv_0 Bv_1 Bv_2 Bv_3 Bv_4 Bv_5 Bf_1 Bf_2 Bf_3 Bf_4 Bf_5 Bf_6 Bf_7 Bf_8 s0) (hG : GsB s0) (hN : NtE Nf_1 Nf_2 Nf_3 Nv_0 s0) (hL0 : CdE R0f_1 (ru_fl Q0) ∧ (ru_fl Q0).length = R0n ∧ R0n ≤ 400 ∧ RwR g2 g4 g5 0 Q0 ∧ ru_ok Q0) (hL1 : CdE R1f_1 (ru_fl Q1) ∧ (ru_fl Q1).length = R1n ∧ R1n ≤ 400 ∧ RwR g2 g4 g5 1 Q1 ∧ ru_ok Q1) (hL2 : CdE R2f_1 (ru_fl Q2) ∧ (ru_fl Q2).length = R2n ∧ R2n ≤ 400 ∧ RwR g2 g4 g5 2 Q2 ∧ ru_ok Q2) (hL3 : CdE R3f_1 (ru_fl Q3) ∧ (ru_fl Q3).length = R3n ∧ R3n ≤ 400 ∧ RwR g2 g4 g5 3 Q3 ∧ ru_ok Q3) (hL4 : CdE R4f_1 (ru_fl Q4) ∧ (ru_fl Q4).length = R4n ∧ R4n ≤ 400 ∧ RwR g2 g4 g5 4 Q4 ∧ ru_ok Q4) (hL5 : CdE R5f_1 (ru_fl Q5) ∧ (ru_fl Q5).length = R5n ∧ R5n ≤ 400 ∧ RwR g2 g4 g5 5 Q5 ∧ ru_ok Q5) : ∀ (yy_900 yy_901 : Nat → Int32) (yy_902 yy_903 yy_904 yy_905 yy_906 yy_907 : Int32) (yy_908 yy_909 yy_910 yy_911 yy_912 yy_913 yy_914 yy_915 : Nat → Int32) (yy_916 : Int32) (yy_917 yy_918 yy_919 yy_920 yy_921 yy_922 : Nat → Int64) (V G s : Nat → Int32) (g8 g9 : Nat → Int64) (tp fo : Int32) (n : Nat), 2 ≤ n → WgI 6 yy_900 yy_901 V G s0 s yy_916 → WgQ 6 (dX2_wgh6_u8_6 Bf_1 Bf_2 Bf_3 Bf_4 Bf_5 Bf_6 Bf_7 Bf_8 Bv_0 Bv_1 Bv_2 Bv_3 Bv_4 Bv_5 Nf_1 Nf_2 Nf_3 Nv_0 R5f_1 R5n yy_900 yy_901 yy_902 yy_903 yy_904 yy_905 yy_906 yy_907 yy_908 yy_909 yy_910 yy_911 yy_912 yy_913 yy_914 yy_915 yy_916 yy_917 yy_918 yy_919 yy_920 yy_921 yy_922).1 (dX2_wgh6_u8_6 Bf_1 Bf_2 Bf_3 Bf_4 Bf_5 Bf_6 Bf_7 Bf_8 Bv_0 Bv_1 Bv_2 Bv_3 Bv_4 Bv_5 Nf_1 Nf_2 Nf_3 Nv_0 R5f_1 R5n yy_900 yy_901 yy_902 yy_903 yy_904 yy_905 yy_906 yy_907 yy_908 yy_909 yy_910 yy_911 yy_912 yy_913 yy_914 yy_915 yy_916 yy_917 yy_918 yy_919 yy_920 yy_921 yy_922).2.1 (dX2_wgh6_u8_6 Bf_1 Bf_2 Bf_3 Bf_4 Bf_5 Bf_6 Bf_7 Bf_8 Bv_0 Bv_1 Bv_2 Bv_3 Bv_4 Bv_5 Nf_1 Nf_2 Nf_3 Nv_0 R5f_1 R5n yy_900 yy_901 yy_902 yy_903 yy_904 yy_905 yy_906 yy_907 yy_908 yy_909 yy_910 yy_911 yy_912 yy_913 yy_914 yy_915 yy_916 yy_917 yy_918 yy_919 yy_920 yy_921 yy_922).2.2.2.2.2.2.2.2.2.2.2.2.2.2.2.2.1 (dX12_fillsFits_l11 g2 g4 g5 (6 : Int32) 0 n (6 : Int32) g8 g9 G V tp fo s).2.2.2.2.1 (dX12_fillsFits_l11 g2 g4 g5 (6 : Int32) 0 n (6 : Int32) g8 g9 G V tp fo s).2.2.2.1 s0 (dX12_fillsFits_l11 g2 g4 g5 (6 : Int32) 0 n (6 : Int32) g8 g9 G V tp fo s).2.2.2.2.2.2.2 := by
  intro yy_900 yy_901 yy_902 yy_903 yy_904 yy_905 yy_906 yy_907 yy_908 yy_909 yy_910 yy_911 yy_912 yy_913 yy_914 yy_915 yy_916 yy_917 yy_918 yy_919 yy_920 yy_921 yy_922 V G s g8 g9 tp fo n hn h
  obtain ⟨n, rfl⟩ : ∃ m, n = m + 1 := ⟨n - 1, by omega⟩
  rw [dX2_wgh6_u8_6_s, dX12_fillsFits_l11_s, if_neg (show ¬ (6 : Int32) < (6 : Int32) by decide)]
  have hB := begins_is (s := s)
  have hg := hG.tl h.2.2.2
  have hb := hg.begin hB
  have hc := BgC.begin (y1 := yy_908) (y2 := yy_909) (y3 := yy_910) (y4 := yy_911) (y5 := yy_912) (y6 := yy_913) (y7 := yy_914) (y8 := yy_915) (hC.tl h.2.2.2) hg hB
  have hw := wk_wgh6_l67 (r := 6) (by decide) hL5.1 hL5.2.1 hL5.2.2.1 (by decide) (by rw [show ((6 : Int32) - 1).toInt.toNat = 5 by decide]; exact hL5.2.2.2.1) hL5.2.2.2.2 ((61 - (0 : Int32).toInt).toNat + 1) 0 Bv_0 Bv_4 Bv_5 tp yy_900 _ _ _ _ V (dX12_begins s) yy_922 g8 g9 hc hb.1 (by rw [hb.2]; decide) (by decide) (by decide) (by decide) (by rw [show 61 * (6 : Int32).toInt.toNat + (0 : Int32).toInt.toNat = 61 * 6 by decide]; exact h.1)
  rw [show 61 * (6 : Int32).toInt.toNat + 61 = 61 * 6 + 61 by decide] at hw
  generalize (dX2_wgh6_l67 Bf_1 Bf_2 Bf_3 Bf_4 Bf_5 Bf_6 Bf_7 Bf_8 Bv_1 Bv_2 Bv_3 R5f_1 R5n (6 : Int32) yy_908 yy_909 yy_910 yy_911 yy_912 yy_913 yy_914 yy_915 ((61 - (0 : Int32).toInt).toNat + 1) (0 : Int32) yy_900 yy_922 Bv_0 Bv_4 Bv_5 ((dX9_copyFrom yy_908 yy_909 yy_910 yy_911 yy_912 yy_913 yy_914 yy_915 Bf_1 Bf_2 Bf_3 Bf_4 Bf_5 Bf_6 Bf_7 Bf_8).2.2.1) ((dX9_copyFrom yy_908 yy_909 yy_910 yy_911 yy_912 yy_913 yy_914 yy_915 Bf_1 Bf_2 Bf_3 Bf_4 Bf_5 Bf_6 Bf_7 Bf_8).2.2.2.2.2.1) ((dX9_copyFrom yy_908 yy_909 yy_910 yy_911 yy_912 yy_913 yy_914 yy_915 Bf_1 Bf_2 Bf_3 Bf_4 Bf_5 Bf_6 Bf_7 Bf_8).2.2.2.2.2.2.1) ((dX9_copyFrom yy_908 yy_909 yy_910 yy_911 yy_912 yy_913 yy_914 yy_915 Bf_1 Bf_2 Bf_3 Bf_4 Bf_5 Bf_6 Bf_7 Bf_8).2.2.2.2.2.2.2)) = X at hw ⊢
  generalize dX12_fillsFits_l32 g2 g4 g5 0 (6 : Int32) (6 : Int32) ((61 - (0 : Int32).toInt).toNat + 1) (0 : Int32) g8 g9 V tp (dX12_begins s) = Z at hw ⊢
  have hl : Tl6 s Z.2.2.2.2.2 := hB.six.tr hw.2.six
  have ha : dX2_agrees Nf_1 Nf_2 Nf_3 Nv_0 X.2.1 (6 : Int32) = dX12_areNotesSo Z.2.2.2.2.2 Z.2.2.2.1 (6 : Int32) := agree_is (hN.tl (h.2.2.2.tr hl)) (by decide) (by rw [show 61 * (6 : Int32).toInt.toNat + 61 = 61 * 6 + 61 by decide]; exact hw.1)
  rw [ha]
  generalize vp_nar .boolean (dX12_areNotesSo Z.2.2.2.2.2 Z.2.2.2.1 (6 : Int32)) = a
  rw [upd_at]
  by_cases hz : a = 0
  · rw [if_pos hz]
    obtain ⟨n, rfl⟩ : ∃ m, n = m + 1 := ⟨n - 1, by omega⟩
    rw [dX12_fillsFits_l11_s, if_pos (show (6 : Int32) < (6 : Int32) + 1 by decide)]
    refine wgP_6_7 _ _ _ _ _ _ _ _ _ _ _ _ _ _ _ _ _ _ _ _ _ _ _ ?_
    have hE := (h.step (r := 6) (a := a) (a₁ := a) (x := vp_nar .boolean (0 : Int32)) (d := 0) (by decide) hw.1 hl rfl (by rw [if_pos hz])).e
    obtain ⟨e1, e2, e3, e4, e5⟩ := hE
    refine ⟨?_, e2, e3, e4, ?_⟩
    · intro k hk
      exact e1 k hk
    · intro k hk
      exact e5 k hk
  · rw [if_neg hz]
    obtain ⟨n, rfl⟩ : ∃ m, n = m + 1 := ⟨n - 1, by omega⟩
    rw [dX12_fillsFits_l11_s, if_pos (show (6 : Int32) < (6 : Int32) + 1 by decide)]
    refine wgP_6_7 _ _ _ _ _ _ _ _ _ _ _ _ _ _ _ _ _ _ _ _ _ _ _ ?_
    have hE := (h.step (r := 6) (a := a) (a₁ := a) (x := vp_nar .boolean (0 : Int32)) (d := 1) (by decide) hw.1 hl rfl (by rw [if_neg hz])).e
    obtain ⟨e1, e2, e3, e4, e5⟩ := hE
    refine ⟨?_, e2, e3, e4, ?_⟩
    · intro k hk
      exact e1 k hk
    · intro k hk
      exact e5 k hk
theorem wgP_6_5 {Bf_1 Bf_2 Bf_3 Bf_4 Bf_5 Bf_6 Bf_7 Bf_8 Nf_1 Nf_2 Nf_3 R0f_1 R1f_1 R2f_1 R3f_1 R4f_1 R5f_1 g2 g4 g5 s0 : Nat → Int32} {Bv_0 Bv_1 Bv_2 Bv_3 Bv_4 Bv_5 Nv_0 : Int32} {R0n R1n R2n R3n R4n R5n : Nat} {Q0 Q1 Q2 Q3 Q4 Q5 : RuA} (hC : BgC Bv_0 Bv_1 Bv_2 Bv_3 Bv_4 Bv_5 Bf_1 Bf_2 Bf_3 Bf_4 Bf_5 Bf_6 Bf_7 Bf_8 s0) (hG : GsB s0) (hN : NtE Nf_1 Nf_2 Nf_3 Nv_0 s0) (hL0 : CdE R0f_1 (ru_fl Q0) ∧ (ru_fl Q0).length = R0n ∧ R0n ≤ 400 ∧ RwR g2 g4 g5 0 Q0 ∧ ru_ok Q0) (hL1 : CdE R1f_1 (ru_fl Q1) ∧ (ru_fl Q1).length = R1n ∧ R1n ≤ 400 ∧ RwR g2 g4 g5 1 Q1 ∧ ru_ok Q1) (hL2 : CdE R2f_1 (ru_fl Q2) ∧ (ru_fl Q2).length = R2n ∧ R2n ≤ 400 ∧ RwR g2 g4 g5 2 Q2 ∧ ru_ok Q2) (hL3 : CdE R3f_1 (ru_fl Q3) ∧ (ru_fl Q3).length = R3n ∧ R3n ≤ 400 ∧ RwR g2 g4 g5 3 Q3 ∧ ru_ok Q3) (hL4 : CdE R4f_1 (ru_fl Q4) ∧ (ru_fl Q4).length = R4n ∧ R4n ≤ 400 ∧ RwR g2 g4 g5 4 Q4 ∧ ru_ok Q4) (hL5 : CdE R5f_1 (ru_fl Q5) ∧ (ru_fl Q5).length = R5n ∧ R5n ≤ 400 ∧ RwR g2 g4 g5 5 Q5 ∧ ru_ok Q5) : ∀ (yy_900 yy_901 : Nat → Int32) (yy_902 yy_903 yy_904 yy_905 yy_906 yy_907 : Int32) (yy_908 yy_909 yy_910 yy_911 yy_912 yy_913 yy_914 yy_915 : Nat → Int32) (yy_916 : Int32) (yy_917 yy_918 yy_919 yy_920 yy_921 yy_922 : Nat → Int64) (V G s : Nat → Int32) (g8 g9 : Nat → Int64) (tp fo : Int32) (n : Nat), 3 ≤ n → WgI 5 yy_900 yy_901 V G s0 s yy_916 → WgQ 6 (dX2_wgh6_u8_5 Bf_1 Bf_2 Bf_3 Bf_4 Bf_5 Bf_6 Bf_7 Bf_8 Bv_0 Bv_1 Bv_2 Bv_3 Bv_4 Bv_5 Nf_1 Nf_2 Nf_3 Nv_0 R4f_1 R5f_1 R4n R5n yy_900 yy_901 yy_902 yy_903 yy_904 yy_905 yy_906 yy_907 yy_908 yy_909 yy_910 yy_911 yy_912 yy_913 yy_914 yy_915 yy_916 yy_917 yy_918 yy_919 yy_920 yy_921 yy_922).1 (dX2_wgh6_u8_5 Bf_1 Bf_2 Bf_3 Bf_4 Bf_5 Bf_6 Bf_7 Bf_8 Bv_0 Bv_1 Bv_2 Bv_3 Bv_4 Bv_5 Nf_1 Nf_2 Nf_3 Nv_0 R4f_1 R5f_1 R4n R5n yy_900 yy_901 yy_902 yy_903 yy_904 yy_905 yy_906 yy_907 yy_908 yy_909 yy_910 yy_911 yy_912 yy_913 yy_914 yy_915 yy_916 yy_917 yy_918 yy_919 yy_920 yy_921 yy_922).2.1 (dX2_wgh6_u8_5 Bf_1 Bf_2 Bf_3 Bf_4 Bf_5 Bf_6 Bf_7 Bf_8 Bv_0 Bv_1 Bv_2 Bv_3 Bv_4 Bv_5 Nf_1 Nf_2 Nf_3 Nv_0 R4f_1 R5f_1 R4n R5n yy_900 yy_901 yy_902 yy_903 yy_904 yy_905 yy_906 yy_907 yy_908 yy_909 yy_910 yy_911 yy_912 yy_913 yy_914 yy_915 yy_916 yy_917 yy_918 yy_919 yy_920 yy_921 yy_922).2.2.2.2.2.2.2.2.2.2.2.2.2.2.2.2.1 (dX12_fillsFits_l11 g2 g4 g5 (6 : Int32) 0 n (5 : Int32) g8 g9 G V tp fo s).2.2.2.2.1 (dX12_fillsFits_l11 g2 g4 g5 (6 : Int32) 0 n (5 : Int32) g8 g9 G V tp fo s).2.2.2.1 s0 (dX12_fillsFits_l11 g2 g4 g5 (6 : Int32) 0 n (5 : Int32) g8 g9 G V tp fo s).2.2.2.2.2.2.2 := by
  intro yy_900 yy_901 yy_902 yy_903 yy_904 yy_905 yy_906 yy_907 yy_908 yy_909 yy_910 yy_911 yy_912 yy_913 yy_914 yy_915 yy_916 yy_917 yy_918 yy_919 yy_920 yy_921 yy_922 V G s g8 g9 tp fo n hn h
  obtain ⟨n, rfl⟩ : ∃ m, n = m + 1 := ⟨n - 1, by omega⟩
  rw [dX2_wgh6_u8_5_s, dX12_fillsFits_l11_s, if_neg (show ¬ (6 : Int32) < (5 : Int32) by decide)]
  have hB := begins_is (s := s)
  have hg := hG.tl h.2.2.2
  have hb := hg.begin hB
  have hc := BgC.begin (y1 := yy_908) (y2 := yy_909) (y3 := yy_910) (y4 := yy_911) (y5 := yy_912) (y6 := yy_913) (y7 := yy_914) (y8 := yy_915) (hC.tl h.2.2.2) hg hB
  have hw := wk_wgh6_l67v1 (r := 5) (by decide) hL4.1 hL4.2.1 hL4.2.2.1 (by decide) (by rw [show ((5 : Int32) - 1).toInt.toNat = 4 by decide]; exact hL4.2.2.2.1) hL4.2.2.2.2 ((61 - (0 : Int32).toInt).toNat + 1) 0 Bv_0 Bv_4 Bv_5 tp yy_900 _ _ _ _ V (dX12_begins s) yy_921 g8 g9 hc hb.1 (by rw [hb.2]; decide) (by decide) (by decide) (by decide) (by rw [show 61 * (5 : Int32).toInt.toNat + (0 : Int32).toInt.toNat = 61 * 5 by decide]; exact h.1)
  rw [show 61 * (5 : Int32).toInt.toNat + 61 = 61 * 5 + 61 by decide] at hw
  generalize (dX2_wgh6_l67v1 Bf_1 Bf_2 Bf_3 Bf_4 Bf_5 Bf_6 Bf_7 Bf_8 Bv_1 Bv_2 Bv_3 R4f_1 R4n (5 : Int32) yy_908 yy_909 yy_910 yy_911 yy_912 yy_913 yy_914 yy_915 ((61 - (0 : Int32).toInt).toNat + 1) (0 : Int32) yy_900 yy_921 Bv_0 Bv_4 Bv_5 ((dX9_copyFrom yy_908 yy_909 yy_910 yy_911 yy_912 yy_913 yy_914 yy_915 Bf_1 Bf_2 Bf_3 Bf_4 Bf_5 Bf_6 Bf_7 Bf_8).2.2.1) ((dX9_copyFrom yy_908 yy_909 yy_910 yy_911 yy_912 yy_913 yy_914 yy_915 Bf_1 Bf_2 Bf_3 Bf_4 Bf_5 Bf_6 Bf_7 Bf_8).2.2.2.2.2.1) ((dX9_copyFrom yy_908 yy_909 yy_910 yy_911 yy_912 yy_913 yy_914 yy_915 Bf_1 Bf_2 Bf_3 Bf_4 Bf_5 Bf_6 Bf_7 Bf_8).2.2.2.2.2.2.1) ((dX9_copyFrom yy_908 yy_909 yy_910 yy_911 yy_912 yy_913 yy_914 yy_915 Bf_1 Bf_2 Bf_3 Bf_4 Bf_5 Bf_6 Bf_7 Bf_8).2.2.2.2.2.2.2)) = X at hw ⊢
  generalize dX12_fillsFits_l32 g2 g4 g5 0 (5 : Int32) (5 : Int32) ((61 - (0 : Int32).toInt).toNat + 1) (0 : Int32) g8 g9 V tp (dX12_begins s) = Z at hw ⊢
  have hl : Tl6 s Z.2.2.2.2.2 := hB.six.tr hw.2.six
  have ha : dX2_agrees Nf_1 Nf_2 Nf_3 Nv_0 X.2.1 (5 : Int32) = dX12_areNotesSo Z.2.2.2.2.2 Z.2.2.2.1 (5 : Int32) := agree_is (hN.tl (h.2.2.2.tr hl)) (by decide) (by rw [show 61 * (5 : Int32).toInt.toNat + 61 = 61 * 5 + 61 by decide]; exact hw.1)
  rw [ha]
  generalize vp_nar .boolean (dX12_areNotesSo Z.2.2.2.2.2 Z.2.2.2.1 (5 : Int32)) = a
  rw [upd_at]
  by_cases hz : a = 0
  · rw [if_pos hz]
    rw [show (5 : Int32) + 1 = 6 by decide]
    exact wgP_6_6 hC hG hN hL0 hL1 hL2 hL3 hL4 hL5 _ _ _ _ _ _ _ _ _ _ _ _ _ _ _ _ _ _ _ _ _ _ _ _ _ _ _ _ _ _ n (by omega) (h.step (r := 5) (a := a) (a₁ := a) (d := 0) (by decide) hw.1 hl rfl (by rw [if_pos hz]))
  · rw [if_neg hz]
    rw [show (5 : Int32) + 1 = 6 by decide]
    exact wgP_6_6 hC hG hN hL0 hL1 hL2 hL3 hL4 hL5 _ _ _ _ _ _ _ _ _ _ _ _ _ _ _ _ _ _ _ _ _ _ _ _ _ _ _ _ _ _ n (by omega) (h.step (r := 5) (a := a) (a₁ := a) (d := 1) (by decide) hw.1 hl rfl (by rw [if_neg hz]))
theorem wgP_6_4 {Bf_1 Bf_2 Bf_3 Bf_4 Bf_5 Bf_6 Bf_7 Bf_8 Nf_1 Nf_2 Nf_3 R0f_1 R1f_1 R2f_1 R3f_1 R4f_1 R5f_1 g2 g4 g5 s0 : Nat → Int32} {Bv_0 Bv_1 Bv_2 Bv_3 Bv_4 Bv_5 Nv_0 : Int32} {R0n R1n R2n R3n R4n R5n : Nat} {Q0 Q1 Q2 Q3 Q4 Q5 : RuA} (hC : BgC Bv_0 Bv_1 Bv_2 Bv_3 Bv_4 Bv_5 Bf_1 Bf_2 Bf_3 Bf_4 Bf_5 Bf_6 Bf_7 Bf_8 s0) (hG : GsB s0) (hN : NtE Nf_1 Nf_2 Nf_3 Nv_0 s0) (hL0 : CdE R0f_1 (ru_fl Q0) ∧ (ru_fl Q0).length = R0n ∧ R0n ≤ 400 ∧ RwR g2 g4 g5 0 Q0 ∧ ru_ok Q0) (hL1 : CdE R1f_1 (ru_fl Q1) ∧ (ru_fl Q1).length = R1n ∧ R1n ≤ 400 ∧ RwR g2 g4 g5 1 Q1 ∧ ru_ok Q1) (hL2 : CdE R2f_1 (ru_fl Q2) ∧ (ru_fl Q2).length = R2n ∧ R2n ≤ 400 ∧ RwR g2 g4 g5 2 Q2 ∧ ru_ok Q2) (hL3 : CdE R3f_1 (ru_fl Q3) ∧ (ru_fl Q3).length = R3n ∧ R3n ≤ 400 ∧ RwR g2 g4 g5 3 Q3 ∧ ru_ok Q3) (hL4 : CdE R4f_1 (ru_fl Q4) ∧ (ru_fl Q4).length = R4n ∧ R4n ≤ 400 ∧ RwR g2 g4 g5 4 Q4 ∧ ru_ok Q4) (hL5 : CdE R5f_1 (ru_fl Q5) ∧ (ru_fl Q5).length = R5n ∧ R5n ≤ 400 ∧ RwR g2 g4 g5 5 Q5 ∧ ru_ok Q5) : ∀ (yy_900 yy_901 : Nat → Int32) (yy_902 yy_903 yy_904 yy_905 yy_906 yy_907 : Int32) (yy_908 yy_909 yy_910 yy_911 yy_912 yy_913 yy_914 yy_915 : Nat → Int32) (yy_916 : Int32) (yy_917 yy_918 yy_919 yy_920 yy_921 yy_922 : Nat → Int64) (V G s : Nat → Int32) (g8 g9 : Nat → Int64) (tp fo : Int32) (n : Nat), 4 ≤ n → WgI 4 yy_900 yy_901 V G s0 s yy_916 → WgQ 6 (dX2_wgh6_u8_4 Bf_1 Bf_2 Bf_3 Bf_4 Bf_5 Bf_6 Bf_7 Bf_8 Bv_0 Bv_1 Bv_2 Bv_3 Bv_4 Bv_5 Nf_1 Nf_2 Nf_3 Nv_0 R3f_1 R4f_1 R5f_1 R3n R4n R5n yy_900 yy_901 yy_902 yy_903 yy_904 yy_905 yy_906 yy_907 yy_908 yy_909 yy_910 yy_911 yy_912 yy_913 yy_914 yy_915 yy_916 yy_917 yy_918 yy_919 yy_920 yy_921 yy_922).1 (dX2_wgh6_u8_4 Bf_1 Bf_2 Bf_3 Bf_4 Bf_5 Bf_6 Bf_7 Bf_8 Bv_0 Bv_1 Bv_2 Bv_3 Bv_4 Bv_5 Nf_1 Nf_2 Nf_3 Nv_0 R3f_1 R4f_1 R5f_1 R3n R4n R5n yy_900 yy_901 yy_902 yy_903 yy_904 yy_905 yy_906 yy_907 yy_908 yy_909 yy_910 yy_911 yy_912 yy_913 yy_914 yy_915 yy_916 yy_917 yy_918 yy_919 yy_920 yy_921 yy_922).2.1 (dX2_wgh6_u8_4 Bf_1 Bf_2 Bf_3 Bf_4 Bf_5 Bf_6 Bf_7 Bf_8 Bv_0 Bv_1 Bv_2 Bv_3 Bv_4 Bv_5 Nf_1 Nf_2 Nf_3 Nv_0 R3f_1 R4f_1 R5f_1 R3n R4n R5n yy_900 yy_901 yy_902 yy_903 yy_904 yy_905 yy_906 yy_907 yy_908 yy_909 yy_910 yy_911 yy_912 yy_913 yy_914 yy_915 yy_916 yy_917 yy_918 yy_919 yy_920 yy_921 yy_922).2.2.2.2.2.2.2.2.2.2.2.2.2.2.2.2.1 (dX12_fillsFits_l11 g2 g4 g5 (6 : Int32) 0 n (4 : Int32) g8 g9 G V tp fo s).2.2.2.2.1 (dX12_fillsFits_l11 g2 g4 g5 (6 : Int32) 0 n (4 : Int32) g8 g9 G V tp fo s).2.2.2.1 s0 (dX12_fillsFits_l11 g2 g4 g5 (6 : Int32) 0 n (4 : Int32) g8 g9 G V tp fo s).2.2.2.2.2.2.2 := by
  intro yy_900 yy_901 yy_902 yy_903 yy_904 yy_905 yy_906 yy_907 yy_908 yy_909 yy_910 yy_911 yy_912 yy_913 yy_914 yy_915 yy_916 yy_917 yy_918 yy_919 yy_920 yy_921 yy_922 V G s g8 g9 tp fo n hn h
  obtain ⟨n, rfl⟩ : ∃ m, n = m + 1 := ⟨n - 1, by omega⟩
  rw [dX2_wgh6_u8_4_s, dX12_fillsFits_l11_s, if_neg (show ¬ (6 : Int32) < (4 : Int32) by decide)]
  have hB := begins_is (s := s)
  have hg := hG.tl h.2.2.2
  have hb := hg.begin hB
  have hc := BgC.begin (y1 := yy_908) (y2 := yy_909) (y3 := yy_910) (y4 := yy_911) (y5 := yy_912) (y6 := yy_913) (y7 := yy_914) (y8 := yy_915) (hC.tl h.2.2.2) hg hB
  have hw := wk_wgh6_l67v2 (r := 4) (by decide) hL3.1 hL3.2.1 hL3.2.2.1 (by decide) (by rw [show ((4 : Int32) - 1).toInt.toNat = 3 by decide]; exact hL3.2.2.2.1) hL3.2.2.2.2 ((61 - (0 : Int32).toInt).toNat + 1) 0 Bv_0 Bv_4 Bv_5 tp yy_900 _ _ _ _ V (dX12_begins s) yy_920 g8 g9 hc hb.1 (by rw [hb.2]; decide) (by decide) (by decide) (by decide) (by rw [show 61 * (4 : Int32).toInt.toNat + (0 : Int32).toInt.toNat = 61 * 4 by decide]; exact h.1)
  rw [show 61 * (4 : Int32).toInt.toNat + 61 = 61 * 4 + 61 by decide] at hw
  generalize (dX2_wgh6_l67v2 Bf_1 Bf_2 Bf_3 Bf_4 Bf_5 Bf_6 Bf_7 Bf_8 Bv_1 Bv_2 Bv_3 R3f_1 R3n (4 : Int32) yy_908 yy_909 yy_910 yy_911 yy_912 yy_913 yy_914 yy_915 ((61 - (0 : Int32).toInt).toNat + 1) (0 : Int32) yy_900 yy_920 Bv_0 Bv_4 Bv_5 ((dX9_copyFrom yy_908 yy_909 yy_910 yy_911 yy_912 yy_913 yy_914 yy_915 Bf_1 Bf_2 Bf_3 Bf_4 Bf_5 Bf_6 Bf_7 Bf_8).2.2.1) ((dX9_copyFrom yy_908 yy_909 yy_910 yy_911 yy_912 yy_913 yy_914 yy_915 Bf_1 Bf_2 Bf_3 Bf_4 Bf_5 Bf_6 Bf_7 Bf_8).2.2.2.2.2.1) ((dX9_copyFrom yy_908 yy_909 yy_910 yy_911 yy_912 yy_913 yy_914 yy_915 Bf_1 Bf_2 Bf_3 Bf_4 Bf_5 Bf_6 Bf_7 Bf_8).2.2.2.2.2.2.1) ((dX9_copyFrom yy_908 yy_909 yy_910 yy_911 yy_912 yy_913 yy_914 yy_915 Bf_1 Bf_2 Bf_3 Bf_4 Bf_5 Bf_6 Bf_7 Bf_8).2.2.2.2.2.2.2)) = X at hw ⊢
  generalize dX12_fillsFits_l32 g2 g4 g5 0 (4 : Int32) (4 : Int32) ((61 - (0 : Int32).toInt).toNat + 1) (0 : Int32) g8 g9 V tp (dX12_begins s) = Z at hw ⊢
  have hl : Tl6 s Z.2.2.2.2.2 := hB.six.tr hw.2.six
  have ha : dX2_agrees Nf_1 Nf_2 Nf_3 Nv_0 X.2.1 (4 : Int32) = dX12_areNotesSo Z.2.2.2.2.2 Z.2.2.2.1 (4 : Int32) := agree_is (hN.tl (h.2.2.2.tr hl)) (by decide) (by rw [show 61 * (4 : Int32).toInt.toNat + 61 = 61 * 4 + 61 by decide]; exact hw.1)
  rw [ha]
  generalize vp_nar .boolean (dX12_areNotesSo Z.2.2.2.2.2 Z.2.2.2.1 (4 : Int32)) = a
  rw [upd_at]
  by_cases hz : a = 0
  · rw [if_pos hz]
    rw [show (4 : Int32) + 1 = 5 by decide]
    exact wgP_6_5 hC hG hN hL0 hL1 hL2 hL3 hL4 hL5 _ _ _ _ _ _ _ _ _ _ _ _ _ _ _ _ _ _ _ _ _ _ _ _ _ _ _ _ _ _ n (by omega) (h.step (r := 4) (a := a) (a₁ := a) (d := 0) (by decide) hw.1 hl rfl (by rw [if_pos hz]))
  · rw [if_neg hz]
    rw [show (4 : Int32) + 1 = 5 by decide]
    exact wgP_6_5 hC hG hN hL0 hL1 hL2 hL3 hL4 hL5 _ _ _ _ _ _ _ _ _ _ _ _ _ _ _ _ _ _ _ _ _ _ _ _ _ _ _ _ _ _ n (by omega) (h.step (r := 4) (a := a) (a₁ := a) (d := 1) (by decide) hw.1 hl rfl (by rw [if_neg hz]))
theorem wgP_6_3 {Bf_1 Bf_2 Bf_3 Bf_4 Bf_5 Bf_6 Bf_7 Bf_8 Nf_1 Nf_2 Nf_3 R0f_1 R1f_1 R2f_1 R3f_1 R4f_1 R5f_1 g2 g4 g5 s0 : Nat → Int32} {Bv_0 Bv_1 Bv_2 Bv_3 Bv_4 Bv_5 Nv_0 : Int32} {R0n R1n R2n R3n R4n R5n : Nat} {Q0 Q1 Q2 Q3 Q4 Q5 : RuA} (hC : BgC Bv_0 Bv_1 Bv_2 Bv_3 Bv_4 Bv_5 Bf_1 Bf_2 Bf_3 Bf_4 Bf_5 Bf_6 Bf_7 Bf_8 s0) (hG : GsB s0) (hN : NtE Nf_1 Nf_2 Nf_3 Nv_0 s0) (hL0 : CdE R0f_1 (ru_fl Q0) ∧ (ru_fl Q0).length = R0n ∧ R0n ≤ 400 ∧ RwR g2 g4 g5 0 Q0 ∧ ru_ok Q0) (hL1 : CdE R1f_1 (ru_fl Q1) ∧ (ru_fl Q1).length = R1n ∧ R1n ≤ 400 ∧ RwR g2 g4 g5 1 Q1 ∧ ru_ok Q1) (hL2 : CdE R2f_1 (ru_fl Q2) ∧ (ru_fl Q2).length = R2n ∧ R2n ≤ 400 ∧ RwR g2 g4 g5 2 Q2 ∧ ru_ok Q2) (hL3 : CdE R3f_1 (ru_fl Q3) ∧ (ru_fl Q3).length = R3n ∧ R3n ≤ 400 ∧ RwR g2 g4 g5 3 Q3 ∧ ru_ok Q3) (hL4 : CdE R4f_1 (ru_fl Q4) ∧ (ru_fl Q4).length = R4n ∧ R4n ≤ 400 ∧ RwR g2 g4 g5 4 Q4 ∧ ru_ok Q4) (hL5 : CdE R5f_1 (ru_fl Q5) ∧ (ru_fl Q5).length = R5n ∧ R5n ≤ 400 ∧ RwR g2 g4 g5 5 Q5 ∧ ru_ok Q5) : ∀ (yy_900 yy_901 : Nat → Int32) (yy_902 yy_903 yy_904 yy_905 yy_906 yy_907 : Int32) (yy_908 yy_909 yy_910 yy_911 yy_912 yy_913 yy_914 yy_915 : Nat → Int32) (yy_916 : Int32) (yy_917 yy_918 yy_919 yy_920 yy_921 yy_922 : Nat → Int64) (V G s : Nat → Int32) (g8 g9 : Nat → Int64) (tp fo : Int32) (n : Nat), 5 ≤ n → WgI 3 yy_900 yy_901 V G s0 s yy_916 → WgQ 6 (dX2_wgh6_u8_3 Bf_1 Bf_2 Bf_3 Bf_4 Bf_5 Bf_6 Bf_7 Bf_8 Bv_0 Bv_1 Bv_2 Bv_3 Bv_4 Bv_5 Nf_1 Nf_2 Nf_3 Nv_0 R2f_1 R3f_1 R4f_1 R5f_1 R2n R3n R4n R5n yy_900 yy_901 yy_902 yy_903 yy_904 yy_905 yy_906 yy_907 yy_908 yy_909 yy_910 yy_911 yy_912 yy_913 yy_914 yy_915 yy_916 yy_917 yy_918 yy_919 yy_920 yy_921 yy_922).1 (dX2_wgh6_u8_3 Bf_1 Bf_2 Bf_3 Bf_4 Bf_5 Bf_6 Bf_7 Bf_8 Bv_0 Bv_1 Bv_2 Bv_3 Bv_4 Bv_5 Nf_1 Nf_2 Nf_3 Nv_0 R2f_1 R3f_1 R4f_1 R5f_1 R2n R3n R4n R5n yy_900 yy_901 yy_902 yy_903 yy_904 yy_905 yy_906 yy_907 yy_908 yy_909 yy_910 yy_911 yy_912 yy_913 yy_914 yy_915 yy_916 yy_917 yy_918 yy_919 yy_920 yy_921 yy_922).2.1 (dX2_wgh6_u8_3 Bf_1 Bf_2 Bf_3 Bf_4 Bf_5 Bf_6 Bf_7 Bf_8 Bv_0 Bv_1 Bv_2 Bv_3 Bv_4 Bv_5 Nf_1 Nf_2 Nf_3 Nv_0 R2f_1 R3f_1 R4f_1 R5f_1 R2n R3n R4n R5n yy_900 yy_901 yy_902 yy_903 yy_904 yy_905 yy_906 yy_907 yy_908 yy_909 yy_910 yy_911 yy_912 yy_913 yy_914 yy_915 yy_916 yy_917 yy_918 yy_919 yy_920 yy_921 yy_922).2.2.2.2.2.2.2.2.2.2.2.2.2.2.2.2.1 (dX12_fillsFits_l11 g2 g4 g5 (6 : Int32) 0 n (3 : Int32) g8 g9 G V tp fo s).2.2.2.2.1 (dX12_fillsFits_l11 g2 g4 g5 (6 : Int32) 0 n (3 : Int32) g8 g9 G V tp fo s).2.2.2.1 s0 (dX12_fillsFits_l11 g2 g4 g5 (6 : Int32) 0 n (3 : Int32) g8 g9 G V tp fo s).2.2.2.2.2.2.2 := by
  intro yy_900 yy_901 yy_902 yy_903 yy_904 yy_905 yy_906 yy_907 yy_908 yy_909 yy_910 yy_911 yy_912 yy_913 yy_914 yy_915 yy_916 yy_917 yy_918 yy_919 yy_920 yy_921 yy_922 V G s g8 g9 tp fo n hn h
  obtain ⟨n, rfl⟩ : ∃ m, n = m + 1 := ⟨n - 1, by omega⟩
  rw [dX2_wgh6_u8_3_s, dX12_fillsFits_l11_s, if_neg (show ¬ (6 : Int32) < (3 : Int32) by decide)]
  have hB := begins_is (s := s)
  have hg := hG.tl h.2.2.2
  have hb := hg.begin hB
  have hc := BgC.begin (y1 := yy_908) (y2 := yy_909) (y3 := yy_910) (y4 := yy_911) (y5 := yy_912) (y6 := yy_913) (y7 := yy_914) (y8 := yy_915) (hC.tl h.2.2.2) hg hB
  have hw := wk_wgh6_l67v3 (r := 3) (by decide) hL2.1 hL2.2.1 hL2.2.2.1 (by decide) (by rw [show ((3 : Int32) - 1).toInt.toNat = 2 by decide]; exact hL2.2.2.2.1) hL2.2.2.2.2 ((61 - (0 : Int32).toInt).toNat + 1) 0 Bv_0 Bv_4 Bv_5 tp yy_900 _ _ _ _ V (dX12_begins s) yy_919 g8 g9 hc hb.1 (by rw [hb.2]; decide) (by decide) (by decide) (by decide) (by rw [show 61 * (3 : Int32).toInt.toNat + (0 : Int32).toInt.toNat = 61 * 3 by decide]; exact h.1)
  rw [show 61 * (3 : Int32).toInt.toNat + 61 = 61 * 3 + 61 by decide] at hw
  generalize (dX2_wgh6_l67v3 Bf_1 Bf_2 Bf_3 Bf_4 Bf_5 Bf_6 Bf_7 Bf_8 Bv_1 Bv_2 Bv_3 R2f_1 R2n (3 : Int32) yy_908 yy_909 yy_910 yy_911 yy_912 yy_913 yy_914 yy_915 ((61 - (0 : Int32).toInt).toNat + 1) (0 : Int32) yy_900 yy_919 Bv_0 Bv_4 Bv_5 ((dX9_copyFrom yy_908 yy_909 yy_910 yy_911 yy_912 yy_913 yy_914 yy_915 Bf_1 Bf_2 Bf_3 Bf_4 Bf_5 Bf_6 Bf_7 Bf_8).2.2.1) ((dX9_copyFrom yy_908 yy_909 yy_910 yy_911 yy_912 yy_913 yy_914 yy_915 Bf_1 Bf_2 Bf_3 Bf_4 Bf_5 Bf_6 Bf_7 Bf_8).2.2.2.2.2.1) ((dX9_copyFrom yy_908 yy_909 yy_910 yy_911 yy_912 yy_913 yy_914 yy_915 Bf_1 Bf_2 Bf_3 Bf_4 Bf_5 Bf_6 Bf_7 Bf_8).2.2.2.2.2.2.1) ((dX9_copyFrom yy_908 yy_909 yy_910 yy_911 yy_912 yy_913 yy_914 yy_915 Bf_1 Bf_2 Bf_3 Bf_4 Bf_5 Bf_6 Bf_7 Bf_8).2.2.2.2.2.2.2)) = X at hw ⊢
  generalize dX12_fillsFits_l32 g2 g4 g5 0 (3 : Int32) (3 : Int32) ((61 - (0 : Int32).toInt).toNat + 1) (0 : Int32) g8 g9 V tp (dX12_begins s) = Z at hw ⊢
  have hl : Tl6 s Z.2.2.2.2.2 := hB.six.tr hw.2.six
  have ha : dX2_agrees Nf_1 Nf_2 Nf_3 Nv_0 X.2.1 (3 : Int32) = dX12_areNotesSo Z.2.2.2.2.2 Z.2.2.2.1 (3 : Int32) := agree_is (hN.tl (h.2.2.2.tr hl)) (by decide) (by rw [show 61 * (3 : Int32).toInt.toNat + 61 = 61 * 3 + 61 by decide]; exact hw.1)
  rw [ha]
  generalize vp_nar .boolean (dX12_areNotesSo Z.2.2.2.2.2 Z.2.2.2.1 (3 : Int32)) = a
  rw [upd_at]
  by_cases hz : a = 0
  · rw [if_pos hz]
    rw [show (3 : Int32) + 1 = 4 by decide]
    exact wgP_6_4 hC hG hN hL0 hL1 hL2 hL3 hL4 hL5 _ _ _ _ _ _ _ _ _ _ _ _ _ _ _ _ _ _ _ _ _ _ _ _ _ _ _ _ _ _ n (by omega) (h.step (r := 3) (a := a) (a₁ := a) (d := 0) (by decide) hw.1 hl rfl (by rw [if_pos hz]))
  · rw [if_neg hz]
    rw [show (3 : Int32) + 1 = 4 by decide]
    exact wgP_6_4 hC hG hN hL0 hL1 hL2 hL3 hL4 hL5 _ _ _ _ _ _ _ _ _ _ _ _ _ _ _ _ _ _ _ _ _ _ _ _ _ _ _ _ _ _ n (by omega) (h.step (r := 3) (a := a) (a₁ := a) (d := 1) (by decide) hw.1 hl rfl (by rw [if_neg hz]))
theorem wgP_6_2 {Bf_1 Bf_2 Bf_3 Bf_4 Bf_5 Bf_6 Bf_7 Bf_8 Nf_1 Nf_2 Nf_3 R0f_1 R1f_1 R2f_1 R3f_1 R4f_1 R5f_1 g2 g4 g5 s0 : Nat → Int32} {Bv_0 Bv_1 Bv_2 Bv_3 Bv_4 Bv_5 Nv_0 : Int32} {R0n R1n R2n R3n R4n R5n : Nat} {Q0 Q1 Q2 Q3 Q4 Q5 : RuA} (hC : BgC Bv_0 Bv_1 Bv_2 Bv_3 Bv_4 Bv_5 Bf_1 Bf_2 Bf_3 Bf_4 Bf_5 Bf_6 Bf_7 Bf_8 s0) (hG : GsB s0) (hN : NtE Nf_1 Nf_2 Nf_3 Nv_0 s0) (hL0 : CdE R0f_1 (ru_fl Q0) ∧ (ru_fl Q0).length = R0n ∧ R0n ≤ 400 ∧ RwR g2 g4 g5 0 Q0 ∧ ru_ok Q0) (hL1 : CdE R1f_1 (ru_fl Q1) ∧ (ru_fl Q1).length = R1n ∧ R1n ≤ 400 ∧ RwR g2 g4 g5 1 Q1 ∧ ru_ok Q1) (hL2 : CdE R2f_1 (ru_fl Q2) ∧ (ru_fl Q2).length = R2n ∧ R2n ≤ 400 ∧ RwR g2 g4 g5 2 Q2 ∧ ru_ok Q2) (hL3 : CdE R3f_1 (ru_fl Q3) ∧ (ru_fl Q3).length = R3n ∧ R3n ≤ 400 ∧ RwR g2 g4 g5 3 Q3 ∧ ru_ok Q3) (hL4 : CdE R4f_1 (ru_fl Q4) ∧ (ru_fl Q4).length = R4n ∧ R4n ≤ 400 ∧ RwR g2 g4 g5 4 Q4 ∧ ru_ok Q4) (hL5 : CdE R5f_1 (ru_fl Q5) ∧ (ru_fl Q5).length = R5n ∧ R5n ≤ 400 ∧ RwR g2 g4 g5 5 Q5 ∧ ru_ok Q5) : ∀ (yy_900 yy_901 : Nat → Int32) (yy_902 yy_903 yy_904 yy_905 yy_906 yy_907 : Int32) (yy_908 yy_909 yy_910 yy_911 yy_912 yy_913 yy_914 yy_915 : Nat → Int32) (yy_916 : Int32) (yy_917 yy_918 yy_919 yy_920 yy_921 yy_922 : Nat → Int64) (V G s : Nat → Int32) (g8 g9 : Nat → Int64) (tp fo : Int32) (n : Nat), 6 ≤ n → WgI 2 yy_900 yy_901 V G s0 s yy_916 → WgQ 6 (dX2_wgh6_u8_2 Bf_1 Bf_2 Bf_3 Bf_4 Bf_5 Bf_6 Bf_7 Bf_8 Bv_0 Bv_1 Bv_2 Bv_3 Bv_4 Bv_5 Nf_1 Nf_2 Nf_3 Nv_0 R1f_1 R2f_1 R3f_1 R4f_1 R5f_1 R1n R2n R3n R4n R5n yy_900 yy_901 yy_902 yy_903 yy_904 yy_905 yy_906 yy_907 yy_908 yy_909 yy_910 yy_911 yy_912 yy_913 yy_914 yy_915 yy_916 yy_917 yy_918 yy_919 yy_920 yy_921 yy_922).1 (dX2_wgh6_u8_2 Bf_1 Bf_2 Bf_3 Bf_4 Bf_5 Bf_6 Bf_7 Bf_8 Bv_0 Bv_1 Bv_2 Bv_3 Bv_4 Bv_5 Nf_1 Nf_2 Nf_3 Nv_0 R1f_1 R2f_1 R3f_1 R4f_1 R5f_1 R1n R2n R3n R4n R5n yy_900 yy_901 yy_902 yy_903 yy_904 yy_905 yy_906 yy_907 yy_908 yy_909 yy_910 yy_911 yy_912 yy_913 yy_914 yy_915 yy_916 yy_917 yy_918 yy_919 yy_920 yy_921 yy_922).2.1 (dX2_wgh6_u8_2 Bf_1 Bf_2 Bf_3 Bf_4 Bf_5 Bf_6 Bf_7 Bf_8 Bv_0 Bv_1 Bv_2 Bv_3 Bv_4 Bv_5 Nf_1 Nf_2 Nf_3 Nv_0 R1f_1 R2f_1 R3f_1 R4f_1 R5f_1 R1n R2n R3n R4n R5n yy_900 yy_901 yy_902 yy_903 yy_904 yy_905 yy_906 yy_907 yy_908 yy_909 yy_910 yy_911 yy_912 yy_913 yy_914 yy_915 yy_916 yy_917 yy_918 yy_919 yy_920 yy_921 yy_922).2.2.2.2.2.2.2.2.2.2.2.2.2.2.2.2.1 (dX12_fillsFits_l11 g2 g4 g5 (6 : Int32) 0 n (2 : Int32) g8 g9 G V tp fo s).2.2.2.2.1 (dX12_fillsFits_l11 g2 g4 g5 (6 : Int32) 0 n (2 : Int32) g8 g9 G V tp fo s).2.2.2.1 s0 (dX12_fillsFits_l11 g2 g4 g5 (6 : Int32) 0 n (2 : Int32) g8 g9 G V tp fo s).2.2.2.2.2.2.2 := by
  intro yy_900 yy_901 yy_902 yy_903 yy_904 yy_905 yy_906 yy_907 yy_908 yy_909 yy_910 yy_911 yy_912 yy_913 yy_914 yy_915 yy_916 yy_917 yy_918 yy_919 yy_920 yy_921 yy_922 V G s g8 g9 tp fo n hn h
  obtain ⟨n, rfl⟩ : ∃ m, n = m + 1 := ⟨n - 1, by omega⟩
  rw [dX2_wgh6_u8_2_s, dX12_fillsFits_l11_s, if_neg (show ¬ (6 : Int32) < (2 : Int32) by decide)]
  have hB := begins_is (s := s)
  have hg := hG.tl h.2.2.2
  have hb := hg.begin hB
  have hc := BgC.begin (y1 := yy_908) (y2 := yy_909) (y3 := yy_910) (y4 := yy_911) (y5 := yy_912) (y6 := yy_913) (y7 := yy_914) (y8 := yy_915) (hC.tl h.2.2.2) hg hB
  have hw := wk_wgh6_l67v4 (r := 2) (by decide) hL1.1 hL1.2.1 hL1.2.2.1 (by decide) (by rw [show ((2 : Int32) - 1).toInt.toNat = 1 by decide]; exact hL1.2.2.2.1) hL1.2.2.2.2 ((61 - (0 : Int32).toInt).toNat + 1) 0 Bv_0 Bv_4 Bv_5 tp yy_900 _ _ _ _ V (dX12_begins s) yy_918 g8 g9 hc hb.1 (by rw [hb.2]; decide) (by decide) (by decide) (by decide) (by rw [show 61 * (2 : Int32).toInt.toNat + (0 : Int32).toInt.toNat = 61 * 2 by decide]; exact h.1)
  rw [show 61 * (2 : Int32).toInt.toNat + 61 = 61 * 2 + 61 by decide] at hw
  generalize (dX2_wgh6_l67v4 Bf_1 Bf_2 Bf_3 Bf_4 Bf_5 Bf_6 Bf_7 Bf_8 Bv_1 Bv_2 Bv_3 R1f_1 R1n (2 : Int32) yy_908 yy_909 yy_910 yy_911 yy_912 yy_913 yy_914 yy_915 ((61 - (0 : Int32).toInt).toNat + 1) (0 : Int32) yy_900 yy_918 Bv_0 Bv_4 Bv_5 ((dX9_copyFrom yy_908 yy_909 yy_910 yy_911 yy_912 yy_913 yy_914 yy_915 Bf_1 Bf_2 Bf_3 Bf_4 Bf_5 Bf_6 Bf_7 Bf_8).2.2.1) ((dX9_copyFrom yy_908 yy_909 yy_910 yy_911 yy_912 yy_913 yy_914 yy_915 Bf_1 Bf_2 Bf_3 Bf_4 Bf_5 Bf_6 Bf_7 Bf_8).2.2.2.2.2.1) ((dX9_copyFrom yy_908 yy_909 yy_910 yy_911 yy_912 yy_913 yy_914 yy_915 Bf_1 Bf_2 Bf_3 Bf_4 Bf_5 Bf_6 Bf_7 Bf_8).2.2.2.2.2.2.1) ((dX9_copyFrom yy_908 yy_909 yy_910 yy_911 yy_912 yy_913 yy_914 yy_915 Bf_1 Bf_2 Bf_3 Bf_4 Bf_5 Bf_6 Bf_7 Bf_8).2.2.2.2.2.2.2)) = X at hw ⊢
  generalize dX12_fillsFits_l32 g2 g4 g5 0 (2 : Int32) (2 : Int32) ((61 - (0 : Int32).toInt).toNat + 1) (0 : Int32) g8 g9 V tp (dX12_begins s) = Z at hw ⊢
  have hl : Tl6 s Z.2.2.2.2.2 := hB.six.tr hw.2.six
  have ha : dX2_agrees Nf_1 Nf_2 Nf_3 Nv_0 X.2.1 (2 : Int32) = dX12_areNotesSo Z.2.2.2.2.2 Z.2.2.2.1 (2 : Int32) := agree_is (hN.tl (h.2.2.2.tr hl)) (by decide) (by rw [show 61 * (2 : Int32).toInt.toNat + 61 = 61 * 2 + 61 by decide]; exact hw.1)
  rw [ha]
  generalize vp_nar .boolean (dX12_areNotesSo Z.2.2.2.2.2 Z.2.2.2.1 (2 : Int32)) = a
  rw [upd_at]
  by_cases hz : a = 0
  · rw [if_pos hz]
    rw [show (2 : Int32) + 1 = 3 by decide]
    exact wgP_6_3 hC hG hN hL0 hL1 hL2 hL3 hL4 hL5 _ _ _ _ _ _ _ _ _ _ _ _ _ _ _ _ _ _ _ _ _ _ _ _ _ _ _ _ _ _ n (by omega) (h.step (r := 2) (a := a) (a₁ := a) (d := 0) (by decide) hw.1 hl rfl (by rw [if_pos hz]))
  · rw [if_neg hz]
    rw [show (2 : Int32) + 1 = 3 by decide]
    exact wgP_6_3 hC hG hN hL0 hL1 hL2 hL3 hL4 hL5 _ _ _ _ _ _ _ _ _ _ _ _ _ _ _ _ _ _ _ _ _ _ _ _ _ _ _ _ _ _ n (by omega) (h.step (r := 2) (a := a) (a₁ := a) (d := 1) (by decide) hw.1 hl rfl (by rw [if_neg hz]))
theorem wgP_6_1 {Bf_1 Bf_2 Bf_3 Bf_4 Bf_5 Bf_6 Bf_7 Bf_8 Nf_1 Nf_2 Nf_3 R0f_1 R1f_1 R2f_1 R3f_1 R4f_1 R5f_1 g2 g4 g5 s0 : Nat → Int32} {Bv_0 Bv_1 Bv_2 Bv_3 Bv_4 Bv_5 Nv_0 : Int32} {R0n R1n R2n R3n R4n R5n : Nat} {Q0 Q1 Q2 Q3 Q4 Q5 : RuA} (hC : BgC Bv_0 Bv_1 Bv_2 Bv_3 Bv_4 Bv_5 Bf_1 Bf_2 Bf_3 Bf_4 Bf_5 Bf_6 Bf_7 Bf_8 s0) (hG : GsB s0) (hN : NtE Nf_1 Nf_2 Nf_3 Nv_0 s0) (hL0 : CdE R0f_1 (ru_fl Q0) ∧ (ru_fl Q0).length = R0n ∧ R0n ≤ 400 ∧ RwR g2 g4 g5 0 Q0 ∧ ru_ok Q0) (hL1 : CdE R1f_1 (ru_fl Q1) ∧ (ru_fl Q1).length = R1n ∧ R1n ≤ 400 ∧ RwR g2 g4 g5 1 Q1 ∧ ru_ok Q1) (hL2 : CdE R2f_1 (ru_fl Q2) ∧ (ru_fl Q2).length = R2n ∧ R2n ≤ 400 ∧ RwR g2 g4 g5 2 Q2 ∧ ru_ok Q2) (hL3 : CdE R3f_1 (ru_fl Q3) ∧ (ru_fl Q3).length = R3n ∧ R3n ≤ 400 ∧ RwR g2 g4 g5 3 Q3 ∧ ru_ok Q3) (hL4 : CdE R4f_1 (ru_fl Q4) ∧ (ru_fl Q4).length = R4n ∧ R4n ≤ 400 ∧ RwR g2 g4 g5 4 Q4 ∧ ru_ok Q4) (hL5 : CdE R5f_1 (ru_fl Q5) ∧ (ru_fl Q5).length = R5n ∧ R5n ≤ 400 ∧ RwR g2 g4 g5 5 Q5 ∧ ru_ok Q5) : ∀ (yy_900 yy_901 : Nat → Int32) (yy_902 yy_903 yy_904 yy_905 yy_906 yy_907 : Int32) (yy_908 yy_909 yy_910 yy_911 yy_912 yy_913 yy_914 yy_915 : Nat → Int32) (yy_916 : Int32) (yy_917 yy_918 yy_919 yy_920 yy_921 yy_922 : Nat → Int64) (V G s : Nat → Int32) (g8 g9 : Nat → Int64) (tp fo : Int32) (n : Nat), 7 ≤ n → WgI 1 yy_900 yy_901 V G s0 s yy_916 → WgQ 6 (dX2_wgh6_u8_1 Bf_1 Bf_2 Bf_3 Bf_4 Bf_5 Bf_6 Bf_7 Bf_8 Bv_0 Bv_1 Bv_2 Bv_3 Bv_4 Bv_5 Nf_1 Nf_2 Nf_3 Nv_0 R0f_1 R1f_1 R2f_1 R3f_1 R4f_1 R5f_1 R0n R1n R2n R3n R4n R5n yy_900 yy_901 yy_902 yy_903 yy_904 yy_905 yy_906 yy_907 yy_908 yy_909 yy_910 yy_911 yy_912 yy_913 yy_914 yy_915 yy_916 yy_917 yy_918 yy_919 yy_920 yy_921 yy_922).1 (dX2_wgh6_u8_1 Bf_1 Bf_2 Bf_3 Bf_4 Bf_5 Bf_6 Bf_7 Bf_8 Bv_0 Bv_1 Bv_2 Bv_3 Bv_4 Bv_5 Nf_1 Nf_2 Nf_3 Nv_0 R0f_1 R1f_1 R2f_1 R3f_1 R4f_1 R5f_1 R0n R1n R2n R3n R4n R5n yy_900 yy_901 yy_902 yy_903 yy_904 yy_905 yy_906 yy_907 yy_908 yy_909 yy_910 yy_911 yy_912 yy_913 yy_914 yy_915 yy_916 yy_917 yy_918 yy_919 yy_920 yy_921 yy_922).2.1 (dX2_wgh6_u8_1 Bf_1 Bf_2 Bf_3 Bf_4 Bf_5 Bf_6 Bf_7 Bf_8 Bv_0 Bv_1 Bv_2 Bv_3 Bv_4 Bv_5 Nf_1 Nf_2 Nf_3 Nv_0 R0f_1 R1f_1 R2f_1 R3f_1 R4f_1 R5f_1 R0n R1n R2n R3n R4n R5n yy_900 yy_901 yy_902 yy_903 yy_904 yy_905 yy_906 yy_907 yy_908 yy_909 yy_910 yy_911 yy_912 yy_913 yy_914 yy_915 yy_916 yy_917 yy_918 yy_919 yy_920 yy_921 yy_922).2.2.2.2.2.2.2.2.2.2.2.2.2.2.2.2.1 (dX12_fillsFits_l11 g2 g4 g5 (6 : Int32) 0 n (1 : Int32) g8 g9 G V tp fo s).2.2.2.2.1 (dX12_fillsFits_l11 g2 g4 g5 (6 : Int32) 0 n (1 : Int32) g8 g9 G V tp fo s).2.2.2.1 s0 (dX12_fillsFits_l11 g2 g4 g5 (6 : Int32) 0 n (1 : Int32) g8 g9 G V tp fo s).2.2.2.2.2.2.2 := by
  intro yy_900 yy_901 yy_902 yy_903 yy_904 yy_905 yy_906 yy_907 yy_908 yy_909 yy_910 yy_911 yy_912 yy_913 yy_914 yy_915 yy_916 yy_917 yy_918 yy_919 yy_920 yy_921 yy_922 V G s g8 g9 tp fo n hn h
  obtain ⟨n, rfl⟩ : ∃ m, n = m + 1 := ⟨n - 1, by omega⟩
  rw [dX2_wgh6_u8_1_s, dX12_fillsFits_l11_s, if_neg (show ¬ (6 : Int32) < (1 : Int32) by decide)]
  have hB := begins_is (s := s)
  have hg := hG.tl h.2.2.2
  have hb := hg.begin hB
  have hc := BgC.begin (y1 := yy_908) (y2 := yy_909) (y3 := yy_910) (y4 := yy_911) (y5 := yy_912) (y6 := yy_913) (y7 := yy_914) (y8 := yy_915) (hC.tl h.2.2.2) hg hB
  have hw := wk_wgh6_l67v5 (r := 1) (by decide) hL0.1 hL0.2.1 hL0.2.2.1 (by decide) (by rw [show ((1 : Int32) - 1).toInt.toNat = 0 by decide]; exact hL0.2.2.2.1) hL0.2.2.2.2 ((61 - (0 : Int32).toInt).toNat + 1) 0 Bv_0 Bv_4 Bv_5 tp yy_900 _ _ _ _ V (dX12_begins s) yy_917 g8 g9 hc hb.1 (by rw [hb.2]; decide) (by decide) (by decide) (by decide) (by rw [show 61 * (1 : Int32).toInt.toNat + (0 : Int32).toInt.toNat = 61 * 1 by decide]; exact h.1)
  rw [show 61 * (1 : Int32).toInt.toNat + 61 = 61 * 1 + 61 by decide] at hw
  generalize (dX2_wgh6_l67v5 Bf_1 Bf_2 Bf_3 Bf_4 Bf_5 Bf_6 Bf_7 Bf_8 Bv_1 Bv_2 Bv_3 R0f_1 R0n (1 : Int32) yy_908 yy_909 yy_910 yy_911 yy_912 yy_913 yy_914 yy_915 ((61 - (0 : Int32).toInt).toNat + 1) (0 : Int32) yy_900 yy_917 Bv_0 Bv_4 Bv_5 ((dX9_copyFrom yy_908 yy_909 yy_910 yy_911 yy_912 yy_913 yy_914 yy_915 Bf_1 Bf_2 Bf_3 Bf_4 Bf_5 Bf_6 Bf_7 Bf_8).2.2.1) ((dX9_copyFrom yy_908 yy_909 yy_910 yy_911 yy_912 yy_913 yy_914 yy_915 Bf_1 Bf_2 Bf_3 Bf_4 Bf_5 Bf_6 Bf_7 Bf_8).2.2.2.2.2.1) ((dX9_copyFrom yy_908 yy_909 yy_910 yy_911 yy_912 yy_913 yy_914 yy_915 Bf_1 Bf_2 Bf_3 Bf_4 Bf_5 Bf_6 Bf_7 Bf_8).2.2.2.2.2.2.1) ((dX9_copyFrom yy_908 yy_909 yy_910 yy_911 yy_912 yy_913 yy_914 yy_915 Bf_1 Bf_2 Bf_3 Bf_4 Bf_5 Bf_6 Bf_7 Bf_8).2.2.2.2.2.2.2)) = X at hw ⊢
  generalize dX12_fillsFits_l32 g2 g4 g5 0 (1 : Int32) (1 : Int32) ((61 - (0 : Int32).toInt).toNat + 1) (0 : Int32) g8 g9 V tp (dX12_begins s) = Z at hw ⊢
  have hl : Tl6 s Z.2.2.2.2.2 := hB.six.tr hw.2.six
  have ha : dX2_agrees Nf_1 Nf_2 Nf_3 Nv_0 X.2.1 (1 : Int32) = dX12_areNotesSo Z.2.2.2.2.2 Z.2.2.2.1 (1 : Int32) := agree_is (hN.tl (h.2.2.2.tr hl)) (by decide) (by rw [show 61 * (1 : Int32).toInt.toNat + 61 = 61 * 1 + 61 by decide]; exact hw.1)
  rw [ha]
  generalize vp_nar .boolean (dX12_areNotesSo Z.2.2.2.2.2 Z.2.2.2.1 (1 : Int32)) = a
  rw [upd_at]
  by_cases hz : a = 0
  · rw [if_pos hz]
    rw [show (1 : Int32) + 1 = 2 by decide]
    exact wgP_6_2 hC hG hN hL0 hL1 hL2 hL3 hL4 hL5 _ _ _ _ _ _ _ _ _ _ _ _ _ _ _ _ _ _ _ _ _ _ _ _ _ _ _ _ _ _ n (by omega) (h.step (r := 1) (a := a) (a₁ := a) (d := 0) (by decide) hw.1 hl rfl (by rw [if_pos hz]))
  · rw [if_neg hz]
    rw [show (1 : Int32) + 1 = 2 by decide]
    exact wgP_6_2 hC hG hN hL0 hL1 hL2 hL3 hL4 hL5 _ _ _ _ _ _ _ _ _ _ _ _ _ _ _ _ _ _ _ _ _ _ _ _ _ _ _ _ _ _ n (by omega) (h.step (r := 1) (a := a) (a₁ := a) (d := 1) (by decide) hw.1 hl rfl (by rw [if_neg hz]))
theorem wgP_6_0 {Bf_1 Bf_2 Bf_3 Bf_4 Bf_5 Bf_6 Bf_7 Bf_8 Nf_1 Nf_2 Nf_3 R0f_1 R1f_1 R2f_1 R3f_1 R4f_1 R5f_1 g2 g4 g5 s0 : Nat → Int32} {Bv_0 Bv_1 Bv_2 Bv_3 Bv_4 Bv_5 Nv_0 : Int32} {R0n R1n R2n R3n R4n R5n : Nat} {Q0 Q1 Q2 Q3 Q4 Q5 : RuA} (hC : BgC Bv_0 Bv_1 Bv_2 Bv_3 Bv_4 Bv_5 Bf_1 Bf_2 Bf_3 Bf_4 Bf_5 Bf_6 Bf_7 Bf_8 s0) (hG : GsB s0) (hN : NtE Nf_1 Nf_2 Nf_3 Nv_0 s0) (hL0 : CdE R0f_1 (ru_fl Q0) ∧ (ru_fl Q0).length = R0n ∧ R0n ≤ 400 ∧ RwR g2 g4 g5 0 Q0 ∧ ru_ok Q0) (hL1 : CdE R1f_1 (ru_fl Q1) ∧ (ru_fl Q1).length = R1n ∧ R1n ≤ 400 ∧ RwR g2 g4 g5 1 Q1 ∧ ru_ok Q1) (hL2 : CdE R2f_1 (ru_fl Q2) ∧ (ru_fl Q2).length = R2n ∧ R2n ≤ 400 ∧ RwR g2 g4 g5 2 Q2 ∧ ru_ok Q2) (hL3 : CdE R3f_1 (ru_fl Q3) ∧ (ru_fl Q3).length = R3n ∧ R3n ≤ 400 ∧ RwR g2 g4 g5 3 Q3 ∧ ru_ok Q3) (hL4 : CdE R4f_1 (ru_fl Q4) ∧ (ru_fl Q4).length = R4n ∧ R4n ≤ 400 ∧ RwR g2 g4 g5 4 Q4 ∧ ru_ok Q4) (hL5 : CdE R5f_1 (ru_fl Q5) ∧ (ru_fl Q5).length = R5n ∧ R5n ≤ 400 ∧ RwR g2 g4 g5 5 Q5 ∧ ru_ok Q5) : ∀ (yy_900 yy_901 : Nat → Int32) (yy_902 yy_903 yy_904 yy_905 yy_906 yy_907 : Int32) (yy_908 yy_909 yy_910 yy_911 yy_912 yy_913 yy_914 yy_915 : Nat → Int32) (yy_916 : Int32) (yy_917 yy_918 yy_919 yy_920 yy_921 yy_922 : Nat → Int64) (V G s : Nat → Int32) (g8 g9 : Nat → Int64) (tp fo : Int32) (n : Nat), 8 ≤ n → WgI 0 yy_900 yy_901 V G s0 s yy_916 → WgQ 6 (dX2_wgh6_u8_0 Bf_1 Bf_2 Bf_3 Bf_4 Bf_5 Bf_6 Bf_7 Bf_8 Bv_0 Bv_1 Bv_2 Bv_3 Bv_4 Bv_5 Nf_1 Nf_2 Nf_3 Nv_0 R0f_1 R1f_1 R2f_1 R3f_1 R4f_1 R5f_1 R0n R1n R2n R3n R4n R5n yy_900 yy_901 yy_902 yy_903 yy_904 yy_905 yy_906 yy_907 yy_908 yy_909 yy_910 yy_911 yy_912 yy_913 yy_914 yy_915 yy_916 yy_917 yy_918 yy_919 yy_920 yy_921 yy_922).1 (dX2_wgh6_u8_0 Bf_1 Bf_2 Bf_3 Bf_4 Bf_5 Bf_6 Bf_7 Bf_8 Bv_0 Bv_1 Bv_2 Bv_3 Bv_4 Bv_5 Nf_1 Nf_2 Nf_3 Nv_0 R0f_1 R1f_1 R2f_1 R3f_1 R4f_1 R5f_1 R0n R1n R2n R3n R4n R5n yy_900 yy_901 yy_902 yy_903 yy_904 yy_905 yy_906 yy_907 yy_908 yy_909 yy_910 yy_911 yy_912 yy_913 yy_914 yy_915 yy_916 yy_917 yy_918 yy_919 yy_920 yy_921 yy_922).2.1 (dX2_wgh6_u8_0 Bf_1 Bf_2 Bf_3 Bf_4 Bf_5 Bf_6 Bf_7 Bf_8 Bv_0 Bv_1 Bv_2 Bv_3 Bv_4 Bv_5 Nf_1 Nf_2 Nf_3 Nv_0 R0f_1 R1f_1 R2f_1 R3f_1 R4f_1 R5f_1 R0n R1n R2n R3n R4n R5n yy_900 yy_901 yy_902 yy_903 yy_904 yy_905 yy_906 yy_907 yy_908 yy_909 yy_910 yy_911 yy_912 yy_913 yy_914 yy_915 yy_916 yy_917 yy_918 yy_919 yy_920 yy_921 yy_922).2.2.2.2.2.2.2.2.2.2.2.2.2.2.2.2.1 (dX12_fillsFits_l11 g2 g4 g5 (6 : Int32) 0 n (0 : Int32) g8 g9 G V tp fo s).2.2.2.2.1 (dX12_fillsFits_l11 g2 g4 g5 (6 : Int32) 0 n (0 : Int32) g8 g9 G V tp fo s).2.2.2.1 s0 (dX12_fillsFits_l11 g2 g4 g5 (6 : Int32) 0 n (0 : Int32) g8 g9 G V tp fo s).2.2.2.2.2.2.2 := by
  intro yy_900 yy_901 yy_902 yy_903 yy_904 yy_905 yy_906 yy_907 yy_908 yy_909 yy_910 yy_911 yy_912 yy_913 yy_914 yy_915 yy_916 yy_917 yy_918 yy_919 yy_920 yy_921 yy_922 V G s g8 g9 tp fo n hn h
  obtain ⟨n, rfl⟩ : ∃ m, n = m + 1 := ⟨n - 1, by omega⟩
  rw [dX2_wgh6_u8_0_s, dX12_fillsFits_l11_s, if_neg (show ¬ (6 : Int32) < (0 : Int32) by decide)]
  have hB := begins_is (s := s)
  have hg := hG.tl h.2.2.2
  have hb := hg.begin hB
  have hc := BgC.begin (y1 := yy_908) (y2 := yy_909) (y3 := yy_910) (y4 := yy_911) (y5 := yy_912) (y6 := yy_913) (y7 := yy_914) (y8 := yy_915) (hC.tl h.2.2.2) hg hB
  have hw := wk_wgh6_l67v6 (r := 0) (g2 := g2) (g4 := g4) (g5 := g5) (by decide) (by decide) ((61 - (0 : Int32).toInt).toNat + 1) 0 Bv_0 Bv_4 Bv_5 tp yy_900 _ _ _ _ V (dX12_begins s) g8 g9 hc hb.1 (by rw [hb.2]; decide) (by decide) (by decide) (by decide) (by rw [show 61 * (0 : Int32).toInt.toNat + (0 : Int32).toInt.toNat = 61 * 0 by decide]; exact h.1)
  rw [show 61 * (0 : Int32).toInt.toNat + 61 = 61 * 0 + 61 by decide] at hw
  generalize (dX2_wgh6_l67v6 Bf_1 Bf_2 Bf_3 Bf_4 Bf_5 Bf_6 Bf_7 Bf_8 Bv_1 Bv_2 Bv_3 (0 : Int32) yy_908 yy_909 yy_910 yy_911 yy_912 yy_913 yy_914 yy_915 ((61 - (0 : Int32).toInt).toNat + 1) (0 : Int32) yy_900 Bv_0 Bv_4 Bv_5 ((dX9_copyFrom yy_908 yy_909 yy_910 yy_911 yy_912 yy_913 yy_914 yy_915 Bf_1 Bf_2 Bf_3 Bf_4 Bf_5 Bf_6 Bf_7 Bf_8).2.2.1) ((dX9_copyFrom yy_908 yy_909 yy_910 yy_911 yy_912 yy_913 yy_914 yy_915 Bf_1 Bf_2 Bf_3 Bf_4 Bf_5 Bf_6 Bf_7 Bf_8).2.2.2.2.2.1) ((dX9_copyFrom yy_908 yy_909 yy_910 yy_911 yy_912 yy_913 yy_914 yy_915 Bf_1 Bf_2 Bf_3 Bf_4 Bf_5 Bf_6 Bf_7 Bf_8).2.2.2.2.2.2.1) ((dX9_copyFrom yy_908 yy_909 yy_910 yy_911 yy_912 yy_913 yy_914 yy_915 Bf_1 Bf_2 Bf_3 Bf_4 Bf_5 Bf_6 Bf_7 Bf_8).2.2.2.2.2.2.2)) = X at hw ⊢
  generalize dX12_fillsFits_l32 g2 g4 g5 0 (0 : Int32) (0 : Int32) ((61 - (0 : Int32).toInt).toNat + 1) (0 : Int32) g8 g9 V tp (dX12_begins s) = Z at hw ⊢
  have hl : Tl6 s Z.2.2.2.2.2 := hB.six.tr hw.2.six
  have ha : dX2_agrees Nf_1 Nf_2 Nf_3 Nv_0 X.2.1 (0 : Int32) = dX12_areNotesSo Z.2.2.2.2.2 Z.2.2.2.1 (0 : Int32) := agree_is (hN.tl (h.2.2.2.tr hl)) (by decide) (by rw [show 61 * (0 : Int32).toInt.toNat + 61 = 61 * 0 + 61 by decide]; exact hw.1)
  rw [ha]
  generalize vp_nar .boolean (dX12_areNotesSo Z.2.2.2.2.2 Z.2.2.2.1 (0 : Int32)) = a
  rw [upd_at]
  by_cases hz : a = 0
  · rw [if_pos hz]
    rw [show (0 : Int32) + 1 = 1 by decide]
    exact wgP_6_1 hC hG hN hL0 hL1 hL2 hL3 hL4 hL5 _ _ _ _ _ _ _ _ _ _ _ _ _ _ _ _ _ _ _ _ _ _ _ _ _ _ _ _ _ _ n (by omega) (h.step (r := 0) (a := a) (a₁ := a) (d := 0) (by decide) hw.1 hl rfl (by rw [if_pos hz]))
  · rw [if_neg hz]
    rw [show (0 : Int32) + 1 = 1 by decide]
    exact wgP_6_1 hC hG hN hL0 hL1 hL2 hL3 hL4 hL5 _ _ _ _ _ _ _ _ _ _ _ _ _ _ _ _ _ _ _ _ _ _ _ _ _ _ _ _ _ _ n (by omega) (h.step (r := 0) (a := a) (a₁ := a) (d := 1) (by decide) hw.1 hl rfl (by rw [if_neg hz]))
