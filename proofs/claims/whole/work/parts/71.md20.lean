/-! THE MODEL: made -/
def IniM (E : EnvT) (h0 h : Hp) (M n : Nat) (fs : List Value) : Prop := h.1 = M + (n + 1) ∧ h.2 M = some (.inr (10, fs)) ∧ (∀ k, 1 ≤ k → k ≤ n → h.2 (M + k) = some (.inl (E.2.2.1 (mTy k), mLen k, .inl (fun _ => 0)))) ∧ Low h0 h M
section MINIT
variable {E : EnvT} {h0 h h1 : Hp} {M n : Nat} {fs fs2 : List Value}
theorem IniM.psh (x : IniM E h0 h M n fs) (u : Psh h h1 (M + (n + 1)) (.inl (E.2.2.1 (mTy (n + 1)), mLen (n + 1), .inl (fun _ => 0)))) : IniM E h0 h1 M (n + 1) fs := by
  obtain ⟨a, b, c, d⟩ := x
  obtain ⟨u1, u2, u3⟩ := u
  refine ⟨u1, (u3 M (by omega)).trans b, fun k k1 k2 => ?_, fun q hq => (u3 q (by omega)).trans (d q hq)⟩
  by_cases e : k = n + 1
  · subst e; exact u2
  · exact (u3 _ (by omega)).trans (c k k1 (by omega))
theorem IniM.put (x : IniM E h0 h M n fs) (u : Upd h h1 M (.inr (10, fs2))) : IniM E h0 h1 M n fs2 := by
  obtain ⟨a, b, c, d⟩ := x
  obtain ⟨u1, u2, u3⟩ := u
  exact ⟨u1.trans a, u2, fun k k1 k2 => (u3 _ (by omega)).trans (c k k1 k2), fun q hq => (u3 q (by omega)).trans (d q hq)⟩
theorem MP_init (hs : h.1 = M + 1) (hr : h.2 M = some (.inr (10, [.int 0, .null, .null, .null, .null, .int 0, .null, .null, .null, .null, .null, .int 0, .null, .int 0, .int 0, .int 0, .int 0, .null, .null, .int 0, .int 0, .int 0, .null, .null, .int 0, .null, .null, .null, .null, .null, .int 0, .null, .null, .null, .int 0, .int 0, .int 0, .int 0]))) : Spec E k_X10_init 1 22 35950 [.ref M] h (fun v h' => v = none ∧ MMAt E h' M ([], fun _ => []) [] (fun _ => ([], fun _ => [])) (fun _ => 0) [] [] (nI 0) (-1) ∧ h'.1 = M + 23 ∧ Low h h' M) := by
  have y0 : IniM E h h M 0 [.int 0, .null, .null, .null, .null, .int 0, .null, .null, .null, .null, .null, .int 0, .null, .int 0, .int 0, .int 0, .int 0, .null, .null, .int 0, .int 0, .int 0, .null, .null, .int 0, .null, .null, .null, .null, .null, .int 0, .null, .null, .null, .int 0, .int 0, .int 0, .int 0] := ⟨hs, hr, fun k a b => absurd a (by omega), fun q _ => rfl⟩
  refine Spec.of (by decide +kernel) (by simp [Value.category]) (Nat.le_of_ble_eq_true rfl) ?_
  show WP E k_X10_init 1 22 35950 0 [some (.ref M)] [] h _
  refine R_aload_n dX10_init_0 rfl ?_
  -- X10_init: ('call', 1, '.invokespecial', 7)
  refine R_objInit dX10_init_1 l_RX10_7 (Nat.le_of_ble_eq_true rfl) (by omega) ?_
  refine R_aload_n dX10_init_4 rfl ?_
  refine R_sipush (v := nI 3063) dX10_init_5 (by decide) ?_
  refine R_newarray_int_A dX10_init_8 a_int (Nat.le_of_ble_eq_true rfl) (y0.1 : h.1 = M + 1) rfl rfl ?_
  -- X10_init: ('new', 10)
  intro a1 v1
  have z1 := y0.psh v1
  refine R_putF_A K_10 (f := 1) (by decide) dX10_init_10 f_RX10_13 rfl rfl rfl z1.2.1 (by rfl) (by rfl) (Nat.le_of_ble_eq_true rfl) ?_
  -- X10_init: ('put', 13)
  intro h1 u1
  have y1 : IniM E h h1 M 1 [.int 0, .ref (M + 1), .null, .null, .null, .int 0, .null, .null, .null, .null, .null, .int 0, .null, .int 0, .int 0, .int 0, .int 0, .null, .null, .int 0, .int 0, .int 0, .null, .null, .int 0, .null, .null, .null, .null, .null, .int 0, .null, .null, .null, .int 0, .int 0, .int 0, .int 0] := z1.put u1
  clear z1 u1 v1
  refine R_aload_n dX10_init_13 rfl ?_
  refine R_sipush (v := nI 10210) dX10_init_14 (by decide) ?_
  refine R_newarray_int_A dX10_init_17 a_int (Nat.le_of_ble_eq_true rfl) (y1.1 : h1.1 = M + 2) rfl rfl ?_
  -- X10_init: ('new', 19)
  intro a2 v2
  have z2 := y1.psh v2
  refine R_putF_A K_10 (f := 2) (by decide) dX10_init_19 f_RX10_17 rfl rfl rfl z2.2.1 (by rfl) (by rfl) (Nat.le_of_ble_eq_true rfl) ?_
  -- X10_init: ('put', 22)
  intro h2 u2
  have y2 : IniM E h h2 M 2 [.int 0, .ref (M + 1), .ref (M + 2), .null, .null, .int 0, .null, .null, .null, .null, .null, .int 0, .null, .int 0, .int 0, .int 0, .int 0, .null, .null, .int 0, .int 0, .int 0, .null, .null, .int 0, .null, .null, .null, .null, .null, .int 0, .null, .null, .null, .int 0, .int 0, .int 0, .int 0] := z2.put u2
  clear z2 u2 v2
  refine R_aload_n dX10_init_22 rfl ?_
  refine R_sipush (v := nI 1021) dX10_init_23 (by decide) ?_
  refine R_newarray_int_A dX10_init_26 a_int (Nat.le_of_ble_eq_true rfl) (y2.1 : h2.1 = M + 3) rfl rfl ?_
  -- X10_init: ('new', 28)
  intro a3 v3
  have z3 := y2.psh v3
  refine R_putF_A K_10 (f := 3) (by decide) dX10_init_28 f_RX10_20 rfl rfl rfl z3.2.1 (by rfl) (by rfl) (Nat.le_of_ble_eq_true rfl) ?_
  -- X10_init: ('put', 31)
  intro h3 u3
  have y3 : IniM E h h3 M 3 [.int 0, .ref (M + 1), .ref (M + 2), .ref (M + 3), .null, .int 0, .null, .null, .null, .null, .null, .int 0, .null, .int 0, .int 0, .int 0, .int 0, .null, .null, .int 0, .int 0, .int 0, .null, .null, .int 0, .null, .null, .null, .null, .null, .int 0, .null, .null, .null, .int 0, .int 0, .int 0, .int 0] := z3.put u3
  clear z3 u3 v3
  refine R_aload_n dX10_init_31 rfl ?_
  refine R_sipush (v := nI 3063) dX10_init_32 (by decide) ?_
  refine R_newarray_int_A dX10_init_35 a_int (Nat.le_of_ble_eq_true rfl) (y3.1 : h3.1 = M + 4) rfl rfl ?_
  -- X10_init: ('new', 37)
  intro a4 v4
  have z4 := y3.psh v4
  refine R_putF_A K_10 (f := 4) (by decide) dX10_init_37 f_RX10_23 rfl rfl rfl z4.2.1 (by rfl) (by rfl) (Nat.le_of_ble_eq_true rfl) ?_
  -- X10_init: ('put', 40)
  intro h4 u4
  have y4 : IniM E h h4 M 4 [.int 0, .ref (M + 1), .ref (M + 2), .ref (M + 3), .ref (M + 4), .int 0, .null, .null, .null, .null, .null, .int 0, .null, .int 0, .int 0, .int 0, .int 0, .null, .null, .int 0, .int 0, .int 0, .null, .null, .int 0, .null, .null, .null, .null, .null, .int 0, .null, .null, .null, .int 0, .int 0, .int 0, .int 0] := z4.put u4
  clear z4 u4 v4
  refine R_aload_n dX10_init_40 rfl ?_
  refine R_iconst (v := nI 2) dX10_init_41 (by decide) ?_
  refine R_newarray_boolean_A dX10_init_42 a_boolean (Nat.le_of_ble_eq_true rfl) (y4.1 : h4.1 = M + 5) rfl rfl ?_
  -- X10_init: ('new', 44)
  intro a5 v5
  have z5 := y4.psh v5
  refine R_putF_A K_10 (f := 6) (by decide) dX10_init_44 f_RX10_26 rfl rfl rfl z5.2.1 (by rfl) (by rfl) (Nat.le_of_ble_eq_true rfl) ?_
  -- X10_init: ('put', 47)
  intro h5 u5
  have y5 : IniM E h h5 M 5 [.int 0, .ref (M + 1), .ref (M + 2), .ref (M + 3), .ref (M + 4), .int 0, .ref (M + 5), .null, .null, .null, .null, .int 0, .null, .int 0, .int 0, .int 0, .int 0, .null, .null, .int 0, .int 0, .int 0, .null, .null, .int 0, .null, .null, .null, .null, .null, .int 0, .null, .null, .null, .int 0, .int 0, .int 0, .int 0] := z5.put u5
  clear z5 u5 v5
  refine R_aload_n dX10_init_47 rfl ?_
  refine R_bipush (v := nI 86) dX10_init_48 (by decide) ?_
  refine R_newarray_int_A dX10_init_50 a_int (Nat.le_of_ble_eq_true rfl) (y5.1 : h5.1 = M + 6) rfl rfl ?_
  -- X10_init: ('new', 52)
  intro a6 v6
  have z6 := y5.psh v6
  refine R_putF_A K_10 (f := 7) (by decide) dX10_init_52 f_RX10_30 rfl rfl rfl z6.2.1 (by rfl) (by rfl) (Nat.le_of_ble_eq_true rfl) ?_
  -- X10_init: ('put', 55)
  intro h6 u6
  have y6 : IniM E h h6 M 6 [.int 0, .ref (M + 1), .ref (M + 2), .ref (M + 3), .ref (M + 4), .int 0, .ref (M + 5), .ref (M + 6), .null, .null, .null, .int 0, .null, .int 0, .int 0, .int 0, .int 0, .null, .null, .int 0, .int 0, .int 0, .null, .null, .int 0, .null, .null, .null, .null, .null, .int 0, .null, .null, .null, .int 0, .int 0, .int 0, .int 0] := z6.put u6
  clear z6 u6 v6
  refine R_aload_n dX10_init_55 rfl ?_
  refine R_bipush (v := nI 86) dX10_init_56 (by decide) ?_
  refine R_newarray_int_A dX10_init_58 a_int (Nat.le_of_ble_eq_true rfl) (y6.1 : h6.1 = M + 7) rfl rfl ?_
  -- X10_init: ('new', 60)
  intro a7 v7
  have z7 := y6.psh v7
  refine R_putF_A K_10 (f := 8) (by decide) dX10_init_60 f_RX10_33 rfl rfl rfl z7.2.1 (by rfl) (by rfl) (Nat.le_of_ble_eq_true rfl) ?_
  -- X10_init: ('put', 63)
  intro h7 u7
  have y7 : IniM E h h7 M 7 [.int 0, .ref (M + 1), .ref (M + 2), .ref (M + 3), .ref (M + 4), .int 0, .ref (M + 5), .ref (M + 6), .ref (M + 7), .null, .null, .int 0, .null, .int 0, .int 0, .int 0, .int 0, .null, .null, .int 0, .int 0, .int 0, .null, .null, .int 0, .null, .null, .null, .null, .null, .int 0, .null, .null, .null, .int 0, .int 0, .int 0, .int 0] := z7.put u7
  clear z7 u7 v7
  refine R_aload_n dX10_init_63 rfl ?_
  refine R_sipush (v := nI 240) dX10_init_64 (by decide) ?_
  refine R_newarray_int_A dX10_init_67 a_int (Nat.le_of_ble_eq_true rfl) (y7.1 : h7.1 = M + 8) rfl rfl ?_
  -- X10_init: ('new', 69)
  intro a8 v8
  have z8 := y7.psh v8
  refine R_putF_A K_10 (f := 9) (by decide) dX10_init_69 f_RX10_36 rfl rfl rfl z8.2.1 (by rfl) (by rfl) (Nat.le_of_ble_eq_true rfl) ?_
  -- X10_init: ('put', 72)
  intro h8 u8
  have y8 : IniM E h h8 M 8 [.int 0, .ref (M + 1), .ref (M + 2), .ref (M + 3), .ref (M + 4), .int 0, .ref (M + 5), .ref (M + 6), .ref (M + 7), .ref (M + 8), .null, .int 0, .null, .int 0, .int 0, .int 0, .int 0, .null, .null, .int 0, .int 0, .int 0, .null, .null, .int 0, .null, .null, .null, .null, .null, .int 0, .null, .null, .null, .int 0, .int 0, .int 0, .int 0] := z8.put u8
  clear z8 u8 v8
  refine R_aload_n dX10_init_72 rfl ?_
  refine R_sipush (v := nI 240) dX10_init_73 (by decide) ?_
  refine R_newarray_int_A dX10_init_76 a_int (Nat.le_of_ble_eq_true rfl) (y8.1 : h8.1 = M + 9) rfl rfl ?_
  -- X10_init: ('new', 78)
  intro a9 v9
  have z9 := y8.psh v9
  refine R_putF_A K_10 (f := 10) (by decide) dX10_init_78 f_RX10_39 rfl rfl rfl z9.2.1 (by rfl) (by rfl) (Nat.le_of_ble_eq_true rfl) ?_
  -- X10_init: ('put', 81)
  intro h9 u9
  have y9 : IniM E h h9 M 9 [.int 0, .ref (M + 1), .ref (M + 2), .ref (M + 3), .ref (M + 4), .int 0, .ref (M + 5), .ref (M + 6), .ref (M + 7), .ref (M + 8), .ref (M + 9), .int 0, .null, .int 0, .int 0, .int 0, .int 0, .null, .null, .int 0, .int 0, .int 0, .null, .null, .int 0, .null, .null, .null, .null, .null, .int 0, .null, .null, .null, .int 0, .int 0, .int 0, .int 0] := z9.put u9
  clear z9 u9 v9
  refine R_aload_n dX10_init_81 rfl ?_
  refine R_sipush (v := nI 260) dX10_init_82 (by decide) ?_
  refine R_newarray_byte_A dX10_init_85 a_byte (Nat.le_of_ble_eq_true rfl) (y9.1 : h9.1 = M + 10) rfl rfl ?_
  -- X10_init: ('new', 87)
  intro a10 v10
  have z10 := y9.psh v10
  refine R_putF_A K_10 (f := 12) (by decide) dX10_init_87 f_RX10_42 rfl rfl rfl z10.2.1 (by rfl) (by rfl) (Nat.le_of_ble_eq_true rfl) ?_
  -- X10_init: ('put', 90)
  intro h10 u10
  have y10 : IniM E h h10 M 10 [.int 0, .ref (M + 1), .ref (M + 2), .ref (M + 3), .ref (M + 4), .int 0, .ref (M + 5), .ref (M + 6), .ref (M + 7), .ref (M + 8), .ref (M + 9), .int 0, .ref (M + 10), .int 0, .int 0, .int 0, .int 0, .null, .null, .int 0, .int 0, .int 0, .null, .null, .int 0, .null, .null, .null, .null, .null, .int 0, .null, .null, .null, .int 0, .int 0, .int 0, .int 0] := z10.put u10
  clear z10 u10 v10
  refine R_aload_n dX10_init_90 rfl ?_
  refine R_iconst (v := (-1)) dX10_init_91 (by decide) ?_
  refine R_put_A K_10 (f := 15) (by decide) dX10_init_92 f_RX10_46 rfl y10.2.1 (by rfl) (by rfl) (Nat.le_of_ble_eq_true rfl) ?_
  -- X10_init: ('put', 95)
  intro hw uw
  have yw : IniM E h hw M 10 [.int 0, .ref (M + 1), .ref (M + 2), .ref (M + 3), .ref (M + 4), .int 0, .ref (M + 5), .ref (M + 6), .ref (M + 7), .ref (M + 8), .ref (M + 9), .int 0, .ref (M + 10), .int 0, .int 0, .int (-1), .int 0, .null, .null, .int 0, .int 0, .int 0, .null, .null, .int 0, .null, .null, .null, .null, .null, .int 0, .null, .null, .null, .int 0, .int 0, .int 0, .int 0] := y10.put uw
  refine R_aload_n dX10_init_95 rfl ?_
  refine R_bipush (v := nI 20) dX10_init_96 (by decide) ?_
  refine R_newarray_int_A dX10_init_98 a_int (Nat.le_of_ble_eq_true rfl) (yw.1 : hw.1 = M + 11) rfl rfl ?_
  -- X10_init: ('new', 100)
  intro a11 v11
  have z11 := yw.psh v11
  refine R_putF_A K_10 (f := 17) (by decide) dX10_init_100 f_RX10_49 rfl rfl rfl z11.2.1 (by rfl) (by rfl) (Nat.le_of_ble_eq_true rfl) ?_
  -- X10_init: ('put', 103)
  intro h11 u11
  have y11 : IniM E h h11 M 11 [.int 0, .ref (M + 1), .ref (M + 2), .ref (M + 3), .ref (M + 4), .int 0, .ref (M + 5), .ref (M + 6), .ref (M + 7), .ref (M + 8), .ref (M + 9), .int 0, .ref (M + 10), .int 0, .int 0, .int (-1), .int 0, .ref (M + 11), .null, .int 0, .int 0, .int 0, .null, .null, .int 0, .null, .null, .null, .null, .null, .int 0, .null, .null, .null, .int 0, .int 0, .int 0, .int 0] := z11.put u11
  clear z11 u11 v11
  refine R_aload_n dX10_init_103 rfl ?_
  refine R_sipush (v := nI 1021) dX10_init_104 (by decide) ?_
  refine R_newarray_int_A dX10_init_107 a_int (Nat.le_of_ble_eq_true rfl) (y11.1 : h11.1 = M + 12) rfl rfl ?_
  -- X10_init: ('new', 109)
  intro a12 v12
  have z12 := y11.psh v12
  refine R_putF_A K_10 (f := 18) (by decide) dX10_init_109 f_RX10_52 rfl rfl rfl z12.2.1 (by rfl) (by rfl) (Nat.le_of_ble_eq_true rfl) ?_
  -- X10_init: ('put', 112)
  intro h12 u12
  have y12 : IniM E h h12 M 12 [.int 0, .ref (M + 1), .ref (M + 2), .ref (M + 3), .ref (M + 4), .int 0, .ref (M + 5), .ref (M + 6), .ref (M + 7), .ref (M + 8), .ref (M + 9), .int 0, .ref (M + 10), .int 0, .int 0, .int (-1), .int 0, .ref (M + 11), .ref (M + 12), .int 0, .int 0, .int 0, .null, .null, .int 0, .null, .null, .null, .null, .null, .int 0, .null, .null, .null, .int 0, .int 0, .int 0, .int 0] := z12.put u12
  clear z12 u12 v12
  refine R_aload_n dX10_init_112 rfl ?_
  refine R_sipush (v := nI 1090) dX10_init_113 (by decide) ?_
  refine R_newarray_int_A dX10_init_116 a_int (Nat.le_of_ble_eq_true rfl) (y12.1 : h12.1 = M + 13) rfl rfl ?_
  -- X10_init: ('new', 118)
  intro a13 v13
  have z13 := y12.psh v13
  refine R_putF_A K_10 (f := 22) (by decide) dX10_init_118 f_RX10_55 rfl rfl rfl z13.2.1 (by rfl) (by rfl) (Nat.le_of_ble_eq_true rfl) ?_
  -- X10_init: ('put', 121)
  intro h13 u13
  have y13 : IniM E h h13 M 13 [.int 0, .ref (M + 1), .ref (M + 2), .ref (M + 3), .ref (M + 4), .int 0, .ref (M + 5), .ref (M + 6), .ref (M + 7), .ref (M + 8), .ref (M + 9), .int 0, .ref (M + 10), .int 0, .int 0, .int (-1), .int 0, .ref (M + 11), .ref (M + 12), .int 0, .int 0, .int 0, .ref (M + 13), .null, .int 0, .null, .null, .null, .null, .null, .int 0, .null, .null, .null, .int 0, .int 0, .int 0, .int 0] := z13.put u13
  clear z13 u13 v13
  refine R_aload_n dX10_init_121 rfl ?_
  refine R_bipush (v := nI 86) dX10_init_122 (by decide) ?_
  refine R_newarray_boolean_A dX10_init_124 a_boolean (Nat.le_of_ble_eq_true rfl) (y13.1 : h13.1 = M + 14) rfl rfl ?_
  -- X10_init: ('new', 126)
  intro a14 v14
  have z14 := y13.psh v14
  refine R_putF_A K_10 (f := 23) (by decide) dX10_init_126 f_RX10_58 rfl rfl rfl z14.2.1 (by rfl) (by rfl) (Nat.le_of_ble_eq_true rfl) ?_
  -- X10_init: ('put', 129)
  intro h14 u14
  have y14 : IniM E h h14 M 14 [.int 0, .ref (M + 1), .ref (M + 2), .ref (M + 3), .ref (M + 4), .int 0, .ref (M + 5), .ref (M + 6), .ref (M + 7), .ref (M + 8), .ref (M + 9), .int 0, .ref (M + 10), .int 0, .int 0, .int (-1), .int 0, .ref (M + 11), .ref (M + 12), .int 0, .int 0, .int 0, .ref (M + 13), .ref (M + 14), .int 0, .null, .null, .null, .null, .null, .int 0, .null, .null, .null, .int 0, .int 0, .int 0, .int 0] := z14.put u14
  clear z14 u14 v14
  refine R_aload_n dX10_init_129 rfl ?_
  refine R_bipush (v := nI 86) dX10_init_130 (by decide) ?_
  refine R_newarray_int_A dX10_init_132 a_int (Nat.le_of_ble_eq_true rfl) (y14.1 : h14.1 = M + 15) rfl rfl ?_
  -- X10_init: ('new', 134)
  intro a15 v15
  have z15 := y14.psh v15
  refine R_putF_A K_10 (f := 25) (by decide) dX10_init_134 f_RX10_61 rfl rfl rfl z15.2.1 (by rfl) (by rfl) (Nat.le_of_ble_eq_true rfl) ?_
  -- X10_init: ('put', 137)
  intro h15 u15
  have y15 : IniM E h h15 M 15 [.int 0, .ref (M + 1), .ref (M + 2), .ref (M + 3), .ref (M + 4), .int 0, .ref (M + 5), .ref (M + 6), .ref (M + 7), .ref (M + 8), .ref (M + 9), .int 0, .ref (M + 10), .int 0, .int 0, .int (-1), .int 0, .ref (M + 11), .ref (M + 12), .int 0, .int 0, .int 0, .ref (M + 13), .ref (M + 14), .int 0, .ref (M + 15), .null, .null, .null, .null, .int 0, .null, .null, .null, .int 0, .int 0, .int 0, .int 0] := z15.put u15
  clear z15 u15 v15
  refine R_aload_n dX10_init_137 rfl ?_
  refine R_bipush (v := nI 86) dX10_init_138 (by decide) ?_
  refine R_newarray_int_A dX10_init_140 a_int (Nat.le_of_ble_eq_true rfl) (y15.1 : h15.1 = M + 16) rfl rfl ?_
  -- X10_init: ('new', 142)
  intro a16 v16
  have z16 := y15.psh v16
  refine R_putF_A K_10 (f := 26) (by decide) dX10_init_142 f_RX10_64 rfl rfl rfl z16.2.1 (by rfl) (by rfl) (Nat.le_of_ble_eq_true rfl) ?_
  -- X10_init: ('put', 145)
  intro h16 u16
  have y16 : IniM E h h16 M 16 [.int 0, .ref (M + 1), .ref (M + 2), .ref (M + 3), .ref (M + 4), .int 0, .ref (M + 5), .ref (M + 6), .ref (M + 7), .ref (M + 8), .ref (M + 9), .int 0, .ref (M + 10), .int 0, .int 0, .int (-1), .int 0, .ref (M + 11), .ref (M + 12), .int 0, .int 0, .int 0, .ref (M + 13), .ref (M + 14), .int 0, .ref (M + 15), .ref (M + 16), .null, .null, .null, .int 0, .null, .null, .null, .int 0, .int 0, .int 0, .int 0] := z16.put u16
  clear z16 u16 v16
  refine R_aload_n dX10_init_145 rfl ?_
  refine R_bipush (v := nI 86) dX10_init_146 (by decide) ?_
  refine R_newarray_int_A dX10_init_148 a_int (Nat.le_of_ble_eq_true rfl) (y16.1 : h16.1 = M + 17) rfl rfl ?_
  -- X10_init: ('new', 150)
  intro a17 v17
  have z17 := y16.psh v17
  refine R_putF_A K_10 (f := 27) (by decide) dX10_init_150 f_RX10_67 rfl rfl rfl z17.2.1 (by rfl) (by rfl) (Nat.le_of_ble_eq_true rfl) ?_
  -- X10_init: ('put', 153)
  intro h17 u17
  have y17 : IniM E h h17 M 17 [.int 0, .ref (M + 1), .ref (M + 2), .ref (M + 3), .ref (M + 4), .int 0, .ref (M + 5), .ref (M + 6), .ref (M + 7), .ref (M + 8), .ref (M + 9), .int 0, .ref (M + 10), .int 0, .int 0, .int (-1), .int 0, .ref (M + 11), .ref (M + 12), .int 0, .int 0, .int 0, .ref (M + 13), .ref (M + 14), .int 0, .ref (M + 15), .ref (M + 16), .ref (M + 17), .null, .null, .int 0, .null, .null, .null, .int 0, .int 0, .int 0, .int 0] := z17.put u17
  clear z17 u17 v17
  refine R_aload_n dX10_init_153 rfl ?_
  refine R_bipush (v := nI 86) dX10_init_154 (by decide) ?_
  refine R_newarray_int_A dX10_init_156 a_int (Nat.le_of_ble_eq_true rfl) (y17.1 : h17.1 = M + 18) rfl rfl ?_
  -- X10_init: ('new', 158)
  intro a18 v18
  have z18 := y17.psh v18
  refine R_putF_A K_10 (f := 28) (by decide) dX10_init_158 f_RX10_70 rfl rfl rfl z18.2.1 (by rfl) (by rfl) (Nat.le_of_ble_eq_true rfl) ?_
  -- X10_init: ('put', 161)
  intro h18 u18
  have y18 : IniM E h h18 M 18 [.int 0, .ref (M + 1), .ref (M + 2), .ref (M + 3), .ref (M + 4), .int 0, .ref (M + 5), .ref (M + 6), .ref (M + 7), .ref (M + 8), .ref (M + 9), .int 0, .ref (M + 10), .int 0, .int 0, .int (-1), .int 0, .ref (M + 11), .ref (M + 12), .int 0, .int 0, .int 0, .ref (M + 13), .ref (M + 14), .int 0, .ref (M + 15), .ref (M + 16), .ref (M + 17), .ref (M + 18), .null, .int 0, .null, .null, .null, .int 0, .int 0, .int 0, .int 0] := z18.put u18
  clear z18 u18 v18
  refine R_aload_n dX10_init_161 rfl ?_
  refine R_bipush (v := nI 86) dX10_init_162 (by decide) ?_
  refine R_newarray_int_A dX10_init_164 a_int (Nat.le_of_ble_eq_true rfl) (y18.1 : h18.1 = M + 19) rfl rfl ?_
  -- X10_init: ('new', 166)
  intro a19 v19
  have z19 := y18.psh v19
  refine R_putF_A K_10 (f := 29) (by decide) dX10_init_166 f_RX10_73 rfl rfl rfl z19.2.1 (by rfl) (by rfl) (Nat.le_of_ble_eq_true rfl) ?_
  -- X10_init: ('put', 169)
  intro h19 u19
  have y19 : IniM E h h19 M 19 [.int 0, .ref (M + 1), .ref (M + 2), .ref (M + 3), .ref (M + 4), .int 0, .ref (M + 5), .ref (M + 6), .ref (M + 7), .ref (M + 8), .ref (M + 9), .int 0, .ref (M + 10), .int 0, .int 0, .int (-1), .int 0, .ref (M + 11), .ref (M + 12), .int 0, .int 0, .int 0, .ref (M + 13), .ref (M + 14), .int 0, .ref (M + 15), .ref (M + 16), .ref (M + 17), .ref (M + 18), .ref (M + 19), .int 0, .null, .null, .null, .int 0, .int 0, .int 0, .int 0] := z19.put u19
  clear z19 u19 v19
  refine R_aload_n dX10_init_169 rfl ?_
  refine R_sipush (v := nI 7396) dX10_init_170 (by decide) ?_
  refine R_newarray_int_A dX10_init_173 a_int (Nat.le_of_ble_eq_true rfl) (y19.1 : h19.1 = M + 20) rfl rfl ?_
  -- X10_init: ('new', 175)
  intro a20 v20
  have z20 := y19.psh v20
  refine R_putF_A K_10 (f := 31) (by decide) dX10_init_175 f_RX10_76 rfl rfl rfl z20.2.1 (by rfl) (by rfl) (Nat.le_of_ble_eq_true rfl) ?_
  -- X10_init: ('put', 178)
  intro h20 u20
  have y20 : IniM E h h20 M 20 [.int 0, .ref (M + 1), .ref (M + 2), .ref (M + 3), .ref (M + 4), .int 0, .ref (M + 5), .ref (M + 6), .ref (M + 7), .ref (M + 8), .ref (M + 9), .int 0, .ref (M + 10), .int 0, .int 0, .int (-1), .int 0, .ref (M + 11), .ref (M + 12), .int 0, .int 0, .int 0, .ref (M + 13), .ref (M + 14), .int 0, .ref (M + 15), .ref (M + 16), .ref (M + 17), .ref (M + 18), .ref (M + 19), .int 0, .ref (M + 20), .null, .null, .int 0, .int 0, .int 0, .int 0] := z20.put u20
  clear z20 u20 v20
  refine R_aload_n dX10_init_178 rfl ?_
  refine R_sipush (v := nI 7396) dX10_init_179 (by decide) ?_
  refine R_newarray_int_A dX10_init_182 a_int (Nat.le_of_ble_eq_true rfl) (y20.1 : h20.1 = M + 21) rfl rfl ?_
  -- X10_init: ('new', 184)
  intro a21 v21
  have z21 := y20.psh v21
  refine R_putF_A K_10 (f := 32) (by decide) dX10_init_184 f_RX10_79 rfl rfl rfl z21.2.1 (by rfl) (by rfl) (Nat.le_of_ble_eq_true rfl) ?_
  -- X10_init: ('put', 187)
  intro h21 u21
  have y21 : IniM E h h21 M 21 [.int 0, .ref (M + 1), .ref (M + 2), .ref (M + 3), .ref (M + 4), .int 0, .ref (M + 5), .ref (M + 6), .ref (M + 7), .ref (M + 8), .ref (M + 9), .int 0, .ref (M + 10), .int 0, .int 0, .int (-1), .int 0, .ref (M + 11), .ref (M + 12), .int 0, .int 0, .int 0, .ref (M + 13), .ref (M + 14), .int 0, .ref (M + 15), .ref (M + 16), .ref (M + 17), .ref (M + 18), .ref (M + 19), .int 0, .ref (M + 20), .ref (M + 21), .null, .int 0, .int 0, .int 0, .int 0] := z21.put u21
  clear z21 u21 v21
  refine R_aload_n dX10_init_187 rfl ?_
  refine R_sipush (v := nI 240) dX10_init_188 (by decide) ?_
  refine R_newarray_int_A dX10_init_191 a_int (Nat.le_of_ble_eq_true rfl) (y21.1 : h21.1 = M + 22) rfl rfl ?_
  -- X10_init: ('new', 193)
  intro a22 v22
  have z22 := y21.psh v22
  refine R_putF_A K_10 (f := 33) (by decide) dX10_init_193 f_RX10_82 rfl rfl rfl z22.2.1 (by rfl) (by rfl) (Nat.le_of_ble_eq_true rfl) ?_
  -- X10_init: ('put', 196)
  intro h22 u22
  have y22 : IniM E h h22 M 22 [.int 0, .ref (M + 1), .ref (M + 2), .ref (M + 3), .ref (M + 4), .int 0, .ref (M + 5), .ref (M + 6), .ref (M + 7), .ref (M + 8), .ref (M + 9), .int 0, .ref (M + 10), .int 0, .int 0, .int (-1), .int 0, .ref (M + 11), .ref (M + 12), .int 0, .int 0, .int 0, .ref (M + 13), .ref (M + 14), .int 0, .ref (M + 15), .ref (M + 16), .ref (M + 17), .ref (M + 18), .ref (M + 19), .int 0, .ref (M + 20), .ref (M + 21), .ref (M + 22), .int 0, .int 0, .int 0, .int 0] := z22.put u22
  clear z22 u22 v22
  refine R_return dX10_init_196 rfl ?_
  -- X10_init: ('ret', 196)
  obtain ⟨f1, f2, f3, f4⟩ := y22
  refine ⟨rfl, ⟨(fun k => if k = 15 then -1 else nI 0, fun _ _ => 0), ⟨f2, f3⟩, ?_⟩, f1, f4⟩
  refine ⟨⟨by decide, rfl, fun i w hw => by simp at hw, fun r hr => ⟨Nat.zero_le _, rfl, fun i w hw => by simp at hw⟩⟩, ⟨rfl, by decide, fun i w hw => by simp at hw⟩, fun i hi => ⟨rfl, (by show 0 < 2; decide), fun z => (by cases z)⟩, ⟨rfl, by decide, fun i w hw => by simp at hw⟩, ⟨rfl, by decide, fun i w hw => by simp at hw⟩, rfl, rfl⟩
end MINIT
