/-! CONSTRUCTORS: written by gen_init.py -/
abbrev CellAt (h : Hp) (a : Nat) (e : va_E) : Prop := h.2 a = some e
theorem CellAt.ag {h h1 : Hp} {a : Nat} {e : va_E} (x : CellAt h a e) (o : Ag h h1 a (a + 1)) : CellAt h1 a e := (o a (Nat.le_refl _) (Nat.lt_succ_self _)).trans x
section INIT2
variable {E : EnvT} {h : Hp} {P : Nat}
theorem Rd_init (hs : h.1 = P + 1) (hr : h.2 P = some (.inr (1, [.null, .null, .null, .int 0, .int 0, .int 0, .int 0]))) : Spec E k_X1_init 4 129 1235 [.ref P] h (fun v h' => v = none ∧ RdAny E h' P ∧ h'.1 = P + 130 ∧ Low h h' P) := by
  refine Spec.of (by decide +kernel) (by simp [Value.category]) (Nat.le_of_ble_eq_true rfl) ?_
  show WP E k_X1_init 4 129 1235 0 [some (.ref P)] [] h _
  have p : CellAt h P (.inr (1, [.null, .null, .null, .int 0, .int 0, .int 0, .int 0])) := hr
  have t : Low h h P := fun q _ => rfl
  refine R_aload_n dX1_init_0 rfl ?_
  -- X1_init: ('call', 1, '.invokespecial', 3)
  refine R_objInit dX1_init_1 l_RX1_3 (Nat.le_of_ble_eq_true rfl) (by omega) ?_
  refine R_aload_n dX1_init_4 rfl ?_
  refine R_new_A (ci := 2) K_2 dX1_init_5 c_RX1_9 n_RX2 ini_RX2 b_2 (by omega : h.1 = P + 1) rfl rfl ?_
  -- X1_init: ('new', 8)
  intro h1 u1
  have e1 := u1.1
  replace p := p.ag (u1.ag (by omega))
  replace t : Low h h1 P := fun q hq => (u1.2.2 q (by omega)).trans (t q hq)
  refine R_dup dX1_init_8 rfl ?_
  -- X1_init: ('call', 9, '.invokespecial', 11)
  refine R_callI i_X2_init (Pack_init (P := P + 1) u1.1 u1.2.1) dX1_init_9 l_RX1_11 rfl rfl (Nat.le_of_ble_eq_true rfl) (by omega) rfl rfl (fun v h2 hq => ?_)
  obtain ⟨rfl, f1, e2, l2⟩ := hq
  replace p := p.ag (Low.ag l2 (by omega))
  replace t : Low h h2 P := fun q hq => (l2 q (by omega)).trans (t q hq)
  refine R_putF_A K_1 (f := 0) (by decide) dX1_init_12 f_RX1_12 rfl rfl rfl p (by rfl) (by rfl) (Nat.le_of_ble_eq_true rfl) ?_
  -- X1_init: ('put', 15)
  intro h3 u3
  have e3 := u3.1
  replace p : CellAt h3 P (.inr (1, [.ref (P + 1), .null, .null, .int 0, .int 0, .int 0, .int 0])) := u3.2.1
  replace f1 := f1.ag (u3.ag (by omega))
  replace t : Low h h3 P := fun q hq => (u3.2.2 q (by omega)).trans (t q hq)
  refine R_aload_n dX1_init_15 rfl ?_
  refine R_bipush (v := nI 86) dX1_init_16 (by decide) ?_
  refine R_newarray_int_A dX1_init_18 a_int (Nat.le_of_ble_eq_true rfl) (by omega : h3.1 = P + 127) rfl rfl ?_
  -- X1_init: ('new', 20)
  intro h4 u4
  have e4 := u4.1
  replace f1 := f1.ag (u4.ag (by omega))
  replace p := p.ag (u4.ag (by omega))
  replace t : Low h h4 P := fun q hq => (u4.2.2 q (by omega)).trans (t q hq)
  have f127 : CellAt h4 (P + 127) (.inl (E.2.2.1 0, 86, .inl (fun _ => 0))) := u4.2.1
  refine R_putF_A K_1 (f := 1) (by decide) dX1_init_20 f_RX1_18 rfl rfl rfl p (by rfl) (by rfl) (Nat.le_of_ble_eq_true rfl) ?_
  -- X1_init: ('put', 23)
  intro h5 u5
  have e5 := u5.1
  replace p : CellAt h5 P (.inr (1, [.ref (P + 1), .ref (P + 127), .null, .int 0, .int 0, .int 0, .int 0])) := u5.2.1
  replace f1 := f1.ag (u5.ag (by omega))
  replace f127 := f127.ag (u5.ag (by omega))
  replace t : Low h h5 P := fun q hq => (u5.2.2 q (by omega)).trans (t q hq)
  refine R_aload_n dX1_init_23 rfl ?_
  refine R_new_A (ci := 6) K_6 dX1_init_24 c_RX1_22 n_RX6 ini_RX6 b_6 (by omega : h5.1 = P + 128) rfl rfl ?_
  -- X1_init: ('new', 27)
  intro h6 u6
  have e6 := u6.1
  replace f1 := f1.ag (u6.ag (by omega))
  replace f127 := f127.ag (u6.ag (by omega))
  replace p := p.ag (u6.ag (by omega))
  replace t : Low h h6 P := fun q hq => (u6.2.2 q (by omega)).trans (t q hq)
  refine R_dup dX1_init_27 rfl ?_
  refine R_iconst (v := nI 0) dX1_init_28 (by decide) ?_
  -- X1_init: ('call', 29, '.invokespecial', 24)
  refine R_callI i_X6_init (Row_init (r := P + 128) (n := 0) (by omega) u6.1 u6.2.1) dX1_init_29 l_RX1_24 rfl rfl (Nat.le_of_ble_eq_true rfl) (by omega) rfl rfl (fun v h7 hq => ?_)
  obtain ⟨rfl, f128, e7, l7⟩ := hq
  replace f1 := f1.ag (Low.ag l7 (by omega))
  replace f127 := f127.ag (Low.ag l7 (by omega))
  replace p := p.ag (Low.ag l7 (by omega))
  replace t : Low h h7 P := fun q hq => (l7 q (by omega)).trans (t q hq)
  refine R_put_A K_1 (f := 2) (by decide) dX1_init_32 f_RX1_27 rfl p (by rfl) (by rfl) (Nat.le_of_ble_eq_true rfl) ?_
  -- X1_init: ('put', 35)
  intro h8 u8
  have e8 := u8.1
  replace p : CellAt h8 P (.inr (1, [.ref (P + 1), .ref (P + 127), .ref (P + 128), .int 0, .int 0, .int 0, .int 0])) := u8.2.1
  replace f1 := f1.ag (u8.ag (by omega))
  replace f127 := f127.ag (u8.ag (by omega))
  replace f128 := f128.ag (u8.ag (by omega))
  replace t : Low h h8 P := fun q hq => (u8.2.2 q (by omega)).trans (t q hq)
  refine R_aload_n dX1_init_35 rfl ?_
  refine R_iconst (v := nI 0) dX1_init_36 (by decide) ?_
  refine R_put_A K_1 (f := 3) (by decide) dX1_init_37 f_RX1_31 rfl p (by rfl) (by rfl) (Nat.le_of_ble_eq_true rfl) ?_
  -- X1_init: ('put', 40)
  intro h9 u9
  have e9 := u9.1
  replace p : CellAt h9 P (.inr (1, [.ref (P + 1), .ref (P + 127), .ref (P + 128), .int (nI 0), .int 0, .int 0, .int 0])) := u9.2.1
  replace f1 := f1.ag (u9.ag (by omega))
  replace f127 := f127.ag (u9.ag (by omega))
  replace f128 := f128.ag (u9.ag (by omega))
  replace t : Low h h9 P := fun q hq => (u9.2.2 q (by omega)).trans (t q hq)
  refine R_aload_n dX1_init_40 rfl ?_
  refine R_iconst (v := nI 0) dX1_init_41 (by decide) ?_
  refine R_put_A K_1 (f := 4) (by decide) dX1_init_42 f_RX1_35 rfl p (by rfl) (by rfl) (Nat.le_of_ble_eq_true rfl) ?_
  -- X1_init: ('put', 45)
  intro h10 u10
  have e10 := u10.1
  replace p : CellAt h10 P (.inr (1, [.ref (P + 1), .ref (P + 127), .ref (P + 128), .int (nI 0), .int (nI 0), .int 0, .int 0])) := u10.2.1
  replace f1 := f1.ag (u10.ag (by omega))
  replace f127 := f127.ag (u10.ag (by omega))
  replace f128 := f128.ag (u10.ag (by omega))
  replace t : Low h h10 P := fun q hq => (u10.2.2 q (by omega)).trans (t q hq)
  refine R_aload_n dX1_init_45 rfl ?_
  refine R_iconst (v := nI 0) dX1_init_46 (by decide) ?_
  refine R_put_A K_1 (f := 5) (by decide) dX1_init_47 f_RX1_38 rfl p (by rfl) (by rfl) (Nat.le_of_ble_eq_true rfl) ?_
  -- X1_init: ('put', 50)
  intro h11 u11
  have e11 := u11.1
  replace p : CellAt h11 P (.inr (1, [.ref (P + 1), .ref (P + 127), .ref (P + 128), .int (nI 0), .int (nI 0), .int (nI 0), .int 0])) := u11.2.1
  replace f1 := f1.ag (u11.ag (by omega))
  replace f127 := f127.ag (u11.ag (by omega))
  replace f128 := f128.ag (u11.ag (by omega))
  replace t : Low h h11 P := fun q hq => (u11.2.2 q (by omega)).trans (t q hq)
  refine R_aload_n dX1_init_50 rfl ?_
  refine R_iconst (v := (-1)) dX1_init_51 (by decide) ?_
  refine R_put_A K_1 (f := 6) (by decide) dX1_init_52 f_RX1_41 rfl p (by rfl) (by rfl) (Nat.le_of_ble_eq_true rfl) ?_
  -- X1_init: ('put', 55)
  intro h12 u12
  have e12 := u12.1
  replace p : CellAt h12 P (.inr (1, [.ref (P + 1), .ref (P + 127), .ref (P + 128), .int (nI 0), .int (nI 0), .int (nI 0), .int (-1)])) := u12.2.1
  replace f1 := f1.ag (u12.ag (by omega))
  replace f127 := f127.ag (u12.ag (by omega))
  replace f128 := f128.ag (u12.ag (by omega))
  replace t : Low h h12 P := fun q hq => (u12.2.2 q (by omega)).trans (t q hq)
  refine R_return dX1_init_55 rfl ?_
  -- X1_init: ('ret', 55)
  -- offsets: f1, f127, f128 end 130 slots 1235
  exact ⟨rfl, ⟨P + 128, 0, 0, 0, -1, fun _ => 0, [], fun _ => [], ⟨p, _, f127, fun _ _ => nI_0.symm⟩, f1⟩, by omega, t⟩
theorem Words_init (hs : h.1 = P + 1) (hr : h.2 P = some (.inr (8, [.null, .null, .null, .int 0, .int 0]))) : Spec E k_X8_init 3 4 234 [.ref P] h (fun v h' => v = none ∧ WordsAny E h' P ∧ h'.1 = P + 5 ∧ Low h h' P) := by
  refine Spec.of (by decide +kernel) (by simp [Value.category]) (Nat.le_of_ble_eq_true rfl) ?_
  show WP E k_X8_init 3 4 234 0 [some (.ref P)] [] h _
  have p : CellAt h P (.inr (8, [.null, .null, .null, .int 0, .int 0])) := hr
  have t : Low h h P := fun q _ => rfl
  refine R_aload_n dX8_init_0 rfl ?_
  -- X8_init: ('call', 1, '.invokespecial', 3)
  refine R_objInit dX8_init_1 l_RX8_3 (Nat.le_of_ble_eq_true rfl) (by omega) ?_
  refine R_aload_n dX8_init_4 rfl ?_
  refine R_bipush (v := nI 86) dX8_init_5 (by decide) ?_
  refine R_newarray_int_A dX8_init_7 a_int (Nat.le_of_ble_eq_true rfl) (by omega : h.1 = P + 1) rfl rfl ?_
  -- X8_init: ('new', 9)
  intro h1 u1
  have e1 := u1.1
  replace p := p.ag (u1.ag (by omega))
  replace t : Low h h1 P := fun q hq => (u1.2.2 q (by omega)).trans (t q hq)
  have f1 : CellAt h1 (P + 1) (.inl (E.2.2.1 0, 86, .inl (fun _ => 0))) := u1.2.1
  refine R_putF_A K_8 (f := 0) (by decide) dX8_init_9 f_RX8_9 rfl rfl rfl p (by rfl) (by rfl) (Nat.le_of_ble_eq_true rfl) ?_
  -- X8_init: ('put', 12)
  intro h2 u2
  have e2 := u2.1
  replace p : CellAt h2 P (.inr (8, [.ref (P + 1), .null, .null, .int 0, .int 0])) := u2.2.1
  replace f1 := f1.ag (u2.ag (by omega))
  replace t : Low h h2 P := fun q hq => (u2.2.2 q (by omega)).trans (t q hq)
  refine R_aload_n dX8_init_12 rfl ?_
  refine R_bipush (v := nI 86) dX8_init_13 (by decide) ?_
  refine R_newarray_int_A dX8_init_15 a_int (Nat.le_of_ble_eq_true rfl) (by omega : h2.1 = P + 2) rfl rfl ?_
  -- X8_init: ('new', 17)
  intro h3 u3
  have e3 := u3.1
  replace f1 := f1.ag (u3.ag (by omega))
  replace p := p.ag (u3.ag (by omega))
  replace t : Low h h3 P := fun q hq => (u3.2.2 q (by omega)).trans (t q hq)
  have f2 : CellAt h3 (P + 2) (.inl (E.2.2.1 0, 86, .inl (fun _ => 0))) := u3.2.1
  refine R_putF_A K_8 (f := 1) (by decide) dX8_init_17 f_RX8_15 rfl rfl rfl p (by rfl) (by rfl) (Nat.le_of_ble_eq_true rfl) ?_
  -- X8_init: ('put', 20)
  intro h4 u4
  have e4 := u4.1
  replace p : CellAt h4 P (.inr (8, [.ref (P + 1), .ref (P + 2), .null, .int 0, .int 0])) := u4.2.1
  replace f1 := f1.ag (u4.ag (by omega))
  replace f2 := f2.ag (u4.ag (by omega))
  replace t : Low h h4 P := fun q hq => (u4.2.2 q (by omega)).trans (t q hq)
  refine R_aload_n dX8_init_20 rfl ?_
  refine R_new_A (ci := 6) K_6 dX8_init_21 c_RX8_18 n_RX6 ini_RX6 b_6 (by omega : h4.1 = P + 3) rfl rfl ?_
  -- X8_init: ('new', 24)
  intro h5 u5
  have e5 := u5.1
  replace f1 := f1.ag (u5.ag (by omega))
  replace f2 := f2.ag (u5.ag (by omega))
  replace p := p.ag (u5.ag (by omega))
  replace t : Low h h5 P := fun q hq => (u5.2.2 q (by omega)).trans (t q hq)
  refine R_dup dX8_init_24 rfl ?_
  refine R_bipush (v := nI 60) dX8_init_25 (by decide) ?_
  -- X8_init: ('call', 27, '.invokespecial', 20)
  refine R_callI i_X6_init (Row_init (r := P + 3) (n := 60) (by omega) u5.1 u5.2.1) dX8_init_27 l_RX8_20 rfl rfl (Nat.le_of_ble_eq_true rfl) (by omega) rfl rfl (fun v h6 hq => ?_)
  obtain ⟨rfl, f3, e6, l6⟩ := hq
  replace f1 := f1.ag (Low.ag l6 (by omega))
  replace f2 := f2.ag (Low.ag l6 (by omega))
  replace p := p.ag (Low.ag l6 (by omega))
  replace t : Low h h6 P := fun q hq => (l6 q (by omega)).trans (t q hq)
  refine R_putF_A K_8 (f := 2) (by decide) dX8_init_30 f_RX8_23 rfl rfl rfl p (by rfl) (by rfl) (Nat.le_of_ble_eq_true rfl) ?_
  -- X8_init: ('put', 33)
  intro h7 u7
  have e7 := u7.1
  replace p : CellAt h7 P (.inr (8, [.ref (P + 1), .ref (P + 2), .ref (P + 3), .int 0, .int 0])) := u7.2.1
  replace f1 := f1.ag (u7.ag (by omega))
  replace f2 := f2.ag (u7.ag (by omega))
  replace f3 := f3.ag (u7.ag (by omega))
  replace t : Low h h7 P := fun q hq => (u7.2.2 q (by omega)).trans (t q hq)
  refine R_aload_n dX8_init_33 rfl ?_
  refine R_iconst (v := (-1)) dX8_init_34 (by decide) ?_
  refine R_put_A K_8 (f := 3) (by decide) dX8_init_35 f_RX8_27 rfl p (by rfl) (by rfl) (Nat.le_of_ble_eq_true rfl) ?_
  -- X8_init: ('put', 38)
  intro h8 u8
  have e8 := u8.1
  replace p : CellAt h8 P (.inr (8, [.ref (P + 1), .ref (P + 2), .ref (P + 3), .int (-1), .int 0])) := u8.2.1
  replace f1 := f1.ag (u8.ag (by omega))
  replace f2 := f2.ag (u8.ag (by omega))
  replace f3 := f3.ag (u8.ag (by omega))
  replace t : Low h h8 P := fun q hq => (u8.2.2 q (by omega)).trans (t q hq)
  refine R_aload_n dX8_init_38 rfl ?_
  refine R_iconst (v := nI 0) dX8_init_39 (by decide) ?_
  refine R_put_A K_8 (f := 4) (by decide) dX8_init_40 f_RX8_31 rfl p (by rfl) (by rfl) (Nat.le_of_ble_eq_true rfl) ?_
  -- X8_init: ('put', 43)
  intro h9 u9
  have e9 := u9.1
  replace p : CellAt h9 P (.inr (8, [.ref (P + 1), .ref (P + 2), .ref (P + 3), .int (-1), .int (nI 0)])) := u9.2.1
  replace f1 := f1.ag (u9.ag (by omega))
  replace f2 := f2.ag (u9.ag (by omega))
  replace f3 := f3.ag (u9.ag (by omega))
  replace t : Low h h9 P := fun q hq => (u9.2.2 q (by omega)).trans (t q hq)
  refine R_return dX8_init_43 rfl ?_
  -- X8_init: ('ret', 43)
  -- offsets: f1, f2, f3 end 5 slots 234
  exact ⟨rfl, ⟨-1, nI 0, _, _, [], p, f1, f2, f3⟩, by omega, t⟩
theorem Read_init (hs : h.1 = P + 1) (hr : h.2 P = some (.inr (5, [.null, .null, .null, .null, .null, .int 0, .int 0]))) : Spec E k_X5_init 3 9 1209 [.ref P] h (fun v h' => v = none ∧ ReadAt E h' P [] [] [] [] (nI 0) (-1) ∧ h'.1 = P + 10 ∧ Low h h' P) := by
  refine Spec.of (by decide +kernel) (by simp [Value.category]) (Nat.le_of_ble_eq_true rfl) ?_
  show WP E k_X5_init 3 9 1209 0 [some (.ref P)] [] h _
  have p : CellAt h P (.inr (5, [.null, .null, .null, .null, .null, .int 0, .int 0])) := hr
  have t : Low h h P := fun q _ => rfl
  refine R_aload_n dX5_init_0 rfl ?_
  -- X5_init: ('call', 1, '.invokespecial', 3)
  refine R_objInit dX5_init_1 l_RX5_3 (Nat.le_of_ble_eq_true rfl) (by omega) ?_
  refine R_aload_n dX5_init_4 rfl ?_
  refine R_new_A (ci := 6) K_6 dX5_init_5 c_RX5_9 n_RX6 ini_RX6 b_6 (by omega : h.1 = P + 1) rfl rfl ?_
  -- X5_init: ('new', 8)
  intro h1 u1
  have e1 := u1.1
  replace p := p.ag (u1.ag (by omega))
  replace t : Low h h1 P := fun q hq => (u1.2.2 q (by omega)).trans (t q hq)
  refine R_dup dX5_init_8 rfl ?_
  refine R_sipush (v := nI 240) dX5_init_9 (by decide) ?_
  -- X5_init: ('call', 12, '.invokespecial', 11)
  refine R_callI i_X6_init (Row_init (r := P + 1) (n := 240) (by omega) u1.1 u1.2.1) dX5_init_12 l_RX5_11 rfl rfl (Nat.le_of_ble_eq_true rfl) (by omega) rfl rfl (fun v h2 hq => ?_)
  obtain ⟨rfl, f1, e2, l2⟩ := hq
  replace p := p.ag (Low.ag l2 (by omega))
  replace t : Low h h2 P := fun q hq => (l2 q (by omega)).trans (t q hq)
  refine R_putF_A K_5 (f := 0) (by decide) dX5_init_15 f_RX5_14 rfl rfl rfl p (by rfl) (by rfl) (Nat.le_of_ble_eq_true rfl) ?_
  -- X5_init: ('put', 18)
  intro h3 u3
  have e3 := u3.1
  replace p : CellAt h3 P (.inr (5, [.ref (P + 1), .null, .null, .null, .null, .int 0, .int 0])) := u3.2.1
  replace f1 := f1.ag (u3.ag (by omega))
  replace t : Low h h3 P := fun q hq => (u3.2.2 q (by omega)).trans (t q hq)
  refine R_aload_n dX5_init_18 rfl ?_
  refine R_new_A (ci := 6) K_6 dX5_init_19 c_RX5_9 n_RX6 ini_RX6 b_6 (by omega : h3.1 = P + 3) rfl rfl ?_
  -- X5_init: ('new', 22)
  intro h4 u4
  have e4 := u4.1
  replace f1 := f1.ag (u4.ag (by omega))
  replace p := p.ag (u4.ag (by omega))
  replace t : Low h h4 P := fun q hq => (u4.2.2 q (by omega)).trans (t q hq)
  refine R_dup dX5_init_22 rfl ?_
  refine R_sipush (v := nI 240) dX5_init_23 (by decide) ?_
  -- X5_init: ('call', 26, '.invokespecial', 11)
  refine R_callI i_X6_init (Row_init (r := P + 3) (n := 240) (by omega) u4.1 u4.2.1) dX5_init_26 l_RX5_11 rfl rfl (Nat.le_of_ble_eq_true rfl) (by omega) rfl rfl (fun v h5 hq => ?_)
  obtain ⟨rfl, f3, e5, l5⟩ := hq
  replace f1 := f1.ag (Low.ag l5 (by omega))
  replace p := p.ag (Low.ag l5 (by omega))
  replace t : Low h h5 P := fun q hq => (l5 q (by omega)).trans (t q hq)
  refine R_putF_A K_5 (f := 1) (by decide) dX5_init_29 f_RX5_20 rfl rfl rfl p (by rfl) (by rfl) (Nat.le_of_ble_eq_true rfl) ?_
  -- X5_init: ('put', 32)
  intro h6 u6
  have e6 := u6.1
  replace p : CellAt h6 P (.inr (5, [.ref (P + 1), .ref (P + 3), .null, .null, .null, .int 0, .int 0])) := u6.2.1
  replace f1 := f1.ag (u6.ag (by omega))
  replace f3 := f3.ag (u6.ag (by omega))
  replace t : Low h h6 P := fun q hq => (u6.2.2 q (by omega)).trans (t q hq)
  refine R_aload_n dX5_init_32 rfl ?_
  refine R_new_A (ci := 6) K_6 dX5_init_33 c_RX5_9 n_RX6 ini_RX6 b_6 (by omega : h6.1 = P + 5) rfl rfl ?_
  -- X5_init: ('new', 36)
  intro h7 u7
  have e7 := u7.1
  replace f1 := f1.ag (u7.ag (by omega))
  replace f3 := f3.ag (u7.ag (by omega))
  replace p := p.ag (u7.ag (by omega))
  replace t : Low h h7 P := fun q hq => (u7.2.2 q (by omega)).trans (t q hq)
  refine R_dup dX5_init_36 rfl ?_
  refine R_sipush (v := nI 240) dX5_init_37 (by decide) ?_
  -- X5_init: ('call', 40, '.invokespecial', 11)
  refine R_callI i_X6_init (Row_init (r := P + 5) (n := 240) (by omega) u7.1 u7.2.1) dX5_init_40 l_RX5_11 rfl rfl (Nat.le_of_ble_eq_true rfl) (by omega) rfl rfl (fun v h8 hq => ?_)
  obtain ⟨rfl, f5, e8, l8⟩ := hq
  replace f1 := f1.ag (Low.ag l8 (by omega))
  replace f3 := f3.ag (Low.ag l8 (by omega))
  replace p := p.ag (Low.ag l8 (by omega))
  replace t : Low h h8 P := fun q hq => (l8 q (by omega)).trans (t q hq)
  refine R_putF_A K_5 (f := 2) (by decide) dX5_init_43 f_RX5_23 rfl rfl rfl p (by rfl) (by rfl) (Nat.le_of_ble_eq_true rfl) ?_
  -- X5_init: ('put', 46)
  intro h9 u9
  have e9 := u9.1
  replace p : CellAt h9 P (.inr (5, [.ref (P + 1), .ref (P + 3), .ref (P + 5), .null, .null, .int 0, .int 0])) := u9.2.1
  replace f1 := f1.ag (u9.ag (by omega))
  replace f3 := f3.ag (u9.ag (by omega))
  replace f5 := f5.ag (u9.ag (by omega))
  replace t : Low h h9 P := fun q hq => (u9.2.2 q (by omega)).trans (t q hq)
  refine R_aload_n dX5_init_46 rfl ?_
  refine R_new_A (ci := 6) K_6 dX5_init_47 c_RX5_9 n_RX6 ini_RX6 b_6 (by omega : h9.1 = P + 7) rfl rfl ?_
  -- X5_init: ('new', 50)
  intro h10 u10
  have e10 := u10.1
  replace f1 := f1.ag (u10.ag (by omega))
  replace f3 := f3.ag (u10.ag (by omega))
  replace f5 := f5.ag (u10.ag (by omega))
  replace p := p.ag (u10.ag (by omega))
  replace t : Low h h10 P := fun q hq => (u10.2.2 q (by omega)).trans (t q hq)
  refine R_dup dX5_init_50 rfl ?_
  refine R_sipush (v := nI 240) dX5_init_51 (by decide) ?_
  -- X5_init: ('call', 54, '.invokespecial', 11)
  refine R_callI i_X6_init (Row_init (r := P + 7) (n := 240) (by omega) u10.1 u10.2.1) dX5_init_54 l_RX5_11 rfl rfl (Nat.le_of_ble_eq_true rfl) (by omega) rfl rfl (fun v h11 hq => ?_)
  obtain ⟨rfl, f7, e11, l11⟩ := hq
  replace f1 := f1.ag (Low.ag l11 (by omega))
  replace f3 := f3.ag (Low.ag l11 (by omega))
  replace f5 := f5.ag (Low.ag l11 (by omega))
  replace p := p.ag (Low.ag l11 (by omega))
  replace t : Low h h11 P := fun q hq => (l11 q (by omega)).trans (t q hq)
  refine R_putF_A K_5 (f := 3) (by decide) dX5_init_57 f_RX5_26 rfl rfl rfl p (by rfl) (by rfl) (Nat.le_of_ble_eq_true rfl) ?_
  -- X5_init: ('put', 60)
  intro h12 u12
  have e12 := u12.1
  replace p : CellAt h12 P (.inr (5, [.ref (P + 1), .ref (P + 3), .ref (P + 5), .ref (P + 7), .null, .int 0, .int 0])) := u12.2.1
  replace f1 := f1.ag (u12.ag (by omega))
  replace f3 := f3.ag (u12.ag (by omega))
  replace f5 := f5.ag (u12.ag (by omega))
  replace f7 := f7.ag (u12.ag (by omega))
  replace t : Low h h12 P := fun q hq => (u12.2.2 q (by omega)).trans (t q hq)
  refine R_aload_n dX5_init_60 rfl ?_
  refine R_sipush (v := nI 241) dX5_init_61 (by decide) ?_
  refine R_newarray_int_A dX5_init_64 a_int (Nat.le_of_ble_eq_true rfl) (by omega : h12.1 = P + 9) rfl rfl ?_
  -- X5_init: ('new', 66)
  intro h13 u13
  have e13 := u13.1
  replace f1 := f1.ag (u13.ag (by omega))
  replace f3 := f3.ag (u13.ag (by omega))
  replace f5 := f5.ag (u13.ag (by omega))
  replace f7 := f7.ag (u13.ag (by omega))
  replace p := p.ag (u13.ag (by omega))
  replace t : Low h h13 P := fun q hq => (u13.2.2 q (by omega)).trans (t q hq)
  have f9 : CellAt h13 (P + 9) (.inl (E.2.2.1 0, 241, .inl (fun _ => 0))) := u13.2.1
  refine R_putF_A K_5 (f := 4) (by decide) dX5_init_66 f_RX5_29 rfl rfl rfl p (by rfl) (by rfl) (Nat.le_of_ble_eq_true rfl) ?_
  -- X5_init: ('put', 69)
  intro h14 u14
  have e14 := u14.1
  replace p : CellAt h14 P (.inr (5, [.ref (P + 1), .ref (P + 3), .ref (P + 5), .ref (P + 7), .ref (P + 9), .int 0, .int 0])) := u14.2.1
  replace f1 := f1.ag (u14.ag (by omega))
  replace f3 := f3.ag (u14.ag (by omega))
  replace f5 := f5.ag (u14.ag (by omega))
  replace f7 := f7.ag (u14.ag (by omega))
  replace f9 := f9.ag (u14.ag (by omega))
  replace t : Low h h14 P := fun q hq => (u14.2.2 q (by omega)).trans (t q hq)
  refine R_aload_n dX5_init_69 rfl ?_
  refine R_iconst (v := nI 0) dX5_init_70 (by decide) ?_
  refine R_put_A K_5 (f := 5) (by decide) dX5_init_71 f_RX5_33 rfl p (by rfl) (by rfl) (Nat.le_of_ble_eq_true rfl) ?_
  -- X5_init: ('put', 74)
  intro h15 u15
  have e15 := u15.1
  replace p : CellAt h15 P (.inr (5, [.ref (P + 1), .ref (P + 3), .ref (P + 5), .ref (P + 7), .ref (P + 9), .int (nI 0), .int 0])) := u15.2.1
  replace f1 := f1.ag (u15.ag (by omega))
  replace f3 := f3.ag (u15.ag (by omega))
  replace f5 := f5.ag (u15.ag (by omega))
  replace f7 := f7.ag (u15.ag (by omega))
  replace f9 := f9.ag (u15.ag (by omega))
  replace t : Low h h15 P := fun q hq => (u15.2.2 q (by omega)).trans (t q hq)
  refine R_aload_n dX5_init_74 rfl ?_
  refine R_iconst (v := (-1)) dX5_init_75 (by decide) ?_
  refine R_put_A K_5 (f := 6) (by decide) dX5_init_76 f_RX5_37 rfl p (by rfl) (by rfl) (Nat.le_of_ble_eq_true rfl) ?_
  -- X5_init: ('put', 79)
  intro h16 u16
  have e16 := u16.1
  replace p : CellAt h16 P (.inr (5, [.ref (P + 1), .ref (P + 3), .ref (P + 5), .ref (P + 7), .ref (P + 9), .int (nI 0), .int (-1)])) := u16.2.1
  replace f1 := f1.ag (u16.ag (by omega))
  replace f3 := f3.ag (u16.ag (by omega))
  replace f5 := f5.ag (u16.ag (by omega))
  replace f7 := f7.ag (u16.ag (by omega))
  replace f9 := f9.ag (u16.ag (by omega))
  replace t : Low h h16 P := fun q hq => (u16.2.2 q (by omega)).trans (t q hq)
  refine R_return dX5_init_79 rfl ?_
  -- X5_init: ('ret', 79)
  -- offsets: f1, f3, f5, f7, f9 end 10 slots 1209
  exact ⟨rfl, ⟨p, f1, f3, f5, f7, _, f9⟩, by omega, t⟩
theorem PT_init (hs : h.1 = P + 1) (hr : h.2 P = some (.inr (3, [.null, .null]))) : Spec E k_X3_init 3 3 7638 [.ref P] h (fun v h' => v = none ∧ PTAny E h' P ∧ h'.1 = P + 4 ∧ Low h h' P) := by
  refine Spec.of (by decide +kernel) (by simp [Value.category]) (Nat.le_of_ble_eq_true rfl) ?_
  show WP E k_X3_init 3 3 7638 0 [some (.ref P)] [] h _
  have p : CellAt h P (.inr (3, [.null, .null])) := hr
  have t : Low h h P := fun q _ => rfl
  refine R_aload_n dX3_init_0 rfl ?_
  -- X3_init: ('call', 1, '.invokespecial', 3)
  refine R_objInit dX3_init_1 l_RX3_3 (Nat.le_of_ble_eq_true rfl) (by omega) ?_
  refine R_aload_n dX3_init_4 rfl ?_
  refine R_sipush (v := nI 7396) dX3_init_5 (by decide) ?_
  refine R_newarray_int_A dX3_init_8 a_int (Nat.le_of_ble_eq_true rfl) (by omega : h.1 = P + 1) rfl rfl ?_
  -- X3_init: ('new', 10)
  intro h1 u1
  have e1 := u1.1
  replace p := p.ag (u1.ag (by omega))
  replace t : Low h h1 P := fun q hq => (u1.2.2 q (by omega)).trans (t q hq)
  have f1 : CellAt h1 (P + 1) (.inl (E.2.2.1 0, 7396, .inl (fun _ => 0))) := u1.2.1
  refine R_putF_A K_3 (f := 0) (by decide) dX3_init_10 f_RX3_9 rfl rfl rfl p (by rfl) (by rfl) (Nat.le_of_ble_eq_true rfl) ?_
  -- X3_init: ('put', 13)
  intro h2 u2
  have e2 := u2.1
  replace p : CellAt h2 P (.inr (3, [.ref (P + 1), .null])) := u2.2.1
  replace f1 := f1.ag (u2.ag (by omega))
  replace t : Low h h2 P := fun q hq => (u2.2.2 q (by omega)).trans (t q hq)
  refine R_aload_n dX3_init_13 rfl ?_
  refine R_new_A (ci := 6) K_6 dX3_init_14 c_RX3_15 n_RX6 ini_RX6 b_6 (by omega : h2.1 = P + 2) rfl rfl ?_
  -- X3_init: ('new', 17)
  intro h3 u3
  have e3 := u3.1
  replace f1 := f1.ag (u3.ag (by omega))
  replace p := p.ag (u3.ag (by omega))
  replace t : Low h h3 P := fun q hq => (u3.2.2 q (by omega)).trans (t q hq)
  refine R_dup dX3_init_17 rfl ?_
  refine R_sipush (v := nI 240) dX3_init_18 (by decide) ?_
  -- X3_init: ('call', 21, '.invokespecial', 17)
  refine R_callI i_X6_init (Row_init (r := P + 2) (n := 240) (by omega) u3.1 u3.2.1) dX3_init_21 l_RX3_17 rfl rfl (Nat.le_of_ble_eq_true rfl) (by omega) rfl rfl (fun v h4 hq => ?_)
  obtain ⟨rfl, f2, e4, l4⟩ := hq
  replace f1 := f1.ag (Low.ag l4 (by omega))
  replace p := p.ag (Low.ag l4 (by omega))
  replace t : Low h h4 P := fun q hq => (l4 q (by omega)).trans (t q hq)
  refine R_putF_A K_3 (f := 1) (by decide) dX3_init_24 f_RX3_20 rfl rfl rfl p (by rfl) (by rfl) (Nat.le_of_ble_eq_true rfl) ?_
  -- X3_init: ('put', 27)
  intro h5 u5
  have e5 := u5.1
  replace p : CellAt h5 P (.inr (3, [.ref (P + 1), .ref (P + 2)])) := u5.2.1
  replace f1 := f1.ag (u5.ag (by omega))
  replace f2 := f2.ag (u5.ag (by omega))
  replace t : Low h h5 P := fun q hq => (u5.2.2 q (by omega)).trans (t q hq)
  refine R_return dX3_init_27 rfl ?_
  -- X3_init: ('ret', 27)
  -- offsets: f1, f2 end 4 slots 7638
  exact ⟨rfl, ⟨fun _ => 0, [], ⟨p, ⟨_, f1, fun _ _ => nI_0.symm⟩, f2⟩, fun _ _ => Or.inl rfl, fun _ h => by simp at h⟩, by omega, t⟩
theorem Sr_init (hs : h.1 = P + 1) (hr : h.2 P = some (.inr (7, [.null, .null, .null, .null]))) : Spec E k_X7_init 4 11 22918 [.ref P] h (fun v h' => v = none ∧ SrAny E h' P ∧ h'.1 = P + 12 ∧ Low h h' P) := by
  refine Spec.of (by decide +kernel) (by simp [Value.category]) (Nat.le_of_ble_eq_true rfl) ?_
  show WP E k_X7_init 4 11 22918 0 [some (.ref P)] [] h _
  have p : CellAt h P (.inr (7, [.null, .null, .null, .null])) := hr
  have t : Low h h P := fun q _ => rfl
  refine R_aload_n dX7_init_0 rfl ?_
  -- X7_init: ('call', 1, '.invokespecial', 3)
  refine R_objInit dX7_init_1 l_RX7_3 (Nat.le_of_ble_eq_true rfl) (by omega) ?_
  refine R_aload_n dX7_init_4 rfl ?_
  refine R_new_A (ci := 3) K_3 dX7_init_5 c_RX7_9 n_RX3 ini_RX3 b_3 (by omega : h.1 = P + 1) rfl rfl ?_
  -- X7_init: ('new', 8)
  intro h1 u1
  have e1 := u1.1
  replace p := p.ag (u1.ag (by omega))
  replace t : Low h h1 P := fun q hq => (u1.2.2 q (by omega)).trans (t q hq)
  refine R_dup dX7_init_8 rfl ?_
  -- X7_init: ('call', 9, '.invokespecial', 11)
  refine R_callIN i_X3_init (PT_init (P := P + 1) u1.1 u1.2.1) dX7_init_9 l_RX7_11 rfl rfl (Nat.le_of_ble_eq_true rfl) (by omega) rfl rfl (fun v h2 hq => ?_)
  obtain ⟨rfl, f1, e2, l2⟩ := hq
  replace p := p.ag (Low.ag l2 (by omega))
  replace t : Low h h2 P := fun q hq => (l2 q (by omega)).trans (t q hq)
  refine R_putF_A K_7 (f := 0) (by decide) dX7_init_12 f_RX7_12 rfl rfl rfl p (by rfl) (by rfl) (Nat.le_of_ble_eq_true rfl) ?_
  -- X7_init: ('put', 15)
  intro h3 u3
  have e3 := u3.1
  replace p : CellAt h3 P (.inr (7, [.ref (P + 1), .null, .null, .null])) := u3.2.1
  replace f1 := f1.ag (u3.ag (by omega))
  replace t : Low h h3 P := fun q hq => (u3.2.2 q (by omega)).trans (t q hq)
  refine R_aload_n dX7_init_15 rfl ?_
  refine R_new_A (ci := 3) K_3 dX7_init_16 c_RX7_9 n_RX3 ini_RX3 b_3 (by omega : h3.1 = P + 5) rfl rfl ?_
  -- X7_init: ('new', 19)
  intro h4 u4
  have e4 := u4.1
  replace f1 := f1.ag (u4.ag (by omega))
  replace p := p.ag (u4.ag (by omega))
  replace t : Low h h4 P := fun q hq => (u4.2.2 q (by omega)).trans (t q hq)
  refine R_dup dX7_init_19 rfl ?_
  -- X7_init: ('call', 20, '.invokespecial', 11)
  refine R_callIN i_X3_init (PT_init (P := P + 5) u4.1 u4.2.1) dX7_init_20 l_RX7_11 rfl rfl (Nat.le_of_ble_eq_true rfl) (by omega) rfl rfl (fun v h5 hq => ?_)
  obtain ⟨rfl, f5, e5, l5⟩ := hq
  replace f1 := f1.ag (Low.ag l5 (by omega))
  replace p := p.ag (Low.ag l5 (by omega))
  replace t : Low h h5 P := fun q hq => (l5 q (by omega)).trans (t q hq)
  refine R_putF_A K_7 (f := 1) (by decide) dX7_init_23 f_RX7_18 rfl rfl rfl p (by rfl) (by rfl) (Nat.le_of_ble_eq_true rfl) ?_
  -- X7_init: ('put', 26)
  intro h6 u6
  have e6 := u6.1
  replace p : CellAt h6 P (.inr (7, [.ref (P + 1), .ref (P + 5), .null, .null])) := u6.2.1
  replace f1 := f1.ag (u6.ag (by omega))
  replace f5 := f5.ag (u6.ag (by omega))
  replace t : Low h h6 P := fun q hq => (u6.2.2 q (by omega)).trans (t q hq)
  refine R_aload_n dX7_init_26 rfl ?_
  refine R_sipush (v := nI 7396) dX7_init_27 (by decide) ?_
  refine R_newarray_boolean_A dX7_init_30 a_boolean (Nat.le_of_ble_eq_true rfl) (by omega : h6.1 = P + 9) rfl rfl ?_
  -- X7_init: ('new', 32)
  intro h7 u7
  have e7 := u7.1
  replace f1 := f1.ag (u7.ag (by omega))
  replace f5 := f5.ag (u7.ag (by omega))
  replace p := p.ag (u7.ag (by omega))
  replace t : Low h h7 P := fun q hq => (u7.2.2 q (by omega)).trans (t q hq)
  have f9 : CellAt h7 (P + 9) (.inl (E.2.2.1 1, 7396, .inl (fun _ => 0))) := u7.2.1
  refine R_putF_A K_7 (f := 2) (by decide) dX7_init_32 f_RX7_21 rfl rfl rfl p (by rfl) (by rfl) (Nat.le_of_ble_eq_true rfl) ?_
  -- X7_init: ('put', 35)
  intro h8 u8
  have e8 := u8.1
  replace p : CellAt h8 P (.inr (7, [.ref (P + 1), .ref (P + 5), .ref (P + 9), .null])) := u8.2.1
  replace f1 := f1.ag (u8.ag (by omega))
  replace f5 := f5.ag (u8.ag (by omega))
  replace f9 := f9.ag (u8.ag (by omega))
  replace t : Low h h8 P := fun q hq => (u8.2.2 q (by omega)).trans (t q hq)
  refine R_aload_n dX7_init_35 rfl ?_
  refine R_new_A (ci := 6) K_6 dX7_init_36 c_RX7_25 n_RX6 ini_RX6 b_6 (by omega : h8.1 = P + 10) rfl rfl ?_
  -- X7_init: ('new', 39)
  intro h9 u9
  have e9 := u9.1
  replace f1 := f1.ag (u9.ag (by omega))
  replace f5 := f5.ag (u9.ag (by omega))
  replace f9 := f9.ag (u9.ag (by omega))
  replace p := p.ag (u9.ag (by omega))
  replace t : Low h h9 P := fun q hq => (u9.2.2 q (by omega)).trans (t q hq)
  refine R_dup dX7_init_39 rfl ?_
  refine R_sipush (v := nI 240) dX7_init_40 (by decide) ?_
  -- X7_init: ('call', 43, '.invokespecial', 27)
  refine R_callI i_X6_init (Row_init (r := P + 10) (n := 240) (by omega) u9.1 u9.2.1) dX7_init_43 l_RX7_27 rfl rfl (Nat.le_of_ble_eq_true rfl) (by omega) rfl rfl (fun v h10 hq => ?_)
  obtain ⟨rfl, f10, e10, l10⟩ := hq
  replace f1 := f1.ag (Low.ag l10 (by omega))
  replace f5 := f5.ag (Low.ag l10 (by omega))
  replace f9 := f9.ag (Low.ag l10 (by omega))
  replace p := p.ag (Low.ag l10 (by omega))
  replace t : Low h h10 P := fun q hq => (l10 q (by omega)).trans (t q hq)
  refine R_putF_A K_7 (f := 3) (by decide) dX7_init_46 f_RX7_30 rfl rfl rfl p (by rfl) (by rfl) (Nat.le_of_ble_eq_true rfl) ?_
  -- X7_init: ('put', 49)
  intro h11 u11
  have e11 := u11.1
  replace p : CellAt h11 P (.inr (7, [.ref (P + 1), .ref (P + 5), .ref (P + 9), .ref (P + 10)])) := u11.2.1
  replace f1 := f1.ag (u11.ag (by omega))
  replace f5 := f5.ag (u11.ag (by omega))
  replace f9 := f9.ag (u11.ag (by omega))
  replace f10 := f10.ag (u11.ag (by omega))
  replace t : Low h h11 P := fun q hq => (u11.2.2 q (by omega)).trans (t q hq)
  refine R_return dX7_init_49 rfl ?_
  -- X7_init: ('ret', 49)
  -- offsets: f1, f5, f9, f10 end 12 slots 22918
  exact ⟨rfl, ⟨⟨p, _, f9, fun _ _ => nI_0.symm⟩, f1, f5, [], f10⟩, by omega, t⟩
theorem Cod_init (hs : h.1 = P + 1) (hr : h.2 P = some (.inr (0, [.null, .null, .null, .null, .null, .null]))) : Spec E k_X0_init 3 7 518 [.ref P] h (fun v h' => v = none ∧ CodAt E h' P (fun _ => 0) (fun _ => 0) (fun _ => 0) (fun _ => 0) (fun _ => 0) [] ∧ h'.1 = P + 8 ∧ Low h h' P) := by
  refine Spec.of (by decide +kernel) (by simp [Value.category]) (Nat.le_of_ble_eq_true rfl) ?_
  show WP E k_X0_init 3 7 518 0 [some (.ref P)] [] h _
  have p : CellAt h P (.inr (0, [.null, .null, .null, .null, .null, .null])) := hr
  have t : Low h h P := fun q _ => rfl
  refine R_aload_n dX0_init_0 rfl ?_
  -- X0_init: ('call', 1, '.invokespecial', 3)
  refine R_objInit dX0_init_1 l_RX0_3 (Nat.le_of_ble_eq_true rfl) (by omega) ?_
  refine R_aload_n dX0_init_4 rfl ?_
  refine R_bipush (v := nI 86) dX0_init_5 (by decide) ?_
  refine R_newarray_int_A dX0_init_7 a_int (Nat.le_of_ble_eq_true rfl) (by omega : h.1 = P + 1) rfl rfl ?_
  -- X0_init: ('new', 9)
  intro h1 u1
  have e1 := u1.1
  replace p := p.ag (u1.ag (by omega))
  replace t : Low h h1 P := fun q hq => (u1.2.2 q (by omega)).trans (t q hq)
  have f1 : CellAt h1 (P + 1) (.inl (E.2.2.1 0, 86, .inl (fun _ => 0))) := u1.2.1
  refine R_putF_A K_0 (f := 0) (by decide) dX0_init_9 f_RX0_9 rfl rfl rfl p (by rfl) (by rfl) (Nat.le_of_ble_eq_true rfl) ?_
  -- X0_init: ('put', 12)
  intro h2 u2
  have e2 := u2.1
  replace p : CellAt h2 P (.inr (0, [.ref (P + 1), .null, .null, .null, .null, .null])) := u2.2.1
  replace f1 := f1.ag (u2.ag (by omega))
  replace t : Low h h2 P := fun q hq => (u2.2.2 q (by omega)).trans (t q hq)
  refine R_aload_n dX0_init_12 rfl ?_
  refine R_bipush (v := nI 86) dX0_init_13 (by decide) ?_
  refine R_newarray_int_A dX0_init_15 a_int (Nat.le_of_ble_eq_true rfl) (by omega : h2.1 = P + 2) rfl rfl ?_
  -- X0_init: ('new', 17)
  intro h3 u3
  have e3 := u3.1
  replace f1 := f1.ag (u3.ag (by omega))
  replace p := p.ag (u3.ag (by omega))
  replace t : Low h h3 P := fun q hq => (u3.2.2 q (by omega)).trans (t q hq)
  have f2 : CellAt h3 (P + 2) (.inl (E.2.2.1 0, 86, .inl (fun _ => 0))) := u3.2.1
  refine R_putF_A K_0 (f := 1) (by decide) dX0_init_17 f_RX0_15 rfl rfl rfl p (by rfl) (by rfl) (Nat.le_of_ble_eq_true rfl) ?_
  -- X0_init: ('put', 20)
  intro h4 u4
  have e4 := u4.1
  replace p : CellAt h4 P (.inr (0, [.ref (P + 1), .ref (P + 2), .null, .null, .null, .null])) := u4.2.1
  replace f1 := f1.ag (u4.ag (by omega))
  replace f2 := f2.ag (u4.ag (by omega))
  replace t : Low h h4 P := fun q hq => (u4.2.2 q (by omega)).trans (t q hq)
  refine R_aload_n dX0_init_20 rfl ?_
  refine R_bipush (v := nI 86) dX0_init_21 (by decide) ?_
  refine R_newarray_int_A dX0_init_23 a_int (Nat.le_of_ble_eq_true rfl) (by omega : h4.1 = P + 3) rfl rfl ?_
  -- X0_init: ('new', 25)
  intro h5 u5
  have e5 := u5.1
  replace f1 := f1.ag (u5.ag (by omega))
  replace f2 := f2.ag (u5.ag (by omega))
  replace p := p.ag (u5.ag (by omega))
  replace t : Low h h5 P := fun q hq => (u5.2.2 q (by omega)).trans (t q hq)
  have f3 : CellAt h5 (P + 3) (.inl (E.2.2.1 0, 86, .inl (fun _ => 0))) := u5.2.1
  refine R_putF_A K_0 (f := 2) (by decide) dX0_init_25 f_RX0_18 rfl rfl rfl p (by rfl) (by rfl) (Nat.le_of_ble_eq_true rfl) ?_
  -- X0_init: ('put', 28)
  intro h6 u6
  have e6 := u6.1
  replace p : CellAt h6 P (.inr (0, [.ref (P + 1), .ref (P + 2), .ref (P + 3), .null, .null, .null])) := u6.2.1
  replace f1 := f1.ag (u6.ag (by omega))
  replace f2 := f2.ag (u6.ag (by omega))
  replace f3 := f3.ag (u6.ag (by omega))
  replace t : Low h h6 P := fun q hq => (u6.2.2 q (by omega)).trans (t q hq)
  refine R_aload_n dX0_init_28 rfl ?_
  refine R_bipush (v := nI 86) dX0_init_29 (by decide) ?_
  refine R_newarray_int_A dX0_init_31 a_int (Nat.le_of_ble_eq_true rfl) (by omega : h6.1 = P + 4) rfl rfl ?_
  -- X0_init: ('new', 33)
  intro h7 u7
  have e7 := u7.1
  replace f1 := f1.ag (u7.ag (by omega))
  replace f2 := f2.ag (u7.ag (by omega))
  replace f3 := f3.ag (u7.ag (by omega))
  replace p := p.ag (u7.ag (by omega))
  replace t : Low h h7 P := fun q hq => (u7.2.2 q (by omega)).trans (t q hq)
  have f4 : CellAt h7 (P + 4) (.inl (E.2.2.1 0, 86, .inl (fun _ => 0))) := u7.2.1
  refine R_putF_A K_0 (f := 3) (by decide) dX0_init_33 f_RX0_21 rfl rfl rfl p (by rfl) (by rfl) (Nat.le_of_ble_eq_true rfl) ?_
  -- X0_init: ('put', 36)
  intro h8 u8
  have e8 := u8.1
  replace p : CellAt h8 P (.inr (0, [.ref (P + 1), .ref (P + 2), .ref (P + 3), .ref (P + 4), .null, .null])) := u8.2.1
  replace f1 := f1.ag (u8.ag (by omega))
  replace f2 := f2.ag (u8.ag (by omega))
  replace f3 := f3.ag (u8.ag (by omega))
  replace f4 := f4.ag (u8.ag (by omega))
  replace t : Low h h8 P := fun q hq => (u8.2.2 q (by omega)).trans (t q hq)
  refine R_aload_n dX0_init_36 rfl ?_
  refine R_bipush (v := nI 86) dX0_init_37 (by decide) ?_
  refine R_newarray_int_A dX0_init_39 a_int (Nat.le_of_ble_eq_true rfl) (by omega : h8.1 = P + 5) rfl rfl ?_
  -- X0_init: ('new', 41)
  intro h9 u9
  have e9 := u9.1
  replace f1 := f1.ag (u9.ag (by omega))
  replace f2 := f2.ag (u9.ag (by omega))
  replace f3 := f3.ag (u9.ag (by omega))
  replace f4 := f4.ag (u9.ag (by omega))
  replace p := p.ag (u9.ag (by omega))
  replace t : Low h h9 P := fun q hq => (u9.2.2 q (by omega)).trans (t q hq)
  have f5 : CellAt h9 (P + 5) (.inl (E.2.2.1 0, 86, .inl (fun _ => 0))) := u9.2.1
  refine R_putF_A K_0 (f := 4) (by decide) dX0_init_41 f_RX0_24 rfl rfl rfl p (by rfl) (by rfl) (Nat.le_of_ble_eq_true rfl) ?_
  -- X0_init: ('put', 44)
  intro h10 u10
  have e10 := u10.1
  replace p : CellAt h10 P (.inr (0, [.ref (P + 1), .ref (P + 2), .ref (P + 3), .ref (P + 4), .ref (P + 5), .null])) := u10.2.1
  replace f1 := f1.ag (u10.ag (by omega))
  replace f2 := f2.ag (u10.ag (by omega))
  replace f3 := f3.ag (u10.ag (by omega))
  replace f4 := f4.ag (u10.ag (by omega))
  replace f5 := f5.ag (u10.ag (by omega))
  replace t : Low h h10 P := fun q hq => (u10.2.2 q (by omega)).trans (t q hq)
  refine R_aload_n dX0_init_44 rfl ?_
  refine R_new_A (ci := 6) K_6 dX0_init_45 c_RX0_27 n_RX6 ini_RX6 b_6 (by omega : h10.1 = P + 6) rfl rfl ?_
  -- X0_init: ('new', 48)
  intro h11 u11
  have e11 := u11.1
  replace f1 := f1.ag (u11.ag (by omega))
  replace f2 := f2.ag (u11.ag (by omega))
  replace f3 := f3.ag (u11.ag (by omega))
  replace f4 := f4.ag (u11.ag (by omega))
  replace f5 := f5.ag (u11.ag (by omega))
  replace p := p.ag (u11.ag (by omega))
  replace t : Low h h11 P := fun q hq => (u11.2.2 q (by omega)).trans (t q hq)
  refine R_dup dX0_init_48 rfl ?_
  refine R_bipush (v := nI 86) dX0_init_49 (by decide) ?_
  -- X0_init: ('call', 51, '.invokespecial', 29)
  refine R_callI i_X6_init (Row_init (r := P + 6) (n := 86) (by omega) u11.1 u11.2.1) dX0_init_51 l_RX0_29 rfl rfl (Nat.le_of_ble_eq_true rfl) (by omega) rfl rfl (fun v h12 hq => ?_)
  obtain ⟨rfl, f6, e12, l12⟩ := hq
  replace f1 := f1.ag (Low.ag l12 (by omega))
  replace f2 := f2.ag (Low.ag l12 (by omega))
  replace f3 := f3.ag (Low.ag l12 (by omega))
  replace f4 := f4.ag (Low.ag l12 (by omega))
  replace f5 := f5.ag (Low.ag l12 (by omega))
  replace p := p.ag (Low.ag l12 (by omega))
  replace t : Low h h12 P := fun q hq => (l12 q (by omega)).trans (t q hq)
  refine R_putF_A K_0 (f := 5) (by decide) dX0_init_54 f_RX0_32 rfl rfl rfl p (by rfl) (by rfl) (Nat.le_of_ble_eq_true rfl) ?_
  -- X0_init: ('put', 57)
  intro h13 u13
  have e13 := u13.1
  replace p : CellAt h13 P (.inr (0, [.ref (P + 1), .ref (P + 2), .ref (P + 3), .ref (P + 4), .ref (P + 5), .ref (P + 6)])) := u13.2.1
  replace f1 := f1.ag (u13.ag (by omega))
  replace f2 := f2.ag (u13.ag (by omega))
  replace f3 := f3.ag (u13.ag (by omega))
  replace f4 := f4.ag (u13.ag (by omega))
  replace f5 := f5.ag (u13.ag (by omega))
  replace f6 := f6.ag (u13.ag (by omega))
  replace t : Low h h13 P := fun q hq => (u13.2.2 q (by omega)).trans (t q hq)
  refine R_return dX0_init_57 rfl ?_
  -- X0_init: ('ret', 57)
  -- offsets: f1, f2, f3, f4, f5, f6 end 8 slots 518
  exact ⟨rfl, ⟨p, ⟨_, f1, fun _ _ => nI_0.symm⟩, ⟨_, f2, fun _ _ => nI_0.symm⟩, ⟨_, f3, fun _ _ => nI_0.symm⟩, ⟨_, f4, fun _ _ => nI_0.symm⟩, ⟨_, f5, fun _ _ => rfl⟩, f6⟩, by omega, t⟩
end INIT2
