/-! CONSTRUCTORS -/
section INIT
variable {E : EnvT} {h : Hp} {P : Nat}
theorem Pack_init (hs : h.1 = P + 1) (hr : h.2 P = some (.inr (2, [.null, .null, .null]))) : Spec E k_X2_init 3 125 1144 [.ref P] h (fun v h' => v = none ∧ PackAt E h' P [] (fun _ => []) ∧ h'.1 = P + 126 ∧ Low h h' P) := by
  refine Spec.of (by decide +kernel) (by simp [Value.category]) (Nat.le_of_ble_eq_true rfl) ?_
  show WP E k_X2_init 3 125 1144 0 [some (.ref P), none] [] h _
  refine R_aload_n dX2_init_0 rfl ?_
  -- X2_init: ('call', 1, '.invokespecial', 3)
  refine R_objInit dX2_init_1 l_RX2_3 (Nat.le_of_ble_eq_true rfl) (by omega) ?_
  refine R_aload_n dX2_init_4 rfl ?_
  refine R_new_A (ci := 6) K_6 dX2_init_5 c_RX2_9 n_RX6 ini_RX6 b_6 (by omega) rfl rfl ?_
  -- X2_init: ('new', 8)
  intro h1 u1
  refine R_dup dX2_init_8 rfl ?_
  refine R_sipush (v := nI 240) dX2_init_9 (by decide) ?_
  -- X2_init: ('call', 12, '.invokespecial', 11)
  refine R_callI i_X6_init (Row_init (r := P + 1) (n := 240) (by omega) u1.1 u1.2.1) dX2_init_12 l_RX2_11 rfl rfl (Nat.le_of_ble_eq_true rfl) (by omega) rfl rfl (fun v h2 hq => ?_)
  obtain ⟨rfl, hR2, e2, l2⟩ := hq
  have p2 := (l2 P (by omega)).trans ((u1.2.2 P (by omega)).trans hr)
  refine R_putF_A K_2 (f := 0) (by decide) dX2_init_15 f_RX2_14 rfl rfl rfl p2 (by rfl) (by rfl) (Nat.le_of_ble_eq_true rfl) ?_
  -- X2_init: ('put', 18)
  intro h3 u3
  have e3 := u3.1
  refine R_aload_n dX2_init_18 rfl ?_
  refine R_bipush (v := nI 60) dX2_init_19 (by decide) ?_
  refine R_anewarrayRow_A dX2_init_21 c_RX2_9 (Nat.le_of_ble_eq_true rfl) (by omega : h3.1 = P + 3) rfl rfl ?_
  -- X2_init: ('new', 24)
  intro h4 u4
  have e4 := u4.1
  have p4 := (u4.2.2 P (by omega)).trans u3.2.1
  refine R_putF_A K_2 (f := 1) (by decide) dX2_init_24 f_RX2_20 rfl rfl rfl p4 (by rfl) (by rfl) (Nat.le_of_ble_eq_true rfl) ?_
  -- X2_init: ('put', 27)
  intro h5 u5
  have e5 := u5.1
  refine R_aload_n dX2_init_27 rfl ?_
  refine R_new_A (ci := 6) K_6 dX2_init_28 c_RX2_9 n_RX6 ini_RX6 b_6 (by omega : h5.1 = P + 4) rfl rfl ?_
  -- X2_init: ('new', 31)
  intro h6 u6
  refine R_dup dX2_init_31 rfl ?_
  refine R_iconst (v := nI 0) dX2_init_32 (by decide) ?_
  -- X2_init: ('call', 33, '.invokespecial', 11)
  refine R_callI i_X6_init (Row_init (r := P + 4) (n := 0) (by omega) u6.1 u6.2.1) dX2_init_33 l_RX2_11 rfl rfl (Nat.le_of_ble_eq_true rfl) (by omega) rfl rfl (fun v h7 hq => ?_)
  obtain ⟨rfl, hR7, e7, l7⟩ := hq
  have p7 := (l7 P (by omega)).trans ((u6.2.2 P (by omega)).trans u5.2.1)
  refine R_putF_A K_2 (f := 2) (by decide) dX2_init_36 f_RX2_24 rfl rfl rfl p7 (by rfl) (by rfl) (Nat.le_of_ble_eq_true rfl) ?_
  -- X2_init: ('put', 39)
  intro h8 u8
  have e8 := u8.1
  have sorryx : True := trivial
  sorry
end INIT
