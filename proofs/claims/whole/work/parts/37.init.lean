/-! CONSTRUCTORS -/
section INIT
variable {E : EnvT} {h : Hp} {P : Nat}
theorem Pack_init (hs : h.1 = P + 1) (hr : h.2 P = some (.inr (2, [.null, .null, .null]))) : Spec E k_X2_init 3 125 1144 [.ref P] h (fun v h' => v = none ∧ PackAt E h' P [] (fun _ => []) ∧ h'.1 = P + 126 ∧ Low h h' P) := by
  refine Spec.of (by decide +kernel) (by simp [Value.category]) (Nat.le_of_ble_eq_true rfl) ?_
  show WP E k_X2_init 3 125 1144 0 [some (.ref P), none] [] h _
  refine R_aload_n dX2_init_0 rfl ?_
  -- X2_init: ('call', 1, '.invokespecial', 3)
  refine R_objInit dX2_init_1 l_RX2_3 (Nat.le_of_ble_eq_true rfl) (by omega) ?_
  refine R_aload_n dX2_init_4 rfl ?_
  refine R_new_A (ci := 6) K_6 dX2_init_5 c_RX2_9 n_RX6 ini_RX6 b_6 (by omega) rfl rfl ?_
  -- X2_init: ('new', 8)
  intro h1 u1
  refine R_dup dX2_init_8 rfl ?_
  refine R_sipush (v := nI 240) dX2_init_9 (by decide) ?_
  -- X2_init: ('call', 12, '.invokespecial', 11)
  refine R_callI i_X6_init (Row_init (r := P + 1) (n := 240) (by omega) u1.1 u1.2.1) dX2_init_12 l_RX2_11 rfl rfl (Nat.le_of_ble_eq_true rfl) (by omega) rfl rfl (fun v h2 hq => ?_)
  obtain ⟨rfl, hR2, e2, l2⟩ := hq
  have p2 := (l2 P (by omega)).trans ((u1.2.2 P (by omega)).trans hr)
  refine R_putF_A K_2 (f := 0) (by decide) dX2_init_15 f_RX2_14 rfl rfl rfl p2 (by rfl) (by rfl) (Nat.le_of_ble_eq_true rfl) ?_
  -- X2_init: ('put', 18)
  intro h3 u3
  have e3 := u3.1
  refine R_aload_n dX2_init_18 rfl ?_
  refine R_bipush (v := nI 60) dX2_init_19 (by decide) ?_
  refine R_anewarrayRow_A dX2_init_21 c_RX2_9 (Nat.le_of_ble_eq_true rfl) (by omega : h3.1 = P + 3) rfl rfl ?_
  -- X2_init: ('new', 24)
  intro h4 u4
  have e4 := u4.1
  have p4 := (u4.2.2 P (by omega)).trans u3.2.1
  refine R_putF_A K_2 (f := 1) (by decide) dX2_init_24 f_RX2_20 rfl rfl rfl p4 (by rfl) (by rfl) (Nat.le_of_ble_eq_true rfl) ?_
  -- X2_init: ('put', 27)
  intro h5 u5
  have e5 := u5.1
  refine R_aload_n dX2_init_27 rfl ?_
  refine R_new_A (ci := 6) K_6 dX2_init_28 c_RX2_9 n_RX6 ini_RX6 b_6 (by omega : h5.1 = P + 4) rfl rfl ?_
  -- X2_init: ('new', 31)
  intro h6 u6
  refine R_dup dX2_init_31 rfl ?_
  refine R_iconst (v := nI 0) dX2_init_32 (by decide) ?_
  -- X2_init: ('call', 33, '.invokespecial', 11)
  refine R_callI i_X6_init (Row_init (r := P + 4) (n := 0) (by omega) u6.1 u6.2.1) dX2_init_33 l_RX2_11 rfl rfl (Nat.le_of_ble_eq_true rfl) (by omega) rfl rfl (fun v h7 hq => ?_)
  obtain ⟨rfl, hR7, e7, l7⟩ := hq
  have p7 := (l7 P (by omega)).trans ((u6.2.2 P (by omega)).trans u5.2.1)
  refine R_putF_A K_2 (f := 2) (by decide) dX2_init_36 f_RX2_24 rfl rfl rfl p7 (by rfl) (by rfl) (Nat.le_of_ble_eq_true rfl) ?_
  -- X2_init: ('put', 39)
  intro h8 u8
  have e8 := u8.1
  have p8 : h8.2 P = some (.inr (2, [.ref (P + 1), .ref (P + 3), .ref (P + 4)])) := u8.2.1
  have q8 := ((u8.2.2 (P + 3) (by omega)).trans ((l7 (P + 3) (by omega)).trans ((u6.2.2 (P + 3) (by omega)).trans (u5.2.2 (P + 3) (by omega))))).trans u4.2.1
  have r8 : RowAt E h8 (P + 1) 240 [] := ((((((hR2.ag (u3.ag (by omega))).ag (u4.ag (by omega))).ag (u5.ag (by omega))).ag (u6.ag (by omega))).ag (Low.ag l7 (by omega))).ag (u8.ag (by omega)))
  have s8 := hR7.ag (u8.ag (by omega))
  have t8 : Low h h8 P := fun q hq => (u8.2.2 q (by omega)).trans ((l7 q (by omega)).trans ((u6.2.2 q (by omega)).trans ((u5.2.2 q (by omega)).trans ((u4.2.2 q (by omega)).trans ((u3.2.2 q (by omega)).trans ((l2 q (by omega)).trans (u1.2.2 q (by omega))))))))
  have loop : ∀ m i h2 g, i + m = 60 → h2.1 = P + 6 + 2 * i → h2.2 P = some (.inr (2, [.ref (P + 1), .ref (P + 3), .ref (P + 4)])) → RowAt E h2 (P + 1) 240 [] → h2.2 (P + 3) = some (.inl (E.2.2.1 3, 60, .inr (.inr (.inr (.inr g))))) → (∀ j, j < i → g j = some (P + 6 + 2 * j)) → RowAt E h2 (P + 4) 0 [] → (∀ j, j < i → RowAt E h2 (P + 6 + 2 * j) 12 []) → Low h h2 P → WP E k_X2_init 3 (2 * m) (14 * m) 41 [some (.ref P), some (.int (nI i))] [] h2 (fun v h' => v = none ∧ PackAt E h' P [] (fun _ => []) ∧ h'.1 = P + 126 ∧ Low h h' P) := by
    intro m
    induction m with
    | zero =>
      intro i h2 g hi k1 k2 k3 k4 k5 k6 k7 k8
      obtain rfl : i = 60 := by omega
      refine R_iload_n dX2_init_41 rfl ?_
      refine R_bipush (v := nI 60) dX2_init_42 (by decide) ?_
      refine R_icmp_ge_N (tgt := 68) dX2_init_44 (by decide) (by omega) (by omega) (fun c44 => ?_) (fun c44 => ?_)
      -- X2_init: ('branch', 44, 68, 47)
      · refine R_return dX2_init_68 rfl ?_
        -- X2_init: ('ret', 68)
        exact ⟨rfl, ⟨k2, k3, ⟨g, k4, k5⟩, k6, k7⟩, by omega, k8⟩
      · exact absurd c44 (by omega)
    | succ m ih =>
      intro i h2 g hi k1 k2 k3 k4 k5 k6 k7 k8
      refine R_iload_n dX2_init_41 rfl ?_
      refine R_bipush (v := nI 60) dX2_init_42 (by decide) ?_
      refine R_icmp_ge_N (tgt := 68) dX2_init_44 (by decide) (by omega) (by omega) (fun c44 => ?_) (fun c44 => ?_)
      -- X2_init: ('branch', 44, 68, 47)
      · exact absurd c44 (by omega)
      · refine R_aload_n dX2_init_47 rfl ?_
        refine R_get K_2 (f := 1) (by decide) dX2_init_48 f_RX2_20 k2 rfl ?_
        refine R_iload_n dX2_init_51 rfl ?_
        refine R_new_A (ci := 6) K_6 dX2_init_52 c_RX2_9 n_RX6 ini_RX6 b_6 k1 (show 2 * (m + 1) = 2 * m + 1 + 1 by omega) (show 14 * (m + 1) = 14 * m + 12 + 2 by omega) ?_
        -- X2_init: ('new', 55)
        intro h3 u3
        refine R_dup dX2_init_55 rfl ?_
        refine R_bipush (v := nI 12) dX2_init_56 (by decide) ?_
        -- X2_init: ('call', 58, '.invokespecial', 11)
        refine R_callI i_X6_init (Row_init (r := P + 6 + 2 * i) (n := 12) (by omega) u3.1 u3.2.1) dX2_init_58 l_RX2_11 rfl rfl (Nat.le_of_ble_eq_true rfl) (by omega) rfl rfl (fun v h4 hq => ?_)
        obtain ⟨rfl, hR4, e4, l4⟩ := hq
        have o4 : Low h2 h4 (P + 6 + 2 * i) := fun q hq => (l4 q hq).trans (u3.2.2 q (by omega))
        have a4 := (o4 (P + 3) (by omega)).trans k4
        refine R_aastoreRow_N dX2_init_61 a4 hR4.2.2.1 (by omega) (by omega) ?_
        -- X2_init: ('put', 62)
        intro h5 u5
        have e5 := u5.1
        refine R_iinc1 dX2_init_62 (by decide) (nI_inc _ 1) ?_
        refine R_goto (tgt := 41) dX2_init_65 (by decide) ?_
        -- X2_init: ('stop', 41)
        refine ih (i + 1) h5 _ (by omega) (by omega) ((u5.2.2 _ (by omega)).trans ((o4 _ (by omega)).trans k2)) ((k3.ag (o4.ag (by omega))).ag (u5.ag (by omega))) u5.2.1 (fun j hj => ?_) ((k6.ag (o4.ag (by omega))).ag (u5.ag (by omega))) (fun j hj => ?_) (fun q hq => (u5.2.2 q (by omega)).trans ((o4 q (by omega)).trans (k8 q hq)))
        · rw [va_up]
          by_cases e : j = i
          · subst e; rw [if_pos rfl]
          · rw [if_neg e]; exact k5 j (by omega)
        · by_cases e : j = i
          · subst e; exact hR4.ag (u5.ag (by omega))
          · exact ((k7 j (by omega)).ag (o4.ag (by omega))).ag (u5.ag (by omega))
  refine R_iconst (v := nI 0) dX2_init_39 (by decide) ?_
  refine R_istore1 dX2_init_40 (by decide) ?_
  -- X2_init: ('stop', 41)
  have e7' := u8.1
  exact loop 60 0 h8 _ (by omega) (by omega) p8 r8 q8 (fun j hj => absurd hj (by omega)) s8 (fun j hj => absurd hj (by omega)) t8
theorem Past_init {Q : Nat} (hs : h.1 = Q + 1) (hr : h.2 Q = some (.inr (4, [.null, .int 0, .int 0]))) : Spec E k_X4_init 4 1261 11480 [.ref Q] h (fun v h' => v = none ∧ PastAt E h' Q 0 0 (fun _ => ([], fun _ => [])) ∧ h'.1 = Q + 1262 ∧ Low h h' Q) := by
  refine Spec.of (by decide +kernel) (by simp [Value.category]) (Nat.le_of_ble_eq_true rfl) ?_
  show WP E k_X4_init 4 1261 11480 0 [some (.ref Q), none] [] h _
  refine R_aload_n dX4_init_0 rfl ?_
  -- X4_init: ('call', 1, '.invokespecial', 3)
  refine R_objInit dX4_init_1 l_RX4_3 (Nat.le_of_ble_eq_true rfl) (by omega) ?_
  refine R_aload_n dX4_init_4 rfl ?_
  refine R_bipush (v := nI 10) dX4_init_5 (by decide) ?_
  refine R_anewarrayPacking_A dX4_init_7 c_RX4_9 (Nat.le_of_ble_eq_true rfl) (by omega) rfl rfl ?_
  -- X4_init: ('new', 10)
  intro h1 u1
  have p1 := (u1.2.2 Q (by omega)).trans hr
  refine R_putF_A K_4 (f := 0) (by decide) dX4_init_10 f_RX4_11 rfl rfl rfl p1 (by rfl) (by rfl) (Nat.le_of_ble_eq_true rfl) ?_
  -- X4_init: ('put', 13)
  intro h2 u2
  refine R_aload_n dX4_init_13 rfl ?_
  refine R_iconst (v := nI 0) dX4_init_14 (by decide) ?_
  refine R_put_A K_4 (f := 1) (by decide) dX4_init_15 f_RX4_17 rfl u2.2.1 (by rfl) (by rfl) (Nat.le_of_ble_eq_true rfl) ?_
  -- X4_init: ('put', 18)
  intro h3 u3
  refine R_aload_n dX4_init_18 rfl ?_
  refine R_iconst (v := nI 0) dX4_init_19 (by decide) ?_
  refine R_put_A K_4 (f := 2) (by decide) dX4_init_20 f_RX4_21 rfl u3.2.1 (by rfl) (by rfl) (Nat.le_of_ble_eq_true rfl) ?_
  -- X4_init: ('put', 23)
  intro h4 u4
  have e1 := u1.1
  have e2 := u2.1
  have e3 := u3.1
  have e4 := u4.1
  have a4 := ((u4.2.2 (Q + 1) (by omega)).trans ((u3.2.2 (Q + 1) (by omega)).trans (u2.2.2 (Q + 1) (by omega)))).trans u1.2.1
  have t4 : Low h h4 Q := fun q hq => (u4.2.2 q (by omega)).trans ((u3.2.2 q (by omega)).trans ((u2.2.2 q (by omega)).trans (u1.2.2 q (by omega))))
  have loop : ∀ m i h2 g, i + m = 10 → h2.1 = Q + 2 + 126 * i → h2.2 Q = some (.inr (4, [.ref (Q + 1), .int (nI 0), .int (nI 0)])) → h2.2 (Q + 1) = some (.inl (E.2.2.1 4, 10, .inr (.inr (.inr (.inr g))))) → (∀ j, j < i → g j = some (Q + 2 + 126 * j)) → (∀ j, j < i → PackAt E h2 (Q + 2 + 126 * j) [] (fun _ => [])) → Low h h2 Q → WP E k_X4_init 4 (126 * m) (1147 * m) 25 [some (.ref Q), some (.int (nI i))] [] h2 (fun v h' => v = none ∧ PastAt E h' Q 0 0 (fun _ => ([], fun _ => [])) ∧ h'.1 = Q + 1262 ∧ Low h h' Q) := by
    intro m
    induction m with
    | zero =>
      intro i h2 g hi k1 k2 k4 k5 k7 k8
      obtain rfl : i = 10 := by omega
      refine R_iload_n dX4_init_25 rfl ?_
      refine R_bipush (v := nI 10) dX4_init_26 (by decide) ?_
      refine R_icmp_ge_N (tgt := 50) dX4_init_28 (by decide) (by omega) (by omega) (fun c28 => ?_) (fun c28 => ?_)
      -- X4_init: ('branch', 28, 50, 31)
      · refine R_return dX4_init_50 rfl ?_
        -- X4_init: ('ret', 50)
        exact ⟨rfl, ⟨k2, ⟨g, k4, k5⟩, k7, by omega, by omega⟩, by omega, k8⟩
      · exact absurd c28 (by omega)
    | succ m ih =>
      intro i h2 g hi k1 k2 k4 k5 k7 k8
      refine R_iload_n dX4_init_25 rfl ?_
      refine R_bipush (v := nI 10) dX4_init_26 (by decide) ?_
      refine R_icmp_ge_N (tgt := 50) dX4_init_28 (by decide) (by omega) (by omega) (fun c28 => ?_) (fun c28 => ?_)
      -- X4_init: ('branch', 28, 50, 31)
      · exact absurd c28 (by omega)
      · refine R_aload_n dX4_init_31 rfl ?_
        refine R_get K_4 (f := 0) (by decide) dX4_init_32 f_RX4_11 k2 rfl ?_
        refine R_iload_n dX4_init_35 rfl ?_
        refine R_new_A (ci := 2) K_2 dX4_init_36 c_RX4_9 n_RX2 ini_RX2 b_2 k1 (show 126 * (m + 1) = 126 * m + 125 + 1 by omega) (show 1147 * (m + 1) = 1147 * m + 1144 + 3 by omega) ?_
        -- X4_init: ('new', 39)
        intro h3 u3
        refine R_dup dX4_init_39 rfl ?_
        -- X4_init: ('call', 40, '.invokespecial', 24)
        refine R_callI i_X2_init (Pack_init (P := Q + 2 + 126 * i) u3.1 u3.2.1) dX4_init_40 l_RX4_24 rfl rfl (Nat.le_of_ble_eq_true rfl) (by omega) rfl rfl (fun v h4 hq => ?_)
        obtain ⟨rfl, hR4, e4, l4⟩ := hq
        have o4 : Low h2 h4 (Q + 2 + 126 * i) := fun q hq => (l4 q hq).trans (u3.2.2 q (by omega))
        have a4 := (o4 (Q + 1) (by omega)).trans k4
        refine R_aastorePacking_N dX4_init_43 a4 hR4.1 (by omega) (by omega) ?_
        -- X4_init: ('put', 44)
        intro h5 u5
        have e5 := u5.1
        refine R_iinc1 dX4_init_44 (by decide) (nI_inc _ 1) ?_
        refine R_goto (tgt := 25) dX4_init_47 (by decide) ?_
        -- X4_init: ('stop', 25)
        refine ih (i + 1) h5 _ (by omega) (by omega) ((u5.2.2 _ (by omega)).trans ((o4 _ (by omega)).trans k2)) u5.2.1 (fun j hj => ?_) (fun j hj => ?_) (fun q hq => (u5.2.2 q (by omega)).trans ((o4 q (by omega)).trans (k8 q hq)))
        · rw [va_up]
          by_cases e : j = i
          · subst e; rw [if_pos rfl]
          · rw [if_neg e]; exact k5 j (by omega)
        · by_cases e : j = i
          · subst e; exact hR4.ag (u5.ag (by omega))
          · exact ((k7 j (by omega)).ag (o4.ag (by omega))).ag (u5.ag (by omega))
  refine R_iconst (v := nI 0) dX4_init_23 (by decide) ?_
  refine R_istore1 dX4_init_24 (by decide) ?_
  -- X4_init: ('stop', 25)
  exact loop 10 0 h4 _ (by omega) (by omega) u4.2.1 a4 (fun j hj => absurd hj (by omega)) (fun j hj => absurd hj (by omega)) t4
end INIT
