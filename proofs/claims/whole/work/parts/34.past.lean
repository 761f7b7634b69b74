/-! PAST: what can be undone -/
def fmI (x y : Int32) : Int32 := if 0 ≤ (x ^^^ y) ∨ x - x / y * y = 0 then x - x / y * y else x - x / y * y + y
theorem J_floorMod {E : EnvT} {h : Hp} {x y : Int32} (hy : ¬ y = 0) : Spec E k_J9_floorMod_7cf53 1 0 0 [.int x, .int y] h (fun v h' => v = some (.int (fmI x y)) ∧ h' = h) := by
  refine Spec.of (by decide +kernel) (by simp [Value.category]) (Nat.le_of_ble_eq_true rfl) ?_
  show WP E k_J9_floorMod_7cf53 1 0 0 0 [some (.int x), some (.int y), none] [] h _
  refine R_iload_n dJ9_floorMod_7cf53_0 rfl ?_
  refine R_iload_n dJ9_floorMod_7cf53_1 rfl ?_
  refine R_irem dJ9_floorMod_7cf53_2 hy ?_
  refine R_istore2 dJ9_floorMod_7cf53_3 (by decide) ?_
  refine R_iload_n dJ9_floorMod_7cf53_4 rfl ?_
  refine R_iload_n dJ9_floorMod_7cf53_5 rfl ?_
  refine R_ixor dJ9_floorMod_7cf53_6 ?_
  refine R_if_ge (tgt := 18) dJ9_floorMod_7cf53_7 (by decide) (fun c7 => ?_) (fun c7 => ?_)
  -- J9_floorMod_7cf53: ('branch', 7, 18, 10)
  · refine R_iload_n dJ9_floorMod_7cf53_18 rfl ?_
    refine R_ireturn dJ9_floorMod_7cf53_19 rfl rfl ?_
    -- J9_floorMod_7cf53: ('ret', 19)
    exact ⟨by rw [fmI, if_pos (Or.inl c7)], rfl⟩
  · refine R_iload_n dJ9_floorMod_7cf53_10 rfl ?_
    refine R_if_eq (tgt := 18) dJ9_floorMod_7cf53_11 (by decide) (fun c11 => ?_) (fun c11 => ?_)
    -- J9_floorMod_7cf53: ('branch', 11, 18, 14)
    · refine R_iload_n dJ9_floorMod_7cf53_18 rfl ?_
      refine R_ireturn dJ9_floorMod_7cf53_19 rfl rfl ?_
      -- J9_floorMod_7cf53: ('ret', 19)
      exact ⟨by rw [fmI, if_pos (Or.inr c11)], rfl⟩
    · refine R_iload_n dJ9_floorMod_7cf53_14 rfl ?_
      refine R_iload_n dJ9_floorMod_7cf53_15 rfl ?_
      refine R_iadd dJ9_floorMod_7cf53_16 ?_
      refine R_ireturn dJ9_floorMod_7cf53_17 rfl rfl ?_
      -- J9_floorMod_7cf53: ('ret', 17)
      exact ⟨by rw [fmI, if_neg (fun z => z.elim c7 c11)], rfl⟩
theorem fm_up : ∀ n, n < 10 → fmI (nI (n + 1)) (nI 10) = nI ((n + 1) % 10) := by decide +kernel
theorem fm_dn : ∀ n, n < 10 → ∀ m, m ≤ 10 → fmI (nI n - nI m) (nI 10) = nI ((n + 10 - m) % 10) := by decide +kernel
/-- the past at Q: where it goes on, how many, what each one kept -/
def PastAt (E : EnvT) (h : Hp) (Q nx sz : Nat) (ks : Nat → List Nat × Ru) : Prop := h.2 Q = some (.inr (4, [.ref (Q + 1), .int (nI nx), .int (nI sz)])) ∧ (∃ g : Nat → Option Nat, h.2 (Q + 1) = some (.inl (E.2.2.1 4, 10, .inr (.inr (.inr (.inr g))))) ∧ ∀ i, i < 10 → g i = some (Q + 2 + 126 * i)) ∧ (∀ i, i < 10 → PackAt E h (Q + 2 + 126 * i) (ks i).1 (ks i).2) ∧ nx < 10 ∧ sz ≤ 10
theorem PastAt.ag {E : EnvT} {h h1 : Hp} {Q nx sz : Nat} {ks : Nat → List Nat × Ru} (x : PastAt E h Q nx sz ks) (o : Ag h h1 Q (Q + 1262)) : PastAt E h1 Q nx sz ks := by
  obtain ⟨a, ⟨g, b, b'⟩, c, d, e⟩ := x
  exact ⟨(o _ (by omega) (by omega)).trans a, ⟨g, (o _ (by omega) (by omega)).trans b, b'⟩, fun i hi => (c i hi).ag (o.sub (by omega) (by omega)), d, e⟩
section PAST
variable {E : EnvT} {h : Hp} {Q nx sz P : Nat} {ks : Nat → List Nat × Ru} {sq : List Nat} {ru : Ru}
theorem Past_size (hQ : PastAt E h Q nx sz ks) : Spec E k_X4_size 1 0 0 [.ref Q] h (fun v h' => v = some (.int (nI sz)) ∧ h' = h) := by
  refine Spec.of (by decide +kernel) (by simp [Value.category]) (Nat.le_of_ble_eq_true rfl) ?_
  show WP E k_X4_size 1 0 0 0 [some (.ref Q)] [] h _
  refine R_aload_n dX4_size_0 rfl ?_
  refine R_get K_4 (f := 2) (by decide) dX4_size_1 f_RX4_21 hQ.1 rfl ?_
  refine R_ireturn dX4_size_4 rfl rfl ?_
  -- X4_size: ('ret', 4)
  exact ⟨rfl, rfl⟩
theorem Past_forget (hQ : PastAt E h Q nx sz ks) : Spec E k_X4_forget 1 0 0 [.ref Q] h (fun v h' => v = none ∧ PastAt E h' Q nx 0 ks ∧ Out h h' Q (Q + 1262)) := by
  obtain ⟨a, ⟨g, b, b'⟩, c, d, e⟩ := hQ
  refine Spec.of (by decide +kernel) (by simp [Value.category]) (Nat.le_of_ble_eq_true rfl) ?_
  show WP E k_X4_forget 1 0 0 0 [some (.ref Q)] [] h _
  refine R_aload_n dX4_forget_0 rfl ?_
  refine R_iconst (v := nI 0) dX4_forget_1 (by decide) ?_
  refine R_put_A K_4 (f := 2) (by decide) dX4_forget_2 f_RX4_21 rfl a (by rfl) (by rfl) (Nat.le_of_ble_eq_true rfl) ?_
  -- X4_forget: ('put', 5)
  intro h1 u1
  refine R_return dX4_forget_5 rfl ?_
  -- X4_forget: ('ret', 5)
  exact ⟨rfl, ⟨u1.2.1, ⟨g, (u1.2.2 _ (by omega)).trans b, b'⟩, fun i hi => (c i hi).ag (fun q _ _ => u1.2.2 q (by omega)), d, by omega⟩, Out.upd u1 (by omega) (by omega)⟩
theorem Past_keep (hQ : PastAt E h Q nx sz ks) (hP : PackAt E h P sq ru) (hd : P + 126 ≤ Q ∨ Q + 1262 ≤ P) : Spec E k_X4_keep 4 0 0 [.ref Q, .ref P] h (fun v h' => v = none ∧ PastAt E h' Q ((nx + 1) % 10) (min (sz + 1) 10) (fun i => if i = nx then (sq, ru) else ks i) ∧ Out h h' Q (Q + 1262)) := by
  obtain ⟨a, ⟨g, b, b'⟩, c, d, e⟩ := hQ
  refine Spec.of (by decide +kernel) (by simp [Value.category]) (Nat.le_of_ble_eq_true rfl) ?_
  show WP E k_X4_keep 4 0 0 0 [some (.ref Q), some (.ref P)] [] h _
  refine R_aload_n dX4_keep_0 rfl ?_
  refine R_get K_4 (f := 0) (by decide) dX4_keep_1 f_RX4_11 a rfl ?_
  refine R_aload_n dX4_keep_4 rfl ?_
  refine R_get K_4 (f := 1) (by decide) dX4_keep_5 f_RX4_17 a rfl ?_
  refine R_aaloadPacking_N dX4_keep_8 b (by omega) (by omega) (b' _ d) ?_
  refine R_aload_n dX4_keep_9 rfl ?_
  -- X4_keep: ('call', 10, '.invokevirtual', 25)
  refine R_callV v_X2_take (Pack_take (c nx d) hP (by omega)) dX4_keep_10 l_RX4_25 rfl rfl (c nx d).1 (Nat.le_of_ble_eq_true rfl) (by omega) rfl rfl (fun v h1 hq => ?_)
  obtain ⟨rfl, hK, o1⟩ := hq
  have a1 := (o1.2 Q (by omega)).trans a
  refine R_aload_n dX4_keep_13 rfl ?_
  refine R_aload_n dX4_keep_14 rfl ?_
  refine R_get K_4 (f := 1) (by decide) dX4_keep_15 f_RX4_17 a1 rfl ?_
  refine R_iconst (v := nI 1) dX4_keep_18 (by decide) ?_
  refine R_iadd_N dX4_keep_19 ?_
  refine R_bipush (v := nI 10) dX4_keep_20 (by decide) ?_
  -- X4_keep: ('call', 22, '.invokestatic', 29)
  refine R_callS s_J9_floorMod_7cf53 (J_floorMod (x := nI (nx + 1)) (y := nI 10) (by decide)) dX4_keep_22 l_RX4_29 rfl rfl (Nat.le_of_ble_eq_true rfl) (by omega) rfl rfl (fun v h2 hq => ?_)
  obtain ⟨rfl, e9⟩ := hq
  rw [e9, fm_up nx d]
  refine R_put_A K_4 (f := 1) (by decide) dX4_keep_25 f_RX4_17 rfl a1 (by rfl) (by rfl) (Nat.le_of_ble_eq_true rfl) ?_
  -- X4_keep: ('put', 28)
  intro h3 u3
  refine R_aload_n dX4_keep_28 rfl ?_
  refine R_aload_n dX4_keep_29 rfl ?_
  refine R_get K_4 (f := 2) (by decide) dX4_keep_30 f_RX4_21 u3.2.1 rfl ?_
  refine R_iconst (v := nI 1) dX4_keep_33 (by decide) ?_
  refine R_iadd_N dX4_keep_34 ?_
  refine R_bipush (v := nI 10) dX4_keep_35 (by decide) ?_
  -- X4_keep: ('call', 37, '.invokestatic', 35)
  refine R_callS s_J9_min_7cf53 (J_min (a := sz + 1) (b := 10) (by omega) (by omega)) dX4_keep_37 l_RX4_35 rfl rfl (Nat.le_of_ble_eq_true rfl) (by omega) rfl rfl (fun v h4 hq => ?_)
  obtain ⟨rfl, e9⟩ := hq
  rw [e9]
  refine R_put_A K_4 (f := 2) (by decide) dX4_keep_40 f_RX4_21 rfl u3.2.1 (by rfl) (by rfl) (Nat.le_of_ble_eq_true rfl) ?_
  -- X4_keep: ('put', 43)
  intro h5 u5
  refine R_return dX4_keep_43 rfl ?_
  -- X4_keep: ('ret', 43)
  have o5 : Out h1 h5 Q (Q + 1) := (Out.upd u3 (by omega) (by omega)).trans (Out.upd u5 (by omega) (by omega))
  refine ⟨rfl, ⟨u5.2.1, ⟨g, ((o5.2 _ (by omega)).trans (o1.2 _ (by omega))).trans b, b'⟩, fun i hi => ?_, Nat.mod_lt _ (by omega), by omega⟩, (o1.mono (by omega) (by omega)).trans (o5.mono (by omega) (by omega))⟩
  by_cases ei : i = nx
  · subst ei
    simp only [eq_self, if_true]
    exact hK.ag (o5.ag (by omega))
  · simp only [if_neg ei]
    exact ((c i hi).ag (o1.ag (by omega))).ag (o5.ag (by omega))
theorem Past_goBack (hQ : PastAt E h Q nx sz ks) (hP : PackAt E h P sq ru) (hd : P + 126 ≤ Q ∨ Q + 1262 ≤ P) {n : Nat} (hn : n ≤ sz) : Spec E k_X4_goBack 4 0 0 [.ref Q, .int (nI n), .ref P] h (fun v h' => v = none ∧ PastAt E h' Q ((nx + 10 - n) % 10) (sz - n) ks ∧ PackAt E h' P (ks ((nx + 10 - n) % 10)).1 (ks ((nx + 10 - n) % 10)).2 ∧ Out2 h h' Q (Q + 1) P (P + 126)) := by
  obtain ⟨a, ⟨g, b, b'⟩, c, d, e⟩ := hQ
  have hm : (nx + 10 - n) % 10 < 10 := Nat.mod_lt _ (by omega)
  refine Spec.of (by decide +kernel) (by simp [Value.category]) (Nat.le_of_ble_eq_true rfl) ?_
  show WP E k_X4_goBack 4 0 0 0 [some (.ref Q), some (.int (nI n)), some (.ref P)] [] h _
  refine R_aload_n dX4_goBack_0 rfl ?_
  refine R_aload_n dX4_goBack_1 rfl ?_
  refine R_get K_4 (f := 1) (by decide) dX4_goBack_2 f_RX4_17 a rfl ?_
  refine R_iload_n dX4_goBack_5 rfl ?_
  refine R_isub dX4_goBack_6 ?_
  refine R_bipush (v := nI 10) dX4_goBack_7 (by decide) ?_
  -- X4_goBack: ('call', 9, '.invokestatic', 29)
  refine R_callS s_J9_floorMod_7cf53 (J_floorMod (x := nI nx - nI n) (y := nI 10) (by decide)) dX4_goBack_9 l_RX4_29 rfl rfl (Nat.le_of_ble_eq_true rfl) (by omega) rfl rfl (fun v h2 hq => ?_)
  obtain ⟨rfl, e9⟩ := hq
  rw [e9, fm_dn nx d n (by omega)]
  refine R_put_A K_4 (f := 1) (by decide) dX4_goBack_12 f_RX4_17 rfl a (by rfl) (by rfl) (Nat.le_of_ble_eq_true rfl) ?_
  -- X4_goBack: ('put', 15)
  intro h3 u3
  refine R_aload_n dX4_goBack_15 rfl ?_
  refine R_aload_n dX4_goBack_16 rfl ?_
  refine R_get K_4 (f := 2) (by decide) dX4_goBack_17 f_RX4_21 u3.2.1 rfl ?_
  refine R_iload_n dX4_goBack_20 rfl ?_
  refine R_isub_N dX4_goBack_21 (by omega) ?_
  refine R_iconst (v := nI 0) dX4_goBack_22 (by decide) ?_
  -- X4_goBack: ('call', 23, '.invokestatic', 38)
  refine R_callS s_J9_max_7cf53 (J_max (a := sz - n) (b := 0) (by omega) (by omega)) dX4_goBack_23 l_RX4_38 rfl rfl (Nat.le_of_ble_eq_true rfl) (by omega) rfl rfl (fun v h4 hq => ?_)
  obtain ⟨rfl, e9⟩ := hq
  rw [e9, Nat.max_eq_left (Nat.zero_le _)]
  refine R_put_A K_4 (f := 2) (by decide) dX4_goBack_26 f_RX4_21 rfl u3.2.1 (by rfl) (by rfl) (Nat.le_of_ble_eq_true rfl) ?_
  -- X4_goBack: ('put', 29)
  intro h5 u5
  have o5 : Out h h5 Q (Q + 1) := (Out.upd u3 (by omega) (by omega)).trans (Out.upd u5 (by omega) (by omega))
  have b5 := (o5.2 (Q + 1) (by omega)).trans b
  have hc5 := fun i hi => (c i hi).ag (o5.ag (a' := Q + 2 + 126 * i) (b' := Q + 2 + 126 * i + 126) (by omega))
  refine R_aload_n dX4_goBack_29 rfl ?_
  refine R_aload_n dX4_goBack_30 rfl ?_
  refine R_get K_4 (f := 0) (by decide) dX4_goBack_31 f_RX4_11 u5.2.1 rfl ?_
  refine R_aload_n dX4_goBack_34 rfl ?_
  refine R_get K_4 (f := 1) (by decide) dX4_goBack_35 f_RX4_17 u5.2.1 rfl ?_
  refine R_aaloadPacking_N dX4_goBack_38 b5 (by omega) (by omega) (b' _ hm) ?_
  -- X4_goBack: ('call', 39, '.invokevirtual', 25)
  refine R_callV v_X2_take (Pack_take (hP.ag (o5.ag (by omega))) (hc5 _ hm) (by omega)) dX4_goBack_39 l_RX4_25 rfl rfl (hP.ag (o5.ag (by omega))).1 (Nat.le_of_ble_eq_true rfl) (by omega) rfl rfl (fun v h6 hq => ?_)
  obtain ⟨rfl, hK, o6⟩ := hq
  refine R_return dX4_goBack_42 rfl ?_
  -- X4_goBack: ('ret', 42)
  exact ⟨rfl, ⟨(o6.2 _ (by omega)).trans u5.2.1, ⟨g, (o6.2 _ (by omega)).trans b5, b'⟩, fun i hi => (hc5 i hi).ag (o6.ag (by omega)), hm, by omega⟩, hK, (o5.two (by omega)).trans (o6.two (by omega))⟩
end PAST
