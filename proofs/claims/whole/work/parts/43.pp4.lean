/-! PAIRPACKER: codes, the best size, phrases -/
section PP4
variable {E : EnvT} {h h1 : Hp} {X rd : Nat} {q : Pk} {ds : List Pk} {im : Nat → Pk} {md : Nat → Nat} {tp ph : List Nat} {fk fp : Int32}
theorem scrAt.cod (x : scrAt E h X) (c : CodAny E h1 (X + 1568)) (o : Out h h1 (X + 1568) (X + 1576)) : scrAt E h1 X := by
  obtain ⟨a, ⟨l, b⟩, r, d, e, -, l2, g⟩ := x
  exact ⟨a.ag (o.ag (by omega)), ⟨l, b.ag (o.ag (by omega))⟩, r.ag (o.ag (by omega)), d.ag (o.ag (by omega)), e.ag (o.ag (by omega)), c, l2, g.ag (o.ag (by omega))⟩
theorem scrAt.pt (x : scrAt E h X) (c : PTAny E h1 (X + 1552)) (o : Out h h1 (X + 1552) (X + 1556)) : scrAt E h1 X := by
  obtain ⟨a, ⟨l, b⟩, r, -, e, f, l2, g⟩ := x
  exact ⟨a.ag (o.ag (by omega)), ⟨l, b.ag (o.ag (by omega))⟩, r.ag (o.ag (by omega)), c, e.ag (o.ag (by omega)), f.ag (o.ag (by omega)), l2, g.ag (o.ag (by omega))⟩
theorem scrAt.sr (x : scrAt E h X) (c : SrAny E h1 (X + 1556)) (o : Out h h1 (X + 1556) (X + 1568)) : scrAt E h1 X := by
  obtain ⟨a, ⟨l, b⟩, r, d, -, f, l2, g⟩ := x
  exact ⟨a.ag (o.ag (by omega)), ⟨l, b.ag (o.ag (by omega))⟩, r.ag (o.ag (by omega)), d.ag (o.ag (by omega)), c, f.ag (o.ag (by omega)), l2, g.ag (o.ag (by omega))⟩
theorem scrAt.fb (x : scrAt E h X) {l : List Nat} (c : RowAt E h1 (X + 1576) 1082 l) (o : Out h h1 (X + 1576) (X + 1578)) : scrAt E h1 X := by
  obtain ⟨a, ⟨l, b⟩, r, d, e, f, l2, g⟩ := x
  exact ⟨a.ag (o.ag (by omega)), ⟨l, b.ag (o.ag (by omega))⟩, r.ag (o.ag (by omega)), d.ag (o.ag (by omega)), e.ag (o.ag (by omega)), f.ag (o.ag (by omega)), _, c⟩
theorem scrAt.rdr (x : scrAt E h X) (c : RdAny E h1 (X + 1395)) (o : Out h h1 (X + 1395) (X + 1525)) : scrAt E h1 X := by
  obtain ⟨a, ⟨l, b⟩, r, d, e, f, l2, g⟩ := x
  exact ⟨c, ⟨l, b.ag (o.ag (by omega))⟩, r.ag (o.ag (by omega)), d.ag (o.ag (by omega)), e.ag (o.ag (by omega)), f.ag (o.ag (by omega)), l2, g.ag (o.ag (by omega))⟩
theorem PPAt.scr {a b : Nat} (x : PPAt E h X rd q ds im md tp ph fk fp) (s : scrAt E h1 X) (o : Out h h1 a b) (hd : (X + 1395 ≤ a ∧ b ≤ X + 1525) ∨ (X + 1540 ≤ a ∧ b ≤ X + 1578)) : PPAt E h1 X rd q ds im md tp ph fk fp := PPC.setScr (PPC.of x) s (o.two (by omega))
theorem PP_coded (x : PPAt E h X rd q ds im md tp ph fk fp) (i : Int32) : Spec E k_X9_coded 4 0 0 [.ref X, .int i] h (fun v h' => v = some (.int (if i < 0 then -3 else rget (rkS q.1) i)) ∧ (∃ rd, PPAt E h' X rd q ds im md tp ph fk fp) ∧ Out h h' X (X + 1830)) := by
  obtain ⟨w, gr, gw, ln, cd, l, c⟩ := x.2.2.2.2.2.2.2.2.2.2.2.2.1
  have hP := x.2.1
  refine Spec.of (by decide +kernel) (by simp [Value.category]) (Nat.le_of_ble_eq_true rfl) ?_
  show WP E k_X9_coded 4 0 0 0 [some (.ref X), some (.int i)] [] h _
  refine R_iload_n dX9_coded_0 rfl ?_
  refine R_if_ge (tgt := 7) dX9_coded_1 (by decide) (fun c1 => ?_) (fun c1 => ?_)
  -- X9_coded: ('branch', 1, 7, 4)
  · refine R_aload_n dX9_coded_7 rfl ?_
    refine R_get K_9 (f := 16) (by decide) dX9_coded_8 f_RX9_98 x.1 rfl ?_
    refine R_aload_n dX9_coded_11 rfl ?_
    refine R_get K_9 (f := 0) (by decide) dX9_coded_12 f_RX9_12 x.1 rfl ?_
    -- X9_coded: ('call', 15, '.invokevirtual', 135)
    refine R_callV v_X2_sequence (Pack_sequence hP) dX9_coded_15 l_RX9_135 rfl rfl hP.1 (Nat.le_of_ble_eq_true rfl) (by omega) rfl rfl (fun v h2 hq => ?_)
    obtain ⟨rfl, e9⟩ := hq
    rw [e9]
    refine R_callV v_X0_make (Cod_make c hP.2.1 (by omega)) dX9_coded_18 l_RX9_327 rfl rfl c.1 (Nat.le_of_ble_eq_true rfl) (by omega) rfl rfl (fun v h3 hq => ?_)
    obtain ⟨rfl, ⟨gr3, gw3, c3⟩, o3⟩ := hq
    have x3 := x.scr (x.2.2.2.2.2.2.2.cod ⟨_, _, _, _, _, _, c3⟩ (o3.mono (by omega) (by omega))) o3 (by omega)
    refine R_aload_n dX9_coded_21 rfl ?_
    refine R_get K_9 (f := 16) (by decide) dX9_coded_22 f_RX9_98 x3.1 rfl ?_
    refine R_iload_n dX9_coded_25 rfl ?_
    -- X9_coded: ('call', 26, '.invokevirtual', 336)
    refine R_callV v_X0_signAt (Cod_signAt c3 i) dX9_coded_26 l_RX9_336 rfl rfl c3.1 (Nat.le_of_ble_eq_true rfl) (by omega) rfl rfl (fun v h4 hq => ?_)
    obtain ⟨rfl, e9⟩ := hq
    rw [e9]
    refine R_ireturn dX9_coded_29 rfl rfl ?_
    -- X9_coded: ('ret', 29)
    exact ⟨by rw [if_neg (Int32.not_lt.mpr c1)], ⟨_, x3⟩, o3.mono (by omega) (by omega)⟩
  · refine R_bipush (v := (-3)) dX9_coded_4 (by decide) ?_
    refine R_ireturn dX9_coded_6 rfl rfl ?_
    -- X9_coded: ('ret', 6)
    exact ⟨by rw [if_pos (Int32.not_le.mp c1)], ⟨_, x⟩, Out.refl⟩
theorem PP_best (x : PPAt E h X rd q ds im md tp ph fk fp) (hq : PkOk q) {k : Nat} (hk : k ≤ 2) : Spec E k_X9_best 6 0 0 [.ref X, .int (nI k)] h (fun v h' => (∃ n, v = some (.int (nI n)) ∧ IsBest k q.1 q.2 n) ∧ (∃ rd, PPAt E h' X rd q ds im md tp ph fk fp) ∧ Out h h' X (X + 1830)) := by
  have s := x.2.2.2.2.2.2.2.2.2.2.2.1
  refine Spec.of (by decide +kernel) (by simp [Value.category]) (Nat.le_of_ble_eq_true rfl) ?_
  show WP E k_X9_best 6 0 0 0 [some (.ref X), some (.int (nI k))] [] h _
  refine R_iload_n dX9_best_0 rfl ?_
  refine R_if_lt_N (tgt := 9) dX9_best_1 (by decide) (by omega) ?_
  refine R_iload_n dX9_best_4 rfl ?_
  refine R_iconst (v := nI 2) dX9_best_5 (by decide) ?_
  refine R_icmp_le_N (tgt := 12) dX9_best_6 (by decide) (by omega) (by omega) (fun c6 => ?_) (fun c6 => ?_)
  -- X9_best: ('branch', 6, 12, 9)
  · refine R_aload_n dX9_best_12 rfl ?_
    refine R_get K_9 (f := 15) (by decide) dX9_best_13 f_RX9_91 x.1 rfl ?_
    refine R_aload_n dX9_best_16 rfl ?_
    refine R_get K_9 (f := 0) (by decide) dX9_best_17 f_RX9_12 x.1 rfl ?_
    refine R_iload_n dX9_best_20 rfl ?_
    -- X9_best: ('call', 21, '.invokevirtual', 304)
    refine R_callV v_X7_leastSize (Sr_leastSize hq.1.1 s x.2.1 (by omega) hq.2.1 hk) dX9_best_21 l_RX9_304 rfl rfl s.1.1 (Nat.le_of_ble_eq_true rfl) (by omega) rfl rfl (fun v h2 hq => ?_)
    obtain ⟨⟨n, rfl, hb, -⟩, s2, o2⟩ := hq
    refine R_ireturn dX9_best_24 rfl rfl ?_
    -- X9_best: ('ret', 24)
    exact ⟨⟨n, rfl, hb⟩, ⟨_, x.scr (x.2.2.2.2.2.2.2.sr s2 (o2.mono (by omega) (by omega))) o2 (by omega)⟩, o2.mono (by omega) (by omega)⟩
  · exact absurd c6 (by omega)
theorem PP_best_no {k : Int32} (hk : k < 0 ∨ nI 2 < k) : Spec E k_X9_best 6 0 0 [.ref X, .int k] h (fun v h' => v = some (.int (-3)) ∧ h' = h) := by
  refine Spec.of (by decide +kernel) (by simp [Value.category]) (Nat.le_of_ble_eq_true rfl) ?_
  show WP E k_X9_best 6 0 0 0 [some (.ref X), some (.int k)] [] h _
  refine R_iload_n dX9_best_0 rfl ?_
  refine R_if_lt (tgt := 9) dX9_best_1 (by decide) (fun c1 => ?_) (fun c1 => ?_)
  -- X9_best: ('branch', 1, 9, 4)
  · refine R_bipush (v := (-3)) dX9_best_9 (by decide) ?_
    refine R_ireturn dX9_best_11 rfl rfl ?_
    -- X9_best: ('ret', 11)
    exact ⟨rfl, rfl⟩
  · refine R_iload_n dX9_best_4 rfl ?_
    refine R_iconst (v := nI 2) dX9_best_5 (by decide) ?_
    refine R_icmp_le (tgt := 12) dX9_best_6 (by decide) (fun c6 => ?_) (fun c6 => ?_)
    -- X9_best: ('branch', 6, 12, 9)
    · rcases hk with z | z
      · exact absurd z c1
      · exact absurd c6 (Int32.not_le.mpr z)
    · refine R_bipush (v := (-3)) dX9_best_9 (by decide) ?_
      refine R_ireturn dX9_best_11 rfl rfl ?_
      -- X9_best: ('ret', 11)
      exact ⟨rfl, rfl⟩
theorem PP_hit (x : PPAt E h X rd q ds im md tp ph fk fp) (hq : PkOk q) {k : Nat} (hk : k < 2 ^ 31) : Spec E k_X9_hit 6 0 0 [.ref X, .int (nI k)] h (fun v h' => v = some (.int (if ph.length = 0 then -5 else oI 0 (hitAtS ph (letL q.2 q.1) k))) ∧ (∃ rd, PPAt E h' X rd q ds im md tp ph fk fp) ∧ Out h h' X (X + 1830)) := by
  have hp := x.2.2.2.2.2.1
  have hpl := hp.1
  refine Spec.of (by decide +kernel) (by simp [Value.category]) (Nat.le_of_ble_eq_true rfl) ?_
  show WP E k_X9_hit 6 0 0 0 [some (.ref X), some (.int (nI k))] [] h _
  refine R_iload_n dX9_hit_0 rfl ?_
  refine R_if_ge_N (tgt := 7) dX9_hit_1 (by decide) (by omega) ?_
  refine R_aload_n dX9_hit_7 rfl ?_
  refine R_get K_9 (f := 5) (by decide) dX9_hit_8 f_RX9_40 x.1 rfl ?_
  -- X9_hit: ('call', 11, '.invokevirtual', 105)
  refine R_callV v_X6_size (Row_size hp) dX9_hit_11 l_RX9_105 rfl rfl hp.2.2.1 (Nat.le_of_ble_eq_true rfl) (by omega) rfl rfl (fun v h2 hq => ?_)
  obtain ⟨rfl, e9⟩ := hq
  rw [e9]
  refine R_if_ne_N (tgt := 20) dX9_hit_14 (by decide) (by omega) (fun c14 => ?_) (fun c14 => ?_)
  -- X9_hit: ('branch', 14, 20, 17)
  · refine R_aload_n dX9_hit_20 rfl ?_
    -- X9_hit: ('call', 21, '.invokevirtual', 144)
    refine R_callV v_X9_read (PP_read x hq) dX9_hit_21 l_RX9_144 rfl rfl x.1 (Nat.le_of_ble_eq_true rfl) (by omega) rfl rfl (fun v h3 hq => ?_)
    obtain ⟨rfl, x2, o2⟩ := hq
    obtain ⟨-, lo, la, r⟩ := x2.cach
    refine R_aload_n dX9_hit_24 rfl ?_
    refine R_get K_9 (f := 10) (by decide) dX9_hit_25 f_RX9_67 x2.1 rfl ?_
    refine R_aload_n dX9_hit_28 rfl ?_
    refine R_get K_9 (f := 5) (by decide) dX9_hit_29 f_RX9_40 x2.1 rfl ?_
    refine R_iload_n dX9_hit_32 rfl ?_
    -- X9_hit: ('call', 33, '.invokevirtual', 294)
    refine R_callV v_X5_hitAt (Read_hitAt r x2.2.2.2.2.2.1 hk) dX9_hit_33 l_RX9_294 rfl rfl r.1 (Nat.le_of_ble_eq_true rfl) (by omega) rfl rfl (fun v h4 hq => ?_)
    obtain ⟨rfl, e9⟩ := hq
    rw [e9]
    refine R_ireturn dX9_hit_36 rfl rfl ?_
    -- X9_hit: ('ret', 36)
    exact ⟨by rw [if_neg c14], ⟨_, x2⟩, o2⟩
  · refine R_bipush (v := (-5)) dX9_hit_17 (by decide) ?_
    refine R_ireturn dX9_hit_19 rfl rfl ?_
    -- X9_hit: ('ret', 19)
    exact ⟨by rw [if_pos c14], ⟨_, x⟩, Out.refl⟩
end PP4
