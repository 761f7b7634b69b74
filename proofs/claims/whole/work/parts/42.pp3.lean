/-! PAIRPACKER: what is asked of the text -/
abbrev hasP (n : Nat) (i : Int32) : Prop := ¬ i < 0 ∧ i.toNatClampNeg < n
section PP3
variable {E : EnvT} {h : Hp} {X D rd : Nat} {q : Pk} {ds : List Pk} {im : Nat → Pk} {md : Nat → Nat} {tp ph : List Nat} {fk fp : Int32}
theorem Read_hasPlace_any {ls hs bs dps : List Nat} {lo la : Int32} (hD : ReadAt E h D ls hs bs dps lo la) (i : Int32) : Spec E k_X5_hasPlace 2 0 0 [.ref D, .int i] h (fun v h' => v = some (.int (nI (if hasP ls.length i then 1 else 0))) ∧ h' = h) := by
  by_cases hi : i < 0
  · have := Read_hasPlace_neg (E := E) (h := h) (D := D) hi
    rwa [if_neg (fun z => z.1 hi)]
  · obtain ⟨n, hn, rfl⟩ := nI_of hi
    have := Read_hasPlace hD hn
    have e : hasP ls.length (nI n) ↔ n < ls.length := by
      simp only [hasP, nI_clamp hn]
      exact ⟨fun z => z.2, fun z => ⟨hi, z⟩⟩
    by_cases c : n < ls.length
    · rw [if_pos c] at this; rwa [if_pos (e.mpr c)]
    · rw [if_neg c] at this; rwa [if_neg (fun z => c (e.mp z))]
theorem PP_at (x : PPAt E h X rd q ds im md tp ph fk fp) (hq : PkOk q) (i : Int32) : Spec E k_X9_at 6 0 0 [.ref X, .int i] h (fun v h' => v = some (.int (if i < 0 then -3 else rget (letL q.2 q.1) i)) ∧ (∃ rd, PPAt E h' X rd q ds im md tp ph fk fp) ∧ Out h h' X (X + 1830)) := by
  refine Spec.of (by decide +kernel) (by simp [Value.category]) (Nat.le_of_ble_eq_true rfl) ?_
  show WP E k_X9_at 6 0 0 0 [some (.ref X), some (.int i)] [] h _
  refine R_iload_n dX9_at_0 rfl ?_
  refine R_if_ge (tgt := 7) dX9_at_1 (by decide) (fun c1 => ?_) (fun c1 => ?_)
  -- X9_at: ('branch', 1, 7, 4)
  · refine R_aload_n dX9_at_7 rfl ?_
    -- X9_at: ('call', 8, '.invokevirtual', 144)
    refine R_callV v_X9_read (PP_read x hq) dX9_at_8 l_RX9_144 rfl rfl x.1 (Nat.le_of_ble_eq_true rfl) (by omega) rfl rfl (fun v h2 hq => ?_)
    obtain ⟨rfl, x2, o2⟩ := hq
    obtain ⟨-, lo, la, r⟩ := x2.cach
    refine R_aload_n dX9_at_11 rfl ?_
    refine R_get K_9 (f := 10) (by decide) dX9_at_12 f_RX9_67 x2.1 rfl ?_
    refine R_iload_n dX9_at_15 rfl ?_
    -- X9_at: ('call', 16, '.invokevirtual', 208)
    refine R_callV v_X5_letterAt (Read_letterAt r i) dX9_at_16 l_RX9_208 rfl rfl r.1 (Nat.le_of_ble_eq_true rfl) (by omega) rfl rfl (fun v h3 hq => ?_)
    obtain ⟨rfl, e9⟩ := hq
    rw [e9]
    refine R_ireturn dX9_at_19 rfl rfl ?_
    -- X9_at: ('ret', 19)
    exact ⟨by rw [if_neg (Int32.not_lt.mpr c1)], ⟨_, x2⟩, o2⟩
  · refine R_bipush (v := (-3)) dX9_at_4 (by decide) ?_
    refine R_ireturn dX9_at_6 rfl rfl ?_
    -- X9_at: ('ret', 6)
    exact ⟨by rw [if_pos (Int32.not_le.mp c1)], ⟨_, x⟩, Out.refl⟩
theorem PP_within (x : PPAt E h X rd q ds im md tp ph fk fp) (hq : PkOk q) (i w : Int32) : Spec E k_X9_within 6 0 0 [.ref X, .int i, .int w] h (fun v h' => v = some (.int (if w < 0 ∨ nI 2 < w then -2 else if i < 0 then -3 else if w = 0 then rget (homL q.2 0 q.1) i else if w = nI 1 then rget (begL q.2 0 q.1) i else rget (dpL q.2 q.1) i)) ∧ (∃ rd, PPAt E h' X rd q ds im md tp ph fk fp) ∧ Out h h' X (X + 1830)) := by
  refine Spec.of (by decide +kernel) (by simp [Value.category]) (Nat.le_of_ble_eq_true rfl) ?_
  show WP E k_X9_within 6 0 0 0 [some (.ref X), some (.int i), some (.int w)] [] h _
  refine R_iload_n dX9_within_0 rfl ?_
  refine R_if_lt (tgt := 9) dX9_within_1 (by decide) (fun c1 => ?_) (fun c1 => ?_)
  -- X9_within: ('branch', 1, 9, 4)
  · refine R_bipush (v := (-2)) dX9_within_9 (by decide) ?_
    refine R_ireturn dX9_within_11 rfl rfl ?_
    -- X9_within: ('ret', 11)
    exact ⟨by rw [if_pos (Or.inl c1)], ⟨_, x⟩, Out.refl⟩
  · refine R_iload_n dX9_within_4 rfl ?_
    refine R_iconst (v := nI 2) dX9_within_5 (by decide) ?_
    refine R_icmp_le (tgt := 12) dX9_within_6 (by decide) (fun c6 => ?_) (fun c6 => ?_)
    -- X9_within: ('branch', 6, 12, 9)
    rotate_left
    · refine R_bipush (v := (-2)) dX9_within_9 (by decide) ?_
      refine R_ireturn dX9_within_11 rfl rfl ?_
      -- X9_within: ('ret', 11)
      exact ⟨by rw [if_pos (Or.inr (Int32.not_le.mp c6))], ⟨_, x⟩, Out.refl⟩
    rw [if_neg (fun z => z.elim c1 (Int32.not_lt.mpr c6))]
    refine R_iload_n dX9_within_12 rfl ?_
    refine R_if_ge (tgt := 19) dX9_within_13 (by decide) (fun c13 => ?_) (fun c13 => ?_)
    -- X9_within: ('branch', 13, 19, 16)
    rotate_left
    · refine R_bipush (v := (-3)) dX9_within_16 (by decide) ?_
      refine R_ireturn dX9_within_18 rfl rfl ?_
      -- X9_within: ('ret', 18)
      exact ⟨by rw [if_pos (Int32.not_le.mp c13)], ⟨_, x⟩, Out.refl⟩
    rw [if_neg (Int32.not_lt.mpr c13)]
    refine R_aload_n dX9_within_19 rfl ?_
    -- X9_within: ('call', 20, '.invokevirtual', 144)
    refine R_callV v_X9_read (PP_read x hq) dX9_within_20 l_RX9_144 rfl rfl x.1 (Nat.le_of_ble_eq_true rfl) (by omega) rfl rfl (fun v h2 hq => ?_)
    obtain ⟨rfl, x2, o2⟩ := hq
    obtain ⟨-, lo, la, r⟩ := x2.cach
    refine R_iload_n dX9_within_23 rfl ?_
    refine R_if_ne (tgt := 36) dX9_within_24 (by decide) (fun c24 => ?_) (fun c24 => ?_)
    -- X9_within: ('branch', 24, 36, 27)
    rotate_left
    · refine R_aload_n dX9_within_27 rfl ?_
      refine R_get K_9 (f := 10) (by decide) dX9_within_28 f_RX9_67 x2.1 rfl ?_
      refine R_iload_n dX9_within_31 rfl ?_
      -- X9_within: ('call', 32, '.invokevirtual', 269)
      refine R_callV v_X5_homeAt (Read_homeAt r i) dX9_within_32 l_RX9_269 rfl rfl r.1 (Nat.le_of_ble_eq_true rfl) (by omega) rfl rfl (fun v h3 hq => ?_)
      obtain ⟨rfl, e9⟩ := hq
      rw [e9]
      refine R_ireturn dX9_within_35 rfl rfl ?_
      -- X9_within: ('ret', 35)
      have c25 : w = 0 := by simpa using c24
      exact ⟨by rw [if_pos c25], ⟨_, x2⟩, o2⟩
    rw [if_neg (show ¬ w = 0 from c24)]
    refine R_iload_n dX9_within_36 rfl ?_
    refine R_iconst (v := nI 1) dX9_within_37 (by decide) ?_
    refine R_icmp_ne (tgt := 52) dX9_within_38 (by decide) (fun c38 => ?_) (fun c38 => ?_)
    -- X9_within: ('branch', 38, 52, 41)
    rotate_left
    · refine R_aload_n dX9_within_41 rfl ?_
      refine R_get K_9 (f := 10) (by decide) dX9_within_42 f_RX9_67 x2.1 rfl ?_
      refine R_iload_n dX9_within_45 rfl ?_
      -- X9_within: ('call', 46, '.invokevirtual', 272)
      refine R_callV v_X5_beginAt (Read_beginAt r i) dX9_within_46 l_RX9_272 rfl rfl r.1 (Nat.le_of_ble_eq_true rfl) (by omega) rfl rfl (fun v h3 hq => ?_)
      obtain ⟨rfl, e9⟩ := hq
      rw [e9]
      refine R_goto (tgt := 60) dX9_within_49 (by decide) ?_
      refine R_ireturn dX9_within_60 rfl rfl ?_
      -- X9_within: ('ret', 60)
      have c39 : w = nI 1 := by simpa using c38
      exact ⟨by rw [if_pos c39], ⟨_, x2⟩, o2⟩
    rw [if_neg (show ¬ w = nI 1 from c38)]
    refine R_aload_n dX9_within_52 rfl ?_
    refine R_get K_9 (f := 10) (by decide) dX9_within_53 f_RX9_67 x2.1 rfl ?_
    refine R_iload_n dX9_within_56 rfl ?_
    -- X9_within: ('call', 57, '.invokevirtual', 275)
    refine R_callV v_X5_depthAt (Read_depthAt r i) dX9_within_57 l_RX9_275 rfl rfl r.1 (Nat.le_of_ble_eq_true rfl) (by omega) rfl rfl (fun v h3 hq => ?_)
    obtain ⟨rfl, e9⟩ := hq
    rw [e9]
    refine R_ireturn dX9_within_60 rfl rfl ?_
    -- X9_within: ('ret', 60)
    exact ⟨rfl, ⟨_, x2⟩, o2⟩
theorem PP_common (x : PPAt E h X rd q ds im md tp ph fk fp) (hq : PkOk q) (i j : Int32) : Spec E k_X9_common 6 0 0 [.ref X, .int i, .int j] h (fun v h' => v = some (.int (if hasP (letL q.2 q.1).length i ∧ hasP (letL q.2 q.1).length j then nI (comN (letL q.2 q.1) i.toNatClampNeg j.toNatClampNeg) else -5)) ∧ (∃ rd, PPAt E h' X rd q ds im md tp ph fk fp) ∧ Out h h' X (X + 1830)) := by
  refine Spec.of (by decide +kernel) (by simp [Value.category]) (Nat.le_of_ble_eq_true rfl) ?_
  show WP E k_X9_common 6 0 0 0 [some (.ref X), some (.int i), some (.int j)] [] h _
  refine R_aload_n dX9_common_0 rfl ?_
  -- X9_common: ('call', 1, '.invokevirtual', 144)
  refine R_callV v_X9_read (PP_read x hq) dX9_common_1 l_RX9_144 rfl rfl x.1 (Nat.le_of_ble_eq_true rfl) (by omega) rfl rfl (fun v h2 hq => ?_)
  obtain ⟨rfl, x2, o2⟩ := hq
  obtain ⟨-, lo, la, r⟩ := x2.cach
  refine R_aload_n dX9_common_4 rfl ?_
  refine R_get K_9 (f := 10) (by decide) dX9_common_5 f_RX9_67 x2.1 rfl ?_
  refine R_iload_n dX9_common_8 rfl ?_
  -- X9_common: ('call', 9, '.invokevirtual', 217)
  refine R_callV v_X5_hasPlace (Read_hasPlace_any r i) dX9_common_9 l_RX9_217 rfl rfl r.1 (Nat.le_of_ble_eq_true rfl) (by omega) rfl rfl (fun v h3 hq => ?_)
  obtain ⟨rfl, e9⟩ := hq
  rw [e9]
  by_cases ci : hasP (letL q.2 q.1).length i
  · rw [if_pos ci]
    refine R_if_eq_N (tgt := 26) dX9_common_12 (by decide) (by omega) (fun c12 => ?_) (fun c12 => ?_)
    -- X9_common: ('branch', 12, 26, 15)
    · exact absurd c12 (by decide)
    · refine R_aload_n dX9_common_15 rfl ?_
      refine R_get K_9 (f := 10) (by decide) dX9_common_16 f_RX9_67 x2.1 rfl ?_
      refine R_iload_n dX9_common_19 rfl ?_
      -- X9_common: ('call', 20, '.invokevirtual', 217)
      refine R_callV v_X5_hasPlace (Read_hasPlace_any r j) dX9_common_20 l_RX9_217 rfl rfl r.1 (Nat.le_of_ble_eq_true rfl) (by omega) rfl rfl (fun v h4 hq => ?_)
      obtain ⟨rfl, e9⟩ := hq
      rw [e9]
      by_cases cj : hasP (letL q.2 q.1).length j
      · rw [if_pos cj]
        obtain ⟨n, hn, rfl⟩ := nI_of ci.1
        obtain ⟨m, hm, rfl⟩ := nI_of cj.1
        have c1 := ci.2
        have c2 := cj.2
        rw [nI_clamp hn] at c1
        rw [nI_clamp hm] at c2
        refine R_if_ne_N (tgt := 29) dX9_common_23 (by decide) (by omega) (fun c23 => ?_) (fun c23 => ?_)
        -- X9_common: ('branch', 23, 29, 26)
        · refine R_aload_n dX9_common_29 rfl ?_
          refine R_get K_9 (f := 10) (by decide) dX9_common_30 f_RX9_67 x2.1 rfl ?_
          refine R_iload_n dX9_common_33 rfl ?_
          refine R_iload_n dX9_common_34 rfl ?_
          -- X9_common: ('call', 35, '.invokevirtual', 281)
          refine R_callV v_X5_alikeFrom (Read_alikeFrom r (i := n) (j := m) (by omega) (by omega)) dX9_common_35 l_RX9_281 rfl rfl r.1 (Nat.le_of_ble_eq_true rfl) (by omega) rfl rfl (fun v h5 hq => ?_)
          obtain ⟨rfl, e9⟩ := hq
          rw [e9]
          refine R_ireturn dX9_common_38 rfl rfl ?_
          -- X9_common: ('ret', 38)
          exact ⟨by rw [if_pos ⟨ci, cj⟩, nI_clamp hn, nI_clamp hm], ⟨_, x2⟩, o2⟩
        · exact absurd c23 (by decide)
      · rw [if_neg cj]
        refine R_if_ne_N (tgt := 29) dX9_common_23 (by decide) (by omega) (fun c23 => ?_) (fun c23 => ?_)
        -- X9_common: ('branch', 23, 29, 26)
        · exact absurd rfl c23
        · refine R_bipush (v := (-5)) dX9_common_26 (by decide) ?_
          refine R_ireturn dX9_common_28 rfl rfl ?_
          -- X9_common: ('ret', 28)
          exact ⟨by rw [if_neg (fun z => cj z.2)], ⟨_, x2⟩, o2⟩
  · rw [if_neg ci]
    refine R_if_eq_N (tgt := 26) dX9_common_12 (by decide) (by omega) (fun c12 => ?_) (fun c12 => ?_)
    -- X9_common: ('branch', 12, 26, 15)
    · refine R_bipush (v := (-5)) dX9_common_26 (by decide) ?_
      refine R_ireturn dX9_common_28 rfl rfl ?_
      -- X9_common: ('ret', 28)
      exact ⟨by rw [if_neg (fun z => ci z.1)], ⟨_, x2⟩, o2⟩
    · exact absurd rfl c12
theorem PP_twice (x : PPAt E h X 1 q ds im md tp ph fk fp) {h2 : Hp} {lo la : Int32} (r : ReadAt E h2 (X + 1530) (letL q.2 q.1) (homL q.2 0 q.1) (begL q.2 0 q.1) (dpL q.2 q.1) lo la) (o : Out h h2 (X + 1530) (X + 1530 + 10)) : PPAt E h2 X 1 q ds im md tp ph fk fp := by
  obtain ⟨⟨re, le, w⟩, -⟩ := x.cach
  exact PPC.setCa (PPC.of x) (Or.inr ⟨rfl, ⟨re, le, w.ag (o.ag (by omega))⟩, lo, la, r⟩) (o.mono (by omega) (by omega))
theorem PP_repeat (x : PPAt E h X rd q ds im md tp ph fk fp) (hq : PkOk q) : Spec E k_X9_repeat 6 0 0 [.ref X] h (fun v h' => v = some (.int (nI (twS (letL q.2 q.1)))) ∧ (∃ rd, PPAt E h' X rd q ds im md tp ph fk fp) ∧ Out h h' X (X + 1830)) := by
  refine Spec.of (by decide +kernel) (by simp [Value.category]) (Nat.le_of_ble_eq_true rfl) ?_
  show WP E k_X9_repeat 6 0 0 0 [some (.ref X)] [] h _
  refine R_aload_n dX9_repeat_0 rfl ?_
  -- X9_repeat: ('call', 1, '.invokevirtual', 144)
  refine R_callV v_X9_read (PP_read x hq) dX9_repeat_1 l_RX9_144 rfl rfl x.1 (Nat.le_of_ble_eq_true rfl) (by omega) rfl rfl (fun v h2 hq => ?_)
  obtain ⟨rfl, x2, o2⟩ := hq
  obtain ⟨-, lo, la, r⟩ := x2.cach
  refine R_aload_n dX9_repeat_4 rfl ?_
  refine R_get K_9 (f := 10) (by decide) dX9_repeat_5 f_RX9_67 x2.1 rfl ?_
  -- X9_repeat: ('call', 8, '.invokevirtual', 285)
  refine R_callV v_X5_seekTwice (Read_seekTwice r) dX9_repeat_8 l_RX9_285 rfl rfl r.1 (Nat.le_of_ble_eq_true rfl) (by omega) rfl rfl (fun v h3 hq => ?_)
  obtain ⟨rfl, r3, o3⟩ := hq
  have x3 := PP_twice x2 r3 o3
  refine R_aload_n dX9_repeat_11 rfl ?_
  refine R_get K_9 (f := 10) (by decide) dX9_repeat_12 f_RX9_67 x3.1 rfl ?_
  -- X9_repeat: ('call', 15, '.invokevirtual', 288)
  refine R_callV v_X5_longestTwice (Read_longestTwice r3) dX9_repeat_15 l_RX9_288 rfl rfl r3.1 (Nat.le_of_ble_eq_true rfl) (by omega) rfl rfl (fun v h4 hq => ?_)
  obtain ⟨rfl, e9⟩ := hq
  rw [e9]
  refine R_ireturn dX9_repeat_18 rfl rfl ?_
  -- X9_repeat: ('ret', 18)
  exact ⟨rfl, ⟨_, x3⟩, o2.trans (o3.mono (by omega) (by omega))⟩
theorem PP_repeatAt (x : PPAt E h X rd q ds im md tp ph fk fp) (hq : PkOk q) : Spec E k_X9_repeatAt 6 0 0 [.ref X] h (fun v h' => v = some (.int (oI 0 (twAtS (letL q.2 q.1)))) ∧ (∃ rd, PPAt E h' X rd q ds im md tp ph fk fp) ∧ Out h h' X (X + 1830)) := by
  refine Spec.of (by decide +kernel) (by simp [Value.category]) (Nat.le_of_ble_eq_true rfl) ?_
  show WP E k_X9_repeatAt 6 0 0 0 [some (.ref X)] [] h _
  refine R_aload_n dX9_repeatAt_0 rfl ?_
  -- X9_repeatAt: ('call', 1, '.invokevirtual', 144)
  refine R_callV v_X9_read (PP_read x hq) dX9_repeatAt_1 l_RX9_144 rfl rfl x.1 (Nat.le_of_ble_eq_true rfl) (by omega) rfl rfl (fun v h2 hq => ?_)
  obtain ⟨rfl, x2, o2⟩ := hq
  obtain ⟨-, lo, la, r⟩ := x2.cach
  refine R_aload_n dX9_repeatAt_4 rfl ?_
  refine R_get K_9 (f := 10) (by decide) dX9_repeatAt_5 f_RX9_67 x2.1 rfl ?_
  -- X9_repeatAt: ('call', 8, '.invokevirtual', 285)
  refine R_callV v_X5_seekTwice (Read_seekTwice r) dX9_repeatAt_8 l_RX9_285 rfl rfl r.1 (Nat.le_of_ble_eq_true rfl) (by omega) rfl rfl (fun v h3 hq => ?_)
  obtain ⟨rfl, r3, o3⟩ := hq
  have x3 := PP_twice x2 r3 o3
  refine R_aload_n dX9_repeatAt_11 rfl ?_
  refine R_get K_9 (f := 10) (by decide) dX9_repeatAt_12 f_RX9_67 x3.1 rfl ?_
  -- X9_repeatAt: ('call', 15, '.invokevirtual', 291)
  refine R_callV v_X5_twiceAt (Read_twiceAt r3) dX9_repeatAt_15 l_RX9_291 rfl rfl r3.1 (Nat.le_of_ble_eq_true rfl) (by omega) rfl rfl (fun v h4 hq => ?_)
  obtain ⟨rfl, e9⟩ := hq
  rw [e9]
  refine R_ireturn dX9_repeatAt_18 rfl rfl ?_
  -- X9_repeatAt: ('ret', 18)
  exact ⟨rfl, ⟨_, x3⟩, o2.trans (o3.mono (by omega) (by omega))⟩
end PP3
