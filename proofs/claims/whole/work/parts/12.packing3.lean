/-! PACKING: rules given up -/
section PACK3
variable {E : EnvT} {h : Hp} {P : Nat} {sq : List Nat} {ru : Ru}
theorem Pack_canGiveUp (hP : PackAt E h P sq ru) {s : Nat} (hs : isRul ru s) : Spec E k_X2_canGiveUp 2 0 0 [.ref P, .int (nI s)] h (fun v h' => v = some (.int (nI (if canGo ru s then 1 else 0))) ∧ h' = h) := by
  obtain ⟨s1, s2, s3⟩ := hs
  have hl : 1 ≤ (ru (s - 26)).length := by
    have := mt List.length_eq_zero_iff.mp s3
    omega
  refine Spec.of (by decide +kernel) (by simp [Value.category]) (Nat.le_of_ble_eq_true rfl) ?_
  show WP E k_X2_canGiveUp 2 0 0 0 [some (.ref P), some (.int (nI s)), none, none] [] h _
  obtain ⟨g, hg, hg'⟩ := hP.arr
  have loop : ∀ m i, i + m = 60 → (∀ r, r < i → (ru r).length + (ru r).count s * ((ru (s - 26)).length - 1) ≤ 12) → WP E k_X2_canGiveUp 2 0 0 13 [some (.ref P), some (.int (nI s)), some (.int (nI ((ru (s - 26)).length - 1))), some (.int (nI i))] [] h (fun v h' => v = some (.int (nI (if canGo ru s then 1 else 0))) ∧ h' = h) := by
    intro m
    induction m with
    | zero =>
      intro i hi h0
      refine R_iload_n dX2_canGiveUp_13 rfl ?_
      refine R_bipush (v := nI 60) dX2_canGiveUp_14 (by decide) ?_
      refine R_icmp_ge_N (tgt := 54) dX2_canGiveUp_16 (by decide) (by omega) (by omega) (fun c16 => ?_) (fun c16 => ?_)
      -- X2_canGiveUp: ('branch', 16, 54, 19)
      · refine R_iconst (v := nI 1) dX2_canGiveUp_54 (by decide) ?_
        refine R_ireturn dX2_canGiveUp_55 rfl (by rfl) ?_
        -- X2_canGiveUp: ('ret', 55)
        exact ⟨by rw [if_pos (fun r hr => h0 r (by omega))], rfl⟩
      · exact absurd c16 (by omega)
    | succ m ih =>
      intro i hi h0
      have hr := hP.rul (i := i) (by omega)
      have hlr := hr.1
      have hls := (hP.rul (i := s - 26) (by omega)).1
      have hcl := List.count_le_length (a := s) (l := ru i)
      have hmul : (ru i).count s * ((ru (s - 26)).length - 1) ≤ 12 * 12 := Nat.mul_le_mul (by omega) (by omega)
      refine R_iload_n dX2_canGiveUp_13 rfl ?_
      refine R_bipush (v := nI 60) dX2_canGiveUp_14 (by decide) ?_
      refine R_icmp_ge_N (tgt := 54) dX2_canGiveUp_16 (by decide) (by omega) (by omega) (fun c16 => ?_) (fun c16 => ?_)
      -- X2_canGiveUp: ('branch', 16, 54, 19)
      · exact absurd c16 (by omega)
      · refine R_aload_n dX2_canGiveUp_19 rfl ?_
        refine R_get K_2 (f := 1) (by decide) dX2_canGiveUp_20 f_RX2_20 (by first | exact hP.1 | exact hg) rfl ?_
        refine R_iload_n dX2_canGiveUp_23 rfl ?_
        refine R_aaloadRow_N dX2_canGiveUp_24 (by first | exact hP.1 | exact hg) (by omega) (by omega) (hg' i (by omega)) ?_
        -- X2_canGiveUp: ('call', 25, '.invokevirtual', 31)
        refine R_callV v_X6_size (Row_size hr) dX2_canGiveUp_25 l_RX2_31 rfl rfl hr.2.2.1 (Nat.le_of_ble_eq_true rfl) (by omega) rfl rfl (fun v h1 hq => ?_)
        obtain ⟨rfl, rfl⟩ := hq
        refine R_aload_n dX2_canGiveUp_28 rfl ?_
        refine R_get K_2 (f := 1) (by decide) dX2_canGiveUp_29 f_RX2_20 (by first | exact hP.1 | exact hg) rfl ?_
        refine R_iload_n dX2_canGiveUp_32 rfl ?_
        refine R_aaloadRow_N dX2_canGiveUp_33 (by first | exact hP.1 | exact hg) (by omega) (by omega) (hg' i (by omega)) ?_
        refine R_iload_n dX2_canGiveUp_34 rfl ?_
        -- X2_canGiveUp: ('call', 35, '.invokevirtual', 49)
        refine R_callV v_X6_howMany (Row_howMany hr (by omega)) dX2_canGiveUp_35 l_RX2_49 rfl rfl hr.2.2.1 (Nat.le_of_ble_eq_true rfl) (by omega) rfl rfl (fun v h1 hq => ?_)
        obtain ⟨rfl, rfl⟩ := hq
        refine R_iload_n dX2_canGiveUp_38 rfl ?_
        refine R_imul_N dX2_canGiveUp_39 ?_
        refine R_iadd_N dX2_canGiveUp_40 ?_
        refine R_bipush (v := nI 12) dX2_canGiveUp_41 (by decide) ?_
        refine R_icmp_le_N (tgt := 48) dX2_canGiveUp_43 (by decide) (by omega) (by omega) (fun c43 => ?_) (fun c43 => ?_)
        -- X2_canGiveUp: ('branch', 43, 48, 46)
        · refine R_iinc3 dX2_canGiveUp_48 (by decide) (nI_inc _ 1) ?_
          refine R_goto (tgt := 13) dX2_canGiveUp_51 (by decide) ?_
          -- X2_canGiveUp: ('stop', 13)
          refine ih (i + 1) (by omega) (fun r hr => ?_)
          by_cases hri : r = i
          · rw [hri]; exact c43
          · exact h0 r (by omega)
        · refine R_iconst (v := nI 0) dX2_canGiveUp_46 (by decide) ?_
          refine R_ireturn dX2_canGiveUp_47 rfl (by rfl) ?_
          -- X2_canGiveUp: ('ret', 47)
          exact ⟨by rw [if_neg (fun z => absurd (z i (by omega)) (by omega))], rfl⟩
  refine R_aload_n dX2_canGiveUp_0 rfl ?_
  refine R_iload_n dX2_canGiveUp_1 rfl ?_
  -- X2_canGiveUp: ('call', 2, '.invokevirtual', 27)
  refine R_callV v_X2_rowOf (Pack_rowOf hP (s := s) (by omega)) dX2_canGiveUp_2 l_RX2_27 rfl rfl hP.1 (Nat.le_of_ble_eq_true rfl) (by omega) rfl rfl (fun v h1 hq => ?_)
  obtain ⟨rfl, rfl⟩ := hq
  rw [rowA_in ⟨s1, s2⟩]
  have hr := hP.rul (i := s - 26) (by omega)
  refine R_callV v_X6_size (Row_size hr) dX2_canGiveUp_5 l_RX2_31 rfl rfl hr.2.2.1 (Nat.le_of_ble_eq_true rfl) (by omega) rfl rfl (fun v h1 hq => ?_)
  obtain ⟨rfl, rfl⟩ := hq
  refine R_iconst (v := nI 1) dX2_canGiveUp_8 (by decide) ?_
  refine R_isub_N dX2_canGiveUp_9 (by omega) ?_
  refine R_istore2 dX2_canGiveUp_10 (by decide) ?_
  refine R_iconst (v := nI 0) dX2_canGiveUp_11 (by decide) ?_
  refine R_istore3 dX2_canGiveUp_12 (by decide) ?_
  -- X2_canGiveUp: ('stop', 13)
  exact loop 60 0 (by omega) (fun r hr => absurd hr (by omega))
/-- a row without the sign stays, whatever row is to be put in -/
theorem Row_spreadAll_none {r cap q s : Nat} {l : List Nat} (hR : RowAt E h r cap l) (hs : s < 65536) (h0 : l.count s = 0) : Spec E k_X6_spreadAll 4 0 0 [.ref r, .int (nI s), .ref q] h (fun v h' => v = none ∧ h' = h) := by
  refine Spec.of (by decide +kernel) (by simp [Value.category]) (Nat.le_of_ble_eq_true rfl) ?_
  show WP E k_X6_spreadAll 4 0 0 0 [some (.ref r), some (.int (nI s)), some (.ref q), none] [] h _
  obtain ⟨hc, hcap, hr, f, ha, hf⟩ := id hR
  have loop : ∀ m (iv : Int32), m ≤ l.length → (m = 0 → iv = -1) → (∀ j, m = j + 1 → iv = nI j) → WP E k_X6_spreadAll 4 0 0 7 [some (.ref r), some (.int (nI s)), some (.ref q), some (.int iv)] [] h (fun v h' => v = none ∧ h' = h) := by
    intro m
    induction m with
    | zero =>
      intro iv hm e0 e1
      rw [e0 rfl]
      refine R_iload_n dX6_spreadAll_7 rfl ?_
      refine R_if_lt (tgt := 33) dX6_spreadAll_8 (by decide) (fun c8 => ?_) (fun c8 => ?_)
      -- X6_spreadAll: ('branch', 8, 33, 11)
      · refine R_return dX6_spreadAll_33 rfl ?_
        -- X6_spreadAll: ('ret', 33)
        exact ⟨rfl, rfl⟩
      · exact absurd c8 (by decide)
    | succ m ih =>
      intro iv hm e0 e1
      rw [e1 m rfl]
      obtain ⟨y, hy⟩ := getE (l := l) (i := m) (by omega)
      have hy2 := hf m y hy
      have hne : ¬ y = s := by
        intro e
        subst e
        exact absurd (List.count_pos_iff.mpr (List.mem_of_getElem? hy)) (by omega)
      refine R_iload_n dX6_spreadAll_7 rfl ?_
      refine R_if_lt_N (tgt := 33) dX6_spreadAll_8 (by decide) (by omega) ?_
      refine R_aload_n dX6_spreadAll_11 rfl ?_
      refine R_get K_6 (f := 0) (by decide) dX6_spreadAll_12 f_RX6_15 (by first | exact hr | exact ha) rfl ?_
      refine R_iload_n dX6_spreadAll_15 rfl ?_
      refine R_iaload_N dX6_spreadAll_16 (by first | exact hr | exact ha) (by omega) (by omega) hy2.1 ?_
      refine R_iload_n dX6_spreadAll_17 rfl ?_
      refine R_icmp_ne_N (tgt := 27) dX6_spreadAll_18 (by decide) (by omega) (by omega) (fun c18 => ?_) (fun c18 => ?_)
      -- X6_spreadAll: ('branch', 18, 27, 21)
      · refine R_iinc3 dX6_spreadAll_27 (by decide) rfl ?_
        refine R_goto (tgt := 7) dX6_spreadAll_30 (by decide) ?_
        -- X6_spreadAll: ('stop', 7)
        refine ih _ (by omega) (fun e => ?_) (fun j e => ?_)
        · rw [e]; decide
        · rw [e]; exact nI_sub1 (a := j + 1) (by omega)
      · exact absurd c18 hne
  refine R_aload_n dX6_spreadAll_0 rfl ?_
  refine R_get K_6 (f := 1) (by decide) dX6_spreadAll_1 f_RX6_9 hr rfl ?_
  refine R_iconst (v := nI 1) dX6_spreadAll_4 (by decide) ?_
  refine R_isub dX6_spreadAll_5 ?_
  refine R_istore3 dX6_spreadAll_6 (by decide) ?_
  -- X6_spreadAll: ('stop', 7)
  refine loop l.length _ (Nat.le_refl _) (fun e => ?_) (fun j e => ?_)
  · rw [e]; decide
  · rw [e]; exact nI_pred j
theorem Pack_giveUp (hP : PackAt E h P sq ru) {s : Nat} (hs : isRul ru s) (hsq : (sub s (rowOf ru s) sq).length ≤ 240) (hgo : canGo ru s) (hself : (ru (s - 26)).count s = 0) : Spec E k_X2_giveUp 5 0 0 [.ref P, .int (nI s)] h (fun v h' => v = none ∧ PackAt E h' P (sub s (rowOf ru s) sq) (dropRu ru s) ∧ Out h h' P (P + 126)) := by
  obtain ⟨s1, s2, s3⟩ := hs
  have hrow : rowOf ru s = ru (s - 26) := rowOf_in ⟨s1, s2⟩
  have hl : 1 ≤ (ru (s - 26)).length := by
    have := mt List.length_eq_zero_iff.mp s3
    omega
  rw [hrow] at hsq ⊢
  refine Spec.of (by decide +kernel) (by simp [Value.category]) (Nat.le_of_ble_eq_true rfl) ?_
  show WP E k_X2_giveUp 5 0 0 0 [some (.ref P), some (.int (nI s)), none, none] [] h _
  have loop : ∀ m i h2 ru2, i + m = 60 → PackAt E h2 P (sub s (ru (s - 26)) sq) ru2 → (∀ r, r < i → ru2 r = sub s (ru (s - 26)) (ru r)) → (∀ r, i ≤ r → ru2 r = ru r) → Out h h2 P (P + 126) → WP E k_X2_giveUp 5 0 0 17 [some (.ref P), some (.int (nI s)), some (.ref (P + 6 + 2 * (s - 26))), some (.int (nI i))] [] h2 (fun v h' => v = none ∧ PackAt E h' P (sub s (ru (s - 26)) sq) (dropRu ru s) ∧ Out h h' P (P + 126)) := by
    intro m
    induction m with
    | zero =>
      intro i h2 ru2 hi hP2 hlo hhi o2
      refine R_iload_n dX2_giveUp_17 rfl ?_
      refine R_bipush (v := nI 60) dX2_giveUp_18 (by decide) ?_
      refine R_icmp_ge_N (tgt := 40) dX2_giveUp_20 (by decide) (by omega) (by omega) (fun c20 => ?_) (fun c20 => ?_)
      -- X2_giveUp: ('branch', 20, 40, 23)
      · refine R_aload_n dX2_giveUp_40 rfl ?_
        -- X2_giveUp: ('call', 41, '.invokevirtual', 42)
        have hr := hP2.rul (i := s - 26) (by omega)
        refine R_callV v_X6_clear (Row_clear hr) dX2_giveUp_41 l_RX2_42 rfl rfl hr.2.2.1 (Nat.le_of_ble_eq_true rfl) (by omega) rfl rfl (fun v h1 hq => ?_)
        obtain ⟨rfl, hr3, o3⟩ := hq
        refine R_return dX2_giveUp_44 rfl ?_
        -- X2_giveUp: ('ret', 44)
        have hP3 := hP2.setRule (i := s - 26) (by omega) hr3 o3
        refine ⟨rfl, ⟨hP3.1, hP3.2.1, hP3.2.2.1, hP3.2.2.2.1, fun j hj => ?_⟩, o2.trans (o3.mono (by omega) (by omega))⟩
        have e : dropRu ru s j = ruSet ru2 (s - 26) [] j := by
          by_cases hjs : j = s - 26
          · simp [dropRu, ruSet, hjs]
          · simp only [dropRu, ruSet, if_neg hjs]
            rw [hrow, hlo j (by omega)]
        rw [e]
        exact hP3.rul hj
      · exact absurd c20 (by omega)
    | succ m ih =>
      intro i h2 ru2 hi hP2 hlo hhi o2
      obtain ⟨g, hg, hg'⟩ := hP2.arr
      have hr := hP2.rul (i := i) (by omega)
      rw [hhi i (Nat.le_refl _)] at hr
      refine R_iload_n dX2_giveUp_17 rfl ?_
      refine R_bipush (v := nI 60) dX2_giveUp_18 (by decide) ?_
      refine R_icmp_ge_N (tgt := 40) dX2_giveUp_20 (by decide) (by omega) (by omega) (fun c20 => ?_) (fun c20 => ?_)
      -- X2_giveUp: ('branch', 20, 40, 23)
      · exact absurd c20 (by omega)
      · refine R_aload_n dX2_giveUp_23 rfl ?_
        refine R_get K_2 (f := 1) (by decide) dX2_giveUp_24 f_RX2_20 (by first | exact hP2.1 | exact hg) rfl ?_
        refine R_iload_n dX2_giveUp_27 rfl ?_
        refine R_aaloadRow_N dX2_giveUp_28 (by first | exact hP2.1 | exact hg) (by omega) (by omega) (hg' i (by omega)) ?_
        refine R_iload_n dX2_giveUp_29 rfl ?_
        refine R_aload_n dX2_giveUp_30 rfl ?_
        -- X2_giveUp: ('call', 31, '.invokevirtual', 74)
        by_cases his : i = s - 26
        · subst his
          refine R_callV v_X6_spreadAll (Row_spreadAll_none hr (by omega) hself) dX2_giveUp_31 l_RX2_74 rfl rfl hr.2.2.1 (Nat.le_of_ble_eq_true rfl) (by omega) rfl rfl (fun v h1 hq => ?_)
          obtain ⟨rfl, rfl⟩ := hq
          refine R_iinc3 dX2_giveUp_34 (by decide) (nI_inc _ 1) ?_
          refine R_goto (tgt := 17) dX2_giveUp_37 (by decide) ?_
          -- X2_giveUp: ('stop', 17)
          refine ih (s - 26 + 1) _ ru2 (by omega) hP2 (fun r hr => ?_) (fun r hr => hhi r (by omega)) o2
          by_cases hrs : r = s - 26
          · rw [hrs, hhi _ (Nat.le_refl _), sub_none _ hself]
          · exact hlo r (by omega)
        · have hb := hP2.rul (i := s - 26) (by omega)
          have eb : ru2 (s - 26) = ru (s - 26) := by
            by_cases hlt : s - 26 < i
            · rw [hlo _ hlt, sub_none _ hself]
            · exact hhi _ (by omega)
          rw [eb] at hb
          have hcnt := sub_count (s := s) (bl := ru (s - 26)) (ru i)
          have hgi := hgo i (by omega)
          have hmul : (ru i).count s * (ru (s - 26)).length = (ru i).count s * ((ru (s - 26)).length - 1) + (ru i).count s := by
            obtain ⟨z, hz⟩ : ∃ z, (ru (s - 26)).length = z + 1 := ⟨(ru (s - 26)).length - 1, by omega⟩
            rw [hz, Nat.add_sub_cancel, Nat.mul_add, Nat.mul_one]
          refine R_callV v_X6_spreadAll (Row_spreadAll hr hb (by omega) (by omega) hl (by omega)) dX2_giveUp_31 l_RX2_74 rfl rfl hr.2.2.1 (Nat.le_of_ble_eq_true rfl) (by omega) rfl rfl (fun v h1 hq => ?_)
          obtain ⟨rfl, hr3, o3⟩ := hq
          refine R_iinc3 dX2_giveUp_34 (by decide) (nI_inc _ 1) ?_
          refine R_goto (tgt := 17) dX2_giveUp_37 (by decide) ?_
          -- X2_giveUp: ('stop', 17)
          refine ih (i + 1) _ _ (by omega) (hP2.setRule (by omega) hr3 o3) (fun r hr => ?_) (fun r hr => ?_) (o2.trans (o3.mono (by omega) (by omega)))
          · by_cases hri : r = i
            · simp [ruSet, hri]
            · simp only [ruSet, if_neg hri]
              exact hlo r (by omega)
          · simp only [ruSet, if_neg (show ¬ r = i by omega)]
            exact hhi r (by omega)
  refine R_aload_n dX2_giveUp_0 rfl ?_
  refine R_iload_n dX2_giveUp_1 rfl ?_
  -- X2_giveUp: ('call', 2, '.invokevirtual', 27)
  refine R_callV v_X2_rowOf (Pack_rowOf hP (s := s) (by omega)) dX2_giveUp_2 l_RX2_27 rfl rfl hP.1 (Nat.le_of_ble_eq_true rfl) (by omega) rfl rfl (fun v h1 hq => ?_)
  obtain ⟨rfl, rfl⟩ := hq
  rw [rowA_in ⟨s1, s2⟩]
  refine R_astore2 dX2_giveUp_5 (by decide) ?_
  refine R_aload_n dX2_giveUp_6 rfl ?_
  refine R_get K_2 (f := 0) (by decide) dX2_giveUp_7 f_RX2_14 hP.1 rfl ?_
  refine R_iload_n dX2_giveUp_10 rfl ?_
  refine R_aload_n dX2_giveUp_11 rfl ?_
  -- X2_giveUp: ('call', 12, '.invokevirtual', 74)
  refine R_callV v_X6_spreadAll (Row_spreadAll hP.2.1 (hP.rul (i := s - 26) (by omega)) (by omega) (by omega) hl hsq) dX2_giveUp_12 l_RX2_74 rfl rfl hP.2.1.2.2.1 (Nat.le_of_ble_eq_true rfl) (by omega) rfl rfl (fun v h1 hq => ?_)
  obtain ⟨rfl, hr3, o3⟩ := hq
  refine R_iconst (v := nI 0) dX2_giveUp_15 (by decide) ?_
  refine R_istore3 dX2_giveUp_16 (by decide) ?_
  -- X2_giveUp: ('stop', 17)
  exact loop 60 0 _ ru (by omega) (hP.setSeq hr3 o3) (fun r hr => absurd hr (by omega)) (fun r _ => rfl) (o3.mono (by omega) (by omega))
theorem Pack_leastIdle (hP : PackAt E h P sq ru) : Spec E k_X2_leastIdle 3 0 0 [.ref P] h (fun v h' => v = some (.int (oI 26 (idleS sq ru))) ∧ h' = h) := by
  refine Spec.of (by decide +kernel) (by simp [Value.category]) (Nat.le_of_ble_eq_true rfl) ?_
  show WP E k_X2_leastIdle 3 0 0 0 [some (.ref P), none, none] [] h _
  have hsq := hP.2.1.1
  have loop : ∀ m i x2, i + m = 60 → fstB (fun i => decide (idleP sq ru i)) i = none → WP E k_X2_leastIdle 3 0 0 3 [some (.ref P), some (.int (nI (26 + i))), x2] [] h (fun v h' => v = some (.int (oI 26 (idleS sq ru))) ∧ h' = h) := by
    intro m
    induction m with
    | zero =>
      intro i x2 hi h0
      refine R_iload_n dX2_leastIdle_3 rfl ?_
      refine R_bipush (v := nI 86) dX2_leastIdle_4 (by decide) ?_
      refine R_icmp_ge_N (tgt := 48) dX2_leastIdle_6 (by decide) (by omega) (by omega) (fun c6 => ?_) (fun c6 => ?_)
      -- X2_leastIdle: ('branch', 6, 48, 9)
      · refine R_iconst (v := (-1)) dX2_leastIdle_48 (by decide) ?_
        refine R_ireturn dX2_leastIdle_49 rfl rfl ?_
        -- X2_leastIdle: ('ret', 49)
        have e60 : i = 60 := by omega
        subst e60
        exact ⟨by rw [idleS, h0]; rfl, rfl⟩
      · exact absurd c6 (by omega)
    | succ m ih =>
      intro i x2 hi h0
      have no : ∀ y2, ¬ idleP sq ru i → WP E k_X2_leastIdle 3 0 0 42 [some (.ref P), some (.int (nI (26 + i))), y2] [] h (fun v h' => v = some (.int (oI 26 (idleS sq ru))) ∧ h' = h) := by
        intro y2 hn
        refine R_iinc1 dX2_leastIdle_42 (by decide) (nI_inc _ 1) ?_
        refine R_goto (tgt := 3) dX2_leastIdle_45 (by decide) ?_
        -- X2_leastIdle: ('stop', 3)
        exact ih (i + 1) y2 (by omega) (fstB_step h0 (by simpa using hn))
      have yes : ∀ y2, idleP sq ru i → WP E k_X2_leastIdle 3 0 0 40 [some (.ref P), some (.int (nI (26 + i))), y2] [] h (fun v h' => v = some (.int (oI 26 (idleS sq ru))) ∧ h' = h) := by
        intro y2 hn
        refine R_iload_n dX2_leastIdle_40 rfl ?_
        refine R_ireturn dX2_leastIdle_41 rfl rfl ?_
        -- X2_leastIdle: ('ret', 41)
        exact ⟨by rw [idleS, fstB_at h0 (by simpa using hn) (show i < 60 by omega)]; rfl, rfl⟩
      refine R_iload_n dX2_leastIdle_3 rfl ?_
      refine R_bipush (v := nI 86) dX2_leastIdle_4 (by decide) ?_
      refine R_icmp_ge_N (tgt := 48) dX2_leastIdle_6 (by decide) (by omega) (by omega) (fun c6 => ?_) (fun c6 => ?_)
      -- X2_leastIdle: ('branch', 6, 48, 9)
      · exact absurd c6 (by omega)
      · refine R_aload_n dX2_leastIdle_9 rfl ?_
        refine R_iload_n dX2_leastIdle_10 rfl ?_
        -- X2_leastIdle: ('call', 11, '.invokevirtual', 39)
        refine R_callV v_X2_isRule (Pack_isRule hP (s := 26 + i) (by omega)) dX2_leastIdle_11 l_RX2_39 rfl rfl hP.1 (Nat.le_of_ble_eq_true rfl) (by omega) rfl rfl (fun v h1 hq => ?_)
        obtain ⟨rfl, rfl⟩ := hq
        by_cases hr : isRul ru (26 + i)
        · rw [if_pos hr]
          have hr' := hr.2.2
          rw [Nat.add_sub_cancel_left] at hr'
          have hub : usesS sq ru (26 + i) ≤ 240 + 60 * 12 := by
            have h1 := List.count_le_length (a := 26 + i) (l := sq)
            have h2 := sumB_le2 (f := fun r => (ru r).count (26 + i)) (c := 12) 60 (fun r hr => Nat.le_trans List.count_le_length (hP.rul hr).1)
            simp only [usesS]; omega
          refine R_if_eq_N (tgt := 42) dX2_leastIdle_14 (by decide) (by omega) (fun c14 => ?_) (fun c14 => ?_)
          -- X2_leastIdle: ('branch', 14, 42, 17)
          · exact absurd c14 (by decide)
          · refine R_aload_n dX2_leastIdle_17 rfl ?_
            refine R_iload_n dX2_leastIdle_18 rfl ?_
            -- X2_leastIdle: ('call', 19, '.invokevirtual', 78)
            refine R_callV v_X2_usesOf (Pack_usesOf hP (s := 26 + i) (by omega)) dX2_leastIdle_19 l_RX2_78 rfl rfl hP.1 (Nat.le_of_ble_eq_true rfl) (by omega) rfl rfl (fun v h1 hq => ?_)
            obtain ⟨rfl, rfl⟩ := hq
            refine R_istore2 dX2_leastIdle_22 (by decide) ?_
            refine R_iload_n dX2_leastIdle_23 rfl ?_
            refine R_if_eq_N (tgt := 40) dX2_leastIdle_24 (by decide) (by omega) (fun c24 => ?_) (fun c24 => ?_)
            -- X2_leastIdle: ('branch', 24, 40, 27)
            · exact yes _ ⟨hr', Or.inl c24⟩
            · refine R_iload_n dX2_leastIdle_27 rfl ?_
              refine R_iconst (v := nI 1) dX2_leastIdle_28 (by decide) ?_
              refine R_icmp_ne_N (tgt := 42) dX2_leastIdle_29 (by decide) (by omega) (by omega) (fun c29 => ?_) (fun c29 => ?_)
              -- X2_leastIdle: ('branch', 29, 42, 32)
              · exact no _ (fun z => z.2.elim c24 (fun q => c29 q.1))
              · refine R_aload_n dX2_leastIdle_32 rfl ?_
                refine R_iload_n dX2_leastIdle_33 rfl ?_
                -- X2_leastIdle: ('call', 34, '.invokevirtual', 81)
                refine R_callV v_X2_canGiveUp (Pack_canGiveUp hP hr) dX2_leastIdle_34 l_RX2_81 rfl rfl hP.1 (Nat.le_of_ble_eq_true rfl) (by omega) rfl rfl (fun v h1 hq => ?_)
                obtain ⟨rfl, rfl⟩ := hq
                by_cases hg : canGo ru (26 + i)
                · rw [if_pos hg]
                  refine R_if_eq_N (tgt := 42) dX2_leastIdle_37 (by decide) (by omega) (fun c37 => ?_) (fun c37 => ?_)
                  -- X2_leastIdle: ('branch', 37, 42, 40)
                  · exact absurd c37 (by decide)
                  · exact yes _ ⟨hr', Or.inr ⟨c29, hg⟩⟩
                · rw [if_neg hg]
                  refine R_if_eq_N (tgt := 42) dX2_leastIdle_37 (by decide) (by omega) (fun c37 => ?_) (fun c37 => ?_)
                  -- X2_leastIdle: ('branch', 37, 42, 40)
                  · exact no _ (fun z => z.2.elim c24 (fun q => hg q.2))
                  · exact absurd rfl c37
        · rw [if_neg hr]
          refine R_if_eq_N (tgt := 42) dX2_leastIdle_14 (by decide) (by omega) (fun c14 => ?_) (fun c14 => ?_)
          -- X2_leastIdle: ('branch', 14, 42, 17)
          · refine no _ (fun z => hr ⟨by omega, by omega, ?_⟩)
            rw [Nat.add_sub_cancel_left]
            exact z.1
          · exact absurd rfl c14
  refine R_bipush (v := nI 26) dX2_leastIdle_0 (by decide) ?_
  refine R_istore1 dX2_leastIdle_2 (by decide) ?_
  -- X2_leastIdle: ('stop', 3)
  exact loop 60 0 none (by omega) rfl
end PACK3
