/-! PAIRPACKER: pairs -/
abbrev sgI (ru : Ru) (x : Int32) : Prop := ¬ x < 0 ∧ isSg ru x.toNatClampNeg
abbrev rlI (ru : Ru) (x : Int32) : Prop := ¬ x < 0 ∧ isRul ru x.toNatClampNeg
abbrev ltI (x : Int32) : Prop := ¬ x < 0 ∧ x.toNatClampNeg < 26
theorem sgI_nI {ru : Ru} {n : Nat} (hn : n < 2 ^ 31) : sgI ru (nI n) ↔ isSg ru n := by
  rw [sgI, nI_clamp hn]; exact ⟨fun z => z.2, fun z => ⟨nI_pos hn, z⟩⟩
theorem rlI_nI {ru : Ru} {n : Nat} (hn : n < 2 ^ 31) : rlI ru (nI n) ↔ isRul ru n := by
  rw [rlI, nI_clamp hn]; exact ⟨fun z => z.2, fun z => ⟨nI_pos hn, z⟩⟩
theorem ltI_nI {n : Nat} (hn : n < 2 ^ 31) : ltI (nI n) ↔ n < 26 := by
  rw [ltI, nI_clamp hn]; exact ⟨fun z => z.2, fun z => ⟨nI_pos hn, z⟩⟩
theorem sgI_get {ru : Ru} {x : Int32} (hx : sgI ru x) : ∃ n, x = nI n ∧ isSg ru n ∧ n < 86 := by
  obtain ⟨n, hn, rfl⟩ := nI_of hx.1
  have := (sgI_nI hn).mp hx
  exact ⟨n, rfl, this, isSg_lt this⟩
theorem rlI_get {ru : Ru} {x : Int32} (hx : rlI ru x) : ∃ n, x = nI n ∧ isRul ru n := by
  obtain ⟨n, hn, rfl⟩ := nI_of hx.1
  exact ⟨n, rfl, (rlI_nI hn).mp hx⟩
theorem ltI_get {x : Int32} (hx : ltI x) : ∃ n, x = nI n ∧ n < 26 := by
  obtain ⟨n, hn, rfl⟩ := nI_of hx.1
  exact ⟨n, rfl, (ltI_nI hn).mp hx⟩
theorem if_iff {p p2 : Prop} [Decidable p] [Decidable p2] {α : Type} {a b : α} (h : p ↔ p2) : (if p then a else b) = if p2 then a else b := by
  by_cases c : p
  · rw [if_pos c, if_pos (h.mp c)]
  · rw [if_neg c, if_neg (fun z => c (h.mpr z))]
section PP5
variable {E : EnvT} {h h1 : Hp} {X P rd : Nat} {sq : List Nat} {ru : Ru} {q : Pk} {ds : List Pk} {im : Nat → Pk} {md : Nat → Nat} {tp ph : List Nat} {fk fp : Int32}
theorem Pack_has_any (hP : PackAt E h P sq ru) (x : Int32) : Spec E k_X2_has 3 0 0 [.ref P, .int x] h (fun v h' => v = some (.int (nI (if sgI ru x then 1 else 0))) ∧ h' = h) := by
  by_cases hx : x < 0
  · have := Pack_has_neg hP hx
    rwa [if_neg (fun z => z.1 hx)]
  · obtain ⟨n, hn, rfl⟩ := nI_of hx
    have := Pack_has hP hn
    rwa [if_iff (sgI_nI hn)]
theorem Pack_isRule_any (hP : PackAt E h P sq ru) (x : Int32) : Spec E k_X2_isRule 2 0 0 [.ref P, .int x] h (fun v h' => v = some (.int (nI (if rlI ru x then 1 else 0))) ∧ h' = h) := by
  by_cases hx : x < 0
  · have := Pack_isRule_neg hP hx
    rwa [if_neg (fun z => z.1 hx)]
  · obtain ⟨n, hn, rfl⟩ := nI_of hx
    have := Pack_isRule hP hn
    rwa [if_iff (rlI_nI hn)]
theorem isLetter_any (x : Int32) : Spec E k_X9_isLetter 1 0 0 [.int x] h (fun v h' => v = some (.int (nI (if ltI x then 1 else 0))) ∧ h' = h) := by
  by_cases hx : x < 0
  · have := isLetter_neg (E := E) (h := h) hx
    rwa [if_neg (fun z => z.1 hx)]
  · obtain ⟨n, hn, rfl⟩ := nI_of hx
    have := isLetter_N (E := E) (h := h) hn
    rwa [if_iff (ltI_nI hn)]
/-- the pair table's count of a pair -/
theorem pcf_at {l : List Nat} {a b : Nat} (hb : b < 86) : pcf l (86 * a + b) = cntG l a b := by
  rw [pcf, (pair_dm hb).1, (pair_dm hb).2]
theorem PP_pairs_no (x : PPAt E h X rd q ds im md tp ph fk fp) {a b : Int32} (hn : ¬ (sgI q.2 a ∧ sgI q.2 b)) : Spec E k_X9_pairs 4 0 0 [.ref X, .int a, .int b] h (fun v h' => v = some (.int (-2)) ∧ h' = h) := by
  have hP := x.2.1
  refine Spec.of (by decide +kernel) (by simp [Value.category]) (Nat.le_of_ble_eq_true rfl) ?_
  show WP E k_X9_pairs 4 0 0 0 [some (.ref X), some (.int a), some (.int b)] [] h _
  refine R_aload_n dX9_pairs_0 rfl ?_
  refine R_get K_9 (f := 0) (by decide) dX9_pairs_1 f_RX9_12 x.1 rfl ?_
  refine R_iload_n dX9_pairs_4 rfl ?_
  -- X9_pairs: ('call', 5, '.invokevirtual', 188)
  refine R_callV v_X2_has (Pack_has_any hP a) dX9_pairs_5 l_RX9_188 rfl rfl hP.1 (Nat.le_of_ble_eq_true rfl) (by omega) rfl rfl (fun v h2 hq => ?_)
  obtain ⟨rfl, e9⟩ := hq
  rw [e9]
  by_cases ha : sgI q.2 a
  · rw [if_pos ha]
    refine R_if_eq_N (tgt := 22) dX9_pairs_8 (by decide) (by omega) (fun c8 => ?_) (fun c8 => ?_)
    -- X9_pairs: ('branch', 8, 22, 11)
    · exact absurd c8 (by decide)
    · refine R_aload_n dX9_pairs_11 rfl ?_
      refine R_get K_9 (f := 0) (by decide) dX9_pairs_12 f_RX9_12 x.1 rfl ?_
      refine R_iload_n dX9_pairs_15 rfl ?_
      -- X9_pairs: ('call', 16, '.invokevirtual', 188)
      refine R_callV v_X2_has (Pack_has_any hP b) dX9_pairs_16 l_RX9_188 rfl rfl hP.1 (Nat.le_of_ble_eq_true rfl) (by omega) rfl rfl (fun v h3 hq => ?_)
      obtain ⟨rfl, e9⟩ := hq
      rw [e9, if_neg (fun z => hn ⟨ha, z⟩)]
      refine R_if_ne_N (tgt := 25) dX9_pairs_19 (by decide) (by omega) (fun c19 => ?_) (fun c19 => ?_)
      -- X9_pairs: ('branch', 19, 25, 22)
      · exact absurd rfl c19
      · refine R_bipush (v := (-2)) dX9_pairs_22 (by decide) ?_
        refine R_ireturn dX9_pairs_24 rfl rfl ?_
        -- X9_pairs: ('ret', 24)
        exact ⟨rfl, rfl⟩
  · rw [if_neg ha]
    refine R_if_eq_N (tgt := 22) dX9_pairs_8 (by decide) (by omega) (fun c8 => ?_) (fun c8 => ?_)
    -- X9_pairs: ('branch', 8, 22, 11)
    · refine R_bipush (v := (-2)) dX9_pairs_22 (by decide) ?_
      refine R_ireturn dX9_pairs_24 rfl rfl ?_
      -- X9_pairs: ('ret', 24)
      exact ⟨rfl, rfl⟩
    · exact absurd rfl c8
theorem PP_pairs (x : PPAt E h X rd q ds im md tp ph fk fp) (hq : PkOk q) {a b : Nat} (ha : isSg q.2 a) (hb : isSg q.2 b) : Spec E k_X9_pairs 4 0 0 [.ref X, .int (nI a), .int (nI b)] h (fun v h' => v = some (.int (nI (cntG q.1 a b))) ∧ (∃ rd, PPAt E h' X rd q ds im md tp ph fk fp) ∧ Out h h' X (X + 1830)) := by
  have hP := x.2.1
  have t := x.2.2.2.2.2.2.2.2.2.2.1
  have h86 : ∀ y ∈ q.1, y < 86 := fun y hy => isSg_lt (hq.2.1 y hy)
  have ha2 := isSg_lt ha
  have hb2 := isSg_lt hb
  refine Spec.of (by decide +kernel) (by simp [Value.category]) (Nat.le_of_ble_eq_true rfl) ?_
  show WP E k_X9_pairs 4 0 0 0 [some (.ref X), some (.int (nI a)), some (.int (nI b))] [] h _
  refine R_aload_n dX9_pairs_0 rfl ?_
  refine R_get K_9 (f := 0) (by decide) dX9_pairs_1 f_RX9_12 x.1 rfl ?_
  refine R_iload_n dX9_pairs_4 rfl ?_
  -- X9_pairs: ('call', 5, '.invokevirtual', 188)
  refine R_callV v_X2_has (Pack_has hP (by omega)) dX9_pairs_5 l_RX9_188 rfl rfl hP.1 (Nat.le_of_ble_eq_true rfl) (by omega) rfl rfl (fun v h2 hq => ?_)
  obtain ⟨rfl, e9⟩ := hq
  rw [e9, if_pos ha]
  refine R_if_eq_N (tgt := 22) dX9_pairs_8 (by decide) (by omega) (fun c8 => ?_) (fun c8 => ?_)
  -- X9_pairs: ('branch', 8, 22, 11)
  · exact absurd c8 (by decide)
  · refine R_aload_n dX9_pairs_11 rfl ?_
    refine R_get K_9 (f := 0) (by decide) dX9_pairs_12 f_RX9_12 x.1 rfl ?_
    refine R_iload_n dX9_pairs_15 rfl ?_
    -- X9_pairs: ('call', 16, '.invokevirtual', 188)
    refine R_callV v_X2_has (Pack_has hP (by omega)) dX9_pairs_16 l_RX9_188 rfl rfl hP.1 (Nat.le_of_ble_eq_true rfl) (by omega) rfl rfl (fun v h3 hq => ?_)
    obtain ⟨rfl, e9⟩ := hq
    rw [e9, if_pos hb]
    refine R_if_ne_N (tgt := 25) dX9_pairs_19 (by decide) (by omega) (fun c19 => ?_) (fun c19 => ?_)
    -- X9_pairs: ('branch', 19, 25, 22)
    · refine R_aload_n dX9_pairs_25 rfl ?_
      refine R_get K_9 (f := 14) (by decide) dX9_pairs_26 f_RX9_84 x.1 rfl ?_
      refine R_aload_n dX9_pairs_29 rfl ?_
      refine R_get K_9 (f := 0) (by decide) dX9_pairs_30 f_RX9_12 x.1 rfl ?_
      -- X9_pairs: ('call', 33, '.invokevirtual', 135)
      refine R_callV v_X2_sequence (Pack_sequence hP) dX9_pairs_33 l_RX9_135 rfl rfl hP.1 (Nat.le_of_ble_eq_true rfl) (by omega) rfl rfl (fun v h4 hq => ?_)
      obtain ⟨rfl, e9⟩ := hq
      rw [e9]
      refine R_callV v_X3_tally (PT_tally t hP.2.1 h86 hP.2.1.1 (by omega)) dX9_pairs_36 l_RX9_168 rfl rfl t.choose_spec.choose_spec.1.1 (Nat.le_of_ble_eq_true rfl) (by omega) rfl rfl (fun v h5 hq => ?_)
      obtain ⟨rfl, ⟨st, t3⟩, o3⟩ := hq
      have x3 := x.scr (x.2.2.2.2.2.2.2.pt t3.any o3) o3 (by omega)
      refine R_aload_n dX9_pairs_39 rfl ?_
      refine R_get K_9 (f := 14) (by decide) dX9_pairs_40 f_RX9_84 x3.1 rfl ?_
      refine R_iload_n dX9_pairs_43 rfl ?_
      refine R_iload_n dX9_pairs_44 rfl ?_
      -- X9_pairs: ('call', 45, '.invokevirtual', 191)
      refine R_callV v_X3_countOf (PT_countOf t3.1 ha2 hb2) dX9_pairs_45 l_RX9_191 rfl rfl t3.1.1 (Nat.le_of_ble_eq_true rfl) (by omega) rfl rfl (fun v h6 hq => ?_)
      obtain ⟨rfl, e9⟩ := hq
      rw [e9, pcf_at hb2]
      refine R_ireturn dX9_pairs_48 rfl rfl ?_
      -- X9_pairs: ('ret', 48)
      exact ⟨rfl, ⟨_, x3⟩, o3.mono (by omega) (by omega)⟩
    · exact absurd c19 (by decide)
theorem PP_gain_no (x : PPAt E h X rd q ds im md tp ph fk fp) {a b : Int32} (hn : ¬ (sgI q.2 a ∧ sgI q.2 b)) : Spec E k_X9_gain 4 0 0 [.ref X, .int a, .int b] h (fun v h' => v = some (.int (-2)) ∧ h' = h) := by
  have hP := x.2.1
  refine Spec.of (by decide +kernel) (by simp [Value.category]) (Nat.le_of_ble_eq_true rfl) ?_
  show WP E k_X9_gain 4 0 0 0 [some (.ref X), some (.int a), some (.int b), none] [] h _
  refine R_aload_n dX9_gain_0 rfl ?_
  refine R_get K_9 (f := 0) (by decide) dX9_gain_1 f_RX9_12 x.1 rfl ?_
  refine R_iload_n dX9_gain_4 rfl ?_
  -- X9_gain: ('call', 5, '.invokevirtual', 188)
  refine R_callV v_X2_has (Pack_has_any hP a) dX9_gain_5 l_RX9_188 rfl rfl hP.1 (Nat.le_of_ble_eq_true rfl) (by omega) rfl rfl (fun v h2 hq => ?_)
  obtain ⟨rfl, e9⟩ := hq
  rw [e9]
  by_cases ha : sgI q.2 a
  · rw [if_pos ha]
    refine R_if_eq_N (tgt := 22) dX9_gain_8 (by decide) (by omega) (fun c8 => ?_) (fun c8 => ?_)
    -- X9_gain: ('branch', 8, 22, 11)
    · exact absurd c8 (by decide)
    · refine R_aload_n dX9_gain_11 rfl ?_
      refine R_get K_9 (f := 0) (by decide) dX9_gain_12 f_RX9_12 x.1 rfl ?_
      refine R_iload_n dX9_gain_15 rfl ?_
      -- X9_gain: ('call', 16, '.invokevirtual', 188)
      refine R_callV v_X2_has (Pack_has_any hP b) dX9_gain_16 l_RX9_188 rfl rfl hP.1 (Nat.le_of_ble_eq_true rfl) (by omega) rfl rfl (fun v h3 hq => ?_)
      obtain ⟨rfl, e9⟩ := hq
      rw [e9, if_neg (fun z => hn ⟨ha, z⟩)]
      refine R_if_ne_N (tgt := 25) dX9_gain_19 (by decide) (by omega) (fun c19 => ?_) (fun c19 => ?_)
      -- X9_gain: ('branch', 19, 25, 22)
      · exact absurd rfl c19
      · refine R_bipush (v := (-2)) dX9_gain_22 (by decide) ?_
        refine R_ireturn dX9_gain_24 rfl rfl ?_
        -- X9_gain: ('ret', 24)
        exact ⟨rfl, rfl⟩
  · rw [if_neg ha]
    refine R_if_eq_N (tgt := 22) dX9_gain_8 (by decide) (by omega) (fun c8 => ?_) (fun c8 => ?_)
    -- X9_gain: ('branch', 8, 22, 11)
    · refine R_bipush (v := (-2)) dX9_gain_22 (by decide) ?_
      refine R_ireturn dX9_gain_24 rfl rfl ?_
      -- X9_gain: ('ret', 24)
      exact ⟨rfl, rfl⟩
    · exact absurd rfl c8
/-- the gain of a pair, as it is told -/
def gainI (q : Pk) (a b : Nat) : Int32 := if cntG q.1 a b = 0 then -5 else if (ruleS q.2 a b).isSome then nI (cntG q.1 a b) else nI (cntG q.1 a b) - nI 2
theorem PP_gain (x : PPAt E h X rd q ds im md tp ph fk fp) (hq : PkOk q) {a b : Nat} (ha : isSg q.2 a) (hb : isSg q.2 b) : Spec E k_X9_gain 4 0 0 [.ref X, .int (nI a), .int (nI b)] h (fun v h' => v = some (.int (gainI q a b)) ∧ (∃ rd, PPAt E h' X rd q ds im md tp ph fk fp) ∧ Out h h' X (X + 1830)) := by
  have hP := x.2.1
  have t := x.2.2.2.2.2.2.2.2.2.2.1
  have h86 : ∀ y ∈ q.1, y < 86 := fun y hy => isSg_lt (hq.2.1 y hy)
  have ha2 := isSg_lt ha
  have hb2 := isSg_lt hb
  have hcl : cntG q.1 a b ≤ 240 := Nat.le_trans cntG_le hP.2.1.1
  refine Spec.of (by decide +kernel) (by simp [Value.category]) (Nat.le_of_ble_eq_true rfl) ?_
  show WP E k_X9_gain 4 0 0 0 [some (.ref X), some (.int (nI a)), some (.int (nI b)), none] [] h _
  refine R_aload_n dX9_gain_0 rfl ?_
  refine R_get K_9 (f := 0) (by decide) dX9_gain_1 f_RX9_12 x.1 rfl ?_
  refine R_iload_n dX9_gain_4 rfl ?_
  -- X9_gain: ('call', 5, '.invokevirtual', 188)
  refine R_callV v_X2_has (Pack_has hP (by omega)) dX9_gain_5 l_RX9_188 rfl rfl hP.1 (Nat.le_of_ble_eq_true rfl) (by omega) rfl rfl (fun v h2 hq => ?_)
  obtain ⟨rfl, e9⟩ := hq
  rw [e9, if_pos ha]
  refine R_if_eq_N (tgt := 22) dX9_gain_8 (by decide) (by omega) (fun c8 => ?_) (fun c8 => ?_)
  -- X9_gain: ('branch', 8, 22, 11)
  · exact absurd c8 (by decide)
  · refine R_aload_n dX9_gain_11 rfl ?_
    refine R_get K_9 (f := 0) (by decide) dX9_gain_12 f_RX9_12 x.1 rfl ?_
    refine R_iload_n dX9_gain_15 rfl ?_
    -- X9_gain: ('call', 16, '.invokevirtual', 188)
    refine R_callV v_X2_has (Pack_has hP (by omega)) dX9_gain_16 l_RX9_188 rfl rfl hP.1 (Nat.le_of_ble_eq_true rfl) (by omega) rfl rfl (fun v h3 hq => ?_)
    obtain ⟨rfl, e9⟩ := hq
    rw [e9, if_pos hb]
    refine R_if_ne_N (tgt := 25) dX9_gain_19 (by decide) (by omega) (fun c19 => ?_) (fun c19 => ?_)
    -- X9_gain: ('branch', 19, 25, 22)
    · refine R_aload_n dX9_gain_25 rfl ?_
      refine R_get K_9 (f := 14) (by decide) dX9_gain_26 f_RX9_84 x.1 rfl ?_
      refine R_aload_n dX9_gain_29 rfl ?_
      refine R_get K_9 (f := 0) (by decide) dX9_gain_30 f_RX9_12 x.1 rfl ?_
      -- X9_gain: ('call', 33, '.invokevirtual', 135)
      refine R_callV v_X2_sequence (Pack_sequence hP) dX9_gain_33 l_RX9_135 rfl rfl hP.1 (Nat.le_of_ble_eq_true rfl) (by omega) rfl rfl (fun v h4 hq => ?_)
      obtain ⟨rfl, e9⟩ := hq
      rw [e9]
      refine R_callV v_X3_tally (PT_tally t hP.2.1 h86 hP.2.1.1 (by omega)) dX9_gain_36 l_RX9_168 rfl rfl t.choose_spec.choose_spec.1.1 (Nat.le_of_ble_eq_true rfl) (by omega) rfl rfl (fun v h5 hq => ?_)
      obtain ⟨rfl, ⟨st, t3⟩, o3⟩ := hq
      have x3 := x.scr (x.2.2.2.2.2.2.2.pt t3.any o3) o3 (by omega)
      refine R_aload_n dX9_gain_39 rfl ?_
      refine R_get K_9 (f := 14) (by decide) dX9_gain_40 f_RX9_84 x3.1 rfl ?_
      refine R_iload_n dX9_gain_43 rfl ?_
      refine R_iload_n dX9_gain_44 rfl ?_
      -- X9_gain: ('call', 45, '.invokevirtual', 191)
      refine R_callV v_X3_countOf (PT_countOf t3.1 ha2 hb2) dX9_gain_45 l_RX9_191 rfl rfl t3.1.1 (Nat.le_of_ble_eq_true rfl) (by omega) rfl rfl (fun v h6 hq => ?_)
      obtain ⟨rfl, e9⟩ := hq
      rw [e9, pcf_at hb2]
      refine R_istore3 dX9_gain_48 (by decide) ?_
      refine R_iload_n dX9_gain_49 rfl ?_
      refine R_if_ne_N (tgt := 56) dX9_gain_50 (by decide) (by omega) (fun c50 => ?_) (fun c50 => ?_)
      -- X9_gain: ('branch', 50, 56, 53)
      · refine R_aload_n dX9_gain_56 rfl ?_
        refine R_get K_9 (f := 0) (by decide) dX9_gain_57 f_RX9_12 x3.1 rfl ?_
        refine R_iload_n dX9_gain_60 rfl ?_
        refine R_iload_n dX9_gain_61 rfl ?_
        -- X9_gain: ('call', 62, '.invokevirtual', 301)
        refine R_callV v_X2_ruleOf (Pack_ruleOf x3.2.1 (by omega) (by omega)) dX9_gain_62 l_RX9_301 rfl rfl x3.2.1.1 (Nat.le_of_ble_eq_true rfl) (by omega) rfl rfl (fun v h7 hq => ?_)
        obtain ⟨rfl, e9⟩ := hq
        rw [e9]
        cases hr : ruleS q.2 a b with
        | none =>
          refine R_iconst (v := (-1)) dX9_gain_65 (by decide) ?_
          refine R_icmp_ne (tgt := 75) dX9_gain_66 (by decide) (fun c66 => ?_) (fun c66 => ?_)
          -- X9_gain: ('branch', 66, 75, 69)
          · exact absurd rfl c66
          · refine R_iload_n dX9_gain_69 rfl ?_
            refine R_iconst (v := nI 2) dX9_gain_70 (by decide) ?_
            refine R_isub dX9_gain_71 ?_
            refine R_goto (tgt := 76) dX9_gain_72 (by decide) ?_
            refine R_ireturn dX9_gain_76 rfl rfl ?_
            -- X9_gain: ('ret', 76)
            exact ⟨by rw [gainI, if_neg c50, hr]; rfl, ⟨_, x3⟩, o3.mono (by omega) (by omega)⟩
        | some i =>
          have hi : i < 60 := fst_lt hr
          refine R_iconst (v := (-1)) dX9_gain_65 (by decide) ?_
          refine R_icmp_ne (tgt := 75) dX9_gain_66 (by decide) (fun c66 => ?_) (fun c66 => ?_)
          -- X9_gain: ('branch', 66, 75, 69)
          · refine R_iload_n dX9_gain_75 rfl ?_
            refine R_ireturn dX9_gain_76 rfl rfl ?_
            -- X9_gain: ('ret', 76)
            exact ⟨by rw [gainI, if_neg c50, hr]; rfl, ⟨_, x3⟩, o3.mono (by omega) (by omega)⟩
          · exact absurd c66 (nI_ne_m1 (n := 26 + i) (by omega))
      · refine R_bipush (v := (-5)) dX9_gain_53 (by decide) ?_
        refine R_ireturn dX9_gain_55 rfl rfl ?_
        -- X9_gain: ('ret', 55)
        exact ⟨by rw [gainI, if_pos c50], ⟨_, x3⟩, o3.mono (by omega) (by omega)⟩
    · exact absurd c19 (by decide)
theorem PP_pick (x : PPAt E h X rd q ds im md tp ph fk fp) (hq : PkOk q) {i : Nat} (hi : i < 2 ^ 31) : Spec E k_X9_pick 5 0 0 [.ref X, .int (nI i)] h (fun v h' => (∃ r, v = some (.int (r.elim (-1) (fun p => nI (100 * (p / 86) + p % 86)))) ∧ RankIs (pcf q.1) i r) ∧ (∃ rd, PPAt E h' X rd q ds im md tp ph fk fp) ∧ Out h h' X (X + 1830)) := by
  have t := x.2.2.2.2.2.2.2.2.2.2.1
  have hP := x.2.1
  have h86 : ∀ y ∈ q.1, y < 86 := fun y hy => isSg_lt (hq.2.1 y hy)
  refine Spec.of (by decide +kernel) (by simp [Value.category]) (Nat.le_of_ble_eq_true rfl) ?_
  show WP E k_X9_pick 5 0 0 0 [some (.ref X), some (.int (nI i)), none] [] h _
  refine R_iload_n dX9_pick_0 rfl ?_
  refine R_if_ge_N (tgt := 7) dX9_pick_1 (by decide) (by omega) ?_
  refine R_aload_n dX9_pick_7 rfl ?_
  refine R_get K_9 (f := 14) (by decide) dX9_pick_8 f_RX9_84 x.1 rfl ?_
  refine R_aload_n dX9_pick_11 rfl ?_
  refine R_get K_9 (f := 0) (by decide) dX9_pick_12 f_RX9_12 x.1 rfl ?_
  -- X9_pick: ('call', 15, '.invokevirtual', 135)
  refine R_callV v_X2_sequence (Pack_sequence hP) dX9_pick_15 l_RX9_135 rfl rfl hP.1 (Nat.le_of_ble_eq_true rfl) (by omega) rfl rfl (fun v h2 hq => ?_)
  obtain ⟨rfl, e9⟩ := hq
  rw [e9]
  refine R_callV v_X3_tally (PT_tally t hP.2.1 h86 hP.2.1.1 (by omega)) dX9_pick_18 l_RX9_168 rfl rfl t.choose_spec.choose_spec.1.1 (Nat.le_of_ble_eq_true rfl) (by omega) rfl rfl (fun v h3 hq => ?_)
  obtain ⟨rfl, ⟨st, t3⟩, o3⟩ := hq
  have x3 := x.scr (x.2.2.2.2.2.2.2.pt t3.any o3) o3 (by omega)
  refine R_aload_n dX9_pick_21 rfl ?_
  refine R_get K_9 (f := 14) (by decide) dX9_pick_22 f_RX9_84 x3.1 rfl ?_
  refine R_iload_n dX9_pick_25 rfl ?_
  -- X9_pick: ('call', 26, '.invokevirtual', 172)
  refine R_callV v_X3_ranked (PT_ranked t3 hP.2.1.1 hi) dX9_pick_26 l_RX9_172 rfl rfl t3.1.1 (Nat.le_of_ble_eq_true rfl) (by omega) rfl rfl (fun v h4 hq => ?_)
  obtain ⟨⟨r, rfl, hr⟩, e9⟩ := hq
  rw [e9]
  have fin : (∃ rd, PPAt E h3 X rd q ds im md tp ph fk fp) ∧ Out h h3 X (X + 1830) := ⟨⟨_, x3⟩, o3.mono (by omega) (by omega)⟩
  cases r with
  | none =>
    refine R_istore2 dX9_pick_29 (by decide) ?_
    refine R_iload_n dX9_pick_30 rfl ?_
    refine R_iconst (v := (-1)) dX9_pick_31 (by decide) ?_
    refine R_icmp_ne (tgt := 39) dX9_pick_32 (by decide) (fun c32 => ?_) (fun c32 => ?_)
    -- X9_pick: ('branch', 32, 39, 35)
    · exact absurd rfl c32
    · refine R_iconst (v := (-1)) dX9_pick_35 (by decide) ?_
      refine R_goto (tgt := 51) dX9_pick_36 (by decide) ?_
      refine R_ireturn dX9_pick_51 rfl rfl ?_
      -- X9_pick: ('ret', 51)
      exact ⟨⟨none, rfl, hr⟩, fin⟩
  | some p =>
    have hp : p < 7396 := hr.1
    rw [show oI 0 (some p) = nI p from by rw [oI, Nat.zero_add]]
    refine R_istore2 dX9_pick_29 (by decide) ?_
    refine R_iload_n dX9_pick_30 rfl ?_
    refine R_iconst (v := (-1)) dX9_pick_31 (by decide) ?_
    refine R_icmp_ne (tgt := 39) dX9_pick_32 (by decide) (fun c32 => ?_) (fun c32 => ?_)
    -- X9_pick: ('branch', 32, 39, 35)
    · refine R_bipush (v := nI 100) dX9_pick_39 (by decide) ?_
      refine R_iload_n dX9_pick_41 rfl ?_
      -- X9_pick: ('call', 42, '.invokestatic', 175)
      refine R_callS s_X3_leftOf (PT_leftOf hp) dX9_pick_42 l_RX9_175 rfl rfl (Nat.le_of_ble_eq_true rfl) (by omega) rfl rfl (fun v h5 hq => ?_)
      obtain ⟨rfl, e9⟩ := hq
      rw [e9]
      refine R_imul_N dX9_pick_45 ?_
      refine R_iload_n dX9_pick_46 rfl ?_
      -- X9_pick: ('call', 47, '.invokestatic', 178)
      refine R_callS s_X3_rightOf (PT_rightOf hp) dX9_pick_47 l_RX9_178 rfl rfl (Nat.le_of_ble_eq_true rfl) (by omega) rfl rfl (fun v h6 hq => ?_)
      obtain ⟨rfl, e9⟩ := hq
      rw [e9]
      refine R_iadd_N dX9_pick_50 ?_
      refine R_ireturn dX9_pick_51 rfl rfl ?_
      -- X9_pick: ('ret', 51)
      exact ⟨⟨some p, rfl, hr⟩, fin⟩
    · exact absurd c32 (nI_ne_m1 (n := p) (by omega))
theorem PP_pick_no {i : Int32} (hi : i < 0) : Spec E k_X9_pick 5 0 0 [.ref X, .int i] h (fun v h' => v = some (.int (-3)) ∧ h' = h) := by
  refine Spec.of (by decide +kernel) (by simp [Value.category]) (Nat.le_of_ble_eq_true rfl) ?_
  show WP E k_X9_pick 5 0 0 0 [some (.ref X), some (.int i), none] [] h _
  refine R_iload_n dX9_pick_0 rfl ?_
  refine R_if_ge (tgt := 7) dX9_pick_1 (by decide) (fun c1 => ?_) (fun c1 => ?_)
  -- X9_pick: ('branch', 1, 7, 4)
  · exact absurd hi (Int32.not_lt.mpr c1)
  · refine R_bipush (v := (-3)) dX9_pick_4 (by decide) ?_
    refine R_ireturn dX9_pick_6 rfl rfl ?_
    -- X9_pick: ('ret', 6)
    exact ⟨rfl, rfl⟩
end PP5
