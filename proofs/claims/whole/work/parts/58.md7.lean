/-! THE MODEL: pairs and rules as they are called -/
theorem PkOk.h86 {q : Pk} (hq : PkOk q) : ∀ y ∈ q.1, y < 86 := fun y hy => isSg_lt (hq.2.1 y hy)
theorem PkOk.r86 {q : Pk} (hq : PkOk q) : ∀ i, i < 60 → ∀ y ∈ q.2 i, y < 86 := fun i hi y hy => isSg_lt (acy_sg hq.1.1 hi hy)
abbrev chgK : List Nat := 1 :: 2 :: scrK
abbrev chgJ : List Nat := 5 :: scrJ
theorem MRel.chg {S S2 : MSt} {q q2 : Pk} {ds ds2 : List Pk} {im : Nat → Pk} {md : Nat → Nat} {tp ph : List Nat} {fk fp : Int32} (x : MRel S q ds im md tp ph fk fp) (o : Ony chgK chgJ S S2) (c2 : curF (S2.2 1) q2) (far : ∀ k, 1021 ≤ k → S2.2 1 k = S.2 1 k) (d2 : mDeed S2 ds2) : MRel S2 q2 ds2 im md tp ph fk fp := by
  obtain ⟨a, b, c, d, e, f, g⟩ := x
  exact ⟨c2, d2, c.keep (o.1 5 (by decide)) far, d.keep (o.2 13 (by decide)) (o.1 10 (by decide)), e.keep (o.2 16 (by decide)) (o.1 11 (by decide)), (o.2 14 (by decide)).trans f, (o.2 15 (by decide)).trans g⟩
section MD7
variable {E : EnvT} {h h1 : Hp} {M : Nat} {S : MSt} {q : Pk} {ds : List Pk} {im : Nat → Pk} {md : Nat → Nat} {tp ph : List Nat} {fk fp : Int32}
theorem MP_sign (y : MMAt E h M q ds im md tp ph fk fp) (i : Int32) : Spec E k_X10_sign 2 0 0 [.ref M, .int i] h (fun v h' => v = some (.int (if i < 0 then -3 else rget q.1 i)) ∧ MMAt E h' M q ds im md tp ph fk fp ∧ Out h h' M (M + 23)) := by
  obtain ⟨S, x, r⟩ := y
  have hl := r.1.1
  refine Spec.of (by decide +kernel) (by simp [Value.category]) (Nat.le_of_ble_eq_true rfl) ?_
  show WP E k_X10_sign 2 0 0 0 [some (.ref M), some (.int i)] [] h _
  refine R_aload_n dX10_sign_0 rfl ?_
  refine R_iconst (v := nI 0) dX10_sign_1 (by decide) ?_
  refine R_put_A K_10 (f := 0) (by decide) dX10_sign_2 f_RX10_1 rfl x.1 (by rfl) (by rfl) (Nat.le_of_ble_eq_true rfl) ?_
  intro h0 u0
  have x0 := x.put u0 (by decide)
  have r0 := r.keep (S2 := (upd S.1 0 (nI 0), S.2)) (Ony.refl.put (by decide))
  have g0 : Out h h0 M (M + 23) := Out.upd u0 (by omega) (by omega)
  generalize (upd S.1 0 (nI 0), S.2) = S0 at x0 r0
  by_cases hi : i < 0
  · refine R_iload_n dX10_sign_5 rfl ?_
    refine R_if_ge (tgt := 12) dX10_sign_6 (by decide) (fun c6 => ?_) (fun c6 => ?_)
    -- X10_sign: ('branch', 6, 12, 9)
    · exact absurd hi (Int32.not_lt.mpr c6)
    · refine R_bipush (v := (-3)) dX10_sign_9 (by decide) ?_
      refine R_ireturn dX10_sign_11 rfl rfl ?_
      -- X10_sign: ('ret', 11)
      exact ⟨by rw [if_pos hi], ⟨S0, x0, r0⟩, g0⟩
  · obtain ⟨n, hn, rfl⟩ := nI_of hi
    rw [if_neg hi]
    refine R_iload_n dX10_sign_5 rfl ?_
    refine R_if_ge_N (tgt := 12) dX10_sign_6 (by decide) (by omega) ?_
    refine R_iload_n dX10_sign_12 rfl ?_
    refine R_aload_n dX10_sign_13 rfl ?_
    -- X10_sign: ('call', 14, '.invokevirtual', 123)
    refine R_callV v_X10_many (Md_many x0 r0.1) dX10_sign_14 l_RX10_123 rfl rfl x0.1 (Nat.le_of_ble_eq_true rfl) (by omega) rfl rfl (fun v h2 hq => ?_)
    obtain ⟨rfl, e9⟩ := hq
    rw [e9]
    refine R_icmp_ge_N (tgt := 28) dX10_sign_17 (by decide) (by omega) (by omega) (fun c17 => ?_) (fun c17 => ?_)
    -- X10_sign: ('branch', 17, 28, 20)
    · refine R_iconst (v := (-1)) dX10_sign_28 (by decide) ?_
      refine R_ireturn dX10_sign_29 rfl rfl ?_
      -- X10_sign: ('ret', 29)
      exact ⟨by rw [rget_out hn c17], ⟨S0, x0, r0⟩, g0⟩
    · obtain ⟨y, hy⟩ := getE c17
      refine R_aload_n dX10_sign_20 rfl ?_
      refine R_iload_n dX10_sign_21 rfl ?_
      -- X10_sign: ('call', 22, '.invokevirtual', 127)
      refine R_callV v_X10_signAt (Md_signAt x0 r0.1 hy) dX10_sign_22 l_RX10_127 rfl rfl x0.1 (Nat.le_of_ble_eq_true rfl) (by omega) rfl rfl (fun v h3 hq => ?_)
      obtain ⟨rfl, e9⟩ := hq
      rw [e9]
      refine R_goto (tgt := 29) dX10_sign_25 (by decide) ?_
      refine R_ireturn dX10_sign_29 rfl rfl ?_
      -- X10_sign: ('ret', 29)
      exact ⟨by rw [rget_in hn hy], ⟨S0, x0, r0⟩, g0⟩
theorem MP_pairs_no (y : MMAt E h M q ds im md tp ph fk fp) {a b : Int32} (hn : ¬ (sgI q.2 a ∧ sgI q.2 b)) : Spec E k_X10_pairs 4 0 0 [.ref M, .int a, .int b] h (fun v h' => v = some (.int (-2)) ∧ MMAt E h' M q ds im md tp ph fk fp ∧ Out h h' M (M + 23)) := by
  obtain ⟨S, x, r⟩ := y
  refine Spec.of (by decide +kernel) (by simp [Value.category]) (Nat.le_of_ble_eq_true rfl) ?_
  show WP E k_X10_pairs 4 0 0 0 [some (.ref M), some (.int a), some (.int b)] [] h _
  refine R_aload_n dX10_pairs_0 rfl ?_
  refine R_iconst (v := nI 0) dX10_pairs_1 (by decide) ?_
  refine R_put_A K_10 (f := 0) (by decide) dX10_pairs_2 f_RX10_1 rfl x.1 (by rfl) (by rfl) (Nat.le_of_ble_eq_true rfl) ?_
  intro h0 u0
  have x0 := x.put u0 (by decide)
  have r0 := r.keep (S2 := (upd S.1 0 (nI 0), S.2)) (Ony.refl.put (by decide))
  have g0 : Out h h0 M (M + 23) := Out.upd u0 (by omega) (by omega)
  generalize (upd S.1 0 (nI 0), S.2) = S0 at x0 r0
  refine R_aload_n dX10_pairs_5 rfl ?_
  refine R_iload_n dX10_pairs_6 rfl ?_
  -- X10_pairs: ('call', 7, '.invokevirtual', 210)
  refine R_callV v_X10_isSign (Md_isSign x0 r0.1 a) dX10_pairs_7 l_RX10_210 rfl rfl x0.1 (Nat.le_of_ble_eq_true rfl) (by omega) rfl rfl (fun v h2 hq => ?_)
  obtain ⟨rfl, e9⟩ := hq
  rw [e9]
  by_cases ha : sgI q.2 a
  · rw [if_pos ha]
    refine R_if_eq_N (tgt := 30) dX10_pairs_10 (by decide) (by omega) (fun c10 => ?_) (fun c10 => ?_)
    -- X10_pairs: ('branch', 10, 30, 13)
    · exact absurd c10 (by decide)
    · refine R_aload_n dX10_pairs_13 rfl ?_
      refine R_iload_n dX10_pairs_14 rfl ?_
      -- X10_pairs: ('call', 15, '.invokevirtual', 210)
      refine R_callV v_X10_isSign (Md_isSign x0 r0.1 b) dX10_pairs_15 l_RX10_210 rfl rfl x0.1 (Nat.le_of_ble_eq_true rfl) (by omega) rfl rfl (fun v h3 hq => ?_)
      obtain ⟨rfl, e9⟩ := hq
      rw [e9, if_neg (fun z => hn ⟨ha, z⟩)]
      refine R_if_eq_N (tgt := 30) dX10_pairs_18 (by decide) (by omega) (fun c18 => ?_) (fun c18 => ?_)
      -- X10_pairs: ('branch', 18, 30, 21)
      · refine R_bipush (v := (-2)) dX10_pairs_30 (by decide) ?_
        refine R_ireturn dX10_pairs_32 rfl rfl ?_
        -- X10_pairs: ('ret', 32)
        exact ⟨rfl, ⟨S0, x0, r0⟩, g0⟩
      · exact absurd rfl c18
  · rw [if_neg ha]
    refine R_if_eq_N (tgt := 30) dX10_pairs_10 (by decide) (by omega) (fun c10 => ?_) (fun c10 => ?_)
    -- X10_pairs: ('branch', 10, 30, 13)
    · refine R_bipush (v := (-2)) dX10_pairs_30 (by decide) ?_
      refine R_ireturn dX10_pairs_32 rfl rfl ?_
      -- X10_pairs: ('ret', 32)
      exact ⟨rfl, ⟨S0, x0, r0⟩, g0⟩
    · exact absurd rfl c10
theorem MP_pairs (y : MMAt E h M q ds im md tp ph fk fp) (hq : PkOk q) {a b : Nat} (ha : isSg q.2 a) (hb : isSg q.2 b) : Spec E k_X10_pairs 4 0 0 [.ref M, .int (nI a), .int (nI b)] h (fun v h' => v = some (.int (nI (cntG q.1 a b))) ∧ MMAt E h' M q ds im md tp ph fk fp ∧ Out h h' M (M + 23)) := by
  have ha2 := isSg_lt ha
  have hb2 := isSg_lt hb
  obtain ⟨S, x, r⟩ := y
  refine Spec.of (by decide +kernel) (by simp [Value.category]) (Nat.le_of_ble_eq_true rfl) ?_
  show WP E k_X10_pairs 4 0 0 0 [some (.ref M), some (.int (nI a)), some (.int (nI b))] [] h _
  refine R_aload_n dX10_pairs_0 rfl ?_
  refine R_iconst (v := nI 0) dX10_pairs_1 (by decide) ?_
  refine R_put_A K_10 (f := 0) (by decide) dX10_pairs_2 f_RX10_1 rfl x.1 (by rfl) (by rfl) (Nat.le_of_ble_eq_true rfl) ?_
  intro h0 u0
  have x0 := x.put u0 (by decide)
  have r0 := r.keep (S2 := (upd S.1 0 (nI 0), S.2)) (Ony.refl.put (by decide))
  have g0 : Out h h0 M (M + 23) := Out.upd u0 (by omega) (by omega)
  generalize (upd S.1 0 (nI 0), S.2) = S0 at x0 r0
  refine R_aload_n dX10_pairs_5 rfl ?_
  refine R_iload_n dX10_pairs_6 rfl ?_
  -- X10_pairs: ('call', 7, '.invokevirtual', 210)
  refine R_callV v_X10_isSign (Md_isSign x0 r0.1 (nI a)) dX10_pairs_7 l_RX10_210 rfl rfl x0.1 (Nat.le_of_ble_eq_true rfl) (by omega) rfl rfl (fun v h2 hq => ?_)
  obtain ⟨rfl, e9⟩ := hq
  rw [e9, if_pos ((sgI_nI (by omega)).mpr ha)]
  refine R_if_eq_N (tgt := 30) dX10_pairs_10 (by decide) (by omega) (fun c10 => ?_) (fun c10 => ?_)
  -- X10_pairs: ('branch', 10, 30, 13)
  · exact absurd c10 (by decide)
  · refine R_aload_n dX10_pairs_13 rfl ?_
    refine R_iload_n dX10_pairs_14 rfl ?_
    -- X10_pairs: ('call', 15, '.invokevirtual', 210)
    refine R_callV v_X10_isSign (Md_isSign x0 r0.1 (nI b)) dX10_pairs_15 l_RX10_210 rfl rfl x0.1 (Nat.le_of_ble_eq_true rfl) (by omega) rfl rfl (fun v h3 hq => ?_)
    obtain ⟨rfl, e9⟩ := hq
    rw [e9, if_pos ((sgI_nI (by omega)).mpr hb)]
    refine R_if_eq_N (tgt := 30) dX10_pairs_18 (by decide) (by omega) (fun c18 => ?_) (fun c18 => ?_)
    -- X10_pairs: ('branch', 18, 30, 21)
    · exact absurd c18 (by decide)
    · refine R_aload_n dX10_pairs_21 rfl ?_
      refine R_iload_n dX10_pairs_22 rfl ?_
      refine R_iload_n dX10_pairs_23 rfl ?_
      -- X10_pairs: ('call', 24, '.invokevirtual', 249)
      refine R_callV v_X10_countOf (Md_countOf x0 r0.1 hq.h86 ha2 hb2) dX10_pairs_24 l_RX10_249 rfl rfl x0.1 (Nat.le_of_ble_eq_true rfl) (by omega) rfl rfl (fun v h4 hq => ?_)
      obtain ⟨rfl, e9⟩ := hq
      rw [e9]
      refine R_goto (tgt := 32) dX10_pairs_27 (by decide) ?_
      refine R_ireturn dX10_pairs_32 rfl rfl ?_
      -- X10_pairs: ('ret', 32)
      exact ⟨rfl, ⟨S0, x0, r0⟩, g0⟩
theorem Md_gainOf (x : MdAt E h M S) (c : curF (S.2 1) q) (hq : PkOk q) {a b : Nat} (ha : a < 86) (hb : b < 86) : Spec E k_X10_gainOf 4 0 0 [.ref M, .int (nI a), .int (nI b)] h (fun v h' => v = some (.int (if (ruleS q.2 a b).isSome then nI (cntG q.1 a b) else nI (cntG q.1 a b) - nI 2)) ∧ h' = h) := by
  refine Spec.of (by decide +kernel) (by simp [Value.category]) (Nat.le_of_ble_eq_true rfl) ?_
  show WP E k_X10_gainOf 4 0 0 0 [some (.ref M), some (.int (nI a)), some (.int (nI b))] [] h _
  refine R_aload_n dX10_gainOf_0 rfl ?_
  refine R_iload_n dX10_gainOf_1 rfl ?_
  refine R_iload_n dX10_gainOf_2 rfl ?_
  -- X10_gainOf: ('call', 3, '.invokevirtual', 249)
  refine R_callV v_X10_countOf (Md_countOf x c hq.h86 ha hb) dX10_gainOf_3 l_RX10_249 rfl rfl x.1 (Nat.le_of_ble_eq_true rfl) (by omega) rfl rfl (fun v h2 hq => ?_)
  obtain ⟨rfl, e9⟩ := hq
  rw [e9]
  refine R_aload_n dX10_gainOf_6 rfl ?_
  refine R_iload_n dX10_gainOf_7 rfl ?_
  refine R_iload_n dX10_gainOf_8 rfl ?_
  -- X10_gainOf: ('call', 9, '.invokevirtual', 230)
  refine R_callV v_X10_ruleOf (Md_ruleOf x c hq.r86 ha hb) dX10_gainOf_9 l_RX10_230 rfl rfl x.1 (Nat.le_of_ble_eq_true rfl) (by omega) rfl rfl (fun v h3 hq => ?_)
  obtain ⟨rfl, e9⟩ := hq
  rw [e9]
  cases hr : ruleS q.2 a b with
  | none =>
    refine R_iconst (v := (-1)) dX10_gainOf_12 (by decide) ?_
    refine R_icmp_ne (tgt := 20) dX10_gainOf_13 (by decide) (fun c13 => ?_) (fun c13 => ?_)
    -- X10_gainOf: ('branch', 13, 20, 16)
    · exact absurd rfl c13
    · refine R_iconst (v := nI 2) dX10_gainOf_16 (by decide) ?_
      refine R_goto (tgt := 21) dX10_gainOf_17 (by decide) ?_
      refine R_isub dX10_gainOf_21 ?_
      refine R_ireturn dX10_gainOf_22 rfl rfl ?_
      -- X10_gainOf: ('ret', 22)
      exact ⟨rfl, rfl⟩
  | some i =>
    have hi := fst_lt hr
    refine R_iconst (v := (-1)) dX10_gainOf_12 (by decide) ?_
    refine R_icmp_ne (tgt := 20) dX10_gainOf_13 (by decide) (fun c13 => ?_) (fun c13 => ?_)
    -- X10_gainOf: ('branch', 13, 20, 16)
    · refine R_iconst (v := nI 0) dX10_gainOf_20 (by decide) ?_
      refine R_isub_N dX10_gainOf_21 (by omega) ?_
      refine R_ireturn dX10_gainOf_22 rfl rfl ?_
      -- X10_gainOf: ('ret', 22)
      exact ⟨rfl, rfl⟩
    · exact absurd c13 (nI_ne_m1 (n := 26 + i) (by omega))
theorem MP_gain_no (y : MMAt E h M q ds im md tp ph fk fp) {a b : Int32} (hn : ¬ (sgI q.2 a ∧ sgI q.2 b)) : Spec E k_X10_gain 5 0 0 [.ref M, .int a, .int b] h (fun v h' => v = some (.int (-2)) ∧ MMAt E h' M q ds im md tp ph fk fp ∧ Out h h' M (M + 23)) := by
  obtain ⟨S, x, r⟩ := y
  refine Spec.of (by decide +kernel) (by simp [Value.category]) (Nat.le_of_ble_eq_true rfl) ?_
  show WP E k_X10_gain 5 0 0 0 [some (.ref M), some (.int a), some (.int b)] [] h _
  refine R_aload_n dX10_gain_0 rfl ?_
  refine R_iconst (v := nI 0) dX10_gain_1 (by decide) ?_
  refine R_put_A K_10 (f := 0) (by decide) dX10_gain_2 f_RX10_1 rfl x.1 (by rfl) (by rfl) (Nat.le_of_ble_eq_true rfl) ?_
  intro h0 u0
  have x0 := x.put u0 (by decide)
  have r0 := r.keep (S2 := (upd S.1 0 (nI 0), S.2)) (Ony.refl.put (by decide))
  have g0 : Out h h0 M (M + 23) := Out.upd u0 (by omega) (by omega)
  generalize (upd S.1 0 (nI 0), S.2) = S0 at x0 r0
  refine R_aload_n dX10_gain_5 rfl ?_
  refine R_iload_n dX10_gain_6 rfl ?_
  -- X10_gain: ('call', 7, '.invokevirtual', 210)
  refine R_callV v_X10_isSign (Md_isSign x0 r0.1 a) dX10_gain_7 l_RX10_210 rfl rfl x0.1 (Nat.le_of_ble_eq_true rfl) (by omega) rfl rfl (fun v h2 hq => ?_)
  obtain ⟨rfl, e9⟩ := hq
  rw [e9]
  by_cases ha : sgI q.2 a
  · rw [if_pos ha]
    refine R_if_eq_N (tgt := 21) dX10_gain_10 (by decide) (by omega) (fun c10 => ?_) (fun c10 => ?_)
    -- X10_gain: ('branch', 10, 21, 13)
    · exact absurd c10 (by decide)
    · refine R_aload_n dX10_gain_13 rfl ?_
      refine R_iload_n dX10_gain_14 rfl ?_
      -- X10_gain: ('call', 15, '.invokevirtual', 210)
      refine R_callV v_X10_isSign (Md_isSign x0 r0.1 b) dX10_gain_15 l_RX10_210 rfl rfl x0.1 (Nat.le_of_ble_eq_true rfl) (by omega) rfl rfl (fun v h3 hq => ?_)
      obtain ⟨rfl, e9⟩ := hq
      rw [e9, if_neg (fun z => hn ⟨ha, z⟩)]
      refine R_if_ne_N (tgt := 24) dX10_gain_18 (by decide) (by omega) (fun c18 => ?_) (fun c18 => ?_)
      -- X10_gain: ('branch', 18, 24, 21)
      · exact absurd rfl c18
      · refine R_bipush (v := (-2)) dX10_gain_21 (by decide) ?_
        refine R_ireturn dX10_gain_23 rfl rfl ?_
        -- X10_gain: ('ret', 23)
        exact ⟨rfl, ⟨S0, x0, r0⟩, g0⟩
  · rw [if_neg ha]
    refine R_if_eq_N (tgt := 21) dX10_gain_10 (by decide) (by omega) (fun c10 => ?_) (fun c10 => ?_)
    -- X10_gain: ('branch', 10, 21, 13)
    · refine R_bipush (v := (-2)) dX10_gain_21 (by decide) ?_
      refine R_ireturn dX10_gain_23 rfl rfl ?_
      -- X10_gain: ('ret', 23)
      exact ⟨rfl, ⟨S0, x0, r0⟩, g0⟩
    · exact absurd rfl c10
theorem MP_gain (y : MMAt E h M q ds im md tp ph fk fp) (hq : PkOk q) {a b : Nat} (ha : isSg q.2 a) (hb : isSg q.2 b) : Spec E k_X10_gain 5 0 0 [.ref M, .int (nI a), .int (nI b)] h (fun v h' => v = some (.int (gainI q a b)) ∧ MMAt E h' M q ds im md tp ph fk fp ∧ Out h h' M (M + 23)) := by
  have ha2 := isSg_lt ha
  have hb2 := isSg_lt hb
  obtain ⟨S, x, r⟩ := y
  have hcl : cntG q.1 a b ≤ 240 := Nat.le_trans cntG_le r.1.1
  refine Spec.of (by decide +kernel) (by simp [Value.category]) (Nat.le_of_ble_eq_true rfl) ?_
  show WP E k_X10_gain 5 0 0 0 [some (.ref M), some (.int (nI a)), some (.int (nI b))] [] h _
  refine R_aload_n dX10_gain_0 rfl ?_
  refine R_iconst (v := nI 0) dX10_gain_1 (by decide) ?_
  refine R_put_A K_10 (f := 0) (by decide) dX10_gain_2 f_RX10_1 rfl x.1 (by rfl) (by rfl) (Nat.le_of_ble_eq_true rfl) ?_
  intro h0 u0
  have x0 := x.put u0 (by decide)
  have r0 := r.keep (S2 := (upd S.1 0 (nI 0), S.2)) (Ony.refl.put (by decide))
  have g0 : Out h h0 M (M + 23) := Out.upd u0 (by omega) (by omega)
  generalize (upd S.1 0 (nI 0), S.2) = S0 at x0 r0
  refine R_aload_n dX10_gain_5 rfl ?_
  refine R_iload_n dX10_gain_6 rfl ?_
  -- X10_gain: ('call', 7, '.invokevirtual', 210)
  refine R_callV v_X10_isSign (Md_isSign x0 r0.1 (nI a)) dX10_gain_7 l_RX10_210 rfl rfl x0.1 (Nat.le_of_ble_eq_true rfl) (by omega) rfl rfl (fun v h2 hq => ?_)
  obtain ⟨rfl, e9⟩ := hq
  rw [e9, if_pos ((sgI_nI (by omega)).mpr ha)]
  refine R_if_eq_N (tgt := 21) dX10_gain_10 (by decide) (by omega) (fun c10 => ?_) (fun c10 => ?_)
  -- X10_gain: ('branch', 10, 21, 13)
  · exact absurd c10 (by decide)
  · refine R_aload_n dX10_gain_13 rfl ?_
    refine R_iload_n dX10_gain_14 rfl ?_
    -- X10_gain: ('call', 15, '.invokevirtual', 210)
    refine R_callV v_X10_isSign (Md_isSign x0 r0.1 (nI b)) dX10_gain_15 l_RX10_210 rfl rfl x0.1 (Nat.le_of_ble_eq_true rfl) (by omega) rfl rfl (fun v h3 hq => ?_)
    obtain ⟨rfl, e9⟩ := hq
    rw [e9, if_pos ((sgI_nI (by omega)).mpr hb)]
    refine R_if_ne_N (tgt := 24) dX10_gain_18 (by decide) (by omega) (fun c18 => ?_) (fun c18 => ?_)
    -- X10_gain: ('branch', 18, 24, 21)
    · refine R_aload_n dX10_gain_24 rfl ?_
      refine R_iload_n dX10_gain_25 rfl ?_
      refine R_iload_n dX10_gain_26 rfl ?_
      -- X10_gain: ('call', 27, '.invokevirtual', 249)
      refine R_callV v_X10_countOf (Md_countOf x0 r0.1 hq.h86 ha2 hb2) dX10_gain_27 l_RX10_249 rfl rfl x0.1 (Nat.le_of_ble_eq_true rfl) (by omega) rfl rfl (fun v h4 hq => ?_)
      obtain ⟨rfl, e9⟩ := hq
      rw [e9]
      refine R_if_ne_N (tgt := 38) dX10_gain_30 (by decide) (by omega) (fun c30 => ?_) (fun c30 => ?_)
      -- X10_gain: ('branch', 30, 38, 33)
      · refine R_aload_n dX10_gain_38 rfl ?_
        refine R_iload_n dX10_gain_39 rfl ?_
        refine R_iload_n dX10_gain_40 rfl ?_
        -- X10_gain: ('call', 41, '.invokevirtual', 313)
        refine R_callV v_X10_gainOf (Md_gainOf x0 r0.1 hq ha2 hb2) dX10_gain_41 l_RX10_313 rfl rfl x0.1 (Nat.le_of_ble_eq_true rfl) (by omega) rfl rfl (fun v h5 hq => ?_)
        obtain ⟨rfl, e9⟩ := hq
        rw [e9]
        refine R_ireturn dX10_gain_44 rfl rfl ?_
        -- X10_gain: ('ret', 44)
        exact ⟨by rw [gainI, if_neg c30], ⟨S0, x0, r0⟩, g0⟩
      · refine R_bipush (v := (-5)) dX10_gain_33 (by decide) ?_
        refine R_goto (tgt := 44) dX10_gain_35 (by decide) ?_
        refine R_ireturn dX10_gain_44 rfl rfl ?_
        -- X10_gain: ('ret', 44)
        exact ⟨by rw [gainI, if_pos c30], ⟨S0, x0, r0⟩, g0⟩
    · exact absurd c18 (by decide)
theorem MP_pick_no (y : MMAt E h M q ds im md tp ph fk fp) {i : Int32} (hi : i < 0) : Spec E k_X10_pick 3 0 0 [.ref M, .int i] h (fun v h' => v = some (.int (-3)) ∧ MMAt E h' M q ds im md tp ph fk fp ∧ Out h h' M (M + 23)) := by
  obtain ⟨S, x, r⟩ := y
  refine Spec.of (by decide +kernel) (by simp [Value.category]) (Nat.le_of_ble_eq_true rfl) ?_
  show WP E k_X10_pick 3 0 0 0 [some (.ref M), some (.int i), none, none, none, none] [] h _
  refine R_aload_n dX10_pick_0 rfl ?_
  refine R_iconst (v := nI 0) dX10_pick_1 (by decide) ?_
  refine R_put_A K_10 (f := 0) (by decide) dX10_pick_2 f_RX10_1 rfl x.1 (by rfl) (by rfl) (Nat.le_of_ble_eq_true rfl) ?_
  intro h0 u0
  have x0 := x.put u0 (by decide)
  have r0 := r.keep (S2 := (upd S.1 0 (nI 0), S.2)) (Ony.refl.put (by decide))
  have g0 : Out h h0 M (M + 23) := Out.upd u0 (by omega) (by omega)
  generalize (upd S.1 0 (nI 0), S.2) = S0 at x0 r0
  refine R_iload_n dX10_pick_5 rfl ?_
  refine R_if_ge (tgt := 12) dX10_pick_6 (by decide) (fun c6 => ?_) (fun c6 => ?_)
  -- X10_pick: ('branch', 6, 12, 9)
  · exact absurd hi (Int32.not_lt.mpr c6)
  · refine R_bipush (v := (-3)) dX10_pick_9 (by decide) ?_
    refine R_ireturn dX10_pick_11 rfl rfl ?_
    -- X10_pick: ('ret', 11)
    exact ⟨rfl, ⟨S0, x0, r0⟩, g0⟩
/-- how many pairs stand ahead of those of a count from a pair on -/
def ahdN (cf : Nat → Nat) (m k : Nat) : Nat := cntB (fun q => decide (2 ≤ cf q ∧ (m < cf q ∨ cf q = m ∧ q < k))) 7396
theorem MP_pick (y : MMAt E h M q ds im md tp ph fk fp) (hq : PkOk q) {i : Nat} (hi : i < 2 ^ 31) : Spec E k_X10_pick 3 0 0 [.ref M, .int (nI i)] h (fun v h' => (∃ r, v = some (.int (r.elim (-1) (fun p => nI (100 * (p / 86) + p % 86)))) ∧ RankIs (pcf q.1) i r) ∧ MMAt E h' M q ds im md tp ph fk fp ∧ Out h h' M (M + 23)) := by
  obtain ⟨S, x, r⟩ := y
  have hl := r.1.1
  refine Spec.of (by decide +kernel) (by simp [Value.category]) (Nat.le_of_ble_eq_true rfl) ?_
  show WP E k_X10_pick 3 0 0 0 [some (.ref M), some (.int (nI i)), none, none, none, none] [] h _
  refine R_aload_n dX10_pick_0 rfl ?_
  refine R_iconst (v := nI 0) dX10_pick_1 (by decide) ?_
  refine R_put_A K_10 (f := 0) (by decide) dX10_pick_2 f_RX10_1 rfl x.1 (by rfl) (by rfl) (Nat.le_of_ble_eq_true rfl) ?_
  intro h0 u0
  have x0 := x.put u0 (by decide)
  have r0 := r.keep (S2 := (upd S.1 0 (nI 0), S.2)) (Ony.refl.put (by decide))
  have g0 : Out h h0 M (M + 23) := Out.upd u0 (by omega) (by omega)
  generalize (upd S.1 0 (nI 0), S.2) = S0 at x0 r0
  refine R_iload_n dX10_pick_5 rfl ?_
  refine R_if_ge_N (tgt := 12) dX10_pick_6 (by decide) (by omega) ?_
  refine R_aload_n dX10_pick_12 rfl ?_
  -- X10_pick: ('call', 13, '.invokevirtual', 236)
  refine R_callV v_X10_laysCounts (Md_laysCounts x0 r0.1 hq.h86) dX10_pick_13 l_RX10_236 rfl rfl x0.1 (Nat.le_of_ble_eq_true rfl) (by omega) rfl rfl (fun v h2 hq => ?_)
  obtain ⟨rfl, g2, S2, x2, o2, k2⟩ := hq
  have r2 := r0.keep (o2.mono (by decide) (by decide))
  have g02 := g0.trans g2
  have inner : ∀ m2 k at0 (mo : Nat), k + m2 = 7396 → 2 ≤ mo → mo ≤ 240 → at0 ≤ i → at0 = ahdN (pcf q.1) mo k → (∀ at1 z, at1 ≤ i → at1 = ahdN (pcf q.1) mo 7396 → WP E k_X10_pick 3 0 0 85 [some (.ref M), some (.int (nI i)), some (.int (nI (unlS q.1))), some (.int (nI at1)), some (.int (nI mo)), z] [] h2 (fun v h' => (∃ r, v = some (.int (r.elim (-1) (fun p => nI (100 * (p / 86) + p % 86)))) ∧ RankIs (pcf q.1) i r) ∧ MMAt E h' M q ds im md tp ph fk fp ∧ Out h h' M (M + 23))) → WP E k_X10_pick 3 0 0 33 [some (.ref M), some (.int (nI i)), some (.int (nI (unlS q.1))), some (.int (nI at0)), some (.int (nI mo)), some (.int (nI k))] [] h2 (fun v h' => (∃ r, v = some (.int (r.elim (-1) (fun p => nI (100 * (p / 86) + p % 86)))) ∧ RankIs (pcf q.1) i r) ∧ MMAt E h' M q ds im md tp ph fk fp ∧ Out h h' M (M + 23)) := by
    intro m2
    induction m2 with
    | zero =>
      intro k at0 mo hk h2m hm240 hai hat kk
      have hk : k = 7396 := by omega
      refine R_iload dX10_pick_33 rfl ?_
      refine R_sipush (v := nI 7396) dX10_pick_35 (by decide) ?_
      refine R_icmp_ge_N (tgt := 85) dX10_pick_38 (by decide) (by omega) (by omega) (fun c38 => ?_) (fun c38 => ?_)
      -- X10_pick: ('branch', 38, 85, 41)
      · rw [hk] at hat ⊢
        exact kk at0 _ hai hat
      · exact absurd c38 (by omega)
    | succ m2 ih =>
      intro k at0 mo hk h2m hm240 hai hat kk
      have kv := k2 k (by omega)
      have kl := pcf_le (l := q.1) (p := k)
      refine R_iload dX10_pick_33 rfl ?_
      refine R_sipush (v := nI 7396) dX10_pick_35 (by decide) ?_
      refine R_icmp_ge_N (tgt := 85) dX10_pick_38 (by decide) (by omega) (by omega) (fun c38 => ?_) (fun c38 => ?_)
      -- X10_pick: ('branch', 38, 85, 41)
      · exact absurd c38 (by omega)
      · refine R_aload_n dX10_pick_41 rfl ?_
        refine R_get K_10 (f := 31) (by decide) dX10_pick_42 f_RX10_76 x2.1 rfl ?_
        refine R_iload dX10_pick_45 rfl ?_
        refine R_iaload_N dX10_pick_47 x2.a20 (by omega) (by omega) kv ?_
        refine R_iload dX10_pick_48 rfl ?_
        refine R_icmp_eq_N (tgt := 56) dX10_pick_50 (by decide) (by omega) (by omega) (fun c50 => ?_) (fun c50 => ?_)
        -- X10_pick: ('branch', 50, 56, 53)
        · refine R_iload_n dX10_pick_56 rfl ?_
          refine R_iload_n dX10_pick_57 rfl ?_
          refine R_icmp_ne_N (tgt := 76) dX10_pick_58 (by decide) (by omega) (by omega) (fun c58 => ?_) (fun c58 => ?_)
          -- X10_pick: ('branch', 58, 76, 61)
          · refine R_iinc3 dX10_pick_76 (by decide) (nI_inc _ 1) ?_
            refine R_iinc5 dX10_pick_79 (by decide) (nI_inc _ 1) ?_
            refine R_goto (tgt := 33) dX10_pick_82 (by decide) ?_
            -- X10_pick: ('stop', 33)
            refine ih (k + 1) (at0 + 1) mo (by omega) h2m hm240 (by omega) ?_ kk
            rw [hat, ahdN, ahdN]
            refine (cntB_ins (x := k) (by omega) ?_ ?_ (fun j hj hne => ?_)).symm
            · exact decide_eq_false (by omega)
            · exact decide_eq_true (by omega)
            · by_cases z : 2 ≤ pcf q.1 j ∧ (mo < pcf q.1 j ∨ pcf q.1 j = mo ∧ j < k)
              · rw [decide_eq_true z, decide_eq_true (by omega)]
              · rw [decide_eq_false z, decide_eq_false (by omega)]
          · refine R_bipush (v := nI 100) dX10_pick_61 (by decide) ?_
            refine R_iload dX10_pick_63 rfl ?_
            refine R_bipush (v := nI 86) dX10_pick_65 (by decide) ?_
            refine R_idiv_N dX10_pick_67 (by omega) (by omega) (by omega) ?_
            refine R_imul_N dX10_pick_68 ?_
            refine R_iload dX10_pick_69 rfl ?_
            refine R_bipush (v := nI 86) dX10_pick_71 (by decide) ?_
            refine R_irem_N dX10_pick_73 (by omega) (by omega) (by omega) ?_
            refine R_iadd_N dX10_pick_74 ?_
            refine R_ireturn dX10_pick_75 rfl rfl ?_
            -- X10_pick: ('ret', 75)
            refine ⟨⟨some k, rfl, by omega, by omega, ?_⟩, ⟨S2, x2, r2⟩, g02⟩
            rw [← c58, hat, nA, ahdN]
            refine cntB_ext (fun j hj => ?_)
            by_cases z : 2 ≤ pcf q.1 j ∧ ahd (pcf q.1) j k
            · rw [decide_eq_true z, decide_eq_true (by have := z.2; rw [ahd, c50] at this; omega)]
            · rw [decide_eq_false z, decide_eq_false (fun w => z ⟨w.1, by rw [ahd, c50]; omega⟩)]
        · refine R_goto (tgt := 79) dX10_pick_53 (by decide) ?_
          refine R_iinc5 dX10_pick_79 (by decide) (nI_inc _ 1) ?_
          refine R_goto (tgt := 33) dX10_pick_82 (by decide) ?_
          -- X10_pick: ('stop', 33)
          refine ih (k + 1) at0 mo (by omega) h2m hm240 hai ?_ kk
          rw [hat, ahdN, ahdN]
          refine cntB_ext (fun j hj => ?_)
          by_cases z : 2 ≤ pcf q.1 j ∧ (mo < pcf q.1 j ∨ pcf q.1 j = mo ∧ j < k)
          · rw [decide_eq_true z, decide_eq_true (by omega)]
          · rw [decide_eq_false z, decide_eq_false (fun w => z ⟨w.1, by
              rcases w.2 with u | ⟨u1, u2⟩
              · exact Or.inl u
              · by_cases e : j = k
                · rw [e] at u1; exact absurd u1 c50
                · exact Or.inr ⟨u1, by omega⟩⟩)]
  have outer : ∀ mo at0 (z : Option Value), 1 ≤ mo → mo ≤ 240 → at0 ≤ i → at0 = ahdN (pcf q.1) mo 0 → WP E k_X10_pick 3 0 0 24 [some (.ref M), some (.int (nI i)), some (.int (nI (unlS q.1))), some (.int (nI at0)), some (.int (nI mo)), z] [] h2 (fun v h' => (∃ r, v = some (.int (r.elim (-1) (fun p => nI (100 * (p / 86) + p % 86)))) ∧ RankIs (pcf q.1) i r) ∧ MMAt E h' M q ds im md tp ph fk fp ∧ Out h h' M (M + 23)) := by
    intro mo
    induction mo with
    | zero => intro at0 z hm; omega
    | succ mo ih =>
      intro at0 z hm hm240 hai hat
      refine R_iload dX10_pick_24 rfl ?_
      refine R_iconst (v := nI 1) dX10_pick_26 (by decide) ?_
      refine R_icmp_le_N (tgt := 91) dX10_pick_27 (by decide) (by omega) (by omega) (fun c27 => ?_) (fun c27 => ?_)
      -- X10_pick: ('branch', 27, 91, 30)
      · refine R_iconst (v := (-1)) dX10_pick_91 (by decide) ?_
        refine R_ireturn dX10_pick_92 rfl rfl ?_
        -- X10_pick: ('ret', 92)
        refine ⟨⟨none, rfl, ?_⟩, ⟨S2, x2, r2⟩, g02⟩
        show tot (pcf q.1) 7396 ≤ i
        obtain rfl : mo = 0 := by omega
        refine Nat.le_trans (Nat.le_of_eq ?_) hai
        rw [hat, tot, ahdN]
        refine cntB_ext (fun j hj => ?_)
        by_cases z : 2 ≤ pcf q.1 j
        · rw [decide_eq_true z, decide_eq_true (by omega)]
        · rw [decide_eq_false z, decide_eq_false (by omega)]
      · refine R_iconst (v := nI 0) dX10_pick_30 (by decide) ?_
        refine R_istore5 dX10_pick_31 (by decide) ?_
        -- X10_pick: ('stop', 33)
        refine inner 7396 0 at0 (mo + 1) (by omega) (by omega) hm240 hai hat (fun at1 z1 h1 h3 => ?_)
        refine R_iinc4 dX10_pick_85 (by decide) (nI_sub1 (by omega)) ?_
        refine R_goto (tgt := 24) dX10_pick_88 (by decide) ?_
        -- X10_pick: ('stop', 24)
        rw [show mo + 1 - 1 = mo by omega]
        refine ih at1 _ (by omega) (by omega) h1 ?_
        rw [h3, ahdN, ahdN]
        refine cntB_ext (fun j hj => ?_)
        by_cases z : 2 ≤ pcf q.1 j ∧ (mo + 1 < pcf q.1 j ∨ pcf q.1 j = mo + 1 ∧ j < 7396)
        · rw [decide_eq_true z, decide_eq_true (by omega)]
        · rw [decide_eq_false z, decide_eq_false (by omega)]
  refine R_istore2 dX10_pick_16 (by decide) ?_
  refine R_iconst (v := nI 0) dX10_pick_17 (by decide) ?_
  refine R_istore3 dX10_pick_18 (by decide) ?_
  refine R_sipush (v := nI 240) dX10_pick_19 (by decide) ?_
  refine R_istore4 dX10_pick_22 (by decide) ?_
  -- X10_pick: ('stop', 24)
  refine outer 240 0 none (by decide) (by decide) (Nat.zero_le _) ?_
  rw [ahdN, cntB_zero (fun j hj => decide_eq_false (by have := pcf_le (l := q.1) (p := j); omega))]
theorem MP_step (y : MMAt E h M q ds im md tp ph fk fp) (hq : PkOk q) : Spec E k_X10_step 5 0 0 [.ref M] h (fun v h' => v = some (.int (stepA q)) ∧ MMAt E h' M (stepE q ds).1 (stepE q ds).2 im md tp ph fk fp ∧ Out h h' M (M + 23)) := by
  obtain ⟨S, x, r⟩ := y
  refine Spec.of (by decide +kernel) (by simp [Value.category]) (Nat.le_of_ble_eq_true rfl) ?_
  show WP E k_X10_step 5 0 0 0 [some (.ref M), none] [] h _
  refine R_aload_n dX10_step_0 rfl ?_
  refine R_iconst (v := nI 0) dX10_step_1 (by decide) ?_
  refine R_put_A K_10 (f := 0) (by decide) dX10_step_2 f_RX10_1 rfl x.1 (by rfl) (by rfl) (Nat.le_of_ble_eq_true rfl) ?_
  intro h0 u0
  have x0 := x.put u0 (by decide)
  have r0 := r.keep (S2 := (upd S.1 0 (nI 0), S.2)) (Ony.refl.put (by decide))
  have g0 : Out h h0 M (M + 23) := Out.upd u0 (by omega) (by omega)
  generalize (upd S.1 0 (nI 0), S.2) = S0 at x0 r0
  refine R_aload_n dX10_step_5 rfl ?_
  -- X10_step: ('call', 6, '.invokevirtual', 239)
  refine R_callV v_X10_picked (Md_picked x0 r0.1 hq.h86) dX10_step_6 l_RX10_239 rfl rfl x0.1 (Nat.le_of_ble_eq_true rfl) (by omega) rfl rfl (fun v h2 hq => ?_)
  obtain ⟨rfl, g2, S2, x2, o2⟩ := hq
  have r2 := r0.keep (o2.mono (by decide) (by decide))
  cases hp : pickS q.1 with
  | none =>
    refine R_istore1 dX10_step_9 (by decide) ?_
    refine R_iload_n dX10_step_10 rfl ?_
    refine R_iconst (v := (-1)) dX10_step_11 (by decide) ?_
    refine R_icmp_ne (tgt := 17) dX10_step_12 (by decide) (fun c12 => ?_) (fun c12 => ?_)
    -- X10_step: ('branch', 12, 17, 15)
    · exact absurd rfl c12
    · refine R_iconst (v := (-1)) dX10_step_15 (by decide) ?_
      refine R_ireturn dX10_step_16 rfl rfl ?_
      -- X10_step: ('ret', 16)
      exact ⟨by rw [stepA, hp]; rfl, by rw [stepE, hp]; exact ⟨S2, x2, r2⟩, g0.trans g2⟩
  | some p =>
    have hp7 := (pickS_some hp).1
    rw [show oI 0 (some p) = nI p from by rw [oI, Nat.zero_add]]
    refine R_istore1 dX10_step_9 (by decide) ?_
    refine R_iload_n dX10_step_10 rfl ?_
    refine R_iconst (v := (-1)) dX10_step_11 (by decide) ?_
    refine R_icmp_ne (tgt := 17) dX10_step_12 (by decide) (fun c12 => ?_) (fun c12 => ?_)
    -- X10_step: ('branch', 12, 17, 15)
    · refine R_aload_n dX10_step_17 rfl ?_
      refine R_iload_n dX10_step_18 rfl ?_
      refine R_bipush (v := nI 86) dX10_step_19 (by decide) ?_
      refine R_idiv_N dX10_step_21 (by omega) (by omega) (by omega) ?_
      refine R_iload_n dX10_step_22 rfl ?_
      refine R_bipush (v := nI 86) dX10_step_23 (by decide) ?_
      refine R_irem_N dX10_step_25 (by omega) (by omega) (by omega) ?_
      -- X10_step: ('call', 26, '.invokevirtual', 242)
      refine R_callV v_X10_canReplace (Md_canReplace x2 r2.1 hq.r86 (a := p / 86) (b := p % 86) (by omega) (by omega)) dX10_step_26 l_RX10_242 rfl rfl x2.1 (Nat.le_of_ble_eq_true rfl) (by omega) rfl rfl (fun v h3 hq => ?_)
      obtain ⟨rfl, e9⟩ := hq
      rw [e9]
      cases hs : signS q.2 (p / 86) (p % 86) with
      | none =>
        rw [show (none : Option Nat).isSome = false from rfl, if_neg (by decide)]
        refine R_if_ne_N (tgt := 35) dX10_step_29 (by decide) (by omega) (fun c29 => ?_) (fun c29 => ?_)
        -- X10_step: ('branch', 29, 35, 32)
        · exact absurd rfl c29
        · refine R_bipush (v := (-4)) dX10_step_32 (by decide) ?_
          refine R_ireturn dX10_step_34 rfl rfl ?_
          -- X10_step: ('ret', 34)
          exact ⟨by rw [stepA, hp, Option.elim_some, jnA, hs]; rfl, by rw [stepE, hp, Option.elim_some, jnE, hs]; exact ⟨S2, x2, r2⟩, g0.trans g2⟩
      | some i =>
        rw [show (some i).isSome = true from rfl, if_pos rfl]
        refine R_if_ne_N (tgt := 35) dX10_step_29 (by decide) (by omega) (fun c29 => ?_) (fun c29 => ?_)
        -- X10_step: ('branch', 29, 35, 32)
        · refine R_aload_n dX10_step_35 rfl ?_
          -- X10_step: ('call', 36, '.invokevirtual', 171)
          refine R_callV v_X10_notes (Md_notes x2 r2.1 r2.2.1) dX10_step_36 l_RX10_171 rfl rfl x2.1 (Nat.le_of_ble_eq_true rfl) (by omega) rfl rfl (fun v h4 hq => ?_)
          obtain ⟨rfl, g4, S4, x4, o4, d4⟩ := hq
          have c4 : curF (S4.2 1) q := by rw [o4.a1 (by decide)]; exact r2.1
          refine R_aload_n dX10_step_39 rfl ?_
          refine R_iload_n dX10_step_40 rfl ?_
          refine R_bipush (v := nI 86) dX10_step_41 (by decide) ?_
          refine R_idiv_N dX10_step_43 (by omega) (by omega) (by omega) ?_
          refine R_iload_n dX10_step_44 rfl ?_
          refine R_bipush (v := nI 86) dX10_step_45 (by decide) ?_
          refine R_irem_N dX10_step_47 (by omega) (by omega) (by omega) ?_
          -- X10_step: ('call', 48, '.invokevirtual', 246)
          refine R_callV v_X10_replaces (Md_replaces x4 c4 hq.h86 hq.r86 (a := p / 86) (b := p % 86) (by omega) (by omega) hs) dX10_step_48 l_RX10_246 rfl rfl x4.1 (Nat.le_of_ble_eq_true rfl) (by omega) rfl rfl (fun v h5 hq => ?_)
          obtain ⟨rfl, g5, S5, x5, o5, c5, f5⟩ := hq
          refine R_ireturn dX10_step_51 rfl rfl ?_
          -- X10_step: ('ret', 51)
          refine ⟨by rw [stepA, hp, Option.elim_some, jnA, hs]; rfl, ?_, ((g0.trans g2).trans g4).trans g5⟩
          rw [stepE, hp, Option.elim_some, jnE, hs]
          exact ⟨S5, x5, r2.chg ((o4.mono (by decide) (by decide)).trans (o5.mono (by decide) (by decide))) c5 (fun k hk => by rw [f5 k hk, o4.1 1 (by decide)]) (d4.keep (o5.2 5 (by decide)) (o5.1 2 (by decide)))⟩
        · exact absurd c29 (by decide)
    · exact absurd c12 (nI_ne_m1 (n := p) (by omega))
theorem MP_pack (y : MMAt E h M q ds im md tp ph fk fp) (hq : PkOk q) : Spec E k_X10_pack 5 0 0 [.ref M] h (fun v h' => v = some (.int (nI (packF 240 q).2)) ∧ MMAt E h' M (packF 240 q).1 (pushD ds q) im md tp ph fk fp ∧ Out h h' M (M + 23)) := by
  obtain ⟨S, x, r⟩ := y
  have hl := r.1.1
  refine Spec.of (by decide +kernel) (by simp [Value.category]) (Nat.le_of_ble_eq_true rfl) ?_
  show WP E k_X10_pack 5 0 0 0 [some (.ref M), none, none, none] [] h _
  refine R_aload_n dX10_pack_0 rfl ?_
  refine R_iconst (v := nI 0) dX10_pack_1 (by decide) ?_
  refine R_put_A K_10 (f := 0) (by decide) dX10_pack_2 f_RX10_1 rfl x.1 (by rfl) (by rfl) (Nat.le_of_ble_eq_true rfl) ?_
  intro h0 u0
  have x0 := x.put u0 (by decide)
  have r0 := r.keep (S2 := (upd S.1 0 (nI 0), S.2)) (Ony.refl.put (by decide))
  have g0 : Out h h0 M (M + 23) := Out.upd u0 (by omega) (by omega)
  generalize (upd S.1 0 (nI 0), S.2) = S0 at x0 r0
  have loop : ∀ m (q2 : Pk) t h2 S2 (z : Option Value), q2.1.length ≤ m → PkOk q2 → MdAt E h2 M S2 → MRel S2 q2 (pushD ds q) im md tp ph fk fp → Out h h2 M (M + 23) → WP E k_X10_pack 5 0 0 16 [some (.ref M), some (.int (nI t)), some (.int (oI 0 (pickS q2.1))), z] [] h2 (fun v h' => v = some (.int (nI (t + (packF m q2).2))) ∧ MMAt E h' M (packF m q2).1 (pushD ds q) im md tp ph fk fp ∧ Out h h' M (M + 23)) := by
    intro m
    induction m with
    | zero =>
      intro q2 t h2 S2 z hlen ok x2 r2 g2
      have hp : pickS q2.1 = none := by
        cases hp : pickS q2.1 with
        | none => rfl
        | some p => have := (pickS_some hp).2; have := cntG_le (l := q2.1) (a := p / 86) (b := p % 86); omega
      rw [hp]
      refine R_iload_n dX10_pack_16 rfl ?_
      refine R_iconst (v := (-1)) dX10_pack_17 (by decide) ?_
      refine R_icmp_eq (tgt := 60) dX10_pack_18 (by decide) (fun c18 => ?_) (fun c18 => ?_)
      -- X10_pack: ('branch', 18, 60, 21)
      · refine R_iload_n dX10_pack_60 rfl ?_
        refine R_ireturn dX10_pack_61 rfl rfl ?_
        -- X10_pack: ('ret', 61)
        exact ⟨rfl, ⟨S2, x2, r2⟩, g2⟩
      · exact absurd rfl c18
    | succ m ih =>
      intro q2 t h2 S2 z hlen ok x2 r2 g2
      cases hp : pickS q2.1 with
      | none =>
        refine R_iload_n dX10_pack_16 rfl ?_
        refine R_iconst (v := (-1)) dX10_pack_17 (by decide) ?_
        refine R_icmp_eq (tgt := 60) dX10_pack_18 (by decide) (fun c18 => ?_) (fun c18 => ?_)
        -- X10_pack: ('branch', 18, 60, 21)
        · refine R_iload_n dX10_pack_60 rfl ?_
          refine R_ireturn dX10_pack_61 rfl rfl ?_
          -- X10_pack: ('ret', 61)
          rw [packF_none (pkStep_0 hp)]
          exact ⟨rfl, ⟨S2, x2, r2⟩, g2⟩
        · exact absurd rfl c18
      | some p =>
        have hp7 := (pickS_some hp).1
        rw [show oI 0 (some p) = nI p from by rw [oI, Nat.zero_add]]
        refine R_iload_n dX10_pack_16 rfl ?_
        refine R_iconst (v := (-1)) dX10_pack_17 (by decide) ?_
        refine R_icmp_eq (tgt := 60) dX10_pack_18 (by decide) (fun c18 => ?_) (fun c18 => ?_)
        -- X10_pack: ('branch', 18, 60, 21)
        · exact absurd c18 (nI_ne_m1 (n := p) (by omega))
        · refine R_aload_n dX10_pack_21 rfl ?_
          refine R_iload_n dX10_pack_22 rfl ?_
          refine R_bipush (v := nI 86) dX10_pack_23 (by decide) ?_
          refine R_idiv_N dX10_pack_25 (by omega) (by omega) (by omega) ?_
          refine R_iload_n dX10_pack_26 rfl ?_
          refine R_bipush (v := nI 86) dX10_pack_27 (by decide) ?_
          refine R_irem_N dX10_pack_29 (by omega) (by omega) (by omega) ?_
          -- X10_pack: ('call', 30, '.invokevirtual', 242)
          refine R_callV v_X10_canReplace (Md_canReplace x2 r2.1 ok.r86 (a := p / 86) (b := p % 86) (by omega) (by omega)) dX10_pack_30 l_RX10_242 rfl rfl x2.1 (Nat.le_of_ble_eq_true rfl) (by omega) rfl rfl (fun v h3 hq => ?_)
          obtain ⟨rfl, e9⟩ := hq
          rw [e9]
          cases hs : signS q2.2 (p / 86) (p % 86) with
          | none =>
            rw [show (none : Option Nat).isSome = false from rfl, if_neg (by decide)]
            refine R_if_eq_N (tgt := 60) dX10_pack_33 (by decide) (by omega) (fun c33 => ?_) (fun c33 => ?_)
            -- X10_pack: ('branch', 33, 60, 36)
            · refine R_iload_n dX10_pack_60 rfl ?_
              refine R_ireturn dX10_pack_61 rfl rfl ?_
              -- X10_pack: ('ret', 61)
              rw [packF_none (pkStep_1 hp hs)]
              exact ⟨rfl, ⟨S2, x2, r2⟩, g2⟩
            · exact absurd rfl c33
          | some i =>
            rw [show (some i).isSome = true from rfl, if_pos rfl]
            have st := pkStep_2 hp hs
            obtain ⟨ok3, hlt⟩ := pkStep_ok ok st
            refine R_if_eq_N (tgt := 60) dX10_pack_33 (by decide) (by omega) (fun c33 => ?_) (fun c33 => ?_)
            -- X10_pack: ('branch', 33, 60, 36)
            · exact absurd c33 (by decide)
            · refine R_aload_n dX10_pack_36 rfl ?_
              refine R_iload_n dX10_pack_37 rfl ?_
              refine R_bipush (v := nI 86) dX10_pack_38 (by decide) ?_
              refine R_idiv_N dX10_pack_40 (by omega) (by omega) (by omega) ?_
              refine R_iload_n dX10_pack_41 rfl ?_
              refine R_bipush (v := nI 86) dX10_pack_42 (by decide) ?_
              refine R_irem_N dX10_pack_44 (by omega) (by omega) (by omega) ?_
              -- X10_pack: ('call', 45, '.invokevirtual', 246)
              refine R_callV v_X10_replaces (Md_replaces x2 r2.1 ok.h86 ok.r86 (a := p / 86) (b := p % 86) (by omega) (by omega) hs) dX10_pack_45 l_RX10_246 rfl rfl x2.1 (Nat.le_of_ble_eq_true rfl) (by omega) rfl rfl (fun v h5 hq => ?_)
              obtain ⟨rfl, g5, S5, x5, o5, c5, f5⟩ := hq
              have r5 : MRel S5 (jnP q2 (p / 86) (p % 86) i) (pushD ds q) im md tp ph fk fp := r2.chg (o5.mono (by decide) (by decide)) c5 f5 (r2.2.1.keep (o5.2 5 (by decide)) (o5.1 2 (by decide)))
              refine R_istore3 dX10_pack_48 (by decide) ?_
              refine R_iinc1 dX10_pack_49 (by decide) (nI_inc _ 1) ?_
              refine R_aload_n dX10_pack_52 rfl ?_
              -- X10_pack: ('call', 53, '.invokevirtual', 239)
              refine R_callV v_X10_picked (Md_picked x5 r5.1 ok3.h86) dX10_pack_53 l_RX10_239 rfl rfl x5.1 (Nat.le_of_ble_eq_true rfl) (by omega) rfl rfl (fun v h6 hq => ?_)
              obtain ⟨rfl, g6, S6, x6, o6⟩ := hq
              refine R_istore2 dX10_pack_56 (by decide) ?_
              refine R_goto (tgt := 16) dX10_pack_57 (by decide) ?_
              -- X10_pack: ('stop', 16)
              have := ih (jnP q2 (p / 86) (p % 86) i) (t + 1) h6 S6 (some (.int (nI (26 + i)))) (by omega) ok3 x6 (r5.keep (o6.mono (by decide) (by decide))) ((g2.trans g5).trans g6)
              rw [packF_some st, show t + ((packF m (jnP q2 (p / 86) (p % 86) i)).2 + 1) = t + 1 + (packF m (jnP q2 (p / 86) (p % 86) i)).2 by omega]
              exact this
  refine R_aload_n dX10_pack_5 rfl ?_
  -- X10_pack: ('call', 6, '.invokevirtual', 171)
  refine R_callV v_X10_notes (Md_notes x0 r0.1 r0.2.1) dX10_pack_6 l_RX10_171 rfl rfl x0.1 (Nat.le_of_ble_eq_true rfl) (by omega) rfl rfl (fun v h4 hq => ?_)
  obtain ⟨rfl, g4, S4, x4, o4, d4⟩ := hq
  have c4 : curF (S4.2 1) q := by rw [o4.a1 (by decide)]; exact r0.1
  have r4 : MRel S4 q (pushD ds q) im md tp ph fk fp := r0.chg (o4.mono (by decide) (by decide)) c4 (fun k hk => by rw [o4.1 1 (by decide)]) d4
  refine R_iconst (v := nI 0) dX10_pack_9 (by decide) ?_
  refine R_istore1 dX10_pack_10 (by decide) ?_
  refine R_aload_n dX10_pack_11 rfl ?_
  -- X10_pack: ('call', 12, '.invokevirtual', 239)
  refine R_callV v_X10_picked (Md_picked x4 c4 hq.h86) dX10_pack_12 l_RX10_239 rfl rfl x4.1 (Nat.le_of_ble_eq_true rfl) (by omega) rfl rfl (fun v h6 hq => ?_)
  obtain ⟨rfl, g6, S6, x6, o6⟩ := hq
  refine R_istore2 dX10_pack_15 (by decide) ?_
  -- X10_pack: ('stop', 16)
  have := loop 240 q 0 h6 S6 none hl hq x6 (r4.keep (o6.mono (by decide) (by decide))) ((g0.trans g4).trans g6)
  rw [Nat.zero_add] at this
  exact this
theorem MP_replace_no (y : MMAt E h M q ds im md tp ph fk fp) {a b : Int32} (hn : ¬ (sgI q.2 a ∧ sgI q.2 b)) : Spec E k_X10_replace 5 0 0 [.ref M, .int a, .int b] h (fun v h' => v = some (.int (-2)) ∧ MMAt E h' M q ds im md tp ph fk fp ∧ Out h h' M (M + 23)) := by
  obtain ⟨S, x, r⟩ := y
  refine Spec.of (by decide +kernel) (by simp [Value.category]) (Nat.le_of_ble_eq_true rfl) ?_
  show WP E k_X10_replace 5 0 0 0 [some (.ref M), some (.int a), some (.int b)] [] h _
  refine R_aload_n dX10_replace_0 rfl ?_
  refine R_iconst (v := nI 0) dX10_replace_1 (by decide) ?_
  refine R_put_A K_10 (f := 0) (by decide) dX10_replace_2 f_RX10_1 rfl x.1 (by rfl) (by rfl) (Nat.le_of_ble_eq_true rfl) ?_
  intro h0 u0
  have x0 := x.put u0 (by decide)
  have r0 := r.keep (S2 := (upd S.1 0 (nI 0), S.2)) (Ony.refl.put (by decide))
  have g0 : Out h h0 M (M + 23) := Out.upd u0 (by omega) (by omega)
  generalize (upd S.1 0 (nI 0), S.2) = S0 at x0 r0
  refine R_aload_n dX10_replace_5 rfl ?_
  refine R_iload_n dX10_replace_6 rfl ?_
  -- X10_replace: ('call', 7, '.invokevirtual', 210)
  refine R_callV v_X10_isSign (Md_isSign x0 r0.1 a) dX10_replace_7 l_RX10_210 rfl rfl x0.1 (Nat.le_of_ble_eq_true rfl) (by omega) rfl rfl (fun v h2 hq => ?_)
  obtain ⟨rfl, e9⟩ := hq
  rw [e9]
  by_cases ha : sgI q.2 a
  · rw [if_pos ha]
    refine R_if_eq_N (tgt := 21) dX10_replace_10 (by decide) (by omega) (fun c10 => ?_) (fun c10 => ?_)
    -- X10_replace: ('branch', 10, 21, 13)
    · exact absurd c10 (by decide)
    · refine R_aload_n dX10_replace_13 rfl ?_
      refine R_iload_n dX10_replace_14 rfl ?_
      -- X10_replace: ('call', 15, '.invokevirtual', 210)
      refine R_callV v_X10_isSign (Md_isSign x0 r0.1 b) dX10_replace_15 l_RX10_210 rfl rfl x0.1 (Nat.le_of_ble_eq_true rfl) (by omega) rfl rfl (fun v h3 hq => ?_)
      obtain ⟨rfl, e9⟩ := hq
      rw [e9, if_neg (fun z => hn ⟨ha, z⟩)]
      refine R_if_ne_N (tgt := 24) dX10_replace_18 (by decide) (by omega) (fun c18 => ?_) (fun c18 => ?_)
      -- X10_replace: ('branch', 18, 24, 21)
      · exact absurd rfl c18
      · refine R_bipush (v := (-2)) dX10_replace_21 (by decide) ?_
        refine R_ireturn dX10_replace_23 rfl rfl ?_
        -- X10_replace: ('ret', 23)
        exact ⟨rfl, ⟨S0, x0, r0⟩, g0⟩
  · rw [if_neg ha]
    refine R_if_eq_N (tgt := 21) dX10_replace_10 (by decide) (by omega) (fun c10 => ?_) (fun c10 => ?_)
    -- X10_replace: ('branch', 10, 21, 13)
    · refine R_bipush (v := (-2)) dX10_replace_21 (by decide) ?_
      refine R_ireturn dX10_replace_23 rfl rfl ?_
      -- X10_replace: ('ret', 23)
      exact ⟨rfl, ⟨S0, x0, r0⟩, g0⟩
    · exact absurd rfl c10
theorem MP_replace (y : MMAt E h M q ds im md tp ph fk fp) (hq : PkOk q) {a b : Nat} (ha : isSg q.2 a) (hb : isSg q.2 b) : Spec E k_X10_replace 5 0 0 [.ref M, .int (nI a), .int (nI b)] h (fun v h' => v = some (.int (replA q a b)) ∧ MMAt E h' M (replE q ds a b).1 (replE q ds a b).2 im md tp ph fk fp ∧ Out h h' M (M + 23)) := by
  have ha2 := isSg_lt ha
  have hb2 := isSg_lt hb
  obtain ⟨S, x, r⟩ := y
  have hcl : cntG q.1 a b ≤ 240 := Nat.le_trans cntG_le r.1.1
  refine Spec.of (by decide +kernel) (by simp [Value.category]) (Nat.le_of_ble_eq_true rfl) ?_
  show WP E k_X10_replace 5 0 0 0 [some (.ref M), some (.int (nI a)), some (.int (nI b))] [] h _
  refine R_aload_n dX10_replace_0 rfl ?_
  refine R_iconst (v := nI 0) dX10_replace_1 (by decide) ?_
  refine R_put_A K_10 (f := 0) (by decide) dX10_replace_2 f_RX10_1 rfl x.1 (by rfl) (by rfl) (Nat.le_of_ble_eq_true rfl) ?_
  intro h0 u0
  have x0 := x.put u0 (by decide)
  have r0 := r.keep (S2 := (upd S.1 0 (nI 0), S.2)) (Ony.refl.put (by decide))
  have g0 : Out h h0 M (M + 23) := Out.upd u0 (by omega) (by omega)
  generalize (upd S.1 0 (nI 0), S.2) = S0 at x0 r0
  refine R_aload_n dX10_replace_5 rfl ?_
  refine R_iload_n dX10_replace_6 rfl ?_
  -- X10_replace: ('call', 7, '.invokevirtual', 210)
  refine R_callV v_X10_isSign (Md_isSign x0 r0.1 (nI a)) dX10_replace_7 l_RX10_210 rfl rfl x0.1 (Nat.le_of_ble_eq_true rfl) (by omega) rfl rfl (fun v h2 hq => ?_)
  obtain ⟨rfl, e9⟩ := hq
  rw [e9, if_pos ((sgI_nI (by omega)).mpr ha)]
  refine R_if_eq_N (tgt := 21) dX10_replace_10 (by decide) (by omega) (fun c10 => ?_) (fun c10 => ?_)
  -- X10_replace: ('branch', 10, 21, 13)
  · exact absurd c10 (by decide)
  · refine R_aload_n dX10_replace_13 rfl ?_
    refine R_iload_n dX10_replace_14 rfl ?_
    -- X10_replace: ('call', 15, '.invokevirtual', 210)
    refine R_callV v_X10_isSign (Md_isSign x0 r0.1 (nI b)) dX10_replace_15 l_RX10_210 rfl rfl x0.1 (Nat.le_of_ble_eq_true rfl) (by omega) rfl rfl (fun v h3 hq => ?_)
    obtain ⟨rfl, e9⟩ := hq
    rw [e9, if_pos ((sgI_nI (by omega)).mpr hb)]
    refine R_if_ne_N (tgt := 24) dX10_replace_18 (by decide) (by omega) (fun c18 => ?_) (fun c18 => ?_)
    -- X10_replace: ('branch', 18, 24, 21)
    · refine R_aload_n dX10_replace_24 rfl ?_
      refine R_iload_n dX10_replace_25 rfl ?_
      refine R_iload_n dX10_replace_26 rfl ?_
      -- X10_replace: ('call', 27, '.invokevirtual', 249)
      refine R_callV v_X10_countOf (Md_countOf x0 r0.1 hq.h86 ha2 hb2) dX10_replace_27 l_RX10_249 rfl rfl x0.1 (Nat.le_of_ble_eq_true rfl) (by omega) rfl rfl (fun v h4 hq => ?_)
      obtain ⟨rfl, e9⟩ := hq
      rw [e9]
      refine R_if_ne_N (tgt := 36) dX10_replace_30 (by decide) (by omega) (fun c30 => ?_) (fun c30 => ?_)
      -- X10_replace: ('branch', 30, 36, 33)
      · rw [replA, if_neg c30, replE, if_neg c30]
        refine R_aload_n dX10_replace_36 rfl ?_
        refine R_iload_n dX10_replace_37 rfl ?_
        refine R_iload_n dX10_replace_38 rfl ?_
        -- X10_replace: ('call', 39, '.invokevirtual', 242)
        refine R_callV v_X10_canReplace (Md_canReplace x0 r0.1 hq.r86 ha2 hb2) dX10_replace_39 l_RX10_242 rfl rfl x0.1 (Nat.le_of_ble_eq_true rfl) (by omega) rfl rfl (fun v h3 hq => ?_)
        obtain ⟨rfl, e9⟩ := hq
        rw [e9]
        cases hs : signS q.2 a b with
        | none =>
          rw [show (none : Option Nat).isSome = false from rfl, if_neg (by decide)]
          refine R_if_ne_N (tgt := 48) dX10_replace_42 (by decide) (by omega) (fun c42 => ?_) (fun c42 => ?_)
          -- X10_replace: ('branch', 42, 48, 45)
          · exact absurd rfl c42
          · refine R_bipush (v := (-4)) dX10_replace_45 (by decide) ?_
            refine R_ireturn dX10_replace_47 rfl rfl ?_
            -- X10_replace: ('ret', 47)
            exact ⟨by rw [jnA, hs]; rfl, by rw [jnE, hs]; exact ⟨S0, x0, r0⟩, g0⟩
        | some i =>
          rw [show (some i).isSome = true from rfl, if_pos rfl]
          refine R_if_ne_N (tgt := 48) dX10_replace_42 (by decide) (by omega) (fun c42 => ?_) (fun c42 => ?_)
          -- X10_replace: ('branch', 42, 48, 45)
          · refine R_aload_n dX10_replace_48 rfl ?_
            -- X10_replace: ('call', 49, '.invokevirtual', 171)
            refine R_callV v_X10_notes (Md_notes x0 r0.1 r0.2.1) dX10_replace_49 l_RX10_171 rfl rfl x0.1 (Nat.le_of_ble_eq_true rfl) (by omega) rfl rfl (fun v h4 hq => ?_)
            obtain ⟨rfl, g4, S4, x4, o4, d4⟩ := hq
            have c4 : curF (S4.2 1) q := by rw [o4.a1 (by decide)]; exact r0.1
            refine R_aload_n dX10_replace_52 rfl ?_
            refine R_iload_n dX10_replace_53 rfl ?_
            refine R_iload_n dX10_replace_54 rfl ?_
            -- X10_replace: ('call', 55, '.invokevirtual', 246)
            refine R_callV v_X10_replaces (Md_replaces x4 c4 hq.h86 hq.r86 ha2 hb2 hs) dX10_replace_55 l_RX10_246 rfl rfl x4.1 (Nat.le_of_ble_eq_true rfl) (by omega) rfl rfl (fun v h5 hq => ?_)
            obtain ⟨rfl, g5, S5, x5, o5, c5, f5⟩ := hq
            refine R_ireturn dX10_replace_58 rfl rfl ?_
            -- X10_replace: ('ret', 58)
            refine ⟨by rw [jnA, hs]; rfl, ?_, (g0.trans g4).trans g5⟩
            rw [jnE, hs]
            exact ⟨S5, x5, r0.chg ((o4.mono (by decide) (by decide)).trans (o5.mono (by decide) (by decide))) c5 (fun k hk => by rw [f5 k hk, o4.1 1 (by decide)]) (d4.keep (o5.2 5 (by decide)) (o5.1 2 (by decide)))⟩
          · exact absurd c42 (by decide)
      · rw [replA, if_pos c30, replE, if_pos c30]
        refine R_bipush (v := (-5)) dX10_replace_33 (by decide) ?_
        refine R_ireturn dX10_replace_35 rfl rfl ?_
        -- X10_replace: ('ret', 35)
        exact ⟨rfl, ⟨S0, x0, r0⟩, g0⟩
    · exact absurd c18 (by decide)
end MD7
