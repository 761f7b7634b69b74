/-! THE MODEL: letters ahead, where, prints, what stands twice, hits, the depth -/
section MD12
variable {E : EnvT} {h h1 : Hp} {M : Nat} {S : MSt} {q : Pk} {ds : List Pk} {im : Nat → Pk} {md : Nat → Nat} {tp ph : List Nat} {fk fp : Int32}
theorem comN_le9 {ls : List Nat} {i j : Nat} : comN ls i j ≤ ls.length := by
  rw [comN]
  cases hx : fstB (fun n => decide (ls[i + n]? ≠ ls[j + n]?)) (ls.length - max i j) with
  | none => show ls.length - _ ≤ _; omega
  | some t => have := (fstB_some hx).1; show t ≤ _; omega
theorem mxJ_low {ls : List Nat} {i : Nat} : ∀ n, n ≤ i + 1 → mxJ ls i n = 0
  | 0, _ => rfl
  | n + 1, h => by rw [mxJ, if_neg (by omega), mxJ_low n (by omega)]
theorem MP_ahead_no1 (y : MMAt E h M q ds im md tp ph fk fp) {c p : Int32} (hn : ¬ ltI c) : Spec E k_X10_ahead 66 0 0 [.ref M, .int c, .int p] h (fun v h' => v = some (.int (-2)) ∧ MMAt E h' M q ds im md tp ph fk fp ∧ Out h h' M (M + 23)) := by
  obtain ⟨S, x, r⟩ := y
  refine Spec.of (by decide +kernel) (by simp [Value.category]) (Nat.le_of_ble_eq_true rfl) ?_
  show WP E k_X10_ahead 66 0 0 0 [some (.ref M), some (.int c), some (.int p), none, none] [] h _
  refine R_aload_n dX10_ahead_0 rfl ?_
  refine R_iconst (v := nI 0) dX10_ahead_1 (by decide) ?_
  refine R_put_A K_10 (f := 0) (by decide) dX10_ahead_2 f_RX10_1 rfl x.1 (by rfl) (by rfl) (Nat.le_of_ble_eq_true rfl) ?_
  intro h0 u0
  have x0 := x.put u0 (by decide)
  have r0 := r.keep (S2 := (upd S.1 0 (nI 0), S.2)) (Ony.refl.put (by decide))
  have g0 : Out h h0 M (M + 23) := Out.upd u0 (by omega) (by omega)
  generalize (upd S.1 0 (nI 0), S.2) = S0 at x0 r0
  refine R_iload_n dX10_ahead_5 rfl ?_
  refine R_i2l dX10_ahead_6 ?_
  refine R_lconst (v := 0) dX10_ahead_7 rfl ?_
  refine R_ldc2 dX10_ahead_8 cl_RX10_96 ?_
  -- X10_ahead: ('call', 11, '.invokestatic', 98)
  refine R_callS s_X10_isIn (Md_isIn c (nI 0) (nI 25) (by decide) (by decide)) dX10_ahead_11 l_RX10_98 rfl rfl (Nat.le_of_ble_eq_true rfl) (by omega) rfl rfl (fun v h2 hq => ?_)
  obtain ⟨rfl, e9⟩ := hq
  rw [e9, if_neg (fun z => hn (lt_iffI.mp z))]
  refine R_if_ne_N (tgt := 20) dX10_ahead_14 (by decide) (by omega) (fun c14 => ?_) (fun c14 => ?_)
  -- X10_ahead: ('branch', 14, 20, 17)
  · exact absurd rfl c14
  · refine R_bipush (v := (-2)) dX10_ahead_17 (by decide) ?_
    refine R_ireturn dX10_ahead_19 rfl rfl ?_
    -- X10_ahead: ('ret', 19)
    exact ⟨rfl, ⟨S0, x0, r0⟩, g0⟩
theorem MP_ahead_no2 (y : MMAt E h M q ds im md tp ph fk fp) (hq : PkOk q) {c : Nat} {p : Int32} (hc : c < 26) (hn : ¬ stP (letL q.2 q.1).length p 0) : Spec E k_X10_ahead 66 0 0 [.ref M, .int (nI c), .int p] h (fun v h' => v = some (.int (-5)) ∧ MMAt E h' M q ds im md tp ph fk fp ∧ Out h h' M (M + 23)) := by
  have hlen := hq.len
  obtain ⟨S, x, r⟩ := y
  refine Spec.of (by decide +kernel) (by simp [Value.category]) (Nat.le_of_ble_eq_true rfl) ?_
  show WP E k_X10_ahead 66 0 0 0 [some (.ref M), some (.int (nI c)), some (.int p), none, none] [] h _
  refine R_aload_n dX10_ahead_0 rfl ?_
  refine R_iconst (v := nI 0) dX10_ahead_1 (by decide) ?_
  refine R_put_A K_10 (f := 0) (by decide) dX10_ahead_2 f_RX10_1 rfl x.1 (by rfl) (by rfl) (Nat.le_of_ble_eq_true rfl) ?_
  intro h0 u0
  have x0 := x.put u0 (by decide)
  have r0 := r.keep (S2 := (upd S.1 0 (nI 0), S.2)) (Ony.refl.put (by decide))
  have g0 : Out h h0 M (M + 23) := Out.upd u0 (by omega) (by omega)
  generalize (upd S.1 0 (nI 0), S.2) = S0 at x0 r0
  refine R_iload_n dX10_ahead_5 rfl ?_
  refine R_i2l dX10_ahead_6 ?_
  refine R_lconst (v := 0) dX10_ahead_7 rfl ?_
  refine R_ldc2 dX10_ahead_8 cl_RX10_96 ?_
  -- X10_ahead: ('call', 11, '.invokestatic', 98)
  refine R_callS s_X10_isIn (Md_isIn (nI c) (nI 0) (nI 25) (by decide) (by decide)) dX10_ahead_11 l_RX10_98 rfl rfl (Nat.le_of_ble_eq_true rfl) (by omega) rfl rfl (fun v h2 hq => ?_)
  obtain ⟨rfl, e9⟩ := hq
  rw [e9, if_pos (lt_iffI.mpr ((ltI_nI (by omega)).mpr hc))]
  refine R_if_ne_N (tgt := 20) dX10_ahead_14 (by decide) (by omega) (fun c14 => ?_) (fun c14 => ?_)
  -- X10_ahead: ('branch', 14, 20, 17)
  · refine R_aload_n dX10_ahead_20 rfl ?_
    -- X10_ahead: ('call', 21, '.invokevirtual', 224)
    refine R_callV v_X10_laysText (Md_laysText hq x0 r0.1) dX10_ahead_21 l_RX10_224 rfl rfl x0.1 (Nat.le_of_ble_eq_true rfl) (by omega) rfl rfl (fun v h3 hq => ?_)
    obtain ⟨rfl, g3, S3, x3, o3, t3⟩ := hq
    have r3 := r0.keep (o3.mono (by decide) (by decide))
    refine R_iload_n dX10_ahead_24 rfl ?_
    refine R_i2l dX10_ahead_25 ?_
    refine R_lconst (v := 0) dX10_ahead_26 rfl ?_
    refine R_aload_n dX10_ahead_27 rfl ?_
    refine R_get K_10 (f := 11) (by decide) dX10_ahead_28 f_RX10_120 x3.1 (fld_get (k := 11) (by decide) t3.2.1) ?_
    refine R_i2l dX10_ahead_31 ?_
    -- X10_ahead: ('call', 32, '.invokestatic', 98)
    refine R_callS s_X10_isIn (Md_isIn p (nI 0) (nI (letL q.2 q.1).length) (by decide) rfl) dX10_ahead_32 l_RX10_98 rfl rfl (Nat.le_of_ble_eq_true rfl) (by omega) rfl rfl (fun v h4 hq => ?_)
    obtain ⟨rfl, e9⟩ := hq
    rw [e9, if_neg (fun z => hn ((st0_iff (len := (letL q.2 q.1).length) (by omega) p).mp z))]
    refine R_if_ne_N (tgt := 41) dX10_ahead_35 (by decide) (by omega) (fun c35 => ?_) (fun c35 => ?_)
    -- X10_ahead: ('branch', 35, 41, 38)
    · exact absurd rfl c35
    · refine R_bipush (v := (-5)) dX10_ahead_38 (by decide) ?_
      refine R_ireturn dX10_ahead_40 rfl rfl ?_
      -- X10_ahead: ('ret', 40)
      exact ⟨rfl, ⟨S3, x3, r3⟩, g0.trans g3⟩
  · exact absurd c14 (by decide)
theorem MP_ahead (y : MMAt E h M q ds im md tp ph fk fp) (hq : PkOk q) {c p : Nat} (hc : c < 26) (hp : p ≤ (letL q.2 q.1).length) : Spec E k_X10_ahead 66 0 0 [.ref M, .int (nI c), .int (nI p)] h (fun v h' => v = some (.int (nI (((letL q.2 q.1).take p).count c))) ∧ MMAt E h' M q ds im md tp ph fk fp ∧ Out h h' M (M + 23)) := by
  have hlen := hq.len
  obtain ⟨S, x, r⟩ := y
  refine Spec.of (by decide +kernel) (by simp [Value.category]) (Nat.le_of_ble_eq_true rfl) ?_
  show WP E k_X10_ahead 66 0 0 0 [some (.ref M), some (.int (nI c)), some (.int (nI p)), none, none] [] h _
  refine R_aload_n dX10_ahead_0 rfl ?_
  refine R_iconst (v := nI 0) dX10_ahead_1 (by decide) ?_
  refine R_put_A K_10 (f := 0) (by decide) dX10_ahead_2 f_RX10_1 rfl x.1 (by rfl) (by rfl) (Nat.le_of_ble_eq_true rfl) ?_
  intro h0 u0
  have x0 := x.put u0 (by decide)
  have r0 := r.keep (S2 := (upd S.1 0 (nI 0), S.2)) (Ony.refl.put (by decide))
  have g0 : Out h h0 M (M + 23) := Out.upd u0 (by omega) (by omega)
  generalize (upd S.1 0 (nI 0), S.2) = S0 at x0 r0
  refine R_iload_n dX10_ahead_5 rfl ?_
  refine R_i2l dX10_ahead_6 ?_
  refine R_lconst (v := 0) dX10_ahead_7 rfl ?_
  refine R_ldc2 dX10_ahead_8 cl_RX10_96 ?_
  -- X10_ahead: ('call', 11, '.invokestatic', 98)
  refine R_callS s_X10_isIn (Md_isIn (nI c) (nI 0) (nI 25) (by decide) (by decide)) dX10_ahead_11 l_RX10_98 rfl rfl (Nat.le_of_ble_eq_true rfl) (by omega) rfl rfl (fun v h2 hq => ?_)
  obtain ⟨rfl, e9⟩ := hq
  rw [e9, if_pos (lt_iffI.mpr ((ltI_nI (by omega)).mpr hc))]
  refine R_if_ne_N (tgt := 20) dX10_ahead_14 (by decide) (by omega) (fun c14 => ?_) (fun c14 => ?_)
  -- X10_ahead: ('branch', 14, 20, 17)
  · refine R_aload_n dX10_ahead_20 rfl ?_
    -- X10_ahead: ('call', 21, '.invokevirtual', 224)
    refine R_callV v_X10_laysText (Md_laysText hq x0 r0.1) dX10_ahead_21 l_RX10_224 rfl rfl x0.1 (Nat.le_of_ble_eq_true rfl) (by omega) rfl rfl (fun v h3 hq => ?_)
    obtain ⟨rfl, g3, S3, x3, o3, t3⟩ := hq
    have r3 := r0.keep (o3.mono (by decide) (by decide))
    have fin : MMAt E h3 M q ds im md tp ph fk fp ∧ Out h h3 M (M + 23) := ⟨⟨S3, x3, r3⟩, g0.trans g3⟩
    have loop : ∀ m t, t + m = p → WP E k_X10_ahead 66 0 0 46 [some (.ref M), some (.int (nI c)), some (.int (nI p)), some (.int (nI (((letL q.2 q.1).take t).count c))), some (.int (nI t))] [] h3 (fun v h' => v = some (.int (nI (((letL q.2 q.1).take p).count c))) ∧ MMAt E h' M q ds im md tp ph fk fp ∧ Out h h' M (M + 23)) := by
      intro m
      induction m with
      | zero =>
        intro t ht
        obtain rfl : t = p := by omega
        refine R_iload dX10_ahead_46 rfl ?_
        refine R_iload_n dX10_ahead_48 rfl ?_
        refine R_icmp_ge_N (tgt := 77) dX10_ahead_49 (by decide) (by omega) (by omega) (fun c49 => ?_) (fun c49 => ?_)
        -- X10_ahead: ('branch', 49, 77, 52)
        · refine R_iload_n dX10_ahead_77 rfl ?_
          refine R_ireturn dX10_ahead_78 rfl rfl ?_
          -- X10_ahead: ('ret', 78)
          exact ⟨rfl, fin⟩
        · exact absurd c49 (by omega)
      | succ m ih =>
        intro t ht
        obtain ⟨y, hy⟩ := getE (l := letL q.2 q.1) (i := t) (by omega)
        have hy26 := letL_lt y (List.mem_of_getElem? hy)
        have ih := ih (t + 1) (by omega)
        rw [take_snoc hy, count_snoc] at ih
        refine R_iload dX10_ahead_46 rfl ?_
        refine R_iload_n dX10_ahead_48 rfl ?_
        refine R_icmp_ge_N (tgt := 77) dX10_ahead_49 (by decide) (by omega) (by omega) (fun c49 => ?_) (fun c49 => ?_)
        -- X10_ahead: ('branch', 49, 77, 52)
        · exact absurd c49 (by omega)
        · refine R_iload_n dX10_ahead_52 rfl ?_
          refine R_aload_n dX10_ahead_53 rfl ?_
          refine R_get K_10 (f := 9) (by decide) dX10_ahead_54 f_RX10_36 x3.1 rfl ?_
          refine R_iload dX10_ahead_57 rfl ?_
          refine R_iaload_N dX10_ahead_59 x3.a8 (by omega) (by omega) (t3.2.2.1 _ y hy) ?_
          refine R_iload_n dX10_ahead_60 rfl ?_
          refine R_icmp_ne_N (tgt := 68) dX10_ahead_61 (by decide) (by omega) (by omega) (fun c61 => ?_) (fun c61 => ?_)
          -- X10_ahead: ('branch', 61, 68, 64)
          · rw [if_neg c61, Nat.add_zero] at ih
            refine R_iconst (v := nI 0) dX10_ahead_68 (by decide) ?_
            refine R_iadd_N dX10_ahead_69 ?_
            refine R_istore3 dX10_ahead_70 (by decide) ?_
            refine R_iinc4 dX10_ahead_71 (by decide) (nI_inc _ 1) ?_
            refine R_goto (tgt := 46) dX10_ahead_74 (by decide) ?_
            -- X10_ahead: ('stop', 46)
            exact ih
          · rw [if_pos c61] at ih
            refine R_iconst (v := nI 1) dX10_ahead_64 (by decide) ?_
            refine R_goto (tgt := 69) dX10_ahead_65 (by decide) ?_
            refine R_iadd_N dX10_ahead_69 ?_
            refine R_istore3 dX10_ahead_70 (by decide) ?_
            refine R_iinc4 dX10_ahead_71 (by decide) (nI_inc _ 1) ?_
            refine R_goto (tgt := 46) dX10_ahead_74 (by decide) ?_
            -- X10_ahead: ('stop', 46)
            exact ih
    refine R_iload_n dX10_ahead_24 rfl ?_
    refine R_i2l dX10_ahead_25 ?_
    refine R_lconst (v := 0) dX10_ahead_26 rfl ?_
    refine R_aload_n dX10_ahead_27 rfl ?_
    refine R_get K_10 (f := 11) (by decide) dX10_ahead_28 f_RX10_120 x3.1 (fld_get (k := 11) (by decide) t3.2.1) ?_
    refine R_i2l dX10_ahead_31 ?_
    -- X10_ahead: ('call', 32, '.invokestatic', 98)
    refine R_callS s_X10_isIn (Md_isIn (nI p) (nI 0) (nI (letL q.2 q.1).length) (by decide) rfl) dX10_ahead_32 l_RX10_98 rfl rfl (Nat.le_of_ble_eq_true rfl) (by omega) rfl rfl (fun v h4 hq => ?_)
    obtain ⟨rfl, e9⟩ := hq
    rw [e9, if_pos ((st0_iff (len := (letL q.2 q.1).length) (by omega) (nI p)).mpr ((stP_nI (by omega)).mpr hp))]
    refine R_if_ne_N (tgt := 41) dX10_ahead_35 (by decide) (by omega) (fun c35 => ?_) (fun c35 => ?_)
    -- X10_ahead: ('branch', 35, 41, 38)
    · refine R_iconst (v := nI 0) dX10_ahead_41 (by decide) ?_
      refine R_istore3 dX10_ahead_42 (by decide) ?_
      refine R_iconst (v := nI 0) dX10_ahead_43 (by decide) ?_
      refine R_istore4 dX10_ahead_44 (by decide) ?_
      -- X10_ahead: ('stop', 46)
      exact loop p 0 (by omega)
    · exact absurd c35 (by decide)
  · exact absurd c14 (by decide)
theorem MP_where_no1 (y : MMAt E h M q ds im md tp ph fk fp) {c p : Int32} (hn : ¬ ltI c) : Spec E k_X10_where 66 0 0 [.ref M, .int c, .int p] h (fun v h' => v = some (.int (-2)) ∧ MMAt E h' M q ds im md tp ph fk fp ∧ Out h h' M (M + 23)) := by
  obtain ⟨S, x, r⟩ := y
  refine Spec.of (by decide +kernel) (by simp [Value.category]) (Nat.le_of_ble_eq_true rfl) ?_
  show WP E k_X10_where 66 0 0 0 [some (.ref M), some (.int c), some (.int p), none, none] [] h _
  refine R_aload_n dX10_where_0 rfl ?_
  refine R_iconst (v := nI 0) dX10_where_1 (by decide) ?_
  refine R_put_A K_10 (f := 0) (by decide) dX10_where_2 f_RX10_1 rfl x.1 (by rfl) (by rfl) (Nat.le_of_ble_eq_true rfl) ?_
  intro h0 u0
  have x0 := x.put u0 (by decide)
  have r0 := r.keep (S2 := (upd S.1 0 (nI 0), S.2)) (Ony.refl.put (by decide))
  have g0 : Out h h0 M (M + 23) := Out.upd u0 (by omega) (by omega)
  generalize (upd S.1 0 (nI 0), S.2) = S0 at x0 r0
  refine R_iload_n dX10_where_5 rfl ?_
  refine R_i2l dX10_where_6 ?_
  refine R_lconst (v := 0) dX10_where_7 rfl ?_
  refine R_ldc2 dX10_where_8 cl_RX10_96 ?_
  -- X10_where: ('call', 11, '.invokestatic', 98)
  refine R_callS s_X10_isIn (Md_isIn c (nI 0) (nI 25) (by decide) (by decide)) dX10_where_11 l_RX10_98 rfl rfl (Nat.le_of_ble_eq_true rfl) (by omega) rfl rfl (fun v h2 hq => ?_)
  obtain ⟨rfl, e9⟩ := hq
  rw [e9, if_neg (fun z => hn (lt_iffI.mp z))]
  refine R_if_ne_N (tgt := 20) dX10_where_14 (by decide) (by omega) (fun c14 => ?_) (fun c14 => ?_)
  -- X10_where: ('branch', 14, 20, 17)
  · exact absurd rfl c14
  · refine R_bipush (v := (-2)) dX10_where_17 (by decide) ?_
    refine R_ireturn dX10_where_19 rfl rfl ?_
    -- X10_where: ('ret', 19)
    exact ⟨rfl, ⟨S0, x0, r0⟩, g0⟩
theorem MP_where_no2 (y : MMAt E h M q ds im md tp ph fk fp) {c p : Int32} (hc : ltI c) (hp : p < 0) : Spec E k_X10_where 66 0 0 [.ref M, .int c, .int p] h (fun v h' => v = some (.int (-3)) ∧ MMAt E h' M q ds im md tp ph fk fp ∧ Out h h' M (M + 23)) := by
  obtain ⟨S, x, r⟩ := y
  refine Spec.of (by decide +kernel) (by simp [Value.category]) (Nat.le_of_ble_eq_true rfl) ?_
  show WP E k_X10_where 66 0 0 0 [some (.ref M), some (.int c), some (.int p), none, none] [] h _
  refine R_aload_n dX10_where_0 rfl ?_
  refine R_iconst (v := nI 0) dX10_where_1 (by decide) ?_
  refine R_put_A K_10 (f := 0) (by decide) dX10_where_2 f_RX10_1 rfl x.1 (by rfl) (by rfl) (Nat.le_of_ble_eq_true rfl) ?_
  intro h0 u0
  have x0 := x.put u0 (by decide)
  have r0 := r.keep (S2 := (upd S.1 0 (nI 0), S.2)) (Ony.refl.put (by decide))
  have g0 : Out h h0 M (M + 23) := Out.upd u0 (by omega) (by omega)
  generalize (upd S.1 0 (nI 0), S.2) = S0 at x0 r0
  refine R_iload_n dX10_where_5 rfl ?_
  refine R_i2l dX10_where_6 ?_
  refine R_lconst (v := 0) dX10_where_7 rfl ?_
  refine R_ldc2 dX10_where_8 cl_RX10_96 ?_
  -- X10_where: ('call', 11, '.invokestatic', 98)
  refine R_callS s_X10_isIn (Md_isIn c (nI 0) (nI 25) (by decide) (by decide)) dX10_where_11 l_RX10_98 rfl rfl (Nat.le_of_ble_eq_true rfl) (by omega) rfl rfl (fun v h2 hq => ?_)
  obtain ⟨rfl, e9⟩ := hq
  rw [e9, if_pos (lt_iffI.mpr hc)]
  refine R_if_ne_N (tgt := 20) dX10_where_14 (by decide) (by omega) (fun c14 => ?_) (fun c14 => ?_)
  -- X10_where: ('branch', 14, 20, 17)
  · refine R_iload_n dX10_where_20 rfl ?_
    refine R_if_ge (tgt := 27) dX10_where_21 (by decide) (fun c21 => ?_) (fun c21 => ?_)
    -- X10_where: ('branch', 21, 27, 24)
    · exact absurd hp (Int32.not_lt.mpr c21)
    · refine R_bipush (v := (-3)) dX10_where_24 (by decide) ?_
      refine R_ireturn dX10_where_26 rfl rfl ?_
      -- X10_where: ('ret', 26)
      exact ⟨rfl, ⟨S0, x0, r0⟩, g0⟩
  · exact absurd c14 (by decide)
theorem MP_where (y : MMAt E h M q ds im md tp ph fk fp) (hq : PkOk q) {c k : Nat} (hc : c < 26) (hk : k < 2 ^ 31) : Spec E k_X10_where 66 0 0 [.ref M, .int (nI c), .int (nI k)] h (fun v h' => v = some (.int (oI 0 (whS (letL q.2 q.1) c k))) ∧ MMAt E h' M q ds im md tp ph fk fp ∧ Out h h' M (M + 23)) := by
  have hlen := hq.len
  obtain ⟨S, x, r⟩ := y
  refine Spec.of (by decide +kernel) (by simp [Value.category]) (Nat.le_of_ble_eq_true rfl) ?_
  show WP E k_X10_where 66 0 0 0 [some (.ref M), some (.int (nI c)), some (.int (nI k)), none, none] [] h _
  refine R_aload_n dX10_where_0 rfl ?_
  refine R_iconst (v := nI 0) dX10_where_1 (by decide) ?_
  refine R_put_A K_10 (f := 0) (by decide) dX10_where_2 f_RX10_1 rfl x.1 (by rfl) (by rfl) (Nat.le_of_ble_eq_true rfl) ?_
  intro h0 u0
  have x0 := x.put u0 (by decide)
  have r0 := r.keep (S2 := (upd S.1 0 (nI 0), S.2)) (Ony.refl.put (by decide))
  have g0 : Out h h0 M (M + 23) := Out.upd u0 (by omega) (by omega)
  generalize (upd S.1 0 (nI 0), S.2) = S0 at x0 r0
  refine R_iload_n dX10_where_5 rfl ?_
  refine R_i2l dX10_where_6 ?_
  refine R_lconst (v := 0) dX10_where_7 rfl ?_
  refine R_ldc2 dX10_where_8 cl_RX10_96 ?_
  -- X10_where: ('call', 11, '.invokestatic', 98)
  refine R_callS s_X10_isIn (Md_isIn (nI c) (nI 0) (nI 25) (by decide) (by decide)) dX10_where_11 l_RX10_98 rfl rfl (Nat.le_of_ble_eq_true rfl) (by omega) rfl rfl (fun v h2 hq => ?_)
  obtain ⟨rfl, e9⟩ := hq
  rw [e9, if_pos (lt_iffI.mpr ((ltI_nI (by omega)).mpr hc))]
  refine R_if_ne_N (tgt := 20) dX10_where_14 (by decide) (by omega) (fun c14 => ?_) (fun c14 => ?_)
  -- X10_where: ('branch', 14, 20, 17)
  · refine R_iload_n dX10_where_20 rfl ?_
    refine R_if_ge_N (tgt := 27) dX10_where_21 (by decide) (by omega) ?_
    refine R_aload_n dX10_where_27 rfl ?_
    -- X10_where: ('call', 28, '.invokevirtual', 224)
    refine R_callV v_X10_laysText (Md_laysText hq x0 r0.1) dX10_where_28 l_RX10_224 rfl rfl x0.1 (Nat.le_of_ble_eq_true rfl) (by omega) rfl rfl (fun v h3 hq => ?_)
    obtain ⟨rfl, g3, S3, x3, o3, t3⟩ := hq
    have r3 := r0.keep (o3.mono (by decide) (by decide))
    have fin : MMAt E h3 M q ds im md tp ph fk fp ∧ Out h h3 M (M + 23) := ⟨⟨S3, x3, r3⟩, g0.trans g3⟩
    have V11 := fld_get (M := M) (k := 11) (by decide) t3.2.1
    have loop : ∀ m t, t + m = (letL q.2 q.1).length → fstB (fun j => decide ((letL q.2 q.1)[j]? = some c ∧ ((letL q.2 q.1).take j).count c = k)) t = none → WP E k_X10_where 66 0 0 36 [some (.ref M), some (.int (nI c)), some (.int (nI k)), some (.int (nI (((letL q.2 q.1).take t).count c))), some (.int (nI t))] [] h3 (fun v h' => v = some (.int (oI 0 (whS (letL q.2 q.1) c k))) ∧ MMAt E h' M q ds im md tp ph fk fp ∧ Out h h' M (M + 23)) := by
      intro m
      induction m with
      | zero =>
        intro t ht hf
        obtain rfl : t = (letL q.2 q.1).length := by omega
        refine R_iload dX10_where_36 rfl ?_
        refine R_aload_n dX10_where_38 rfl ?_
        refine R_get K_10 (f := 11) (by decide) dX10_where_39 f_RX10_120 x3.1 V11 ?_
        refine R_icmp_ge_N (tgt := 76) dX10_where_42 (by decide) (by omega) (by omega) (fun c42 => ?_) (fun c42 => ?_)
        -- X10_where: ('branch', 42, 76, 45)
        · refine R_iconst (v := (-1)) dX10_where_76 (by decide) ?_
          refine R_ireturn dX10_where_77 rfl rfl ?_
          -- X10_where: ('ret', 77)
          exact ⟨by rw [whS, hf]; rfl, fin⟩
        · exact absurd c42 (by omega)
      | succ m ih =>
        intro t ht hf
        obtain ⟨y, hy⟩ := getE (l := letL q.2 q.1) (i := t) (by omega)
        have hy26 := letL_lt y (List.mem_of_getElem? hy)
        have hct : ((letL q.2 q.1).take t).count c ≤ 240 := Nat.le_trans (List.count_le_length) (by rw [List.length_take]; omega)
        have ih := ih (t + 1) (by omega)
        rw [take_snoc hy, count_snoc] at ih
        refine R_iload dX10_where_36 rfl ?_
        refine R_aload_n dX10_where_38 rfl ?_
        refine R_get K_10 (f := 11) (by decide) dX10_where_39 f_RX10_120 x3.1 V11 ?_
        refine R_icmp_ge_N (tgt := 76) dX10_where_42 (by decide) (by omega) (by omega) (fun c42 => ?_) (fun c42 => ?_)
        -- X10_where: ('branch', 42, 76, 45)
        · exact absurd c42 (by omega)
        · refine R_aload_n dX10_where_45 rfl ?_
          refine R_get K_10 (f := 9) (by decide) dX10_where_46 f_RX10_36 x3.1 rfl ?_
          refine R_iload dX10_where_49 rfl ?_
          refine R_iaload_N dX10_where_51 x3.a8 (by omega) (by omega) (t3.2.2.1 _ y hy) ?_
          refine R_iload_n dX10_where_52 rfl ?_
          refine R_icmp_eq_N (tgt := 59) dX10_where_53 (by decide) (by omega) (by omega) (fun c53 => ?_) (fun c53 => ?_)
          -- X10_where: ('branch', 53, 59, 56)
          · rw [if_pos c53] at ih
            refine R_iload_n dX10_where_59 rfl ?_
            refine R_iload_n dX10_where_60 rfl ?_
            refine R_icmp_ne_N (tgt := 67) dX10_where_61 (by decide) (by omega) (by omega) (fun c61 => ?_) (fun c61 => ?_)
            -- X10_where: ('branch', 61, 67, 64)
            · refine R_iinc3 dX10_where_67 (by decide) (nI_inc _ 1) ?_
              refine R_iinc4 dX10_where_70 (by decide) (nI_inc _ 1) ?_
              refine R_goto (tgt := 36) dX10_where_73 (by decide) ?_
              -- X10_where: ('stop', 36)
              exact ih (fstB_step hf (decide_eq_false (fun z => c61 z.2)))
            · refine R_iload dX10_where_64 rfl ?_
              refine R_ireturn dX10_where_66 rfl rfl ?_
              -- X10_where: ('ret', 66)
              have : whS (letL q.2 q.1) c k = some t := fstB_at hf (decide_eq_true ⟨by rw [hy, c53], c61⟩) (by omega)
              exact ⟨by rw [this]; show _ = some (Value.int (nI (0 + t))); rw [Nat.zero_add], fin⟩
          · rw [if_neg c53, Nat.add_zero] at ih
            refine R_goto (tgt := 70) dX10_where_56 (by decide) ?_
            refine R_iinc4 dX10_where_70 (by decide) (nI_inc _ 1) ?_
            refine R_goto (tgt := 36) dX10_where_73 (by decide) ?_
            -- X10_where: ('stop', 36)
            exact ih (fstB_step hf (decide_eq_false (fun z => c53 (by have := z.1; rw [hy] at this; exact Option.some.inj this))))
    refine R_iconst (v := nI 0) dX10_where_31 (by decide) ?_
    refine R_istore3 dX10_where_32 (by decide) ?_
    refine R_iconst (v := nI 0) dX10_where_33 (by decide) ?_
    refine R_istore4 dX10_where_34 (by decide) ?_
    -- X10_where: ('stop', 36)
    exact loop (letL q.2 q.1).length 0 (by omega) rfl
  · exact absurd c14 (by decide)
theorem MP_print_no1 (y : MMAt E h M q ds im md tp ph fk fp) {p n : Int32} (hn : n < 0) : Spec E k_X10_print 66 0 0 [.ref M, .int p, .int n] h (fun v h' => v = some (.int (-3)) ∧ MMAt E h' M q ds im md tp ph fk fp ∧ Out h h' M (M + 23)) := by
  obtain ⟨S, x, r⟩ := y
  refine Spec.of (by decide +kernel) (by simp [Value.category]) (Nat.le_of_ble_eq_true rfl) ?_
  show WP E k_X10_print 66 0 0 0 [some (.ref M), some (.int p), some (.int n), none, none] [] h _
  refine R_aload_n dX10_print_0 rfl ?_
  refine R_iconst (v := nI 0) dX10_print_1 (by decide) ?_
  refine R_put_A K_10 (f := 0) (by decide) dX10_print_2 f_RX10_1 rfl x.1 (by rfl) (by rfl) (Nat.le_of_ble_eq_true rfl) ?_
  intro h0 u0
  have x0 := x.put u0 (by decide)
  have r0 := r.keep (S2 := (upd S.1 0 (nI 0), S.2)) (Ony.refl.put (by decide))
  have g0 : Out h h0 M (M + 23) := Out.upd u0 (by omega) (by omega)
  generalize (upd S.1 0 (nI 0), S.2) = S0 at x0 r0
  refine R_iload_n dX10_print_5 rfl ?_
  refine R_if_ge (tgt := 12) dX10_print_6 (by decide) (fun c6 => ?_) (fun c6 => ?_)
  -- X10_print: ('branch', 6, 12, 9)
  · exact absurd hn (Int32.not_lt.mpr c6)
  · refine R_bipush (v := (-3)) dX10_print_9 (by decide) ?_
    refine R_ireturn dX10_print_11 rfl rfl ?_
    -- X10_print: ('ret', 11)
    exact ⟨rfl, ⟨S0, x0, r0⟩, g0⟩
theorem MP_print_no2 (y : MMAt E h M q ds im md tp ph fk fp) (hq : PkOk q) {p : Int32} {n : Nat} (hn : n < 2 ^ 31) (hs : ¬ stP (letL q.2 q.1).length p n) : Spec E k_X10_print 66 0 0 [.ref M, .int p, .int (nI n)] h (fun v h' => v = some (.int (-5)) ∧ MMAt E h' M q ds im md tp ph fk fp ∧ Out h h' M (M + 23)) := by
  have hlen := hq.len
  obtain ⟨S, x, r⟩ := y
  refine Spec.of (by decide +kernel) (by simp [Value.category]) (Nat.le_of_ble_eq_true rfl) ?_
  show WP E k_X10_print 66 0 0 0 [some (.ref M), some (.int p), some (.int (nI n)), none, none] [] h _
  refine R_aload_n dX10_print_0 rfl ?_
  refine R_iconst (v := nI 0) dX10_print_1 (by decide) ?_
  refine R_put_A K_10 (f := 0) (by decide) dX10_print_2 f_RX10_1 rfl x.1 (by rfl) (by rfl) (Nat.le_of_ble_eq_true rfl) ?_
  intro h0 u0
  have x0 := x.put u0 (by decide)
  have r0 := r.keep (S2 := (upd S.1 0 (nI 0), S.2)) (Ony.refl.put (by decide))
  have g0 : Out h h0 M (M + 23) := Out.upd u0 (by omega) (by omega)
  generalize (upd S.1 0 (nI 0), S.2) = S0 at x0 r0
  refine R_iload_n dX10_print_5 rfl ?_
  refine R_if_ge_N (tgt := 12) dX10_print_6 (by decide) (by omega) ?_
  refine R_aload_n dX10_print_12 rfl ?_
  -- X10_print: ('call', 13, '.invokevirtual', 224)
  refine R_callV v_X10_laysText (Md_laysText hq x0 r0.1) dX10_print_13 l_RX10_224 rfl rfl x0.1 (Nat.le_of_ble_eq_true rfl) (by omega) rfl rfl (fun v h3 hq => ?_)
  obtain ⟨rfl, g3, S3, x3, o3, t3⟩ := hq
  have r3 := r0.keep (o3.mono (by decide) (by decide))
  have fin : MMAt E h3 M q ds im md tp ph fk fp ∧ Out h h3 M (M + 23) := ⟨⟨S3, x3, r3⟩, g0.trans g3⟩
  by_cases hp : p < 0
  · refine R_iload_n dX10_print_16 rfl ?_
    refine R_if_lt (tgt := 34) dX10_print_17 (by decide) (fun c17 => ?_) (fun c17 => ?_)
    -- X10_print: ('branch', 17, 34, 20)
    · refine R_bipush (v := (-5)) dX10_print_34 (by decide) ?_
      refine R_ireturn dX10_print_36 rfl rfl ?_
      -- X10_print: ('ret', 36)
      exact ⟨rfl, fin⟩
    · exact absurd hp c17
  · obtain ⟨p, hp2, rfl⟩ := nI_of hp
    rw [stP_nI hp2] at hs
    refine R_iload_n dX10_print_16 rfl ?_
    refine R_if_lt_N (tgt := 34) dX10_print_17 (by decide) (by omega) ?_
    refine R_iload_n dX10_print_20 rfl ?_
    refine R_i2l dX10_print_21 ?_
    refine R_iload_n dX10_print_22 rfl ?_
    refine R_i2l dX10_print_23 ?_
    refine R_ladd dX10_print_24 ?_
    refine R_aload_n dX10_print_25 rfl ?_
    refine R_get K_10 (f := 11) (by decide) dX10_print_26 f_RX10_120 x3.1 (fld_get (k := 11) (by decide) t3.2.1) ?_
    refine R_i2l dX10_print_29 ?_
    refine R_lcmp dX10_print_30 ?_
    refine R_if_le (tgt := 37) dX10_print_31 (by decide) (fun c31 => ?_) (fun c31 => ?_)
    -- X10_print: ('branch', 31, 37, 34)
    · exact absurd ((lcmp_le hp2 hn (by omega)).mp c31) hs
    · refine R_bipush (v := (-5)) dX10_print_34 (by decide) ?_
      refine R_ireturn dX10_print_36 rfl rfl ?_
      -- X10_print: ('ret', 36)
      exact ⟨rfl, fin⟩
theorem MP_print (y : MMAt E h M q ds im md tp ph fk fp) (hq : PkOk q) {p n : Nat} (hs : p + n ≤ (letL q.2 q.1).length) : Spec E k_X10_print 66 0 0 [.ref M, .int (nI p), .int (nI n)] h (fun v h' => v = some (.int (nI (prL (((letL q.2 q.1).drop p).take n)))) ∧ MMAt E h' M q ds im md tp ph fk fp ∧ Out h h' M (M + 23)) := by
  have hlen := hq.len
  obtain ⟨S, x, r⟩ := y
  refine Spec.of (by decide +kernel) (by simp [Value.category]) (Nat.le_of_ble_eq_true rfl) ?_
  show WP E k_X10_print 66 0 0 0 [some (.ref M), some (.int (nI p)), some (.int (nI n)), none, none] [] h _
  refine R_aload_n dX10_print_0 rfl ?_
  refine R_iconst (v := nI 0) dX10_print_1 (by decide) ?_
  refine R_put_A K_10 (f := 0) (by decide) dX10_print_2 f_RX10_1 rfl x.1 (by rfl) (by rfl) (Nat.le_of_ble_eq_true rfl) ?_
  intro h0 u0
  have x0 := x.put u0 (by decide)
  have r0 := r.keep (S2 := (upd S.1 0 (nI 0), S.2)) (Ony.refl.put (by decide))
  have g0 : Out h h0 M (M + 23) := Out.upd u0 (by omega) (by omega)
  generalize (upd S.1 0 (nI 0), S.2) = S0 at x0 r0
  refine R_iload_n dX10_print_5 rfl ?_
  refine R_if_ge_N (tgt := 12) dX10_print_6 (by decide) (by omega) ?_
  refine R_aload_n dX10_print_12 rfl ?_
  -- X10_print: ('call', 13, '.invokevirtual', 224)
  refine R_callV v_X10_laysText (Md_laysText hq x0 r0.1) dX10_print_13 l_RX10_224 rfl rfl x0.1 (Nat.le_of_ble_eq_true rfl) (by omega) rfl rfl (fun v h3 hq => ?_)
  obtain ⟨rfl, g3, S3, x3, o3, t3⟩ := hq
  have r3 := r0.keep (o3.mono (by decide) (by decide))
  have fin : MMAt E h3 M q ds im md tp ph fk fp ∧ Out h h3 M (M + 23) := ⟨⟨S3, x3, r3⟩, g0.trans g3⟩
  have loop : ∀ m t, t + m = n → WP E k_X10_print 66 0 0 42 [some (.ref M), some (.int (nI p)), some (.int (nI n)), some (.int (nI (prL (((letL q.2 q.1).drop p).take t)))), some (.int (nI t))] [] h3 (fun v h' => v = some (.int (nI (prL (((letL q.2 q.1).drop p).take n)))) ∧ MMAt E h' M q ds im md tp ph fk fp ∧ Out h h' M (M + 23)) := by
    intro m
    induction m with
    | zero =>
      intro t ht
      obtain rfl : t = n := by omega
      refine R_iload dX10_print_42 rfl ?_
      refine R_iload_n dX10_print_44 rfl ?_
      refine R_icmp_ge_N (tgt := 75) dX10_print_45 (by decide) (by omega) (by omega) (fun c45 => ?_) (fun c45 => ?_)
      -- X10_print: ('branch', 45, 75, 48)
      · refine R_iload_n dX10_print_75 rfl ?_
        refine R_ireturn dX10_print_76 rfl rfl ?_
        -- X10_print: ('ret', 76)
        exact ⟨rfl, fin⟩
      · exact absurd c45 (by omega)
    | succ m ih =>
      intro t ht
      obtain ⟨y, hy⟩ := getE (l := letL q.2 q.1) (i := p + t) (by omega)
      have hy26 := letL_lt y (List.mem_of_getElem? hy)
      have hd : ((letL q.2 q.1).drop p)[t]? = some y := by rw [List.getElem?_drop]; exact hy
      have ih := ih (t + 1) (by omega)
      rw [take_snoc hd, prL_snoc] at ih
      have hpl := prL_lt (((letL q.2 q.1).drop p).take t)
      generalize prL (((letL q.2 q.1).drop p).take t) = z at *
      refine R_iload dX10_print_42 rfl ?_
      refine R_iload_n dX10_print_44 rfl ?_
      refine R_icmp_ge_N (tgt := 75) dX10_print_45 (by decide) (by omega) (by omega) (fun c45 => ?_) (fun c45 => ?_)
      -- X10_print: ('branch', 45, 75, 48)
      · exact absurd c45 (by omega)
      · refine R_bipush (v := nI 31) dX10_print_48 (by decide) ?_
        refine R_iload_n dX10_print_50 rfl ?_
        refine R_imul_N dX10_print_51 ?_
        refine R_aload_n dX10_print_52 rfl ?_
        refine R_get K_10 (f := 9) (by decide) dX10_print_53 f_RX10_36 x3.1 rfl ?_
        refine R_iload_n dX10_print_56 rfl ?_
        refine R_iload dX10_print_57 rfl ?_
        refine R_iadd_N dX10_print_59 ?_
        refine R_iaload_N dX10_print_60 x3.a8 (by omega) (by omega) (t3.2.2.1 _ y hy) ?_
        refine R_iadd_N dX10_print_61 ?_
        refine R_iconst (v := nI 1) dX10_print_62 (by decide) ?_
        refine R_iadd_N dX10_print_63 ?_
        -- X10_print: ('stop', 64)
        refine R_ldcw (v := 1000003) dX10_print_64 ci_RX10_297 ?_
        rw [show (1000003 : Int32) = nI 1000003 from by decide +kernel]
        refine R_irem_N dX10_print_67 (by omega) (by omega) (by omega) ?_
        refine R_istore3 dX10_print_68 (by decide) ?_
        refine R_iinc4 dX10_print_69 (by decide) (nI_inc _ 1) ?_
        refine R_goto (tgt := 42) dX10_print_72 (by decide) ?_
        -- X10_print: ('stop', 42)
        exact ih
  refine R_iload_n dX10_print_16 rfl ?_
  refine R_if_lt_N (tgt := 34) dX10_print_17 (by decide) (by omega) ?_
  refine R_iload_n dX10_print_20 rfl ?_
  refine R_i2l dX10_print_21 ?_
  refine R_iload_n dX10_print_22 rfl ?_
  refine R_i2l dX10_print_23 ?_
  refine R_ladd dX10_print_24 ?_
  refine R_aload_n dX10_print_25 rfl ?_
  refine R_get K_10 (f := 11) (by decide) dX10_print_26 f_RX10_120 x3.1 (fld_get (k := 11) (by decide) t3.2.1) ?_
  refine R_i2l dX10_print_29 ?_
  refine R_lcmp dX10_print_30 ?_
  refine R_if_le (tgt := 37) dX10_print_31 (by decide) (fun c31 => ?_) (fun c31 => ?_)
  -- X10_print: ('branch', 31, 37, 34)
  · refine R_iconst (v := nI 0) dX10_print_37 (by decide) ?_
    refine R_istore3 dX10_print_38 (by decide) ?_
    refine R_iconst (v := nI 0) dX10_print_39 (by decide) ?_
    refine R_istore4 dX10_print_40 (by decide) ?_
    -- X10_print: ('stop', 42)
    exact loop n 0 (by omega)
  · exact absurd ((lcmp_le (by omega) (by omega) (by omega)).mpr hs) c31
theorem Md_laysTwice (hq : PkOk q) (x : MdAt E h M S) (c : curF (S.2 1) q) : Spec E k_X10_laysTwice 66 0 0 [.ref M] h (fun v h' => v = none ∧ Out h h' M (M + 23) ∧ ∃ S', MdAt E h' M S' ∧ Ony [8, 9] [11, 36, 37] S S' ∧ S'.1 36 = nI (twS (letL q.2 q.1)) ∧ S'.1 37 = oI 0 (twAtS (letL q.2 q.1))) := by
  have hlen := hq.len
  refine Spec.of (by decide +kernel) (by simp [Value.category]) (Nat.le_of_ble_eq_true rfl) ?_
  show WP E k_X10_laysTwice 66 0 0 0 [some (.ref M), none, none, none] [] h _
  refine R_aload_n dX10_laysTwice_0 rfl ?_
  -- X10_laysTwice: ('call', 1, '.invokevirtual', 224)
  refine R_callV v_X10_laysText (Md_laysText hq x c) dX10_laysTwice_1 l_RX10_224 rfl rfl x.1 (Nat.le_of_ble_eq_true rfl) (by omega) rfl rfl (fun v h2 hq => ?_)
  obtain ⟨rfl, g2, S2, x2, o2, t2⟩ := hq
  have hlt : ∀ c ∈ letL q.2 q.1, c < 26 := letL_lt
  have fl : ∀ S5 : MSt, Ony [] [36, 37] S2 S5 → LOut S5 (letL q.2 q.1) (dpL q.2 q.1) := fun S5 o5 => ⟨t2.1, (o5.2 11 (by decide)).trans t2.2.1, fun i y hy => by rw [o5.1 8 (by decide)]; exact t2.2.2.1 i y hy, fun i y hy => by rw [o5.1 9 (by decide)]; exact t2.2.2.2 i y hy⟩
  generalize letL q.2 q.1 = ls at *
  generalize dpL q.2 q.1 = dl at *
  have inner : ∀ m i b h5 S5, i + 1 ≤ b → b + m = ls.length → MdAt E h5 M S5 → Ony [] [36, 37] S2 S5 → S5.1 36 = nI (if (twB ls i).1 < mxJ ls i b then (mxJ ls i b, some i) else twB ls i).1 → S5.1 37 = oI 0 (if (twB ls i).1 < mxJ ls i b then (mxJ ls i b, some i) else twB ls i).2 → (if (twB ls i).1 < mxJ ls i b then (mxJ ls i b, some i) else twB ls i).1 ≤ 240 → Out h h5 M (M + 23) → (∀ h6 S6 z3, MdAt E h6 M S6 → Ony [] [36, 37] S2 S6 → S6.1 36 = nI (twB ls (i + 1)).1 → S6.1 37 = oI 0 (twB ls (i + 1)).2 → (twB ls (i + 1)).1 ≤ 240 → Out h h6 M (M + 23) → WP E k_X10_laysTwice 66 0 0 70 [some (.ref M), some (.int (nI i)), some (.int (nI ls.length)), z3] [] h6 (fun v h' => v = none ∧ Out h h' M (M + 23) ∧ ∃ S', MdAt E h' M S' ∧ Ony [8, 9] [11, 36, 37] S S' ∧ S'.1 36 = nI (twS ls) ∧ S'.1 37 = oI 0 (twAtS ls))) → ∀ z3, WP E k_X10_laysTwice 66 0 0 28 [some (.ref M), some (.int (nI i)), some (.int (nI b)), z3] [] h5 (fun v h' => v = none ∧ Out h h' M (M + 23) ∧ ∃ S', MdAt E h' M S' ∧ Ony [8, 9] [11, 36, 37] S S' ∧ S'.1 36 = nI (twS ls) ∧ S'.1 37 = oI 0 (twAtS ls)) := by
    intro m
    induction m with
    | zero =>
      intro i b h5 S5 hib hb x5 o5 e36 e37 hle g5 kk z3
      obtain rfl : b = ls.length := by omega
      have V11 := fld_get (M := M) (k := 11) (by decide) (fl S5 o5).2.1
      rw [show mxJ ls i ls.length = rowMx ls i from rfl, ← twB] at e36 e37 hle
      refine R_iload_n dX10_laysTwice_28 rfl ?_
      refine R_aload_n dX10_laysTwice_29 rfl ?_
      refine R_get K_10 (f := 11) (by decide) dX10_laysTwice_30 f_RX10_120 x5.1 V11 ?_
      refine R_icmp_ge_N (tgt := 70) dX10_laysTwice_33 (by decide) (by omega) (by omega) (fun c33 => ?_) (fun c33 => ?_)
      -- X10_laysTwice: ('branch', 33, 70, 36)
      · exact kk h5 S5 z3 x5 o5 e36 e37 hle g5
      · exact absurd c33 (by omega)
    | succ m ih =>
      intro i b h5 S5 hib hb x5 o5 e36 e37 hle g5 kk z3
      have V11 := fld_get (M := M) (k := 11) (by decide) (fl S5 o5).2.1
      have hcl := comN_le9 (ls := ls) (i := i) (j := b)
      have hst : (if (twB ls i).1 < mxJ ls i (b + 1) then (mxJ ls i (b + 1), some i) else twB ls i) = if (if (twB ls i).1 < mxJ ls i b then (mxJ ls i b, some i) else twB ls i).1 < comN ls i b then (comN ls i b, some i) else (if (twB ls i).1 < mxJ ls i b then (mxJ ls i b, some i) else twB ls i) := by
        rw [mxJ, if_pos (show i < b by omega)]
        generalize mxJ ls i b = m
        generalize comN ls i b = cc
        generalize twB ls i = z
        obtain ⟨bb, a⟩ := z
        show (if bb < max m cc then (max m cc, some i) else (bb, a)) = _
        by_cases k1 : bb < m
        · rw [if_pos (show bb < max m cc by omega), if_pos (show (bb, a).1 < m from k1)]
          by_cases k2 : m < cc
          · rw [if_pos (show (m, some i).1 < cc from k2), show max m cc = cc by omega]
          · rw [if_neg (show ¬ (m, some i).1 < cc from k2), show max m cc = m by omega]
        · rw [if_neg (show ¬ (bb, a).1 < m from k1)]
          by_cases k2 : bb < cc
          · rw [if_pos (show (bb, a).1 < cc from k2), if_pos (by omega), show max m cc = cc by omega]
          · rw [if_neg (show ¬ (bb, a).1 < cc from k2), if_neg (by omega)]
      have ih := ih i (b + 1)
      rw [hst] at ih
      generalize (if (twB ls i).1 < mxJ ls i b then (mxJ ls i b, some i) else twB ls i) = st at *
      have V36 := fld_get (M := M) (k := 36) (by decide) e36
      refine R_iload_n dX10_laysTwice_28 rfl ?_
      refine R_aload_n dX10_laysTwice_29 rfl ?_
      refine R_get K_10 (f := 11) (by decide) dX10_laysTwice_30 f_RX10_120 x5.1 V11 ?_
      refine R_icmp_ge_N (tgt := 70) dX10_laysTwice_33 (by decide) (by omega) (by omega) (fun c33 => ?_) (fun c33 => ?_)
      -- X10_laysTwice: ('branch', 33, 70, 36)
      · exact absurd c33 (by omega)
      · refine R_aload_n dX10_laysTwice_36 rfl ?_
        refine R_iload_n dX10_laysTwice_37 rfl ?_
        refine R_iload_n dX10_laysTwice_38 rfl ?_
        -- X10_laysTwice: ('call', 39, '.invokevirtual', 294)
        refine R_callV v_X10_commonOf (Md_commonOf x5 (fl S5 o5) hlen hlt (i := i) (j := b) (by omega) (by omega)) dX10_laysTwice_39 l_RX10_294 rfl rfl x5.1 (Nat.le_of_ble_eq_true rfl) (by omega) rfl rfl (fun v h6 hq => ?_)
        obtain ⟨rfl, e9⟩ := hq
        rw [e9]
        refine R_istore3 dX10_laysTwice_42 (by decide) ?_
        refine R_iload_n dX10_laysTwice_43 rfl ?_
        refine R_aload_n dX10_laysTwice_44 rfl ?_
        refine R_get K_10 (f := 36) (by decide) dX10_laysTwice_45 f_RX10_298 x5.1 V36 ?_
        refine R_icmp_gt_N (tgt := 54) dX10_laysTwice_48 (by decide) (by omega) (by omega) (fun c48 => ?_) (fun c48 => ?_)
        -- X10_laysTwice: ('branch', 48, 54, 51)
        · rw [if_pos c48] at ih
          refine R_aload_n dX10_laysTwice_54 rfl ?_
          refine R_iload_n dX10_laysTwice_55 rfl ?_
          refine R_put_A K_10 (f := 36) (by decide) dX10_laysTwice_56 f_RX10_298 rfl x5.1 (by rfl) (by rfl) (Nat.le_of_ble_eq_true rfl) ?_
          -- X10_laysTwice: ('put', 59)
          intro h7 u7
          have x7 := x5.put u7 (by decide)
          refine R_aload_n dX10_laysTwice_59 rfl ?_
          refine R_iload_n dX10_laysTwice_60 rfl ?_
          refine R_put_A K_10 (f := 37) (by decide) dX10_laysTwice_61 f_RX10_301 rfl x7.1 (by rfl) (by rfl) (Nat.le_of_ble_eq_true rfl) ?_
          -- X10_laysTwice: ('put', 64)
          intro h8 u8
          have x8 := x7.put u8 (by decide)
          refine R_iinc2 dX10_laysTwice_64 (by decide) (nI_inc _ 1) ?_
          refine R_goto (tgt := 28) dX10_laysTwice_67 (by decide) ?_
          -- X10_laysTwice: ('stop', 28)
          exact ih h8 _ (by omega) (by omega) x8 ((o5.put (by decide)).put (by decide)) rfl (by show nI i = nI (0 + i); rw [Nat.zero_add]) (Nat.le_trans hcl hlen) ((g5.trans (Out.upd u7 (by omega) (by omega))).trans (Out.upd u8 (by omega) (by omega))) kk _
        · rw [if_neg (by omega)] at ih
          refine R_goto (tgt := 64) dX10_laysTwice_51 (by decide) ?_
          refine R_iinc2 dX10_laysTwice_64 (by decide) (nI_inc _ 1) ?_
          refine R_goto (tgt := 28) dX10_laysTwice_67 (by decide) ?_
          -- X10_laysTwice: ('stop', 28)
          exact ih h5 S5 (by omega) (by omega) x5 o5 e36 e37 hle g5 kk _
  have outer : ∀ m i h5 S5, i + m = ls.length → MdAt E h5 M S5 → Ony [] [36, 37] S2 S5 → S5.1 36 = nI (twB ls i).1 → S5.1 37 = oI 0 (twB ls i).2 → (twB ls i).1 ≤ 240 → Out h h5 M (M + 23) → ∀ z2 z3, WP E k_X10_laysTwice 66 0 0 16 [some (.ref M), some (.int (nI i)), z2, z3] [] h5 (fun v h' => v = none ∧ Out h h' M (M + 23) ∧ ∃ S', MdAt E h' M S' ∧ Ony [8, 9] [11, 36, 37] S S' ∧ S'.1 36 = nI (twS ls) ∧ S'.1 37 = oI 0 (twAtS ls)) := by
    intro m
    induction m with
    | zero =>
      intro i h5 S5 hi x5 o5 e36 e37 hle g5 z2 z3
      obtain rfl : i = ls.length := by omega
      have V11 := fld_get (M := M) (k := 11) (by decide) (fl S5 o5).2.1
      rw [twB_end] at e36 e37
      refine R_iload_n dX10_laysTwice_16 rfl ?_
      refine R_aload_n dX10_laysTwice_17 rfl ?_
      refine R_get K_10 (f := 11) (by decide) dX10_laysTwice_18 f_RX10_120 x5.1 V11 ?_
      refine R_icmp_ge_N (tgt := 76) dX10_laysTwice_21 (by decide) (by omega) (by omega) (fun c21 => ?_) (fun c21 => ?_)
      -- X10_laysTwice: ('branch', 21, 76, 24)
      · refine R_return dX10_laysTwice_76 rfl ?_
        -- X10_laysTwice: ('ret', 76)
        exact ⟨rfl, g5, S5, x5, (o2.mono (by decide) (by decide)).trans (o5.mono (by decide) (by decide)), e36, e37⟩
      · exact absurd c21 (by omega)
    | succ m ih =>
      intro i h5 S5 hi x5 o5 e36 e37 hle g5 z2 z3
      have V11 := fld_get (M := M) (k := 11) (by decide) (fl S5 o5).2.1
      refine R_iload_n dX10_laysTwice_16 rfl ?_
      refine R_aload_n dX10_laysTwice_17 rfl ?_
      refine R_get K_10 (f := 11) (by decide) dX10_laysTwice_18 f_RX10_120 x5.1 V11 ?_
      refine R_icmp_ge_N (tgt := 76) dX10_laysTwice_21 (by decide) (by omega) (by omega) (fun c21 => ?_) (fun c21 => ?_)
      -- X10_laysTwice: ('branch', 21, 76, 24)
      · exact absurd c21 (by omega)
      · refine R_iload_n dX10_laysTwice_24 rfl ?_
        refine R_iconst (v := nI 1) dX10_laysTwice_25 (by decide) ?_
        refine R_iadd_N dX10_laysTwice_26 ?_
        refine R_istore2 dX10_laysTwice_27 (by decide) ?_
        -- X10_laysTwice: ('stop', 28)
        have e0 : (if (twB ls i).1 < mxJ ls i (i + 1) then (mxJ ls i (i + 1), some i) else twB ls i) = twB ls i := by rw [mxJ_low (i + 1) (Nat.le_refl _), if_neg (Nat.not_lt_zero _)]
        refine inner m i (i + 1) h5 S5 (Nat.le_refl _) (by omega) x5 o5 (by rw [e0]; exact e36) (by rw [e0]; exact e37) (by rw [e0]; exact hle) g5 (fun h6 S6 z3 x6 o6 f36 f37 hl6 g6 => ?_) z3
        refine R_iinc1 dX10_laysTwice_70 (by decide) (nI_inc _ 1) ?_
        refine R_goto (tgt := 16) dX10_laysTwice_73 (by decide) ?_
        -- X10_laysTwice: ('stop', 16)
        exact ih (i + 1) h6 S6 (by omega) x6 o6 f36 f37 hl6 g6 _ _
  refine R_aload_n dX10_laysTwice_4 rfl ?_
  refine R_iconst (v := nI 0) dX10_laysTwice_5 (by decide) ?_
  refine R_put_A K_10 (f := 36) (by decide) dX10_laysTwice_6 f_RX10_298 rfl x2.1 (by rfl) (by rfl) (Nat.le_of_ble_eq_true rfl) ?_
  -- X10_laysTwice: ('put', 9)
  intro h3 u3
  have x3 := x2.put u3 (by decide)
  refine R_aload_n dX10_laysTwice_9 rfl ?_
  refine R_iconst (v := (-1)) dX10_laysTwice_10 (by decide) ?_
  refine R_put_A K_10 (f := 37) (by decide) dX10_laysTwice_11 f_RX10_301 rfl x3.1 (by rfl) (by rfl) (Nat.le_of_ble_eq_true rfl) ?_
  -- X10_laysTwice: ('put', 14)
  intro h4 u4
  have x4 := x3.put u4 (by decide)
  refine R_iconst (v := nI 0) dX10_laysTwice_14 (by decide) ?_
  refine R_istore1 dX10_laysTwice_15 (by decide) ?_
  -- X10_laysTwice: ('stop', 16)
  exact outer ls.length 0 h4 _ (by omega) x4 ((Ony.refl.put (by decide)).put (by decide)) rfl rfl (Nat.zero_le _) ((g2.trans (Out.upd u3 (by omega) (by omega))).trans (Out.upd u4 (by omega) (by omega))) _ _
theorem MP_repeat (y : MMAt E h M q ds im md tp ph fk fp) (hq : PkOk q) : Spec E k_X10_repeat 67 0 0 [.ref M] h (fun v h' => v = some (.int (nI (twS (letL q.2 q.1)))) ∧ MMAt E h' M q ds im md tp ph fk fp ∧ Out h h' M (M + 23)) := by
  obtain ⟨S, x, r⟩ := y
  refine Spec.of (by decide +kernel) (by simp [Value.category]) (Nat.le_of_ble_eq_true rfl) ?_
  show WP E k_X10_repeat 67 0 0 0 [some (.ref M)] [] h _
  refine R_aload_n dX10_repeat_0 rfl ?_
  refine R_iconst (v := nI 0) dX10_repeat_1 (by decide) ?_
  refine R_put_A K_10 (f := 0) (by decide) dX10_repeat_2 f_RX10_1 rfl x.1 (by rfl) (by rfl) (Nat.le_of_ble_eq_true rfl) ?_
  intro h0 u0
  have x0 := x.put u0 (by decide)
  have r0 := r.keep (S2 := (upd S.1 0 (nI 0), S.2)) (Ony.refl.put (by decide))
  have g0 : Out h h0 M (M + 23) := Out.upd u0 (by omega) (by omega)
  generalize (upd S.1 0 (nI 0), S.2) = S0 at x0 r0
  refine R_aload_n dX10_repeat_5 rfl ?_
  -- X10_repeat: ('call', 6, '.invokevirtual', 304)
  refine R_callV v_X10_laysTwice (Md_laysTwice hq x0 r0.1) dX10_repeat_6 l_RX10_304 rfl rfl x0.1 (Nat.le_of_ble_eq_true rfl) (by omega) rfl rfl (fun v h3 hq => ?_)
  obtain ⟨rfl, g3, S3, x3, o3, e36, e37⟩ := hq
  have r3 := r0.keep (o3.mono (by decide) (by decide))
  refine R_aload_n dX10_repeat_9 rfl ?_
  refine R_get K_10 (f := 36) (by decide) dX10_repeat_10 f_RX10_298 x3.1 (fld_get (k := 36) (by decide) e36) ?_
  refine R_ireturn dX10_repeat_13 rfl rfl ?_
  -- X10_repeat: ('ret', 13)
  exact ⟨rfl, ⟨S3, x3, r3⟩, g0.trans g3⟩
theorem MP_repeatAt (y : MMAt E h M q ds im md tp ph fk fp) (hq : PkOk q) : Spec E k_X10_repeatAt 67 0 0 [.ref M] h (fun v h' => v = some (.int (oI 0 (twAtS (letL q.2 q.1)))) ∧ MMAt E h' M q ds im md tp ph fk fp ∧ Out h h' M (M + 23)) := by
  obtain ⟨S, x, r⟩ := y
  refine Spec.of (by decide +kernel) (by simp [Value.category]) (Nat.le_of_ble_eq_true rfl) ?_
  show WP E k_X10_repeatAt 67 0 0 0 [some (.ref M)] [] h _
  refine R_aload_n dX10_repeatAt_0 rfl ?_
  refine R_iconst (v := nI 0) dX10_repeatAt_1 (by decide) ?_
  refine R_put_A K_10 (f := 0) (by decide) dX10_repeatAt_2 f_RX10_1 rfl x.1 (by rfl) (by rfl) (Nat.le_of_ble_eq_true rfl) ?_
  intro h0 u0
  have x0 := x.put u0 (by decide)
  have r0 := r.keep (S2 := (upd S.1 0 (nI 0), S.2)) (Ony.refl.put (by decide))
  have g0 : Out h h0 M (M + 23) := Out.upd u0 (by omega) (by omega)
  generalize (upd S.1 0 (nI 0), S.2) = S0 at x0 r0
  refine R_aload_n dX10_repeatAt_5 rfl ?_
  -- X10_repeatAt: ('call', 6, '.invokevirtual', 304)
  refine R_callV v_X10_laysTwice (Md_laysTwice hq x0 r0.1) dX10_repeatAt_6 l_RX10_304 rfl rfl x0.1 (Nat.le_of_ble_eq_true rfl) (by omega) rfl rfl (fun v h3 hq => ?_)
  obtain ⟨rfl, g3, S3, x3, o3, e36, e37⟩ := hq
  have r3 := r0.keep (o3.mono (by decide) (by decide))
  refine R_aload_n dX10_repeatAt_9 rfl ?_
  refine R_get K_10 (f := 37) (by decide) dX10_repeatAt_10 f_RX10_301 x3.1 (fld_get (k := 37) (by decide) e37) ?_
  refine R_ireturn dX10_repeatAt_13 rfl rfl ?_
  -- X10_repeatAt: ('ret', 13)
  exact ⟨rfl, ⟨S3, x3, r3⟩, g0.trans g3⟩
end MD12
