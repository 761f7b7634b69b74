/-! THE MODEL: what is asked of signs, of letters -/
theorem in1021 {w : Int32} : (nI 10 ≤ w ∧ w ≤ nI 21) ↔ (nI 10 ≤ w ∧ w < nI 22) := by
  by_cases hw : w < 0
  · exact ⟨fun z => absurd hw (Int32.not_lt.mpr (Int32.le_trans (by decide) z.1)), fun z => absurd hw (Int32.not_lt.mpr (Int32.le_trans (by decide) z.1))⟩
  · obtain ⟨n, hn, rfl⟩ := nI_of hw
    rw [in_iff (by decide) (by decide) hn, nI_leI (by decide) hn, nI_ltI hn (by decide)]
    omega
section MD11
variable {E : EnvT} {h h1 : Hp} {M : Nat} {S : MSt} {q : Pk} {ds : List Pk} {im : Nat → Pk} {md : Nat → Nat} {tp ph : List Nat} {fk fp : Int32}
theorem LOut.nil {S2 : MSt} (e : S2.1 11 = nI 0) : LOut S2 [] [] := ⟨rfl, e, fun i x hx => by simp at hx, fun i x hx => by simp at hx⟩
theorem MP_rule_no (y : MMAt E h M q ds im md tp ph fk fp) {s w : Int32} (hn : ¬ sgI q.2 s) : Spec E k_X10_rule 67 0 0 [.ref M, .int s, .int w] h (fun v h' => v = some (.int (-2)) ∧ MMAt E h' M q ds im md tp ph fk fp ∧ Out h h' M (M + 23)) := by
  obtain ⟨S, x, r⟩ := y
  refine Spec.of (by decide +kernel) (by simp [Value.category]) (Nat.le_of_ble_eq_true rfl) ?_
  show WP E k_X10_rule 67 0 0 0 [some (.ref M), some (.int s), some (.int w)] [] h _
  refine R_aload_n dX10_rule_0 rfl ?_
  refine R_iconst (v := nI 0) dX10_rule_1 (by decide) ?_
  refine R_put_A K_10 (f := 0) (by decide) dX10_rule_2 f_RX10_1 rfl x.1 (by rfl) (by rfl) (Nat.le_of_ble_eq_true rfl) ?_
  intro h0 u0
  have x0 := x.put u0 (by decide)
  have r0 := r.keep (S2 := (upd S.1 0 (nI 0), S.2)) (Ony.refl.put (by decide))
  have g0 : Out h h0 M (M + 23) := Out.upd u0 (by omega) (by omega)
  generalize (upd S.1 0 (nI 0), S.2) = S0 at x0 r0
  refine R_aload_n dX10_rule_5 rfl ?_
  refine R_iload_n dX10_rule_6 rfl ?_
  -- X10_rule: ('call', 7, '.invokevirtual', 210)
  refine R_callV v_X10_isSign (Md_isSign x0 r0.1 s) dX10_rule_7 l_RX10_210 rfl rfl x0.1 (Nat.le_of_ble_eq_true rfl) (by omega) rfl rfl (fun v h2 hq => ?_)
  obtain ⟨rfl, e9⟩ := hq
  rw [e9, if_neg hn]
  refine R_if_ne_N (tgt := 16) dX10_rule_10 (by decide) (by omega) (fun c10 => ?_) (fun c10 => ?_)
  -- X10_rule: ('branch', 10, 16, 13)
  · exact absurd rfl c10
  · refine R_bipush (v := (-2)) dX10_rule_13 (by decide) ?_
    refine R_ireturn dX10_rule_15 rfl rfl ?_
    -- X10_rule: ('ret', 15)
    exact ⟨rfl, ⟨S0, x0, r0⟩, g0⟩
theorem MP_rule (y : MMAt E h M q ds im md tp ph fk fp) (hq : PkOk q) {s : Nat} (hs : isSg q.2 s) (w : Int32) : Spec E k_X10_rule 67 0 0 [.ref M, .int (nI s), .int w] h (fun v h' => v = some (.int (ruleI q ph s w)) ∧ MMAt E h' M q ds im md tp ph fk fp ∧ Out h h' M (M + 23)) := by
  have hs86 := isSg_lt hs
  obtain ⟨S, x, r⟩ := y
  refine Spec.of (by decide +kernel) (by simp [Value.category]) (Nat.le_of_ble_eq_true rfl) ?_
  show WP E k_X10_rule 67 0 0 0 [some (.ref M), some (.int (nI s)), some (.int w)] [] h _
  refine R_aload_n dX10_rule_0 rfl ?_
  refine R_iconst (v := nI 0) dX10_rule_1 (by decide) ?_
  refine R_put_A K_10 (f := 0) (by decide) dX10_rule_2 f_RX10_1 rfl x.1 (by rfl) (by rfl) (Nat.le_of_ble_eq_true rfl) ?_
  intro h0 u0
  have x0 := x.put u0 (by decide)
  have r0 := r.keep (S2 := (upd S.1 0 (nI 0), S.2)) (Ony.refl.put (by decide))
  have g0 : Out h h0 M (M + 23) := Out.upd u0 (by omega) (by omega)
  generalize (upd S.1 0 (nI 0), S.2) = S0 at x0 r0
  refine R_aload_n dX10_rule_5 rfl ?_
  refine R_iload_n dX10_rule_6 rfl ?_
  -- X10_rule: ('call', 7, '.invokevirtual', 210)
  refine R_callV v_X10_isSign (Md_isSign x0 r0.1 (nI s)) dX10_rule_7 l_RX10_210 rfl rfl x0.1 (Nat.le_of_ble_eq_true rfl) (by omega) rfl rfl (fun v h2 hq => ?_)
  obtain ⟨rfl, e9⟩ := hq
  rw [e9, if_pos ((sgI_nI (by omega)).mpr hs)]
  refine R_if_ne_N (tgt := 16) dX10_rule_10 (by decide) (by omega) (fun c10 => ?_) (fun c10 => ?_)
  -- X10_rule: ('branch', 10, 16, 13)
  · refine R_iload_n dX10_rule_16 rfl ?_
    refine R_i2l dX10_rule_17 ?_
    refine R_ldc2 dX10_rule_18 cl_RX10_276 ?_
    refine R_ldc2 dX10_rule_21 cl_RX10_278 ?_
    -- X10_rule: ('call', 24, '.invokestatic', 98)
    refine R_callS s_X10_isIn (Md_isIn w (nI 10) (nI 21) (by decide) (by decide)) dX10_rule_24 l_RX10_98 rfl rfl (Nat.le_of_ble_eq_true rfl) (by omega) rfl rfl (fun v h3 hq => ?_)
    obtain ⟨rfl, e9⟩ := hq
    rw [e9]
    by_cases hin : nI 10 ≤ w ∧ w ≤ nI 21
    · rw [if_pos hin]
      have hin2 := in1021.mp hin
      have hw0 : ¬ w < 0 := fun z => absurd z (Int32.not_lt.mpr (Int32.le_trans (by decide) hin.1))
      obtain ⟨n, hn, rfl⟩ := nI_of hw0
      have hn2 := (in_iff (by decide) (by decide) hn).mp hin
      have hans : ruleI q ph s (nI n) = rget (rowOf q.2 s) (nI (n - 10)) := by
        rw [ruleI_o (Or.inr (by rw [nI_toInt hn]; omega)), if_pos hin2, pk_sub (by omega)]
      have hrl : (rowOf q.2 s).length ≤ 12 := by
        rw [rowOf]
        split
        · exact (r0.1.2.2.2 (s - 26) (by omega)).1
        · exact Nat.zero_le _
      refine R_if_eq_N (tgt := 56) dX10_rule_27 (by decide) (by omega) (fun c27 => ?_) (fun c27 => ?_)
      -- X10_rule: ('branch', 27, 56, 30)
      · exact absurd c27 (by decide)
      · refine R_iload_n dX10_rule_30 rfl ?_
        refine R_bipush (v := nI 10) dX10_rule_31 (by decide) ?_
        refine R_isub_N dX10_rule_33 (by omega) ?_
        refine R_aload_n dX10_rule_34 rfl ?_
        refine R_iload_n dX10_rule_35 rfl ?_
        -- X10_rule: ('call', 36, '.invokevirtual', 106)
        refine R_callV v_X10_rowLong (Md_rowLong x0 r0.1 hs86) dX10_rule_36 l_RX10_106 rfl rfl x0.1 (Nat.le_of_ble_eq_true rfl) (by omega) rfl rfl (fun v h4 hq => ?_)
        obtain ⟨rfl, e9⟩ := hq
        rw [e9]
        refine R_icmp_ge_N (tgt := 54) dX10_rule_39 (by decide) (by omega) (by omega) (fun c39 => ?_) (fun c39 => ?_)
        -- X10_rule: ('branch', 39, 54, 42)
        · refine R_iconst (v := (-1)) dX10_rule_54 (by decide) ?_
          refine R_ireturn dX10_rule_55 rfl rfl ?_
          -- X10_rule: ('ret', 55)
          exact ⟨by rw [hans, rget_out (by omega) (by omega)], ⟨S0, x0, r0⟩, g0⟩
        · obtain ⟨z, hz⟩ := getE (l := rowOf q.2 s) (i := n - 10) (by omega)
          refine R_aload_n dX10_rule_42 rfl ?_
          refine R_iload_n dX10_rule_43 rfl ?_
          refine R_iload_n dX10_rule_44 rfl ?_
          refine R_bipush (v := nI 10) dX10_rule_45 (by decide) ?_
          refine R_isub_N dX10_rule_47 (by omega) ?_
          -- X10_rule: ('call', 48, '.invokevirtual', 113)
          refine R_callV v_X10_inRow (Md_inRow x0 r0.1 hs86 hz) dX10_rule_48 l_RX10_113 rfl rfl x0.1 (Nat.le_of_ble_eq_true rfl) (by omega) rfl rfl (fun v h5 hq => ?_)
          obtain ⟨rfl, e9⟩ := hq
          rw [e9]
          refine R_goto (tgt := 55) dX10_rule_51 (by decide) ?_
          refine R_ireturn dX10_rule_55 rfl rfl ?_
          -- X10_rule: ('ret', 55)
          exact ⟨by rw [hans, rget_in (by omega) hz], ⟨S0, x0, r0⟩, g0⟩
    · rw [if_neg hin]
      refine R_if_eq_N (tgt := 56) dX10_rule_27 (by decide) (by omega) (fun c27 => ?_) (fun c27 => ?_)
      -- X10_rule: ('branch', 27, 56, 30)
      · refine R_aload_n dX10_rule_56 rfl ?_
        -- X10_rule: ('call', 57, '.invokevirtual', 134)
        refine R_callV v_X10_laysWords (Md_laysWords hq x0 r0.1) dX10_rule_57 l_RX10_134 rfl rfl x0.1 (Nat.le_of_ble_eq_true rfl) (by omega) rfl rfl (fun v h4 hq => ?_)
        obtain ⟨rfl, g4, S4, x4, o4, w4⟩ := hq
        have r4 := r0.keep (o4.mono (by decide) (by decide))
        have fin : MMAt E h4 M q ds im md tp ph fk fp ∧ Out h h4 M (M + 23) := ⟨⟨S4, x4, r4⟩, g0.trans g4⟩
        refine R_iload_n dX10_rule_60 rfl ?_
        -- X10_rule: ('op', 61, '.tableswitch 87 0 5 #[39, 45, 52, 59, 65, 71]')
        by_cases hw : ¬ w.toInt < 0 ∧ ¬ ((5 : Nat) : Int) < w.toInt
        · obtain ⟨k, hk, rfl⟩ := I32_small hw.1 hw.2
          rcases (show k = 0 ∨ k = 1 ∨ k = 2 ∨ k = 3 ∨ k = 4 ∨ k = 5 by omega) with rfl | rfl | rfl | rfl | rfl | rfl
          · refine R_tableIn (off := 39) (tgt := 100) dX10_rule_61 (by decide) (by decide) rfl (by decide) ?_
            refine R_aload_n dX10_rule_100 rfl ?_
            refine R_iload_n dX10_rule_101 rfl ?_
            -- X10_rule: ('call', 102, '.invokevirtual', 106)
            refine R_callV v_X10_rowLong (Md_rowLong x4 r4.1 hs86) dX10_rule_102 l_RX10_106 rfl rfl x4.1 (Nat.le_of_ble_eq_true rfl) (by omega) rfl rfl (fun v h5 hq => ?_)
            obtain ⟨rfl, e9⟩ := hq
            rw [e9]
            refine R_ireturn dX10_rule_105 rfl rfl ?_
            -- X10_rule: ('ret', 105)
            exact ⟨rfl, fin⟩
          · refine R_tableIn (off := 45) (tgt := 106) dX10_rule_61 (by decide) (by decide) rfl (by decide) ?_
            refine R_aload_n dX10_rule_106 rfl ?_
            refine R_get K_10 (f := 7) (by decide) dX10_rule_107 f_RX10_30 x4.1 rfl ?_
            refine R_iload_n dX10_rule_110 rfl ?_
            refine R_iaload_N dX10_rule_111 x4.a6 (by omega) (by omega) (w4 s hs).1 ?_
            refine R_ireturn dX10_rule_112 rfl rfl ?_
            -- X10_rule: ('ret', 112)
            exact ⟨rfl, fin⟩
          · refine R_tableIn (off := 52) (tgt := 113) dX10_rule_61 (by decide) (by decide) rfl (by decide) ?_
            refine R_aload_n dX10_rule_113 rfl ?_
            refine R_get K_10 (f := 8) (by decide) dX10_rule_114 f_RX10_33 x4.1 rfl ?_
            refine R_iload_n dX10_rule_117 rfl ?_
            refine R_iaload_N dX10_rule_118 x4.a7 (by omega) (by omega) (w4 s hs).2 ?_
            refine R_ireturn dX10_rule_119 rfl rfl ?_
            -- X10_rule: ('ret', 119)
            exact ⟨rfl, fin⟩
          · refine R_tableIn (off := 59) (tgt := 120) dX10_rule_61 (by decide) (by decide) rfl (by decide) ?_
            refine R_aload_n dX10_rule_120 rfl ?_
            refine R_iload_n dX10_rule_121 rfl ?_
            -- X10_rule: ('call', 122, '.invokevirtual', 267)
            refine R_callV v_X10_usesOf (Md_usesOf x4 r4.1 hq.h86 hq.r86 hs86) dX10_rule_122 l_RX10_267 rfl rfl x4.1 (Nat.le_of_ble_eq_true rfl) (by omega) rfl rfl (fun v h5 hq => ?_)
            obtain ⟨rfl, e9⟩ := hq
            rw [e9]
            refine R_ireturn dX10_rule_125 rfl rfl ?_
            -- X10_rule: ('ret', 125)
            exact ⟨rfl, fin⟩
          · refine R_tableIn (off := 65) (tgt := 126) dX10_rule_61 (by decide) (by decide) rfl (by decide) ?_
            refine R_aload_n dX10_rule_126 rfl ?_
            refine R_iload_n dX10_rule_127 rfl ?_
            -- X10_rule: ('call', 128, '.invokevirtual', 192)
            refine R_callV v_X10_inSequence (Md_inSequence x4 r4.1 hq.h86 hs86) dX10_rule_128 l_RX10_192 rfl rfl x4.1 (Nat.le_of_ble_eq_true rfl) (by omega) rfl rfl (fun v h5 hq => ?_)
            obtain ⟨rfl, e9⟩ := hq
            rw [e9]
            refine R_ireturn dX10_rule_131 rfl rfl ?_
            -- X10_rule: ('ret', 131)
            exact ⟨rfl, fin⟩
          · refine R_tableIn (off := 71) (tgt := 132) dX10_rule_61 (by decide) (by decide) rfl (by decide) ?_
            refine R_aload_n dX10_rule_132 rfl ?_
            refine R_iconst (v := nI 0) dX10_rule_133 (by decide) ?_
            refine R_put_A K_10 (f := 11) (by decide) dX10_rule_134 f_RX10_120 rfl x4.1 (by rfl) (by rfl) (Nat.le_of_ble_eq_true rfl) ?_
            -- X10_rule: ('put', 137)
            intro h5 u5
            have x5 := x4.put u5 (by decide)
            have r5 := r4.keep (S2 := (upd S4.1 11 (nI 0), S4.2)) (Ony.refl.put (by decide))
            have hwl := wlen_le hq.1 hs
            refine R_aload_n dX10_rule_137 rfl ?_
            refine R_iload_n dX10_rule_138 rfl ?_
            refine R_iconst (v := nI 0) dX10_rule_139 (by decide) ?_
            -- X10_rule: ('call', 140, '.invokevirtual', 130)
            refine R_callV v_X10_laysOut (Md_laysOut hq 60 s 0 [] [] h5 _ hs (dpt_le q.2 s) (by decide) x5 r5.1 (LOut.nil rfl) (by rw [List.length_nil]; omega)) dX10_rule_140 l_RX10_130 rfl rfl x5.1 (Nat.le_of_ble_eq_true rfl) (by omega) rfl rfl (fun v h6 hq => ?_)
            obtain ⟨rfl, g6, S6, x6, o6, l6⟩ := hq
            have r6 := r5.keep (o6.mono (by decide) (by decide))
            rw [List.nil_append, ← letL_one] at l6
            have hl1 : (letL q.2 [s]).length ≤ 240 := by rw [letL_len, lsum, lsum]; omega
            refine R_aload_n dX10_rule_143 rfl ?_
            -- X10_rule: ('call', 144, '.invokevirtual', 227)
            refine R_callV v_X10_hitsIn (Md_hitsIn x6 l6 r6.2.2.2.2.1 hl1 letL_lt) dX10_rule_144 l_RX10_227 rfl rfl x6.1 (Nat.le_of_ble_eq_true rfl) (by omega) rfl rfl (fun v h7 hq => ?_)
            obtain ⟨rfl, e9⟩ := hq
            rw [e9]
            refine R_ireturn dX10_rule_147 rfl rfl ?_
            -- X10_rule: ('ret', 147)
            exact ⟨rfl, ⟨S6, x6, r6⟩, (fin.2.trans (Out.upd u5 (by omega) (by omega))).trans g6⟩
        · have hw2 : w.toInt < 0 ∨ (5 : Int) < w.toInt := by
            by_cases z : w.toInt < 0
            · exact Or.inl z
            · exact Or.inr (by have := Classical.not_not.mp (fun y => hw ⟨z, y⟩); omega)
          refine R_tableOut (tgt := 148) dX10_rule_61 hw2 (by decide) ?_
          refine R_bipush (v := (-2)) dX10_rule_148 (by decide) ?_
          refine R_ireturn dX10_rule_150 rfl rfl ?_
          -- X10_rule: ('ret', 150)
          exact ⟨by rw [ruleI_o hw2, if_neg (fun z => hin (in1021.mpr z))], fin⟩
      · exact absurd rfl c27
  · exact absurd c10 (by decide)
theorem MP_word_no (y : MMAt E h M q ds im md tp ph fk fp) {s i : Int32} (hn : ¬ sgI q.2 s) : Spec E k_X10_word 67 0 0 [.ref M, .int s, .int i] h (fun v h' => v = some (.int (-2)) ∧ MMAt E h' M q ds im md tp ph fk fp ∧ Out h h' M (M + 23)) := by
  obtain ⟨S, x, r⟩ := y
  refine Spec.of (by decide +kernel) (by simp [Value.category]) (Nat.le_of_ble_eq_true rfl) ?_
  show WP E k_X10_word 67 0 0 0 [some (.ref M), some (.int s), some (.int i)] [] h _
  refine R_aload_n dX10_word_0 rfl ?_
  refine R_iconst (v := nI 0) dX10_word_1 (by decide) ?_
  refine R_put_A K_10 (f := 0) (by decide) dX10_word_2 f_RX10_1 rfl x.1 (by rfl) (by rfl) (Nat.le_of_ble_eq_true rfl) ?_
  intro h0 u0
  have x0 := x.put u0 (by decide)
  have r0 := r.keep (S2 := (upd S.1 0 (nI 0), S.2)) (Ony.refl.put (by decide))
  have g0 : Out h h0 M (M + 23) := Out.upd u0 (by omega) (by omega)
  generalize (upd S.1 0 (nI 0), S.2) = S0 at x0 r0
  refine R_aload_n dX10_word_5 rfl ?_
  refine R_iload_n dX10_word_6 rfl ?_
  -- X10_word: ('call', 7, '.invokevirtual', 210)
  refine R_callV v_X10_isSign (Md_isSign x0 r0.1 s) dX10_word_7 l_RX10_210 rfl rfl x0.1 (Nat.le_of_ble_eq_true rfl) (by omega) rfl rfl (fun v h2 hq => ?_)
  obtain ⟨rfl, e9⟩ := hq
  rw [e9, if_neg hn]
  refine R_if_ne_N (tgt := 16) dX10_word_10 (by decide) (by omega) (fun c10 => ?_) (fun c10 => ?_)
  -- X10_word: ('branch', 10, 16, 13)
  · exact absurd rfl c10
  · refine R_bipush (v := (-2)) dX10_word_13 (by decide) ?_
    refine R_ireturn dX10_word_15 rfl rfl ?_
    -- X10_word: ('ret', 15)
    exact ⟨rfl, ⟨S0, x0, r0⟩, g0⟩
theorem MP_word_neg (y : MMAt E h M q ds im md tp ph fk fp) {s i : Int32} (hs : sgI q.2 s) (hi : i < 0) : Spec E k_X10_word 67 0 0 [.ref M, .int s, .int i] h (fun v h' => v = some (.int (-3)) ∧ MMAt E h' M q ds im md tp ph fk fp ∧ Out h h' M (M + 23)) := by
  obtain ⟨S, x, r⟩ := y
  refine Spec.of (by decide +kernel) (by simp [Value.category]) (Nat.le_of_ble_eq_true rfl) ?_
  show WP E k_X10_word 67 0 0 0 [some (.ref M), some (.int s), some (.int i)] [] h _
  refine R_aload_n dX10_word_0 rfl ?_
  refine R_iconst (v := nI 0) dX10_word_1 (by decide) ?_
  refine R_put_A K_10 (f := 0) (by decide) dX10_word_2 f_RX10_1 rfl x.1 (by rfl) (by rfl) (Nat.le_of_ble_eq_true rfl) ?_
  intro h0 u0
  have x0 := x.put u0 (by decide)
  have r0 := r.keep (S2 := (upd S.1 0 (nI 0), S.2)) (Ony.refl.put (by decide))
  have g0 : Out h h0 M (M + 23) := Out.upd u0 (by omega) (by omega)
  generalize (upd S.1 0 (nI 0), S.2) = S0 at x0 r0
  refine R_aload_n dX10_word_5 rfl ?_
  refine R_iload_n dX10_word_6 rfl ?_
  -- X10_word: ('call', 7, '.invokevirtual', 210)
  refine R_callV v_X10_isSign (Md_isSign x0 r0.1 s) dX10_word_7 l_RX10_210 rfl rfl x0.1 (Nat.le_of_ble_eq_true rfl) (by omega) rfl rfl (fun v h2 hq => ?_)
  obtain ⟨rfl, e9⟩ := hq
  rw [e9, if_pos hs]
  refine R_if_ne_N (tgt := 16) dX10_word_10 (by decide) (by omega) (fun c10 => ?_) (fun c10 => ?_)
  -- X10_word: ('branch', 10, 16, 13)
  · refine R_iload_n dX10_word_16 rfl ?_
    refine R_if_ge (tgt := 23) dX10_word_17 (by decide) (fun c17 => ?_) (fun c17 => ?_)
    -- X10_word: ('branch', 17, 23, 20)
    · exact absurd hi (Int32.not_lt.mpr c17)
    · refine R_bipush (v := (-3)) dX10_word_20 (by decide) ?_
      refine R_ireturn dX10_word_22 rfl rfl ?_
      -- X10_word: ('ret', 22)
      exact ⟨rfl, ⟨S0, x0, r0⟩, g0⟩
  · exact absurd c10 (by decide)
theorem MP_word (y : MMAt E h M q ds im md tp ph fk fp) (hq : PkOk q) {s i : Nat} (hs : isSg q.2 s) (hi : i < 2 ^ 31) : Spec E k_X10_word 67 0 0 [.ref M, .int (nI s), .int (nI i)] h (fun v h' => v = some (.int (wordI q s i)) ∧ MMAt E h' M q ds im md tp ph fk fp ∧ Out h h' M (M + 23)) := by
  have hs86 := isSg_lt hs
  have hwl := wlen_le hq.1 hs
  obtain ⟨S, x, r⟩ := y
  refine Spec.of (by decide +kernel) (by simp [Value.category]) (Nat.le_of_ble_eq_true rfl) ?_
  show WP E k_X10_word 67 0 0 0 [some (.ref M), some (.int (nI s)), some (.int (nI i))] [] h _
  refine R_aload_n dX10_word_0 rfl ?_
  refine R_iconst (v := nI 0) dX10_word_1 (by decide) ?_
  refine R_put_A K_10 (f := 0) (by decide) dX10_word_2 f_RX10_1 rfl x.1 (by rfl) (by rfl) (Nat.le_of_ble_eq_true rfl) ?_
  intro h0 u0
  have x0 := x.put u0 (by decide)
  have r0 := r.keep (S2 := (upd S.1 0 (nI 0), S.2)) (Ony.refl.put (by decide))
  have g0 : Out h h0 M (M + 23) := Out.upd u0 (by omega) (by omega)
  generalize (upd S.1 0 (nI 0), S.2) = S0 at x0 r0
  refine R_aload_n dX10_word_5 rfl ?_
  refine R_iload_n dX10_word_6 rfl ?_
  -- X10_word: ('call', 7, '.invokevirtual', 210)
  refine R_callV v_X10_isSign (Md_isSign x0 r0.1 (nI s)) dX10_word_7 l_RX10_210 rfl rfl x0.1 (Nat.le_of_ble_eq_true rfl) (by omega) rfl rfl (fun v h2 hq => ?_)
  obtain ⟨rfl, e9⟩ := hq
  rw [e9, if_pos ((sgI_nI (by omega)).mpr hs)]
  refine R_if_ne_N (tgt := 16) dX10_word_10 (by decide) (by omega) (fun c10 => ?_) (fun c10 => ?_)
  -- X10_word: ('branch', 10, 16, 13)
  · refine R_iload_n dX10_word_16 rfl ?_
    refine R_if_ge_N (tgt := 23) dX10_word_17 (by decide) (by omega) ?_
    refine R_aload_n dX10_word_23 rfl ?_
    refine R_iconst (v := nI 0) dX10_word_24 (by decide) ?_
    refine R_put_A K_10 (f := 11) (by decide) dX10_word_25 f_RX10_120 rfl x0.1 (by rfl) (by rfl) (Nat.le_of_ble_eq_true rfl) ?_
    -- X10_word: ('put', 28)
    intro h5 u5
    have x5 := x0.put u5 (by decide)
    have r5 := r0.keep (S2 := (upd S0.1 11 (nI 0), S0.2)) (Ony.refl.put (by decide))
    refine R_aload_n dX10_word_28 rfl ?_
    refine R_iload_n dX10_word_29 rfl ?_
    refine R_iconst (v := nI 0) dX10_word_30 (by decide) ?_
    -- X10_word: ('call', 31, '.invokevirtual', 130)
    refine R_callV v_X10_laysOut (Md_laysOut hq 60 s 0 [] [] h5 _ hs (dpt_le q.2 s) (by decide) x5 r5.1 (LOut.nil rfl) (by rw [List.length_nil]; omega)) dX10_word_31 l_RX10_130 rfl rfl x5.1 (Nat.le_of_ble_eq_true rfl) (by omega) rfl rfl (fun v h6 hq => ?_)
    obtain ⟨rfl, g6, S6, x6, o6, l6⟩ := hq
    have r6 := r5.keep (o6.mono (by decide) (by decide))
    rw [List.nil_append] at l6
    have fin : MMAt E h6 M q ds im md tp ph fk fp ∧ Out h h6 M (M + 23) := ⟨⟨S6, x6, r6⟩, (g0.trans (Out.upd u5 (by omega) (by omega))).trans g6⟩
    have V11 := fld_get (M := M) (k := 11) (by decide) l6.2.1
    have hml : ((wx q.2 s).map Prod.fst).length = wlen q.2 s := by rw [List.length_map]; rfl
    refine R_iload_n dX10_word_34 rfl ?_
    refine R_aload_n dX10_word_35 rfl ?_
    refine R_get K_10 (f := 11) (by decide) dX10_word_36 f_RX10_120 x6.1 V11 ?_
    refine R_icmp_ge_N (tgt := 51) dX10_word_39 (by decide) (by omega) (by omega) (fun c39 => ?_) (fun c39 => ?_)
    -- X10_word: ('branch', 39, 51, 42)
    · refine R_iconst (v := (-1)) dX10_word_51 (by decide) ?_
      refine R_ireturn dX10_word_52 rfl rfl ?_
      -- X10_word: ('ret', 52)
      exact ⟨by rw [wordI, List.getElem?_eq_none (by rw [← show wlen q.2 s = (wx q.2 s).length from rfl]; omega)]; rfl, fin⟩
    · obtain ⟨a, ha⟩ : ∃ a, (wx q.2 s)[i]? = some a := ⟨_, List.getElem?_eq_getElem (show i < (wx q.2 s).length by rw [← show wlen q.2 s = (wx q.2 s).length from rfl]; omega)⟩
      have hv := l6.2.2.1 i a.1 (by rw [List.getElem?_map, ha]; rfl)
      have ha26 : a.1 < 26 := letL_lt (ru := q.2) (q := [s]) a.1 (by rw [letL_one]; exact List.mem_map_of_mem (List.mem_of_getElem? ha))
      refine R_aload_n dX10_word_42 rfl ?_
      refine R_get K_10 (f := 9) (by decide) dX10_word_43 f_RX10_36 x6.1 rfl ?_
      refine R_iload_n dX10_word_46 rfl ?_
      refine R_iaload_N dX10_word_47 x6.a8 (by omega) (by omega) hv ?_
      refine R_goto (tgt := 52) dX10_word_48 (by decide) ?_
      refine R_ireturn dX10_word_52 rfl rfl ?_
      -- X10_word: ('ret', 52)
      exact ⟨by rw [wordI, ha]; rfl, fin⟩
  · exact absurd c10 (by decide)
theorem MP_way_no (y : MMAt E h M q ds im md tp ph fk fp) {p k : Int32} (hn : p < 0 ∨ k < 0) : Spec E k_X10_way 67 0 0 [.ref M, .int p, .int k] h (fun v h' => v = some (.int (-3)) ∧ MMAt E h' M q ds im md tp ph fk fp ∧ Out h h' M (M + 23)) := by
  obtain ⟨S, x, r⟩ := y
  refine Spec.of (by decide +kernel) (by simp [Value.category]) (Nat.le_of_ble_eq_true rfl) ?_
  show WP E k_X10_way 67 0 0 0 [some (.ref M), some (.int p), some (.int k), none, none, none, none] [] h _
  refine R_aload_n dX10_way_0 rfl ?_
  refine R_iconst (v := nI 0) dX10_way_1 (by decide) ?_
  refine R_put_A K_10 (f := 0) (by decide) dX10_way_2 f_RX10_1 rfl x.1 (by rfl) (by rfl) (Nat.le_of_ble_eq_true rfl) ?_
  intro h0 u0
  have x0 := x.put u0 (by decide)
  have r0 := r.keep (S2 := (upd S.1 0 (nI 0), S.2)) (Ony.refl.put (by decide))
  have g0 : Out h h0 M (M + 23) := Out.upd u0 (by omega) (by omega)
  generalize (upd S.1 0 (nI 0), S.2) = S0 at x0 r0
  refine R_iload_n dX10_way_5 rfl ?_
  refine R_if_lt (tgt := 13) dX10_way_6 (by decide) (fun c6 => ?_) (fun c6 => ?_)
  -- X10_way: ('branch', 6, 13, 9)
  · refine R_bipush (v := (-3)) dX10_way_13 (by decide) ?_
    refine R_ireturn dX10_way_15 rfl rfl ?_
    -- X10_way: ('ret', 15)
    exact ⟨rfl, ⟨S0, x0, r0⟩, g0⟩
  · refine R_iload_n dX10_way_9 rfl ?_
    refine R_if_ge (tgt := 16) dX10_way_10 (by decide) (fun c10 => ?_) (fun c10 => ?_)
    -- X10_way: ('branch', 10, 16, 13)
    · rcases hn with z | z
      · exact absurd z c6
      · exact absurd z (Int32.not_lt.mpr c10)
    · refine R_bipush (v := (-3)) dX10_way_13 (by decide) ?_
      refine R_ireturn dX10_way_15 rfl rfl ?_
      -- X10_way: ('ret', 15)
      exact ⟨rfl, ⟨S0, x0, r0⟩, g0⟩
theorem MP_way (y : MMAt E h M q ds im md tp ph fk fp) (hq : PkOk q) {p k : Nat} (hp : p < 2 ^ 31) (hk : k < 2 ^ 31) : Spec E k_X10_way 67 0 0 [.ref M, .int (nI p), .int (nI k)] h (fun v h' => v = some (.int (wayI q p k)) ∧ MMAt E h' M q ds im md tp ph fk fp ∧ Out h h' M (M + 23)) := by
  have hlen := hq.len
  have hll := letL_len (ru := q.2) (q := q.1)
  obtain ⟨S, x, r⟩ := y
  refine Spec.of (by decide +kernel) (by simp [Value.category]) (Nat.le_of_ble_eq_true rfl) ?_
  show WP E k_X10_way 67 0 0 0 [some (.ref M), some (.int (nI p)), some (.int (nI k)), none, none, none, none] [] h _
  refine R_aload_n dX10_way_0 rfl ?_
  refine R_iconst (v := nI 0) dX10_way_1 (by decide) ?_
  refine R_put_A K_10 (f := 0) (by decide) dX10_way_2 f_RX10_1 rfl x.1 (by rfl) (by rfl) (Nat.le_of_ble_eq_true rfl) ?_
  intro h0 u0
  have x0 := x.put u0 (by decide)
  have r0 := r.keep (S2 := (upd S.1 0 (nI 0), S.2)) (Ony.refl.put (by decide))
  have g0 : Out h h0 M (M + 23) := Out.upd u0 (by omega) (by omega)
  generalize (upd S.1 0 (nI 0), S.2) = S0 at x0 r0
  refine R_iload_n dX10_way_5 rfl ?_
  refine R_if_lt_N (tgt := 13) dX10_way_6 (by decide) (by omega) ?_
  refine R_iload_n dX10_way_9 rfl ?_
  refine R_if_ge_N (tgt := 16) dX10_way_10 (by decide) (by omega) ?_
  refine R_aload_n dX10_way_16 rfl ?_
  refine R_iload_n dX10_way_17 rfl ?_
  -- X10_way: ('call', 18, '.invokevirtual', 288)
  refine R_callV v_X10_seeks (Md_seeks hq x0 r0.1 hp) dX10_way_18 l_RX10_288 rfl rfl x0.1 (Nat.le_of_ble_eq_true rfl) (by omega) rfl rfl (fun v h3 hq => ?_)
  obtain ⟨rfl, g3, S3, x3, o3, w3, k3⟩ := hq
  have r3 := r0.keep (o3.mono (by decide) (by decide))
  have fin : MMAt E h3 M q ds im md tp ph fk fp ∧ Out h h3 M (M + 23) := ⟨⟨S3, x3, r3⟩, g0.trans g3⟩
  by_cases c : p < (letL q.2 q.1).length
  · obtain ⟨j, z, k4, k5, k6, e34, e35⟩ := k3 c
    obtain ⟨hh, hb⟩ := home_is k4 k5 k6 (by omega)
    have hzs := hq.2.1 z (List.mem_of_getElem? k4)
    have hw : wayI q p k = wayX q.2 z (p - lsum (wlen q.2) (q.1.take j)) k := by rw [wayI, if_pos c, getD_of hh, getD_of k4, getD_of hb]
    rw [hw, if_pos c]
    have outer : ∀ m t a pl (z6 : Option Value), t + m = k → isSg q.2 a → pl < wlen q.2 a → wayX q.2 z (p - lsum (wlen q.2) (q.1.take j)) k = wayX q.2 a pl m → WP E k_X10_way 67 0 0 46 [some (.ref M), some (.int (nI p)), some (.int (nI k)), some (.int (nI a)), some (.int (nI pl)), some (.int (nI t)), z6] [] h3 (fun v h' => v = some (.int (wayX q.2 z (p - lsum (wlen q.2) (q.1.take j)) k)) ∧ MMAt E h' M q ds im md tp ph fk fp ∧ Out h h' M (M + 23)) := by
      intro m
      induction m with
      | zero =>
        intro t a pl z6 ht ha hpl he
        refine R_iload dX10_way_46 rfl ?_
        refine R_iload_n dX10_way_48 rfl ?_
        refine R_icmp_ge_N (tgt := 117) dX10_way_49 (by decide) (by omega) (by omega) (fun c49 => ?_) (fun c49 => ?_)
        -- X10_way: ('branch', 49, 117, 52)
        · refine R_iload_n dX10_way_117 rfl ?_
          refine R_ireturn dX10_way_118 rfl rfl ?_
          -- X10_way: ('ret', 118)
          exact ⟨by rw [he, wayX_0], fin⟩
        · exact absurd c49 (by omega)
      | succ m ih =>
        intro t a pl z6 ht ha hpl he
        have ha86 := isSg_lt ha
        have hal := wlen_le hq.1 ha
        refine R_iload dX10_way_46 rfl ?_
        refine R_iload_n dX10_way_48 rfl ?_
        refine R_icmp_ge_N (tgt := 117) dX10_way_49 (by decide) (by omega) (by omega) (fun c49 => ?_) (fun c49 => ?_)
        -- X10_way: ('branch', 49, 117, 52)
        · exact absurd c49 (by omega)
        · refine R_iload_n dX10_way_52 rfl ?_
          refine R_bipush (v := nI 26) dX10_way_53 (by decide) ?_
          refine R_icmp_ge_N (tgt := 60) dX10_way_55 (by decide) (by omega) (by omega) (fun c55 => ?_) (fun c55 => ?_)
          -- X10_way: ('branch', 55, 60, 58)
          · have hr : isRul q.2 a := by
              rcases ha with y | y
              · exact absurd y (by omega)
              · exact y
            have hro : rowOf q.2 a = q.2 (a - 26) := rowOf_in ⟨hr.1, ha86⟩
            have hwr := wlen_rule hq.1.1 hr
            have hrl := (r3.1.2.2.2 (a - 26) (by omega)).1
            have inner : ∀ mm u pl2, u + mm = (q.2 (a - 26)).length → pl2 < lsum (wlen q.2) ((q.2 (a - 26)).drop u) → pl2 ≤ 240 → pickR (wlen q.2) ((q.2 (a - 26)).drop u) pl2 = pickR (wlen q.2) (q.2 (a - 26)) pl → WP E k_X10_way 67 0 0 63 [some (.ref M), some (.int (nI p)), some (.int (nI k)), some (.int (nI a)), some (.int (nI pl2)), some (.int (nI t)), some (.int (nI u))] [] h3 (fun v h' => v = some (.int (wayX q.2 z (p - lsum (wlen q.2) (q.1.take j)) k)) ∧ MMAt E h' M q ds im md tp ph fk fp ∧ Out h h' M (M + 23)) := by
              intro mm
              induction mm with
              | zero =>
                intro u pl2 hu hlt _ _
                rw [List.drop_of_length_le (by omega), lsum] at hlt
                omega
              | succ mm ihm =>
                intro u pl2 hu hlt h240 hpk
                obtain ⟨b, hb⟩ := getE (l := q.2 (a - 26)) (i := u) (by omega)
                have hbs := acy_sg hq.1.1 (i := a - 26) (by omega) (List.mem_of_getElem? hb)
                have hb86 := isSg_lt hbs
                have hbl := wlen_le hq.1 hbs
                have hd : (q.2 (a - 26)).drop u = b :: (q.2 (a - 26)).drop (u + 1) := by
                  obtain ⟨l1, e1⟩ := List.getElem?_eq_some_iff.mp hb
                  rw [List.drop_eq_getElem_cons l1, e1]
                rw [hd] at hpk hlt
                rw [lsum] at hlt
                refine R_iload dX10_way_63 rfl ?_
                refine R_aload_n dX10_way_65 rfl ?_
                refine R_get K_10 (f := 7) (by decide) dX10_way_66 f_RX10_30 x3.1 rfl ?_
                refine R_aload_n dX10_way_69 rfl ?_
                refine R_iload_n dX10_way_70 rfl ?_
                refine R_iload dX10_way_71 rfl ?_
                -- X10_way: ('call', 73, '.invokevirtual', 113)
                refine R_callV v_X10_inRow (Md_inRow x3 r3.1 ha86 (i := u) (by rw [hro]; exact hb)) dX10_way_73 l_RX10_113 rfl rfl x3.1 (Nat.le_of_ble_eq_true rfl) (by omega) rfl rfl (fun v h4 hq => ?_)
                obtain ⟨rfl, e9⟩ := hq
                rw [e9]
                refine R_iaload_N dX10_way_76 x3.a6 (by omega) (by omega) (w3 b hbs).1 ?_
                refine R_icmp_lt_N (tgt := 103) dX10_way_77 (by decide) (by omega) (by omega) (fun c77 => ?_) (fun c77 => ?_)
                -- X10_way: ('branch', 77, 103, 80)
                · refine R_aload_n dX10_way_103 rfl ?_
                  refine R_iload_n dX10_way_104 rfl ?_
                  refine R_iload dX10_way_105 rfl ?_
                  -- X10_way: ('call', 107, '.invokevirtual', 113)
                  refine R_callV v_X10_inRow (Md_inRow x3 r3.1 ha86 (i := u) (by rw [hro]; exact hb)) dX10_way_107 l_RX10_113 rfl rfl x3.1 (Nat.le_of_ble_eq_true rfl) (by omega) rfl rfl (fun v h5 hq => ?_)
                  obtain ⟨rfl, e9⟩ := hq
                  rw [e9]
                  refine R_istore3 dX10_way_110 (by decide) ?_
                  refine R_iinc5 dX10_way_111 (by decide) (nI_inc _ 1) ?_
                  refine R_goto (tgt := 46) dX10_way_114 (by decide) ?_
                  -- X10_way: ('stop', 46)
                  refine ih (t + 1) b pl2 _ (by omega) hbs c77 ?_
                  rw [he, wayX_rule hr, ← hpk, pickR_at c77]
                · have hne : (q.2 (a - 26)).drop (u + 1) ≠ [] := by
                    intro e
                    rw [e, lsum] at hlt
                    omega
                  refine R_iload dX10_way_80 rfl ?_
                  refine R_aload_n dX10_way_82 rfl ?_
                  refine R_get K_10 (f := 7) (by decide) dX10_way_83 f_RX10_30 x3.1 rfl ?_
                  refine R_aload_n dX10_way_86 rfl ?_
                  refine R_iload_n dX10_way_87 rfl ?_
                  refine R_iload dX10_way_88 rfl ?_
                  -- X10_way: ('call', 90, '.invokevirtual', 113)
                  refine R_callV v_X10_inRow (Md_inRow x3 r3.1 ha86 (i := u) (by rw [hro]; exact hb)) dX10_way_90 l_RX10_113 rfl rfl x3.1 (Nat.le_of_ble_eq_true rfl) (by omega) rfl rfl (fun v h5 hq => ?_)
                  obtain ⟨rfl, e9⟩ := hq
                  rw [e9]
                  refine R_iaload_N dX10_way_93 x3.a6 (by omega) (by omega) (w3 b hbs).1 ?_
                  refine R_isub_N dX10_way_94 (by omega) ?_
                  refine R_istore4 dX10_way_95 (by decide) ?_
                  refine R_iinc6 dX10_way_97 (by decide) (nI_inc _ 1) ?_
                  refine R_goto (tgt := 63) dX10_way_100 (by decide) ?_
                  -- X10_way: ('stop', 63)
                  refine ihm (u + 1) (pl2 - wlen q.2 b) (by omega) (by omega) (by omega) ?_
                  rw [← hpk, pickR_go (by omega) hne]
            refine R_iconst (v := nI 0) dX10_way_60 (by decide) ?_
            refine R_istore6 dX10_way_61 (by decide) ?_
            -- X10_way: ('stop', 63)
            exact inner _ 0 pl (Nat.zero_add _) (by rw [List.drop_zero, ← hwr]; exact hpl) (by omega) (by rw [List.drop_zero])
          · refine R_iconst (v := (-1)) dX10_way_58 (by decide) ?_
            refine R_ireturn dX10_way_59 rfl rfl ?_
            -- X10_way: ('ret', 59)
            exact ⟨by rw [he, wayX_letter (fun y => absurd y.1 (by omega))], fin⟩
    have V34 := fld_get (M := M) (w := S3.1) (k := 34) (by decide) e34
    have V35 := fld_get (M := M) (w := S3.1) (k := 35) (by decide) e35
    refine R_if_ne_N (tgt := 26) dX10_way_21 (by decide) (by omega) (fun c21 => ?_) (fun c21 => ?_)
    -- X10_way: ('branch', 21, 26, 24)
    · refine R_aload_n dX10_way_26 rfl ?_
      refine R_aload_n dX10_way_27 rfl ?_
      refine R_get K_10 (f := 34) (by decide) dX10_way_28 f_RX10_280 x3.1 V34 ?_
      -- X10_way: ('call', 31, '.invokevirtual', 127)
      refine R_callV v_X10_signAt (Md_signAt x3 r3.1 k4) dX10_way_31 l_RX10_127 rfl rfl x3.1 (Nat.le_of_ble_eq_true rfl) (by omega) rfl rfl (fun v h4 hq => ?_)
      obtain ⟨rfl, e9⟩ := hq
      rw [e9]
      refine R_istore3 dX10_way_34 (by decide) ?_
      refine R_iload_n dX10_way_35 rfl ?_
      refine R_aload_n dX10_way_36 rfl ?_
      refine R_get K_10 (f := 35) (by decide) dX10_way_37 f_RX10_283 x3.1 V35 ?_
      refine R_isub_N dX10_way_40 (by omega) ?_
      refine R_istore4 dX10_way_41 (by decide) ?_
      refine R_iconst (v := nI 0) dX10_way_43 (by decide) ?_
      refine R_istore5 dX10_way_44 (by decide) ?_
      -- X10_way: ('stop', 46)
      exact outer k 0 z _ none (Nat.zero_add _) hzs (by omega) rfl
    · exact absurd c21 (by decide)
  · rw [if_neg c]
    refine R_if_ne_N (tgt := 26) dX10_way_21 (by decide) (by omega) (fun c21 => ?_) (fun c21 => ?_)
    -- X10_way: ('branch', 21, 26, 24)
    · exact absurd rfl c21
    · refine R_iconst (v := (-1)) dX10_way_24 (by decide) ?_
      refine R_ireturn dX10_way_25 rfl rfl ?_
      -- X10_way: ('ret', 25)
      exact ⟨by rw [wayI, if_neg c], fin⟩
end MD11
