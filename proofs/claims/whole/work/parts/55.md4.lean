/-! THE MODEL: texts, phrases, the past and images, as they are called -/
section MD4
variable {E : EnvT} {h h1 : Hp} {M : Nat} {S : MSt} {q : Pk} {ds : List Pk} {im : Nat → Pk} {md : Nat → Nat} {tp ph : List Nat} {fk fp : Int32}
theorem MP_fault (y : MMAt E h M q ds im md tp ph fk fp) (w : Int32) : Spec E k_X10_fault 1 0 0 [.ref M, .int w] h (fun v h' => v = some (.int (if w = 0 then fk else if w = 1 then fp else -1)) ∧ MMAt E h' M q ds im md tp ph fk fp ∧ Out h h' M (M + 23)) := by
  obtain ⟨S, x, r⟩ := y
  refine Spec.of (by decide +kernel) (by simp [Value.category]) (Nat.le_of_ble_eq_true rfl) ?_
  show WP E k_X10_fault 1 0 0 0 [some (.ref M), some (.int w)] [] h _
  refine R_aload_n dX10_fault_0 rfl ?_
  refine R_iconst (v := nI 0) dX10_fault_1 (by decide) ?_
  refine R_put_A K_10 (f := 0) (by decide) dX10_fault_2 f_RX10_1 rfl x.1 (by rfl) (by rfl) (Nat.le_of_ble_eq_true rfl) ?_
  intro h0 u0
  have x0 := x.put u0 (by decide)
  have r0 := r.keep (S2 := (upd S.1 0 (nI 0), S.2)) (Ony.refl.put (by decide))
  have g0 : Out h h0 M (M + 23) := Out.upd u0 (by omega) (by omega)
  generalize (upd S.1 0 (nI 0), S.2) = S0 at x0 r0
  have r14 := r0.2.2.2.2.2.1
  have r15 := r0.2.2.2.2.2.2
  refine R_iload_n dX10_fault_5 rfl ?_
  refine R_if_ne (tgt := 16) dX10_fault_6 (by decide) (fun c6 => ?_) (fun c6 => ?_)
  -- X10_fault: ('branch', 6, 16, 9)
  · refine R_iload_n dX10_fault_16 rfl ?_
    refine R_iconst (v := nI 1) dX10_fault_17 (by decide) ?_
    refine R_icmp_ne (tgt := 28) dX10_fault_18 (by decide) (fun c18 => ?_) (fun c18 => ?_)
    -- X10_fault: ('branch', 18, 28, 21)
    · refine R_iconst (v := (-1)) dX10_fault_28 (by decide) ?_
      refine R_ireturn dX10_fault_29 rfl rfl ?_
      -- X10_fault: ('ret', 29)
      rw [show nI 1 = 1 from by decide] at c18
      exact ⟨by rw [if_neg c6, if_neg c18], ⟨S0, x0, r0⟩, g0⟩
    · refine R_aload_n dX10_fault_21 rfl ?_
      refine R_get K_10 (f := 15) (by decide) dX10_fault_22 f_RX10_46 x0.1 (fld_get (k := 15) (by decide) r15) ?_
      refine R_goto (tgt := 29) dX10_fault_25 (by decide) ?_
      refine R_ireturn dX10_fault_29 rfl rfl ?_
      -- X10_fault: ('ret', 29)
      have c18 : w = 1 := by rw [← show nI 1 = 1 from by decide]; exact c18
      exact ⟨by rw [if_neg c6, if_pos c18], ⟨S0, x0, r0⟩, g0⟩
  · refine R_aload_n dX10_fault_9 rfl ?_
    refine R_get K_10 (f := 14) (by decide) dX10_fault_10 f_RX10_140 x0.1 (fld_get (k := 14) (by decide) r14) ?_
    refine R_goto (tgt := 29) dX10_fault_13 (by decide) ?_
    refine R_ireturn dX10_fault_29 rfl rfl ?_
    -- X10_fault: ('ret', 29)
    exact ⟨by rw [if_pos c6], ⟨S0, x0, r0⟩, g0⟩
theorem MP_feed_no (y : MMAt E h M q ds im md tp ph fk fp) (a b c d e : Int32) (hl : 260 < tp.length + 20) : Spec E k_X10_feed 1 0 0 [.ref M, .int a, .int b, .int c, .int d, .int e] h (fun v h' => v = some (.int (-4)) ∧ MMAt E h' M q ds im md tp ph fk fp ∧ Out h h' M (M + 23)) := by
  obtain ⟨S, x, r⟩ := y
  have htl := r.2.2.2.1.2.1
  refine Spec.of (by decide +kernel) (by simp [Value.category]) (Nat.le_of_ble_eq_true rfl) ?_
  show WP E k_X10_feed 1 0 0 0 [some (.ref M), some (.int a), some (.int b), some (.int c), some (.int d), some (.int e), none, none] [] h _
  refine R_aload_n dX10_feed_0 rfl ?_
  refine R_iconst (v := nI 0) dX10_feed_1 (by decide) ?_
  refine R_put_A K_10 (f := 0) (by decide) dX10_feed_2 f_RX10_1 rfl x.1 (by rfl) (by rfl) (Nat.le_of_ble_eq_true rfl) ?_
  intro h0 u0
  have x0 := x.put u0 (by decide)
  have r0 := r.keep (S2 := (upd S.1 0 (nI 0), S.2)) (Ony.refl.put (by decide))
  have g0 : Out h h0 M (M + 23) := Out.upd u0 (by omega) (by omega)
  generalize (upd S.1 0 (nI 0), S.2) = S0 at x0 r0
  refine R_aload_n dX10_feed_5 rfl ?_
  refine R_get K_10 (f := 13) (by decide) dX10_feed_6 f_RX10_137 x0.1 (fld_get (k := 13) (by decide) r0.2.2.2.1.1) ?_
  refine R_bipush (v := nI 20) dX10_feed_9 (by decide) ?_
  refine R_iadd_N dX10_feed_11 ?_
  refine R_sipush (v := nI 260) dX10_feed_12 (by decide) ?_
  refine R_icmp_le_N (tgt := 21) dX10_feed_15 (by decide) (by omega) (by omega) (fun c15 => ?_) (fun c15 => ?_)
  -- X10_feed: ('branch', 15, 21, 18)
  · exact absurd c15 (by omega)
  · refine R_bipush (v := (-4)) dX10_feed_18 (by decide) ?_
    refine R_ireturn dX10_feed_20 rfl rfl ?_
    -- X10_feed: ('ret', 20)
    exact ⟨rfl, ⟨S0, x0, r0⟩, g0⟩
theorem MP_feed (y : MMAt E h M q ds im md tp ph fk fp) (a b c d e : Int32) (hl : tp.length + 20 ≤ 260) : Spec E k_X10_feed 1 0 0 [.ref M, .int a, .int b, .int c, .int d, .int e] h (fun v h' => v = some (.int (nI (tp.length + 20))) ∧ MMAt E h' M q ds im md (tp ++ (by4 a ++ (by4 b ++ (by4 c ++ (by4 d ++ by4 e))))) ph fk fp ∧ Out h h' M (M + 23)) := by
  obtain ⟨S, x, r⟩ := y
  refine Spec.of (by decide +kernel) (by simp [Value.category]) (Nat.le_of_ble_eq_true rfl) ?_
  show WP E k_X10_feed 1 0 0 0 [some (.ref M), some (.int a), some (.int b), some (.int c), some (.int d), some (.int e), none, none] [] h _
  refine R_aload_n dX10_feed_0 rfl ?_
  refine R_iconst (v := nI 0) dX10_feed_1 (by decide) ?_
  refine R_put_A K_10 (f := 0) (by decide) dX10_feed_2 f_RX10_1 rfl x.1 (by rfl) (by rfl) (Nat.le_of_ble_eq_true rfl) ?_
  intro h0 u0
  have x0 := x.put u0 (by decide)
  have r0 := r.keep (S2 := (upd S.1 0 (nI 0), S.2)) (Ony.refl.put (by decide))
  have g0 : Out h h0 M (M + 23) := Out.upd u0 (by omega) (by omega)
  generalize (upd S.1 0 (nI 0), S.2) = S0 at x0 r0
  obtain ⟨L, hLd⟩ : ∃ L, L = by4 a ++ (by4 b ++ (by4 c ++ (by4 d ++ by4 e))) := ⟨_, rfl⟩
  have hL20 : L.length = 20 := by rw [hLd]; rfl
  obtain ⟨elt, he⟩ : ∃ elt : Nat → Int32, elt = fun k => if k < 4 then a else if k < 8 then b else if k < 12 then c else if k < 16 then d else e := ⟨_, rfl⟩
  have hL : ∀ k, k < 20 → L[k]? = some (byN (elt k) (24 - 8 * (k % 4))) := by
    intro k hk
    rw [hLd, he]
    rcases (show k = 0 ∨ k = 1 ∨ k = 2 ∨ k = 3 ∨ k = 4 ∨ k = 5 ∨ k = 6 ∨ k = 7 ∨ k = 8 ∨ k = 9 ∨ k = 10 ∨ k = 11 ∨ k = 12 ∨ k = 13 ∨ k = 14 ∨ k = 15 ∨ k = 16 ∨ k = 17 ∨ k = 18 ∨ k = 19 by omega) with rfl | rfl | rfl | rfl | rfl | rfl | rfl | rfl | rfl | rfl | rfl | rfl | rfl | rfl | rfl | rfl | rfl | rfl | rfl | rfl <;> rfl
  rw [← hLd]
  have loop : ∀ m t h2 S2 (z : Option Value), t + m = 20 → MdAt E h2 M S2 → Ony [10] [13] S0 S2 → mTape S2 (tp ++ L.take t) → Out h h2 M (M + 23) → WP E k_X10_feed 1 0 0 24 [some (.ref M), some (.int a), some (.int b), some (.int c), some (.int d), some (.int e), some (.int (nI t)), z] [] h2 (fun v h' => v = some (.int (nI (tp.length + 20))) ∧ MMAt E h' M q ds im md (tp ++ L) ph fk fp ∧ Out h h' M (M + 23)) := by
    intro m
    induction m with
    | zero =>
      intro t h2 S2 z ht x2 o2 t2 g2
      have t13 := t2.1
      rw [List.take_of_length_le (by omega)] at t2
      rw [List.length_append, List.length_take, hL20, show min t 20 = 20 by omega] at t13
      refine R_iload dX10_feed_24 rfl ?_
      refine R_bipush (v := nI 20) dX10_feed_26 (by decide) ?_
      refine R_icmp_ge_N (tgt := 118) dX10_feed_28 (by decide) (by omega) (by omega) (fun c28 => ?_) (fun c28 => ?_)
      -- X10_feed: ('branch', 28, 118, 31)
      · refine R_aload_n dX10_feed_118 rfl ?_
        refine R_get K_10 (f := 13) (by decide) dX10_feed_119 f_RX10_137 x2.1 (fld_get (k := 13) (by decide) t13) ?_
        refine R_ireturn dX10_feed_122 rfl rfl ?_
        -- X10_feed: ('ret', 122)
        obtain ⟨ra, rb, rc, rd, re, rf, rg⟩ := r0
        exact ⟨rfl, ⟨S2, x2, by rw [o2.1 1 (by decide)]; exact ra, rb.keep (o2.2 5 (by decide)) (o2.1 2 (by decide)), rc.keep (o2.1 5 (by decide)) (fun k _ => by rw [o2.1 1 (by decide)]), t2, re.keep (o2.2 16 (by decide)) (o2.1 11 (by decide)), (o2.2 14 (by decide)).trans rf, (o2.2 15 (by decide)).trans rg⟩, g2⟩
      · exact absurd c28 (by omega)
    | succ m ih =>
      intro t h2 S2 z ht x2 o2 t2 g2
      obtain ⟨t13, tl, tb⟩ := t2
      have hlen : (tp ++ L.take t).length = tp.length + t := by rw [List.length_append, List.length_take, hL20]; omega
      rw [hlen] at t13
      have s4 : t % 4 = 0 ∨ t % 4 = 1 ∨ t % 4 = 2 ∨ t % 4 = 3 := by omega
      have hsh : ((nI (24 - 8 * (t % 4)) &&& 31).toBitVec.smod 32).toNat = 24 - 8 * (t % 4) := by
        rcases s4 with e | e | e | e <;> rw [e] <;> decide
      have body : WP E k_X10_feed 1 0 0 77 [some (.ref M), some (.int a), some (.int b), some (.int c), some (.int d), some (.int e), some (.int (nI t)), z] [.int (elt t)] h2 (fun v h' => v = some (.int (nI (tp.length + 20))) ∧ MMAt E h' M q ds im md (tp ++ L) ph fk fp ∧ Out h h' M (M + 23)) := by
        refine R_istore7 dX10_feed_77 (by decide) ?_
        refine R_aload_n dX10_feed_79 rfl ?_
        refine R_get K_10 (f := 12) (by decide) dX10_feed_80 f_RX10_42 x2.1 rfl ?_
        refine R_aload_n dX10_feed_83 rfl ?_
        refine R_get K_10 (f := 13) (by decide) dX10_feed_84 f_RX10_137 x2.1 (fld_get (k := 13) (by decide) t13) ?_
        refine R_iload dX10_feed_87 rfl ?_
        refine R_bipush (v := nI 24) dX10_feed_89 (by decide) ?_
        refine R_bipush (v := nI 8) dX10_feed_91 (by decide) ?_
        refine R_iload dX10_feed_93 rfl ?_
        refine R_iconst (v := nI 4) dX10_feed_95 (by decide) ?_
        refine R_irem_N dX10_feed_96 (by omega) (by omega) (by omega) ?_
        refine R_imul_N dX10_feed_97 ?_
        refine R_isub_N dX10_feed_98 (by omega) ?_
        refine R_ishr dX10_feed_99 ?_
        refine R_i2b dX10_feed_100 ?_
        refine R_bastore_N dX10_feed_101 x2.a10 (by omega) (by omega)  ?_
        -- X10_feed: ('put', 102)
        intro h3 u3
        rw [pk_vb, byI_shr _ _ _ hsh (by omega)] at u3
        have x3 := x2.s10 u3
        refine R_aload_n dX10_feed_102 rfl ?_
        refine R_dup dX10_feed_103 rfl ?_
        refine R_get K_10 (f := 13) (by decide) dX10_feed_104 f_RX10_137 x3.1 (fld_get (k := 13) (by decide) t13) ?_
        refine R_iconst (v := nI 1) dX10_feed_107 (by decide) ?_
        refine R_iadd_N dX10_feed_108 ?_
        refine R_put_A K_10 (f := 13) (by decide) dX10_feed_109 f_RX10_137 rfl x3.1 (by rfl) (by rfl) (Nat.le_of_ble_eq_true rfl) ?_
        -- X10_feed: ('put', 112)
        intro h4 u4
        have x4 := x3.put u4 (by decide)
        refine R_iinc6 dX10_feed_112 (by decide) (nI_inc _ 1) ?_
        refine R_goto (tgt := 24) dX10_feed_115 (by decide) ?_
        -- X10_feed: ('stop', 24)
        refine ih (t + 1) h4 _ _ (by omega) x4 ((o2.st (by decide)).put (by decide)) ⟨?_, ?_, fun i y hy => ?_⟩ ((g2.trans (Out.upd u3 (by omega) (by omega))).trans (Out.upd u4 (by omega) (by omega)))
        · show nI (tp.length + t + 1) = _
          rw [List.length_append, List.length_take, hL20, show min (t + 1) 20 = t + 1 by omega]; rfl
        · rw [List.length_append, List.length_take, hL20]; omega
        · rw [take_snoc (hL t (by omega)), ← List.append_assoc] at hy
          show upd (S2.2 10) (tp.length + t) _ i = byI y ∧ y < 256
          rcases snoc_get hy with ⟨z1, z2⟩ | ⟨z1, z2⟩
          · rw [upd_ne (by omega)]; exact tb i y z2
          · rw [z1, hlen, upd_at, z2]; exact ⟨rfl, byN_lt⟩
      have hel : elt t = if t < 4 then a else if t < 8 then b else if t < 12 then c else if t < 16 then d else e := by rw [he]
      rw [hel] at body
      refine R_iload dX10_feed_24 rfl ?_
      refine R_bipush (v := nI 20) dX10_feed_26 (by decide) ?_
      refine R_icmp_ge_N (tgt := 118) dX10_feed_28 (by decide) (by omega) (by omega) (fun c28 => ?_) (fun c28 => ?_)
      -- X10_feed: ('branch', 28, 118, 31)
      · exact absurd c28 (by omega)
      · refine R_iload dX10_feed_31 rfl ?_
        refine R_iconst (v := nI 4) dX10_feed_33 (by decide) ?_
        refine R_icmp_ge_N (tgt := 41) dX10_feed_34 (by decide) (by omega) (by omega) (fun c34 => ?_) (fun c34 => ?_)
        -- X10_feed: ('branch', 34, 41, 37)
        · rw [if_neg (by omega)] at body
          refine R_iload dX10_feed_41 rfl ?_
          refine R_bipush (v := nI 8) dX10_feed_43 (by decide) ?_
          refine R_icmp_ge_N (tgt := 52) dX10_feed_45 (by decide) (by omega) (by omega) (fun c45 => ?_) (fun c45 => ?_)
          -- X10_feed: ('branch', 45, 52, 48)
          · rw [if_neg (by omega)] at body
            refine R_iload dX10_feed_52 rfl ?_
            refine R_bipush (v := nI 12) dX10_feed_54 (by decide) ?_
            refine R_icmp_ge_N (tgt := 63) dX10_feed_56 (by decide) (by omega) (by omega) (fun c56 => ?_) (fun c56 => ?_)
            -- X10_feed: ('branch', 56, 63, 59)
            · rw [if_neg (by omega)] at body
              refine R_iload dX10_feed_63 rfl ?_
              refine R_bipush (v := nI 16) dX10_feed_65 (by decide) ?_
              refine R_icmp_ge_N (tgt := 75) dX10_feed_67 (by decide) (by omega) (by omega) (fun c67 => ?_) (fun c67 => ?_)
              -- X10_feed: ('branch', 67, 75, 70)
              · rw [if_neg (by omega)] at body
                refine R_iload dX10_feed_75 rfl ?_
                -- X10_feed: ('stop', 77)
                exact body
              · rw [if_pos (by omega)] at body
                refine R_iload dX10_feed_70 rfl ?_
                refine R_goto (tgt := 77) dX10_feed_72 (by decide) ?_
                -- X10_feed: ('stop', 77)
                exact body
            · rw [if_pos (by omega)] at body
              refine R_iload_n dX10_feed_59 rfl ?_
              refine R_goto (tgt := 77) dX10_feed_60 (by decide) ?_
              -- X10_feed: ('stop', 77)
              exact body
          · rw [if_pos (by omega)] at body
            refine R_iload_n dX10_feed_48 rfl ?_
            refine R_goto (tgt := 77) dX10_feed_49 (by decide) ?_
            -- X10_feed: ('stop', 77)
            exact body
        · rw [if_pos (by omega)] at body
          refine R_iload_n dX10_feed_37 rfl ?_
          refine R_goto (tgt := 77) dX10_feed_38 (by decide) ?_
          -- X10_feed: ('stop', 77)
          exact body
  refine R_aload_n dX10_feed_5 rfl ?_
  refine R_get K_10 (f := 13) (by decide) dX10_feed_6 f_RX10_137 x0.1 (fld_get (k := 13) (by decide) r0.2.2.2.1.1) ?_
  refine R_bipush (v := nI 20) dX10_feed_9 (by decide) ?_
  refine R_iadd_N dX10_feed_11 ?_
  refine R_sipush (v := nI 260) dX10_feed_12 (by decide) ?_
  refine R_icmp_le_N (tgt := 21) dX10_feed_15 (by decide) (by omega) (by omega) (fun c15 => ?_) (fun c15 => ?_)
  -- X10_feed: ('branch', 15, 21, 18)
  · refine R_iconst (v := nI 0) dX10_feed_21 (by decide) ?_
    refine R_istore6 dX10_feed_22 (by decide) ?_
    -- X10_feed: ('stop', 24)
    refine loop 20 0 h0 S0 none (by omega) x0 Ony.refl ?_ g0
    rw [List.take_zero, List.append_nil]; exact r0.2.2.2.1
  · exact absurd c15 (by omega)
theorem MP_text_no1 (y : MMAt E h M q ds im md tp ph fk fp) {n : Int32} (hn : ¬ stP tp.length n 0) : Spec E k_X10_text 3 0 0 [.ref M, .int n] h (fun v h' => v = some (.int (-3)) ∧ MMAt E h' M q ds im md tp ph fk fp ∧ Out h h' M (M + 23)) := by
  obtain ⟨S, x, r⟩ := y
  refine Spec.of (by decide +kernel) (by simp [Value.category]) (Nat.le_of_ble_eq_true rfl) ?_
  show WP E k_X10_text 3 0 0 0 [some (.ref M), some (.int n), none, none] [] h _
  refine R_aload_n dX10_text_0 rfl ?_
  refine R_iconst (v := nI 0) dX10_text_1 (by decide) ?_
  refine R_put_A K_10 (f := 0) (by decide) dX10_text_2 f_RX10_1 rfl x.1 (by rfl) (by rfl) (Nat.le_of_ble_eq_true rfl) ?_
  intro h0 u0
  have x0 := x.put u0 (by decide)
  have r0 := r.keep (S2 := (upd S.1 0 (nI 0), S.2)) (Ony.refl.put (by decide))
  have g0 : Out h h0 M (M + 23) := Out.upd u0 (by omega) (by omega)
  generalize (upd S.1 0 (nI 0), S.2) = S0 at x0 r0
  refine R_aload_n dX10_text_5 rfl ?_
  refine R_iload_n dX10_text_6 rfl ?_
  refine R_iconst (v := nI 0) dX10_text_7 (by decide) ?_
  refine R_sipush (v := nI 240) dX10_text_8 (by decide) ?_
  -- X10_text: ('call', 11, '.invokevirtual', 217)
  refine R_callV v_X10_takes (Md_takes_no x0 r0.2.2.2.1 hn 0 240) dX10_text_11 l_RX10_217 rfl rfl x0.1 (Nat.le_of_ble_eq_true rfl) (by omega) rfl rfl (fun v h2 hq => ?_)
  obtain ⟨rfl, e9⟩ := hq
  rw [e9]
  refine R_istore2 dX10_text_14 (by decide) ?_
  refine R_iload_n dX10_text_15 rfl ?_
  refine R_if_eq (tgt := 21) dX10_text_16 (by decide) (fun c16 => ?_) (fun c16 => ?_)
  -- X10_text: ('branch', 16, 21, 19)
  · exact absurd c16 (by decide)
  · refine R_iload_n dX10_text_19 rfl ?_
    refine R_ireturn dX10_text_20 rfl rfl ?_
    -- X10_text: ('ret', 20)
    exact ⟨rfl, ⟨S0, x0, r0⟩, g0⟩
theorem MRel.taken {S2 : MSt} (r : MRel S q ds im md tp ph fk fp) (o : Ony [] [13, 14, 15] S S2) (e : S2.1 13 = nI 0) : MRel S2 q ds im md [] ph (S2.1 14) (S2.1 15) := by
  obtain ⟨ra, rb, rc, rd, re, rf, rg⟩ := r
  exact ⟨by rw [o.1 1 (by decide)]; exact ra, rb.keep (o.2 5 (by decide)) (o.1 2 (by decide)), rc.keep (o.1 5 (by decide)) (fun k _ => by rw [o.1 1 (by decide)]), ⟨e, by decide, fun i x hx => by simp at hx⟩, re.keep (o.2 16 (by decide)) (o.1 11 (by decide)), rfl, rfl⟩
theorem MP_text_no2 (y : MMAt E h M q ds im md tp ph fk fp) {n : Nat} (hn : n ≤ tp.length) (hb : 240 < n) : Spec E k_X10_text 3 0 0 [.ref M, .int (nI n)] h (fun v h' => v = some (.int (-4)) ∧ MMAt E h' M q ds im md [] ph (nI 0) (-1) ∧ Out h h' M (M + 23)) := by
  obtain ⟨S, x, r⟩ := y
  refine Spec.of (by decide +kernel) (by simp [Value.category]) (Nat.le_of_ble_eq_true rfl) ?_
  show WP E k_X10_text 3 0 0 0 [some (.ref M), some (.int (nI n)), none, none] [] h _
  refine R_aload_n dX10_text_0 rfl ?_
  refine R_iconst (v := nI 0) dX10_text_1 (by decide) ?_
  refine R_put_A K_10 (f := 0) (by decide) dX10_text_2 f_RX10_1 rfl x.1 (by rfl) (by rfl) (Nat.le_of_ble_eq_true rfl) ?_
  intro h0 u0
  have x0 := x.put u0 (by decide)
  have r0 := r.keep (S2 := (upd S.1 0 (nI 0), S.2)) (Ony.refl.put (by decide))
  have g0 : Out h h0 M (M + 23) := Out.upd u0 (by omega) (by omega)
  generalize (upd S.1 0 (nI 0), S.2) = S0 at x0 r0
  refine R_aload_n dX10_text_5 rfl ?_
  refine R_iload_n dX10_text_6 rfl ?_
  refine R_iconst (v := nI 0) dX10_text_7 (by decide) ?_
  refine R_sipush (v := nI 240) dX10_text_8 (by decide) ?_
  -- X10_text: ('call', 11, '.invokevirtual', 217)
  refine R_callV v_X10_takes (Md_takes x0 r0.2.2.2.1 hn (lo := 0) (hi := 240) (by decide) (by decide)) dX10_text_11 l_RX10_217 rfl rfl x0.1 (Nat.le_of_ble_eq_true rfl) (by omega) rfl rfl (fun v h2 hq => ?_)
  obtain ⟨g2, S2, x2, o2, e13, ⟨-, rfl, e14, e15⟩ | ⟨z1, z2, -⟩ | ⟨z1, z2, -⟩⟩ := hq
  · have r2 := r0.taken o2 e13
    rw [e14, e15] at r2
    refine R_istore2 dX10_text_14 (by decide) ?_
    refine R_iload_n dX10_text_15 rfl ?_
    refine R_if_eq (tgt := 21) dX10_text_16 (by decide) (fun c16 => ?_) (fun c16 => ?_)
    -- X10_text: ('branch', 16, 21, 19)
    · exact absurd c16 (by decide)
    · refine R_iload_n dX10_text_19 rfl ?_
      refine R_ireturn dX10_text_20 rfl rfl ?_
      -- X10_text: ('ret', 20)
      exact ⟨rfl, ⟨S2, x2, r2⟩, g0.trans g2⟩
  · omega
  · omega
theorem MP_text_no3 (y : MMAt E h M q ds im md tp ph fk fp) {n i : Nat} (hn : n ≤ tp.length) (hb2 : n ≤ 240) (hw : badS tp n = some i) : Spec E k_X10_text 3 0 0 [.ref M, .int (nI n)] h (fun v h' => v = some (.int (-31)) ∧ MMAt E h' M q ds im md [] ph (nI 1) (nI i) ∧ Out h h' M (M + 23)) := by
  obtain ⟨S, x, r⟩ := y
  refine Spec.of (by decide +kernel) (by simp [Value.category]) (Nat.le_of_ble_eq_true rfl) ?_
  show WP E k_X10_text 3 0 0 0 [some (.ref M), some (.int (nI n)), none, none] [] h _
  refine R_aload_n dX10_text_0 rfl ?_
  refine R_iconst (v := nI 0) dX10_text_1 (by decide) ?_
  refine R_put_A K_10 (f := 0) (by decide) dX10_text_2 f_RX10_1 rfl x.1 (by rfl) (by rfl) (Nat.le_of_ble_eq_true rfl) ?_
  intro h0 u0
  have x0 := x.put u0 (by decide)
  have r0 := r.keep (S2 := (upd S.1 0 (nI 0), S.2)) (Ony.refl.put (by decide))
  have g0 : Out h h0 M (M + 23) := Out.upd u0 (by omega) (by omega)
  generalize (upd S.1 0 (nI 0), S.2) = S0 at x0 r0
  refine R_aload_n dX10_text_5 rfl ?_
  refine R_iload_n dX10_text_6 rfl ?_
  refine R_iconst (v := nI 0) dX10_text_7 (by decide) ?_
  refine R_sipush (v := nI 240) dX10_text_8 (by decide) ?_
  -- X10_text: ('call', 11, '.invokevirtual', 217)
  refine R_callV v_X10_takes (Md_takes x0 r0.2.2.2.1 hn (lo := 0) (hi := 240) (by decide) (by decide)) dX10_text_11 l_RX10_217 rfl rfl x0.1 (Nat.le_of_ble_eq_true rfl) (by omega) rfl rfl (fun v h2 hq => ?_)
  obtain ⟨g2, S2, x2, o2, e13, ⟨z1, -⟩ | ⟨-, -, i2, hi2, rfl, e14, e15⟩ | ⟨-, -, z3, -⟩⟩ := hq
  · exact absurd ⟨Nat.zero_le _, hb2⟩ z1
  · have r2 := r0.taken o2 e13
    rw [e14, e15] at r2
    rw [hw] at hi2
    cases hi2
    refine R_istore2 dX10_text_14 (by decide) ?_
    refine R_iload_n dX10_text_15 rfl ?_
    refine R_if_eq (tgt := 21) dX10_text_16 (by decide) (fun c16 => ?_) (fun c16 => ?_)
    -- X10_text: ('branch', 16, 21, 19)
    · exact absurd c16 (by decide)
    · refine R_iload_n dX10_text_19 rfl ?_
      refine R_ireturn dX10_text_20 rfl rfl ?_
      -- X10_text: ('ret', 20)
      exact ⟨rfl, ⟨S2, x2, r2⟩, g0.trans g2⟩
  · rw [hw] at z3; cases z3
theorem low_num {tp : List Nat} {n k : Nat} (t : mTape S tp) (hn : n ≤ tp.length) (hw : badS tp n = none) (hk : k < n) : ∃ c, tp[k]? = some c ∧ isLow c ∧ S.2 10 k = nI c ∧ (tlets tp n)[k]? = some (c - 97) := by
  obtain ⟨c, hc⟩ := getE (l := tp) (i := k) (by omega)
  have hl : isLow c := badS_none hw hn c (List.mem_of_getElem? (i := k) (by rw [List.getElem?_take_of_lt hk]; exact hc))
  refine ⟨c, hc, hl, ?_, ?_⟩
  · rw [(t.2.2 k c hc).1, byI_pos c (by omega)]
  · rw [tlets, List.getElem?_map, List.getElem?_take_of_lt hk, hc]; rfl
theorem MP_text (y : MMAt E h M q ds im md tp ph fk fp) {n : Nat} (hn : n ≤ tp.length) (hb2 : n ≤ 240) (hw : badS tp n = none) : Spec E k_X10_text 3 0 0 [.ref M, .int (nI n)] h (fun v h' => v = some (.int (nI n)) ∧ MMAt E h' M (tlets tp n, fun _ => []) (pushD ds q) im md [] ph (nI 0) (-1) ∧ Out h h' M (M + 23)) := by
  obtain ⟨S, x, r⟩ := y
  refine Spec.of (by decide +kernel) (by simp [Value.category]) (Nat.le_of_ble_eq_true rfl) ?_
  show WP E k_X10_text 3 0 0 0 [some (.ref M), some (.int (nI n)), none, none] [] h _
  refine R_aload_n dX10_text_0 rfl ?_
  refine R_iconst (v := nI 0) dX10_text_1 (by decide) ?_
  refine R_put_A K_10 (f := 0) (by decide) dX10_text_2 f_RX10_1 rfl x.1 (by rfl) (by rfl) (Nat.le_of_ble_eq_true rfl) ?_
  intro h0 u0
  have x0 := x.put u0 (by decide)
  have r0 := r.keep (S2 := (upd S.1 0 (nI 0), S.2)) (Ony.refl.put (by decide))
  have g0 : Out h h0 M (M + 23) := Out.upd u0 (by omega) (by omega)
  generalize (upd S.1 0 (nI 0), S.2) = S0 at x0 r0
  refine R_aload_n dX10_text_5 rfl ?_
  refine R_iload_n dX10_text_6 rfl ?_
  refine R_iconst (v := nI 0) dX10_text_7 (by decide) ?_
  refine R_sipush (v := nI 240) dX10_text_8 (by decide) ?_
  -- X10_text: ('call', 11, '.invokevirtual', 217)
  refine R_callV v_X10_takes (Md_takes x0 r0.2.2.2.1 hn (lo := 0) (hi := 240) (by decide) (by decide)) dX10_text_11 l_RX10_217 rfl rfl x0.1 (Nat.le_of_ble_eq_true rfl) (by omega) rfl rfl (fun v h2 hq => ?_)
  obtain ⟨g2, S2, x2, o2, e13, ⟨z1, -⟩ | ⟨-, -, i2, hi2, -⟩ | ⟨-, -, z3, rfl, e14, e15⟩⟩ := hq
  · exact absurd ⟨Nat.zero_le _, hb2⟩ z1
  · rw [hw] at hi2; cases hi2
  · have r2 := r0.taken o2 e13
    rw [e14, e15] at r2
    refine R_istore2 dX10_text_14 (by decide) ?_
    refine R_iload_n dX10_text_15 rfl ?_
    refine R_if_eq_N (tgt := 21) dX10_text_16 (by decide) (by omega) (fun c16 => ?_) (fun c16 => ?_)
    -- X10_text: ('branch', 16, 21, 19)
    · refine R_aload_n dX10_text_21 rfl ?_
      -- X10_text: ('call', 22, '.invokevirtual', 171)
      refine R_callV v_X10_notes (Md_notes x2 r2.1 r2.2.1) dX10_text_22 l_RX10_171 rfl rfl x2.1 (Nat.le_of_ble_eq_true rfl) (by omega) rfl rfl (fun v h3 hq => ?_)
      obtain ⟨rfl, g3, S3, x3, o3, d3⟩ := hq
      have tb : ∀ k, k < n → ∃ c, isLow c ∧ S3.2 10 k = nI c ∧ (tlets tp n)[k]? = some (c - 97) := by
        intro k hk
        obtain ⟨c, -, k1, k2, k3⟩ := low_num r0.2.2.2.1 hn hw hk
        exact ⟨c, k1, by rw [o3.1 10 (by decide), o2.1 10 (by decide)]; exact k2, k3⟩
      have fin : ∀ h5 S5, MdAt E h5 M S5 → Ony [1] [] S3 S5 → (∀ k, 1021 ≤ k → S5.2 1 k = S3.2 1 k) → (∀ k, k < n → ∃ c, (tlets tp n)[k]? = some c ∧ S5.2 1 (1 + k) = nI c) → (∀ k, n < k → k < 1021 → S5.2 1 k = nI 0) → Out h h5 M (M + 23) → WP E k_X10_text 3 0 0 77 [some (.ref M), some (.int (nI n)), some (.int (nI 0)), some (.int (nI n))] [] h5 (fun v h' => v = some (.int (nI n)) ∧ MMAt E h' M (tlets tp n, fun _ => []) (pushD ds q) im md [] ph (nI 0) (-1) ∧ Out h h' M (M + 23)) := by
        intro h5 S5 x5 o5 far let5 z5 g5
        refine R_aload_n dX10_text_77 rfl ?_
        refine R_get K_10 (f := 1) (by decide) dX10_text_78 f_RX10_13 x5.1 rfl ?_
        refine R_iconst (v := nI 0) dX10_text_81 (by decide) ?_
        refine R_iload_n dX10_text_82 rfl ?_
        refine R_iastore_N dX10_text_83 x5.a1 (by omega) (by omega) ?_
        -- X10_text: ('put', 84)
        intro h6 u6
        have x6 := x5.s1 u6
        refine R_iload_n dX10_text_84 rfl ?_
        refine R_ireturn dX10_text_85 rfl rfl ?_
        -- X10_text: ('ret', 85)
        obtain ⟨ra, rb, rc, rd, re, rf, rg⟩ := r2
        refine ⟨rfl, ⟨_, x6, ?_, d3.keep (o5.2 5 (by decide)) (o5.1 2 (by decide)), (rc.keep (S2 := S3) (o3.1 5 (by decide)) (fun k _ => by rw [o3.1 1 (by decide)])).keep (o5.1 5 (by decide)) (fun k hk => ?_), ⟨?_, by decide, fun i x hx => by simp at hx⟩, (re.keep (S2 := S3) (o3.2 16 (by decide)) (o3.1 11 (by decide))).keep (o5.2 16 (by decide)) (o5.1 11 (by decide)), ?_, ?_⟩, g5.trans (Out.upd u6 (by omega) (by omega))⟩
        · refine ⟨by show (tlets tp n).length ≤ 240; rw [tlets_len hn]; exact hb2, ?_, fun i x hx => ?_, fun r hr => ⟨by show [].length ≤ 12; decide, ?_, fun i x hx => by simp at hx⟩⟩
          · show upd (S5.2 1) 0 (nI n) 0 = nI (tlets tp n).length
            rw [upd_at, tlets_len hn]
          · have hx : (tlets tp n)[i]? = some x := hx
            have hi := (List.getElem?_eq_some_iff.mp hx).1
            rw [tlets_len hn] at hi
            obtain ⟨c, k1, k2⟩ := let5 i hi
            rw [k1] at hx
            cases hx
            show upd (S5.2 1) 0 (nI n) (0 + (1 + i)) = nI x
            rw [upd_ne (by omega), Nat.zero_add]; exact k2
          · show upd (S5.2 1) 0 (nI n) (0 + (241 + 13 * r)) = nI 0
            rw [upd_ne (by omega), Nat.zero_add]; exact z5 _ (by omega) (by omega)
        · show upd (S5.2 1) 0 (nI n) k = _
          rw [upd_ne (by omega)]; exact far k hk
        · show S5.1 13 = nI 0
          rw [o5.2 13 (by decide), o3.2 13 (by decide)]; exact e13
        · show S5.1 14 = nI 0
          rw [o5.2 14 (by decide), o3.2 14 (by decide)]; exact e14
        · show S5.1 15 = -1
          rw [o5.2 15 (by decide), o3.2 15 (by decide)]; exact e15
      have loop2 : ∀ m t h5 S5, t + m = n → MdAt E h5 M S5 → Ony [1] [] S3 S5 → (∀ k, 1021 ≤ k → S5.2 1 k = S3.2 1 k) → (∀ k, k < t → ∃ c, (tlets tp n)[k]? = some c ∧ S5.2 1 (1 + k) = nI c) → (∀ k, t < k → k < 1021 → S5.2 1 k = nI 0) → Out h h5 M (M + 23) → WP E k_X10_text 3 0 0 49 [some (.ref M), some (.int (nI n)), some (.int (nI 0)), some (.int (nI t))] [] h5 (fun v h' => v = some (.int (nI n)) ∧ MMAt E h' M (tlets tp n, fun _ => []) (pushD ds q) im md [] ph (nI 0) (-1) ∧ Out h h' M (M + 23)) := by
        intro m
        induction m with
        | zero =>
          intro t h5 S5 ht x5 o5 far let5 z5 g5
          obtain rfl : t = n := by omega
          refine R_iload_n dX10_text_49 rfl ?_
          refine R_iload_n dX10_text_50 rfl ?_
          refine R_icmp_ge_N (tgt := 77) dX10_text_51 (by decide) (by omega) (by omega) (fun c51 => ?_) (fun c51 => ?_)
          -- X10_text: ('branch', 51, 77, 54)
          · exact fin h5 S5 x5 o5 far let5 z5 g5
          · exact absurd c51 (by omega)
        | succ m ih =>
          intro t h5 S5 ht x5 o5 far let5 z5 g5
          obtain ⟨c, k1, k2, k3⟩ := tb t (by omega)
          have k2' : S5.2 10 t = nI c := by rw [o5.1 10 (by decide)]; exact k2
          refine R_iload_n dX10_text_49 rfl ?_
          refine R_iload_n dX10_text_50 rfl ?_
          refine R_icmp_ge_N (tgt := 77) dX10_text_51 (by decide) (by omega) (by omega) (fun c51 => ?_) (fun c51 => ?_)
          -- X10_text: ('branch', 51, 77, 54)
          · exact absurd c51 (by omega)
          · refine R_aload_n dX10_text_54 rfl ?_
            refine R_get K_10 (f := 1) (by decide) dX10_text_55 f_RX10_13 x5.1 rfl ?_
            refine R_iconst (v := nI 1) dX10_text_58 (by decide) ?_
            refine R_iload_n dX10_text_59 rfl ?_
            refine R_iadd_N dX10_text_60 ?_
            refine R_aload_n dX10_text_61 rfl ?_
            refine R_get K_10 (f := 12) (by decide) dX10_text_62 f_RX10_42 x5.1 rfl ?_
            refine R_iload_n dX10_text_65 rfl ?_
            refine R_baload_N dX10_text_66 x5.a10 (by omega) (by omega) k2' ?_
            refine R_bipush (v := nI 97) dX10_text_67 (by decide) ?_
            refine R_isub_N dX10_text_69 (by omega) ?_
            refine R_iastore_N dX10_text_70 x5.a1 (by omega) (by omega) ?_
            -- X10_text: ('put', 71)
            intro h6 u6
            have x6 := x5.s1 u6
            refine R_iinc3 dX10_text_71 (by decide) (nI_inc _ 1) ?_
            refine R_goto (tgt := 49) dX10_text_74 (by decide) ?_
            -- X10_text: ('stop', 49)
            refine ih (t + 1) h6 _ (by omega) x6 (o5.st (by decide)) (fun k hk => ?_) (fun k hk => ?_) (fun k hk1 hk2 => ?_) (g5.trans (Out.upd u6 (by omega) (by omega)))
            · show upd (S5.2 1) (1 + t) _ k = _
              rw [upd_ne (by omega)]; exact far k hk
            · show ∃ c2, _ ∧ upd (S5.2 1) (1 + t) (nI (c - 97)) (1 + k) = nI c2
              by_cases e : k = t
              · rw [e, upd_at]; exact ⟨_, k3, rfl⟩
              · rw [upd_ne (by omega)]; exact let5 k (by omega)
            · show upd (S5.2 1) (1 + t) _ k = nI 0
              rw [upd_ne (by omega)]; exact z5 k (by omega) hk2
      have loop1 : ∀ m t h5 S5, t + m = 1021 → MdAt E h5 M S5 → Ony [1] [] S3 S5 → (∀ k, 1021 ≤ k → S5.2 1 k = S3.2 1 k) → (∀ k, k < t → S5.2 1 k = nI 0) → Out h h5 M (M + 23) → WP E k_X10_text 3 0 0 27 [some (.ref M), some (.int (nI n)), some (.int (nI 0)), some (.int (nI t))] [] h5 (fun v h' => v = some (.int (nI n)) ∧ MMAt E h' M (tlets tp n, fun _ => []) (pushD ds q) im md [] ph (nI 0) (-1) ∧ Out h h' M (M + 23)) := by
        intro m
        induction m with
        | zero =>
          intro t h5 S5 ht x5 o5 far z5 g5
          refine R_iload_n dX10_text_27 rfl ?_
          refine R_sipush (v := nI 1021) dX10_text_28 (by decide) ?_
          refine R_icmp_ge_N (tgt := 47) dX10_text_31 (by decide) (by omega) (by omega) (fun c31 => ?_) (fun c31 => ?_)
          -- X10_text: ('branch', 31, 47, 34)
          · refine R_iconst (v := nI 0) dX10_text_47 (by decide) ?_
            refine R_istore3 dX10_text_48 (by decide) ?_
            -- X10_text: ('stop', 49)
            exact loop2 n 0 h5 S5 (by omega) x5 o5 far (fun k hk => absurd hk (by omega)) (fun k hk1 hk2 => z5 k (by omega)) g5
          · exact absurd c31 (by omega)
        | succ m ih =>
          intro t h5 S5 ht x5 o5 far z5 g5
          refine R_iload_n dX10_text_27 rfl ?_
          refine R_sipush (v := nI 1021) dX10_text_28 (by decide) ?_
          refine R_icmp_ge_N (tgt := 47) dX10_text_31 (by decide) (by omega) (by omega) (fun c31 => ?_) (fun c31 => ?_)
          -- X10_text: ('branch', 31, 47, 34)
          · exact absurd c31 (by omega)
          · refine R_aload_n dX10_text_34 rfl ?_
            refine R_get K_10 (f := 1) (by decide) dX10_text_35 f_RX10_13 x5.1 rfl ?_
            refine R_iload_n dX10_text_38 rfl ?_
            refine R_iconst (v := nI 0) dX10_text_39 (by decide) ?_
            refine R_iastore_N dX10_text_40 x5.a1 (by omega) (by omega) ?_
            -- X10_text: ('put', 41)
            intro h6 u6
            have x6 := x5.s1 u6
            refine R_iinc3 dX10_text_41 (by decide) (nI_inc _ 1) ?_
            refine R_goto (tgt := 27) dX10_text_44 (by decide) ?_
            -- X10_text: ('stop', 27)
            refine ih (t + 1) h6 _ (by omega) x6 (o5.st (by decide)) (fun k hk => ?_) (fun k hk => ?_) (g5.trans (Out.upd u6 (by omega) (by omega)))
            · show upd (S5.2 1) t _ k = _
              rw [upd_ne (by omega)]; exact far k hk
            · show upd (S5.2 1) t (nI 0) k = nI 0
              by_cases e : k = t
              · rw [e, upd_at]
              · rw [upd_ne e]; exact z5 k (by omega)
      refine R_iconst (v := nI 0) dX10_text_25 (by decide) ?_
      refine R_istore3 dX10_text_26 (by decide) ?_
      -- X10_text: ('stop', 27)
      exact loop1 1021 0 h3 S3 (by omega) x3 Ony.refl (fun _ _ => rfl) (fun k hk => absurd hk (by omega)) ((g0.trans g2).trans g3)
    · exact absurd rfl c16
theorem MP_phrase_no1 (y : MMAt E h M q ds im md tp ph fk fp) {n : Int32} (hn : ¬ stP tp.length n 0) : Spec E k_X10_phrase 66 0 0 [.ref M, .int n] h (fun v h' => v = some (.int (-3)) ∧ MMAt E h' M q ds im md tp ph fk fp ∧ Out h h' M (M + 23)) := by
  obtain ⟨S, x, r⟩ := y
  refine Spec.of (by decide +kernel) (by simp [Value.category]) (Nat.le_of_ble_eq_true rfl) ?_
  show WP E k_X10_phrase 66 0 0 0 [some (.ref M), some (.int n), none, none] [] h _
  refine R_aload_n dX10_phrase_0 rfl ?_
  refine R_iconst (v := nI 0) dX10_phrase_1 (by decide) ?_
  refine R_put_A K_10 (f := 0) (by decide) dX10_phrase_2 f_RX10_1 rfl x.1 (by rfl) (by rfl) (Nat.le_of_ble_eq_true rfl) ?_
  intro h0 u0
  have x0 := x.put u0 (by decide)
  have r0 := r.keep (S2 := (upd S.1 0 (nI 0), S.2)) (Ony.refl.put (by decide))
  have g0 : Out h h0 M (M + 23) := Out.upd u0 (by omega) (by omega)
  generalize (upd S.1 0 (nI 0), S.2) = S0 at x0 r0
  refine R_aload_n dX10_phrase_5 rfl ?_
  refine R_iload_n dX10_phrase_6 rfl ?_
  refine R_iconst (v := nI 1) dX10_phrase_7 (by decide) ?_
  refine R_bipush (v := nI 20) dX10_phrase_8 (by decide) ?_
  -- X10_phrase: ('call', 10, '.invokevirtual', 217)
  refine R_callV v_X10_takes (Md_takes_no x0 r0.2.2.2.1 hn 1 20) dX10_phrase_10 l_RX10_217 rfl rfl x0.1 (Nat.le_of_ble_eq_true rfl) (by omega) rfl rfl (fun v h2 hq => ?_)
  obtain ⟨rfl, e9⟩ := hq
  rw [e9]
  refine R_istore2 dX10_phrase_13 (by decide) ?_
  refine R_iload_n dX10_phrase_14 rfl ?_
  refine R_if_eq (tgt := 20) dX10_phrase_15 (by decide) (fun c15 => ?_) (fun c15 => ?_)
  -- X10_phrase: ('branch', 15, 20, 18)
  · exact absurd c15 (by decide)
  · refine R_iload_n dX10_phrase_18 rfl ?_
    refine R_ireturn dX10_phrase_19 rfl rfl ?_
    -- X10_phrase: ('ret', 19)
    exact ⟨rfl, ⟨S0, x0, r0⟩, g0⟩
theorem MP_phrase_no2 (y : MMAt E h M q ds im md tp ph fk fp) {n : Nat} (hn : n ≤ tp.length) (hb : n = 0 ∨ 20 < n) : Spec E k_X10_phrase 66 0 0 [.ref M, .int (nI n)] h (fun v h' => v = some (.int (-4)) ∧ MMAt E h' M q ds im md [] ph (nI 0) (-1) ∧ Out h h' M (M + 23)) := by
  obtain ⟨S, x, r⟩ := y
  refine Spec.of (by decide +kernel) (by simp [Value.category]) (Nat.le_of_ble_eq_true rfl) ?_
  show WP E k_X10_phrase 66 0 0 0 [some (.ref M), some (.int (nI n)), none, none] [] h _
  refine R_aload_n dX10_phrase_0 rfl ?_
  refine R_iconst (v := nI 0) dX10_phrase_1 (by decide) ?_
  refine R_put_A K_10 (f := 0) (by decide) dX10_phrase_2 f_RX10_1 rfl x.1 (by rfl) (by rfl) (Nat.le_of_ble_eq_true rfl) ?_
  intro h0 u0
  have x0 := x.put u0 (by decide)
  have r0 := r.keep (S2 := (upd S.1 0 (nI 0), S.2)) (Ony.refl.put (by decide))
  have g0 : Out h h0 M (M + 23) := Out.upd u0 (by omega) (by omega)
  generalize (upd S.1 0 (nI 0), S.2) = S0 at x0 r0
  refine R_aload_n dX10_phrase_5 rfl ?_
  refine R_iload_n dX10_phrase_6 rfl ?_
  refine R_iconst (v := nI 1) dX10_phrase_7 (by decide) ?_
  refine R_bipush (v := nI 20) dX10_phrase_8 (by decide) ?_
  -- X10_phrase: ('call', 10, '.invokevirtual', 217)
  refine R_callV v_X10_takes (Md_takes x0 r0.2.2.2.1 hn (lo := 1) (hi := 20) (by decide) (by decide)) dX10_phrase_10 l_RX10_217 rfl rfl x0.1 (Nat.le_of_ble_eq_true rfl) (by omega) rfl rfl (fun v h2 hq => ?_)
  obtain ⟨g2, S2, x2, o2, e13, ⟨-, rfl, e14, e15⟩ | ⟨z1, z2, -⟩ | ⟨z1, z2, -⟩⟩ := hq
  · have r2 := r0.taken o2 e13
    rw [e14, e15] at r2
    refine R_istore2 dX10_phrase_13 (by decide) ?_
    refine R_iload_n dX10_phrase_14 rfl ?_
    refine R_if_eq (tgt := 20) dX10_phrase_15 (by decide) (fun c15 => ?_) (fun c15 => ?_)
    -- X10_phrase: ('branch', 15, 20, 18)
    · exact absurd c15 (by decide)
    · refine R_iload_n dX10_phrase_18 rfl ?_
      refine R_ireturn dX10_phrase_19 rfl rfl ?_
      -- X10_phrase: ('ret', 19)
      exact ⟨rfl, ⟨S2, x2, r2⟩, g0.trans g2⟩
  · omega
  · omega
theorem MP_phrase_no3 (y : MMAt E h M q ds im md tp ph fk fp) {n i : Nat} (hn : n ≤ tp.length) (hb1 : 0 < n) (hb2 : n ≤ 20) (hw : badS tp n = some i) : Spec E k_X10_phrase 66 0 0 [.ref M, .int (nI n)] h (fun v h' => v = some (.int (-31)) ∧ MMAt E h' M q ds im md [] ph (nI 1) (nI i) ∧ Out h h' M (M + 23)) := by
  obtain ⟨S, x, r⟩ := y
  refine Spec.of (by decide +kernel) (by simp [Value.category]) (Nat.le_of_ble_eq_true rfl) ?_
  show WP E k_X10_phrase 66 0 0 0 [some (.ref M), some (.int (nI n)), none, none] [] h _
  refine R_aload_n dX10_phrase_0 rfl ?_
  refine R_iconst (v := nI 0) dX10_phrase_1 (by decide) ?_
  refine R_put_A K_10 (f := 0) (by decide) dX10_phrase_2 f_RX10_1 rfl x.1 (by rfl) (by rfl) (Nat.le_of_ble_eq_true rfl) ?_
  intro h0 u0
  have x0 := x.put u0 (by decide)
  have r0 := r.keep (S2 := (upd S.1 0 (nI 0), S.2)) (Ony.refl.put (by decide))
  have g0 : Out h h0 M (M + 23) := Out.upd u0 (by omega) (by omega)
  generalize (upd S.1 0 (nI 0), S.2) = S0 at x0 r0
  refine R_aload_n dX10_phrase_5 rfl ?_
  refine R_iload_n dX10_phrase_6 rfl ?_
  refine R_iconst (v := nI 1) dX10_phrase_7 (by decide) ?_
  refine R_bipush (v := nI 20) dX10_phrase_8 (by decide) ?_
  -- X10_phrase: ('call', 10, '.invokevirtual', 217)
  refine R_callV v_X10_takes (Md_takes x0 r0.2.2.2.1 hn (lo := 1) (hi := 20) (by decide) (by decide)) dX10_phrase_10 l_RX10_217 rfl rfl x0.1 (Nat.le_of_ble_eq_true rfl) (by omega) rfl rfl (fun v h2 hq => ?_)
  obtain ⟨g2, S2, x2, o2, e13, ⟨z1, -⟩ | ⟨-, -, i2, hi2, rfl, e14, e15⟩ | ⟨-, -, z3, -⟩⟩ := hq
  · exact absurd ⟨hb1, hb2⟩ z1
  · have r2 := r0.taken o2 e13
    rw [e14, e15] at r2
    rw [hw] at hi2
    cases hi2
    refine R_istore2 dX10_phrase_13 (by decide) ?_
    refine R_iload_n dX10_phrase_14 rfl ?_
    refine R_if_eq (tgt := 20) dX10_phrase_15 (by decide) (fun c15 => ?_) (fun c15 => ?_)
    -- X10_phrase: ('branch', 15, 20, 18)
    · exact absurd c15 (by decide)
    · refine R_iload_n dX10_phrase_18 rfl ?_
      refine R_ireturn dX10_phrase_19 rfl rfl ?_
      -- X10_phrase: ('ret', 19)
      exact ⟨rfl, ⟨S2, x2, r2⟩, g0.trans g2⟩
  · rw [hw] at z3; cases z3
theorem MP_phrase (y : MMAt E h M q ds im md tp ph fk fp) (hq : PkOk q) {n : Nat} (hn : n ≤ tp.length) (hb1 : 0 < n) (hb2 : n ≤ 20) (hw : badS tp n = none) : Spec E k_X10_phrase 66 0 0 [.ref M, .int (nI n)] h (fun v h' => v = some (.int (nI (hitsS (tlets tp n) (letL q.2 q.1)))) ∧ MMAt E h' M q ds im md [] (tlets tp n) (nI 0) (-1) ∧ Out h h' M (M + 23)) := by
  have hlen : (letL q.2 q.1).length ≤ 240 := by rw [letL_len]; exact hq.2.2.1
  obtain ⟨S, x, r⟩ := y
  refine Spec.of (by decide +kernel) (by simp [Value.category]) (Nat.le_of_ble_eq_true rfl) ?_
  show WP E k_X10_phrase 66 0 0 0 [some (.ref M), some (.int (nI n)), none, none] [] h _
  refine R_aload_n dX10_phrase_0 rfl ?_
  refine R_iconst (v := nI 0) dX10_phrase_1 (by decide) ?_
  refine R_put_A K_10 (f := 0) (by decide) dX10_phrase_2 f_RX10_1 rfl x.1 (by rfl) (by rfl) (Nat.le_of_ble_eq_true rfl) ?_
  intro h0 u0
  have x0 := x.put u0 (by decide)
  have r0 := r.keep (S2 := (upd S.1 0 (nI 0), S.2)) (Ony.refl.put (by decide))
  have g0 : Out h h0 M (M + 23) := Out.upd u0 (by omega) (by omega)
  generalize (upd S.1 0 (nI 0), S.2) = S0 at x0 r0
  refine R_aload_n dX10_phrase_5 rfl ?_
  refine R_iload_n dX10_phrase_6 rfl ?_
  refine R_iconst (v := nI 1) dX10_phrase_7 (by decide) ?_
  refine R_bipush (v := nI 20) dX10_phrase_8 (by decide) ?_
  -- X10_phrase: ('call', 10, '.invokevirtual', 217)
  refine R_callV v_X10_takes (Md_takes x0 r0.2.2.2.1 hn (lo := 1) (hi := 20) (by decide) (by decide)) dX10_phrase_10 l_RX10_217 rfl rfl x0.1 (Nat.le_of_ble_eq_true rfl) (by omega) rfl rfl (fun v h2 hq => ?_)
  obtain ⟨g2, S2, x2, o2, e13, ⟨z1, -⟩ | ⟨-, -, i2, hi2, -⟩ | ⟨-, -, z3, rfl, e14, e15⟩⟩ := hq
  · exact absurd ⟨hb1, hb2⟩ z1
  · rw [hw] at hi2; cases hi2
  · have r2 := r0.taken o2 e13
    rw [e14, e15] at r2
    have tb : ∀ k, k < n → ∃ c, isLow c ∧ S2.2 10 k = nI c ∧ (tlets tp n)[k]? = some (c - 97) := by
      intro k hk
      obtain ⟨c, -, k1, k2, k3⟩ := low_num r0.2.2.2.1 hn hw hk
      exact ⟨c, k1, by rw [o2.1 10 (by decide)]; exact k2, k3⟩
    have loop : ∀ m t h5 S5, t + m = n → MdAt E h5 M S5 → Ony [11] [] S2 S5 → (∀ k, k < t → ∃ c, (tlets tp n)[k]? = some c ∧ S5.2 11 k = nI c) → Out h h5 M (M + 23) → WP E k_X10_phrase 66 0 0 22 [some (.ref M), some (.int (nI n)), some (.int (nI 0)), some (.int (nI t))] [] h5 (fun v h' => v = some (.int (nI (hitsS (tlets tp n) (letL q.2 q.1)))) ∧ MMAt E h' M q ds im md [] (tlets tp n) (nI 0) (-1) ∧ Out h h' M (M + 23)) := by
      intro m
      induction m with
      | zero =>
        intro t h5 S5 ht x5 o5 let5 g5
        obtain rfl : t = n := by omega
        refine R_iload_n dX10_phrase_22 rfl ?_
        refine R_iload_n dX10_phrase_23 rfl ?_
        refine R_icmp_ge_N (tgt := 48) dX10_phrase_24 (by decide) (by omega) (by omega) (fun c24 => ?_) (fun c24 => ?_)
        -- X10_phrase: ('branch', 24, 48, 27)
        · refine R_aload_n dX10_phrase_48 rfl ?_
          refine R_iload_n dX10_phrase_49 rfl ?_
          refine R_put_A K_10 (f := 16) (by decide) dX10_phrase_50 f_RX10_221 rfl x5.1 (by rfl) (by rfl) (Nat.le_of_ble_eq_true rfl) ?_
          -- X10_phrase: ('put', 53)
          intro h6 u6
          have x6 := x5.put u6 (by decide)
          have r6 : MRel (upd S5.1 16 (nI t), S5.2) q ds im md [] (tlets tp t) (nI 0) (-1) := by
            obtain ⟨ra, rb, rc, rd, re, rf, rg⟩ := r2
            refine ⟨by show curF (S5.2 1) q; rw [o5.1 1 (by decide)]; exact ra, rb.keep (o5.2 5 (by decide)) (o5.1 2 (by decide)), rc.keep (o5.1 5 (by decide)) (fun k _ => by show S5.2 1 k = _; rw [o5.1 1 (by decide)]), rd.keep (o5.2 13 (by decide)) (o5.1 10 (by decide)), ⟨by show nI t = _; rw [tlets_len hn], by rw [tlets_len hn]; omega, fun i y hy => ?_⟩, (o5.2 14 (by decide)).trans rf, (o5.2 15 (by decide)).trans rg⟩
            have hi := (List.getElem?_eq_some_iff.mp hy).1
            rw [tlets_len hn] at hi
            obtain ⟨c, k1, k2⟩ := let5 i hi
            rw [hy] at k1
            cases k1
            exact ⟨k2, tlets_lt hw hn y (List.mem_of_getElem? hy)⟩
          refine R_aload_n dX10_phrase_53 rfl ?_
          -- X10_phrase: ('call', 54, '.invokevirtual', 224)
          refine R_callV v_X10_laysText (Md_laysText hq x6 r6.1) dX10_phrase_54 l_RX10_224 rfl rfl x6.1 (Nat.le_of_ble_eq_true rfl) (by omega) rfl rfl (fun v h7 hq => ?_)
          obtain ⟨rfl, g7, S7, x7, o7, t7⟩ := hq
          have r7 := r6.keep (o7.mono (by decide) (by decide))
          refine R_aload_n dX10_phrase_57 rfl ?_
          -- X10_phrase: ('call', 58, '.invokevirtual', 227)
          refine R_callV v_X10_hitsIn (Md_hitsIn x7 t7 r7.2.2.2.2.1 hlen letL_lt) dX10_phrase_58 l_RX10_227 rfl rfl x7.1 (Nat.le_of_ble_eq_true rfl) (by omega) rfl rfl (fun v h8 hq => ?_)
          obtain ⟨rfl, e9⟩ := hq
          rw [e9]
          refine R_ireturn dX10_phrase_61 rfl rfl ?_
          -- X10_phrase: ('ret', 61)
          exact ⟨rfl, ⟨S7, x7, r7⟩, (g5.trans (Out.upd u6 (by omega) (by omega))).trans g7⟩
        · exact absurd c24 (by omega)
      | succ m ih =>
        intro t h5 S5 ht x5 o5 let5 g5
        obtain ⟨c, k1, k2, k3⟩ := tb t (by omega)
        have k2' : S5.2 10 t = nI c := by rw [o5.1 10 (by decide)]; exact k2
        refine R_iload_n dX10_phrase_22 rfl ?_
        refine R_iload_n dX10_phrase_23 rfl ?_
        refine R_icmp_ge_N (tgt := 48) dX10_phrase_24 (by decide) (by omega) (by omega) (fun c24 => ?_) (fun c24 => ?_)
        -- X10_phrase: ('branch', 24, 48, 27)
        · exact absurd c24 (by omega)
        · refine R_aload_n dX10_phrase_27 rfl ?_
          refine R_get K_10 (f := 17) (by decide) dX10_phrase_28 f_RX10_49 x5.1 rfl ?_
          refine R_iload_n dX10_phrase_31 rfl ?_
          refine R_aload_n dX10_phrase_32 rfl ?_
          refine R_get K_10 (f := 12) (by decide) dX10_phrase_33 f_RX10_42 x5.1 rfl ?_
          refine R_iload_n dX10_phrase_36 rfl ?_
          refine R_baload_N dX10_phrase_37 x5.a10 (by omega) (by omega) k2' ?_
          refine R_bipush (v := nI 97) dX10_phrase_38 (by decide) ?_
          refine R_isub_N dX10_phrase_40 (by omega) ?_
          refine R_iastore_N dX10_phrase_41 x5.a11 (by omega) (by omega) ?_
          -- X10_phrase: ('put', 42)
          intro h6 u6
          have x6 := x5.s11 u6
          refine R_iinc3 dX10_phrase_42 (by decide) (nI_inc _ 1) ?_
          refine R_goto (tgt := 22) dX10_phrase_45 (by decide) ?_
          -- X10_phrase: ('stop', 22)
          refine ih (t + 1) h6 _ (by omega) x6 (o5.st (by decide)) (fun k hk => ?_) (g5.trans (Out.upd u6 (by omega) (by omega)))
          show ∃ c2, _ ∧ upd (S5.2 11) t (nI (c - 97)) k = nI c2
          by_cases e : k = t
          · rw [e, upd_at]; exact ⟨_, k3, rfl⟩
          · rw [upd_ne e]; exact let5 k (by omega)
    refine R_istore2 dX10_phrase_13 (by decide) ?_
    refine R_iload_n dX10_phrase_14 rfl ?_
    refine R_if_eq_N (tgt := 20) dX10_phrase_15 (by decide) (by omega) (fun c15 => ?_) (fun c15 => ?_)
    -- X10_phrase: ('branch', 15, 20, 18)
    · refine R_iconst (v := nI 0) dX10_phrase_20 (by decide) ?_
      refine R_istore3 dX10_phrase_21 (by decide) ?_
      -- X10_phrase: ('stop', 22)
      exact loop n 0 h2 S2 (by omega) x2 Ony.refl (fun k hk => absurd hk (by omega)) (g0.trans g2)
    · exact absurd rfl c15
theorem MP_undo_no (y : MMAt E h M q ds im md tp ph fk fp) {n : Int32} (hn : n < nI 1 ∨ nI ds.length < n) : Spec E k_X10_undo 2 0 0 [.ref M, .int n] h (fun v h' => v = some (.int (-3)) ∧ MMAt E h' M q ds im md tp ph fk fp ∧ Out h h' M (M + 23)) := by
  obtain ⟨S, x, r⟩ := y
  refine Spec.of (by decide +kernel) (by simp [Value.category]) (Nat.le_of_ble_eq_true rfl) ?_
  show WP E k_X10_undo 2 0 0 0 [some (.ref M), some (.int n)] [] h _
  refine R_aload_n dX10_undo_0 rfl ?_
  refine R_iconst (v := nI 0) dX10_undo_1 (by decide) ?_
  refine R_put_A K_10 (f := 0) (by decide) dX10_undo_2 f_RX10_1 rfl x.1 (by rfl) (by rfl) (Nat.le_of_ble_eq_true rfl) ?_
  intro h0 u0
  have x0 := x.put u0 (by decide)
  have r0 := r.keep (S2 := (upd S.1 0 (nI 0), S.2)) (Ony.refl.put (by decide))
  have g0 : Out h h0 M (M + 23) := Out.upd u0 (by omega) (by omega)
  generalize (upd S.1 0 (nI 0), S.2) = S0 at x0 r0
  have r5 := r0.2.1
  refine R_iload_n dX10_undo_5 rfl ?_
  refine R_i2l dX10_undo_6 ?_
  refine R_lconst (v := 1) dX10_undo_7 rfl ?_
  refine R_ldc2 dX10_undo_8 cl_RX10_276 ?_
  -- X10_undo: ('call', 11, '.invokestatic', 98)
  refine R_callS s_X10_isIn (Md_isIn n (nI 1) (nI 10) (by decide) (by decide)) dX10_undo_11 l_RX10_98 rfl rfl (Nat.le_of_ble_eq_true rfl) (by omega) rfl rfl (fun v h2 hq => ?_)
  obtain ⟨rfl, e9⟩ := hq
  rw [e9]
  by_cases c : nI 1 ≤ n ∧ n ≤ nI 10
  · rw [if_pos c]
    refine R_if_eq_N (tgt := 25) dX10_undo_14 (by decide) (by omega) (fun c14 => ?_) (fun c14 => ?_)
    -- X10_undo: ('branch', 14, 25, 17)
    · exact absurd c14 (by decide)
    · refine R_iload_n dX10_undo_17 rfl ?_
      refine R_aload_n dX10_undo_18 rfl ?_
      refine R_get K_10 (f := 5) (by decide) dX10_undo_19 f_RX10_85 x0.1 (fld_get (k := 5) (by decide) r5.1) ?_
      refine R_icmp_le (tgt := 28) dX10_undo_22 (by decide) (fun c22 => ?_) (fun c22 => ?_)
      -- X10_undo: ('branch', 22, 28, 25)
      · rcases hn with z | z
        · exact absurd z (Int32.not_lt.mpr c.1)
        · exact absurd c22 (Int32.not_le.mpr z)
      · refine R_bipush (v := (-3)) dX10_undo_25 (by decide) ?_
        refine R_ireturn dX10_undo_27 rfl rfl ?_
        -- X10_undo: ('ret', 27)
        exact ⟨rfl, ⟨S0, x0, r0⟩, g0⟩
  · rw [if_neg c]
    refine R_if_eq_N (tgt := 25) dX10_undo_14 (by decide) (by omega) (fun c14 => ?_) (fun c14 => ?_)
    -- X10_undo: ('branch', 14, 25, 17)
    · refine R_bipush (v := (-3)) dX10_undo_25 (by decide) ?_
      refine R_ireturn dX10_undo_27 rfl rfl ?_
      -- X10_undo: ('ret', 27)
      exact ⟨rfl, ⟨S0, x0, r0⟩, g0⟩
    · exact absurd rfl c14
theorem MP_undo (y : MMAt E h M q ds im md tp ph fk fp) {n : Nat} (hn : 1 ≤ n) (hnl : n ≤ ds.length) {p : Pk} (hp : ds[ds.length - n]? = some p) : Spec E k_X10_undo 2 0 0 [.ref M, .int (nI n)] h (fun v h' => v = some (.int (nI (ds.length - n))) ∧ MMAt E h' M p (ds.take (ds.length - n)) im md tp ph fk fp ∧ Out h h' M (M + 23)) := by
  obtain ⟨S, x, r⟩ := y
  refine Spec.of (by decide +kernel) (by simp [Value.category]) (Nat.le_of_ble_eq_true rfl) ?_
  show WP E k_X10_undo 2 0 0 0 [some (.ref M), some (.int (nI n))] [] h _
  refine R_aload_n dX10_undo_0 rfl ?_
  refine R_iconst (v := nI 0) dX10_undo_1 (by decide) ?_
  refine R_put_A K_10 (f := 0) (by decide) dX10_undo_2 f_RX10_1 rfl x.1 (by rfl) (by rfl) (Nat.le_of_ble_eq_true rfl) ?_
  intro h0 u0
  have x0 := x.put u0 (by decide)
  have r0 := r.keep (S2 := (upd S.1 0 (nI 0), S.2)) (Ony.refl.put (by decide))
  have g0 : Out h h0 M (M + 23) := Out.upd u0 (by omega) (by omega)
  generalize (upd S.1 0 (nI 0), S.2) = S0 at x0 r0
  obtain ⟨ra, ⟨d1, d2, d3⟩, rc, rd, re, rf, rg⟩ := r0
  refine R_iload_n dX10_undo_5 rfl ?_
  refine R_i2l dX10_undo_6 ?_
  refine R_lconst (v := 1) dX10_undo_7 rfl ?_
  refine R_ldc2 dX10_undo_8 cl_RX10_276 ?_
  -- X10_undo: ('call', 11, '.invokestatic', 98)
  refine R_callS s_X10_isIn (Md_isIn (nI n) (nI 1) (nI 10) (by decide) (by decide)) dX10_undo_11 l_RX10_98 rfl rfl (Nat.le_of_ble_eq_true rfl) (by omega) rfl rfl (fun v h2 hq => ?_)
  obtain ⟨rfl, e9⟩ := hq
  rw [e9, if_pos ((in_iff (by decide) (by decide) (by omega)).mpr ⟨hn, by omega⟩)]
  refine R_if_eq_N (tgt := 25) dX10_undo_14 (by decide) (by omega) (fun c14 => ?_) (fun c14 => ?_)
  -- X10_undo: ('branch', 14, 25, 17)
  · exact absurd c14 (by decide)
  · refine R_iload_n dX10_undo_17 rfl ?_
    refine R_aload_n dX10_undo_18 rfl ?_
    refine R_get K_10 (f := 5) (by decide) dX10_undo_19 f_RX10_85 x0.1 (fld_get (k := 5) (by decide) d1) ?_
    refine R_icmp_le_N (tgt := 28) dX10_undo_22 (by decide) (by omega) (by omega) (fun c22 => ?_) (fun c22 => ?_)
    -- X10_undo: ('branch', 22, 28, 25)
    · refine R_aload_n dX10_undo_28 rfl ?_
      refine R_dup dX10_undo_29 rfl ?_
      refine R_get K_10 (f := 5) (by decide) dX10_undo_30 f_RX10_85 x0.1 (fld_get (k := 5) (by decide) d1) ?_
      refine R_iload_n dX10_undo_33 rfl ?_
      refine R_isub_N dX10_undo_34 (by omega) ?_
      refine R_put_A K_10 (f := 5) (by decide) dX10_undo_35 f_RX10_85 rfl x0.1 (by rfl) (by rfl) (Nat.le_of_ble_eq_true rfl) ?_
      -- X10_undo: ('put', 38)
      intro h3 u3
      have x3 := x0.put u3 (by decide)
      have e5 : (upd S0.1 5 (nI (ds.length - n))) 5 = nI (ds.length - n) := upd_at
      refine R_aload_n dX10_undo_38 rfl ?_
      refine R_get K_10 (f := 2) (by decide) dX10_undo_39 f_RX10_17 x3.1 rfl ?_
      refine R_sipush (v := nI 1021) dX10_undo_42 (by decide) ?_
      refine R_aload_n dX10_undo_45 rfl ?_
      refine R_get K_10 (f := 5) (by decide) dX10_undo_46 f_RX10_85 x3.1 (fld_get (k := 5) (by decide) e5) ?_
      refine R_imul_N dX10_undo_49 ?_
      refine R_aload_n dX10_undo_50 rfl ?_
      refine R_get K_10 (f := 1) (by decide) dX10_undo_51 f_RX10_13 x3.1 rfl ?_
      refine R_iconst (v := nI 0) dX10_undo_54 (by decide) ?_
      refine R_sipush (v := nI 1021) dX10_undo_55 (by decide) ?_
      -- X10_undo: ('call', 58, '.invokestatic', 88)
      refine R_callS s_X10_copies (Md_copies (sp := 1021 * (ds.length - n)) (dp := 0) (n := 1021) x3.a2 x3.a1 (by omega) (by omega) (by omega) (by decide) (by decide)) dX10_undo_58 l_RX10_88 rfl rfl (Nat.le_of_ble_eq_true rfl) (by omega) rfl rfl (fun v h4 hq => ?_)
      obtain ⟨rfl, u4⟩ := hq
      have x4 := x3.s1 u4
      have hlt : (ds.take (ds.length - n)).length = ds.length - n := by rw [List.length_take]; omega
      refine R_aload_n dX10_undo_61 rfl ?_
      refine R_get K_10 (f := 5) (by decide) dX10_undo_62 f_RX10_85 x4.1 (fld_get (k := 5) (by decide) e5) ?_
      refine R_ireturn dX10_undo_65 rfl rfl ?_
      -- X10_undo: ('ret', 65)
      refine ⟨rfl, ⟨_, x4, ?_, ⟨?_, by omega, fun j z hz => ?_⟩, rc.keep rfl (fun k hk => ?_), rd, re, rf, rg⟩, (g0.trans (Out.upd u3 (by omega) (by omega))).trans (Out.upd u4 (by omega) (by omega))⟩
      · show recF (va_cpy (S0.2 2) (S0.2 1) (1021 * (ds.length - n)) 0 1021) 0 p
        refine (d3 _ _ hp).copy (fun k hk => ?_)
        rw [pk_cpy_in (by omega) (by omega)]
        exact congrArg (S0.2 2) (by omega)
      · show nI (ds.length - n) = _
        rw [hlt]
      · have hj := (List.getElem?_eq_some_iff.mp hz).1
        rw [hlt] at hj
        rw [List.getElem?_take_of_lt hj] at hz
        exact d3 j z hz
      · show va_cpy (S0.2 2) (S0.2 1) (1021 * (ds.length - n)) 0 1021 k = S0.2 1 k
        exact pk_cpy_out (by omega)
    · exact absurd c22 (by omega)
theorem MP_image_no (y : MMAt E h M q ds im md tp ph fk fp) {i : Int32} (hn : ¬ (nI 0 ≤ i ∧ i ≤ nI 1)) : Spec E k_X10_image 2 0 0 [.ref M, .int i] h (fun v h' => v = some (.int (-2)) ∧ MMAt E h' M q ds im md tp ph fk fp ∧ Out h h' M (M + 23)) := by
  obtain ⟨S, x, r⟩ := y
  refine Spec.of (by decide +kernel) (by simp [Value.category]) (Nat.le_of_ble_eq_true rfl) ?_
  show WP E k_X10_image 2 0 0 0 [some (.ref M), some (.int i)] [] h _
  refine R_aload_n dX10_image_0 rfl ?_
  refine R_iconst (v := nI 0) dX10_image_1 (by decide) ?_
  refine R_put_A K_10 (f := 0) (by decide) dX10_image_2 f_RX10_1 rfl x.1 (by rfl) (by rfl) (Nat.le_of_ble_eq_true rfl) ?_
  intro h0 u0
  have x0 := x.put u0 (by decide)
  have r0 := r.keep (S2 := (upd S.1 0 (nI 0), S.2)) (Ony.refl.put (by decide))
  have g0 : Out h h0 M (M + 23) := Out.upd u0 (by omega) (by omega)
  generalize (upd S.1 0 (nI 0), S.2) = S0 at x0 r0
  refine R_iload_n dX10_image_5 rfl ?_
  refine R_i2l dX10_image_6 ?_
  refine R_lconst (v := 0) dX10_image_7 rfl ?_
  refine R_lconst (v := 1) dX10_image_8 rfl ?_
  -- X10_image: ('call', 9, '.invokestatic', 98)
  refine R_callS s_X10_isIn (Md_isIn i (nI 0) (nI 1) (by decide) (by decide)) dX10_image_9 l_RX10_98 rfl rfl (Nat.le_of_ble_eq_true rfl) (by omega) rfl rfl (fun v h2 hq => ?_)
  obtain ⟨rfl, e9⟩ := hq
  rw [e9, if_neg hn]
  refine R_if_ne_N (tgt := 18) dX10_image_12 (by decide) (by omega) (fun c12 => ?_) (fun c12 => ?_)
  -- X10_image: ('branch', 12, 18, 15)
  · exact absurd rfl c12
  · refine R_bipush (v := (-2)) dX10_image_15 (by decide) ?_
    refine R_ireturn dX10_image_17 rfl rfl ?_
    -- X10_image: ('ret', 17)
    exact ⟨rfl, ⟨S0, x0, r0⟩, g0⟩
theorem MP_image (y : MMAt E h M q ds im md tp ph fk fp) {i : Nat} (hi : i < 2) : Spec E k_X10_image 2 0 0 [.ref M, .int (nI i)] h (fun v h' => v = some (.int (nI 0)) ∧ MMAt E h' M q ds (fun j => if j = i then q else im j) (fun j => if j = i then 1 else md j) tp ph fk fp ∧ Out h h' M (M + 23)) := by
  obtain ⟨S, x, r⟩ := y
  refine Spec.of (by decide +kernel) (by simp [Value.category]) (Nat.le_of_ble_eq_true rfl) ?_
  show WP E k_X10_image 2 0 0 0 [some (.ref M), some (.int (nI i))] [] h _
  refine R_aload_n dX10_image_0 rfl ?_
  refine R_iconst (v := nI 0) dX10_image_1 (by decide) ?_
  refine R_put_A K_10 (f := 0) (by decide) dX10_image_2 f_RX10_1 rfl x.1 (by rfl) (by rfl) (Nat.le_of_ble_eq_true rfl) ?_
  intro h0 u0
  have x0 := x.put u0 (by decide)
  have r0 := r.keep (S2 := (upd S.1 0 (nI 0), S.2)) (Ony.refl.put (by decide))
  have g0 : Out h h0 M (M + 23) := Out.upd u0 (by omega) (by omega)
  generalize (upd S.1 0 (nI 0), S.2) = S0 at x0 r0
  obtain ⟨ra, rb, rc, rd, re, rf, rg⟩ := r0
  refine R_iload_n dX10_image_5 rfl ?_
  refine R_i2l dX10_image_6 ?_
  refine R_lconst (v := 0) dX10_image_7 rfl ?_
  refine R_lconst (v := 1) dX10_image_8 rfl ?_
  -- X10_image: ('call', 9, '.invokestatic', 98)
  refine R_callS s_X10_isIn (Md_isIn (nI i) (nI 0) (nI 1) (by decide) (by decide)) dX10_image_9 l_RX10_98 rfl rfl (Nat.le_of_ble_eq_true rfl) (by omega) rfl rfl (fun v h2 hq => ?_)
  obtain ⟨rfl, e9⟩ := hq
  rw [e9, if_pos ((in_iff (by decide) (by decide) (by omega)).mpr ⟨by omega, by omega⟩)]
  refine R_if_ne_N (tgt := 18) dX10_image_12 (by decide) (by omega) (fun c12 => ?_) (fun c12 => ?_)
  -- X10_image: ('branch', 12, 18, 15)
  · refine R_aload_n dX10_image_18 rfl ?_
    refine R_get K_10 (f := 1) (by decide) dX10_image_19 f_RX10_13 x0.1 rfl ?_
    refine R_iconst (v := nI 0) dX10_image_22 (by decide) ?_
    refine R_aload_n dX10_image_23 rfl ?_
    refine R_get K_10 (f := 1) (by decide) dX10_image_24 f_RX10_13 x0.1 rfl ?_
    refine R_sipush (v := nI 1021) dX10_image_27 (by decide) ?_
    refine R_iload_n dX10_image_30 rfl ?_
    refine R_iconst (v := nI 1) dX10_image_31 (by decide) ?_
    refine R_iadd_N dX10_image_32 ?_
    refine R_imul_N dX10_image_33 ?_
    refine R_sipush (v := nI 1021) dX10_image_34 (by decide) ?_
    -- X10_image: ('call', 37, '.invokestatic', 88)
    refine R_callS s_X10_copies (Md_copiesIn (sp := 0) (dp := 1021 * (i + 1)) (n := 1021) x0.a1 (by omega) (by omega) (by omega) (by decide)) dX10_image_37 l_RX10_88 rfl rfl (Nat.le_of_ble_eq_true rfl) (by omega) rfl rfl (fun v h4 hq => ?_)
    obtain ⟨rfl, u4⟩ := hq
    have x4 := x0.s1 u4
    refine R_aload_n dX10_image_40 rfl ?_
    refine R_get K_10 (f := 6) (by decide) dX10_image_41 f_RX10_26 x4.1 rfl ?_
    refine R_iload_n dX10_image_44 rfl ?_
    refine R_iconst (v := nI 1) dX10_image_45 (by decide) ?_
    refine R_zastore_N dX10_image_46 x4.a5 (by omega) (by omega) (by omega) ?_
    -- X10_image: ('put', 47)
    intro h5 u5
    have x5 := x4.s5 u5
    refine R_iconst (v := nI 0) dX10_image_47 (by decide) ?_
    refine R_ireturn dX10_image_48 rfl rfl ?_
    -- X10_image: ('ret', 48)
    refine ⟨rfl, ⟨_, x5, ?_, rb, fun j hj => ?_, rd, re, rf, rg⟩, (g0.trans (Out.upd u4 (by omega) (by omega))).trans (Out.upd u5 (by omega) (by omega))⟩
    · show recF (va_cpy (S0.2 1) (S0.2 1) 0 (1021 * (i + 1)) 1021) 0 q
      exact ra.same (fun k hk => pk_cpy_out (by omega))
    · show upd (S0.2 5) i (nI 1) j = _ ∧ _ ∧ (_ → recF (va_cpy (S0.2 1) (S0.2 1) 0 (1021 * (i + 1)) 1021) (1021 * (j + 1)) _)
      by_cases e : j = i
      · subst e
        rw [upd_at]
        simp only [if_true]
        refine ⟨trivial, by decide, fun _ => ra.copy (fun k hk => ?_)⟩
        rw [pk_cpy_in (by omega) (by omega)]
        exact congrArg (S0.2 1) (by omega)
      · rw [upd_ne e]
        simp only [if_neg e]
        refine ⟨(rc j hj).1, (rc j hj).2.1, fun hm => ((rc j hj).2.2 hm).same (fun k hk => pk_cpy_out ?_)⟩
        rcases (show j = 0 ∧ i = 1 ∨ j = 1 ∧ i = 0 by omega) with ⟨rfl, rfl⟩ | ⟨rfl, rfl⟩ <;> omega
  · exact absurd c12 (by decide)
theorem MP_restore_no1 (y : MMAt E h M q ds im md tp ph fk fp) {i : Int32} (hn : ¬ (nI 0 ≤ i ∧ i ≤ nI 1)) : Spec E k_X10_restore 2 0 0 [.ref M, .int i] h (fun v h' => v = some (.int (-2)) ∧ MMAt E h' M q ds im md tp ph fk fp ∧ Out h h' M (M + 23)) := by
  obtain ⟨S, x, r⟩ := y
  refine Spec.of (by decide +kernel) (by simp [Value.category]) (Nat.le_of_ble_eq_true rfl) ?_
  show WP E k_X10_restore 2 0 0 0 [some (.ref M), some (.int i)] [] h _
  refine R_aload_n dX10_restore_0 rfl ?_
  refine R_iconst (v := nI 0) dX10_restore_1 (by decide) ?_
  refine R_put_A K_10 (f := 0) (by decide) dX10_restore_2 f_RX10_1 rfl x.1 (by rfl) (by rfl) (Nat.le_of_ble_eq_true rfl) ?_
  intro h0 u0
  have x0 := x.put u0 (by decide)
  have r0 := r.keep (S2 := (upd S.1 0 (nI 0), S.2)) (Ony.refl.put (by decide))
  have g0 : Out h h0 M (M + 23) := Out.upd u0 (by omega) (by omega)
  generalize (upd S.1 0 (nI 0), S.2) = S0 at x0 r0
  refine R_iload_n dX10_restore_5 rfl ?_
  refine R_i2l dX10_restore_6 ?_
  refine R_lconst (v := 0) dX10_restore_7 rfl ?_
  refine R_lconst (v := 1) dX10_restore_8 rfl ?_
  -- X10_restore: ('call', 9, '.invokestatic', 98)
  refine R_callS s_X10_isIn (Md_isIn i (nI 0) (nI 1) (by decide) (by decide)) dX10_restore_9 l_RX10_98 rfl rfl (Nat.le_of_ble_eq_true rfl) (by omega) rfl rfl (fun v h2 hq => ?_)
  obtain ⟨rfl, e9⟩ := hq
  rw [e9, if_neg hn]
  refine R_if_ne_N (tgt := 18) dX10_restore_12 (by decide) (by omega) (fun c12 => ?_) (fun c12 => ?_)
  -- X10_restore: ('branch', 12, 18, 15)
  · exact absurd rfl c12
  · refine R_bipush (v := (-2)) dX10_restore_15 (by decide) ?_
    refine R_ireturn dX10_restore_17 rfl rfl ?_
    -- X10_restore: ('ret', 17)
    exact ⟨rfl, ⟨S0, x0, r0⟩, g0⟩
theorem MP_restore_no2 (y : MMAt E h M q ds im md tp ph fk fp) {i : Nat} (hi : i < 2) (hm : md i = 0) : Spec E k_X10_restore 2 0 0 [.ref M, .int (nI i)] h (fun v h' => v = some (.int (-6)) ∧ MMAt E h' M q ds im md tp ph fk fp ∧ Out h h' M (M + 23)) := by
  obtain ⟨S, x, r⟩ := y
  refine Spec.of (by decide +kernel) (by simp [Value.category]) (Nat.le_of_ble_eq_true rfl) ?_
  show WP E k_X10_restore 2 0 0 0 [some (.ref M), some (.int (nI i))] [] h _
  refine R_aload_n dX10_restore_0 rfl ?_
  refine R_iconst (v := nI 0) dX10_restore_1 (by decide) ?_
  refine R_put_A K_10 (f := 0) (by decide) dX10_restore_2 f_RX10_1 rfl x.1 (by rfl) (by rfl) (Nat.le_of_ble_eq_true rfl) ?_
  intro h0 u0
  have x0 := x.put u0 (by decide)
  have r0 := r.keep (S2 := (upd S.1 0 (nI 0), S.2)) (Ony.refl.put (by decide))
  have g0 : Out h h0 M (M + 23) := Out.upd u0 (by omega) (by omega)
  generalize (upd S.1 0 (nI 0), S.2) = S0 at x0 r0
  have rc := (r0.2.2.1 i hi).1
  rw [hm] at rc
  refine R_iload_n dX10_restore_5 rfl ?_
  refine R_i2l dX10_restore_6 ?_
  refine R_lconst (v := 0) dX10_restore_7 rfl ?_
  refine R_lconst (v := 1) dX10_restore_8 rfl ?_
  -- X10_restore: ('call', 9, '.invokestatic', 98)
  refine R_callS s_X10_isIn (Md_isIn (nI i) (nI 0) (nI 1) (by decide) (by decide)) dX10_restore_9 l_RX10_98 rfl rfl (Nat.le_of_ble_eq_true rfl) (by omega) rfl rfl (fun v h2 hq => ?_)
  obtain ⟨rfl, e9⟩ := hq
  rw [e9, if_pos ((in_iff (by decide) (by decide) (by omega)).mpr ⟨by omega, by omega⟩)]
  refine R_if_ne_N (tgt := 18) dX10_restore_12 (by decide) (by omega) (fun c12 => ?_) (fun c12 => ?_)
  -- X10_restore: ('branch', 12, 18, 15)
  · refine R_aload_n dX10_restore_18 rfl ?_
    refine R_get K_10 (f := 6) (by decide) dX10_restore_19 f_RX10_26 x0.1 rfl ?_
    refine R_iload_n dX10_restore_22 rfl ?_
    refine R_zaload_N dX10_restore_23 x0.a5 (by omega) (by omega) rc ?_
    refine R_if_ne_N (tgt := 30) dX10_restore_24 (by decide) (by omega) (fun c24 => ?_) (fun c24 => ?_)
    -- X10_restore: ('branch', 24, 30, 27)
    · exact absurd rfl c24
    · refine R_bipush (v := (-6)) dX10_restore_27 (by decide) ?_
      refine R_ireturn dX10_restore_29 rfl rfl ?_
      -- X10_restore: ('ret', 29)
      exact ⟨rfl, ⟨S0, x0, r0⟩, g0⟩
  · exact absurd c12 (by decide)
theorem MP_restore (y : MMAt E h M q ds im md tp ph fk fp) {i : Nat} (hi : i < 2) (hm : md i = 1) : Spec E k_X10_restore 2 0 0 [.ref M, .int (nI i)] h (fun v h' => v = some (.int (nI 0)) ∧ MMAt E h' M (im i) [] im md tp ph fk fp ∧ Out h h' M (M + 23)) := by
  obtain ⟨S, x, r⟩ := y
  refine Spec.of (by decide +kernel) (by simp [Value.category]) (Nat.le_of_ble_eq_true rfl) ?_
  show WP E k_X10_restore 2 0 0 0 [some (.ref M), some (.int (nI i))] [] h _
  refine R_aload_n dX10_restore_0 rfl ?_
  refine R_iconst (v := nI 0) dX10_restore_1 (by decide) ?_
  refine R_put_A K_10 (f := 0) (by decide) dX10_restore_2 f_RX10_1 rfl x.1 (by rfl) (by rfl) (Nat.le_of_ble_eq_true rfl) ?_
  intro h0 u0
  have x0 := x.put u0 (by decide)
  have r0 := r.keep (S2 := (upd S.1 0 (nI 0), S.2)) (Ony.refl.put (by decide))
  have g0 : Out h h0 M (M + 23) := Out.upd u0 (by omega) (by omega)
  generalize (upd S.1 0 (nI 0), S.2) = S0 at x0 r0
  obtain ⟨ra, rb, rc, rd, re, rf, rg⟩ := r0
  have rci := (rc i hi).1
  rw [hm] at rci
  refine R_iload_n dX10_restore_5 rfl ?_
  refine R_i2l dX10_restore_6 ?_
  refine R_lconst (v := 0) dX10_restore_7 rfl ?_
  refine R_lconst (v := 1) dX10_restore_8 rfl ?_
  -- X10_restore: ('call', 9, '.invokestatic', 98)
  refine R_callS s_X10_isIn (Md_isIn (nI i) (nI 0) (nI 1) (by decide) (by decide)) dX10_restore_9 l_RX10_98 rfl rfl (Nat.le_of_ble_eq_true rfl) (by omega) rfl rfl (fun v h2 hq => ?_)
  obtain ⟨rfl, e9⟩ := hq
  rw [e9, if_pos ((in_iff (by decide) (by decide) (by omega)).mpr ⟨by omega, by omega⟩)]
  refine R_if_ne_N (tgt := 18) dX10_restore_12 (by decide) (by omega) (fun c12 => ?_) (fun c12 => ?_)
  -- X10_restore: ('branch', 12, 18, 15)
  · refine R_aload_n dX10_restore_18 rfl ?_
    refine R_get K_10 (f := 6) (by decide) dX10_restore_19 f_RX10_26 x0.1 rfl ?_
    refine R_iload_n dX10_restore_22 rfl ?_
    refine R_zaload_N dX10_restore_23 x0.a5 (by omega) (by omega) rci ?_
    refine R_if_ne_N (tgt := 30) dX10_restore_24 (by decide) (by omega) (fun c24 => ?_) (fun c24 => ?_)
    -- X10_restore: ('branch', 24, 30, 27)
    · refine R_aload_n dX10_restore_30 rfl ?_
      refine R_get K_10 (f := 1) (by decide) dX10_restore_31 f_RX10_13 x0.1 rfl ?_
      refine R_sipush (v := nI 1021) dX10_restore_34 (by decide) ?_
      refine R_iload_n dX10_restore_37 rfl ?_
      refine R_iconst (v := nI 1) dX10_restore_38 (by decide) ?_
      refine R_iadd_N dX10_restore_39 ?_
      refine R_imul_N dX10_restore_40 ?_
      refine R_aload_n dX10_restore_41 rfl ?_
      refine R_get K_10 (f := 1) (by decide) dX10_restore_42 f_RX10_13 x0.1 rfl ?_
      refine R_iconst (v := nI 0) dX10_restore_45 (by decide) ?_
      refine R_sipush (v := nI 1021) dX10_restore_46 (by decide) ?_
      -- X10_restore: ('call', 49, '.invokestatic', 88)
      refine R_callS s_X10_copies (Md_copiesIn (sp := 1021 * (i + 1)) (dp := 0) (n := 1021) x0.a1 (by omega) (by omega) (by omega) (by decide)) dX10_restore_49 l_RX10_88 rfl rfl (Nat.le_of_ble_eq_true rfl) (by omega) rfl rfl (fun v h4 hq => ?_)
      obtain ⟨rfl, u4⟩ := hq
      have x4 := x0.s1 u4
      refine R_aload_n dX10_restore_52 rfl ?_
      refine R_iconst (v := nI 0) dX10_restore_53 (by decide) ?_
      refine R_put_A K_10 (f := 5) (by decide) dX10_restore_54 f_RX10_85 rfl x4.1 (by rfl) (by rfl) (Nat.le_of_ble_eq_true rfl) ?_
      -- X10_restore: ('put', 57)
      intro h5 u5
      have x5 := x4.put u5 (by decide)
      refine R_iconst (v := nI 0) dX10_restore_57 (by decide) ?_
      refine R_ireturn dX10_restore_58 rfl rfl ?_
      -- X10_restore: ('ret', 58)
      refine ⟨rfl, ⟨_, x5, ?_, ⟨rfl, by decide, fun j z hz => by simp at hz⟩, rc.keep rfl (fun k hk => ?_), rd, re, rf, rg⟩, (g0.trans (Out.upd u4 (by omega) (by omega))).trans (Out.upd u5 (by omega) (by omega))⟩
      · show recF (va_cpy (S0.2 1) (S0.2 1) (1021 * (i + 1)) 0 1021) 0 (im i)
        refine ((rc i hi).2.2 hm).copy (fun k hk => ?_)
        rw [pk_cpy_in (by omega) (by omega)]
        exact congrArg (S0.2 1) (by omega)
      · show va_cpy (S0.2 1) (S0.2 1) (1021 * (i + 1)) 0 1021 k = S0.2 1 k
        exact pk_cpy_out (by omega)
    · exact absurd c24 (by decide)
  · exact absurd c12 (by decide)
end MD4
