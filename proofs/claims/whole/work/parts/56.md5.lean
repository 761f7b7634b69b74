/-! THE MODEL: what it asks of sequence and rules -/
section MD5
variable {E : EnvT} {h h1 : Hp} {M : Nat} {S : MSt} {q : Pk}
theorem Md_countOf (x : MdAt E h M S) (c : curF (S.2 1) q) (h86 : ∀ y ∈ q.1, y < 86) {a b : Nat} (ha : a < 86) (hb : b < 86) : Spec E k_X10_countOf 2 0 0 [.ref M, .int (nI a), .int (nI b)] h (fun v h' => v = some (.int (nI (cntG q.1 a b))) ∧ h' = h) := by
  have hl := c.1
  have hcl : cntG q.1 a b ≤ 240 := Nat.le_trans cntG_le hl
  refine Spec.of (by decide +kernel) (by simp [Value.category]) (Nat.le_of_ble_eq_true rfl) ?_
  show WP E k_X10_countOf 2 0 0 0 [some (.ref M), some (.int (nI a)), some (.int (nI b)), none, none, none] [] h _
  have loop : ∀ m t n (z : Option Value), q.1.length ≤ t + m → t ≤ q.1.length → n + cntJ a b (q.1.drop t) = cntG q.1 a b → WP E k_X10_countOf 2 0 0 5 [some (.ref M), some (.int (nI a)), some (.int (nI b)), some (.int (nI n)), some (.int (nI t)), z] [] h (fun v h' => v = some (.int (nI (cntG q.1 a b))) ∧ h' = h) := by
    intro m
    induction m with
    | zero =>
      intro t n z ht htl hn
      obtain rfl : t = q.1.length := by omega
      rw [List.drop_length] at hn
      refine R_iload dX10_countOf_5 rfl ?_
      refine R_iconst (v := nI 1) dX10_countOf_7 (by decide) ?_
      refine R_iadd_N dX10_countOf_8 ?_
      refine R_aload_n dX10_countOf_9 rfl ?_
      -- X10_countOf: ('call', 10, '.invokevirtual', 123)
      refine R_callV v_X10_many (Md_many x c) dX10_countOf_10 l_RX10_123 rfl rfl x.1 (Nat.le_of_ble_eq_true rfl) (by omega) rfl rfl (fun v h2 hq => ?_)
      obtain ⟨rfl, e9⟩ := hq
      rw [e9]
      refine R_icmp_ge_N (tgt := 76) dX10_countOf_13 (by decide) (by omega) (by omega) (fun c13 => ?_) (fun c13 => ?_)
      -- X10_countOf: ('branch', 13, 76, 16)
      · refine R_iload_n dX10_countOf_76 rfl ?_
        refine R_ireturn dX10_countOf_77 rfl rfl ?_
        -- X10_countOf: ('ret', 77)
        exact ⟨by rw [← hn]; rfl, rfl⟩
      · exact absurd c13 (by omega)
    | succ m ih =>
      intro t n z ht htl hn
      refine R_iload dX10_countOf_5 rfl ?_
      refine R_iconst (v := nI 1) dX10_countOf_7 (by decide) ?_
      refine R_iadd_N dX10_countOf_8 ?_
      refine R_aload_n dX10_countOf_9 rfl ?_
      -- X10_countOf: ('call', 10, '.invokevirtual', 123)
      refine R_callV v_X10_many (Md_many x c) dX10_countOf_10 l_RX10_123 rfl rfl x.1 (Nat.le_of_ble_eq_true rfl) (by omega) rfl rfl (fun v h2 hq => ?_)
      obtain ⟨rfl, e9⟩ := hq
      rw [e9]
      refine R_icmp_ge_N (tgt := 76) dX10_countOf_13 (by decide) (by omega) (by omega) (fun c13 => ?_) (fun c13 => ?_)
      -- X10_countOf: ('branch', 13, 76, 16)
      · refine R_iload_n dX10_countOf_76 rfl ?_
        refine R_ireturn dX10_countOf_77 rfl rfl ?_
        -- X10_countOf: ('ret', 77)
        refine ⟨?_, rfl⟩
        have e : cntJ a b (q.1.drop t) = 0 := by
          have hlen : (q.1.drop t).length ≤ 1 := by rw [List.length_drop]; omega
          cases hd : q.1.drop t with
          | nil => rfl
          | cons y l =>
            rw [hd] at hlen
            cases l with
            | nil => rfl
            | cons z w => simp at hlen
        rw [← hn, e, Nat.add_zero]
      · obtain ⟨y, hy⟩ := getE (l := q.1) (i := t) (by omega)
        obtain ⟨w, hw⟩ := getE (l := q.1) (i := t + 1) (by omega)
        have hy86 := h86 y (List.mem_of_getElem? hy)
        have hw86 := h86 w (List.mem_of_getElem? hw)
        have hd : q.1.drop t = y :: w :: q.1.drop (t + 2) := by
          obtain ⟨l1, e1⟩ := List.getElem?_eq_some_iff.mp hy
          obtain ⟨l2, e2⟩ := List.getElem?_eq_some_iff.mp hw
          rw [List.drop_eq_getElem_cons l1, e1, List.drop_eq_getElem_cons l2, e2]
        have hd1 : q.1.drop (t + 1) = w :: q.1.drop (t + 2) := by
          obtain ⟨l2, e2⟩ := List.getElem?_eq_some_iff.mp hw
          rw [List.drop_eq_getElem_cons l2, e2]
        rw [hd, cntJ] at hn
        have yes : y = a ∧ w = b → WP E k_X10_countOf 2 0 0 43 [some (.ref M), some (.int (nI a)), some (.int (nI b)), some (.int (nI n)), some (.int (nI t)), z] [.int (nI 1)] h (fun v h' => v = some (.int (nI (cntG q.1 a b))) ∧ h' = h) := by
          intro e
          rw [if_pos e] at hn
          refine R_istore5 dX10_countOf_43 (by decide) ?_
          refine R_iload_n dX10_countOf_45 rfl ?_
          refine R_iload dX10_countOf_46 rfl ?_
          refine R_if_eq_N (tgt := 55) dX10_countOf_48 (by decide) (by omega) (fun c48 => ?_) (fun c48 => ?_)
          -- X10_countOf: ('branch', 48, 55, 51)
          · exact absurd c48 (by decide)
          · refine R_iconst (v := nI 1) dX10_countOf_51 (by decide) ?_
            refine R_goto (tgt := 56) dX10_countOf_52 (by decide) ?_
            refine R_iadd_N dX10_countOf_56 ?_
            refine R_istore3 dX10_countOf_57 (by decide) ?_
            refine R_iload dX10_countOf_58 rfl ?_
            refine R_iload dX10_countOf_60 rfl ?_
            refine R_if_eq_N (tgt := 69) dX10_countOf_62 (by decide) (by omega) (fun c62 => ?_) (fun c62 => ?_)
            -- X10_countOf: ('branch', 62, 69, 65)
            · exact absurd c62 (by decide)
            · refine R_iconst (v := nI 2) dX10_countOf_65 (by decide) ?_
              refine R_goto (tgt := 70) dX10_countOf_66 (by decide) ?_
              refine R_iadd_N dX10_countOf_70 ?_
              refine R_istore4 dX10_countOf_71 (by decide) ?_
              refine R_goto (tgt := 5) dX10_countOf_73 (by decide) ?_
              -- X10_countOf: ('stop', 5)
              exact ih (t + 2) (n + 1) _ (by omega) (by omega) (by omega)
        have no : ¬ (y = a ∧ w = b) → WP E k_X10_countOf 2 0 0 43 [some (.ref M), some (.int (nI a)), some (.int (nI b)), some (.int (nI n)), some (.int (nI t)), z] [.int (nI 0)] h (fun v h' => v = some (.int (nI (cntG q.1 a b))) ∧ h' = h) := by
          intro e
          rw [if_neg e, ← hd1] at hn
          refine R_istore5 dX10_countOf_43 (by decide) ?_
          refine R_iload_n dX10_countOf_45 rfl ?_
          refine R_iload dX10_countOf_46 rfl ?_
          refine R_if_eq_N (tgt := 55) dX10_countOf_48 (by decide) (by omega) (fun c48 => ?_) (fun c48 => ?_)
          -- X10_countOf: ('branch', 48, 55, 51)
          · refine R_iconst (v := nI 0) dX10_countOf_55 (by decide) ?_
            refine R_iadd_N dX10_countOf_56 ?_
            refine R_istore3 dX10_countOf_57 (by decide) ?_
            refine R_iload dX10_countOf_58 rfl ?_
            refine R_iload dX10_countOf_60 rfl ?_
            refine R_if_eq_N (tgt := 69) dX10_countOf_62 (by decide) (by omega) (fun c62 => ?_) (fun c62 => ?_)
            -- X10_countOf: ('branch', 62, 69, 65)
            · refine R_iconst (v := nI 1) dX10_countOf_69 (by decide) ?_
              refine R_iadd_N dX10_countOf_70 ?_
              refine R_istore4 dX10_countOf_71 (by decide) ?_
              refine R_goto (tgt := 5) dX10_countOf_73 (by decide) ?_
              -- X10_countOf: ('stop', 5)
              exact ih (t + 1) (n + 0) _ (by omega) (by omega) (by omega)
            · exact absurd rfl c62
          · exact absurd rfl c48
        refine R_aload_n dX10_countOf_16 rfl ?_
        refine R_iload dX10_countOf_17 rfl ?_
        -- X10_countOf: ('call', 19, '.invokevirtual', 127)
        refine R_callV v_X10_signAt (Md_signAt x c hy) dX10_countOf_19 l_RX10_127 rfl rfl x.1 (Nat.le_of_ble_eq_true rfl) (by omega) rfl rfl (fun v h3 hq => ?_)
        obtain ⟨rfl, e9⟩ := hq
        rw [e9]
        refine R_iload_n dX10_countOf_22 rfl ?_
        refine R_icmp_ne_N (tgt := 42) dX10_countOf_23 (by decide) (by omega) (by omega) (fun c23 => ?_) (fun c23 => ?_)
        -- X10_countOf: ('branch', 23, 42, 26)
        · refine R_iconst (v := nI 0) dX10_countOf_42 (by decide) ?_
          -- X10_countOf: ('stop', 43)
          exact no (fun e => c23 e.1)
        · refine R_aload_n dX10_countOf_26 rfl ?_
          refine R_iload dX10_countOf_27 rfl ?_
          refine R_iconst (v := nI 1) dX10_countOf_29 (by decide) ?_
          refine R_iadd_N dX10_countOf_30 ?_
          -- X10_countOf: ('call', 31, '.invokevirtual', 127)
          refine R_callV v_X10_signAt (Md_signAt x c hw) dX10_countOf_31 l_RX10_127 rfl rfl x.1 (Nat.le_of_ble_eq_true rfl) (by omega) rfl rfl (fun v h4 hq => ?_)
          obtain ⟨rfl, e9⟩ := hq
          rw [e9]
          refine R_iload_n dX10_countOf_34 rfl ?_
          refine R_icmp_ne_N (tgt := 42) dX10_countOf_35 (by decide) (by omega) (by omega) (fun c35 => ?_) (fun c35 => ?_)
          -- X10_countOf: ('branch', 35, 42, 38)
          · refine R_iconst (v := nI 0) dX10_countOf_42 (by decide) ?_
            -- X10_countOf: ('stop', 43)
            exact no (fun e => c35 e.2)
          · refine R_iconst (v := nI 1) dX10_countOf_38 (by decide) ?_
            refine R_goto (tgt := 43) dX10_countOf_39 (by decide) ?_
            -- X10_countOf: ('stop', 43)
            exact yes ⟨c23, c35⟩
  refine R_iconst (v := nI 0) dX10_countOf_0 (by decide) ?_
  refine R_istore3 dX10_countOf_1 (by decide) ?_
  refine R_iconst (v := nI 0) dX10_countOf_2 (by decide) ?_
  refine R_istore4 dX10_countOf_3 (by decide) ?_
  -- X10_countOf: ('stop', 5)
  exact loop q.1.length 0 0 none (by omega) (by omega) (by rw [Nat.zero_add, List.drop_zero, cntG_cntJ])
theorem Md_ruleOf (x : MdAt E h M S) (c : curF (S.2 1) q) (hr86 : ∀ i, i < 60 → ∀ y ∈ q.2 i, y < 86) {a b : Nat} (ha : a < 86) (hb : b < 86) : Spec E k_X10_ruleOf 3 0 0 [.ref M, .int (nI a), .int (nI b)] h (fun v h' => v = some (.int (oI 26 (ruleS q.2 a b))) ∧ h' = h) := by
  refine Spec.of (by decide +kernel) (by simp [Value.category]) (Nat.le_of_ble_eq_true rfl) ?_
  show WP E k_X10_ruleOf 3 0 0 0 [some (.ref M), some (.int (nI a)), some (.int (nI b)), none] [] h _
  have loop : ∀ m t, t + m = 60 → fstB (fun i => decide (q.2 i = [a, b])) t = none → WP E k_X10_ruleOf 3 0 0 3 [some (.ref M), some (.int (nI a)), some (.int (nI b)), some (.int (nI (26 + t)))] [] h (fun v h' => v = some (.int (oI 26 (ruleS q.2 a b))) ∧ h' = h) := by
    intro m
    induction m with
    | zero =>
      intro t ht hf
      obtain rfl : t = 60 := by omega
      refine R_iload_n dX10_ruleOf_3 rfl ?_
      refine R_bipush (v := nI 86) dX10_ruleOf_4 (by decide) ?_
      refine R_icmp_ge_N (tgt := 46) dX10_ruleOf_6 (by decide) (by omega) (by omega) (fun c6 => ?_) (fun c6 => ?_)
      -- X10_ruleOf: ('branch', 6, 46, 9)
      · refine R_iconst (v := (-1)) dX10_ruleOf_46 (by decide) ?_
        refine R_ireturn dX10_ruleOf_47 rfl rfl ?_
        -- X10_ruleOf: ('ret', 47)
        exact ⟨by rw [ruleS, hf]; rfl, rfl⟩
      · exact absurd c6 (by omega)
    | succ m ih =>
      intro t ht hf
      have hro : rowOf q.2 (26 + t) = q.2 t := by rw [rowOf_in ⟨by omega, by omega⟩, show 26 + t - 26 = t by omega]
      have hrl := (c.2.2.2 t (by omega)).1
      have skip : ¬ q.2 t = [a, b] → WP E k_X10_ruleOf 3 0 0 40 [some (.ref M), some (.int (nI a)), some (.int (nI b)), some (.int (nI (26 + t)))] [] h (fun v h' => v = some (.int (oI 26 (ruleS q.2 a b))) ∧ h' = h) := by
        intro e
        refine R_iinc3 dX10_ruleOf_40 (by decide) (nI_inc _ 1) ?_
        refine R_goto (tgt := 3) dX10_ruleOf_43 (by decide) ?_
        -- X10_ruleOf: ('stop', 3)
        rw [show 26 + t + 1 = 26 + (t + 1) by omega]
        exact ih (t + 1) (by omega) (fstB_step hf (decide_eq_false e))
      refine R_iload_n dX10_ruleOf_3 rfl ?_
      refine R_bipush (v := nI 86) dX10_ruleOf_4 (by decide) ?_
      refine R_icmp_ge_N (tgt := 46) dX10_ruleOf_6 (by decide) (by omega) (by omega) (fun c6 => ?_) (fun c6 => ?_)
      -- X10_ruleOf: ('branch', 6, 46, 9)
      · exact absurd c6 (by omega)
      · refine R_aload_n dX10_ruleOf_9 rfl ?_
        refine R_iload_n dX10_ruleOf_10 rfl ?_
        -- X10_ruleOf: ('call', 11, '.invokevirtual', 106)
        refine R_callV v_X10_rowLong (Md_rowLong x c (s := 26 + t) (by omega)) dX10_ruleOf_11 l_RX10_106 rfl rfl x.1 (Nat.le_of_ble_eq_true rfl) (by omega) rfl rfl (fun v h2 hq => ?_)
        obtain ⟨rfl, e9⟩ := hq
        rw [e9, hro]
        refine R_iconst (v := nI 2) dX10_ruleOf_14 (by decide) ?_
        refine R_icmp_ne_N (tgt := 40) dX10_ruleOf_15 (by decide) (by omega) (by omega) (fun c15 => ?_) (fun c15 => ?_)
        -- X10_ruleOf: ('branch', 15, 40, 18)
        · exact skip (fun e => c15 (by rw [e]; rfl))
        · obtain ⟨y, w, hyw⟩ : ∃ y w, q.2 t = [y, w] := by
            cases hd : q.2 t with
            | nil => rw [hd] at c15; cases c15
            | cons y l =>
              cases l with
              | nil => rw [hd] at c15; cases c15
              | cons w l2 =>
                cases l2 with
                | nil => exact ⟨y, w, rfl⟩
                | cons z l3 => rw [hd] at c15; simp at c15
          have hy86 := hr86 t (by omega) y (by rw [hyw]; simp)
          have hw86 := hr86 t (by omega) w (by rw [hyw]; simp)
          refine R_aload_n dX10_ruleOf_18 rfl ?_
          refine R_iload_n dX10_ruleOf_19 rfl ?_
          refine R_iconst (v := nI 0) dX10_ruleOf_20 (by decide) ?_
          -- X10_ruleOf: ('call', 21, '.invokevirtual', 113)
          refine R_callV v_X10_inRow (Md_inRow x c (s := 26 + t) (i := 0) (y := y) (by omega) (by rw [hro, hyw]; rfl)) dX10_ruleOf_21 l_RX10_113 rfl rfl x.1 (Nat.le_of_ble_eq_true rfl) (by omega) rfl rfl (fun v h3 hq => ?_)
          obtain ⟨rfl, e9⟩ := hq
          rw [e9]
          refine R_iload_n dX10_ruleOf_24 rfl ?_
          refine R_icmp_ne_N (tgt := 40) dX10_ruleOf_25 (by decide) (by omega) (by omega) (fun c25 => ?_) (fun c25 => ?_)
          -- X10_ruleOf: ('branch', 25, 40, 28)
          · exact skip (fun e => c25 (by rw [hyw] at e; simp at e; exact e.1))
          · refine R_aload_n dX10_ruleOf_28 rfl ?_
            refine R_iload_n dX10_ruleOf_29 rfl ?_
            refine R_iconst (v := nI 1) dX10_ruleOf_30 (by decide) ?_
            -- X10_ruleOf: ('call', 31, '.invokevirtual', 113)
            refine R_callV v_X10_inRow (Md_inRow x c (s := 26 + t) (i := 1) (y := w) (by omega) (by rw [hro, hyw]; rfl)) dX10_ruleOf_31 l_RX10_113 rfl rfl x.1 (Nat.le_of_ble_eq_true rfl) (by omega) rfl rfl (fun v h4 hq => ?_)
            obtain ⟨rfl, e9⟩ := hq
            rw [e9]
            refine R_iload_n dX10_ruleOf_34 rfl ?_
            refine R_icmp_ne_N (tgt := 40) dX10_ruleOf_35 (by decide) (by omega) (by omega) (fun c35 => ?_) (fun c35 => ?_)
            -- X10_ruleOf: ('branch', 35, 40, 38)
            · exact skip (fun e => c35 (by rw [hyw] at e; simp at e; exact e.2))
            · refine R_iload_n dX10_ruleOf_38 rfl ?_
              refine R_ireturn dX10_ruleOf_39 rfl rfl ?_
              -- X10_ruleOf: ('ret', 39)
              have : ruleS q.2 a b = some t := fstB_at hf (decide_eq_true (by rw [hyw, c25, c35])) (by omega)
              exact ⟨by rw [this]; rfl, rfl⟩
  refine R_bipush (v := nI 26) dX10_ruleOf_0 (by decide) ?_
  refine R_istore3 dX10_ruleOf_2 (by decide) ?_
  -- X10_ruleOf: ('stop', 3)
  exact loop 60 0 (by omega) rfl
theorem Md_freeSign (x : MdAt E h M S) (c : curF (S.2 1) q) : Spec E k_X10_freeSign 3 0 0 [.ref M] h (fun v h' => v = some (.int (oI 26 (freeS q.2))) ∧ h' = h) := by
  refine Spec.of (by decide +kernel) (by simp [Value.category]) (Nat.le_of_ble_eq_true rfl) ?_
  show WP E k_X10_freeSign 3 0 0 0 [some (.ref M), none] [] h _
  have loop : ∀ m t, t + m = 60 → fstB (fun i => decide (q.2 i = [])) t = none → WP E k_X10_freeSign 3 0 0 3 [some (.ref M), some (.int (nI (26 + t)))] [] h (fun v h' => v = some (.int (oI 26 (freeS q.2))) ∧ h' = h) := by
    intro m
    induction m with
    | zero =>
      intro t ht hf
      obtain rfl : t = 60 := by omega
      refine R_iload_n dX10_freeSign_3 rfl ?_
      refine R_bipush (v := nI 86) dX10_freeSign_4 (by decide) ?_
      refine R_icmp_ge_N (tgt := 25) dX10_freeSign_6 (by decide) (by omega) (by omega) (fun c6 => ?_) (fun c6 => ?_)
      -- X10_freeSign: ('branch', 6, 25, 9)
      · refine R_iconst (v := (-1)) dX10_freeSign_25 (by decide) ?_
        refine R_ireturn dX10_freeSign_26 rfl rfl ?_
        -- X10_freeSign: ('ret', 26)
        exact ⟨by rw [freeS, hf]; rfl, rfl⟩
      · exact absurd c6 (by omega)
    | succ m ih =>
      intro t ht hf
      have hro : rowOf q.2 (26 + t) = q.2 t := by rw [rowOf_in ⟨by omega, by omega⟩, show 26 + t - 26 = t by omega]
      have hrl := (c.2.2.2 t (by omega)).1
      refine R_iload_n dX10_freeSign_3 rfl ?_
      refine R_bipush (v := nI 86) dX10_freeSign_4 (by decide) ?_
      refine R_icmp_ge_N (tgt := 25) dX10_freeSign_6 (by decide) (by omega) (by omega) (fun c6 => ?_) (fun c6 => ?_)
      -- X10_freeSign: ('branch', 6, 25, 9)
      · exact absurd c6 (by omega)
      · refine R_aload_n dX10_freeSign_9 rfl ?_
        refine R_iload_n dX10_freeSign_10 rfl ?_
        -- X10_freeSign: ('call', 11, '.invokevirtual', 106)
        refine R_callV v_X10_rowLong (Md_rowLong x c (s := 26 + t) (by omega)) dX10_freeSign_11 l_RX10_106 rfl rfl x.1 (Nat.le_of_ble_eq_true rfl) (by omega) rfl rfl (fun v h2 hq => ?_)
        obtain ⟨rfl, e9⟩ := hq
        rw [e9, hro]
        refine R_if_ne_N (tgt := 19) dX10_freeSign_14 (by decide) (by omega) (fun c14 => ?_) (fun c14 => ?_)
        -- X10_freeSign: ('branch', 14, 19, 17)
        · refine R_iinc1 dX10_freeSign_19 (by decide) (nI_inc _ 1) ?_
          refine R_goto (tgt := 3) dX10_freeSign_22 (by decide) ?_
          -- X10_freeSign: ('stop', 3)
          rw [show 26 + t + 1 = 26 + (t + 1) by omega]
          exact ih (t + 1) (by omega) (fstB_step hf (decide_eq_false (fun e => c14 (by rw [e]; rfl))))
        · refine R_iload_n dX10_freeSign_17 rfl ?_
          refine R_ireturn dX10_freeSign_18 rfl rfl ?_
          -- X10_freeSign: ('ret', 18)
          have : freeS q.2 = some t := fstB_at hf (decide_eq_true (List.eq_nil_of_length_eq_zero c14)) (by omega)
          exact ⟨by rw [this]; rfl, rfl⟩
  refine R_bipush (v := nI 26) dX10_freeSign_0 (by decide) ?_
  refine R_istore1 dX10_freeSign_2 (by decide) ?_
  -- X10_freeSign: ('stop', 3)
  exact loop 60 0 (by omega) rfl
theorem oI_26 {r : Option Nat} : r = none ∧ oI 26 r = -1 ∨ ∃ i, r = some i ∧ oI 26 r = nI (26 + i) := by
  cases r with
  | none => exact Or.inl ⟨rfl, rfl⟩
  | some i => exact Or.inr ⟨i, rfl, rfl⟩
theorem Md_canReplace (x : MdAt E h M S) (c : curF (S.2 1) q) (hr86 : ∀ i, i < 60 → ∀ y ∈ q.2 i, y < 86) {a b : Nat} (ha : a < 86) (hb : b < 86) : Spec E k_X10_canReplace 4 0 0 [.ref M, .int (nI a), .int (nI b)] h (fun v h' => v = some (.int (nI (if (signS q.2 a b).isSome then 1 else 0))) ∧ h' = h) := by
  refine Spec.of (by decide +kernel) (by simp [Value.category]) (Nat.le_of_ble_eq_true rfl) ?_
  show WP E k_X10_canReplace 4 0 0 0 [some (.ref M), some (.int (nI a)), some (.int (nI b))] [] h _
  refine R_aload_n dX10_canReplace_0 rfl ?_
  refine R_iload_n dX10_canReplace_1 rfl ?_
  refine R_iload_n dX10_canReplace_2 rfl ?_
  -- X10_canReplace: ('call', 3, '.invokevirtual', 230)
  refine R_callV v_X10_ruleOf (Md_ruleOf x c hr86 ha hb) dX10_canReplace_3 l_RX10_230 rfl rfl x.1 (Nat.le_of_ble_eq_true rfl) (by omega) rfl rfl (fun v h2 hq => ?_)
  obtain ⟨rfl, e9⟩ := hq
  rw [e9]
  cases hr : ruleS q.2 a b with
  | some i =>
    have hi := fst_lt hr
    refine R_iconst (v := (-1)) dX10_canReplace_6 (by decide) ?_
    refine R_icmp_ne (tgt := 18) dX10_canReplace_7 (by decide) (fun c7 => ?_) (fun c7 => ?_)
    -- X10_canReplace: ('branch', 7, 18, 10)
    · refine R_iconst (v := nI 1) dX10_canReplace_18 (by decide) ?_
      refine R_goto (tgt := 23) dX10_canReplace_19 (by decide) ?_
      refine R_ireturn dX10_canReplace_23 rfl (by rfl) ?_
      -- X10_canReplace: ('ret', 23)
      exact ⟨by rw [signS_1 hr]; rfl, rfl⟩
    · exact absurd c7 (nI_ne_m1 (n := 26 + i) (by omega))
  | none =>
    refine R_iconst (v := (-1)) dX10_canReplace_6 (by decide) ?_
    refine R_icmp_ne (tgt := 18) dX10_canReplace_7 (by decide) (fun c7 => ?_) (fun c7 => ?_)
    -- X10_canReplace: ('branch', 7, 18, 10)
    · exact absurd rfl c7
    · refine R_aload_n dX10_canReplace_10 rfl ?_
      -- X10_canReplace: ('call', 11, '.invokevirtual', 233)
      refine R_callV v_X10_freeSign (Md_freeSign x c) dX10_canReplace_11 l_RX10_233 rfl rfl x.1 (Nat.le_of_ble_eq_true rfl) (by omega) rfl rfl (fun v h3 hq => ?_)
      obtain ⟨rfl, e9⟩ := hq
      rw [e9]
      cases hf : freeS q.2 with
      | some i =>
        have hi := fst_lt hf
        refine R_iconst (v := (-1)) dX10_canReplace_14 (by decide) ?_
        refine R_icmp_eq (tgt := 22) dX10_canReplace_15 (by decide) (fun c15 => ?_) (fun c15 => ?_)
        -- X10_canReplace: ('branch', 15, 22, 18)
        · exact absurd c15 (nI_ne_m1 (n := 26 + i) (by omega))
        · refine R_iconst (v := nI 1) dX10_canReplace_18 (by decide) ?_
          refine R_goto (tgt := 23) dX10_canReplace_19 (by decide) ?_
          refine R_ireturn dX10_canReplace_23 rfl (by rfl) ?_
          -- X10_canReplace: ('ret', 23)
          exact ⟨by rw [signS_0 hr, hf]; rfl, rfl⟩
      | none =>
        refine R_iconst (v := (-1)) dX10_canReplace_14 (by decide) ?_
        refine R_icmp_eq (tgt := 22) dX10_canReplace_15 (by decide) (fun c15 => ?_) (fun c15 => ?_)
        -- X10_canReplace: ('branch', 15, 22, 18)
        · refine R_iconst (v := nI 0) dX10_canReplace_22 (by decide) ?_
          refine R_ireturn dX10_canReplace_23 rfl (by rfl) ?_
          -- X10_canReplace: ('ret', 23)
          exact ⟨by rw [signS_0 hr, hf]; rfl, rfl⟩
        · exact absurd rfl c15
theorem Md_inSequence (x : MdAt E h M S) (c : curF (S.2 1) q) (h86 : ∀ y ∈ q.1, y < 86) {s : Nat} (hs : s < 86) : Spec E k_X10_inSequence 2 0 0 [.ref M, .int (nI s)] h (fun v h' => v = some (.int (nI (q.1.count s))) ∧ h' = h) := by
  have hl := c.1
  refine Spec.of (by decide +kernel) (by simp [Value.category]) (Nat.le_of_ble_eq_true rfl) ?_
  show WP E k_X10_inSequence 2 0 0 0 [some (.ref M), some (.int (nI s)), none, none] [] h _
  have loop : ∀ m t, t + m = q.1.length → WP E k_X10_inSequence 2 0 0 4 [some (.ref M), some (.int (nI s)), some (.int (nI ((q.1.take t).count s))), some (.int (nI t))] [] h (fun v h' => v = some (.int (nI (q.1.count s))) ∧ h' = h) := by
    intro m
    induction m with
    | zero =>
      intro t ht
      refine R_iload_n dX10_inSequence_4 rfl ?_
      refine R_aload_n dX10_inSequence_5 rfl ?_
      -- X10_inSequence: ('call', 6, '.invokevirtual', 123)
      refine R_callV v_X10_many (Md_many x c) dX10_inSequence_6 l_RX10_123 rfl rfl x.1 (Nat.le_of_ble_eq_true rfl) (by omega) rfl rfl (fun v h2 hq => ?_)
      obtain ⟨rfl, e9⟩ := hq
      rw [e9]
      refine R_icmp_ge_N (tgt := 35) dX10_inSequence_9 (by decide) (by omega) (by omega) (fun c9 => ?_) (fun c9 => ?_)
      -- X10_inSequence: ('branch', 9, 35, 12)
      · refine R_iload_n dX10_inSequence_35 rfl ?_
        refine R_ireturn dX10_inSequence_36 rfl rfl ?_
        -- X10_inSequence: ('ret', 36)
        exact ⟨by rw [List.take_of_length_le (by omega)], rfl⟩
      · exact absurd c9 (by omega)
    | succ m ih =>
      intro t ht
      obtain ⟨y, hy⟩ := getE (l := q.1) (i := t) (by omega)
      have hy86 := h86 y (List.mem_of_getElem? hy)
      have ih := ih (t + 1) (by omega)
      rw [take_snoc hy, count_snoc] at ih
      refine R_iload_n dX10_inSequence_4 rfl ?_
      refine R_aload_n dX10_inSequence_5 rfl ?_
      -- X10_inSequence: ('call', 6, '.invokevirtual', 123)
      refine R_callV v_X10_many (Md_many x c) dX10_inSequence_6 l_RX10_123 rfl rfl x.1 (Nat.le_of_ble_eq_true rfl) (by omega) rfl rfl (fun v h2 hq => ?_)
      obtain ⟨rfl, e9⟩ := hq
      rw [e9]
      refine R_icmp_ge_N (tgt := 35) dX10_inSequence_9 (by decide) (by omega) (by omega) (fun c9 => ?_) (fun c9 => ?_)
      -- X10_inSequence: ('branch', 9, 35, 12)
      · exact absurd c9 (by omega)
      · refine R_iload_n dX10_inSequence_12 rfl ?_
        refine R_aload_n dX10_inSequence_13 rfl ?_
        refine R_iload_n dX10_inSequence_14 rfl ?_
        -- X10_inSequence: ('call', 15, '.invokevirtual', 127)
        refine R_callV v_X10_signAt (Md_signAt x c hy) dX10_inSequence_15 l_RX10_127 rfl rfl x.1 (Nat.le_of_ble_eq_true rfl) (by omega) rfl rfl (fun v h3 hq => ?_)
        obtain ⟨rfl, e9⟩ := hq
        rw [e9]
        refine R_iload_n dX10_inSequence_18 rfl ?_
        refine R_icmp_ne_N (tgt := 26) dX10_inSequence_19 (by decide) (by omega) (by omega) (fun c19 => ?_) (fun c19 => ?_)
        -- X10_inSequence: ('branch', 19, 26, 22)
        · rw [if_neg c19] at ih
          refine R_iconst (v := nI 0) dX10_inSequence_26 (by decide) ?_
          refine R_iadd_N dX10_inSequence_27 ?_
          refine R_istore2 dX10_inSequence_28 (by decide) ?_
          refine R_iinc3 dX10_inSequence_29 (by decide) (nI_inc _ 1) ?_
          refine R_goto (tgt := 4) dX10_inSequence_32 (by decide) ?_
          -- X10_inSequence: ('stop', 4)
          exact ih
        · rw [if_pos c19] at ih
          refine R_iconst (v := nI 1) dX10_inSequence_22 (by decide) ?_
          refine R_goto (tgt := 27) dX10_inSequence_23 (by decide) ?_
          refine R_iadd_N dX10_inSequence_27 ?_
          refine R_istore2 dX10_inSequence_28 (by decide) ?_
          refine R_iinc3 dX10_inSequence_29 (by decide) (nI_inc _ 1) ?_
          refine R_goto (tgt := 4) dX10_inSequence_32 (by decide) ?_
          -- X10_inSequence: ('stop', 4)
          exact ih
  refine R_iconst (v := nI 0) dX10_inSequence_0 (by decide) ?_
  refine R_istore2 dX10_inSequence_1 (by decide) ?_
  refine R_iconst (v := nI 0) dX10_inSequence_2 (by decide) ?_
  refine R_istore3 dX10_inSequence_3 (by decide) ?_
  -- X10_inSequence: ('stop', 4)
  exact loop q.1.length 0 (by omega)
theorem Md_timesIn (x : MdAt E h M S) (c : curF (S.2 1) q) (hr86 : ∀ i, i < 60 → ∀ y ∈ q.2 i, y < 86) {s i : Nat} (hi : i < 60) (hs : s < 86) : Spec E k_X10_timesIn 3 0 0 [.ref M, .int (nI (26 + i)), .int (nI s)] h (fun v h' => v = some (.int (nI ((q.2 i).count s))) ∧ h' = h) := by
  have hro : rowOf q.2 (26 + i) = q.2 i := by rw [rowOf_in ⟨by omega, by omega⟩, show 26 + i - 26 = i by omega]
  have hrl := (c.2.2.2 i hi).1
  refine Spec.of (by decide +kernel) (by simp [Value.category]) (Nat.le_of_ble_eq_true rfl) ?_
  show WP E k_X10_timesIn 3 0 0 0 [some (.ref M), some (.int (nI (26 + i))), some (.int (nI s)), none, none] [] h _
  have loop : ∀ m t, t + m = (q.2 i).length → WP E k_X10_timesIn 3 0 0 5 [some (.ref M), some (.int (nI (26 + i))), some (.int (nI s)), some (.int (nI (((q.2 i).take t).count s))), some (.int (nI t))] [] h (fun v h' => v = some (.int (nI ((q.2 i).count s))) ∧ h' = h) := by
    intro m
    induction m with
    | zero =>
      intro t ht
      refine R_iload dX10_timesIn_5 rfl ?_
      refine R_aload_n dX10_timesIn_7 rfl ?_
      refine R_iload_n dX10_timesIn_8 rfl ?_
      -- X10_timesIn: ('call', 9, '.invokevirtual', 106)
      refine R_callV v_X10_rowLong (Md_rowLong x c (s := 26 + i) (by omega)) dX10_timesIn_9 l_RX10_106 rfl rfl x.1 (Nat.le_of_ble_eq_true rfl) (by omega) rfl rfl (fun v h2 hq => ?_)
      obtain ⟨rfl, e9⟩ := hq
      rw [e9, hro]
      refine R_icmp_ge_N (tgt := 40) dX10_timesIn_12 (by decide) (by omega) (by omega) (fun c12 => ?_) (fun c12 => ?_)
      -- X10_timesIn: ('branch', 12, 40, 15)
      · refine R_iload_n dX10_timesIn_40 rfl ?_
        refine R_ireturn dX10_timesIn_41 rfl rfl ?_
        -- X10_timesIn: ('ret', 41)
        exact ⟨by rw [List.take_of_length_le (by omega)], rfl⟩
      · exact absurd c12 (by omega)
    | succ m ih =>
      intro t ht
      obtain ⟨y, hy⟩ := getE (l := q.2 i) (i := t) (by omega)
      have hy86 := hr86 i hi y (List.mem_of_getElem? hy)
      have ih := ih (t + 1) (by omega)
      rw [take_snoc hy, count_snoc] at ih
      refine R_iload dX10_timesIn_5 rfl ?_
      refine R_aload_n dX10_timesIn_7 rfl ?_
      refine R_iload_n dX10_timesIn_8 rfl ?_
      -- X10_timesIn: ('call', 9, '.invokevirtual', 106)
      refine R_callV v_X10_rowLong (Md_rowLong x c (s := 26 + i) (by omega)) dX10_timesIn_9 l_RX10_106 rfl rfl x.1 (Nat.le_of_ble_eq_true rfl) (by omega) rfl rfl (fun v h2 hq => ?_)
      obtain ⟨rfl, e9⟩ := hq
      rw [e9, hro]
      refine R_icmp_ge_N (tgt := 40) dX10_timesIn_12 (by decide) (by omega) (by omega) (fun c12 => ?_) (fun c12 => ?_)
      -- X10_timesIn: ('branch', 12, 40, 15)
      · exact absurd c12 (by omega)
      · refine R_iload_n dX10_timesIn_15 rfl ?_
        refine R_aload_n dX10_timesIn_16 rfl ?_
        refine R_iload_n dX10_timesIn_17 rfl ?_
        refine R_iload dX10_timesIn_18 rfl ?_
        -- X10_timesIn: ('call', 20, '.invokevirtual', 113)
        refine R_callV v_X10_inRow (Md_inRow x c (s := 26 + i) (i := t) (y := y) (by omega) (by rw [hro]; exact hy)) dX10_timesIn_20 l_RX10_113 rfl rfl x.1 (Nat.le_of_ble_eq_true rfl) (by omega) rfl rfl (fun v h3 hq => ?_)
        obtain ⟨rfl, e9⟩ := hq
        rw [e9]
        refine R_iload_n dX10_timesIn_23 rfl ?_
        refine R_icmp_ne_N (tgt := 31) dX10_timesIn_24 (by decide) (by omega) (by omega) (fun c24 => ?_) (fun c24 => ?_)
        -- X10_timesIn: ('branch', 24, 31, 27)
        · rw [if_neg c24] at ih
          refine R_iconst (v := nI 0) dX10_timesIn_31 (by decide) ?_
          refine R_iadd_N dX10_timesIn_32 ?_
          refine R_istore3 dX10_timesIn_33 (by decide) ?_
          refine R_iinc4 dX10_timesIn_34 (by decide) (nI_inc _ 1) ?_
          refine R_goto (tgt := 5) dX10_timesIn_37 (by decide) ?_
          -- X10_timesIn: ('stop', 5)
          exact ih
        · rw [if_pos c24] at ih
          refine R_iconst (v := nI 1) dX10_timesIn_27 (by decide) ?_
          refine R_goto (tgt := 32) dX10_timesIn_28 (by decide) ?_
          refine R_iadd_N dX10_timesIn_32 ?_
          refine R_istore3 dX10_timesIn_33 (by decide) ?_
          refine R_iinc4 dX10_timesIn_34 (by decide) (nI_inc _ 1) ?_
          refine R_goto (tgt := 5) dX10_timesIn_37 (by decide) ?_
          -- X10_timesIn: ('stop', 5)
          exact ih
  refine R_iconst (v := nI 0) dX10_timesIn_0 (by decide) ?_
  refine R_istore3 dX10_timesIn_1 (by decide) ?_
  refine R_iconst (v := nI 0) dX10_timesIn_2 (by decide) ?_
  refine R_istore4 dX10_timesIn_3 (by decide) ?_
  -- X10_timesIn: ('stop', 5)
  exact loop (q.2 i).length 0 (by omega)
theorem Md_usesOf (x : MdAt E h M S) (c : curF (S.2 1) q) (h86 : ∀ y ∈ q.1, y < 86) (hr86 : ∀ i, i < 60 → ∀ y ∈ q.2 i, y < 86) {s : Nat} (hs : s < 86) : Spec E k_X10_usesOf 4 0 0 [.ref M, .int (nI s)] h (fun v h' => v = some (.int (nI (usesS q.1 q.2 s))) ∧ h' = h) := by
  refine Spec.of (by decide +kernel) (by simp [Value.category]) (Nat.le_of_ble_eq_true rfl) ?_
  show WP E k_X10_usesOf 4 0 0 0 [some (.ref M), some (.int (nI s)), none, none] [] h _
  refine R_aload_n dX10_usesOf_0 rfl ?_
  refine R_iload_n dX10_usesOf_1 rfl ?_
  -- X10_usesOf: ('call', 2, '.invokevirtual', 192)
  refine R_callV v_X10_inSequence (Md_inSequence x c h86 hs) dX10_usesOf_2 l_RX10_192 rfl rfl x.1 (Nat.le_of_ble_eq_true rfl) (by omega) rfl rfl (fun v h2 hq => ?_)
  obtain ⟨rfl, e9⟩ := hq
  rw [e9]
  have loop : ∀ m t, t + m = 60 → WP E k_X10_usesOf 4 0 0 9 [some (.ref M), some (.int (nI s)), some (.int (nI (q.1.count s + sumB (fun r => (q.2 r).count s) t))), some (.int (nI (26 + t)))] [] h (fun v h' => v = some (.int (nI (usesS q.1 q.2 s))) ∧ h' = h) := by
    intro m
    induction m with
    | zero =>
      intro t ht
      obtain rfl : t = 60 := by omega
      refine R_iload_n dX10_usesOf_9 rfl ?_
      refine R_bipush (v := nI 86) dX10_usesOf_10 (by decide) ?_
      refine R_icmp_ge_N (tgt := 30) dX10_usesOf_12 (by decide) (by omega) (by omega) (fun c12 => ?_) (fun c12 => ?_)
      -- X10_usesOf: ('branch', 12, 30, 15)
      · refine R_iload_n dX10_usesOf_30 rfl ?_
        refine R_ireturn dX10_usesOf_31 rfl rfl ?_
        -- X10_usesOf: ('ret', 31)
        exact ⟨by rw [usesS], rfl⟩
      · exact absurd c12 (by omega)
    | succ m ih =>
      intro t ht
      have ih := ih (t + 1) (by omega)
      rw [sumB, ← Nat.add_assoc] at ih
      refine R_iload_n dX10_usesOf_9 rfl ?_
      refine R_bipush (v := nI 86) dX10_usesOf_10 (by decide) ?_
      refine R_icmp_ge_N (tgt := 30) dX10_usesOf_12 (by decide) (by omega) (by omega) (fun c12 => ?_) (fun c12 => ?_)
      -- X10_usesOf: ('branch', 12, 30, 15)
      · exact absurd c12 (by omega)
      · refine R_iload_n dX10_usesOf_15 rfl ?_
        refine R_aload_n dX10_usesOf_16 rfl ?_
        refine R_iload_n dX10_usesOf_17 rfl ?_
        refine R_iload_n dX10_usesOf_18 rfl ?_
        -- X10_usesOf: ('call', 19, '.invokevirtual', 252)
        refine R_callV v_X10_timesIn (Md_timesIn x c hr86 (i := t) (by omega) hs) dX10_usesOf_19 l_RX10_252 rfl rfl x.1 (Nat.le_of_ble_eq_true rfl) (by omega) rfl rfl (fun v h3 hq => ?_)
        obtain ⟨rfl, e9⟩ := hq
        rw [e9]
        refine R_iadd_N dX10_usesOf_22 ?_
        refine R_istore2 dX10_usesOf_23 (by decide) ?_
        refine R_iinc3 dX10_usesOf_24 (by decide) (nI_inc _ 1) ?_
        refine R_goto (tgt := 9) dX10_usesOf_27 (by decide) ?_
        -- X10_usesOf: ('stop', 9)
        rw [show 26 + t + 1 = 26 + (t + 1) by omega]
        exact ih
  refine R_istore2 dX10_usesOf_5 (by decide) ?_
  refine R_bipush (v := nI 26) dX10_usesOf_6 (by decide) ?_
  refine R_istore3 dX10_usesOf_8 (by decide) ?_
  -- X10_usesOf: ('stop', 9)
  exact loop 60 0 (by omega)
theorem Md_canGo (x : MdAt E h M S) (c : curF (S.2 1) q) (hr86 : ∀ i, i < 60 → ∀ y ∈ q.2 i, y < 86) {s : Nat} (hs : isRul q.2 s) : Spec E k_X10_canGo 4 0 0 [.ref M, .int (nI s)] h (fun v h' => v = some (.int (nI (if canGo q.2 s then 1 else 0))) ∧ h' = h) := by
  have h26 := hs.1
  have h86 := hs.2.1
  have hros : rowOf q.2 s = q.2 (s - 26) := rowOf_in ⟨h26, h86⟩
  have hls := (c.2.2.2 (s - 26) (by omega)).1
  have hl1 : 1 ≤ (q.2 (s - 26)).length := by
    cases hb : q.2 (s - 26) with
    | nil => exact absurd hb hs.2.2
    | cons y t => simp
  refine Spec.of (by decide +kernel) (by simp [Value.category]) (Nat.le_of_ble_eq_true rfl) ?_
  show WP E k_X10_canGo 4 0 0 0 [some (.ref M), some (.int (nI s)), none] [] h _
  have loop : ∀ m t, t + m = 60 → (∀ r, r < t → (q.2 r).length + (q.2 r).count s * ((q.2 (s - 26)).length - 1) ≤ 12) → WP E k_X10_canGo 4 0 0 3 [some (.ref M), some (.int (nI s)), some (.int (nI (26 + t)))] [] h (fun v h' => v = some (.int (nI (if canGo q.2 s then 1 else 0))) ∧ h' = h) := by
    intro m
    induction m with
    | zero =>
      intro t ht hk
      obtain rfl : t = 60 := by omega
      refine R_iload_n dX10_canGo_3 rfl ?_
      refine R_bipush (v := nI 86) dX10_canGo_4 (by decide) ?_
      refine R_icmp_ge_N (tgt := 51) dX10_canGo_6 (by decide) (by omega) (by omega) (fun c6 => ?_) (fun c6 => ?_)
      -- X10_canGo: ('branch', 6, 51, 9)
      · refine R_iconst (v := nI 1) dX10_canGo_51 (by decide) ?_
        refine R_ireturn dX10_canGo_52 rfl (by rfl) ?_
        -- X10_canGo: ('ret', 52)
        exact ⟨by rw [if_pos hk], rfl⟩
      · exact absurd c6 (by omega)
    | succ m ih =>
      intro t ht hk
      have hro : rowOf q.2 (26 + t) = q.2 t := by rw [rowOf_in ⟨by omega, by omega⟩, show 26 + t - 26 = t by omega]
      have hrl := (c.2.2.2 t (by omega)).1
      have hct : (q.2 t).count s ≤ 12 := Nat.le_trans List.count_le_length hrl
      have hmul : (q.2 t).count s * ((q.2 (s - 26)).length - 1) ≤ 12 * 12 := Nat.mul_le_mul hct (by omega)
      have nxt : (q.2 t).length + (q.2 t).count s * ((q.2 (s - 26)).length - 1) ≤ 12 → WP E k_X10_canGo 4 0 0 45 [some (.ref M), some (.int (nI s)), some (.int (nI (26 + t)))] [] h (fun v h' => v = some (.int (nI (if canGo q.2 s then 1 else 0))) ∧ h' = h) := by
        intro hz
        refine R_iinc2 dX10_canGo_45 (by decide) (nI_inc _ 1) ?_
        refine R_goto (tgt := 3) dX10_canGo_48 (by decide) ?_
        -- X10_canGo: ('stop', 3)
        rw [show 26 + t + 1 = 26 + (t + 1) by omega]
        refine ih (t + 1) (by omega) (fun r hr => ?_)
        by_cases e : r = t
        · rw [e]; exact hz
        · exact hk r (by omega)
      refine R_iload_n dX10_canGo_3 rfl ?_
      refine R_bipush (v := nI 86) dX10_canGo_4 (by decide) ?_
      refine R_icmp_ge_N (tgt := 51) dX10_canGo_6 (by decide) (by omega) (by omega) (fun c6 => ?_) (fun c6 => ?_)
      -- X10_canGo: ('branch', 6, 51, 9)
      · exact absurd c6 (by omega)
      · refine R_aload_n dX10_canGo_9 rfl ?_
        refine R_iload_n dX10_canGo_10 rfl ?_
        refine R_iload_n dX10_canGo_11 rfl ?_
        -- X10_canGo: ('call', 12, '.invokevirtual', 252)
        refine R_callV v_X10_timesIn (Md_timesIn x c hr86 (i := t) (by omega) h86) dX10_canGo_12 l_RX10_252 rfl rfl x.1 (Nat.le_of_ble_eq_true rfl) (by omega) rfl rfl (fun v h3 hq => ?_)
        obtain ⟨rfl, e9⟩ := hq
        rw [e9]
        refine R_if_le_N (tgt := 45) dX10_canGo_15 (by decide) (by omega) (fun c15 => ?_) (fun c15 => ?_)
        -- X10_canGo: ('branch', 15, 45, 18)
        · refine nxt ?_
          rw [c15, Nat.zero_mul]; omega
        · refine R_aload_n dX10_canGo_18 rfl ?_
          refine R_iload_n dX10_canGo_19 rfl ?_
          -- X10_canGo: ('call', 20, '.invokevirtual', 106)
          refine R_callV v_X10_rowLong (Md_rowLong x c (s := 26 + t) (by omega)) dX10_canGo_20 l_RX10_106 rfl rfl x.1 (Nat.le_of_ble_eq_true rfl) (by omega) rfl rfl (fun v h4 hq => ?_)
          obtain ⟨rfl, e9⟩ := hq
          rw [e9, hro]
          refine R_aload_n dX10_canGo_23 rfl ?_
          refine R_iload_n dX10_canGo_24 rfl ?_
          refine R_iload_n dX10_canGo_25 rfl ?_
          -- X10_canGo: ('call', 26, '.invokevirtual', 252)
          refine R_callV v_X10_timesIn (Md_timesIn x c hr86 (i := t) (by omega) h86) dX10_canGo_26 l_RX10_252 rfl rfl x.1 (Nat.le_of_ble_eq_true rfl) (by omega) rfl rfl (fun v h5 hq => ?_)
          obtain ⟨rfl, e9⟩ := hq
          rw [e9]
          refine R_aload_n dX10_canGo_29 rfl ?_
          refine R_iload_n dX10_canGo_30 rfl ?_
          -- X10_canGo: ('call', 31, '.invokevirtual', 106)
          refine R_callV v_X10_rowLong (Md_rowLong x c h86) dX10_canGo_31 l_RX10_106 rfl rfl x.1 (Nat.le_of_ble_eq_true rfl) (by omega) rfl rfl (fun v h6 hq => ?_)
          obtain ⟨rfl, e9⟩ := hq
          rw [e9, hros]
          refine R_iconst (v := nI 1) dX10_canGo_34 (by decide) ?_
          refine R_isub_N dX10_canGo_35 (by omega) ?_
          refine R_imul_N dX10_canGo_36 ?_
          refine R_iadd_N dX10_canGo_37 ?_
          refine R_bipush (v := nI 12) dX10_canGo_38 (by decide) ?_
          refine R_icmp_le_N (tgt := 45) dX10_canGo_40 (by decide) (by omega) (by omega) (fun c40 => ?_) (fun c40 => ?_)
          -- X10_canGo: ('branch', 40, 45, 43)
          · exact nxt c40
          · refine R_iconst (v := nI 0) dX10_canGo_43 (by decide) ?_
            refine R_ireturn dX10_canGo_44 rfl (by rfl) ?_
            -- X10_canGo: ('ret', 44)
            exact ⟨by rw [if_neg (fun z => absurd (z t (by omega)) (by omega))], rfl⟩
  refine R_bipush (v := nI 26) dX10_canGo_0 (by decide) ?_
  refine R_istore2 dX10_canGo_2 (by decide) ?_
  -- X10_canGo: ('stop', 3)
  exact loop 60 0 (by omega) (fun r hr => absurd hr (by omega))
theorem Md_sizeNow (x : MdAt E h M S) (c : curF (S.2 1) q) : Spec E k_X10_sizeNow 3 0 0 [.ref M] h (fun v h' => v = some (.int (nI (sizeS q.1 q.2))) ∧ h' = h) := by
  refine Spec.of (by decide +kernel) (by simp [Value.category]) (Nat.le_of_ble_eq_true rfl) ?_
  show WP E k_X10_sizeNow 3 0 0 0 [some (.ref M), none, none] [] h _
  refine R_aload_n dX10_sizeNow_0 rfl ?_
  -- X10_sizeNow: ('call', 1, '.invokevirtual', 123)
  refine R_callV v_X10_many (Md_many x c) dX10_sizeNow_1 l_RX10_123 rfl rfl x.1 (Nat.le_of_ble_eq_true rfl) (by omega) rfl rfl (fun v h2 hq => ?_)
  obtain ⟨rfl, e9⟩ := hq
  rw [e9]
  have loop : ∀ m t, t + m = 60 → WP E k_X10_sizeNow 3 0 0 8 [some (.ref M), some (.int (nI (q.1.length + sumB (fun r => (q.2 r).length) t))), some (.int (nI (26 + t)))] [] h (fun v h' => v = some (.int (nI (sizeS q.1 q.2))) ∧ h' = h) := by
    intro m
    induction m with
    | zero =>
      intro t ht
      obtain rfl : t = 60 := by omega
      refine R_iload_n dX10_sizeNow_8 rfl ?_
      refine R_bipush (v := nI 86) dX10_sizeNow_9 (by decide) ?_
      refine R_icmp_ge_N (tgt := 28) dX10_sizeNow_11 (by decide) (by omega) (by omega) (fun c11 => ?_) (fun c11 => ?_)
      -- X10_sizeNow: ('branch', 11, 28, 14)
      · refine R_iload_n dX10_sizeNow_28 rfl ?_
        refine R_ireturn dX10_sizeNow_29 rfl rfl ?_
        -- X10_sizeNow: ('ret', 29)
        exact ⟨by rw [sizeS], rfl⟩
      · exact absurd c11 (by omega)
    | succ m ih =>
      intro t ht
      have hro : rowOf q.2 (26 + t) = q.2 t := by rw [rowOf_in ⟨by omega, by omega⟩, show 26 + t - 26 = t by omega]
      have ih := ih (t + 1) (by omega)
      rw [sumB, ← Nat.add_assoc] at ih
      refine R_iload_n dX10_sizeNow_8 rfl ?_
      refine R_bipush (v := nI 86) dX10_sizeNow_9 (by decide) ?_
      refine R_icmp_ge_N (tgt := 28) dX10_sizeNow_11 (by decide) (by omega) (by omega) (fun c11 => ?_) (fun c11 => ?_)
      -- X10_sizeNow: ('branch', 11, 28, 14)
      · exact absurd c11 (by omega)
      · refine R_iload_n dX10_sizeNow_14 rfl ?_
        refine R_aload_n dX10_sizeNow_15 rfl ?_
        refine R_iload_n dX10_sizeNow_16 rfl ?_
        -- X10_sizeNow: ('call', 17, '.invokevirtual', 106)
        refine R_callV v_X10_rowLong (Md_rowLong x c (s := 26 + t) (by omega)) dX10_sizeNow_17 l_RX10_106 rfl rfl x.1 (Nat.le_of_ble_eq_true rfl) (by omega) rfl rfl (fun v h3 hq => ?_)
        obtain ⟨rfl, e9⟩ := hq
        rw [e9, hro]
        refine R_iadd_N dX10_sizeNow_20 ?_
        refine R_istore1 dX10_sizeNow_21 (by decide) ?_
        refine R_iinc2 dX10_sizeNow_22 (by decide) (nI_inc _ 1) ?_
        refine R_goto (tgt := 8) dX10_sizeNow_25 (by decide) ?_
        -- X10_sizeNow: ('stop', 8)
        rw [show 26 + t + 1 = 26 + (t + 1) by omega]
        exact ih
  refine R_istore1 dX10_sizeNow_4 (by decide) ?_
  refine R_bipush (v := nI 26) dX10_sizeNow_5 (by decide) ?_
  refine R_istore2 dX10_sizeNow_7 (by decide) ?_
  -- X10_sizeNow: ('stop', 8)
  exact loop 60 0 (by omega)
theorem Md_rulesMany (x : MdAt E h M S) (c : curF (S.2 1) q) : Spec E k_X10_rulesMany 3 0 0 [.ref M] h (fun v h' => v = some (.int (nI (rulesS q.2))) ∧ h' = h) := by
  refine Spec.of (by decide +kernel) (by simp [Value.category]) (Nat.le_of_ble_eq_true rfl) ?_
  show WP E k_X10_rulesMany 3 0 0 0 [some (.ref M), none, none] [] h _
  have loop : ∀ m t, t + m = 60 → WP E k_X10_rulesMany 3 0 0 5 [some (.ref M), some (.int (nI (cntB (fun r => decide (0 < (q.2 r).length)) t))), some (.int (nI (26 + t)))] [] h (fun v h' => v = some (.int (nI (rulesS q.2))) ∧ h' = h) := by
    intro m
    induction m with
    | zero =>
      intro t ht
      obtain rfl : t = 60 := by omega
      refine R_iload_n dX10_rulesMany_5 rfl ?_
      refine R_bipush (v := nI 86) dX10_rulesMany_6 (by decide) ?_
      refine R_icmp_ge_N (tgt := 33) dX10_rulesMany_8 (by decide) (by omega) (by omega) (fun c8 => ?_) (fun c8 => ?_)
      -- X10_rulesMany: ('branch', 8, 33, 11)
      · refine R_iload_n dX10_rulesMany_33 rfl ?_
        refine R_ireturn dX10_rulesMany_34 rfl rfl ?_
        -- X10_rulesMany: ('ret', 34)
        exact ⟨by rw [rulesS], rfl⟩
      · exact absurd c8 (by omega)
    | succ m ih =>
      intro t ht
      have hro : rowOf q.2 (26 + t) = q.2 t := by rw [rowOf_in ⟨by omega, by omega⟩, show 26 + t - 26 = t by omega]
      have hrl := (c.2.2.2 t (by omega)).1
      have ih := ih (t + 1) (by omega)
      rw [cntB_step] at ih
      refine R_iload_n dX10_rulesMany_5 rfl ?_
      refine R_bipush (v := nI 86) dX10_rulesMany_6 (by decide) ?_
      refine R_icmp_ge_N (tgt := 33) dX10_rulesMany_8 (by decide) (by omega) (by omega) (fun c8 => ?_) (fun c8 => ?_)
      -- X10_rulesMany: ('branch', 8, 33, 11)
      · exact absurd c8 (by omega)
      · refine R_iload_n dX10_rulesMany_11 rfl ?_
        refine R_aload_n dX10_rulesMany_12 rfl ?_
        refine R_iload_n dX10_rulesMany_13 rfl ?_
        -- X10_rulesMany: ('call', 14, '.invokevirtual', 106)
        refine R_callV v_X10_rowLong (Md_rowLong x c (s := 26 + t) (by omega)) dX10_rulesMany_14 l_RX10_106 rfl rfl x.1 (Nat.le_of_ble_eq_true rfl) (by omega) rfl rfl (fun v h3 hq => ?_)
        obtain ⟨rfl, e9⟩ := hq
        rw [e9, hro]
        refine R_if_le_N (tgt := 24) dX10_rulesMany_17 (by decide) (by omega) (fun c17 => ?_) (fun c17 => ?_)
        -- X10_rulesMany: ('branch', 17, 24, 20)
        · rw [decide_eq_false (by omega), if_neg (by decide)] at ih
          refine R_iconst (v := nI 0) dX10_rulesMany_24 (by decide) ?_
          refine R_iadd_N dX10_rulesMany_25 ?_
          refine R_istore1 dX10_rulesMany_26 (by decide) ?_
          refine R_iinc2 dX10_rulesMany_27 (by decide) (nI_inc _ 1) ?_
          refine R_goto (tgt := 5) dX10_rulesMany_30 (by decide) ?_
          -- X10_rulesMany: ('stop', 5)
          rw [show 26 + t + 1 = 26 + (t + 1) by omega]
          exact ih
        · rw [decide_eq_true c17, if_pos rfl] at ih
          refine R_iconst (v := nI 1) dX10_rulesMany_20 (by decide) ?_
          refine R_goto (tgt := 25) dX10_rulesMany_21 (by decide) ?_
          refine R_iadd_N dX10_rulesMany_25 ?_
          refine R_istore1 dX10_rulesMany_26 (by decide) ?_
          refine R_iinc2 dX10_rulesMany_27 (by decide) (nI_inc _ 1) ?_
          refine R_goto (tgt := 5) dX10_rulesMany_30 (by decide) ?_
          -- X10_rulesMany: ('stop', 5)
          rw [show 26 + t + 1 = 26 + (t + 1) by omega]
          exact ih
  refine R_iconst (v := nI 0) dX10_rulesMany_0 (by decide) ?_
  refine R_istore1 dX10_rulesMany_1 (by decide) ?_
  refine R_bipush (v := nI 26) dX10_rulesMany_2 (by decide) ?_
  refine R_istore2 dX10_rulesMany_4 (by decide) ?_
  -- X10_rulesMany: ('stop', 5)
  exact loop 60 0 (by omega)
theorem Md_idle (x : MdAt E h M S) (c : curF (S.2 1) q) (h86 : ∀ y ∈ q.1, y < 86) (hr86 : ∀ i, i < 60 → ∀ y ∈ q.2 i, y < 86) : Spec E k_X10_idle 5 0 0 [.ref M] h (fun v h' => v = some (.int (oI 26 (idleS q.1 q.2))) ∧ h' = h) := by
  have hl := c.1
  refine Spec.of (by decide +kernel) (by simp [Value.category]) (Nat.le_of_ble_eq_true rfl) ?_
  show WP E k_X10_idle 5 0 0 0 [some (.ref M), none, none] [] h _
  have loop : ∀ m t (z : Option Value), t + m = 60 → fstB (fun i => decide (idleP q.1 q.2 i)) t = none → WP E k_X10_idle 5 0 0 3 [some (.ref M), some (.int (nI (26 + t))), z] [] h (fun v h' => v = some (.int (oI 26 (idleS q.1 q.2))) ∧ h' = h) := by
    intro m
    induction m with
    | zero =>
      intro t z ht hf
      obtain rfl : t = 60 := by omega
      refine R_iload_n dX10_idle_3 rfl ?_
      refine R_bipush (v := nI 86) dX10_idle_4 (by decide) ?_
      refine R_icmp_ge_N (tgt := 52) dX10_idle_6 (by decide) (by omega) (by omega) (fun c6 => ?_) (fun c6 => ?_)
      -- X10_idle: ('branch', 6, 52, 9)
      · refine R_iconst (v := (-1)) dX10_idle_52 (by decide) ?_
        refine R_ireturn dX10_idle_53 rfl rfl ?_
        -- X10_idle: ('ret', 53)
        exact ⟨by rw [idleS, hf]; rfl, rfl⟩
      · exact absurd c6 (by omega)
    | succ m ih =>
      intro t z ht hf
      have hro : rowOf q.2 (26 + t) = q.2 t := by rw [rowOf_in ⟨by omega, by omega⟩, show 26 + t - 26 = t by omega]
      have hrl := (c.2.2.2 t (by omega)).1
      have skip : ∀ z, ¬ idleP q.1 q.2 t → WP E k_X10_idle 5 0 0 46 [some (.ref M), some (.int (nI (26 + t))), z] [] h (fun v h' => v = some (.int (oI 26 (idleS q.1 q.2))) ∧ h' = h) := by
        intro z e
        refine R_iinc1 dX10_idle_46 (by decide) (nI_inc _ 1) ?_
        refine R_goto (tgt := 3) dX10_idle_49 (by decide) ?_
        -- X10_idle: ('stop', 3)
        rw [show 26 + t + 1 = 26 + (t + 1) by omega]
        exact ih (t + 1) _ (by omega) (fstB_step hf (decide_eq_false e))
      have take : ∀ z, idleP q.1 q.2 t → WP E k_X10_idle 5 0 0 44 [some (.ref M), some (.int (nI (26 + t))), z] [] h (fun v h' => v = some (.int (oI 26 (idleS q.1 q.2))) ∧ h' = h) := by
        intro z e
        refine R_iload_n dX10_idle_44 rfl ?_
        refine R_ireturn dX10_idle_45 rfl rfl ?_
        -- X10_idle: ('ret', 45)
        have : idleS q.1 q.2 = some t := fstB_at hf (decide_eq_true e) (by omega)
        exact ⟨by rw [this]; rfl, rfl⟩
      refine R_iload_n dX10_idle_3 rfl ?_
      refine R_bipush (v := nI 86) dX10_idle_4 (by decide) ?_
      refine R_icmp_ge_N (tgt := 52) dX10_idle_6 (by decide) (by omega) (by omega) (fun c6 => ?_) (fun c6 => ?_)
      -- X10_idle: ('branch', 6, 52, 9)
      · exact absurd c6 (by omega)
      · refine R_aload_n dX10_idle_9 rfl ?_
        refine R_iload_n dX10_idle_10 rfl ?_
        -- X10_idle: ('call', 11, '.invokevirtual', 106)
        refine R_callV v_X10_rowLong (Md_rowLong x c (s := 26 + t) (by omega)) dX10_idle_11 l_RX10_106 rfl rfl x.1 (Nat.le_of_ble_eq_true rfl) (by omega) rfl rfl (fun v h2 hq => ?_)
        obtain ⟨rfl, e9⟩ := hq
        rw [e9, hro]
        refine R_if_le_N (tgt := 25) dX10_idle_14 (by decide) (by omega) (fun c14 => ?_) (fun c14 => ?_)
        -- X10_idle: ('branch', 14, 25, 17)
        · refine R_iconst (v := nI 2) dX10_idle_25 (by decide) ?_
          refine R_istore2 dX10_idle_26 (by decide) ?_
          refine R_iload_n dX10_idle_27 rfl ?_
          refine R_if_eq_N (tgt := 44) dX10_idle_28 (by decide) (by omega) (fun c28 => ?_) (fun c28 => ?_)
          -- X10_idle: ('branch', 28, 44, 31)
          · exact absurd c28 (by decide)
          · refine R_iload_n dX10_idle_31 rfl ?_
            refine R_iconst (v := nI 1) dX10_idle_32 (by decide) ?_
            refine R_icmp_ne_N (tgt := 46) dX10_idle_33 (by decide) (by omega) (by omega) (fun c33 => ?_) (fun c33 => ?_)
            -- X10_idle: ('branch', 33, 46, 36)
            · exact skip _ (fun e => e.1 (List.eq_nil_of_length_eq_zero c14))
            · exact absurd c33 (by decide)
        · have hne : q.2 t ≠ [] := fun e => by rw [e] at c14; simp at c14
          have hR : isRul q.2 (26 + t) := ⟨by omega, by omega, by rw [show 26 + t - 26 = t by omega]; exact hne⟩
          have hub : usesS q.1 q.2 (26 + t) ≤ 1000 := by
            rw [usesS]
            have h1 : q.1.count (26 + t) ≤ 240 := Nat.le_trans List.count_le_length hl
            have h2 := sumB_le2 (f := fun r => (q.2 r).count (26 + t)) (c := 12) 60 (fun i hi => Nat.le_trans List.count_le_length (c.2.2.2 i hi).1)
            omega
          refine R_aload_n dX10_idle_17 rfl ?_
          refine R_iload_n dX10_idle_18 rfl ?_
          -- X10_idle: ('call', 19, '.invokevirtual', 267)
          refine R_callV v_X10_usesOf (Md_usesOf x c h86 hr86 (s := 26 + t) (by omega)) dX10_idle_19 l_RX10_267 rfl rfl x.1 (Nat.le_of_ble_eq_true rfl) (by omega) rfl rfl (fun v h3 hq => ?_)
          obtain ⟨rfl, e9⟩ := hq
          rw [e9]
          refine R_goto (tgt := 26) dX10_idle_22 (by decide) ?_
          refine R_istore2 dX10_idle_26 (by decide) ?_
          refine R_iload_n dX10_idle_27 rfl ?_
          refine R_if_eq_N (tgt := 44) dX10_idle_28 (by decide) (by omega) (fun c28 => ?_) (fun c28 => ?_)
          -- X10_idle: ('branch', 28, 44, 31)
          · exact take _ ⟨hne, Or.inl c28⟩
          · refine R_iload_n dX10_idle_31 rfl ?_
            refine R_iconst (v := nI 1) dX10_idle_32 (by decide) ?_
            refine R_icmp_ne_N (tgt := 46) dX10_idle_33 (by decide) (by omega) (by omega) (fun c33 => ?_) (fun c33 => ?_)
            -- X10_idle: ('branch', 33, 46, 36)
            · exact skip _ (fun e => e.2.elim c28 (fun w => c33 w.1))
            · refine R_aload_n dX10_idle_36 rfl ?_
              refine R_iload_n dX10_idle_37 rfl ?_
              -- X10_idle: ('call', 38, '.invokevirtual', 258)
              refine R_callV v_X10_canGo (Md_canGo x c hr86 hR) dX10_idle_38 l_RX10_258 rfl rfl x.1 (Nat.le_of_ble_eq_true rfl) (by omega) rfl rfl (fun v h4 hq => ?_)
              obtain ⟨rfl, e9⟩ := hq
              rw [e9]
              by_cases g : canGo q.2 (26 + t)
              · rw [if_pos g]
                refine R_if_eq_N (tgt := 46) dX10_idle_41 (by decide) (by omega) (fun c41 => ?_) (fun c41 => ?_)
                -- X10_idle: ('branch', 41, 46, 44)
                · exact absurd c41 (by decide)
                · exact take _ ⟨hne, Or.inr ⟨c33, g⟩⟩
              · rw [if_neg g]
                refine R_if_eq_N (tgt := 46) dX10_idle_41 (by decide) (by omega) (fun c41 => ?_) (fun c41 => ?_)
                -- X10_idle: ('branch', 41, 46, 44)
                · exact skip _ (fun e => e.2.elim c28 (fun w => g w.2))
                · exact absurd rfl c41
  refine R_bipush (v := nI 26) dX10_idle_0 (by decide) ?_
  refine R_istore1 dX10_idle_2 (by decide) ?_
  -- X10_idle: ('stop', 3)
  exact loop 60 0 none (by omega) rfl
end MD5
