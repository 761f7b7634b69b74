/-! THE MODEL: hits, the depth, the form -/
theorem cross_iff {ru : Ru} {q : List Nat} {p n t x : Nat} (hx : q[t]? = some x) (a1 : lsum (wlen ru) (q.take t) ≤ p) (a2 : p < lsum (wlen ru) (q.take t) + wlen ru x) (hn : 0 < n) (hl : p + n ≤ lsum (wlen ru) q) : (homL ru 0 q)[p]? ≠ (homL ru 0 q)[p + n - 1]? ↔ lsum (wlen ru) (q.take t) + wlen ru x < p + n := by
  rw [(home_is hx a1 a2 (by omega)).1]
  constructor
  · intro h
    apply Classical.byContradiction
    intro c
    exact h (home_is hx (p := p + n - 1) (by omega) (by omega) (by omega)).1.symm
  · intro c h
    obtain ⟨j, y, b, e1, e2, e3, e4, e5, e6⟩ := home_at (ru := ru) q 0 0 (p + n - 1) (by omega)
    rw [e1, Nat.zero_add] at h
    have h := Option.some.inj h
    subst h
    rw [hx] at e2
    cases e2
    omega
section MD13
variable {E : EnvT} {h h1 : Hp} {M : Nat} {S : MSt} {q : Pk} {ds : List Pk} {im : Nat → Pk} {md : Nat → Nat} {tp ph : List Nat} {fk fp : Int32}
theorem MP_hit_no (y : MMAt E h M q ds im md tp ph fk fp) {k : Int32} (hk : k < 0) : Spec E k_X10_hit 66 0 0 [.ref M, .int k] h (fun v h' => v = some (.int (-3)) ∧ MMAt E h' M q ds im md tp ph fk fp ∧ Out h h' M (M + 23)) := by
  obtain ⟨S, x, r⟩ := y
  refine Spec.of (by decide +kernel) (by simp [Value.category]) (Nat.le_of_ble_eq_true rfl) ?_
  show WP E k_X10_hit 66 0 0 0 [some (.ref M), some (.int k), none, none] [] h _
  refine R_aload_n dX10_hit_0 rfl ?_
  refine R_iconst (v := nI 0) dX10_hit_1 (by decide) ?_
  refine R_put_A K_10 (f := 0) (by decide) dX10_hit_2 f_RX10_1 rfl x.1 (by rfl) (by rfl) (Nat.le_of_ble_eq_true rfl) ?_
  intro h0 u0
  have x0 := x.put u0 (by decide)
  have r0 := r.keep (S2 := (upd S.1 0 (nI 0), S.2)) (Ony.refl.put (by decide))
  have g0 : Out h h0 M (M + 23) := Out.upd u0 (by omega) (by omega)
  generalize (upd S.1 0 (nI 0), S.2) = S0 at x0 r0
  refine R_iload_n dX10_hit_5 rfl ?_
  refine R_if_ge (tgt := 12) dX10_hit_6 (by decide) (fun c6 => ?_) (fun c6 => ?_)
  -- X10_hit: ('branch', 6, 12, 9)
  · exact absurd hk (Int32.not_lt.mpr c6)
  · refine R_bipush (v := (-3)) dX10_hit_9 (by decide) ?_
    refine R_ireturn dX10_hit_11 rfl rfl ?_
    -- X10_hit: ('ret', 11)
    exact ⟨rfl, ⟨S0, x0, r0⟩, g0⟩
theorem MP_hit (y : MMAt E h M q ds im md tp ph fk fp) (hq : PkOk q) {k : Nat} (hk : k < 2 ^ 31) : Spec E k_X10_hit 66 0 0 [.ref M, .int (nI k)] h (fun v h' => v = some (.int (if ph.length = 0 then -5 else oI 0 (hitAtS ph (letL q.2 q.1) k))) ∧ MMAt E h' M q ds im md tp ph fk fp ∧ Out h h' M (M + 23)) := by
  have hlen := hq.len
  obtain ⟨S, x, r⟩ := y
  refine Spec.of (by decide +kernel) (by simp [Value.category]) (Nat.le_of_ble_eq_true rfl) ?_
  show WP E k_X10_hit 66 0 0 0 [some (.ref M), some (.int (nI k)), none, none] [] h _
  refine R_aload_n dX10_hit_0 rfl ?_
  refine R_iconst (v := nI 0) dX10_hit_1 (by decide) ?_
  refine R_put_A K_10 (f := 0) (by decide) dX10_hit_2 f_RX10_1 rfl x.1 (by rfl) (by rfl) (Nat.le_of_ble_eq_true rfl) ?_
  intro h0 u0
  have x0 := x.put u0 (by decide)
  have r0 := r.keep (S2 := (upd S.1 0 (nI 0), S.2)) (Ony.refl.put (by decide))
  have g0 : Out h h0 M (M + 23) := Out.upd u0 (by omega) (by omega)
  generalize (upd S.1 0 (nI 0), S.2) = S0 at x0 r0
  have hp := r0.2.2.2.2.1
  have hpl := hp.2.1
  refine R_iload_n dX10_hit_5 rfl ?_
  refine R_if_ge_N (tgt := 12) dX10_hit_6 (by decide) (by omega) ?_
  refine R_aload_n dX10_hit_12 rfl ?_
  refine R_get K_10 (f := 16) (by decide) dX10_hit_13 f_RX10_221 x0.1 (fld_get (k := 16) (by decide) hp.1) ?_
  refine R_if_ne_N (tgt := 22) dX10_hit_16 (by decide) (by omega) (fun c16 => ?_) (fun c16 => ?_)
  -- X10_hit: ('branch', 16, 22, 19)
  rotate_left
  · rw [if_pos c16]
    refine R_bipush (v := (-5)) dX10_hit_19 (by decide) ?_
    refine R_ireturn dX10_hit_21 rfl rfl ?_
    -- X10_hit: ('ret', 21)
    exact ⟨rfl, ⟨S0, x0, r0⟩, g0⟩
  · rw [if_neg c16]
    refine R_aload_n dX10_hit_22 rfl ?_
    -- X10_hit: ('call', 23, '.invokevirtual', 224)
    refine R_callV v_X10_laysText (Md_laysText hq x0 r0.1) dX10_hit_23 l_RX10_224 rfl rfl x0.1 (Nat.le_of_ble_eq_true rfl) (by omega) rfl rfl (fun v h3 hq => ?_)
    obtain ⟨rfl, g3, S3, x3, o3, t3⟩ := hq
    have r3 := r0.keep (o3.mono (by decide) (by decide))
    have fin : MMAt E h3 M q ds im md tp ph fk fp ∧ Out h h3 M (M + 23) := ⟨⟨S3, x3, r3⟩, g0.trans g3⟩
    have V11 := fld_get (M := M) (k := 11) (by decide) t3.2.1
    have loop : ∀ m t, t + m = (letL q.2 q.1).length → fstB (fun j => decide (hitP ph (letL q.2 q.1) j ∧ cntB (fun p => decide (hitP ph (letL q.2 q.1) p)) j = k)) t = none → WP E k_X10_hit 66 0 0 30 [some (.ref M), some (.int (nI k)), some (.int (nI (cntB (fun p => decide (hitP ph (letL q.2 q.1) p)) t))), some (.int (nI t))] [] h3 (fun v h' => v = some (.int (oI 0 (hitAtS ph (letL q.2 q.1) k))) ∧ MMAt E h' M q ds im md tp ph fk fp ∧ Out h h' M (M + 23)) := by
      intro m
      induction m with
      | zero =>
        intro t ht hf
        obtain rfl : t = (letL q.2 q.1).length := by omega
        refine R_iload_n dX10_hit_30 rfl ?_
        refine R_aload_n dX10_hit_31 rfl ?_
        refine R_get K_10 (f := 11) (by decide) dX10_hit_32 f_RX10_120 x3.1 V11 ?_
        refine R_icmp_ge_N (tgt := 65) dX10_hit_35 (by decide) (by omega) (by omega) (fun c35 => ?_) (fun c35 => ?_)
        -- X10_hit: ('branch', 35, 65, 38)
        · refine R_iconst (v := (-1)) dX10_hit_65 (by decide) ?_
          refine R_ireturn dX10_hit_66 rfl rfl ?_
          -- X10_hit: ('ret', 66)
          exact ⟨by rw [hitAtS, hf]; rfl, fin⟩
        · exact absurd c35 (by omega)
      | succ m ih =>
        intro t ht hf
        have ih := ih (t + 1) (by omega)
        have hcl := cntB_le (fun p => decide (hitP ph (letL q.2 q.1) p)) t
        rw [cntB_step] at ih
        refine R_iload_n dX10_hit_30 rfl ?_
        refine R_aload_n dX10_hit_31 rfl ?_
        refine R_get K_10 (f := 11) (by decide) dX10_hit_32 f_RX10_120 x3.1 V11 ?_
        refine R_icmp_ge_N (tgt := 65) dX10_hit_35 (by decide) (by omega) (by omega) (fun c35 => ?_) (fun c35 => ?_)
        -- X10_hit: ('branch', 35, 65, 38)
        · exact absurd c35 (by omega)
        · refine R_aload_n dX10_hit_38 rfl ?_
          refine R_iload_n dX10_hit_39 rfl ?_
          -- X10_hit: ('call', 40, '.invokevirtual', 307)
          refine R_callV v_X10_isHit (Md_isHit x3 t3 r3.2.2.2.2.1 hlen (p := t) (by omega) letL_lt) dX10_hit_40 l_RX10_307 rfl rfl x3.1 (Nat.le_of_ble_eq_true rfl) (by omega) rfl rfl (fun v h4 hq => ?_)
          obtain ⟨rfl, e9⟩ := hq
          rw [e9]
          by_cases ch : hitP ph (letL q.2 q.1) t
          · rw [if_pos (decide_eq_true ch)] at ih
            rw [if_pos ch]
            refine R_if_ne_N (tgt := 49) dX10_hit_43 (by decide) (by omega) (fun c43 => ?_) (fun c43 => ?_)
            -- X10_hit: ('branch', 43, 49, 46)
            rotate_left
            · exact absurd c43 (by decide)
            · refine R_iload_n dX10_hit_49 rfl ?_
              refine R_iload_n dX10_hit_50 rfl ?_
              refine R_icmp_ne_N (tgt := 56) dX10_hit_51 (by decide) (by omega) (by omega) (fun c51 => ?_) (fun c51 => ?_)
              -- X10_hit: ('branch', 51, 56, 54)
              · refine R_iinc2 dX10_hit_56 (by decide) (nI_inc _ 1) ?_
                refine R_iinc3 dX10_hit_59 (by decide) (nI_inc _ 1) ?_
                refine R_goto (tgt := 30) dX10_hit_62 (by decide) ?_
                -- X10_hit: ('stop', 30)
                exact ih (fstB_step hf (decide_eq_false (fun z => c51 z.2)))
              · refine R_iload_n dX10_hit_54 rfl ?_
                refine R_ireturn dX10_hit_55 rfl rfl ?_
                -- X10_hit: ('ret', 55)
                have : hitAtS ph (letL q.2 q.1) k = some t := fstB_at hf (decide_eq_true ⟨ch, c51⟩) (by omega)
                exact ⟨by rw [this]; show _ = some (Value.int (nI (0 + t))); rw [Nat.zero_add], fin⟩
          · rw [if_neg (by rw [decide_eq_false ch]; decide), Nat.add_zero] at ih
            rw [if_neg ch]
            refine R_if_ne_N (tgt := 49) dX10_hit_43 (by decide) (by omega) (fun c43 => ?_) (fun c43 => ?_)
            -- X10_hit: ('branch', 43, 49, 46)
            rotate_left
            · refine R_goto (tgt := 59) dX10_hit_46 (by decide) ?_
              refine R_iinc3 dX10_hit_59 (by decide) (nI_inc _ 1) ?_
              refine R_goto (tgt := 30) dX10_hit_62 (by decide) ?_
              -- X10_hit: ('stop', 30)
              exact ih (fstB_step hf (decide_eq_false (fun z => ch z.1)))
            · exact absurd rfl c43
    refine R_iconst (v := nI 0) dX10_hit_26 (by decide) ?_
    refine R_istore2 dX10_hit_27 (by decide) ?_
    refine R_iconst (v := nI 0) dX10_hit_28 (by decide) ?_
    refine R_istore3 dX10_hit_29 (by decide) ?_
    -- X10_hit: ('stop', 30)
    exact loop (letL q.2 q.1).length 0 (by omega) rfl
theorem Md_crossing (hq : PkOk q) (x : MdAt E h M S) (c : curF (S.2 1) q) (w : WAll q.2 S) (t3 : TxAt S q) (hp : mPhr S ph) : Spec E k_X10_crossing 2 0 0 [.ref M] h (fun v h' => v = some (.int (nI (crossS ph (letL q.2 q.1) (homL q.2 0 q.1)))) ∧ h' = h) := by
  have hlen := hq.len
  have hll := letL_len (ru := q.2) (q := q.1)
  have hql := c.1
  have V16 := fld_get (M := M) (k := 16) (by decide) hp.1
  have hpl := hp.2.1
  refine Spec.of (by decide +kernel) (by simp [Value.category]) (Nat.le_of_ble_eq_true rfl) ?_
  show WP E k_X10_crossing 2 0 0 0 [some (.ref M), none, none, none, none, none] [] h _
  have inner : ∀ m t y p, q.1[t]? = some y → lsum (wlen q.2) (q.1.take t) ≤ p → p + m = lsum (wlen q.2) (q.1.take t) + wlen q.2 y → lsum (wlen q.2) (q.1.take t) + wlen q.2 y ≤ lsum (wlen q.2) q.1 → (∀ z4 z5, WP E k_X10_crossing 2 0 0 6 [some (.ref M), some (.int (nI (cntB (fun p => decide (hitP ph (letL q.2 q.1) p ∧ (homL q.2 0 q.1)[p]? ≠ (homL q.2 0 q.1)[p + ph.length - 1]?)) (lsum (wlen q.2) (q.1.take t) + wlen q.2 y)))), some (.int (nI (lsum (wlen q.2) (q.1.take t) + wlen q.2 y))), some (.int (nI (t + 1))), z4, z5] [] h (fun v h' => v = some (.int (nI (crossS ph (letL q.2 q.1) (homL q.2 0 q.1)))) ∧ h' = h)) → WP E k_X10_crossing 2 0 0 31 [some (.ref M), some (.int (nI (cntB (fun p => decide (hitP ph (letL q.2 q.1) p ∧ (homL q.2 0 q.1)[p]? ≠ (homL q.2 0 q.1)[p + ph.length - 1]?)) p))), some (.int (nI (lsum (wlen q.2) (q.1.take t)))), some (.int (nI t)), some (.int (nI (lsum (wlen q.2) (q.1.take t) + wlen q.2 y))), some (.int (nI p))] [] h (fun v h' => v = some (.int (nI (crossS ph (letL q.2 q.1) (homL q.2 0 q.1)))) ∧ h' = h) := by
    intro m
    induction m with
    | zero =>
      intro t y p hy h1 h2 h3 kk
      rw [Nat.add_zero] at h2
      rw [h2]
      have ht := (List.getElem?_eq_some_iff.mp hy).1
      refine R_iload dX10_crossing_31 rfl ?_
      refine R_iload dX10_crossing_33 rfl ?_
      refine R_icmp_ge_N (tgt := 73) dX10_crossing_35 (by decide) (by omega) (by omega) (fun c35 => ?_) (fun c35 => ?_)
      -- X10_crossing: ('branch', 35, 73, 38)
      · refine R_iload dX10_crossing_73 rfl ?_
        refine R_istore2 dX10_crossing_75 (by decide) ?_
        refine R_iinc3 dX10_crossing_76 (by decide) (nI_inc _ 1) ?_
        refine R_goto (tgt := 6) dX10_crossing_79 (by decide) ?_
        -- X10_crossing: ('stop', 6)
        exact kk _ _
      · exact absurd c35 (by omega)
    | succ m ih =>
      intro t y p hy h1 h2 h3 kk
      have ih := ih t y (p + 1) hy (by omega) (by omega) h3 kk
      have hcl := cntB_le (fun p => decide (hitP ph (letL q.2 q.1) p ∧ (homL q.2 0 q.1)[p]? ≠ (homL q.2 0 q.1)[p + ph.length - 1]?)) p
      rw [cntB_step] at ih
      refine R_iload dX10_crossing_31 rfl ?_
      refine R_iload dX10_crossing_33 rfl ?_
      refine R_icmp_ge_N (tgt := 73) dX10_crossing_35 (by decide) (by omega) (by omega) (fun c35 => ?_) (fun c35 => ?_)
      -- X10_crossing: ('branch', 35, 73, 38)
      · exact absurd c35 (by omega)
      · refine R_iload_n dX10_crossing_38 rfl ?_
        refine R_aload_n dX10_crossing_39 rfl ?_
        refine R_iload dX10_crossing_40 rfl ?_
        -- X10_crossing: ('call', 42, '.invokevirtual', 307)
        refine R_callV v_X10_isHit (Md_isHit x t3 hp hlen (p := p) (by omega) letL_lt) dX10_crossing_42 l_RX10_307 rfl rfl x.1 (Nat.le_of_ble_eq_true rfl) (by omega) rfl rfl (fun v h4 hq => ?_)
        obtain ⟨rfl, e9⟩ := hq
        rw [e9]
        by_cases ch : hitP ph (letL q.2 q.1) p
        · have hl := hitP_len ch
          have hci := cross_iff (ru := q.2) hy h1 (by omega) hl.2 (by omega)
          rw [if_pos ch]
          refine R_if_eq_N (tgt := 64) dX10_crossing_45 (by decide) (by omega) (fun c45 => ?_) (fun c45 => ?_)
          -- X10_crossing: ('branch', 45, 64, 48)
          · exact absurd c45 (by decide)
          · refine R_iload dX10_crossing_48 rfl ?_
            refine R_aload_n dX10_crossing_50 rfl ?_
            refine R_get K_10 (f := 16) (by decide) dX10_crossing_51 f_RX10_221 x.1 V16 ?_
            refine R_iadd_N dX10_crossing_54 ?_
            refine R_iload dX10_crossing_55 rfl ?_
            refine R_icmp_le_N (tgt := 64) dX10_crossing_57 (by decide) (by omega) (by omega) (fun c57 => ?_) (fun c57 => ?_)
            -- X10_crossing: ('branch', 57, 64, 60)
            · rw [if_neg (by rw [decide_eq_false (fun z => by have := hci.mp z.2; omega)]; decide)] at ih
              refine R_iconst (v := nI 0) dX10_crossing_64 (by decide) ?_
              refine R_iadd_N dX10_crossing_65 ?_
              refine R_istore1 dX10_crossing_66 (by decide) ?_
              refine R_iinc5 dX10_crossing_67 (by decide) (nI_inc _ 1) ?_
              refine R_goto (tgt := 31) dX10_crossing_70 (by decide) ?_
              -- X10_crossing: ('stop', 31)
              exact ih
            · rw [if_pos (decide_eq_true ⟨ch, hci.mpr (by omega)⟩)] at ih
              refine R_iconst (v := nI 1) dX10_crossing_60 (by decide) ?_
              refine R_goto (tgt := 65) dX10_crossing_61 (by decide) ?_
              refine R_iadd_N dX10_crossing_65 ?_
              refine R_istore1 dX10_crossing_66 (by decide) ?_
              refine R_iinc5 dX10_crossing_67 (by decide) (nI_inc _ 1) ?_
              refine R_goto (tgt := 31) dX10_crossing_70 (by decide) ?_
              -- X10_crossing: ('stop', 31)
              exact ih
        · rw [if_neg (by rw [decide_eq_false (fun z => ch z.1)]; decide)] at ih
          rw [if_neg ch]
          refine R_if_eq_N (tgt := 64) dX10_crossing_45 (by decide) (by omega) (fun c45 => ?_) (fun c45 => ?_)
          -- X10_crossing: ('branch', 45, 64, 48)
          · refine R_iconst (v := nI 0) dX10_crossing_64 (by decide) ?_
            refine R_iadd_N dX10_crossing_65 ?_
            refine R_istore1 dX10_crossing_66 (by decide) ?_
            refine R_iinc5 dX10_crossing_67 (by decide) (nI_inc _ 1) ?_
            refine R_goto (tgt := 31) dX10_crossing_70 (by decide) ?_
            -- X10_crossing: ('stop', 31)
            exact ih
          · exact absurd rfl c45
  have outer : ∀ m t, t + m = q.1.length → ∀ z4 z5, WP E k_X10_crossing 2 0 0 6 [some (.ref M), some (.int (nI (cntB (fun p => decide (hitP ph (letL q.2 q.1) p ∧ (homL q.2 0 q.1)[p]? ≠ (homL q.2 0 q.1)[p + ph.length - 1]?)) (lsum (wlen q.2) (q.1.take t))))), some (.int (nI (lsum (wlen q.2) (q.1.take t)))), some (.int (nI t)), z4, z5] [] h (fun v h' => v = some (.int (nI (crossS ph (letL q.2 q.1) (homL q.2 0 q.1)))) ∧ h' = h) := by
    intro m
    induction m with
    | zero =>
      intro t ht z4 z5
      obtain rfl : t = q.1.length := by omega
      refine R_iload_n dX10_crossing_6 rfl ?_
      refine R_aload_n dX10_crossing_7 rfl ?_
      -- X10_crossing: ('call', 8, '.invokevirtual', 123)
      refine R_callV v_X10_many (Md_many x c) dX10_crossing_8 l_RX10_123 rfl rfl x.1 (Nat.le_of_ble_eq_true rfl) (by omega) rfl rfl (fun v h4 hq => ?_)
      obtain ⟨rfl, e9⟩ := hq
      rw [e9]
      refine R_icmp_ge_N (tgt := 82) dX10_crossing_11 (by decide) (by omega) (by omega) (fun c11 => ?_) (fun c11 => ?_)
      -- X10_crossing: ('branch', 11, 82, 14)
      · refine R_iload_n dX10_crossing_82 rfl ?_
        refine R_ireturn dX10_crossing_83 rfl rfl ?_
        -- X10_crossing: ('ret', 83)
        exact ⟨by rw [crossS, List.take_length, hll], rfl⟩
      · exact absurd c11 (by omega)
    | succ m ih =>
      intro t ht z4 z5
      obtain ⟨y, hy⟩ := getE (l := q.1) (i := t) (by omega)
      have hys := hq.2.1 y (List.mem_of_getElem? hy)
      have hy86 := isSg_lt hys
      have hsum : lsum (wlen q.2) (q.1.take t) + wlen q.2 y ≤ lsum (wlen q.2) q.1 := by
        have e := congrArg (lsum (wlen q.2)) (split_at hy)
        rw [lsum_app, lsum] at e
        omega
      have ih := ih (t + 1) (by omega)
      rw [take_snoc hy, lsum_app, lsum, lsum, Nat.add_zero] at ih
      refine R_iload_n dX10_crossing_6 rfl ?_
      refine R_aload_n dX10_crossing_7 rfl ?_
      -- X10_crossing: ('call', 8, '.invokevirtual', 123)
      refine R_callV v_X10_many (Md_many x c) dX10_crossing_8 l_RX10_123 rfl rfl x.1 (Nat.le_of_ble_eq_true rfl) (by omega) rfl rfl (fun v h4 hq => ?_)
      obtain ⟨rfl, e9⟩ := hq
      rw [e9]
      refine R_icmp_ge_N (tgt := 82) dX10_crossing_11 (by decide) (by omega) (by omega) (fun c11 => ?_) (fun c11 => ?_)
      -- X10_crossing: ('branch', 11, 82, 14)
      · exact absurd c11 (by omega)
      · refine R_iload_n dX10_crossing_14 rfl ?_
        refine R_aload_n dX10_crossing_15 rfl ?_
        refine R_get K_10 (f := 7) (by decide) dX10_crossing_16 f_RX10_30 x.1 rfl ?_
        refine R_aload_n dX10_crossing_19 rfl ?_
        refine R_iload_n dX10_crossing_20 rfl ?_
        -- X10_crossing: ('call', 21, '.invokevirtual', 127)
        refine R_callV v_X10_signAt (Md_signAt x c hy) dX10_crossing_21 l_RX10_127 rfl rfl x.1 (Nat.le_of_ble_eq_true rfl) (by omega) rfl rfl (fun v h5 hq => ?_)
        obtain ⟨rfl, e9⟩ := hq
        rw [e9]
        refine R_iaload_N dX10_crossing_24 x.a6 (by omega) (by omega) (w y hys).1 ?_
        refine R_iadd_N dX10_crossing_25 ?_
        refine R_istore4 dX10_crossing_26 (by decide) ?_
        refine R_iload_n dX10_crossing_28 rfl ?_
        refine R_istore5 dX10_crossing_29 (by decide) ?_
        -- X10_crossing: ('stop', 31)
        exact inner (wlen q.2 y) t y _ hy (Nat.le_refl _) rfl hsum ih
  refine R_iconst (v := nI 0) dX10_crossing_0 (by decide) ?_
  refine R_istore1 dX10_crossing_1 (by decide) ?_
  refine R_iconst (v := nI 0) dX10_crossing_2 (by decide) ?_
  refine R_istore2 dX10_crossing_3 (by decide) ?_
  refine R_iconst (v := nI 0) dX10_crossing_4 (by decide) ?_
  refine R_istore3 dX10_crossing_5 (by decide) ?_
  -- X10_crossing: ('stop', 6)
  exact outer q.1.length 0 (by omega) none none
theorem MP_hits (y : MMAt E h M q ds im md tp ph fk fp) (hq : PkOk q) (w : Int32) : Spec E k_X10_hits 67 0 0 [.ref M, .int w] h (fun v h' => v = some (.int (hitsI q ph w)) ∧ MMAt E h' M q ds im md tp ph fk fp ∧ Out h h' M (M + 23)) := by
  have hlen := hq.len
  obtain ⟨S, x, r⟩ := y
  refine Spec.of (by decide +kernel) (by simp [Value.category]) (Nat.le_of_ble_eq_true rfl) ?_
  show WP E k_X10_hits 67 0 0 0 [some (.ref M), some (.int w)] [] h _
  refine R_aload_n dX10_hits_0 rfl ?_
  refine R_iconst (v := nI 0) dX10_hits_1 (by decide) ?_
  refine R_put_A K_10 (f := 0) (by decide) dX10_hits_2 f_RX10_1 rfl x.1 (by rfl) (by rfl) (Nat.le_of_ble_eq_true rfl) ?_
  intro h0 u0
  have x0 := x.put u0 (by decide)
  have r0 := r.keep (S2 := (upd S.1 0 (nI 0), S.2)) (Ony.refl.put (by decide))
  have g0 : Out h h0 M (M + 23) := Out.upd u0 (by omega) (by omega)
  generalize (upd S.1 0 (nI 0), S.2) = S0 at x0 r0
  have hp := r0.2.2.2.2.1
  have hpl := hp.2.1
  have V16 := fld_get (M := M) (k := 16) (by decide) hp.1
  refine R_iload_n dX10_hits_5 rfl ?_
  refine R_i2l dX10_hits_6 ?_
  refine R_lconst (v := 0) dX10_hits_7 rfl ?_
  refine R_ldc2 dX10_hits_8 cl_RX10_286 ?_
  -- X10_hits: ('call', 11, '.invokestatic', 98)
  refine R_callS s_X10_isIn (Md_isIn w (nI 0) (nI 2) (by decide) (by decide)) dX10_hits_11 l_RX10_98 rfl rfl (Nat.le_of_ble_eq_true rfl) (by omega) rfl rfl (fun v h2 hq => ?_)
  obtain ⟨rfl, e9⟩ := hq
  rw [e9]
  by_cases cw : w < 0 ∨ nI 2 < w
  · rw [if_neg (fun z => in02.mp z cw), hitsI, if_pos cw]
    refine R_if_ne_N (tgt := 20) dX10_hits_14 (by decide) (by omega) (fun c14 => ?_) (fun c14 => ?_)
    -- X10_hits: ('branch', 14, 20, 17)
    · exact absurd rfl c14
    · refine R_bipush (v := (-2)) dX10_hits_17 (by decide) ?_
      refine R_ireturn dX10_hits_19 rfl rfl ?_
      -- X10_hits: ('ret', 19)
      exact ⟨rfl, ⟨S0, x0, r0⟩, g0⟩
  · rw [if_pos (in02.mpr cw), hitsI, if_neg cw]
    refine R_if_ne_N (tgt := 20) dX10_hits_14 (by decide) (by omega) (fun c14 => ?_) (fun c14 => ?_)
    -- X10_hits: ('branch', 14, 20, 17)
    · refine R_iload_n dX10_hits_20 rfl ?_
      refine R_iconst (v := nI 2) dX10_hits_21 (by decide) ?_
      refine R_icmp_ne (tgt := 30) dX10_hits_22 (by decide) (fun c22 => ?_) (fun c22 => ?_)
      -- X10_hits: ('branch', 22, 30, 25)
      · rw [if_neg c22]
        refine R_aload_n dX10_hits_30 rfl ?_
        refine R_get K_10 (f := 16) (by decide) dX10_hits_31 f_RX10_221 x0.1 V16 ?_
        refine R_if_ne_N (tgt := 40) dX10_hits_34 (by decide) (by omega) (fun c34 => ?_) (fun c34 => ?_)
        -- X10_hits: ('branch', 34, 40, 37)
        rotate_left
        · rw [if_pos c34]
          refine R_bipush (v := (-5)) dX10_hits_37 (by decide) ?_
          refine R_ireturn dX10_hits_39 rfl rfl ?_
          -- X10_hits: ('ret', 39)
          exact ⟨rfl, ⟨S0, x0, r0⟩, g0⟩
        · rw [if_neg c34]
          refine R_aload_n dX10_hits_40 rfl ?_
          -- X10_hits: ('call', 41, '.invokevirtual', 134)
          refine R_callV v_X10_laysWords (Md_laysWords hq x0 r0.1) dX10_hits_41 l_RX10_134 rfl rfl x0.1 (Nat.le_of_ble_eq_true rfl) (by omega) rfl rfl (fun v h3 hq => ?_)
          obtain ⟨rfl, g3, S3, x3, o3, w3⟩ := hq
          have r3 := r0.keep (o3.mono (by decide) (by decide))
          refine R_aload_n dX10_hits_44 rfl ?_
          -- X10_hits: ('call', 45, '.invokevirtual', 224)
          refine R_callV v_X10_laysText (Md_laysText hq x3 r3.1) dX10_hits_45 l_RX10_224 rfl rfl x3.1 (Nat.le_of_ble_eq_true rfl) (by omega) rfl rfl (fun v h4 hq => ?_)
          obtain ⟨rfl, g4, S4, x4, o4, t4⟩ := hq
          have r4 := r3.keep (o4.mono (by decide) (by decide))
          have w4 : WAll q.2 S4 := fun s hs => by have := w3 s hs; exact ⟨by rw [o4.1 6 (by decide)]; exact this.1, by rw [o4.1 7 (by decide)]; exact this.2⟩
          have fin : MMAt E h4 M q ds im md tp ph fk fp ∧ Out h h4 M (M + 23) := ⟨⟨S4, x4, r4⟩, (g0.trans g3).trans g4⟩
          refine R_iload_n dX10_hits_48 rfl ?_
          refine R_if_ne (tgt := 59) dX10_hits_49 (by decide) (fun c49 => ?_) (fun c49 => ?_)
          -- X10_hits: ('branch', 49, 59, 52)
          · rw [if_neg c49]
            refine R_aload_n dX10_hits_59 rfl ?_
            -- X10_hits: ('call', 60, '.invokevirtual', 310)
            refine R_callV v_X10_crossing (Md_crossing hq x4 r4.1 w4 t4 r4.2.2.2.2.1) dX10_hits_60 l_RX10_310 rfl rfl x4.1 (Nat.le_of_ble_eq_true rfl) (by omega) rfl rfl (fun v h5 hq => ?_)
            obtain ⟨rfl, e9⟩ := hq
            rw [e9]
            refine R_ireturn dX10_hits_63 rfl rfl ?_
            -- X10_hits: ('ret', 63)
            exact ⟨rfl, fin⟩
          · rw [if_pos c49]
            refine R_aload_n dX10_hits_52 rfl ?_
            -- X10_hits: ('call', 53, '.invokevirtual', 227)
            refine R_callV v_X10_hitsIn (Md_hitsIn x4 t4 r4.2.2.2.2.1 hlen letL_lt) dX10_hits_53 l_RX10_227 rfl rfl x4.1 (Nat.le_of_ble_eq_true rfl) (by omega) rfl rfl (fun v h5 hq => ?_)
            obtain ⟨rfl, e9⟩ := hq
            rw [e9]
            refine R_goto (tgt := 63) dX10_hits_56 (by decide) ?_
            refine R_ireturn dX10_hits_63 rfl rfl ?_
            -- X10_hits: ('ret', 63)
            exact ⟨rfl, fin⟩
      · rw [if_pos c22]
        refine R_aload_n dX10_hits_25 rfl ?_
        refine R_get K_10 (f := 16) (by decide) dX10_hits_26 f_RX10_221 x0.1 V16 ?_
        refine R_ireturn dX10_hits_29 rfl rfl ?_
        -- X10_hits: ('ret', 29)
        exact ⟨rfl, ⟨S0, x0, r0⟩, g0⟩
    · exact absurd c14 (by decide)
theorem Md_deepest (hq : PkOk q) (x : MdAt E h M S) (c : curF (S.2 1) q) : Spec E k_X10_deepest 66 0 0 [.ref M] h (fun v h' => v = some (.int (nI (lmax (dpt q.2) q.1))) ∧ Out h h' M (M + 23) ∧ ∃ S', MdAt E h' M S' ∧ Ony [6, 7] [] S S') := by
  have hql := c.1
  refine Spec.of (by decide +kernel) (by simp [Value.category]) (Nat.le_of_ble_eq_true rfl) ?_
  show WP E k_X10_deepest 66 0 0 0 [some (.ref M), none, none] [] h _
  refine R_aload_n dX10_deepest_0 rfl ?_
  -- X10_deepest: ('call', 1, '.invokevirtual', 134)
  refine R_callV v_X10_laysWords (Md_laysWords hq x c) dX10_deepest_1 l_RX10_134 rfl rfl x.1 (Nat.le_of_ble_eq_true rfl) (by omega) rfl rfl (fun v h2 hq => ?_)
  obtain ⟨rfl, g2, S2, x2, o2, w2⟩ := hq
  have c2 : curF (S2.2 1) q := by rw [o2.a1 (by decide)]; exact c
  have loop : ∀ m t, t + m = q.1.length → WP E k_X10_deepest 66 0 0 8 [some (.ref M), some (.int (nI (lmax (dpt q.2) (q.1.take t)))), some (.int (nI t))] [] h2 (fun v h' => v = some (.int (nI (lmax (dpt q.2) q.1))) ∧ Out h h' M (M + 23) ∧ ∃ S', MdAt E h' M S' ∧ Ony [6, 7] [] S S') := by
    intro m
    induction m with
    | zero =>
      intro t ht
      refine R_iload_n dX10_deepest_8 rfl ?_
      refine R_aload_n dX10_deepest_9 rfl ?_
      -- X10_deepest: ('call', 10, '.invokevirtual', 123)
      refine R_callV v_X10_many (Md_many x2 c2) dX10_deepest_10 l_RX10_123 rfl rfl x2.1 (Nat.le_of_ble_eq_true rfl) (by omega) rfl rfl (fun v h4 hq => ?_)
      obtain ⟨rfl, e9⟩ := hq
      rw [e9]
      refine R_icmp_ge_N (tgt := 37) dX10_deepest_13 (by decide) (by omega) (by omega) (fun c13 => ?_) (fun c13 => ?_)
      -- X10_deepest: ('branch', 13, 37, 16)
      · refine R_iload_n dX10_deepest_37 rfl ?_
        refine R_ireturn dX10_deepest_38 rfl rfl ?_
        -- X10_deepest: ('ret', 38)
        exact ⟨by rw [List.take_of_length_le (by omega)], g2, S2, x2, o2⟩
      · exact absurd c13 (by omega)
    | succ m ih =>
      intro t ht
      obtain ⟨y, hy⟩ := getE (l := q.1) (i := t) (by omega)
      have hys := hq.2.1 y (List.mem_of_getElem? hy)
      have hy86 := isSg_lt hys
      have hmx : lmax (dpt q.2) (q.1.take t) ≤ 60 := lmax_le (fun x _ => dpt_le q.2 x)
      have hyd := dpt_le q.2 y
      have ih := ih (t + 1) (by omega)
      rw [take_snoc hy, lmax_app, lmax, lmax, Nat.max_zero] at ih
      refine R_iload_n dX10_deepest_8 rfl ?_
      refine R_aload_n dX10_deepest_9 rfl ?_
      -- X10_deepest: ('call', 10, '.invokevirtual', 123)
      refine R_callV v_X10_many (Md_many x2 c2) dX10_deepest_10 l_RX10_123 rfl rfl x2.1 (Nat.le_of_ble_eq_true rfl) (by omega) rfl rfl (fun v h4 hq => ?_)
      obtain ⟨rfl, e9⟩ := hq
      rw [e9]
      refine R_icmp_ge_N (tgt := 37) dX10_deepest_13 (by decide) (by omega) (by omega) (fun c13 => ?_) (fun c13 => ?_)
      -- X10_deepest: ('branch', 13, 37, 16)
      · exact absurd c13 (by omega)
      · refine R_iload_n dX10_deepest_16 rfl ?_
        refine R_aload_n dX10_deepest_17 rfl ?_
        refine R_get K_10 (f := 8) (by decide) dX10_deepest_18 f_RX10_33 x2.1 rfl ?_
        refine R_aload_n dX10_deepest_21 rfl ?_
        refine R_iload_n dX10_deepest_22 rfl ?_
        -- X10_deepest: ('call', 23, '.invokevirtual', 127)
        refine R_callV v_X10_signAt (Md_signAt x2 c2 hy) dX10_deepest_23 l_RX10_127 rfl rfl x2.1 (Nat.le_of_ble_eq_true rfl) (by omega) rfl rfl (fun v h5 hq => ?_)
        obtain ⟨rfl, e9⟩ := hq
        rw [e9]
        refine R_iaload_N dX10_deepest_26 x2.a7 (by omega) (by omega) (w2 y hys).2 ?_
        -- X10_deepest: ('call', 27, '.invokestatic', 117)
        refine R_callS s_X10_greater (Md_greater (a := lmax (dpt q.2) (q.1.take t)) (b := dpt q.2 y) (by omega) (by omega)) dX10_deepest_27 l_RX10_117 rfl rfl (Nat.le_of_ble_eq_true rfl) (by omega) rfl rfl (fun v h6 hq => ?_)
        obtain ⟨rfl, e9⟩ := hq
        rw [e9]
        refine R_istore1 dX10_deepest_30 (by decide) ?_
        refine R_iinc2 dX10_deepest_31 (by decide) (nI_inc _ 1) ?_
        refine R_goto (tgt := 8) dX10_deepest_34 (by decide) ?_
        -- X10_deepest: ('stop', 8)
        exact ih
  refine R_iconst (v := nI 0) dX10_deepest_4 (by decide) ?_
  refine R_istore1 dX10_deepest_5 (by decide) ?_
  refine R_iconst (v := nI 0) dX10_deepest_6 (by decide) ?_
  refine R_istore2 dX10_deepest_7 (by decide) ?_
  -- X10_deepest: ('stop', 8)
  exact loop q.1.length 0 (by omega)
def FOut (S : MSt) (l : List Nat) : Prop := S.1 24 = nI l.length ∧ ∀ i x, l[i]? = some x → S.2 13 i = nI x
def TOld (S : MSt) (T : List Nat) : Prop := ∀ s, s < 86 → S.2 14 s = nI (if s < 26 ∨ s ∈ T then 1 else 0)
theorem Md_tells (x : MdAt E h M S) {l : List Nat} (f : FOut S l) (hl : l.length < 1090) (a : Nat) : Spec E k_X10_tells 0 0 0 [.ref M, .int (nI a)] h (fun v h' => v = none ∧ Out h h' M (M + 23) ∧ ∃ S', MdAt E h' M S' ∧ Ony [13] [24] S S' ∧ FOut S' (l ++ [a])) := by
  obtain ⟨f1, f2⟩ := f
  have V24 := fld_get (M := M) (k := 24) (by decide) f1
  refine Spec.of (by decide +kernel) (by simp [Value.category]) (Nat.le_of_ble_eq_true rfl) ?_
  show WP E k_X10_tells 0 0 0 0 [some (.ref M), some (.int (nI a))] [] h _
  refine R_aload_n dX10_tells_0 rfl ?_
  refine R_get K_10 (f := 22) (by decide) dX10_tells_1 f_RX10_55 x.1 rfl ?_
  refine R_aload_n dX10_tells_4 rfl ?_
  refine R_get K_10 (f := 24) (by decide) dX10_tells_5 f_RX10_177 x.1 V24 ?_
  refine R_iload_n dX10_tells_8 rfl ?_
  refine R_iastore_N dX10_tells_9 x.a13 (by omega) (by omega) ?_
  -- X10_tells: ('put', 10)
  intro h2 u2
  have x2 := x.s13 u2
  refine R_aload_n dX10_tells_10 rfl ?_
  refine R_dup dX10_tells_11 rfl ?_
  refine R_get K_10 (f := 24) (by decide) dX10_tells_12 f_RX10_177 x2.1 V24 ?_
  refine R_iconst (v := nI 1) dX10_tells_15 (by decide) ?_
  refine R_iadd_N dX10_tells_16 ?_
  refine R_put_A K_10 (f := 24) (by decide) dX10_tells_17 f_RX10_177 rfl x2.1 (by rfl) (by rfl) (Nat.le_of_ble_eq_true rfl) ?_
  -- X10_tells: ('put', 20)
  intro h3 u3
  have x3 := x2.put u3 (by decide)
  refine R_return dX10_tells_20 rfl ?_
  -- X10_tells: ('ret', 20)
  refine ⟨rfl, (Out.upd u2 (by omega) (by omega)).trans (Out.upd u3 (by omega) (by omega)), _, x3, (Ony.refl.st (by decide)).put (by decide), ?_, fun i y hy => ?_⟩
  · show nI (l.length + 1) = _
    rw [List.length_append]; rfl
  · show upd (S.2 13) l.length (nI a) i = nI y
    rcases snoc_get (l := l) (a := a) hy with ⟨z1, z2⟩ | ⟨z1, z2⟩
    · rw [upd_ne (by omega)]; exact f2 i y z2
    · rw [z1, z2, upd_at]
theorem Md_nextTold (x : MdAt E h M S) (c : curF (S.2 1) q) (hq : PkOk q) {T : List Nat} (tt : TOld S T) : Spec E k_X10_nextTold 3 0 0 [.ref M] h (fun v h' => v = some (.int (oI 26 (nxt q.2 T))) ∧ h' = h) := by
  refine Spec.of (by decide +kernel) (by simp [Value.category]) (Nat.le_of_ble_eq_true rfl) ?_
  show WP E k_X10_nextTold 3 0 0 0 [some (.ref M), none, none, none] [] h _
  have loop : ∀ m i, i + m = 60 → fstB (fun i => decide (rdy q.2 T i)) i = none → ∀ z2 z3, WP E k_X10_nextTold 3 0 0 3 [some (.ref M), some (.int (nI (26 + i))), z2, z3] [] h (fun v h' => v = some (.int (oI 26 (nxt q.2 T))) ∧ h' = h) := by
    intro m
    induction m with
    | zero =>
      intro i hi hf z2 z3
      obtain rfl : i = 60 := by omega
      refine R_iload_n dX10_nextTold_3 rfl ?_
      refine R_bipush (v := nI 86) dX10_nextTold_4 (by decide) ?_
      refine R_icmp_ge_N (tgt := 77) dX10_nextTold_6 (by decide) (by omega) (by omega) (fun c6 => ?_) (fun c6 => ?_)
      -- X10_nextTold: ('branch', 6, 77, 9)
      · refine R_iconst (v := (-1)) dX10_nextTold_77 (by decide) ?_
        refine R_ireturn dX10_nextTold_78 rfl rfl ?_
        -- X10_nextTold: ('ret', 78)
        exact ⟨by rw [nxt, hf]; rfl, rfl⟩
      · exact absurd c6 (by omega)
    | succ m ih =>
      intro i hi hf z2 z3
      have hro : rowOf q.2 (26 + i) = q.2 i := by rw [rowOf_in ⟨by omega, by omega⟩, show 26 + i - 26 = i by omega]
      have hrl := (c.2.2.2 i (by omega)).1
      have no : ∀ z3, ¬ rdy q.2 T i → WP E k_X10_nextTold 3 0 0 65 [some (.ref M), some (.int (nI (26 + i))), some (.int (nI 0)), z3] [] h (fun v h' => v = some (.int (oI 26 (nxt q.2 T))) ∧ h' = h) := by
        intro z3 hn
        refine R_iload_n dX10_nextTold_65 rfl ?_
        refine R_if_eq_N (tgt := 71) dX10_nextTold_66 (by decide) (by omega) (fun c66 => ?_) (fun c66 => ?_)
        -- X10_nextTold: ('branch', 66, 71, 69)
        · refine R_iinc1 dX10_nextTold_71 (by decide) (nI_inc _ 1) ?_
          refine R_goto (tgt := 3) dX10_nextTold_74 (by decide) ?_
          -- X10_nextTold: ('stop', 3)
          exact ih (i + 1) (by omega) (fstB_step hf (decide_eq_false hn)) _ _
        · exact absurd rfl c66
      have yes : ∀ z3, rdy q.2 T i → WP E k_X10_nextTold 3 0 0 65 [some (.ref M), some (.int (nI (26 + i))), some (.int (nI 1)), z3] [] h (fun v h' => v = some (.int (oI 26 (nxt q.2 T))) ∧ h' = h) := by
        intro z3 hn
        refine R_iload_n dX10_nextTold_65 rfl ?_
        refine R_if_eq_N (tgt := 71) dX10_nextTold_66 (by decide) (by omega) (fun c66 => ?_) (fun c66 => ?_)
        -- X10_nextTold: ('branch', 66, 71, 69)
        · exact absurd c66 (by decide)
        · refine R_iload_n dX10_nextTold_69 rfl ?_
          refine R_ireturn dX10_nextTold_70 rfl rfl ?_
          -- X10_nextTold: ('ret', 70)
          have : nxt q.2 T = some i := fstB_at hf (decide_eq_true hn) (by omega)
          exact ⟨by rw [this]; rfl, rfl⟩
      have zero : ∀ k, k ≤ (q.2 i).length → ¬ rdy q.2 T i → WP E k_X10_nextTold 3 0 0 34 [some (.ref M), some (.int (nI (26 + i))), some (.int (nI 0)), some (.int (nI k))] [] h (fun v h' => v = some (.int (oI 26 (nxt q.2 T))) ∧ h' = h) := by
        intro k hk hn
        refine R_iload_n dX10_nextTold_34 rfl ?_
        refine R_aload_n dX10_nextTold_35 rfl ?_
        refine R_iload_n dX10_nextTold_36 rfl ?_
        -- X10_nextTold: ('call', 37, '.invokevirtual', 106)
        refine R_callV v_X10_rowLong (Md_rowLong x c (s := 26 + i) (by omega)) dX10_nextTold_37 l_RX10_106 rfl rfl x.1 (Nat.le_of_ble_eq_true rfl) (by omega) rfl rfl (fun v h2 hq => ?_)
        obtain ⟨rfl, e9⟩ := hq
        rw [e9, hro]
        refine R_icmp_ge_N (tgt := 65) dX10_nextTold_40 (by decide) (by omega) (by omega) (fun c40 => ?_) (fun c40 => ?_)
        -- X10_nextTold: ('branch', 40, 65, 43)
        · exact no _ hn
        · refine R_iload_n dX10_nextTold_43 rfl ?_
          refine R_if_eq_N (tgt := 65) dX10_nextTold_44 (by decide) (by omega) (fun c44 => ?_) (fun c44 => ?_)
          -- X10_nextTold: ('branch', 44, 65, 47)
          · exact no _ hn
          · exact absurd rfl c44
      have one : ∀ mm k, k + mm = (q.2 i).length → q.2 i ≠ [] → (26 + i) ∉ T → (∀ j y, j < k → (q.2 i)[j]? = some y → y < 26 ∨ y ∈ T) → WP E k_X10_nextTold 3 0 0 34 [some (.ref M), some (.int (nI (26 + i))), some (.int (nI 1)), some (.int (nI k))] [] h (fun v h' => v = some (.int (oI 26 (nxt q.2 T))) ∧ h' = h) := by
        intro mm
        induction mm with
        | zero =>
          intro k hk n1 n2 n3
          refine R_iload_n dX10_nextTold_34 rfl ?_
          refine R_aload_n dX10_nextTold_35 rfl ?_
          refine R_iload_n dX10_nextTold_36 rfl ?_
          -- X10_nextTold: ('call', 37, '.invokevirtual', 106)
          refine R_callV v_X10_rowLong (Md_rowLong x c (s := 26 + i) (by omega)) dX10_nextTold_37 l_RX10_106 rfl rfl x.1 (Nat.le_of_ble_eq_true rfl) (by omega) rfl rfl (fun v h2 hq => ?_)
          obtain ⟨rfl, e9⟩ := hq
          rw [e9, hro]
          refine R_icmp_ge_N (tgt := 65) dX10_nextTold_40 (by decide) (by omega) (by omega) (fun c40 => ?_) (fun c40 => ?_)
          -- X10_nextTold: ('branch', 40, 65, 43)
          · refine yes _ ⟨n1, n2, fun y hy => ?_⟩
            obtain ⟨j, hj⟩ := List.getElem?_of_mem hy
            exact n3 j y (by have := (List.getElem?_eq_some_iff.mp hj).1; omega) hj
          · exact absurd c40 (by omega)
        | succ mm ihm =>
          intro k hk n1 n2 n3
          obtain ⟨y, hy⟩ := getE (l := q.2 i) (i := k) (by omega)
          have hy86 := hq.r86 i (by omega) y (List.mem_of_getElem? hy)
          have ty := tt y hy86
          refine R_iload_n dX10_nextTold_34 rfl ?_
          refine R_aload_n dX10_nextTold_35 rfl ?_
          refine R_iload_n dX10_nextTold_36 rfl ?_
          -- X10_nextTold: ('call', 37, '.invokevirtual', 106)
          refine R_callV v_X10_rowLong (Md_rowLong x c (s := 26 + i) (by omega)) dX10_nextTold_37 l_RX10_106 rfl rfl x.1 (Nat.le_of_ble_eq_true rfl) (by omega) rfl rfl (fun v h2 hq => ?_)
          obtain ⟨rfl, e9⟩ := hq
          rw [e9, hro]
          refine R_icmp_ge_N (tgt := 65) dX10_nextTold_40 (by decide) (by omega) (by omega) (fun c40 => ?_) (fun c40 => ?_)
          -- X10_nextTold: ('branch', 40, 65, 43)
          · exact absurd c40 (by omega)
          · refine R_iload_n dX10_nextTold_43 rfl ?_
            refine R_if_eq_N (tgt := 65) dX10_nextTold_44 (by decide) (by omega) (fun c44 => ?_) (fun c44 => ?_)
            -- X10_nextTold: ('branch', 44, 65, 47)
            · exact absurd c44 (by decide)
            · refine R_aload_n dX10_nextTold_47 rfl ?_
              refine R_get K_10 (f := 23) (by decide) dX10_nextTold_48 f_RX10_58 x.1 rfl ?_
              refine R_aload_n dX10_nextTold_51 rfl ?_
              refine R_iload_n dX10_nextTold_52 rfl ?_
              refine R_iload_n dX10_nextTold_53 rfl ?_
              -- X10_nextTold: ('call', 54, '.invokevirtual', 113)
              refine R_callV v_X10_inRow (Md_inRow x c (s := 26 + i) (i := k) (y := y) (by omega) (by rw [hro]; exact hy)) dX10_nextTold_54 l_RX10_113 rfl rfl x.1 (Nat.le_of_ble_eq_true rfl) (by omega) rfl rfl (fun v h3 hq => ?_)
              obtain ⟨rfl, e9⟩ := hq
              rw [e9]
              by_cases cy : y < 26 ∨ y ∈ T
              · rw [if_pos cy] at ty
                refine R_zaload_N dX10_nextTold_57 x.a14 (by omega) (by omega) ty ?_
                refine R_istore2 dX10_nextTold_58 (by decide) ?_
                refine R_iinc3 dX10_nextTold_59 (by decide) (nI_inc _ 1) ?_
                refine R_goto (tgt := 34) dX10_nextTold_62 (by decide) ?_
                -- X10_nextTold: ('stop', 34)
                refine ihm (k + 1) (by omega) n1 n2 (fun j w hj hw => ?_)
                by_cases e : j = k
                · rw [e, hy] at hw; cases hw; exact cy
                · exact n3 j w (by omega) hw
              · rw [if_neg cy] at ty
                refine R_zaload_N dX10_nextTold_57 x.a14 (by omega) (by omega) ty ?_
                refine R_istore2 dX10_nextTold_58 (by decide) ?_
                refine R_iinc3 dX10_nextTold_59 (by decide) (nI_inc _ 1) ?_
                refine R_goto (tgt := 34) dX10_nextTold_62 (by decide) ?_
                -- X10_nextTold: ('stop', 34)
                exact zero (k + 1) (by omega) (fun z => cy (z.2.2 y (List.mem_of_getElem? hy)))
      refine R_iload_n dX10_nextTold_3 rfl ?_
      refine R_bipush (v := nI 86) dX10_nextTold_4 (by decide) ?_
      refine R_icmp_ge_N (tgt := 77) dX10_nextTold_6 (by decide) (by omega) (by omega) (fun c6 => ?_) (fun c6 => ?_)
      -- X10_nextTold: ('branch', 6, 77, 9)
      · exact absurd c6 (by omega)
      · refine R_aload_n dX10_nextTold_9 rfl ?_
        refine R_iload_n dX10_nextTold_10 rfl ?_
        -- X10_nextTold: ('call', 11, '.invokevirtual', 106)
        refine R_callV v_X10_rowLong (Md_rowLong x c (s := 26 + i) (by omega)) dX10_nextTold_11 l_RX10_106 rfl rfl x.1 (Nat.le_of_ble_eq_true rfl) (by omega) rfl rfl (fun v h2 hq => ?_)
        obtain ⟨rfl, e9⟩ := hq
        rw [e9, hro]
        refine R_if_le_N (tgt := 30) dX10_nextTold_14 (by decide) (by omega) (fun c14 => ?_) (fun c14 => ?_)
        -- X10_nextTold: ('branch', 14, 30, 17)
        · refine R_iconst (v := nI 0) dX10_nextTold_30 (by decide) ?_
          refine R_istore2 dX10_nextTold_31 (by decide) ?_
          refine R_iconst (v := nI 0) dX10_nextTold_32 (by decide) ?_
          refine R_istore3 dX10_nextTold_33 (by decide) ?_
          -- X10_nextTold: ('stop', 34)
          exact zero 0 (Nat.zero_le _) (fun z => z.1 (List.eq_nil_of_length_eq_zero (by omega)))
        · have tt26 := tt (26 + i) (by omega)
          by_cases ct : 26 + i ∈ T
          · rw [if_pos (Or.inr ct)] at tt26
            refine R_aload_n dX10_nextTold_17 rfl ?_
            refine R_get K_10 (f := 23) (by decide) dX10_nextTold_18 f_RX10_58 x.1 rfl ?_
            refine R_iload_n dX10_nextTold_21 rfl ?_
            refine R_zaload_N dX10_nextTold_22 x.a14 (by omega) (by omega) tt26 ?_
            refine R_if_ne_N (tgt := 30) dX10_nextTold_23 (by decide) (by omega) (fun c23 => ?_) (fun c23 => ?_)
            -- X10_nextTold: ('branch', 23, 30, 26)
            · refine R_iconst (v := nI 0) dX10_nextTold_30 (by decide) ?_
              refine R_istore2 dX10_nextTold_31 (by decide) ?_
              refine R_iconst (v := nI 0) dX10_nextTold_32 (by decide) ?_
              refine R_istore3 dX10_nextTold_33 (by decide) ?_
              -- X10_nextTold: ('stop', 34)
              exact zero 0 (Nat.zero_le _) (fun z => z.2.1 ct)
            · exact absurd c23 (by decide)
          · rw [if_neg (fun z => z.elim (fun y => by omega) ct)] at tt26
            refine R_aload_n dX10_nextTold_17 rfl ?_
            refine R_get K_10 (f := 23) (by decide) dX10_nextTold_18 f_RX10_58 x.1 rfl ?_
            refine R_iload_n dX10_nextTold_21 rfl ?_
            refine R_zaload_N dX10_nextTold_22 x.a14 (by omega) (by omega) tt26 ?_
            refine R_if_ne_N (tgt := 30) dX10_nextTold_23 (by decide) (by omega) (fun c23 => ?_) (fun c23 => ?_)
            -- X10_nextTold: ('branch', 23, 30, 26)
            · exact absurd rfl c23
            · refine R_iconst (v := nI 1) dX10_nextTold_26 (by decide) ?_
              refine R_goto (tgt := 31) dX10_nextTold_27 (by decide) ?_
              refine R_istore2 dX10_nextTold_31 (by decide) ?_
              refine R_iconst (v := nI 0) dX10_nextTold_32 (by decide) ?_
              refine R_istore3 dX10_nextTold_33 (by decide) ?_
              -- X10_nextTold: ('stop', 34)
              exact one _ 0 (Nat.zero_add _) (fun e => by rw [e] at c14; simp at c14) ct (fun j y hj => absurd hj (by omega))
  refine R_bipush (v := nI 26) dX10_nextTold_0 (by decide) ?_
  refine R_istore1 dX10_nextTold_2 (by decide) ?_
  -- X10_nextTold: ('stop', 3)
  exact loop 60 0 (by omega) rfl none none
end MD13
