/-! THE MODEL: codes laid out, asked for -/
theorem lnS_le {sq : List Nat} {s : Nat} (h : sq.length < 100000) : lnS sq s ≤ 85 := by
  have h2 : kindsS sq ≤ 86 := cntB_le _ _
  rw [lnS]
  split
  · show (if some s = lightF (fun s => sq.count s) none 86 then 0 + 1 else 0) ≤ 85
    split <;> decide
  · have h1 := ((cst0_good h).iter (kindsS sq - 1)).2.2 s
    omega
section MD16
variable {E : EnvT} {h h1 : Hp} {M : Nat} {S : MSt} {q : Pk} {ds : List Pk} {im : Nat → Pk} {md : Nat → Nat} {tp ph : List Nat} {fk fp : Int32}
abbrev codK : List Nat := [15, 16, 17, 18, 19]
theorem Md_laysCodes (x : MdAt E h M S) (c : curF (S.2 1) q) (h86 : ∀ y ∈ q.1, y < 86) : Spec E k_X10_laysCodes 3 0 0 [.ref M] h (fun v h' => v = none ∧ Out h h' M (M + 23) ∧ ∃ S', MdAt E h' M S' ∧ Ony codK [30] S S' ∧ (∀ s, s < 86 → S'.2 17 s = nI (lnS q.1 s)) ∧ RkM S' (lnS q.1) (rkS q.1)) := by
  have hql := c.1
  have hct : ∀ s, q.1.count s ≤ 240 := fun s => Nat.le_trans List.count_le_length hql
  have hk86 : kindsS q.1 ≤ 86 := cntB_le _ _
  have gd0 := cst0_good (sq := q.1) (by omega)
  refine Spec.of (by decide +kernel) (by simp [Value.category]) (Nat.le_of_ble_eq_true rfl) ?_
  show WP E k_X10_laysCodes 3 0 0 0 [some (.ref M), none, none] [] h _
  have fin : ∀ h5 S5 z1, MdAt E h5 M S5 → Ony codK [30] S S5 → (∀ s, s < 86 → S5.2 17 s = nI (lnS q.1 s)) → Out h h5 M (M + 23) → WP E k_X10_laysCodes 3 0 0 90 [some (.ref M), z1, some (.int (-1))] [] h5 (fun v h' => v = none ∧ Out h h' M (M + 23) ∧ ∃ S', MdAt E h' M S' ∧ Ony codK [30] S S' ∧ (∀ s, s < 86 → S'.2 17 s = nI (lnS q.1 s)) ∧ RkM S' (lnS q.1) (rkS q.1)) := by
    intro h5 S5 z1 x5 o5 d5 g5
    refine R_iload_n dX10_laysCodes_90 rfl ?_
    refine R_iconst (v := (-1)) dX10_laysCodes_91 (by decide) ?_
    refine R_icmp_eq (tgt := 116) dX10_laysCodes_92 (by decide) (fun c92 => ?_) (fun c92 => ?_)
    -- X10_laysCodes: ('branch', 92, 116, 95)
    · refine R_aload_n dX10_laysCodes_116 rfl ?_
      -- X10_laysCodes: ('call', 117, '.invokevirtual', 201)
      refine R_callV v_X10_ranksCodes (Md_ranksCodes x5 d5 (fun s => by have := lnS_le (sq := q.1) (s := s) (by omega); omega)) dX10_laysCodes_117 l_RX10_201 rfl rfl x5.1 (Nat.le_of_ble_eq_true rfl) (by omega) rfl rfl (fun v h6 hq => ?_)
      obtain ⟨rfl, g6, S6, x6, o6, k6⟩ := hq
      refine R_return dX10_laysCodes_120 rfl ?_
      -- X10_laysCodes: ('ret', 120)
      exact ⟨rfl, g5.trans g6, S6, x6, o5.trans (o6.mono (by decide) (by decide)), fun s hs => by rw [o6.1 17 (by decide)]; exact d5 s hs, k6⟩
    · exact absurd rfl c92
  have loop : ∀ m i h5 S5, i + m = kindsS q.1 - 1 → ¬ kindsS q.1 = 1 → MdAt E h5 M S5 → Ony codK [30] S S5 → CdM S5 q.1 (jnI (cst0 q.1) i) → CInv q.1 (jnI (cst0 q.1) i) → ldr (jnI (cst0 q.1) i) + i = kindsS q.1 → Out h h5 M (M + 23) → WP E k_X10_laysCodes 3 0 0 90 [some (.ref M), some (.int (oI 0 (lightF (jnI (cst0 q.1) i).1 none 86))), some (.int (oI 0 ((lightF (jnI (cst0 q.1) i).1 none 86).bind (fun a => lightF (jnI (cst0 q.1) i).1 (some a) 86))))] [] h5 (fun v h' => v = none ∧ Out h h' M (M + 23) ∧ ∃ S', MdAt E h' M S' ∧ Ony codK [30] S S' ∧ (∀ s, s < 86 → S'.2 17 s = nI (lnS q.1 s)) ∧ RkM S' (lnS q.1) (rkS q.1)) := by
    intro m
    induction m with
    | zero =>
      intro i h5 S5 hi hk1 x5 o5 d5 v5 l5 g5
      have hno : (lightF (jnI (cst0 q.1) i).1 none 86).bind (fun a => lightF (jnI (cst0 q.1) i).1 (some a) 86) = none := by
        cases ha : lightF (jnI (cst0 q.1) i).1 none 86 with
        | none => rfl
        | some a =>
          show lightF (jnI (cst0 q.1) i).1 (some a) 86 = none
          cases hb : lightF (jnI (cst0 q.1) i).1 (some a) 86 with
          | none => rfl
          | some b => exact absurd hb (ldr_one (by omega) ha)
      rw [hno]
      refine fin h5 S5 _ x5 o5 (fun s hs => ?_) g5
      rw [lnS, if_neg hk1, ← show i = kindsS q.1 - 1 by omega]
      exact (d5 s hs).2.2
    | succ m ih =>
      intro i h5 S5 hi hk1 x5 o5 d5 v5 l5 g5
      have gdi := gd0.iter i
      obtain ⟨a, b, ha, hb⟩ := ldr_two (st := jnI (cst0 q.1) i) (by omega)
      obtain ⟨a1, a2, -⟩ := lightF_some ha
      obtain ⟨b1, b2, b3⟩ := lightF_some hb
      have hab : ¬ b = a := fun e => b3 (by rw [e])
      have ej : jnI (cst0 q.1) (i + 1) = jnT (jnI (cst0 q.1) i) a b := jnS_3 ha hb
      obtain ⟨vn, ln⟩ := v5.next a1 b1 a2 b2 hab
      have ih := ih (i + 1)
      rw [ej] at ih
      have gdn : CGood (jnT (jnI (cst0 q.1) i) a b) (0 + (i + 1)) := by rw [← ej]; exact gd0.iter (i + 1)
      have hgn : ∀ s, s < 86 → (jnT (jnI (cst0 q.1) i) a b).1 s < 2 ^ 31 := fun s hs => by have := sumB_ge (g := (jnT (jnI (cst0 q.1) i) a b).1) hs; have := gdn.2.1; omega
      have e1 : oI 0 (some a) = nI a := by rw [oI, Nat.zero_add]
      have e2 : oI 0 ((some a).bind (fun a => lightF (jnI (cst0 q.1) i).1 (some a) 86)) = nI b := by
        show oI 0 (lightF (jnI (cst0 q.1) i).1 (some a) 86) = _
        rw [hb, oI, Nat.zero_add]
      rw [ha, e1, e2]
      refine R_iload_n dX10_laysCodes_90 rfl ?_
      refine R_iconst (v := (-1)) dX10_laysCodes_91 (by decide) ?_
      refine R_icmp_eq (tgt := 116) dX10_laysCodes_92 (by decide) (fun c92 => ?_) (fun c92 => ?_)
      -- X10_laysCodes: ('branch', 92, 116, 95)
      · exact absurd c92 (nI_ne_m1 (by omega))
      · refine R_aload_n dX10_laysCodes_95 rfl ?_
        refine R_iload_n dX10_laysCodes_96 rfl ?_
        refine R_iload_n dX10_laysCodes_97 rfl ?_
        -- X10_laysCodes: ('call', 98, '.invokevirtual', 198)
        refine R_callV v_X10_joins (Md_joins x5 d5 v5 gdi (by omega) a1 b1 a2 b2 hab) dX10_laysCodes_98 l_RX10_198 rfl rfl x5.1 (Nat.le_of_ble_eq_true rfl) (by omega) rfl rfl (fun v h6 hq => ?_)
        obtain ⟨rfl, g6, S6, x6, o6, d6⟩ := hq
        generalize hst : jnT (jnI (cst0 q.1) i) a b = st at *
        refine R_aload_n dX10_laysCodes_101 rfl ?_
        refine R_iconst (v := (-1)) dX10_laysCodes_102 (by decide) ?_
        -- X10_laysCodes: ('call', 103, '.invokevirtual', 195)
        refine R_callV v_X10_lightest (Md_lightest x6 d6 vn hgn (but := none) (fun b z => by cases z)) dX10_laysCodes_103 l_RX10_195 rfl rfl x6.1 (Nat.le_of_ble_eq_true rfl) (by omega) rfl rfl (fun v h7 hq => ?_)
        obtain ⟨rfl, e9⟩ := hq
        rw [e9]
        refine R_istore1 dX10_laysCodes_106 (by decide) ?_
        refine R_aload_n dX10_laysCodes_107 rfl ?_
        refine R_iload_n dX10_laysCodes_108 rfl ?_
        -- X10_laysCodes: ('call', 109, '.invokevirtual', 195)
        refine R_callV v_X10_lightest (Md_lightest x6 d6 vn hgn (but := lightF st.1 none 86) (fun b z => (lightF_some z).1)) dX10_laysCodes_109 l_RX10_195 rfl rfl x6.1 (Nat.le_of_ble_eq_true rfl) (by omega) rfl rfl (fun v h7 hq => ?_)
        obtain ⟨rfl, e9⟩ := hq
        rw [e9]
        refine R_istore2 dX10_laysCodes_112 (by decide) ?_
        refine R_goto (tgt := 90) dX10_laysCodes_113 (by decide) ?_
        -- X10_laysCodes: ('stop', 90)
        have := ih h6 S6 (by omega) hk1 x6 (o5.trans (o6.mono (by decide) (by decide))) d6 vn (by omega) (g5.trans g6)
        cases hl : lightF st.1 none 86 with
        | none =>
          rw [hl] at this
          rw [hl]
          exact this
        | some a2 =>
          rw [hl] at this
          exact this
  have start : ∀ m i h5 S5, i + m = 86 → MdAt E h5 M S5 → Ony codK [30] S S5 → (∀ s, s < i → S5.2 15 s = nI (q.1.count s) ∧ S5.2 16 s = (if 0 < q.1.count s then nI s else -1) ∧ S5.2 17 s = nI 0) → Out h h5 M (M + 23) → WP E k_X10_laysCodes 3 0 0 2 [some (.ref M), some (.int (nI i)), none] [] h5 (fun v h' => v = none ∧ Out h h' M (M + 23) ∧ ∃ S', MdAt E h' M S' ∧ Ony codK [30] S S' ∧ (∀ s, s < 86 → S'.2 17 s = nI (lnS q.1 s)) ∧ RkM S' (lnS q.1) (rkS q.1)) := by
    intro m
    induction m with
    | zero =>
      intro i h5 S5 hi x5 o5 k5 g5
      obtain rfl : i = 86 := by omega
      have d5 : CdM S5 q.1 (cst0 q.1) := fun s hs => ⟨fun _ => (k5 s hs).1, (k5 s hs).2.1, (k5 s hs).2.2⟩
      have v5 : CInv q.1 (cst0 q.1) := CInv.start
      have hg0 : ∀ s, s < 86 → (cst0 q.1).1 s < 2 ^ 31 := fun s _ => by have := hct s; show q.1.count s < _; omega
      refine R_iload_n dX10_laysCodes_2 rfl ?_
      refine R_bipush (v := nI 86) dX10_laysCodes_3 (by decide) ?_
      refine R_icmp_ge_N (tgt := 52) dX10_laysCodes_5 (by decide) (by omega) (by omega) (fun c5 => ?_) (fun c5 => ?_)
      -- X10_laysCodes: ('branch', 5, 52, 8)
      · refine R_aload_n dX10_laysCodes_52 rfl ?_
        refine R_iconst (v := (-1)) dX10_laysCodes_53 (by decide) ?_
        -- X10_laysCodes: ('call', 54, '.invokevirtual', 195)
        refine R_callV v_X10_lightest (Md_lightest x5 d5 v5 hg0 (but := none) (fun b z => by cases z)) dX10_laysCodes_54 l_RX10_195 rfl rfl x5.1 (Nat.le_of_ble_eq_true rfl) (by omega) rfl rfl (fun v h6 hq => ?_)
        obtain ⟨rfl, e9⟩ := hq
        rw [e9]
        have lp := loop (kindsS q.1 - 1) 0 h5 S5 (by omega)
        rw [show jnI (cst0 q.1) 0 = cst0 q.1 from rfl] at lp
        have hld0 : cntB (fun s => decide (0 < (cst0 q.1).1 s)) 86 = kindsS q.1 := by rw [kindsS]; exact cntB_ext (fun j _ => rfl)
        have hld : ldr (cst0 q.1) + 0 = kindsS q.1 := (Nat.add_zero _).trans hld0
        cases ha : lightF (cst0 q.1).1 none 86 with
        | none =>
          have hk1 : ¬ kindsS q.1 = 1 := fun z => by
            have := cntB_mem (p := fun s => decide (0 < (cst0 q.1).1 s)) (l := []) 86 (fun j hj hp => by cases lightF_no ha j hj (of_decide_eq_true hp))
            have e0 := hld0.symm
            simp at this
            omega
          rw [ha] at lp
          refine R_istore1 dX10_laysCodes_57 (by decide) ?_
          refine R_iload_n dX10_laysCodes_58 rfl ?_
          refine R_iconst (v := (-1)) dX10_laysCodes_59 (by decide) ?_
          refine R_icmp_ne (tgt := 67) dX10_laysCodes_60 (by decide) (fun c60 => ?_) (fun c60 => ?_)
          -- X10_laysCodes: ('branch', 60, 67, 63)
          · exact absurd rfl c60
          · refine R_iconst (v := (-1)) dX10_laysCodes_63 (by decide) ?_
            refine R_goto (tgt := 72) dX10_laysCodes_64 (by decide) ?_
            refine R_istore2 dX10_laysCodes_72 (by decide) ?_
            refine R_iload_n dX10_laysCodes_73 rfl ?_
            refine R_iconst (v := (-1)) dX10_laysCodes_74 (by decide) ?_
            refine R_icmp_eq (tgt := 90) dX10_laysCodes_75 (by decide) (fun c75 => ?_) (fun c75 => ?_)
            -- X10_laysCodes: ('branch', 75, 90, 78)
            · exact lp hk1 x5 o5 d5 v5 hld g5
            · exact absurd rfl c75
        | some a =>
          obtain ⟨a1, a2, -⟩ := lightF_some ha
          rw [ha] at lp
          have e1 : oI 0 (some a) = nI a := by rw [oI, Nat.zero_add]
          refine R_istore1 dX10_laysCodes_57 (by decide) ?_
          refine R_iload_n dX10_laysCodes_58 rfl ?_
          refine R_iconst (v := (-1)) dX10_laysCodes_59 (by decide) ?_
          refine R_icmp_ne (tgt := 67) dX10_laysCodes_60 (by decide) (fun c60 => ?_) (fun c60 => ?_)
          -- X10_laysCodes: ('branch', 60, 67, 63)
          · refine R_aload_n dX10_laysCodes_67 rfl ?_
            refine R_iload_n dX10_laysCodes_68 rfl ?_
            -- X10_laysCodes: ('call', 69, '.invokevirtual', 195)
            refine R_callV v_X10_lightest (Md_lightest x5 d5 v5 hg0 (but := some a) (fun b z => by cases z; exact a1)) dX10_laysCodes_69 l_RX10_195 rfl rfl x5.1 (Nat.le_of_ble_eq_true rfl) (by omega) rfl rfl (fun v h6 hq => ?_)
            obtain ⟨rfl, e9⟩ := hq
            rw [e9]
            refine R_istore2 dX10_laysCodes_72 (by decide) ?_
            refine R_iload_n dX10_laysCodes_73 rfl ?_
            refine R_iconst (v := (-1)) dX10_laysCodes_74 (by decide) ?_
            refine R_icmp_eq (tgt := 90) dX10_laysCodes_75 (by decide) (fun c75 => ?_) (fun c75 => ?_)
            -- X10_laysCodes: ('branch', 75, 90, 78)
            · rw [e1] at c75
              exact absurd c75 (nI_ne_m1 (by omega))
            · cases hb : lightF (cst0 q.1).1 (some a) 86 with
              | none =>
                have hk1 : kindsS q.1 = 1 := by
                  have k1 := cntB_mem (p := fun s => decide (0 < (cst0 q.1).1 s)) (l := [a]) 86 (fun j hj hp => by cases lightF_no hb j hj (of_decide_eq_true hp); exact List.mem_singleton.mpr rfl)
                  have h2 : ([a].countP (fun x => decide (x < 86))) ≤ 1 := List.countP_le_length
                  have e0 := hld0.symm
                  have k3 : ¬ cntB (fun s => decide (0 < (cst0 q.1).1 s)) 86 = 0 := fun z => by
                    have := cntB_ins (p := fun s => decide (0 < (cst0 q.1).1 s ∧ ¬ s = a)) (q := fun s => decide (0 < (cst0 q.1).1 s)) a1 (decide_eq_false (fun z => z.2 rfl)) (decide_eq_true a2) (n := 86) (fun j _ hj => by
                      by_cases c : 0 < (cst0 q.1).1 j
                      · rw [decide_eq_true c, decide_eq_true ⟨c, hj⟩]
                      · rw [decide_eq_false c, decide_eq_false (fun z => c z.1)])
                    omega
                  omega
                refine R_iload_n dX10_laysCodes_78 rfl ?_
                refine R_iconst (v := (-1)) dX10_laysCodes_79 (by decide) ?_
                refine R_icmp_ne (tgt := 90) dX10_laysCodes_80 (by decide) (fun c80 => ?_) (fun c80 => ?_)
                -- X10_laysCodes: ('branch', 80, 90, 83)
                · exact absurd rfl c80
                · rw [e1]
                  refine R_aload_n dX10_laysCodes_83 rfl ?_
                  refine R_get K_10 (f := 27) (by decide) dX10_laysCodes_84 f_RX10_67 x5.1 rfl ?_
                  refine R_iload_n dX10_laysCodes_87 rfl ?_
                  refine R_iconst (v := nI 1) dX10_laysCodes_88 (by decide) ?_
                  refine R_iastore_N dX10_laysCodes_89 x5.a17 (by omega) (by omega) ?_
                  -- X10_laysCodes: ('put', 90)
                  intro h7 u7
                  have x7 := x5.s17 u7
                  refine fin h7 _ _ x7 (o5.st (by decide)) (fun s hs => ?_) (g5.trans (Out.upd u7 (by omega) (by omega)))
                  show upd (S5.2 17) a (nI 1) s = _
                  rw [lnS, if_pos hk1]
                  show upd (S5.2 17) a (nI 1) s = nI (if some s = lightF (cst0 q.1).1 none 86 then 0 + 1 else 0)
                  rw [ha]
                  by_cases e : s = a
                  · rw [e, upd_at, if_pos rfl]
                  · rw [upd_ne e, if_neg (fun z => e (Option.some.inj z))]
                    exact (k5 s hs).2.2
              | some b =>
                obtain ⟨b1, b2, b3⟩ := lightF_some hb
                have hk1 : ¬ kindsS q.1 = 1 := fun z => ldr_one (st := cst0 q.1) (by omega) ha hb
                have lp := lp hk1 x5 o5 d5 v5 hld g5
                rw [show ((some a).bind (fun a => lightF (cst0 q.1).1 (some a) 86)) = lightF (cst0 q.1).1 (some a) 86 from rfl, hb] at lp
                refine R_iload_n dX10_laysCodes_78 rfl ?_
                refine R_iconst (v := (-1)) dX10_laysCodes_79 (by decide) ?_
                refine R_icmp_ne (tgt := 90) dX10_laysCodes_80 (by decide) (fun c80 => ?_) (fun c80 => ?_)
                -- X10_laysCodes: ('branch', 80, 90, 83)
                · exact lp
                · rw [oI, Nat.zero_add] at c80
                  exact absurd c80 (nI_ne_m1 (by omega))
          · rw [e1] at c60
            exact absurd c60 (nI_ne_m1 (by omega))
      · exact absurd c5 (by omega)
    | succ m ih =>
      intro i h5 S5 hi x5 o5 k5 g5
      have c5' : curF (S5.2 1) q := by rw [o5.1 1 (by decide)]; exact c
      have hci := hct i
      refine R_iload_n dX10_laysCodes_2 rfl ?_
      refine R_bipush (v := nI 86) dX10_laysCodes_3 (by decide) ?_
      refine R_icmp_ge_N (tgt := 52) dX10_laysCodes_5 (by decide) (by omega) (by omega) (fun c5 => ?_) (fun c5 => ?_)
      -- X10_laysCodes: ('branch', 5, 52, 8)
      · exact absurd c5 (by omega)
      · refine R_aload_n dX10_laysCodes_8 rfl ?_
        refine R_get K_10 (f := 25) (by decide) dX10_laysCodes_9 f_RX10_61 x5.1 rfl ?_
        refine R_iload_n dX10_laysCodes_12 rfl ?_
        refine R_aload_n dX10_laysCodes_13 rfl ?_
        refine R_iload_n dX10_laysCodes_14 rfl ?_
        -- X10_laysCodes: ('call', 15, '.invokevirtual', 192)
        refine R_callV v_X10_inSequence (Md_inSequence x5 c5' h86 (s := i) (by omega)) dX10_laysCodes_15 l_RX10_192 rfl rfl x5.1 (Nat.le_of_ble_eq_true rfl) (by omega) rfl rfl (fun v h6 hq => ?_)
        obtain ⟨rfl, e9⟩ := hq
        rw [e9]
        refine R_iastore_N dX10_laysCodes_18 x5.a15 (by omega) (by omega) ?_
        -- X10_laysCodes: ('put', 19)
        intro h6 u6
        have x6 := x5.s15 u6
        have body : ∀ v : Int32, v = (if 0 < q.1.count i then nI i else -1) → WP E k_X10_laysCodes 3 0 0 38 [some (.ref M), some (.int (nI i)), none] [.int v, .int (nI i), .ref (M + 16)] h6 (fun v h' => v = none ∧ Out h h' M (M + 23) ∧ ∃ S', MdAt E h' M S' ∧ Ony codK [30] S S' ∧ (∀ s, s < 86 → S'.2 17 s = nI (lnS q.1 s)) ∧ RkM S' (lnS q.1) (rkS q.1)) := by
          intro v hv
          refine R_iastore_N dX10_laysCodes_38 x6.a16 (by omega) (by omega) ?_
          -- X10_laysCodes: ('put', 39)
          intro h7 u7
          have x7 := x6.s16 u7
          refine R_aload_n dX10_laysCodes_39 rfl ?_
          refine R_get K_10 (f := 27) (by decide) dX10_laysCodes_40 f_RX10_67 x7.1 rfl ?_
          refine R_iload_n dX10_laysCodes_43 rfl ?_
          refine R_iconst (v := nI 0) dX10_laysCodes_44 (by decide) ?_
          refine R_iastore_N dX10_laysCodes_45 x7.a17 (by omega) (by omega) ?_
          -- X10_laysCodes: ('put', 46)
          intro h8 u8
          have x8 := x7.s17 u8
          refine R_iinc1 dX10_laysCodes_46 (by decide) (nI_inc _ 1) ?_
          refine R_goto (tgt := 2) dX10_laysCodes_49 (by decide) ?_
          -- X10_laysCodes: ('stop', 2)
          refine ih (i + 1) h8 _ (by omega) x8 (((o5.st (by decide)).st (by decide)).st (by decide)) (fun s hs => ?_) (((g5.trans (Out.upd u6 (by omega) (by omega))).trans (Out.upd u7 (by omega) (by omega))).trans (Out.upd u8 (by omega) (by omega)))
          show upd (S5.2 15) i (nI (q.1.count i)) s = _ ∧ upd (S5.2 16) i v s = _ ∧ upd (S5.2 17) i (nI 0) s = _
          by_cases e : s = i
          · rw [e, upd_at, upd_at, upd_at]; exact ⟨rfl, hv, rfl⟩
          · rw [upd_ne e, upd_ne e, upd_ne e]; exact k5 s (by omega)
        refine R_aload_n dX10_laysCodes_19 rfl ?_
        refine R_get K_10 (f := 26) (by decide) dX10_laysCodes_20 f_RX10_64 x6.1 rfl ?_
        refine R_iload_n dX10_laysCodes_23 rfl ?_
        refine R_aload_n dX10_laysCodes_24 rfl ?_
        refine R_get K_10 (f := 25) (by decide) dX10_laysCodes_25 f_RX10_61 x6.1 rfl ?_
        refine R_iload_n dX10_laysCodes_28 rfl ?_
        refine R_iaload_N dX10_laysCodes_29 x6.a15 (by omega) (by omega) upd_at ?_
        refine R_if_le_N (tgt := 37) dX10_laysCodes_30 (by decide) (by omega) (fun c30 => ?_) (fun c30 => ?_)
        -- X10_laysCodes: ('branch', 30, 37, 33)
        · refine R_iconst (v := (-1)) dX10_laysCodes_37 (by decide) ?_
          -- X10_laysCodes: ('stop', 38)
          exact body _ (by rw [if_neg (by omega)])
        · refine R_iload_n dX10_laysCodes_33 rfl ?_
          refine R_goto (tgt := 38) dX10_laysCodes_34 (by decide) ?_
          -- X10_laysCodes: ('stop', 38)
          exact body _ (by rw [if_pos (by omega)])
  refine R_iconst (v := nI 0) dX10_laysCodes_0 (by decide) ?_
  refine R_istore1 dX10_laysCodes_1 (by decide) ?_
  -- X10_laysCodes: ('stop', 2)
  exact start 86 0 h S (by omega) x Ony.refl (fun s hs => absurd hs (by omega)) Out.refl
theorem in01 {w : Int32} : (nI 0 ≤ w ∧ w ≤ nI 1) ↔ ¬ (w < 0 ∨ nI 1 < w) := by
  rw [show (0 : Int32) = nI 0 from by decide]
  constructor
  · rintro ⟨a, b⟩ (z | z)
    · exact Int32.not_lt.mpr a z
    · exact Int32.not_lt.mpr b z
  · intro z
    exact ⟨Int32.not_lt.mp (fun y => z (Or.inl y)), Int32.not_lt.mp (fun y => z (Or.inr y))⟩
theorem MP_code_no (y : MMAt E h M q ds im md tp ph fk fp) {s w : Int32} (hn : ¬ sgI q.2 s) : Spec E k_X10_code 4 0 0 [.ref M, .int s, .int w] h (fun v h' => v = some (.int (-2)) ∧ MMAt E h' M q ds im md tp ph fk fp ∧ Out h h' M (M + 23)) := by
  obtain ⟨S, x, r⟩ := y
  refine Spec.of (by decide +kernel) (by simp [Value.category]) (Nat.le_of_ble_eq_true rfl) ?_
  show WP E k_X10_code 4 0 0 0 [some (.ref M), some (.int s), some (.int w)] [] h _
  refine R_aload_n dX10_code_0 rfl ?_
  refine R_iconst (v := nI 0) dX10_code_1 (by decide) ?_
  refine R_put_A K_10 (f := 0) (by decide) dX10_code_2 f_RX10_1 rfl x.1 (by rfl) (by rfl) (Nat.le_of_ble_eq_true rfl) ?_
  intro h0 u0
  have x0 := x.put u0 (by decide)
  have r0 := r.keep (S2 := (upd S.1 0 (nI 0), S.2)) (Ony.refl.put (by decide))
  have g0 : Out h h0 M (M + 23) := Out.upd u0 (by omega) (by omega)
  generalize (upd S.1 0 (nI 0), S.2) = S0 at x0 r0
  refine R_aload_n dX10_code_5 rfl ?_
  refine R_iload_n dX10_code_6 rfl ?_
  -- X10_code: ('call', 7, '.invokevirtual', 210)
  refine R_callV v_X10_isSign (Md_isSign x0 r0.1 s) dX10_code_7 l_RX10_210 rfl rfl x0.1 (Nat.le_of_ble_eq_true rfl) (by omega) rfl rfl (fun v h2 hq => ?_)
  obtain ⟨rfl, e9⟩ := hq
  rw [e9, if_neg hn]
  refine R_if_eq_N (tgt := 23) dX10_code_10 (by decide) (by omega) (fun c10 => ?_) (fun c10 => ?_)
  -- X10_code: ('branch', 10, 23, 13)
  · refine R_bipush (v := (-2)) dX10_code_23 (by decide) ?_
    refine R_ireturn dX10_code_25 rfl rfl ?_
    -- X10_code: ('ret', 25)
    exact ⟨rfl, ⟨S0, x0, r0⟩, g0⟩
  · exact absurd rfl c10
theorem MP_code (y : MMAt E h M q ds im md tp ph fk fp) (hq : PkOk q) {s : Nat} (hs : isSg q.2 s) (w : Int32) : Spec E k_X10_code 4 0 0 [.ref M, .int (nI s), .int w] h (fun v h' => v = some (.int (codeI q s w)) ∧ MMAt E h' M q ds im md tp ph fk fp ∧ Out h h' M (M + 23)) := by
  have hs86 := isSg_lt hs
  obtain ⟨S, x, r⟩ := y
  refine Spec.of (by decide +kernel) (by simp [Value.category]) (Nat.le_of_ble_eq_true rfl) ?_
  show WP E k_X10_code 4 0 0 0 [some (.ref M), some (.int (nI s)), some (.int w)] [] h _
  refine R_aload_n dX10_code_0 rfl ?_
  refine R_iconst (v := nI 0) dX10_code_1 (by decide) ?_
  refine R_put_A K_10 (f := 0) (by decide) dX10_code_2 f_RX10_1 rfl x.1 (by rfl) (by rfl) (Nat.le_of_ble_eq_true rfl) ?_
  intro h0 u0
  have x0 := x.put u0 (by decide)
  have r0 := r.keep (S2 := (upd S.1 0 (nI 0), S.2)) (Ony.refl.put (by decide))
  have g0 : Out h h0 M (M + 23) := Out.upd u0 (by omega) (by omega)
  generalize (upd S.1 0 (nI 0), S.2) = S0 at x0 r0
  have hql := r0.1.1
  have hll := lnS_le (sq := q.1) (s := s) (by omega)
  refine R_aload_n dX10_code_5 rfl ?_
  refine R_iload_n dX10_code_6 rfl ?_
  -- X10_code: ('call', 7, '.invokevirtual', 210)
  refine R_callV v_X10_isSign (Md_isSign x0 r0.1 (nI s)) dX10_code_7 l_RX10_210 rfl rfl x0.1 (Nat.le_of_ble_eq_true rfl) (by omega) rfl rfl (fun v h2 hq => ?_)
  obtain ⟨rfl, e9⟩ := hq
  rw [e9, if_pos ((sgI_nI (by omega)).mpr hs)]
  refine R_if_eq_N (tgt := 23) dX10_code_10 (by decide) (by omega) (fun c10 => ?_) (fun c10 => ?_)
  -- X10_code: ('branch', 10, 23, 13)
  · exact absurd c10 (by decide)
  · refine R_iload_n dX10_code_13 rfl ?_
    refine R_i2l dX10_code_14 ?_
    refine R_lconst (v := 0) dX10_code_15 rfl ?_
    refine R_lconst (v := 1) dX10_code_16 rfl ?_
    -- X10_code: ('call', 17, '.invokestatic', 98)
    refine R_callS s_X10_isIn (Md_isIn w (nI 0) (nI 1) (by decide) (by decide)) dX10_code_17 l_RX10_98 rfl rfl (Nat.le_of_ble_eq_true rfl) (by omega) rfl rfl (fun v h2 hq => ?_)
    obtain ⟨rfl, e9⟩ := hq
    rw [e9]
    by_cases cw : w < 0 ∨ nI 1 < w
    · rw [if_neg (fun z => in01.mp z cw), codeI, if_pos cw]
      refine R_if_ne_N (tgt := 26) dX10_code_20 (by decide) (by omega) (fun c20 => ?_) (fun c20 => ?_)
      -- X10_code: ('branch', 20, 26, 23)
      · exact absurd rfl c20
      · refine R_bipush (v := (-2)) dX10_code_23 (by decide) ?_
        refine R_ireturn dX10_code_25 rfl rfl ?_
        -- X10_code: ('ret', 25)
        exact ⟨rfl, ⟨S0, x0, r0⟩, g0⟩
    · rw [if_pos (in01.mpr cw), codeI, if_neg cw]
      refine R_if_ne_N (tgt := 26) dX10_code_20 (by decide) (by omega) (fun c20 => ?_) (fun c20 => ?_)
      -- X10_code: ('branch', 20, 26, 23)
      · refine R_aload_n dX10_code_26 rfl ?_
        -- X10_code: ('call', 27, '.invokevirtual', 214)
        refine R_callV v_X10_laysCodes (Md_laysCodes x0 r0.1 hq.h86) dX10_code_27 l_RX10_214 rfl rfl x0.1 (Nat.le_of_ble_eq_true rfl) (by omega) rfl rfl (fun v h3 hq => ?_)
        obtain ⟨rfl, g3, S3, x3, o3, d3, k3⟩ := hq
        have r3 := r0.keep (o3.mono (by decide) (by decide))
        have fin : MMAt E h3 M q ds im md tp ph fk fp ∧ Out h h3 M (M + 23) := ⟨⟨S3, x3, r3⟩, g0.trans g3⟩
        refine R_iload_n dX10_code_30 rfl ?_
        refine R_if_ne (tgt := 43) dX10_code_31 (by decide) (fun c31 => ?_) (fun c31 => ?_)
        -- X10_code: ('branch', 31, 43, 34)
        · rw [if_neg c31]
          refine R_aload_n dX10_code_43 rfl ?_
          refine R_get K_10 (f := 27) (by decide) dX10_code_44 f_RX10_67 x3.1 rfl ?_
          refine R_iload_n dX10_code_47 rfl ?_
          refine R_iaload_N dX10_code_48 x3.a17 (by omega) (by omega) (d3 s hs86) ?_
          refine R_if_ne_N (tgt := 56) dX10_code_49 (by decide) (by omega) (fun c49 => ?_) (fun c49 => ?_)
          -- X10_code: ('branch', 49, 56, 52)
          · rw [if_pos (by omega)]
            refine R_aload_n dX10_code_56 rfl ?_
            refine R_get K_10 (f := 29) (by decide) dX10_code_57 f_RX10_73 x3.1 rfl ?_
            refine R_iload_n dX10_code_60 rfl ?_
            refine R_iaload_N dX10_code_61 x3.a19 (by omega) (by omega) (k3.2.2 s (rkC_mem.mpr ⟨hs86, by omega, hll⟩)) ?_
            refine R_ireturn dX10_code_62 rfl rfl ?_
            -- X10_code: ('ret', 62)
            exact ⟨rfl, fin⟩
          · rw [if_neg (by omega)]
            refine R_iconst (v := (-1)) dX10_code_52 (by decide) ?_
            refine R_goto (tgt := 62) dX10_code_53 (by decide) ?_
            refine R_ireturn dX10_code_62 rfl rfl ?_
            -- X10_code: ('ret', 62)
            exact ⟨rfl, fin⟩
        · rw [if_pos c31]
          refine R_aload_n dX10_code_34 rfl ?_
          refine R_get K_10 (f := 27) (by decide) dX10_code_35 f_RX10_67 x3.1 rfl ?_
          refine R_iload_n dX10_code_38 rfl ?_
          refine R_iaload_N dX10_code_39 x3.a17 (by omega) (by omega) (d3 s hs86) ?_
          refine R_goto (tgt := 62) dX10_code_40 (by decide) ?_
          refine R_ireturn dX10_code_62 rfl rfl ?_
          -- X10_code: ('ret', 62)
          exact ⟨rfl, fin⟩
      · exact absurd c20 (by decide)
theorem MP_coded (y : MMAt E h M q ds im md tp ph fk fp) (hq : PkOk q) (i : Int32) : Spec E k_X10_coded 4 0 0 [.ref M, .int i] h (fun v h' => v = some (.int (if i < 0 then -3 else rget (rkS q.1) i)) ∧ MMAt E h' M q ds im md tp ph fk fp ∧ Out h h' M (M + 23)) := by
  obtain ⟨S, x, r⟩ := y
  refine Spec.of (by decide +kernel) (by simp [Value.category]) (Nat.le_of_ble_eq_true rfl) ?_
  show WP E k_X10_coded 4 0 0 0 [some (.ref M), some (.int i)] [] h _
  refine R_aload_n dX10_coded_0 rfl ?_
  refine R_iconst (v := nI 0) dX10_coded_1 (by decide) ?_
  refine R_put_A K_10 (f := 0) (by decide) dX10_coded_2 f_RX10_1 rfl x.1 (by rfl) (by rfl) (Nat.le_of_ble_eq_true rfl) ?_
  intro h0 u0
  have x0 := x.put u0 (by decide)
  have r0 := r.keep (S2 := (upd S.1 0 (nI 0), S.2)) (Ony.refl.put (by decide))
  have g0 : Out h h0 M (M + 23) := Out.upd u0 (by omega) (by omega)
  generalize (upd S.1 0 (nI 0), S.2) = S0 at x0 r0
  by_cases hi : i < 0
  · rw [if_pos hi]
    refine R_iload_n dX10_coded_5 rfl ?_
    refine R_if_ge (tgt := 12) dX10_coded_6 (by decide) (fun c6 => ?_) (fun c6 => ?_)
    -- X10_coded: ('branch', 6, 12, 9)
    · exact absurd hi (Int32.not_lt.mpr c6)
    · refine R_bipush (v := (-3)) dX10_coded_9 (by decide) ?_
      refine R_ireturn dX10_coded_11 rfl rfl ?_
      -- X10_coded: ('ret', 11)
      exact ⟨rfl, ⟨S0, x0, r0⟩, g0⟩
  · rw [if_neg hi]
    obtain ⟨n, hn, rfl⟩ := nI_of hi
    have hrl : (rkS q.1).length ≤ 86 := by
      have := rkC_len (ln := lnS q.1) 85
      have := cntB_le (fun x => decide (1 ≤ lnS q.1 x ∧ lnS q.1 x ≤ 85)) 86
      rw [rkS]; omega
    refine R_iload_n dX10_coded_5 rfl ?_
    refine R_if_ge_N (tgt := 12) dX10_coded_6 (by decide) (by omega) ?_
    refine R_aload_n dX10_coded_12 rfl ?_
    -- X10_coded: ('call', 13, '.invokevirtual', 214)
    refine R_callV v_X10_laysCodes (Md_laysCodes x0 r0.1 hq.h86) dX10_coded_13 l_RX10_214 rfl rfl x0.1 (Nat.le_of_ble_eq_true rfl) (by omega) rfl rfl (fun v h3 hq => ?_)
    obtain ⟨rfl, g3, S3, x3, o3, d3, k3⟩ := hq
    have r3 := r0.keep (o3.mono (by decide) (by decide))
    have fin : MMAt E h3 M q ds im md tp ph fk fp ∧ Out h h3 M (M + 23) := ⟨⟨S3, x3, r3⟩, g0.trans g3⟩
    refine R_iload_n dX10_coded_16 rfl ?_
    refine R_aload_n dX10_coded_17 rfl ?_
    refine R_get K_10 (f := 30) (by decide) dX10_coded_18 f_RX10_207 x3.1 (fld_get (k := 30) (by decide) k3.1) ?_
    refine R_icmp_ge_N (tgt := 33) dX10_coded_21 (by decide) (by omega) (by omega) (fun c21 => ?_) (fun c21 => ?_)
    -- X10_coded: ('branch', 21, 33, 24)
    · refine R_iconst (v := (-1)) dX10_coded_33 (by decide) ?_
      refine R_ireturn dX10_coded_34 rfl rfl ?_
      -- X10_coded: ('ret', 34)
      exact ⟨by rw [rget_out hn (by omega)], fin⟩
    · obtain ⟨a, ha⟩ := getE (l := rkS q.1) (i := n) (by omega)
      refine R_aload_n dX10_coded_24 rfl ?_
      refine R_get K_10 (f := 28) (by decide) dX10_coded_25 f_RX10_70 x3.1 rfl ?_
      refine R_iload_n dX10_coded_28 rfl ?_
      refine R_iaload_N dX10_coded_29 x3.a18 (by omega) (by omega) (k3.2.1 n a ha) ?_
      refine R_goto (tgt := 34) dX10_coded_30 (by decide) ?_
      refine R_ireturn dX10_coded_34 rfl rfl ?_
      -- X10_coded: ('ret', 34)
      exact ⟨by rw [rget_in hn ha], fin⟩
theorem Md_bitsAll (x : MdAt E h M S) (c : curF (S.2 1) q) (h86 : ∀ y ∈ q.1, y < 86) : Spec E k_X10_bitsAll 4 0 0 [.ref M] h (fun v h' => v = some (.int (nI (bitsS q.1))) ∧ Out h h' M (M + 23) ∧ ∃ S', MdAt E h' M S' ∧ Ony codK [30] S S') := by
  have hql := c.1
  have hbs : bitsS q.1 = lsum (lnS q.1) q.1 := by rw [bitsS, lsum_count h86]
  refine Spec.of (by decide +kernel) (by simp [Value.category]) (Nat.le_of_ble_eq_true rfl) ?_
  show WP E k_X10_bitsAll 4 0 0 0 [some (.ref M), none, none] [] h _
  refine R_aload_n dX10_bitsAll_0 rfl ?_
  -- X10_bitsAll: ('call', 1, '.invokevirtual', 214)
  refine R_callV v_X10_laysCodes (Md_laysCodes x c h86) dX10_bitsAll_1 l_RX10_214 rfl rfl x.1 (Nat.le_of_ble_eq_true rfl) (by omega) rfl rfl (fun v h3 hq => ?_)
  obtain ⟨rfl, g3, S3, x3, o3, d3, k3⟩ := hq
  have c3 : curF (S3.2 1) q := by rw [o3.a1 (by decide)]; exact c
  have loop : ∀ m t, t + m = q.1.length → WP E k_X10_bitsAll 4 0 0 8 [some (.ref M), some (.int (nI (lsum (lnS q.1) (q.1.take t)))), some (.int (nI t))] [] h3 (fun v h' => v = some (.int (nI (bitsS q.1))) ∧ Out h h' M (M + 23) ∧ ∃ S', MdAt E h' M S' ∧ Ony codK [30] S S') := by
    intro m
    induction m with
    | zero =>
      intro t ht
      refine R_iload_n dX10_bitsAll_8 rfl ?_
      refine R_aload_n dX10_bitsAll_9 rfl ?_
      -- X10_bitsAll: ('call', 10, '.invokevirtual', 123)
      refine R_callV v_X10_many (Md_many x3 c3) dX10_bitsAll_10 l_RX10_123 rfl rfl x3.1 (Nat.le_of_ble_eq_true rfl) (by omega) rfl rfl (fun v h4 hq => ?_)
      obtain ⟨rfl, e9⟩ := hq
      rw [e9]
      refine R_icmp_ge_N (tgt := 35) dX10_bitsAll_13 (by decide) (by omega) (by omega) (fun c13 => ?_) (fun c13 => ?_)
      -- X10_bitsAll: ('branch', 13, 35, 16)
      · refine R_iload_n dX10_bitsAll_35 rfl ?_
        refine R_ireturn dX10_bitsAll_36 rfl rfl ?_
        -- X10_bitsAll: ('ret', 36)
        exact ⟨by rw [hbs, List.take_of_length_le (by omega)], g3, S3, x3, o3⟩
      · exact absurd c13 (by omega)
    | succ m ih =>
      intro t ht
      obtain ⟨y, hy⟩ := getE (l := q.1) (i := t) (by omega)
      have hy86 := h86 y (List.mem_of_getElem? hy)
      have ih := ih (t + 1) (by omega)
      rw [take_snoc hy, lsum_app, lsum, lsum, Nat.add_zero] at ih
      refine R_iload_n dX10_bitsAll_8 rfl ?_
      refine R_aload_n dX10_bitsAll_9 rfl ?_
      -- X10_bitsAll: ('call', 10, '.invokevirtual', 123)
      refine R_callV v_X10_many (Md_many x3 c3) dX10_bitsAll_10 l_RX10_123 rfl rfl x3.1 (Nat.le_of_ble_eq_true rfl) (by omega) rfl rfl (fun v h4 hq => ?_)
      obtain ⟨rfl, e9⟩ := hq
      rw [e9]
      refine R_icmp_ge_N (tgt := 35) dX10_bitsAll_13 (by decide) (by omega) (by omega) (fun c13 => ?_) (fun c13 => ?_)
      -- X10_bitsAll: ('branch', 13, 35, 16)
      · exact absurd c13 (by omega)
      · refine R_iload_n dX10_bitsAll_16 rfl ?_
        refine R_aload_n dX10_bitsAll_17 rfl ?_
        refine R_get K_10 (f := 27) (by decide) dX10_bitsAll_18 f_RX10_67 x3.1 rfl ?_
        refine R_aload_n dX10_bitsAll_21 rfl ?_
        refine R_iload_n dX10_bitsAll_22 rfl ?_
        -- X10_bitsAll: ('call', 23, '.invokevirtual', 127)
        refine R_callV v_X10_signAt (Md_signAt x3 c3 hy) dX10_bitsAll_23 l_RX10_127 rfl rfl x3.1 (Nat.le_of_ble_eq_true rfl) (by omega) rfl rfl (fun v h5 hq => ?_)
        obtain ⟨rfl, e9⟩ := hq
        rw [e9]
        refine R_iaload_N dX10_bitsAll_26 x3.a17 (by omega) (by omega) (d3 y hy86) ?_
        refine R_iadd_N dX10_bitsAll_27 ?_
        refine R_istore1 dX10_bitsAll_28 (by decide) ?_
        refine R_iinc2 dX10_bitsAll_29 (by decide) (nI_inc _ 1) ?_
        refine R_goto (tgt := 8) dX10_bitsAll_32 (by decide) ?_
        -- X10_bitsAll: ('stop', 8)
        exact ih
  refine R_iconst (v := nI 0) dX10_bitsAll_4 (by decide) ?_
  refine R_istore1 dX10_bitsAll_5 (by decide) ?_
  refine R_iconst (v := nI 0) dX10_bitsAll_6 (by decide) ?_
  refine R_istore2 dX10_bitsAll_7 (by decide) ?_
  -- X10_bitsAll: ('stop', 8)
  exact loop q.1.length 0 (by omega)
end MD16
