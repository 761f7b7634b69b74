/-! PAIRPACKER: letters put, cut, put in -/
abbrev stP (len : Nat) (p : Int32) (m : Nat) : Prop := ¬ p < 0 ∧ p.toNatClampNeg + m ≤ len
theorem stP_nI {len n m : Nat} (hn : n < 2 ^ 31) : stP len (nI n) m ↔ n + m ≤ len := by
  rw [stP, nI_clamp hn]; exact ⟨fun z => z.2, fun z => ⟨nI_pos hn, z⟩⟩
section PP7
variable {E : EnvT} {h h1 : Hp} {X rd : Nat} {q qc : Pk} {ds : List Pk} {im : Nat → Pk} {md : Nat → Nat} {tp ph : List Nat} {fk fp : Int32}
theorem PPC.words (x : PPC E h X 1 q qc ds im md tp ph fk fp) : ∃ re le, WordsT E h (X + 1525) qc.2 (ordS qc.2) re le := by
  rcases x.2.2.2.2.2.2.1 with ⟨z, -⟩ | ⟨-, z, -⟩
  · exact absurd z (by decide)
  · exact z
theorem PP_isStretch (x : PPAt E h X rd q ds im md tp ph fk fp) (hq : PkOk q) (p : Int32) {m : Nat} (hm : m < 2 ^ 31) : Spec E k_X9_isStretch 6 0 0 [.ref X, .int p, .int (nI m)] h (fun v h' => v = some (.int (nI (if stP (letL q.2 q.1).length p m then 1 else 0))) ∧ PPAt E h' X 1 q ds im md tp ph fk fp ∧ Out h h' X (X + 1830)) := by
  have hlen : (letL q.2 q.1).length ≤ 240 := by rw [letL_len]; exact hq.2.2.1
  refine Spec.of (by decide +kernel) (by simp [Value.category]) (Nat.le_of_ble_eq_true rfl) ?_
  show WP E k_X9_isStretch 6 0 0 0 [some (.ref X), some (.int p), some (.int (nI m))] [] h _
  refine R_aload_n dX9_isStretch_0 rfl ?_
  -- X9_isStretch: ('call', 1, '.invokevirtual', 144)
  refine R_callV v_X9_read (PP_read x hq) dX9_isStretch_1 l_RX9_144 rfl rfl x.1 (Nat.le_of_ble_eq_true rfl) (by omega) rfl rfl (fun v h2 hq => ?_)
  obtain ⟨rfl, x2, o2⟩ := hq
  obtain ⟨-, lo, la, r⟩ := x2.cach
  by_cases hp : p < 0
  · refine R_iload_n dX9_isStretch_4 rfl ?_
    refine R_if_lt (tgt := 36) dX9_isStretch_5 (by decide) (fun c5 => ?_) (fun c5 => ?_)
    -- X9_isStretch: ('branch', 5, 36, 8)
    · refine R_iconst (v := nI 0) dX9_isStretch_36 (by decide) ?_
      refine R_ireturn dX9_isStretch_37 rfl (by rfl) ?_
      -- X9_isStretch: ('ret', 37)
      exact ⟨by rw [if_neg (fun z => z.1 hp)], x2, o2⟩
    · exact absurd hp c5
  · obtain ⟨n, hn, rfl⟩ := nI_of hp
    rw [if_iff (stP_nI hn)]
    refine R_iload_n dX9_isStretch_4 rfl ?_
    refine R_if_lt_N (tgt := 36) dX9_isStretch_5 (by decide) (by omega) ?_
    refine R_iload_n dX9_isStretch_8 rfl ?_
    refine R_aload_n dX9_isStretch_9 rfl ?_
    refine R_get K_9 (f := 10) (by decide) dX9_isStretch_10 f_RX9_67 x2.1 rfl ?_
    -- X9_isStretch: ('call', 13, '.invokevirtual', 207)
    refine R_callV v_X5_size (Read_size r) dX9_isStretch_13 l_RX9_207 rfl rfl r.1 (Nat.le_of_ble_eq_true rfl) (by omega) rfl rfl (fun v h3 hq => ?_)
    obtain ⟨rfl, e9⟩ := hq
    rw [e9]
    refine R_icmp_gt_N (tgt := 36) dX9_isStretch_16 (by decide) (by omega) (by omega) (fun c16 => ?_) (fun c16 => ?_)
    -- X9_isStretch: ('branch', 16, 36, 19)
    · refine R_iconst (v := nI 0) dX9_isStretch_36 (by decide) ?_
      refine R_ireturn dX9_isStretch_37 rfl (by rfl) ?_
      -- X9_isStretch: ('ret', 37)
      exact ⟨by rw [if_neg (by omega)], x2, o2⟩
    · refine R_iload_n dX9_isStretch_19 rfl ?_
      refine R_aload_n dX9_isStretch_20 rfl ?_
      refine R_get K_9 (f := 10) (by decide) dX9_isStretch_21 f_RX9_67 x2.1 rfl ?_
      -- X9_isStretch: ('call', 24, '.invokevirtual', 207)
      refine R_callV v_X5_size (Read_size r) dX9_isStretch_24 l_RX9_207 rfl rfl r.1 (Nat.le_of_ble_eq_true rfl) (by omega) rfl rfl (fun v h4 hq => ?_)
      obtain ⟨rfl, e9⟩ := hq
      rw [e9]
      refine R_iload_n dX9_isStretch_27 rfl ?_
      refine R_isub_N dX9_isStretch_28 (by omega) ?_
      refine R_icmp_gt_N (tgt := 36) dX9_isStretch_29 (by decide) (by omega) (by omega) (fun c29 => ?_) (fun c29 => ?_)
      -- X9_isStretch: ('branch', 29, 36, 32)
      · refine R_iconst (v := nI 0) dX9_isStretch_36 (by decide) ?_
        refine R_ireturn dX9_isStretch_37 rfl (by rfl) ?_
        -- X9_isStretch: ('ret', 37)
        exact ⟨by rw [if_neg (by omega)], x2, o2⟩
      · refine R_iconst (v := nI 1) dX9_isStretch_32 (by decide) ?_
        refine R_goto (tgt := 37) dX9_isStretch_33 (by decide) ?_
        refine R_ireturn dX9_isStretch_37 rfl (by rfl) ?_
        -- X9_isStretch: ('ret', 37)
        exact ⟨by rw [if_pos (by omega)], x2, o2⟩
theorem PP_put_no1 {c p : Int32} (hn : ¬ ltI c) : Spec E k_X9_put 6 0 0 [.ref X, .int p, .int c] h (fun v h' => v = some (.int (-2)) ∧ h' = h) := by
  refine Spec.of (by decide +kernel) (by simp [Value.category]) (Nat.le_of_ble_eq_true rfl) ?_
  show WP E k_X9_put 6 0 0 0 [some (.ref X), some (.int p), some (.int c), none, none] [] h _
  refine R_iload_n dX9_put_0 rfl ?_
  -- X9_put: ('call', 1, '.invokestatic', 214)
  refine R_callS s_X9_isLetter (isLetter_any c) dX9_put_1 l_RX9_214 rfl rfl (Nat.le_of_ble_eq_true rfl) (by omega) rfl rfl (fun v h2 hq => ?_)
  obtain ⟨rfl, e9⟩ := hq
  rw [e9, if_neg hn]
  refine R_if_ne_N (tgt := 10) dX9_put_4 (by decide) (by omega) (fun c4 => ?_) (fun c4 => ?_)
  -- X9_put: ('branch', 4, 10, 7)
  · exact absurd rfl c4
  · refine R_bipush (v := (-2)) dX9_put_7 (by decide) ?_
    refine R_ireturn dX9_put_9 rfl rfl ?_
    -- X9_put: ('ret', 9)
    exact ⟨rfl, rfl⟩
theorem PP_put_no2 (x : PPAt E h X rd q ds im md tp ph fk fp) (hq : PkOk q) {c : Nat} {p : Int32} (hc : c < 26) (hn : ¬ hasP (letL q.2 q.1).length p) : Spec E k_X9_put 6 0 0 [.ref X, .int p, .int (nI c)] h (fun v h' => v = some (.int (-5)) ∧ (∃ rd, PPAt E h' X rd q ds im md tp ph fk fp) ∧ Out h h' X (X + 1830)) := by
  refine Spec.of (by decide +kernel) (by simp [Value.category]) (Nat.le_of_ble_eq_true rfl) ?_
  show WP E k_X9_put 6 0 0 0 [some (.ref X), some (.int p), some (.int (nI c)), none, none] [] h _
  refine R_iload_n dX9_put_0 rfl ?_
  -- X9_put: ('call', 1, '.invokestatic', 214)
  refine R_callS s_X9_isLetter (isLetter_N (s := c) (by omega)) dX9_put_1 l_RX9_214 rfl rfl (Nat.le_of_ble_eq_true rfl) (by omega) rfl rfl (fun v h2 hq => ?_)
  obtain ⟨rfl, e9⟩ := hq
  rw [e9, if_pos hc]
  refine R_if_ne_N (tgt := 10) dX9_put_4 (by decide) (by omega) (fun c4 => ?_) (fun c4 => ?_)
  -- X9_put: ('branch', 4, 10, 7)
  · refine R_aload_n dX9_put_10 rfl ?_
    -- X9_put: ('call', 11, '.invokevirtual', 144)
    refine R_callV v_X9_read (PP_read x hq) dX9_put_11 l_RX9_144 rfl rfl x.1 (Nat.le_of_ble_eq_true rfl) (by omega) rfl rfl (fun v h3 hq => ?_)
    obtain ⟨rfl, x2, o2⟩ := hq
    obtain ⟨-, lo, la, r⟩ := x2.cach
    refine R_aload_n dX9_put_14 rfl ?_
    refine R_get K_9 (f := 10) (by decide) dX9_put_15 f_RX9_67 x2.1 rfl ?_
    refine R_iload_n dX9_put_18 rfl ?_
    -- X9_put: ('call', 19, '.invokevirtual', 217)
    refine R_callV v_X5_hasPlace (Read_hasPlace_any r p) dX9_put_19 l_RX9_217 rfl rfl r.1 (Nat.le_of_ble_eq_true rfl) (by omega) rfl rfl (fun v h4 hq => ?_)
    obtain ⟨rfl, e9⟩ := hq
    rw [e9, if_neg hn]
    refine R_if_ne_N (tgt := 28) dX9_put_22 (by decide) (by omega) (fun c22 => ?_) (fun c22 => ?_)
    -- X9_put: ('branch', 22, 28, 25)
    · exact absurd rfl c22
    · refine R_bipush (v := (-5)) dX9_put_25 (by decide) ?_
      refine R_ireturn dX9_put_27 rfl rfl ?_
      -- X9_put: ('ret', 27)
      exact ⟨rfl, ⟨_, x2⟩, o2⟩
  · exact absurd c4 (by decide)
theorem PP_put (x : PPAt E h X rd q ds im md tp ph fk fp) (hq : PkOk q) {c p l0 : Nat} (hc : c < 26) (hl0 : (letL q.2 q.1)[p]? = some l0) : Spec E k_X9_put 6 0 0 [.ref X, .int (nI p), .int (nI c)] h (fun v h' => v = some (.int (nI l0)) ∧ (∃ sq i j, op2 q p (p + 1) sq i j ∧ ∃ rd, PPAt E h' X rd (sq.set i c, q.2) (pushD ds q) im md tp ph fk fp) ∧ Out h h' X (X + 1830)) := by
  have hp : p < (letL q.2 q.1).length := (List.getElem?_eq_some_iff.mp hl0).1
  have hll := letL_len (ru := q.2) (q := q.1)
  have hlen : (letL q.2 q.1).length ≤ 240 := by rw [letL_len]; exact hq.2.2.1
  refine Spec.of (by decide +kernel) (by simp [Value.category]) (Nat.le_of_ble_eq_true rfl) ?_
  show WP E k_X9_put 6 0 0 0 [some (.ref X), some (.int (nI p)), some (.int (nI c)), none, none] [] h _
  refine R_iload_n dX9_put_0 rfl ?_
  -- X9_put: ('call', 1, '.invokestatic', 214)
  refine R_callS s_X9_isLetter (isLetter_N (s := c) (by omega)) dX9_put_1 l_RX9_214 rfl rfl (Nat.le_of_ble_eq_true rfl) (by omega) rfl rfl (fun v h2 hq => ?_)
  obtain ⟨rfl, e9⟩ := hq
  rw [e9, if_pos hc]
  refine R_if_ne_N (tgt := 10) dX9_put_4 (by decide) (by omega) (fun c4 => ?_) (fun c4 => ?_)
  -- X9_put: ('branch', 4, 10, 7)
  · refine R_aload_n dX9_put_10 rfl ?_
    -- X9_put: ('call', 11, '.invokevirtual', 144)
    refine R_callV v_X9_read (PP_read x hq) dX9_put_11 l_RX9_144 rfl rfl x.1 (Nat.le_of_ble_eq_true rfl) (by omega) rfl rfl (fun v h3 hq => ?_)
    obtain ⟨rfl, x2, o2⟩ := hq
    obtain ⟨-, lo, la, r⟩ := x2.cach
    refine R_aload_n dX9_put_14 rfl ?_
    refine R_get K_9 (f := 10) (by decide) dX9_put_15 f_RX9_67 x2.1 rfl ?_
    refine R_iload_n dX9_put_18 rfl ?_
    -- X9_put: ('call', 19, '.invokevirtual', 217)
    refine R_callV v_X5_hasPlace (Read_hasPlace r (i := p) (by omega)) dX9_put_19 l_RX9_217 rfl rfl r.1 (Nat.le_of_ble_eq_true rfl) (by omega) rfl rfl (fun v h4 hq => ?_)
    obtain ⟨rfl, e9⟩ := hq
    rw [e9, if_pos hp]
    refine R_if_ne_N (tgt := 28) dX9_put_22 (by decide) (by omega) (fun c22 => ?_) (fun c22 => ?_)
    -- X9_put: ('branch', 22, 28, 25)
    · refine R_aload_n dX9_put_28 rfl ?_
      refine R_get K_9 (f := 10) (by decide) dX9_put_29 f_RX9_67 x2.1 rfl ?_
      refine R_iload_n dX9_put_32 rfl ?_
      -- X9_put: ('call', 33, '.invokevirtual', 208)
      refine R_callV v_X5_letterAt (Read_letterAt r (nI p)) dX9_put_33 l_RX9_208 rfl rfl r.1 (Nat.le_of_ble_eq_true rfl) (by omega) rfl rfl (fun v h5 hq => ?_)
      obtain ⟨rfl, e9⟩ := hq
      rw [e9, rget_in (by omega) hl0]
      obtain ⟨nx, ks, hQ, hk⟩ := id x2.2.2.1
      refine R_istore3 dX9_put_36 (by decide) ?_
      refine R_aload_n dX9_put_37 rfl ?_
      refine R_get K_9 (f := 1) (by decide) dX9_put_38 f_RX9_19 x2.1 rfl ?_
      refine R_aload_n dX9_put_41 rfl ?_
      refine R_get K_9 (f := 0) (by decide) dX9_put_42 f_RX9_12 x2.1 rfl ?_
      -- X9_put: ('call', 45, '.invokevirtual', 128)
      refine R_callV v_X4_keep (Past_keep hQ x2.2.1 (by omega)) dX9_put_45 l_RX9_128 rfl rfl hQ.1 (Nat.le_of_ble_eq_true rfl) (by omega) rfl rfl (fun v h6 hq => ?_)
      obtain ⟨rfl, hQ6, o6⟩ := hq
      have x6 := (PPC.of x2).kept hQ hk hQ6 o6
      obtain ⟨re6, le6, w6⟩ := x6.words
      refine R_aload_n dX9_put_48 rfl ?_
      refine R_get K_9 (f := 0) (by decide) dX9_put_49 f_RX9_12 x6.1 rfl ?_
      refine R_iload_n dX9_put_52 rfl ?_
      refine R_aload_n dX9_put_53 rfl ?_
      refine R_get K_9 (f := 9) (by decide) dX9_put_54 f_RX9_60 x6.1 rfl ?_
      -- X9_put: ('call', 57, '.invokevirtual', 220)
      refine R_callV v_X2_open (Pack_open hq.1 w6 x6.2.1 (by omega) hq.2.1 (place := p) hq.2.2.1 (by omega)) dX9_put_57 l_RX9_220 rfl rfl x6.2.1.1 (Nat.le_of_ble_eq_true rfl) (by omega) rfl rfl (fun v h7 hq => ?_)
      obtain ⟨n1, sq1, i, ho1, rfl, hP7, o7⟩ := hq
      have x7 := x6.setPk (q2 := (sq1, q.2)) hP7 (o7.mono (by omega) (by omega))
      obtain ⟨ok1, ls1, -, -, il1, -⟩ := opD_one hq (by omega) ho1
      have ls1 : lsum (wlen q.2) sq1 = lsum (wlen q.2) q.1 := ls1
      obtain ⟨re7, le7, w7⟩ := x7.words
      refine R_istore4 dX9_put_60 (by decide) ?_
      refine R_aload_n dX9_put_62 rfl ?_
      refine R_get K_9 (f := 0) (by decide) dX9_put_63 f_RX9_12 x7.1 rfl ?_
      refine R_iload_n dX9_put_66 rfl ?_
      refine R_iconst (v := nI 1) dX9_put_67 (by decide) ?_
      refine R_iadd_N dX9_put_68 ?_
      refine R_aload_n dX9_put_69 rfl ?_
      refine R_get K_9 (f := 9) (by decide) dX9_put_70 f_RX9_60 x7.1 rfl ?_
      -- X9_put: ('call', 73, '.invokevirtual', 220)
      refine R_callV v_X2_open (Pack_open hq.1 w7 x7.2.1 (by omega) ok1.2.1 (place := p + 1) ok1.2.2.1 (by show p + 1 ≤ lsum (wlen q.2) sq1; omega)) dX9_put_73 l_RX9_220 rfl rfl x7.2.1.1 (Nat.le_of_ble_eq_true rfl) (by omega) rfl rfl (fun v h8 hq => ?_)
      obtain ⟨n2, sq2, j, ho2, rfl, hP8, o8⟩ := hq
      have x8 := x7.setPk (q2 := (sq2, q.2)) hP8 (o8.mono (by omega) (by omega))
      have op : op2 q p (p + 1) sq2 i j := ⟨n1, n2, sq1, ho1, ho2⟩
      obtain ⟨il, hat, -, ok2⟩ := put_ok hq (by omega) op hc
      have hs240 := x8.2.1.2.1.1
      have hs240 : sq2.length ≤ 240 := hs240
      refine R_pop dX9_put_76 rfl ?_
      refine R_aload_n dX9_put_77 rfl ?_
      refine R_get K_9 (f := 0) (by decide) dX9_put_78 f_RX9_12 x8.1 rfl ?_
      -- X9_put: ('call', 81, '.invokevirtual', 135)
      refine R_callV v_X2_sequence (Pack_sequence x8.2.1) dX9_put_81 l_RX9_135 rfl rfl x8.2.1.1 (Nat.le_of_ble_eq_true rfl) (by omega) rfl rfl (fun v h9 hq => ?_)
      obtain ⟨rfl, e9⟩ := hq
      rw [e9]
      refine R_iload dX9_put_84 rfl ?_
      refine R_iload_n dX9_put_86 rfl ?_
      -- X9_put: ('call', 87, '.invokevirtual', 224)
      refine R_callV v_X6_set (Row_set x8.2.1.2.1 il (x := c) (by omega)) dX9_put_87 l_RX9_224 rfl rfl x8.2.1.2.1.2.2.1 (Nat.le_of_ble_eq_true rfl) (by omega) rfl rfl (fun v h10 hq => ?_)
      obtain ⟨rfl, hR10, o10⟩ := hq
      have x10 := x8.setPk (q2 := (sq2.set i c, q.2)) (x8.2.1.setSeq hR10 o10) (o10.mono (by omega) (by omega))
      refine R_aload_n dX9_put_90 rfl ?_
      refine R_iconst (v := nI 0) dX9_put_91 (by decide) ?_
      refine R_put_A K_9 (f := 11) (by decide) dX9_put_92 f_RX9_71 rfl x10.1 (by rfl) (by rfl) (Nat.le_of_ble_eq_true rfl) ?_
      -- X9_put: ('put', 95)
      intro h11 u11
      have x11 : PPC E h11 X 0 (sq2.set i c, q.2) q (pushD ds q) im md tp ph fk fp := x10.setObj (rd2 := 0) u11 x10.2.2.2.2.2.2.1.low
      refine R_iload_n dX9_put_95 rfl ?_
      refine R_ireturn dX9_put_96 rfl rfl ?_
      -- X9_put: ('ret', 96)
      exact ⟨rfl, ⟨sq2, i, j, op, 0, x11.lo⟩, ((((o2.trans (o6.mono (by omega) (by omega))).trans (o7.mono (by omega) (by omega))).trans (o8.mono (by omega) (by omega))).trans (o10.mono (by omega) (by omega))).trans (Out.upd u11 (by omega) (by omega))⟩
    · exact absurd c22 (by decide)
  · exact absurd c4 (by decide)
theorem PP_cut_no1 {p n : Int32} (hn : n < nI 1) : Spec E k_X9_cut 7 0 0 [.ref X, .int p, .int n] h (fun v h' => v = some (.int (-3)) ∧ h' = h) := by
  refine Spec.of (by decide +kernel) (by simp [Value.category]) (Nat.le_of_ble_eq_true rfl) ?_
  show WP E k_X9_cut 7 0 0 0 [some (.ref X), some (.int p), some (.int n), none, none] [] h _
  refine R_iload_n dX9_cut_0 rfl ?_
  refine R_iconst (v := nI 1) dX9_cut_1 (by decide) ?_
  refine R_icmp_ge (tgt := 8) dX9_cut_2 (by decide) (fun c2 => ?_) (fun c2 => ?_)
  -- X9_cut: ('branch', 2, 8, 5)
  · exact absurd hn (Int32.not_lt.mpr c2)
  · refine R_bipush (v := (-3)) dX9_cut_5 (by decide) ?_
    refine R_ireturn dX9_cut_7 rfl rfl ?_
    -- X9_cut: ('ret', 7)
    exact ⟨rfl, rfl⟩
theorem PP_cut_no2 (x : PPAt E h X rd q ds im md tp ph fk fp) (hq : PkOk q) {p : Int32} {n : Nat} (h1n : 1 ≤ n) (hn : n < 2 ^ 31) (hs : ¬ stP (letL q.2 q.1).length p n) : Spec E k_X9_cut 7 0 0 [.ref X, .int p, .int (nI n)] h (fun v h' => v = some (.int (-5)) ∧ (∃ rd, PPAt E h' X rd q ds im md tp ph fk fp) ∧ Out h h' X (X + 1830)) := by
  refine Spec.of (by decide +kernel) (by simp [Value.category]) (Nat.le_of_ble_eq_true rfl) ?_
  show WP E k_X9_cut 7 0 0 0 [some (.ref X), some (.int p), some (.int (nI n)), none, none] [] h _
  refine R_iload_n dX9_cut_0 rfl ?_
  refine R_iconst (v := nI 1) dX9_cut_1 (by decide) ?_
  refine R_icmp_ge_N (tgt := 8) dX9_cut_2 (by decide) (by omega) (by omega) (fun c2 => ?_) (fun c2 => ?_)
  -- X9_cut: ('branch', 2, 8, 5)
  · refine R_aload_n dX9_cut_8 rfl ?_
    refine R_iload_n dX9_cut_9 rfl ?_
    refine R_iload_n dX9_cut_10 rfl ?_
    -- X9_cut: ('call', 11, '.invokevirtual', 227)
    refine R_callV v_X9_isStretch (PP_isStretch x hq p hn) dX9_cut_11 l_RX9_227 rfl rfl x.1 (Nat.le_of_ble_eq_true rfl) (by omega) rfl rfl (fun v h3 hq => ?_)
    obtain ⟨rfl, x2, o2⟩ := hq
    rw [if_neg hs]
    refine R_if_ne_N (tgt := 20) dX9_cut_14 (by decide) (by omega) (fun c14 => ?_) (fun c14 => ?_)
    -- X9_cut: ('branch', 14, 20, 17)
    · exact absurd rfl c14
    · refine R_bipush (v := (-5)) dX9_cut_17 (by decide) ?_
      refine R_ireturn dX9_cut_19 rfl rfl ?_
      -- X9_cut: ('ret', 19)
      exact ⟨rfl, ⟨_, x2⟩, o2⟩
  · exact absurd c2 (by omega)
theorem PP_cut (x : PPAt E h X rd q ds im md tp ph fk fp) (hq : PkOk q) {p n : Nat} (h1n : 1 ≤ n) (hs : p + n ≤ (letL q.2 q.1).length) : Spec E k_X9_cut 7 0 0 [.ref X, .int (nI p), .int (nI n)] h (fun v h' => v = some (.int (nI ((letL q.2 q.1).length - n))) ∧ (∃ sq i j, op2 q p (p + n) sq i j ∧ ∃ rd, PPAt E h' X rd (sq.take i ++ sq.drop j, q.2) (pushD ds q) im md tp ph fk fp) ∧ Out h h' X (X + 1830)) := by
  have hll := letL_len (ru := q.2) (q := q.1)
  have hlen : (letL q.2 q.1).length ≤ 240 := by rw [letL_len]; exact hq.2.2.1
  refine Spec.of (by decide +kernel) (by simp [Value.category]) (Nat.le_of_ble_eq_true rfl) ?_
  show WP E k_X9_cut 7 0 0 0 [some (.ref X), some (.int (nI p)), some (.int (nI n)), none, none] [] h _
  refine R_iload_n dX9_cut_0 rfl ?_
  refine R_iconst (v := nI 1) dX9_cut_1 (by decide) ?_
  refine R_icmp_ge_N (tgt := 8) dX9_cut_2 (by decide) (by omega) (by omega) (fun c2 => ?_) (fun c2 => ?_)
  -- X9_cut: ('branch', 2, 8, 5)
  · refine R_aload_n dX9_cut_8 rfl ?_
    refine R_iload_n dX9_cut_9 rfl ?_
    refine R_iload_n dX9_cut_10 rfl ?_
    -- X9_cut: ('call', 11, '.invokevirtual', 227)
    refine R_callV v_X9_isStretch (PP_isStretch x hq (nI p) (m := n) (by omega)) dX9_cut_11 l_RX9_227 rfl rfl x.1 (Nat.le_of_ble_eq_true rfl) (by omega) rfl rfl (fun v h3 hq => ?_)
    obtain ⟨rfl, x2, o2⟩ := hq
    rw [if_pos ((stP_nI (by omega)).mpr hs)]
    refine R_if_ne_N (tgt := 20) dX9_cut_14 (by decide) (by omega) (fun c14 => ?_) (fun c14 => ?_)
    -- X9_cut: ('branch', 14, 20, 17)
    · obtain ⟨nx, ks, hQ, hk⟩ := id x2.2.2.1
      refine R_aload_n dX9_cut_20 rfl ?_
      refine R_get K_9 (f := 1) (by decide) dX9_cut_21 f_RX9_19 x2.1 rfl ?_
      refine R_aload_n dX9_cut_24 rfl ?_
      refine R_get K_9 (f := 0) (by decide) dX9_cut_25 f_RX9_12 x2.1 rfl ?_
      -- X9_cut: ('call', 28, '.invokevirtual', 128)
      refine R_callV v_X4_keep (Past_keep hQ x2.2.1 (by omega)) dX9_cut_28 l_RX9_128 rfl rfl hQ.1 (Nat.le_of_ble_eq_true rfl) (by omega) rfl rfl (fun v h6 hq => ?_)
      obtain ⟨rfl, hQ6, o6⟩ := hq
      have x6 := (PPC.of x2).kept hQ hk hQ6 o6
      obtain ⟨re6, le6, w6⟩ := x6.words
      refine R_aload_n dX9_cut_31 rfl ?_
      refine R_get K_9 (f := 0) (by decide) dX9_cut_32 f_RX9_12 x6.1 rfl ?_
      refine R_iload_n dX9_cut_35 rfl ?_
      refine R_aload_n dX9_cut_36 rfl ?_
      refine R_get K_9 (f := 9) (by decide) dX9_cut_37 f_RX9_60 x6.1 rfl ?_
      -- X9_cut: ('call', 40, '.invokevirtual', 220)
      refine R_callV v_X2_open (Pack_open hq.1 w6 x6.2.1 (by omega) hq.2.1 (place := p) hq.2.2.1 (by omega)) dX9_cut_40 l_RX9_220 rfl rfl x6.2.1.1 (Nat.le_of_ble_eq_true rfl) (by omega) rfl rfl (fun v h7 hq => ?_)
      obtain ⟨n1, sq1, i, ho1, rfl, hP7, o7⟩ := hq
      have x7 := x6.setPk (q2 := (sq1, q.2)) hP7 (o7.mono (by omega) (by omega))
      obtain ⟨ok1, ls1, -, -, il1, -⟩ := opD_one hq (by omega) ho1
      have ls1 : lsum (wlen q.2) sq1 = lsum (wlen q.2) q.1 := ls1
      obtain ⟨re7, le7, w7⟩ := x7.words
      refine R_istore3 dX9_cut_43 (by decide) ?_
      refine R_aload_n dX9_cut_44 rfl ?_
      refine R_get K_9 (f := 0) (by decide) dX9_cut_45 f_RX9_12 x7.1 rfl ?_
      refine R_iload_n dX9_cut_48 rfl ?_
      refine R_iload_n dX9_cut_49 rfl ?_
      refine R_iadd_N dX9_cut_50 ?_
      refine R_aload_n dX9_cut_51 rfl ?_
      refine R_get K_9 (f := 9) (by decide) dX9_cut_52 f_RX9_60 x7.1 rfl ?_
      -- X9_cut: ('call', 55, '.invokevirtual', 220)
      refine R_callV v_X2_open (Pack_open hq.1 w7 x7.2.1 (by omega) ok1.2.1 (place := p + n) ok1.2.2.1 (by show p + n ≤ lsum (wlen q.2) sq1; omega)) dX9_cut_55 l_RX9_220 rfl rfl x7.2.1.1 (Nat.le_of_ble_eq_true rfl) (by omega) rfl rfl (fun v h8 hq => ?_)
      obtain ⟨n2, sq2, j, ho2, rfl, hP8, o8⟩ := hq
      have x8 := x7.setPk (q2 := (sq2, q.2)) hP8 (o8.mono (by omega) (by omega))
      have op : op2 q p (p + n) sq2 i j := ⟨n1, n2, sq1, ho1, ho2⟩
      obtain ⟨hij, hjl, ok2, ls2⟩ := cut_ok hq (by omega) op
      refine R_istore4 dX9_cut_58 (by decide) ?_
      refine R_aload_n dX9_cut_60 rfl ?_
      refine R_get K_9 (f := 0) (by decide) dX9_cut_61 f_RX9_12 x8.1 rfl ?_
      -- X9_cut: ('call', 64, '.invokevirtual', 135)
      refine R_callV v_X2_sequence (Pack_sequence x8.2.1) dX9_cut_64 l_RX9_135 rfl rfl x8.2.1.1 (Nat.le_of_ble_eq_true rfl) (by omega) rfl rfl (fun v h9 hq => ?_)
      obtain ⟨rfl, e9⟩ := hq
      rw [e9]
      refine R_iload_n dX9_cut_67 rfl ?_
      refine R_iload dX9_cut_68 rfl ?_
      refine R_iload_n dX9_cut_70 rfl ?_
      refine R_isub_N dX9_cut_71 (by omega) ?_
      -- X9_cut: ('call', 72, '.invokevirtual', 231)
      refine R_callV v_X6_removeFrom (Row_removeFrom x8.2.1.2.1 (i := i) (n := j - i) (by show i + (j - i) ≤ sq2.length; omega)) dX9_cut_72 l_RX9_231 rfl rfl x8.2.1.2.1.2.2.1 (Nat.le_of_ble_eq_true rfl) (by omega) rfl rfl (fun v h10 hq => ?_)
      obtain ⟨rfl, hR10, o10⟩ := hq
      rw [show i + (j - i) = j by omega] at hR10
      have x10 := x8.setPk (q2 := (sq2.take i ++ sq2.drop j, q.2)) (x8.2.1.setSeq hR10 o10) (o10.mono (by omega) (by omega))
      refine R_aload_n dX9_cut_75 rfl ?_
      refine R_iconst (v := nI 0) dX9_cut_76 (by decide) ?_
      refine R_put_A K_9 (f := 11) (by decide) dX9_cut_77 f_RX9_71 rfl x10.1 (by rfl) (by rfl) (Nat.le_of_ble_eq_true rfl) ?_
      -- X9_cut: ('put', 80)
      intro h11 u11
      have x11 : PPC E h11 X 0 (sq2.take i ++ sq2.drop j, q.2) q (pushD ds q) im md tp ph fk fp := x10.setObj (rd2 := 0) u11 x10.2.2.2.2.2.2.1.low
      refine R_aload_n dX9_cut_80 rfl ?_
      -- X9_cut: ('call', 81, '.invokevirtual', 165)
      refine R_callV v_X9_letterCount (PP_letterCount x11.lo ok2) dX9_cut_81 l_RX9_165 rfl rfl x11.1 (Nat.le_of_ble_eq_true rfl) (by omega) rfl rfl (fun v h12 hq => ?_)
      obtain ⟨rfl, x12, o12⟩ := hq
      rw [show (letL (sq2.take i ++ sq2.drop j, q.2).2 (sq2.take i ++ sq2.drop j, q.2).1).length = (letL q.2 q.1).length - n from by rw [letL_len, hll]; exact ls2]
      refine R_ireturn dX9_cut_84 rfl rfl ?_
      -- X9_cut: ('ret', 84)
      exact ⟨rfl, ⟨sq2, i, j, op, _, x12⟩, (((((o2.trans (o6.mono (by omega) (by omega))).trans (o7.mono (by omega) (by omega))).trans (o8.mono (by omega) (by omega))).trans (o10.mono (by omega) (by omega))).trans (Out.upd u11 (by omega) (by omega))).trans o12⟩
    · exact absurd c14 (by decide)
  · exact absurd c2 (by omega)
theorem PP_insert_no1 {c p : Int32} (hn : ¬ ltI c) : Spec E k_X9_insert 7 0 0 [.ref X, .int p, .int c] h (fun v h' => v = some (.int (-2)) ∧ h' = h) := by
  refine Spec.of (by decide +kernel) (by simp [Value.category]) (Nat.le_of_ble_eq_true rfl) ?_
  show WP E k_X9_insert 7 0 0 0 [some (.ref X), some (.int p), some (.int c)] [] h _
  refine R_iload_n dX9_insert_0 rfl ?_
  -- X9_insert: ('call', 1, '.invokestatic', 214)
  refine R_callS s_X9_isLetter (isLetter_any c) dX9_insert_1 l_RX9_214 rfl rfl (Nat.le_of_ble_eq_true rfl) (by omega) rfl rfl (fun v h2 hq => ?_)
  obtain ⟨rfl, e9⟩ := hq
  rw [e9, if_neg hn]
  refine R_if_ne_N (tgt := 10) dX9_insert_4 (by decide) (by omega) (fun c4 => ?_) (fun c4 => ?_)
  -- X9_insert: ('branch', 4, 10, 7)
  · exact absurd rfl c4
  · refine R_bipush (v := (-2)) dX9_insert_7 (by decide) ?_
    refine R_ireturn dX9_insert_9 rfl rfl ?_
    -- X9_insert: ('ret', 9)
    exact ⟨rfl, rfl⟩
theorem PP_insert_no2 (x : PPAt E h X rd q ds im md tp ph fk fp) (hq : PkOk q) {c : Nat} {p : Int32} (hc : c < 26) (hn : ¬ stP (letL q.2 q.1).length p 0) : Spec E k_X9_insert 7 0 0 [.ref X, .int p, .int (nI c)] h (fun v h' => v = some (.int (-5)) ∧ (∃ rd, PPAt E h' X rd q ds im md tp ph fk fp) ∧ Out h h' X (X + 1830)) := by
  have hlen : (letL q.2 q.1).length ≤ 240 := by rw [letL_len]; exact hq.2.2.1
  refine Spec.of (by decide +kernel) (by simp [Value.category]) (Nat.le_of_ble_eq_true rfl) ?_
  show WP E k_X9_insert 7 0 0 0 [some (.ref X), some (.int p), some (.int (nI c))] [] h _
  refine R_iload_n dX9_insert_0 rfl ?_
  -- X9_insert: ('call', 1, '.invokestatic', 214)
  refine R_callS s_X9_isLetter (isLetter_N (s := c) (by omega)) dX9_insert_1 l_RX9_214 rfl rfl (Nat.le_of_ble_eq_true rfl) (by omega) rfl rfl (fun v h2 hq => ?_)
  obtain ⟨rfl, e9⟩ := hq
  rw [e9, if_pos hc]
  refine R_if_ne_N (tgt := 10) dX9_insert_4 (by decide) (by omega) (fun c4 => ?_) (fun c4 => ?_)
  -- X9_insert: ('branch', 4, 10, 7)
  · refine R_aload_n dX9_insert_10 rfl ?_
    -- X9_insert: ('call', 11, '.invokevirtual', 144)
    refine R_callV v_X9_read (PP_read x hq) dX9_insert_11 l_RX9_144 rfl rfl x.1 (Nat.le_of_ble_eq_true rfl) (by omega) rfl rfl (fun v h3 hq => ?_)
    obtain ⟨rfl, x2, o2⟩ := hq
    obtain ⟨-, lo, la, r⟩ := x2.cach
    by_cases hp : p < 0
    · refine R_iload_n dX9_insert_14 rfl ?_
      refine R_if_lt (tgt := 29) dX9_insert_15 (by decide) (fun c15 => ?_) (fun c15 => ?_)
      -- X9_insert: ('branch', 15, 29, 18)
      · refine R_bipush (v := (-5)) dX9_insert_29 (by decide) ?_
        refine R_ireturn dX9_insert_31 rfl rfl ?_
        -- X9_insert: ('ret', 31)
        exact ⟨rfl, ⟨_, x2⟩, o2⟩
      · exact absurd hp c15
    · obtain ⟨n, hn2, rfl⟩ := nI_of hp
      rw [stP_nI hn2] at hn
      refine R_iload_n dX9_insert_14 rfl ?_
      refine R_if_lt_N (tgt := 29) dX9_insert_15 (by decide) (by omega) ?_
      refine R_iload_n dX9_insert_18 rfl ?_
      refine R_aload_n dX9_insert_19 rfl ?_
      refine R_get K_9 (f := 10) (by decide) dX9_insert_20 f_RX9_67 x2.1 rfl ?_
      -- X9_insert: ('call', 23, '.invokevirtual', 207)
      refine R_callV v_X5_size (Read_size r) dX9_insert_23 l_RX9_207 rfl rfl r.1 (Nat.le_of_ble_eq_true rfl) (by omega) rfl rfl (fun v h4 hq => ?_)
      obtain ⟨rfl, e9⟩ := hq
      rw [e9]
      refine R_icmp_le_N (tgt := 32) dX9_insert_26 (by decide) (by omega) (by omega) (fun c26 => ?_) (fun c26 => ?_)
      -- X9_insert: ('branch', 26, 32, 29)
      · exact absurd c26 (by omega)
      · refine R_bipush (v := (-5)) dX9_insert_29 (by decide) ?_
        refine R_ireturn dX9_insert_31 rfl rfl ?_
        -- X9_insert: ('ret', 31)
        exact ⟨rfl, ⟨_, x2⟩, o2⟩
  · exact absurd c4 (by decide)
theorem PP_insert_no3 (x : PPAt E h X rd q ds im md tp ph fk fp) (hq : PkOk q) {c p : Nat} (hc : c < 26) (hp : p ≤ (letL q.2 q.1).length) (hn : (letL q.2 q.1).length = 240) : Spec E k_X9_insert 7 0 0 [.ref X, .int (nI p), .int (nI c)] h (fun v h' => v = some (.int (-4)) ∧ (∃ rd, PPAt E h' X rd q ds im md tp ph fk fp) ∧ Out h h' X (X + 1830)) := by
  refine Spec.of (by decide +kernel) (by simp [Value.category]) (Nat.le_of_ble_eq_true rfl) ?_
  show WP E k_X9_insert 7 0 0 0 [some (.ref X), some (.int (nI p)), some (.int (nI c))] [] h _
  refine R_iload_n dX9_insert_0 rfl ?_
  -- X9_insert: ('call', 1, '.invokestatic', 214)
  refine R_callS s_X9_isLetter (isLetter_N (s := c) (by omega)) dX9_insert_1 l_RX9_214 rfl rfl (Nat.le_of_ble_eq_true rfl) (by omega) rfl rfl (fun v h2 hq => ?_)
  obtain ⟨rfl, e9⟩ := hq
  rw [e9, if_pos hc]
  refine R_if_ne_N (tgt := 10) dX9_insert_4 (by decide) (by omega) (fun c4 => ?_) (fun c4 => ?_)
  -- X9_insert: ('branch', 4, 10, 7)
  · refine R_aload_n dX9_insert_10 rfl ?_
    -- X9_insert: ('call', 11, '.invokevirtual', 144)
    refine R_callV v_X9_read (PP_read x hq) dX9_insert_11 l_RX9_144 rfl rfl x.1 (Nat.le_of_ble_eq_true rfl) (by omega) rfl rfl (fun v h3 hq => ?_)
    obtain ⟨rfl, x2, o2⟩ := hq
    obtain ⟨-, lo, la, r⟩ := x2.cach
    refine R_iload_n dX9_insert_14 rfl ?_
    refine R_if_lt_N (tgt := 29) dX9_insert_15 (by decide) (by omega) ?_
    refine R_iload_n dX9_insert_18 rfl ?_
    refine R_aload_n dX9_insert_19 rfl ?_
    refine R_get K_9 (f := 10) (by decide) dX9_insert_20 f_RX9_67 x2.1 rfl ?_
    -- X9_insert: ('call', 23, '.invokevirtual', 207)
    refine R_callV v_X5_size (Read_size r) dX9_insert_23 l_RX9_207 rfl rfl r.1 (Nat.le_of_ble_eq_true rfl) (by omega) rfl rfl (fun v h4 hq => ?_)
    obtain ⟨rfl, e9⟩ := hq
    rw [e9]
    refine R_icmp_le_N (tgt := 32) dX9_insert_26 (by decide) (by omega) (by omega) (fun c26 => ?_) (fun c26 => ?_)
    -- X9_insert: ('branch', 26, 32, 29)
    · refine R_aload_n dX9_insert_32 rfl ?_
      refine R_get K_9 (f := 10) (by decide) dX9_insert_33 f_RX9_67 x2.1 rfl ?_
      -- X9_insert: ('call', 36, '.invokevirtual', 207)
      refine R_callV v_X5_size (Read_size r) dX9_insert_36 l_RX9_207 rfl rfl r.1 (Nat.le_of_ble_eq_true rfl) (by omega) rfl rfl (fun v h5 hq => ?_)
      obtain ⟨rfl, e9⟩ := hq
      rw [e9]
      refine R_sipush (v := nI 240) dX9_insert_39 (by decide) ?_
      refine R_icmp_ne_N (tgt := 48) dX9_insert_42 (by decide) (by omega) (by omega) (fun c42 => ?_) (fun c42 => ?_)
      -- X9_insert: ('branch', 42, 48, 45)
      · exact absurd hn c42
      · refine R_bipush (v := (-4)) dX9_insert_45 (by decide) ?_
        refine R_ireturn dX9_insert_47 rfl rfl ?_
        -- X9_insert: ('ret', 47)
        exact ⟨rfl, ⟨_, x2⟩, o2⟩
    · exact absurd c26 (by omega)
  · exact absurd c4 (by decide)
theorem PP_insert (x : PPAt E h X rd q ds im md tp ph fk fp) (hq : PkOk q) {c p : Nat} (hc : c < 26) (hp : p ≤ (letL q.2 q.1).length) (hn : (letL q.2 q.1).length < 240) : Spec E k_X9_insert 7 0 0 [.ref X, .int (nI p), .int (nI c)] h (fun v h' => v = some (.int (nI ((letL q.2 q.1).length + 1))) ∧ (∃ n sq i, opD q.2 p n q.1 0 0 = some (sq, i) ∧ ∃ rd, PPAt E h' X rd (sq.take i ++ c :: sq.drop i, q.2) (pushD ds q) im md tp ph fk fp) ∧ Out h h' X (X + 1830)) := by
  have hll := letL_len (ru := q.2) (q := q.1)
  refine Spec.of (by decide +kernel) (by simp [Value.category]) (Nat.le_of_ble_eq_true rfl) ?_
  show WP E k_X9_insert 7 0 0 0 [some (.ref X), some (.int (nI p)), some (.int (nI c))] [] h _
  refine R_iload_n dX9_insert_0 rfl ?_
  -- X9_insert: ('call', 1, '.invokestatic', 214)
  refine R_callS s_X9_isLetter (isLetter_N (s := c) (by omega)) dX9_insert_1 l_RX9_214 rfl rfl (Nat.le_of_ble_eq_true rfl) (by omega) rfl rfl (fun v h2 hq => ?_)
  obtain ⟨rfl, e9⟩ := hq
  rw [e9, if_pos hc]
  refine R_if_ne_N (tgt := 10) dX9_insert_4 (by decide) (by omega) (fun c4 => ?_) (fun c4 => ?_)
  -- X9_insert: ('branch', 4, 10, 7)
  · refine R_aload_n dX9_insert_10 rfl ?_
    -- X9_insert: ('call', 11, '.invokevirtual', 144)
    refine R_callV v_X9_read (PP_read x hq) dX9_insert_11 l_RX9_144 rfl rfl x.1 (Nat.le_of_ble_eq_true rfl) (by omega) rfl rfl (fun v h3 hq => ?_)
    obtain ⟨rfl, x2, o2⟩ := hq
    obtain ⟨-, lo, la, r⟩ := x2.cach
    refine R_iload_n dX9_insert_14 rfl ?_
    refine R_if_lt_N (tgt := 29) dX9_insert_15 (by decide) (by omega) ?_
    refine R_iload_n dX9_insert_18 rfl ?_
    refine R_aload_n dX9_insert_19 rfl ?_
    refine R_get K_9 (f := 10) (by decide) dX9_insert_20 f_RX9_67 x2.1 rfl ?_
    -- X9_insert: ('call', 23, '.invokevirtual', 207)
    refine R_callV v_X5_size (Read_size r) dX9_insert_23 l_RX9_207 rfl rfl r.1 (Nat.le_of_ble_eq_true rfl) (by omega) rfl rfl (fun v h4 hq => ?_)
    obtain ⟨rfl, e9⟩ := hq
    rw [e9]
    refine R_icmp_le_N (tgt := 32) dX9_insert_26 (by decide) (by omega) (by omega) (fun c26 => ?_) (fun c26 => ?_)
    -- X9_insert: ('branch', 26, 32, 29)
    · refine R_aload_n dX9_insert_32 rfl ?_
      refine R_get K_9 (f := 10) (by decide) dX9_insert_33 f_RX9_67 x2.1 rfl ?_
      -- X9_insert: ('call', 36, '.invokevirtual', 207)
      refine R_callV v_X5_size (Read_size r) dX9_insert_36 l_RX9_207 rfl rfl r.1 (Nat.le_of_ble_eq_true rfl) (by omega) rfl rfl (fun v h5 hq => ?_)
      obtain ⟨rfl, e9⟩ := hq
      rw [e9]
      refine R_sipush (v := nI 240) dX9_insert_39 (by decide) ?_
      refine R_icmp_ne_N (tgt := 48) dX9_insert_42 (by decide) (by omega) (by omega) (fun c42 => ?_) (fun c42 => ?_)
      -- X9_insert: ('branch', 42, 48, 45)
      · obtain ⟨nx, ks, hQ, hk⟩ := id x2.2.2.1
        refine R_aload_n dX9_insert_48 rfl ?_
        refine R_get K_9 (f := 1) (by decide) dX9_insert_49 f_RX9_19 x2.1 rfl ?_
        refine R_aload_n dX9_insert_52 rfl ?_
        refine R_get K_9 (f := 0) (by decide) dX9_insert_53 f_RX9_12 x2.1 rfl ?_
        -- X9_insert: ('call', 56, '.invokevirtual', 128)
        refine R_callV v_X4_keep (Past_keep hQ x2.2.1 (by omega)) dX9_insert_56 l_RX9_128 rfl rfl hQ.1 (Nat.le_of_ble_eq_true rfl) (by omega) rfl rfl (fun v h6 hq => ?_)
        obtain ⟨rfl, hQ6, o6⟩ := hq
        have x6 := (PPC.of x2).kept hQ hk hQ6 o6
        obtain ⟨re6, le6, w6⟩ := x6.words
        refine R_aload_n dX9_insert_59 rfl ?_
        refine R_get K_9 (f := 0) (by decide) dX9_insert_60 f_RX9_12 x6.1 rfl ?_
        -- X9_insert: ('call', 63, '.invokevirtual', 135)
        refine R_callV v_X2_sequence (Pack_sequence x6.2.1) dX9_insert_63 l_RX9_135 rfl rfl x6.2.1.1 (Nat.le_of_ble_eq_true rfl) (by omega) rfl rfl (fun v h9 hq => ?_)
        obtain ⟨rfl, e9⟩ := hq
        rw [e9]
        refine R_aload_n dX9_insert_66 rfl ?_
        refine R_get K_9 (f := 0) (by decide) dX9_insert_67 f_RX9_12 x6.1 rfl ?_
        refine R_iload_n dX9_insert_70 rfl ?_
        refine R_aload_n dX9_insert_71 rfl ?_
        refine R_get K_9 (f := 9) (by decide) dX9_insert_72 f_RX9_60 x6.1 rfl ?_
        -- X9_insert: ('call', 75, '.invokevirtual', 220)
        refine R_callV v_X2_open (Pack_open hq.1 w6 x6.2.1 (by omega) hq.2.1 (place := p) hq.2.2.1 (by omega)) dX9_insert_75 l_RX9_220 rfl rfl x6.2.1.1 (Nat.le_of_ble_eq_true rfl) (by omega) rfl rfl (fun v h7 hq => ?_)
        obtain ⟨n1, sq1, i, ho1, rfl, hP7, o7⟩ := hq
        have x7 := x6.setPk (q2 := (sq1, q.2)) hP7 (o7.mono (by omega) (by omega))
        obtain ⟨il1, sl1, ok1, ls1⟩ := ins_ok hq (by omega) (by omega) ho1 hc
        refine R_iload_n dX9_insert_78 rfl ?_
        -- X9_insert: ('call', 79, '.invokevirtual', 234)
        refine R_callV v_X6_addAt (Row_addAt x7.2.1.2.1 (i := i) (x := c) il1 sl1 (by omega)) dX9_insert_79 l_RX9_234 rfl rfl x7.2.1.2.1.2.2.1 (Nat.le_of_ble_eq_true rfl) (by omega) rfl rfl (fun v h10 hq => ?_)
        obtain ⟨rfl, hR10, o10⟩ := hq
        have x10 := x7.setPk (q2 := (sq1.take i ++ c :: sq1.drop i, q.2)) (x7.2.1.setSeq hR10 o10) (o10.mono (by omega) (by omega))
        refine R_aload_n dX9_insert_82 rfl ?_
        refine R_iconst (v := nI 0) dX9_insert_83 (by decide) ?_
        refine R_put_A K_9 (f := 11) (by decide) dX9_insert_84 f_RX9_71 rfl x10.1 (by rfl) (by rfl) (Nat.le_of_ble_eq_true rfl) ?_
        -- X9_insert: ('put', 87)
        intro h11 u11
        have x11 : PPC E h11 X 0 (sq1.take i ++ c :: sq1.drop i, q.2) q (pushD ds q) im md tp ph fk fp := x10.setObj (rd2 := 0) u11 x10.2.2.2.2.2.2.1.low
        refine R_aload_n dX9_insert_87 rfl ?_
        -- X9_insert: ('call', 88, '.invokevirtual', 165)
        refine R_callV v_X9_letterCount (PP_letterCount x11.lo ok1) dX9_insert_88 l_RX9_165 rfl rfl x11.1 (Nat.le_of_ble_eq_true rfl) (by omega) rfl rfl (fun v h12 hq => ?_)
        obtain ⟨rfl, x12, o12⟩ := hq
        rw [show (letL (sq1.take i ++ c :: sq1.drop i, q.2).2 (sq1.take i ++ c :: sq1.drop i, q.2).1).length = (letL q.2 q.1).length + 1 from by rw [letL_len, hll]; exact ls1]
        refine R_ireturn dX9_insert_91 rfl rfl ?_
        -- X9_insert: ('ret', 91)
        exact ⟨rfl, ⟨n1, sq1, i, ho1, _, x12⟩, ((((o2.trans (o6.mono (by omega) (by omega))).trans (o7.mono (by omega) (by omega))).trans (o10.mono (by omega) (by omega))).trans (Out.upd u11 (by omega) (by omega))).trans o12⟩
      · exact absurd c42 (by omega)
    · exact absurd c26 (by omega)
  · exact absurd c4 (by decide)
end PP7
