/-! PAIRPACKER: the tape -/
def byN (x : Int32) (s : Nat) : Nat := x.toBitVec.toNat / 2 ^ s % 256
def by4 (x : Int32) : List Nat := [byN x 24, byN x 16, byN x 8, byN x 0]
theorem byN_lt {x : Int32} {s : Nat} : byN x s < 256 := Nat.mod_lt _ (by decide)
abbrev isLow (c : Nat) : Prop := 97 ≤ c ∧ c < 123
/-- the first byte that is no letter -/
def badS (tp : List Nat) (n : Nat) : Option Nat := fstB (fun i => decide (¬ isLow (tp.getD i 0))) n
def tlets (tp : List Nat) (n : Nat) : List Nat := (tp.take n).map (fun c => c - 97)
theorem badS_none {tp : List Nat} {n : Nat} (h : badS tp n = none) (hn : n ≤ tp.length) : ∀ x ∈ tp.take n, isLow x := by
  intro x hx
  obtain ⟨i, hi⟩ := List.getElem?_of_mem hx
  have hil := (List.getElem?_eq_some_iff.mp hi).1
  rw [List.length_take] at hil
  rw [List.getElem?_take_of_lt (by omega)] at hi
  have := fstB_none h i (by omega)
  have := Classical.not_not.mp (of_decide_eq_false this)
  rwa [getD_of hi] at this
theorem tlets_lt {tp : List Nat} {n : Nat} (h : badS tp n = none) (hn : n ≤ tp.length) : ∀ x ∈ tlets tp n, x < 26 := by
  intro x hx
  obtain ⟨c, hc, rfl⟩ := List.mem_map.mp hx
  have := badS_none h hn c hc
  omega
theorem tlets_len {tp : List Nat} {n : Nat} (hn : n ≤ tp.length) : (tlets tp n).length = n := by
  rw [tlets, List.length_map, List.length_take]; omega
section PP10
variable {E : EnvT} {h h1 : Hp} {X rd : Nat} {q qc : Pk} {ds : List Pk} {im : Nat → Pk} {md : Nat → Nat} {tp ph : List Nat} {fk fp : Int32}
theorem PP_feedOne (x : PPAt E h X rd q ds im md tp ph fk fp) (a : Int32) (hl : tp.length + 4 ≤ 260) : Spec E k_X9_feedOne 2 0 0 [.ref X, .int a] h (fun v h' => v = none ∧ PPAt E h' X rd q ds im md (tp ++ by4 a) ph fk fp ∧ Out h h' X (X + 1830)) := by
  have key : ∀ (s : Int32) (k : Nat), ((s.toUInt32 &&& Int32.toUInt32 31).toBitVec % 32).toNat = k → (a.toUInt32 >>> (s.toUInt32 &&& Int32.toUInt32 31)).toInt32 &&& 255 = nI (byN a k) := by
    intro s k hs
    rw [pk_and _ 8 (by decide), pk_ushr a s k hs]; rfl
  refine Spec.of (by decide +kernel) (by simp [Value.category]) (Nat.le_of_ble_eq_true rfl) ?_
  show WP E k_X9_feedOne 2 0 0 0 [some (.ref X), some (.int a), none] [] h _
  have stepq : ∀ (s : Nat) (k : Nat) (l : List Nat) h2, s ≤ 24 → (((nI s).toUInt32 &&& Int32.toUInt32 31).toBitVec % 32).toNat = k → l.length < 260 → PPAt E h2 X rd q ds im md l ph fk fp → (∀ h3, PPAt E h3 X rd q ds im md (l ++ [byN a k]) ph fk fp → Out h2 h3 X (X + 1830) → WP E k_X9_feedOne 2 0 0 21 [some (.ref X), some (.int a), some (.int (nI s))] [] h3 (fun v h' => v = none ∧ PPAt E h' X rd q ds im md (tp ++ by4 a) ph fk fp ∧ Out h h' X (X + 1830))) → WP E k_X9_feedOne 2 0 0 7 [some (.ref X), some (.int a), some (.int (nI s))] [] h2 (fun v h' => v = none ∧ PPAt E h' X rd q ds im md (tp ++ by4 a) ph fk fp ∧ Out h h' X (X + 1830)) := by
    intro s k l h2 hs24 hs hl2 x2 kk
    refine R_aload_n dX9_feedOne_7 rfl ?_
    refine R_get K_9 (f := 4) (by decide) dX9_feedOne_8 f_RX9_36 x2.1 rfl ?_
    refine R_iload_n dX9_feedOne_11 rfl ?_
    refine R_iload_n dX9_feedOne_12 rfl ?_
    refine R_iushr dX9_feedOne_13 ?_
    refine R_sipush (v := nI 255) dX9_feedOne_14 (by decide) ?_
    refine R_iand dX9_feedOne_17 ?_
    -- X9_feedOne: ('call', 18, '.invokevirtual', 211)
    rw [show (nI 255 : Int32) = 255 from by decide, key (nI s) k hs]
    refine R_callV v_X6_add (Row_add x2.2.2.2.2.1 (x := byN a k) (by have := byN_lt (x := a) (s := k); omega) hl2) dX9_feedOne_18 l_RX9_211 rfl rfl x2.2.2.2.2.1.2.2.1 (Nat.le_of_ble_eq_true rfl) (by omega) rfl rfl (fun v h3 hq => ?_)
    obtain ⟨rfl, hR3, o3⟩ := hq
    exact kk h3 ((PPC.of x2).setTp hR3 (o3.mono (by omega) (by omega))).to (o3.mono (by omega) (by omega))
  refine R_bipush (v := nI 24) dX9_feedOne_0 (by decide) ?_
  refine R_istore2 dX9_feedOne_2 (by decide) ?_
  -- X9_feedOne: ('stop', 3)
  refine R_iload_n dX9_feedOne_3 rfl ?_
  refine R_if_lt_N (tgt := 27) dX9_feedOne_4 (by decide) (by omega) ?_
  -- X9_feedOne: ('n', 7)
  refine stepq 24 24 tp h (by decide) (by decide) (by omega) x (fun h1 x1 o1 => ?_)
  refine R_iinc2 dX9_feedOne_21 (by decide) rfl ?_
  refine R_goto (tgt := 3) dX9_feedOne_24 (by decide) ?_
  -- X9_feedOne: ('stop', 3)
  rw [show nI 24 + Int32.ofInt (-8) = nI 16 from by decide]
  refine R_iload_n dX9_feedOne_3 rfl ?_
  refine R_if_lt_N (tgt := 27) dX9_feedOne_4 (by decide) (by omega) ?_
  -- X9_feedOne: ('n', 7)
  refine stepq 16 16 _ h1 (by decide) (by decide) (by rw [List.length_append, List.length_singleton]; omega) x1 (fun h2 x2 o2 => ?_)
  refine R_iinc2 dX9_feedOne_21 (by decide) rfl ?_
  refine R_goto (tgt := 3) dX9_feedOne_24 (by decide) ?_
  -- X9_feedOne: ('stop', 3)
  rw [show nI 16 + Int32.ofInt (-8) = nI 8 from by decide]
  refine R_iload_n dX9_feedOne_3 rfl ?_
  refine R_if_lt_N (tgt := 27) dX9_feedOne_4 (by decide) (by omega) ?_
  -- X9_feedOne: ('n', 7)
  refine stepq 8 8 _ h2 (by decide) (by decide) (by rw [List.length_append, List.length_append, List.length_singleton, List.length_singleton]; omega) x2 (fun h3 x3 o3 => ?_)
  refine R_iinc2 dX9_feedOne_21 (by decide) rfl ?_
  refine R_goto (tgt := 3) dX9_feedOne_24 (by decide) ?_
  -- X9_feedOne: ('stop', 3)
  rw [show nI 8 + Int32.ofInt (-8) = nI 0 from by decide]
  refine R_iload_n dX9_feedOne_3 rfl ?_
  refine R_if_lt_N (tgt := 27) dX9_feedOne_4 (by decide) (by omega) ?_
  -- X9_feedOne: ('n', 7)
  refine stepq 0 0 _ h3 (by decide) (by decide) (by rw [List.length_append, List.length_append, List.length_append, List.length_singleton, List.length_singleton, List.length_singleton]; omega) x3 (fun h4 x4 o4 => ?_)
  refine R_iinc2 dX9_feedOne_21 (by decide) rfl ?_
  refine R_goto (tgt := 3) dX9_feedOne_24 (by decide) ?_
  -- X9_feedOne: ('stop', 3)
  rw [show nI 0 + Int32.ofInt (-8) = (-8 : Int32) from by decide]
  refine R_iload_n dX9_feedOne_3 rfl ?_
  refine R_if_lt (tgt := 27) dX9_feedOne_4 (by decide) (fun c4 => ?_) (fun c4 => ?_)
  -- X9_feedOne: ('branch', 4, 27, 7)
  · refine R_return dX9_feedOne_27 rfl ?_
    -- X9_feedOne: ('ret', 27)
    refine ⟨rfl, ?_, ((o1.trans o2).trans o3).trans o4⟩
    rw [List.append_assoc, List.append_assoc, List.append_assoc] at x4
    exact x4
  · exact absurd (by decide) c4
theorem by4_len {a : Int32} : (by4 a).length = 4 := rfl
theorem PP_feed (x : PPAt E h X rd q ds im md tp ph fk fp) (a b c d e : Int32) (hl : tp.length + 20 ≤ 260) : Spec E k_X9_feed 3 0 0 [.ref X, .int a, .int b, .int c, .int d, .int e] h (fun v h' => v = some (.int (nI (tp.length + 20))) ∧ (∃ rd, PPAt E h' X rd q ds im md (tp ++ (by4 a ++ (by4 b ++ (by4 c ++ (by4 d ++ by4 e))))) ph fk fp) ∧ Out h h' X (X + 1830)) := by
  have ht := x.2.2.2.2.1
  refine Spec.of (by decide +kernel) (by simp [Value.category]) (Nat.le_of_ble_eq_true rfl) ?_
  show WP E k_X9_feed 3 0 0 0 [some (.ref X), some (.int a), some (.int b), some (.int c), some (.int d), some (.int e)] [] h _
  refine R_aload_n dX9_feed_0 rfl ?_
  refine R_get K_9 (f := 4) (by decide) dX9_feed_1 f_RX9_36 x.1 rfl ?_
  -- X9_feed: ('call', 4, '.invokevirtual', 105)
  refine R_callV v_X6_size (Row_size ht) dX9_feed_4 l_RX9_105 rfl rfl ht.2.2.1 (Nat.le_of_ble_eq_true rfl) (by omega) rfl rfl (fun v h2 hq => ?_)
  obtain ⟨rfl, e9⟩ := hq
  rw [e9]
  refine R_bipush (v := nI 20) dX9_feed_7 (by decide) ?_
  refine R_iadd_N dX9_feed_9 ?_
  refine R_sipush (v := nI 260) dX9_feed_10 (by decide) ?_
  refine R_icmp_le_N (tgt := 19) dX9_feed_13 (by decide) (by omega) (by omega) (fun c13 => ?_) (fun c13 => ?_)
  -- X9_feed: ('branch', 13, 19, 16)
  · refine R_aload_n dX9_feed_19 rfl ?_
    refine R_iload_n dX9_feed_20 rfl ?_
    -- X9_feed: ('call', 21, '.invokevirtual', 109)
    refine R_callV v_X9_feedOne (PP_feedOne x a (by omega)) dX9_feed_21 l_RX9_109 rfl rfl x.1 (Nat.le_of_ble_eq_true rfl) (by omega) rfl rfl (fun v h3 hq => ?_)
    obtain ⟨rfl, x3, o3⟩ := hq
    refine R_aload_n dX9_feed_24 rfl ?_
    refine R_iload_n dX9_feed_25 rfl ?_
    -- X9_feed: ('call', 26, '.invokevirtual', 109)
    refine R_callV v_X9_feedOne (PP_feedOne x3 b (by rw [List.length_append, by4_len]; omega)) dX9_feed_26 l_RX9_109 rfl rfl x3.1 (Nat.le_of_ble_eq_true rfl) (by omega) rfl rfl (fun v h4 hq => ?_)
    obtain ⟨rfl, x4, o4⟩ := hq
    refine R_aload_n dX9_feed_29 rfl ?_
    refine R_iload_n dX9_feed_30 rfl ?_
    -- X9_feed: ('call', 31, '.invokevirtual', 109)
    refine R_callV v_X9_feedOne (PP_feedOne x4 c (by rw [List.length_append, List.length_append, by4_len, by4_len]; omega)) dX9_feed_31 l_RX9_109 rfl rfl x4.1 (Nat.le_of_ble_eq_true rfl) (by omega) rfl rfl (fun v h5 hq => ?_)
    obtain ⟨rfl, x5, o5⟩ := hq
    refine R_aload_n dX9_feed_34 rfl ?_
    refine R_iload dX9_feed_35 rfl ?_
    -- X9_feed: ('call', 37, '.invokevirtual', 109)
    refine R_callV v_X9_feedOne (PP_feedOne x5 d (by rw [List.length_append, List.length_append, List.length_append, by4_len, by4_len, by4_len]; omega)) dX9_feed_37 l_RX9_109 rfl rfl x5.1 (Nat.le_of_ble_eq_true rfl) (by omega) rfl rfl (fun v h6 hq => ?_)
    obtain ⟨rfl, x6, o6⟩ := hq
    refine R_aload_n dX9_feed_40 rfl ?_
    refine R_iload dX9_feed_41 rfl ?_
    -- X9_feed: ('call', 43, '.invokevirtual', 109)
    refine R_callV v_X9_feedOne (PP_feedOne x6 e (by rw [List.length_append, List.length_append, List.length_append, List.length_append, by4_len, by4_len, by4_len, by4_len]; omega)) dX9_feed_43 l_RX9_109 rfl rfl x6.1 (Nat.le_of_ble_eq_true rfl) (by omega) rfl rfl (fun v h7 hq => ?_)
    obtain ⟨rfl, x7, o7⟩ := hq
    rw [List.append_assoc, List.append_assoc, List.append_assoc, List.append_assoc] at x7
    have ht7 := x7.2.2.2.2.1
    refine R_aload_n dX9_feed_46 rfl ?_
    refine R_get K_9 (f := 4) (by decide) dX9_feed_47 f_RX9_36 x7.1 rfl ?_
    -- X9_feed: ('call', 50, '.invokevirtual', 105)
    refine R_callV v_X6_size (Row_size ht7) dX9_feed_50 l_RX9_105 rfl rfl ht7.2.2.1 (Nat.le_of_ble_eq_true rfl) (by omega) rfl rfl (fun v h8 hq => ?_)
    obtain ⟨rfl, e9⟩ := hq
    rw [e9]
    refine R_ireturn dX9_feed_53 rfl rfl ?_
    -- X9_feed: ('ret', 53)
    exact ⟨by rw [List.length_append]; rfl, ⟨_, x7⟩, (((o3.trans o4).trans o5).trans o6).trans o7⟩
  · exact absurd c13 (by omega)
theorem PP_feed_no (x : PPAt E h X rd q ds im md tp ph fk fp) (a b c d e : Int32) (hl : 260 < tp.length + 20) : Spec E k_X9_feed 3 0 0 [.ref X, .int a, .int b, .int c, .int d, .int e] h (fun v h' => v = some (.int (-4)) ∧ h' = h) := by
  have ht := x.2.2.2.2.1
  have htl := ht.1
  refine Spec.of (by decide +kernel) (by simp [Value.category]) (Nat.le_of_ble_eq_true rfl) ?_
  show WP E k_X9_feed 3 0 0 0 [some (.ref X), some (.int a), some (.int b), some (.int c), some (.int d), some (.int e)] [] h _
  refine R_aload_n dX9_feed_0 rfl ?_
  refine R_get K_9 (f := 4) (by decide) dX9_feed_1 f_RX9_36 x.1 rfl ?_
  -- X9_feed: ('call', 4, '.invokevirtual', 105)
  refine R_callV v_X6_size (Row_size ht) dX9_feed_4 l_RX9_105 rfl rfl ht.2.2.1 (Nat.le_of_ble_eq_true rfl) (by omega) rfl rfl (fun v h2 hq => ?_)
  obtain ⟨rfl, e9⟩ := hq
  rw [e9]
  refine R_bipush (v := nI 20) dX9_feed_7 (by decide) ?_
  refine R_iadd_N dX9_feed_9 ?_
  refine R_sipush (v := nI 260) dX9_feed_10 (by decide) ?_
  refine R_icmp_le_N (tgt := 19) dX9_feed_13 (by decide) (by omega) (by omega) (fun c13 => ?_) (fun c13 => ?_)
  -- X9_feed: ('branch', 13, 19, 16)
  · exact absurd c13 (by omega)
  · refine R_bipush (v := (-4)) dX9_feed_16 (by decide) ?_
    refine R_ireturn dX9_feed_18 rfl rfl ?_
    -- X9_feed: ('ret', 18)
    exact ⟨rfl, rfl⟩
theorem PP_isOnTape (x : PPAt E h X rd q ds im md tp ph fk fp) (n : Int32) : Spec E k_X9_isOnTape 2 0 0 [.ref X, .int n] h (fun v h' => v = some (.int (nI (if stP tp.length n 0 then 1 else 0))) ∧ h' = h) := by
  have ht := x.2.2.2.2.1
  have htl := ht.1
  refine Spec.of (by decide +kernel) (by simp [Value.category]) (Nat.le_of_ble_eq_true rfl) ?_
  show WP E k_X9_isOnTape 2 0 0 0 [some (.ref X), some (.int n)] [] h _
  by_cases hn : n < 0
  · refine R_iload_n dX9_isOnTape_0 rfl ?_
    refine R_if_lt (tgt := 19) dX9_isOnTape_1 (by decide) (fun c1 => ?_) (fun c1 => ?_)
    -- X9_isOnTape: ('branch', 1, 19, 4)
    · refine R_iconst (v := nI 0) dX9_isOnTape_19 (by decide) ?_
      refine R_ireturn dX9_isOnTape_20 rfl (by rfl) ?_
      -- X9_isOnTape: ('ret', 20)
      exact ⟨by rw [if_neg (fun z => z.1 hn)], rfl⟩
    · exact absurd hn c1
  · obtain ⟨m, hm, rfl⟩ := nI_of hn
    rw [if_iff (stP_nI hm)]
    refine R_iload_n dX9_isOnTape_0 rfl ?_
    refine R_if_lt_N (tgt := 19) dX9_isOnTape_1 (by decide) (by omega) ?_
    refine R_iload_n dX9_isOnTape_4 rfl ?_
    refine R_aload_n dX9_isOnTape_5 rfl ?_
    refine R_get K_9 (f := 4) (by decide) dX9_isOnTape_6 f_RX9_36 x.1 rfl ?_
    -- X9_isOnTape: ('call', 9, '.invokevirtual', 105)
    refine R_callV v_X6_size (Row_size ht) dX9_isOnTape_9 l_RX9_105 rfl rfl ht.2.2.1 (Nat.le_of_ble_eq_true rfl) (by omega) rfl rfl (fun v h2 hq => ?_)
    obtain ⟨rfl, e9⟩ := hq
    rw [e9]
    refine R_icmp_gt_N (tgt := 19) dX9_isOnTape_12 (by decide) (by omega) (by omega) (fun c12 => ?_) (fun c12 => ?_)
    -- X9_isOnTape: ('branch', 12, 19, 15)
    · refine R_iconst (v := nI 0) dX9_isOnTape_19 (by decide) ?_
      refine R_ireturn dX9_isOnTape_20 rfl (by rfl) ?_
      -- X9_isOnTape: ('ret', 20)
      exact ⟨by rw [if_neg (by omega)], rfl⟩
    · refine R_iconst (v := nI 1) dX9_isOnTape_15 (by decide) ?_
      refine R_goto (tgt := 20) dX9_isOnTape_16 (by decide) ?_
      refine R_ireturn dX9_isOnTape_20 rfl (by rfl) ?_
      -- X9_isOnTape: ('ret', 20)
      exact ⟨by rw [if_pos (by omega)], rfl⟩
theorem low_sub {c : Nat} (hc : c < 256) : (97 ≤ c → nI c - nI 97 = nI (c - 97)) ∧ (c < 97 → nI c - nI 97 < 0) := ⟨fun h => pk_sub h, fun h => pk_sneg (by decide) h⟩
theorem PP_firstNoLetter (x : PPAt E h X rd q ds im md tp ph fk fp) (hb : ∀ c ∈ tp, c < 256) {n : Nat} (hn : n ≤ tp.length) : Spec E k_X9_firstNoLetter 2 0 0 [.ref X, .int (nI n)] h (fun v h' => v = some (.int (oI 0 (badS tp n))) ∧ h' = h) := by
  have ht := x.2.2.2.2.1
  have htl := ht.1
  refine Spec.of (by decide +kernel) (by simp [Value.category]) (Nat.le_of_ble_eq_true rfl) ?_
  show WP E k_X9_firstNoLetter 2 0 0 0 [some (.ref X), some (.int (nI n)), none] [] h _
  have loop : ∀ m t, t + m = n → badS tp t = none → WP E k_X9_firstNoLetter 2 0 0 2 [some (.ref X), some (.int (nI n)), some (.int (nI t))] [] h (fun v h' => v = some (.int (oI 0 (badS tp n))) ∧ h' = h) := by
    intro m
    induction m with
    | zero =>
      intro t ht2 hf
      obtain rfl : t = n := by omega
      refine R_iload_n dX9_firstNoLetter_2 rfl ?_
      refine R_iload_n dX9_firstNoLetter_3 rfl ?_
      refine R_icmp_ge_N (tgt := 32) dX9_firstNoLetter_4 (by decide) (by omega) (by omega) (fun c4 => ?_) (fun c4 => ?_)
      -- X9_firstNoLetter: ('branch', 4, 32, 7)
      · refine R_iconst (v := (-1)) dX9_firstNoLetter_32 (by decide) ?_
        refine R_ireturn dX9_firstNoLetter_33 rfl rfl ?_
        -- X9_firstNoLetter: ('ret', 33)
        exact ⟨by rw [hf]; rfl, rfl⟩
      · exact absurd c4 (by omega)
    | succ m ih =>
      intro t ht2 hf
      obtain ⟨y, hy⟩ := getE (l := tp) (i := t) (by omega)
      have hy256 := hb y (List.mem_of_getElem? hy)
      obtain ⟨k1, k2⟩ := low_sub hy256
      have ans : Spec E k_X9_isLetter 1 0 0 [.int (nI y - nI 97)] h (fun v h' => v = some (.int (nI (if isLow y then 1 else 0))) ∧ h' = h) := by
        by_cases c : 97 ≤ y
        · rw [k1 c]
          have := isLetter_N (E := E) (h := h) (s := y - 97) (by omega)
          rwa [if_iff (show y - 97 < 26 ↔ isLow y from ⟨fun z => ⟨c, by omega⟩, fun z => by omega⟩)] at this
        · have := isLetter_neg (E := E) (h := h) (k2 (by omega))
          rwa [if_neg (fun z => c z.1)]
      refine R_iload_n dX9_firstNoLetter_2 rfl ?_
      refine R_iload_n dX9_firstNoLetter_3 rfl ?_
      refine R_icmp_ge_N (tgt := 32) dX9_firstNoLetter_4 (by decide) (by omega) (by omega) (fun c4 => ?_) (fun c4 => ?_)
      -- X9_firstNoLetter: ('branch', 4, 32, 7)
      · exact absurd c4 (by omega)
      · refine R_aload_n dX9_firstNoLetter_7 rfl ?_
        refine R_get K_9 (f := 4) (by decide) dX9_firstNoLetter_8 f_RX9_36 x.1 rfl ?_
        refine R_iload_n dX9_firstNoLetter_11 rfl ?_
        -- X9_firstNoLetter: ('call', 12, '.invokevirtual', 237)
        refine R_callV v_X6_get (Row_get ht (nI t)) dX9_firstNoLetter_12 l_RX9_237 rfl rfl ht.2.2.1 (Nat.le_of_ble_eq_true rfl) (by omega) rfl rfl (fun v h3 hq => ?_)
        obtain ⟨rfl, e9⟩ := hq
        rw [e9, rget_in (by omega) hy]
        refine R_bipush (v := nI 97) dX9_firstNoLetter_15 (by decide) ?_
        refine R_isub dX9_firstNoLetter_17 ?_
        -- X9_firstNoLetter: ('call', 18, '.invokestatic', 214)
        refine R_callS s_X9_isLetter (ans) dX9_firstNoLetter_18 l_RX9_214 rfl rfl (Nat.le_of_ble_eq_true rfl) (by omega) rfl rfl (fun v h4 hq => ?_)
        obtain ⟨rfl, e9⟩ := hq
        rw [e9]
        by_cases c : isLow y
        · rw [if_pos c]
          refine R_if_ne_N (tgt := 26) dX9_firstNoLetter_21 (by decide) (by omega) (fun c21 => ?_) (fun c21 => ?_)
          -- X9_firstNoLetter: ('branch', 21, 26, 24)
          · refine R_iinc2 dX9_firstNoLetter_26 (by decide) (nI_inc _ 1) ?_
            refine R_goto (tgt := 2) dX9_firstNoLetter_29 (by decide) ?_
            -- X9_firstNoLetter: ('stop', 2)
            exact ih (t + 1) (by omega) (fstB_step hf (decide_eq_false (fun z => z (by rw [getD_of hy]; exact c))))
          · exact absurd c21 (by decide)
        · rw [if_neg c]
          refine R_if_ne_N (tgt := 26) dX9_firstNoLetter_21 (by decide) (by omega) (fun c21 => ?_) (fun c21 => ?_)
          -- X9_firstNoLetter: ('branch', 21, 26, 24)
          · exact absurd rfl c21
          · refine R_iload_n dX9_firstNoLetter_24 rfl ?_
            refine R_ireturn dX9_firstNoLetter_25 rfl rfl ?_
            -- X9_firstNoLetter: ('ret', 25)
            have : badS tp n = some t := fstB_at hf (decide_eq_true (by rw [getD_of hy]; exact c)) (by omega)
            exact ⟨by rw [this]; show _ = some (Value.int (nI (0 + t))); rw [Nat.zero_add], rfl⟩
  refine R_iconst (v := nI 0) dX9_firstNoLetter_0 (by decide) ?_
  refine R_istore2 dX9_firstNoLetter_1 (by decide) ?_
  -- X9_firstNoLetter: ('stop', 2)
  exact loop n 0 (by omega) rfl
theorem PP_takeLetters (hx : h.2 X = some (objV X rd fk fp)) (ht : RowAt E h (X + 1391) 260 tp) {n : Nat} (hn : n ≤ tp.length) (hg : badS tp n = none) {r cap : Nat} (hR : RowAt E h r cap []) (hc : n ≤ cap) (hd : r + 2 ≤ X + 1391 ∨ X + 1393 ≤ r) (hX : X < r) : Spec E k_X9_takeLetters 2 0 0 [.ref X, .int (nI n), .ref r] h (fun v h' => v = none ∧ RowAt E h' r cap (tlets tp n) ∧ Out h h' r (r + 2)) := by
  have htl := ht.1
  refine Spec.of (by decide +kernel) (by simp [Value.category]) (Nat.le_of_ble_eq_true rfl) ?_
  show WP E k_X9_takeLetters 2 0 0 0 [some (.ref X), some (.int (nI n)), some (.ref r), none] [] h _
  have loop : ∀ m t h2, t + m = n → RowAt E h2 r cap (tlets tp t) → Out h h2 r (r + 2) → WP E k_X9_takeLetters 2 0 0 2 [some (.ref X), some (.int (nI n)), some (.ref r), some (.int (nI t))] [] h2 (fun v h' => v = none ∧ RowAt E h' r cap (tlets tp n) ∧ Out h h' r (r + 2)) := by
    intro m
    induction m with
    | zero =>
      intro t h2 ht2 hR2 o2
      obtain rfl : t = n := by omega
      refine R_iload_n dX9_takeLetters_2 rfl ?_
      refine R_iload_n dX9_takeLetters_3 rfl ?_
      refine R_icmp_ge_N (tgt := 28) dX9_takeLetters_4 (by decide) (by omega) (by omega) (fun c4 => ?_) (fun c4 => ?_)
      -- X9_takeLetters: ('branch', 4, 28, 7)
      · refine R_return dX9_takeLetters_28 rfl ?_
        -- X9_takeLetters: ('ret', 28)
        exact ⟨rfl, hR2, o2⟩
      · exact absurd c4 (by omega)
    | succ m ih =>
      intro t h2 ht2 hR2 o2
      obtain ⟨y, hy⟩ := getE (l := tp) (i := t) (by omega)
      have hyl : isLow y := badS_none hg hn y (List.mem_of_getElem? (i := t) (by rw [List.getElem?_take_of_lt (by omega)]; exact hy))
      have k2 := (o2.2 X (by omega)).trans hx
      have ht' := ht.out o2 (by omega)
      refine R_iload_n dX9_takeLetters_2 rfl ?_
      refine R_iload_n dX9_takeLetters_3 rfl ?_
      refine R_icmp_ge_N (tgt := 28) dX9_takeLetters_4 (by decide) (by omega) (by omega) (fun c4 => ?_) (fun c4 => ?_)
      -- X9_takeLetters: ('branch', 4, 28, 7)
      · exact absurd c4 (by omega)
      · refine R_aload_n dX9_takeLetters_7 rfl ?_
        refine R_aload_n dX9_takeLetters_8 rfl ?_
        refine R_get K_9 (f := 4) (by decide) dX9_takeLetters_9 f_RX9_36 k2 rfl ?_
        refine R_iload_n dX9_takeLetters_12 rfl ?_
        -- X9_takeLetters: ('call', 13, '.invokevirtual', 237)
        refine R_callV v_X6_get (Row_get ht' (nI t)) dX9_takeLetters_13 l_RX9_237 rfl rfl ht'.2.2.1 (Nat.le_of_ble_eq_true rfl) (by omega) rfl rfl (fun v h3 hq => ?_)
        obtain ⟨rfl, e9⟩ := hq
        rw [e9, rget_in (by omega) hy]
        refine R_bipush (v := nI 97) dX9_takeLetters_16 (by decide) ?_
        refine R_isub_N dX9_takeLetters_18 (by omega) ?_
        -- X9_takeLetters: ('call', 19, '.invokevirtual', 211)
        refine R_callV v_X6_add (Row_add hR2 (x := y - 97) (by omega) (by rw [tlets_len (by omega)]; omega)) dX9_takeLetters_19 l_RX9_211 rfl rfl hR2.2.2.1 (Nat.le_of_ble_eq_true rfl) (by omega) rfl rfl (fun v h4 hq => ?_)
        obtain ⟨rfl, hR4, o4⟩ := hq
        refine R_iinc3 dX9_takeLetters_22 (by decide) (nI_inc _ 1) ?_
        refine R_goto (tgt := 2) dX9_takeLetters_25 (by decide) ?_
        -- X9_takeLetters: ('stop', 2)
        refine ih (t + 1) h4 (by omega) ?_ (o2.trans o4)
        rw [tlets, take_snoc hy, List.map_append]
        exact hR4
  refine R_iconst (v := nI 0) dX9_takeLetters_0 (by decide) ?_
  refine R_istore3 dX9_takeLetters_1 (by decide) ?_
  -- X9_takeLetters: ('stop', 2)
  exact loop n 0 h (by omega) hR Out.refl
theorem PP_endTape (x : PPC E h X rd q qc ds im md tp ph fk fp) (k p : Int32) : Spec E k_X9_endTape 2 0 0 [.ref X, .int k, .int p] h (fun v h' => v = none ∧ PPC E h' X rd q qc ds im md [] ph k p ∧ Out h h' X (X + 1830)) := by
  have ht := x.2.2.2.2.1
  refine Spec.of (by decide +kernel) (by simp [Value.category]) (Nat.le_of_ble_eq_true rfl) ?_
  show WP E k_X9_endTape 2 0 0 0 [some (.ref X), some (.int k), some (.int p)] [] h _
  refine R_aload_n dX9_endTape_0 rfl ?_
  refine R_get K_9 (f := 4) (by decide) dX9_endTape_1 f_RX9_36 x.1 rfl ?_
  -- X9_endTape: ('call', 4, '.invokevirtual', 143)
  refine R_callV v_X6_clear (Row_clear ht) dX9_endTape_4 l_RX9_143 rfl rfl ht.2.2.1 (Nat.le_of_ble_eq_true rfl) (by omega) rfl rfl (fun v h2 hq => ?_)
  obtain ⟨rfl, hR2, o2⟩ := hq
  have x2 := x.setTp hR2 (o2.mono (by omega) (by omega))
  refine R_aload_n dX9_endTape_7 rfl ?_
  refine R_iload_n dX9_endTape_8 rfl ?_
  refine R_put_A K_9 (f := 7) (by decide) dX9_endTape_9 f_RX9_50 rfl x2.1 (by rfl) (by rfl) (Nat.le_of_ble_eq_true rfl) ?_
  -- X9_endTape: ('put', 12)
  intro h3 u3
  have x3 : PPC E h3 X rd q qc ds im md [] ph k fp := x2.setObj (rd2 := rd) (fk2 := k) (fp2 := fp) u3 x2.2.2.2.2.2.2.1
  refine R_aload_n dX9_endTape_12 rfl ?_
  refine R_iload_n dX9_endTape_13 rfl ?_
  refine R_put_A K_9 (f := 8) (by decide) dX9_endTape_14 f_RX9_54 rfl x3.1 (by rfl) (by rfl) (Nat.le_of_ble_eq_true rfl) ?_
  -- X9_endTape: ('put', 17)
  intro h4 u4
  have x4 : PPC E h4 X rd q qc ds im md [] ph k p := x3.setObj (rd2 := rd) (fk2 := k) (fp2 := p) u4 x3.2.2.2.2.2.2.1
  refine R_return dX9_endTape_17 rfl ?_
  -- X9_endTape: ('ret', 17)
  exact ⟨rfl, x4, ((o2.mono (by omega) (by omega)).trans (Out.upd u3 (by omega) (by omega))).trans (Out.upd u4 (by omega) (by omega))⟩
theorem PP_refuseTape (x : PPC E h X rd q qc ds im md tp ph fk fp) (k p : Int32) : Spec E k_X9_refuseTape 3 0 0 [.ref X, .int k, .int p] h (fun v h' => v = some (.int (-30 - k)) ∧ PPC E h' X rd q qc ds im md [] ph k p ∧ Out h h' X (X + 1830)) := by
  refine Spec.of (by decide +kernel) (by simp [Value.category]) (Nat.le_of_ble_eq_true rfl) ?_
  show WP E k_X9_refuseTape 3 0 0 0 [some (.ref X), some (.int k), some (.int p)] [] h _
  refine R_aload_n dX9_refuseTape_0 rfl ?_
  refine R_iload_n dX9_refuseTape_1 rfl ?_
  refine R_iload_n dX9_refuseTape_2 rfl ?_
  -- X9_refuseTape: ('call', 3, '.invokevirtual', 116)
  refine R_callV v_X9_endTape (PP_endTape x k p) dX9_refuseTape_3 l_RX9_116 rfl rfl x.1 (Nat.le_of_ble_eq_true rfl) (by omega) rfl rfl (fun v h2 hq => ?_)
  obtain ⟨rfl, x2, o2⟩ := hq
  refine R_bipush (v := (-30)) dX9_refuseTape_6 (by decide) ?_
  refine R_iload_n dX9_refuseTape_8 rfl ?_
  refine R_isub dX9_refuseTape_9 ?_
  refine R_ireturn dX9_refuseTape_10 rfl rfl ?_
  -- X9_refuseTape: ('ret', 10)
  exact ⟨rfl, x2, o2⟩
theorem PP_text_no1 (x : PPAt E h X rd q ds im md tp ph fk fp) {n : Int32} (hn : ¬ stP tp.length n 0) : Spec E k_X9_text 5 0 0 [.ref X, .int n] h (fun v h' => v = some (.int (-3)) ∧ h' = h) := by
  refine Spec.of (by decide +kernel) (by simp [Value.category]) (Nat.le_of_ble_eq_true rfl) ?_
  show WP E k_X9_text 5 0 0 0 [some (.ref X), some (.int n), none] [] h _
  refine R_aload_n dX9_text_0 rfl ?_
  refine R_iload_n dX9_text_1 rfl ?_
  -- X9_text: ('call', 2, '.invokevirtual', 112)
  refine R_callV v_X9_isOnTape (PP_isOnTape x n) dX9_text_2 l_RX9_112 rfl rfl x.1 (Nat.le_of_ble_eq_true rfl) (by omega) rfl rfl (fun v h2 hq => ?_)
  obtain ⟨rfl, e9⟩ := hq
  rw [e9, if_neg hn]
  refine R_if_ne_N (tgt := 11) dX9_text_5 (by decide) (by omega) (fun c5 => ?_) (fun c5 => ?_)
  -- X9_text: ('branch', 5, 11, 8)
  · exact absurd rfl c5
  · refine R_bipush (v := (-3)) dX9_text_8 (by decide) ?_
    refine R_ireturn dX9_text_10 rfl rfl ?_
    -- X9_text: ('ret', 10)
    exact ⟨rfl, rfl⟩
theorem PP_text_no2 (x : PPAt E h X rd q ds im md tp ph fk fp) {n : Nat} (hn : n ≤ tp.length) (hb : 240 < n) : Spec E k_X9_text 5 0 0 [.ref X, .int (nI n)] h (fun v h' => v = some (.int (-4)) ∧ (∃ rd, PPAt E h' X rd q ds im md [] ph (nI 0) (-1)) ∧ Out h h' X (X + 1830)) := by
  have htl := x.2.2.2.2.1.1
  refine Spec.of (by decide +kernel) (by simp [Value.category]) (Nat.le_of_ble_eq_true rfl) ?_
  show WP E k_X9_text 5 0 0 0 [some (.ref X), some (.int (nI n)), none] [] h _
  refine R_aload_n dX9_text_0 rfl ?_
  refine R_iload_n dX9_text_1 rfl ?_
  -- X9_text: ('call', 2, '.invokevirtual', 112)
  refine R_callV v_X9_isOnTape (PP_isOnTape x (nI n)) dX9_text_2 l_RX9_112 rfl rfl x.1 (Nat.le_of_ble_eq_true rfl) (by omega) rfl rfl (fun v h2 hq => ?_)
  obtain ⟨rfl, e9⟩ := hq
  rw [e9, if_pos ((stP_nI (by omega)).mpr (by omega))]
  refine R_if_ne_N (tgt := 11) dX9_text_5 (by decide) (by omega) (fun c5 => ?_) (fun c5 => ?_)
  -- X9_text: ('branch', 5, 11, 8)
  · refine R_iload_n dX9_text_11 rfl ?_
    refine R_sipush (v := nI 240) dX9_text_12 (by decide) ?_
    refine R_icmp_le_N (tgt := 27) dX9_text_15 (by decide) (by omega) (by omega) (fun c15 => ?_) (fun c15 => ?_)
    -- X9_text: ('branch', 15, 27, 18)
    · exact absurd c15 (by omega)
    · refine R_aload_n dX9_text_18 rfl ?_
      refine R_iconst (v := nI 0) dX9_text_19 (by decide) ?_
      refine R_iconst (v := (-1)) dX9_text_20 (by decide) ?_
      -- X9_text: ('call', 21, '.invokevirtual', 116)
      refine R_callV v_X9_endTape (PP_endTape (PPC.of x) (nI 0) (-1)) dX9_text_21 l_RX9_116 rfl rfl x.1 (Nat.le_of_ble_eq_true rfl) (by omega) rfl rfl (fun v h3 hq => ?_)
      obtain ⟨rfl, x3, o3⟩ := hq
      refine R_bipush (v := (-4)) dX9_text_24 (by decide) ?_
      refine R_ireturn dX9_text_26 rfl rfl ?_
      -- X9_text: ('ret', 26)
      exact ⟨rfl, ⟨_, x3.to⟩, o3⟩
  · exact absurd c5 (by decide)
theorem PP_text_no3 (x : PPAt E h X rd q ds im md tp ph fk fp) (hb : ∀ c ∈ tp, c < 256) {n i : Nat} (hn : n ≤ tp.length) (hb2 : n ≤ 240) (hw : badS tp n = some i) : Spec E k_X9_text 5 0 0 [.ref X, .int (nI n)] h (fun v h' => v = some (.int (-31)) ∧ (∃ rd, PPAt E h' X rd q ds im md [] ph (nI 1) (nI i)) ∧ Out h h' X (X + 1830)) := by
  have htl := x.2.2.2.2.1.1
  have hi := (fstB_some hw).1
  refine Spec.of (by decide +kernel) (by simp [Value.category]) (Nat.le_of_ble_eq_true rfl) ?_
  show WP E k_X9_text 5 0 0 0 [some (.ref X), some (.int (nI n)), none] [] h _
  refine R_aload_n dX9_text_0 rfl ?_
  refine R_iload_n dX9_text_1 rfl ?_
  -- X9_text: ('call', 2, '.invokevirtual', 112)
  refine R_callV v_X9_isOnTape (PP_isOnTape x (nI n)) dX9_text_2 l_RX9_112 rfl rfl x.1 (Nat.le_of_ble_eq_true rfl) (by omega) rfl rfl (fun v h2 hq => ?_)
  obtain ⟨rfl, e9⟩ := hq
  rw [e9, if_pos ((stP_nI (by omega)).mpr (by omega))]
  refine R_if_ne_N (tgt := 11) dX9_text_5 (by decide) (by omega) (fun c5 => ?_) (fun c5 => ?_)
  -- X9_text: ('branch', 5, 11, 8)
  · refine R_iload_n dX9_text_11 rfl ?_
    refine R_sipush (v := nI 240) dX9_text_12 (by decide) ?_
    refine R_icmp_le_N (tgt := 27) dX9_text_15 (by decide) (by omega) (by omega) (fun c15 => ?_) (fun c15 => ?_)
    -- X9_text: ('branch', 15, 27, 18)
    · refine R_aload_n dX9_text_27 rfl ?_
      refine R_iload_n dX9_text_28 rfl ?_
      -- X9_text: ('call', 29, '.invokevirtual', 120)
      refine R_callV v_X9_firstNoLetter (PP_firstNoLetter x hb hn) dX9_text_29 l_RX9_120 rfl rfl x.1 (Nat.le_of_ble_eq_true rfl) (by omega) rfl rfl (fun v h3 hq => ?_)
      obtain ⟨rfl, e9⟩ := hq
      rw [e9, hw, show oI 0 (some i) = nI i from by rw [oI, Nat.zero_add]]
      refine R_istore2 dX9_text_32 (by decide) ?_
      refine R_iload_n dX9_text_33 rfl ?_
      refine R_iconst (v := (-1)) dX9_text_34 (by decide) ?_
      refine R_icmp_eq (tgt := 45) dX9_text_35 (by decide) (fun c35 => ?_) (fun c35 => ?_)
      -- X9_text: ('branch', 35, 45, 38)
      · exact absurd c35 (nI_ne_m1 (n := i) (by omega))
      · refine R_aload_n dX9_text_38 rfl ?_
        refine R_iconst (v := nI 1) dX9_text_39 (by decide) ?_
        refine R_iload_n dX9_text_40 rfl ?_
        -- X9_text: ('call', 41, '.invokevirtual', 124)
        refine R_callV v_X9_refuseTape (PP_refuseTape (PPC.of x) (nI 1) (nI i)) dX9_text_41 l_RX9_124 rfl rfl x.1 (Nat.le_of_ble_eq_true rfl) (by omega) rfl rfl (fun v h4 hq => ?_)
        obtain ⟨rfl, x3, o3⟩ := hq
        refine R_ireturn dX9_text_44 rfl rfl ?_
        -- X9_text: ('ret', 44)
        exact ⟨rfl, ⟨_, x3.to⟩, o3⟩
    · exact absurd c15 (by omega)
  · exact absurd c5 (by decide)
theorem PP_text (x : PPAt E h X rd q ds im md tp ph fk fp) (hb : ∀ c ∈ tp, c < 256) {n : Nat} (hn : n ≤ tp.length) (hb2 : n ≤ 240) (hw : badS tp n = none) : Spec E k_X9_text 5 0 0 [.ref X, .int (nI n)] h (fun v h' => v = some (.int (nI n)) ∧ (∃ rd, PPAt E h' X rd (tlets tp n, fun _ => []) (pushD ds q) im md [] ph (nI 0) (-1)) ∧ Out h h' X (X + 1830)) := by
  have htl := x.2.2.2.2.1.1
  have hP := x.2.1
  obtain ⟨nx, ks, hQ, hk⟩ := id x.2.2.1
  refine Spec.of (by decide +kernel) (by simp [Value.category]) (Nat.le_of_ble_eq_true rfl) ?_
  show WP E k_X9_text 5 0 0 0 [some (.ref X), some (.int (nI n)), none] [] h _
  refine R_aload_n dX9_text_0 rfl ?_
  refine R_iload_n dX9_text_1 rfl ?_
  -- X9_text: ('call', 2, '.invokevirtual', 112)
  refine R_callV v_X9_isOnTape (PP_isOnTape x (nI n)) dX9_text_2 l_RX9_112 rfl rfl x.1 (Nat.le_of_ble_eq_true rfl) (by omega) rfl rfl (fun v h2 hq => ?_)
  obtain ⟨rfl, e9⟩ := hq
  rw [e9, if_pos ((stP_nI (by omega)).mpr (by omega))]
  refine R_if_ne_N (tgt := 11) dX9_text_5 (by decide) (by omega) (fun c5 => ?_) (fun c5 => ?_)
  -- X9_text: ('branch', 5, 11, 8)
  · refine R_iload_n dX9_text_11 rfl ?_
    refine R_sipush (v := nI 240) dX9_text_12 (by decide) ?_
    refine R_icmp_le_N (tgt := 27) dX9_text_15 (by decide) (by omega) (by omega) (fun c15 => ?_) (fun c15 => ?_)
    -- X9_text: ('branch', 15, 27, 18)
    · refine R_aload_n dX9_text_27 rfl ?_
      refine R_iload_n dX9_text_28 rfl ?_
      -- X9_text: ('call', 29, '.invokevirtual', 120)
      refine R_callV v_X9_firstNoLetter (PP_firstNoLetter x hb hn) dX9_text_29 l_RX9_120 rfl rfl x.1 (Nat.le_of_ble_eq_true rfl) (by omega) rfl rfl (fun v h3 hq => ?_)
      obtain ⟨rfl, e9⟩ := hq
      rw [e9, hw]
      refine R_istore2 dX9_text_32 (by decide) ?_
      refine R_iload_n dX9_text_33 rfl ?_
      refine R_iconst (v := (-1)) dX9_text_34 (by decide) ?_
      refine R_icmp_eq (tgt := 45) dX9_text_35 (by decide) (fun c35 => ?_) (fun c35 => ?_)
      -- X9_text: ('branch', 35, 45, 38)
      · refine R_aload_n dX9_text_45 rfl ?_
        refine R_get K_9 (f := 1) (by decide) dX9_text_46 f_RX9_19 x.1 rfl ?_
        refine R_aload_n dX9_text_49 rfl ?_
        refine R_get K_9 (f := 0) (by decide) dX9_text_50 f_RX9_12 x.1 rfl ?_
        -- X9_text: ('call', 53, '.invokevirtual', 128)
        refine R_callV v_X4_keep (Past_keep hQ hP (by omega)) dX9_text_53 l_RX9_128 rfl rfl hQ.1 (Nat.le_of_ble_eq_true rfl) (by omega) rfl rfl (fun v h3 hq => ?_)
        obtain ⟨rfl, hQ3, o3⟩ := hq
        have x3 := (PPC.of x).kept hQ hk hQ3 o3
        refine R_aload_n dX9_text_56 rfl ?_
        refine R_get K_9 (f := 0) (by decide) dX9_text_57 f_RX9_12 x3.1 rfl ?_
        -- X9_text: ('call', 60, '.invokevirtual', 132)
        refine R_callV v_X2_clear (Pack_clear x3.2.1) dX9_text_60 l_RX9_132 rfl rfl x3.2.1.1 (Nat.le_of_ble_eq_true rfl) (by omega) rfl rfl (fun v h4 hq => ?_)
        obtain ⟨rfl, hP4, o4⟩ := hq
        have x4 := x3.setPk (q2 := ([], fun _ => [])) hP4 o4
        have o34 : Out h h4 X (X + 1830) := (o3.mono (by omega) (by omega)).trans (o4.mono (by omega) (by omega))
        refine R_aload_n dX9_text_63 rfl ?_
        refine R_iload_n dX9_text_64 rfl ?_
        refine R_aload_n dX9_text_65 rfl ?_
        refine R_get K_9 (f := 0) (by decide) dX9_text_66 f_RX9_12 x4.1 rfl ?_
        -- X9_text: ('call', 69, '.invokevirtual', 135)
        refine R_callV v_X2_sequence (Pack_sequence x4.2.1) dX9_text_69 l_RX9_135 rfl rfl x4.2.1.1 (Nat.le_of_ble_eq_true rfl) (by omega) rfl rfl (fun v h5 hq => ?_)
        obtain ⟨rfl, e9⟩ := hq
        rw [e9]
        refine R_callV v_X9_takeLetters (PP_takeLetters x4.1 x4.2.2.2.2.1 hn hw x4.2.1.2.1 hb2 (by omega) (by omega)) dX9_text_72 l_RX9_139 rfl rfl x4.1 (Nat.le_of_ble_eq_true rfl) (by omega) rfl rfl (fun v h6 hq => ?_)
        obtain ⟨rfl, hR6, o6⟩ := hq
        have x6 := x4.setPk (q2 := (tlets tp n, fun _ => [])) (x4.2.1.setSeq hR6 o6) (o6.mono (by omega) (by omega))
        refine R_aload_n dX9_text_75 rfl ?_
        refine R_iconst (v := nI 0) dX9_text_76 (by decide) ?_
        refine R_put_A K_9 (f := 11) (by decide) dX9_text_77 f_RX9_71 rfl x6.1 (by rfl) (by rfl) (Nat.le_of_ble_eq_true rfl) ?_
        -- X9_text: ('put', 80)
        intro h7 u7
        have x7 : PPC E h7 X 0 (tlets tp n, fun _ => []) q (pushD ds q) im md tp ph fk fp := x6.setObj (rd2 := 0) u7 x6.2.2.2.2.2.2.1.low
        refine R_aload_n dX9_text_80 rfl ?_
        refine R_iconst (v := nI 0) dX9_text_81 (by decide) ?_
        refine R_iconst (v := (-1)) dX9_text_82 (by decide) ?_
        -- X9_text: ('call', 83, '.invokevirtual', 116)
        refine R_callV v_X9_endTape (PP_endTape x7 (nI 0) (-1)) dX9_text_83 l_RX9_116 rfl rfl x7.1 (Nat.le_of_ble_eq_true rfl) (by omega) rfl rfl (fun v h8 hq => ?_)
        obtain ⟨rfl, x8, o8⟩ := hq
        refine R_iload_n dX9_text_86 rfl ?_
        refine R_ireturn dX9_text_87 rfl rfl ?_
        -- X9_text: ('ret', 87)
        exact ⟨rfl, ⟨0, x8.lo⟩, ((o34.trans (o6.mono (by omega) (by omega))).trans (Out.upd u7 (by omega) (by omega))).trans o8⟩
      · exact absurd rfl c35
    · exact absurd c15 (by omega)
  · exact absurd c5 (by decide)
theorem PP_phrase_no1 (x : PPAt E h X rd q ds im md tp ph fk fp) {n : Int32} (hn : ¬ stP tp.length n 0) : Spec E k_X9_phrase 6 0 0 [.ref X, .int n] h (fun v h' => v = some (.int (-3)) ∧ h' = h) := by
  refine Spec.of (by decide +kernel) (by simp [Value.category]) (Nat.le_of_ble_eq_true rfl) ?_
  show WP E k_X9_phrase 6 0 0 0 [some (.ref X), some (.int n), none] [] h _
  refine R_aload_n dX9_phrase_0 rfl ?_
  refine R_iload_n dX9_phrase_1 rfl ?_
  -- X9_phrase: ('call', 2, '.invokevirtual', 112)
  refine R_callV v_X9_isOnTape (PP_isOnTape x n) dX9_phrase_2 l_RX9_112 rfl rfl x.1 (Nat.le_of_ble_eq_true rfl) (by omega) rfl rfl (fun v h2 hq => ?_)
  obtain ⟨rfl, e9⟩ := hq
  rw [e9, if_neg hn]
  refine R_if_ne_N (tgt := 11) dX9_phrase_5 (by decide) (by omega) (fun c5 => ?_) (fun c5 => ?_)
  -- X9_phrase: ('branch', 5, 11, 8)
  · exact absurd rfl c5
  · refine R_bipush (v := (-3)) dX9_phrase_8 (by decide) ?_
    refine R_ireturn dX9_phrase_10 rfl rfl ?_
    -- X9_phrase: ('ret', 10)
    exact ⟨rfl, rfl⟩
theorem PP_phrase_no2 (x : PPAt E h X rd q ds im md tp ph fk fp) {n : Nat} (hn : n ≤ tp.length) (hb : n = 0 ∨ 20 < n) : Spec E k_X9_phrase 6 0 0 [.ref X, .int (nI n)] h (fun v h' => v = some (.int (-4)) ∧ (∃ rd, PPAt E h' X rd q ds im md [] ph (nI 0) (-1)) ∧ Out h h' X (X + 1830)) := by
  have htl := x.2.2.2.2.1.1
  refine Spec.of (by decide +kernel) (by simp [Value.category]) (Nat.le_of_ble_eq_true rfl) ?_
  show WP E k_X9_phrase 6 0 0 0 [some (.ref X), some (.int (nI n)), none] [] h _
  refine R_aload_n dX9_phrase_0 rfl ?_
  refine R_iload_n dX9_phrase_1 rfl ?_
  -- X9_phrase: ('call', 2, '.invokevirtual', 112)
  refine R_callV v_X9_isOnTape (PP_isOnTape x (nI n)) dX9_phrase_2 l_RX9_112 rfl rfl x.1 (Nat.le_of_ble_eq_true rfl) (by omega) rfl rfl (fun v h2 hq => ?_)
  obtain ⟨rfl, e9⟩ := hq
  rw [e9, if_pos ((stP_nI (by omega)).mpr (by omega))]
  refine R_if_ne_N (tgt := 11) dX9_phrase_5 (by decide) (by omega) (fun c5 => ?_) (fun c5 => ?_)
  -- X9_phrase: ('branch', 5, 11, 8)
  · refine R_iload_n dX9_phrase_11 rfl ?_
    refine R_if_eq_N (tgt := 21) dX9_phrase_12 (by decide) (by omega) (fun c12 => ?_) (fun c12 => ?_)
    -- X9_phrase: ('branch', 12, 21, 15)
    · refine R_aload_n dX9_phrase_21 rfl ?_
      refine R_iconst (v := nI 0) dX9_phrase_22 (by decide) ?_
      refine R_iconst (v := (-1)) dX9_phrase_23 (by decide) ?_
      -- X9_phrase: ('call', 24, '.invokevirtual', 116)
      refine R_callV v_X9_endTape (PP_endTape (PPC.of x) (nI 0) (-1)) dX9_phrase_24 l_RX9_116 rfl rfl x.1 (Nat.le_of_ble_eq_true rfl) (by omega) rfl rfl (fun v h3 hq => ?_)
      obtain ⟨rfl, x3, o3⟩ := hq
      refine R_bipush (v := (-4)) dX9_phrase_27 (by decide) ?_
      refine R_ireturn dX9_phrase_29 rfl rfl ?_
      -- X9_phrase: ('ret', 29)
      exact ⟨rfl, ⟨_, x3.to⟩, o3⟩
    · refine R_iload_n dX9_phrase_15 rfl ?_
      refine R_bipush (v := nI 20) dX9_phrase_16 (by decide) ?_
      refine R_icmp_le_N (tgt := 30) dX9_phrase_18 (by decide) (by omega) (by omega) (fun c18 => ?_) (fun c18 => ?_)
      -- X9_phrase: ('branch', 18, 30, 21)
      · exact absurd c18 (by omega)
      · refine R_aload_n dX9_phrase_21 rfl ?_
        refine R_iconst (v := nI 0) dX9_phrase_22 (by decide) ?_
        refine R_iconst (v := (-1)) dX9_phrase_23 (by decide) ?_
        -- X9_phrase: ('call', 24, '.invokevirtual', 116)
        refine R_callV v_X9_endTape (PP_endTape (PPC.of x) (nI 0) (-1)) dX9_phrase_24 l_RX9_116 rfl rfl x.1 (Nat.le_of_ble_eq_true rfl) (by omega) rfl rfl (fun v h3 hq => ?_)
        obtain ⟨rfl, x3, o3⟩ := hq
        refine R_bipush (v := (-4)) dX9_phrase_27 (by decide) ?_
        refine R_ireturn dX9_phrase_29 rfl rfl ?_
        -- X9_phrase: ('ret', 29)
        exact ⟨rfl, ⟨_, x3.to⟩, o3⟩
  · exact absurd c5 (by decide)
theorem PP_phrase_no3 (x : PPAt E h X rd q ds im md tp ph fk fp) (hb : ∀ c ∈ tp, c < 256) {n i : Nat} (hn : n ≤ tp.length) (hb1 : 0 < n) (hb2 : n ≤ 20) (hw : badS tp n = some i) : Spec E k_X9_phrase 6 0 0 [.ref X, .int (nI n)] h (fun v h' => v = some (.int (-31)) ∧ (∃ rd, PPAt E h' X rd q ds im md [] ph (nI 1) (nI i)) ∧ Out h h' X (X + 1830)) := by
  have htl := x.2.2.2.2.1.1
  have hi := (fstB_some hw).1
  refine Spec.of (by decide +kernel) (by simp [Value.category]) (Nat.le_of_ble_eq_true rfl) ?_
  show WP E k_X9_phrase 6 0 0 0 [some (.ref X), some (.int (nI n)), none] [] h _
  refine R_aload_n dX9_phrase_0 rfl ?_
  refine R_iload_n dX9_phrase_1 rfl ?_
  -- X9_phrase: ('call', 2, '.invokevirtual', 112)
  refine R_callV v_X9_isOnTape (PP_isOnTape x (nI n)) dX9_phrase_2 l_RX9_112 rfl rfl x.1 (Nat.le_of_ble_eq_true rfl) (by omega) rfl rfl (fun v h2 hq => ?_)
  obtain ⟨rfl, e9⟩ := hq
  rw [e9, if_pos ((stP_nI (by omega)).mpr (by omega))]
  refine R_if_ne_N (tgt := 11) dX9_phrase_5 (by decide) (by omega) (fun c5 => ?_) (fun c5 => ?_)
  -- X9_phrase: ('branch', 5, 11, 8)
  · refine R_iload_n dX9_phrase_11 rfl ?_
    refine R_if_eq_N (tgt := 21) dX9_phrase_12 (by decide) (by omega) (fun c12 => ?_) (fun c12 => ?_)
    -- X9_phrase: ('branch', 12, 21, 15)
    · exact absurd c12 (by omega)
    · refine R_iload_n dX9_phrase_15 rfl ?_
      refine R_bipush (v := nI 20) dX9_phrase_16 (by decide) ?_
      refine R_icmp_le_N (tgt := 30) dX9_phrase_18 (by decide) (by omega) (by omega) (fun c18 => ?_) (fun c18 => ?_)
      -- X9_phrase: ('branch', 18, 30, 21)
      · refine R_aload_n dX9_phrase_30 rfl ?_
        refine R_iload_n dX9_phrase_31 rfl ?_
        -- X9_phrase: ('call', 32, '.invokevirtual', 120)
        refine R_callV v_X9_firstNoLetter (PP_firstNoLetter x hb hn) dX9_phrase_32 l_RX9_120 rfl rfl x.1 (Nat.le_of_ble_eq_true rfl) (by omega) rfl rfl (fun v h3 hq => ?_)
        obtain ⟨rfl, e9⟩ := hq
        rw [e9, hw, show oI 0 (some i) = nI i from by rw [oI, Nat.zero_add]]
        refine R_istore2 dX9_phrase_35 (by decide) ?_
        refine R_iload_n dX9_phrase_36 rfl ?_
        refine R_iconst (v := (-1)) dX9_phrase_37 (by decide) ?_
        refine R_icmp_eq (tgt := 48) dX9_phrase_38 (by decide) (fun c38 => ?_) (fun c38 => ?_)
        -- X9_phrase: ('branch', 38, 48, 41)
        · exact absurd c38 (nI_ne_m1 (n := i) (by omega))
        · refine R_aload_n dX9_phrase_41 rfl ?_
          refine R_iconst (v := nI 1) dX9_phrase_42 (by decide) ?_
          refine R_iload_n dX9_phrase_43 rfl ?_
          -- X9_phrase: ('call', 44, '.invokevirtual', 124)
          refine R_callV v_X9_refuseTape (PP_refuseTape (PPC.of x) (nI 1) (nI i)) dX9_phrase_44 l_RX9_124 rfl rfl x.1 (Nat.le_of_ble_eq_true rfl) (by omega) rfl rfl (fun v h4 hq => ?_)
          obtain ⟨rfl, x3, o3⟩ := hq
          refine R_ireturn dX9_phrase_47 rfl rfl ?_
          -- X9_phrase: ('ret', 47)
          exact ⟨rfl, ⟨_, x3.to⟩, o3⟩
      · exact absurd c18 (by omega)
  · exact absurd c5 (by decide)
theorem PP_phrase (x : PPAt E h X rd q ds im md tp ph fk fp) (hq : PkOk q) (hb : ∀ c ∈ tp, c < 256) {n : Nat} (hn : n ≤ tp.length) (hb1 : 0 < n) (hb2 : n ≤ 20) (hw : badS tp n = none) : Spec E k_X9_phrase 6 0 0 [.ref X, .int (nI n)] h (fun v h' => v = some (.int (nI (hitsS (tlets tp n) (letL q.2 q.1)))) ∧ (∃ rd, PPAt E h' X rd q ds im md [] (tlets tp n) (nI 0) (-1)) ∧ Out h h' X (X + 1830)) := by
  have htl := x.2.2.2.2.1.1
  have hp := x.2.2.2.2.2.1
  refine Spec.of (by decide +kernel) (by simp [Value.category]) (Nat.le_of_ble_eq_true rfl) ?_
  show WP E k_X9_phrase 6 0 0 0 [some (.ref X), some (.int (nI n)), none] [] h _
  refine R_aload_n dX9_phrase_0 rfl ?_
  refine R_iload_n dX9_phrase_1 rfl ?_
  -- X9_phrase: ('call', 2, '.invokevirtual', 112)
  refine R_callV v_X9_isOnTape (PP_isOnTape x (nI n)) dX9_phrase_2 l_RX9_112 rfl rfl x.1 (Nat.le_of_ble_eq_true rfl) (by omega) rfl rfl (fun v h2 hq => ?_)
  obtain ⟨rfl, e9⟩ := hq
  rw [e9, if_pos ((stP_nI (by omega)).mpr (by omega))]
  refine R_if_ne_N (tgt := 11) dX9_phrase_5 (by decide) (by omega) (fun c5 => ?_) (fun c5 => ?_)
  -- X9_phrase: ('branch', 5, 11, 8)
  · refine R_iload_n dX9_phrase_11 rfl ?_
    refine R_if_eq_N (tgt := 21) dX9_phrase_12 (by decide) (by omega) (fun c12 => ?_) (fun c12 => ?_)
    -- X9_phrase: ('branch', 12, 21, 15)
    · exact absurd c12 (by omega)
    · refine R_iload_n dX9_phrase_15 rfl ?_
      refine R_bipush (v := nI 20) dX9_phrase_16 (by decide) ?_
      refine R_icmp_le_N (tgt := 30) dX9_phrase_18 (by decide) (by omega) (by omega) (fun c18 => ?_) (fun c18 => ?_)
      -- X9_phrase: ('branch', 18, 30, 21)
      · refine R_aload_n dX9_phrase_30 rfl ?_
        refine R_iload_n dX9_phrase_31 rfl ?_
        -- X9_phrase: ('call', 32, '.invokevirtual', 120)
        refine R_callV v_X9_firstNoLetter (PP_firstNoLetter x hb hn) dX9_phrase_32 l_RX9_120 rfl rfl x.1 (Nat.le_of_ble_eq_true rfl) (by omega) rfl rfl (fun v h3 hq => ?_)
        obtain ⟨rfl, e9⟩ := hq
        rw [e9, hw]
        refine R_istore2 dX9_phrase_35 (by decide) ?_
        refine R_iload_n dX9_phrase_36 rfl ?_
        refine R_iconst (v := (-1)) dX9_phrase_37 (by decide) ?_
        refine R_icmp_eq (tgt := 48) dX9_phrase_38 (by decide) (fun c38 => ?_) (fun c38 => ?_)
        -- X9_phrase: ('branch', 38, 48, 41)
        · refine R_aload_n dX9_phrase_48 rfl ?_
          refine R_get K_9 (f := 5) (by decide) dX9_phrase_49 f_RX9_40 x.1 rfl ?_
          -- X9_phrase: ('call', 52, '.invokevirtual', 143)
          refine R_callV v_X6_clear (Row_clear hp) dX9_phrase_52 l_RX9_143 rfl rfl hp.2.2.1 (Nat.le_of_ble_eq_true rfl) (by omega) rfl rfl (fun v h4 hq => ?_)
          obtain ⟨rfl, hR4, o4⟩ := hq
          have x4 := (PPC.of x).setPh hR4 (o4.mono (by omega) (by omega))
          refine R_aload_n dX9_phrase_55 rfl ?_
          refine R_iload_n dX9_phrase_56 rfl ?_
          refine R_aload_n dX9_phrase_57 rfl ?_
          refine R_get K_9 (f := 5) (by decide) dX9_phrase_58 f_RX9_40 x4.1 rfl ?_
          -- X9_phrase: ('call', 61, '.invokevirtual', 139)
          refine R_callV v_X9_takeLetters (PP_takeLetters x4.1 x4.2.2.2.2.1 hn hw hR4 hb2 (by omega) (by omega)) dX9_phrase_61 l_RX9_139 rfl rfl x4.1 (Nat.le_of_ble_eq_true rfl) (by omega) rfl rfl (fun v h6 hq => ?_)
          obtain ⟨rfl, hR6, o6⟩ := hq
          have x6 := x4.setPh hR6 (o6.mono (by omega) (by omega))
          refine R_aload_n dX9_phrase_64 rfl ?_
          refine R_iconst (v := nI 0) dX9_phrase_65 (by decide) ?_
          refine R_iconst (v := (-1)) dX9_phrase_66 (by decide) ?_
          -- X9_phrase: ('call', 67, '.invokevirtual', 116)
          refine R_callV v_X9_endTape (PP_endTape x6 (nI 0) (-1)) dX9_phrase_67 l_RX9_116 rfl rfl x6.1 (Nat.le_of_ble_eq_true rfl) (by omega) rfl rfl (fun v h8 hq => ?_)
          obtain ⟨rfl, x8, o8⟩ := hq
          refine R_aload_n dX9_phrase_70 rfl ?_
          -- X9_phrase: ('call', 71, '.invokevirtual', 144)
          refine R_callV v_X9_read (PP_read x8.to hq) dX9_phrase_71 l_RX9_144 rfl rfl x8.1 (Nat.le_of_ble_eq_true rfl) (by omega) rfl rfl (fun v h9 hq => ?_)
          obtain ⟨rfl, x9, o9⟩ := hq
          obtain ⟨-, lo, la, r⟩ := x9.cach
          refine R_aload_n dX9_phrase_74 rfl ?_
          refine R_get K_9 (f := 10) (by decide) dX9_phrase_75 f_RX9_67 x9.1 rfl ?_
          refine R_aload_n dX9_phrase_78 rfl ?_
          refine R_get K_9 (f := 5) (by decide) dX9_phrase_79 f_RX9_40 x9.1 rfl ?_
          -- X9_phrase: ('call', 82, '.invokevirtual', 147)
          refine R_callV v_X5_hitsOf (Read_hitsOf r x9.2.2.2.2.2.1) dX9_phrase_82 l_RX9_147 rfl rfl r.1 (Nat.le_of_ble_eq_true rfl) (by omega) rfl rfl (fun v h10 hq => ?_)
          obtain ⟨rfl, e9⟩ := hq
          rw [e9]
          refine R_ireturn dX9_phrase_85 rfl rfl ?_
          -- X9_phrase: ('ret', 85)
          exact ⟨rfl, ⟨_, x9⟩, (((o4.mono (by omega) (by omega)).trans (o6.mono (by omega) (by omega))).trans o8).trans o9⟩
        · exact absurd rfl c38
      · exact absurd c18 (by omega)
  · exact absurd c5 (by decide)
theorem Rd_faultKind {D B n pos k : Nat} {pl : Int32} {lt : Nat → Nat} (hO : RdO E h D B n pos k pl lt) : Spec E k_X1_faultKind 1 0 0 [.ref D] h (fun v h' => v = some (.int (nI k)) ∧ h' = h) := by
  refine Spec.of (by decide +kernel) (by simp [Value.category]) (Nat.le_of_ble_eq_true rfl) ?_
  show WP E k_X1_faultKind 1 0 0 0 [some (.ref D)] [] h _
  refine R_aload_n dX1_faultKind_0 rfl ?_
  refine R_get K_1 (f := 5) (by decide) dX1_faultKind_1 f_RX1_38 hO.1 rfl ?_
  refine R_ireturn dX1_faultKind_4 rfl rfl ?_
  -- X1_faultKind: ('ret', 4)
  exact ⟨rfl, rfl⟩
theorem Rd_faultPlace {D B n pos k : Nat} {pl : Int32} {lt : Nat → Nat} (hO : RdO E h D B n pos k pl lt) : Spec E k_X1_faultPlace 1 0 0 [.ref D] h (fun v h' => v = some (.int pl) ∧ h' = h) := by
  refine Spec.of (by decide +kernel) (by simp [Value.category]) (Nat.le_of_ble_eq_true rfl) ?_
  show WP E k_X1_faultPlace 1 0 0 0 [some (.ref D)] [] h _
  refine R_aload_n dX1_faultPlace_0 rfl ?_
  refine R_get K_1 (f := 6) (by decide) dX1_faultPlace_1 f_RX1_41 hO.1 rfl ?_
  refine R_ireturn dX1_faultPlace_4 rfl rfl ?_
  -- X1_faultPlace: ('ret', 4)
  exact ⟨rfl, rfl⟩
theorem Rd_packing {D B n pos k : Nat} {pl : Int32} {lt : Nat → Nat} (hO : RdO E h D B n pos k pl lt) : Spec E k_X1_packing 1 0 0 [.ref D] h (fun v h' => v = some (.ref (D + 1)) ∧ h' = h) := by
  refine Spec.of (by decide +kernel) (by simp [Value.category]) (Nat.le_of_ble_eq_true rfl) ?_
  show WP E k_X1_packing 1 0 0 0 [some (.ref D)] [] h _
  refine R_aload_n dX1_packing_0 rfl ?_
  refine R_get K_1 (f := 0) (by decide) dX1_packing_1 f_RX1_12 hO.1 rfl ?_
  refine R_areturn dX1_packing_4 rfl ?_
  -- X1_packing: ('ret', 4)
  exact ⟨rfl, rfl⟩
theorem PP_load_no1 (x : PPAt E h X rd q ds im md tp ph fk fp) {n : Int32} (hn : ¬ stP tp.length n 0) : Spec E k_X9_load 7 0 0 [.ref X, .int n] h (fun v h' => v = some (.int (-3)) ∧ h' = h) := by
  refine Spec.of (by decide +kernel) (by simp [Value.category]) (Nat.le_of_ble_eq_true rfl) ?_
  show WP E k_X9_load 7 0 0 0 [some (.ref X), some (.int n)] [] h _
  refine R_aload_n dX9_load_0 rfl ?_
  refine R_iload_n dX9_load_1 rfl ?_
  -- X9_load: ('call', 2, '.invokevirtual', 112)
  refine R_callV v_X9_isOnTape (PP_isOnTape x n) dX9_load_2 l_RX9_112 rfl rfl x.1 (Nat.le_of_ble_eq_true rfl) (by omega) rfl rfl (fun v h2 hq => ?_)
  obtain ⟨rfl, e9⟩ := hq
  rw [e9, if_neg hn]
  refine R_if_ne_N (tgt := 11) dX9_load_5 (by decide) (by omega) (fun c5 => ?_) (fun c5 => ?_)
  -- X9_load: ('branch', 5, 11, 8)
  · exact absurd rfl c5
  · refine R_bipush (v := (-3)) dX9_load_8 (by decide) ?_
    refine R_ireturn dX9_load_10 rfl rfl ?_
    -- X9_load: ('ret', 10)
    exact ⟨rfl, rfl⟩
theorem PP_load_no2 (x : PPAt E h X rd q ds im md tp ph fk fp) {n k p : Nat} (hn : n ≤ tp.length) (hf : rdForm tp n = .error (k, p)) : Spec E k_X9_load 7 0 0 [.ref X, .int (nI n)] h (fun v h' => v = some (.int (-30 - nI k)) ∧ (∃ rd, PPAt E h' X rd q ds im md [] ph (nI k) (nI p)) ∧ Out h h' X (X + 1830)) := by
  have ht := x.2.2.2.2.1
  have htl := ht.1
  have s := x.2.2.2.2.2.2.2.1
  refine Spec.of (by decide +kernel) (by simp [Value.category]) (Nat.le_of_ble_eq_true rfl) ?_
  show WP E k_X9_load 7 0 0 0 [some (.ref X), some (.int (nI n))] [] h _
  refine R_aload_n dX9_load_0 rfl ?_
  refine R_iload_n dX9_load_1 rfl ?_
  -- X9_load: ('call', 2, '.invokevirtual', 112)
  refine R_callV v_X9_isOnTape (PP_isOnTape x (nI n)) dX9_load_2 l_RX9_112 rfl rfl x.1 (Nat.le_of_ble_eq_true rfl) (by omega) rfl rfl (fun v h2 hq => ?_)
  obtain ⟨rfl, e9⟩ := hq
  rw [e9, if_pos ((stP_nI (by omega)).mpr (by omega))]
  refine R_if_ne_N (tgt := 11) dX9_load_5 (by decide) (by omega) (fun c5 => ?_) (fun c5 => ?_)
  -- X9_load: ('branch', 5, 11, 8)
  · refine R_aload_n dX9_load_11 rfl ?_
    refine R_get K_9 (f := 6) (by decide) dX9_load_12 f_RX9_46 x.1 rfl ?_
    refine R_aload_n dX9_load_15 rfl ?_
    refine R_get K_9 (f := 4) (by decide) dX9_load_16 f_RX9_36 x.1 rfl ?_
    refine R_iload_n dX9_load_19 rfl ?_
    -- X9_load: ('call', 20, '.invokevirtual', 151)
    refine R_callV v_X1_readFrom (Rd_readFrom s ht hn (by omega)) dX9_load_20 l_RX9_151 rfl rfl s.choose_spec.choose_spec.choose_spec.choose_spec.choose_spec.choose_spec.choose_spec.choose_spec.1.1 (Nat.le_of_ble_eq_true rfl) (by omega) rfl rfl (fun v h3 hq => ?_)
    obtain ⟨rfl, o3, rp⟩ := hq
    rw [hf] at rp
    obtain ⟨⟨hk0, hk5⟩, fl⟩ := rp
    have hk0 : k ≠ 0 := hk0
    have hk5 : k < 5 := hk5
    have x3 := x.scr (x.2.2.2.2.2.2.2.rdr fl.any o3) o3 (by omega)
    obtain ⟨pos, lt, sq, ru, fo, -⟩ := fl
    refine R_aload_n dX9_load_23 rfl ?_
    refine R_get K_9 (f := 6) (by decide) dX9_load_24 f_RX9_46 x3.1 rfl ?_
    -- X9_load: ('call', 27, '.invokevirtual', 155)
    refine R_callV v_X1_faultKind (Rd_faultKind fo) dX9_load_27 l_RX9_155 rfl rfl fo.1 (Nat.le_of_ble_eq_true rfl) (by omega) rfl rfl (fun v h4 hq => ?_)
    obtain ⟨rfl, e9⟩ := hq
    rw [e9]
    refine R_if_eq_N (tgt := 52) dX9_load_30 (by decide) (by omega) (fun c30 => ?_) (fun c30 => ?_)
    -- X9_load: ('branch', 30, 52, 33)
    · exact absurd c30 hk0
    · refine R_aload_n dX9_load_33 rfl ?_
      refine R_aload_n dX9_load_34 rfl ?_
      refine R_get K_9 (f := 6) (by decide) dX9_load_35 f_RX9_46 x3.1 rfl ?_
      -- X9_load: ('call', 38, '.invokevirtual', 155)
      refine R_callV v_X1_faultKind (Rd_faultKind fo) dX9_load_38 l_RX9_155 rfl rfl fo.1 (Nat.le_of_ble_eq_true rfl) (by omega) rfl rfl (fun v h4 hq => ?_)
      obtain ⟨rfl, e9⟩ := hq
      rw [e9]
      refine R_aload_n dX9_load_41 rfl ?_
      refine R_get K_9 (f := 6) (by decide) dX9_load_42 f_RX9_46 x3.1 rfl ?_
      -- X9_load: ('call', 45, '.invokevirtual', 157)
      refine R_callV v_X1_faultPlace (Rd_faultPlace fo) dX9_load_45 l_RX9_157 rfl rfl fo.1 (Nat.le_of_ble_eq_true rfl) (by omega) rfl rfl (fun v h5 hq => ?_)
      obtain ⟨rfl, e9⟩ := hq
      rw [e9]
      refine R_callV v_X9_refuseTape (PP_refuseTape (PPC.of x3) (nI k) (nI p)) dX9_load_48 l_RX9_124 rfl rfl x3.1 (Nat.le_of_ble_eq_true rfl) (by omega) rfl rfl (fun v h6 hq => ?_)
      obtain ⟨rfl, x6, o6⟩ := hq
      refine R_ireturn dX9_load_51 rfl rfl ?_
      -- X9_load: ('ret', 51)
      exact ⟨rfl, ⟨_, x6.to⟩, (o3.mono (by omega) (by omega)).trans o6⟩
  · exact absurd c5 (by decide)
theorem PP_load (x : PPAt E h X rd q ds im md tp ph fk fp) {n : Nat} {q2 : Pk} (hn : n ≤ tp.length) (hf : rdForm tp n = .ok q2) : Spec E k_X9_load 7 0 0 [.ref X, .int (nI n)] h (fun v h' => v = some (.int (nI (letL q2.2 q2.1).length)) ∧ (∃ rd, PPAt E h' X rd q2 (pushD ds q) im md [] ph (nI 0) (-1)) ∧ Out h h' X (X + 1830)) := by
  have ht := x.2.2.2.2.1
  have htl := ht.1
  have s := x.2.2.2.2.2.2.2.1
  have ok2 := rdForm_ok hf
  refine Spec.of (by decide +kernel) (by simp [Value.category]) (Nat.le_of_ble_eq_true rfl) ?_
  show WP E k_X9_load 7 0 0 0 [some (.ref X), some (.int (nI n))] [] h _
  refine R_aload_n dX9_load_0 rfl ?_
  refine R_iload_n dX9_load_1 rfl ?_
  -- X9_load: ('call', 2, '.invokevirtual', 112)
  refine R_callV v_X9_isOnTape (PP_isOnTape x (nI n)) dX9_load_2 l_RX9_112 rfl rfl x.1 (Nat.le_of_ble_eq_true rfl) (by omega) rfl rfl (fun v h2 hq => ?_)
  obtain ⟨rfl, e9⟩ := hq
  rw [e9, if_pos ((stP_nI (by omega)).mpr (by omega))]
  refine R_if_ne_N (tgt := 11) dX9_load_5 (by decide) (by omega) (fun c5 => ?_) (fun c5 => ?_)
  -- X9_load: ('branch', 5, 11, 8)
  · refine R_aload_n dX9_load_11 rfl ?_
    refine R_get K_9 (f := 6) (by decide) dX9_load_12 f_RX9_46 x.1 rfl ?_
    refine R_aload_n dX9_load_15 rfl ?_
    refine R_get K_9 (f := 4) (by decide) dX9_load_16 f_RX9_36 x.1 rfl ?_
    refine R_iload_n dX9_load_19 rfl ?_
    -- X9_load: ('call', 20, '.invokevirtual', 151)
    refine R_callV v_X1_readFrom (Rd_readFrom s ht hn (by omega)) dX9_load_20 l_RX9_151 rfl rfl s.choose_spec.choose_spec.choose_spec.choose_spec.choose_spec.choose_spec.choose_spec.choose_spec.1.1 (Nat.le_of_ble_eq_true rfl) (by omega) rfl rfl (fun v h3 hq => ?_)
    obtain ⟨rfl, o3, rp⟩ := hq
    rw [hf] at rp
    obtain ⟨pos, lt, ra⟩ := rp
    have x3 := x.scr (x.2.2.2.2.2.2.2.rdr ⟨_, _, _, _, _, _, _, _, ra⟩ o3) o3 (by omega)
    obtain ⟨nx, ks, hQ, hk⟩ := id x3.2.2.1
    refine R_aload_n dX9_load_23 rfl ?_
    refine R_get K_9 (f := 6) (by decide) dX9_load_24 f_RX9_46 x3.1 rfl ?_
    -- X9_load: ('call', 27, '.invokevirtual', 155)
    refine R_callV v_X1_faultKind (Rd_faultKind ra.1) dX9_load_27 l_RX9_155 rfl rfl ra.1.1 (Nat.le_of_ble_eq_true rfl) (by omega) rfl rfl (fun v h4 hq => ?_)
    obtain ⟨rfl, e9⟩ := hq
    rw [e9]
    refine R_if_eq_N (tgt := 52) dX9_load_30 (by decide) (by omega) (fun c30 => ?_) (fun c30 => ?_)
    -- X9_load: ('branch', 30, 52, 33)
    · refine R_aload_n dX9_load_52 rfl ?_
      refine R_get K_9 (f := 1) (by decide) dX9_load_53 f_RX9_19 x3.1 rfl ?_
      refine R_aload_n dX9_load_56 rfl ?_
      refine R_get K_9 (f := 0) (by decide) dX9_load_57 f_RX9_12 x3.1 rfl ?_
      -- X9_load: ('call', 60, '.invokevirtual', 128)
      refine R_callV v_X4_keep (Past_keep hQ x3.2.1 (by omega)) dX9_load_60 l_RX9_128 rfl rfl hQ.1 (Nat.le_of_ble_eq_true rfl) (by omega) rfl rfl (fun v h5 hq => ?_)
      obtain ⟨rfl, hQ5, o5⟩ := hq
      have x5 := (PPC.of x3).kept hQ hk hQ5 o5
      have ra5 := ra.ag (o5.ag (by omega))
      refine R_aload_n dX9_load_63 rfl ?_
      refine R_get K_9 (f := 0) (by decide) dX9_load_64 f_RX9_12 x5.1 rfl ?_
      refine R_aload_n dX9_load_67 rfl ?_
      refine R_get K_9 (f := 6) (by decide) dX9_load_68 f_RX9_46 x5.1 rfl ?_
      -- X9_load: ('call', 71, '.invokevirtual', 159)
      refine R_callV v_X1_packing (Rd_packing ra5.1) dX9_load_71 l_RX9_159 rfl rfl ra5.1.1 (Nat.le_of_ble_eq_true rfl) (by omega) rfl rfl (fun v h6 hq => ?_)
      obtain ⟨rfl, e9⟩ := hq
      rw [e9]
      refine R_callV v_X2_take (Pack_take x5.2.1 ra5.2 (by omega)) dX9_load_74 l_RX9_162 rfl rfl x5.2.1.1 (Nat.le_of_ble_eq_true rfl) (by omega) rfl rfl (fun v h7 hq => ?_)
      obtain ⟨rfl, hP7, o7⟩ := hq
      have x7 := x5.setPk (q2 := q2) hP7 o7
      refine R_aload_n dX9_load_77 rfl ?_
      refine R_iconst (v := nI 0) dX9_load_78 (by decide) ?_
      refine R_put_A K_9 (f := 11) (by decide) dX9_load_79 f_RX9_71 rfl x7.1 (by rfl) (by rfl) (Nat.le_of_ble_eq_true rfl) ?_
      -- X9_load: ('put', 82)
      intro h8 u8
      have x8 : PPC E h8 X 0 q2 q (pushD ds q) im md tp ph fk fp := x7.setObj (rd2 := 0) u8 x7.2.2.2.2.2.2.1.low
      refine R_aload_n dX9_load_82 rfl ?_
      refine R_iconst (v := nI 0) dX9_load_83 (by decide) ?_
      refine R_iconst (v := (-1)) dX9_load_84 (by decide) ?_
      -- X9_load: ('call', 85, '.invokevirtual', 116)
      refine R_callV v_X9_endTape (PP_endTape x8 (nI 0) (-1)) dX9_load_85 l_RX9_116 rfl rfl x8.1 (Nat.le_of_ble_eq_true rfl) (by omega) rfl rfl (fun v h9 hq => ?_)
      obtain ⟨rfl, x9, o9⟩ := hq
      refine R_aload_n dX9_load_88 rfl ?_
      -- X9_load: ('call', 89, '.invokevirtual', 165)
      refine R_callV v_X9_letterCount (PP_letterCount x9.lo ok2) dX9_load_89 l_RX9_165 rfl rfl x9.1 (Nat.le_of_ble_eq_true rfl) (by omega) rfl rfl (fun v h10 hq => ?_)
      obtain ⟨rfl, x10, o10⟩ := hq
      refine R_ireturn dX9_load_92 rfl rfl ?_
      -- X9_load: ('ret', 92)
      exact ⟨rfl, ⟨_, x10⟩, (((((o3.mono (by omega) (by omega)).trans (o5.mono (by omega) (by omega))).trans (o7.mono (by omega) (by omega))).trans (Out.upd u8 (by omega) (by omega))).trans o9).trans o10⟩
    · exact absurd rfl c30
  · exact absurd c5 (by decide)
end PP10
