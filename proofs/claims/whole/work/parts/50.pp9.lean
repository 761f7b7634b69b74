/-! PAIRPACKER: letters ahead, where, prints, codes, the form, counts -/
def whS (ls : List Nat) (c k : Nat) : Option Nat := fstB (fun j => decide (ls[j]? = some c ∧ (ls.take j).count c = k)) ls.length
def prL (l : List Nat) : Nat := l.foldl (fun v c => (31 * v + c + 1) % 1000003) 0
theorem prL_snoc {l : List Nat} {c : Nat} : prL (l ++ [c]) = (31 * prL l + c + 1) % 1000003 := by rw [prL, List.foldl_append]; rfl
theorem prL_lt : ∀ l : List Nat, prL l < 1000003 := by
  intro l
  rcases List.eq_nil_or_concat l with rfl | ⟨l', c, rfl⟩
  · decide
  · rw [List.concat_eq_append, prL_snoc]; exact Nat.mod_lt _ (by decide)
def cmpI (ls : List Nat) (i j : Nat) : Int32 := if i = j then 0 else if rget ls (nI (i + comN ls i j)) < rget ls (nI (j + comN ls i j)) then 1 else 2
def hitsI (q : Pk) (ph : List Nat) (w : Int32) : Int32 := if w < 0 ∨ nI 2 < w then -2 else if w = nI 2 then nI ph.length else if ph.length = 0 then -5 else if w = 0 then nI (hitsS ph (letL q.2 q.1)) else nI (crossS ph (letL q.2 q.1) (homL q.2 0 q.1))
def codeI (q : Pk) (s : Nat) (w : Int32) : Int32 := if w < 0 ∨ nI 1 < w then -2 else if w = 0 then nI (lnS q.1 s) else if 0 < lnS q.1 s then cdS q.1 s else -1
def rulB (ru : Ru) (s : Nat) : List Nat := s :: (rowOf ru s).length :: rowOf ru s
def formS (q : Pk) : List Nat := (ordS q.2).length :: ((ordS q.2).flatMap (rulB q.2) ++ (q.1.length :: q.1))
theorem count_snoc {l : List Nat} {x c : Nat} : (l ++ [x]).count c = l.count c + if x = c then 1 else 0 := by
  rw [List.count_append, List.count_singleton]
  simp
theorem rulB_len {ru : Ru} (h : ∀ i, i < 60 → (ru i).length ≤ 12) (s : Nat) : (rulB ru s).length ≤ 14 := by
  rw [rulB, List.length_cons, List.length_cons, rowOf]
  split
  · have := h (s - 26) (by omega); omega
  · simp
theorem flat_len {f : Nat → List Nat} {b : Nat} (h : ∀ s, (f s).length ≤ b) : ∀ l : List Nat, (l.flatMap f).length ≤ b * l.length
  | [] => by simp
  | x :: l => by
    rw [List.flatMap_cons, List.length_append, List.length_cons, Nat.mul_add]
    have := flat_len h l
    have := h x
    omega
section PP9
variable {E : EnvT} {h h1 : Hp} {X rd : Nat} {q qc : Pk} {ds : List Pk} {im : Nat → Pk} {md : Nat → Nat} {tp ph : List Nat} {fk fp : Int32}
theorem PP_ahead_no1 {c p : Int32} (hn : ¬ ltI c) : Spec E k_X9_ahead 6 0 0 [.ref X, .int c, .int p] h (fun v h' => v = some (.int (-2)) ∧ h' = h) := by
  refine Spec.of (by decide +kernel) (by simp [Value.category]) (Nat.le_of_ble_eq_true rfl) ?_
  show WP E k_X9_ahead 6 0 0 0 [some (.ref X), some (.int c), some (.int p), none, none] [] h _
  refine R_iload_n dX9_ahead_0 rfl ?_
  -- X9_ahead: ('call', 1, '.invokestatic', 214)
  refine R_callS s_X9_isLetter (isLetter_any c) dX9_ahead_1 l_RX9_214 rfl rfl (Nat.le_of_ble_eq_true rfl) (by omega) rfl rfl (fun v h2 hq => ?_)
  obtain ⟨rfl, e9⟩ := hq
  rw [e9, if_neg hn]
  refine R_if_ne_N (tgt := 10) dX9_ahead_4 (by decide) (by omega) (fun c4 => ?_) (fun c4 => ?_)
  -- X9_ahead: ('branch', 4, 10, 7)
  · exact absurd rfl c4
  · refine R_bipush (v := (-2)) dX9_ahead_7 (by decide) ?_
    refine R_ireturn dX9_ahead_9 rfl rfl ?_
    -- X9_ahead: ('ret', 9)
    exact ⟨rfl, rfl⟩
theorem PP_ahead_no2 (x : PPAt E h X rd q ds im md tp ph fk fp) (hq : PkOk q) {c : Nat} {p : Int32} (hc : c < 26) (hn : ¬ stP (letL q.2 q.1).length p 0) : Spec E k_X9_ahead 6 0 0 [.ref X, .int (nI c), .int p] h (fun v h' => v = some (.int (-5)) ∧ (∃ rd, PPAt E h' X rd q ds im md tp ph fk fp) ∧ Out h h' X (X + 1830)) := by
  have hlen : (letL q.2 q.1).length ≤ 240 := by rw [letL_len]; exact hq.2.2.1
  refine Spec.of (by decide +kernel) (by simp [Value.category]) (Nat.le_of_ble_eq_true rfl) ?_
  show WP E k_X9_ahead 6 0 0 0 [some (.ref X), some (.int (nI c)), some (.int p), none, none] [] h _
  refine R_iload_n dX9_ahead_0 rfl ?_
  -- X9_ahead: ('call', 1, '.invokestatic', 214)
  refine R_callS s_X9_isLetter (isLetter_N (s := c) (by omega)) dX9_ahead_1 l_RX9_214 rfl rfl (Nat.le_of_ble_eq_true rfl) (by omega) rfl rfl (fun v h2 hq => ?_)
  obtain ⟨rfl, e9⟩ := hq
  rw [e9, if_pos hc]
  refine R_if_ne_N (tgt := 10) dX9_ahead_4 (by decide) (by omega) (fun c4 => ?_) (fun c4 => ?_)
  -- X9_ahead: ('branch', 4, 10, 7)
  · refine R_aload_n dX9_ahead_10 rfl ?_
    -- X9_ahead: ('call', 11, '.invokevirtual', 144)
    refine R_callV v_X9_read (PP_read x hq) dX9_ahead_11 l_RX9_144 rfl rfl x.1 (Nat.le_of_ble_eq_true rfl) (by omega) rfl rfl (fun v h3 hq => ?_)
    obtain ⟨rfl, x2, o2⟩ := hq
    obtain ⟨-, lo, la, r⟩ := x2.cach
    by_cases hp : p < 0
    · refine R_iload_n dX9_ahead_14 rfl ?_
      refine R_if_lt (tgt := 29) dX9_ahead_15 (by decide) (fun c15 => ?_) (fun c15 => ?_)
      -- X9_ahead: ('branch', 15, 29, 18)
      · refine R_bipush (v := (-5)) dX9_ahead_29 (by decide) ?_
        refine R_ireturn dX9_ahead_31 rfl rfl ?_
        -- X9_ahead: ('ret', 31)
        exact ⟨rfl, ⟨_, x2⟩, o2⟩
      · exact absurd hp c15
    · obtain ⟨n, hn2, rfl⟩ := nI_of hp
      rw [stP_nI hn2] at hn
      refine R_iload_n dX9_ahead_14 rfl ?_
      refine R_if_lt_N (tgt := 29) dX9_ahead_15 (by decide) (by omega) ?_
      refine R_iload_n dX9_ahead_18 rfl ?_
      refine R_aload_n dX9_ahead_19 rfl ?_
      refine R_get K_9 (f := 10) (by decide) dX9_ahead_20 f_RX9_67 x2.1 rfl ?_
      -- X9_ahead: ('call', 23, '.invokevirtual', 207)
      refine R_callV v_X5_size (Read_size r) dX9_ahead_23 l_RX9_207 rfl rfl r.1 (Nat.le_of_ble_eq_true rfl) (by omega) rfl rfl (fun v h4 hq => ?_)
      obtain ⟨rfl, e9⟩ := hq
      rw [e9]
      refine R_icmp_le_N (tgt := 32) dX9_ahead_26 (by decide) (by omega) (by omega) (fun c26 => ?_) (fun c26 => ?_)
      -- X9_ahead: ('branch', 26, 32, 29)
      · exact absurd c26 (by omega)
      · refine R_bipush (v := (-5)) dX9_ahead_29 (by decide) ?_
        refine R_ireturn dX9_ahead_31 rfl rfl ?_
        -- X9_ahead: ('ret', 31)
        exact ⟨rfl, ⟨_, x2⟩, o2⟩
  · exact absurd c4 (by decide)
theorem PP_ahead (x : PPAt E h X rd q ds im md tp ph fk fp) (hq : PkOk q) {c p : Nat} (hc : c < 26) (hp : p ≤ (letL q.2 q.1).length) : Spec E k_X9_ahead 6 0 0 [.ref X, .int (nI c), .int (nI p)] h (fun v h' => v = some (.int (nI (((letL q.2 q.1).take p).count c))) ∧ (∃ rd, PPAt E h' X rd q ds im md tp ph fk fp) ∧ Out h h' X (X + 1830)) := by
  have hlen : (letL q.2 q.1).length ≤ 240 := by rw [letL_len]; exact hq.2.2.1
  refine Spec.of (by decide +kernel) (by simp [Value.category]) (Nat.le_of_ble_eq_true rfl) ?_
  show WP E k_X9_ahead 6 0 0 0 [some (.ref X), some (.int (nI c)), some (.int (nI p)), none, none] [] h _
  refine R_iload_n dX9_ahead_0 rfl ?_
  -- X9_ahead: ('call', 1, '.invokestatic', 214)
  refine R_callS s_X9_isLetter (isLetter_N (s := c) (by omega)) dX9_ahead_1 l_RX9_214 rfl rfl (Nat.le_of_ble_eq_true rfl) (by omega) rfl rfl (fun v h2 hq => ?_)
  obtain ⟨rfl, e9⟩ := hq
  rw [e9, if_pos hc]
  refine R_if_ne_N (tgt := 10) dX9_ahead_4 (by decide) (by omega) (fun c4 => ?_) (fun c4 => ?_)
  -- X9_ahead: ('branch', 4, 10, 7)
  · refine R_aload_n dX9_ahead_10 rfl ?_
    -- X9_ahead: ('call', 11, '.invokevirtual', 144)
    refine R_callV v_X9_read (PP_read x hq) dX9_ahead_11 l_RX9_144 rfl rfl x.1 (Nat.le_of_ble_eq_true rfl) (by omega) rfl rfl (fun v h3 hq => ?_)
    obtain ⟨rfl, x2, o2⟩ := hq
    obtain ⟨-, lo, la, r⟩ := x2.cach
    have loop : ∀ m t, t + m = p → WP E k_X9_ahead 6 0 0 37 [some (.ref X), some (.int (nI c)), some (.int (nI p)), some (.int (nI (((letL q.2 q.1).take t).count c))), some (.int (nI t))] [] h3 (fun v h' => v = some (.int (nI (((letL q.2 q.1).take p).count c))) ∧ (∃ rd, PPAt E h' X rd q ds im md tp ph fk fp) ∧ Out h h' X (X + 1830)) := by
      intro m
      induction m with
      | zero =>
        intro t ht
        obtain rfl : t = p := by omega
        refine R_iload dX9_ahead_37 rfl ?_
        refine R_iload_n dX9_ahead_39 rfl ?_
        refine R_icmp_ge_N (tgt := 65) dX9_ahead_40 (by decide) (by omega) (by omega) (fun c40 => ?_) (fun c40 => ?_)
        -- X9_ahead: ('branch', 40, 65, 43)
        · refine R_iload_n dX9_ahead_65 rfl ?_
          refine R_ireturn dX9_ahead_66 rfl rfl ?_
          -- X9_ahead: ('ret', 66)
          exact ⟨rfl, ⟨_, x2⟩, o2⟩
        · exact absurd c40 (by omega)
      | succ m ih =>
        intro t ht
        obtain ⟨y, hy⟩ := getE (l := letL q.2 q.1) (i := t) (by omega)
        have hy26 := letL_lt y (List.mem_of_getElem? hy)
        have ih := ih (t + 1) (by omega)
        rw [take_snoc hy, count_snoc] at ih
        refine R_iload dX9_ahead_37 rfl ?_
        refine R_iload_n dX9_ahead_39 rfl ?_
        refine R_icmp_ge_N (tgt := 65) dX9_ahead_40 (by decide) (by omega) (by omega) (fun c40 => ?_) (fun c40 => ?_)
        -- X9_ahead: ('branch', 40, 65, 43)
        · exact absurd c40 (by omega)
        · refine R_aload_n dX9_ahead_43 rfl ?_
          refine R_get K_9 (f := 10) (by decide) dX9_ahead_44 f_RX9_67 x2.1 rfl ?_
          refine R_iload dX9_ahead_47 rfl ?_
          -- X9_ahead: ('call', 49, '.invokevirtual', 208)
          refine R_callV v_X5_letterAt (Read_letterAt r (nI t)) dX9_ahead_49 l_RX9_208 rfl rfl r.1 (Nat.le_of_ble_eq_true rfl) (by omega) rfl rfl (fun v h5 hq => ?_)
          obtain ⟨rfl, e9⟩ := hq
          rw [e9, rget_in (by omega) hy]
          refine R_iload_n dX9_ahead_52 rfl ?_
          refine R_icmp_ne_N (tgt := 59) dX9_ahead_53 (by decide) (by omega) (by omega) (fun c53 => ?_) (fun c53 => ?_)
          -- X9_ahead: ('branch', 53, 59, 56)
          · rw [if_neg c53, Nat.add_zero] at ih
            refine R_iinc4 dX9_ahead_59 (by decide) (nI_inc _ 1) ?_
            refine R_goto (tgt := 37) dX9_ahead_62 (by decide) ?_
            -- X9_ahead: ('stop', 37)
            exact ih
          · rw [if_pos c53] at ih
            refine R_iinc3 dX9_ahead_56 (by decide) (nI_inc _ 1) ?_
            refine R_iinc4 dX9_ahead_59 (by decide) (nI_inc _ 1) ?_
            refine R_goto (tgt := 37) dX9_ahead_62 (by decide) ?_
            -- X9_ahead: ('stop', 37)
            exact ih
    refine R_iload_n dX9_ahead_14 rfl ?_
    refine R_if_lt_N (tgt := 29) dX9_ahead_15 (by decide) (by omega) ?_
    refine R_iload_n dX9_ahead_18 rfl ?_
    refine R_aload_n dX9_ahead_19 rfl ?_
    refine R_get K_9 (f := 10) (by decide) dX9_ahead_20 f_RX9_67 x2.1 rfl ?_
    -- X9_ahead: ('call', 23, '.invokevirtual', 207)
    refine R_callV v_X5_size (Read_size r) dX9_ahead_23 l_RX9_207 rfl rfl r.1 (Nat.le_of_ble_eq_true rfl) (by omega) rfl rfl (fun v h4 hq => ?_)
    obtain ⟨rfl, e9⟩ := hq
    rw [e9]
    refine R_icmp_le_N (tgt := 32) dX9_ahead_26 (by decide) (by omega) (by omega) (fun c26 => ?_) (fun c26 => ?_)
    -- X9_ahead: ('branch', 26, 32, 29)
    · refine R_iconst (v := nI 0) dX9_ahead_32 (by decide) ?_
      refine R_istore3 dX9_ahead_33 (by decide) ?_
      refine R_iconst (v := nI 0) dX9_ahead_34 (by decide) ?_
      refine R_istore4 dX9_ahead_35 (by decide) ?_
      -- X9_ahead: ('stop', 37)
      exact loop p 0 (by omega)
    · exact absurd c26 (by omega)
  · exact absurd c4 (by decide)
theorem PP_where_no1 {c p : Int32} (hn : ¬ ltI c) : Spec E k_X9_where 6 0 0 [.ref X, .int c, .int p] h (fun v h' => v = some (.int (-2)) ∧ h' = h) := by
  refine Spec.of (by decide +kernel) (by simp [Value.category]) (Nat.le_of_ble_eq_true rfl) ?_
  show WP E k_X9_where 6 0 0 0 [some (.ref X), some (.int c), some (.int p), none, none] [] h _
  refine R_iload_n dX9_where_0 rfl ?_
  -- X9_where: ('call', 1, '.invokestatic', 214)
  refine R_callS s_X9_isLetter (isLetter_any c) dX9_where_1 l_RX9_214 rfl rfl (Nat.le_of_ble_eq_true rfl) (by omega) rfl rfl (fun v h2 hq => ?_)
  obtain ⟨rfl, e9⟩ := hq
  rw [e9, if_neg hn]
  refine R_if_ne_N (tgt := 10) dX9_where_4 (by decide) (by omega) (fun c4 => ?_) (fun c4 => ?_)
  -- X9_where: ('branch', 4, 10, 7)
  · exact absurd rfl c4
  · refine R_bipush (v := (-2)) dX9_where_7 (by decide) ?_
    refine R_ireturn dX9_where_9 rfl rfl ?_
    -- X9_where: ('ret', 9)
    exact ⟨rfl, rfl⟩
theorem PP_where_no2 {c p : Int32} (hc : ltI c) (hp : p < 0) : Spec E k_X9_where 6 0 0 [.ref X, .int c, .int p] h (fun v h' => v = some (.int (-3)) ∧ h' = h) := by
  refine Spec.of (by decide +kernel) (by simp [Value.category]) (Nat.le_of_ble_eq_true rfl) ?_
  show WP E k_X9_where 6 0 0 0 [some (.ref X), some (.int c), some (.int p), none, none] [] h _
  refine R_iload_n dX9_where_0 rfl ?_
  -- X9_where: ('call', 1, '.invokestatic', 214)
  refine R_callS s_X9_isLetter (isLetter_any c) dX9_where_1 l_RX9_214 rfl rfl (Nat.le_of_ble_eq_true rfl) (by omega) rfl rfl (fun v h2 hq => ?_)
  obtain ⟨rfl, e9⟩ := hq
  rw [e9, if_pos hc]
  refine R_if_ne_N (tgt := 10) dX9_where_4 (by decide) (by omega) (fun c4 => ?_) (fun c4 => ?_)
  -- X9_where: ('branch', 4, 10, 7)
  · refine R_iload_n dX9_where_10 rfl ?_
    refine R_if_ge (tgt := 17) dX9_where_11 (by decide) (fun c11 => ?_) (fun c11 => ?_)
    -- X9_where: ('branch', 11, 17, 14)
    · exact absurd hp (Int32.not_lt.mpr c11)
    · refine R_bipush (v := (-3)) dX9_where_14 (by decide) ?_
      refine R_ireturn dX9_where_16 rfl rfl ?_
      -- X9_where: ('ret', 16)
      exact ⟨rfl, rfl⟩
  · exact absurd c4 (by decide)
theorem PP_where (x : PPAt E h X rd q ds im md tp ph fk fp) (hq : PkOk q) {c k : Nat} (hc : c < 26) (hk : k < 2 ^ 31) : Spec E k_X9_where 6 0 0 [.ref X, .int (nI c), .int (nI k)] h (fun v h' => v = some (.int (oI 0 (whS (letL q.2 q.1) c k))) ∧ (∃ rd, PPAt E h' X rd q ds im md tp ph fk fp) ∧ Out h h' X (X + 1830)) := by
  have hlen : (letL q.2 q.1).length ≤ 240 := by rw [letL_len]; exact hq.2.2.1
  refine Spec.of (by decide +kernel) (by simp [Value.category]) (Nat.le_of_ble_eq_true rfl) ?_
  show WP E k_X9_where 6 0 0 0 [some (.ref X), some (.int (nI c)), some (.int (nI k)), none, none] [] h _
  refine R_iload_n dX9_where_0 rfl ?_
  -- X9_where: ('call', 1, '.invokestatic', 214)
  refine R_callS s_X9_isLetter (isLetter_N (s := c) (by omega)) dX9_where_1 l_RX9_214 rfl rfl (Nat.le_of_ble_eq_true rfl) (by omega) rfl rfl (fun v h2 hq => ?_)
  obtain ⟨rfl, e9⟩ := hq
  rw [e9, if_pos hc]
  refine R_if_ne_N (tgt := 10) dX9_where_4 (by decide) (by omega) (fun c4 => ?_) (fun c4 => ?_)
  -- X9_where: ('branch', 4, 10, 7)
  · refine R_iload_n dX9_where_10 rfl ?_
    refine R_if_ge_N (tgt := 17) dX9_where_11 (by decide) (by omega) ?_
    refine R_aload_n dX9_where_17 rfl ?_
    -- X9_where: ('call', 18, '.invokevirtual', 144)
    refine R_callV v_X9_read (PP_read x hq) dX9_where_18 l_RX9_144 rfl rfl x.1 (Nat.le_of_ble_eq_true rfl) (by omega) rfl rfl (fun v h3 hq => ?_)
    obtain ⟨rfl, x2, o2⟩ := hq
    obtain ⟨-, lo, la, r⟩ := x2.cach
    have loop : ∀ m t, t + m = (letL q.2 q.1).length → fstB (fun j => decide ((letL q.2 q.1)[j]? = some c ∧ ((letL q.2 q.1).take j).count c = k)) t = none → WP E k_X9_where 6 0 0 26 [some (.ref X), some (.int (nI c)), some (.int (nI k)), some (.int (nI (((letL q.2 q.1).take t).count c))), some (.int (nI t))] [] h3 (fun v h' => v = some (.int (oI 0 (whS (letL q.2 q.1) c k))) ∧ (∃ rd, PPAt E h' X rd q ds im md tp ph fk fp) ∧ Out h h' X (X + 1830)) := by
      intro m
      induction m with
      | zero =>
        intro t ht hf
        obtain rfl : t = (letL q.2 q.1).length := by omega
        refine R_iload dX9_where_26 rfl ?_
        refine R_aload_n dX9_where_28 rfl ?_
        refine R_get K_9 (f := 10) (by decide) dX9_where_29 f_RX9_67 x2.1 rfl ?_
        -- X9_where: ('call', 32, '.invokevirtual', 207)
        refine R_callV v_X5_size (Read_size r) dX9_where_32 l_RX9_207 rfl rfl r.1 (Nat.le_of_ble_eq_true rfl) (by omega) rfl rfl (fun v h4 hq => ?_)
        obtain ⟨rfl, e9⟩ := hq
        rw [e9]
        refine R_icmp_ge_N (tgt := 68) dX9_where_35 (by decide) (by omega) (by omega) (fun c35 => ?_) (fun c35 => ?_)
        -- X9_where: ('branch', 35, 68, 38)
        · refine R_iconst (v := (-1)) dX9_where_68 (by decide) ?_
          refine R_ireturn dX9_where_69 rfl rfl ?_
          -- X9_where: ('ret', 69)
          exact ⟨by rw [whS, hf]; rfl, ⟨_, x2⟩, o2⟩
        · exact absurd c35 (by omega)
      | succ m ih =>
        intro t ht hf
        obtain ⟨y, hy⟩ := getE (l := letL q.2 q.1) (i := t) (by omega)
        have hy26 := letL_lt y (List.mem_of_getElem? hy)
        have hct : ((letL q.2 q.1).take t).count c ≤ 240 := Nat.le_trans (List.count_le_length) (by rw [List.length_take]; omega)
        have ih := ih (t + 1) (by omega)
        rw [take_snoc hy, count_snoc] at ih
        refine R_iload dX9_where_26 rfl ?_
        refine R_aload_n dX9_where_28 rfl ?_
        refine R_get K_9 (f := 10) (by decide) dX9_where_29 f_RX9_67 x2.1 rfl ?_
        -- X9_where: ('call', 32, '.invokevirtual', 207)
        refine R_callV v_X5_size (Read_size r) dX9_where_32 l_RX9_207 rfl rfl r.1 (Nat.le_of_ble_eq_true rfl) (by omega) rfl rfl (fun v h4 hq => ?_)
        obtain ⟨rfl, e9⟩ := hq
        rw [e9]
        refine R_icmp_ge_N (tgt := 68) dX9_where_35 (by decide) (by omega) (by omega) (fun c35 => ?_) (fun c35 => ?_)
        -- X9_where: ('branch', 35, 68, 38)
        · exact absurd c35 (by omega)
        · refine R_aload_n dX9_where_38 rfl ?_
          refine R_get K_9 (f := 10) (by decide) dX9_where_39 f_RX9_67 x2.1 rfl ?_
          refine R_iload dX9_where_42 rfl ?_
          -- X9_where: ('call', 44, '.invokevirtual', 208)
          refine R_callV v_X5_letterAt (Read_letterAt r (nI t)) dX9_where_44 l_RX9_208 rfl rfl r.1 (Nat.le_of_ble_eq_true rfl) (by omega) rfl rfl (fun v h5 hq => ?_)
          obtain ⟨rfl, e9⟩ := hq
          rw [e9, rget_in (by omega) hy]
          refine R_iload_n dX9_where_47 rfl ?_
          refine R_icmp_ne_N (tgt := 62) dX9_where_48 (by decide) (by omega) (by omega) (fun c48 => ?_) (fun c48 => ?_)
          -- X9_where: ('branch', 48, 62, 51)
          · rw [if_neg c48, Nat.add_zero] at ih
            refine R_iinc4 dX9_where_62 (by decide) (nI_inc _ 1) ?_
            refine R_goto (tgt := 26) dX9_where_65 (by decide) ?_
            -- X9_where: ('stop', 26)
            exact ih (fstB_step hf (decide_eq_false (fun z => c48 (by have := z.1; rw [hy] at this; exact Option.some.inj this))))
          · rw [if_pos c48] at ih
            refine R_iload_n dX9_where_51 rfl ?_
            refine R_iload_n dX9_where_52 rfl ?_
            refine R_icmp_ne_N (tgt := 59) dX9_where_53 (by decide) (by omega) (by omega) (fun c53 => ?_) (fun c53 => ?_)
            -- X9_where: ('branch', 53, 59, 56)
            · refine R_iinc3 dX9_where_59 (by decide) (nI_inc _ 1) ?_
              refine R_iinc4 dX9_where_62 (by decide) (nI_inc _ 1) ?_
              refine R_goto (tgt := 26) dX9_where_65 (by decide) ?_
              -- X9_where: ('stop', 26)
              exact ih (fstB_step hf (decide_eq_false (fun z => c53 z.2)))
            · refine R_iload dX9_where_56 rfl ?_
              refine R_ireturn dX9_where_58 rfl rfl ?_
              -- X9_where: ('ret', 58)
              have : whS (letL q.2 q.1) c k = some t := fstB_at hf (decide_eq_true ⟨by rw [hy, c48], c53⟩) (by omega)
              exact ⟨by rw [this]; show _ = some (Value.int (nI (0 + t))); rw [Nat.zero_add], ⟨_, x2⟩, o2⟩
    refine R_iconst (v := nI 0) dX9_where_21 (by decide) ?_
    refine R_istore3 dX9_where_22 (by decide) ?_
    refine R_iconst (v := nI 0) dX9_where_23 (by decide) ?_
    refine R_istore4 dX9_where_24 (by decide) ?_
    -- X9_where: ('stop', 26)
    exact loop (letL q.2 q.1).length 0 (by omega) rfl
  · exact absurd c4 (by decide)
theorem PP_compare (x : PPAt E h X rd q ds im md tp ph fk fp) (hq : PkOk q) (i j : Int32) : Spec E k_X9_compare 6 0 0 [.ref X, .int i, .int j] h (fun v h' => v = some (.int (if hasP (letL q.2 q.1).length i ∧ hasP (letL q.2 q.1).length j then cmpI (letL q.2 q.1) i.toNatClampNeg j.toNatClampNeg else -5)) ∧ (∃ rd, PPAt E h' X rd q ds im md tp ph fk fp) ∧ Out h h' X (X + 1830)) := by
  have hlen : (letL q.2 q.1).length ≤ 240 := by rw [letL_len]; exact hq.2.2.1
  refine Spec.of (by decide +kernel) (by simp [Value.category]) (Nat.le_of_ble_eq_true rfl) ?_
  show WP E k_X9_compare 6 0 0 0 [some (.ref X), some (.int i), some (.int j), none] [] h _
  refine R_aload_n dX9_compare_0 rfl ?_
  -- X9_compare: ('call', 1, '.invokevirtual', 144)
  refine R_callV v_X9_read (PP_read x hq) dX9_compare_1 l_RX9_144 rfl rfl x.1 (Nat.le_of_ble_eq_true rfl) (by omega) rfl rfl (fun v h2 hq => ?_)
  obtain ⟨rfl, x2, o2⟩ := hq
  obtain ⟨-, lo, la, r⟩ := x2.cach
  refine R_aload_n dX9_compare_4 rfl ?_
  refine R_get K_9 (f := 10) (by decide) dX9_compare_5 f_RX9_67 x2.1 rfl ?_
  refine R_iload_n dX9_compare_8 rfl ?_
  -- X9_compare: ('call', 9, '.invokevirtual', 217)
  refine R_callV v_X5_hasPlace (Read_hasPlace_any r i) dX9_compare_9 l_RX9_217 rfl rfl r.1 (Nat.le_of_ble_eq_true rfl) (by omega) rfl rfl (fun v h3 hq => ?_)
  obtain ⟨rfl, e9⟩ := hq
  rw [e9]
  by_cases ci : hasP (letL q.2 q.1).length i
  · rw [if_pos ci]
    refine R_if_eq_N (tgt := 26) dX9_compare_12 (by decide) (by omega) (fun c12 => ?_) (fun c12 => ?_)
    -- X9_compare: ('branch', 12, 26, 15)
    · exact absurd c12 (by decide)
    · refine R_aload_n dX9_compare_15 rfl ?_
      refine R_get K_9 (f := 10) (by decide) dX9_compare_16 f_RX9_67 x2.1 rfl ?_
      refine R_iload_n dX9_compare_19 rfl ?_
      -- X9_compare: ('call', 20, '.invokevirtual', 217)
      refine R_callV v_X5_hasPlace (Read_hasPlace_any r j) dX9_compare_20 l_RX9_217 rfl rfl r.1 (Nat.le_of_ble_eq_true rfl) (by omega) rfl rfl (fun v h4 hq => ?_)
      obtain ⟨rfl, e9⟩ := hq
      rw [e9]
      by_cases cj : hasP (letL q.2 q.1).length j
      · rw [if_pos cj]
        obtain ⟨n, hn, rfl⟩ := nI_of ci.1
        obtain ⟨m, hm, rfl⟩ := nI_of cj.1
        have c1 := ci.2
        have c2 := cj.2
        rw [nI_clamp hn] at c1
        rw [nI_clamp hm] at c2
        rw [if_pos ⟨ci, cj⟩, nI_clamp hn, nI_clamp hm]
        refine R_if_ne_N (tgt := 29) dX9_compare_23 (by decide) (by omega) (fun c23 => ?_) (fun c23 => ?_)
        -- X9_compare: ('branch', 23, 29, 26)
        · refine R_iload_n dX9_compare_29 rfl ?_
          refine R_iload_n dX9_compare_30 rfl ?_
          refine R_icmp_ne_N (tgt := 36) dX9_compare_31 (by decide) (by omega) (by omega) (fun c31 => ?_) (fun c31 => ?_)
          -- X9_compare: ('branch', 31, 36, 34)
          · refine R_aload_n dX9_compare_36 rfl ?_
            refine R_get K_9 (f := 10) (by decide) dX9_compare_37 f_RX9_67 x2.1 rfl ?_
            refine R_iload_n dX9_compare_40 rfl ?_
            refine R_iload_n dX9_compare_41 rfl ?_
            -- X9_compare: ('call', 42, '.invokevirtual', 281)
            refine R_callV v_X5_alikeFrom (Read_alikeFrom r (i := n) (j := m) (by omega) (by omega)) dX9_compare_42 l_RX9_281 rfl rfl r.1 (Nat.le_of_ble_eq_true rfl) (by omega) rfl rfl (fun v h5 hq => ?_)
            obtain ⟨rfl, e9⟩ := hq
            rw [e9]
            refine R_istore3 dX9_compare_45 (by decide) ?_
            refine R_aload_n dX9_compare_46 rfl ?_
            refine R_get K_9 (f := 10) (by decide) dX9_compare_47 f_RX9_67 x2.1 rfl ?_
            refine R_iload_n dX9_compare_50 rfl ?_
            refine R_iload_n dX9_compare_51 rfl ?_
            refine R_iadd_N dX9_compare_52 ?_
            -- X9_compare: ('call', 53, '.invokevirtual', 208)
            refine R_callV v_X5_letterAt (Read_letterAt r (nI (n + comN (letL q.2 q.1) n m))) dX9_compare_53 l_RX9_208 rfl rfl r.1 (Nat.le_of_ble_eq_true rfl) (by omega) rfl rfl (fun v h6 hq => ?_)
            obtain ⟨rfl, e9⟩ := hq
            rw [e9]
            refine R_aload_n dX9_compare_56 rfl ?_
            refine R_get K_9 (f := 10) (by decide) dX9_compare_57 f_RX9_67 x2.1 rfl ?_
            refine R_iload_n dX9_compare_60 rfl ?_
            refine R_iload_n dX9_compare_61 rfl ?_
            refine R_iadd_N dX9_compare_62 ?_
            -- X9_compare: ('call', 63, '.invokevirtual', 208)
            refine R_callV v_X5_letterAt (Read_letterAt r (nI (m + comN (letL q.2 q.1) n m))) dX9_compare_63 l_RX9_208 rfl rfl r.1 (Nat.le_of_ble_eq_true rfl) (by omega) rfl rfl (fun v h7 hq => ?_)
            obtain ⟨rfl, e9⟩ := hq
            rw [e9]
            refine R_icmp_ge (tgt := 73) dX9_compare_66 (by decide) (fun c66 => ?_) (fun c66 => ?_)
            -- X9_compare: ('branch', 66, 73, 69)
            · refine R_iconst (v := nI 2) dX9_compare_73 (by decide) ?_
              refine R_ireturn dX9_compare_74 rfl rfl ?_
              -- X9_compare: ('ret', 74)
              exact ⟨by rw [cmpI, if_neg c31, if_neg (Int32.not_lt.mpr c66)]; rfl, ⟨_, x2⟩, o2⟩
            · refine R_iconst (v := nI 1) dX9_compare_69 (by decide) ?_
              refine R_goto (tgt := 74) dX9_compare_70 (by decide) ?_
              refine R_ireturn dX9_compare_74 rfl rfl ?_
              -- X9_compare: ('ret', 74)
              exact ⟨by rw [cmpI, if_neg c31, if_pos (Int32.not_le.mp c66)]; rfl, ⟨_, x2⟩, o2⟩
          · refine R_iconst (v := nI 0) dX9_compare_34 (by decide) ?_
            refine R_ireturn dX9_compare_35 rfl rfl ?_
            -- X9_compare: ('ret', 35)
            exact ⟨by rw [cmpI, if_pos c31]; rfl, ⟨_, x2⟩, o2⟩
        · exact absurd c23 (by decide)
      · rw [if_neg cj]
        refine R_if_ne_N (tgt := 29) dX9_compare_23 (by decide) (by omega) (fun c23 => ?_) (fun c23 => ?_)
        -- X9_compare: ('branch', 23, 29, 26)
        · exact absurd rfl c23
        · refine R_bipush (v := (-5)) dX9_compare_26 (by decide) ?_
          refine R_ireturn dX9_compare_28 rfl rfl ?_
          -- X9_compare: ('ret', 28)
          exact ⟨by rw [if_neg (fun z => cj z.2)], ⟨_, x2⟩, o2⟩
  · rw [if_neg ci]
    refine R_if_eq_N (tgt := 26) dX9_compare_12 (by decide) (by omega) (fun c12 => ?_) (fun c12 => ?_)
    -- X9_compare: ('branch', 12, 26, 15)
    · refine R_bipush (v := (-5)) dX9_compare_26 (by decide) ?_
      refine R_ireturn dX9_compare_28 rfl rfl ?_
      -- X9_compare: ('ret', 28)
      exact ⟨by rw [if_neg (fun z => ci z.1)], ⟨_, x2⟩, o2⟩
    · exact absurd rfl c12
theorem PP_print_no1 {p n : Int32} (hn : n < 0) : Spec E k_X9_print 7 0 0 [.ref X, .int p, .int n] h (fun v h' => v = some (.int (-3)) ∧ h' = h) := by
  refine Spec.of (by decide +kernel) (by simp [Value.category]) (Nat.le_of_ble_eq_true rfl) ?_
  show WP E k_X9_print 7 0 0 0 [some (.ref X), some (.int p), some (.int n), none, none] [] h _
  refine R_iload_n dX9_print_0 rfl ?_
  refine R_if_ge (tgt := 7) dX9_print_1 (by decide) (fun c1 => ?_) (fun c1 => ?_)
  -- X9_print: ('branch', 1, 7, 4)
  · exact absurd hn (Int32.not_lt.mpr c1)
  · refine R_bipush (v := (-3)) dX9_print_4 (by decide) ?_
    refine R_ireturn dX9_print_6 rfl rfl ?_
    -- X9_print: ('ret', 6)
    exact ⟨rfl, rfl⟩
theorem PP_print_no2 (x : PPAt E h X rd q ds im md tp ph fk fp) (hq : PkOk q) {p : Int32} {n : Nat} (hn : n < 2 ^ 31) (hs : ¬ stP (letL q.2 q.1).length p n) : Spec E k_X9_print 7 0 0 [.ref X, .int p, .int (nI n)] h (fun v h' => v = some (.int (-5)) ∧ (∃ rd, PPAt E h' X rd q ds im md tp ph fk fp) ∧ Out h h' X (X + 1830)) := by
  refine Spec.of (by decide +kernel) (by simp [Value.category]) (Nat.le_of_ble_eq_true rfl) ?_
  show WP E k_X9_print 7 0 0 0 [some (.ref X), some (.int p), some (.int (nI n)), none, none] [] h _
  refine R_iload_n dX9_print_0 rfl ?_
  refine R_if_ge_N (tgt := 7) dX9_print_1 (by decide) (by omega) ?_
  refine R_aload_n dX9_print_7 rfl ?_
  refine R_iload_n dX9_print_8 rfl ?_
  refine R_iload_n dX9_print_9 rfl ?_
  -- X9_print: ('call', 10, '.invokevirtual', 227)
  refine R_callV v_X9_isStretch (PP_isStretch x hq p hn) dX9_print_10 l_RX9_227 rfl rfl x.1 (Nat.le_of_ble_eq_true rfl) (by omega) rfl rfl (fun v h3 hq => ?_)
  obtain ⟨rfl, x2, o2⟩ := hq
  rw [if_neg hs]
  refine R_if_ne_N (tgt := 19) dX9_print_13 (by decide) (by omega) (fun c13 => ?_) (fun c13 => ?_)
  -- X9_print: ('branch', 13, 19, 16)
  · exact absurd rfl c13
  · refine R_bipush (v := (-5)) dX9_print_16 (by decide) ?_
    refine R_ireturn dX9_print_18 rfl rfl ?_
    -- X9_print: ('ret', 18)
    exact ⟨rfl, ⟨_, x2⟩, o2⟩
theorem PP_print (x : PPAt E h X rd q ds im md tp ph fk fp) (hq : PkOk q) {p n : Nat} (hs : p + n ≤ (letL q.2 q.1).length) : Spec E k_X9_print 7 0 0 [.ref X, .int (nI p), .int (nI n)] h (fun v h' => v = some (.int (nI (prL (((letL q.2 q.1).drop p).take n)))) ∧ (∃ rd, PPAt E h' X rd q ds im md tp ph fk fp) ∧ Out h h' X (X + 1830)) := by
  have hlen : (letL q.2 q.1).length ≤ 240 := by rw [letL_len]; exact hq.2.2.1
  refine Spec.of (by decide +kernel) (by simp [Value.category]) (Nat.le_of_ble_eq_true rfl) ?_
  show WP E k_X9_print 7 0 0 0 [some (.ref X), some (.int (nI p)), some (.int (nI n)), none, none] [] h _
  refine R_iload_n dX9_print_0 rfl ?_
  refine R_if_ge_N (tgt := 7) dX9_print_1 (by decide) (by omega) ?_
  refine R_aload_n dX9_print_7 rfl ?_
  refine R_iload_n dX9_print_8 rfl ?_
  refine R_iload_n dX9_print_9 rfl ?_
  -- X9_print: ('call', 10, '.invokevirtual', 227)
  refine R_callV v_X9_isStretch (PP_isStretch x hq (nI p) (m := n) (by omega)) dX9_print_10 l_RX9_227 rfl rfl x.1 (Nat.le_of_ble_eq_true rfl) (by omega) rfl rfl (fun v h3 hq => ?_)
  obtain ⟨rfl, x2, o2⟩ := hq
  rw [if_pos ((stP_nI (by omega)).mpr hs)]
  obtain ⟨-, lo, la, r⟩ := x2.cach
  refine R_if_ne_N (tgt := 19) dX9_print_13 (by decide) (by omega) (fun c13 => ?_) (fun c13 => ?_)
  -- X9_print: ('branch', 13, 19, 16)
  · have loop : ∀ m t, t + m = n → WP E k_X9_print 7 0 0 24 [some (.ref X), some (.int (nI p)), some (.int (nI n)), some (.int (nI (prL (((letL q.2 q.1).drop p).take t)))), some (.int (nI (p + t)))] [] h3 (fun v h' => v = some (.int (nI (prL (((letL q.2 q.1).drop p).take n)))) ∧ (∃ rd, PPAt E h' X rd q ds im md tp ph fk fp) ∧ Out h h' X (X + 1830)) := by
      intro m
      induction m with
      | zero =>
        intro t ht
        obtain rfl : t = n := by omega
        refine R_iload dX9_print_24 rfl ?_
        refine R_iload_n dX9_print_26 rfl ?_
        refine R_iload_n dX9_print_27 rfl ?_
        refine R_iadd_N dX9_print_28 ?_
        refine R_icmp_ge_N (tgt := 59) dX9_print_29 (by decide) (by omega) (by omega) (fun c29 => ?_) (fun c29 => ?_)
        -- X9_print: ('branch', 29, 59, 32)
        · refine R_iload_n dX9_print_59 rfl ?_
          refine R_ireturn dX9_print_60 rfl rfl ?_
          -- X9_print: ('ret', 60)
          exact ⟨rfl, ⟨_, x2⟩, o2⟩
        · exact absurd c29 (by omega)
      | succ m ih =>
        intro t ht
        obtain ⟨y, hy⟩ := getE (l := letL q.2 q.1) (i := p + t) (by omega)
        have hy26 := letL_lt y (List.mem_of_getElem? hy)
        have hd : ((letL q.2 q.1).drop p)[t]? = some y := by rw [List.getElem?_drop]; exact hy
        have ih := ih (t + 1) (by omega)
        rw [take_snoc hd, prL_snoc, ← Nat.add_assoc] at ih
        have hpl := prL_lt (((letL q.2 q.1).drop p).take t)
        generalize prL (((letL q.2 q.1).drop p).take t) = z at *
        refine R_iload dX9_print_24 rfl ?_
        refine R_iload_n dX9_print_26 rfl ?_
        refine R_iload_n dX9_print_27 rfl ?_
        refine R_iadd_N dX9_print_28 ?_
        refine R_icmp_ge_N (tgt := 59) dX9_print_29 (by decide) (by omega) (by omega) (fun c29 => ?_) (fun c29 => ?_)
        -- X9_print: ('branch', 29, 59, 32)
        · exact absurd c29 (by omega)
        · refine R_bipush (v := nI 31) dX9_print_32 (by decide) ?_
          refine R_iload_n dX9_print_34 rfl ?_
          refine R_imul_N dX9_print_35 ?_
          refine R_aload_n dX9_print_36 rfl ?_
          refine R_get K_9 (f := 10) (by decide) dX9_print_37 f_RX9_67 x2.1 rfl ?_
          refine R_iload dX9_print_40 rfl ?_
          -- X9_print: ('call', 42, '.invokevirtual', 208)
          refine R_callV v_X5_letterAt (Read_letterAt r (nI (p + t))) dX9_print_42 l_RX9_208 rfl rfl r.1 (Nat.le_of_ble_eq_true rfl) (by omega) rfl rfl (fun v h5 hq => ?_)
          obtain ⟨rfl, e9⟩ := hq
          rw [e9, rget_in (by omega) hy]
          refine R_iadd_N dX9_print_45 ?_
          refine R_iconst (v := nI 1) dX9_print_46 (by decide) ?_
          refine R_iadd_N dX9_print_47 ?_
          -- X9_print: ('stop', 48)
          refine R_ldcw (v := 1000003) dX9_print_48 ci_RX9_284 ?_
          rw [show (1000003 : Int32) = nI 1000003 from by decide +kernel]
          refine R_irem_N dX9_print_51 (by omega) (by omega) (by omega) ?_
          refine R_istore3 dX9_print_52 (by decide) ?_
          refine R_iinc4 dX9_print_53 (by decide) (nI_inc _ 1) ?_
          refine R_goto (tgt := 24) dX9_print_56 (by decide) ?_
          -- X9_print: ('stop', 24)
          exact ih
    refine R_iconst (v := nI 0) dX9_print_19 (by decide) ?_
    refine R_istore3 dX9_print_20 (by decide) ?_
    refine R_iload_n dX9_print_21 rfl ?_
    refine R_istore4 dX9_print_22 (by decide) ?_
    -- X9_print: ('stop', 24)
    have := loop n 0 (by omega)
    rw [Nat.add_zero] at this
    exact this
  · exact absurd c13 (by decide)
theorem PP_hits (x : PPAt E h X rd q ds im md tp ph fk fp) (hq : PkOk q) (w : Int32) : Spec E k_X9_hits 6 0 0 [.ref X, .int w] h (fun v h' => v = some (.int (hitsI q ph w)) ∧ (∃ rd, PPAt E h' X rd q ds im md tp ph fk fp) ∧ Out h h' X (X + 1830)) := by
  have hp := x.2.2.2.2.2.1
  have hpl := hp.1
  refine Spec.of (by decide +kernel) (by simp [Value.category]) (Nat.le_of_ble_eq_true rfl) ?_
  show WP E k_X9_hits 6 0 0 0 [some (.ref X), some (.int w)] [] h _
  refine R_iload_n dX9_hits_0 rfl ?_
  refine R_if_lt (tgt := 9) dX9_hits_1 (by decide) (fun c1 => ?_) (fun c1 => ?_)
  -- X9_hits: ('branch', 1, 9, 4)
  · refine R_bipush (v := (-2)) dX9_hits_9 (by decide) ?_
    refine R_ireturn dX9_hits_11 rfl rfl ?_
    -- X9_hits: ('ret', 11)
    exact ⟨by rw [hitsI, if_pos (Or.inl c1)], ⟨_, x⟩, Out.refl⟩
  · refine R_iload_n dX9_hits_4 rfl ?_
    refine R_iconst (v := nI 2) dX9_hits_5 (by decide) ?_
    refine R_icmp_le (tgt := 12) dX9_hits_6 (by decide) (fun c6 => ?_) (fun c6 => ?_)
    -- X9_hits: ('branch', 6, 12, 9)
    rotate_left
    · refine R_bipush (v := (-2)) dX9_hits_9 (by decide) ?_
      refine R_ireturn dX9_hits_11 rfl rfl ?_
      -- X9_hits: ('ret', 11)
      exact ⟨by rw [hitsI, if_pos (Or.inr (Int32.not_le.mp c6))], ⟨_, x⟩, Out.refl⟩
    rw [hitsI, if_neg (fun z => z.elim c1 (Int32.not_lt.mpr c6))]
    refine R_iload_n dX9_hits_12 rfl ?_
    refine R_iconst (v := nI 2) dX9_hits_13 (by decide) ?_
    refine R_icmp_ne (tgt := 25) dX9_hits_14 (by decide) (fun c14 => ?_) (fun c14 => ?_)
    -- X9_hits: ('branch', 14, 25, 17)
    · rw [if_neg c14]
      refine R_aload_n dX9_hits_25 rfl ?_
      refine R_get K_9 (f := 5) (by decide) dX9_hits_26 f_RX9_40 x.1 rfl ?_
      -- X9_hits: ('call', 29, '.invokevirtual', 105)
      refine R_callV v_X6_size (Row_size hp) dX9_hits_29 l_RX9_105 rfl rfl hp.2.2.1 (Nat.le_of_ble_eq_true rfl) (by omega) rfl rfl (fun v h2 hq => ?_)
      obtain ⟨rfl, e9⟩ := hq
      rw [e9]
      refine R_if_ne_N (tgt := 38) dX9_hits_32 (by decide) (by omega) (fun c32 => ?_) (fun c32 => ?_)
      -- X9_hits: ('branch', 32, 38, 35)
      · rw [if_neg c32]
        refine R_aload_n dX9_hits_38 rfl ?_
        -- X9_hits: ('call', 39, '.invokevirtual', 144)
        refine R_callV v_X9_read (PP_read x hq) dX9_hits_39 l_RX9_144 rfl rfl x.1 (Nat.le_of_ble_eq_true rfl) (by omega) rfl rfl (fun v h3 hq => ?_)
        obtain ⟨rfl, x2, o2⟩ := hq
        obtain ⟨-, lo, la, r⟩ := x2.cach
        refine R_iload_n dX9_hits_42 rfl ?_
        refine R_if_ne (tgt := 60) dX9_hits_43 (by decide) (fun c43 => ?_) (fun c43 => ?_)
        -- X9_hits: ('branch', 43, 60, 46)
        · rw [if_neg c43]
          refine R_aload_n dX9_hits_60 rfl ?_
          refine R_get K_9 (f := 10) (by decide) dX9_hits_61 f_RX9_67 x2.1 rfl ?_
          refine R_aload_n dX9_hits_64 rfl ?_
          refine R_get K_9 (f := 5) (by decide) dX9_hits_65 f_RX9_40 x2.1 rfl ?_
          -- X9_hits: ('call', 68, '.invokevirtual', 298)
          refine R_callV v_X5_crossingsOf (Read_crossingsOf r (by rw [homL_len, letL_len]) x2.2.2.2.2.2.1) dX9_hits_68 l_RX9_298 rfl rfl r.1 (Nat.le_of_ble_eq_true rfl) (by omega) rfl rfl (fun v h4 hq => ?_)
          obtain ⟨rfl, e9⟩ := hq
          rw [e9]
          refine R_ireturn dX9_hits_71 rfl rfl ?_
          -- X9_hits: ('ret', 71)
          exact ⟨rfl, ⟨_, x2⟩, o2⟩
        · rw [if_pos c43]
          refine R_aload_n dX9_hits_46 rfl ?_
          refine R_get K_9 (f := 10) (by decide) dX9_hits_47 f_RX9_67 x2.1 rfl ?_
          refine R_aload_n dX9_hits_50 rfl ?_
          refine R_get K_9 (f := 5) (by decide) dX9_hits_51 f_RX9_40 x2.1 rfl ?_
          -- X9_hits: ('call', 54, '.invokevirtual', 147)
          refine R_callV v_X5_hitsOf (Read_hitsOf r x2.2.2.2.2.2.1) dX9_hits_54 l_RX9_147 rfl rfl r.1 (Nat.le_of_ble_eq_true rfl) (by omega) rfl rfl (fun v h4 hq => ?_)
          obtain ⟨rfl, e9⟩ := hq
          rw [e9]
          refine R_goto (tgt := 71) dX9_hits_57 (by decide) ?_
          refine R_ireturn dX9_hits_71 rfl rfl ?_
          -- X9_hits: ('ret', 71)
          exact ⟨rfl, ⟨_, x2⟩, o2⟩
      · rw [if_pos c32]
        refine R_bipush (v := (-5)) dX9_hits_35 (by decide) ?_
        refine R_ireturn dX9_hits_37 rfl rfl ?_
        -- X9_hits: ('ret', 37)
        exact ⟨rfl, ⟨_, x⟩, Out.refl⟩
    · rw [if_pos c14]
      refine R_aload_n dX9_hits_17 rfl ?_
      refine R_get K_9 (f := 5) (by decide) dX9_hits_18 f_RX9_40 x.1 rfl ?_
      -- X9_hits: ('call', 21, '.invokevirtual', 105)
      refine R_callV v_X6_size (Row_size hp) dX9_hits_21 l_RX9_105 rfl rfl hp.2.2.1 (Nat.le_of_ble_eq_true rfl) (by omega) rfl rfl (fun v h2 hq => ?_)
      obtain ⟨rfl, e9⟩ := hq
      rw [e9]
      refine R_ireturn dX9_hits_24 rfl rfl ?_
      -- X9_hits: ('ret', 24)
      exact ⟨rfl, ⟨_, x⟩, Out.refl⟩
theorem PP_code_no (x : PPAt E h X rd q ds im md tp ph fk fp) {s w : Int32} (hn : ¬ sgI q.2 s) : Spec E k_X9_code 4 0 0 [.ref X, .int s, .int w] h (fun v h' => v = some (.int (-2)) ∧ h' = h) := by
  have hP := x.2.1
  refine Spec.of (by decide +kernel) (by simp [Value.category]) (Nat.le_of_ble_eq_true rfl) ?_
  show WP E k_X9_code 4 0 0 0 [some (.ref X), some (.int s), some (.int w)] [] h _
  refine R_aload_n dX9_code_0 rfl ?_
  refine R_get K_9 (f := 0) (by decide) dX9_code_1 f_RX9_12 x.1 rfl ?_
  refine R_iload_n dX9_code_4 rfl ?_
  -- X9_code: ('call', 5, '.invokevirtual', 188)
  refine R_callV v_X2_has (Pack_has_any hP s) dX9_code_5 l_RX9_188 rfl rfl hP.1 (Nat.le_of_ble_eq_true rfl) (by omega) rfl rfl (fun v h2 hq => ?_)
  obtain ⟨rfl, e9⟩ := hq
  rw [e9, if_neg hn]
  refine R_if_eq_N (tgt := 20) dX9_code_8 (by decide) (by omega) (fun c8 => ?_) (fun c8 => ?_)
  -- X9_code: ('branch', 8, 20, 11)
  · refine R_bipush (v := (-2)) dX9_code_20 (by decide) ?_
    refine R_ireturn dX9_code_22 rfl rfl ?_
    -- X9_code: ('ret', 22)
    exact ⟨rfl, rfl⟩
  · exact absurd rfl c8
theorem lnS_lt {sq : List Nat} {s : Nat} (h : sq.length < 100000) : lnS sq s < 2 ^ 31 := by
  rw [lnS]
  split
  · show (if some s = lightF (fun s => sq.count s) none 86 then 0 + 1 else 0) < 2 ^ 31
    split <;> decide
  · have h1 := ((cst0_good h).iter (kindsS sq - 1)).2.2 s
    have h2 : kindsS sq ≤ 86 := cntB_le _ _
    omega
theorem PP_code (x : PPAt E h X rd q ds im md tp ph fk fp) (hq : PkOk q) {s : Nat} (hs : isSg q.2 s) (w : Int32) : Spec E k_X9_code 4 0 0 [.ref X, .int (nI s), .int w] h (fun v h' => v = some (.int (codeI q s w)) ∧ (∃ rd, PPAt E h' X rd q ds im md tp ph fk fp) ∧ Out h h' X (X + 1830)) := by
  obtain ⟨w0, gr, gw, ln, cd, l, c⟩ := x.2.2.2.2.2.2.2.2.2.2.2.2.1
  have hP := x.2.1
  have hs86 := isSg_lt hs
  have hrl := x.rows.1
  refine Spec.of (by decide +kernel) (by simp [Value.category]) (Nat.le_of_ble_eq_true rfl) ?_
  show WP E k_X9_code 4 0 0 0 [some (.ref X), some (.int (nI s)), some (.int w)] [] h _
  refine R_aload_n dX9_code_0 rfl ?_
  refine R_get K_9 (f := 0) (by decide) dX9_code_1 f_RX9_12 x.1 rfl ?_
  refine R_iload_n dX9_code_4 rfl ?_
  -- X9_code: ('call', 5, '.invokevirtual', 188)
  refine R_callV v_X2_has (Pack_has hP (s := s) (by omega)) dX9_code_5 l_RX9_188 rfl rfl hP.1 (Nat.le_of_ble_eq_true rfl) (by omega) rfl rfl (fun v h2 hq => ?_)
  obtain ⟨rfl, e9⟩ := hq
  rw [e9, if_pos hs]
  refine R_if_eq_N (tgt := 20) dX9_code_8 (by decide) (by omega) (fun c8 => ?_) (fun c8 => ?_)
  -- X9_code: ('branch', 8, 20, 11)
  · exact absurd c8 (by decide)
  · refine R_iload_n dX9_code_11 rfl ?_
    refine R_if_lt (tgt := 20) dX9_code_12 (by decide) (fun c12 => ?_) (fun c12 => ?_)
    -- X9_code: ('branch', 12, 20, 15)
    · refine R_bipush (v := (-2)) dX9_code_20 (by decide) ?_
      refine R_ireturn dX9_code_22 rfl rfl ?_
      -- X9_code: ('ret', 22)
      exact ⟨by rw [codeI, if_pos (Or.inl c12)], ⟨_, x⟩, Out.refl⟩
    · refine R_iload_n dX9_code_15 rfl ?_
      refine R_iconst (v := nI 1) dX9_code_16 (by decide) ?_
      refine R_icmp_le (tgt := 23) dX9_code_17 (by decide) (fun c17 => ?_) (fun c17 => ?_)
      -- X9_code: ('branch', 17, 23, 20)
      · rw [codeI, if_neg (fun z => z.elim c12 (Int32.not_lt.mpr c17))]
        refine R_aload_n dX9_code_23 rfl ?_
        refine R_get K_9 (f := 16) (by decide) dX9_code_24 f_RX9_98 x.1 rfl ?_
        refine R_aload_n dX9_code_27 rfl ?_
        refine R_get K_9 (f := 0) (by decide) dX9_code_28 f_RX9_12 x.1 rfl ?_
        -- X9_code: ('call', 31, '.invokevirtual', 135)
        refine R_callV v_X2_sequence (Pack_sequence hP) dX9_code_31 l_RX9_135 rfl rfl hP.1 (Nat.le_of_ble_eq_true rfl) (by omega) rfl rfl (fun v h3 hq => ?_)
        obtain ⟨rfl, e9⟩ := hq
        rw [e9]
        refine R_callV v_X0_make (Cod_make c hP.2.1 (by omega)) dX9_code_34 l_RX9_327 rfl rfl c.1 (Nat.le_of_ble_eq_true rfl) (by omega) rfl rfl (fun v h4 hq => ?_)
        obtain ⟨rfl, ⟨gr3, gw3, c3⟩, o3⟩ := hq
        have x3 := x.scr (x.2.2.2.2.2.2.2.cod ⟨_, _, _, _, _, _, c3⟩ (o3.mono (by omega) (by omega))) o3 (by omega)
        refine R_iload_n dX9_code_37 rfl ?_
        refine R_if_ne (tgt := 52) dX9_code_38 (by decide) (fun c38 => ?_) (fun c38 => ?_)
        -- X9_code: ('branch', 38, 52, 41)
        · rw [if_neg c38]
          refine R_aload_n dX9_code_52 rfl ?_
          refine R_get K_9 (f := 16) (by decide) dX9_code_53 f_RX9_98 x3.1 rfl ?_
          refine R_iload_n dX9_code_56 rfl ?_
          -- X9_code: ('call', 57, '.invokevirtual', 333)
          refine R_callV v_X0_codeOf (Cod_codeOf c3 hs86 (lnS_lt (by omega))) dX9_code_57 l_RX9_333 rfl rfl c3.1 (Nat.le_of_ble_eq_true rfl) (by omega) rfl rfl (fun v h5 hq => ?_)
          obtain ⟨rfl, e9⟩ := hq
          rw [e9]
          refine R_ireturn dX9_code_60 rfl rfl ?_
          -- X9_code: ('ret', 60)
          exact ⟨rfl, ⟨_, x3⟩, o3.mono (by omega) (by omega)⟩
        · rw [if_pos c38]
          refine R_aload_n dX9_code_41 rfl ?_
          refine R_get K_9 (f := 16) (by decide) dX9_code_42 f_RX9_98 x3.1 rfl ?_
          refine R_iload_n dX9_code_45 rfl ?_
          -- X9_code: ('call', 46, '.invokevirtual', 330)
          refine R_callV v_X0_lengthOf (Cod_lengthOf c3 (nI s)) dX9_code_46 l_RX9_330 rfl rfl c3.1 (Nat.le_of_ble_eq_true rfl) (by omega) rfl rfl (fun v h5 hq => ?_)
          obtain ⟨rfl, e9⟩ := hq
          rw [e9, rlen_nI (by omega), if_pos hs86]
          refine R_goto (tgt := 60) dX9_code_49 (by decide) ?_
          refine R_ireturn dX9_code_60 rfl rfl ?_
          -- X9_code: ('ret', 60)
          exact ⟨rfl, ⟨_, x3⟩, o3.mono (by omega) (by omega)⟩
      · refine R_bipush (v := (-2)) dX9_code_20 (by decide) ?_
        refine R_ireturn dX9_code_22 rfl rfl ?_
        -- X9_code: ('ret', 22)
        exact ⟨by rw [codeI, if_pos (Or.inr (Int32.not_le.mp c17))], ⟨_, x⟩, Out.refl⟩
theorem PP_writeRow (x : PPAt E h X rd q ds im md tp ph fk fp) {fb : List Nat} (hF : RowAt E h (X + 1576) 1082 fb) {r cap : Nat} {l : List Nat} (hR : RowAt E h r cap l) (hd : r + 2 ≤ X + 1576 ∨ X + 1578 ≤ r) (hl : fb.length + (l.length + 1) ≤ 1082) : Spec E k_X9_writeRow 3 0 0 [.ref X, .ref r] h (fun v h' => v = none ∧ PPAt E h' X rd q ds im md tp ph fk fp ∧ RowAt E h' (X + 1576) 1082 (fb ++ l.length :: l) ∧ Out h h' (X + 1576) (X + 1578)) := by
  have hrl := hR.1
  have hrc := hR.2.1
  refine Spec.of (by decide +kernel) (by simp [Value.category]) (Nat.le_of_ble_eq_true rfl) ?_
  show WP E k_X9_writeRow 3 0 0 0 [some (.ref X), some (.ref r), none] [] h _
  refine R_aload_n dX9_writeRow_0 rfl ?_
  refine R_get K_9 (f := 17) (by decide) dX9_writeRow_1 f_RX9_102 x.1 rfl ?_
  refine R_aload_n dX9_writeRow_4 rfl ?_
  -- X9_writeRow: ('call', 5, '.invokevirtual', 105)
  refine R_callV v_X6_size (Row_size hR) dX9_writeRow_5 l_RX9_105 rfl rfl hR.2.2.1 (Nat.le_of_ble_eq_true rfl) (by omega) rfl rfl (fun v h2 hq => ?_)
  obtain ⟨rfl, e9⟩ := hq
  rw [e9]
  refine R_callV v_X6_add (Row_add hF (x := l.length) (by omega) (by omega)) dX9_writeRow_8 l_RX9_211 rfl rfl hF.2.2.1 (Nat.le_of_ble_eq_true rfl) (by omega) rfl rfl (fun v h3 hq => ?_)
  obtain ⟨rfl, hF3, o3⟩ := hq
  have loop : ∀ m t h2, t + m = l.length → RowAt E h2 (X + 1576) 1082 (fb ++ l.length :: l.take t) → Out h h2 (X + 1576) (X + 1578) → WP E k_X9_writeRow 3 0 0 13 [some (.ref X), some (.ref r), some (.int (nI t))] [] h2 (fun v h' => v = none ∧ PPAt E h' X rd q ds im md tp ph fk fp ∧ RowAt E h' (X + 1576) 1082 (fb ++ l.length :: l) ∧ Out h h' (X + 1576) (X + 1578)) := by
    intro m
    induction m with
    | zero =>
      intro t h2 ht hF2 o2
      have hR2 := hR.out o2 (by omega)
      refine R_iload_n dX9_writeRow_13 rfl ?_
      refine R_aload_n dX9_writeRow_14 rfl ?_
      -- X9_writeRow: ('call', 15, '.invokevirtual', 105)
      refine R_callV v_X6_size (Row_size hR2) dX9_writeRow_15 l_RX9_105 rfl rfl hR2.2.2.1 (Nat.le_of_ble_eq_true rfl) (by omega) rfl rfl (fun v h4 hq => ?_)
      obtain ⟨rfl, e9⟩ := hq
      rw [e9]
      refine R_icmp_ge_N (tgt := 39) dX9_writeRow_18 (by decide) (by omega) (by omega) (fun c18 => ?_) (fun c18 => ?_)
      -- X9_writeRow: ('branch', 18, 39, 21)
      · refine R_return dX9_writeRow_39 rfl ?_
        -- X9_writeRow: ('ret', 39)
        rw [List.take_of_length_le (by omega)] at hF2
        exact ⟨rfl, x.scr (x.2.2.2.2.2.2.2.fb hF2 o2) o2 (by omega), hF2, o2⟩
      · exact absurd c18 (by omega)
    | succ m ih =>
      intro t h2 ht hF2 o2
      have hR2 := hR.out o2 (by omega)
      obtain ⟨y, hy⟩ := getE (l := l) (i := t) (by omega)
      have k2 := (o2.2 X (by omega)).trans x.1
      refine R_iload_n dX9_writeRow_13 rfl ?_
      refine R_aload_n dX9_writeRow_14 rfl ?_
      -- X9_writeRow: ('call', 15, '.invokevirtual', 105)
      refine R_callV v_X6_size (Row_size hR2) dX9_writeRow_15 l_RX9_105 rfl rfl hR2.2.2.1 (Nat.le_of_ble_eq_true rfl) (by omega) rfl rfl (fun v h4 hq => ?_)
      obtain ⟨rfl, e9⟩ := hq
      rw [e9]
      refine R_icmp_ge_N (tgt := 39) dX9_writeRow_18 (by decide) (by omega) (by omega) (fun c18 => ?_) (fun c18 => ?_)
      -- X9_writeRow: ('branch', 18, 39, 21)
      · exact absurd c18 (by omega)
      · refine R_aload_n dX9_writeRow_21 rfl ?_
        refine R_get K_9 (f := 17) (by decide) dX9_writeRow_22 f_RX9_102 k2 rfl ?_
        refine R_aload_n dX9_writeRow_25 rfl ?_
        refine R_iload_n dX9_writeRow_26 rfl ?_
        -- X9_writeRow: ('call', 27, '.invokevirtual', 237)
        refine R_callV v_X6_get (Row_get hR2 (nI t)) dX9_writeRow_27 l_RX9_237 rfl rfl hR2.2.2.1 (Nat.le_of_ble_eq_true rfl) (by omega) rfl rfl (fun v h5 hq => ?_)
        obtain ⟨rfl, e9⟩ := hq
        rw [e9, rget_in (by omega) hy]
        refine R_callV v_X6_add (Row_add hF2 (x := y) (hR.lt hy) (by rw [List.length_append, List.length_cons, List.length_take]; omega)) dX9_writeRow_30 l_RX9_211 rfl rfl hF2.2.2.1 (Nat.le_of_ble_eq_true rfl) (by omega) rfl rfl (fun v h6 hq => ?_)
        obtain ⟨rfl, hF6, o6⟩ := hq
        refine R_iinc2 dX9_writeRow_33 (by decide) (nI_inc _ 1) ?_
        refine R_goto (tgt := 13) dX9_writeRow_36 (by decide) ?_
        -- X9_writeRow: ('stop', 13)
        exact ih (t + 1) h6 (by omega) (by rw [take_snoc hy]; simpa using hF6) (o2.trans o6)
  refine R_iconst (v := nI 0) dX9_writeRow_11 (by decide) ?_
  refine R_istore2 dX9_writeRow_12 (by decide) ?_
  -- X9_writeRow: ('stop', 13)
  exact loop l.length 0 h3 (by omega) hF3 o3
theorem PP_writeForm (x : PPAt E h X rd q ds im md tp ph fk fp) (hq : PkOk q) : Spec E k_X9_writeForm 6 0 0 [.ref X] h (fun v h' => v = none ∧ PPAt E h' X 1 q ds im md tp ph fk fp ∧ RowAt E h' (X + 1576) 1082 (formS q) ∧ Out h h' X (X + 1830)) := by
  have hol := (ordS_good q.2).2.1
  have hrl := x.rows.2
  have hql := x.rows.1
  refine Spec.of (by decide +kernel) (by simp [Value.category]) (Nat.le_of_ble_eq_true rfl) ?_
  show WP E k_X9_writeForm 6 0 0 0 [some (.ref X), none, none] [] h _
  refine R_aload_n dX9_writeForm_0 rfl ?_
  -- X9_writeForm: ('call', 1, '.invokevirtual', 144)
  refine R_callV v_X9_read (PP_read x hq) dX9_writeForm_1 l_RX9_144 rfl rfl x.1 (Nat.le_of_ble_eq_true rfl) (by omega) rfl rfl (fun v h2 hq => ?_)
  obtain ⟨rfl, x2, o2⟩ := hq
  obtain ⟨⟨re, le, w⟩, -⟩ := x2.cach
  obtain ⟨l2, hF⟩ := x2.2.2.2.2.2.2.2.2.2.2.2.2.2
  refine R_aload_n dX9_writeForm_4 rfl ?_
  refine R_get K_9 (f := 17) (by decide) dX9_writeForm_5 f_RX9_102 x2.1 rfl ?_
  -- X9_writeForm: ('call', 8, '.invokevirtual', 143)
  refine R_callV v_X6_clear (Row_clear hF) dX9_writeForm_8 l_RX9_143 rfl rfl hF.2.2.1 (Nat.le_of_ble_eq_true rfl) (by omega) rfl rfl (fun v h3 hq => ?_)
  obtain ⟨rfl, hF3, o3⟩ := hq
  have k3 := (o3.2 X (by omega)).trans x2.1
  have w3 := w.ag (o3.ag (by omega))
  refine R_aload_n dX9_writeForm_11 rfl ?_
  refine R_get K_9 (f := 17) (by decide) dX9_writeForm_12 f_RX9_102 k3 rfl ?_
  refine R_aload_n dX9_writeForm_15 rfl ?_
  refine R_get K_9 (f := 9) (by decide) dX9_writeForm_16 f_RX9_60 k3 rfl ?_
  -- X9_writeForm: ('call', 19, '.invokevirtual', 383)
  refine R_callV v_X8_told (Words_told w3) dX9_writeForm_19 l_RX9_383 rfl rfl w3.1 (Nat.le_of_ble_eq_true rfl) (by omega) rfl rfl (fun v h4 hq => ?_)
  obtain ⟨rfl, e9⟩ := hq
  rw [e9]
  refine R_callV v_X6_add (Row_add hF3 (x := (ordS q.2).length) (by omega) (by decide)) dX9_writeForm_22 l_RX9_211 rfl rfl hF3.2.2.1 (Nat.le_of_ble_eq_true rfl) (by omega) rfl rfl (fun v h5 hq => ?_)
  obtain ⟨rfl, hF5, o5⟩ := hq
  have o35 : Out h2 h5 (X + 1576) (X + 1578) := o3.trans o5
  have x5 : PPAt E h5 X 1 q ds im md tp ph fk fp := x2.scr (x2.2.2.2.2.2.2.2.fb hF5 o35) o35 (by omega)
  have loop : ∀ m t h2 (z : Option Value), t + m = (ordS q.2).length → PPAt E h2 X 1 q ds im md tp ph fk fp → RowAt E h2 (X + 1576) 1082 ((ordS q.2).length :: ((ordS q.2).take t).flatMap (rulB q.2)) → Out h h2 X (X + 1830) → WP E k_X9_writeForm 6 0 0 27 [some (.ref X), some (.int (nI t)), z] [] h2 (fun v h' => v = none ∧ PPAt E h' X 1 q ds im md tp ph fk fp ∧ RowAt E h' (X + 1576) 1082 (formS q) ∧ Out h h' X (X + 1830)) := by
    intro m
    induction m with
    | zero =>
      intro t h2 z ht x2 hF2 o2
      obtain ⟨⟨re, le, w⟩, -⟩ := x2.cach
      have hfl := flat_len (rulB_len hrl) (ordS q.2)
      refine R_iload_n dX9_writeForm_27 rfl ?_
      refine R_aload_n dX9_writeForm_28 rfl ?_
      refine R_get K_9 (f := 9) (by decide) dX9_writeForm_29 f_RX9_60 x2.1 rfl ?_
      -- X9_writeForm: ('call', 32, '.invokevirtual', 383)
      refine R_callV v_X8_told (Words_told w) dX9_writeForm_32 l_RX9_383 rfl rfl w.1 (Nat.le_of_ble_eq_true rfl) (by omega) rfl rfl (fun v h4 hq => ?_)
      obtain ⟨rfl, e9⟩ := hq
      rw [e9]
      refine R_icmp_ge_N (tgt := 73) dX9_writeForm_35 (by decide) (by omega) (by omega) (fun c35 => ?_) (fun c35 => ?_)
      -- X9_writeForm: ('branch', 35, 73, 38)
      · rw [List.take_of_length_le (by omega)] at hF2
        refine R_aload_n dX9_writeForm_73 rfl ?_
        refine R_aload_n dX9_writeForm_74 rfl ?_
        refine R_get K_9 (f := 0) (by decide) dX9_writeForm_75 f_RX9_12 x2.1 rfl ?_
        -- X9_writeForm: ('call', 78, '.invokevirtual', 135)
        refine R_callV v_X2_sequence (Pack_sequence x2.2.1) dX9_writeForm_78 l_RX9_135 rfl rfl x2.2.1.1 (Nat.le_of_ble_eq_true rfl) (by omega) rfl rfl (fun v h5 hq => ?_)
        obtain ⟨rfl, e9⟩ := hq
        rw [e9]
        refine R_callV v_X9_writeRow (PP_writeRow x2 hF2 x2.2.1.2.1 (by omega) (by rw [List.length_cons]; omega)) dX9_writeForm_81 l_RX9_389 rfl rfl x2.1 (Nat.le_of_ble_eq_true rfl) (by omega) rfl rfl (fun v h6 hq => ?_)
        obtain ⟨rfl, x6, hF6, o6⟩ := hq
        refine R_return dX9_writeForm_84 rfl ?_
        -- X9_writeForm: ('ret', 84)
        exact ⟨rfl, x6, hF6, o2.trans (o6.mono (by omega) (by omega))⟩
      · exact absurd c35 (by omega)
    | succ m ih =>
      intro t h2 z ht x2 hF2 o2
      obtain ⟨⟨re, le, w⟩, -⟩ := x2.cach
      obtain ⟨s, hs⟩ := getE (l := ordS q.2) (i := t) (by omega)
      have hsr := (ordS_good q.2).1.rul s (List.mem_of_getElem? hs)
      have h86 := hsr.2.1
      have h26 := hsr.1
      have hfl := flat_len (rulB_len hrl) ((ordS q.2).take t)
      have htl : ((ordS q.2).take t).length = t := by rw [List.length_take]; omega
      have hr12 := hrl (s - 26) (by omega)
      have hrow : (rowOf q.2 s).length ≤ 12 := by rw [rowOf_in ⟨h26, h86⟩]; exact hr12
      refine R_iload_n dX9_writeForm_27 rfl ?_
      refine R_aload_n dX9_writeForm_28 rfl ?_
      refine R_get K_9 (f := 9) (by decide) dX9_writeForm_29 f_RX9_60 x2.1 rfl ?_
      -- X9_writeForm: ('call', 32, '.invokevirtual', 383)
      refine R_callV v_X8_told (Words_told w) dX9_writeForm_32 l_RX9_383 rfl rfl w.1 (Nat.le_of_ble_eq_true rfl) (by omega) rfl rfl (fun v h4 hq => ?_)
      obtain ⟨rfl, e9⟩ := hq
      rw [e9]
      refine R_icmp_ge_N (tgt := 73) dX9_writeForm_35 (by decide) (by omega) (by omega) (fun c35 => ?_) (fun c35 => ?_)
      -- X9_writeForm: ('branch', 35, 73, 38)
      · exact absurd c35 (by omega)
      · refine R_aload_n dX9_writeForm_38 rfl ?_
        refine R_get K_9 (f := 9) (by decide) dX9_writeForm_39 f_RX9_60 x2.1 rfl ?_
        refine R_iload_n dX9_writeForm_42 rfl ?_
        -- X9_writeForm: ('call', 43, '.invokevirtual', 386)
        refine R_callV v_X8_toldAt (Words_toldAt w hs) dX9_writeForm_43 l_RX9_386 rfl rfl w.1 (Nat.le_of_ble_eq_true rfl) (by omega) rfl rfl (fun v h5 hq => ?_)
        obtain ⟨rfl, e9⟩ := hq
        rw [e9]
        refine R_istore2 dX9_writeForm_46 (by decide) ?_
        refine R_aload_n dX9_writeForm_47 rfl ?_
        refine R_get K_9 (f := 17) (by decide) dX9_writeForm_48 f_RX9_102 x2.1 rfl ?_
        refine R_iload_n dX9_writeForm_51 rfl ?_
        -- X9_writeForm: ('call', 52, '.invokevirtual', 211)
        refine R_callV v_X6_add (Row_add hF2 (x := s) (by omega) (by rw [List.length_cons]; omega)) dX9_writeForm_52 l_RX9_211 rfl rfl hF2.2.2.1 (Nat.le_of_ble_eq_true rfl) (by omega) rfl rfl (fun v h6 hq => ?_)
        obtain ⟨rfl, hF6, o6⟩ := hq
        have x6 : PPAt E h6 X 1 q ds im md tp ph fk fp := x2.scr (x2.2.2.2.2.2.2.2.fb hF6 o6) o6 (by omega)
        have hR6 := x6.2.1.row (s := s)
        have hA : rowA (X + 1) s + 2 ≤ X + 127 := by rw [rowA_in ⟨h26, h86⟩]; omega
        refine R_aload_n dX9_writeForm_55 rfl ?_
        refine R_aload_n dX9_writeForm_56 rfl ?_
        refine R_get K_9 (f := 0) (by decide) dX9_writeForm_57 f_RX9_12 x6.1 rfl ?_
        refine R_iload_n dX9_writeForm_60 rfl ?_
        -- X9_writeForm: ('call', 61, '.invokevirtual', 240)
        refine R_callV v_X2_rowOf (Pack_rowOf x6.2.1 (s := s) (by omega)) dX9_writeForm_61 l_RX9_240 rfl rfl x6.2.1.1 (Nat.le_of_ble_eq_true rfl) (by omega) rfl rfl (fun v h7 hq => ?_)
        obtain ⟨rfl, e9⟩ := hq
        rw [e9]
        refine R_callV v_X9_writeRow (PP_writeRow x6 hF6 hR6 (by omega) (by rw [List.length_append, List.length_cons, List.length_singleton]; omega)) dX9_writeForm_64 l_RX9_389 rfl rfl x6.1 (Nat.le_of_ble_eq_true rfl) (by omega) rfl rfl (fun v h8 hq => ?_)
        obtain ⟨rfl, x8, hF8, o8⟩ := hq
        refine R_iinc1 dX9_writeForm_67 (by decide) (nI_inc _ 1) ?_
        refine R_goto (tgt := 27) dX9_writeForm_70 (by decide) ?_
        -- X9_writeForm: ('stop', 27)
        refine ih (t + 1) h8 _ (by omega) x8 ?_ ((o2.trans (o6.mono (by omega) (by omega))).trans (o8.mono (by omega) (by omega)))
        rw [take_snoc hs, List.flatMap_append, List.flatMap_singleton, rulB]
        simpa using hF8
  refine R_iconst (v := nI 0) dX9_writeForm_25 (by decide) ?_
  refine R_istore1 dX9_writeForm_26 (by decide) ?_
  -- X9_writeForm: ('stop', 27)
  exact loop (ordS q.2).length 0 h5 none (by omega) x5 hF5 (o2.trans (o35.mono (by omega) (by omega)))
theorem PP_form_no {i : Int32} (hi : i < 0) : Spec E k_X9_form 7 0 0 [.ref X, .int i] h (fun v h' => v = some (.int (-3)) ∧ h' = h) := by
  refine Spec.of (by decide +kernel) (by simp [Value.category]) (Nat.le_of_ble_eq_true rfl) ?_
  show WP E k_X9_form 7 0 0 0 [some (.ref X), some (.int i)] [] h _
  refine R_iload_n dX9_form_0 rfl ?_
  refine R_if_ge (tgt := 7) dX9_form_1 (by decide) (fun c1 => ?_) (fun c1 => ?_)
  -- X9_form: ('branch', 1, 7, 4)
  · exact absurd hi (Int32.not_lt.mpr c1)
  · refine R_bipush (v := (-3)) dX9_form_4 (by decide) ?_
    refine R_ireturn dX9_form_6 rfl rfl ?_
    -- X9_form: ('ret', 6)
    exact ⟨rfl, rfl⟩
theorem PP_form (x : PPAt E h X rd q ds im md tp ph fk fp) (hq : PkOk q) {i : Nat} (hi : i < 2 ^ 31) : Spec E k_X9_form 7 0 0 [.ref X, .int (nI i)] h (fun v h' => v = some (.int (rget (formS q) (nI i))) ∧ (∃ rd, PPAt E h' X rd q ds im md tp ph fk fp) ∧ Out h h' X (X + 1830)) := by
  refine Spec.of (by decide +kernel) (by simp [Value.category]) (Nat.le_of_ble_eq_true rfl) ?_
  show WP E k_X9_form 7 0 0 0 [some (.ref X), some (.int (nI i))] [] h _
  refine R_iload_n dX9_form_0 rfl ?_
  refine R_if_ge_N (tgt := 7) dX9_form_1 (by decide) (by omega) ?_
  refine R_aload_n dX9_form_7 rfl ?_
  -- X9_form: ('call', 8, '.invokevirtual', 324)
  refine R_callV v_X9_writeForm (PP_writeForm x hq) dX9_form_8 l_RX9_324 rfl rfl x.1 (Nat.le_of_ble_eq_true rfl) (by omega) rfl rfl (fun v h3 hq => ?_)
  obtain ⟨rfl, x2, hF, o2⟩ := hq
  refine R_aload_n dX9_form_11 rfl ?_
  refine R_get K_9 (f := 17) (by decide) dX9_form_12 f_RX9_102 x2.1 rfl ?_
  refine R_iload_n dX9_form_15 rfl ?_
  -- X9_form: ('call', 16, '.invokevirtual', 237)
  refine R_callV v_X6_get (Row_get hF (nI i)) dX9_form_16 l_RX9_237 rfl rfl hF.2.2.1 (Nat.le_of_ble_eq_true rfl) (by omega) rfl rfl (fun v h4 hq => ?_)
  obtain ⟨rfl, e9⟩ := hq
  rw [e9]
  refine R_ireturn dX9_form_19 rfl rfl ?_
  -- X9_form: ('ret', 19)
  exact ⟨rfl, ⟨_, x2⟩, o2⟩
theorem PP_greatestDepth (x : PPAt E h X 1 q ds im md tp ph fk fp) (hq : PkOk q) : Spec E k_X9_greatestDepth 3 0 0 [.ref X] h (fun v h' => v = some (.int (nI (lmax (dpt q.2) q.1))) ∧ h' = h) := by
  obtain ⟨⟨re, le, w⟩, -⟩ := x.cach
  have hP := x.2.1
  have hql := x.rows.1
  refine Spec.of (by decide +kernel) (by simp [Value.category]) (Nat.le_of_ble_eq_true rfl) ?_
  show WP E k_X9_greatestDepth 3 0 0 0 [some (.ref X), none, none] [] h _
  have loop : ∀ m t, t + m = q.1.length → WP E k_X9_greatestDepth 3 0 0 4 [some (.ref X), some (.int (nI (lmax (dpt q.2) (q.1.take t)))), some (.int (nI t))] [] h (fun v h' => v = some (.int (nI (lmax (dpt q.2) q.1))) ∧ h' = h) := by
    intro m
    induction m with
    | zero =>
      intro t ht
      refine R_iload_n dX9_greatestDepth_4 rfl ?_
      refine R_aload_n dX9_greatestDepth_5 rfl ?_
      refine R_get K_9 (f := 0) (by decide) dX9_greatestDepth_6 f_RX9_12 x.1 rfl ?_
      -- X9_greatestDepth: ('call', 9, '.invokevirtual', 135)
      refine R_callV v_X2_sequence (Pack_sequence hP) dX9_greatestDepth_9 l_RX9_135 rfl rfl hP.1 (Nat.le_of_ble_eq_true rfl) (by omega) rfl rfl (fun v h2 hq => ?_)
      obtain ⟨rfl, e9⟩ := hq
      rw [e9]
      refine R_callV v_X6_size (Row_size hP.2.1) dX9_greatestDepth_12 l_RX9_105 rfl rfl hP.2.1.2.2.1 (Nat.le_of_ble_eq_true rfl) (by omega) rfl rfl (fun v h3 hq => ?_)
      obtain ⟨rfl, e9⟩ := hq
      rw [e9]
      refine R_icmp_ge_N (tgt := 47) dX9_greatestDepth_15 (by decide) (by omega) (by omega) (fun c15 => ?_) (fun c15 => ?_)
      -- X9_greatestDepth: ('branch', 15, 47, 18)
      · refine R_iload_n dX9_greatestDepth_47 rfl ?_
        refine R_ireturn dX9_greatestDepth_48 rfl rfl ?_
        -- X9_greatestDepth: ('ret', 48)
        exact ⟨by rw [List.take_of_length_le (by omega)], rfl⟩
      · exact absurd c15 (by omega)
    | succ m ih =>
      intro t ht
      obtain ⟨y, hy⟩ := getE (l := q.1) (i := t) (by omega)
      have hys := hq.2.1 y (List.mem_of_getElem? hy)
      have hmx : lmax (dpt q.2) (q.1.take t) ≤ 60 := lmax_le (fun x _ => dpt_le q.2 x)
      have hyd := dpt_le q.2 y
      have ih := ih (t + 1) (by omega)
      rw [take_snoc hy, lmax_app, lmax, lmax, Nat.max_zero] at ih
      refine R_iload_n dX9_greatestDepth_4 rfl ?_
      refine R_aload_n dX9_greatestDepth_5 rfl ?_
      refine R_get K_9 (f := 0) (by decide) dX9_greatestDepth_6 f_RX9_12 x.1 rfl ?_
      -- X9_greatestDepth: ('call', 9, '.invokevirtual', 135)
      refine R_callV v_X2_sequence (Pack_sequence hP) dX9_greatestDepth_9 l_RX9_135 rfl rfl hP.1 (Nat.le_of_ble_eq_true rfl) (by omega) rfl rfl (fun v h2 hq => ?_)
      obtain ⟨rfl, e9⟩ := hq
      rw [e9]
      refine R_callV v_X6_size (Row_size hP.2.1) dX9_greatestDepth_12 l_RX9_105 rfl rfl hP.2.1.2.2.1 (Nat.le_of_ble_eq_true rfl) (by omega) rfl rfl (fun v h3 hq => ?_)
      obtain ⟨rfl, e9⟩ := hq
      rw [e9]
      refine R_icmp_ge_N (tgt := 47) dX9_greatestDepth_15 (by decide) (by omega) (by omega) (fun c15 => ?_) (fun c15 => ?_)
      -- X9_greatestDepth: ('branch', 15, 47, 18)
      · exact absurd c15 (by omega)
      · refine R_iload_n dX9_greatestDepth_18 rfl ?_
        refine R_aload_n dX9_greatestDepth_19 rfl ?_
        refine R_get K_9 (f := 9) (by decide) dX9_greatestDepth_20 f_RX9_60 x.1 rfl ?_
        refine R_aload_n dX9_greatestDepth_23 rfl ?_
        refine R_get K_9 (f := 0) (by decide) dX9_greatestDepth_24 f_RX9_12 x.1 rfl ?_
        -- X9_greatestDepth: ('call', 27, '.invokevirtual', 135)
        refine R_callV v_X2_sequence (Pack_sequence hP) dX9_greatestDepth_27 l_RX9_135 rfl rfl hP.1 (Nat.le_of_ble_eq_true rfl) (by omega) rfl rfl (fun v h4 hq => ?_)
        obtain ⟨rfl, e9⟩ := hq
        rw [e9]
        refine R_iload_n dX9_greatestDepth_30 rfl ?_
        -- X9_greatestDepth: ('call', 31, '.invokevirtual', 237)
        refine R_callV v_X6_get (Row_get hP.2.1 (nI t)) dX9_greatestDepth_31 l_RX9_237 rfl rfl hP.2.1.2.2.1 (Nat.le_of_ble_eq_true rfl) (by omega) rfl rfl (fun v h5 hq => ?_)
        obtain ⟨rfl, e9⟩ := hq
        rw [e9, rget_in (by omega) hy]
        refine R_callV v_X8_depthOf (Words_dep hq.1 w hys) dX9_greatestDepth_34 l_RX9_247 rfl rfl w.1 (Nat.le_of_ble_eq_true rfl) (by omega) rfl rfl (fun v h6 hq => ?_)
        obtain ⟨rfl, e9⟩ := hq
        rw [e9]
        refine R_callS s_J9_max_7cf53 (J_max (a := lmax (dpt q.2) (q.1.take t)) (b := dpt q.2 y) (by omega) (by omega)) dX9_greatestDepth_37 l_RX9_375 rfl rfl (Nat.le_of_ble_eq_true rfl) (by omega) rfl rfl (fun v h7 hq => ?_)
        obtain ⟨rfl, e9⟩ := hq
        rw [e9]
        refine R_istore1 dX9_greatestDepth_40 (by decide) ?_
        refine R_iinc2 dX9_greatestDepth_41 (by decide) (nI_inc _ 1) ?_
        refine R_goto (tgt := 4) dX9_greatestDepth_44 (by decide) ?_
        -- X9_greatestDepth: ('stop', 4)
        exact ih
  refine R_iconst (v := nI 0) dX9_greatestDepth_0 (by decide) ?_
  refine R_istore1 dX9_greatestDepth_1 (by decide) ?_
  refine R_iconst (v := nI 0) dX9_greatestDepth_2 (by decide) ?_
  refine R_istore2 dX9_greatestDepth_3 (by decide) ?_
  -- X9_greatestDepth: ('stop', 4)
  exact loop q.1.length 0 (by omega)
theorem nodup_cnt {n : Nat} : ∀ {st : List Nat}, st.Nodup → (∀ x ∈ st, x < n) → st.length = cntB (fun p => decide (p ∈ st)) n
  | [], _, _ => by
    rw [cntB_zero (fun j _ => decide_eq_false List.not_mem_nil)]; rfl
  | x :: t, hn, hx => by
    obtain ⟨h1, h2⟩ := List.nodup_cons.mp hn
    have ih := nodup_cnt h2 (fun y hy => hx y (List.mem_cons_of_mem _ hy))
    rw [List.length_cons, ih]
    refine (cntB_ins (x := x) (hx x List.mem_cons_self) (decide_eq_false h1) (decide_eq_true List.mem_cons_self) (fun j _ hj => ?_)).symm
    simp [hj]
/-- unlike pairs -/
def unlS (l : List Nat) : Nat := cntB (fun p => decide (0 < pcf l p)) 7396
theorem TalAt.len {T : Nat} {l st : List Nat} (t : TalAt E h T l st) : st.length = unlS l := by
  rw [nodup_cnt (n := 7396) t.2.1 (fun x hx => ((t.2.2 x).mp hx).1), unlS]
  refine cntB_ext (fun j hj => ?_)
  by_cases c : j ∈ st
  · rw [decide_eq_true c, decide_eq_true ((t.2.2 j).mp c).2]
  · rw [decide_eq_false c, decide_eq_false (fun z => c ((t.2.2 j).mpr ⟨hj, z⟩))]
def bitsS (l : List Nat) : Nat := sumB (fun s => l.count s * lnS l s) 86
def countI (q : Pk) (ds : List Pk) (tp : List Nat) (w : Int32) : Int32 := if w = nI 0 then nI (letL q.2 q.1).length else if w = nI 1 then nI q.1.length else if w = nI 2 then nI (rulesS q.2) else if w = nI 3 then nI (sizeS q.1 q.2) else if w = nI 4 then nI (lmax (dpt q.2) q.1) else if w = nI 5 then nI tp.length else if w = nI 6 then nI ds.length else if w = nI 7 then nI (unlS q.1) else if w = nI 8 then oI 26 (freeS q.2) else if w = nI 9 then nI (formS q).length else if w = nI 10 then nI (bitsS q.1) else -1
theorem PP_count (x : PPAt E h X rd q ds im md tp ph fk fp) (hq : PkOk q) (w : Int32) : Spec E k_X9_count 7 0 0 [.ref X, .int w] h (fun v h' => v = some (.int (countI q ds tp w)) ∧ (∃ rd, PPAt E h' X rd q ds im md tp ph fk fp) ∧ Out h h' X (X + 1830)) := by
  have h86 : ∀ y ∈ q.1, y < 86 := fun y hy => isSg_lt (hq.2.1 y hy)
  refine Spec.of (by decide +kernel) (by simp [Value.category]) (Nat.le_of_ble_eq_true rfl) ?_
  show WP E k_X9_count 7 0 0 0 [some (.ref X), some (.int w)] [] h _
  refine R_aload_n dX9_count_0 rfl ?_
  -- X9_count: ('call', 1, '.invokevirtual', 144)
  refine R_callV v_X9_read (PP_read x hq) dX9_count_1 l_RX9_144 rfl rfl x.1 (Nat.le_of_ble_eq_true rfl) (by omega) rfl rfl (fun v h3 hq => ?_)
  obtain ⟨rfl, x2, o2⟩ := hq
  obtain ⟨⟨re, le, ww⟩, lo, la, r⟩ := x2.cach
  have hP := x2.2.1
  have fin : (∃ rd, PPAt E h3 X rd q ds im md tp ph fk fp) ∧ Out h h3 X (X + 1830) := ⟨⟨_, x2⟩, o2⟩
  by_cases hw : ¬ w.toInt < 0 ∧ ¬ ((10 : Nat) : Int) < w.toInt
  · obtain ⟨k, hk, rfl⟩ := I32_small hw.1 hw.2
    refine R_iload_n dX9_count_4 rfl ?_
    -- X9_count: ('op', 5, '.tableswitch 179 0 10 #[59, 67, 78, 86, 94, 99, 107, 115, 137, 145, 157]')
    rcases (show k = 0 ∨ k = 1 ∨ k = 2 ∨ k = 3 ∨ k = 4 ∨ k = 5 ∨ k = 6 ∨ k = 7 ∨ k = 8 ∨ k = 9 ∨ k = 10 by omega) with rfl | rfl | rfl | rfl | rfl | rfl | rfl | rfl | rfl | rfl | rfl
    · refine R_tableIn (off := 59) (tgt := 64) dX9_count_5 (by decide) (by decide) rfl (by decide) ?_
      refine R_aload_n dX9_count_64 rfl ?_
      refine R_get K_9 (f := 10) (by decide) dX9_count_65 f_RX9_67 x2.1 rfl ?_
      -- X9_count: ('call', 68, '.invokevirtual', 207)
      refine R_callV v_X5_size (Read_size r) dX9_count_68 l_RX9_207 rfl rfl r.1 (Nat.le_of_ble_eq_true rfl) (by omega) rfl rfl (fun v h4 hq => ?_)
      obtain ⟨rfl, e9⟩ := hq
      rw [e9]
      refine R_ireturn dX9_count_71 rfl rfl ?_
      -- X9_count: ('ret', 71)
      exact ⟨rfl, fin⟩
    · refine R_tableIn (off := 67) (tgt := 72) dX9_count_5 (by decide) (by decide) rfl (by decide) ?_
      refine R_aload_n dX9_count_72 rfl ?_
      refine R_get K_9 (f := 0) (by decide) dX9_count_73 f_RX9_12 x2.1 rfl ?_
      -- X9_count: ('call', 76, '.invokevirtual', 135)
      refine R_callV v_X2_sequence (Pack_sequence hP) dX9_count_76 l_RX9_135 rfl rfl hP.1 (Nat.le_of_ble_eq_true rfl) (by omega) rfl rfl (fun v h4 hq => ?_)
      obtain ⟨rfl, e9⟩ := hq
      rw [e9]
      refine R_callV v_X6_size (Row_size hP.2.1) dX9_count_79 l_RX9_105 rfl rfl hP.2.1.2.2.1 (Nat.le_of_ble_eq_true rfl) (by omega) rfl rfl (fun v h5 hq => ?_)
      obtain ⟨rfl, e9⟩ := hq
      rw [e9]
      refine R_ireturn dX9_count_82 rfl rfl ?_
      -- X9_count: ('ret', 82)
      exact ⟨rfl, fin⟩
    · refine R_tableIn (off := 78) (tgt := 83) dX9_count_5 (by decide) (by decide) rfl (by decide) ?_
      refine R_aload_n dX9_count_83 rfl ?_
      refine R_get K_9 (f := 0) (by decide) dX9_count_84 f_RX9_12 x2.1 rfl ?_
      -- X9_count: ('call', 87, '.invokevirtual', 347)
      refine R_callV v_X2_ruleCount (Pack_ruleCount hP) dX9_count_87 l_RX9_347 rfl rfl hP.1 (Nat.le_of_ble_eq_true rfl) (by omega) rfl rfl (fun v h4 hq => ?_)
      obtain ⟨rfl, e9⟩ := hq
      rw [e9]
      refine R_ireturn dX9_count_90 rfl rfl ?_
      -- X9_count: ('ret', 90)
      exact ⟨rfl, fin⟩
    · refine R_tableIn (off := 86) (tgt := 91) dX9_count_5 (by decide) (by decide) rfl (by decide) ?_
      refine R_aload_n dX9_count_91 rfl ?_
      refine R_get K_9 (f := 0) (by decide) dX9_count_92 f_RX9_12 x2.1 rfl ?_
      -- X9_count: ('call', 95, '.invokevirtual', 203)
      refine R_callV v_X2_size (Pack_size hP) dX9_count_95 l_RX9_203 rfl rfl hP.1 (Nat.le_of_ble_eq_true rfl) (by omega) rfl rfl (fun v h4 hq => ?_)
      obtain ⟨rfl, e9⟩ := hq
      rw [e9]
      refine R_ireturn dX9_count_98 rfl rfl ?_
      -- X9_count: ('ret', 98)
      exact ⟨rfl, fin⟩
    · refine R_tableIn (off := 94) (tgt := 99) dX9_count_5 (by decide) (by decide) rfl (by decide) ?_
      refine R_aload_n dX9_count_99 rfl ?_
      -- X9_count: ('call', 100, '.invokevirtual', 350)
      refine R_callV v_X9_greatestDepth (PP_greatestDepth x2 hq) dX9_count_100 l_RX9_350 rfl rfl x2.1 (Nat.le_of_ble_eq_true rfl) (by omega) rfl rfl (fun v h4 hq => ?_)
      obtain ⟨rfl, e9⟩ := hq
      rw [e9]
      refine R_ireturn dX9_count_103 rfl rfl ?_
      -- X9_count: ('ret', 103)
      exact ⟨rfl, fin⟩
    · refine R_tableIn (off := 99) (tgt := 104) dX9_count_5 (by decide) (by decide) rfl (by decide) ?_
      have ht := x2.2.2.2.2.1
      refine R_aload_n dX9_count_104 rfl ?_
      refine R_get K_9 (f := 4) (by decide) dX9_count_105 f_RX9_36 x2.1 rfl ?_
      -- X9_count: ('call', 108, '.invokevirtual', 105)
      refine R_callV v_X6_size (Row_size ht) dX9_count_108 l_RX9_105 rfl rfl ht.2.2.1 (Nat.le_of_ble_eq_true rfl) (by omega) rfl rfl (fun v h4 hq => ?_)
      obtain ⟨rfl, e9⟩ := hq
      rw [e9]
      refine R_ireturn dX9_count_111 rfl rfl ?_
      -- X9_count: ('ret', 111)
      exact ⟨rfl, fin⟩
    · refine R_tableIn (off := 107) (tgt := 112) dX9_count_5 (by decide) (by decide) rfl (by decide) ?_
      obtain ⟨nx, ks, hQ, hk⟩ := id x2.2.2.1
      refine R_aload_n dX9_count_112 rfl ?_
      refine R_get K_9 (f := 1) (by decide) dX9_count_113 f_RX9_19 x2.1 rfl ?_
      -- X9_count: ('call', 116, '.invokevirtual', 339)
      refine R_callV v_X4_size (Past_size hQ) dX9_count_116 l_RX9_339 rfl rfl hQ.1 (Nat.le_of_ble_eq_true rfl) (by omega) rfl rfl (fun v h4 hq => ?_)
      obtain ⟨rfl, e9⟩ := hq
      rw [e9]
      refine R_ireturn dX9_count_119 rfl rfl ?_
      -- X9_count: ('ret', 119)
      exact ⟨rfl, fin⟩
    · refine R_tableIn (off := 115) (tgt := 120) dX9_count_5 (by decide) (by decide) rfl (by decide) ?_
      have t := x2.2.2.2.2.2.2.2.2.2.2.1
      refine R_aload_n dX9_count_120 rfl ?_
      refine R_get K_9 (f := 14) (by decide) dX9_count_121 f_RX9_84 x2.1 rfl ?_
      refine R_aload_n dX9_count_124 rfl ?_
      refine R_get K_9 (f := 0) (by decide) dX9_count_125 f_RX9_12 x2.1 rfl ?_
      -- X9_count: ('call', 128, '.invokevirtual', 135)
      refine R_callV v_X2_sequence (Pack_sequence hP) dX9_count_128 l_RX9_135 rfl rfl hP.1 (Nat.le_of_ble_eq_true rfl) (by omega) rfl rfl (fun v h4 hq => ?_)
      obtain ⟨rfl, e9⟩ := hq
      rw [e9]
      refine R_callV v_X3_tally (PT_tally t hP.2.1 h86 hP.2.1.1 (by omega)) dX9_count_131 l_RX9_168 rfl rfl t.choose_spec.choose_spec.1.1 (Nat.le_of_ble_eq_true rfl) (by omega) rfl rfl (fun v h5 hq => ?_)
      obtain ⟨rfl, ⟨st, t3⟩, o3⟩ := hq
      have x3 := x2.scr (x2.2.2.2.2.2.2.2.pt t3.any o3) o3 (by omega)
      refine R_aload_n dX9_count_134 rfl ?_
      refine R_get K_9 (f := 14) (by decide) dX9_count_135 f_RX9_84 x3.1 rfl ?_
      -- X9_count: ('call', 138, '.invokevirtual', 353)
      refine R_callV v_X3_kinds (PT_kinds t3.1) dX9_count_138 l_RX9_353 rfl rfl t3.1.1 (Nat.le_of_ble_eq_true rfl) (by omega) rfl rfl (fun v h6 hq => ?_)
      obtain ⟨rfl, e9⟩ := hq
      rw [e9, t3.len]
      refine R_ireturn dX9_count_141 rfl rfl ?_
      -- X9_count: ('ret', 141)
      exact ⟨rfl, ⟨_, x3⟩, o2.trans (o3.mono (by omega) (by omega))⟩
    · refine R_tableIn (off := 137) (tgt := 142) dX9_count_5 (by decide) (by decide) rfl (by decide) ?_
      refine R_aload_n dX9_count_142 rfl ?_
      refine R_get K_9 (f := 0) (by decide) dX9_count_143 f_RX9_12 x2.1 rfl ?_
      -- X9_count: ('call', 146, '.invokevirtual', 356)
      refine R_callV v_X2_freeSign (Pack_freeSign hP) dX9_count_146 l_RX9_356 rfl rfl hP.1 (Nat.le_of_ble_eq_true rfl) (by omega) rfl rfl (fun v h4 hq => ?_)
      obtain ⟨rfl, e9⟩ := hq
      rw [e9]
      refine R_ireturn dX9_count_149 rfl rfl ?_
      -- X9_count: ('ret', 149)
      exact ⟨rfl, fin⟩
    · refine R_tableIn (off := 145) (tgt := 150) dX9_count_5 (by decide) (by decide) rfl (by decide) ?_
      refine R_aload_n dX9_count_150 rfl ?_
      -- X9_count: ('call', 151, '.invokevirtual', 324)
      refine R_callV v_X9_writeForm (PP_writeForm x2 hq) dX9_count_151 l_RX9_324 rfl rfl x2.1 (Nat.le_of_ble_eq_true rfl) (by omega) rfl rfl (fun v h4 hq => ?_)
      obtain ⟨rfl, x4, hF, o4⟩ := hq
      refine R_aload_n dX9_count_154 rfl ?_
      refine R_get K_9 (f := 17) (by decide) dX9_count_155 f_RX9_102 x4.1 rfl ?_
      -- X9_count: ('call', 158, '.invokevirtual', 105)
      refine R_callV v_X6_size (Row_size hF) dX9_count_158 l_RX9_105 rfl rfl hF.2.2.1 (Nat.le_of_ble_eq_true rfl) (by omega) rfl rfl (fun v h5 hq => ?_)
      obtain ⟨rfl, e9⟩ := hq
      rw [e9]
      refine R_ireturn dX9_count_161 rfl rfl ?_
      -- X9_count: ('ret', 161)
      exact ⟨rfl, ⟨_, x4⟩, o2.trans o4⟩
    · refine R_tableIn (off := 157) (tgt := 162) dX9_count_5 (by decide) (by decide) rfl (by decide) ?_
      obtain ⟨w0, gr, gw, ln, cd, l, c⟩ := x2.2.2.2.2.2.2.2.2.2.2.2.2.1
      refine R_aload_n dX9_count_162 rfl ?_
      refine R_get K_9 (f := 16) (by decide) dX9_count_163 f_RX9_98 x2.1 rfl ?_
      refine R_aload_n dX9_count_166 rfl ?_
      refine R_get K_9 (f := 0) (by decide) dX9_count_167 f_RX9_12 x2.1 rfl ?_
      -- X9_count: ('call', 170, '.invokevirtual', 135)
      refine R_callV v_X2_sequence (Pack_sequence hP) dX9_count_170 l_RX9_135 rfl rfl hP.1 (Nat.le_of_ble_eq_true rfl) (by omega) rfl rfl (fun v h4 hq => ?_)
      obtain ⟨rfl, e9⟩ := hq
      rw [e9]
      refine R_callV v_X0_make (Cod_make c hP.2.1 (by omega)) dX9_count_173 l_RX9_327 rfl rfl c.1 (Nat.le_of_ble_eq_true rfl) (by omega) rfl rfl (fun v h5 hq => ?_)
      obtain ⟨rfl, ⟨gr3, gw3, c3⟩, o3⟩ := hq
      have x3 := x2.scr (x2.2.2.2.2.2.2.2.cod ⟨_, _, _, _, _, _, c3⟩ (o3.mono (by omega) (by omega))) o3 (by omega)
      refine R_aload_n dX9_count_176 rfl ?_
      refine R_get K_9 (f := 16) (by decide) dX9_count_177 f_RX9_98 x3.1 rfl ?_
      -- X9_count: ('call', 180, '.invokevirtual', 359)
      refine R_callV v_X0_allBits (Cod_allBits c3) dX9_count_180 l_RX9_359 rfl rfl c3.1 (Nat.le_of_ble_eq_true rfl) (by omega) rfl rfl (fun v h6 hq => ?_)
      obtain ⟨rfl, e9⟩ := hq
      rw [e9]
      refine R_ireturn dX9_count_183 rfl rfl ?_
      -- X9_count: ('ret', 183)
      exact ⟨rfl, ⟨_, x3⟩, o2.trans (o3.mono (by omega) (by omega))⟩
  · have hw2 : w.toInt < 0 ∨ (10 : Int) < w.toInt := by
      by_cases z : w.toInt < 0
      · exact Or.inl z
      · exact Or.inr (by have := Classical.not_not.mp (fun y => hw ⟨z, y⟩); omega)
    have ne : ∀ k : Nat, k ≤ 10 → ¬ w = nI k := by
      rintro k hk rfl
      rw [nI_toInt (by omega)] at hw2; omega
    refine R_iload_n dX9_count_4 rfl ?_
    -- X9_count: ('op', 5, '.tableswitch 179 0 10 #[59, 67, 78, 86, 94, 99, 107, 115, 137, 145, 157]')
    refine R_tableOut (tgt := 184) dX9_count_5 hw2 (by decide) ?_
    refine R_iconst (v := (-1)) dX9_count_184 (by decide) ?_
    refine R_ireturn dX9_count_185 rfl rfl ?_
    -- X9_count: ('ret', 185)
    exact ⟨by rw [countI, if_neg (ne 0 (by omega)), if_neg (ne 1 (by omega)), if_neg (ne 2 (by omega)), if_neg (ne 3 (by omega)), if_neg (ne 4 (by omega)), if_neg (ne 5 (by omega)), if_neg (ne 6 (by omega)), if_neg (ne 7 (by omega)), if_neg (ne 8 (by omega)), if_neg (ne 9 (by omega)), if_neg (ne 10 (by omega))], fin⟩
end PP9
