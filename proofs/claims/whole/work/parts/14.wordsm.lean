/-! WORDS: letters, depths, order, learnt off the rules; the way down to a letter -/
section MATHJ
variable {E : EnvT} {h : Hp}
theorem J_max {a b : Nat} (ha : a < 2 ^ 31) (hb : b < 2 ^ 31) : Spec E k_J9_max_7cf53 1 0 0 [.int (nI a), .int (nI b)] h (fun v h' => v = some (.int (nI (max a b))) ∧ h' = h) := by
  refine Spec.of (by decide +kernel) (by simp [Value.category]) (Nat.le_of_ble_eq_true rfl) ?_
  show WP E k_J9_max_7cf53 1 0 0 0 [some (.int (nI a)), some (.int (nI b))] [] h _
  refine R_iload_n dJ9_max_7cf53_0 rfl ?_
  refine R_iload_n dJ9_max_7cf53_1 rfl ?_
  refine R_icmp_lt_N (tgt := 9) dJ9_max_7cf53_2 (by decide) (by omega) (by omega) (fun c2 => ?_) (fun c2 => ?_)
  -- J9_max_7cf53: ('branch', 2, 9, 5)
  · refine R_iload_n dJ9_max_7cf53_9 rfl ?_
    refine R_ireturn dJ9_max_7cf53_10 rfl rfl ?_
    -- J9_max_7cf53: ('ret', 10)
    exact ⟨by rw [Nat.max_eq_right (by omega)], rfl⟩
  · refine R_iload_n dJ9_max_7cf53_5 rfl ?_
    refine R_goto (tgt := 10) dJ9_max_7cf53_6 (by decide) ?_
    refine R_ireturn dJ9_max_7cf53_10 rfl rfl ?_
    -- J9_max_7cf53: ('ret', 10)
    exact ⟨by rw [Nat.max_eq_left (by omega)], rfl⟩
theorem J_min {a b : Nat} (ha : a < 2 ^ 31) (hb : b < 2 ^ 31) : Spec E k_J9_min_7cf53 1 0 0 [.int (nI a), .int (nI b)] h (fun v h' => v = some (.int (nI (min a b))) ∧ h' = h) := by
  refine Spec.of (by decide +kernel) (by simp [Value.category]) (Nat.le_of_ble_eq_true rfl) ?_
  show WP E k_J9_min_7cf53 1 0 0 0 [some (.int (nI a)), some (.int (nI b))] [] h _
  refine R_iload_n dJ9_min_7cf53_0 rfl ?_
  refine R_iload_n dJ9_min_7cf53_1 rfl ?_
  refine R_icmp_gt_N (tgt := 9) dJ9_min_7cf53_2 (by decide) (by omega) (by omega) (fun c2 => ?_) (fun c2 => ?_)
  -- J9_min_7cf53: ('branch', 2, 9, 5)
  · refine R_iload_n dJ9_min_7cf53_9 rfl ?_
    refine R_ireturn dJ9_min_7cf53_10 rfl rfl ?_
    -- J9_min_7cf53: ('ret', 10)
    exact ⟨by rw [Nat.min_eq_right (by omega)], rfl⟩
  · refine R_iload_n dJ9_min_7cf53_5 rfl ?_
    refine R_goto (tgt := 10) dJ9_min_7cf53_6 (by decide) ?_
    refine R_ireturn dJ9_min_7cf53_10 rfl rfl ?_
    -- J9_min_7cf53: ('ret', 10)
    exact ⟨by rw [Nat.min_eq_left (by omega)], rfl⟩
end MATHJ
def letT (ru : Ru) (T : List Nat) (s : Nat) : Nat := if s < 26 then 1 else if s ∈ T then wlen ru s else 0
def depT (ru : Ru) (T : List Nat) (s : Nat) : Nat := if s ∈ T then dpt ru s else 0
def WordsT (E : EnvT) (h : Hp) (W : Nat) (ru : Ru) (T : List Nat) (re le : Int32) : Prop :=
  h.2 W = some (.inr (8, [.ref (W + 1), .ref (W + 2), .ref (W + 3), .int re, .int le])) ∧ (∃ f, h.2 (W + 1) = some (.inl (E.2.2.1 0, 86, .inl f)) ∧ ∀ s, s < 86 → f s = nI (letT ru T s)) ∧ (∃ g, h.2 (W + 2) = some (.inl (E.2.2.1 0, 86, .inl g)) ∧ ∀ s, s < 86 → g s = nI (depT ru T s)) ∧ RowAt E h (W + 3) 60 T
/-- Words at W, whatever it holds -/
def WordsAny (E : EnvT) (h : Hp) (W : Nat) : Prop := ∃ (re le : Int32) (f g : Nat → Int32) (T : List Nat), h.2 W = some (.inr (8, [.ref (W + 1), .ref (W + 2), .ref (W + 3), .int re, .int le])) ∧ h.2 (W + 1) = some (.inl (E.2.2.1 0, 86, .inl f)) ∧ h.2 (W + 2) = some (.inl (E.2.2.1 0, 86, .inl g)) ∧ RowAt E h (W + 3) 60 T
theorem WordsT.any {E : EnvT} {h : Hp} {W : Nat} {ru : Ru} {T : List Nat} {re le : Int32} (x : WordsT E h W ru T re le) : WordsAny E h W := by
  obtain ⟨a, ⟨f, b, -⟩, ⟨g, c, -⟩, d⟩ := x
  exact ⟨re, le, f, g, T, a, b, c, d⟩
theorem WordsT.out {E : EnvT} {h h1 : Hp} {W a b : Nat} {ru : Ru} {T : List Nat} {re le : Int32} (x : WordsT E h W ru T re le) (o : Out h h1 a b) (hd : W + 5 ≤ a ∨ b ≤ W) : WordsT E h1 W ru T re le := by
  obtain ⟨h1, ⟨f, h2, h2'⟩, ⟨g, h3, h3'⟩, h4⟩ := x
  exact ⟨(o.2 _ (by omega)).trans h1, ⟨f, (o.2 _ (by omega)).trans h2, h2'⟩, ⟨g, (o.2 _ (by omega)).trans h3, h3'⟩, h4.out o (by omega)⟩
theorem WordsAny.out {E : EnvT} {h h1 : Hp} {W a b : Nat} (x : WordsAny E h W) (o : Out h h1 a b) (hd : W + 5 ≤ a ∨ b ≤ W) : WordsAny E h1 W := by
  obtain ⟨re, le, f, g, T, h1, h2, h3, h4⟩ := x
  exact ⟨re, le, f, g, T, (o.2 _ (by omega)).trans h1, (o.2 _ (by omega)).trans h2, (o.2 _ (by omega)).trans h3, h4.out o (by omega)⟩
/-- what the rules must be for words to be learnt -/
def WOk (ru : Ru) : Prop := Acy ru ∧ (∀ s, isRul ru s → wlen ru s ≤ 240)
theorem mxD_le {b : Nat} : ∀ {l : List (Nat × Nat)}, (∀ p ∈ l, p.2 ≤ b) → mxD l ≤ b
  | [], _ => Nat.zero_le _
  | p :: l, h => by
    have := mxD_le (l := l) (fun q hq => h q (List.mem_cons_of_mem _ hq))
    have := h p List.mem_cons_self
    rw [mxD]; omega
theorem wxF_dep {ru : Ru} : ∀ (n s : Nat) (p : Nat × Nat), p ∈ wxF ru n s → p.2 ≤ n
  | 0, s, p, h => by
    rw [wxF] at h
    split at h
    · simp at h; rw [h]; exact Nat.le_refl _
    · simp at h
  | n + 1, s, p, h => by
    rw [wxF] at h
    split at h
    · simp at h; rw [h]; omega
    · obtain ⟨q, hq, rfl⟩ := List.mem_map.mp h
      obtain ⟨x, -, hx⟩ := List.mem_flatMap.mp hq
      have := wxF_dep n x q hx
      simp; omega
theorem dpt_le (ru : Ru) (s : Nat) : dpt ru s ≤ 60 := mxD_le (fun p hp => wxF_dep 60 s p hp)
theorem letT_le {ru : Ru} {T : List Nat} (hW : WOk ru) (hT : ∀ s ∈ T, isRul ru s) (s : Nat) : letT ru T s ≤ 240 := by
  rw [letT]
  split
  · omega
  · split
    · rename_i h; exact hW.2 s (hT s h)
    · omega
theorem depT_le (ru : Ru) (T : List Nat) (s : Nat) : depT ru T s ≤ 60 := by
  rw [depT]
  split
  · exact dpt_le ru s
  · omega
theorem letT_0 {ru : Ru} {T : List Nat} (hW : WOk ru) (hT : ∀ s ∈ T, isRul ru s) (s : Nat) : letT ru T s = 0 ↔ ¬ (s < 26 ∨ s ∈ T) := by
  rw [letT]
  split
  · rename_i h; simp [h]
  · rename_i h
    split
    · rename_i h2
      have := wlen_pos hW.1 (Or.inr (hT s h2))
      simp [h2]; omega
    · rename_i h2; simp [h, h2]
theorem GoodT.rul {ru : Ru} {T : List Nat} (h : GoodT ru T) : ∀ s ∈ T, isRul ru s := fun s hs => by
  obtain ⟨k, hk⟩ := List.getElem?_of_mem hs
  exact (h.2 k s hk).1
section WORDSM
variable {E : EnvT} {h : Hp} {W P : Nat} {sq : List Nat} {ru : Ru} {T : List Nat} {re le : Int32}
theorem Words_lettersOf (hw : WordsT E h W ru T re le) {s : Nat} (hs : s < 65536) : Spec E k_X8_lettersOf 1 0 0 [.ref W, .int (nI s)] h (fun v h' => v = some (.int (nI (if s < 86 then letT ru T s else 0))) ∧ h' = h) := by
  obtain ⟨h1, ⟨f, h2, hf⟩, ⟨g, h3, hg⟩, h4⟩ := hw
  refine Spec.of (by decide +kernel) (by simp [Value.category]) (Nat.le_of_ble_eq_true rfl) ?_
  show WP E k_X8_lettersOf 1 0 0 0 [some (.ref W), some (.int (nI s))] [] h _
  refine R_iload_n dX8_lettersOf_0 rfl ?_
  refine R_if_lt_N (tgt := 19) dX8_lettersOf_1 (by decide) (by omega) ?_
  refine R_iload_n dX8_lettersOf_4 rfl ?_
  refine R_bipush (v := nI 86) dX8_lettersOf_5 (by decide) ?_
  refine R_icmp_ge_N (tgt := 19) dX8_lettersOf_7 (by decide) (by omega) (by omega) (fun c7 => ?_) (fun c7 => ?_)
  -- X8_lettersOf: ('branch', 7, 19, 10)
  · refine R_iconst (v := nI 0) dX8_lettersOf_19 (by decide) ?_
    refine R_ireturn dX8_lettersOf_20 rfl rfl ?_
    -- X8_lettersOf: ('ret', 20)
    exact ⟨by rw [if_neg (by omega)], rfl⟩
  · refine R_aload_n dX8_lettersOf_10 rfl ?_
    refine R_get K_8 (f := 0) (by decide) dX8_lettersOf_11 f_RX8_9 (by first | exact h1 | exact h2) rfl ?_
    refine R_iload_n dX8_lettersOf_14 rfl ?_
    refine R_iaload_N dX8_lettersOf_15 (by first | exact h1 | exact h2) (by omega) (by omega) (hf s c7) ?_
    refine R_goto (tgt := 20) dX8_lettersOf_16 (by decide) ?_
    refine R_ireturn dX8_lettersOf_20 rfl rfl ?_
    -- X8_lettersOf: ('ret', 20)
    exact ⟨by rw [if_pos c7], rfl⟩
theorem Words_depthOf (hw : WordsT E h W ru T re le) {s : Nat} (hs : s < 65536) : Spec E k_X8_depthOf 1 0 0 [.ref W, .int (nI s)] h (fun v h' => v = some (.int (nI (if s < 86 then depT ru T s else 0))) ∧ h' = h) := by
  obtain ⟨h1, ⟨f, h2, hf⟩, ⟨g, h3, hg⟩, h4⟩ := hw
  refine Spec.of (by decide +kernel) (by simp [Value.category]) (Nat.le_of_ble_eq_true rfl) ?_
  show WP E k_X8_depthOf 1 0 0 0 [some (.ref W), some (.int (nI s))] [] h _
  refine R_iload_n dX8_depthOf_0 rfl ?_
  refine R_if_lt_N (tgt := 19) dX8_depthOf_1 (by decide) (by omega) ?_
  refine R_iload_n dX8_depthOf_4 rfl ?_
  refine R_bipush (v := nI 86) dX8_depthOf_5 (by decide) ?_
  refine R_icmp_ge_N (tgt := 19) dX8_depthOf_7 (by decide) (by omega) (by omega) (fun c7 => ?_) (fun c7 => ?_)
  -- X8_depthOf: ('branch', 7, 19, 10)
  · refine R_iconst (v := nI 0) dX8_depthOf_19 (by decide) ?_
    refine R_ireturn dX8_depthOf_20 rfl rfl ?_
    -- X8_depthOf: ('ret', 20)
    exact ⟨by rw [if_neg (by omega)], rfl⟩
  · refine R_aload_n dX8_depthOf_10 rfl ?_
    refine R_get K_8 (f := 1) (by decide) dX8_depthOf_11 f_RX8_15 (by first | exact h1 | exact h3) rfl ?_
    refine R_iload_n dX8_depthOf_14 rfl ?_
    refine R_iaload_N dX8_depthOf_15 (by first | exact h1 | exact h3) (by omega) (by omega) (hg s c7) ?_
    refine R_goto (tgt := 20) dX8_depthOf_16 (by decide) ?_
    refine R_ireturn dX8_depthOf_20 rfl rfl ?_
    -- X8_depthOf: ('ret', 20)
    exact ⟨by rw [if_pos c7], rfl⟩
theorem Words_told (hw : WordsT E h W ru T re le) : Spec E k_X8_told 2 0 0 [.ref W] h (fun v h' => v = some (.int (nI T.length)) ∧ h' = h) := by
  refine Spec.of (by decide +kernel) (by simp [Value.category]) (Nat.le_of_ble_eq_true rfl) ?_
  show WP E k_X8_told 2 0 0 0 [some (.ref W)] [] h _
  refine R_aload_n dX8_told_0 rfl ?_
  refine R_get K_8 (f := 2) (by decide) dX8_told_1 f_RX8_23 hw.1 rfl ?_
  -- X8_told: ('call', 4, '.invokevirtual', 55)
  refine R_callV v_X6_size (Row_size hw.2.2.2) dX8_told_4 l_RX8_55 rfl rfl hw.2.2.2.2.2.1 (Nat.le_of_ble_eq_true rfl) (by omega) rfl rfl (fun v h1 hq => ?_)
  obtain ⟨rfl, rfl⟩ := hq
  refine R_ireturn dX8_told_7 rfl rfl ?_
  -- X8_told: ('ret', 7)
  exact ⟨rfl, rfl⟩
theorem Words_toldAt (hw : WordsT E h W ru T re le) {i x : Nat} (hx : T[i]? = some x) : Spec E k_X8_toldAt 2 0 0 [.ref W, .int (nI i)] h (fun v h' => v = some (.int (nI x)) ∧ h' = h) := by
  have hi := (List.getElem?_eq_some_iff.mp hx).1
  have hl := hw.2.2.2.1
  refine Spec.of (by decide +kernel) (by simp [Value.category]) (Nat.le_of_ble_eq_true rfl) ?_
  show WP E k_X8_toldAt 2 0 0 0 [some (.ref W), some (.int (nI i))] [] h _
  refine R_aload_n dX8_toldAt_0 rfl ?_
  refine R_get K_8 (f := 2) (by decide) dX8_toldAt_1 f_RX8_23 hw.1 rfl ?_
  refine R_iload_n dX8_toldAt_4 rfl ?_
  -- X8_toldAt: ('call', 5, '.invokevirtual', 59)
  refine R_callV v_X6_get (Row_get hw.2.2.2 (nI i)) dX8_toldAt_5 l_RX8_59 rfl rfl hw.2.2.2.2.2.1 (Nat.le_of_ble_eq_true rfl) (by omega) rfl rfl (fun v h1 hq => ?_)
  obtain ⟨rfl, rfl⟩ := hq
  rw [rget_in (by omega) hx]
  refine R_ireturn dX8_toldAt_8 rfl rfl ?_
  -- X8_toldAt: ('ret', 8)
  exact ⟨rfl, rfl⟩
theorem Words_reached (hw : WordsT E h W ru T re le) : Spec E k_X8_reached 1 0 0 [.ref W] h (fun v h' => v = some (.int re) ∧ h' = h) := by
  refine Spec.of (by decide +kernel) (by simp [Value.category]) (Nat.le_of_ble_eq_true rfl) ?_
  show WP E k_X8_reached 1 0 0 0 [some (.ref W)] [] h _
  refine R_aload_n dX8_reached_0 rfl ?_
  refine R_get K_8 (f := 3) (by decide) dX8_reached_1 f_RX8_27 hw.1 rfl ?_
  refine R_ireturn dX8_reached_4 rfl rfl ?_
  -- X8_reached: ('ret', 4)
  exact ⟨rfl, rfl⟩
theorem Words_levelsGone (hw : WordsT E h W ru T re le) : Spec E k_X8_levelsGone 1 0 0 [.ref W] h (fun v h' => v = some (.int le) ∧ h' = h) := by
  refine Spec.of (by decide +kernel) (by simp [Value.category]) (Nat.le_of_ble_eq_true rfl) ?_
  show WP E k_X8_levelsGone 1 0 0 0 [some (.ref W)] [] h _
  refine R_aload_n dX8_levelsGone_0 rfl ?_
  refine R_get K_8 (f := 4) (by decide) dX8_levelsGone_1 f_RX8_31 hw.1 rfl ?_
  refine R_ireturn dX8_levelsGone_4 rfl rfl ?_
  -- X8_levelsGone: ('ret', 4)
  exact ⟨rfl, rfl⟩
theorem Words_isReady (hW : WOk ru) (hT : ∀ s ∈ T, isRul ru s) (hw : WordsT E h W ru T re le) {r cap : Nat} {l : List Nat} (hR : RowAt E h r cap l) (hl : ∀ x ∈ l, x < 86) : Spec E k_X8_isReady 2 0 0 [.ref W, .ref r] h (fun v h' => v = some (.int (nI (if ∀ x ∈ l, x < 26 ∨ x ∈ T then 1 else 0))) ∧ h' = h) := by
  have hcap := hR.2.1
  have hlc := hR.1
  refine Spec.of (by decide +kernel) (by simp [Value.category]) (Nat.le_of_ble_eq_true rfl) ?_
  show WP E k_X8_isReady 2 0 0 0 [some (.ref W), some (.ref r), none] [] h _
  have loop : ∀ m i, i + m = l.length → (∀ x ∈ l.take i, x < 26 ∨ x ∈ T) → WP E k_X8_isReady 2 0 0 2 [some (.ref W), some (.ref r), some (.int (nI i))] [] h (fun v h' => v = some (.int (nI (if ∀ x ∈ l, x < 26 ∨ x ∈ T then 1 else 0))) ∧ h' = h) := by
    intro m
    induction m with
    | zero =>
      intro i hi h0
      rw [List.take_of_length_le (by omega)] at h0
      refine R_iload_n dX8_isReady_2 rfl ?_
      refine R_aload_n dX8_isReady_3 rfl ?_
      -- X8_isReady: ('call', 4, '.invokevirtual', 55)
      refine R_callV v_X6_size (Row_size hR) dX8_isReady_4 l_RX8_55 rfl rfl hR.2.2.1 (Nat.le_of_ble_eq_true rfl) (by omega) rfl rfl (fun v h1 hq => ?_)
      obtain ⟨rfl, rfl⟩ := hq
      refine R_icmp_ge_N (tgt := 30) dX8_isReady_7 (by decide) (by omega) (by omega) (fun c7 => ?_) (fun c7 => ?_)
      -- X8_isReady: ('branch', 7, 30, 10)
      · refine R_iconst (v := nI 1) dX8_isReady_30 (by decide) ?_
        refine R_ireturn dX8_isReady_31 rfl (by rfl) ?_
        -- X8_isReady: ('ret', 31)
        exact ⟨by rw [if_pos h0], rfl⟩
      · exact absurd c7 (by omega)
    | succ m ih =>
      intro i hi h0
      obtain ⟨x, hx⟩ := getE (l := l) (i := i) (by omega)
      have hxm := List.mem_of_getElem? hx
      have hx86 := hl x hxm
      have hle := letT_le hW hT x
      refine R_iload_n dX8_isReady_2 rfl ?_
      refine R_aload_n dX8_isReady_3 rfl ?_
      -- X8_isReady: ('call', 4, '.invokevirtual', 55)
      refine R_callV v_X6_size (Row_size hR) dX8_isReady_4 l_RX8_55 rfl rfl hR.2.2.1 (Nat.le_of_ble_eq_true rfl) (by omega) rfl rfl (fun v h1 hq => ?_)
      obtain ⟨rfl, rfl⟩ := hq
      refine R_icmp_ge_N (tgt := 30) dX8_isReady_7 (by decide) (by omega) (by omega) (fun c7 => ?_) (fun c7 => ?_)
      -- X8_isReady: ('branch', 7, 30, 10)
      · exact absurd c7 (by omega)
      · refine R_aload_n dX8_isReady_10 rfl ?_
        refine R_aload_n dX8_isReady_11 rfl ?_
        refine R_iload_n dX8_isReady_12 rfl ?_
        -- X8_isReady: ('call', 13, '.invokevirtual', 59)
        refine R_callV v_X6_get (Row_get hR (nI i)) dX8_isReady_13 l_RX8_59 rfl rfl hR.2.2.1 (Nat.le_of_ble_eq_true rfl) (by omega) rfl rfl (fun v h1 hq => ?_)
        obtain ⟨rfl, rfl⟩ := hq
        rw [rget_in (by omega) hx]
        refine R_callV v_X8_lettersOf (Words_lettersOf hw (s := x) (by omega)) dX8_isReady_16 l_RX8_66 rfl rfl hw.1 (Nat.le_of_ble_eq_true rfl) (by omega) rfl rfl (fun v h1 hq => ?_)
        obtain ⟨rfl, rfl⟩ := hq
        rw [if_pos hx86]
        refine R_if_ne_N (tgt := 24) dX8_isReady_19 (by decide) (by omega) (fun c19 => ?_) (fun c19 => ?_)
        -- X8_isReady: ('branch', 19, 24, 22)
        · refine R_iinc2 dX8_isReady_24 (by decide) (nI_inc _ 1) ?_
          refine R_goto (tgt := 2) dX8_isReady_27 (by decide) ?_
          -- X8_isReady: ('stop', 2)
          refine ih (i + 1) (by omega) (fun y hy => ?_)
          rw [List.take_add_one, hx] at hy
          rcases List.mem_append.mp hy with hy | hy
          · exact h0 y hy
          · simp at hy
            subst hy
            exact Decidable.not_not.mp (fun z => c19 ((letT_0 hW hT y).mpr z))
        · refine R_iconst (v := nI 0) dX8_isReady_22 (by decide) ?_
          refine R_ireturn dX8_isReady_23 rfl (by rfl) ?_
          -- X8_isReady: ('ret', 23)
          exact ⟨by rw [if_neg (fun z => (letT_0 hW hT x).mp c19 (z x hxm))], rfl⟩
  refine R_iconst (v := nI 0) dX8_isReady_0 (by decide) ?_
  refine R_istore2 dX8_isReady_1 (by decide) ?_
  -- X8_isReady: ('stop', 2)
  exact loop l.length 0 (by omega) (fun x hx => by simp at hx)
theorem Words_leastReady (hW : WOk ru) (hT : ∀ s ∈ T, isRul ru s) (hw : WordsT E h W ru T re le) (hP : PackAt E h P sq ru) : Spec E k_X8_leastReady 3 0 0 [.ref W, .ref P] h (fun v h' => v = some (.int (oI 26 (nxt ru T))) ∧ h' = h) := by
  obtain ⟨h1, ⟨f, h2, hf⟩, ⟨g, h3, hg⟩, h4⟩ := id hw
  refine Spec.of (by decide +kernel) (by simp [Value.category]) (Nat.le_of_ble_eq_true rfl) ?_
  show WP E k_X8_leastReady 3 0 0 0 [some (.ref W), some (.ref P), none] [] h _
  have loop : ∀ m i, i + m = 60 → fstB (fun i => decide (rdy ru T i)) i = none → WP E k_X8_leastReady 3 0 0 3 [some (.ref W), some (.ref P), some (.int (nI (26 + i)))] [] h (fun v h' => v = some (.int (oI 26 (nxt ru T))) ∧ h' = h) := by
    intro m
    induction m with
    | zero =>
      intro i hi h0
      have e60 : i = 60 := by omega
      subst e60
      refine R_iload_n dX8_leastReady_3 rfl ?_
      refine R_bipush (v := nI 86) dX8_leastReady_4 (by decide) ?_
      refine R_icmp_ge_N (tgt := 46) dX8_leastReady_6 (by decide) (by omega) (by omega) (fun c6 => ?_) (fun c6 => ?_)
      -- X8_leastReady: ('branch', 6, 46, 9)
      · refine R_iconst (v := (-1)) dX8_leastReady_46 (by decide) ?_
        refine R_ireturn dX8_leastReady_47 rfl rfl ?_
        -- X8_leastReady: ('ret', 47)
        exact ⟨by rw [nxt, h0]; rfl, rfl⟩
      · exact absurd c6 (by omega)
    | succ m ih =>
      intro i hi h0
      have no : ¬ rdy ru T i → WP E k_X8_leastReady 3 0 0 40 [some (.ref W), some (.ref P), some (.int (nI (26 + i)))] [] h (fun v h' => v = some (.int (oI 26 (nxt ru T))) ∧ h' = h) := by
        intro hn
        refine R_iinc2 dX8_leastReady_40 (by decide) (nI_inc _ 1) ?_
        refine R_goto (tgt := 3) dX8_leastReady_43 (by decide) ?_
        -- X8_leastReady: ('stop', 3)
        exact ih (i + 1) (by omega) (fstB_step h0 (by simpa using hn))
      have hle := letT_le hW hT (26 + i)
      have hz := letT_0 hW hT (26 + i)
      refine R_iload_n dX8_leastReady_3 rfl ?_
      refine R_bipush (v := nI 86) dX8_leastReady_4 (by decide) ?_
      refine R_icmp_ge_N (tgt := 46) dX8_leastReady_6 (by decide) (by omega) (by omega) (fun c6 => ?_) (fun c6 => ?_)
      -- X8_leastReady: ('branch', 6, 46, 9)
      · exact absurd c6 (by omega)
      · refine R_aload_n dX8_leastReady_9 rfl ?_
        refine R_get K_8 (f := 0) (by decide) dX8_leastReady_10 f_RX8_9 (by first | exact h1 | exact h2) rfl ?_
        refine R_iload_n dX8_leastReady_13 rfl ?_
        refine R_iaload_N dX8_leastReady_14 (by first | exact h1 | exact h2) (by omega) (by omega) (hf (26 + i) (by omega)) ?_
        refine R_if_ne_N (tgt := 40) dX8_leastReady_15 (by decide) (by omega) (fun c15 => ?_) (fun c15 => ?_)
        -- X8_leastReady: ('branch', 15, 40, 18)
        · refine no (fun z => c15 (hz.mpr (fun q => q.elim (by omega) z.2.1)))
        · refine R_aload_n dX8_leastReady_18 rfl ?_
          refine R_iload_n dX8_leastReady_19 rfl ?_
          -- X8_leastReady: ('call', 20, '.invokevirtual', 63)
          refine R_callV v_X2_isRule (Pack_isRule hP (s := 26 + i) (by omega)) dX8_leastReady_20 l_RX8_63 rfl rfl hP.1 (Nat.le_of_ble_eq_true rfl) (by omega) rfl rfl (fun v h1 hq => ?_)
          obtain ⟨rfl, rfl⟩ := hq
          by_cases hr : isRul ru (26 + i)
          · rw [if_pos hr]
            have hr' := hr.2.2
            rw [Nat.add_sub_cancel_left] at hr'
            refine R_if_eq_N (tgt := 40) dX8_leastReady_23 (by decide) (by omega) (fun c23 => ?_) (fun c23 => ?_)
            -- X8_leastReady: ('branch', 23, 40, 26)
            · exact absurd c23 (by decide)
            · refine R_aload_n dX8_leastReady_26 rfl ?_
              refine R_aload_n dX8_leastReady_27 rfl ?_
              refine R_iload_n dX8_leastReady_28 rfl ?_
              -- X8_leastReady: ('call', 29, '.invokevirtual', 45)
              refine R_callV v_X2_rowOf (Pack_rowOf hP (s := 26 + i) (by omega)) dX8_leastReady_29 l_RX8_45 rfl rfl hP.1 (Nat.le_of_ble_eq_true rfl) (by omega) rfl rfl (fun v h1 hq => ?_)
              obtain ⟨rfl, rfl⟩ := hq
              rw [rowA_in (by omega), Nat.add_sub_cancel_left]
              have hrow := hP.rul (i := i) (by omega)
              refine R_callV v_X8_isReady (Words_isReady hW hT hw hrow (fun x hx => by rcases acy_sg hW.1 (show i < 60 by omega) hx with z | z <;> omega)) dX8_leastReady_32 l_RX8_69 rfl rfl hw.1 (Nat.le_of_ble_eq_true rfl) (by omega) rfl rfl (fun v h1 hq => ?_)
              obtain ⟨rfl, rfl⟩ := hq
              by_cases hall : ∀ x ∈ ru i, x < 26 ∨ x ∈ T
              · rw [if_pos hall]
                refine R_if_eq_N (tgt := 40) dX8_leastReady_35 (by decide) (by omega) (fun c35 => ?_) (fun c35 => ?_)
                -- X8_leastReady: ('branch', 35, 40, 38)
                · exact absurd c35 (by decide)
                · refine R_iload_n dX8_leastReady_38 rfl ?_
                  refine R_ireturn dX8_leastReady_39 rfl rfl ?_
                  -- X8_leastReady: ('ret', 39)
                  refine ⟨?_, rfl⟩
                  rw [nxt, fstB_at h0 (decide_eq_true ⟨hr', fun z => hz.mp c15 (Or.inr z), hall⟩) (show i < 60 by omega)]
                  rfl
              · rw [if_neg hall]
                refine R_if_eq_N (tgt := 40) dX8_leastReady_35 (by decide) (by omega) (fun c35 => ?_) (fun c35 => ?_)
                -- X8_leastReady: ('branch', 35, 40, 38)
                · exact no (fun z => hall z.2.2)
                · exact absurd rfl c35
          · rw [if_neg hr]
            refine R_if_eq_N (tgt := 40) dX8_leastReady_23 (by decide) (by omega) (fun c23 => ?_) (fun c23 => ?_)
            -- X8_leastReady: ('branch', 23, 40, 26)
            · refine no (fun z => hr ⟨by omega, by omega, ?_⟩)
              rw [Nat.add_sub_cancel_left]
              exact z.1
            · exact absurd rfl c23
  refine R_bipush (v := nI 26) dX8_leastReady_0 (by decide) ?_
  refine R_istore2 dX8_leastReady_2 (by decide) ?_
  -- X8_leastReady: ('stop', 3)
  exact loop 60 0 (by omega) rfl
end WORDSM
