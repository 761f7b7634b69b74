/-! PACKING: counts over the rules, pairs, what a rule given up leaves -/
theorem nI_ne_m1 {n : Nat} (h : n < 2 ^ 31) : ¬ nI n = -1 := fun e => nI_pos h (by rw [e]; decide)
theorem nI_m1_ne {n : Nat} (h : n < 2 ^ 31) : ¬ (-1 : Int32) = nI n := fun e => nI_ne_m1 h e.symm
def ruleS (ru : Ru) (a b : Nat) : Option Nat := fstB (fun i => decide (ru i = [a, b])) 60
def freeS (ru : Ru) : Option Nat := fstB (fun i => decide (ru i = [])) 60
def signS (ru : Ru) (a b : Nat) : Option Nat := (ruleS ru a b).or (freeS ru)
theorem signS_1 {ru : Ru} {a b i : Nat} (h : ruleS ru a b = some i) : signS ru a b = some i := by rw [signS, h, Option.some_or]
theorem signS_0 {ru : Ru} {a b : Nat} (h : ruleS ru a b = none) : signS ru a b = freeS ru := by rw [signS, h, Option.none_or]
def usesS (sq : List Nat) (ru : Ru) (s : Nat) : Nat := sq.count s + sumB (fun r => (ru r).count s) 60
def sizeS (sq : List Nat) (ru : Ru) : Nat := sq.length + sumB (fun r => (ru r).length) 60
def rulesS (ru : Ru) : Nat := cntB (fun r => decide (0 < (ru r).length)) 60
abbrev canGo (ru : Ru) (s : Nat) : Prop := ∀ r, r < 60 → (ru r).length + (ru r).count s * ((ru (s - 26)).length - 1) ≤ 12
abbrev idleP (sq : List Nat) (ru : Ru) (i : Nat) : Prop := ru i ≠ [] ∧ (usesS sq ru (26 + i) = 0 ∨ usesS sq ru (26 + i) = 1 ∧ canGo ru (26 + i))
def idleS (sq : List Nat) (ru : Ru) : Option Nat := fstB (fun i => decide (idleP sq ru i)) 60
def dropRu (ru : Ru) (s : Nat) : Ru := fun r => if r = s - 26 then [] else sub s (rowOf ru s) (ru r)
theorem sub_count {s : Nat} {bl : List Nat} : ∀ l : List Nat, (sub s bl l).length + l.count s = l.length + l.count s * bl.length
  | [] => by simp [sub]
  | x :: l => by
    have := sub_count (s := s) (bl := bl) l
    rw [sub_cons, List.length_append, List.count_cons, List.length_cons]
    by_cases hx : x = s
    · subst hx; simp [Nat.add_mul]; omega
    · simp [hx]; omega
theorem sub_none {s : Nat} {bl : List Nat} : ∀ l : List Nat, l.count s = 0 → sub s bl l = l
  | [], _ => rfl
  | x :: l, h => by
    rw [List.count_cons] at h
    rw [sub_cons, if_neg (fun e => by subst e; simp at h), sub_none l (by omega)]
    rfl
theorem fst_lt {p : Nat → Bool} {n i : Nat} (h : fstB p n = some i) : i < n := (fstB_some h).1
theorem signS_lt {ru : Ru} {a b i : Nat} (h : signS ru a b = some i) : i < 60 := by
  cases hx : ruleS ru a b with
  | some j => rw [signS_1 hx] at h; cases h; exact fst_lt hx
  | none => rw [signS_0 hx] at h; exact fst_lt h
theorem signS_or {ru : Ru} {a b i : Nat} (h : signS ru a b = some i) : ru i = [a, b] ∨ ru i = [] := by
  cases hx : ruleS ru a b with
  | some j => rw [signS_1 hx] at h; cases h; exact Or.inl (by simpa using (fstB_some hx).2.1)
  | none => rw [signS_0 hx] at h; exact Or.inr (by simpa using (fstB_some h).2.1)
section PACK2
variable {E : EnvT} {h : Hp} {P : Nat} {sq : List Nat} {ru : Ru}
theorem PackAt.arr (hP : PackAt E h P sq ru) : ∃ g : Nat → Option Nat, h.2 (P + 3) = some (.inl (E.2.2.1 3, 60, .inr (.inr (.inr (.inr g))))) ∧ ∀ i, i < 60 → g i = some (P + 6 + 2 * i) := hP.2.2.1
theorem PackAt.rul (hP : PackAt E h P sq ru) {i : Nat} (hi : i < 60) : RowAt E h (P + 6 + 2 * i) 12 (ru i) := hP.2.2.2.2 i hi
theorem Pack_clear (hP : PackAt E h P sq ru) : Spec E k_X2_clear 2 0 0 [.ref P] h (fun v h' => v = none ∧ PackAt E h' P [] (fun _ => []) ∧ Out h h' P (P + 126)) := by
  refine Spec.of (by decide +kernel) (by simp [Value.category]) (Nat.le_of_ble_eq_true rfl) ?_
  show WP E k_X2_clear 2 0 0 0 [some (.ref P), none] [] h _
  have loop : ∀ m i h2 ru2, i + m = 60 → PackAt E h2 P [] ru2 → (∀ j, j < i → ru2 j = []) → Out h h2 P (P + 126) → WP E k_X2_clear 2 0 0 9 [some (.ref P), some (.int (nI i))] [] h2 (fun v h' => v = none ∧ PackAt E h' P [] (fun _ => []) ∧ Out h h' P (P + 126)) := by
    intro m
    induction m with
    | zero =>
      intro i h2 ru2 hi hP2 hru o2
      refine R_iload_n dX2_clear_9 rfl ?_
      refine R_bipush (v := nI 60) dX2_clear_10 (by decide) ?_
      refine R_icmp_ge_N (tgt := 30) dX2_clear_12 (by decide) (by omega) (by omega) (fun c12 => ?_) (fun c12 => ?_)
      -- X2_clear: ('branch', 12, 30, 15)
      · refine R_return dX2_clear_30 rfl ?_
        -- X2_clear: ('ret', 30)
        refine ⟨rfl, ⟨hP2.1, hP2.2.1, hP2.2.2.1, hP2.2.2.2.1, fun j hj => ?_⟩, o2⟩
        have := hP2.rul hj
        rw [hru j (by omega)] at this
        exact this
      · exact absurd c12 (by omega)
    | succ m ih =>
      intro i h2 ru2 hi hP2 hru o2
      obtain ⟨g, hg, hg'⟩ := hP2.arr
      refine R_iload_n dX2_clear_9 rfl ?_
      refine R_bipush (v := nI 60) dX2_clear_10 (by decide) ?_
      refine R_icmp_ge_N (tgt := 30) dX2_clear_12 (by decide) (by omega) (by omega) (fun c12 => ?_) (fun c12 => ?_)
      -- X2_clear: ('branch', 12, 30, 15)
      · exact absurd c12 (by omega)
      · refine R_aload_n dX2_clear_15 rfl ?_
        refine R_get K_2 (f := 1) (by decide) dX2_clear_16 f_RX2_20 (by first | exact hP2.1 | exact hg) rfl ?_
        refine R_iload_n dX2_clear_19 rfl ?_
        refine R_aaloadRow_N dX2_clear_20 (by first | exact hP2.1 | exact hg) (by omega) (by omega) (hg' i (by omega)) ?_
        -- X2_clear: ('call', 21, '.invokevirtual', 42)
        have hr := hP2.rul (i := i) (by omega)
        refine R_callV v_X6_clear (Row_clear hr) dX2_clear_21 l_RX2_42 rfl rfl hr.2.2.1 (Nat.le_of_ble_eq_true rfl) (by omega) rfl rfl (fun v h1 hq => ?_)
        obtain ⟨rfl, hr3, o3⟩ := hq
        refine R_iinc1 dX2_clear_24 (by decide) (nI_inc _ 1) ?_
        refine R_goto (tgt := 9) dX2_clear_27 (by decide) ?_
        -- X2_clear: ('stop', 9)
        refine ih (i + 1) _ _ (by omega) (hP2.setRule (by omega) hr3 o3) (fun j hj => ?_) (o2.trans (o3.mono (by omega) (by omega)))
        by_cases hji : j = i
        · simp [ruSet, hji]
        · simp only [ruSet, if_neg hji]
          exact hru j (by omega)
  refine R_aload_n dX2_clear_0 rfl ?_
  refine R_get K_2 (f := 0) (by decide) dX2_clear_1 f_RX2_14 hP.1 rfl ?_
  -- X2_clear: ('call', 4, '.invokevirtual', 42)
  refine R_callV v_X6_clear (Row_clear hP.2.1) dX2_clear_4 l_RX2_42 rfl rfl hP.2.1.2.2.1 (Nat.le_of_ble_eq_true rfl) (by omega) rfl rfl (fun v h1 hq => ?_)
  obtain ⟨rfl, hr3, o3⟩ := hq
  refine R_iconst (v := nI 0) dX2_clear_7 (by decide) ?_
  refine R_istore1 dX2_clear_8 (by decide) ?_
  -- X2_clear: ('stop', 9)
  exact loop 60 0 _ _ (by omega) (hP.setSeq hr3 o3) (fun j hj => absurd hj (by omega)) (o3.mono (by omega) (by omega))
theorem Pack_take (hP : PackAt E h P sq ru) {P2 : Nat} {sq2 : List Nat} {ru2 : Ru} (hQ : PackAt E h P2 sq2 ru2) (hne : P2 + 126 ≤ P ∨ P + 126 ≤ P2) : Spec E k_X2_take 3 0 0 [.ref P, .ref P2] h (fun v h' => v = none ∧ PackAt E h' P sq2 ru2 ∧ Out h h' P (P + 126)) := by
  refine Spec.of (by decide +kernel) (by simp [Value.category]) (Nat.le_of_ble_eq_true rfl) ?_
  show WP E k_X2_take 3 0 0 0 [some (.ref P), some (.ref P2), none] [] h _
  have loop : ∀ m i h2 ru3, i + m = 60 → PackAt E h2 P sq2 ru3 → (∀ j, j < i → ru3 j = ru2 j) → Out h h2 P (P + 126) → WP E k_X2_take 3 0 0 13 [some (.ref P), some (.ref P2), some (.int (nI i))] [] h2 (fun v h' => v = none ∧ PackAt E h' P sq2 ru2 ∧ Out h h' P (P + 126)) := by
    intro m
    induction m with
    | zero =>
      intro i h2 ru3 hi hP2 hru o2
      refine R_iload_n dX2_take_13 rfl ?_
      refine R_bipush (v := nI 60) dX2_take_14 (by decide) ?_
      refine R_icmp_ge_N (tgt := 40) dX2_take_16 (by decide) (by omega) (by omega) (fun c16 => ?_) (fun c16 => ?_)
      -- X2_take: ('branch', 16, 40, 19)
      · refine R_return dX2_take_40 rfl ?_
        -- X2_take: ('ret', 40)
        refine ⟨rfl, ⟨hP2.1, hP2.2.1, hP2.2.2.1, hP2.2.2.2.1, fun j hj => ?_⟩, o2⟩
        have := hP2.rul hj
        rw [hru j (by omega)] at this
        exact this
      · exact absurd c16 (by omega)
    | succ m ih =>
      intro i h2 ru3 hi hP2 hru o2
      have hQ2 := hQ.out o2 (by omega)
      obtain ⟨g, hg, hg'⟩ := hP2.arr
      obtain ⟨g2, hg2, hg2'⟩ := hQ2.arr
      refine R_iload_n dX2_take_13 rfl ?_
      refine R_bipush (v := nI 60) dX2_take_14 (by decide) ?_
      refine R_icmp_ge_N (tgt := 40) dX2_take_16 (by decide) (by omega) (by omega) (fun c16 => ?_) (fun c16 => ?_)
      -- X2_take: ('branch', 16, 40, 19)
      · exact absurd c16 (by omega)
      · refine R_aload_n dX2_take_19 rfl ?_
        refine R_get K_2 (f := 1) (by decide) dX2_take_20 f_RX2_20 (by first | exact hP2.1 | exact hg) rfl ?_
        refine R_iload_n dX2_take_23 rfl ?_
        refine R_aaloadRow_N dX2_take_24 (by first | exact hP2.1 | exact hg) (by omega) (by omega) (hg' i (by omega)) ?_
        -- X2_take: ('stop', 25)
        refine R_aload_n dX2_take_25 rfl ?_
        refine R_get K_2 (f := 1) (by decide) dX2_take_26 f_RX2_20 (by first | exact hQ2.1 | exact hg2) rfl ?_
        refine R_iload_n dX2_take_29 rfl ?_
        refine R_aaloadRow_N dX2_take_30 (by first | exact hQ2.1 | exact hg2) (by omega) (by omega) (hg2' i (by omega)) ?_
        -- X2_take: ('call', 31, '.invokevirtual', 45)
        have hr := hP2.rul (i := i) (by omega)
        have hr2 := hQ2.rul (i := i) (by omega)
        refine R_callV v_X6_take (Row_take hr hr2 (by omega) hr2.1) dX2_take_31 l_RX2_45 rfl rfl hr.2.2.1 (Nat.le_of_ble_eq_true rfl) (by omega) rfl rfl (fun v h1 hq => ?_)
        obtain ⟨rfl, hr3, o3⟩ := hq
        refine R_iinc2 dX2_take_34 (by decide) (nI_inc _ 1) ?_
        refine R_goto (tgt := 13) dX2_take_37 (by decide) ?_
        -- X2_take: ('stop', 13)
        refine ih (i + 1) _ _ (by omega) (hP2.setRule (by omega) hr3 o3) (fun j hj => ?_) (o2.trans (o3.mono (by omega) (by omega)))
        by_cases hji : j = i
        · simp [ruSet, hji]
        · simp only [ruSet, if_neg hji]
          exact hru j (by omega)
  refine R_aload_n dX2_take_0 rfl ?_
  refine R_get K_2 (f := 0) (by decide) dX2_take_1 f_RX2_14 (by first | exact hP.1 | exact hQ.1) rfl ?_
  refine R_aload_n dX2_take_4 rfl ?_
  refine R_get K_2 (f := 0) (by decide) dX2_take_5 f_RX2_14 (by first | exact hP.1 | exact hQ.1) rfl ?_
  -- X2_take: ('call', 8, '.invokevirtual', 45)
  refine R_callV v_X6_take (Row_take hP.2.1 hQ.2.1 (by omega) hQ.2.1.1) dX2_take_8 l_RX2_45 rfl rfl hP.2.1.2.2.1 (Nat.le_of_ble_eq_true rfl) (by omega) rfl rfl (fun v h1 hq => ?_)
  obtain ⟨rfl, hr3, o3⟩ := hq
  refine R_iconst (v := nI 0) dX2_take_11 (by decide) ?_
  refine R_istore2 dX2_take_12 (by decide) ?_
  -- X2_take: ('stop', 13)
  exact loop 60 0 _ _ (by omega) (hP.setSeq hr3 o3) (fun j hj => absurd hj (by omega)) (o3.mono (by omega) (by omega))
theorem Pack_ruleCount (hP : PackAt E h P sq ru) : Spec E k_X2_ruleCount 2 0 0 [.ref P] h (fun v h' => v = some (.int (nI (rulesS ru))) ∧ h' = h) := by
  refine Spec.of (by decide +kernel) (by simp [Value.category]) (Nat.le_of_ble_eq_true rfl) ?_
  show WP E k_X2_ruleCount 2 0 0 0 [some (.ref P), none, none] [] h _
  obtain ⟨g, hg, hg'⟩ := hP.arr
  have loop : ∀ m i, i + m = 60 → WP E k_X2_ruleCount 2 0 0 4 [some (.ref P), some (.int (nI (cntB (fun r => decide (0 < (ru r).length)) i))), some (.int (nI i))] [] h (fun v h' => v = some (.int (nI (rulesS ru))) ∧ h' = h) := by
    intro m
    induction m with
    | zero =>
      intro i hi
      refine R_iload_n dX2_ruleCount_4 rfl ?_
      refine R_bipush (v := nI 60) dX2_ruleCount_5 (by decide) ?_
      refine R_icmp_ge_N (tgt := 31) dX2_ruleCount_7 (by decide) (by omega) (by omega) (fun c7 => ?_) (fun c7 => ?_)
      -- X2_ruleCount: ('branch', 7, 31, 10)
      · refine R_iload_n dX2_ruleCount_31 rfl ?_
        refine R_ireturn dX2_ruleCount_32 rfl rfl ?_
        -- X2_ruleCount: ('ret', 32)
        exact ⟨by rw [show i = 60 by omega]; rfl, rfl⟩
      · exact absurd c7 (by omega)
    | succ m ih =>
      intro i hi
      have hr := hP.rul (i := i) (by omega)
      have hl := hr.1
      refine R_iload_n dX2_ruleCount_4 rfl ?_
      refine R_bipush (v := nI 60) dX2_ruleCount_5 (by decide) ?_
      refine R_icmp_ge_N (tgt := 31) dX2_ruleCount_7 (by decide) (by omega) (by omega) (fun c7 => ?_) (fun c7 => ?_)
      -- X2_ruleCount: ('branch', 7, 31, 10)
      · exact absurd c7 (by omega)
      · refine R_aload_n dX2_ruleCount_10 rfl ?_
        refine R_get K_2 (f := 1) (by decide) dX2_ruleCount_11 f_RX2_20 (by first | exact hP.1 | exact hg) rfl ?_
        refine R_iload_n dX2_ruleCount_14 rfl ?_
        refine R_aaloadRow_N dX2_ruleCount_15 (by first | exact hP.1 | exact hg) (by omega) (by omega) (hg' i (by omega)) ?_
        -- X2_ruleCount: ('call', 16, '.invokevirtual', 31)
        refine R_callV v_X6_size (Row_size hr) dX2_ruleCount_16 l_RX2_31 rfl rfl hr.2.2.1 (Nat.le_of_ble_eq_true rfl) (by omega) rfl rfl (fun v h1 hq => ?_)
        obtain ⟨rfl, rfl⟩ := hq
        have := ih (i + 1) (by omega)
        rw [cntB] at this
        refine R_if_le_N (tgt := 25) dX2_ruleCount_19 (by decide) (by omega) (fun c19 => ?_) (fun c19 => ?_)
        -- X2_ruleCount: ('branch', 19, 25, 22)
        · refine R_iinc2 dX2_ruleCount_25 (by decide) (nI_inc _ 1) ?_
          refine R_goto (tgt := 4) dX2_ruleCount_28 (by decide) ?_
          -- X2_ruleCount: ('stop', 4)
          rw [if_neg (by simp [c19])] at this
          exact this
        · refine R_iinc1 dX2_ruleCount_22 (by decide) (nI_inc _ 1) ?_
          refine R_iinc2 dX2_ruleCount_25 (by decide) (nI_inc _ 1) ?_
          refine R_goto (tgt := 4) dX2_ruleCount_28 (by decide) ?_
          -- X2_ruleCount: ('stop', 4)
          rw [if_pos (by simpa using c19)] at this
          exact this
  refine R_iconst (v := nI 0) dX2_ruleCount_0 (by decide) ?_
  refine R_istore1 dX2_ruleCount_1 (by decide) ?_
  refine R_iconst (v := nI 0) dX2_ruleCount_2 (by decide) ?_
  refine R_istore2 dX2_ruleCount_3 (by decide) ?_
  -- X2_ruleCount: ('stop', 4)
  exact loop 60 0 (by omega)
theorem Pack_size (hP : PackAt E h P sq ru) : Spec E k_X2_size 2 0 0 [.ref P] h (fun v h' => v = some (.int (nI (sizeS sq ru))) ∧ h' = h) := by
  refine Spec.of (by decide +kernel) (by simp [Value.category]) (Nat.le_of_ble_eq_true rfl) ?_
  show WP E k_X2_size 2 0 0 0 [some (.ref P), none, none] [] h _
  obtain ⟨g, hg, hg'⟩ := hP.arr
  have loop : ∀ m i, i + m = 60 → WP E k_X2_size 2 0 0 10 [some (.ref P), some (.int (nI (sq.length + sumB (fun r => (ru r).length) i))), some (.int (nI i))] [] h (fun v h' => v = some (.int (nI (sizeS sq ru))) ∧ h' = h) := by
    intro m
    induction m with
    | zero =>
      intro i hi
      refine R_iload_n dX2_size_10 rfl ?_
      refine R_bipush (v := nI 60) dX2_size_11 (by decide) ?_
      refine R_icmp_ge_N (tgt := 34) dX2_size_13 (by decide) (by omega) (by omega) (fun c13 => ?_) (fun c13 => ?_)
      -- X2_size: ('branch', 13, 34, 16)
      · refine R_iload_n dX2_size_34 rfl ?_
        refine R_ireturn dX2_size_35 rfl rfl ?_
        -- X2_size: ('ret', 35)
        exact ⟨by rw [show i = 60 by omega]; rfl, rfl⟩
      · exact absurd c13 (by omega)
    | succ m ih =>
      intro i hi
      have hr := hP.rul (i := i) (by omega)
      refine R_iload_n dX2_size_10 rfl ?_
      refine R_bipush (v := nI 60) dX2_size_11 (by decide) ?_
      refine R_icmp_ge_N (tgt := 34) dX2_size_13 (by decide) (by omega) (by omega) (fun c13 => ?_) (fun c13 => ?_)
      -- X2_size: ('branch', 13, 34, 16)
      · exact absurd c13 (by omega)
      · refine R_iload_n dX2_size_16 rfl ?_
        refine R_aload_n dX2_size_17 rfl ?_
        refine R_get K_2 (f := 1) (by decide) dX2_size_18 f_RX2_20 (by first | exact hP.1 | exact hg) rfl ?_
        refine R_iload_n dX2_size_21 rfl ?_
        refine R_aaloadRow_N dX2_size_22 (by first | exact hP.1 | exact hg) (by omega) (by omega) (hg' i (by omega)) ?_
        -- X2_size: ('call', 23, '.invokevirtual', 31)
        refine R_callV v_X6_size (Row_size hr) dX2_size_23 l_RX2_31 rfl rfl hr.2.2.1 (Nat.le_of_ble_eq_true rfl) (by omega) rfl rfl (fun v h1 hq => ?_)
        obtain ⟨rfl, rfl⟩ := hq
        have := ih (i + 1) (by omega)
        rw [sumB, ← Nat.add_assoc] at this
        refine R_iadd_N dX2_size_26 ?_
        refine R_istore1 dX2_size_27 (by decide) ?_
        refine R_iinc2 dX2_size_28 (by decide) (nI_inc _ 1) ?_
        refine R_goto (tgt := 10) dX2_size_31 (by decide) ?_
        -- X2_size: ('stop', 10)
        exact this
  refine R_aload_n dX2_size_0 rfl ?_
  refine R_get K_2 (f := 0) (by decide) dX2_size_1 f_RX2_14 hP.1 rfl ?_
  -- X2_size: ('call', 4, '.invokevirtual', 31)
  refine R_callV v_X6_size (Row_size hP.2.1) dX2_size_4 l_RX2_31 rfl rfl hP.2.1.2.2.1 (Nat.le_of_ble_eq_true rfl) (by omega) rfl rfl (fun v h1 hq => ?_)
  obtain ⟨rfl, rfl⟩ := hq
  refine R_istore1 dX2_size_7 (by decide) ?_
  refine R_iconst (v := nI 0) dX2_size_8 (by decide) ?_
  refine R_istore2 dX2_size_9 (by decide) ?_
  -- X2_size: ('stop', 10)
  exact loop 60 0 (by omega)
theorem Pack_usesOf (hP : PackAt E h P sq ru) {s : Nat} (hs : s < 65536) : Spec E k_X2_usesOf 2 0 0 [.ref P, .int (nI s)] h (fun v h' => v = some (.int (nI (usesS sq ru s))) ∧ h' = h) := by
  refine Spec.of (by decide +kernel) (by simp [Value.category]) (Nat.le_of_ble_eq_true rfl) ?_
  show WP E k_X2_usesOf 2 0 0 0 [some (.ref P), some (.int (nI s)), none, none] [] h _
  obtain ⟨g, hg, hg'⟩ := hP.arr
  have loop : ∀ m i, i + m = 60 → WP E k_X2_usesOf 2 0 0 11 [some (.ref P), some (.int (nI s)), some (.int (nI (sq.count s + sumB (fun r => (ru r).count s) i))), some (.int (nI i))] [] h (fun v h' => v = some (.int (nI (usesS sq ru s))) ∧ h' = h) := by
    intro m
    induction m with
    | zero =>
      intro i hi
      refine R_iload_n dX2_usesOf_11 rfl ?_
      refine R_bipush (v := nI 60) dX2_usesOf_12 (by decide) ?_
      refine R_icmp_ge_N (tgt := 36) dX2_usesOf_14 (by decide) (by omega) (by omega) (fun c14 => ?_) (fun c14 => ?_)
      -- X2_usesOf: ('branch', 14, 36, 17)
      · refine R_iload_n dX2_usesOf_36 rfl ?_
        refine R_ireturn dX2_usesOf_37 rfl rfl ?_
        -- X2_usesOf: ('ret', 37)
        exact ⟨by rw [show i = 60 by omega]; rfl, rfl⟩
      · exact absurd c14 (by omega)
    | succ m ih =>
      intro i hi
      have hr := hP.rul (i := i) (by omega)
      refine R_iload_n dX2_usesOf_11 rfl ?_
      refine R_bipush (v := nI 60) dX2_usesOf_12 (by decide) ?_
      refine R_icmp_ge_N (tgt := 36) dX2_usesOf_14 (by decide) (by omega) (by omega) (fun c14 => ?_) (fun c14 => ?_)
      -- X2_usesOf: ('branch', 14, 36, 17)
      · exact absurd c14 (by omega)
      · refine R_iload_n dX2_usesOf_17 rfl ?_
        refine R_aload_n dX2_usesOf_18 rfl ?_
        refine R_get K_2 (f := 1) (by decide) dX2_usesOf_19 f_RX2_20 (by first | exact hP.1 | exact hg) rfl ?_
        refine R_iload_n dX2_usesOf_22 rfl ?_
        refine R_aaloadRow_N dX2_usesOf_23 (by first | exact hP.1 | exact hg) (by omega) (by omega) (hg' i (by omega)) ?_
        refine R_iload_n dX2_usesOf_24 rfl ?_
        -- X2_usesOf: ('call', 25, '.invokevirtual', 49)
        refine R_callV v_X6_howMany (Row_howMany hr hs) dX2_usesOf_25 l_RX2_49 rfl rfl hr.2.2.1 (Nat.le_of_ble_eq_true rfl) (by omega) rfl rfl (fun v h1 hq => ?_)
        obtain ⟨rfl, rfl⟩ := hq
        have := ih (i + 1) (by omega)
        rw [sumB, ← Nat.add_assoc] at this
        refine R_iadd_N dX2_usesOf_28 ?_
        refine R_istore2 dX2_usesOf_29 (by decide) ?_
        refine R_iinc3 dX2_usesOf_30 (by decide) (nI_inc _ 1) ?_
        refine R_goto (tgt := 11) dX2_usesOf_33 (by decide) ?_
        -- X2_usesOf: ('stop', 11)
        exact this
  refine R_aload_n dX2_usesOf_0 rfl ?_
  refine R_get K_2 (f := 0) (by decide) dX2_usesOf_1 f_RX2_14 hP.1 rfl ?_
  refine R_iload_n dX2_usesOf_4 rfl ?_
  -- X2_usesOf: ('call', 5, '.invokevirtual', 49)
  refine R_callV v_X6_howMany (Row_howMany hP.2.1 hs) dX2_usesOf_5 l_RX2_49 rfl rfl hP.2.1.2.2.1 (Nat.le_of_ble_eq_true rfl) (by omega) rfl rfl (fun v h1 hq => ?_)
  obtain ⟨rfl, rfl⟩ := hq
  refine R_istore2 dX2_usesOf_8 (by decide) ?_
  refine R_iconst (v := nI 0) dX2_usesOf_9 (by decide) ?_
  refine R_istore3 dX2_usesOf_10 (by decide) ?_
  -- X2_usesOf: ('stop', 11)
  exact loop 60 0 (by omega)
theorem Pack_freeSign (hP : PackAt E h P sq ru) : Spec E k_X2_freeSign 2 0 0 [.ref P] h (fun v h' => v = some (.int (oI 26 (freeS ru))) ∧ h' = h) := by
  refine Spec.of (by decide +kernel) (by simp [Value.category]) (Nat.le_of_ble_eq_true rfl) ?_
  show WP E k_X2_freeSign 2 0 0 0 [some (.ref P), none] [] h _
  obtain ⟨g, hg, hg'⟩ := hP.arr
  have loop : ∀ m i, i + m = 60 → fstB (fun i => decide (ru i = [])) i = none → WP E k_X2_freeSign 2 0 0 2 [some (.ref P), some (.int (nI i))] [] h (fun v h' => v = some (.int (oI 26 (freeS ru))) ∧ h' = h) := by
    intro m
    induction m with
    | zero =>
      intro i hi h0
      refine R_iload_n dX2_freeSign_2 rfl ?_
      refine R_bipush (v := nI 60) dX2_freeSign_3 (by decide) ?_
      refine R_icmp_ge_N (tgt := 31) dX2_freeSign_5 (by decide) (by omega) (by omega) (fun c5 => ?_) (fun c5 => ?_)
      -- X2_freeSign: ('branch', 5, 31, 8)
      · refine R_iconst (v := (-1)) dX2_freeSign_31 (by decide) ?_
        refine R_ireturn dX2_freeSign_32 rfl rfl ?_
        -- X2_freeSign: ('ret', 32)
        exact ⟨by rw [freeS, show 60 = i by omega, h0]; rfl, rfl⟩
      · exact absurd c5 (by omega)
    | succ m ih =>
      intro i hi h0
      have hr := hP.rul (i := i) (by omega)
      have hl := hr.1
      refine R_iload_n dX2_freeSign_2 rfl ?_
      refine R_bipush (v := nI 60) dX2_freeSign_3 (by decide) ?_
      refine R_icmp_ge_N (tgt := 31) dX2_freeSign_5 (by decide) (by omega) (by omega) (fun c5 => ?_) (fun c5 => ?_)
      -- X2_freeSign: ('branch', 5, 31, 8)
      · exact absurd c5 (by omega)
      · refine R_aload_n dX2_freeSign_8 rfl ?_
        refine R_get K_2 (f := 1) (by decide) dX2_freeSign_9 f_RX2_20 (by first | exact hP.1 | exact hg) rfl ?_
        refine R_iload_n dX2_freeSign_12 rfl ?_
        refine R_aaloadRow_N dX2_freeSign_13 (by first | exact hP.1 | exact hg) (by omega) (by omega) (hg' i (by omega)) ?_
        -- X2_freeSign: ('call', 14, '.invokevirtual', 31)
        refine R_callV v_X6_size (Row_size hr) dX2_freeSign_14 l_RX2_31 rfl rfl hr.2.2.1 (Nat.le_of_ble_eq_true rfl) (by omega) rfl rfl (fun v h1 hq => ?_)
        obtain ⟨rfl, rfl⟩ := hq
        refine R_if_ne_N (tgt := 25) dX2_freeSign_17 (by decide) (by omega) (fun c17 => ?_) (fun c17 => ?_)
        -- X2_freeSign: ('branch', 17, 25, 20)
        · refine R_iinc1 dX2_freeSign_25 (by decide) (nI_inc _ 1) ?_
          refine R_goto (tgt := 2) dX2_freeSign_28 (by decide) ?_
          -- X2_freeSign: ('stop', 2)
          exact ih (i + 1) (by omega) (fstB_step h0 (by simpa using c17))
        · refine R_bipush (v := nI 26) dX2_freeSign_20 (by decide) ?_
          refine R_iload_n dX2_freeSign_22 rfl ?_
          refine R_iadd_N dX2_freeSign_23 ?_
          refine R_ireturn dX2_freeSign_24 rfl rfl ?_
          -- X2_freeSign: ('ret', 24)
          exact ⟨by rw [freeS, fstB_at h0 (by simpa using c17) (show i < 60 by omega)]; rfl, rfl⟩
  refine R_iconst (v := nI 0) dX2_freeSign_0 (by decide) ?_
  refine R_istore1 dX2_freeSign_1 (by decide) ?_
  -- X2_freeSign: ('stop', 2)
  exact loop 60 0 (by omega) rfl
theorem Pack_ruleOf (hP : PackAt E h P sq ru) {a b : Nat} (ha : a < 65536) (hb : b < 65536) : Spec E k_X2_ruleOf 2 0 0 [.ref P, .int (nI a), .int (nI b)] h (fun v h' => v = some (.int (oI 26 (ruleS ru a b))) ∧ h' = h) := by
  refine Spec.of (by decide +kernel) (by simp [Value.category]) (Nat.le_of_ble_eq_true rfl) ?_
  show WP E k_X2_ruleOf 2 0 0 0 [some (.ref P), some (.int (nI a)), some (.int (nI b)), none] [] h _
  obtain ⟨g, hg, hg'⟩ := hP.arr
  have loop : ∀ m i, i + m = 60 → fstB (fun i => decide (ru i = [a, b])) i = none → WP E k_X2_ruleOf 2 0 0 2 [some (.ref P), some (.int (nI a)), some (.int (nI b)), some (.int (nI i))] [] h (fun v h' => v = some (.int (oI 26 (ruleS ru a b))) ∧ h' = h) := by
    intro m
    induction m with
    | zero =>
      intro i hi h0
      refine R_iload_n dX2_ruleOf_2 rfl ?_
      refine R_bipush (v := nI 60) dX2_ruleOf_3 (by decide) ?_
      refine R_icmp_ge_N (tgt := 33) dX2_ruleOf_5 (by decide) (by omega) (by omega) (fun c5 => ?_) (fun c5 => ?_)
      -- X2_ruleOf: ('branch', 5, 33, 8)
      · refine R_iconst (v := (-1)) dX2_ruleOf_33 (by decide) ?_
        refine R_ireturn dX2_ruleOf_34 rfl rfl ?_
        -- X2_ruleOf: ('ret', 34)
        exact ⟨by rw [ruleS, show 60 = i by omega, h0]; rfl, rfl⟩
      · exact absurd c5 (by omega)
    | succ m ih =>
      intro i hi h0
      have hr := hP.rul (i := i) (by omega)
      refine R_iload_n dX2_ruleOf_2 rfl ?_
      refine R_bipush (v := nI 60) dX2_ruleOf_3 (by decide) ?_
      refine R_icmp_ge_N (tgt := 33) dX2_ruleOf_5 (by decide) (by omega) (by omega) (fun c5 => ?_) (fun c5 => ?_)
      -- X2_ruleOf: ('branch', 5, 33, 8)
      · exact absurd c5 (by omega)
      · refine R_aload_n dX2_ruleOf_8 rfl ?_
        refine R_get K_2 (f := 1) (by decide) dX2_ruleOf_9 f_RX2_20 (by first | exact hP.1 | exact hg) rfl ?_
        refine R_iload_n dX2_ruleOf_12 rfl ?_
        refine R_aaloadRow_N dX2_ruleOf_13 (by first | exact hP.1 | exact hg) (by omega) (by omega) (hg' i (by omega)) ?_
        refine R_iload_n dX2_ruleOf_14 rfl ?_
        refine R_iload_n dX2_ruleOf_15 rfl ?_
        -- X2_ruleOf: ('call', 16, '.invokevirtual', 53)
        refine R_callV v_X6_isPair (Row_isPair hr ha hb) dX2_ruleOf_16 l_RX2_53 rfl rfl hr.2.2.1 (Nat.le_of_ble_eq_true rfl) (by omega) rfl rfl (fun v h1 hq => ?_)
        obtain ⟨rfl, rfl⟩ := hq
        by_cases hp : ru i = [a, b]
        · rw [if_pos hp]
          refine R_if_eq_N (tgt := 27) dX2_ruleOf_19 (by decide) (by omega) (fun c19 => ?_) (fun c19 => ?_)
          -- X2_ruleOf: ('branch', 19, 27, 22)
          · exact absurd c19 (by decide)
          · refine R_bipush (v := nI 26) dX2_ruleOf_22 (by decide) ?_
            refine R_iload_n dX2_ruleOf_24 rfl ?_
            refine R_iadd_N dX2_ruleOf_25 ?_
            refine R_ireturn dX2_ruleOf_26 rfl rfl ?_
            -- X2_ruleOf: ('ret', 26)
            exact ⟨by rw [ruleS, fstB_at h0 (by simpa using hp) (show i < 60 by omega)]; rfl, rfl⟩
        · rw [if_neg hp]
          refine R_if_eq_N (tgt := 27) dX2_ruleOf_19 (by decide) (by omega) (fun c19 => ?_) (fun c19 => ?_)
          -- X2_ruleOf: ('branch', 19, 27, 22)
          · refine R_iinc3 dX2_ruleOf_27 (by decide) (nI_inc _ 1) ?_
            refine R_goto (tgt := 2) dX2_ruleOf_30 (by decide) ?_
            -- X2_ruleOf: ('stop', 2)
            exact ih (i + 1) (by omega) (fstB_step h0 (by simpa using hp))
          · exact absurd rfl c19
  refine R_iconst (v := nI 0) dX2_ruleOf_0 (by decide) ?_
  refine R_istore3 dX2_ruleOf_1 (by decide) ?_
  -- X2_ruleOf: ('stop', 2)
  exact loop 60 0 (by omega) rfl
theorem Pack_signFor (hP : PackAt E h P sq ru) {a b : Nat} (ha : a < 65536) (hb : b < 65536) : Spec E k_X2_signFor 3 0 0 [.ref P, .int (nI a), .int (nI b)] h (fun v h' => v = some (.int (oI 26 (signS ru a b))) ∧ h' = h) := by
  refine Spec.of (by decide +kernel) (by simp [Value.category]) (Nat.le_of_ble_eq_true rfl) ?_
  show WP E k_X2_signFor 3 0 0 0 [some (.ref P), some (.int (nI a)), some (.int (nI b)), none] [] h _
  refine R_aload_n dX2_signFor_0 rfl ?_
  refine R_iload_n dX2_signFor_1 rfl ?_
  refine R_iload_n dX2_signFor_2 rfl ?_
  -- X2_signFor: ('call', 3, '.invokevirtual', 57)
  refine R_callV v_X2_ruleOf (Pack_ruleOf hP ha hb) dX2_signFor_3 l_RX2_57 rfl rfl hP.1 (Nat.le_of_ble_eq_true rfl) (by omega) rfl rfl (fun v h1 hq => ?_)
  obtain ⟨rfl, rfl⟩ := hq
  cases hx : ruleS ru a b with
  | some i =>
    have hi := fst_lt hx
    have e : signS ru a b = some i := signS_1 hx
    rw [e]
    show WP E k_X2_signFor 3 0 0 6 [some (.ref P), some (.int (nI a)), some (.int (nI b)), none] [.int (nI (26 + i))] _ _
    refine R_istore3 dX2_signFor_6 (by decide) ?_
    refine R_iload_n dX2_signFor_7 rfl ?_
    refine R_iconst (v := (-1)) dX2_signFor_8 (by decide) ?_
    refine R_icmp_ne (tgt := 19) dX2_signFor_9 (by decide) (fun c9 => ?_) (fun c9 => ?_)
    -- X2_signFor: ('branch', 9, 19, 12)
    · refine R_iload_n dX2_signFor_19 rfl ?_
      refine R_ireturn dX2_signFor_20 rfl rfl ?_
      -- X2_signFor: ('ret', 20)
      exact ⟨rfl, rfl⟩
    · exact absurd c9 (nI_ne_m1 (by omega))
  | none =>
    have e : signS ru a b = freeS ru := signS_0 hx
    rw [e]
    show WP E k_X2_signFor 3 0 0 6 [some (.ref P), some (.int (nI a)), some (.int (nI b)), none] [.int (-1)] _ _
    refine R_istore3 dX2_signFor_6 (by decide) ?_
    refine R_iload_n dX2_signFor_7 rfl ?_
    refine R_iconst (v := (-1)) dX2_signFor_8 (by decide) ?_
    refine R_icmp_ne (tgt := 19) dX2_signFor_9 (by decide) (fun c9 => ?_) (fun c9 => ?_)
    -- X2_signFor: ('branch', 9, 19, 12)
    · exact absurd rfl c9
    · refine R_aload_n dX2_signFor_12 rfl ?_
      -- X2_signFor: ('call', 13, '.invokevirtual', 61)
      refine R_callV v_X2_freeSign (Pack_freeSign hP) dX2_signFor_13 l_RX2_61 rfl rfl hP.1 (Nat.le_of_ble_eq_true rfl) (by omega) rfl rfl (fun v h1 hq => ?_)
      obtain ⟨rfl, rfl⟩ := hq
      refine R_goto (tgt := 20) dX2_signFor_16 (by decide) ?_
      refine R_ireturn dX2_signFor_20 rfl rfl ?_
      -- X2_signFor: ('ret', 20)
      exact ⟨rfl, rfl⟩
theorem Pack_joinPair_none (hP : PackAt E h P sq ru) {a b : Nat} (ha : a < 65536) (hb : b < 65536) (hn : signS ru a b = none) : Spec E k_X2_joinPair 4 0 0 [.ref P, .int (nI a), .int (nI b)] h (fun v h' => v = some (.int (-1)) ∧ h' = h) := by
  refine Spec.of (by decide +kernel) (by simp [Value.category]) (Nat.le_of_ble_eq_true rfl) ?_
  show WP E k_X2_joinPair 4 0 0 0 [some (.ref P), some (.int (nI a)), some (.int (nI b)), none, none] [] h _
  refine R_aload_n dX2_joinPair_0 rfl ?_
  refine R_iload_n dX2_joinPair_1 rfl ?_
  refine R_iload_n dX2_joinPair_2 rfl ?_
  -- X2_joinPair: ('call', 3, '.invokevirtual', 64)
  refine R_callV v_X2_signFor (Pack_signFor hP ha hb) dX2_joinPair_3 l_RX2_64 rfl rfl hP.1 (Nat.le_of_ble_eq_true rfl) (by omega) rfl rfl (fun v h1 hq => ?_)
  obtain ⟨rfl, rfl⟩ := hq
  rw [hn]
  show WP E k_X2_joinPair 4 0 0 6 [some (.ref P), some (.int (nI a)), some (.int (nI b)), none, none] [.int (-1)] _ _
  refine R_istore3 dX2_joinPair_6 (by decide) ?_
  refine R_iload_n dX2_joinPair_7 rfl ?_
  refine R_iconst (v := (-1)) dX2_joinPair_8 (by decide) ?_
  refine R_icmp_ne (tgt := 14) dX2_joinPair_9 (by decide) (fun c9 => ?_) (fun c9 => ?_)
  -- X2_joinPair: ('branch', 9, 14, 12)
  · exact absurd rfl c9
  · refine R_iconst (v := (-1)) dX2_joinPair_12 (by decide) ?_
    refine R_ireturn dX2_joinPair_13 rfl rfl ?_
    -- X2_joinPair: ('ret', 13)
    exact ⟨rfl, rfl⟩
theorem Pack_joinPair (hP : PackAt E h P sq ru) {a b i : Nat} (ha : a < 65536) (hb : b < 65536) (hi : signS ru a b = some i) : Spec E k_X2_joinPair 4 0 0 [.ref P, .int (nI a), .int (nI b)] h (fun v h' => v = some (.int (nI (26 + i))) ∧ PackAt E h' P (joinL a b (26 + i) sq) (ruSet ru i [a, b]) ∧ Out h h' P (P + 126)) := by
  have hlt := signS_lt hi
  refine Spec.of (by decide +kernel) (by simp [Value.category]) (Nat.le_of_ble_eq_true rfl) ?_
  show WP E k_X2_joinPair 4 0 0 0 [some (.ref P), some (.int (nI a)), some (.int (nI b)), none, none] [] h _
  refine R_aload_n dX2_joinPair_0 rfl ?_
  refine R_iload_n dX2_joinPair_1 rfl ?_
  refine R_iload_n dX2_joinPair_2 rfl ?_
  -- X2_joinPair: ('call', 3, '.invokevirtual', 64)
  refine R_callV v_X2_signFor (Pack_signFor hP ha hb) dX2_joinPair_3 l_RX2_64 rfl rfl hP.1 (Nat.le_of_ble_eq_true rfl) (by omega) rfl rfl (fun v h1 hq => ?_)
  obtain ⟨rfl, rfl⟩ := hq
  rw [hi]
  show WP E k_X2_joinPair 4 0 0 6 [some (.ref P), some (.int (nI a)), some (.int (nI b)), none, none] [.int (nI (26 + i))] _ _
  refine R_istore3 dX2_joinPair_6 (by decide) ?_
  refine R_iload_n dX2_joinPair_7 rfl ?_
  refine R_iconst (v := (-1)) dX2_joinPair_8 (by decide) ?_
  refine R_icmp_ne (tgt := 14) dX2_joinPair_9 (by decide) (fun c9 => ?_) (fun c9 => ?_)
  -- X2_joinPair: ('branch', 9, 14, 12)
  · refine R_aload_n dX2_joinPair_14 rfl ?_
    refine R_iload_n dX2_joinPair_15 rfl ?_
    -- X2_joinPair: ('call', 16, '.invokevirtual', 27)
    refine R_callV v_X2_rowOf (Pack_rowOf hP (s := 26 + i) (by omega)) dX2_joinPair_16 l_RX2_27 rfl rfl hP.1 (Nat.le_of_ble_eq_true rfl) (by omega) rfl rfl (fun v h1 hq => ?_)
    obtain ⟨rfl, rfl⟩ := hq
    rw [rowA_in (by omega), Nat.add_sub_cancel_left]
    have hr := hP.rul hlt
    have fin : ∀ h2 ru2 x4, PackAt E h2 P sq ru2 → ru2 = ruSet ru i [a, b] → Out h1 h2 P (P + 126) → WP E k_X2_joinPair 4 0 0 41 [some (.ref P), some (.int (nI a)), some (.int (nI b)), some (.int (nI (26 + i))), x4] [] h2 (fun v h' => v = some (.int (nI (26 + i))) ∧ PackAt E h' P (joinL a b (26 + i) sq) (ruSet ru i [a, b]) ∧ Out h1 h' P (P + 126)) := by
      intro h2 ru2 x4 hP2 e o2
      refine R_aload_n dX2_joinPair_41 rfl ?_
      refine R_get K_2 (f := 0) (by decide) dX2_joinPair_42 f_RX2_14 hP2.1 rfl ?_
      refine R_iload_n dX2_joinPair_45 rfl ?_
      refine R_iload_n dX2_joinPair_46 rfl ?_
      refine R_iload_n dX2_joinPair_47 rfl ?_
      -- X2_joinPair: ('call', 48, '.invokevirtual', 70)
      refine R_callV v_X6_joinPairs (Row_joinPairs hP2.2.1 ha hb (s := 26 + i) (by omega)) dX2_joinPair_48 l_RX2_70 rfl rfl hP2.2.1.2.2.1 (Nat.le_of_ble_eq_true rfl) (by omega) rfl rfl (fun v h1 hq => ?_)
      obtain ⟨rfl, hr3, o3⟩ := hq
      refine R_iload_n dX2_joinPair_51 rfl ?_
      refine R_ireturn dX2_joinPair_52 rfl rfl ?_
      -- X2_joinPair: ('ret', 52)
      refine ⟨rfl, ?_, o2.trans (o3.mono (by omega) (by omega))⟩
      rw [← e]
      exact hP2.setSeq hr3 o3
    refine R_astore4 dX2_joinPair_19 (by decide) ?_
    refine R_aload dX2_joinPair_21 rfl ?_
    -- X2_joinPair: ('call', 23, '.invokevirtual', 31)
    refine R_callV v_X6_size (Row_size hr) dX2_joinPair_23 l_RX2_31 rfl rfl hr.2.2.1 (Nat.le_of_ble_eq_true rfl) (by omega) rfl rfl (fun v h1 hq => ?_)
    obtain ⟨rfl, rfl⟩ := hq
    have hl := hr.1
    refine R_if_ne_N (tgt := 41) dX2_joinPair_26 (by decide) (by omega) (fun c26 => ?_) (fun c26 => ?_)
    -- X2_joinPair: ('branch', 26, 41, 29)
    · refine fin _ ru _ hP ?_ Out.refl
      funext j
      by_cases hji : j = i
      · subst hji
        rcases signS_or hi with e | e
        · simp [ruSet, e]
        · rw [e] at c26; exact absurd rfl c26
      · simp [ruSet, hji]
    · have hz : ru i = [] := List.length_eq_zero_iff.mp c26
      rw [hz] at hr
      refine R_aload dX2_joinPair_29 rfl ?_
      refine R_iload_n dX2_joinPair_31 rfl ?_
      -- X2_joinPair: ('call', 32, '.invokevirtual', 67)
      refine R_callV v_X6_add (Row_add hr ha (by simp)) dX2_joinPair_32 l_RX2_67 rfl rfl hr.2.2.1 (Nat.le_of_ble_eq_true rfl) (by omega) rfl rfl (fun v h1 hq => ?_)
      obtain ⟨rfl, hr3, o3⟩ := hq
      refine R_aload dX2_joinPair_35 rfl ?_
      refine R_iload_n dX2_joinPair_37 rfl ?_
      -- X2_joinPair: ('call', 38, '.invokevirtual', 67)
      refine R_callV v_X6_add (Row_add hr3 hb (by simp)) dX2_joinPair_38 l_RX2_67 rfl rfl hr3.2.2.1 (Nat.le_of_ble_eq_true rfl) (by omega) rfl rfl (fun v h1 hq => ?_)
      obtain ⟨rfl, hr4, o4⟩ := hq
      exact fin _ _ _ (hP.setRule hlt hr4 (o3.trans o4)) rfl ((o3.trans o4).mono (by omega) (by omega))
  · exact absurd c9 (nI_ne_m1 (by omega))
end PACK2
