/-! PACKING: a block of 126 cells from P: the sequence, the rules' array, the empty row, the rules' rows -/
abbrev Ru : Type := Nat → List Nat
/-- how many below n; their sum; the first one -/
def cntB (p : Nat → Bool) : Nat → Nat
  | 0 => 0
  | n + 1 => cntB p n + if p n then 1 else 0
def sumB (f : Nat → Nat) : Nat → Nat
  | 0 => 0
  | n + 1 => sumB f n + f n
def fstB (p : Nat → Bool) : Nat → Option Nat
  | 0 => none
  | n + 1 => match fstB p n with
    | some i => some i
    | none => if p n then some n else none
theorem cntB_le (p : Nat → Bool) : ∀ n, cntB p n ≤ n
  | 0 => Nat.le_refl _
  | n + 1 => by have := cntB_le p n; rw [cntB]; split <;> omega
theorem sumB_le {f : Nat → Nat} {c : Nat} (hf : ∀ i, f i ≤ c) : ∀ n, sumB f n ≤ n * c
  | 0 => by simp [sumB]
  | n + 1 => by have := sumB_le hf n; have := hf n; rw [sumB, Nat.add_mul]; omega
theorem sumB_le2 {f : Nat → Nat} {c : Nat} : ∀ n, (∀ i, i < n → f i ≤ c) → sumB f n ≤ n * c
  | 0, _ => by simp [sumB]
  | n + 1, hf => by have := sumB_le2 n (fun i hi => hf i (by omega)); have := hf n (by omega); rw [sumB, Nat.add_mul]; omega
theorem fstB_none {p : Nat → Bool} : ∀ {n}, fstB p n = none → ∀ j, j < n → p j = false
  | 0, _, j, hj => absurd hj (by omega)
  | n + 1, h, j, hj => by
    rw [fstB] at h
    cases hx : fstB p n with
    | some k => rw [hx] at h; cases h
    | none =>
      rw [hx] at h
      simp only at h
      split at h
      · cases h
      · rename_i hp
        by_cases hjn : j = n
        · subst hjn; simpa using hp
        · exact fstB_none hx j (by omega)
theorem fstB_some {p : Nat → Bool} {i : Nat} : ∀ {n}, fstB p n = some i → i < n ∧ p i = true ∧ ∀ j, j < i → p j = false
  | 0, h => by simp [fstB] at h
  | n + 1, h => by
    rw [fstB] at h
    cases hx : fstB p n with
    | some k =>
      rw [hx] at h
      cases h
      obtain ⟨a, b, c⟩ := fstB_some hx
      exact ⟨by omega, b, c⟩
    | none =>
      rw [hx] at h
      simp only at h
      split at h
      · cases h
        rename_i hp
        refine ⟨by omega, hp, fun j hj => ?_⟩
        exact fstB_none hx j hj
      · cases h
/-- the first one is found when all ahead are not -/
theorem fstB_at {p : Nat → Bool} {i : Nat} (h0 : fstB p i = none) (h1 : p i = true) : ∀ {n}, i < n → fstB p n = some i
  | 0, h => absurd h (by omega)
  | n + 1, h => by
    rw [fstB]
    by_cases hin : i = n
    · subst hin; rw [h0]; simp [h1]
    · rw [fstB_at h0 h1 (by omega)]
theorem fstB_step {p : Nat → Bool} {i : Nat} (h0 : fstB p i = none) (h1 : p i = false) : fstB p (i + 1) = none := by rw [fstB, h0]; simp [h1]
/-- the answer of a search: off and the place, NONE -/
def oI (off : Nat) : Option Nat → Int32
  | some i => nI (off + i)
  | none => -1
def PackAt (E : EnvT) (h : Hp) (P : Nat) (sq : List Nat) (ru : Ru) : Prop :=
  h.2 P = some (.inr (2, [.ref (P + 1), .ref (P + 3), .ref (P + 4)])) ∧ RowAt E h (P + 1) 240 sq ∧ (∃ g : Nat → Option Nat, h.2 (P + 3) = some (.inl (E.2.2.1 3, 60, .inr (.inr (.inr (.inr g))))) ∧ ∀ i, i < 60 → g i = some (P + 6 + 2 * i)) ∧ RowAt E h (P + 4) 0 [] ∧ ∀ i, i < 60 → RowAt E h (P + 6 + 2 * i) 12 (ru i)
abbrev isRul (ru : Ru) (s : Nat) : Prop := 26 ≤ s ∧ s < 86 ∧ ru (s - 26) ≠ []
abbrev isSg (ru : Ru) (s : Nat) : Prop := s < 26 ∨ isRul ru s
def rowA (P s : Nat) : Nat := if 26 ≤ s ∧ s < 86 then P + 6 + 2 * (s - 26) else P + 4
def rowC (s : Nat) : Nat := if 26 ≤ s ∧ s < 86 then 12 else 0
def rowOf (ru : Ru) (s : Nat) : List Nat := if 26 ≤ s ∧ s < 86 then ru (s - 26) else []
theorem rowA_in {P s : Nat} (h : 26 ≤ s ∧ s < 86) : rowA P s = P + 6 + 2 * (s - 26) := if_pos h
theorem rowOf_in {ru : Ru} {s : Nat} (h : 26 ≤ s ∧ s < 86) : rowOf ru s = ru (s - 26) := if_pos h
theorem rowC_in {s : Nat} (h : 26 ≤ s ∧ s < 86) : rowC s = 12 := if_pos h
theorem PackAt.out {E : EnvT} {h h1 : Hp} {P a b : Nat} {sq : List Nat} {ru : Ru} (x : PackAt E h P sq ru) (o : Out h h1 a b) (hd : P + 126 ≤ a ∨ b ≤ P) : PackAt E h1 P sq ru := by
  obtain ⟨h1, h2, ⟨g, h3, h3'⟩, h4, h5⟩ := x
  exact ⟨(o.2 P (by omega)).trans h1, h2.out o (by omega), ⟨g, (o.2 _ (by omega)).trans h3, h3'⟩, h4.out o (by omega), fun i hi => (h5 i hi).out o (by omega)⟩
theorem PackAt.setSeq {E : EnvT} {h h1 : Hp} {P : Nat} {sq sq' : List Nat} {ru : Ru} (x : PackAt E h P sq ru) (hR : RowAt E h1 (P + 1) 240 sq') (o : Out h h1 (P + 1) (P + 1 + 2)) : PackAt E h1 P sq' ru := by
  obtain ⟨h1, h2, ⟨g, h3, h3'⟩, h4, h5⟩ := x
  exact ⟨(o.2 P (by omega)).trans h1, hR, ⟨g, (o.2 _ (by omega)).trans h3, h3'⟩, h4.out o (by omega), fun i hi => (h5 i hi).out o (by omega)⟩
def ruSet (ru : Ru) (i : Nat) (l : List Nat) : Ru := fun j => if j = i then l else ru j
theorem PackAt.setRule {E : EnvT} {h h1 : Hp} {P i : Nat} {sq l : List Nat} {ru : Ru} (x : PackAt E h P sq ru) (hi : i < 60) (hR : RowAt E h1 (P + 6 + 2 * i) 12 l) (o : Out h h1 (P + 6 + 2 * i) (P + 6 + 2 * i + 2)) : PackAt E h1 P sq (ruSet ru i l) := by
  obtain ⟨h1, h2, ⟨g, h3, h3'⟩, h4, h5⟩ := x
  refine ⟨(o.2 P (by omega)).trans h1, h2.out o (by omega), ⟨g, (o.2 _ (by omega)).trans h3, h3'⟩, h4.out o (by omega), fun j hj => ?_⟩
  by_cases hji : j = i
  · subst hji; simpa [ruSet] using hR
  · simp only [ruSet, if_neg hji]
    exact (h5 j hj).out o (by omega)
theorem PackAt.row {E : EnvT} {h : Hp} {P s : Nat} {sq : List Nat} {ru : Ru} (x : PackAt E h P sq ru) : RowAt E h (rowA P s) (rowC s) (rowOf ru s) := by
  simp only [rowA, rowC, rowOf]
  split
  · exact x.2.2.2.2 _ (by omega)
  · exact x.2.2.2.1
section PACK
variable {E : EnvT} {h : Hp} {P : Nat} {sq : List Nat} {ru : Ru}
theorem isLetter_N {s : Nat} (hs : s < 2 ^ 31) : Spec E k_X9_isLetter 1 0 0 [.int (nI s)] h (fun v h' => v = some (.int (nI (if s < 26 then 1 else 0))) ∧ h' = h) := by
  refine Spec.of (by decide +kernel) (by simp [Value.category]) (Nat.le_of_ble_eq_true rfl) ?_
  show WP E k_X9_isLetter 1 0 0 0 [some (.int (nI s))] [] h _
  refine R_iload_n dX9_isLetter_0 rfl ?_
  refine R_if_lt_N (tgt := 14) dX9_isLetter_1 (by decide) (by omega) ?_
  refine R_iload_n dX9_isLetter_4 rfl ?_
  refine R_bipush (v := nI 26) dX9_isLetter_5 (by decide) ?_
  refine R_icmp_ge_N (tgt := 14) dX9_isLetter_7 (by decide) (by omega) (by omega) (fun c7 => ?_) (fun c7 => ?_)
  -- X9_isLetter: ('branch', 7, 14, 10)
  · refine R_iconst (v := nI 0) dX9_isLetter_14 (by decide) ?_
    refine R_ireturn dX9_isLetter_15 rfl (by rfl) ?_
    -- X9_isLetter: ('ret', 15)
    exact ⟨by rw [if_neg (by omega)], rfl⟩
  · refine R_iconst (v := nI 1) dX9_isLetter_10 (by decide) ?_
    refine R_goto (tgt := 15) dX9_isLetter_11 (by decide) ?_
    refine R_ireturn dX9_isLetter_15 rfl (by rfl) ?_
    -- X9_isLetter: ('ret', 15)
    exact ⟨by rw [if_pos c7], rfl⟩
theorem isLetter_neg {s : Int32} (hs : s < 0) : Spec E k_X9_isLetter 1 0 0 [.int s] h (fun v h' => v = some (.int (nI 0)) ∧ h' = h) := by
  refine Spec.of (by decide +kernel) (by simp [Value.category]) (Nat.le_of_ble_eq_true rfl) ?_
  show WP E k_X9_isLetter 1 0 0 0 [some (.int s)] [] h _
  refine R_iload_n dX9_isLetter_0 rfl ?_
  refine R_if_lt (tgt := 14) dX9_isLetter_1 (by decide) (fun c1 => ?_) (fun c1 => ?_)
  -- X9_isLetter: ('branch', 1, 14, 4)
  · refine R_iconst (v := nI 0) dX9_isLetter_14 (by decide) ?_
    refine R_ireturn dX9_isLetter_15 rfl (by rfl) ?_
    -- X9_isLetter: ('ret', 15)
    exact ⟨rfl, rfl⟩
  · exact absurd hs c1
theorem Pack_sequence (hP : PackAt E h P sq ru) : Spec E k_X2_sequence 1 0 0 [.ref P] h (fun v h' => v = some (.ref (P + 1)) ∧ h' = h) := by
  refine Spec.of (by decide +kernel) (by simp [Value.category]) (Nat.le_of_ble_eq_true rfl) ?_
  show WP E k_X2_sequence 1 0 0 0 [some (.ref P)] [] h _
  refine R_aload_n dX2_sequence_0 rfl ?_
  refine R_get K_2 (f := 0) (by decide) dX2_sequence_1 f_RX2_14 hP.1 rfl ?_
  refine R_areturn dX2_sequence_4 rfl ?_
  -- X2_sequence: ('ret', 4)
  exact ⟨rfl, rfl⟩
theorem Pack_rowOf (hP : PackAt E h P sq ru) {s : Nat} (hs : s < 2 ^ 31) : Spec E k_X2_rowOf 1 0 0 [.ref P, .int (nI s)] h (fun v h' => v = some (.ref (rowA P s)) ∧ h' = h) := by
  refine Spec.of (by decide +kernel) (by simp [Value.category]) (Nat.le_of_ble_eq_true rfl) ?_
  show WP E k_X2_rowOf 1 0 0 0 [some (.ref P), some (.int (nI s))] [] h _
  obtain ⟨hp, hsq, ⟨g, hg, hg'⟩, hno, hru⟩ := hP
  refine R_iload_n dX2_rowOf_0 rfl ?_
  refine R_bipush (v := nI 26) dX2_rowOf_1 (by decide) ?_
  refine R_icmp_lt_N (tgt := 24) dX2_rowOf_3 (by decide) (by omega) (by omega) (fun c3 => ?_) (fun c3 => ?_)
  -- X2_rowOf: ('branch', 3, 24, 6)
  · refine R_aload_n dX2_rowOf_24 rfl ?_
    refine R_get K_2 (f := 2) (by decide) dX2_rowOf_25 f_RX2_24 (by first | exact hp | exact hg) rfl ?_
    refine R_areturn dX2_rowOf_28 rfl ?_
    -- X2_rowOf: ('ret', 28)
    exact ⟨by rw [rowA, if_neg (by omega)], rfl⟩
  · refine R_iload_n dX2_rowOf_6 rfl ?_
    refine R_bipush (v := nI 86) dX2_rowOf_7 (by decide) ?_
    refine R_icmp_ge_N (tgt := 24) dX2_rowOf_9 (by decide) (by omega) (by omega) (fun c9 => ?_) (fun c9 => ?_)
    -- X2_rowOf: ('branch', 9, 24, 12)
    · refine R_aload_n dX2_rowOf_24 rfl ?_
      refine R_get K_2 (f := 2) (by decide) dX2_rowOf_25 f_RX2_24 (by first | exact hp | exact hg) rfl ?_
      refine R_areturn dX2_rowOf_28 rfl ?_
      -- X2_rowOf: ('ret', 28)
      exact ⟨by rw [rowA, if_neg (by omega)], rfl⟩
    · refine R_aload_n dX2_rowOf_12 rfl ?_
      refine R_get K_2 (f := 1) (by decide) dX2_rowOf_13 f_RX2_20 (by first | exact hp | exact hg) rfl ?_
      refine R_iload_n dX2_rowOf_16 rfl ?_
      refine R_bipush (v := nI 26) dX2_rowOf_17 (by decide) ?_
      refine R_isub_N dX2_rowOf_19 (by omega) ?_
      refine R_aaloadRow_N dX2_rowOf_20 (by first | exact hp | exact hg) (by omega) (by omega) (hg' (s - 26) (by omega)) ?_
      refine R_goto (tgt := 28) dX2_rowOf_21 (by decide) ?_
      refine R_areturn dX2_rowOf_28 rfl ?_
      -- X2_rowOf: ('ret', 28)
      exact ⟨by rw [rowA, if_pos (by omega)], rfl⟩
theorem Pack_rowOf_neg (hP : PackAt E h P sq ru) {s : Int32} (hs : s < 0) : Spec E k_X2_rowOf 1 0 0 [.ref P, .int s] h (fun v h' => v = some (.ref (P + 4)) ∧ h' = h) := by
  refine Spec.of (by decide +kernel) (by simp [Value.category]) (Nat.le_of_ble_eq_true rfl) ?_
  show WP E k_X2_rowOf 1 0 0 0 [some (.ref P), some (.int s)] [] h _
  obtain ⟨hp, hsq, ⟨g, hg, hg'⟩, hno, hru⟩ := hP
  refine R_iload_n dX2_rowOf_0 rfl ?_
  refine R_bipush (v := nI 26) dX2_rowOf_1 (by decide) ?_
  refine R_icmp_lt (tgt := 24) dX2_rowOf_3 (by decide) (fun c3 => ?_) (fun c3 => ?_)
  -- X2_rowOf: ('branch', 3, 24, 6)
  · refine R_aload_n dX2_rowOf_24 rfl ?_
    refine R_get K_2 (f := 2) (by decide) dX2_rowOf_25 f_RX2_24 hp rfl ?_
    refine R_areturn dX2_rowOf_28 rfl ?_
    -- X2_rowOf: ('ret', 28)
    exact ⟨rfl, rfl⟩
  · refine absurd ?_ c3
    have := Int32.lt_iff_toInt_lt.mp hs
    rw [Int32.lt_iff_toInt_lt]
    have e0 : (nI 26).toInt = 26 := by decide
    have e1 : (0 : Int32).toInt = 0 := by decide
    omega
theorem Pack_isRule (hP : PackAt E h P sq ru) {s : Nat} (hs : s < 2 ^ 31) : Spec E k_X2_isRule 2 0 0 [.ref P, .int (nI s)] h (fun v h' => v = some (.int (nI (if isRul ru s then 1 else 0))) ∧ h' = h) := by
  refine Spec.of (by decide +kernel) (by simp [Value.category]) (Nat.le_of_ble_eq_true rfl) ?_
  show WP E k_X2_isRule 2 0 0 0 [some (.ref P), some (.int (nI s))] [] h _
  refine R_aload_n dX2_isRule_0 rfl ?_
  refine R_iload_n dX2_isRule_1 rfl ?_
  -- X2_isRule: ('call', 2, '.invokevirtual', 27)
  refine R_callV v_X2_rowOf (Pack_rowOf hP hs) dX2_isRule_2 l_RX2_27 rfl rfl hP.1 (Nat.le_of_ble_eq_true rfl) (by omega) rfl rfl (fun v h1 hq => ?_)
  obtain ⟨rfl, rfl⟩ := hq
  have hr := hP.row (s := s)
  refine R_callV v_X6_size (Row_size hr) dX2_isRule_5 l_RX2_31 rfl rfl hr.2.2.1 (Nat.le_of_ble_eq_true rfl) (by omega) rfl rfl (fun v h1 hq => ?_)
  obtain ⟨rfl, rfl⟩ := hq
  have hl := hr.1
  have hcc : rowC s ≤ 12 := by simp only [rowC]; split <;> omega
  refine R_if_le_N (tgt := 15) dX2_isRule_8 (by decide) (by omega) (fun c8 => ?_) (fun c8 => ?_)
  -- X2_isRule: ('branch', 8, 15, 11)
  · refine R_iconst (v := nI 0) dX2_isRule_15 (by decide) ?_
    refine R_ireturn dX2_isRule_16 rfl (by rfl) ?_
    -- X2_isRule: ('ret', 16)
    refine ⟨?_, rfl⟩
    rw [if_neg]
    rintro ⟨e1, e2, e3⟩
    rw [rowOf_in ⟨e1, e2⟩] at c8
    exact e3 (List.length_eq_zero_iff.mp c8)
  · refine R_iconst (v := nI 1) dX2_isRule_11 (by decide) ?_
    refine R_goto (tgt := 16) dX2_isRule_12 (by decide) ?_
    refine R_ireturn dX2_isRule_16 rfl (by rfl) ?_
    -- X2_isRule: ('ret', 16)
    refine ⟨?_, rfl⟩
    rw [if_pos]
    by_cases hin : 26 ≤ s ∧ s < 86
    · rw [rowOf_in hin] at c8
      exact ⟨hin.1, hin.2, fun e => by rw [e] at c8; simp at c8⟩
    · rw [rowOf, if_neg hin] at c8
      simp at c8
theorem Pack_isRule_neg (hP : PackAt E h P sq ru) {s : Int32} (hs : s < 0) : Spec E k_X2_isRule 2 0 0 [.ref P, .int s] h (fun v h' => v = some (.int (nI 0)) ∧ h' = h) := by
  refine Spec.of (by decide +kernel) (by simp [Value.category]) (Nat.le_of_ble_eq_true rfl) ?_
  show WP E k_X2_isRule 2 0 0 0 [some (.ref P), some (.int s)] [] h _
  refine R_aload_n dX2_isRule_0 rfl ?_
  refine R_iload_n dX2_isRule_1 rfl ?_
  -- X2_isRule: ('call', 2, '.invokevirtual', 27)
  refine R_callV v_X2_rowOf (Pack_rowOf_neg hP hs) dX2_isRule_2 l_RX2_27 rfl rfl hP.1 (Nat.le_of_ble_eq_true rfl) (by omega) rfl rfl (fun v h1 hq => ?_)
  obtain ⟨rfl, rfl⟩ := hq
  have hr := hP.2.2.2.1
  refine R_callV v_X6_size (Row_size hr) dX2_isRule_5 l_RX2_31 rfl rfl hr.2.2.1 (Nat.le_of_ble_eq_true rfl) (by omega) rfl rfl (fun v h1 hq => ?_)
  obtain ⟨rfl, rfl⟩ := hq
  refine R_if_le_N (tgt := 15) dX2_isRule_8 (by decide) (by decide) (fun c8 => ?_) (fun c8 => ?_)
  -- X2_isRule: ('branch', 8, 15, 11)
  · refine R_iconst (v := nI 0) dX2_isRule_15 (by decide) ?_
    refine R_ireturn dX2_isRule_16 rfl (by rfl) ?_
    -- X2_isRule: ('ret', 16)
    exact ⟨rfl, rfl⟩
  · exact absurd c8 (by decide)
theorem Pack_has (hP : PackAt E h P sq ru) {s : Nat} (hs : s < 2 ^ 31) : Spec E k_X2_has 3 0 0 [.ref P, .int (nI s)] h (fun v h' => v = some (.int (nI (if isSg ru s then 1 else 0))) ∧ h' = h) := by
  refine Spec.of (by decide +kernel) (by simp [Value.category]) (Nat.le_of_ble_eq_true rfl) ?_
  show WP E k_X2_has 3 0 0 0 [some (.ref P), some (.int (nI s))] [] h _
  refine R_iload_n dX2_has_0 rfl ?_
  -- X2_has: ('call', 1, '.invokestatic', 35)
  refine R_callSN s_X9_isLetter (isLetter_N hs) dX2_has_1 l_RX2_35 rfl rfl (Nat.le_of_ble_eq_true rfl) (by omega) rfl rfl (fun v h1 hq => ?_)
  obtain ⟨rfl, rfl⟩ := hq
  by_cases hl : s < 26
  · rw [if_pos hl, if_pos (Or.inl hl)]
    refine R_if_ne_N (tgt := 15) dX2_has_4 (by decide) (by omega) (fun c4 => ?_) (fun c4 => ?_)
    -- X2_has: ('branch', 4, 15, 7)
    · refine R_iconst (v := nI 1) dX2_has_15 (by decide) ?_
      refine R_goto (tgt := 20) dX2_has_16 (by decide) ?_
      refine R_ireturn dX2_has_20 rfl (by rfl) ?_
      -- X2_has: ('ret', 20)
      exact ⟨rfl, rfl⟩
    · exact absurd c4 (by decide)
  · rw [if_neg hl]
    refine R_if_ne_N (tgt := 15) dX2_has_4 (by decide) (by omega) (fun c4 => ?_) (fun c4 => ?_)
    -- X2_has: ('branch', 4, 15, 7)
    · exact absurd rfl c4
    · refine R_aload_n dX2_has_7 rfl ?_
      refine R_iload_n dX2_has_8 rfl ?_
      -- X2_has: ('call', 9, '.invokevirtual', 39)
      refine R_callV v_X2_isRule (Pack_isRule hP hs) dX2_has_9 l_RX2_39 rfl rfl hP.1 (Nat.le_of_ble_eq_true rfl) (by omega) rfl rfl (fun v h1 hq => ?_)
      obtain ⟨rfl, rfl⟩ := hq
      by_cases hr : isRul ru s
      · rw [if_pos hr, if_pos (Or.inr hr)]
        refine R_if_eq_N (tgt := 19) dX2_has_12 (by decide) (by omega) (fun c12 => ?_) (fun c12 => ?_)
        -- X2_has: ('branch', 12, 19, 15)
        · exact absurd c12 (by decide)
        · refine R_iconst (v := nI 1) dX2_has_15 (by decide) ?_
          refine R_goto (tgt := 20) dX2_has_16 (by decide) ?_
          refine R_ireturn dX2_has_20 rfl (by rfl) ?_
          -- X2_has: ('ret', 20)
          exact ⟨rfl, rfl⟩
      · rw [if_neg hr, if_neg (fun z => z.elim hl hr)]
        refine R_if_eq_N (tgt := 19) dX2_has_12 (by decide) (by omega) (fun c12 => ?_) (fun c12 => ?_)
        -- X2_has: ('branch', 12, 19, 15)
        · refine R_iconst (v := nI 0) dX2_has_19 (by decide) ?_
          refine R_ireturn dX2_has_20 rfl (by rfl) ?_
          -- X2_has: ('ret', 20)
          exact ⟨rfl, rfl⟩
        · exact absurd rfl c12
theorem Pack_has_neg (hP : PackAt E h P sq ru) {s : Int32} (hs : s < 0) : Spec E k_X2_has 3 0 0 [.ref P, .int s] h (fun v h' => v = some (.int (nI 0)) ∧ h' = h) := by
  refine Spec.of (by decide +kernel) (by simp [Value.category]) (Nat.le_of_ble_eq_true rfl) ?_
  show WP E k_X2_has 3 0 0 0 [some (.ref P), some (.int s)] [] h _
  refine R_iload_n dX2_has_0 rfl ?_
  -- X2_has: ('call', 1, '.invokestatic', 35)
  refine R_callSN s_X9_isLetter (isLetter_neg hs) dX2_has_1 l_RX2_35 rfl rfl (Nat.le_of_ble_eq_true rfl) (by omega) rfl rfl (fun v h1 hq => ?_)
  obtain ⟨rfl, rfl⟩ := hq
  refine R_if_ne_N (tgt := 15) dX2_has_4 (by decide) (by omega) (fun c4 => ?_) (fun c4 => ?_)
  -- X2_has: ('branch', 4, 15, 7)
  · exact absurd rfl c4
  · refine R_aload_n dX2_has_7 rfl ?_
    refine R_iload_n dX2_has_8 rfl ?_
    -- X2_has: ('call', 9, '.invokevirtual', 39)
    refine R_callV v_X2_isRule (Pack_isRule_neg hP hs) dX2_has_9 l_RX2_39 rfl rfl hP.1 (Nat.le_of_ble_eq_true rfl) (by omega) rfl rfl (fun v h1 hq => ?_)
    obtain ⟨rfl, rfl⟩ := hq
    refine R_if_eq_N (tgt := 19) dX2_has_12 (by decide) (by omega) (fun c12 => ?_) (fun c12 => ?_)
    -- X2_has: ('branch', 12, 19, 15)
    · refine R_iconst (v := nI 0) dX2_has_19 (by decide) ?_
      refine R_ireturn dX2_has_20 rfl (by rfl) ?_
      -- X2_has: ('ret', 20)
      exact ⟨rfl, rfl⟩
    · exact absurd rfl c12
end PACK
