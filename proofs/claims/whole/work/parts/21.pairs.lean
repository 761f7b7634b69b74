/-! PAIRS: how often each stands in a row, none shared; their order -/
section DUP
variable {E : EnvT} {k : MI} {d mc ms pc : Nat} {L : List (Option Value)} {st : List Value} {h : Hp} {Q : Option Value → Hp → Prop}
theorem R_dup2 {va vb : Value} (hd : decode k.2.1 pc = .ok (.dup2, 1)) (hva : va.category = 1) (hvb : vb.category = 1) (kk : WP E k d mc ms (pc + 1) L (va :: vb :: va :: vb :: st) h Q) : WP E k d mc ms pc L (va :: vb :: st) h Q := by
  intro p e R s m args below meth c H locs cells slots KC KS Z ls C hL hR hlo h1 h2 h3 h4 kr
  exact lv_dup2_11 C.1 C.2.1 hd hva hvb (kk p e R s m args below meth c H locs cells slots KC KS Z ls C hL hR hlo h1 h2 h3 h4 kr)
end DUP
/-- the pair a b that stands at place i is counted -/
def gP (l : List Nat) (a b : Nat) : Nat → Bool
  | 0 => decide (l[0]? = some a ∧ l[1]? = some b)
  | i + 1 => decide (l[i + 1]? = some a ∧ l[i + 2]? = some b) && !gP l a b i
def cntG (l : List Nat) (a b : Nat) : Nat := cntB (gP l a b) l.length
theorem gP_at {l : List Nat} {a b i : Nat} (h : gP l a b i = true) : l[i]? = some a ∧ l[i + 1]? = some b := by
  cases i with
  | zero => exact of_decide_eq_true h
  | succ i =>
    rw [gP, Bool.and_eq_true] at h
    exact of_decide_eq_true h.1
theorem gP_ne {l : List Nat} {a b x y i : Nat} (hx : l[i]? = some x) (hy : l[i + 1]? = some y) (hab : a ≠ x ∨ b ≠ y) : gP l a b i = false := by
  cases hg : gP l a b i with
  | false => rfl
  | true =>
    obtain ⟨h1, h2⟩ := gP_at hg
    rw [hx] at h1
    rw [hy] at h2
    rcases hab with z | z
    · exact absurd (Option.some.inj h1).symm z
    · exact absurd (Option.some.inj h2).symm z
theorem gP_diff {l : List Nat} {x y i : Nat} (hx : l[i]? = some x) (hy : l[i + 1]? = some y) (hab : x ≠ y) : gP l x y i = true := by
  cases i with
  | zero => exact decide_eq_true ⟨hx, hy⟩
  | succ i =>
    rw [gP, Bool.and_eq_true]
    refine ⟨decide_eq_true ⟨hx, hy⟩, ?_⟩
    cases hg : gP l x y i with
    | false => rfl
    | true =>
      obtain ⟨h1, h2⟩ := gP_at hg
      rw [hx] at h2
      exact absurd (Option.some.inj h2) hab
theorem gP_out {l : List Nat} {a b i : Nat} (h : l.length ≤ i + 1) : gP l a b i = false := by
  cases hg : gP l a b i with
  | false => rfl
  | true =>
    obtain ⟨h1, h2⟩ := gP_at hg
    rw [List.getElem?_eq_none h] at h2
    cases h2
theorem cntG_pred {l : List Nat} {a b n : Nat} (h : l.length ≤ n + 1) : ∀ m, n ≤ m → cntB (gP l a b) m = cntB (gP l a b) n := by
  intro m hm
  induction m with
  | zero => rw [show n = 0 by omega]
  | succ m ih =>
    by_cases hmn : n = m + 1
    · rw [hmn]
    · rw [cntB, ih (by omega), gP_out (by omega)]
      rfl
theorem cntG_upto {l : List Nat} {a b n : Nat} (h : l.length ≤ n + 1) (hn : n ≤ l.length) : cntG l a b = cntB (gP l a b) n := cntG_pred h l.length hn
theorem cntG_le {l : List Nat} {a b : Nat} : cntG l a b ≤ l.length := cntB_le _ _
theorem cntB_pos {p : Nat → Bool} : ∀ {n}, 0 < cntB p n → ∃ i, i < n ∧ p i = true
  | 0, h => absurd h (by simp [cntB])
  | n + 1, h => by
    rw [cntB] at h
    by_cases hp : p n = true
    · exact ⟨n, by omega, hp⟩
    · rw [if_neg hp] at h
      obtain ⟨i, hi, hp⟩ := cntB_pos (p := p) (n := n) (by omega)
      exact ⟨i, by omega, hp⟩
theorem cntG_std {l : List Nat} {a b : Nat} (h : 0 < cntG l a b) : ∃ i, l[i]? = some a ∧ l[i + 1]? = some b := by
  obtain ⟨i, -, hi⟩ := cntB_pos h
  exact ⟨i, gP_at hi⟩
/-- the table of pairs at T -/
def PTAt (E : EnvT) (h : Hp) (T : Nat) (cf : Nat → Nat) (st : List Nat) : Prop :=
  h.2 T = some (.inr (3, [.ref (T + 1), .ref (T + 2)])) ∧ (∃ f, h.2 (T + 1) = some (.inl (E.2.2.1 0, 7396, .inl f)) ∧ ∀ p, p < 7396 → f p = nI (cf p)) ∧ RowAt E h (T + 2) 240 st
/-- what is told by the table whatever was told last: nothing is counted but what is in the list -/
def PTAny (E : EnvT) (h : Hp) (T : Nat) : Prop := ∃ cf st, PTAt E h T cf st ∧ (∀ p, p < 7396 → cf p = 0 ∨ p ∈ st) ∧ (∀ p ∈ st, p < 7396)
def pcf (l : List Nat) (p : Nat) : Nat := cntG l (p / 86) (p % 86)
def TalAt (E : EnvT) (h : Hp) (T : Nat) (l st : List Nat) : Prop := PTAt E h T (pcf l) st ∧ st.Nodup ∧ ∀ p, p ∈ st ↔ p < 7396 ∧ 0 < pcf l p
theorem PTAt.ag {E : EnvT} {h h1 : Hp} {T : Nat} {cf : Nat → Nat} {st : List Nat} (x : PTAt E h T cf st) (o : Ag h h1 T (T + 4)) : PTAt E h1 T cf st := by
  obtain ⟨h1, ⟨f, h2, h2'⟩, h3⟩ := x
  exact ⟨(o _ (by omega) (by omega)).trans h1, ⟨f, (o _ (by omega) (by omega)).trans h2, h2'⟩, h3.ag (o.sub (by omega) (by omega))⟩
theorem PTAny.ag {E : EnvT} {h h1 : Hp} {T : Nat} (x : PTAny E h T) (o : Ag h h1 T (T + 4)) : PTAny E h1 T := by
  obtain ⟨cf, st, a, b, c⟩ := x
  exact ⟨cf, st, a.ag o, b, c⟩
theorem TalAt.ag {E : EnvT} {h h1 : Hp} {T : Nat} {l st : List Nat} (x : TalAt E h T l st) (o : Ag h h1 T (T + 4)) : TalAt E h1 T l st := ⟨x.1.ag o, x.2⟩
theorem TalAt.any {E : EnvT} {h : Hp} {T : Nat} {l st : List Nat} (x : TalAt E h T l st) : PTAny E h T := by
  refine ⟨pcf l, st, x.1, fun p hp => ?_, fun p hp => ((x.2.2 p).mp hp).1⟩
  by_cases hz : pcf l p = 0
  · exact Or.inl hz
  · exact Or.inr ((x.2.2 p).mpr ⟨hp, by omega⟩)
section PAIRS
variable {E : EnvT} {h : Hp} {T : Nat} {l st : List Nat} {cf : Nat → Nat}
theorem PT_pairOf {a b : Nat} (ha : a < 86) (hb : b < 86) : Spec E k_X3_pairOf 1 0 0 [.int (nI a), .int (nI b)] h (fun v h' => v = some (.int (nI (86 * a + b))) ∧ h' = h) := by
  refine Spec.of (by decide +kernel) (by simp [Value.category]) (Nat.le_of_ble_eq_true rfl) ?_
  show WP E k_X3_pairOf 1 0 0 0 [some (.int (nI a)), some (.int (nI b)), none] [] h _
  refine R_iload_n dX3_pairOf_0 rfl ?_
  refine R_if_lt_N (tgt := 24) dX3_pairOf_1 (by decide) (by omega) ?_
  refine R_iload_n dX3_pairOf_4 rfl ?_
  refine R_bipush (v := nI 86) dX3_pairOf_5 (by decide) ?_
  refine R_icmp_ge_N (tgt := 24) dX3_pairOf_7 (by decide) (by omega) (by omega) (fun c7 => ?_) (fun c7 => ?_)
  -- X3_pairOf: ('branch', 7, 24, 10)
  · exact absurd c7 (by omega)
  · refine R_iload_n dX3_pairOf_10 rfl ?_
    refine R_if_lt_N (tgt := 24) dX3_pairOf_11 (by decide) (by omega) ?_
    refine R_iload_n dX3_pairOf_14 rfl ?_
    refine R_bipush (v := nI 86) dX3_pairOf_15 (by decide) ?_
    refine R_icmp_ge_N (tgt := 24) dX3_pairOf_17 (by decide) (by omega) (by omega) (fun c17 => ?_) (fun c17 => ?_)
    -- X3_pairOf: ('branch', 17, 24, 20)
    · exact absurd c17 (by omega)
    · refine R_iconst (v := nI 1) dX3_pairOf_20 (by decide) ?_
      refine R_goto (tgt := 25) dX3_pairOf_21 (by decide) ?_
      refine R_istore2 dX3_pairOf_25 (by decide) ?_
      refine R_iload_n dX3_pairOf_26 rfl ?_
      refine R_if_eq_N (tgt := 39) dX3_pairOf_27 (by decide) (by omega) (fun c27 => ?_) (fun c27 => ?_)
      -- X3_pairOf: ('branch', 27, 39, 30)
      · exact absurd c27 (by decide)
      · refine R_iload_n dX3_pairOf_30 rfl ?_
        refine R_bipush (v := nI 86) dX3_pairOf_31 (by decide) ?_
        refine R_imul_N dX3_pairOf_33 ?_
        refine R_iload_n dX3_pairOf_34 rfl ?_
        refine R_iadd_N dX3_pairOf_35 ?_
        refine R_goto (tgt := 40) dX3_pairOf_36 (by decide) ?_
        refine R_ireturn dX3_pairOf_40 rfl rfl ?_
        -- X3_pairOf: ('ret', 40)
        exact ⟨by rw [Nat.mul_comm], rfl⟩
theorem PT_leftOf {p : Nat} (hp : p < 7396) : Spec E k_X3_leftOf 1 0 0 [.int (nI p)] h (fun v h' => v = some (.int (nI (p / 86))) ∧ h' = h) := by
  refine Spec.of (by decide +kernel) (by simp [Value.category]) (Nat.le_of_ble_eq_true rfl) ?_
  show WP E k_X3_leftOf 1 0 0 0 [some (.int (nI p))] [] h _
  refine R_iload_n dX3_leftOf_0 rfl ?_
  refine R_bipush (v := nI 86) dX3_leftOf_1 (by decide) ?_
  refine R_idiv_N dX3_leftOf_3 (by omega) (by omega) (by omega) ?_
  refine R_ireturn dX3_leftOf_4 rfl rfl ?_
  -- X3_leftOf: ('ret', 4)
  exact ⟨rfl, rfl⟩
theorem PT_rightOf {p : Nat} (hp : p < 7396) : Spec E k_X3_rightOf 1 0 0 [.int (nI p)] h (fun v h' => v = some (.int (nI (p % 86))) ∧ h' = h) := by
  refine Spec.of (by decide +kernel) (by simp [Value.category]) (Nat.le_of_ble_eq_true rfl) ?_
  show WP E k_X3_rightOf 1 0 0 0 [some (.int (nI p))] [] h _
  refine R_iload_n dX3_rightOf_0 rfl ?_
  refine R_bipush (v := nI 86) dX3_rightOf_1 (by decide) ?_
  refine R_irem_N dX3_rightOf_3 (by omega) (by omega) (by omega) ?_
  refine R_ireturn dX3_rightOf_4 rfl rfl ?_
  -- X3_rightOf: ('ret', 4)
  exact ⟨rfl, rfl⟩
theorem PT_kinds (hT : PTAt E h T cf st) : Spec E k_X3_kinds 2 0 0 [.ref T] h (fun v h' => v = some (.int (nI st.length)) ∧ h' = h) := by
  refine Spec.of (by decide +kernel) (by simp [Value.category]) (Nat.le_of_ble_eq_true rfl) ?_
  show WP E k_X3_kinds 2 0 0 0 [some (.ref T)] [] h _
  refine R_aload_n dX3_kinds_0 rfl ?_
  refine R_get K_3 (f := 1) (by decide) dX3_kinds_1 f_RX3_20 hT.1 rfl ?_
  -- X3_kinds: ('call', 4, '.invokevirtual', 27)
  refine R_callV v_X6_size (Row_size hT.2.2) dX3_kinds_4 l_RX3_27 rfl rfl hT.2.2.2.2.1 (Nat.le_of_ble_eq_true rfl) (by omega) rfl rfl (fun v h1 hq => ?_)
  obtain ⟨rfl, e9⟩ := hq
  rw [e9]
  refine R_ireturn dX3_kinds_7 rfl rfl ?_
  -- X3_kinds: ('ret', 7)
  exact ⟨rfl, rfl⟩
theorem PT_pairAt (hT : PTAt E h T cf st) {i x : Nat} (hx : st[i]? = some x) : Spec E k_X3_pairAt 2 0 0 [.ref T, .int (nI i)] h (fun v h' => v = some (.int (nI x)) ∧ h' = h) := by
  have hi := (List.getElem?_eq_some_iff.mp hx).1
  have hl := hT.2.2.1
  refine Spec.of (by decide +kernel) (by simp [Value.category]) (Nat.le_of_ble_eq_true rfl) ?_
  show WP E k_X3_pairAt 2 0 0 0 [some (.ref T), some (.int (nI i))] [] h _
  refine R_aload_n dX3_pairAt_0 rfl ?_
  refine R_get K_3 (f := 1) (by decide) dX3_pairAt_1 f_RX3_20 hT.1 rfl ?_
  refine R_iload_n dX3_pairAt_4 rfl ?_
  -- X3_pairAt: ('call', 5, '.invokevirtual', 31)
  refine R_callV v_X6_get (Row_get hT.2.2 (nI i)) dX3_pairAt_5 l_RX3_31 rfl rfl hT.2.2.2.2.1 (Nat.le_of_ble_eq_true rfl) (by omega) rfl rfl (fun v h1 hq => ?_)
  obtain ⟨rfl, e9⟩ := hq
  rw [e9, rget_in (by omega) hx]
  refine R_ireturn dX3_pairAt_8 rfl rfl ?_
  -- X3_pairAt: ('ret', 8)
  exact ⟨rfl, rfl⟩
theorem PT_countOfPair (hT : PTAt E h T cf st) {p : Nat} (hp : p < 7396) : Spec E k_X3_countOfPair 1 0 0 [.ref T, .int (nI p)] h (fun v h' => v = some (.int (nI (cf p))) ∧ h' = h) := by
  obtain ⟨h1, ⟨f, h2, hf⟩, h3⟩ := hT
  refine Spec.of (by decide +kernel) (by simp [Value.category]) (Nat.le_of_ble_eq_true rfl) ?_
  show WP E k_X3_countOfPair 1 0 0 0 [some (.ref T), some (.int (nI p))] [] h _
  refine R_iload_n dX3_countOfPair_0 rfl ?_
  refine R_if_lt_N (tgt := 22) dX3_countOfPair_1 (by decide) (by omega) ?_
  refine R_iload_n dX3_countOfPair_4 rfl ?_
  refine R_aload_n dX3_countOfPair_5 rfl ?_
  refine R_get K_3 (f := 0) (by decide) dX3_countOfPair_6 f_RX3_9 (by first | exact h1 | exact h2) rfl ?_
  refine R_arraylength (t0 := 0) dX3_countOfPair_9 rfl (by first | exact h1 | exact h2) ?_
  refine R_icmp_ge_N (tgt := 22) dX3_countOfPair_10 (by decide) (by omega) (by omega) (fun c10 => ?_) (fun c10 => ?_)
  -- X3_countOfPair: ('branch', 10, 22, 13)
  · exact absurd c10 (by omega)
  · refine R_aload_n dX3_countOfPair_13 rfl ?_
    refine R_get K_3 (f := 0) (by decide) dX3_countOfPair_14 f_RX3_9 (by first | exact h1 | exact h2) rfl ?_
    refine R_iload_n dX3_countOfPair_17 rfl ?_
    refine R_iaload_N dX3_countOfPair_18 (by first | exact h1 | exact h2) (by omega) (by omega) (hf p hp) ?_
    refine R_goto (tgt := 23) dX3_countOfPair_19 (by decide) ?_
    refine R_ireturn dX3_countOfPair_23 rfl rfl ?_
    -- X3_countOfPair: ('ret', 23)
    exact ⟨rfl, rfl⟩
theorem PT_countOf (hT : PTAt E h T cf st) {a b : Nat} (ha : a < 86) (hb : b < 86) : Spec E k_X3_countOf 2 0 0 [.ref T, .int (nI a), .int (nI b)] h (fun v h' => v = some (.int (nI (cf (86 * a + b)))) ∧ h' = h) := by
  refine Spec.of (by decide +kernel) (by simp [Value.category]) (Nat.le_of_ble_eq_true rfl) ?_
  show WP E k_X3_countOf 2 0 0 0 [some (.ref T), some (.int (nI a)), some (.int (nI b))] [] h _
  refine R_aload_n dX3_countOf_0 rfl ?_
  refine R_iload_n dX3_countOf_1 rfl ?_
  refine R_iload_n dX3_countOf_2 rfl ?_
  -- X3_countOf: ('call', 3, '.invokestatic', 35)
  refine R_callS s_X3_pairOf (PT_pairOf ha hb) dX3_countOf_3 l_RX3_35 rfl rfl (Nat.le_of_ble_eq_true rfl) (by omega) rfl rfl (fun v h1 hq => ?_)
  obtain ⟨rfl, e9⟩ := hq
  rw [e9]
  refine R_callV v_X3_countOfPair (PT_countOfPair hT (p := 86 * a + b) (by omega)) dX3_countOf_6 l_RX3_42 rfl rfl hT.1 (Nat.le_of_ble_eq_true rfl) (by omega) rfl rfl (fun v h1 hq => ?_)
  obtain ⟨rfl, e9⟩ := hq
  rw [e9]
  refine R_ireturn dX3_countOf_9 rfl rfl ?_
  -- X3_countOf: ('ret', 9)
  exact ⟨rfl, rfl⟩
theorem PT_forget (hT : PTAny E h T) : Spec E k_X3_forget 2 0 0 [.ref T] h (fun v h' => v = none ∧ PTAt E h' T (fun _ => 0) [] ∧ Out h h' T (T + 4)) := by
  obtain ⟨cf, st, hT, hz, hst⟩ := hT
  refine Spec.of (by decide +kernel) (by simp [Value.category]) (Nat.le_of_ble_eq_true rfl) ?_
  show WP E k_X3_forget 2 0 0 0 [some (.ref T), none, none] [] h _
  have loop : ∀ m i h2 f, i + m = st.length → h2.2 T = some (.inr (3, [.ref (T + 1), .ref (T + 2)])) → h2.2 (T + 1) = some (.inl (E.2.2.1 0, 7396, .inl f)) → RowAt E h2 (T + 2) 240 st → (∀ p, p < 7396 → f p = nI 0 ∨ p ∈ st.drop i) → Out h h2 T (T + 4) → ∀ x2, WP E k_X3_forget 2 0 0 2 [some (.ref T), some (.int (nI i)), x2] [] h2 (fun v h' => v = none ∧ PTAt E h' T (fun _ => 0) [] ∧ Out h h' T (T + 4)) := by
    intro m
    induction m with
    | zero =>
      intro i h2 f hi g1 g2 g3 hf o2 x2
      have hl := g3.1
      refine R_iload_n dX3_forget_2 rfl ?_
      refine R_aload_n dX3_forget_3 rfl ?_
      refine R_get K_3 (f := 1) (by decide) dX3_forget_4 f_RX3_20 g1 rfl ?_
      -- X3_forget: ('call', 7, '.invokevirtual', 27)
      refine R_callV v_X6_size (Row_size g3) dX3_forget_7 l_RX3_27 rfl rfl g3.2.2.1 (Nat.le_of_ble_eq_true rfl) (by omega) rfl rfl (fun v h1 hq => ?_)
      obtain ⟨rfl, e9⟩ := hq
      rw [e9]
      refine R_icmp_ge_N (tgt := 48) dX3_forget_10 (by decide) (by omega) (by omega) (fun c10 => ?_) (fun c10 => ?_)
      -- X3_forget: ('branch', 10, 48, 13)
      · refine R_aload_n dX3_forget_48 rfl ?_
        refine R_get K_3 (f := 1) (by decide) dX3_forget_49 f_RX3_20 g1 rfl ?_
        -- X3_forget: ('call', 52, '.invokevirtual', 55)
        refine R_callV v_X6_clear (Row_clear g3) dX3_forget_52 l_RX3_55 rfl rfl g3.2.2.1 (Nat.le_of_ble_eq_true rfl) (by omega) rfl rfl (fun v h1 hq => ?_)
        obtain ⟨rfl, h4, o4⟩ := hq
        refine R_return dX3_forget_55 rfl ?_
        -- X3_forget: ('ret', 55)
        refine ⟨rfl, ⟨(o4.2 _ (by omega)).trans g1, ⟨f, (o4.2 _ (by omega)).trans g2, fun p hp => ?_⟩, h4⟩, o2.trans (o4.mono (by omega) (by omega))⟩
        rcases hf p hp with z | z
        · exact z
        · rw [List.drop_eq_nil_of_le (by omega)] at z
          simp at z
      · exact absurd c10 (by omega)
    | succ m ih =>
      intro i h2 f hi g1 g2 g3 hf o2 x2
      have hl := g3.1
      obtain ⟨x, hx⟩ := getE (l := st) (i := i) (by omega)
      have hxl := hst x (List.mem_of_getElem? hx)
      refine R_iload_n dX3_forget_2 rfl ?_
      refine R_aload_n dX3_forget_3 rfl ?_
      refine R_get K_3 (f := 1) (by decide) dX3_forget_4 f_RX3_20 g1 rfl ?_
      -- X3_forget: ('call', 7, '.invokevirtual', 27)
      refine R_callV v_X6_size (Row_size g3) dX3_forget_7 l_RX3_27 rfl rfl g3.2.2.1 (Nat.le_of_ble_eq_true rfl) (by omega) rfl rfl (fun v h1 hq => ?_)
      obtain ⟨rfl, e9⟩ := hq
      rw [e9]
      refine R_icmp_ge_N (tgt := 48) dX3_forget_10 (by decide) (by omega) (by omega) (fun c10 => ?_) (fun c10 => ?_)
      -- X3_forget: ('branch', 10, 48, 13)
      · exact absurd c10 (by omega)
      · refine R_aload_n dX3_forget_13 rfl ?_
        refine R_get K_3 (f := 1) (by decide) dX3_forget_14 f_RX3_20 g1 rfl ?_
        refine R_iload_n dX3_forget_17 rfl ?_
        -- X3_forget: ('call', 18, '.invokevirtual', 31)
        refine R_callV v_X6_get (Row_get g3 (nI i)) dX3_forget_18 l_RX3_31 rfl rfl g3.2.2.1 (Nat.le_of_ble_eq_true rfl) (by omega) rfl rfl (fun v h1 hq => ?_)
        obtain ⟨rfl, e9⟩ := hq
        rw [e9, rget_in (by omega) hx]
        refine R_istore2 dX3_forget_21 (by decide) ?_
        refine R_iload_n dX3_forget_22 rfl ?_
        refine R_if_lt_N (tgt := 42) dX3_forget_23 (by decide) (by omega) ?_
        refine R_iload_n dX3_forget_26 rfl ?_
        refine R_aload_n dX3_forget_27 rfl ?_
        refine R_get K_3 (f := 0) (by decide) dX3_forget_28 f_RX3_9 (by first | exact g1 | exact g2) rfl ?_
        refine R_arraylength (t0 := 0) dX3_forget_31 rfl (by first | exact g1 | exact g2) ?_
        refine R_icmp_ge_N (tgt := 42) dX3_forget_32 (by decide) (by omega) (by omega) (fun c32 => ?_) (fun c32 => ?_)
        -- X3_forget: ('branch', 32, 42, 35)
        · exact absurd c32 (by omega)
        · refine R_aload_n dX3_forget_35 rfl ?_
          refine R_get K_3 (f := 0) (by decide) dX3_forget_36 f_RX3_9 (by first | exact g1 | exact g2) rfl ?_
          refine R_iload_n dX3_forget_39 rfl ?_
          refine R_iconst (v := nI 0) dX3_forget_40 (by decide) ?_
          refine R_iastore_N dX3_forget_41 (by first | exact g1 | exact g2) (by omega) (by omega) ?_
          -- X3_forget: ('put', 42)
          intro h4 u4
          have o4 : Out h2 h4 (T + 1) (T + 2) := Out.upd u4 (by omega) (by omega)
          refine R_iinc1 dX3_forget_42 (by decide) (nI_inc _ 1) ?_
          refine R_goto (tgt := 2) dX3_forget_45 (by decide) ?_
          -- X3_forget: ('stop', 2)
          refine ih (i + 1) h4 _ (by omega) ((o4.2 _ (by omega)).trans g1) u4.2.1 (g3.out o4 (by omega)) (fun p hp => ?_) (o2.trans (o4.mono (by omega) (by omega))) _
          by_cases hpx : p = x
          · subst hpx; exact Or.inl (by simp [upd])
          · rw [upd, if_neg hpx]
            rcases hf p hp with z | z
            · exact Or.inl z
            · right
              obtain ⟨hlt, hv⟩ := List.getElem?_eq_some_iff.mp hx
              rw [List.drop_eq_getElem_cons hlt, hv] at z
              exact (List.mem_cons.mp z).resolve_left hpx
  obtain ⟨h1, ⟨f, h2, hf⟩, h3⟩ := hT
  refine R_iconst (v := nI 0) dX3_forget_0 (by decide) ?_
  refine R_istore1 dX3_forget_1 (by decide) ?_
  -- X3_forget: ('stop', 2)
  exact loop st.length 0 h f (by omega) h1 h2 h3 (fun p hp => (hz p hp).elim (fun z => Or.inl (by rw [hf p hp, z])) (fun z => Or.inr (by rw [List.drop_zero]; exact z))) Out.refl _
/-- one more of a pair -/
theorem PT_addOne (hT : PTAt E h T cf st) {p : Nat} (hp : p < 7396) (hc : cf p < 1000) (hs : cf p = 0 → st.length < 240) : Spec E k_X3_addOne 2 0 0 [.ref T, .int (nI p)] h (fun v h' => v = none ∧ PTAt E h' T (fun q => if q = p then cf p + 1 else cf q) (if cf p = 0 then st ++ [p] else st) ∧ Out h h' T (T + 4)) := by
  obtain ⟨k1, ⟨f, k2, hf⟩, k3⟩ := hT
  refine Spec.of (by decide +kernel) (by simp [Value.category]) (Nat.le_of_ble_eq_true rfl) ?_
  show WP E k_X3_addOne 2 0 0 0 [some (.ref T), some (.int (nI p))] [] h _
  have fin : ∀ h4 st', h4.2 T = some (.inr (3, [.ref (T + 1), .ref (T + 2)])) → h4.2 (T + 1) = some (.inl (E.2.2.1 0, 7396, .inl f)) → RowAt E h4 (T + 2) 240 st' → Out h h4 T (T + 4) → WP E k_X3_addOne 2 0 0 31 [some (.ref T), some (.int (nI p))] [] h4 (fun v h' => v = none ∧ PTAt E h' T (fun q => if q = p then cf p + 1 else cf q) st' ∧ Out h h' T (T + 4)) := by
    intro h4 st' b1 b2 b3 o4
    refine R_aload_n dX3_addOne_31 rfl ?_
    refine R_get K_3 (f := 0) (by decide) dX3_addOne_32 f_RX3_9 (by first | exact b1 | exact b2) rfl ?_
    refine R_iload_n dX3_addOne_35 rfl ?_
    refine R_dup2 dX3_addOne_36 rfl rfl ?_
    refine R_iaload_N dX3_addOne_37 (by first | exact b1 | exact b2) (by omega) (by omega) (hf p hp) ?_
    refine R_iconst (v := nI 1) dX3_addOne_38 (by decide) ?_
    refine R_iadd_N dX3_addOne_39 ?_
    refine R_iastore_N dX3_addOne_40 (by first | exact b1 | exact b2) (by omega) (by omega) ?_
    -- X3_addOne: ('put', 41)
    intro h5 u5
    refine R_return dX3_addOne_41 rfl ?_
    -- X3_addOne: ('ret', 41)
    have o5 : Out h4 h5 (T + 1) (T + 2) := Out.upd u5 (by omega) (by omega)
    refine ⟨rfl, ⟨(o5.2 _ (by omega)).trans b1, ⟨_, u5.2.1, fun q hq => ?_⟩, b3.out o5 (by omega)⟩, o4.trans (o5.mono (by omega) (by omega))⟩
    by_cases hqp : q = p
    · subst hqp; simp [upd]
    · simp only [upd, if_neg hqp]; exact hf q hq
  refine R_iload_n dX3_addOne_0 rfl ?_
  refine R_if_lt_N (tgt := 13) dX3_addOne_1 (by decide) (by omega) ?_
  refine R_iload_n dX3_addOne_4 rfl ?_
  refine R_aload_n dX3_addOne_5 rfl ?_
  refine R_get K_3 (f := 0) (by decide) dX3_addOne_6 f_RX3_9 (by first | exact k1 | exact k2) rfl ?_
  refine R_arraylength (t0 := 0) dX3_addOne_9 rfl (by first | exact k1 | exact k2) ?_
  refine R_icmp_lt_N (tgt := 14) dX3_addOne_10 (by decide) (by omega) (by omega) (fun c10 => ?_) (fun c10 => ?_)
  -- X3_addOne: ('branch', 10, 14, 13)
  · refine R_aload_n dX3_addOne_14 rfl ?_
    refine R_get K_3 (f := 0) (by decide) dX3_addOne_15 f_RX3_9 (by first | exact k1 | exact k2) rfl ?_
    refine R_iload_n dX3_addOne_18 rfl ?_
    refine R_iaload_N dX3_addOne_19 (by first | exact k1 | exact k2) (by omega) (by omega) (hf p hp) ?_
    refine R_if_ne_N (tgt := 31) dX3_addOne_20 (by decide) (by omega) (fun c20 => ?_) (fun c20 => ?_)
    -- X3_addOne: ('branch', 20, 31, 23)
    · rw [if_neg c20]
      exact fin h st k1 k2 k3 Out.refl
    · rw [if_pos c20]
      refine R_aload_n dX3_addOne_23 rfl ?_
      refine R_get K_3 (f := 1) (by decide) dX3_addOne_24 f_RX3_20 k1 rfl ?_
      refine R_iload_n dX3_addOne_27 rfl ?_
      -- X3_addOne: ('call', 28, '.invokevirtual', 52)
      refine R_callV v_X6_add (Row_add k3 (x := p) (by omega) (hs c20)) dX3_addOne_28 l_RX3_52 rfl rfl k3.2.2.1 (Nat.le_of_ble_eq_true rfl) (by omega) rfl rfl (fun v h1 hq => ?_)
      obtain ⟨rfl, h4, o4⟩ := hq
      exact fin _ _ ((o4.2 _ (by omega)).trans k1) ((o4.2 _ (by omega)).trans k2) h4 (o4.mono (by omega) (by omega))
  · exact absurd c10 (by omega)
end PAIRS
