/-! PAIRS in their order -/
abbrev ahd (cf : Nat → Nat) (p q : Nat) : Prop := cf q < cf p ∨ cf p = cf q ∧ p < q
def beh (cf : Nat → Nat) : Option Nat → Nat → Prop
  | none, _ => True
  | some p, q => ahd cf p q
def IsNext (cf : Nat → Nat) (st : List Nat) (prev : Option Nat) : Option Nat → Prop
  | none => ∀ q ∈ st, 2 ≤ cf q → ¬ beh cf prev q
  | some x => x ∈ st ∧ 2 ≤ cf x ∧ beh cf prev x ∧ ∀ q ∈ st, 2 ≤ cf q → beh cf prev q → q = x ∨ ahd cf x q
def nA (cf : Nat → Nat) (n x : Nat) : Nat := cntB (fun q => decide (2 ≤ cf q ∧ ahd cf q x)) n
def tot (cf : Nat → Nat) (n : Nat) : Nat := cntB (fun q => decide (2 ≤ cf q)) n
/-- the pair that is i-th by the order, or that there are not so many -/
def RankIs (cf : Nat → Nat) (i : Nat) : Option Nat → Prop
  | none => tot cf 7396 ≤ i
  | some x => x < 7396 ∧ 2 ≤ cf x ∧ nA cf 7396 x = i
theorem cntB_ext {p q : Nat → Bool} : ∀ {n}, (∀ j, j < n → p j = q j) → cntB p n = cntB q n
  | 0, _ => rfl
  | n + 1, h => by rw [cntB, cntB, cntB_ext (n := n) (fun j hj => h j (by omega)), h n (by omega)]
theorem cntB_ins {p q : Nat → Bool} {x : Nat} : ∀ {n}, x < n → p x = false → q x = true → (∀ j, j < n → j ≠ x → q j = p j) → cntB q n = cntB p n + 1
  | 0, h, _, _, _ => absurd h (by omega)
  | n + 1, h, h1, h2, h3 => by
    rw [cntB, cntB]
    by_cases hx : x = n
    · subst hx
      rw [h1, h2, cntB_ext (p := q) (q := p) (fun j hj => h3 j (by omega) (by omega))]
      simp
    · rw [cntB_ins (n := n) (by omega) h1 h2 (fun j hj hn => h3 j (by omega) hn), h3 n (by omega) (fun e => hx e.symm)]
      omega
theorem cntB_zero {p : Nat → Bool} : ∀ {n}, (∀ j, j < n → p j = false) → cntB p n = 0
  | 0, _ => rfl
  | n + 1, h => by rw [cntB, cntB_zero (n := n) (fun j hj => h j (by omega)), h n (by omega)]; rfl
theorem cntB_mem {p : Nat → Bool} {l : List Nat} : ∀ n, (∀ j, j < n → p j = true → j ∈ l) → cntB p n ≤ l.countP (fun x => decide (x < n))
  | 0, _ => Nat.zero_le _
  | n + 1, h => by
    have ih := cntB_mem n (fun j hj => h j (by omega))
    have key : ∀ l : List Nat, l.countP (fun x => decide (x < n)) + (if n ∈ l then 1 else 0) ≤ l.countP (fun x => decide (x < n + 1)) := by
      intro l
      induction l with
      | nil => simp
      | cons a l ihl =>
        have hm : (if n ∈ a :: l then 1 else 0) ≤ (if a = n then 1 else 0) + (if n ∈ l then (1 : Nat) else 0) := by
          by_cases e1 : a = n
          · subst e1; simp
          · have e1' : ¬ n = a := fun e => e1 e.symm
            by_cases e2 : n ∈ l <;> simp [e1', e2]
        have hd : (if decide (a < n) = true then 1 else 0) + (if a = n then 1 else 0) ≤ (if decide (a < n + 1) = true then (1 : Nat) else 0) := by
          rcases Nat.lt_trichotomy a n with c | c | c
          · rw [if_pos (by simpa using c), if_neg (by omega), if_pos (decide_eq_true (by omega))]; omega
          · subst c; rw [if_neg (by simp), if_pos rfl, if_pos (decide_eq_true (by omega))]; omega
          · rw [if_neg (fun z => absurd (of_decide_eq_true z) (by omega)), if_neg (by omega)]; omega
        rw [List.countP_cons, List.countP_cons]
        omega
    have := key l
    rw [cntB]
    by_cases hp : p n = true
    · rw [if_pos hp]
      rw [if_pos (h n (by omega) hp)] at this
      omega
    · rw [if_neg hp]
      omega
theorem ahd_irr {cf : Nat → Nat} {p : Nat} : ¬ ahd cf p p := by rintro (h | h) <;> omega
theorem ahd_tot {cf : Nat → Nat} {p q : Nat} (h : p ≠ q) : ahd cf p q ∨ ahd cf q p := by
  rcases Nat.lt_trichotomy (cf p) (cf q) with a | a | a
  · exact Or.inr (Or.inl a)
  · rcases Nat.lt_or_gt_of_ne h with b | b
    · exact Or.inl (Or.inr ⟨a, b⟩)
    · exact Or.inr (Or.inr ⟨a.symm, b⟩)
  · exact Or.inl (Or.inl a)
theorem ahd_asym {cf : Nat → Nat} {p q : Nat} (h : ahd cf p q) : ¬ ahd cf q p := by
  rcases h with h | h <;> rintro (g | g) <;> omega
theorem ahd_trans {cf : Nat → Nat} {p q r : Nat} (h : ahd cf p q) (g : ahd cf q r) : ahd cf p r := by
  rcases h with h | h <;> rcases g with g | g
  · exact Or.inl (by omega)
  · exact Or.inl (by omega)
  · exact Or.inl (by omega)
  · exact Or.inr ⟨by omega, by omega⟩
section RANKM
variable {cf : Nat → Nat} {st : List Nat} {n : Nat}
theorem next_first (hst : ∀ p, p ∈ st ↔ p < n ∧ 0 < cf p) {x : Nat} (h : IsNext cf st none (some x)) : x < n ∧ 2 ≤ cf x ∧ nA cf n x = 0 := by
  obtain ⟨h1, h2, -, h3⟩ := h
  refine ⟨((hst x).mp h1).1, h2, cntB_zero (fun j hj => decide_eq_false ?_)⟩
  rintro ⟨a, b⟩
  rcases h3 j ((hst j).mpr ⟨hj, by omega⟩) a trivial with c | c
  · subst c; exact ahd_irr b
  · exact ahd_asym b c
theorem next_none (hst : ∀ p, p ∈ st ↔ p < n ∧ 0 < cf p) (h : IsNext cf st none none) : tot cf n = 0 := by
  refine cntB_zero (fun j hj => decide_eq_false (fun a => ?_))
  exact h j ((hst j).mpr ⟨hj, by omega⟩) a trivial
theorem next_succ (hst : ∀ p, p ∈ st ↔ p < n ∧ 0 < cf p) {p x k : Nat} (hp : p < n) (hp2 : 2 ≤ cf p) (hk : nA cf n p = k) (h : IsNext cf st (some p) (some x)) : x < n ∧ 2 ≤ cf x ∧ nA cf n x = k + 1 := by
  obtain ⟨h1, h2, h4, h3⟩ := h
  have h4 : ahd cf p x := h4
  refine ⟨((hst x).mp h1).1, h2, ?_⟩
  rw [← hk]
  refine cntB_ins hp (decide_eq_false (fun z => ahd_irr z.2)) (decide_eq_true ⟨hp2, h4⟩) (fun j hj hne => ?_)
  refine decide_eq_decide.mpr ?_
  constructor
  · rintro ⟨a, b⟩
    refine ⟨a, ?_⟩
    rcases ahd_tot (cf := cf) hne with c | c
    · exact c
    · rcases h3 j ((hst j).mpr ⟨hj, by omega⟩) a c with d | d
      · subst d; exact absurd b ahd_irr
      · exact absurd b (ahd_asym d)
  · rintro ⟨a, b⟩
    exact ⟨a, ahd_trans b h4⟩
theorem next_end (hst : ∀ p, p ∈ st ↔ p < n ∧ 0 < cf p) {p k : Nat} (hp : p < n) (hp2 : 2 ≤ cf p) (hk : nA cf n p = k) (h : IsNext cf st (some p) none) : tot cf n = k + 1 := by
  rw [← hk]
  refine cntB_ins hp (decide_eq_false (fun z => ahd_irr z.2)) (decide_eq_true hp2) (fun j hj hne => ?_)
  refine decide_eq_decide.mpr ?_
  constructor
  · intro a
    refine ⟨a, ?_⟩
    rcases ahd_tot (cf := cf) hne with c | c
    · exact c
    · exact absurd c (h j ((hst j).mpr ⟨hj, by omega⟩) a)
  · exact fun z => z.1
theorem nA_lt_tot {x : Nat} (hx : x < n) (h2 : 2 ≤ cf x) : nA cf n x < tot cf n := by
  refine (cntB_lt (p := fun q => decide (2 ≤ cf q)) (q := fun q => decide (2 ≤ cf q ∧ ahd cf q x)) (i := x) (fun j hj => ?_) (decide_eq_true h2) (decide_eq_false (fun z => ahd_irr z.2)) n).1 hx
  exact decide_eq_true (of_decide_eq_true hj).1
theorem nA_mono {x y : Nat} (hx : x < n) (h2 : 2 ≤ cf x) (h : ahd cf x y) : nA cf n x < nA cf n y := by
  refine (cntB_lt (p := fun q => decide (2 ≤ cf q ∧ ahd cf q y)) (q := fun q => decide (2 ≤ cf q ∧ ahd cf q x)) (i := x) (fun j hj => ?_) (decide_eq_true ⟨h2, h⟩) (decide_eq_false (fun z => ahd_irr z.2)) n).1 hx
  have := of_decide_eq_true hj
  exact decide_eq_true ⟨this.1, ahd_trans this.2 h⟩
end RANKM
/-- there is one answer -/
theorem RankIs.uniq {cf : Nat → Nat} {i : Nat} {a b : Option Nat} (ha : RankIs cf i a) (hb : RankIs cf i b) : a = b := by
  cases a with
  | none =>
    cases b with
    | none => rfl
    | some y =>
      obtain ⟨h1, h2, h3⟩ := hb
      have := nA_lt_tot h1 h2
      have ha : tot cf 7396 ≤ i := ha
      omega
  | some x =>
    obtain ⟨g1, g2, g3⟩ := ha
    cases b with
    | none =>
      have := nA_lt_tot g1 g2
      have hb : tot cf 7396 ≤ i := hb
      omega
    | some y =>
      obtain ⟨h1, h2, h3⟩ := hb
      by_cases e : x = y
      · rw [e]
      · rcases ahd_tot (cf := cf) e with c | c
        · have := nA_mono g1 g2 c; omega
        · have := nA_mono h1 h2 c; omega
section RANK
variable {E : EnvT} {h : Hp} {T : Nat} {l st : List Nat} {cf : Nat → Nat}
theorem PT_isAhead (hT : PTAt E h T cf st) {p q : Nat} (hp : p < 7396) (hq : q < 7396) (cp : cf p < 1000) (cq : cf q < 1000) : Spec E k_X3_isAhead 2 0 0 [.ref T, .int (nI p), .int (nI q)] h (fun v h' => v = some (.int (nI (if ahd cf p q then 1 else 0))) ∧ h' = h) := by
  have ht : (nI (cf p) - nI (cf q)).toInt = (cf p : Int) - cf q := pk_sub_toInt (by omega) (by omega)
  have h0 : (0 : Int32).toInt = 0 := by decide
  refine Spec.of (by decide +kernel) (by simp [Value.category]) (Nat.le_of_ble_eq_true rfl) ?_
  show WP E k_X3_isAhead 2 0 0 0 [some (.ref T), some (.int (nI p)), some (.int (nI q)), none] [] h _
  refine R_aload_n dX3_isAhead_0 rfl ?_
  refine R_iload_n dX3_isAhead_1 rfl ?_
  -- X3_isAhead: ('call', 2, '.invokevirtual', 42)
  refine R_callV v_X3_countOfPair (PT_countOfPair hT hp) dX3_isAhead_2 l_RX3_42 rfl rfl hT.1 (Nat.le_of_ble_eq_true rfl) (by omega) rfl rfl (fun v h1 hq => ?_)
  obtain ⟨rfl, e9⟩ := hq
  rw [e9]
  refine R_aload_n dX3_isAhead_5 rfl ?_
  refine R_iload_n dX3_isAhead_6 rfl ?_
  -- X3_isAhead: ('call', 7, '.invokevirtual', 42)
  refine R_callV v_X3_countOfPair (PT_countOfPair hT hq) dX3_isAhead_7 l_RX3_42 rfl rfl hT.1 (Nat.le_of_ble_eq_true rfl) (by omega) rfl rfl (fun v h1 hq => ?_)
  obtain ⟨rfl, e9⟩ := hq
  rw [e9]
  refine R_isub dX3_isAhead_10 ?_
  refine R_istore3 dX3_isAhead_11 (by decide) ?_
  refine R_iload_n dX3_isAhead_12 rfl ?_
  refine R_if_gt (tgt := 25) dX3_isAhead_13 (by decide) (fun c13 => ?_) (fun c13 => ?_)
  -- X3_isAhead: ('branch', 13, 25, 16)
  · have c := Int32.lt_iff_toInt_lt.mp c13
    rw [ht, h0] at c
    refine R_iconst (v := nI 1) dX3_isAhead_25 (by decide) ?_
    refine R_goto (tgt := 30) dX3_isAhead_26 (by decide) ?_
    refine R_ireturn dX3_isAhead_30 rfl (by rfl) ?_
    -- X3_isAhead: ('ret', 30)
    exact ⟨by rw [if_pos (Or.inl (by omega))], rfl⟩
  · have c := mt Int32.lt_iff_toInt_lt.mpr c13
    rw [ht, h0] at c
    refine R_iload_n dX3_isAhead_16 rfl ?_
    refine R_if_ne (tgt := 29) dX3_isAhead_17 (by decide) (fun c17 => ?_) (fun c17 => ?_)
    -- X3_isAhead: ('branch', 17, 29, 20)
    · have d : cf p ≠ cf q := fun e => c17 (by rw [e]; exact Int32.sub_self _)
      refine R_iconst (v := nI 0) dX3_isAhead_29 (by decide) ?_
      refine R_ireturn dX3_isAhead_30 rfl (by rfl) ?_
      -- X3_isAhead: ('ret', 30)
      exact ⟨by rw [if_neg (fun z => by rcases z with z | z <;> omega)], rfl⟩
    · have d : cf p = cf q := by
        have := congrArg Int32.toInt c17
        rw [ht, h0] at this
        omega
      refine R_iload_n dX3_isAhead_20 rfl ?_
      refine R_iload_n dX3_isAhead_21 rfl ?_
      refine R_icmp_ge_N (tgt := 29) dX3_isAhead_22 (by decide) (by omega) (by omega) (fun c22 => ?_) (fun c22 => ?_)
      -- X3_isAhead: ('branch', 22, 29, 25)
      · refine R_iconst (v := nI 0) dX3_isAhead_29 (by decide) ?_
        refine R_ireturn dX3_isAhead_30 rfl (by rfl) ?_
        -- X3_isAhead: ('ret', 30)
        exact ⟨by rw [if_neg (fun z => by rcases z with z | z <;> omega)], rfl⟩
      · refine R_iconst (v := nI 1) dX3_isAhead_25 (by decide) ?_
        refine R_goto (tgt := 30) dX3_isAhead_26 (by decide) ?_
        refine R_ireturn dX3_isAhead_30 rfl (by rfl) ?_
        -- X3_isAhead: ('ret', 30)
        exact ⟨by rw [if_pos (Or.inr ⟨d, c22⟩)], rfl⟩
theorem IsNext.keep {cf : Nat → Nat} {st : List Nat} {prev r : Option Nat} {x : Nat} (h : IsNext cf st prev r) (hn : 2 ≤ cf x → beh cf prev x → ∃ y, r = some y ∧ (x = y ∨ ahd cf y x)) : IsNext cf (st ++ [x]) prev r := by
  cases r with
  | none =>
    intro q hq hc hb
    rcases List.mem_append.mp hq with z | z
    · exact h q z hc hb
    · simp at z
      subst z
      obtain ⟨y, hy, -⟩ := hn hc hb
      cases hy
  | some y =>
    obtain ⟨h1, h2, h3, h4⟩ := h
    refine ⟨List.mem_append_left _ h1, h2, h3, fun q hq hc hb => ?_⟩
    rcases List.mem_append.mp hq with z | z
    · exact h4 q z hc hb
    · simp at z
      subst z
      obtain ⟨w, hw, hx⟩ := hn hc hb
      cases hw
      exact hx
theorem IsNext.take {cf : Nat → Nat} {st : List Nat} {prev r : Option Nat} {x : Nat} (h : IsNext cf st prev r) (hc : 2 ≤ cf x) (hb : beh cf prev x) (hr : ∀ y, r = some y → ahd cf x y) : IsNext cf (st ++ [x]) prev (some x) := by
  refine ⟨by simp, hc, hb, fun q hq hcq hbq => ?_⟩
  rcases List.mem_append.mp hq with z | z
  · cases r with
    | none => exact absurd hbq (h q z hcq)
    | some y =>
      have hy := hr y rfl
      rcases h.2.2.2 q z hcq hbq with e | e
      · subst e; exact Or.inr hy
      · exact Or.inr (ahd_trans hy e)
  · simp at z
    exact Or.inl z
theorem oI_lt {n : Nat} {r : Option Nat} (h : ∀ x, r = some x → x < n) : ∀ x, r = some x → x < n := h
set_option maxHeartbeats 4000000 in
theorem PT_nextBehind (hT : PTAt E h T cf st) (hst : ∀ p ∈ st, p < 7396 ∧ cf p < 1000) {prev : Option Nat} (hp : ∀ p, prev = some p → p < 7396 ∧ cf p < 1000) : Spec E k_X3_nextBehind 3 0 0 [.ref T, .int (oI 0 prev)] h (fun v h' => (∃ r, v = some (.int (oI 0 r)) ∧ IsNext cf st prev r) ∧ h' = h) := by
  have hl := hT.2.2.1
  refine Spec.of (by decide +kernel) (by simp [Value.category]) (Nat.le_of_ble_eq_true rfl) ?_
  show WP E k_X3_nextBehind 3 0 0 0 [some (.ref T), some (.int (oI 0 prev)), none, none, none] [] h _
  have loop : ∀ m i r x4, i + m = st.length → IsNext cf (st.take i) prev r → WP E k_X3_nextBehind 3 0 0 4 [some (.ref T), some (.int (oI 0 prev)), some (.int (oI 0 r)), some (.int (nI i)), x4] [] h (fun v h' => (∃ r, v = some (.int (oI 0 r)) ∧ IsNext cf st prev r) ∧ h' = h) := by
    intro m
    induction m with
    | zero =>
      intro i r x4 hi hr
      rw [List.take_of_length_le (by omega)] at hr
      refine R_iload_n dX3_nextBehind_4 rfl ?_
      refine R_aload_n dX3_nextBehind_5 rfl ?_
      refine R_get K_3 (f := 1) (by decide) dX3_nextBehind_6 f_RX3_20 hT.1 rfl ?_
      -- X3_nextBehind: ('call', 9, '.invokevirtual', 27)
      refine R_callV v_X6_size (Row_size hT.2.2) dX3_nextBehind_9 l_RX3_27 rfl rfl hT.2.2.2.2.1 (Nat.le_of_ble_eq_true rfl) (by omega) rfl rfl (fun v h1 hq => ?_)
      obtain ⟨rfl, e9⟩ := hq
      rw [e9]
      refine R_icmp_ge_N (tgt := 74) dX3_nextBehind_12 (by decide) (by omega) (by omega) (fun c12 => ?_) (fun c12 => ?_)
      -- X3_nextBehind: ('branch', 12, 74, 15)
      · refine R_iload_n dX3_nextBehind_74 rfl ?_
        refine R_ireturn dX3_nextBehind_75 rfl rfl ?_
        -- X3_nextBehind: ('ret', 75)
        exact ⟨⟨r, rfl, hr⟩, rfl⟩
      · exact absurd c12 (by omega)
    | succ m ih =>
      intro i r x4 hi hr
      obtain ⟨x, hx⟩ := getE (l := st) (i := i) (by omega)
      have hxm := List.mem_of_getElem? hx
      obtain ⟨hx7, hxc⟩ := hst x hxm
      have keep : (2 ≤ cf x → beh cf prev x → ∃ y, r = some y ∧ (x = y ∨ ahd cf y x)) → ∀ x4, WP E k_X3_nextBehind 3 0 0 68 [some (.ref T), some (.int (oI 0 prev)), some (.int (oI 0 r)), some (.int (nI i)), x4] [] h (fun v h' => (∃ r, v = some (.int (oI 0 r)) ∧ IsNext cf st prev r) ∧ h' = h) := by
        intro hn x4
        refine R_iinc3 dX3_nextBehind_68 (by decide) (nI_inc _ 1) ?_
        refine R_goto (tgt := 4) dX3_nextBehind_71 (by decide) ?_
        -- X3_nextBehind: ('stop', 4)
        exact ih (i + 1) r _ (by omega) (by rw [take_snoc hx]; exact hr.keep hn)
      have rest : 2 ≤ cf x → beh cf prev x → WP E k_X3_nextBehind 3 0 0 50 [some (.ref T), some (.int (oI 0 prev)), some (.int (oI 0 r)), some (.int (nI i)), some (.int (nI x))] [] h (fun v h' => (∃ r, v = some (.int (oI 0 r)) ∧ IsNext cf st prev r) ∧ h' = h) := by
        intro hc hb
        have take : (∀ y, r = some y → ahd cf x y) → WP E k_X3_nextBehind 3 0 0 65 [some (.ref T), some (.int (oI 0 prev)), some (.int (oI 0 r)), some (.int (nI i)), some (.int (nI x))] [] h (fun v h' => (∃ r, v = some (.int (oI 0 r)) ∧ IsNext cf st prev r) ∧ h' = h) := by
          intro hy
          refine R_iload dX3_nextBehind_65 rfl ?_
          refine R_istore2 dX3_nextBehind_67 (by decide) ?_
          refine R_iinc3 dX3_nextBehind_68 (by decide) (nI_inc _ 1) ?_
          refine R_goto (tgt := 4) dX3_nextBehind_71 (by decide) ?_
          -- X3_nextBehind: ('stop', 4)
          have nx := ih (i + 1) (some x) (some (.int (nI x))) (by omega) (by rw [take_snoc hx]; exact hr.take hc hb hy)
          rw [show oI 0 (some x) = nI x from by rw [oI, Nat.zero_add]] at nx
          exact nx
        cases r with
        | none =>
          show WP E k_X3_nextBehind 3 0 0 50 [some (.ref T), some (.int (oI 0 prev)), some (.int (-1)), some (.int (nI i)), some (.int (nI x))] [] _ _
          refine R_iload_n dX3_nextBehind_50 rfl ?_
          refine R_iconst (v := (-1)) dX3_nextBehind_51 (by decide) ?_
          refine R_icmp_eq (tgt := 65) dX3_nextBehind_52 (by decide) (fun c52 => ?_) (fun c52 => ?_)
          -- X3_nextBehind: ('branch', 52, 65, 55)
          · exact take (fun y hy => by cases hy)
          · exact absurd rfl c52
        | some y =>
          have hym : y ∈ st := List.mem_of_mem_take hr.1
          obtain ⟨hy7, hyc⟩ := hst y hym
          have e0 : oI 0 (some y) = nI y := by rw [oI, Nat.zero_add]
          rw [e0] at keep take ⊢
          refine R_iload_n dX3_nextBehind_50 rfl ?_
          refine R_iconst (v := (-1)) dX3_nextBehind_51 (by decide) ?_
          refine R_icmp_eq (tgt := 65) dX3_nextBehind_52 (by decide) (fun c52 => ?_) (fun c52 => ?_)
          -- X3_nextBehind: ('branch', 52, 65, 55)
          · exact absurd c52 (nI_ne_m1 (by omega))
          · refine R_aload_n dX3_nextBehind_55 rfl ?_
            refine R_iload dX3_nextBehind_56 rfl ?_
            refine R_iload_n dX3_nextBehind_58 rfl ?_
            -- X3_nextBehind: ('call', 59, '.invokevirtual', 48)
            refine R_callV v_X3_isAhead (PT_isAhead hT hx7 hy7 hxc hyc) dX3_nextBehind_59 l_RX3_48 rfl rfl hT.1 (Nat.le_of_ble_eq_true rfl) (by omega) rfl rfl (fun v h1 hq => ?_)
            obtain ⟨rfl, e9⟩ := hq
            rw [e9]
            by_cases ha : ahd cf x y
            · rw [if_pos ha]
              refine R_if_eq_N (tgt := 68) dX3_nextBehind_62 (by decide) (by omega) (fun c62 => ?_) (fun c62 => ?_)
              -- X3_nextBehind: ('branch', 62, 68, 65)
              · exact absurd c62 (by decide)
              · exact take (fun z hz => by cases hz; exact ha)
            · rw [if_neg ha]
              refine R_if_eq_N (tgt := 68) dX3_nextBehind_62 (by decide) (by omega) (fun c62 => ?_) (fun c62 => ?_)
              -- X3_nextBehind: ('branch', 62, 68, 65)
              · refine keep (fun _ _ => ⟨y, rfl, ?_⟩) _
                by_cases exy : x = y
                · exact Or.inl exy
                · exact Or.inr ((ahd_tot exy).resolve_left ha)
              · exact absurd rfl c62
      refine R_iload_n dX3_nextBehind_4 rfl ?_
      refine R_aload_n dX3_nextBehind_5 rfl ?_
      refine R_get K_3 (f := 1) (by decide) dX3_nextBehind_6 f_RX3_20 hT.1 rfl ?_
      -- X3_nextBehind: ('call', 9, '.invokevirtual', 27)
      refine R_callV v_X6_size (Row_size hT.2.2) dX3_nextBehind_9 l_RX3_27 rfl rfl hT.2.2.2.2.1 (Nat.le_of_ble_eq_true rfl) (by omega) rfl rfl (fun v h1 hq => ?_)
      obtain ⟨rfl, e9⟩ := hq
      rw [e9]
      refine R_icmp_ge_N (tgt := 74) dX3_nextBehind_12 (by decide) (by omega) (by omega) (fun c12 => ?_) (fun c12 => ?_)
      -- X3_nextBehind: ('branch', 12, 74, 15)
      · exact absurd c12 (by omega)
      · refine R_aload_n dX3_nextBehind_15 rfl ?_
        refine R_get K_3 (f := 1) (by decide) dX3_nextBehind_16 f_RX3_20 hT.1 rfl ?_
        refine R_iload_n dX3_nextBehind_19 rfl ?_
        -- X3_nextBehind: ('call', 20, '.invokevirtual', 31)
        refine R_callV v_X6_get (Row_get hT.2.2 (nI i)) dX3_nextBehind_20 l_RX3_31 rfl rfl hT.2.2.2.2.1 (Nat.le_of_ble_eq_true rfl) (by omega) rfl rfl (fun v h1 hq => ?_)
        obtain ⟨rfl, e9⟩ := hq
        rw [e9, rget_in (by omega) hx]
        refine R_istore4 dX3_nextBehind_23 (by decide) ?_
        refine R_aload_n dX3_nextBehind_25 rfl ?_
        refine R_iload dX3_nextBehind_26 rfl ?_
        -- X3_nextBehind: ('call', 28, '.invokevirtual', 42)
        refine R_callV v_X3_countOfPair (PT_countOfPair hT hx7) dX3_nextBehind_28 l_RX3_42 rfl rfl hT.1 (Nat.le_of_ble_eq_true rfl) (by omega) rfl rfl (fun v h1 hq => ?_)
        obtain ⟨rfl, e9⟩ := hq
        rw [e9]
        refine R_iconst (v := nI 2) dX3_nextBehind_31 (by decide) ?_
        refine R_icmp_lt_N (tgt := 68) dX3_nextBehind_32 (by decide) (by omega) (by omega) (fun c32 => ?_) (fun c32 => ?_)
        -- X3_nextBehind: ('branch', 32, 68, 35)
        · exact keep (fun z => absurd z (by omega)) _
        · cases prev with
          | none =>
            show WP E k_X3_nextBehind 3 0 0 35 [some (.ref T), some (.int (-1)), some (.int (oI 0 r)), some (.int (nI i)), some (.int (nI x))] [] _ _
            refine R_iload_n dX3_nextBehind_35 rfl ?_
            refine R_iconst (v := (-1)) dX3_nextBehind_36 (by decide) ?_
            refine R_icmp_eq (tgt := 50) dX3_nextBehind_37 (by decide) (fun c37 => ?_) (fun c37 => ?_)
            -- X3_nextBehind: ('branch', 37, 50, 40)
            · exact rest c32 trivial
            · exact absurd rfl c37
          | some p =>
            obtain ⟨hp7, hpc⟩ := hp p rfl
            have e0 : oI 0 (some p) = nI p := by rw [oI, Nat.zero_add]
            rw [e0] at keep rest ⊢
            refine R_iload_n dX3_nextBehind_35 rfl ?_
            refine R_iconst (v := (-1)) dX3_nextBehind_36 (by decide) ?_
            refine R_icmp_eq (tgt := 50) dX3_nextBehind_37 (by decide) (fun c37 => ?_) (fun c37 => ?_)
            -- X3_nextBehind: ('branch', 37, 50, 40)
            · exact absurd c37 (nI_ne_m1 (by omega))
            · refine R_aload_n dX3_nextBehind_40 rfl ?_
              refine R_iload_n dX3_nextBehind_41 rfl ?_
              refine R_iload dX3_nextBehind_42 rfl ?_
              -- X3_nextBehind: ('call', 44, '.invokevirtual', 48)
              refine R_callV v_X3_isAhead (PT_isAhead hT hp7 hx7 hpc hxc) dX3_nextBehind_44 l_RX3_48 rfl rfl hT.1 (Nat.le_of_ble_eq_true rfl) (by omega) rfl rfl (fun v h1 hq => ?_)
              obtain ⟨rfl, e9⟩ := hq
              rw [e9]
              by_cases ha : ahd cf p x
              · rw [if_pos ha]
                refine R_if_eq_N (tgt := 68) dX3_nextBehind_47 (by decide) (by omega) (fun c47 => ?_) (fun c47 => ?_)
                -- X3_nextBehind: ('branch', 47, 68, 50)
                · exact absurd c47 (by decide)
                · exact rest c32 ha
              · rw [if_neg ha]
                refine R_if_eq_N (tgt := 68) dX3_nextBehind_47 (by decide) (by omega) (fun c47 => ?_) (fun c47 => ?_)
                -- X3_nextBehind: ('branch', 47, 68, 50)
                · exact keep (fun _ z => absurd z ha) _
                · exact absurd rfl c47
  refine R_iconst (v := (-1)) dX3_nextBehind_0 (by decide) ?_
  refine R_istore2 dX3_nextBehind_1 (by decide) ?_
  refine R_iconst (v := nI 0) dX3_nextBehind_2 (by decide) ?_
  refine R_istore3 dX3_nextBehind_3 (by decide) ?_
  -- X3_nextBehind: ('stop', 4)
  exact loop st.length 0 none none (by omega) (fun q hq => by simp at hq)
theorem PT_ranked (hT : TalAt E h T l st) (hl : l.length ≤ 240) {i : Nat} (hi : i < 2 ^ 31) : Spec E k_X3_ranked 4 0 0 [.ref T, .int (nI i)] h (fun v h' => (∃ r, v = some (.int (oI 0 r)) ∧ RankIs (pcf l) i r) ∧ h' = h) := by
  obtain ⟨hP, hnd, hst⟩ := hT
  have hsl := hP.2.2.1
  have hcl : ∀ p, pcf l p < 1000 := fun p => by have := cntG_le (l := l) (a := p / 86) (b := p % 86); simp only [pcf]; omega
  have hst' : ∀ p ∈ st, p < 7396 ∧ pcf l p < 1000 := fun p hp => ⟨((hst p).mp hp).1, hcl p⟩
  refine Spec.of (by decide +kernel) (by simp [Value.category]) (Nat.le_of_ble_eq_true rfl) ?_
  show WP E k_X3_ranked 4 0 0 0 [some (.ref T), some (.int (nI i)), none, none] [] h _
  have loop : i < st.length → ∀ m k (prev : Option Nat), k + m = i + 1 → (k = 0 ∧ prev = none ∨ ∃ p j, prev = some p ∧ k = j + 1 ∧ p < 7396 ∧ 2 ≤ pcf l p ∧ nA (pcf l) 7396 p = j) → WP E k_X3_ranked 4 0 0 21 [some (.ref T), some (.int (nI i)), some (.int (oI 0 prev)), some (.int (nI k))] [] h (fun v h' => (∃ r, v = some (.int (oI 0 r)) ∧ RankIs (pcf l) i r) ∧ h' = h) := by
    intro hist m
    induction m with
    | zero =>
      intro k prev hk hpr
      refine R_iload_n dX3_ranked_21 rfl ?_
      refine R_iload_n dX3_ranked_22 rfl ?_
      refine R_icmp_gt_N (tgt := 45) dX3_ranked_23 (by decide) (by omega) (by omega) (fun c23 => ?_) (fun c23 => ?_)
      -- X3_ranked: ('branch', 23, 45, 26)
      · refine R_iload_n dX3_ranked_45 rfl ?_
        refine R_ireturn dX3_ranked_46 rfl rfl ?_
        -- X3_ranked: ('ret', 46)
        refine ⟨⟨prev, rfl, ?_⟩, rfl⟩
        rcases hpr with ⟨e, -⟩ | ⟨p, j, rfl, e, h1, h2, h3⟩
        · omega
        · exact ⟨h1, h2, by omega⟩
      · exact absurd c23 (by omega)
    | succ m ih =>
      intro k prev hk hpr
      refine R_iload_n dX3_ranked_21 rfl ?_
      refine R_iload_n dX3_ranked_22 rfl ?_
      refine R_icmp_gt_N (tgt := 45) dX3_ranked_23 (by decide) (by omega) (by omega) (fun c23 => ?_) (fun c23 => ?_)
      -- X3_ranked: ('branch', 23, 45, 26)
      · exact absurd c23 (by omega)
      · refine R_aload_n dX3_ranked_26 rfl ?_
        refine R_iload_n dX3_ranked_27 rfl ?_
        -- X3_ranked: ('call', 28, '.invokevirtual', 45)
        refine R_callV v_X3_nextBehind (PT_nextBehind hP hst' (prev := prev) (fun p hp => ⟨by rcases hpr with ⟨-, e⟩ | ⟨q, j, e, -, h1, -⟩ <;> rw [e] at hp <;> cases hp; exact h1, hcl p⟩)) dX3_ranked_28 l_RX3_45 rfl rfl hP.1 (Nat.le_of_ble_eq_true rfl) (by omega) rfl rfl (fun v h1 hq => ?_)
        obtain ⟨⟨r, rfl, hr⟩, e9⟩ := hq
        rw [e9]
        cases r with
        | none =>
          show WP E k_X3_ranked 4 0 0 31 [some (.ref T), some (.int (nI i)), some (.int (oI 0 prev)), some (.int (nI k))] [.int (-1)] _ _
          refine R_istore2 dX3_ranked_31 (by decide) ?_
          refine R_iload_n dX3_ranked_32 rfl ?_
          refine R_iconst (v := (-1)) dX3_ranked_33 (by decide) ?_
          refine R_icmp_ne (tgt := 39) dX3_ranked_34 (by decide) (fun c34 => ?_) (fun c34 => ?_)
          -- X3_ranked: ('branch', 34, 39, 37)
          · exact absurd rfl c34
          · refine R_iconst (v := (-1)) dX3_ranked_37 (by decide) ?_
            refine R_ireturn dX3_ranked_38 rfl rfl ?_
            -- X3_ranked: ('ret', 38)
            refine ⟨⟨none, rfl, ?_⟩, rfl⟩
            show tot (pcf l) 7396 ≤ i
            rcases hpr with ⟨e, rfl⟩ | ⟨p, j, rfl, e, h1, h2, h3⟩
            · rw [next_none hst hr]; omega
            · rw [next_end hst h1 h2 h3 hr]; omega
        | some x =>
          have hx7 : x < 7396 := (hst' x hr.1).1
          have e0 : oI 0 (some x) = nI x := by rw [oI, Nat.zero_add]
          have nx := ih (k + 1) (some x) (by omega) (Or.inr ⟨x, k, rfl, rfl, by
            rcases hpr with ⟨e, rfl⟩ | ⟨p, j, rfl, e, h1, h2, h3⟩
            · rw [e]; exact next_first hst hr
            · rw [e]; exact next_succ hst h1 h2 h3 hr⟩)
          rw [e0] at nx ⊢
          refine R_istore2 dX3_ranked_31 (by decide) ?_
          refine R_iload_n dX3_ranked_32 rfl ?_
          refine R_iconst (v := (-1)) dX3_ranked_33 (by decide) ?_
          refine R_icmp_ne (tgt := 39) dX3_ranked_34 (by decide) (fun c34 => ?_) (fun c34 => ?_)
          -- X3_ranked: ('branch', 34, 39, 37)
          · refine R_iinc3 dX3_ranked_39 (by decide) (nI_inc _ 1) ?_
            refine R_goto (tgt := 21) dX3_ranked_42 (by decide) ?_
            -- X3_ranked: ('stop', 21)
            exact nx
          · exact absurd c34 (nI_ne_m1 (by omega))
  refine R_iload_n dX3_ranked_0 rfl ?_
  refine R_if_lt_N (tgt := 15) dX3_ranked_1 (by decide) (by omega) ?_
  refine R_iload_n dX3_ranked_4 rfl ?_
  refine R_aload_n dX3_ranked_5 rfl ?_
  refine R_get K_3 (f := 1) (by decide) dX3_ranked_6 f_RX3_20 hP.1 rfl ?_
  -- X3_ranked: ('call', 9, '.invokevirtual', 27)
  refine R_callV v_X6_size (Row_size hP.2.2) dX3_ranked_9 l_RX3_27 rfl rfl hP.2.2.2.2.1 (Nat.le_of_ble_eq_true rfl) (by omega) rfl rfl (fun v h1 hq => ?_)
  obtain ⟨rfl, e9⟩ := hq
  rw [e9]
  refine R_icmp_lt_N (tgt := 17) dX3_ranked_12 (by decide) (by omega) (by omega) (fun c12 => ?_) (fun c12 => ?_)
  -- X3_ranked: ('branch', 12, 17, 15)
  · refine R_iconst (v := (-1)) dX3_ranked_17 (by decide) ?_
    refine R_istore2 dX3_ranked_18 (by decide) ?_
    refine R_iconst (v := nI 0) dX3_ranked_19 (by decide) ?_
    refine R_istore3 dX3_ranked_20 (by decide) ?_
    -- X3_ranked: ('stop', 21)
    exact loop c12 (i + 1) 0 none (by omega) (Or.inl ⟨rfl, rfl⟩)
  · refine R_iconst (v := (-1)) dX3_ranked_15 (by decide) ?_
    refine R_ireturn dX3_ranked_16 rfl rfl ?_
    -- X3_ranked: ('ret', 16)
    refine ⟨⟨none, rfl, ?_⟩, rfl⟩
    show tot (pcf l) 7396 ≤ i
    have h1 := cntB_mem (p := fun q => decide (2 ≤ pcf l q)) (l := st) 7396 (fun j hj hp => (hst j).mpr ⟨hj, by have := of_decide_eq_true hp; omega⟩)
    have h2 := List.countP_le_length (p := fun x => decide (x < 7396)) (l := st)
    have h3 : tot (pcf l) 7396 = cntB (fun q => decide (2 ≤ pcf l q)) 7396 := rfl
    omega
end RANK
