/-! SEARCH: the least size behind a few replaces -/
def ruledB (ru : Ru) (p : Nat) : Bool := (ruleS ru (p / 86) (p % 86)).isSome
def gnN (ru : Ru) (c p : Nat) : Nat := if ruledB ru p then c else c - 2
def IsGG (l : List Nat) (ru : Ru) (free G : Nat) : Prop := (∀ p, p < 7396 → 0 < pcf l p → (0 < free ∨ ruledB ru p = true) → gnN ru (pcf l p) p ≤ G) ∧ (G = 0 ∨ ∃ p, p < 7396 ∧ 0 < pcf l p ∧ (0 < free ∨ ruledB ru p = true) ∧ G = gnN ru (pcf l p) p)
def freeN (ru : Ru) : Nat := 60 - rulesS ru
theorem ruledB_ex {ru : Ru} {p : Nat} : ruledB ru p = true ↔ ∃ i, i < 60 ∧ ru i = [p / 86, p % 86] := by
  rw [ruledB]
  constructor
  · intro h
    cases hx : ruleS ru (p / 86) (p % 86) with
    | none => rw [hx] at h; cases h
    | some i => exact ⟨i, fst_lt hx, by simpa using (fstB_some hx).2.1⟩
  · rintro ⟨i, hi, e⟩
    cases hx : ruleS ru (p / 86) (p % 86) with
    | none => exact absurd e (by simpa using fstB_none hx i hi)
    | some i => rfl
def SrAt (E : EnvT) (h : Hp) (S : Nat) (m : Nat → Nat) : Prop := h.2 S = some (.inr (7, [.ref (S + 1), .ref (S + 5), .ref (S + 9), .ref (S + 10)])) ∧ ∃ f, h.2 (S + 9) = some (.inl (E.2.2.1 1, 7396, .inl f)) ∧ ∀ p, p < 7396 → f p = nI (m p)
theorem SrAt.ag {E : EnvT} {h h1 : Hp} {S : Nat} {m : Nat → Nat} (x : SrAt E h S m) (o1 : h1.2 S = h.2 S) (o2 : h1.2 (S + 9) = h.2 (S + 9)) : SrAt E h1 S m := ⟨o1.trans x.1, x.2.choose, o2.trans x.2.choose_spec.1, x.2.choose_spec.2⟩
def mk1 (ru : Ru) (p : Nat) : Nat := if ruledB ru p then 1 else 0
theorem J_max_m1 {E : EnvT} {h : Hp} {a : Nat} (ha : a < 2 ^ 31) : Spec E k_J9_max_7cf53 1 0 0 [.int (nI a), .int (-1)] h (fun v h' => v = some (.int (nI a)) ∧ h' = h) := by
  refine Spec.of (by decide +kernel) (by simp [Value.category]) (Nat.le_of_ble_eq_true rfl) ?_
  show WP E k_J9_max_7cf53 1 0 0 0 [some (.int (nI a)), some (.int (-1))] [] h _
  refine R_iload_n dJ9_max_7cf53_0 rfl ?_
  refine R_iload_n dJ9_max_7cf53_1 rfl ?_
  refine R_icmp_lt (tgt := 9) dJ9_max_7cf53_2 (by decide) (fun c2 => ?_) (fun c2 => ?_)
  -- J9_max_7cf53: ('branch', 2, 9, 5)
  · exfalso
    have := Int32.lt_iff_toInt_lt.mp c2
    have e := nI_toInt ha
    have e1 : (-1 : Int32).toInt = -1 := by decide
    omega
  · refine R_iload_n dJ9_max_7cf53_5 rfl ?_
    refine R_goto (tgt := 10) dJ9_max_7cf53_6 (by decide) ?_
    refine R_ireturn dJ9_max_7cf53_10 rfl rfl ?_
    -- J9_max_7cf53: ('ret', 10)
    exact ⟨rfl, rfl⟩
section SEARCH
variable {E : EnvT} {h : Hp} {S P T : Nat} {sq : List Nat} {ru : Ru} {m : Nat → Nat}
theorem Sr_isRuled (hS : SrAt E h S m) (hm : ∀ p, m p < 2) {p : Nat} (hp : p < 7396) : Spec E k_X7_isRuled 1 0 0 [.ref S, .int (nI p)] h (fun v h' => v = some (.int (nI (m p))) ∧ h' = h) := by
  obtain ⟨g1, f, g2, hf⟩ := hS
  have hmp := hm p
  refine Spec.of (by decide +kernel) (by simp [Value.category]) (Nat.le_of_ble_eq_true rfl) ?_
  show WP E k_X7_isRuled 1 0 0 0 [some (.ref S), some (.int (nI p))] [] h _
  refine R_iload_n dX7_isRuled_0 rfl ?_
  refine R_if_lt_N (tgt := 26) dX7_isRuled_1 (by decide) (by omega) ?_
  refine R_iload_n dX7_isRuled_4 rfl ?_
  refine R_aload_n dX7_isRuled_5 rfl ?_
  refine R_get K_7 (f := 2) (by decide) dX7_isRuled_6 f_RX7_21 (by first | exact g1 | exact g2) rfl ?_
  refine R_arraylength (t0 := 1) dX7_isRuled_9 rfl (by first | exact g1 | exact g2) ?_
  refine R_icmp_ge_N (tgt := 26) dX7_isRuled_10 (by decide) (by omega) (by omega) (fun c10 => ?_) (fun c10 => ?_)
  -- X7_isRuled: ('branch', 10, 26, 13)
  · exact absurd c10 (by omega)
  · refine R_aload_n dX7_isRuled_13 rfl ?_
    refine R_get K_7 (f := 2) (by decide) dX7_isRuled_14 f_RX7_21 (by first | exact g1 | exact g2) rfl ?_
    refine R_iload_n dX7_isRuled_17 rfl ?_
    refine R_zaload_N dX7_isRuled_18 (by first | exact g1 | exact g2) (by omega) (by omega) (hf p hp) ?_
    refine R_if_eq_N (tgt := 26) dX7_isRuled_19 (by decide) (by omega) (fun c19 => ?_) (fun c19 => ?_)
    -- X7_isRuled: ('branch', 19, 26, 22)
    · refine R_iconst (v := nI 0) dX7_isRuled_26 (by decide) ?_
      refine R_ireturn dX7_isRuled_27 rfl (by rfl) ?_
      -- X7_isRuled: ('ret', 27)
      exact ⟨by rw [c19], rfl⟩
    · refine R_iconst (v := nI 1) dX7_isRuled_22 (by decide) ?_
      refine R_goto (tgt := 27) dX7_isRuled_23 (by decide) ?_
      refine R_ireturn dX7_isRuled_27 rfl (by rfl) ?_
      -- X7_isRuled: ('ret', 27)
      exact ⟨by rw [show m p = 1 by omega], rfl⟩
theorem Sr_gainOf (hS : SrAt E h S (mk1 ru)) {cf : Nat → Nat} {st : List Nat} (hT : PTAt E h T cf st) {p : Nat} (hp : p < 7396) : Spec E k_X7_gainOf 2 0 0 [.ref S, .ref T, .int (nI p)] h (fun v h' => v = some (.int (if ruledB ru p then nI (cf p) else nI (cf p) - nI 2)) ∧ h' = h) := by
  refine Spec.of (by decide +kernel) (by simp [Value.category]) (Nat.le_of_ble_eq_true rfl) ?_
  show WP E k_X7_gainOf 2 0 0 0 [some (.ref S), some (.ref T), some (.int (nI p)), none] [] h _
  refine R_aload_n dX7_gainOf_0 rfl ?_
  refine R_iload_n dX7_gainOf_1 rfl ?_
  -- X7_gainOf: ('call', 2, '.invokevirtual', 87)
  refine R_callV v_X3_countOfPair (PT_countOfPair hT hp) dX7_gainOf_2 l_RX7_87 rfl rfl hT.1 (Nat.le_of_ble_eq_true rfl) (by omega) rfl rfl (fun v h1 hq => ?_)
  obtain ⟨rfl, e9⟩ := hq
  rw [e9]
  refine R_istore3 dX7_gainOf_5 (by decide) ?_
  refine R_aload_n dX7_gainOf_6 rfl ?_
  refine R_iload_n dX7_gainOf_7 rfl ?_
  -- X7_gainOf: ('call', 8, '.invokevirtual', 90)
  refine R_callV v_X7_isRuled (Sr_isRuled hS (fun p => by rw [mk1]; split <;> omega) hp) dX7_gainOf_8 l_RX7_90 rfl rfl hS.1 (Nat.le_of_ble_eq_true rfl) (by omega) rfl rfl (fun v h1 hq => ?_)
  obtain ⟨rfl, e9⟩ := hq
  rw [e9, mk1]
  by_cases hr : ruledB ru p = true
  · rw [if_pos hr, if_pos hr]
    refine R_if_eq_N (tgt := 18) dX7_gainOf_11 (by decide) (by omega) (fun c11 => ?_) (fun c11 => ?_)
    -- X7_gainOf: ('branch', 11, 18, 14)
    · exact absurd c11 (by decide)
    · refine R_iload_n dX7_gainOf_14 rfl ?_
      refine R_goto (tgt := 21) dX7_gainOf_15 (by decide) ?_
      refine R_ireturn dX7_gainOf_21 rfl rfl ?_
      -- X7_gainOf: ('ret', 21)
      exact ⟨rfl, rfl⟩
  · rw [if_neg hr, if_neg hr]
    refine R_if_eq_N (tgt := 18) dX7_gainOf_11 (by decide) (by omega) (fun c11 => ?_) (fun c11 => ?_)
    -- X7_gainOf: ('branch', 11, 18, 14)
    · refine R_iload_n dX7_gainOf_18 rfl ?_
      refine R_iconst (v := nI 2) dX7_gainOf_19 (by decide) ?_
      refine R_isub dX7_gainOf_20 ?_
      refine R_ireturn dX7_gainOf_21 rfl rfl ?_
      -- X7_gainOf: ('ret', 21)
      exact ⟨rfl, rfl⟩
    · exact absurd rfl c11
theorem Sr_greatestGain (hS : SrAt E h S (mk1 ru)) {l st : List Nat} (hT : TalAt E h T l st) (hl : l.length ≤ 240) {free : Nat} (hf : free ≤ 60) : Spec E k_X7_greatestGain 3 0 0 [.ref S, .ref T, .int (nI free)] h (fun v h' => (∃ G, v = some (.int (nI G)) ∧ IsGG l ru free G ∧ G ≤ 240) ∧ h' = h) := by
  obtain ⟨hP, hnd, hst⟩ := hT
  have hsl := hP.2.2.1
  have hcl : ∀ p, pcf l p ≤ 240 := fun p => by have := cntG_le (l := l) (a := p / 86) (b := p % 86); simp only [pcf]; omega
  refine Spec.of (by decide +kernel) (by simp [Value.category]) (Nat.le_of_ble_eq_true rfl) ?_
  show WP E k_X7_greatestGain 3 0 0 0 [some (.ref S), some (.ref T), some (.int (nI free)), none, none, none] [] h _
  have loop : ∀ m2 i G x5, i + m2 = st.length → G ≤ 240 → (∀ p ∈ st.take i, (0 < free ∨ ruledB ru p = true) → gnN ru (pcf l p) p ≤ G) → (G = 0 ∨ ∃ p, p < 7396 ∧ 0 < pcf l p ∧ (0 < free ∨ ruledB ru p = true) ∧ G = gnN ru (pcf l p) p) → WP E k_X7_greatestGain 3 0 0 5 [some (.ref S), some (.ref T), some (.int (nI free)), some (.int (nI G)), some (.int (nI i)), x5] [] h (fun v h' => (∃ G, v = some (.int (nI G)) ∧ IsGG l ru free G ∧ G ≤ 240) ∧ h' = h) := by
    intro m2
    induction m2 with
    | zero =>
      intro i G x5 hi hG k1 k2
      rw [List.take_of_length_le (by omega)] at k1
      refine R_iload dX7_greatestGain_5 rfl ?_
      refine R_aload_n dX7_greatestGain_7 rfl ?_
      -- X7_greatestGain: ('call', 8, '.invokevirtual', 65)
      refine R_callV v_X3_kinds (PT_kinds hP) dX7_greatestGain_8 l_RX7_65 rfl rfl hP.1 (Nat.le_of_ble_eq_true rfl) (by omega) rfl rfl (fun v h1 hq => ?_)
      obtain ⟨rfl, e9⟩ := hq
      rw [e9]
      refine R_icmp_ge_N (tgt := 53) dX7_greatestGain_11 (by decide) (by omega) (by omega) (fun c11 => ?_) (fun c11 => ?_)
      -- X7_greatestGain: ('branch', 11, 53, 14)
      · refine R_iload_n dX7_greatestGain_53 rfl ?_
        refine R_ireturn dX7_greatestGain_54 rfl rfl ?_
        -- X7_greatestGain: ('ret', 54)
        exact ⟨⟨G, rfl, ⟨fun p hp hc ha => k1 p ((hst p).mpr ⟨hp, hc⟩) ha, k2⟩, hG⟩, rfl⟩
      · exact absurd c11 (by omega)
    | succ m2 ih =>
      intro i G x5 hi hG h1 h2
      obtain ⟨x, hx⟩ := getE (l := st) (i := i) (by omega)
      obtain ⟨hx7, hxc⟩ := (hst x).mp (List.mem_of_getElem? hx)
      have hxl := hcl x
      have no : ¬ (0 < free ∨ ruledB ru x = true) → ∀ x5, WP E k_X7_greatestGain 3 0 0 47 [some (.ref S), some (.ref T), some (.int (nI free)), some (.int (nI G)), some (.int (nI i)), x5] [] h (fun v h' => (∃ G, v = some (.int (nI G)) ∧ IsGG l ru free G ∧ G ≤ 240) ∧ h' = h) := by
        intro hn x5
        refine R_iinc4 dX7_greatestGain_47 (by decide) (nI_inc _ 1) ?_
        refine R_goto (tgt := 5) dX7_greatestGain_50 (by decide) ?_
        -- X7_greatestGain: ('stop', 5)
        refine ih (i + 1) G _ (by omega) hG (fun p hp ha => ?_) h2
        rw [take_snoc hx] at hp
        rcases List.mem_append.mp hp with z | z
        · exact h1 p z ha
        · simp at z; subst z; exact absurd ha hn
      have nx : (0 < free ∨ ruledB ru x = true) → ∀ G2 x5, G2 = max G (gnN ru (pcf l x) x) → WP E k_X7_greatestGain 3 0 0 47 [some (.ref S), some (.ref T), some (.int (nI free)), some (.int (nI G2)), some (.int (nI i)), x5] [] h (fun v h' => (∃ G, v = some (.int (nI G)) ∧ IsGG l ru free G ∧ G ≤ 240) ∧ h' = h) := by
        intro ha G2 x5 hG2
        have hgl : gnN ru (pcf l x) x ≤ 240 := by rw [gnN]; split <;> omega
        refine R_iinc4 dX7_greatestGain_47 (by decide) (nI_inc _ 1) ?_
        refine R_goto (tgt := 5) dX7_greatestGain_50 (by decide) ?_
        -- X7_greatestGain: ('stop', 5)
        refine ih (i + 1) G2 _ (by omega) (by omega) (fun p hp hap => ?_) ?_
        · rw [take_snoc hx] at hp
          rcases List.mem_append.mp hp with z | z
          · have := h1 p z hap; omega
          · simp at z; subst z; omega
        · by_cases hc : gnN ru (pcf l x) x ≤ G
          · rw [hG2, Nat.max_eq_left hc]; exact h2
          · exact Or.inr ⟨x, hx7, hxc, ha, by rw [hG2, Nat.max_eq_right (by omega)]⟩
      have yes : (0 < free ∨ ruledB ru x = true) → WP E k_X7_greatestGain 3 0 0 35 [some (.ref S), some (.ref T), some (.int (nI free)), some (.int (nI G)), some (.int (nI i)), some (.int (nI x))] [] h (fun v h' => (∃ G, v = some (.int (nI G)) ∧ IsGG l ru free G ∧ G ≤ 240) ∧ h' = h) := by
        intro ha
        have nx := nx ha
        refine R_iload_n dX7_greatestGain_35 rfl ?_
        refine R_aload_n dX7_greatestGain_36 rfl ?_
        refine R_aload_n dX7_greatestGain_37 rfl ?_
        refine R_iload dX7_greatestGain_38 rfl ?_
        -- X7_greatestGain: ('call', 40, '.invokevirtual', 94)
        refine R_callV v_X7_gainOf (Sr_gainOf hS hP hx7) dX7_greatestGain_40 l_RX7_94 rfl rfl hS.1 (Nat.le_of_ble_eq_true rfl) (by omega) rfl rfl (fun v h1 hq => ?_)
        obtain ⟨rfl, e9⟩ := hq
        rw [e9]
        by_cases hr : ruledB ru x = true
        · rw [if_pos hr]
          rw [gnN, if_pos hr] at nx
          refine R_callS s_J9_max_7cf53 (J_max (a := G) (b := pcf l x) (by omega) (by omega)) dX7_greatestGain_43 l_RX7_97 rfl rfl (Nat.le_of_ble_eq_true rfl) (by omega) rfl rfl (fun v h1 hq => ?_)
          obtain ⟨rfl, e9⟩ := hq
          rw [e9]
          refine R_istore3 dX7_greatestGain_46 (by decide) ?_
          -- X7_greatestGain: ('stop', 47)
          exact nx _ _ rfl
        · rw [if_neg hr]
          rw [gnN, if_neg hr] at nx
          by_cases h2c : 2 ≤ pcf l x
          · rw [pk_sub h2c]
            refine R_callS s_J9_max_7cf53 (J_max (a := G) (b := pcf l x - 2) (by omega) (by omega)) dX7_greatestGain_43 l_RX7_97 rfl rfl (Nat.le_of_ble_eq_true rfl) (by omega) rfl rfl (fun v h1 hq => ?_)
            obtain ⟨rfl, e9⟩ := hq
            rw [e9]
            refine R_istore3 dX7_greatestGain_46 (by decide) ?_
            -- X7_greatestGain: ('stop', 47)
            exact nx _ _ rfl
          · rw [show pcf l x = 1 by omega, show nI 1 - nI 2 = -1 from by decide]
            refine R_callS s_J9_max_7cf53 (J_max_m1 (a := G) (by omega)) dX7_greatestGain_43 l_RX7_97 rfl rfl (Nat.le_of_ble_eq_true rfl) (by omega) rfl rfl (fun v h1 hq => ?_)
            obtain ⟨rfl, e9⟩ := hq
            rw [e9]
            refine R_istore3 dX7_greatestGain_46 (by decide) ?_
            -- X7_greatestGain: ('stop', 47)
            exact nx G _ (by omega)
      refine R_iload dX7_greatestGain_5 rfl ?_
      refine R_aload_n dX7_greatestGain_7 rfl ?_
      -- X7_greatestGain: ('call', 8, '.invokevirtual', 65)
      refine R_callV v_X3_kinds (PT_kinds hP) dX7_greatestGain_8 l_RX7_65 rfl rfl hP.1 (Nat.le_of_ble_eq_true rfl) (by omega) rfl rfl (fun v h1 hq => ?_)
      obtain ⟨rfl, e9⟩ := hq
      rw [e9]
      refine R_icmp_ge_N (tgt := 53) dX7_greatestGain_11 (by decide) (by omega) (by omega) (fun c11 => ?_) (fun c11 => ?_)
      -- X7_greatestGain: ('branch', 11, 53, 14)
      · exact absurd c11 (by omega)
      · refine R_aload_n dX7_greatestGain_14 rfl ?_
        refine R_iload dX7_greatestGain_15 rfl ?_
        -- X7_greatestGain: ('call', 17, '.invokevirtual', 68)
        refine R_callV v_X3_pairAt (PT_pairAt hP hx) dX7_greatestGain_17 l_RX7_68 rfl rfl hP.1 (Nat.le_of_ble_eq_true rfl) (by omega) rfl rfl (fun v h1 hq => ?_)
        obtain ⟨rfl, e9⟩ := hq
        rw [e9]
        refine R_istore5 dX7_greatestGain_20 (by decide) ?_
        refine R_iload_n dX7_greatestGain_22 rfl ?_
        refine R_if_gt_N (tgt := 35) dX7_greatestGain_23 (by decide) (by omega) (fun c23 => ?_) (fun c23 => ?_)
        -- X7_greatestGain: ('branch', 23, 35, 26)
        · exact yes (Or.inl c23)
        · refine R_aload_n dX7_greatestGain_26 rfl ?_
          refine R_iload dX7_greatestGain_27 rfl ?_
          -- X7_greatestGain: ('call', 29, '.invokevirtual', 90)
          refine R_callV v_X7_isRuled (Sr_isRuled hS (fun p => by rw [mk1]; split <;> omega) hx7) dX7_greatestGain_29 l_RX7_90 rfl rfl hS.1 (Nat.le_of_ble_eq_true rfl) (by omega) rfl rfl (fun v h1 hq => ?_)
          obtain ⟨rfl, e9⟩ := hq
          rw [e9, mk1]
          by_cases hr : ruledB ru x = true
          · rw [if_pos hr]
            refine R_if_eq_N (tgt := 47) dX7_greatestGain_32 (by decide) (by omega) (fun c32 => ?_) (fun c32 => ?_)
            -- X7_greatestGain: ('branch', 32, 47, 35)
            · exact absurd c32 (by decide)
            · exact yes (Or.inr hr)
          · rw [if_neg hr]
            refine R_if_eq_N (tgt := 47) dX7_greatestGain_32 (by decide) (by omega) (fun c32 => ?_) (fun c32 => ?_)
            -- X7_greatestGain: ('branch', 32, 47, 35)
            · exact no (fun z => z.elim (by omega) hr) _
            · exact absurd rfl c32
  refine R_iconst (v := nI 0) dX7_greatestGain_0 (by decide) ?_
  refine R_istore3 dX7_greatestGain_1 (by decide) ?_
  refine R_iconst (v := nI 0) dX7_greatestGain_2 (by decide) ?_
  refine R_istore4 dX7_greatestGain_3 (by decide) ?_
  -- X7_greatestGain: ('stop', 5)
  exact loop st.length 0 0 none (by omega) (by omega) (fun p hp => by simp at hp) (Or.inl rfl)
theorem Sr_markRules (hS : SrAt E h S m) (hm : ∀ p, m p < 2) (hP : PackAt E h P sq ru) (hd : P + 126 ≤ S ∨ S + 12 ≤ P) (h86 : ∀ i, i < 60 → ∀ x ∈ ru i, x < 86) {v : Nat} (hv : v < 2) : Spec E k_X7_markRules 2 0 0 [.ref S, .ref P, .int (nI v)] h (fun w h' => w = none ∧ SrAt E h' S (fun p => if ruledB ru p then v else m p) ∧ Out h h' (S + 9) (S + 10)) := by
  refine Spec.of (by decide +kernel) (by simp [Value.category]) (Nat.le_of_ble_eq_true rfl) ?_
  show WP E k_X7_markRules 2 0 0 0 [some (.ref S), some (.ref P), some (.int (nI v)), none, none, none] [] h _
  have loop : ∀ n i h2 m2 x4 x5, i + n = 60 → SrAt E h2 S m2 → (∀ p, m2 p = if (fstB (fun j => decide (ru j = [p / 86, p % 86])) i).isSome then v else m p) → Out h h2 (S + 9) (S + 10) → WP E k_X7_markRules 2 0 0 3 [some (.ref S), some (.ref P), some (.int (nI v)), some (.int (nI (26 + i))), x4, x5] [] h2 (fun w h' => w = none ∧ SrAt E h' S (fun p => if ruledB ru p then v else m p) ∧ Out h h' (S + 9) (S + 10)) := by
    intro n
    induction n with
    | zero =>
      intro i h2 m2 x4 x5 hi hS2 hm2 o2
      have e60 : i = 60 := by omega
      subst e60
      refine R_iload_n dX7_markRules_3 rfl ?_
      refine R_bipush (v := nI 86) dX7_markRules_4 (by decide) ?_
      refine R_icmp_ge_N (tgt := 71) dX7_markRules_6 (by decide) (by omega) (by omega) (fun c6 => ?_) (fun c6 => ?_)
      -- X7_markRules: ('branch', 6, 71, 9)
      · refine R_return dX7_markRules_71 rfl ?_
        -- X7_markRules: ('ret', 71)
        refine ⟨rfl, ?_, o2⟩
        have e : m2 = fun p => if ruledB ru p then v else m p := funext hm2
        rw [← e]
        exact hS2
      · exact absurd c6 (by omega)
    | succ n ih =>
      intro i h2 m2 x4 x5 hi hS2 hm2 o2
      have hP2 := hP.ag (o2.ag (by omega))
      have hrow := hP2.rul (i := i) (by omega)
      have hrl := hrow.1
      have step : ∀ p, (fstB (fun j => decide (ru j = [p / 86, p % 86])) (i + 1)).isSome = ((fstB (fun j => decide (ru j = [p / 86, p % 86])) i).isSome || decide (ru i = [p / 86, p % 86])) := by
        intro p
        rw [fstB]
        cases fstB (fun j => decide (ru j = [p / 86, p % 86])) i with
        | some k => rfl
        | none => by_cases hd : ru i = [p / 86, p % 86] <;> simp [hd]
      refine R_iload_n dX7_markRules_3 rfl ?_
      refine R_bipush (v := nI 86) dX7_markRules_4 (by decide) ?_
      refine R_icmp_ge_N (tgt := 71) dX7_markRules_6 (by decide) (by omega) (by omega) (fun c6 => ?_) (fun c6 => ?_)
      -- X7_markRules: ('branch', 6, 71, 9)
      · exact absurd c6 (by omega)
      · refine R_aload_n dX7_markRules_9 rfl ?_
        refine R_iload_n dX7_markRules_10 rfl ?_
        -- X7_markRules: ('call', 11, '.invokevirtual', 76)
        refine R_callV v_X2_rowOf (Pack_rowOf hP2 (s := 26 + i) (by omega)) dX7_markRules_11 l_RX7_76 rfl rfl hP2.1 (Nat.le_of_ble_eq_true rfl) (by omega) rfl rfl (fun v h1 hq => ?_)
        obtain ⟨rfl, e9⟩ := hq
        rw [e9, rowA_in (by omega), Nat.add_sub_cancel_left]
        refine R_astore4 dX7_markRules_14 (by decide) ?_
        refine R_aload dX7_markRules_16 rfl ?_
        -- X7_markRules: ('call', 18, '.invokevirtual', 80)
        refine R_callV v_X6_size (Row_size hrow) dX7_markRules_18 l_RX7_80 rfl rfl hrow.2.2.1 (Nat.le_of_ble_eq_true rfl) (by omega) rfl rfl (fun v h1 hq => ?_)
        obtain ⟨rfl, e9⟩ := hq
        rw [e9]
        refine R_iconst (v := nI 2) dX7_markRules_21 (by decide) ?_
        refine R_icmp_ne_N (tgt := 65) dX7_markRules_22 (by decide) (by omega) (by omega) (fun c22 => ?_) (fun c22 => ?_)
        -- X7_markRules: ('branch', 22, 65, 25)
        · refine R_iinc3 dX7_markRules_65 (by decide) (nI_inc _ 1) ?_
          refine R_goto (tgt := 3) dX7_markRules_68 (by decide) ?_
          -- X7_markRules: ('stop', 3)
          refine ih (i + 1) h2 m2 _ _ (by omega) hS2 (fun p => ?_) o2
          rw [hm2 p, step p]
          have : ¬ ru i = [p / 86, p % 86] := fun e => c22 (by rw [e]; rfl)
          simp [this]
        · obtain ⟨a, b, hab⟩ : ∃ a b, ru i = [a, b] := by
            match hr : ru i, c22 with
            | [a, b], _ => exact ⟨a, b, rfl⟩
          have ha8 := h86 i (by omega) a (by rw [hab]; simp)
          have hb8 := h86 i (by omega) b (by rw [hab]; simp)
          obtain ⟨d1, d2⟩ := pair_dm (a := a) hb8
          refine R_aload dX7_markRules_25 rfl ?_
          refine R_iconst (v := nI 0) dX7_markRules_27 (by decide) ?_
          -- X7_markRules: ('call', 28, '.invokevirtual', 81)
          refine R_callV v_X6_get (Row_get hrow (nI 0)) dX7_markRules_28 l_RX7_81 rfl rfl hrow.2.2.1 (Nat.le_of_ble_eq_true rfl) (by omega) rfl rfl (fun v h1 hq => ?_)
          obtain ⟨rfl, e9⟩ := hq
          rw [e9, rget_in (x := a) (by omega) (by rw [hab]; rfl)]
          refine R_aload dX7_markRules_31 rfl ?_
          refine R_iconst (v := nI 1) dX7_markRules_33 (by decide) ?_
          -- X7_markRules: ('call', 34, '.invokevirtual', 81)
          refine R_callV v_X6_get (Row_get hrow (nI 1)) dX7_markRules_34 l_RX7_81 rfl rfl hrow.2.2.1 (Nat.le_of_ble_eq_true rfl) (by omega) rfl rfl (fun v h1 hq => ?_)
          obtain ⟨rfl, e9⟩ := hq
          rw [e9, rget_in (x := b) (by omega) (by rw [hab]; rfl)]
          refine R_callS s_X3_pairOf (PT_pairOf ha8 hb8) dX7_markRules_37 l_RX7_84 rfl rfl (Nat.le_of_ble_eq_true rfl) (by omega) rfl rfl (fun v h1 hq => ?_)
          obtain ⟨rfl, e9⟩ := hq
          rw [e9]
          obtain ⟨g1, f, g2, hf⟩ := id hS2
          refine R_istore5 dX7_markRules_40 (by decide) ?_
          refine R_iload dX7_markRules_42 rfl ?_
          refine R_if_lt_N (tgt := 65) dX7_markRules_44 (by decide) (by omega) ?_
          refine R_iload dX7_markRules_47 rfl ?_
          refine R_aload_n dX7_markRules_49 rfl ?_
          refine R_get K_7 (f := 2) (by decide) dX7_markRules_50 f_RX7_21 (by first | exact g1 | exact g2) rfl ?_
          refine R_arraylength (t0 := 1) dX7_markRules_53 rfl (by first | exact g1 | exact g2) ?_
          refine R_icmp_ge_N (tgt := 65) dX7_markRules_54 (by decide) (by omega) (by omega) (fun c54 => ?_) (fun c54 => ?_)
          -- X7_markRules: ('branch', 54, 65, 57)
          · exact absurd c54 (by omega)
          · refine R_aload_n dX7_markRules_57 rfl ?_
            refine R_get K_7 (f := 2) (by decide) dX7_markRules_58 f_RX7_21 (by first | exact g1 | exact g2) rfl ?_
            refine R_iload dX7_markRules_61 rfl ?_
            refine R_iload_n dX7_markRules_63 rfl ?_
            refine R_zastore_N dX7_markRules_64 (by first | exact g1 | exact g2) (by omega) (by omega) (by omega) ?_
            -- X7_markRules: ('put', 65)
            intro h3 u3
            refine R_iinc3 dX7_markRules_65 (by decide) (nI_inc _ 1) ?_
            refine R_goto (tgt := 3) dX7_markRules_68 (by decide) ?_
            -- X7_markRules: ('stop', 3)
            refine ih (i + 1) h3 (fun p => if p = 86 * a + b then v else m2 p) _ _ (by omega) ⟨(u3.2.2 _ (by omega)).trans g1, _, u3.2.1, fun p hp => ?_⟩ (fun p => ?_) (o2.trans (Out.upd u3 (by omega) (by omega)))
            · by_cases hpe : p = 86 * a + b
              · subst hpe; simp [upd]
              · simp only [upd, if_neg hpe]; exact hf p hp
            · rw [step p, hab]
              by_cases hpe : p = 86 * a + b
              · rw [if_pos hpe, hpe, d1, d2]; simp
              · rw [if_neg hpe, hm2 p]
                have : ¬ [a, b] = [p / 86, p % 86] := fun e => hpe (by
                  have e1 := (List.cons.inj e).1
                  have e2 := (List.cons.inj (List.cons.inj e).2).1
                  omega)
                simp [this]
  refine R_bipush (v := nI 26) dX7_markRules_0 (by decide) ?_
  refine R_istore3 dX7_markRules_2 (by decide) ?_
  -- X7_markRules: ('stop', 3)
  exact loop 60 0 h m none none (by omega) hS (fun p => rfl) Out.refl
end SEARCH
