/-! SEARCH: its methods -/
theorem Rch.up {k : Nat} : ∀ {sq : List Nat} {ru : Ru} {n : Nat}, Rch k sq ru n → Rch (k + 1) sq ru n := by
  induction k with
  | zero => intro sq ru n h; exact Or.inl h
  | succ k ih =>
    intro sq ru n h
    rcases h with h | ⟨a, b, i, h1, h2, h3⟩
    · exact Or.inl h
    · exact Or.inr ⟨a, b, i, h1, h2, ih h3⟩
theorem nI_subsub {a b c : Nat} (hb : b ≤ a + c) : nI a - (nI b - nI c) = nI (a + c - b) := by
  rw [← pk_sub hb, ← nI_add]
  simp only [Int32.sub_eq_add_neg, Int32.neg_add, Int32.neg_neg]
  rw [Int32.add_comm (-nI b) (nI c), ← Int32.add_assoc]
theorem sign_ne {ru : Ru} (hA : Acy ru) {a b i : Nat} (hi : signS ru a b = some i) (ha : isSg ru a) (hb : isSg ru b) : 26 + i ≠ a ∧ 26 + i ≠ b := by
  have hlt := signS_lt hi
  rcases signS_or hi with h | h
  · obtain ⟨rk, hrk⟩ := hA
    have h1 := hrk i hlt a (by rw [h]; simp)
    have h2 := hrk i hlt b (by rw [h]; simp)
    constructor
    · intro e; rcases h1 with z | ⟨-, z⟩
      · omega
      · rw [e] at z; omega
    · intro e; rcases h2 with z | ⟨-, z⟩
      · omega
      · rw [e] at z; omega
  · constructor
    · intro e; rcases ha with z | z
      · omega
      · have := z.2.2; rw [← e, Nat.add_sub_cancel_left] at this; exact this h
    · intro e; rcases hb with z | z
      · omega
      · have := z.2.2; rw [← e, Nat.add_sub_cancel_left] at this; exact this h
def SrAny (E : EnvT) (h : Hp) (S : Nat) : Prop := SrAt E h S (fun _ => 0) ∧ PTAny E h (S + 1) ∧ PTAny E h (S + 5) ∧ ∃ l, RowAt E h (S + 10) 240 l
theorem SrAny.ag {E : EnvT} {h h1 : Hp} {S : Nat} (x : SrAny E h S) (o : Ag h h1 S (S + 12)) : SrAny E h1 S := by
  obtain ⟨a, b, c, l, d⟩ := x
  exact ⟨a.ag (o _ (by omega) (by omega)) (o _ (by omega) (by omega)), b.ag (o.sub (by omega) (by omega)), c.ag (o.sub (by omega) (by omega)), l, d.ag (o.sub (by omega) (by omega))⟩
section SEARCH3
variable {E : EnvT} {h : Hp} {S P : Nat} {sq : List Nat} {ru : Ru}
theorem IsGG.le {l : List Nat} {ru : Ru} {free G : Nat} (h : IsGG l ru free G) : G ≤ l.length := by
  rcases h.2 with e | ⟨p, -, -, -, e⟩
  · omega
  · have := cntG_le (l := l) (a := p / 86) (b := p % 86)
    rw [e, gnN]; split <;> (simp only [pcf]; omega)
set_option maxHeartbeats 4000000 in
theorem Sr_leastBehind (hA : Acy ru) (hS : SrAt E h S (mk1 ru)) {st1 : List Nat} (y1 : TalAt E h (S + 1) sq st1) (y2 : PTAny E h (S + 5)) {l0 : List Nat} (y3 : RowAt E h (S + 10) 240 l0) (hP : PackAt E h P sq ru) (hd : P + 126 ≤ S ∨ S + 12 ≤ P) (hsg : ∀ x ∈ sq, isSg ru x) {p : Nat} (hp : p < 7396) (hc : 0 < pcf sq p) : Spec E k_X7_leastBehind 4 0 0 [.ref S, .ref P, .int (nI p), .int (nI (sizeS sq ru)), .int (nI (freeN ru))] h (fun v h' => (∃ n, v = some (.int (nI n)) ∧ n < 10000 ∧ (n = sizeS sq ru ∧ signS ru (p / 86) (p % 86) = none ∨ ∃ i, signS ru (p / 86) (p % 86) = some i ∧ IsBest 1 (joinL (p / 86) (p % 86) (26 + i) sq) (ruSet ru i [p / 86, p % 86]) n)) ∧ SrAt E h' S (mk1 ru) ∧ TalAt E h' (S + 1) sq st1 ∧ PTAny E h' (S + 5) ∧ (∃ l, RowAt E h' (S + 10) 240 l) ∧ Out h h' (S + 5) (S + 12)) := by
  have hsq := hP.2.1.1
  have hfl := freeN_le (ru := ru)
  have h86 : ∀ x ∈ sq, x < 86 := fun x hx => isSg_lt (hsg x hx)
  have hsz : sizeS sq ru ≤ 240 + 60 * 12 := by
    have := sumB_le2 (f := fun r => (ru r).length) (c := 12) 60 (fun i hi => (hP.rul hi).1)
    rw [sizeS]; omega
  have hpcl : pcf sq p ≤ sq.length := cntG_le
  have hps : sq.length ≤ sizeS sq ru := by rw [sizeS]; omega
  obtain ⟨j0, hj1, hj2⟩ := cntG_std hc
  have hma := List.mem_of_getElem? hj1
  have hmb := List.mem_of_getElem? hj2
  have ha8 := h86 _ hma
  have hb8 := h86 _ hmb
  have hmk : ∀ q, mk1 ru q < 2 := fun q => by rw [mk1]; split <;> omega
  refine Spec.of (by decide +kernel) (by simp [Value.category]) (Nat.le_of_ble_eq_true rfl) ?_
  show WP E k_X7_leastBehind 4 0 0 0 [some (.ref S), some (.ref P), some (.int (nI p)), some (.int (nI (sizeS sq ru))), some (.int (nI (freeN ru))), none, none, none] [] h _
  have go : ∀ i, signS ru (p / 86) (p % 86) = some i → WP E k_X7_leastBehind 4 0 0 15 [some (.ref S), some (.ref P), some (.int (nI p)), some (.int (nI (sizeS sq ru))), some (.int (nI (freeN ru))), none, none, none] [] h (fun v h' => (∃ n, v = some (.int (nI n)) ∧ n < 10000 ∧ (n = sizeS sq ru ∧ signS ru (p / 86) (p % 86) = none ∨ ∃ i, signS ru (p / 86) (p % 86) = some i ∧ IsBest 1 (joinL (p / 86) (p % 86) (26 + i) sq) (ruSet ru i [p / 86, p % 86]) n)) ∧ SrAt E h' S (mk1 ru) ∧ TalAt E h' (S + 1) sq st1 ∧ PTAny E h' (S + 5) ∧ (∃ l, RowAt E h' (S + 10) 240 l) ∧ Out h h' (S + 5) (S + 12)) := by
    intro i hi
    have hil := signS_lt hi
    obtain ⟨n1, n2⟩ := sign_ne hA hi (hsg _ hma) (hsg _ hmb)
    have hjl := joinL_len_eq (a := p / 86) (b := p % 86) (s := 26 + i) (l := sq)
    have hj86 : ∀ x ∈ joinL (p / 86) (p % 86) (26 + i) sq, x < 86 := fun x hx => (joinL_mem hx).elim (fun e => by omega) (fun e => h86 x e)
    have hsj := size_join (sq := sq) hi
    rw [← ruledB] at hsj
    have hpe : 86 * (p / 86) + p % 86 = p := by omega
    refine R_iload_n dX7_leastBehind_15 rfl ?_
    -- X7_leastBehind: ('call', 16, '.invokestatic', 100)
    refine R_callS s_X3_leftOf (PT_leftOf hp) dX7_leastBehind_16 l_RX7_100 rfl rfl (Nat.le_of_ble_eq_true rfl) (by omega) rfl rfl (fun v h1 hq => ?_)
    obtain ⟨rfl, e9⟩ := hq
    rw [e9]
    refine R_istore5 dX7_leastBehind_19 (by decide) ?_
    refine R_iload_n dX7_leastBehind_21 rfl ?_
    -- X7_leastBehind: ('call', 22, '.invokestatic', 103)
    refine R_callS s_X3_rightOf (PT_rightOf hp) dX7_leastBehind_22 l_RX7_103 rfl rfl (Nat.le_of_ble_eq_true rfl) (by omega) rfl rfl (fun v h1 hq => ?_)
    obtain ⟨rfl, e9⟩ := hq
    rw [e9]
    refine R_istore6 dX7_leastBehind_25 (by decide) ?_
    refine R_aload_n dX7_leastBehind_27 rfl ?_
    refine R_get K_7 (f := 3) (by decide) dX7_leastBehind_28 f_RX7_30 hS.1 rfl ?_
    refine R_aload_n dX7_leastBehind_31 rfl ?_
    -- X7_leastBehind: ('call', 32, '.invokevirtual', 47)
    refine R_callV v_X2_sequence (Pack_sequence hP) dX7_leastBehind_32 l_RX7_47 rfl rfl hP.1 (Nat.le_of_ble_eq_true rfl) (by omega) rfl rfl (fun v h1 hq => ?_)
    obtain ⟨rfl, e9⟩ := hq
    rw [e9]
    refine R_callV v_X6_take (Row_take y3 hP.2.1 (by omega) hP.2.1.1) dX7_leastBehind_35 l_RX7_106 rfl rfl y3.2.2.1 (Nat.le_of_ble_eq_true rfl) (by omega) rfl rfl (fun v h1 hq => ?_)
    obtain ⟨rfl, t4, o4⟩ := hq
    have hS4 := hS.ag (o4.2 _ (by omega)) (o4.2 _ (by omega))
    have hP4 := hP.ag (o4.ag (by omega))
    refine R_aload_n dX7_leastBehind_38 rfl ?_
    refine R_get K_7 (f := 3) (by decide) dX7_leastBehind_39 f_RX7_30 hS4.1 rfl ?_
    refine R_iload dX7_leastBehind_42 rfl ?_
    refine R_iload dX7_leastBehind_44 rfl ?_
    refine R_aload_n dX7_leastBehind_46 rfl ?_
    refine R_iload dX7_leastBehind_47 rfl ?_
    refine R_iload dX7_leastBehind_49 rfl ?_
    -- X7_leastBehind: ('call', 51, '.invokevirtual', 109)
    refine R_callV v_X2_signFor (Pack_signFor hP4 (a := p / 86) (b := p % 86) (by omega) (by omega)) dX7_leastBehind_51 l_RX7_109 rfl rfl hP4.1 (Nat.le_of_ble_eq_true rfl) (by omega) rfl rfl (fun v h1 hq => ?_)
    obtain ⟨rfl, e9⟩ := hq
    rw [e9, hi, oI]
    refine R_callV v_X6_joinPairs (Row_joinPairs t4 (a := p / 86) (b := p % 86) (s := 26 + i) (by omega) (by omega) (by omega)) dX7_leastBehind_54 l_RX7_112 rfl rfl t4.2.2.1 (Nat.le_of_ble_eq_true rfl) (by omega) rfl rfl (fun v h1 hq => ?_)
    obtain ⟨rfl, t5, o5⟩ := hq
    have hS5 := hS4.ag (o5.2 _ (by omega)) (o5.2 _ (by omega))
    have h25 := (y2.ag (o4.ag (by omega))).ag (o5.ag (by omega))
    refine R_aload_n dX7_leastBehind_57 rfl ?_
    refine R_get K_7 (f := 1) (by decide) dX7_leastBehind_58 f_RX7_18 hS5.1 rfl ?_
    refine R_aload_n dX7_leastBehind_61 rfl ?_
    refine R_get K_7 (f := 3) (by decide) dX7_leastBehind_62 f_RX7_30 hS5.1 rfl ?_
    -- X7_leastBehind: ('call', 65, '.invokevirtual', 51)
    refine R_callV v_X3_tally (PT_tally h25 t5 hj86 t5.1 (by omega)) dX7_leastBehind_65 l_RX7_51 rfl rfl h25.choose_spec.choose_spec.1.1 (Nat.le_of_ble_eq_true rfl) (by omega) rfl rfl (fun v h6 hq => ?_)
    obtain ⟨rfl, ⟨st2, hT2⟩, o6⟩ := hq
    have hS6 := hS5.ag (o6.2 _ (by omega)) (o6.2 _ (by omega))
    have h16 := ((y1.ag (o4.ag (by omega))).ag (o5.ag (by omega))).ag (o6.ag (by omega))
    have t6 := t5.out o6 (by omega)
    have o6' : Out h _ (S + 5) (S + 12) := ((o4.mono (by omega) (by omega)).trans (o5.mono (by omega) (by omega))).trans (o6.mono (by omega) (by omega))
    refine R_aload_n dX7_leastBehind_68 rfl ?_
    refine R_iload_n dX7_leastBehind_69 rfl ?_
    -- X7_leastBehind: ('call', 70, '.invokevirtual', 90)
    refine R_callV v_X7_isRuled (Sr_isRuled hS6 hmk hp) dX7_leastBehind_70 l_RX7_90 rfl rfl hS6.1 (Nat.le_of_ble_eq_true rfl) (by omega) rfl rfl (fun v h1 hq => ?_)
    obtain ⟨rfl, e9⟩ := hq
    rw [e9, mk1]
    have hcc : cntG sq (p / 86) (p % 86) = pcf sq p := rfl
    rw [hcc] at hsj hjl
    have tail : ∀ fr, fr = (if ruledB ru p then freeN ru else freeN ru - 1) → ∀ x5 x6, WP E k_X7_leastBehind 4 0 0 85 [some (.ref S), some (.ref P), some (.int (nI p)), some (.int (nI (sizeS sq ru))), some (.int (nI (freeN ru))), x5, x6, none] [.int (nI fr)] h6 (fun v h' => (∃ n, v = some (.int (nI n)) ∧ n < 10000 ∧ (n = sizeS sq ru ∧ signS ru (p / 86) (p % 86) = none ∨ ∃ i, signS ru (p / 86) (p % 86) = some i ∧ IsBest 1 (joinL (p / 86) (p % 86) (26 + i) sq) (ruSet ru i [p / 86, p % 86]) n)) ∧ SrAt E h' S (mk1 ru) ∧ TalAt E h' (S + 1) sq st1 ∧ PTAny E h' (S + 5) ∧ (∃ l, RowAt E h' (S + 10) 240 l) ∧ Out h h' (S + 5) (S + 12)) := by
      intro fr hfr x5 x6
      have hfr60 : fr ≤ 60 := by rw [hfr]; split <;> omega
      have hval : nI (sizeS sq ru) - (if ruledB ru p then nI (pcf sq p) else nI (pcf sq p) - nI 2) = nI (sizeS (joinL (p / 86) (p % 86) (26 + i) sq) (ruSet ru i [p / 86, p % 86])) := by
        by_cases hr : ruledB ru p = true
        · rw [if_pos hr] at hsj
          rw [if_pos hr, pk_sub (by omega)]
          congr 1; omega
        · rw [if_neg hr] at hsj
          rw [if_neg hr, nI_subsub (by omega)]
          congr 1; omega
      have hszj : sizeS (joinL (p / 86) (p % 86) (26 + i) sq) (ruSet ru i [p / 86, p % 86]) ≤ 1000 := by
        split at hsj <;> omega
      refine R_istore7 dX7_leastBehind_85 (by decide) ?_
      refine R_iload_n dX7_leastBehind_87 rfl ?_
      refine R_aload_n dX7_leastBehind_88 rfl ?_
      refine R_aload_n dX7_leastBehind_89 rfl ?_
      refine R_get K_7 (f := 0) (by decide) dX7_leastBehind_90 f_RX7_12 hS6.1 rfl ?_
      refine R_iload_n dX7_leastBehind_93 rfl ?_
      -- X7_leastBehind: ('call', 94, '.invokevirtual', 94)
      refine R_callV v_X7_gainOf (Sr_gainOf hS6 h16.1 hp) dX7_leastBehind_94 l_RX7_94 rfl rfl hS6.1 (Nat.le_of_ble_eq_true rfl) (by omega) rfl rfl (fun v h1 hq => ?_)
      obtain ⟨rfl, e9⟩ := hq
      rw [e9]
      refine R_isub dX7_leastBehind_97 ?_
      -- X7_leastBehind: ('stop', 98)
      rw [hval]
      refine R_aload_n dX7_leastBehind_98 rfl ?_
      refine R_aload_n dX7_leastBehind_99 rfl ?_
      refine R_get K_7 (f := 1) (by decide) dX7_leastBehind_100 f_RX7_18 hS6.1 rfl ?_
      refine R_iload dX7_leastBehind_103 rfl ?_
      -- X7_leastBehind: ('call', 105, '.invokevirtual', 55)
      refine R_callV v_X7_greatestGain (Sr_greatestGain hS6 hT2 t6.1 (free := fr) hfr60) dX7_leastBehind_105 l_RX7_55 rfl rfl hS6.1 (Nat.le_of_ble_eq_true rfl) (by omega) rfl rfl (fun v h1 hq => ?_)
      obtain ⟨⟨G, rfl, hG, hG2⟩, e9⟩ := hq
      rw [e9]
      have hGle : G ≤ sizeS (joinL (p / 86) (p % 86) (26 + i) sq) (ruSet ru i [p / 86, p % 86]) := by
        have := hG.le
        rw [sizeS]; omega
      refine R_isub_N dX7_leastBehind_108 (by omega) ?_
      refine R_ireturn dX7_leastBehind_109 rfl rfl ?_
      -- X7_leastBehind: ('ret', 109)
      refine ⟨⟨_, rfl, by omega, Or.inr ⟨i, hi, best_one hj86 (gg_behind ha8 hb8 hi n1 n2 ?_)⟩⟩, hS6, h16, hT2.any, ⟨_, t6⟩, o6'⟩
      rw [hpe, ← hfr]
      exact hG
    by_cases hr : ruledB ru p = true
    · rw [if_pos hr]
      refine R_if_eq_N (tgt := 81) dX7_leastBehind_73 (by decide) (by omega) (fun c73 => ?_) (fun c73 => ?_)
      -- X7_leastBehind: ('branch', 73, 81, 76)
      · exact absurd c73 (by decide)
      · refine R_iload dX7_leastBehind_76 rfl ?_
        refine R_goto (tgt := 85) dX7_leastBehind_78 (by decide) ?_
        -- X7_leastBehind: ('stop', 85)
        rw [← hi]
        exact tail _ (by rw [if_pos hr]) _ _
    · rw [if_neg hr]
      have hfp : 0 < freeN ru := by
        rcases canR_iff.mpr ⟨i, hi⟩ with z | z
        · exact z
        · exact absurd z hr
      refine R_if_eq_N (tgt := 81) dX7_leastBehind_73 (by decide) (by omega) (fun c73 => ?_) (fun c73 => ?_)
      -- X7_leastBehind: ('branch', 73, 81, 76)
      · refine R_iload dX7_leastBehind_81 rfl ?_
        refine R_iconst (v := nI 1) dX7_leastBehind_83 (by decide) ?_
        refine R_isub_N dX7_leastBehind_84 (by omega) ?_
        -- X7_leastBehind: ('stop', 85)
        rw [← hi]
        exact tail _ (by rw [if_neg hr]) _ _
      · exact absurd rfl c73
  have h0 : 0 < freeN ru ∨ ruledB ru p = true → WP E k_X7_leastBehind 4 0 0 15 [some (.ref S), some (.ref P), some (.int (nI p)), some (.int (nI (sizeS sq ru))), some (.int (nI (freeN ru))), none, none, none] [] h _ := fun z => go _ (canR_iff.mp z).choose_spec
  refine R_iload dX7_leastBehind_0 rfl ?_
  refine R_if_ne_N (tgt := 15) dX7_leastBehind_2 (by decide) (by omega) (fun c2 => ?_) (fun c2 => ?_)
  -- X7_leastBehind: ('branch', 2, 15, 5)
  · exact h0 (Or.inl (by omega))
  · refine R_aload_n dX7_leastBehind_5 rfl ?_
    refine R_iload_n dX7_leastBehind_6 rfl ?_
    -- X7_leastBehind: ('call', 7, '.invokevirtual', 90)
    refine R_callV v_X7_isRuled (Sr_isRuled hS hmk hp) dX7_leastBehind_7 l_RX7_90 rfl rfl hS.1 (Nat.le_of_ble_eq_true rfl) (by omega) rfl rfl (fun v h1 hq => ?_)
    obtain ⟨rfl, e9⟩ := hq
    rw [e9, mk1]
    by_cases hr : ruledB ru p = true
    · rw [if_pos hr]
      refine R_if_ne_N (tgt := 15) dX7_leastBehind_10 (by decide) (by omega) (fun c10 => ?_) (fun c10 => ?_)
      -- X7_leastBehind: ('branch', 10, 15, 13)
      · exact h0 (Or.inr hr)
      · exact absurd c10 (by decide)
    · rw [if_neg hr]
      have hno : signS ru (p / 86) (p % 86) = none := by
        cases hx : signS ru (p / 86) (p % 86) with
        | none => rfl
        | some i =>
          rcases canR_iff.mpr ⟨i, hx⟩ with z | z
          · omega
          · exact absurd z hr
      refine R_if_ne_N (tgt := 15) dX7_leastBehind_10 (by decide) (by omega) (fun c10 => ?_) (fun c10 => ?_)
      -- X7_leastBehind: ('branch', 10, 15, 13)
      · exact absurd rfl c10
      · refine R_iload_n dX7_leastBehind_13 rfl ?_
        refine R_ireturn dX7_leastBehind_14 rfl rfl ?_
        -- X7_leastBehind: ('ret', 14)
        exact ⟨⟨_, rfl, by omega, Or.inl ⟨rfl, hno⟩⟩, hS, y1, y2, ⟨l0, y3⟩, Out.refl⟩
set_option maxHeartbeats 4000000 in
theorem Sr_leastSize (hA : Acy ru) (hS : SrAny E h S) (hP : PackAt E h P sq ru) (hd : P + 126 ≤ S ∨ S + 12 ≤ P) (hsg : ∀ x ∈ sq, isSg ru x) {k : Nat} (hk : k ≤ 2) : Spec E k_X7_leastSize 5 0 0 [.ref S, .ref P, .int (nI k)] h (fun v h' => (∃ n, v = some (.int (nI n)) ∧ IsBest k sq ru n ∧ n < 10000) ∧ SrAny E h' S ∧ Out h h' S (S + 12)) := by
  obtain ⟨hS0, y1, y2, l0, y3⟩ := id hS
  have hsq := hP.2.1.1
  have hfl := freeN_le (ru := ru)
  have h86 : ∀ x ∈ sq, x < 86 := fun x hx => isSg_lt (hsg x hx)
  have hr86 : ∀ i, i < 60 → ∀ x ∈ ru i, x < 86 := fun i hi x hx => isSg_lt (acy_sg hA hi hx)
  have hsz : sizeS sq ru ≤ 240 + 60 * 12 := by
    have := sumB_le2 (f := fun r => (ru r).length) (c := 12) 60 (fun i hi => (hP.rul hi).1)
    rw [sizeS]; omega
  have hrl : rulesS ru ≤ 60 := cntB_le _ _
  have hps : sq.length ≤ sizeS sq ru := by rw [sizeS]; omega
  have hmk : ∀ q, mk1 ru q < 2 := fun q => by rw [mk1]; split <;> omega
  refine Spec.of (by decide +kernel) (by simp [Value.category]) (Nat.le_of_ble_eq_true rfl) ?_
  show WP E k_X7_leastSize 5 0 0 0 [some (.ref S), some (.ref P), some (.int (nI k)), none, none, none, none] [] h _
  refine R_aload_n dX7_leastSize_0 rfl ?_
  -- X7_leastSize: ('call', 1, '.invokevirtual', 34)
  refine R_callV v_X2_size (Pack_size hP) dX7_leastSize_1 l_RX7_34 rfl rfl hP.1 (Nat.le_of_ble_eq_true rfl) (by omega) rfl rfl (fun v h1 hq => ?_)
  obtain ⟨rfl, e9⟩ := hq
  rw [e9]
  refine R_istore3 dX7_leastSize_4 (by decide) ?_
  refine R_iload_n dX7_leastSize_5 rfl ?_
  refine R_iconst (v := nI 1) dX7_leastSize_6 (by decide) ?_
  refine R_icmp_ge_N (tgt := 12) dX7_leastSize_7 (by decide) (by omega) (by omega) (fun c7 => ?_) (fun c7 => ?_)
  -- X7_leastSize: ('branch', 7, 12, 10)
  · -- at least one
    refine R_bipush (v := nI 60) dX7_leastSize_12 (by decide) ?_
    refine R_aload_n dX7_leastSize_14 rfl ?_
    -- X7_leastSize: ('call', 15, '.invokevirtual', 40)
    refine R_callV v_X2_ruleCount (Pack_ruleCount hP) dX7_leastSize_15 l_RX7_40 rfl rfl hP.1 (Nat.le_of_ble_eq_true rfl) (by omega) rfl rfl (fun v h1 hq => ?_)
    obtain ⟨rfl, e9⟩ := hq
    rw [e9]
    refine R_isub_N dX7_leastSize_18 (by omega) ?_
    -- X7_leastSize: ('stop', 19)
    rw [show 60 - rulesS ru = freeN ru from rfl]
    refine R_istore4 dX7_leastSize_19 (by decide) ?_
    refine R_aload_n dX7_leastSize_21 rfl ?_
    refine R_aload_n dX7_leastSize_22 rfl ?_
    refine R_iconst (v := nI 1) dX7_leastSize_23 (by decide) ?_
    -- X7_leastSize: ('call', 24, '.invokevirtual', 43)
    refine R_callV v_X7_markRules (Sr_markRules hS0 (fun _ => by omega) hP hd hr86 (v := 1) (by omega)) dX7_leastSize_24 l_RX7_43 rfl rfl hS0.1 (Nat.le_of_ble_eq_true rfl) (by omega) rfl rfl (fun v h1 hq => ?_)
    obtain ⟨rfl, hS1, o1⟩ := hq
    rw [show (fun p => if ruledB ru p = true then 1 else 0) = mk1 ru from rfl] at hS1
    have hP1 := hP.ag (o1.ag (by omega))
    have h11 := y1.ag (o1.ag (by omega))
    refine R_aload_n dX7_leastSize_27 rfl ?_
    refine R_get K_7 (f := 0) (by decide) dX7_leastSize_28 f_RX7_12 hS1.1 rfl ?_
    refine R_aload_n dX7_leastSize_31 rfl ?_
    -- X7_leastSize: ('call', 32, '.invokevirtual', 47)
    refine R_callV v_X2_sequence (Pack_sequence hP1) dX7_leastSize_32 l_RX7_47 rfl rfl hP1.1 (Nat.le_of_ble_eq_true rfl) (by omega) rfl rfl (fun v h1 hq => ?_)
    obtain ⟨rfl, e9⟩ := hq
    rw [e9]
    refine R_callV v_X3_tally (PT_tally h11 hP1.2.1 h86 hP1.2.1.1 (by omega)) dX7_leastSize_35 l_RX7_51 rfl rfl h11.choose_spec.choose_spec.1.1 (Nat.le_of_ble_eq_true rfl) (by omega) rfl rfl (fun v h1 hq => ?_)
    obtain ⟨rfl, ⟨st1, hT1⟩, o2⟩ := hq
    have hS2 := hS1.ag (o2.2 _ (by omega)) (o2.2 _ (by omega))
    have hP2 := hP1.ag (o2.ag (by omega))
    have h22 := (y2.ag (o1.ag (by omega))).ag (o2.ag (by omega))
    have h32 := (y3.out o1 (by omega)).out o2 (by omega)
    have o12 : Out h _ S (S + 12) := (o1.mono (by omega) (by omega)).trans (o2.mono (by omega) (by omega))
    refine R_iload_n dX7_leastSize_38 rfl ?_
    refine R_iload_n dX7_leastSize_39 rfl ?_
    refine R_aload_n dX7_leastSize_40 rfl ?_
    refine R_aload_n dX7_leastSize_41 rfl ?_
    refine R_get K_7 (f := 0) (by decide) dX7_leastSize_42 f_RX7_12 hS2.1 rfl ?_
    refine R_iload dX7_leastSize_45 rfl ?_
    -- X7_leastSize: ('call', 47, '.invokevirtual', 55)
    refine R_callV v_X7_greatestGain (Sr_greatestGain hS2 hT1 hsq (free := freeN ru) hfl) dX7_leastSize_47 l_RX7_55 rfl rfl hS2.1 (Nat.le_of_ble_eq_true rfl) (by omega) rfl rfl (fun v h1 hq => ?_)
    obtain ⟨⟨G, rfl, hG, hG2⟩, e9⟩ := hq
    rw [e9]
    have hGl := hG.le
    have b1 := best_one h86 hG
    refine R_isub_N dX7_leastSize_50 (by omega) ?_
    -- X7_leastSize: ('call', 51, '.invokestatic', 59)
    refine R_callS s_J9_min_7cf53 (J_min (a := sizeS sq ru) (b := sizeS sq ru - G) (by omega) (by omega)) dX7_leastSize_51 l_RX7_59 rfl rfl (Nat.le_of_ble_eq_true rfl) (by omega) rfl rfl (fun v h1 hq => ?_)
    obtain ⟨rfl, e9⟩ := hq
    rw [e9, Nat.min_eq_right (Nat.sub_le _ _)]
    -- the end, with the marks taken off
    have fin : ∀ h4 n x6, n < 10000 → IsBest k sq ru n → SrAt E h4 S (mk1 ru) → PTAny E h4 (S + 1) → PTAny E h4 (S + 5) → (∃ l, RowAt E h4 (S + 10) 240 l) → Out h h4 S (S + 12) → WP E k_X7_leastSize 5 0 0 106 [some (.ref S), some (.ref P), some (.int (nI k)), some (.int (nI (sizeS sq ru))), some (.int (nI (freeN ru))), some (.int (nI n)), x6] [] h4 (fun v h' => (∃ n, v = some (.int (nI n)) ∧ IsBest k sq ru n ∧ n < 10000) ∧ SrAny E h' S ∧ Out h h' S (S + 12)) := by
      intro h4 n x6 hn hb g1 g2 g3 g4 o4
      have hP4 := hP.ag (o4.ag (by omega))
      refine R_aload_n dX7_leastSize_106 rfl ?_
      refine R_aload_n dX7_leastSize_107 rfl ?_
      refine R_iconst (v := nI 0) dX7_leastSize_108 (by decide) ?_
      -- X7_leastSize: ('call', 109, '.invokevirtual', 43)
      refine R_callV v_X7_markRules (Sr_markRules g1 hmk hP4 hd hr86 (v := 0) (by omega)) dX7_leastSize_109 l_RX7_43 rfl rfl g1.1 (Nat.le_of_ble_eq_true rfl) (by omega) rfl rfl (fun v h1 hq => ?_)
      obtain ⟨rfl, hS5, o5⟩ := hq
      have e0 : (fun p => if ruledB ru p = true then 0 else mk1 ru p) = fun _ => 0 := by
        funext p; rw [mk1]; split <;> rfl
      rw [e0] at hS5
      obtain ⟨l4, g4⟩ := g4
      refine R_iload dX7_leastSize_112 rfl ?_
      refine R_ireturn dX7_leastSize_114 rfl rfl ?_
      -- X7_leastSize: ('ret', 114)
      exact ⟨⟨n, rfl, hb, hn⟩, ⟨hS5, g2.ag (o5.ag (by omega)), g3.ag (o5.ag (by omega)), l4, g4.out o5 (by omega)⟩, o4.trans (o5.mono (by omega) (by omega))⟩
    refine R_istore5 dX7_leastSize_54 (by decide) ?_
    refine R_iload_n dX7_leastSize_56 rfl ?_
    refine R_iconst (v := nI 1) dX7_leastSize_57 (by decide) ?_
    refine R_icmp_le_N (tgt := 106) dX7_leastSize_58 (by decide) (by omega) (by omega) (fun c58 => ?_) (fun c58 => ?_)
    -- X7_leastSize: ('branch', 58, 106, 61)
    · have e1 : k = 1 := by omega
      subst e1
      exact fin _ _ none (by omega) b1 hS2 hT1.any h22 ⟨_, h32⟩ o12
    · have e2 : k = 2 := by omega
      subst e2
      have loop : ∀ m i h4 n, i + m = st1.length → n < 10000 → Rch 2 sq ru n → n ≤ sizeS sq ru → (∀ p ∈ st1.take i, ∀ j, signS ru (p / 86) (p % 86) = some j → ∃ n', n ≤ n' ∧ IsBest 1 (joinL (p / 86) (p % 86) (26 + j) sq) (ruSet ru j [p / 86, p % 86]) n') → SrAt E h4 S (mk1 ru) → TalAt E h4 (S + 1) sq st1 → PTAny E h4 (S + 5) → (∃ l, RowAt E h4 (S + 10) 240 l) → Out h h4 S (S + 12) → WP E k_X7_leastSize 5 0 0 64 [some (.ref S), some (.ref P), some (.int (nI 2)), some (.int (nI (sizeS sq ru))), some (.int (nI (freeN ru))), some (.int (nI n)), some (.int (nI i))] [] h4 (fun v h' => (∃ n, v = some (.int (nI n)) ∧ IsBest 2 sq ru n ∧ n < 10000) ∧ SrAny E h' S ∧ Out h h' S (S + 12)) := by
        intro m
        induction m with
        | zero =>
          intro i h4 n hi hn hr hle hall g1 g2 g3 g4 o4
          rw [List.take_of_length_le (by omega)] at hall
          refine R_iload dX7_leastSize_64 rfl ?_
          refine R_aload_n dX7_leastSize_66 rfl ?_
          refine R_get K_7 (f := 0) (by decide) dX7_leastSize_67 f_RX7_12 g1.1 rfl ?_
          -- X7_leastSize: ('call', 70, '.invokevirtual', 65)
          refine R_callV v_X3_kinds (PT_kinds g2.1) dX7_leastSize_70 l_RX7_65 rfl rfl g2.1.1 (Nat.le_of_ble_eq_true rfl) (by omega) rfl rfl (fun v h1 hq => ?_)
          obtain ⟨rfl, e9⟩ := hq
          rw [e9]
          have hsl := g2.1.2.2.1
          refine R_icmp_ge_N (tgt := 106) dX7_leastSize_73 (by decide) (by omega) (by omega) (fun c73 => ?_) (fun c73 => ?_)
          -- X7_leastSize: ('branch', 73, 106, 76)
          · refine fin h4 n _ hn ⟨hr, ?_⟩ g1 g2.any g3 g4 o4
            rintro n' (rfl | ⟨a, b, j, ⟨q, hq1, hq2⟩, hj, hrr⟩)
            · exact hle
            · have ha8 := h86 a (List.mem_of_getElem? hq1)
              have hb8 := h86 b (List.mem_of_getElem? hq2)
              obtain ⟨d1, d2⟩ := pair_dm (a := a) hb8
              have hm := (g2.2.2 (86 * a + b)).mpr ⟨by omega, by rw [pcf, d1, d2]; exact std_cnt hq1 hq2⟩
              obtain ⟨n2, hle2, hb2⟩ := hall _ hm j (by rw [d1, d2]; exact hj)
              rw [d1, d2] at hb2
              have := hb2.2 n' hrr
              omega
          · exact absurd c73 (by omega)
        | succ m ih =>
          intro i h4 n hi hn hr hle hall g1 g2 g3 g4 o4
          obtain ⟨l4, g4'⟩ := g4
          have hP4 := hP.ag (o4.ag (by omega))
          have hsl := g2.1.2.2.1
          obtain ⟨p, hp⟩ := getE (l := st1) (i := i) (by omega)
          obtain ⟨hp7, hpc⟩ := (g2.2.2 p).mp (List.mem_of_getElem? hp)
          refine R_iload dX7_leastSize_64 rfl ?_
          refine R_aload_n dX7_leastSize_66 rfl ?_
          refine R_get K_7 (f := 0) (by decide) dX7_leastSize_67 f_RX7_12 g1.1 rfl ?_
          -- X7_leastSize: ('call', 70, '.invokevirtual', 65)
          refine R_callV v_X3_kinds (PT_kinds g2.1) dX7_leastSize_70 l_RX7_65 rfl rfl g2.1.1 (Nat.le_of_ble_eq_true rfl) (by omega) rfl rfl (fun v h1 hq => ?_)
          obtain ⟨rfl, e9⟩ := hq
          rw [e9]
          refine R_icmp_ge_N (tgt := 106) dX7_leastSize_73 (by decide) (by omega) (by omega) (fun c73 => ?_) (fun c73 => ?_)
          -- X7_leastSize: ('branch', 73, 106, 76)
          · exact absurd c73 (by omega)
          · refine R_iload dX7_leastSize_76 rfl ?_
            refine R_aload_n dX7_leastSize_78 rfl ?_
            refine R_aload_n dX7_leastSize_79 rfl ?_
            refine R_aload_n dX7_leastSize_80 rfl ?_
            refine R_get K_7 (f := 0) (by decide) dX7_leastSize_81 f_RX7_12 g1.1 rfl ?_
            refine R_iload dX7_leastSize_84 rfl ?_
            -- X7_leastSize: ('call', 86, '.invokevirtual', 68)
            refine R_callV v_X3_pairAt (PT_pairAt g2.1 hp) dX7_leastSize_86 l_RX7_68 rfl rfl g2.1.1 (Nat.le_of_ble_eq_true rfl) (by omega) rfl rfl (fun v h1 hq => ?_)
            obtain ⟨rfl, e9⟩ := hq
            rw [e9]
            refine R_iload_n dX7_leastSize_89 rfl ?_
            refine R_iload dX7_leastSize_90 rfl ?_
            -- X7_leastSize: ('call', 92, '.invokevirtual', 72)
            refine R_callV v_X7_leastBehind (Sr_leastBehind hA g1 g2 g3 g4' hP4 hd hsg hp7 hpc) dX7_leastSize_92 l_RX7_72 rfl rfl g1.1 (Nat.le_of_ble_eq_true rfl) (by omega) rfl rfl (fun v h1 hq => ?_)
            obtain ⟨⟨n2, rfl, hn2, hcase⟩, k1, k2, k3, k4, o5⟩ := hq
            refine R_callS s_J9_min_7cf53 (J_min (a := n) (b := n2) (by omega) (by omega)) dX7_leastSize_95 l_RX7_59 rfl rfl (Nat.le_of_ble_eq_true rfl) (by omega) rfl rfl (fun v h1 hq => ?_)
            obtain ⟨rfl, e9⟩ := hq
            rw [e9]
            refine R_istore5 dX7_leastSize_98 (by decide) ?_
            refine R_iinc6 dX7_leastSize_100 (by decide) (nI_inc _ 1) ?_
            refine R_goto (tgt := 64) dX7_leastSize_103 (by decide) ?_
            -- X7_leastSize: ('stop', 64)
            refine ih (i + 1) _ (min n n2) (by omega) (by omega) ?_ (by omega) (fun q hq j hj => ?_) k1 k2 k3 k4 (o4.trans (o5.mono (by omega) (by omega)))
            · by_cases hmin : n ≤ n2
              · rw [Nat.min_eq_left hmin]; exact hr
              · rw [Nat.min_eq_right (by omega)]
                rcases hcase with ⟨e, -⟩ | ⟨j, hj, hb⟩
                · rw [e]; exact Or.inl rfl
                · obtain ⟨q, hq1, hq2⟩ := cntG_std hpc
                  exact Or.inr ⟨_, _, j, ⟨q, hq1, hq2⟩, hj, hb.1⟩
            · rw [take_snoc hp] at hq
              rcases List.mem_append.mp hq with z | z
              · obtain ⟨n3, h3l, h3b⟩ := hall q z j hj
                exact ⟨n3, by omega, h3b⟩
              · simp at z
                subst z
                rcases hcase with ⟨-, e⟩ | ⟨j2, hj2, hb⟩
                · rw [e] at hj; cases hj
                · rw [hj2] at hj
                  cases hj
                  exact ⟨n2, by omega, hb⟩
      refine R_iconst (v := nI 0) dX7_leastSize_61 (by decide) ?_
      refine R_istore6 dX7_leastSize_62 (by decide) ?_
      -- X7_leastSize: ('stop', 64)
      exact loop st1.length 0 _ _ (by omega) (by omega) (Rch.up b1.1) (by omega) (fun p hp => by simp at hp) hS2 hT1 h22 ⟨_, h32⟩ o12
  · refine R_iload_n dX7_leastSize_10 rfl ?_
    refine R_ireturn dX7_leastSize_11 rfl rfl ?_
    -- X7_leastSize: ('ret', 11)
    have e0 : k = 0 := by omega
    subst e0
    exact ⟨⟨_, rfl, ⟨rfl, fun n' hn' => by rw [show n' = _ from hn']; omega⟩, by omega⟩, hS, Out.refl⟩
end SEARCH3
