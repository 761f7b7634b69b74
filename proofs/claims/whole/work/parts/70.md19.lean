/-! THE MODEL: the least size -/
section MD19
variable {E : EnvT} {h h1 : Hp} {M : Nat} {S : MSt} {q : Pk} {ds : List Pk} {im : Nat → Pk} {md : Nat → Nat} {tp ph : List Nat} {fk fp : Int32}
def fst1 (l : List Nat) (i : Nat) : Prop := ∀ j, j < i → ¬ (l[j]? = l[i]? ∧ l[j + 1]? = l[i + 1]?)
theorem Md_isFirst (x : MdAt E h M S) (c : curF (S.2 1) q) (h86 : ∀ y ∈ q.1, y < 86) {i : Nat} (hi : i + 1 < q.1.length) : Spec E k_X10_isFirst 2 0 0 [.ref M, .int (nI i)] h (fun v h' => (∃ r : Nat, v = some (.int (nI r)) ∧ ((r = 1 ∧ fst1 q.1 i) ∨ (r = 0 ∧ ∃ j, j < i ∧ q.1[j]? = q.1[i]? ∧ q.1[j + 1]? = q.1[i + 1]?))) ∧ h' = h) := by
  have hql := c.1
  obtain ⟨a, ha⟩ := getE (l := q.1) (i := i) (by omega)
  obtain ⟨b, hb⟩ := getE (l := q.1) (i := i + 1) (by omega)
  have ha86 := h86 a (List.mem_of_getElem? ha)
  have hb86 := h86 b (List.mem_of_getElem? hb)
  refine Spec.of (by decide +kernel) (by simp [Value.category]) (Nat.le_of_ble_eq_true rfl) ?_
  show WP E k_X10_isFirst 2 0 0 0 [some (.ref M), some (.int (nI i)), none] [] h _
  have loop : ∀ m t, t + m = i → (∀ j, j < t → ¬ (q.1[j]? = q.1[i]? ∧ q.1[j + 1]? = q.1[i + 1]?)) → WP E k_X10_isFirst 2 0 0 2 [some (.ref M), some (.int (nI i)), some (.int (nI t))] [] h (fun v h' => (∃ r : Nat, v = some (.int (nI r)) ∧ ((r = 1 ∧ fst1 q.1 i) ∨ (r = 0 ∧ ∃ j, j < i ∧ q.1[j]? = q.1[i]? ∧ q.1[j + 1]? = q.1[i + 1]?))) ∧ h' = h) := by
    intro m
    induction m with
    | zero =>
      intro t ht hf
      obtain rfl : t = i := by omega
      refine R_iload_n dX10_isFirst_2 rfl ?_
      refine R_iload_n dX10_isFirst_3 rfl ?_
      refine R_icmp_ge_N (tgt := 45) dX10_isFirst_4 (by decide) (by omega) (by omega) (fun c4 => ?_) (fun c4 => ?_)
      -- X10_isFirst: ('branch', 4, 45, 7)
      · refine R_iconst (v := nI 1) dX10_isFirst_45 (by decide) ?_
        refine R_ireturn dX10_isFirst_46 rfl (by rfl) ?_
        -- X10_isFirst: ('ret', 46)
        exact ⟨⟨1, rfl, Or.inl ⟨rfl, hf⟩⟩, rfl⟩
      · exact absurd c4 (by omega)
    | succ m ih =>
      intro t ht hf
      obtain ⟨u, hu⟩ := getE (l := q.1) (i := t) (by omega)
      obtain ⟨w, hw⟩ := getE (l := q.1) (i := t + 1) (by omega)
      have hu86 := h86 u (List.mem_of_getElem? hu)
      have hw86 := h86 w (List.mem_of_getElem? hw)
      have nx : ¬ (u = a ∧ w = b) → WP E k_X10_isFirst 2 0 0 39 [some (.ref M), some (.int (nI i)), some (.int (nI t))] [] h (fun v h' => (∃ r : Nat, v = some (.int (nI r)) ∧ ((r = 1 ∧ fst1 q.1 i) ∨ (r = 0 ∧ ∃ j, j < i ∧ q.1[j]? = q.1[i]? ∧ q.1[j + 1]? = q.1[i + 1]?))) ∧ h' = h) := by
        intro hn
        refine R_iinc2 dX10_isFirst_39 (by decide) (nI_inc _ 1) ?_
        refine R_goto (tgt := 2) dX10_isFirst_42 (by decide) ?_
        -- X10_isFirst: ('stop', 2)
        refine ih (t + 1) (by omega) (fun j hj => ?_)
        by_cases e : j = t
        · rw [e, hu, hw, ha, hb]
          exact fun z => hn ⟨Option.some.inj z.1, Option.some.inj z.2⟩
        · exact hf j (by omega)
      refine R_iload_n dX10_isFirst_2 rfl ?_
      refine R_iload_n dX10_isFirst_3 rfl ?_
      refine R_icmp_ge_N (tgt := 45) dX10_isFirst_4 (by decide) (by omega) (by omega) (fun c4 => ?_) (fun c4 => ?_)
      -- X10_isFirst: ('branch', 4, 45, 7)
      · exact absurd c4 (by omega)
      · refine R_aload_n dX10_isFirst_7 rfl ?_
        refine R_iload_n dX10_isFirst_8 rfl ?_
        -- X10_isFirst: ('call', 9, '.invokevirtual', 127)
        refine R_callV v_X10_signAt (Md_signAt x c hu) dX10_isFirst_9 l_RX10_127 rfl rfl x.1 (Nat.le_of_ble_eq_true rfl) (by omega) rfl rfl (fun v h2 hq => ?_)
        obtain ⟨rfl, e9⟩ := hq
        rw [e9]
        refine R_aload_n dX10_isFirst_12 rfl ?_
        refine R_iload_n dX10_isFirst_13 rfl ?_
        -- X10_isFirst: ('call', 14, '.invokevirtual', 127)
        refine R_callV v_X10_signAt (Md_signAt x c ha) dX10_isFirst_14 l_RX10_127 rfl rfl x.1 (Nat.le_of_ble_eq_true rfl) (by omega) rfl rfl (fun v h2 hq => ?_)
        obtain ⟨rfl, e9⟩ := hq
        rw [e9]
        refine R_icmp_ne_N (tgt := 39) dX10_isFirst_17 (by decide) (by omega) (by omega) (fun c17 => ?_) (fun c17 => ?_)
        -- X10_isFirst: ('branch', 17, 39, 20)
        · exact nx (fun z => c17 z.1)
        · refine R_aload_n dX10_isFirst_20 rfl ?_
          refine R_iload_n dX10_isFirst_21 rfl ?_
          refine R_iconst (v := nI 1) dX10_isFirst_22 (by decide) ?_
          refine R_iadd_N dX10_isFirst_23 ?_
          -- X10_isFirst: ('call', 24, '.invokevirtual', 127)
          refine R_callV v_X10_signAt (Md_signAt x c hw) dX10_isFirst_24 l_RX10_127 rfl rfl x.1 (Nat.le_of_ble_eq_true rfl) (by omega) rfl rfl (fun v h2 hq => ?_)
          obtain ⟨rfl, e9⟩ := hq
          rw [e9]
          refine R_aload_n dX10_isFirst_27 rfl ?_
          refine R_iload_n dX10_isFirst_28 rfl ?_
          refine R_iconst (v := nI 1) dX10_isFirst_29 (by decide) ?_
          refine R_iadd_N dX10_isFirst_30 ?_
          -- X10_isFirst: ('call', 31, '.invokevirtual', 127)
          refine R_callV v_X10_signAt (Md_signAt x c hb) dX10_isFirst_31 l_RX10_127 rfl rfl x.1 (Nat.le_of_ble_eq_true rfl) (by omega) rfl rfl (fun v h2 hq => ?_)
          obtain ⟨rfl, e9⟩ := hq
          rw [e9]
          refine R_icmp_ne_N (tgt := 39) dX10_isFirst_34 (by decide) (by omega) (by omega) (fun c34 => ?_) (fun c34 => ?_)
          -- X10_isFirst: ('branch', 34, 39, 37)
          · exact nx (fun z => c34 z.2)
          · refine R_iconst (v := nI 0) dX10_isFirst_37 (by decide) ?_
            refine R_ireturn dX10_isFirst_38 rfl (by rfl) ?_
            -- X10_isFirst: ('ret', 38)
            exact ⟨⟨0, rfl, Or.inr ⟨rfl, t, by omega, by rw [hu, ha, c17], by rw [hw, hb, c34]⟩⟩, rfl⟩
  refine R_iconst (v := nI 0) dX10_isFirst_0 (by decide) ?_
  refine R_istore2 dX10_isFirst_1 (by decide) ?_
  -- X10_isFirst: ('stop', 2)
  exact loop i 0 (by omega) (fun j hj => absurd hj (by omega))
theorem Md_leastBehind : ∀ (k : Nat) (q : Pk) (h : Hp) (S : MSt), k ≤ 2 → PkOk q → MdAt E h M S → curF (S.2 1) q → Spec E k_X10_leastBehind (5 + k) 0 0 [.ref M, .int (nI k)] h (fun v h' => (∃ n, v = some (.int (nI n)) ∧ IsBest k q.1 q.2 n ∧ n ≤ 10000) ∧ Out h h' M (M + 23) ∧ ∃ S', MdAt E h' M S' ∧ Ony [1, 4] [] S S' ∧ curF (S'.2 1) q ∧ (∀ j, 1021 ≤ j → S'.2 1 j = S.2 1 j) ∧ ∀ j, 1021 * (k + 1) ≤ j → S'.2 4 j = S.2 4 j) := by
  intro k
  induction k with
  | zero =>
    intro q h S hk hq x c
    have hsz : sizeS q.1 q.2 ≤ 10000 := by
      have := sumB_le2 (f := fun r => (q.2 r).length) (c := 12) 60 (fun i hi => (c.2.2.2 i hi).1)
      have := c.1
      rw [sizeS]
      omega
    refine Spec.of (by decide +kernel) (by simp [Value.category]) (Nat.le_of_ble_eq_true rfl) ?_
    show WP E k_X10_leastBehind (5+0) 0 0 0 [some (.ref M), some (.int (nI 0)), none, none, none, none, none] [] h _
    refine R_aload_n dX10_leastBehind_0 rfl ?_
    -- X10_leastBehind: ('call', 1, '.invokevirtual', 264)
    refine R_callV v_X10_sizeNow (Md_sizeNow x c) dX10_leastBehind_1 l_RX10_264 rfl rfl x.1 (Nat.le_of_ble_eq_true rfl) (by omega) rfl rfl (fun v h2 hq => ?_)
    obtain ⟨rfl, e9⟩ := hq
    rw [e9]
    refine R_istore2 dX10_leastBehind_4 (by decide) ?_
    refine R_iload_n dX10_leastBehind_5 rfl ?_
    refine R_if_ne_N (tgt := 11) dX10_leastBehind_6 (by decide) (by omega) (fun c6 => ?_) (fun c6 => ?_)
    -- X10_leastBehind: ('branch', 6, 11, 9)
    · exact absurd rfl c6
    · refine R_iload_n dX10_leastBehind_9 rfl ?_
      refine R_ireturn dX10_leastBehind_10 rfl rfl ?_
      -- X10_leastBehind: ('ret', 10)
      exact ⟨⟨_, rfl, ⟨rfl, fun n' hn' => by rw [show n' = _ from hn']; exact Nat.le_refl _⟩, hsz⟩, Out.refl, S, x, Ony.refl, c, fun j _ => rfl, fun j _ => rfl⟩
  | succ k ihk =>
    intro q h S hk hq x c
    have hql := c.1
    have hsz : sizeS q.1 q.2 ≤ 10000 := by
      have := sumB_le2 (f := fun r => (q.2 r).length) (c := 12) 60 (fun i hi => (c.2.2.2 i hi).1)
      rw [sizeS]
      omega
    refine Spec.of (by decide +kernel) (by simp [Value.category]) (Nat.le_of_ble_eq_true rfl) ?_
    show WP E k_X10_leastBehind (5+(k+1)) 0 0 0 [some (.ref M), some (.int (nI (k+1))), none, none, none, none, none] [] h _
    have loop : ∀ m t n h5 S5 (z4 z5 z6 : Option Value), t + m = q.1.length → MdAt E h5 M S5 → Ony [1, 4] [] S S5 → curF (S5.2 1) q → (∀ j, 1021 ≤ j → S5.2 1 j = S.2 1 j) → recF (S5.2 4) (1021 * (k + 1)) q → (∀ j, 1021 * (k + 1 + 1) ≤ j → S5.2 4 j = S.2 4 j) → n ≤ sizeS q.1 q.2 → (n = sizeS q.1 q.2 ∨ ∃ a b i, (∃ j, q.1[j]? = some a ∧ q.1[j + 1]? = some b) ∧ signS q.2 a b = some i ∧ IsBest k (joinL a b (26 + i) q.1) (ruSet q.2 i [a, b]) n) → (∀ j a b i, j < t → q.1[j]? = some a → q.1[j + 1]? = some b → signS q.2 a b = some i → ∃ n', n ≤ n' ∧ IsBest k (joinL a b (26 + i) q.1) (ruSet q.2 i [a, b]) n') → Out h h5 M (M + 23) → WP E k_X10_leastBehind (5+(k+1)) 0 0 33 [some (.ref M), some (.int (nI (k + 1))), some (.int (nI n)), some (.int (nI t)), z4, z5, z6] [] h5 (fun v h' => (∃ n, v = some (.int (nI n)) ∧ IsBest (k + 1) q.1 q.2 n ∧ n ≤ 10000) ∧ Out h h' M (M + 23) ∧ ∃ S', MdAt E h' M S' ∧ Ony [1, 4] [] S S' ∧ curF (S'.2 1) q ∧ (∀ j, 1021 ≤ j → S'.2 1 j = S.2 1 j) ∧ ∀ j, 1021 * (k + 1 + 1) ≤ j → S'.2 4 j = S.2 4 j) := by
      intro m
      induction m with
      | zero =>
        intro t n h5 S5 z4 z5 z6 ht x5 o5 c5 f5 s5 l5 hn hin hall g5
        refine R_iload_n dX10_leastBehind_33 rfl ?_
        refine R_iconst (v := nI 1) dX10_leastBehind_34 (by decide) ?_
        refine R_iadd_N dX10_leastBehind_35 ?_
        refine R_aload_n dX10_leastBehind_36 rfl ?_
        -- X10_leastBehind: ('call', 37, '.invokevirtual', 123)
        refine R_callV v_X10_many (Md_many x5 c5) dX10_leastBehind_37 l_RX10_123 rfl rfl x5.1 (Nat.le_of_ble_eq_true rfl) (by omega) rfl rfl (fun v h6 hq => ?_)
        obtain ⟨rfl, e9⟩ := hq
        rw [e9]
        refine R_icmp_ge_N (tgt := 129) dX10_leastBehind_40 (by decide) (by omega) (by omega) (fun c40 => ?_) (fun c40 => ?_)
        -- X10_leastBehind: ('branch', 40, 129, 43)
        · refine R_iload_n dX10_leastBehind_129 rfl ?_
          refine R_ireturn dX10_leastBehind_130 rfl rfl ?_
          -- X10_leastBehind: ('ret', 130)
          refine ⟨⟨n, rfl, best_succ hin hn (fun a b i hst hi => ?_), by omega⟩, g5, S5, x5, o5, c5, f5, l5⟩
          obtain ⟨j, h1, h2⟩ := hst
          exact hall j a b i (by have := (List.getElem?_eq_some_iff.mp h1).1; omega) h1 h2 hi
        · exact absurd c40 (by omega)
      | succ m ih =>
        intro t n h5 S5 z4 z5 z6 ht x5 o5 c5 f5 s5 l5 hn hin hall g5
        refine R_iload_n dX10_leastBehind_33 rfl ?_
        refine R_iconst (v := nI 1) dX10_leastBehind_34 (by decide) ?_
        refine R_iadd_N dX10_leastBehind_35 ?_
        refine R_aload_n dX10_leastBehind_36 rfl ?_
        -- X10_leastBehind: ('call', 37, '.invokevirtual', 123)
        refine R_callV v_X10_many (Md_many x5 c5) dX10_leastBehind_37 l_RX10_123 rfl rfl x5.1 (Nat.le_of_ble_eq_true rfl) (by omega) rfl rfl (fun v h6 hq => ?_)
        obtain ⟨rfl, e9⟩ := hq
        rw [e9]
        refine R_icmp_ge_N (tgt := 129) dX10_leastBehind_40 (by decide) (by omega) (by omega) (fun c40 => ?_) (fun c40 => ?_)
        -- X10_leastBehind: ('branch', 40, 129, 43)
        · refine R_iload_n dX10_leastBehind_129 rfl ?_
          refine R_ireturn dX10_leastBehind_130 rfl rfl ?_
          -- X10_leastBehind: ('ret', 130)
          refine ⟨⟨n, rfl, best_succ hin hn (fun a b i hst hi => ?_), by omega⟩, g5, S5, x5, o5, c5, f5, l5⟩
          obtain ⟨j, h1, h2⟩ := hst
          exact hall j a b i (by have := (List.getElem?_eq_some_iff.mp h2).1; omega) h1 h2 hi
        · obtain ⟨a, ha⟩ := getE (l := q.1) (i := t) (by omega)
          obtain ⟨b, hb⟩ := getE (l := q.1) (i := t + 1) (by omega)
          have ha86 := hq.h86 a (List.mem_of_getElem? ha)
          have hb86 := hq.h86 b (List.mem_of_getElem? hb)
          have nx : ∀ z6, (∀ i, signS q.2 a b = some i → ∃ n', n ≤ n' ∧ IsBest k (joinL a b (26 + i) q.1) (ruSet q.2 i [a, b]) n') → WP E k_X10_leastBehind (5+(k+1)) 0 0 123 [some (.ref M), some (.int (nI (k + 1))), some (.int (nI n)), some (.int (nI t)), some (.int (nI a)), some (.int (nI b)), z6] [] h5 (fun v h' => (∃ n, v = some (.int (nI n)) ∧ IsBest (k + 1) q.1 q.2 n ∧ n ≤ 10000) ∧ Out h h' M (M + 23) ∧ ∃ S', MdAt E h' M S' ∧ Ony [1, 4] [] S S' ∧ curF (S'.2 1) q ∧ (∀ j, 1021 ≤ j → S'.2 1 j = S.2 1 j) ∧ ∀ j, 1021 * (k + 1 + 1) ≤ j → S'.2 4 j = S.2 4 j) := by
            intro z6 hk2
            refine R_iinc3 dX10_leastBehind_123 (by decide) (nI_inc _ 1) ?_
            refine R_goto (tgt := 33) dX10_leastBehind_126 (by decide) ?_
            -- X10_leastBehind: ('stop', 33)
            refine ih (t + 1) n h5 S5 _ _ _ (by omega) x5 o5 c5 f5 s5 l5 hn hin (fun j a2 b2 i hj h1 h2 hi => ?_) g5
            by_cases e : j = t
            · rw [e] at h1 h2
              rw [ha] at h1
              rw [hb] at h2
              cases h1
              cases h2
              exact hk2 i hi
            · exact hall j a2 b2 i (by omega) h1 h2 hi
          refine R_aload_n dX10_leastBehind_43 rfl ?_
          refine R_iload_n dX10_leastBehind_44 rfl ?_
          -- X10_leastBehind: ('call', 45, '.invokevirtual', 127)
          refine R_callV v_X10_signAt (Md_signAt x5 c5 ha) dX10_leastBehind_45 l_RX10_127 rfl rfl x5.1 (Nat.le_of_ble_eq_true rfl) (by omega) rfl rfl (fun v h6 hq => ?_)
          obtain ⟨rfl, e9⟩ := hq
          rw [e9]
          refine R_istore4 dX10_leastBehind_48 (by decide) ?_
          refine R_aload_n dX10_leastBehind_50 rfl ?_
          refine R_iload_n dX10_leastBehind_51 rfl ?_
          refine R_iconst (v := nI 1) dX10_leastBehind_52 (by decide) ?_
          refine R_iadd_N dX10_leastBehind_53 ?_
          -- X10_leastBehind: ('call', 54, '.invokevirtual', 127)
          refine R_callV v_X10_signAt (Md_signAt x5 c5 hb) dX10_leastBehind_54 l_RX10_127 rfl rfl x5.1 (Nat.le_of_ble_eq_true rfl) (by omega) rfl rfl (fun v h6 hq => ?_)
          obtain ⟨rfl, e9⟩ := hq
          rw [e9]
          refine R_istore5 dX10_leastBehind_57 (by decide) ?_
          refine R_aload_n dX10_leastBehind_59 rfl ?_
          refine R_iload_n dX10_leastBehind_60 rfl ?_
          -- X10_leastBehind: ('call', 61, '.invokevirtual', 316)
          refine R_callV v_X10_isFirst (Md_isFirst x5 c5 hq.h86 (i := t) (by omega)) dX10_leastBehind_61 l_RX10_316 rfl rfl x5.1 (Nat.le_of_ble_eq_true rfl) (by omega) rfl rfl (fun v h6 hq => ?_)
          obtain ⟨⟨fr, rfl, hfr⟩, e9⟩ := hq
          rw [e9]
          rcases hfr with ⟨rfl, hfst⟩ | ⟨rfl, j0, hj0, q1, q2⟩
          · refine R_if_eq_N (tgt := 123) dX10_leastBehind_64 (by decide) (by omega) (fun c64 => ?_) (fun c64 => ?_)
            -- X10_leastBehind: ('branch', 64, 123, 67)
            · exact absurd c64 (by decide)
            · refine R_aload_n dX10_leastBehind_67 rfl ?_
              refine R_iload dX10_leastBehind_68 rfl ?_
              refine R_iload dX10_leastBehind_70 rfl ?_
              -- X10_leastBehind: ('call', 72, '.invokevirtual', 242)
              refine R_callV v_X10_canReplace (Md_canReplace x5 c5 hq.r86 (a := a) (b := b) (by omega) (by omega)) dX10_leastBehind_72 l_RX10_242 rfl rfl x5.1 (Nat.le_of_ble_eq_true rfl) (by omega) rfl rfl (fun v h6 hq => ?_)
              obtain ⟨rfl, e9⟩ := hq
              rw [e9]
              cases hs : signS q.2 a b with
              | none =>
                rw [show (none : Option Nat).isSome = false from rfl, if_neg (by decide)]
                refine R_if_ne_N (tgt := 81) dX10_leastBehind_75 (by decide) (by omega) (fun c75 => ?_) (fun c75 => ?_)
                -- X10_leastBehind: ('branch', 75, 81, 78)
                · exact absurd rfl c75
                · refine R_goto (tgt := 123) dX10_leastBehind_78 (by decide) ?_
                  -- X10_leastBehind: ('stop', 123)
                  exact nx _ (fun i hi => by rw [hs] at hi; cases hi)
              | some i =>
                rw [show (some i).isSome = true from rfl, if_pos rfl]
                have okj : PkOk (jnP q a b i) := hq.join hs (std_cnt ha hb)
                refine R_if_ne_N (tgt := 81) dX10_leastBehind_75 (by decide) (by omega) (fun c75 => ?_) (fun c75 => ?_)
                -- X10_leastBehind: ('branch', 75, 81, 78)
                · refine R_aload_n dX10_leastBehind_81 rfl ?_
                  refine R_iload dX10_leastBehind_82 rfl ?_
                  refine R_iload dX10_leastBehind_84 rfl ?_
                  -- X10_leastBehind: ('call', 86, '.invokevirtual', 246)
                  refine R_callV v_X10_replaces (Md_replaces x5 c5 hq.h86 hq.r86 (a := a) (b := b) (by omega) (by omega) hs) dX10_leastBehind_86 l_RX10_246 rfl rfl x5.1 (Nat.le_of_ble_eq_true rfl) (by omega) rfl rfl (fun v h6 hq => ?_)
                  obtain ⟨rfl, g6, S6, x6, o6, c6, f6⟩ := hq
                  refine R_istore6 dX10_leastBehind_89 (by decide) ?_
                  refine R_iload_n dX10_leastBehind_91 rfl ?_
                  refine R_aload_n dX10_leastBehind_92 rfl ?_
                  refine R_iload_n dX10_leastBehind_93 rfl ?_
                  refine R_iconst (v := nI 1) dX10_leastBehind_94 (by decide) ?_
                  refine R_isub_N dX10_leastBehind_95 (by omega) ?_
                  -- X10_leastBehind: ('call', 96, '.invokevirtual', 319)
                  refine R_callV v_X10_leastBehind (ihk (jnP q a b i) h6 S6 (by omega) okj x6 c6) dX10_leastBehind_96 l_RX10_319 rfl rfl x6.1 (Nat.le_of_ble_eq_true rfl) (by omega) rfl rfl (fun v h7 hq => ?_)
                  obtain ⟨⟨n2, rfl, hb2, hn2⟩, g7, S7, x7, o7, c7, f7, l7⟩ := hq
                  refine R_callS s_X10_lesser (Md_lesser (a := n) (b := n2) (by omega) (by omega)) dX10_leastBehind_99 l_RX10_204 rfl rfl (Nat.le_of_ble_eq_true rfl) (by omega) rfl rfl (fun v h8 hq => ?_)
                  obtain ⟨rfl, e9⟩ := hq
                  rw [e9]
                  have s7 : recF (S7.2 4) (1021 * (k + 1)) q := s5.same (fun k2 _ => by rw [l7 _ (by omega), o6.1 4 (by decide)])
                  refine R_istore2 dX10_leastBehind_102 (by decide) ?_
                  refine R_aload_n dX10_leastBehind_103 rfl ?_
                  refine R_get K_10 (f := 4) (by decide) dX10_leastBehind_104 f_RX10_23 x7.1 rfl ?_
                  refine R_sipush (v := nI 1021) dX10_leastBehind_107 (by decide) ?_
                  refine R_iload_n dX10_leastBehind_110 rfl ?_
                  refine R_imul_N dX10_leastBehind_111 ?_
                  refine R_aload_n dX10_leastBehind_112 rfl ?_
                  refine R_get K_10 (f := 1) (by decide) dX10_leastBehind_113 f_RX10_13 x7.1 rfl ?_
                  refine R_iconst (v := nI 0) dX10_leastBehind_116 (by decide) ?_
                  refine R_sipush (v := nI 1021) dX10_leastBehind_117 (by decide) ?_
                  -- X10_leastBehind: ('call', 120, '.invokestatic', 88)
                  refine R_callS s_X10_copies (Md_copies (sp := 1021 * (k + 1)) (dp := 0) (n := 1021) x7.a4 x7.a1 (by omega) (by omega) (by omega) (by decide) (by decide)) dX10_leastBehind_120 l_RX10_88 rfl rfl (Nat.le_of_ble_eq_true rfl) (by omega) rfl rfl (fun v h9 hq => ?_)
                  obtain ⟨rfl, u9⟩ := hq
                  have x9 := x7.s1 u9
                  have c9 : curF (va_cpy (S7.2 4) (S7.2 1) (1021 * (k + 1)) 0 1021) q := by
                    refine s7.copy (fun k2 hk2 => ?_)
                    rw [pk_cpy_in (by omega) (by omega)]
                    exact congrArg (S7.2 4) (by omega)
                  have o9 : Ony [1, 4] [] S (S7.1, updF S7.2 1 (va_cpy (S7.2 4) (S7.2 1) (1021 * (k + 1)) 0 1021)) := ((o5.trans (o6.mono (by decide) (by decide))).trans o7).st (by decide)
                  refine R_iinc3 dX10_leastBehind_123 (by decide) (nI_inc _ 1) ?_
                  refine R_goto (tgt := 33) dX10_leastBehind_126 (by decide) ?_
                  -- X10_leastBehind: ('stop', 33)
                  refine ih (t + 1) (min n n2) h9 _ _ _ _ (by omega) x9 o9 c9 (fun j hj => ?_) s7 (fun j hj => ?_) (by omega) ?_ (fun j a2 b2 i2 hj h1 h2 hi => ?_) (((g5.trans g6).trans g7).trans (Out.upd u9 (by omega) (by omega)))
                  · show va_cpy (S7.2 4) (S7.2 1) (1021 * (k + 1)) 0 1021 j = _
                    rw [pk_cpy_out (by omega), f7 j hj, f6 j hj, f5 j hj]
                  · show S7.2 4 j = _
                    rw [l7 j (by omega), o6.1 4 (by decide), l5 j hj]
                  · by_cases hmin : n ≤ n2
                    · rw [Nat.min_eq_left hmin]; exact hin
                    · rw [Nat.min_eq_right (by omega)]
                      exact Or.inr ⟨a, b, i, ⟨t, ha, hb⟩, hs, hb2⟩
                  · by_cases e : j = t
                    · rw [e] at h1 h2
                      rw [ha] at h1
                      rw [hb] at h2
                      cases h1
                      cases h2
                      rw [hs] at hi
                      cases hi
                      exact ⟨n2, by omega, hb2⟩
                    · obtain ⟨n3, k1, k2⟩ := hall j a2 b2 i2 (by omega) h1 h2 hi
                      exact ⟨n3, by omega, k2⟩
                · exact absurd c75 (by decide)
          · refine R_if_eq_N (tgt := 123) dX10_leastBehind_64 (by decide) (by omega) (fun c64 => ?_) (fun c64 => ?_)
            -- X10_leastBehind: ('branch', 64, 123, 67)
            · refine nx _ (fun i hi => ?_)
              exact hall j0 a b i hj0 (by rw [q1]; exact ha) (by rw [q2]; exact hb) hi
            · exact absurd rfl c64
    refine R_aload_n dX10_leastBehind_0 rfl ?_
    -- X10_leastBehind: ('call', 1, '.invokevirtual', 264)
    refine R_callV v_X10_sizeNow (Md_sizeNow x c) dX10_leastBehind_1 l_RX10_264 rfl rfl x.1 (Nat.le_of_ble_eq_true rfl) (by omega) rfl rfl (fun v h2 hq => ?_)
    obtain ⟨rfl, e9⟩ := hq
    rw [e9]
    refine R_istore2 dX10_leastBehind_4 (by decide) ?_
    refine R_iload_n dX10_leastBehind_5 rfl ?_
    refine R_if_ne_N (tgt := 11) dX10_leastBehind_6 (by decide) (by omega) (fun c6 => ?_) (fun c6 => ?_)
    -- X10_leastBehind: ('branch', 6, 11, 9)
    · refine R_aload_n dX10_leastBehind_11 rfl ?_
      refine R_get K_10 (f := 1) (by decide) dX10_leastBehind_12 f_RX10_13 x.1 rfl ?_
      refine R_iconst (v := nI 0) dX10_leastBehind_15 (by decide) ?_
      refine R_aload_n dX10_leastBehind_16 rfl ?_
      refine R_get K_10 (f := 4) (by decide) dX10_leastBehind_17 f_RX10_23 x.1 rfl ?_
      refine R_sipush (v := nI 1021) dX10_leastBehind_20 (by decide) ?_
      refine R_iload_n dX10_leastBehind_23 rfl ?_
      refine R_imul_N dX10_leastBehind_24 ?_
      refine R_sipush (v := nI 1021) dX10_leastBehind_25 (by decide) ?_
      -- X10_leastBehind: ('call', 28, '.invokestatic', 88)
      refine R_callS s_X10_copies (Md_copies (sp := 0) (dp := 1021 * (k + 1)) (n := 1021) x.a1 x.a4 (by omega) (by omega) (by omega) (by decide) (by decide)) dX10_leastBehind_28 l_RX10_88 rfl rfl (Nat.le_of_ble_eq_true rfl) (by omega) rfl rfl (fun v h3 hq => ?_)
      obtain ⟨rfl, u3⟩ := hq
      have x3 := x.s4 u3
      refine R_iconst (v := nI 0) dX10_leastBehind_31 (by decide) ?_
      refine R_istore3 dX10_leastBehind_32 (by decide) ?_
      -- X10_leastBehind: ('stop', 33)
      refine loop q.1.length 0 (sizeS q.1 q.2) h3 _ _ _ _ (by omega) x3 (Ony.refl.st (by decide)) c (fun j _ => rfl) ?_ (fun j hj => ?_) (Nat.le_refl _) (Or.inl rfl) (fun j a b i hj => absurd hj (by omega)) (Out.upd u3 (by omega) (by omega))
      · show recF (va_cpy (S.2 1) (S.2 4) 0 (1021 * (k + 1)) 1021) (1021 * (k + 1)) q
        refine recF.copy (o := 0) c (fun k2 hk2 => ?_)
        rw [pk_cpy_in (by omega) (by omega)]
        exact congrArg (S.2 1) (by omega)
      · show va_cpy (S.2 1) (S.2 4) 0 (1021 * (k + 1)) 1021 j = _
        rw [pk_cpy_out (by omega)]
    · exact absurd c6 (by omega)
theorem MP_best_no (y : MMAt E h M q ds im md tp ph fk fp) {k : Int32} (hk : k < 0 ∨ nI 2 < k) : Spec E k_X10_best 8 0 0 [.ref M, .int k] h (fun v h' => v = some (.int (-3)) ∧ MMAt E h' M q ds im md tp ph fk fp ∧ Out h h' M (M + 23)) := by
  obtain ⟨S, x, r⟩ := y
  refine Spec.of (by decide +kernel) (by simp [Value.category]) (Nat.le_of_ble_eq_true rfl) ?_
  show WP E k_X10_best 8 0 0 0 [some (.ref M), some (.int k)] [] h _
  refine R_aload_n dX10_best_0 rfl ?_
  refine R_iconst (v := nI 0) dX10_best_1 (by decide) ?_
  refine R_put_A K_10 (f := 0) (by decide) dX10_best_2 f_RX10_1 rfl x.1 (by rfl) (by rfl) (Nat.le_of_ble_eq_true rfl) ?_
  intro h0 u0
  have x0 := x.put u0 (by decide)
  have r0 := r.keep (S2 := (upd S.1 0 (nI 0), S.2)) (Ony.refl.put (by decide))
  have g0 : Out h h0 M (M + 23) := Out.upd u0 (by omega) (by omega)
  generalize (upd S.1 0 (nI 0), S.2) = S0 at x0 r0
  refine R_iload_n dX10_best_5 rfl ?_
  refine R_i2l dX10_best_6 ?_
  refine R_lconst (v := 0) dX10_best_7 rfl ?_
  refine R_ldc2 dX10_best_8 cl_RX10_286 ?_
  -- X10_best: ('call', 11, '.invokestatic', 98)
  refine R_callS s_X10_isIn (Md_isIn k (nI 0) (nI 2) (by decide) (by decide)) dX10_best_11 l_RX10_98 rfl rfl (Nat.le_of_ble_eq_true rfl) (by omega) rfl rfl (fun v h2 hq => ?_)
  obtain ⟨rfl, e9⟩ := hq
  rw [e9, if_neg (fun z => in02.mp z hk)]
  refine R_if_eq_N (tgt := 25) dX10_best_14 (by decide) (by omega) (fun c14 => ?_) (fun c14 => ?_)
  -- X10_best: ('branch', 14, 25, 17)
  · refine R_bipush (v := (-3)) dX10_best_25 (by decide) ?_
    refine R_ireturn dX10_best_27 rfl rfl ?_
    -- X10_best: ('ret', 27)
    exact ⟨rfl, ⟨S0, x0, r0⟩, g0⟩
  · exact absurd rfl c14
theorem MP_best (y : MMAt E h M q ds im md tp ph fk fp) (hq : PkOk q) {k : Nat} (hk : k ≤ 2) : Spec E k_X10_best 8 0 0 [.ref M, .int (nI k)] h (fun v h' => (∃ n, v = some (.int (nI n)) ∧ IsBest k q.1 q.2 n) ∧ MMAt E h' M q ds im md tp ph fk fp ∧ Out h h' M (M + 23)) := by
  obtain ⟨S, x, r⟩ := y
  refine Spec.of (by decide +kernel) (by simp [Value.category]) (Nat.le_of_ble_eq_true rfl) ?_
  show WP E k_X10_best 8 0 0 0 [some (.ref M), some (.int (nI k))] [] h _
  refine R_aload_n dX10_best_0 rfl ?_
  refine R_iconst (v := nI 0) dX10_best_1 (by decide) ?_
  refine R_put_A K_10 (f := 0) (by decide) dX10_best_2 f_RX10_1 rfl x.1 (by rfl) (by rfl) (Nat.le_of_ble_eq_true rfl) ?_
  intro h0 u0
  have x0 := x.put u0 (by decide)
  have r0 := r.keep (S2 := (upd S.1 0 (nI 0), S.2)) (Ony.refl.put (by decide))
  have g0 : Out h h0 M (M + 23) := Out.upd u0 (by omega) (by omega)
  generalize (upd S.1 0 (nI 0), S.2) = S0 at x0 r0
  refine R_iload_n dX10_best_5 rfl ?_
  refine R_i2l dX10_best_6 ?_
  refine R_lconst (v := 0) dX10_best_7 rfl ?_
  refine R_ldc2 dX10_best_8 cl_RX10_286 ?_
  -- X10_best: ('call', 11, '.invokestatic', 98)
  refine R_callS s_X10_isIn (Md_isIn (nI k) (nI 0) (nI 2) (by decide) (by decide)) dX10_best_11 l_RX10_98 rfl rfl (Nat.le_of_ble_eq_true rfl) (by omega) rfl rfl (fun v h2 hq => ?_)
  obtain ⟨rfl, e9⟩ := hq
  rw [e9, if_pos ((in_iff (by decide) (by decide) (by omega)).mpr ⟨by omega, hk⟩)]
  refine R_if_eq_N (tgt := 25) dX10_best_14 (by decide) (by omega) (fun c14 => ?_) (fun c14 => ?_)
  -- X10_best: ('branch', 14, 25, 17)
  · exact absurd c14 (by decide)
  · refine R_aload_n dX10_best_17 rfl ?_
    refine R_iload_n dX10_best_18 rfl ?_
    -- X10_best: ('call', 19, '.invokevirtual', 319)
    refine R_callV v_X10_leastBehind (Md_leastBehind k q _ S0 hk hq x0 r0.1) dX10_best_19 l_RX10_319 rfl rfl x0.1 (Nat.le_of_ble_eq_true rfl) (by omega) rfl rfl (fun v h3 hq => ?_)
    obtain ⟨⟨n, rfl, hb, hn⟩, g3, S3, x3, o3, c3, f3, -⟩ := hq
    refine R_goto (tgt := 27) dX10_best_22 (by decide) ?_
    refine R_ireturn dX10_best_27 rfl rfl ?_
    -- X10_best: ('ret', 27)
    exact ⟨⟨n, rfl, hb⟩, ⟨S3, x3, r0.chg (o3.mono (by decide) (by decide)) c3 f3 (r0.2.1.keep (o3.2 5 (by decide)) (o3.1 2 (by decide)))⟩, g0.trans g3⟩
end MD19
