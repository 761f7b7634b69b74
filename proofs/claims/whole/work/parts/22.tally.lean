/-! PAIRS: told off a row; ranked -/
section TALLY
variable {E : EnvT} {h : Hp} {T : Nat} {l st : List Nat} {cf : Nat → Nat}
/-- the counts of the places below i -/
def pci (l : List Nat) (i p : Nat) : Nat := cntB (gP l (p / 86) (p % 86)) i
theorem pci_step {i p : Nat} : pci l (i + 1) p = pci l i p + if gP l (p / 86) (p % 86) i then 1 else 0 := rfl
theorem pair_dm {a b : Nat} (hb : b < 86) : (86 * a + b) / 86 = a ∧ (86 * a + b) % 86 = b := ⟨by omega, by omega⟩
set_option maxHeartbeats 4000000 in
theorem PT_tally (hT : PTAny E h T) {r cap : Nat} (hR : RowAt E h r cap l) (hs : ∀ x ∈ l, x < 86) (hl : l.length ≤ 240) (hd : r + 2 ≤ T ∨ T + 4 ≤ r) : Spec E k_X3_tally 3 0 0 [.ref T, .ref r] h (fun v h' => v = none ∧ (∃ st, TalAt E h' T l st) ∧ Out h h' T (T + 4)) := by
  refine Spec.of (by decide +kernel) (by simp [Value.category]) (Nat.le_of_ble_eq_true rfl) ?_
  show WP E k_X3_tally 3 0 0 0 [some (.ref T), some (.ref r), none, none, none, none] [] h _
  have loop : ∀ m i h2 st (sh : Int32) x4 x5, i + m + 1 = l.length ∨ (m = 0 ∧ l.length ≤ i + 1 ∧ i ≤ l.length) → PTAt E h2 T (pci l i) st → st.Nodup → (∀ p, p ∈ st ↔ p < 7396 ∧ 0 < pci l i p) → st.length ≤ i →
      (sh = -1 ∧ (∀ j a, i = j + 1 → l[i]? = some a → gP l a a j = false) ∨ ∃ s, sh = nI s ∧ s ≤ i ∧ (s = i ↔ ∃ j a, i = j + 1 ∧ l[i]? = some a ∧ gP l a a j = true)) → Out h h2 T (T + 4) →
      WP E k_X3_tally 3 0 0 8 [some (.ref T), some (.ref r), some (.int sh), some (.int (nI i)), x4, x5] [] h2 (fun v h' => v = none ∧ (∃ st, TalAt E h' T l st) ∧ Out h h' T (T + 4)) := by
    intro m
    induction m with
    | zero =>
      intro i h2 st sh x4 x5 hi hT2 hnd hmem hlen hsh o2
      have hR2 := hR.out o2 (by omega)
      have hi2 : l.length ≤ i + 1 ∧ i ≤ l.length := by omega
      refine R_iload_n dX3_tally_8 rfl ?_
      refine R_iconst (v := nI 1) dX3_tally_9 (by decide) ?_
      refine R_iadd_N dX3_tally_10 ?_
      refine R_aload_n dX3_tally_11 rfl ?_
      -- X3_tally: ('call', 12, '.invokevirtual', 27)
      refine R_callV v_X6_size (Row_size hR2) dX3_tally_12 l_RX3_27 rfl rfl hR2.2.2.1 (Nat.le_of_ble_eq_true rfl) (by omega) rfl rfl (fun v h1 hq => ?_)
      obtain ⟨rfl, e9⟩ := hq
      rw [e9]
      refine R_icmp_ge_N (tgt := 81) dX3_tally_15 (by decide) (by omega) (by omega) (fun c15 => ?_) (fun c15 => ?_)
      -- X3_tally: ('branch', 15, 81, 18)
      · refine R_return dX3_tally_81 rfl ?_
        -- X3_tally: ('ret', 81)
        have e : pci l i = pcf l := by
          funext p
          rw [pci, pcf, cntG_upto hi2.1 hi2.2]
        rw [e] at hT2 hmem
        exact ⟨rfl, ⟨st, hT2, hnd, hmem⟩, o2⟩
      · exact absurd c15 (by omega)
    | succ m ih =>
      intro i h2 st sh x4 x5 hi hT2 hnd hmem hlen hsh o2
      have hR2 := hR.out o2 (by omega)
      obtain ⟨x, hx⟩ := getE (l := l) (i := i) (by omega)
      obtain ⟨y, hy⟩ := getE (l := l) (i := i + 1) (by omega)
      have hx8 := hs x (List.mem_of_getElem? hx)
      have hy8 := hs y (List.mem_of_getElem? hy)
      obtain ⟨d1, d2⟩ := pair_dm (a := x) hy8
      have hple : ∀ p, pci l i p ≤ i := fun p => cntB_le _ _
      -- what the next turn has, whether or not the pair is counted
      have yes : ∀ (sh' : Int32) x4 x5, gP l x y i = true → (sh' = -1 ∧ (∀ j a, i + 1 = j + 1 → l[i + 1]? = some a → gP l a a j = false) ∨ ∃ s, sh' = nI s ∧ s ≤ i + 1 ∧ (s = i + 1 ↔ ∃ j a, i + 1 = j + 1 ∧ l[i + 1]? = some a ∧ gP l a a j = true)) → ∀ h3, PTAt E h3 T (fun q => if q = 86 * x + y then pci l i (86 * x + y) + 1 else pci l i q) (if pci l i (86 * x + y) = 0 then st ++ [86 * x + y] else st) → Out h2 h3 T (T + 4) → WP E k_X3_tally 3 0 0 75 [some (.ref T), some (.ref r), some (.int sh'), some (.int (nI i)), x4, x5] [] h3 (fun v h' => v = none ∧ (∃ st, TalAt E h' T l st) ∧ Out h h' T (T + 4)) := by
        intro sh' x4 x5 hg hsh' h3 hT3 o3
        have e : (fun q => if q = 86 * x + y then pci l i (86 * x + y) + 1 else pci l i q) = pci l (i + 1) := by
          funext q
          rw [pci_step]
          by_cases hq : q = 86 * x + y
          · rw [if_pos hq, hq, d1, d2, if_pos hg]
          · have hgf : gP l (q / 86) (q % 86) i = false := gP_ne hx hy (by omega)
            rw [if_neg hq, hgf]
            simp
        rw [e] at hT3
        have emem : ∀ p, 0 < pci l (i + 1) p ↔ (0 < pci l i p ∨ p = 86 * x + y) := fun p => by
          have := congrFun e p
          rw [← this]
          by_cases hq : p = 86 * x + y
          · simp [hq]
          · simp [hq]
        refine R_iinc3 dX3_tally_75 (by decide) (nI_inc _ 1) ?_
        refine R_goto (tgt := 8) dX3_tally_78 (by decide) ?_
        -- X3_tally: ('stop', 8)
        refine ih (i + 1) h3 _ sh' _ _ (by omega) hT3 ?_ (fun p => ?_) ?_ hsh' (o2.trans o3)
        · split
          · rename_i h0
            rw [List.nodup_append]
            refine ⟨hnd, by simp, fun a ha b hb => ?_⟩
            simp at hb
            subst hb
            intro e
            subst e
            have := ((hmem _).mp ha).2
            omega
          · exact hnd
        · rw [emem]
          split
          · rename_i h0
            rw [List.mem_append, hmem]
            simp only [List.mem_singleton]
            constructor
            · rintro (⟨a, b⟩ | rfl)
              · exact ⟨a, Or.inl b⟩
              · exact ⟨by omega, Or.inr rfl⟩
            · rintro ⟨a, b | b⟩
              · exact Or.inl ⟨a, b⟩
              · exact Or.inr b
          · rename_i h0
            rw [hmem]
            constructor
            · rintro ⟨a, b⟩; exact ⟨a, Or.inl b⟩
            · rintro ⟨a, b | rfl⟩
              · exact ⟨a, b⟩
              · exact ⟨a, by omega⟩
        · split
          · simp; omega
          · omega
      have no : ∀ (sh' : Int32) x4 x5, gP l x y i = false → (sh' = -1 ∧ (∀ j a, i + 1 = j + 1 → l[i + 1]? = some a → gP l a a j = false) ∨ ∃ s, sh' = nI s ∧ s ≤ i + 1 ∧ (s = i + 1 ↔ ∃ j a, i + 1 = j + 1 ∧ l[i + 1]? = some a ∧ gP l a a j = true)) → WP E k_X3_tally 3 0 0 75 [some (.ref T), some (.ref r), some (.int sh'), some (.int (nI i)), x4, x5] [] h2 (fun v h' => v = none ∧ (∃ st, TalAt E h' T l st) ∧ Out h h' T (T + 4)) := by
        intro sh' x4 x5 hg hsh'
        have e : pci l (i + 1) = pci l i := by
          funext q
          rw [pci_step, if_neg, Nat.add_zero]
          by_cases hq : q = 86 * x + y
          · rw [hq, d1, d2, hg]; decide
          · rw [gP_ne hx hy (by omega)]; decide
        refine R_iinc3 dX3_tally_75 (by decide) (nI_inc _ 1) ?_
        refine R_goto (tgt := 8) dX3_tally_78 (by decide) ?_
        -- X3_tally: ('stop', 8)
        exact ih (i + 1) h2 st sh' _ _ (by omega) (by rw [e]; exact hT2) hnd (by rw [e]; exact hmem) (by omega) hsh' o2
      have hx6 := hR.lt hx
      have hy6 := hR.lt hy
      refine R_iload_n dX3_tally_8 rfl ?_
      refine R_iconst (v := nI 1) dX3_tally_9 (by decide) ?_
      refine R_iadd_N dX3_tally_10 ?_
      refine R_aload_n dX3_tally_11 rfl ?_
      -- X3_tally: ('call', 12, '.invokevirtual', 27)
      refine R_callV v_X6_size (Row_size hR2) dX3_tally_12 l_RX3_27 rfl rfl hR2.2.2.1 (Nat.le_of_ble_eq_true rfl) (by omega) rfl rfl (fun v h1 hq => ?_)
      obtain ⟨rfl, e9⟩ := hq
      rw [e9]
      refine R_icmp_ge_N (tgt := 81) dX3_tally_15 (by decide) (by omega) (by omega) (fun c15 => ?_) (fun c15 => ?_)
      -- X3_tally: ('branch', 15, 81, 18)
      · exact absurd c15 (by omega)
      · refine R_aload_n dX3_tally_18 rfl ?_
        refine R_iload_n dX3_tally_19 rfl ?_
        -- X3_tally: ('call', 20, '.invokevirtual', 31)
        refine R_callV v_X6_get (Row_get hR2 (nI i)) dX3_tally_20 l_RX3_31 rfl rfl hR2.2.2.1 (Nat.le_of_ble_eq_true rfl) (by omega) rfl rfl (fun v h1 hq => ?_)
        obtain ⟨rfl, e9⟩ := hq
        rw [e9, rget_in (by omega) hx]
        refine R_istore4 dX3_tally_23 (by decide) ?_
        refine R_aload_n dX3_tally_25 rfl ?_
        refine R_iload_n dX3_tally_26 rfl ?_
        refine R_iconst (v := nI 1) dX3_tally_27 (by decide) ?_
        refine R_iadd_N dX3_tally_28 ?_
        -- X3_tally: ('call', 29, '.invokevirtual', 31)
        refine R_callV v_X6_get (Row_get hR2 (nI (i + 1))) dX3_tally_29 l_RX3_31 rfl rfl hR2.2.2.1 (Nat.le_of_ble_eq_true rfl) (by omega) rfl rfl (fun v h1 hq => ?_)
        obtain ⟨rfl, e9⟩ := hq
        rw [e9, rget_in (by omega) hy]
        refine R_istore5 dX3_tally_32 (by decide) ?_
        refine R_iload dX3_tally_34 rfl ?_
        refine R_iload dX3_tally_36 rfl ?_
        refine R_icmp_eq_N (tgt := 55) dX3_tally_38 (by decide) (by omega) (by omega) (fun c38 => ?_) (fun c38 => ?_)
        -- X3_tally: ('branch', 38, 55, 41)
        · subst c38
          -- one sign twice
          refine R_iload_n dX3_tally_55 rfl ?_
          refine R_iload_n dX3_tally_56 rfl ?_
          refine R_icmp_eq (tgt := 75) dX3_tally_57 (by decide) (fun c57 => ?_) (fun c57 => ?_)
          -- X3_tally: ('branch', 57, 75, 60)
          · -- shared: not counted
            have hg : gP l x x i = false := by
              rcases hsh with ⟨e, -⟩ | ⟨s, e, hsi, hiff⟩
              · rw [e] at c57
                exact absurd c57 (nI_m1_ne (by omega))
              · rw [e] at c57
                have := (nI_eq (by omega) (by omega)).mp c57
                obtain ⟨j, a, hj, ha, hgj⟩ := hiff.mp this
                rw [hx] at ha
                cases ha
                subst hj
                rw [gP, hgj]
                simp
            refine no sh _ _ hg ?_
            rcases hsh with ⟨e, -⟩ | ⟨s, e, hsi, hiff⟩
            · rw [e] at c57
              exact absurd c57 (nI_m1_ne (by omega))
            · refine Or.inr ⟨s, e, by omega, ?_⟩
              constructor
              · intro z; omega
              · rintro ⟨j, a, hj, ha, hgj⟩
                have : j = i := by omega
                subst this
                rw [hy] at ha
                cases ha
                rw [hg] at hgj
                cases hgj
          · have hg : gP l x x i = true := by
              cases hgx : gP l x x i with
              | true => rfl
              | false =>
                exfalso
                cases hj : i with
                | zero =>
                  rw [hj] at hgx hx hy
                  rw [gP] at hgx
                  exact absurd ⟨hx, hy⟩ (of_decide_eq_false hgx)
                | succ j =>
                  rw [hj, gP] at hgx
                  rw [hj] at hx hy
                  rw [decide_eq_true (show l[j + 1]? = some x ∧ l[j + 2]? = some x from ⟨hx, hy⟩), Bool.true_and] at hgx
                  have hgj : gP l x x j = true := by simpa using hgx
                  rcases hsh with ⟨e, hn⟩ | ⟨s, e, hsi, hiff⟩
                  · rw [hn j x hj (by rw [hj]; exact hx)] at hgj
                    cases hgj
                  · have := hiff.mpr ⟨j, x, hj, by rw [hj]; exact hx, hgj⟩
                    exact c57 (by rw [e, this])
            refine R_aload_n dX3_tally_60 rfl ?_
            refine R_iload dX3_tally_61 rfl ?_
            refine R_iload dX3_tally_63 rfl ?_
            -- X3_tally: ('call', 65, '.invokestatic', 35)
            refine R_callS s_X3_pairOf (PT_pairOf (a := x) (b := x) hx8 hx8) dX3_tally_65 l_RX3_35 rfl rfl (Nat.le_of_ble_eq_true rfl) (by omega) rfl rfl (fun v h1 hq => ?_)
            obtain ⟨rfl, e9⟩ := hq
            rw [e9]
            refine R_callV v_X3_addOne (PT_addOne hT2 (p := 86 * x + x) (by omega) (by have := hple (86 * x + x); omega) (fun _ => by omega)) dX3_tally_68 l_RX3_39 rfl rfl hT2.1 (Nat.le_of_ble_eq_true rfl) (by omega) rfl rfl (fun v h1 hq => ?_)
            obtain ⟨rfl, hT3, o3⟩ := hq
            refine R_iload_n dX3_tally_71 rfl ?_
            refine R_iconst (v := nI 1) dX3_tally_72 (by decide) ?_
            refine R_iadd_N dX3_tally_73 ?_
            refine R_istore2 dX3_tally_74 (by decide) ?_
            -- X3_tally: ('stop', 75)
            refine yes _ _ _ hg (Or.inr ⟨i + 1, rfl, Nat.le_refl _, ?_⟩) _ hT3 o3
            exact ⟨fun _ => ⟨i, x, rfl, hy, hg⟩, fun _ => rfl⟩
        · have hg := gP_diff hx hy c38
          refine R_aload_n dX3_tally_41 rfl ?_
          refine R_iload dX3_tally_42 rfl ?_
          refine R_iload dX3_tally_44 rfl ?_
          -- X3_tally: ('call', 46, '.invokestatic', 35)
          refine R_callS s_X3_pairOf (PT_pairOf (a := x) (b := y) hx8 hy8) dX3_tally_46 l_RX3_35 rfl rfl (Nat.le_of_ble_eq_true rfl) (by omega) rfl rfl (fun v h1 hq => ?_)
          obtain ⟨rfl, e9⟩ := hq
          rw [e9]
          refine R_callV v_X3_addOne (PT_addOne hT2 (p := 86 * x + y) (by omega) (by have := hple (86 * x + y); omega) (fun _ => by omega)) dX3_tally_49 l_RX3_39 rfl rfl hT2.1 (Nat.le_of_ble_eq_true rfl) (by omega) rfl rfl (fun v h1 hq => ?_)
          obtain ⟨rfl, hT3, o3⟩ := hq
          refine R_goto (tgt := 75) dX3_tally_52 (by decide) ?_
          -- X3_tally: ('stop', 75)
          have hno : ∀ j a, i + 1 = j + 1 → l[i + 1]? = some a → gP l a a j = false := by
            intro j a hj ha
            have : j = i := by omega
            subst this
            rw [hy] at ha
            cases ha
            exact gP_ne hx hy (by omega)
          refine yes sh _ _ hg ?_ _ hT3 o3
          rcases hsh with ⟨e, -⟩ | ⟨s, e, hsi, -⟩
          · exact Or.inl ⟨e, hno⟩
          · refine Or.inr ⟨s, e, by omega, ?_⟩
            constructor
            · intro z; omega
            · rintro ⟨j, a, hj, ha, hgj⟩
              rw [hno j a hj ha] at hgj
              cases hgj
  refine R_aload_n dX3_tally_0 rfl ?_
  -- X3_tally: ('call', 1, '.invokevirtual', 24)
  refine R_callV v_X3_forget (PT_forget hT) dX3_tally_1 l_RX3_24 rfl rfl hT.choose_spec.choose_spec.1.1 (Nat.le_of_ble_eq_true rfl) (by omega) rfl rfl (fun v h1 hq => ?_)
  obtain ⟨rfl, hT2, o2⟩ := hq
  refine R_iconst (v := (-1)) dX3_tally_4 (by decide) ?_
  refine R_istore2 dX3_tally_5 (by decide) ?_
  refine R_iconst (v := nI 0) dX3_tally_6 (by decide) ?_
  refine R_istore3 dX3_tally_7 (by decide) ?_
  -- X3_tally: ('stop', 8)
  refine loop (l.length - 1) 0 _ [] _ none none (by omega) (by exact hT2) List.nodup_nil (fun p => by simp [pci, cntB]) (Nat.le_refl _) (Or.inl ⟨rfl, fun j a hj => by omega⟩) o2
end TALLY
