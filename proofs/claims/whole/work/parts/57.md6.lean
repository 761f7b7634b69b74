/-! THE MODEL: pairs counted, picked, replaced -/
section RECSET
variable {f g : Nat → Int32} {q : Pk}
theorem recF.setRow {i : Nat} {l : List Nat} (c : curF f q) (hi : i < 60) (hl : l.length ≤ 12) (h0 : g (241 + 13 * i) = nI l.length) (hx : ∀ j x, l[j]? = some x → g (241 + 13 * i + 1 + j) = nI x) (ho : ∀ k, k < 1021 → (k < 241 + 13 * i ∨ 241 + 13 * i + 13 ≤ k) → g k = f k) : curF g (q.1, ruSet q.2 i l) := by
  obtain ⟨a, b, d, e⟩ := c
  refine ⟨a, ?_, fun j x hj => ?_, fun r hr => ?_⟩
  · rw [ho 0 (by omega) (by omega)]; exact b
  · have hj2 := (List.getElem?_eq_some_iff.mp hj).1
    have a' : q.1.length ≤ 240 := a
    have hj2 : j < q.1.length := hj2
    have hj : q.1[j]? = some x := hj
    rw [ho _ (by omega) (by omega)]; exact d j x hj
  · by_cases e2 : r = i
    · subst e2
      show (ruSet q.2 r l r).length ≤ 12 ∧ g (0 + (241 + 13 * r)) = nI (ruSet q.2 r l r).length ∧ ∀ j x, (ruSet q.2 r l r)[j]? = some x → g (0 + (241 + 13 * r + 1 + j)) = nI x
      rw [ruSet_at, Nat.zero_add]
      exact ⟨hl, h0, fun j x hj => by rw [Nat.zero_add]; exact hx j x hj⟩
    · show (ruSet q.2 i l r).length ≤ 12 ∧ g (0 + (241 + 13 * r)) = nI (ruSet q.2 i l r).length ∧ ∀ j x, (ruSet q.2 i l r)[j]? = some x → g (0 + (241 + 13 * r + 1 + j)) = nI x
      rw [ruSet_ne e2]
      obtain ⟨e3, e4, e5⟩ := e r hr
      refine ⟨e3, by rw [ho _ (by omega) (by omega)]; exact e4, fun j x hj => ?_⟩
      have hj2 := (List.getElem?_eq_some_iff.mp hj).1
      rw [ho _ (by omega) (by omega)]; exact e5 j x hj
theorem recF.setSeq {l : List Nat} (c : curF f q) (hl : l.length ≤ 240) (h0 : g 0 = nI l.length) (hx : ∀ j x, l[j]? = some x → g (1 + j) = nI x) (ho : ∀ k, 241 ≤ k → k < 1021 → g k = f k) : curF g (l, q.2) := by
  obtain ⟨a, b, d, e⟩ := c
  refine ⟨hl, h0, fun j x hj => by rw [Nat.zero_add]; exact hx j x hj, fun r hr => ?_⟩
  obtain ⟨e3, e4, e5⟩ := e r hr
  refine ⟨e3, by rw [ho _ (by omega) (by omega)]; exact e4, fun j x hj => ?_⟩
  have hj2 := (List.getElem?_eq_some_iff.mp hj).1
  have e3 : (q.2 r).length ≤ 12 := e3
  have hj2 : j < (q.2 r).length := hj2
  rw [ho _ (by omega) (by omega)]; exact e5 j x hj
end RECSET
section MD6
variable {E : EnvT} {h h1 : Hp} {M : Nat} {S : MSt} {q : Pk} {ds : List Pk} {im : Nat → Pk} {md : Nat → Nat} {tp ph : List Nat} {fk fp : Int32}
theorem Md_manyR (x : MdAt E h M S) {v0 : Int32} (e : S.2 1 0 = v0) : Spec E k_X10_many 1 0 0 [.ref M] h (fun v h' => v = some (.int v0) ∧ h' = h) := by
  refine Spec.of (by decide +kernel) (by simp [Value.category]) (Nat.le_of_ble_eq_true rfl) ?_
  show WP E k_X10_many 1 0 0 0 [some (.ref M)] [] h _
  refine R_aload_n dX10_many_0 rfl ?_
  refine R_get K_10 (f := 1) (by decide) dX10_many_1 f_RX10_13 x.1 rfl ?_
  refine R_iconst (v := nI 0) dX10_many_4 (by decide) ?_
  refine R_iaload_N dX10_many_5 x.a1 (by omega) (by omega) e ?_
  refine R_ireturn dX10_many_6 rfl rfl ?_
  -- X10_many: ('ret', 6)
  exact ⟨rfl, rfl⟩
theorem Md_signAtR (x : MdAt E h M S) {i : Nat} {v0 : Int32} (hi : i < 3000) (e : S.2 1 (1 + i) = v0) : Spec E k_X10_signAt 1 0 0 [.ref M, .int (nI i)] h (fun v h' => v = some (.int v0) ∧ h' = h) := by
  refine Spec.of (by decide +kernel) (by simp [Value.category]) (Nat.le_of_ble_eq_true rfl) ?_
  show WP E k_X10_signAt 1 0 0 0 [some (.ref M), some (.int (nI i))] [] h _
  refine R_aload_n dX10_signAt_0 rfl ?_
  refine R_get K_10 (f := 1) (by decide) dX10_signAt_1 f_RX10_13 x.1 rfl ?_
  refine R_iconst (v := nI 1) dX10_signAt_4 (by decide) ?_
  refine R_iload_n dX10_signAt_5 rfl ?_
  refine R_iadd_N dX10_signAt_6 ?_
  refine R_iaload_N dX10_signAt_7 x.a1 (by omega) (by omega) e ?_
  refine R_ireturn dX10_signAt_8 rfl rfl ?_
  -- X10_signAt: ('ret', 8)
  exact ⟨rfl, rfl⟩
theorem Md_replaces (x : MdAt E h M S) (c : curF (S.2 1) q) (h86 : ∀ y ∈ q.1, y < 86) (hr86 : ∀ i, i < 60 → ∀ y ∈ q.2 i, y < 86) {a b i : Nat} (ha : a < 86) (hb : b < 86) (hs : signS q.2 a b = some i) : Spec E k_X10_replaces 4 0 0 [.ref M, .int (nI a), .int (nI b)] h (fun v h' => v = some (.int (nI (26 + i))) ∧ Out h h' M (M + 23) ∧ ∃ S', MdAt E h' M S' ∧ Ony [1] [] S S' ∧ curF (S'.2 1) (jnP q a b i) ∧ ∀ k, 1021 ≤ k → S'.2 1 k = S.2 1 k) := by
  have hi := signS_lt hs
  have hl := c.1
  refine Spec.of (by decide +kernel) (by simp [Value.category]) (Nat.le_of_ble_eq_true rfl) ?_
  show WP E k_X10_replaces 4 0 0 0 [some (.ref M), some (.int (nI a)), some (.int (nI b)), none, none, none, none] [] h _
  have join : ∀ h2 S2, MdAt E h2 M S2 → Ony [1] [] S S2 → curF (S2.2 1) (q.1, ruSet q.2 i [a, b]) → (∀ k, 1021 ≤ k → S2.2 1 k = S.2 1 k) → Out h h2 M (M + 23) → WP E k_X10_replaces 4 0 0 51 [some (.ref M), some (.int (nI a)), some (.int (nI b)), some (.int (nI (26 + i))), none, none, none] [] h2 (fun v h' => v = some (.int (nI (26 + i))) ∧ Out h h' M (M + 23) ∧ ∃ S', MdAt E h' M S' ∧ Ony [1] [] S S' ∧ curF (S'.2 1) (jnP q a b i) ∧ ∀ k, 1021 ≤ k → S'.2 1 k = S.2 1 k) := by
    intro h2 S2 x2 o2 c2 f2 g2
    have loop : ∀ m t (K : List Nat) h3 S3 (z : Option Value), q.1.length ≤ t + m → t ≤ q.1.length → K.length ≤ t → K ++ joinL a b (26 + i) (q.1.drop t) = joinL a b (26 + i) q.1 → MdAt E h3 M S3 → Ony [1] [] S2 S3 → S3.2 1 0 = nI q.1.length → (∀ j y, K[j]? = some y → S3.2 1 (1 + j) = nI y) → (∀ j y, t ≤ j → q.1[j]? = some y → S3.2 1 (1 + j) = nI y) → (∀ k, 241 ≤ k → S3.2 1 k = S2.2 1 k) → Out h h3 M (M + 23) → WP E k_X10_replaces 4 0 0 57 [some (.ref M), some (.int (nI a)), some (.int (nI b)), some (.int (nI (26 + i))), some (.int (nI K.length)), some (.int (nI t)), z] [] h3 (fun v h' => v = some (.int (nI (26 + i))) ∧ Out h h' M (M + 23) ∧ ∃ S', MdAt E h' M S' ∧ Ony [1] [] S S' ∧ curF (S'.2 1) (jnP q a b i) ∧ ∀ k, 1021 ≤ k → S'.2 1 k = S.2 1 k) := by
      intro m
      induction m with
      | zero =>
        intro t K h3 S3 z ht htl hK hj x3 o3 e0 eK eR far g3
        obtain rfl : t = q.1.length := by omega
        rw [List.drop_length, joinL_nil, List.append_nil] at hj
        refine R_iload dX10_replaces_57 rfl ?_
        refine R_aload_n dX10_replaces_59 rfl ?_
        -- X10_replaces: ('call', 60, '.invokevirtual', 123)
        refine R_callV v_X10_many (Md_manyR x3 e0) dX10_replaces_60 l_RX10_123 rfl rfl x3.1 (Nat.le_of_ble_eq_true rfl) (by omega) rfl rfl (fun v h4 hq => ?_)
        obtain ⟨rfl, e9⟩ := hq
        rw [e9]
        refine R_icmp_ge_N (tgt := 151) dX10_replaces_63 (by decide) (by omega) (by omega) (fun c63 => ?_) (fun c63 => ?_)
        -- X10_replaces: ('branch', 63, 151, 66)
        · refine R_aload_n dX10_replaces_151 rfl ?_
          refine R_get K_10 (f := 1) (by decide) dX10_replaces_152 f_RX10_13 x3.1 rfl ?_
          refine R_iconst (v := nI 0) dX10_replaces_155 (by decide) ?_
          refine R_iload dX10_replaces_156 rfl ?_
          refine R_iastore_N dX10_replaces_158 x3.a1 (by omega) (by omega) ?_
          -- X10_replaces: ('put', 159)
          intro h5 u5
          have x5 := x3.s1 u5
          refine R_iload_n dX10_replaces_159 rfl ?_
          refine R_ireturn dX10_replaces_160 rfl rfl ?_
          -- X10_replaces: ('ret', 160)
          refine ⟨rfl, g3.trans (Out.upd u5 (by omega) (by omega)), _, x5, ((o2.trans o3).st (by decide)), ?_, fun k hk => ?_⟩
          · refine recF.setSeq (l := joinL a b (26 + i) q.1) c2 (by rw [← hj]; omega) ?_ (fun j y hy => ?_) (fun k hk1 hk2 => ?_)
            · show upd (S3.2 1) 0 (nI K.length) 0 = _
              rw [upd_at, hj]
            · show upd (S3.2 1) 0 (nI K.length) (1 + j) = _
              rw [upd_ne (by omega)]; exact eK j y (by rw [hj]; exact hy)
            · show upd (S3.2 1) 0 (nI K.length) k = _
              rw [upd_ne (by omega)]; exact far k hk1
          · show upd (S3.2 1) 0 (nI K.length) k = _
            rw [upd_ne (by omega), far k (by omega)]; exact f2 k hk
        · exact absurd c63 (by omega)
      | succ m ih =>
        intro t K h3 S3 z ht htl hK hj x3 o3 e0 eK eR far g3
        by_cases hte : t = q.1.length
        · exact ih t K h3 S3 z (by omega) htl hK hj x3 o3 e0 eK eR far g3
        obtain ⟨y, hy⟩ := getE (l := q.1) (i := t) (by omega)
        have hy86 := h86 y (List.mem_of_getElem? hy)
        have ey := eR t y (Nat.le_refl _) hy
        have yes : (∃ w, y = a ∧ w = b ∧ q.1[t + 1]? = some w) → WP E k_X10_replaces 4 0 0 104 [some (.ref M), some (.int (nI a)), some (.int (nI b)), some (.int (nI (26 + i))), some (.int (nI K.length)), some (.int (nI t)), z] [.int (nI 1)] h3 (fun v h' => v = some (.int (nI (26 + i))) ∧ Out h h' M (M + 23) ∧ ∃ S', MdAt E h' M S' ∧ Ony [1] [] S S' ∧ curF (S'.2 1) (jnP q a b i) ∧ ∀ k, 1021 ≤ k → S'.2 1 k = S.2 1 k) := by
          rintro ⟨w, ya, wb, hw⟩
          have hwl := (List.getElem?_eq_some_iff.mp hw).1
          have hd : q.1.drop t = y :: w :: q.1.drop (t + 2) := by
            obtain ⟨l1, e1⟩ := List.getElem?_eq_some_iff.mp hy
            obtain ⟨l2, e2⟩ := List.getElem?_eq_some_iff.mp hw
            rw [List.drop_eq_getElem_cons l1, e1, List.drop_eq_getElem_cons l2, e2]
          rw [hd, joinL, if_pos ⟨ya, wb⟩] at hj
          refine R_istore6 dX10_replaces_104 (by decide) ?_
          refine R_aload_n dX10_replaces_106 rfl ?_
          refine R_get K_10 (f := 1) (by decide) dX10_replaces_107 f_RX10_13 x3.1 rfl ?_
          refine R_iconst (v := nI 1) dX10_replaces_110 (by decide) ?_
          refine R_iload dX10_replaces_111 rfl ?_
          refine R_iadd_N dX10_replaces_113 ?_
          refine R_iload dX10_replaces_114 rfl ?_
          refine R_if_eq_N (tgt := 123) dX10_replaces_116 (by decide) (by omega) (fun c116 => ?_) (fun c116 => ?_)
          -- X10_replaces: ('branch', 116, 123, 119)
          · exact absurd c116 (by decide)
          · refine R_iload_n dX10_replaces_119 rfl ?_
            refine R_goto (tgt := 129) dX10_replaces_120 (by decide) ?_
            refine R_iastore_N dX10_replaces_129 x3.a1 (by omega) (by omega) ?_
            -- X10_replaces: ('put', 130)
            intro h5 u5
            have x5 := x3.s1 u5
            refine R_iinc4 dX10_replaces_130 (by decide) (nI_inc _ 1) ?_
            refine R_iload dX10_replaces_133 rfl ?_
            refine R_iload dX10_replaces_135 rfl ?_
            refine R_if_eq_N (tgt := 144) dX10_replaces_137 (by decide) (by omega) (fun c137 => ?_) (fun c137 => ?_)
            -- X10_replaces: ('branch', 137, 144, 140)
            · exact absurd c137 (by decide)
            · refine R_iconst (v := nI 2) dX10_replaces_140 (by decide) ?_
              refine R_goto (tgt := 145) dX10_replaces_141 (by decide) ?_
              refine R_iadd_N dX10_replaces_145 ?_
              refine R_istore5 dX10_replaces_146 (by decide) ?_
              refine R_goto (tgt := 57) dX10_replaces_148 (by decide) ?_
              -- X10_replaces: ('stop', 57)
              have hlen : K.length + 1 = (K ++ [26 + i]).length := by rw [List.length_append]; rfl
              rw [hlen]
              refine ih (t + 2) (K ++ [26 + i]) h5 _ _ (by omega) (by omega) (by rw [← hlen]; omega) (by rw [List.append_assoc]; exact hj) x5 (o3.st (by decide)) ?_ (fun j u hu => ?_) (fun j u hj2 hu => ?_) (fun k hk => ?_) (g3.trans (Out.upd u5 (by omega) (by omega)))
              · show upd (S3.2 1) (1 + K.length) _ 0 = _
                rw [upd_ne (by omega)]; exact e0
              · show upd (S3.2 1) (1 + K.length) (nI (26 + i)) (1 + j) = nI u
                rcases snoc_get hu with ⟨z1, z2⟩ | ⟨z1, z2⟩
                · rw [upd_ne (by omega)]; exact eK j u z2
                · rw [z1, z2, upd_at]
              · show upd (S3.2 1) (1 + K.length) _ (1 + j) = nI u
                rw [upd_ne (by omega)]; exact eR j u (by omega) hu
              · show upd (S3.2 1) (1 + K.length) _ k = _
                rw [upd_ne (by omega)]; exact far k hk
        have no : joinL a b (26 + i) (q.1.drop t) = y :: joinL a b (26 + i) (q.1.drop (t + 1)) → WP E k_X10_replaces 4 0 0 104 [some (.ref M), some (.int (nI a)), some (.int (nI b)), some (.int (nI (26 + i))), some (.int (nI K.length)), some (.int (nI t)), z] [.int (nI 0)] h3 (fun v h' => v = some (.int (nI (26 + i))) ∧ Out h h' M (M + 23) ∧ ∃ S', MdAt E h' M S' ∧ Ony [1] [] S S' ∧ curF (S'.2 1) (jnP q a b i) ∧ ∀ k, 1021 ≤ k → S'.2 1 k = S.2 1 k) := by
          intro e
          rw [e] at hj
          refine R_istore6 dX10_replaces_104 (by decide) ?_
          refine R_aload_n dX10_replaces_106 rfl ?_
          refine R_get K_10 (f := 1) (by decide) dX10_replaces_107 f_RX10_13 x3.1 rfl ?_
          refine R_iconst (v := nI 1) dX10_replaces_110 (by decide) ?_
          refine R_iload dX10_replaces_111 rfl ?_
          refine R_iadd_N dX10_replaces_113 ?_
          refine R_iload dX10_replaces_114 rfl ?_
          refine R_if_eq_N (tgt := 123) dX10_replaces_116 (by decide) (by omega) (fun c116 => ?_) (fun c116 => ?_)
          -- X10_replaces: ('branch', 116, 123, 119)
          · refine R_aload_n dX10_replaces_123 rfl ?_
            refine R_iload dX10_replaces_124 rfl ?_
            -- X10_replaces: ('call', 126, '.invokevirtual', 127)
            refine R_callV v_X10_signAt (Md_signAtR x3 (by omega) ey) dX10_replaces_126 l_RX10_127 rfl rfl x3.1 (Nat.le_of_ble_eq_true rfl) (by omega) rfl rfl (fun v h4 hq => ?_)
            obtain ⟨rfl, e9⟩ := hq
            rw [e9]
            refine R_iastore_N dX10_replaces_129 x3.a1 (by omega) (by omega) ?_
            -- X10_replaces: ('put', 130)
            intro h5 u5
            have x5 := x3.s1 u5
            refine R_iinc4 dX10_replaces_130 (by decide) (nI_inc _ 1) ?_
            refine R_iload dX10_replaces_133 rfl ?_
            refine R_iload dX10_replaces_135 rfl ?_
            refine R_if_eq_N (tgt := 144) dX10_replaces_137 (by decide) (by omega) (fun c137 => ?_) (fun c137 => ?_)
            -- X10_replaces: ('branch', 137, 144, 140)
            · refine R_iconst (v := nI 1) dX10_replaces_144 (by decide) ?_
              refine R_iadd_N dX10_replaces_145 ?_
              refine R_istore5 dX10_replaces_146 (by decide) ?_
              refine R_goto (tgt := 57) dX10_replaces_148 (by decide) ?_
              -- X10_replaces: ('stop', 57)
              have hlen : K.length + 1 = (K ++ [y]).length := by rw [List.length_append]; rfl
              rw [hlen]
              refine ih (t + 1) (K ++ [y]) h5 _ _ (by omega) (by omega) (by rw [← hlen]; omega) (by rw [List.append_assoc]; exact hj) x5 (o3.st (by decide)) ?_ (fun j u hu => ?_) (fun j u hj2 hu => ?_) (fun k hk => ?_) (g3.trans (Out.upd u5 (by omega) (by omega)))
              · show upd (S3.2 1) (1 + K.length) _ 0 = _
                rw [upd_ne (by omega)]; exact e0
              · show upd (S3.2 1) (1 + K.length) (nI y) (1 + j) = nI u
                rcases snoc_get hu with ⟨z1, z2⟩ | ⟨z1, z2⟩
                · rw [upd_ne (by omega)]; exact eK j u z2
                · rw [z1, z2, upd_at]
              · show upd (S3.2 1) (1 + K.length) _ (1 + j) = nI u
                rw [upd_ne (by omega)]; exact eR j u (by omega) hu
              · show upd (S3.2 1) (1 + K.length) _ k = _
                rw [upd_ne (by omega)]; exact far k hk
            · exact absurd rfl c137
          · exact absurd rfl c116
        refine R_iload dX10_replaces_57 rfl ?_
        refine R_aload_n dX10_replaces_59 rfl ?_
        -- X10_replaces: ('call', 60, '.invokevirtual', 123)
        refine R_callV v_X10_many (Md_manyR x3 e0) dX10_replaces_60 l_RX10_123 rfl rfl x3.1 (Nat.le_of_ble_eq_true rfl) (by omega) rfl rfl (fun v h4 hq => ?_)
        obtain ⟨rfl, e9⟩ := hq
        rw [e9]
        refine R_icmp_ge_N (tgt := 151) dX10_replaces_63 (by decide) (by omega) (by omega) (fun c63 => ?_) (fun c63 => ?_)
        -- X10_replaces: ('branch', 63, 151, 66)
        · exact absurd c63 (by omega)
        · refine R_iload dX10_replaces_66 rfl ?_
          refine R_iconst (v := nI 1) dX10_replaces_68 (by decide) ?_
          refine R_iadd_N dX10_replaces_69 ?_
          refine R_aload_n dX10_replaces_70 rfl ?_
          -- X10_replaces: ('call', 71, '.invokevirtual', 123)
          refine R_callV v_X10_many (Md_manyR x3 e0) dX10_replaces_71 l_RX10_123 rfl rfl x3.1 (Nat.le_of_ble_eq_true rfl) (by omega) rfl rfl (fun v h4 hq => ?_)
          obtain ⟨rfl, e9⟩ := hq
          rw [e9]
          refine R_icmp_ge_N (tgt := 103) dX10_replaces_74 (by decide) (by omega) (by omega) (fun c74 => ?_) (fun c74 => ?_)
          -- X10_replaces: ('branch', 74, 103, 77)
          · refine R_iconst (v := nI 0) dX10_replaces_103 (by decide) ?_
            -- X10_replaces: ('stop', 104)
            refine no ?_
            obtain ⟨l1, e1⟩ := List.getElem?_eq_some_iff.mp hy
            rw [List.drop_eq_getElem_cons l1, e1, List.drop_eq_nil_of_le (show q.1.length ≤ t + 1 by omega)]
            simp [joinL]
          · obtain ⟨w, hw⟩ := getE (l := q.1) (i := t + 1) (by omega)
            have hw86 := h86 w (List.mem_of_getElem? hw)
            have ew := eR (t + 1) w (by omega) hw
            have nj : ¬ (y = a ∧ w = b) → joinL a b (26 + i) (q.1.drop t) = y :: joinL a b (26 + i) (q.1.drop (t + 1)) := by
              intro e
              obtain ⟨l1, e1⟩ := List.getElem?_eq_some_iff.mp hy
              obtain ⟨l2, e2⟩ := List.getElem?_eq_some_iff.mp hw
              rw [List.drop_eq_getElem_cons l1, e1, List.drop_eq_getElem_cons l2, e2, joinL, if_neg e]
            refine R_aload_n dX10_replaces_77 rfl ?_
            refine R_iload dX10_replaces_78 rfl ?_
            -- X10_replaces: ('call', 80, '.invokevirtual', 127)
            refine R_callV v_X10_signAt (Md_signAtR x3 (by omega) ey) dX10_replaces_80 l_RX10_127 rfl rfl x3.1 (Nat.le_of_ble_eq_true rfl) (by omega) rfl rfl (fun v h4 hq => ?_)
            obtain ⟨rfl, e9⟩ := hq
            rw [e9]
            refine R_iload_n dX10_replaces_83 rfl ?_
            refine R_icmp_ne_N (tgt := 103) dX10_replaces_84 (by decide) (by omega) (by omega) (fun c84 => ?_) (fun c84 => ?_)
            -- X10_replaces: ('branch', 84, 103, 87)
            · refine R_iconst (v := nI 0) dX10_replaces_103 (by decide) ?_
              -- X10_replaces: ('stop', 104)
              exact no (nj (fun e => c84 e.1))
            · refine R_aload_n dX10_replaces_87 rfl ?_
              refine R_iload dX10_replaces_88 rfl ?_
              refine R_iconst (v := nI 1) dX10_replaces_90 (by decide) ?_
              refine R_iadd_N dX10_replaces_91 ?_
              -- X10_replaces: ('call', 92, '.invokevirtual', 127)
              refine R_callV v_X10_signAt (Md_signAtR x3 (i := t + 1) (by omega) ew) dX10_replaces_92 l_RX10_127 rfl rfl x3.1 (Nat.le_of_ble_eq_true rfl) (by omega) rfl rfl (fun v h4 hq => ?_)
              obtain ⟨rfl, e9⟩ := hq
              rw [e9]
              refine R_iload_n dX10_replaces_95 rfl ?_
              refine R_icmp_ne_N (tgt := 103) dX10_replaces_96 (by decide) (by omega) (by omega) (fun c96 => ?_) (fun c96 => ?_)
              -- X10_replaces: ('branch', 96, 103, 99)
              · refine R_iconst (v := nI 0) dX10_replaces_103 (by decide) ?_
                -- X10_replaces: ('stop', 104)
                exact no (nj (fun e => c96 e.2))
              · refine R_iconst (v := nI 1) dX10_replaces_99 (by decide) ?_
                refine R_goto (tgt := 104) dX10_replaces_100 (by decide) ?_
                -- X10_replaces: ('stop', 104)
                exact yes ⟨w, c84, c96, hw⟩
    refine R_iconst (v := nI 0) dX10_replaces_51 (by decide) ?_
    refine R_istore4 dX10_replaces_52 (by decide) ?_
    refine R_iconst (v := nI 0) dX10_replaces_54 (by decide) ?_
    refine R_istore5 dX10_replaces_55 (by decide) ?_
    -- X10_replaces: ('stop', 57)
    exact loop q.1.length 0 [] h2 S2 none (by omega) (by omega) (by decide) (by rw [List.nil_append, List.drop_zero]) x2 Ony.refl c2.many (fun j y hy => by simp at hy) (fun j y _ hy => c2.sg (q := (q.1, ruSet q.2 i [a, b])) hy) (fun _ _ => rfl) g2
  refine R_aload_n dX10_replaces_0 rfl ?_
  refine R_iload_n dX10_replaces_1 rfl ?_
  refine R_iload_n dX10_replaces_2 rfl ?_
  -- X10_replaces: ('call', 3, '.invokevirtual', 230)
  refine R_callV v_X10_ruleOf (Md_ruleOf x c hr86 ha hb) dX10_replaces_3 l_RX10_230 rfl rfl x.1 (Nat.le_of_ble_eq_true rfl) (by omega) rfl rfl (fun v h2 hq => ?_)
  obtain ⟨rfl, e9⟩ := hq
  rw [e9]
  cases hr : ruleS q.2 a b with
  | some j =>
    rw [signS_1 hr] at hs
    cases hs
    have h0 : q.2 i = [a, b] := of_decide_eq_true (fstB_some hr).2.1
    refine R_istore3 dX10_replaces_6 (by decide) ?_
    refine R_iload_n dX10_replaces_7 rfl ?_
    refine R_iconst (v := (-1)) dX10_replaces_8 (by decide) ?_
    refine R_icmp_ne (tgt := 51) dX10_replaces_9 (by decide) (fun c9 => ?_) (fun c9 => ?_)
    -- X10_replaces: ('branch', 9, 51, 12)
    · exact join h S x Ony.refl (by rw [ruSet_same h0]; exact c) (fun _ _ => rfl) Out.refl
    · exact absurd c9 (nI_ne_m1 (n := 26 + i) (by omega))
  | none =>
    rw [signS_0 hr] at hs
    have h0 : q.2 i = [] := of_decide_eq_true (fstB_some hs).2.1
    refine R_istore3 dX10_replaces_6 (by decide) ?_
    refine R_iload_n dX10_replaces_7 rfl ?_
    refine R_iconst (v := (-1)) dX10_replaces_8 (by decide) ?_
    refine R_icmp_ne (tgt := 51) dX10_replaces_9 (by decide) (fun c9 => ?_) (fun c9 => ?_)
    -- X10_replaces: ('branch', 9, 51, 12)
    · exact absurd rfl c9
    · refine R_aload_n dX10_replaces_12 rfl ?_
      -- X10_replaces: ('call', 13, '.invokevirtual', 233)
      refine R_callV v_X10_freeSign (Md_freeSign x c) dX10_replaces_13 l_RX10_233 rfl rfl x.1 (Nat.le_of_ble_eq_true rfl) (by omega) rfl rfl (fun v h3 hq => ?_)
      obtain ⟨rfl, e9⟩ := hq
      rw [e9, hs]
      have hrw : 241 + 13 * (26 + i - 26) = 241 + 13 * i := by omega
      refine R_istore3 dX10_replaces_16 (by decide) ?_
      refine R_aload_n dX10_replaces_17 rfl ?_
      refine R_get K_10 (f := 1) (by decide) dX10_replaces_18 f_RX10_13 x.1 rfl ?_
      refine R_iload_n dX10_replaces_21 rfl ?_
      -- X10_replaces: ('call', 22, '.invokestatic', 92)
      refine R_callS s_X10_rowAt (Md_rowAt (s := 26 + i) (by omega)) dX10_replaces_22 l_RX10_92 rfl rfl (Nat.le_of_ble_eq_true rfl) (by omega) rfl rfl (fun v h4 hq => ?_)
      obtain ⟨rfl, e9⟩ := hq
      rw [e9, hrw]
      refine R_iconst (v := nI 2) dX10_replaces_25 (by decide) ?_
      refine R_iastore_N dX10_replaces_26 x.a1 (by omega) (by omega) ?_
      -- X10_replaces: ('put', 27)
      intro h5 u5
      have x5 := x.s1 u5
      refine R_aload_n dX10_replaces_27 rfl ?_
      refine R_get K_10 (f := 1) (by decide) dX10_replaces_28 f_RX10_13 x5.1 rfl ?_
      refine R_iload_n dX10_replaces_31 rfl ?_
      -- X10_replaces: ('call', 32, '.invokestatic', 92)
      refine R_callS s_X10_rowAt (Md_rowAt (s := 26 + i) (by omega)) dX10_replaces_32 l_RX10_92 rfl rfl (Nat.le_of_ble_eq_true rfl) (by omega) rfl rfl (fun v h6 hq => ?_)
      obtain ⟨rfl, e9⟩ := hq
      rw [e9, hrw]
      refine R_iconst (v := nI 1) dX10_replaces_35 (by decide) ?_
      refine R_iadd_N dX10_replaces_36 ?_
      refine R_iload_n dX10_replaces_37 rfl ?_
      refine R_iastore_N dX10_replaces_38 x5.a1 (by omega) (by omega) ?_
      -- X10_replaces: ('put', 39)
      intro h7 u7
      have x7 := x5.s1 u7
      refine R_aload_n dX10_replaces_39 rfl ?_
      refine R_get K_10 (f := 1) (by decide) dX10_replaces_40 f_RX10_13 x7.1 rfl ?_
      refine R_iload_n dX10_replaces_43 rfl ?_
      -- X10_replaces: ('call', 44, '.invokestatic', 92)
      refine R_callS s_X10_rowAt (Md_rowAt (s := 26 + i) (by omega)) dX10_replaces_44 l_RX10_92 rfl rfl (Nat.le_of_ble_eq_true rfl) (by omega) rfl rfl (fun v h8 hq => ?_)
      obtain ⟨rfl, e9⟩ := hq
      rw [e9, hrw]
      refine R_iconst (v := nI 2) dX10_replaces_47 (by decide) ?_
      refine R_iadd_N dX10_replaces_48 ?_
      refine R_iload_n dX10_replaces_49 rfl ?_
      refine R_iastore_N dX10_replaces_50 x7.a1 (by omega) (by omega) ?_
      -- X10_replaces: ('put', 51)
      intro h9 u9
      have x9 := x7.s1 u9
      refine join h9 _ x9 (((Ony.refl.st (by decide)).st (by decide)).st (by decide)) ?_ (fun k hk => ?_) (((Out.upd u5 (by omega) (by omega)).trans (Out.upd u7 (by omega) (by omega))).trans (Out.upd u9 (by omega) (by omega)))
      · show curF (upd (upd (upd (S.2 1) (241 + 13 * i) (nI 2)) (241 + 13 * i + 1) (nI a)) (241 + 13 * i + 2) (nI b)) (q.1, ruSet q.2 i [a, b])
        refine c.setRow hi (by show 2 ≤ 12; decide) ?_ (fun j y hy => ?_) (fun k hk1 hk2 => ?_)
        · rw [upd_ne (by omega), upd_ne (by omega), upd_at]; rfl
        · have hj := (List.getElem?_eq_some_iff.mp hy).1
          have hj : j < 2 := hj
          rcases (show j = 0 ∨ j = 1 by omega) with rfl | rfl
          · rw [upd_ne (by omega), Nat.add_zero, upd_at]; exact congrArg nI (Option.some.inj hy)
          · rw [show 241 + 13 * i + 1 + 1 = 241 + 13 * i + 2 by omega, upd_at]; exact congrArg nI (Option.some.inj hy)
        · rw [upd_ne (by omega), upd_ne (by omega), upd_ne (by omega)]
      · show upd (upd (upd (S.2 1) (241 + 13 * i) (nI 2)) (241 + 13 * i + 1) (nI a)) (241 + 13 * i + 2) (nI b) k = _
        rw [upd_ne (by omega), upd_ne (by omega), upd_ne (by omega)]
def CntAt (S : MSt) (l : List Nat) : Prop := ∀ p, p < 7396 → S.2 20 p = nI (pcf l p)
theorem Md_laysCounts (x : MdAt E h M S) (c : curF (S.2 1) q) (h86 : ∀ y ∈ q.1, y < 86) : Spec E k_X10_laysCounts 2 0 0 [.ref M] h (fun v h' => v = some (.int (nI (unlS q.1))) ∧ Out h h' M (M + 23) ∧ ∃ S', MdAt E h' M S' ∧ Ony [20, 21] [] S S' ∧ CntAt S' q.1) := by
  have hl := c.1
  refine Spec.of (by decide +kernel) (by simp [Value.category]) (Nat.le_of_ble_eq_true rfl) ?_
  show WP E k_X10_laysCounts 2 0 0 0 [some (.ref M), none, none, none] [] h _
  have loop2 : ∀ m t n h2 S2 (z : Option Value), q.1.length ≤ t + m → t ≤ q.1.length → n = cntB (fun p => decide (0 < pci q.1 t p)) 7396 → MdAt E h2 M S2 → Ony [20, 21] [] S S2 → (∀ p, p < 7396 → S2.2 20 p = nI (pci q.1 t p)) → (∀ p, p < 7396 → (∃ j, j < t ∧ S2.2 21 p = nI j ∧ gP q.1 (p / 86) (p % 86) j = true ∧ ∀ j2, j < j2 → j2 < t → gP q.1 (p / 86) (p % 86) j2 = false) ∨ S2.2 21 p = -2 ∧ ∀ j, j < t → gP q.1 (p / 86) (p % 86) j = false) → Out h h2 M (M + 23) → WP E k_X10_laysCounts 2 0 0 34 [some (.ref M), some (.int (nI n)), some (.int (nI t)), z] [] h2 (fun v h' => v = some (.int (nI (unlS q.1))) ∧ Out h h' M (M + 23) ∧ ∃ S', MdAt E h' M S' ∧ Ony [20, 21] [] S S' ∧ CntAt S' q.1) := by
    intro m
    have ends : ∀ t n h2 S2 (z : Option Value), q.1.length ≤ t + 1 → t ≤ q.1.length → n = cntB (fun p => decide (0 < pci q.1 t p)) 7396 → MdAt E h2 M S2 → Ony [20, 21] [] S S2 → (∀ p, p < 7396 → S2.2 20 p = nI (pci q.1 t p)) → Out h h2 M (M + 23) → WP E k_X10_laysCounts 2 0 0 116 [some (.ref M), some (.int (nI n)), some (.int (nI t)), z] [] h2 (fun v h' => v = some (.int (nI (unlS q.1))) ∧ Out h h' M (M + 23) ∧ ∃ S', MdAt E h' M S' ∧ Ony [20, 21] [] S S' ∧ CntAt S' q.1) := by
      intro t n h2 S2 z ht htl hn x2 o2 k2 g2
      have e : ∀ p, pci q.1 t p = pcf q.1 p := fun p => (cntG_upto ht htl).symm
      refine R_iload_n dX10_laysCounts_116 rfl ?_
      refine R_ireturn dX10_laysCounts_117 rfl rfl ?_
      -- X10_laysCounts: ('ret', 117)
      refine ⟨?_, g2, S2, x2, o2, fun p hp => by rw [k2 p hp, e]⟩
      have e2 : cntB (fun p => decide (0 < pci q.1 t p)) 7396 = unlS q.1 := by
        rw [unlS]; exact cntB_ext (fun j hj => by rw [e])
      rw [hn, e2]
    induction m with
    | zero =>
      intro t n h2 S2 z ht htl hn x2 o2 k2 l2 g2
      have c2 : curF (S2.2 1) q := by rw [o2.a1 (by decide)]; exact c
      refine R_iload_n dX10_laysCounts_34 rfl ?_
      refine R_iconst (v := nI 1) dX10_laysCounts_35 (by decide) ?_
      refine R_iadd_N dX10_laysCounts_36 ?_
      refine R_aload_n dX10_laysCounts_37 rfl ?_
      -- X10_laysCounts: ('call', 38, '.invokevirtual', 123)
      refine R_callV v_X10_many (Md_many x2 c2) dX10_laysCounts_38 l_RX10_123 rfl rfl x2.1 (Nat.le_of_ble_eq_true rfl) (by omega) rfl rfl (fun v h4 hq => ?_)
      obtain ⟨rfl, e9⟩ := hq
      rw [e9]
      refine R_icmp_ge_N (tgt := 116) dX10_laysCounts_41 (by decide) (by omega) (by omega) (fun c41 => ?_) (fun c41 => ?_)
      -- X10_laysCounts: ('branch', 41, 116, 44)
      · exact ends t n h2 S2 z (by omega) htl hn x2 o2 k2 g2
      · exact absurd c41 (by omega)
    | succ m ih =>
      intro t n h2 S2 z ht htl hn x2 o2 k2 l2 g2
      have c2 : curF (S2.2 1) q := by rw [o2.a1 (by decide)]; exact c
      refine R_iload_n dX10_laysCounts_34 rfl ?_
      refine R_iconst (v := nI 1) dX10_laysCounts_35 (by decide) ?_
      refine R_iadd_N dX10_laysCounts_36 ?_
      refine R_aload_n dX10_laysCounts_37 rfl ?_
      -- X10_laysCounts: ('call', 38, '.invokevirtual', 123)
      refine R_callV v_X10_many (Md_many x2 c2) dX10_laysCounts_38 l_RX10_123 rfl rfl x2.1 (Nat.le_of_ble_eq_true rfl) (by omega) rfl rfl (fun v h4 hq => ?_)
      obtain ⟨rfl, e9⟩ := hq
      rw [e9]
      refine R_icmp_ge_N (tgt := 116) dX10_laysCounts_41 (by decide) (by omega) (by omega) (fun c41 => ?_) (fun c41 => ?_)
      -- X10_laysCounts: ('branch', 41, 116, 44)
      · exact ends t n h2 S2 z (by omega) htl hn x2 o2 k2 g2
      · obtain ⟨y, hy⟩ := getE (l := q.1) (i := t) (by omega)
        obtain ⟨w, hw⟩ := getE (l := q.1) (i := t + 1) (by omega)
        have hy86 := h86 y (List.mem_of_getElem? hy)
        have hw86 := h86 w (List.mem_of_getElem? hw)
        have hp : 86 * y + w < 7396 := by omega
        obtain ⟨dm1, dm2⟩ := pair_dm (a := y) (b := w) hw86
        have oth : ∀ p, p < 7396 → p ≠ 86 * y + w → gP q.1 (p / 86) (p % 86) t = false := by
          intro p hp2 hne
          refine gP_ne hy hw ?_
          by_cases e : p / 86 = y
          · exact Or.inr (by omega)
          · exact Or.inl e
        have skip : gP q.1 y w t = false → WP E k_X10_laysCounts 2 0 0 110 [some (.ref M), some (.int (nI n)), some (.int (nI t)), some (.int (nI (86 * y + w)))] [] h2 (fun v h' => v = some (.int (nI (unlS q.1))) ∧ Out h h' M (M + 23) ∧ ∃ S', MdAt E h' M S' ∧ Ony [20, 21] [] S S' ∧ CntAt S' q.1) := by
          intro hg
          have all : ∀ p, p < 7396 → gP q.1 (p / 86) (p % 86) t = false := by
            intro p hp2
            by_cases e : p = 86 * y + w
            · rw [e, dm1, dm2]; exact hg
            · exact oth p hp2 e
          have same : ∀ p, p < 7396 → pci q.1 (t + 1) p = pci q.1 t p := fun p hp2 => by rw [pci_step, all p hp2, if_neg (by decide), Nat.add_zero]
          refine R_iinc2 dX10_laysCounts_110 (by decide) (nI_inc _ 1) ?_
          refine R_goto (tgt := 34) dX10_laysCounts_113 (by decide) ?_
          -- X10_laysCounts: ('stop', 34)
          refine ih (t + 1) n h2 S2 _ (by omega) (by omega) ?_ x2 o2 (fun p hp2 => by rw [k2 p hp2, same p hp2]) (fun p hp2 => ?_) g2
          · rw [hn]; exact cntB_ext (fun p hp2 => by rw [same p hp2])
          · rcases l2 p hp2 with ⟨j, j1, j2, j3, j4⟩ | ⟨j1, j2⟩
            · refine Or.inl ⟨j, by omega, j2, j3, fun j5 k1 k3 => ?_⟩
              by_cases e : j5 = t
              · rw [e]; exact all p hp2
              · exact j4 j5 k1 (by omega)
            · refine Or.inr ⟨j1, fun j k1 => ?_⟩
              by_cases e : j = t
              · rw [e]; exact all p hp2
              · exact j2 j (by omega)
        have take : gP q.1 y w t = true → WP E k_X10_laysCounts 2 0 0 76 [some (.ref M), some (.int (nI n)), some (.int (nI t)), some (.int (nI (86 * y + w)))] [] h2 (fun v h' => v = some (.int (nI (unlS q.1))) ∧ Out h h' M (M + 23) ∧ ∃ S', MdAt E h' M S' ∧ Ony [20, 21] [] S S' ∧ CntAt S' q.1) := by
          intro hg
          have hgp : gP q.1 ((86 * y + w) / 86) ((86 * y + w) % 86) t = true := by rw [dm1, dm2]; exact hg
          have stp : pci q.1 (t + 1) (86 * y + w) = pci q.1 t (86 * y + w) + 1 := by rw [pci_step, hgp, if_pos rfl]
          have same : ∀ p, p < 7396 → p ≠ 86 * y + w → pci q.1 (t + 1) p = pci q.1 t p := fun p hp2 hne => by rw [pci_step, oth p hp2 hne, if_neg (by decide), Nat.add_zero]
          have pcl : pci q.1 t (86 * y + w) ≤ 240 := Nat.le_trans (cntB_le _ _) (by omega)
          have kc := k2 _ hp
          have fin : ∀ n2 h5 S5, n2 = cntB (fun p => decide (0 < pci q.1 (t + 1) p)) 7396 → MdAt E h5 M S5 → Ony [20, 21] [] S S5 → S5.2 20 = S2.2 20 → S5.2 21 = upd (S2.2 21) (86 * y + w) (nI t) → Out h h5 M (M + 23) → WP E k_X10_laysCounts 2 0 0 98 [some (.ref M), some (.int (nI n)), some (.int (nI t)), some (.int (nI (86 * y + w)))] [.int (nI (n2 - n)), .int (nI n)] h5 (fun v h' => v = some (.int (nI (unlS q.1))) ∧ Out h h' M (M + 23) ∧ ∃ S', MdAt E h' M S' ∧ Ony [20, 21] [] S S' ∧ CntAt S' q.1) ∨ n2 < n := by
            intro n2 h5 S5 hn2 x5 o5 e20 e21 g5
            by_cases hlt : n2 < n
            · exact Or.inr hlt
            refine Or.inl ?_
            have kc5 : S5.2 20 (86 * y + w) = nI (pci q.1 t (86 * y + w)) := by rw [e20]; exact kc
            refine R_iadd_N dX10_laysCounts_98 ?_
            refine R_istore1 dX10_laysCounts_99 (by decide) ?_
            refine R_aload_n dX10_laysCounts_100 rfl ?_
            refine R_get K_10 (f := 31) (by decide) dX10_laysCounts_101 f_RX10_76 x5.1 rfl ?_
            refine R_iload_n dX10_laysCounts_104 rfl ?_
            refine R_dup2 dX10_laysCounts_105 rfl rfl ?_
            refine R_iaload_N dX10_laysCounts_106 x5.a20 (by omega) (by omega) kc5 ?_
            refine R_iconst (v := nI 1) dX10_laysCounts_107 (by decide) ?_
            refine R_iadd_N dX10_laysCounts_108 ?_
            refine R_iastore_N dX10_laysCounts_109 x5.a20 (by omega) (by omega) ?_
            -- X10_laysCounts: ('put', 110)
            intro h6 u6
            have x6 := x5.s20 u6
            rw [show n + (n2 - n) = n2 by omega]
            refine R_iinc2 dX10_laysCounts_110 (by decide) (nI_inc _ 1) ?_
            refine R_goto (tgt := 34) dX10_laysCounts_113 (by decide) ?_
            -- X10_laysCounts: ('stop', 34)
            refine ih (t + 1) n2 h6 _ _ (by omega) (by omega) hn2 x6 (o5.st (by decide)) (fun p hp2 => ?_) (fun p hp2 => ?_) (g5.trans (Out.upd u6 (by omega) (by omega)))
            · show upd (S5.2 20) (86 * y + w) (nI (pci q.1 t (86 * y + w) + 1)) p = _
              by_cases e : p = 86 * y + w
              · rw [e, upd_at, stp]
              · rw [upd_ne e, e20, k2 p hp2, same p hp2 e]
            · show (∃ j, j < t + 1 ∧ S5.2 21 p = nI j ∧ _) ∨ S5.2 21 p = -2 ∧ _
              rw [e21]
              by_cases e : p = 86 * y + w
              · refine Or.inl ⟨t, by omega, by rw [e, upd_at], by rw [e]; exact hgp, fun j5 k1 k3 => absurd k1 (by omega)⟩
              · rw [upd_ne e]
                rcases l2 p hp2 with ⟨j, j1, j2, j3, j4⟩ | ⟨j1, j2⟩
                · refine Or.inl ⟨j, by omega, j2, j3, fun j5 k1 k3 => ?_⟩
                  by_cases e2 : j5 = t
                  · rw [e2]; exact oth p hp2 e
                  · exact j4 j5 k1 (by omega)
                · refine Or.inr ⟨j1, fun j k1 => ?_⟩
                  by_cases e2 : j = t
                  · rw [e2]; exact oth p hp2 e
                  · exact j2 j (by omega)
          refine R_aload_n dX10_laysCounts_76 rfl ?_
          refine R_get K_10 (f := 32) (by decide) dX10_laysCounts_77 f_RX10_79 x2.1 rfl ?_
          refine R_iload_n dX10_laysCounts_80 rfl ?_
          refine R_iload_n dX10_laysCounts_81 rfl ?_
          refine R_iastore_N dX10_laysCounts_82 x2.a21 (by omega) (by omega) ?_
          -- X10_laysCounts: ('put', 83)
          intro h5 u5
          have x5 := x2.s21 u5
          have o5 : Ony [20, 21] [] S (S2.1, updF S2.2 21 (upd (S2.2 21) (86 * y + w) (nI t))) := o2.st (by decide)
          have g5 : Out h h5 M (M + 23) := g2.trans (Out.upd u5 (by omega) (by omega))
          refine R_iload_n dX10_laysCounts_83 rfl ?_
          refine R_aload_n dX10_laysCounts_84 rfl ?_
          refine R_get K_10 (f := 31) (by decide) dX10_laysCounts_85 f_RX10_76 x5.1 rfl ?_
          refine R_iload_n dX10_laysCounts_88 rfl ?_
          refine R_iaload_N dX10_laysCounts_89 x5.a20 (by omega) (by omega) kc ?_
          refine R_if_ne_N (tgt := 97) dX10_laysCounts_90 (by decide) (by omega) (fun c90 => ?_) (fun c90 => ?_)
          -- X10_laysCounts: ('branch', 90, 97, 93)
          · refine R_iconst (v := nI 0) dX10_laysCounts_97 (by decide) ?_
            -- X10_laysCounts: ('stop', 98)
            have := fin n h5 _ (by
              rw [hn]
              refine cntB_ext (fun p hp2 => ?_)
              by_cases e : p = 86 * y + w
              · rw [e, stp]
                rw [decide_eq_true (by omega), decide_eq_true (by omega)]
              · rw [same p hp2 e]) x5 o5 rfl rfl g5
            rw [Nat.sub_self] at this
            exact this.elim id (fun z => absurd z (by omega))
          · refine R_iconst (v := nI 1) dX10_laysCounts_93 (by decide) ?_
            refine R_goto (tgt := 98) dX10_laysCounts_94 (by decide) ?_
            -- X10_laysCounts: ('stop', 98)
            have := fin (n + 1) h5 _ (by
              rw [hn]
              refine (cntB_ins (x := 86 * y + w) hp ?_ ?_ (fun p hp2 hne => ?_)).symm
              · exact decide_eq_false (by omega)
              · exact decide_eq_true (by omega)
              · rw [same p hp2 hne]) x5 o5 rfl rfl g5
            rw [show n + 1 - n = 1 by omega] at this
            exact this.elim id (fun z => absurd z (by omega))
        have first : (t = 0 ∨ ∃ j, t = j + 1 ∧ gP q.1 y w j = false) → gP q.1 y w t = true := fun e => by rw [gP_next e]; exact decide_eq_true ⟨hy, hw⟩
        have dec : (S2.2 21 (86 * y + w) = nI t - nI 1 ∧ gP q.1 y w t = false) ∨ (¬ S2.2 21 (86 * y + w) = nI t - nI 1 ∧ gP q.1 y w t = true) := by
          by_cases h0 : t = 0
          · refine Or.inr ⟨fun e => ?_, first (Or.inl h0)⟩
            rcases l2 _ hp with ⟨j, j1, -⟩ | ⟨j1, -⟩
            · omega
            · rw [j1, h0] at e; exact absurd e (by decide)
          · obtain ⟨t0, rfl⟩ : ∃ t0, t = t0 + 1 := ⟨t - 1, by omega⟩
            rw [pk_sub (by omega), show t0 + 1 - 1 = t0 by omega]
            rcases l2 _ hp with ⟨j, j1, j2, j3, j4⟩ | ⟨j1, j2⟩
            · rw [dm1, dm2] at j3 j4
              by_cases e : j = t0
              · subst e
                refine Or.inl ⟨j2, ?_⟩
                rw [gP, j3]; simp
              · refine Or.inr ⟨fun e2 => ?_, first (Or.inr ⟨t0, rfl, j4 t0 (by omega) (by omega)⟩)⟩
                rw [j2] at e2
                exact e ((nI_inj (by omega) (by omega)).mp e2)
            · rw [dm1, dm2] at j2
              refine Or.inr ⟨fun e2 => ?_, first (Or.inr ⟨t0, rfl, j2 t0 (by omega)⟩)⟩
              rw [j1] at e2
              exact nI_pos (n := t0) (by omega) (by rw [← e2]; decide)
        refine R_bipush (v := nI 86) dX10_laysCounts_44 (by decide) ?_
        refine R_aload_n dX10_laysCounts_46 rfl ?_
        refine R_iload_n dX10_laysCounts_47 rfl ?_
        -- X10_laysCounts: ('call', 48, '.invokevirtual', 127)
        refine R_callV v_X10_signAt (Md_signAt x2 c2 hy) dX10_laysCounts_48 l_RX10_127 rfl rfl x2.1 (Nat.le_of_ble_eq_true rfl) (by omega) rfl rfl (fun v h4 hq => ?_)
        obtain ⟨rfl, e9⟩ := hq
        rw [e9]
        refine R_imul_N dX10_laysCounts_51 ?_
        refine R_aload_n dX10_laysCounts_52 rfl ?_
        refine R_iload_n dX10_laysCounts_53 rfl ?_
        refine R_iconst (v := nI 1) dX10_laysCounts_54 (by decide) ?_
        refine R_iadd_N dX10_laysCounts_55 ?_
        -- X10_laysCounts: ('call', 56, '.invokevirtual', 127)
        refine R_callV v_X10_signAt (Md_signAt x2 c2 hw) dX10_laysCounts_56 l_RX10_127 rfl rfl x2.1 (Nat.le_of_ble_eq_true rfl) (by omega) rfl rfl (fun v h5 hq => ?_)
        obtain ⟨rfl, e9⟩ := hq
        rw [e9]
        refine R_iadd_N dX10_laysCounts_59 ?_
        refine R_istore3 dX10_laysCounts_60 (by decide) ?_
        refine R_aload_n dX10_laysCounts_61 rfl ?_
        refine R_get K_10 (f := 32) (by decide) dX10_laysCounts_62 f_RX10_79 x2.1 rfl ?_
        refine R_iload_n dX10_laysCounts_65 rfl ?_
        refine R_iaload_N dX10_laysCounts_66 x2.a21 (by omega) (by omega) rfl ?_
        refine R_iload_n dX10_laysCounts_67 rfl ?_
        refine R_iconst (v := nI 1) dX10_laysCounts_68 (by decide) ?_
        refine R_isub dX10_laysCounts_69 ?_
        refine R_icmp_ne (tgt := 76) dX10_laysCounts_70 (by decide) (fun c70 => ?_) (fun c70 => ?_)
        -- X10_laysCounts: ('branch', 70, 76, 73)
        · rcases dec with ⟨d1, d2⟩ | ⟨d1, d2⟩
          · exact absurd d1 c70
          · exact take d2
        · rcases dec with ⟨d1, d2⟩ | ⟨d1, d2⟩
          · refine R_goto (tgt := 110) dX10_laysCounts_73 (by decide) ?_
            -- X10_laysCounts: ('stop', 110)
            exact skip d2
          · exact absurd c70 d1
  have loop1 : ∀ m t h2 S2, t + m = 7396 → MdAt E h2 M S2 → Ony [20, 21] [] S S2 → (∀ p, p < t → S2.2 20 p = nI 0 ∧ S2.2 21 p = -2) → Out h h2 M (M + 23) → WP E k_X10_laysCounts 2 0 0 2 [some (.ref M), some (.int (nI t)), none, none] [] h2 (fun v h' => v = some (.int (nI (unlS q.1))) ∧ Out h h' M (M + 23) ∧ ∃ S', MdAt E h' M S' ∧ Ony [20, 21] [] S S' ∧ CntAt S' q.1) := by
    intro m
    induction m with
    | zero =>
      intro t h2 S2 ht x2 o2 k2 g2
      refine R_iload_n dX10_laysCounts_2 rfl ?_
      refine R_sipush (v := nI 7396) dX10_laysCounts_3 (by decide) ?_
      refine R_icmp_ge_N (tgt := 30) dX10_laysCounts_6 (by decide) (by omega) (by omega) (fun c6 => ?_) (fun c6 => ?_)
      -- X10_laysCounts: ('branch', 6, 30, 9)
      · refine R_iconst (v := nI 0) dX10_laysCounts_30 (by decide) ?_
        refine R_istore1 dX10_laysCounts_31 (by decide) ?_
        refine R_iconst (v := nI 0) dX10_laysCounts_32 (by decide) ?_
        refine R_istore2 dX10_laysCounts_33 (by decide) ?_
        -- X10_laysCounts: ('stop', 34)
        exact loop2 q.1.length 0 0 h2 S2 none (by omega) (by omega) (cntB_zero (fun p _ => decide_eq_false (by rw [pci, cntB]; omega))).symm x2 o2 (fun p hp => (k2 p (by omega)).1) (fun p hp => Or.inr ⟨(k2 p (by omega)).2, fun j hj => absurd hj (by omega)⟩) g2
      · exact absurd c6 (by omega)
    | succ m ih =>
      intro t h2 S2 ht x2 o2 k2 g2
      refine R_iload_n dX10_laysCounts_2 rfl ?_
      refine R_sipush (v := nI 7396) dX10_laysCounts_3 (by decide) ?_
      refine R_icmp_ge_N (tgt := 30) dX10_laysCounts_6 (by decide) (by omega) (by omega) (fun c6 => ?_) (fun c6 => ?_)
      -- X10_laysCounts: ('branch', 6, 30, 9)
      · exact absurd c6 (by omega)
      · refine R_aload_n dX10_laysCounts_9 rfl ?_
        refine R_get K_10 (f := 31) (by decide) dX10_laysCounts_10 f_RX10_76 x2.1 rfl ?_
        refine R_iload_n dX10_laysCounts_13 rfl ?_
        refine R_iconst (v := nI 0) dX10_laysCounts_14 (by decide) ?_
        refine R_iastore_N dX10_laysCounts_15 x2.a20 (by omega) (by omega) ?_
        -- X10_laysCounts: ('put', 16)
        intro h3 u3
        have x3 := x2.s20 u3
        refine R_aload_n dX10_laysCounts_16 rfl ?_
        refine R_get K_10 (f := 32) (by decide) dX10_laysCounts_17 f_RX10_79 x3.1 rfl ?_
        refine R_iload_n dX10_laysCounts_20 rfl ?_
        refine R_bipush (v := (-2)) dX10_laysCounts_21 (by decide) ?_
        refine R_iastore_N dX10_laysCounts_23 x3.a21 (by omega) (by omega) ?_
        -- X10_laysCounts: ('put', 24)
        intro h4 u4
        have x4 := x3.s21 u4
        refine R_iinc1 dX10_laysCounts_24 (by decide) (nI_inc _ 1) ?_
        refine R_goto (tgt := 2) dX10_laysCounts_27 (by decide) ?_
        -- X10_laysCounts: ('stop', 2)
        refine ih (t + 1) h4 _ (by omega) x4 ((o2.st (by decide)).st (by decide)) (fun p hp => ?_) ((g2.trans (Out.upd u3 (by omega) (by omega))).trans (Out.upd u4 (by omega) (by omega)))
        show upd (S2.2 20) t (nI 0) p = _ ∧ upd (S2.2 21) t (-2) p = _
        by_cases e : p = t
        · rw [e, upd_at, upd_at]; exact ⟨rfl, rfl⟩
        · rw [upd_ne e, upd_ne e]; exact k2 p (by omega)
  refine R_iconst (v := nI 0) dX10_laysCounts_0 (by decide) ?_
  refine R_istore1 dX10_laysCounts_1 (by decide) ?_
  -- X10_laysCounts: ('stop', 2)
  exact loop1 7396 0 h S (by omega) x Ony.refl (fun p hp => absurd hp (by omega)) Out.refl
theorem pcf_le {l : List Nat} {p : Nat} : pcf l p ≤ l.length := cntG_le
theorem Md_picked (x : MdAt E h M S) (c : curF (S.2 1) q) (h86 : ∀ y ∈ q.1, y < 86) : Spec E k_X10_picked 3 0 0 [.ref M] h (fun v h' => v = some (.int (oI 0 (pickS q.1))) ∧ Out h h' M (M + 23) ∧ ∃ S', MdAt E h' M S' ∧ Ony [20, 21] [] S S') := by
  have hl := c.1
  refine Spec.of (by decide +kernel) (by simp [Value.category]) (Nat.le_of_ble_eq_true rfl) ?_
  show WP E k_X10_picked 3 0 0 0 [some (.ref M), none, none, none] [] h _
  refine R_aload_n dX10_picked_0 rfl ?_
  -- X10_picked: ('call', 1, '.invokevirtual', 236)
  refine R_callV v_X10_laysCounts (Md_laysCounts x c h86) dX10_picked_1 l_RX10_236 rfl rfl x.1 (Nat.le_of_ble_eq_true rfl) (by omega) rfl rfl (fun v h2 hq => ?_)
  obtain ⟨rfl, g2, S2, x2, o2, k2⟩ := hq
  rw [pickS]
  have loop : ∀ m t, t + m = 7396 → WP E k_X10_picked 3 0 0 9 [some (.ref M), some (.int (nI (unlS q.1))), some (.int (oI 0 (pkF (pcf q.1) t))), some (.int (nI t))] [] h2 (fun v h' => v = some (.int (oI 0 (pkF (pcf q.1) 7396))) ∧ Out h h' M (M + 23) ∧ ∃ S', MdAt E h' M S' ∧ Ony [20, 21] [] S S') := by
    intro m
    induction m with
    | zero =>
      intro t ht
      have ht : t = 7396 := by omega
      refine R_iload_n dX10_picked_9 rfl ?_
      refine R_sipush (v := nI 7396) dX10_picked_10 (by decide) ?_
      refine R_icmp_ge_N (tgt := 54) dX10_picked_13 (by decide) (by omega) (by omega) (fun c13 => ?_) (fun c13 => ?_)
      -- X10_picked: ('branch', 13, 54, 16)
      · refine R_iload_n dX10_picked_54 rfl ?_
        refine R_ireturn dX10_picked_55 rfl rfl ?_
        -- X10_picked: ('ret', 55)
        exact ⟨by rw [ht], g2, S2, x2, o2⟩
      · exact absurd c13 (by omega)
    | succ m ih =>
      intro t ht
      have kt := k2 t (by omega)
      have ct := pcf_le (l := q.1) (p := t)
      have ih := ih (t + 1) (by omega)
      have hrk := pkF_rank (cf := pcf q.1) t _ rfl
      rw [pkF] at ih
      refine R_iload_n dX10_picked_9 rfl ?_
      refine R_sipush (v := nI 7396) dX10_picked_10 (by decide) ?_
      refine R_icmp_ge_N (tgt := 54) dX10_picked_13 (by decide) (by omega) (by omega) (fun c13 => ?_) (fun c13 => ?_)
      -- X10_picked: ('branch', 13, 54, 16)
      · exact absurd c13 (by omega)
      · refine R_aload_n dX10_picked_16 rfl ?_
        refine R_get K_10 (f := 31) (by decide) dX10_picked_17 f_RX10_76 x2.1 rfl ?_
        refine R_iload_n dX10_picked_20 rfl ?_
        refine R_iaload_N dX10_picked_21 x2.a20 (by omega) (by omega) kt ?_
        refine R_iconst (v := nI 1) dX10_picked_22 (by decide) ?_
        refine R_icmp_le_N (tgt := 48) dX10_picked_23 (by decide) (by omega) (by omega) (fun c23 => ?_) (fun c23 => ?_)
        -- X10_picked: ('branch', 23, 48, 26)
        · rw [if_neg (by omega)] at ih
          cases hb : pkF (pcf q.1) t with
          | none =>
            rw [hb] at ih
            refine R_iinc3 dX10_picked_48 (by decide) (nI_inc _ 1) ?_
            refine R_goto (tgt := 9) dX10_picked_51 (by decide) ?_
            -- X10_picked: ('stop', 9)
            exact ih
          | some b =>
            rw [hb, Option.elim_some, if_neg (fun z => absurd z.1 (by omega))] at ih
            refine R_iinc3 dX10_picked_48 (by decide) (nI_inc _ 1) ?_
            refine R_goto (tgt := 9) dX10_picked_51 (by decide) ?_
            -- X10_picked: ('stop', 9)
            exact ih
        · rw [if_pos (by omega)] at ih
          cases hb : pkF (pcf q.1) t with
          | none =>
            rw [hb, Option.elim_none] at ih
            rw [show oI 0 (some t) = nI t from by rw [oI, Nat.zero_add]] at ih
            refine R_iload_n dX10_picked_26 rfl ?_
            refine R_iconst (v := (-1)) dX10_picked_27 (by decide) ?_
            refine R_icmp_eq (tgt := 46) dX10_picked_28 (by decide) (fun c28 => ?_) (fun c28 => ?_)
            -- X10_picked: ('branch', 28, 46, 31)
            · refine R_iload_n dX10_picked_46 rfl ?_
              refine R_istore2 dX10_picked_47 (by decide) ?_
              refine R_iinc3 dX10_picked_48 (by decide) (nI_inc _ 1) ?_
              refine R_goto (tgt := 9) dX10_picked_51 (by decide) ?_
              -- X10_picked: ('stop', 9)
              exact ih
            · exact absurd rfl c28
          | some b =>
            have hbt := (hrk.2 b hb).1
            have kb := k2 b (by omega)
            have cb := pcf_le (l := q.1) (p := b)
            rw [hb, Option.elim_some] at ih
            rw [show oI 0 (some b) = nI b from by rw [oI, Nat.zero_add]]
            refine R_iload_n dX10_picked_26 rfl ?_
            refine R_iconst (v := (-1)) dX10_picked_27 (by decide) ?_
            refine R_icmp_eq (tgt := 46) dX10_picked_28 (by decide) (fun c28 => ?_) (fun c28 => ?_)
            -- X10_picked: ('branch', 28, 46, 31)
            · exact absurd c28 (nI_ne_m1 (n := b) (by omega))
            · refine R_aload_n dX10_picked_31 rfl ?_
              refine R_get K_10 (f := 31) (by decide) dX10_picked_32 f_RX10_76 x2.1 rfl ?_
              refine R_iload_n dX10_picked_35 rfl ?_
              refine R_iaload_N dX10_picked_36 x2.a20 (by omega) (by omega) kt ?_
              refine R_aload_n dX10_picked_37 rfl ?_
              refine R_get K_10 (f := 31) (by decide) dX10_picked_38 f_RX10_76 x2.1 rfl ?_
              refine R_iload_n dX10_picked_41 rfl ?_
              refine R_iaload_N dX10_picked_42 x2.a20 (by omega) (by omega) kb ?_
              refine R_icmp_le_N (tgt := 48) dX10_picked_43 (by decide) (by omega) (by omega) (fun c43 => ?_) (fun c43 => ?_)
              -- X10_picked: ('branch', 43, 48, 46)
              · rw [if_neg (fun z => absurd z.2 (by omega)), show oI 0 (some b) = nI b from by rw [oI, Nat.zero_add]] at ih
                refine R_iinc3 dX10_picked_48 (by decide) (nI_inc _ 1) ?_
                refine R_goto (tgt := 9) dX10_picked_51 (by decide) ?_
                -- X10_picked: ('stop', 9)
                exact ih
              · rw [if_pos ⟨by omega, c43⟩, show oI 0 (some t) = nI t from by rw [oI, Nat.zero_add]] at ih
                refine R_iload_n dX10_picked_46 rfl ?_
                refine R_istore2 dX10_picked_47 (by decide) ?_
                refine R_iinc3 dX10_picked_48 (by decide) (nI_inc _ 1) ?_
                refine R_goto (tgt := 9) dX10_picked_51 (by decide) ?_
                -- X10_picked: ('stop', 9)
                exact ih
  refine R_istore1 dX10_picked_4 (by decide) ?_
  refine R_iconst (v := (-1)) dX10_picked_5 (by decide) ?_
  refine R_istore2 dX10_picked_6 (by decide) ?_
  refine R_iconst (v := nI 0) dX10_picked_7 (by decide) ?_
  refine R_istore3 dX10_picked_8 (by decide) ?_
  -- X10_picked: ('stop', 9)
  exact loop 7396 0 (by omega)
end MD6
