/-! THE MODEL: rules dropped, all unpacked -/
section MD8
variable {E : EnvT} {h h1 : Hp} {M : Nat} {S : MSt} {q : Pk} {ds : List Pk} {im : Nat → Pk} {md : Nat → Nat} {tp ph : List Nat} {fk fp : Int32}
theorem sub_pre {s : Nat} {bl l : List Nat} (t : Nat) : (sub s bl (l.take t)).length ≤ (sub s bl l).length := by
  have e := congrArg (fun z => (sub s bl z).length) (List.take_append_drop t l)
  simp only [sub_app, List.length_append] at e
  omega
theorem Md_puts (x : MdAt E h M S) (c : curF (S.2 1) q) (hr86 : ∀ i, i < 60 → ∀ y ∈ q.2 i, y < 86) {s fr : Nat} (hs : s < 86) {l : List Nat} (hl : ∀ j y, l[j]? = some y → S.2 1 (fr + j) = nI y ∧ y < 86) (hfr : fr + 240 ≤ 3063) (hb : l.length ≤ 240) (hsub : (sub s (rowOf q.2 s) l).length ≤ 240) : Spec E k_X10_puts 4 0 0 [.ref M, .int (nI fr), .int (nI l.length), .int (nI s)] h (fun v h' => v = some (.int (nI (sub s (rowOf q.2 s) l).length)) ∧ Out h h' M (M + 23) ∧ ∃ S', MdAt E h' M S' ∧ Ony [1, 22] [] S S' ∧ (∀ j y, (sub s (rowOf q.2 s) l)[j]? = some y → S'.2 1 (fr + j) = nI y) ∧ ∀ k, (k < fr ∨ fr + (sub s (rowOf q.2 s) l).length ≤ k) → S'.2 1 k = S.2 1 k) := by
  have hrow12 : (rowOf q.2 s).length ≤ 12 := by
    rw [rowOf]
    split
    · exact (c.2.2.2 (s - 26) (by omega)).1
    · decide
  have hr86s : ∀ y ∈ rowOf q.2 s, y < 86 := by
    intro y hy
    rw [rowOf] at hy
    split at hy
    · exact hr86 (s - 26) (by omega) y hy
    · simp at hy
  refine Spec.of (by decide +kernel) (by simp [Value.category]) (Nat.le_of_ble_eq_true rfl) ?_
  show WP E k_X10_puts 4 0 0 0 [some (.ref M), some (.int (nI fr)), some (.int (nI l.length)), some (.int (nI s)), none, none, none] [] h _
  have loop : ∀ m t (K : List Nat) h2 S2 (z : Option Value), t + m = l.length → K = sub s (rowOf q.2 s) (l.take t) → MdAt E h2 M S2 → Ony [22] [] S S2 → (∀ j y, K[j]? = some y → S2.2 22 j = nI y) → Out h h2 M (M + 23) → WP E k_X10_puts 4 0 0 6 [some (.ref M), some (.int (nI fr)), some (.int (nI l.length)), some (.int (nI s)), some (.int (nI K.length)), some (.int (nI t)), z] [] h2 (fun v h' => v = some (.int (nI (sub s (rowOf q.2 s) l).length)) ∧ Out h h' M (M + 23) ∧ ∃ S', MdAt E h' M S' ∧ Ony [1, 22] [] S S' ∧ (∀ j y, (sub s (rowOf q.2 s) l)[j]? = some y → S'.2 1 (fr + j) = nI y) ∧ ∀ k, (k < fr ∨ fr + (sub s (rowOf q.2 s) l).length ≤ k) → S'.2 1 k = S.2 1 k) := by
    intro m
    induction m with
    | zero =>
      intro t K h2 S2 z ht hK x2 o2 eK g2
      rw [List.take_of_length_le (by omega)] at hK
      subst hK
      refine R_iload dX10_puts_6 rfl ?_
      refine R_iload_n dX10_puts_8 rfl ?_
      refine R_icmp_ge_N (tgt := 89) dX10_puts_9 (by decide) (by omega) (by omega) (fun c9 => ?_) (fun c9 => ?_)
      -- X10_puts: ('branch', 9, 89, 12)
      · refine R_aload_n dX10_puts_89 rfl ?_
        refine R_get K_10 (f := 33) (by decide) dX10_puts_90 f_RX10_82 x2.1 rfl ?_
        refine R_iconst (v := nI 0) dX10_puts_93 (by decide) ?_
        refine R_aload_n dX10_puts_94 rfl ?_
        refine R_get K_10 (f := 1) (by decide) dX10_puts_95 f_RX10_13 x2.1 rfl ?_
        refine R_iload_n dX10_puts_98 rfl ?_
        refine R_iload dX10_puts_99 rfl ?_
        -- X10_puts: ('call', 101, '.invokestatic', 88)
        refine R_callS s_X10_copies (Md_copies (sp := 0) (dp := fr) (n := (sub s (rowOf q.2 s) l).length) x2.a22 x2.a1 (by omega) (by omega) (by omega) (by decide) (by decide)) dX10_puts_101 l_RX10_88 rfl rfl (Nat.le_of_ble_eq_true rfl) (by omega) rfl rfl (fun v h3 hq => ?_)
        obtain ⟨rfl, u3⟩ := hq
        have x3 := x2.s1 u3
        refine R_iload dX10_puts_104 rfl ?_
        refine R_ireturn dX10_puts_106 rfl rfl ?_
        -- X10_puts: ('ret', 106)
        refine ⟨rfl, g2.trans (Out.upd u3 (by omega) (by omega)), _, x3, (o2.mono (by decide) (by decide)).st (by decide), fun j y hy => ?_, fun k hk => ?_⟩
        · have hj := (List.getElem?_eq_some_iff.mp hy).1
          show va_cpy (S2.2 22) (S2.2 1) 0 fr _ (fr + j) = nI y
          rw [pk_cpy_in (by omega) (by omega), show 0 + (fr + j - fr) = j by omega]
          exact eK j y hy
        · show va_cpy (S2.2 22) (S2.2 1) 0 fr _ k = S.2 1 k
          rw [pk_cpy_out hk, o2.1 1 (by decide)]
      · exact absurd c9 (by omega)
    | succ m ih =>
      intro t K h2 S2 z ht hK x2 o2 eK g2
      obtain ⟨y, hy⟩ := getE (l := l) (i := t) (by omega)
      obtain ⟨ey, hy86⟩ := hl t y hy
      have ey2 : S2.2 1 (fr + t) = nI y := by rw [o2.1 1 (by decide)]; exact ey
      have hsn : sub s (rowOf q.2 s) (l.take (t + 1)) = K ++ (if y = s then rowOf q.2 s else [y]) := by
        rw [take_snoc hy, sub_app, ← hK, sub_cons, sub_nil, List.append_nil]
      have hp1 := sub_pre (s := s) (bl := rowOf q.2 s) (l := l) (t + 1)
      rw [hsn, List.length_append] at hp1
      refine R_iload dX10_puts_6 rfl ?_
      refine R_iload_n dX10_puts_8 rfl ?_
      refine R_icmp_ge_N (tgt := 89) dX10_puts_9 (by decide) (by omega) (by omega) (fun c9 => ?_) (fun c9 => ?_)
      -- X10_puts: ('branch', 9, 89, 12)
      · exact absurd c9 (by omega)
      · refine R_aload_n dX10_puts_12 rfl ?_
        refine R_get K_10 (f := 1) (by decide) dX10_puts_13 f_RX10_13 x2.1 rfl ?_
        refine R_iload_n dX10_puts_16 rfl ?_
        refine R_iload dX10_puts_17 rfl ?_
        refine R_iadd_N dX10_puts_19 ?_
        refine R_iaload_N dX10_puts_20 x2.a1 (by omega) (by omega) ey2 ?_
        refine R_iload_n dX10_puts_21 rfl ?_
        refine R_icmp_eq_N (tgt := 47) dX10_puts_22 (by decide) (by omega) (by omega) (fun c22 => ?_) (fun c22 => ?_)
        -- X10_puts: ('branch', 22, 47, 25)
        · rw [if_pos c22] at hsn hp1
          have inner : ∀ m2 j h3 S3, j + m2 = (rowOf q.2 s).length → MdAt E h3 M S3 → Ony [22] [] S S3 → (∀ a b, (K ++ (rowOf q.2 s).take j)[a]? = some b → S3.2 22 a = nI b) → Out h h3 M (M + 23) → WP E k_X10_puts 4 0 0 50 [some (.ref M), some (.int (nI fr)), some (.int (nI l.length)), some (.int (nI s)), some (.int (nI (K.length + j))), some (.int (nI t)), some (.int (nI j))] [] h3 (fun v h' => v = some (.int (nI (sub s (rowOf q.2 s) l).length)) ∧ Out h h' M (M + 23) ∧ ∃ S', MdAt E h' M S' ∧ Ony [1, 22] [] S S' ∧ (∀ j y, (sub s (rowOf q.2 s) l)[j]? = some y → S'.2 1 (fr + j) = nI y) ∧ ∀ k, (k < fr ∨ fr + (sub s (rowOf q.2 s) l).length ≤ k) → S'.2 1 k = S.2 1 k) := by
            intro m2
            induction m2 with
            | zero =>
              intro j h3 S3 hj x3 o3 e3 g3
              have c3 : curF (S3.2 1) q := by rw [o3.a1 (by decide)]; exact c
              rw [List.take_of_length_le (by omega)] at e3
              refine R_iload dX10_puts_50 rfl ?_
              refine R_aload_n dX10_puts_52 rfl ?_
              refine R_iload_n dX10_puts_53 rfl ?_
              -- X10_puts: ('call', 54, '.invokevirtual', 106)
              refine R_callV v_X10_rowLong (Md_rowLong x3 c3 hs) dX10_puts_54 l_RX10_106 rfl rfl x3.1 (Nat.le_of_ble_eq_true rfl) (by omega) rfl rfl (fun v h4 hq => ?_)
              obtain ⟨rfl, e9⟩ := hq
              rw [e9]
              refine R_icmp_ge_N (tgt := 83) dX10_puts_57 (by decide) (by omega) (by omega) (fun c57 => ?_) (fun c57 => ?_)
              -- X10_puts: ('branch', 57, 83, 60)
              · refine R_iinc5 dX10_puts_83 (by decide) (nI_inc _ 1) ?_
                refine R_goto (tgt := 6) dX10_puts_86 (by decide) ?_
                -- X10_puts: ('stop', 6)
                have := ih (t + 1) (K ++ rowOf q.2 s) h3 S3 (some (.int (nI j))) (by omega) hsn.symm x3 o3 e3 g3
                rw [List.length_append] at this
                rw [show j = (rowOf q.2 s).length by omega] at this ⊢
                exact this
              · exact absurd c57 (by omega)
            | succ m2 ih2 =>
              intro j h3 S3 hj x3 o3 e3 g3
              have c3 : curF (S3.2 1) q := by rw [o3.a1 (by decide)]; exact c
              obtain ⟨w, hw⟩ := getE (l := rowOf q.2 s) (i := j) (by omega)
              have hw86 := hr86s w (List.mem_of_getElem? hw)
              refine R_iload dX10_puts_50 rfl ?_
              refine R_aload_n dX10_puts_52 rfl ?_
              refine R_iload_n dX10_puts_53 rfl ?_
              -- X10_puts: ('call', 54, '.invokevirtual', 106)
              refine R_callV v_X10_rowLong (Md_rowLong x3 c3 hs) dX10_puts_54 l_RX10_106 rfl rfl x3.1 (Nat.le_of_ble_eq_true rfl) (by omega) rfl rfl (fun v h4 hq => ?_)
              obtain ⟨rfl, e9⟩ := hq
              rw [e9]
              refine R_icmp_ge_N (tgt := 83) dX10_puts_57 (by decide) (by omega) (by omega) (fun c57 => ?_) (fun c57 => ?_)
              -- X10_puts: ('branch', 57, 83, 60)
              · exact absurd c57 (by omega)
              · refine R_aload_n dX10_puts_60 rfl ?_
                refine R_get K_10 (f := 33) (by decide) dX10_puts_61 f_RX10_82 x3.1 rfl ?_
                refine R_iload dX10_puts_64 rfl ?_
                refine R_aload_n dX10_puts_66 rfl ?_
                refine R_iload_n dX10_puts_67 rfl ?_
                refine R_iload dX10_puts_68 rfl ?_
                -- X10_puts: ('call', 70, '.invokevirtual', 113)
                refine R_callV v_X10_inRow (Md_inRow x3 c3 hs hw) dX10_puts_70 l_RX10_113 rfl rfl x3.1 (Nat.le_of_ble_eq_true rfl) (by omega) rfl rfl (fun v h5 hq => ?_)
                obtain ⟨rfl, e9⟩ := hq
                rw [e9]
                refine R_iastore_N dX10_puts_73 x3.a22 (by omega) (by omega) ?_
                -- X10_puts: ('put', 74)
                intro h6 u6
                have x6 := x3.s22 u6
                refine R_iinc4 dX10_puts_74 (by decide) (nI_inc _ 1) ?_
                refine R_iinc6 dX10_puts_77 (by decide) (nI_inc _ 1) ?_
                refine R_goto (tgt := 50) dX10_puts_80 (by decide) ?_
                -- X10_puts: ('stop', 50)
                rw [show K.length + j + 1 = K.length + (j + 1) by omega]
                refine ih2 (j + 1) h6 _ (by omega) x6 (o3.st (by decide)) (fun a b hab => ?_) (g3.trans (Out.upd u6 (by omega) (by omega)))
                show upd (S3.2 22) (K.length + j) (nI w) a = nI b
                rw [take_snoc hw, ← List.append_assoc] at hab
                have hlen : (K ++ (rowOf q.2 s).take j).length = K.length + j := by rw [List.length_append, List.length_take]; omega
                rcases snoc_get hab with ⟨z1, z2⟩ | ⟨z1, z2⟩
                · rw [upd_ne (by omega)]; exact e3 a b z2
                · rw [z1, z2, hlen, upd_at]
          refine R_iconst (v := nI 0) dX10_puts_47 (by decide) ?_
          refine R_istore6 dX10_puts_48 (by decide) ?_
          -- X10_puts: ('stop', 50)
          exact inner (rowOf q.2 s).length 0 h2 S2 (by omega) x2 o2 (by rw [List.take_zero, List.append_nil]; exact eK) g2
        · rw [if_neg c22] at hsn hp1
          rw [List.length_singleton] at hp1
          refine R_aload_n dX10_puts_25 rfl ?_
          refine R_get K_10 (f := 33) (by decide) dX10_puts_26 f_RX10_82 x2.1 rfl ?_
          refine R_iload dX10_puts_29 rfl ?_
          refine R_aload_n dX10_puts_31 rfl ?_
          refine R_get K_10 (f := 1) (by decide) dX10_puts_32 f_RX10_13 x2.1 rfl ?_
          refine R_iload_n dX10_puts_35 rfl ?_
          refine R_iload dX10_puts_36 rfl ?_
          refine R_iadd_N dX10_puts_38 ?_
          refine R_iaload_N dX10_puts_39 x2.a1 (by omega) (by omega) ey2 ?_
          refine R_iastore_N dX10_puts_40 x2.a22 (by omega) (by omega) ?_
          -- X10_puts: ('put', 41)
          intro h6 u6
          have x6 := x2.s22 u6
          refine R_iinc4 dX10_puts_41 (by decide) (nI_inc _ 1) ?_
          refine R_goto (tgt := 83) dX10_puts_44 (by decide) ?_
          refine R_iinc5 dX10_puts_83 (by decide) (nI_inc _ 1) ?_
          refine R_goto (tgt := 6) dX10_puts_86 (by decide) ?_
          -- X10_puts: ('stop', 6)
          rw [show K.length + 1 = (K ++ [y]).length by rw [List.length_append]; rfl]
          refine ih (t + 1) (K ++ [y]) h6 _ z (by omega) hsn.symm x6 (o2.st (by decide)) (fun a b hab => ?_) (g2.trans (Out.upd u6 (by omega) (by omega)))
          show upd (S2.2 22) K.length (nI y) a = nI b
          rcases snoc_get hab with ⟨z1, z2⟩ | ⟨z1, z2⟩
          · rw [upd_ne (by omega)]; exact eK a b z2
          · rw [z1, z2, upd_at]
  refine R_iconst (v := nI 0) dX10_puts_0 (by decide) ?_
  refine R_istore4 dX10_puts_1 (by decide) ?_
  refine R_iconst (v := nI 0) dX10_puts_3 (by decide) ?_
  refine R_istore5 dX10_puts_4 (by decide) ?_
  -- X10_puts: ('stop', 6)
  exact loop l.length 0 [] h S none (by omega) (by rw [List.take_zero, sub_nil]) x Ony.refl (fun j y hy => by simp at hy) Out.refl
/-- the rules while one is given up, those below t done -/
def rulT (ru : Ru) (s t : Nat) : Ru := fun r => if r < t ∧ r ≠ s - 26 then sub s (rowOf ru s) (ru r) else ru r
theorem rulT_0 {ru : Ru} {s : Nat} : rulT ru s 0 = ru := by
  funext r
  exact if_neg (fun z => absurd z.1 (by omega))
theorem rulT_step {ru : Ru} {s t : Nat} (h : t ≠ s - 26) : rulT ru s (t + 1) = ruSet (rulT ru s t) t (sub s (rowOf ru s) (ru t)) := by
  funext r
  show (if r < t + 1 ∧ r ≠ s - 26 then _ else ru r) = if r = t then _ else (if r < t ∧ r ≠ s - 26 then _ else ru r)
  by_cases e : r = t
  · subst e
    rw [if_pos ⟨by omega, h⟩, if_pos rfl]
  · rw [if_neg e]
    exact if_iff (by omega)
theorem rulT_skip {ru : Ru} {s t : Nat} (h : t = s - 26 ∨ sub s (rowOf ru s) (ru t) = ru t) : rulT ru s (t + 1) = rulT ru s t := by
  funext r
  show (if r < t + 1 ∧ r ≠ s - 26 then _ else ru r) = (if r < t ∧ r ≠ s - 26 then _ else ru r)
  by_cases e : r = t
  · subst e
    rcases h with z | z
    · rw [if_neg (by omega), if_neg (by omega)]
    · rw [if_neg (show ¬ (r < r ∧ r ≠ s - 26) by omega)]
      split
      · exact z
      · rfl
  · exact if_iff (by omega)
theorem rulT_at {ru : Ru} {s t r : Nat} (h : t ≤ r) : rulT ru s t r = ru r := if_neg (fun z => absurd z.1 (by omega))
theorem rulT_self {ru : Ru} {s t : Nat} : rulT ru s t (s - 26) = ru (s - 26) := if_neg (fun z => z.2 rfl)
theorem Md_drops (x : MdAt E h M S) (c : curF (S.2 1) q) (hq : PkOk q) {s : Nat} (hs : isRul q.2 s) (hg : canGo q.2 s) : Spec E k_X10_drops 5 0 0 [.ref M, .int (nI s)] h (fun v h' => v = none ∧ Out h h' M (M + 23) ∧ ∃ S', MdAt E h' M S' ∧ Ony [1, 22] [] S S' ∧ curF (S'.2 1) (drP q s) ∧ ∀ k, 1021 ≤ k → S'.2 1 k = S.2 1 k) := by
  have h26 := hs.1
  have h86 := hs.2.1
  have hl := c.1
  have hdl := hq.dropLen hs
  have hro : rowOf q.2 s = q.2 (s - 26) := rowOf_in ⟨h26, h86⟩
  have hl1 : 1 ≤ (q.2 (s - 26)).length := by
    cases hb : q.2 (s - 26) with
    | nil => exact absurd hb hs.2.2
    | cons y t => simp
  have rr : ∀ t, rowOf (rulT q.2 s t) s = rowOf q.2 s := fun t => by rw [rowOf_in ⟨h26, h86⟩, rulT_self, hro]
  have t86 : ∀ t i, i < 60 → ∀ y ∈ rulT q.2 s t i, y < 86 := by
    intro t i hi y hy
    by_cases z : i < t ∧ i ≠ s - 26
    · rw [show rulT q.2 s t i = sub s (rowOf q.2 s) (q.2 i) from if_pos z] at hy
      rcases mem_sub hy with w | w
      · rw [hro] at w; exact hq.r86 _ (by omega) y w.2
      · exact hq.r86 i hi y w.1
    · rw [show rulT q.2 s t i = q.2 i from if_neg z] at hy
      exact hq.r86 i hi y hy
  have slen : ∀ r, r < 60 → (sub s (rowOf q.2 s) (q.2 r)).length ≤ 12 := by
    intro r hr
    have k1 := hg r hr
    have k2 := sub_count (s := s) (bl := rowOf q.2 s) (q.2 r)
    rw [hro] at k2 ⊢
    have e : (q.2 (s - 26)).length = ((q.2 (s - 26)).length - 1) + 1 := by omega
    rw [e, Nat.mul_add, Nat.mul_one] at k2
    omega
  refine Spec.of (by decide +kernel) (by simp [Value.category]) (Nat.le_of_ble_eq_true rfl) ?_
  show WP E k_X10_drops 5 0 0 0 [some (.ref M), some (.int (nI s)), none] [] h _
  have loop : ∀ m t h2 S2, t + m = 60 → MdAt E h2 M S2 → Ony [1, 22] [] S S2 → curF (S2.2 1) (sub s (rowOf q.2 s) q.1, rulT q.2 s t) → (∀ k, 1021 ≤ k → S2.2 1 k = S.2 1 k) → Out h h2 M (M + 23) → WP E k_X10_drops 5 0 0 19 [some (.ref M), some (.int (nI s)), some (.int (nI (26 + t)))] [] h2 (fun v h' => v = none ∧ Out h h' M (M + 23) ∧ ∃ S', MdAt E h' M S' ∧ Ony [1, 22] [] S S' ∧ curF (S'.2 1) (drP q s) ∧ ∀ k, 1021 ≤ k → S'.2 1 k = S.2 1 k) := by
    intro m
    induction m with
    | zero =>
      intro t h2 S2 ht x2 o2 c2 f2 g2
      obtain rfl : t = 60 := by omega
      refine R_iload_n dX10_drops_19 rfl ?_
      refine R_bipush (v := nI 86) dX10_drops_20 (by decide) ?_
      refine R_icmp_ge_N (tgt := 70) dX10_drops_22 (by decide) (by omega) (by omega) (fun c22 => ?_) (fun c22 => ?_)
      -- X10_drops: ('branch', 22, 70, 25)
      · refine R_aload_n dX10_drops_70 rfl ?_
        refine R_get K_10 (f := 1) (by decide) dX10_drops_71 f_RX10_13 x2.1 rfl ?_
        refine R_iload_n dX10_drops_74 rfl ?_
        -- X10_drops: ('call', 75, '.invokestatic', 92)
        refine R_callS s_X10_rowAt (Md_rowAt h26) dX10_drops_75 l_RX10_92 rfl rfl (Nat.le_of_ble_eq_true rfl) (by omega) rfl rfl (fun v h3 hq => ?_)
        obtain ⟨rfl, e9⟩ := hq
        rw [e9]
        refine R_iconst (v := nI 0) dX10_drops_78 (by decide) ?_
        refine R_iastore_N dX10_drops_79 x2.a1 (by omega) (by omega) ?_
        -- X10_drops: ('put', 80)
        intro h4 u4
        have x4 := x2.s1 u4
        refine R_return dX10_drops_80 rfl ?_
        -- X10_drops: ('ret', 80)
        refine ⟨rfl, g2.trans (Out.upd u4 (by omega) (by omega)), _, x4, o2.st (by decide), ?_, fun k hk => ?_⟩
        · have e : drP q s = (sub s (rowOf q.2 s) q.1, ruSet (rulT q.2 s 60) (s - 26) []) ∨ True := Or.inr trivial
          have key := c2.setRow (g := upd (S2.2 1) (241 + 13 * (s - 26)) (nI 0)) (i := s - 26) (l := []) (by omega) (by decide) (by rw [upd_at]; rfl) (fun j y hy => by simp at hy) (fun k hk1 hk2 => by rw [upd_ne (by omega)])
          show curF (upd (S2.2 1) (241 + 13 * (s - 26)) (nI 0)) (drP q s)
          obtain ⟨a1, a2, a3, a4⟩ := key
          refine ⟨a1, a2, a3, fun r hr => ?_⟩
          have er : (drP q s).2 r = ruSet (rulT q.2 s 60) (s - 26) [] r := by
            show dropRu q.2 s r = _
            by_cases e : r = s - 26
            · rw [e, dropRu_self, ruSet_at]
            · rw [dropRu_ne e, ruSet_ne e]
              exact (if_pos ⟨hr, e⟩).symm
          rw [er]
          exact a4 r hr
        · show upd (S2.2 1) (241 + 13 * (s - 26)) (nI 0) k = _
          rw [upd_ne (by omega)]; exact f2 k hk
      · exact absurd c22 (by omega)
    | succ m ih =>
      intro t h2 S2 ht x2 o2 c2 f2 g2
      have skip : (t = s - 26 ∨ sub s (rowOf q.2 s) (q.2 t) = q.2 t) → WP E k_X10_drops 5 0 0 64 [some (.ref M), some (.int (nI s)), some (.int (nI (26 + t)))] [] h2 (fun v h' => v = none ∧ Out h h' M (M + 23) ∧ ∃ S', MdAt E h' M S' ∧ Ony [1, 22] [] S S' ∧ curF (S'.2 1) (drP q s) ∧ ∀ k, 1021 ≤ k → S'.2 1 k = S.2 1 k) := by
        intro e
        refine R_iinc2 dX10_drops_64 (by decide) (nI_inc _ 1) ?_
        refine R_goto (tgt := 19) dX10_drops_67 (by decide) ?_
        -- X10_drops: ('stop', 19)
        rw [show 26 + t + 1 = 26 + (t + 1) by omega]
        exact ih (t + 1) h2 S2 (by omega) x2 o2 (by rw [rulT_skip e]; exact c2) f2 g2
      have hrt : rulT q.2 s t t = q.2 t := rulT_at (Nat.le_refl _)
      have hrow : (q.2 t).length ≤ 12 := (c.2.2.2 t (by omega)).1
      refine R_iload_n dX10_drops_19 rfl ?_
      refine R_bipush (v := nI 86) dX10_drops_20 (by decide) ?_
      refine R_icmp_ge_N (tgt := 70) dX10_drops_22 (by decide) (by omega) (by omega) (fun c22 => ?_) (fun c22 => ?_)
      -- X10_drops: ('branch', 22, 70, 25)
      · exact absurd c22 (by omega)
      · refine R_iload_n dX10_drops_25 rfl ?_
        refine R_iload_n dX10_drops_26 rfl ?_
        refine R_icmp_eq_N (tgt := 64) dX10_drops_27 (by decide) (by omega) (by omega) (fun c27 => ?_) (fun c27 => ?_)
        -- X10_drops: ('branch', 27, 64, 30)
        · exact skip (Or.inl (by omega))
        · have hne : t ≠ s - 26 := by omega
          refine R_aload_n dX10_drops_30 rfl ?_
          refine R_iload_n dX10_drops_31 rfl ?_
          refine R_iload_n dX10_drops_32 rfl ?_
          -- X10_drops: ('call', 33, '.invokevirtual', 252)
          refine R_callV v_X10_timesIn (Md_timesIn x2 c2 (t86 t) (i := t) (by omega) h86) dX10_drops_33 l_RX10_252 rfl rfl x2.1 (Nat.le_of_ble_eq_true rfl) (by omega) rfl rfl (fun v h3 hq => ?_)
          obtain ⟨rfl, e9⟩ := hq
          rw [e9, show (sub s (rowOf q.2 s) q.1, rulT q.2 s t).2 t = q.2 t from hrt]
          have hcb : (q.2 t).count s ≤ 12 := Nat.le_trans List.count_le_length hrow
          refine R_if_le_N (tgt := 64) dX10_drops_36 (by decide) (by omega) (fun c36 => ?_) (fun c36 => ?_)
          -- X10_drops: ('branch', 36, 64, 39)
          · exact skip (Or.inr (sub_none _ c36))
          · have hrw : 241 + 13 * (26 + t - 26) = 241 + 13 * t := by omega
            have hr2 : rowOf (rulT q.2 s t) (26 + t) = q.2 t := by rw [rowOf_in ⟨by omega, by omega⟩, show 26 + t - 26 = t by omega, hrt]
            refine R_aload_n dX10_drops_39 rfl ?_
            refine R_get K_10 (f := 1) (by decide) dX10_drops_40 f_RX10_13 x2.1 rfl ?_
            refine R_iload_n dX10_drops_43 rfl ?_
            -- X10_drops: ('call', 44, '.invokestatic', 92)
            refine R_callS s_X10_rowAt (Md_rowAt (s := 26 + t) (by omega)) dX10_drops_44 l_RX10_92 rfl rfl (Nat.le_of_ble_eq_true rfl) (by omega) rfl rfl (fun v h4 hq => ?_)
            obtain ⟨rfl, e9⟩ := hq
            rw [e9, hrw]
            refine R_aload_n dX10_drops_47 rfl ?_
            refine R_iload_n dX10_drops_48 rfl ?_
            -- X10_drops: ('call', 49, '.invokestatic', 92)
            refine R_callS s_X10_rowAt (Md_rowAt (s := 26 + t) (by omega)) dX10_drops_49 l_RX10_92 rfl rfl (Nat.le_of_ble_eq_true rfl) (by omega) rfl rfl (fun v h5 hq => ?_)
            obtain ⟨rfl, e9⟩ := hq
            rw [e9, hrw]
            refine R_iconst (v := nI 1) dX10_drops_52 (by decide) ?_
            refine R_iadd_N dX10_drops_53 ?_
            refine R_aload_n dX10_drops_54 rfl ?_
            refine R_iload_n dX10_drops_55 rfl ?_
            -- X10_drops: ('call', 56, '.invokevirtual', 106)
            refine R_callV v_X10_rowLong (Md_rowLong x2 c2 (s := 26 + t) (by omega)) dX10_drops_56 l_RX10_106 rfl rfl x2.1 (Nat.le_of_ble_eq_true rfl) (by omega) rfl rfl (fun v h6 hq => ?_)
            obtain ⟨rfl, e9⟩ := hq
            rw [e9, show rowOf (sub s (rowOf q.2 s) q.1, rulT q.2 s t).2 (26 + t) = q.2 t from hr2]
            have sl := slen t (by omega)
            refine R_iload_n dX10_drops_59 rfl ?_
            -- X10_drops: ('call', 60, '.invokevirtual', 255)
            refine R_callV v_X10_puts (Md_puts x2 c2 (t86 t) h86 (fr := 241 + 13 * t + 1) (l := q.2 t) (fun j y hy => ⟨by have := c2.rx (r := t) (i := j) (x := y) (by omega) (by rw [show (sub s (rowOf q.2 s) q.1, rulT q.2 s t).2 t = q.2 t from hrt]; exact hy); exact this, hq.r86 t (by omega) y (List.mem_of_getElem? hy)⟩) (by omega) (by omega) (by show (sub s (rowOf (rulT q.2 s t) s) (q.2 t)).length ≤ 240; rw [rr]; omega)) dX10_drops_60 l_RX10_255 rfl rfl x2.1 (Nat.le_of_ble_eq_true rfl) (by omega) rfl rfl (fun v h7 hq => ?_)
            rw [show rowOf (sub s (rowOf q.2 s) q.1, rulT q.2 s t).2 s = rowOf q.2 s from rr t] at hq
            obtain ⟨rfl, g7, S7, x7, o7, l7, f7⟩ := hq
            refine R_iastore_N dX10_drops_63 x7.a1 (by omega) (by omega) ?_
            -- X10_drops: ('put', 64)
            intro h8 u8
            have x8 := x7.s1 u8
            refine R_iinc2 dX10_drops_64 (by decide) (nI_inc _ 1) ?_
            refine R_goto (tgt := 19) dX10_drops_67 (by decide) ?_
            -- X10_drops: ('stop', 19)
            rw [show 26 + t + 1 = 26 + (t + 1) by omega]
            refine ih (t + 1) h8 _ (by omega) x8 ((o2.trans o7).st (by decide)) ?_ (fun k hk => ?_) ((g2.trans g7).trans (Out.upd u8 (by omega) (by omega)))
            · rw [rulT_step hne]
              refine c2.setRow (q := (sub s (rowOf q.2 s) q.1, rulT q.2 s t)) (i := t) (by omega) sl ?_ (fun j y hy => ?_) (fun k hk1 hk2 => ?_)
              · show upd (S7.2 1) (241 + 13 * t) _ (241 + 13 * t) = _
                rw [upd_at]
              · show upd (S7.2 1) (241 + 13 * t) _ (241 + 13 * t + 1 + j) = nI y
                rw [upd_ne (by omega)]; exact l7 j y hy
              · show upd (S7.2 1) (241 + 13 * t) _ k = S2.2 1 k
                rw [upd_ne (by omega)]; exact f7 k (by omega)
            · show upd (S7.2 1) (241 + 13 * t) _ k = S.2 1 k
              rw [upd_ne (by omega), f7 k (by omega)]; exact f2 k hk
  refine R_aload_n dX10_drops_0 rfl ?_
  refine R_get K_10 (f := 1) (by decide) dX10_drops_1 f_RX10_13 x.1 rfl ?_
  refine R_iconst (v := nI 0) dX10_drops_4 (by decide) ?_
  refine R_aload_n dX10_drops_5 rfl ?_
  refine R_iconst (v := nI 1) dX10_drops_6 (by decide) ?_
  refine R_aload_n dX10_drops_7 rfl ?_
  -- X10_drops: ('call', 8, '.invokevirtual', 123)
  refine R_callV v_X10_many (Md_many x c) dX10_drops_8 l_RX10_123 rfl rfl x.1 (Nat.le_of_ble_eq_true rfl) (by omega) rfl rfl (fun v h2 hq => ?_)
  obtain ⟨rfl, e9⟩ := hq
  rw [e9]
  refine R_iload_n dX10_drops_11 rfl ?_
  -- X10_drops: ('call', 12, '.invokevirtual', 255)
  refine R_callV v_X10_puts (Md_puts x c hq.r86 h86 (fr := 1) (l := q.1) (fun j y hy => ⟨c.sg hy, hq.h86 y (List.mem_of_getElem? hy)⟩) (by omega) hl hdl) dX10_drops_12 l_RX10_255 rfl rfl x.1 (Nat.le_of_ble_eq_true rfl) (by omega) rfl rfl (fun v h3 hq => ?_)
  obtain ⟨rfl, g3, S3, x3, o3, l3, f3⟩ := hq
  refine R_iastore_N dX10_drops_15 x3.a1 (by omega) (by omega) ?_
  -- X10_drops: ('put', 16)
  intro h4 u4
  have x4 := x3.s1 u4
  refine R_bipush (v := nI 26) dX10_drops_16 (by decide) ?_
  refine R_istore2 dX10_drops_18 (by decide) ?_
  -- X10_drops: ('stop', 19)
  refine loop 60 0 h4 _ (by omega) x4 (o3.st (by decide)) ?_ (fun k hk => ?_) (g3.trans (Out.upd u4 (by omega) (by omega)))
  · rw [rulT_0]
    refine c.setSeq (l := sub s (rowOf q.2 s) q.1) hdl ?_ (fun j y hy => ?_) (fun k hk1 hk2 => ?_)
    · exact upd_at (f := S3.2 1) (k := 0) (x := nI (sub s (rowOf q.2 s) q.1).length)
    · show upd (S3.2 1) 0 _ (1 + j) = nI y
      rw [upd_ne (by omega)]; exact l3 j y hy
    · show upd (S3.2 1) 0 _ k = _
      rw [upd_ne (by omega)]; exact f3 k (by omega)
  · show upd (S3.2 1) 0 _ k = _
    rw [upd_ne (by omega)]; exact f3 k (by omega)
theorem rl_sg {ru : Ru} {s : Int32} : (sgI ru s ∧ ¬ s < nI 26) ↔ rlI ru s := by
  constructor
  · rintro ⟨z, w⟩
    obtain ⟨n, rfl, hn, h86⟩ := sgI_get z
    rw [nI_ltI (by omega) (by decide)] at w
    rcases hn with u | u
    · exact absurd u w
    · exact (rlI_nI (by omega)).mpr u
  · intro z
    obtain ⟨n, rfl, hn⟩ := rlI_get z
    have := hn.1
    have := hn.2.1
    exact ⟨(sgI_nI (by omega)).mpr (Or.inr hn), by rw [nI_ltI (by omega) (by decide)]; omega⟩
theorem MP_drop_no (y : MMAt E h M q ds im md tp ph fk fp) {s : Int32} (hn : ¬ rlI q.2 s) : Spec E k_X10_drop 6 0 0 [.ref M, .int s] h (fun v h' => v = some (.int (-2)) ∧ MMAt E h' M q ds im md tp ph fk fp ∧ Out h h' M (M + 23)) := by
  obtain ⟨S, x, r⟩ := y
  refine Spec.of (by decide +kernel) (by simp [Value.category]) (Nat.le_of_ble_eq_true rfl) ?_
  show WP E k_X10_drop 6 0 0 0 [some (.ref M), some (.int s)] [] h _
  refine R_aload_n dX10_drop_0 rfl ?_
  refine R_iconst (v := nI 0) dX10_drop_1 (by decide) ?_
  refine R_put_A K_10 (f := 0) (by decide) dX10_drop_2 f_RX10_1 rfl x.1 (by rfl) (by rfl) (Nat.le_of_ble_eq_true rfl) ?_
  intro h0 u0
  have x0 := x.put u0 (by decide)
  have r0 := r.keep (S2 := (upd S.1 0 (nI 0), S.2)) (Ony.refl.put (by decide))
  have g0 : Out h h0 M (M + 23) := Out.upd u0 (by omega) (by omega)
  generalize (upd S.1 0 (nI 0), S.2) = S0 at x0 r0
  refine R_aload_n dX10_drop_5 rfl ?_
  refine R_iload_n dX10_drop_6 rfl ?_
  -- X10_drop: ('call', 7, '.invokevirtual', 210)
  refine R_callV v_X10_isSign (Md_isSign x0 r0.1 s) dX10_drop_7 l_RX10_210 rfl rfl x0.1 (Nat.le_of_ble_eq_true rfl) (by omega) rfl rfl (fun v h2 hq => ?_)
  obtain ⟨rfl, e9⟩ := hq
  rw [e9]
  by_cases ha : sgI q.2 s
  · rw [if_pos ha]
    refine R_if_eq_N (tgt := 19) dX10_drop_10 (by decide) (by omega) (fun c10 => ?_) (fun c10 => ?_)
    -- X10_drop: ('branch', 10, 19, 13)
    · exact absurd c10 (by decide)
    · refine R_iload_n dX10_drop_13 rfl ?_
      refine R_bipush (v := nI 26) dX10_drop_14 (by decide) ?_
      refine R_icmp_ge (tgt := 22) dX10_drop_16 (by decide) (fun c16 => ?_) (fun c16 => ?_)
      -- X10_drop: ('branch', 16, 22, 19)
      · exact absurd (rl_sg.mp ⟨ha, Int32.not_lt.mpr c16⟩) hn
      · refine R_bipush (v := (-2)) dX10_drop_19 (by decide) ?_
        refine R_ireturn dX10_drop_21 rfl rfl ?_
        -- X10_drop: ('ret', 21)
        exact ⟨rfl, ⟨S0, x0, r0⟩, g0⟩
  · rw [if_neg ha]
    refine R_if_eq_N (tgt := 19) dX10_drop_10 (by decide) (by omega) (fun c10 => ?_) (fun c10 => ?_)
    -- X10_drop: ('branch', 10, 19, 13)
    · refine R_bipush (v := (-2)) dX10_drop_19 (by decide) ?_
      refine R_ireturn dX10_drop_21 rfl rfl ?_
      -- X10_drop: ('ret', 21)
      exact ⟨rfl, ⟨S0, x0, r0⟩, g0⟩
    · exact absurd rfl c10
theorem MP_drop_cant (y : MMAt E h M q ds im md tp ph fk fp) (hq : PkOk q) {s : Nat} (hs : isRul q.2 s) (hg : ¬ canGo q.2 s) : Spec E k_X10_drop 6 0 0 [.ref M, .int (nI s)] h (fun v h' => v = some (.int (-5)) ∧ MMAt E h' M q ds im md tp ph fk fp ∧ Out h h' M (M + 23)) := by
  have h26 := hs.1
  have h86 := hs.2.1
  obtain ⟨S, x, r⟩ := y
  refine Spec.of (by decide +kernel) (by simp [Value.category]) (Nat.le_of_ble_eq_true rfl) ?_
  show WP E k_X10_drop 6 0 0 0 [some (.ref M), some (.int (nI s))] [] h _
  refine R_aload_n dX10_drop_0 rfl ?_
  refine R_iconst (v := nI 0) dX10_drop_1 (by decide) ?_
  refine R_put_A K_10 (f := 0) (by decide) dX10_drop_2 f_RX10_1 rfl x.1 (by rfl) (by rfl) (Nat.le_of_ble_eq_true rfl) ?_
  intro h0 u0
  have x0 := x.put u0 (by decide)
  have r0 := r.keep (S2 := (upd S.1 0 (nI 0), S.2)) (Ony.refl.put (by decide))
  have g0 : Out h h0 M (M + 23) := Out.upd u0 (by omega) (by omega)
  generalize (upd S.1 0 (nI 0), S.2) = S0 at x0 r0
  refine R_aload_n dX10_drop_5 rfl ?_
  refine R_iload_n dX10_drop_6 rfl ?_
  -- X10_drop: ('call', 7, '.invokevirtual', 210)
  refine R_callV v_X10_isSign (Md_isSign x0 r0.1 (nI s)) dX10_drop_7 l_RX10_210 rfl rfl x0.1 (Nat.le_of_ble_eq_true rfl) (by omega) rfl rfl (fun v h2 hq => ?_)
  obtain ⟨rfl, e9⟩ := hq
  rw [e9, if_pos ((sgI_nI (by omega)).mpr (Or.inr hs))]
  refine R_if_eq_N (tgt := 19) dX10_drop_10 (by decide) (by omega) (fun c10 => ?_) (fun c10 => ?_)
  -- X10_drop: ('branch', 10, 19, 13)
  · exact absurd c10 (by decide)
  · refine R_iload_n dX10_drop_13 rfl ?_
    refine R_bipush (v := nI 26) dX10_drop_14 (by decide) ?_
    refine R_icmp_ge_N (tgt := 22) dX10_drop_16 (by decide) (by omega) (by omega) (fun c16 => ?_) (fun c16 => ?_)
    -- X10_drop: ('branch', 16, 22, 19)
    · refine R_aload_n dX10_drop_22 rfl ?_
      refine R_iload_n dX10_drop_23 rfl ?_
      -- X10_drop: ('call', 24, '.invokevirtual', 258)
      refine R_callV v_X10_canGo (Md_canGo x0 r0.1 hq.r86 hs) dX10_drop_24 l_RX10_258 rfl rfl x0.1 (Nat.le_of_ble_eq_true rfl) (by omega) rfl rfl (fun v h3 hq => ?_)
      obtain ⟨rfl, e9⟩ := hq
      rw [e9, if_neg hg]
      refine R_if_ne_N (tgt := 33) dX10_drop_27 (by decide) (by omega) (fun c27 => ?_) (fun c27 => ?_)
      -- X10_drop: ('branch', 27, 33, 30)
      · exact absurd rfl c27
      · refine R_bipush (v := (-5)) dX10_drop_30 (by decide) ?_
        refine R_ireturn dX10_drop_32 rfl rfl ?_
        -- X10_drop: ('ret', 32)
        exact ⟨rfl, ⟨S0, x0, r0⟩, g0⟩
    · exact absurd c16 (by omega)
theorem MP_drop (y : MMAt E h M q ds im md tp ph fk fp) (hq : PkOk q) {s : Nat} (hs : isRul q.2 s) (hg : canGo q.2 s) : Spec E k_X10_drop 6 0 0 [.ref M, .int (nI s)] h (fun v h' => v = some (.int (nI (sizeS (drP q s).1 (drP q s).2))) ∧ MMAt E h' M (drP q s) (pushD ds q) im md tp ph fk fp ∧ Out h h' M (M + 23)) := by
  have h26 := hs.1
  have h86 := hs.2.1
  obtain ⟨S, x, r⟩ := y
  refine Spec.of (by decide +kernel) (by simp [Value.category]) (Nat.le_of_ble_eq_true rfl) ?_
  show WP E k_X10_drop 6 0 0 0 [some (.ref M), some (.int (nI s))] [] h _
  refine R_aload_n dX10_drop_0 rfl ?_
  refine R_iconst (v := nI 0) dX10_drop_1 (by decide) ?_
  refine R_put_A K_10 (f := 0) (by decide) dX10_drop_2 f_RX10_1 rfl x.1 (by rfl) (by rfl) (Nat.le_of_ble_eq_true rfl) ?_
  intro h0 u0
  have x0 := x.put u0 (by decide)
  have r0 := r.keep (S2 := (upd S.1 0 (nI 0), S.2)) (Ony.refl.put (by decide))
  have g0 : Out h h0 M (M + 23) := Out.upd u0 (by omega) (by omega)
  generalize (upd S.1 0 (nI 0), S.2) = S0 at x0 r0
  refine R_aload_n dX10_drop_5 rfl ?_
  refine R_iload_n dX10_drop_6 rfl ?_
  -- X10_drop: ('call', 7, '.invokevirtual', 210)
  refine R_callV v_X10_isSign (Md_isSign x0 r0.1 (nI s)) dX10_drop_7 l_RX10_210 rfl rfl x0.1 (Nat.le_of_ble_eq_true rfl) (by omega) rfl rfl (fun v h2 hq => ?_)
  obtain ⟨rfl, e9⟩ := hq
  rw [e9, if_pos ((sgI_nI (by omega)).mpr (Or.inr hs))]
  refine R_if_eq_N (tgt := 19) dX10_drop_10 (by decide) (by omega) (fun c10 => ?_) (fun c10 => ?_)
  -- X10_drop: ('branch', 10, 19, 13)
  · exact absurd c10 (by decide)
  · refine R_iload_n dX10_drop_13 rfl ?_
    refine R_bipush (v := nI 26) dX10_drop_14 (by decide) ?_
    refine R_icmp_ge_N (tgt := 22) dX10_drop_16 (by decide) (by omega) (by omega) (fun c16 => ?_) (fun c16 => ?_)
    -- X10_drop: ('branch', 16, 22, 19)
    · refine R_aload_n dX10_drop_22 rfl ?_
      refine R_iload_n dX10_drop_23 rfl ?_
      -- X10_drop: ('call', 24, '.invokevirtual', 258)
      refine R_callV v_X10_canGo (Md_canGo x0 r0.1 hq.r86 hs) dX10_drop_24 l_RX10_258 rfl rfl x0.1 (Nat.le_of_ble_eq_true rfl) (by omega) rfl rfl (fun v h3 hq => ?_)
      obtain ⟨rfl, e9⟩ := hq
      rw [e9, if_pos hg]
      refine R_if_ne_N (tgt := 33) dX10_drop_27 (by decide) (by omega) (fun c27 => ?_) (fun c27 => ?_)
      -- X10_drop: ('branch', 27, 33, 30)
      · refine R_aload_n dX10_drop_33 rfl ?_
        -- X10_drop: ('call', 34, '.invokevirtual', 171)
        refine R_callV v_X10_notes (Md_notes x0 r0.1 r0.2.1) dX10_drop_34 l_RX10_171 rfl rfl x0.1 (Nat.le_of_ble_eq_true rfl) (by omega) rfl rfl (fun v h4 hq => ?_)
        obtain ⟨rfl, g4, S4, x4, o4, d4⟩ := hq
        have c4 : curF (S4.2 1) q := by rw [o4.a1 (by decide)]; exact r0.1
        refine R_aload_n dX10_drop_37 rfl ?_
        refine R_iload_n dX10_drop_38 rfl ?_
        -- X10_drop: ('call', 39, '.invokevirtual', 261)
        refine R_callV v_X10_drops (Md_drops x4 c4 hq hs hg) dX10_drop_39 l_RX10_261 rfl rfl x4.1 (Nat.le_of_ble_eq_true rfl) (by omega) rfl rfl (fun v h5 hq => ?_)
        obtain ⟨rfl, g5, S5, x5, o5, c5, f5⟩ := hq
        refine R_aload_n dX10_drop_42 rfl ?_
        -- X10_drop: ('call', 43, '.invokevirtual', 264)
        refine R_callV v_X10_sizeNow (Md_sizeNow x5 c5) dX10_drop_43 l_RX10_264 rfl rfl x5.1 (Nat.le_of_ble_eq_true rfl) (by omega) rfl rfl (fun v h6 hq => ?_)
        obtain ⟨rfl, e9⟩ := hq
        rw [e9]
        refine R_ireturn dX10_drop_46 rfl rfl ?_
        -- X10_drop: ('ret', 46)
        exact ⟨rfl, ⟨S5, x5, r0.chg ((o4.mono (by decide) (by decide)).trans (o5.mono (by decide) (by decide))) c5 (fun k hk => by rw [f5 k hk, o4.1 1 (by decide)]) (d4.keep (o5.2 5 (by decide)) (o5.1 2 (by decide)))⟩, (g0.trans g4).trans g5⟩
      · exact absurd c27 (by decide)
    · exact absurd c16 (by omega)
theorem rules_drop {q : Pk} {s : Nat} (hs : isRul q.2 s) : rulesS (drP q s).2 < rulesS q.2 := by
  have h26 := hs.1
  have h86 := hs.2.1
  have := (cntB_lt (p := fun r => decide (0 < (q.2 r).length)) (q := fun r => decide (0 < ((drP q s).2 r).length)) (i := s - 26) (fun j hj => ?_) ?_ ?_ 60).1 (by omega)
  · rw [rulesS, rulesS]; omega
  · have hj := of_decide_eq_true hj
    refine decide_eq_true ?_
    by_cases e : j = s - 26
    · rw [show (drP q s).2 j = [] from by rw [e]; exact dropRu_self] at hj; simp at hj
    · rw [show (drP q s).2 j = sub s (rowOf q.2 s) (q.2 j) from dropRu_ne e] at hj
      cases hz : q.2 j with
      | nil => rw [hz, sub_nil] at hj; simp at hj
      | cons y t => simp
  · refine decide_eq_true ?_
    cases hz : q.2 (s - 26) with
    | nil => exact absurd hz hs.2.2
    | cons y t => simp
  · refine decide_eq_false ?_
    rw [show (drP q s).2 (s - 26) = [] from dropRu_self]; simp
theorem MP_trim (y : MMAt E h M q ds im md tp ph fk fp) (hq : PkOk q) : Spec E k_X10_trim 6 0 0 [.ref M] h (fun v h' => v = some (.int (nI (trimF 60 q).2)) ∧ MMAt E h' M (trimF 60 q).1 (pushD ds q) im md tp ph fk fp ∧ Out h h' M (M + 23)) := by
  obtain ⟨S, x, r⟩ := y
  refine Spec.of (by decide +kernel) (by simp [Value.category]) (Nat.le_of_ble_eq_true rfl) ?_
  show WP E k_X10_trim 6 0 0 0 [some (.ref M), none, none] [] h _
  refine R_aload_n dX10_trim_0 rfl ?_
  refine R_iconst (v := nI 0) dX10_trim_1 (by decide) ?_
  refine R_put_A K_10 (f := 0) (by decide) dX10_trim_2 f_RX10_1 rfl x.1 (by rfl) (by rfl) (Nat.le_of_ble_eq_true rfl) ?_
  intro h0 u0
  have x0 := x.put u0 (by decide)
  have r0 := r.keep (S2 := (upd S.1 0 (nI 0), S.2)) (Ony.refl.put (by decide))
  have g0 : Out h h0 M (M + 23) := Out.upd u0 (by omega) (by omega)
  generalize (upd S.1 0 (nI 0), S.2) = S0 at x0 r0
  have loop : ∀ m (q2 : Pk) t h2 S2, rulesS q2.2 ≤ m → PkOk q2 → MdAt E h2 M S2 → MRel S2 q2 (pushD ds q) im md tp ph fk fp → Out h h2 M (M + 23) → WP E k_X10_trim 6 0 0 16 [some (.ref M), some (.int (nI t)), some (.int (oI 26 (idleS q2.1 q2.2)))] [] h2 (fun v h' => v = some (.int (nI (t + (trimF m q2).2))) ∧ MMAt E h' M (trimF m q2).1 (pushD ds q) im md tp ph fk fp ∧ Out h h' M (M + 23)) := by
    intro m
    induction m with
    | zero =>
      intro q2 t h2 S2 hlen ok x2 r2 g2
      have hp : idleS q2.1 q2.2 = none := by
        cases hp : idleS q2.1 q2.2 with
        | none => rfl
        | some i => have := rules_drop (idle_rul hp).1; omega
      rw [hp]
      refine R_iload_n dX10_trim_16 rfl ?_
      refine R_iconst (v := (-1)) dX10_trim_17 (by decide) ?_
      refine R_icmp_eq (tgt := 37) dX10_trim_18 (by decide) (fun c18 => ?_) (fun c18 => ?_)
      -- X10_trim: ('branch', 18, 37, 21)
      · refine R_iload_n dX10_trim_37 rfl ?_
        refine R_ireturn dX10_trim_38 rfl rfl ?_
        -- X10_trim: ('ret', 38)
        exact ⟨rfl, ⟨S2, x2, r2⟩, g2⟩
      · exact absurd rfl c18
    | succ m ih =>
      intro q2 t h2 S2 hlen ok x2 r2 g2
      cases hp : idleS q2.1 q2.2 with
      | none =>
        refine R_iload_n dX10_trim_16 rfl ?_
        refine R_iconst (v := (-1)) dX10_trim_17 (by decide) ?_
        refine R_icmp_eq (tgt := 37) dX10_trim_18 (by decide) (fun c18 => ?_) (fun c18 => ?_)
        -- X10_trim: ('branch', 18, 37, 21)
        · refine R_iload_n dX10_trim_37 rfl ?_
          refine R_ireturn dX10_trim_38 rfl rfl ?_
          -- X10_trim: ('ret', 38)
          rw [trimF_none hp]
          exact ⟨rfl, ⟨S2, x2, r2⟩, g2⟩
        · exact absurd rfl c18
      | some i =>
        have hR := (idle_rul hp).1
        have h86 := hR.2.1
        have hlt := rules_drop hR
        refine R_iload_n dX10_trim_16 rfl ?_
        refine R_iconst (v := (-1)) dX10_trim_17 (by decide) ?_
        refine R_icmp_eq (tgt := 37) dX10_trim_18 (by decide) (fun c18 => ?_) (fun c18 => ?_)
        -- X10_trim: ('branch', 18, 37, 21)
        · exact absurd c18 (nI_ne_m1 (n := 26 + i) (by omega))
        · refine R_aload_n dX10_trim_21 rfl ?_
          refine R_iload_n dX10_trim_22 rfl ?_
          -- X10_trim: ('call', 23, '.invokevirtual', 261)
          refine R_callV v_X10_drops (Md_drops x2 r2.1 ok hR (idle_go hp (fun r hr => (r2.1.2.2.2 r hr).1))) dX10_trim_23 l_RX10_261 rfl rfl x2.1 (Nat.le_of_ble_eq_true rfl) (by omega) rfl rfl (fun v h5 hq => ?_)
          obtain ⟨rfl, g5, S5, x5, o5, c5, f5⟩ := hq
          have ok5 := ok.drop hR
          have r5 : MRel S5 (drP q2 (26 + i)) (pushD ds q) im md tp ph fk fp := r2.chg (o5.mono (by decide) (by decide)) c5 f5 (r2.2.1.keep (o5.2 5 (by decide)) (o5.1 2 (by decide)))
          refine R_iinc1 dX10_trim_26 (by decide) (nI_inc _ 1) ?_
          refine R_aload_n dX10_trim_29 rfl ?_
          -- X10_trim: ('call', 30, '.invokevirtual', 270)
          refine R_callV v_X10_idle (Md_idle x5 c5 (PkOk.h86 ok5) (PkOk.r86 ok5)) dX10_trim_30 l_RX10_270 rfl rfl x5.1 (Nat.le_of_ble_eq_true rfl) (by omega) rfl rfl (fun v h6 hq => ?_)
          obtain ⟨rfl, e9⟩ := hq
          rw [e9]
          refine R_istore2 dX10_trim_33 (by decide) ?_
          refine R_goto (tgt := 16) dX10_trim_34 (by decide) ?_
          -- X10_trim: ('stop', 16)
          have := ih (drP q2 (26 + i)) (t + 1) h5 S5 (by omega) ok5 x5 r5 (g2.trans g5)
          rw [trimF_some hp, show t + ((trimF m (drP q2 (26 + i))).2 + 1) = t + 1 + (trimF m (drP q2 (26 + i))).2 by omega]
          exact this
  refine R_aload_n dX10_trim_5 rfl ?_
  -- X10_trim: ('call', 6, '.invokevirtual', 171)
  refine R_callV v_X10_notes (Md_notes x0 r0.1 r0.2.1) dX10_trim_6 l_RX10_171 rfl rfl x0.1 (Nat.le_of_ble_eq_true rfl) (by omega) rfl rfl (fun v h4 hq => ?_)
  obtain ⟨rfl, g4, S4, x4, o4, d4⟩ := hq
  have c4 : curF (S4.2 1) q := by rw [o4.a1 (by decide)]; exact r0.1
  have r4 : MRel S4 q (pushD ds q) im md tp ph fk fp := r0.chg (o4.mono (by decide) (by decide)) c4 (fun k hk => by rw [o4.1 1 (by decide)]) d4
  refine R_iconst (v := nI 0) dX10_trim_9 (by decide) ?_
  refine R_istore1 dX10_trim_10 (by decide) ?_
  refine R_aload_n dX10_trim_11 rfl ?_
  -- X10_trim: ('call', 12, '.invokevirtual', 270)
  refine R_callV v_X10_idle (Md_idle x4 c4 hq.h86 hq.r86) dX10_trim_12 l_RX10_270 rfl rfl x4.1 (Nat.le_of_ble_eq_true rfl) (by omega) rfl rfl (fun v h6 hq => ?_)
  obtain ⟨rfl, e9⟩ := hq
  rw [e9]
  refine R_istore2 dX10_trim_15 (by decide) ?_
  -- X10_trim: ('stop', 16)
  have := loop 60 q 0 h4 S4 (cntB_le _ _) hq x4 r4 (g0.trans g4)
  rw [Nat.zero_add] at this
  exact this
theorem MP_unpack (y : MMAt E h M q ds im md tp ph fk fp) (hq : PkOk q) : Spec E k_X10_unpack 66 0 0 [.ref M] h (fun v h' => v = some (.int (nI (letL q.2 q.1).length)) ∧ MMAt E h' M (letL q.2 q.1, fun _ => []) (pushD ds q) im md tp ph fk fp ∧ Out h h' M (M + 23)) := by
  have hlen : (letL q.2 q.1).length ≤ 240 := by rw [letL_len]; exact hq.2.2.1
  obtain ⟨S, x, r⟩ := y
  refine Spec.of (by decide +kernel) (by simp [Value.category]) (Nat.le_of_ble_eq_true rfl) ?_
  show WP E k_X10_unpack 66 0 0 0 [some (.ref M), none] [] h _
  refine R_aload_n dX10_unpack_0 rfl ?_
  refine R_iconst (v := nI 0) dX10_unpack_1 (by decide) ?_
  refine R_put_A K_10 (f := 0) (by decide) dX10_unpack_2 f_RX10_1 rfl x.1 (by rfl) (by rfl) (Nat.le_of_ble_eq_true rfl) ?_
  intro h0 u0
  have x0 := x.put u0 (by decide)
  have r0 := r.keep (S2 := (upd S.1 0 (nI 0), S.2)) (Ony.refl.put (by decide))
  have g0 : Out h h0 M (M + 23) := Out.upd u0 (by omega) (by omega)
  generalize (upd S.1 0 (nI 0), S.2) = S0 at x0 r0
  refine R_aload_n dX10_unpack_5 rfl ?_
  -- X10_unpack: ('call', 6, '.invokevirtual', 171)
  refine R_callV v_X10_notes (Md_notes x0 r0.1 r0.2.1) dX10_unpack_6 l_RX10_171 rfl rfl x0.1 (Nat.le_of_ble_eq_true rfl) (by omega) rfl rfl (fun v h4 hq => ?_)
  obtain ⟨rfl, g4, S4, x4, o4, d4⟩ := hq
  have c4 : curF (S4.2 1) q := by rw [o4.a1 (by decide)]; exact r0.1
  refine R_aload_n dX10_unpack_9 rfl ?_
  -- X10_unpack: ('call', 10, '.invokevirtual', 224)
  refine R_callV v_X10_laysText (Md_laysText hq x4 c4) dX10_unpack_10 l_RX10_224 rfl rfl x4.1 (Nat.le_of_ble_eq_true rfl) (by omega) rfl rfl (fun v h5 hq => ?_)
  obtain ⟨rfl, g5, S5, x5, o5, t5⟩ := hq
  have loop : ∀ m t h6 S6, t + m = 1021 → MdAt E h6 M S6 → Ony [1] [] S5 S6 → (∀ k, 1021 ≤ k → S6.2 1 k = S5.2 1 k) → (∀ k, k < t → S6.2 1 k = nI 0) → Out h h6 M (M + 23) → WP E k_X10_unpack 66 0 0 15 [some (.ref M), some (.int (nI t))] [] h6 (fun v h' => v = some (.int (nI (letL q.2 q.1).length)) ∧ MMAt E h' M (letL q.2 q.1, fun _ => []) (pushD ds q) im md tp ph fk fp ∧ Out h h' M (M + 23)) := by
    intro m
    induction m with
    | zero =>
      intro t h6 S6 ht x6 o6 far z6 g6
      have v11 : S6.1 11 = nI (letL q.2 q.1).length := by rw [o6.2 11 (by decide)]; exact t5.2.1
      refine R_iload_n dX10_unpack_15 rfl ?_
      refine R_sipush (v := nI 1021) dX10_unpack_16 (by decide) ?_
      refine R_icmp_ge_N (tgt := 35) dX10_unpack_19 (by decide) (by omega) (by omega) (fun c19 => ?_) (fun c19 => ?_)
      -- X10_unpack: ('branch', 19, 35, 22)
      · refine R_aload_n dX10_unpack_35 rfl ?_
        refine R_get K_10 (f := 9) (by decide) dX10_unpack_36 f_RX10_36 x6.1 rfl ?_
        refine R_iconst (v := nI 0) dX10_unpack_39 (by decide) ?_
        refine R_aload_n dX10_unpack_40 rfl ?_
        refine R_get K_10 (f := 1) (by decide) dX10_unpack_41 f_RX10_13 x6.1 rfl ?_
        refine R_iconst (v := nI 1) dX10_unpack_44 (by decide) ?_
        refine R_aload_n dX10_unpack_45 rfl ?_
        refine R_get K_10 (f := 11) (by decide) dX10_unpack_46 f_RX10_120 x6.1 (fld_get (k := 11) (by decide) v11) ?_
        -- X10_unpack: ('call', 49, '.invokestatic', 88)
        refine R_callS s_X10_copies (Md_copies (sp := 0) (dp := 1) (n := (letL q.2 q.1).length) x6.a8 x6.a1 (by omega) (by omega) (by omega) (by decide) (by decide)) dX10_unpack_49 l_RX10_88 rfl rfl (Nat.le_of_ble_eq_true rfl) (by omega) rfl rfl (fun v h7 hq => ?_)
        obtain ⟨rfl, u7⟩ := hq
        have x7 := x6.s1 u7
        refine R_aload_n dX10_unpack_52 rfl ?_
        refine R_get K_10 (f := 1) (by decide) dX10_unpack_53 f_RX10_13 x7.1 rfl ?_
        refine R_iconst (v := nI 0) dX10_unpack_56 (by decide) ?_
        refine R_aload_n dX10_unpack_57 rfl ?_
        refine R_get K_10 (f := 11) (by decide) dX10_unpack_58 f_RX10_120 x7.1 (fld_get (k := 11) (by decide) v11) ?_
        refine R_iastore_N dX10_unpack_61 x7.a1 (by omega) (by omega) ?_
        -- X10_unpack: ('put', 62)
        intro h8 u8
        have x8 := x7.s1 u8
        refine R_aload_n dX10_unpack_62 rfl ?_
        refine R_get K_10 (f := 11) (by decide) dX10_unpack_63 f_RX10_120 x8.1 (fld_get (k := 11) (by decide) v11) ?_
        refine R_ireturn dX10_unpack_66 rfl rfl ?_
        -- X10_unpack: ('ret', 66)
        have oo : Ony chgK chgJ S0 (S6.1, updF (updF S6.2 1 (va_cpy (S6.2 8) (S6.2 1) 0 1 (letL q.2 q.1).length)) 1 (upd (updF S6.2 1 (va_cpy (S6.2 8) (S6.2 1) 0 1 (letL q.2 q.1).length) 1) 0 (nI (letL q.2 q.1).length))) := ((((o4.mono (by decide) (by decide)).trans (o5.mono (by decide) (by decide))).trans (o6.mono (by decide) (by decide))).st (by decide)).st (by decide)
        refine ⟨rfl, ⟨_, x8, r0.chg oo ?_ (fun k hk => ?_) (d4.keep ?_ ?_)⟩, (g6.trans (Out.upd u7 (by omega) (by omega))).trans (Out.upd u8 (by omega) (by omega))⟩
        · refine ⟨hlen, ?_, fun i y hy => ?_, fun r hr => ⟨by show [].length ≤ 12; decide, ?_, fun i y hy => by simp at hy⟩⟩
          · exact upd_at (f := va_cpy (S6.2 8) (S6.2 1) 0 1 (letL q.2 q.1).length) (k := 0) (x := nI (letL q.2 q.1).length)
          · have hy : (letL q.2 q.1)[i]? = some y := hy
            have hi := (List.getElem?_eq_some_iff.mp hy).1
            show upd (va_cpy (S6.2 8) (S6.2 1) 0 1 (letL q.2 q.1).length) 0 _ (0 + (1 + i)) = nI y
            rw [upd_ne (by omega), pk_cpy_in (by omega) (by omega), show 0 + (0 + (1 + i) - 1) = i by omega, o6.1 8 (by decide)]
            exact t5.2.2.1 i y hy
          · show upd (va_cpy (S6.2 8) (S6.2 1) 0 1 (letL q.2 q.1).length) 0 _ (0 + (241 + 13 * r)) = nI 0
            rw [upd_ne (by omega), pk_cpy_out (by omega)]
            exact z6 _ (by omega)
        · show upd (va_cpy (S6.2 8) (S6.2 1) 0 1 (letL q.2 q.1).length) 0 _ k = _
          rw [upd_ne (by omega), pk_cpy_out (by omega), far k hk, o5.1 1 (by decide), o4.1 1 (by decide)]
        · show S6.1 5 = S4.1 5
          rw [o6.2 5 (by decide), o5.2 5 (by decide)]
        · show S6.2 2 = S4.2 2
          rw [o6.1 2 (by decide), o5.1 2 (by decide)]
      · exact absurd c19 (by omega)
    | succ m ih =>
      intro t h6 S6 ht x6 o6 far z6 g6
      refine R_iload_n dX10_unpack_15 rfl ?_
      refine R_sipush (v := nI 1021) dX10_unpack_16 (by decide) ?_
      refine R_icmp_ge_N (tgt := 35) dX10_unpack_19 (by decide) (by omega) (by omega) (fun c19 => ?_) (fun c19 => ?_)
      -- X10_unpack: ('branch', 19, 35, 22)
      · exact absurd c19 (by omega)
      · refine R_aload_n dX10_unpack_22 rfl ?_
        refine R_get K_10 (f := 1) (by decide) dX10_unpack_23 f_RX10_13 x6.1 rfl ?_
        refine R_iload_n dX10_unpack_26 rfl ?_
        refine R_iconst (v := nI 0) dX10_unpack_27 (by decide) ?_
        refine R_iastore_N dX10_unpack_28 x6.a1 (by omega) (by omega) ?_
        -- X10_unpack: ('put', 29)
        intro h7 u7
        have x7 := x6.s1 u7
        refine R_iinc1 dX10_unpack_29 (by decide) (nI_inc _ 1) ?_
        refine R_goto (tgt := 15) dX10_unpack_32 (by decide) ?_
        -- X10_unpack: ('stop', 15)
        refine ih (t + 1) h7 _ (by omega) x7 (o6.st (by decide)) (fun k hk => ?_) (fun k hk => ?_) (g6.trans (Out.upd u7 (by omega) (by omega)))
        · show upd (S6.2 1) t _ k = _
          rw [upd_ne (by omega)]; exact far k hk
        · show upd (S6.2 1) t (nI 0) k = nI 0
          by_cases e : k = t
          · rw [e, upd_at]
          · rw [upd_ne e]; exact z6 k (by omega)
  refine R_iconst (v := nI 0) dX10_unpack_13 (by decide) ?_
  refine R_istore1 dX10_unpack_14 (by decide) ?_
  -- X10_unpack: ('stop', 15)
  exact loop 1021 0 h5 S5 (by omega) x5 Ony.refl (fun _ _ => rfl) (fun k hk => absurd hk (by omega)) ((g0.trans g4).trans g5)
end MD8
