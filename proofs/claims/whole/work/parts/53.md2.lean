/-! THE MODEL: words and the text laid out -/
abbrev WDn (ru : Ru) (S : MSt) (s : Nat) : Prop := S.2 6 s = nI (wlen ru s) ∧ S.2 7 s = nI (dpt ru s)
def WIn (ru : Ru) (S : MSt) : Prop := ∀ s, isSg ru s → (S.2 6 s = nI 0 ∧ 26 ≤ s) ∨ WDn ru S s
def WAll (ru : Ru) (S : MSt) : Prop := ∀ s, isSg ru s → WDn ru S s
def LOut (S : MSt) (ls dp : List Nat) : Prop := dp.length = ls.length ∧ S.1 11 = nI ls.length ∧ (∀ i x, ls[i]? = some x → S.2 8 i = nI x) ∧ ∀ i x, dp[i]? = some x → S.2 9 i = nI x
def TxAt (S : MSt) (q : Pk) : Prop := LOut S (letL q.2 q.1) (dpL q.2 q.1)
theorem upd_at {f : Nat → Int32} {k : Nat} {x : Int32} : upd f k x k = x := if_pos rfl
theorem upd_ne {f : Nat → Int32} {k j : Nat} {x : Int32} (h : j ≠ k) : upd f k x j = f j := if_neg h
theorem snoc_get {l : List Nat} {a i x : Nat} (h : (l ++ [a])[i]? = some x) : (i < l.length ∧ l[i]? = some x) ∨ (i = l.length ∧ x = a) := by
  by_cases c : i < l.length
  · rw [List.getElem?_append_left c] at h
    exact Or.inl ⟨c, h⟩
  · rw [List.getElem?_append_right (by omega)] at h
    have hi := (List.getElem?_eq_some_iff.mp h).1
    rw [List.length_singleton] at hi
    have e : i - l.length = 0 := by omega
    rw [e] at h
    exact Or.inr ⟨by omega, (Option.some.inj h).symm⟩
theorem fld_get {M k : Nat} {w : Nat → Int32} {v : Int32} (hk : isMI k) (h : w k = v) : (fldM M w)[k]? = some (.int v) := by
  subst h
  simp only [List.mem_cons, List.not_mem_nil, or_false] at hk
  rcases hk with rfl | rfl | rfl | rfl | rfl | rfl | rfl | rfl | rfl | rfl | rfl | rfl | rfl | rfl | rfl | rfl <;> rfl
section MD2
variable {E : EnvT} {h h1 : Hp} {M : Nat} {S : MSt} {q : Pk}
theorem Ony.a1 {ks js : List Nat} {S S2 : MSt} (o : Ony ks js S S2) (h : 1 ∉ ks) : S2.2 1 = S.2 1 := o.1 1 h
theorem Md_laysWord (hq : PkOk q) : ∀ (n s : Nat) (h : Hp) (S : MSt), isSg q.2 s → dpt q.2 s ≤ n → MdAt E h M S → curF (S.2 1) q → WIn q.2 S → Spec E k_X10_laysWord (n + 4) 0 0 [.ref M, .int (nI s)] h (fun v h' => v = none ∧ Out h h' M (M + 23) ∧ ∃ S', MdAt E h' M S' ∧ Ony [6, 7] [] S S' ∧ WIn q.2 S' ∧ WDn q.2 S' s ∧ ∀ t, isSg q.2 t → WDn q.2 S t → WDn q.2 S' t) := by
  intro n
  induction n with
  | zero =>
    intro s h S hs hd x c hw
    have h86 := isSg_lt hs
    have h26 : s < 26 := by
      rcases hs with z | z
      · exact z
      · rw [dpt_rule hq.1.1 z] at hd; omega
    have hdn : WDn q.2 S s := by
      rcases hw s hs with z | z
      · omega
      · exact z
    have hv := hdn.1
    rw [wlen_letter h26] at hv
    refine Spec.of (by decide +kernel) (by simp [Value.category]) (Nat.le_of_ble_eq_true rfl) ?_
    show WP E k_X10_laysWord 4 0 0 0 [some (.ref M), some (.int (nI s)), none, none, none] [] h _
    refine R_aload_n dX10_laysWord_0 rfl ?_
    refine R_get K_10 (f := 7) (by decide) dX10_laysWord_1 f_RX10_30 x.1 rfl ?_
    refine R_iload_n dX10_laysWord_4 rfl ?_
    refine R_iaload_N dX10_laysWord_5 x.a6 (by omega) (by omega) hv ?_
    refine R_if_le_N (tgt := 10) dX10_laysWord_6 (by decide) (by omega) (fun c6 => ?_) (fun c6 => ?_)
    -- X10_laysWord: ('branch', 6, 10, 9)
    · exact absurd c6 (by decide)
    · refine R_return dX10_laysWord_9 rfl ?_
      -- X10_laysWord: ('ret', 9)
      exact ⟨rfl, Out.refl, S, x, Ony.refl, hw, hdn, fun _ _ z => z⟩
  | succ n ih =>
    intro s h S hs hd x c hw
    have h86 := isSg_lt hs
    rcases hw s hs with ⟨hz, h26⟩ | hdn
    rotate_left
    · have hp := wlen_pos hq.1.1 hs
      have hl := wlen_le hq.1 hs
      refine Spec.of (by decide +kernel) (by simp [Value.category]) (Nat.le_of_ble_eq_true rfl) ?_
      show WP E k_X10_laysWord (n+1+4) 0 0 0 [some (.ref M), some (.int (nI s)), none, none, none] [] h _
      refine R_aload_n dX10_laysWord_0 rfl ?_
      refine R_get K_10 (f := 7) (by decide) dX10_laysWord_1 f_RX10_30 x.1 rfl ?_
      refine R_iload_n dX10_laysWord_4 rfl ?_
      refine R_iaload_N dX10_laysWord_5 x.a6 (by omega) (by omega) hdn.1 ?_
      refine R_if_le_N (tgt := 10) dX10_laysWord_6 (by decide) (by omega) (fun c6 => ?_) (fun c6 => ?_)
      -- X10_laysWord: ('branch', 6, 10, 9)
      · exact absurd c6 (by omega)
      · refine R_return dX10_laysWord_9 rfl ?_
        -- X10_laysWord: ('ret', 9)
        exact ⟨rfl, Out.refl, S, x, Ony.refl, hw, hdn, fun _ _ z => z⟩
    have hr : isRul q.2 s := by
      rcases hs with z | z
      · omega
      · exact z
    have hro : rowOf q.2 s = q.2 (s - 26) := rowOf_in ⟨h26, h86⟩
    have hrl := (c.2.2.2 (s - 26) (by omega)).1
    have hdr := dpt_rule hq.1.1 hr
    have hwr := wlen_rule hq.1.1 hr
    have hmem : ∀ y ∈ q.2 (s - 26), isSg q.2 y := fun y hy => acy_sg hq.1.1 (i := s - 26) (by omega) hy
    refine Spec.of (by decide +kernel) (by simp [Value.category]) (Nat.le_of_ble_eq_true rfl) ?_
    show WP E k_X10_laysWord (n+1+4) 0 0 0 [some (.ref M), some (.int (nI s)), none, none, none] [] h _
    have loop : ∀ m t h2 S2, t + m = (q.2 (s - 26)).length → MdAt E h2 M S2 → Ony [6, 7] [] S S2 → WIn q.2 S2 → (∀ y, isSg q.2 y → WDn q.2 S y → WDn q.2 S2 y) → Out h h2 M (M + 23) → WP E k_X10_laysWord (n+1+4) 0 0 17 [some (.ref M), some (.int (nI s)), some (.int (nI (lsum (wlen q.2) ((q.2 (s - 26)).take t)))), some (.int (nI (lmax (dpt q.2) ((q.2 (s - 26)).take t)))), some (.int (nI t))] [] h2 (fun v h' => v = none ∧ Out h h' M (M + 23) ∧ ∃ S', MdAt E h' M S' ∧ Ony [6, 7] [] S S' ∧ WIn q.2 S' ∧ WDn q.2 S' s ∧ ∀ t, isSg q.2 t → WDn q.2 S t → WDn q.2 S' t) := by
      intro m
      induction m with
      | zero =>
        intro t h2 S2 ht x2 o2 w2 k2 g2
        have c2 : curF (S2.2 1) q := by rw [o2.a1 (by decide)]; exact c
        refine R_iload dX10_laysWord_17 rfl ?_
        refine R_aload_n dX10_laysWord_19 rfl ?_
        refine R_iload_n dX10_laysWord_20 rfl ?_
        -- X10_laysWord: ('call', 21, '.invokevirtual', 106)
        refine R_callV v_X10_rowLong (Md_rowLong x2 c2 h86) dX10_laysWord_21 l_RX10_106 rfl rfl x2.1 (Nat.le_of_ble_eq_true rfl) (by omega) rfl rfl (fun v h3 hq => ?_)
        obtain ⟨rfl, e9⟩ := hq
        rw [e9, hro]
        refine R_icmp_ge_N (tgt := 76) dX10_laysWord_24 (by decide) (by omega) (by omega) (fun c24 => ?_) (fun c24 => ?_)
        -- X10_laysWord: ('branch', 24, 76, 27)
        · refine R_aload_n dX10_laysWord_76 rfl ?_
          refine R_get K_10 (f := 7) (by decide) dX10_laysWord_77 f_RX10_30 x2.1 rfl ?_
          refine R_iload_n dX10_laysWord_80 rfl ?_
          refine R_iload_n dX10_laysWord_81 rfl ?_
          refine R_iastore_N dX10_laysWord_82 x2.a6 (by omega) (by omega) ?_
          -- X10_laysWord: ('put', 83)
          intro h3 u3
          have x3 := x2.s6 u3
          refine R_aload_n dX10_laysWord_83 rfl ?_
          refine R_get K_10 (f := 8) (by decide) dX10_laysWord_84 f_RX10_33 x3.1 rfl ?_
          refine R_iload_n dX10_laysWord_87 rfl ?_
          refine R_iload_n dX10_laysWord_88 rfl ?_
          refine R_iconst (v := nI 1) dX10_laysWord_89 (by decide) ?_
          refine R_iadd_N dX10_laysWord_90 ?_
          refine R_iastore_N dX10_laysWord_91 x3.a7 (by omega) (by omega) ?_
          -- X10_laysWord: ('put', 92)
          intro h4 u4
          have x4 := x3.s7 u4
          refine R_return dX10_laysWord_92 rfl ?_
          -- X10_laysWord: ('ret', 92)
          rw [List.take_of_length_le (by omega)] at *
          have fin : WDn q.2 (S2.1, updF (updF S2.2 6 (upd (S2.2 6) s (nI (lsum (wlen q.2) (q.2 (s - 26)))))) 7 (upd (updF S2.2 6 (upd (S2.2 6) s (nI (lsum (wlen q.2) (q.2 (s - 26))))) 7) s (nI (lmax (dpt q.2) (q.2 (s - 26)) + 1)))) s := by
            refine ⟨?_, ?_⟩
            · show upd (S2.2 6) s _ s = _
              rw [upd_at, hwr]
            · show upd (S2.2 7) s _ s = _
              rw [upd_at, hdr]
          have oth : ∀ y, y ≠ s → WDn q.2 S2 y → WDn q.2 (S2.1, updF (updF S2.2 6 (upd (S2.2 6) s (nI (lsum (wlen q.2) (q.2 (s - 26)))))) 7 (upd (updF S2.2 6 (upd (S2.2 6) s (nI (lsum (wlen q.2) (q.2 (s - 26))))) 7) s (nI (lmax (dpt q.2) (q.2 (s - 26)) + 1)))) y := by
            intro y hy z
            refine ⟨?_, ?_⟩
            · show upd (S2.2 6) s _ y = _
              rw [upd_ne hy]; exact z.1
            · show upd (S2.2 7) s _ y = _
              rw [upd_ne hy]; exact z.2
          refine ⟨rfl, (g2.trans (Out.upd u3 (by omega) (by omega))).trans (Out.upd u4 (by omega) (by omega)), _, x4, (o2.st (by decide)).st (by decide), fun y hy => ?_, fin, fun y hy z => ?_⟩
          · by_cases e : y = s
            · rw [e]; exact Or.inr fin
            · rcases w2 y hy with z | z
              · refine Or.inl ⟨?_, z.2⟩
                show upd (S2.2 6) s _ y = _
                rw [upd_ne e]; exact z.1
              · exact Or.inr (oth y e z)
          · by_cases e : y = s
            · rw [e]; exact fin
            · exact oth y e (k2 y hy z)
        · exact absurd c24 (by omega)
      | succ m ih2 =>
        intro t h2 S2 ht x2 o2 w2 k2 g2
        have c2 : curF (S2.2 1) q := by rw [o2.a1 (by decide)]; exact c
        obtain ⟨y, hy⟩ := getE (l := q.2 (s - 26)) (i := t) (by omega)
        have hy2 : (rowOf q.2 s)[t]? = some y := by rw [hro]; exact hy
        have hys := hmem y (List.mem_of_getElem? hy)
        have hy86 := isSg_lt hys
        have hdy : dpt q.2 y ≤ n := by
          have := lmax_mem (f := dpt q.2) (List.mem_of_getElem? hy)
          omega
        have hd60 := dpt_le q.2 y
        have hmx : lmax (dpt q.2) ((q.2 (s - 26)).take t) ≤ 60 := lmax_le (fun x _ => dpt_le q.2 x)
        refine R_iload dX10_laysWord_17 rfl ?_
        refine R_aload_n dX10_laysWord_19 rfl ?_
        refine R_iload_n dX10_laysWord_20 rfl ?_
        -- X10_laysWord: ('call', 21, '.invokevirtual', 106)
        refine R_callV v_X10_rowLong (Md_rowLong x2 c2 h86) dX10_laysWord_21 l_RX10_106 rfl rfl x2.1 (Nat.le_of_ble_eq_true rfl) (by omega) rfl rfl (fun v h3 hq => ?_)
        obtain ⟨rfl, e9⟩ := hq
        rw [e9, hro]
        refine R_icmp_ge_N (tgt := 76) dX10_laysWord_24 (by decide) (by omega) (by omega) (fun c24 => ?_) (fun c24 => ?_)
        -- X10_laysWord: ('branch', 24, 76, 27)
        · exact absurd c24 (by omega)
        · refine R_aload_n dX10_laysWord_27 rfl ?_
          refine R_aload_n dX10_laysWord_28 rfl ?_
          refine R_iload_n dX10_laysWord_29 rfl ?_
          refine R_iload dX10_laysWord_30 rfl ?_
          -- X10_laysWord: ('call', 32, '.invokevirtual', 113)
          refine R_callV v_X10_inRow (Md_inRow x2 c2 h86 hy2) dX10_laysWord_32 l_RX10_113 rfl rfl x2.1 (Nat.le_of_ble_eq_true rfl) (by omega) rfl rfl (fun v h3 hq => ?_)
          obtain ⟨rfl, e9⟩ := hq
          rw [e9]
          refine R_callV v_X10_laysWord (ih y h2 S2 hys hdy x2 c2 w2) dX10_laysWord_35 l_RX10_109 rfl rfl x2.1 (Nat.le_of_ble_eq_true rfl) (by omega) rfl rfl (fun v h4 hq => ?_)
          obtain ⟨rfl, g4, S4, x4, o4, w4, dn4, k4⟩ := hq
          have o24 := o2.trans o4
          have c4 : curF (S4.2 1) q := by rw [o24.a1 (by decide)]; exact c
          refine R_iload_n dX10_laysWord_38 rfl ?_
          refine R_aload_n dX10_laysWord_39 rfl ?_
          refine R_get K_10 (f := 7) (by decide) dX10_laysWord_40 f_RX10_30 x4.1 rfl ?_
          refine R_aload_n dX10_laysWord_43 rfl ?_
          refine R_iload_n dX10_laysWord_44 rfl ?_
          refine R_iload dX10_laysWord_45 rfl ?_
          -- X10_laysWord: ('call', 47, '.invokevirtual', 113)
          refine R_callV v_X10_inRow (Md_inRow x4 c4 h86 hy2) dX10_laysWord_47 l_RX10_113 rfl rfl x4.1 (Nat.le_of_ble_eq_true rfl) (by omega) rfl rfl (fun v h5 hq => ?_)
          obtain ⟨rfl, e9⟩ := hq
          rw [e9]
          refine R_iaload_N dX10_laysWord_50 x4.a6 (by omega) (by omega) dn4.1 ?_
          refine R_iadd_N dX10_laysWord_51 ?_
          refine R_istore2 dX10_laysWord_52 (by decide) ?_
          refine R_iload_n dX10_laysWord_53 rfl ?_
          refine R_aload_n dX10_laysWord_54 rfl ?_
          refine R_get K_10 (f := 8) (by decide) dX10_laysWord_55 f_RX10_33 x4.1 rfl ?_
          refine R_aload_n dX10_laysWord_58 rfl ?_
          refine R_iload_n dX10_laysWord_59 rfl ?_
          refine R_iload dX10_laysWord_60 rfl ?_
          -- X10_laysWord: ('call', 62, '.invokevirtual', 113)
          refine R_callV v_X10_inRow (Md_inRow x4 c4 h86 hy2) dX10_laysWord_62 l_RX10_113 rfl rfl x4.1 (Nat.le_of_ble_eq_true rfl) (by omega) rfl rfl (fun v h6 hq => ?_)
          obtain ⟨rfl, e9⟩ := hq
          rw [e9]
          refine R_iaload_N dX10_laysWord_65 x4.a7 (by omega) (by omega) dn4.2 ?_
          -- X10_laysWord: ('call', 66, '.invokestatic', 117)
          refine R_callS s_X10_greater (Md_greater (a := lmax (dpt q.2) ((q.2 (s - 26)).take t)) (b := dpt q.2 y) (by omega) (by omega)) dX10_laysWord_66 l_RX10_117 rfl rfl (Nat.le_of_ble_eq_true rfl) (by omega) rfl rfl (fun v h7 hq => ?_)
          obtain ⟨rfl, e9⟩ := hq
          rw [e9]
          refine R_istore3 dX10_laysWord_69 (by decide) ?_
          refine R_iinc4 dX10_laysWord_70 (by decide) (nI_inc _ 1) ?_
          refine R_goto (tgt := 17) dX10_laysWord_73 (by decide) ?_
          -- X10_laysWord: ('stop', 17)
          have := ih2 (t + 1) h4 S4 (by omega) x4 o24 w4 (fun z hz w => k4 z hz (k2 z hz w)) (g2.trans g4)
          rw [take_snoc hy, lsum_app, lmax_app, lsum, lsum, lmax, lmax, Nat.max_zero, Nat.add_zero] at this
          exact this
    refine R_aload_n dX10_laysWord_0 rfl ?_
    refine R_get K_10 (f := 7) (by decide) dX10_laysWord_1 f_RX10_30 x.1 rfl ?_
    refine R_iload_n dX10_laysWord_4 rfl ?_
    refine R_iaload_N dX10_laysWord_5 x.a6 (by omega) (by omega) hz ?_
    refine R_if_le_N (tgt := 10) dX10_laysWord_6 (by decide) (by omega) (fun c6 => ?_) (fun c6 => ?_)
    -- X10_laysWord: ('branch', 6, 10, 9)
    · refine R_iconst (v := nI 0) dX10_laysWord_10 (by decide) ?_
      refine R_istore2 dX10_laysWord_11 (by decide) ?_
      refine R_iconst (v := nI 0) dX10_laysWord_12 (by decide) ?_
      refine R_istore3 dX10_laysWord_13 (by decide) ?_
      refine R_iconst (v := nI 0) dX10_laysWord_14 (by decide) ?_
      refine R_istore4 dX10_laysWord_15 (by decide) ?_
      -- X10_laysWord: ('stop', 17)
      exact loop (q.2 (s - 26)).length 0 h S (by omega) x Ony.refl hw (fun _ _ z => z) Out.refl
    · exact absurd c6 (by decide)
theorem Md_laysWords (hq : PkOk q) (x : MdAt E h M S) (c : curF (S.2 1) q) : Spec E k_X10_laysWords 65 0 0 [.ref M] h (fun v h' => v = none ∧ Out h h' M (M + 23) ∧ ∃ S', MdAt E h' M S' ∧ Ony [6, 7] [] S S' ∧ WAll q.2 S') := by
  refine Spec.of (by decide +kernel) (by simp [Value.category]) (Nat.le_of_ble_eq_true rfl) ?_
  show WP E k_X10_laysWords 65 0 0 0 [some (.ref M), none] [] h _
  have loop2 : ∀ m t h2 S2, t + m = 86 → 26 ≤ t → MdAt E h2 M S2 → Ony [6, 7] [] S S2 → WIn q.2 S2 → (∀ y, isSg q.2 y → y < t → WDn q.2 S2 y) → Out h h2 M (M + 23) → WP E k_X10_laysWords 65 0 0 41 [some (.ref M), some (.int (nI t))] [] h2 (fun v h' => v = none ∧ Out h h' M (M + 23) ∧ ∃ S', MdAt E h' M S' ∧ Ony [6, 7] [] S S' ∧ WAll q.2 S') := by
    intro m
    induction m with
    | zero =>
      intro t h2 S2 ht h26 x2 o2 w2 k2 g2
      refine R_iload_n dX10_laysWords_41 rfl ?_
      refine R_bipush (v := nI 86) dX10_laysWords_42 (by decide) ?_
      refine R_icmp_ge_N (tgt := 66) dX10_laysWords_44 (by decide) (by omega) (by omega) (fun c44 => ?_) (fun c44 => ?_)
      -- X10_laysWords: ('branch', 44, 66, 47)
      · refine R_return dX10_laysWords_66 rfl ?_
        -- X10_laysWords: ('ret', 66)
        exact ⟨rfl, g2, S2, x2, o2, fun y hy => k2 y hy (by have := isSg_lt hy; omega)⟩
      · exact absurd c44 (by omega)
    | succ m ih =>
      intro t h2 S2 ht h26 x2 o2 w2 k2 g2
      have c2 : curF (S2.2 1) q := by rw [o2.a1 (by decide)]; exact c
      have hro : rowOf q.2 t = q.2 (t - 26) := rowOf_in ⟨h26, by omega⟩
      have hrl := (c.2.2.2 (t - 26) (by omega)).1
      refine R_iload_n dX10_laysWords_41 rfl ?_
      refine R_bipush (v := nI 86) dX10_laysWords_42 (by decide) ?_
      refine R_icmp_ge_N (tgt := 66) dX10_laysWords_44 (by decide) (by omega) (by omega) (fun c44 => ?_) (fun c44 => ?_)
      -- X10_laysWords: ('branch', 44, 66, 47)
      · exact absurd c44 (by omega)
      · refine R_aload_n dX10_laysWords_47 rfl ?_
        refine R_iload_n dX10_laysWords_48 rfl ?_
        -- X10_laysWords: ('call', 49, '.invokevirtual', 106)
        refine R_callV v_X10_rowLong (Md_rowLong x2 c2 (s := t) (by omega)) dX10_laysWords_49 l_RX10_106 rfl rfl x2.1 (Nat.le_of_ble_eq_true rfl) (by omega) rfl rfl (fun v h3 hq => ?_)
        obtain ⟨rfl, e9⟩ := hq
        rw [e9, hro]
        refine R_if_le_N (tgt := 60) dX10_laysWords_52 (by decide) (by omega) (fun c52 => ?_) (fun c52 => ?_)
        -- X10_laysWords: ('branch', 52, 60, 55)
        · refine R_iinc1 dX10_laysWords_60 (by decide) (nI_inc _ 1) ?_
          refine R_goto (tgt := 41) dX10_laysWords_63 (by decide) ?_
          -- X10_laysWords: ('stop', 41)
          refine ih (t + 1) h2 S2 (by omega) (by omega) x2 o2 w2 (fun y hy hyt => ?_) g2
          by_cases e : y = t
          · subst e
            rcases hy with z | z
            · omega
            · exact absurd (List.eq_nil_of_length_eq_zero c52) z.2.2
          · exact k2 y hy (by omega)
        · have hr : isRul q.2 t := ⟨h26, by omega, fun e => by rw [e] at c52; simp at c52⟩
          refine R_aload_n dX10_laysWords_55 rfl ?_
          refine R_iload_n dX10_laysWords_56 rfl ?_
          -- X10_laysWords: ('call', 57, '.invokevirtual', 109)
          refine R_callV v_X10_laysWord (Md_laysWord hq 60 t h2 S2 (Or.inr hr) (dpt_le q.2 t) x2 c2 w2) dX10_laysWords_57 l_RX10_109 rfl rfl x2.1 (Nat.le_of_ble_eq_true rfl) (by omega) rfl rfl (fun v h4 hq => ?_)
          obtain ⟨rfl, g4, S4, x4, o4, w4, dn4, k4⟩ := hq
          refine R_iinc1 dX10_laysWords_60 (by decide) (nI_inc _ 1) ?_
          refine R_goto (tgt := 41) dX10_laysWords_63 (by decide) ?_
          -- X10_laysWords: ('stop', 41)
          refine ih (t + 1) h4 S4 (by omega) (by omega) x4 (o2.trans o4) w4 (fun y hy hyt => ?_) (g2.trans g4)
          by_cases e : y = t
          · rw [e]; exact dn4
          · exact k4 y hy (k2 y hy (by omega))
  have loop1 : ∀ m t h2 S2, t + m = 86 → MdAt E h2 M S2 → Ony [6, 7] [] S S2 → (∀ y, y < t → S2.2 6 y = nI (if y < 26 then 1 else 0) ∧ S2.2 7 y = nI 0) → Out h h2 M (M + 23) → WP E k_X10_laysWords 65 0 0 2 [some (.ref M), some (.int (nI t))] [] h2 (fun v h' => v = none ∧ Out h h' M (M + 23) ∧ ∃ S', MdAt E h' M S' ∧ Ony [6, 7] [] S S' ∧ WAll q.2 S') := by
    intro m
    induction m with
    | zero =>
      intro t h2 S2 ht x2 o2 k2 g2
      have dn : ∀ y, y < 26 → WDn q.2 S2 y := fun y hy => by
        have := k2 y (by omega)
        rw [if_pos hy] at this
        exact ⟨by rw [wlen_letter hy]; exact this.1, by rw [dpt_letter hy]; exact this.2⟩
      refine R_iload_n dX10_laysWords_2 rfl ?_
      refine R_bipush (v := nI 86) dX10_laysWords_3 (by decide) ?_
      refine R_icmp_ge_N (tgt := 38) dX10_laysWords_5 (by decide) (by omega) (by omega) (fun c5 => ?_) (fun c5 => ?_)
      -- X10_laysWords: ('branch', 5, 38, 8)
      · refine R_bipush (v := nI 26) dX10_laysWords_38 (by decide) ?_
        refine R_istore1 dX10_laysWords_40 (by decide) ?_
        -- X10_laysWords: ('stop', 41)
        refine loop2 60 26 h2 S2 (by omega) (by omega) x2 o2 (fun y hy => ?_) (fun y hy hy26 => dn y hy26) g2
        by_cases e : y < 26
        · exact Or.inr (dn y e)
        · have := (k2 y (by have := isSg_lt hy; omega)).1
          rw [if_neg e] at this
          exact Or.inl ⟨this, by omega⟩
      · exact absurd c5 (by omega)
    | succ m ih =>
      intro t h2 S2 ht x2 o2 k2 g2
      have body : ∀ v : Nat, v = (if t < 26 then 1 else 0) → WP E k_X10_laysWords 65 0 0 24 [some (.ref M), some (.int (nI t))] [.int (nI v), .int (nI t), .ref (M + 6)] h2 (fun v h' => v = none ∧ Out h h' M (M + 23) ∧ ∃ S', MdAt E h' M S' ∧ Ony [6, 7] [] S S' ∧ WAll q.2 S') := by
        intro v hv
        refine R_iastore_N dX10_laysWords_24 x2.a6 (by omega) (by omega) ?_
        -- X10_laysWords: ('put', 25)
        intro h3 u3
        have x3 := x2.s6 u3
        refine R_aload_n dX10_laysWords_25 rfl ?_
        refine R_get K_10 (f := 8) (by decide) dX10_laysWords_26 f_RX10_33 x3.1 rfl ?_
        refine R_iload_n dX10_laysWords_29 rfl ?_
        refine R_iconst (v := nI 0) dX10_laysWords_30 (by decide) ?_
        refine R_iastore_N dX10_laysWords_31 x3.a7 (by omega) (by omega) ?_
        -- X10_laysWords: ('put', 32)
        intro h4 u4
        have x4 := x3.s7 u4
        refine R_iinc1 dX10_laysWords_32 (by decide) (nI_inc _ 1) ?_
        refine R_goto (tgt := 2) dX10_laysWords_35 (by decide) ?_
        -- X10_laysWords: ('stop', 2)
        refine ih (t + 1) h4 _ (by omega) x4 ((o2.st (by decide)).st (by decide)) (fun y hy => ?_) ((g2.trans (Out.upd u3 (by omega) (by omega))).trans (Out.upd u4 (by omega) (by omega)))
        show upd (S2.2 6) t (nI v) y = _ ∧ upd (S2.2 7) t (nI 0) y = _
        by_cases e : y = t
        · rw [e, upd_at, upd_at, hv]; exact ⟨rfl, rfl⟩
        · rw [upd_ne e, upd_ne e]; exact k2 y (by omega)
      refine R_iload_n dX10_laysWords_2 rfl ?_
      refine R_bipush (v := nI 86) dX10_laysWords_3 (by decide) ?_
      refine R_icmp_ge_N (tgt := 38) dX10_laysWords_5 (by decide) (by omega) (by omega) (fun c5 => ?_) (fun c5 => ?_)
      -- X10_laysWords: ('branch', 5, 38, 8)
      · exact absurd c5 (by omega)
      · refine R_aload_n dX10_laysWords_8 rfl ?_
        refine R_get K_10 (f := 7) (by decide) dX10_laysWords_9 f_RX10_30 x2.1 rfl ?_
        refine R_iload_n dX10_laysWords_12 rfl ?_
        refine R_iload_n dX10_laysWords_13 rfl ?_
        refine R_bipush (v := nI 26) dX10_laysWords_14 (by decide) ?_
        refine R_icmp_ge_N (tgt := 23) dX10_laysWords_16 (by decide) (by omega) (by omega) (fun c16 => ?_) (fun c16 => ?_)
        -- X10_laysWords: ('branch', 16, 23, 19)
        · refine R_iconst (v := nI 0) dX10_laysWords_23 (by decide) ?_
          -- X10_laysWords: ('stop', 24)
          exact body 0 (by rw [if_neg (by omega)])
        · refine R_iconst (v := nI 1) dX10_laysWords_19 (by decide) ?_
          refine R_goto (tgt := 24) dX10_laysWords_20 (by decide) ?_
          -- X10_laysWords: ('stop', 24)
          exact body 1 (by rw [if_pos (by omega)])
  refine R_iconst (v := nI 0) dX10_laysWords_0 (by decide) ?_
  refine R_istore1 dX10_laysWords_1 (by decide) ?_
  -- X10_laysWords: ('stop', 2)
  exact loop1 86 0 h S (by omega) x Ony.refl (fun y hy => absurd hy (by omega)) Out.refl
theorem Md_laysOut0 {d s deep : Nat} {ls dp : List Nat} (h26 : s < 26) (x : MdAt E h M S) (lo : LOut S ls dp) (hl : ls.length < 240) : Spec E k_X10_laysOut d 0 0 [.ref M, .int (nI s), .int (nI deep)] h (fun v h' => v = none ∧ Out h h' M (M + 23) ∧ ∃ S', MdAt E h' M S' ∧ Ony [8, 9] [11] S S' ∧ LOut S' (ls ++ (wx q.2 s).map Prod.fst) (dp ++ (wx q.2 s).map (fun p => p.2 + deep))) := by
  rw [wx_letter h26]
  obtain ⟨l1, l2, l3, l4⟩ := lo
  refine Spec.of (by decide +kernel) (by simp [Value.category]) (Nat.le_of_ble_eq_true rfl) ?_
  show WP E k_X10_laysOut d 0 0 0 [some (.ref M), some (.int (nI s)), some (.int (nI deep)), none] [] h _
  refine R_iload_n dX10_laysOut_0 rfl ?_
  refine R_bipush (v := nI 26) dX10_laysOut_1 (by decide) ?_
  refine R_icmp_ge_N (tgt := 37) dX10_laysOut_3 (by decide) (by omega) (by omega) (fun c3 => ?_) (fun c3 => ?_)
  -- X10_laysOut: ('branch', 3, 37, 6)
  · exact absurd c3 (by omega)
  · refine R_aload_n dX10_laysOut_6 rfl ?_
    refine R_get K_10 (f := 9) (by decide) dX10_laysOut_7 f_RX10_36 x.1 rfl ?_
    refine R_aload_n dX10_laysOut_10 rfl ?_
    refine R_get K_10 (f := 11) (by decide) dX10_laysOut_11 f_RX10_120 x.1 (fld_get (k := 11) (by decide) l2) ?_
    refine R_iload_n dX10_laysOut_14 rfl ?_
    refine R_iastore_N dX10_laysOut_15 x.a8 (by omega) (by omega) ?_
    -- X10_laysOut: ('put', 16)
    intro h2 u2
    have x2 := x.s8 u2
    refine R_aload_n dX10_laysOut_16 rfl ?_
    refine R_get K_10 (f := 10) (by decide) dX10_laysOut_17 f_RX10_39 x2.1 rfl ?_
    refine R_aload_n dX10_laysOut_20 rfl ?_
    refine R_get K_10 (f := 11) (by decide) dX10_laysOut_21 f_RX10_120 x2.1 (fld_get (k := 11) (by decide) l2) ?_
    refine R_iload_n dX10_laysOut_24 rfl ?_
    refine R_iastore_N dX10_laysOut_25 x2.a9 (by omega) (by omega) ?_
    -- X10_laysOut: ('put', 26)
    intro h3 u3
    have x3 := x2.s9 u3
    refine R_aload_n dX10_laysOut_26 rfl ?_
    refine R_dup dX10_laysOut_27 rfl ?_
    refine R_get K_10 (f := 11) (by decide) dX10_laysOut_28 f_RX10_120 x3.1 (fld_get (k := 11) (by decide) l2) ?_
    refine R_iconst (v := nI 1) dX10_laysOut_31 (by decide) ?_
    refine R_iadd_N dX10_laysOut_32 ?_
    refine R_put_A K_10 (f := 11) (by decide) dX10_laysOut_33 f_RX10_120 rfl x3.1 (by rfl) (by rfl) (Nat.le_of_ble_eq_true rfl) ?_
    -- X10_laysOut: ('put', 36)
    intro h4 u4
    have x4 := x3.put u4 (by decide)
    refine R_return dX10_laysOut_36 rfl ?_
    -- X10_laysOut: ('ret', 36)
    refine ⟨rfl, ((Out.upd u2 (by omega) (by omega)).trans (Out.upd u3 (by omega) (by omega))).trans (Out.upd u4 (by omega) (by omega)), _, x4, ((Ony.refl.st (by decide)).st (by decide)).put (by decide), ?_, ?_, fun i y hy => ?_, fun i y hy => ?_⟩
    · rw [List.length_append, List.length_append, l1]; rfl
    · show nI (ls.length + 1) = _
      rw [List.length_append]; rfl
    · show upd (S.2 8) ls.length (nI s) i = nI y
      rcases snoc_get (l := ls) (a := s) hy with ⟨z1, z2⟩ | ⟨z1, z2⟩
      · rw [upd_ne (by omega)]; exact l3 i y z2
      · rw [z1, z2, upd_at]
    · show upd (S.2 9) ls.length (nI deep) i = nI y
      rcases snoc_get (l := dp) (a := deep) (by rw [show ([(s, 0)].map (fun p : Nat × Nat => p.2 + deep)) = [deep] from by simp] at hy; exact hy) with ⟨z1, z2⟩ | ⟨z1, z2⟩
      · rw [upd_ne (by omega)]; exact l4 i y z2
      · rw [z1, z2, l1, upd_at]
/-- a sign laid out behind what is laid out -/
theorem Md_laysOut (hq : PkOk q) : ∀ (n s deep : Nat) (ls dp : List Nat) (h : Hp) (S : MSt), isSg q.2 s → dpt q.2 s ≤ n → deep + n ≤ 1000 → MdAt E h M S → curF (S.2 1) q → LOut S ls dp → ls.length + wlen q.2 s ≤ 240 → Spec E k_X10_laysOut (n + 4) 0 0 [.ref M, .int (nI s), .int (nI deep)] h (fun v h' => v = none ∧ Out h h' M (M + 23) ∧ ∃ S', MdAt E h' M S' ∧ Ony [8, 9] [11] S S' ∧ LOut S' (ls ++ (wx q.2 s).map Prod.fst) (dp ++ (wx q.2 s).map (fun p => p.2 + deep))) := by
  intro n
  induction n with
  | zero =>
    intro s deep ls dp h S hs hd hdeep x c lo hl
    have h26 : s < 26 := by
      rcases hs with z | z
      · exact z
      · rw [dpt_rule hq.1.1 z] at hd; omega
    rw [wlen_letter h26] at hl
    exact Md_laysOut0 h26 x lo (by omega)
  | succ n ih =>
    intro s deep ls dp h S hs hd hdeep x c lo hl
    have h86 := isSg_lt hs
    by_cases h26 : s < 26
    · rw [wlen_letter h26] at hl
      exact Md_laysOut0 h26 x lo (by omega)
    have hr : isRul q.2 s := by
      rcases hs with z | z
      · exact absurd z h26
      · exact z
    have hro : rowOf q.2 s = q.2 (s - 26) := rowOf_in ⟨by omega, h86⟩
    have hrl := (c.2.2.2 (s - 26) (by omega)).1
    have hdr := dpt_rule hq.1.1 hr
    have hwr := wlen_rule hq.1.1 hr
    have hmem : ∀ y ∈ q.2 (s - 26), isSg q.2 y := fun y hy => acy_sg hq.1.1 (i := s - 26) (by omega) hy
    have e1 : (wx q.2 s).map Prod.fst = letL q.2 (q.2 (s - 26)) := by rw [wx_rule hq.1.1 hr, List.map_map, letL]; rfl
    have e2 : (wx q.2 s).map (fun p => p.2 + deep) = (dpL q.2 (q.2 (s - 26))).map (fun d => d + (deep + 1)) := by
      rw [wx_rule hq.1.1 hr, List.map_map, dpL, List.map_map]
      refine List.map_congr_left (fun p _ => ?_)
      show p.2 + 1 + deep = p.2 + (deep + 1)
      omega
    rw [e1, e2]
    refine Spec.of (by decide +kernel) (by simp [Value.category]) (Nat.le_of_ble_eq_true rfl) ?_
    show WP E k_X10_laysOut (n+1+4) 0 0 0 [some (.ref M), some (.int (nI s)), some (.int (nI deep)), none] [] h _
    have loop : ∀ m t h2 S2, t + m = (q.2 (s - 26)).length → MdAt E h2 M S2 → Ony [8, 9] [11] S S2 → LOut S2 (ls ++ letL q.2 ((q.2 (s - 26)).take t)) (dp ++ (dpL q.2 ((q.2 (s - 26)).take t)).map (fun d => d + (deep + 1))) → Out h h2 M (M + 23) → WP E k_X10_laysOut (n+1+4) 0 0 39 [some (.ref M), some (.int (nI s)), some (.int (nI deep)), some (.int (nI t))] [] h2 (fun v h' => v = none ∧ Out h h' M (M + 23) ∧ ∃ S', MdAt E h' M S' ∧ Ony [8, 9] [11] S S' ∧ LOut S' (ls ++ letL q.2 (q.2 (s - 26))) (dp ++ (dpL q.2 (q.2 (s - 26))).map (fun d => d + (deep + 1)))) := by
      intro m
      induction m with
      | zero =>
        intro t h2 S2 ht x2 o2 lo2 g2
        have c2 : curF (S2.2 1) q := by rw [o2.a1 (by decide)]; exact c
        refine R_iload_n dX10_laysOut_39 rfl ?_
        refine R_aload_n dX10_laysOut_40 rfl ?_
        refine R_iload_n dX10_laysOut_41 rfl ?_
        -- X10_laysOut: ('call', 42, '.invokevirtual', 106)
        refine R_callV v_X10_rowLong (Md_rowLong x2 c2 h86) dX10_laysOut_42 l_RX10_106 rfl rfl x2.1 (Nat.le_of_ble_eq_true rfl) (by omega) rfl rfl (fun v h3 hq => ?_)
        obtain ⟨rfl, e9⟩ := hq
        rw [e9, hro]
        refine R_icmp_ge_N (tgt := 67) dX10_laysOut_45 (by decide) (by omega) (by omega) (fun c45 => ?_) (fun c45 => ?_)
        -- X10_laysOut: ('branch', 45, 67, 48)
        · refine R_return dX10_laysOut_67 rfl ?_
          -- X10_laysOut: ('ret', 67)
          rw [List.take_of_length_le (by omega)] at lo2
          exact ⟨rfl, g2, S2, x2, o2, lo2⟩
        · exact absurd c45 (by omega)
      | succ m ih2 =>
        intro t h2 S2 ht x2 o2 lo2 g2
        have c2 : curF (S2.2 1) q := by rw [o2.a1 (by decide)]; exact c
        obtain ⟨y, hy⟩ := getE (l := q.2 (s - 26)) (i := t) (by omega)
        have hy2 : (rowOf q.2 s)[t]? = some y := by rw [hro]; exact hy
        have hys := hmem y (List.mem_of_getElem? hy)
        have hdy : dpt q.2 y ≤ n := by
          have := lmax_mem (f := dpt q.2) (List.mem_of_getElem? hy)
          omega
        have hsum : lsum (wlen q.2) ((q.2 (s - 26)).take t) + wlen q.2 y ≤ lsum (wlen q.2) (q.2 (s - 26)) := by
          have e := congrArg (lsum (wlen q.2)) (split_at hy)
          rw [lsum_app, lsum] at e
          omega
        refine R_iload_n dX10_laysOut_39 rfl ?_
        refine R_aload_n dX10_laysOut_40 rfl ?_
        refine R_iload_n dX10_laysOut_41 rfl ?_
        -- X10_laysOut: ('call', 42, '.invokevirtual', 106)
        refine R_callV v_X10_rowLong (Md_rowLong x2 c2 h86) dX10_laysOut_42 l_RX10_106 rfl rfl x2.1 (Nat.le_of_ble_eq_true rfl) (by omega) rfl rfl (fun v h3 hq => ?_)
        obtain ⟨rfl, e9⟩ := hq
        rw [e9, hro]
        refine R_icmp_ge_N (tgt := 67) dX10_laysOut_45 (by decide) (by omega) (by omega) (fun c45 => ?_) (fun c45 => ?_)
        -- X10_laysOut: ('branch', 45, 67, 48)
        · exact absurd c45 (by omega)
        · refine R_aload_n dX10_laysOut_48 rfl ?_
          refine R_aload_n dX10_laysOut_49 rfl ?_
          refine R_iload_n dX10_laysOut_50 rfl ?_
          refine R_iload_n dX10_laysOut_51 rfl ?_
          -- X10_laysOut: ('call', 52, '.invokevirtual', 113)
          refine R_callV v_X10_inRow (Md_inRow x2 c2 h86 hy2) dX10_laysOut_52 l_RX10_113 rfl rfl x2.1 (Nat.le_of_ble_eq_true rfl) (by omega) rfl rfl (fun v h3 hq => ?_)
          obtain ⟨rfl, e9⟩ := hq
          rw [e9]
          refine R_iload_n dX10_laysOut_55 rfl ?_
          refine R_iconst (v := nI 1) dX10_laysOut_56 (by decide) ?_
          refine R_iadd_N dX10_laysOut_57 ?_
          -- X10_laysOut: ('call', 58, '.invokevirtual', 130)
          refine R_callV v_X10_laysOut (ih y (deep + 1) _ _ h2 S2 hys hdy (by omega) x2 c2 lo2 (by rw [List.length_append, letL_len]; omega)) dX10_laysOut_58 l_RX10_130 rfl rfl x2.1 (Nat.le_of_ble_eq_true rfl) (by omega) rfl rfl (fun v h4 hq => ?_)
          obtain ⟨rfl, g4, S4, x4, o4, lo4⟩ := hq
          refine R_iinc3 dX10_laysOut_61 (by decide) (nI_inc _ 1) ?_
          refine R_goto (tgt := 39) dX10_laysOut_64 (by decide) ?_
          -- X10_laysOut: ('stop', 39)
          refine ih2 (t + 1) h4 S4 (by omega) x4 (o2.trans o4) ?_ (g2.trans g4)
          rw [take_snoc hy, letL_app, dpL_app, letL_one, dpL_one, List.map_append, List.map_map, ← List.append_assoc, ← List.append_assoc]
          exact lo4
    refine R_iload_n dX10_laysOut_0 rfl ?_
    refine R_bipush (v := nI 26) dX10_laysOut_1 (by decide) ?_
    refine R_icmp_ge_N (tgt := 37) dX10_laysOut_3 (by decide) (by omega) (by omega) (fun c3 => ?_) (fun c3 => ?_)
    -- X10_laysOut: ('branch', 3, 37, 6)
    · refine R_iconst (v := nI 0) dX10_laysOut_37 (by decide) ?_
      refine R_istore3 dX10_laysOut_38 (by decide) ?_
      -- X10_laysOut: ('stop', 39)
      refine loop (q.2 (s - 26)).length 0 h S (by omega) x Ony.refl ?_ Out.refl
      simpa [letL, dpL] using lo
    · exact absurd c3 (by omega)
theorem Md_laysText (hq : PkOk q) (x : MdAt E h M S) (c : curF (S.2 1) q) : Spec E k_X10_laysText 65 0 0 [.ref M] h (fun v h' => v = none ∧ Out h h' M (M + 23) ∧ ∃ S', MdAt E h' M S' ∧ Ony [8, 9] [11] S S' ∧ TxAt S' q) := by
  have hl240 := c.1
  refine Spec.of (by decide +kernel) (by simp [Value.category]) (Nat.le_of_ble_eq_true rfl) ?_
  show WP E k_X10_laysText 65 0 0 0 [some (.ref M), none] [] h _
  have loop : ∀ m t h2 S2, t + m = q.1.length → MdAt E h2 M S2 → Ony [8, 9] [11] S S2 → LOut S2 (letL q.2 (q.1.take t)) (dpL q.2 (q.1.take t)) → Out h h2 M (M + 23) → WP E k_X10_laysText 65 0 0 7 [some (.ref M), some (.int (nI t))] [] h2 (fun v h' => v = none ∧ Out h h' M (M + 23) ∧ ∃ S', MdAt E h' M S' ∧ Ony [8, 9] [11] S S' ∧ TxAt S' q) := by
    intro m
    induction m with
    | zero =>
      intro t h2 S2 ht x2 o2 lo2 g2
      have c2 : curF (S2.2 1) q := by rw [o2.a1 (by decide)]; exact c
      refine R_iload_n dX10_laysText_7 rfl ?_
      refine R_aload_n dX10_laysText_8 rfl ?_
      -- X10_laysText: ('call', 9, '.invokevirtual', 123)
      refine R_callV v_X10_many (Md_many x2 c2) dX10_laysText_9 l_RX10_123 rfl rfl x2.1 (Nat.le_of_ble_eq_true rfl) (by omega) rfl rfl (fun v h3 hq => ?_)
      obtain ⟨rfl, e9⟩ := hq
      rw [e9]
      refine R_icmp_ge_N (tgt := 31) dX10_laysText_12 (by decide) (by omega) (by omega) (fun c12 => ?_) (fun c12 => ?_)
      -- X10_laysText: ('branch', 12, 31, 15)
      · refine R_return dX10_laysText_31 rfl ?_
        -- X10_laysText: ('ret', 31)
        rw [List.take_of_length_le (by omega)] at lo2
        exact ⟨rfl, g2, S2, x2, o2, lo2⟩
      · exact absurd c12 (by omega)
    | succ m ih =>
      intro t h2 S2 ht x2 o2 lo2 g2
      have c2 : curF (S2.2 1) q := by rw [o2.a1 (by decide)]; exact c
      obtain ⟨y, hy⟩ := getE (l := q.1) (i := t) (by omega)
      have hys := hq.2.1 y (List.mem_of_getElem? hy)
      have hsum : lsum (wlen q.2) (q.1.take t) + wlen q.2 y ≤ lsum (wlen q.2) q.1 := by
        have e := congrArg (lsum (wlen q.2)) (split_at hy)
        rw [lsum_app, lsum] at e
        omega
      have hq240 := hq.2.2.1
      refine R_iload_n dX10_laysText_7 rfl ?_
      refine R_aload_n dX10_laysText_8 rfl ?_
      -- X10_laysText: ('call', 9, '.invokevirtual', 123)
      refine R_callV v_X10_many (Md_many x2 c2) dX10_laysText_9 l_RX10_123 rfl rfl x2.1 (Nat.le_of_ble_eq_true rfl) (by omega) rfl rfl (fun v h3 hq => ?_)
      obtain ⟨rfl, e9⟩ := hq
      rw [e9]
      refine R_icmp_ge_N (tgt := 31) dX10_laysText_12 (by decide) (by omega) (by omega) (fun c12 => ?_) (fun c12 => ?_)
      -- X10_laysText: ('branch', 12, 31, 15)
      · exact absurd c12 (by omega)
      · refine R_aload_n dX10_laysText_15 rfl ?_
        refine R_aload_n dX10_laysText_16 rfl ?_
        refine R_iload_n dX10_laysText_17 rfl ?_
        -- X10_laysText: ('call', 18, '.invokevirtual', 127)
        refine R_callV v_X10_signAt (Md_signAt x2 c2 hy) dX10_laysText_18 l_RX10_127 rfl rfl x2.1 (Nat.le_of_ble_eq_true rfl) (by omega) rfl rfl (fun v h3 hq => ?_)
        obtain ⟨rfl, e9⟩ := hq
        rw [e9]
        refine R_iconst (v := nI 0) dX10_laysText_21 (by decide) ?_
        -- X10_laysText: ('call', 22, '.invokevirtual', 130)
        refine R_callV v_X10_laysOut (Md_laysOut hq 60 y 0 _ _ h2 S2 hys (dpt_le q.2 y) (by omega) x2 c2 lo2 (by rw [letL_len]; omega)) dX10_laysText_22 l_RX10_130 rfl rfl x2.1 (Nat.le_of_ble_eq_true rfl) (by omega) rfl rfl (fun v h4 hq => ?_)
        obtain ⟨rfl, g4, S4, x4, o4, lo4⟩ := hq
        refine R_iinc1 dX10_laysText_25 (by decide) (nI_inc _ 1) ?_
        refine R_goto (tgt := 7) dX10_laysText_28 (by decide) ?_
        -- X10_laysText: ('stop', 7)
        refine ih (t + 1) h4 S4 (by omega) x4 (o2.trans o4) ?_ (g2.trans g4)
        rw [take_snoc hy, letL_app, dpL_app, letL_one, dpL_one]
        exact lo4
  refine R_aload_n dX10_laysText_0 rfl ?_
  refine R_iconst (v := nI 0) dX10_laysText_1 (by decide) ?_
  refine R_put_A K_10 (f := 11) (by decide) dX10_laysText_2 f_RX10_120 rfl x.1 (by rfl) (by rfl) (Nat.le_of_ble_eq_true rfl) ?_
  -- X10_laysText: ('put', 5)
  intro h2 u2
  have x2 := x.put u2 (by decide)
  refine R_iconst (v := nI 0) dX10_laysText_5 (by decide) ?_
  refine R_istore1 dX10_laysText_6 (by decide) ?_
  -- X10_laysText: ('stop', 7)
  refine loop q.1.length 0 h2 _ (by omega) x2 (Ony.refl.put (by decide)) ?_ (Out.upd u2 (by omega) (by omega))
  refine ⟨rfl, rfl, fun i y hy => by simp [letL] at hy, fun i y hy => by simp [dpL] at hy⟩
theorem Md_lettersMany (hq : PkOk q) (x : MdAt E h M S) (c : curF (S.2 1) q) : Spec E k_X10_lettersMany 66 0 0 [.ref M] h (fun v h' => v = some (.int (nI (letL q.2 q.1).length)) ∧ Out h h' M (M + 23) ∧ ∃ S', MdAt E h' M S' ∧ Ony [6, 7] [] S S' ∧ WAll q.2 S') := by
  have hl240 := c.1
  rw [letL_len]
  refine Spec.of (by decide +kernel) (by simp [Value.category]) (Nat.le_of_ble_eq_true rfl) ?_
  show WP E k_X10_lettersMany 66 0 0 0 [some (.ref M), none, none] [] h _
  refine R_aload_n dX10_lettersMany_0 rfl ?_
  -- X10_lettersMany: ('call', 1, '.invokevirtual', 134)
  refine R_callV v_X10_laysWords (Md_laysWords hq x c) dX10_lettersMany_1 l_RX10_134 rfl rfl x.1 (Nat.le_of_ble_eq_true rfl) (by omega) rfl rfl (fun v h2 hq => ?_)
  obtain ⟨rfl, g2, S2, x2, o2, w2⟩ := hq
  have c2 : curF (S2.2 1) q := by rw [o2.a1 (by decide)]; exact c
  have loop : ∀ m t, t + m = q.1.length → WP E k_X10_lettersMany 66 0 0 8 [some (.ref M), some (.int (nI (lsum (wlen q.2) (q.1.take t)))), some (.int (nI t))] [] h2 (fun v h' => v = some (.int (nI (lsum (wlen q.2) q.1))) ∧ Out h h' M (M + 23) ∧ ∃ S', MdAt E h' M S' ∧ Ony [6, 7] [] S S' ∧ WAll q.2 S') := by
    intro m
    induction m with
    | zero =>
      intro t ht
      refine R_iload_n dX10_lettersMany_8 rfl ?_
      refine R_aload_n dX10_lettersMany_9 rfl ?_
      -- X10_lettersMany: ('call', 10, '.invokevirtual', 123)
      refine R_callV v_X10_many (Md_many x2 c2) dX10_lettersMany_10 l_RX10_123 rfl rfl x2.1 (Nat.le_of_ble_eq_true rfl) (by omega) rfl rfl (fun v h3 hq => ?_)
      obtain ⟨rfl, e9⟩ := hq
      rw [e9]
      refine R_icmp_ge_N (tgt := 35) dX10_lettersMany_13 (by decide) (by omega) (by omega) (fun c13 => ?_) (fun c13 => ?_)
      -- X10_lettersMany: ('branch', 13, 35, 16)
      · refine R_iload_n dX10_lettersMany_35 rfl ?_
        refine R_ireturn dX10_lettersMany_36 rfl rfl ?_
        -- X10_lettersMany: ('ret', 36)
        exact ⟨by rw [List.take_of_length_le (by omega)], g2, S2, x2, o2, w2⟩
      · exact absurd c13 (by omega)
    | succ m ih =>
      intro t ht
      obtain ⟨y, hy⟩ := getE (l := q.1) (i := t) (by omega)
      have hys := hq.2.1 y (List.mem_of_getElem? hy)
      have h86 := isSg_lt hys
      have ih := ih (t + 1) (by omega)
      rw [take_snoc hy, lsum_app, lsum, lsum, Nat.add_zero] at ih
      refine R_iload_n dX10_lettersMany_8 rfl ?_
      refine R_aload_n dX10_lettersMany_9 rfl ?_
      -- X10_lettersMany: ('call', 10, '.invokevirtual', 123)
      refine R_callV v_X10_many (Md_many x2 c2) dX10_lettersMany_10 l_RX10_123 rfl rfl x2.1 (Nat.le_of_ble_eq_true rfl) (by omega) rfl rfl (fun v h3 hq => ?_)
      obtain ⟨rfl, e9⟩ := hq
      rw [e9]
      refine R_icmp_ge_N (tgt := 35) dX10_lettersMany_13 (by decide) (by omega) (by omega) (fun c13 => ?_) (fun c13 => ?_)
      -- X10_lettersMany: ('branch', 13, 35, 16)
      · exact absurd c13 (by omega)
      · refine R_iload_n dX10_lettersMany_16 rfl ?_
        refine R_aload_n dX10_lettersMany_17 rfl ?_
        refine R_get K_10 (f := 7) (by decide) dX10_lettersMany_18 f_RX10_30 x2.1 rfl ?_
        refine R_aload_n dX10_lettersMany_21 rfl ?_
        refine R_iload_n dX10_lettersMany_22 rfl ?_
        -- X10_lettersMany: ('call', 23, '.invokevirtual', 127)
        refine R_callV v_X10_signAt (Md_signAt x2 c2 hy) dX10_lettersMany_23 l_RX10_127 rfl rfl x2.1 (Nat.le_of_ble_eq_true rfl) (by omega) rfl rfl (fun v h3 hq => ?_)
        obtain ⟨rfl, e9⟩ := hq
        rw [e9]
        refine R_iaload_N dX10_lettersMany_26 x2.a6 (by omega) (by omega) (w2 y hys).1 ?_
        refine R_iadd_N dX10_lettersMany_27 ?_
        refine R_istore1 dX10_lettersMany_28 (by decide) ?_
        refine R_iinc2 dX10_lettersMany_29 (by decide) (nI_inc _ 1) ?_
        refine R_goto (tgt := 8) dX10_lettersMany_32 (by decide) ?_
        -- X10_lettersMany: ('stop', 8)
        exact ih
  refine R_iconst (v := nI 0) dX10_lettersMany_4 (by decide) ?_
  refine R_istore1 dX10_lettersMany_5 (by decide) ?_
  refine R_iconst (v := nI 0) dX10_lettersMany_6 (by decide) ?_
  refine R_istore2 dX10_lettersMany_7 (by decide) ?_
  -- X10_lettersMany: ('stop', 8)
  exact loop q.1.length 0 (by omega)
end MD2
