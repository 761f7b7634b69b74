/-! WORDS: told, learnt -/
section WORDSM2
variable {E : EnvT} {h : Hp} {W P : Nat} {sq : List Nat} {ru : Ru} {T : List Nat} {re le : Int32}
theorem lsum_letT {ru : Ru} {T : List Nat} : ∀ {l : List Nat}, (∀ x ∈ l, x < 26 ∨ x ∈ T) → lsum (letT ru T) l = lsum (wlen ru) l
  | [], _ => rfl
  | x :: l, h => by
    rw [lsum, lsum, lsum_letT (l := l) (fun y hy => h y (List.mem_cons_of_mem _ hy))]
    congr 1
    rw [letT]
    rcases h x List.mem_cons_self with hx | hx
    · rw [if_pos hx, wlen_letter hx]
    · split
      · rename_i h2; rw [wlen_letter h2]
      · rfl
theorem lmax_depT {ru : Ru} {T : List Nat} (hT : ∀ s ∈ T, isRul ru s) : ∀ {l : List Nat}, (∀ x ∈ l, x < 26 ∨ x ∈ T) → lmax (depT ru T) l = lmax (dpt ru) l
  | [], _ => rfl
  | x :: l, h => by
    rw [lmax, lmax, lmax_depT hT (l := l) (fun y hy => h y (List.mem_cons_of_mem _ hy))]
    congr 1
    rw [depT]
    rcases h x List.mem_cons_self with hx | hx
    · rw [if_neg (fun z => absurd (hT x z).1 (by omega)), dpt_letter hx]
    · rw [if_pos hx]
theorem lmax_le {f : Nat → Nat} {b : Nat} : ∀ {l : List Nat}, (∀ x ∈ l, f x ≤ b) → lmax f l ≤ b
  | [], _ => Nat.zero_le _
  | x :: l, h => by
    have := lmax_le (l := l) (fun y hy => h y (List.mem_cons_of_mem _ hy))
    have := h x List.mem_cons_self
    rw [lmax]; omega
theorem lsum_le {f : Nat → Nat} {b : Nat} : ∀ {l : List Nat}, (∀ x ∈ l, f x ≤ b) → lsum f l ≤ l.length * b
  | [], _ => by simp [lsum]
  | x :: l, h => by
    have := lsum_le (l := l) (fun y hy => h y (List.mem_cons_of_mem _ hy))
    have := h x List.mem_cons_self
    rw [lsum, List.length_cons, Nat.add_mul]; omega
theorem take_snoc {l : List Nat} {i x : Nat} (h : l[i]? = some x) : l.take (i + 1) = l.take i ++ [x] := by rw [List.take_add_one, h]; rfl
theorem Words_tell (hW : WOk ru) (hT : ∀ s ∈ T, isRul ru s) (hw : WordsT E h W ru T re le) {s r cap : Nat} {l : List Nat} (hs : isRul ru s) (hl : l = ru (s - 26)) (hR : RowAt E h r cap l) (hd : r + 2 ≤ W ∨ W + 5 ≤ r) (hin : s ∉ T) (hall : ∀ x ∈ l, x < 26 ∨ x ∈ T) (hlen : T.length < 60) : Spec E k_X8_tell 2 0 0 [.ref W, .int (nI s), .ref r] h (fun v h' => v = none ∧ WordsT E h' W ru (T ++ [s]) re le ∧ Out h h' W (W + 5)) := by
  have hcap := hR.2.1
  have hlc := hR.1
  have hs1 := hs.1
  have hs2 := hs.2.1
  have h86 : ∀ x ∈ l, x < 86 := fun x hx => (hall x hx).elim (fun z => by omega) (fun z => (hT x z).2.1)
  obtain ⟨h1, ⟨f, h2, hf⟩, ⟨g, h3, hg⟩, h4⟩ := id hw
  refine Spec.of (by decide +kernel) (by simp [Value.category]) (Nat.le_of_ble_eq_true rfl) ?_
  show WP E k_X8_tell 2 0 0 0 [some (.ref W), some (.int (nI s)), some (.ref r), none, none, none] [] h _
  have bS : ∀ i, lsum (letT ru T) (l.take i) ≤ 100000 * 240 := fun i => by
    have b1 := lsum_le (f := letT ru T) (b := 240) (l := l.take i) (fun x _ => letT_le hW hT x)
    have b2 : (l.take i).length * 240 ≤ 100000 * 240 := Nat.mul_le_mul (by simp; omega) (Nat.le_refl _)
    omega
  have bM : ∀ i, lmax (depT ru T) (l.take i) ≤ 60 := fun i => lmax_le (fun x _ => depT_le ru T x)
  have loop : ∀ m i, i + m = l.length → WP E k_X8_tell 2 0 0 19 [some (.ref W), some (.int (nI s)), some (.ref r), some (.int (nI (lsum (letT ru T) (l.take i)))), some (.int (nI (lmax (depT ru T) (l.take i)))), some (.int (nI i))] [] h (fun v h' => v = none ∧ WordsT E h' W ru (T ++ [s]) re le ∧ Out h h' W (W + 5)) := by
    intro m
    induction m with
    | zero =>
      intro i hi
      have hb := bM i
      rw [List.take_of_length_le (by omega)] at hb ⊢
      refine R_iload dX8_tell_19 rfl ?_
      refine R_aload_n dX8_tell_21 rfl ?_
      -- X8_tell: ('call', 22, '.invokevirtual', 55)
      refine R_callV v_X6_size (Row_size hR) dX8_tell_22 l_RX8_55 rfl rfl hR.2.2.1 (Nat.le_of_ble_eq_true rfl) (by omega) rfl rfl (fun v h1 hq => ?_)
      obtain ⟨rfl, rfl⟩ := hq
      refine R_icmp_ge_N (tgt := 64) dX8_tell_25 (by decide) (by omega) (by omega) (fun c25 => ?_) (fun c25 => ?_)
      -- X8_tell: ('branch', 25, 64, 28)
      · refine R_aload_n dX8_tell_64 rfl ?_
        refine R_get K_8 (f := 0) (by decide) dX8_tell_65 f_RX8_9 (by first | exact h1 | exact h2) rfl ?_
        refine R_iload_n dX8_tell_68 rfl ?_
        refine R_iload_n dX8_tell_69 rfl ?_
        refine R_iastore_N dX8_tell_70 (by first | exact h1 | exact h2) (by omega) (by omega) ?_
        -- X8_tell: ('put', 71)
        intro h5 u5
        have h1' := (u5.2.2 W (by omega)).trans h1
        have h3' := (u5.2.2 (W + 2) (by omega)).trans h3
        refine R_aload_n dX8_tell_71 rfl ?_
        refine R_get K_8 (f := 1) (by decide) dX8_tell_72 f_RX8_15 (by first | exact h1' | exact h3') rfl ?_
        refine R_iload_n dX8_tell_75 rfl ?_
        refine R_iload dX8_tell_76 rfl ?_
        refine R_iconst (v := nI 1) dX8_tell_78 (by decide) ?_
        refine R_iadd_N dX8_tell_79 ?_
        refine R_iastore_N dX8_tell_80 (by first | exact h1' | exact h3') (by omega) (by omega) ?_
        -- X8_tell: ('put', 81)
        intro h6 u6
        have h1'' := (u6.2.2 W (by omega)).trans h1'
        have o6 : Out _ h6 W (W + 3) := (Out.upd u5 (by omega) (by omega)).trans (Out.upd u6 (by omega) (by omega))
        have hR6 := h4.out o6 (by omega)
        refine R_aload_n dX8_tell_81 rfl ?_
        refine R_get K_8 (f := 2) (by decide) dX8_tell_82 f_RX8_23 h1'' rfl ?_
        refine R_iload_n dX8_tell_85 rfl ?_
        -- X8_tell: ('call', 86, '.invokevirtual', 82)
        refine R_callV v_X6_add (Row_add hR6 (x := s) (by omega) hlen) dX8_tell_86 l_RX8_82 rfl rfl hR6.2.2.1 (Nat.le_of_ble_eq_true rfl) (by omega) rfl rfl (fun v h1 hq => ?_)
        obtain ⟨rfl, hR7, o7⟩ := hq
        refine R_return dX8_tell_89 rfl ?_
        -- X8_tell: ('ret', 89)
        refine ⟨rfl, ⟨(o7.2 W (by omega)).trans h1'', ⟨_, (o7.2 _ (by omega)).trans ((u6.2.2 _ (by omega)).trans u5.2.1), fun q hq => ?_⟩, ⟨_, (o7.2 _ (by omega)).trans u6.2.1, fun q hq => ?_⟩, hR7⟩, (o6.mono (Nat.le_refl _) (by omega)).trans (o7.mono (by omega) (by omega))⟩
        · by_cases hqs : q = s
          · subst hqs
            rw [upd, if_pos rfl, letT, if_neg (by omega), if_pos (by simp), wlen_rule hW.1 hs, ← hl, lsum_letT hall]
          · rw [upd, if_neg hqs, hf q hq, letT, letT]
            simp [hqs]
        · by_cases hqs : q = s
          · subst hqs
            rw [upd, if_pos rfl, depT, if_pos (by simp), dpt_rule hW.1 hs, ← hl, lmax_depT hT hall]
          · rw [upd, if_neg hqs, hg q hq, depT, depT]
            simp [hqs]
      · exact absurd c25 (by omega)
    | succ m ih =>
      intro i hi
      obtain ⟨x, hx⟩ := getE (l := l) (i := i) (by omega)
      have hx86 := h86 x (List.mem_of_getElem? hx)
      have hle := letT_le hW hT x
      have hde := depT_le ru T x
      have b1 := bS i
      have b2 := bM i
      have := ih (i + 1) (by omega)
      rw [take_snoc hx, lsum_app, lmax_app] at this
      simp only [lsum, lmax, Nat.add_zero, Nat.max_zero] at this
      refine R_iload dX8_tell_19 rfl ?_
      refine R_aload_n dX8_tell_21 rfl ?_
      -- X8_tell: ('call', 22, '.invokevirtual', 55)
      refine R_callV v_X6_size (Row_size hR) dX8_tell_22 l_RX8_55 rfl rfl hR.2.2.1 (Nat.le_of_ble_eq_true rfl) (by omega) rfl rfl (fun v h1 hq => ?_)
      obtain ⟨rfl, rfl⟩ := hq
      refine R_icmp_ge_N (tgt := 64) dX8_tell_25 (by decide) (by omega) (by omega) (fun c25 => ?_) (fun c25 => ?_)
      -- X8_tell: ('branch', 25, 64, 28)
      · exact absurd c25 (by omega)
      · refine R_iload_n dX8_tell_28 rfl ?_
        refine R_aload_n dX8_tell_29 rfl ?_
        refine R_aload_n dX8_tell_30 rfl ?_
        refine R_iload dX8_tell_31 rfl ?_
        -- X8_tell: ('call', 33, '.invokevirtual', 59)
        refine R_callV v_X6_get (Row_get hR (nI i)) dX8_tell_33 l_RX8_59 rfl rfl hR.2.2.1 (Nat.le_of_ble_eq_true rfl) (by omega) rfl rfl (fun v h1 hq => ?_)
        obtain ⟨rfl, rfl⟩ := hq
        rw [rget_in (by omega) hx]
        refine R_callV v_X8_lettersOf (Words_lettersOf hw (s := x) (by omega)) dX8_tell_36 l_RX8_66 rfl rfl hw.1 (Nat.le_of_ble_eq_true rfl) (by omega) rfl rfl (fun v h1 hq => ?_)
        obtain ⟨rfl, rfl⟩ := hq
        rw [if_pos hx86]
        refine R_iadd_N dX8_tell_39 ?_
        refine R_istore3 dX8_tell_40 (by decide) ?_
        refine R_iload dX8_tell_41 rfl ?_
        refine R_aload_n dX8_tell_43 rfl ?_
        refine R_aload_n dX8_tell_44 rfl ?_
        refine R_iload dX8_tell_45 rfl ?_
        -- X8_tell: ('call', 47, '.invokevirtual', 59)
        refine R_callV v_X6_get (Row_get hR (nI i)) dX8_tell_47 l_RX8_59 rfl rfl hR.2.2.1 (Nat.le_of_ble_eq_true rfl) (by omega) rfl rfl (fun v h1 hq => ?_)
        obtain ⟨rfl, rfl⟩ := hq
        rw [rget_in (by omega) hx]
        refine R_callV v_X8_depthOf (Words_depthOf hw (s := x) (by omega)) dX8_tell_50 l_RX8_73 rfl rfl hw.1 (Nat.le_of_ble_eq_true rfl) (by omega) rfl rfl (fun v h1 hq => ?_)
        obtain ⟨rfl, rfl⟩ := hq
        rw [if_pos hx86]
        refine R_callS s_J9_max_7cf53 (J_max (a := lmax (depT ru T) (l.take i)) (b := depT ru T x) (by omega) (by omega)) dX8_tell_53 l_RX8_76 rfl rfl (Nat.le_of_ble_eq_true rfl) (by omega) rfl rfl (fun v h1 hq => ?_)
        obtain ⟨rfl, rfl⟩ := hq
        refine R_istore4 dX8_tell_56 (by decide) ?_
        refine R_iinc5 dX8_tell_58 (by decide) (nI_inc _ 1) ?_
        refine R_goto (tgt := 19) dX8_tell_61 (by decide) ?_
        -- X8_tell: ('stop', 19)
        exact this
  refine R_iload_n dX8_tell_0 rfl ?_
  refine R_if_lt_N (tgt := 10) dX8_tell_1 (by decide) (by omega) ?_
  refine R_iload_n dX8_tell_4 rfl ?_
  refine R_bipush (v := nI 86) dX8_tell_5 (by decide) ?_
  refine R_icmp_lt_N (tgt := 11) dX8_tell_7 (by decide) (by omega) (by omega) (fun c7 => ?_) (fun c7 => ?_)
  -- X8_tell: ('branch', 7, 11, 10)
  · refine R_iconst (v := nI 0) dX8_tell_11 (by decide) ?_
    refine R_istore3 dX8_tell_12 (by decide) ?_
    refine R_iconst (v := nI 0) dX8_tell_13 (by decide) ?_
    refine R_istore4 dX8_tell_14 (by decide) ?_
    refine R_iconst (v := nI 0) dX8_tell_16 (by decide) ?_
    refine R_istore5 dX8_tell_17 (by decide) ?_
    -- X8_tell: ('stop', 19)
    exact loop l.length 0 (by omega)
  · exact absurd c7 (by omega)
theorem Words_learn (hW : WOk ru) (hw : WordsAny E h W) (hP : PackAt E h P sq ru) (hd : P + 126 ≤ W ∨ W + 5 ≤ P) : Spec E k_X8_learn 4 0 0 [.ref W, .ref P] h (fun v h' => v = none ∧ (∃ re le, WordsT E h' W ru (ordS ru) re le) ∧ Out h h' W (W + 5)) := by
  obtain ⟨re, le, f0, g0, T0, a1, a2, a3, a4⟩ := hw
  refine Spec.of (by decide +kernel) (by simp [Value.category]) (Nat.le_of_ble_eq_true rfl) ?_
  show WP E k_X8_learn 4 0 0 0 [some (.ref W), some (.ref P), none, none] [] h _
  have loop2 : ∀ m i h2 T x3, i + m = 60 → ordF ru m T = ordS ru → GoodT ru T → T.length + untold ru T ≤ 60 → WordsT E h2 W ru T re le → Out h h2 W (W + 5) → WP E k_X8_learn 4 0 0 48 [some (.ref W), some (.ref P), some (.int (nI i)), x3] [] h2 (fun v h' => v = none ∧ (∃ re le, WordsT E h' W ru (ordS ru) re le) ∧ Out h h' W (W + 5)) := by
    intro m
    induction m with
    | zero =>
      intro i h2 T x3 hi he hT hl hw2 o2
      refine R_iload_n dX8_learn_48 rfl ?_
      refine R_bipush (v := nI 60) dX8_learn_49 (by decide) ?_
      refine R_icmp_ge_N (tgt := 82) dX8_learn_51 (by decide) (by omega) (by omega) (fun c51 => ?_) (fun c51 => ?_)
      -- X8_learn: ('branch', 51, 82, 54)
      · refine R_return dX8_learn_82 rfl ?_
        -- X8_learn: ('ret', 82)
        exact ⟨rfl, ⟨re, le, by rw [← he]; exact hw2⟩, o2⟩
      · exact absurd c51 (by omega)
    | succ m ih =>
      intro i h2 T x3 hi he hT hl hw2 o2
      have hP2 := hP.out o2 (by omega)
      refine R_iload_n dX8_learn_48 rfl ?_
      refine R_bipush (v := nI 60) dX8_learn_49 (by decide) ?_
      refine R_icmp_ge_N (tgt := 82) dX8_learn_51 (by decide) (by omega) (by omega) (fun c51 => ?_) (fun c51 => ?_)
      -- X8_learn: ('branch', 51, 82, 54)
      · exact absurd c51 (by omega)
      · refine R_aload_n dX8_learn_54 rfl ?_
        refine R_aload_n dX8_learn_55 rfl ?_
        -- X8_learn: ('call', 56, '.invokevirtual', 41)
        refine R_callV v_X8_leastReady (Words_leastReady hW hT.rul hw2 hP2) dX8_learn_56 l_RX8_41 rfl rfl hw2.1 (Nat.le_of_ble_eq_true rfl) (by omega) rfl rfl (fun v h1 hq => ?_)
        obtain ⟨rfl, rfl⟩ := hq
        cases hx : nxt ru T with
        | none =>
          show WP E k_X8_learn 4 0 0 59 [some (.ref W), some (.ref P), some (.int (nI i)), x3] [.int (-1)] _ _
          refine R_istore3 dX8_learn_59 (by decide) ?_
          refine R_iload_n dX8_learn_60 rfl ?_
          refine R_iconst (v := (-1)) dX8_learn_61 (by decide) ?_
          refine R_icmp_ne (tgt := 66) dX8_learn_62 (by decide) (fun c62 => ?_) (fun c62 => ?_)
          -- X8_learn: ('branch', 62, 66, 65)
          · exact absurd rfl c62
          · refine R_return dX8_learn_65 rfl ?_
            -- X8_learn: ('ret', 65)
            rw [ordF_none hx] at he
            exact ⟨rfl, ⟨re, le, by rw [← he]; exact hw2⟩, o2⟩
        | some j =>
          obtain ⟨hj, hr⟩ := nxt_some hx
          have hu := untold_snoc hj hr
          rw [ordF_some hx] at he
          show WP E k_X8_learn 4 0 0 59 [some (.ref W), some (.ref P), some (.int (nI i)), x3] [.int (nI (26 + j))] _ _
          refine R_istore3 dX8_learn_59 (by decide) ?_
          refine R_iload_n dX8_learn_60 rfl ?_
          refine R_iconst (v := (-1)) dX8_learn_61 (by decide) ?_
          refine R_icmp_ne (tgt := 66) dX8_learn_62 (by decide) (fun c62 => ?_) (fun c62 => ?_)
          -- X8_learn: ('branch', 62, 66, 65)
          · refine R_aload_n dX8_learn_66 rfl ?_
            refine R_iload_n dX8_learn_67 rfl ?_
            refine R_aload_n dX8_learn_68 rfl ?_
            refine R_iload_n dX8_learn_69 rfl ?_
            -- X8_learn: ('call', 70, '.invokevirtual', 45)
            refine R_callV v_X2_rowOf (Pack_rowOf hP2 (s := 26 + j) (by omega)) dX8_learn_70 l_RX8_45 rfl rfl hP2.1 (Nat.le_of_ble_eq_true rfl) (by omega) rfl rfl (fun v h1 hq => ?_)
            obtain ⟨rfl, rfl⟩ := hq
            rw [rowA_in (by omega), Nat.add_sub_cancel_left]
            have hrow := hP2.rul (i := j) (by omega)
            refine R_callV v_X8_tell (Words_tell hW hT.rul hw2 (s := 26 + j) ⟨by omega, by omega, by rw [Nat.add_sub_cancel_left]; exact hr.1⟩ (by rw [Nat.add_sub_cancel_left]) hrow (by omega) hr.2.1 hr.2.2 (by omega)) dX8_learn_73 l_RX8_51 rfl rfl hw2.1 (Nat.le_of_ble_eq_true rfl) (by omega) rfl rfl (fun v h1 hq => ?_)
            obtain ⟨rfl, hw3, o3⟩ := hq
            refine R_iinc2 dX8_learn_76 (by decide) (nI_inc _ 1) ?_
            refine R_goto (tgt := 48) dX8_learn_79 (by decide) ?_
            -- X8_learn: ('stop', 48)
            exact ih (i + 1) _ _ _ (by omega) he (hT.snoc hj hr) (by simp; omega) hw3 (o2.trans o3)
          · exact absurd c62 (nI_ne_m1 (by omega))
  have loop1 : ∀ m i h2 f g, i + m = 86 → h2.2 W = some (.inr (8, [.ref (W + 1), .ref (W + 2), .ref (W + 3), .int re, .int le])) → h2.2 (W + 1) = some (.inl (E.2.2.1 0, 86, .inl f)) → h2.2 (W + 2) = some (.inl (E.2.2.1 0, 86, .inl g)) → RowAt E h2 (W + 3) 60 [] → (∀ s, s < i → f s = nI (letT ru [] s)) → (∀ s, s < i → g s = nI (depT ru [] s)) → Out h h2 W (W + 5) → WP E k_X8_learn 4 0 0 9 [some (.ref W), some (.ref P), some (.int (nI i)), none] [] h2 (fun v h' => v = none ∧ (∃ re le, WordsT E h' W ru (ordS ru) re le) ∧ Out h h' W (W + 5)) := by
    intro m
    induction m with
    | zero =>
      intro i h2 f g hi b1 b2 b3 b4 hf hg o2
      refine R_iload_n dX8_learn_9 rfl ?_
      refine R_bipush (v := nI 86) dX8_learn_10 (by decide) ?_
      refine R_icmp_ge_N (tgt := 46) dX8_learn_12 (by decide) (by omega) (by omega) (fun c12 => ?_) (fun c12 => ?_)
      -- X8_learn: ('branch', 12, 46, 15)
      · refine R_iconst (v := nI 0) dX8_learn_46 (by decide) ?_
        refine R_istore2 dX8_learn_47 (by decide) ?_
        -- X8_learn: ('stop', 48)
        have hu := untold_le ru []
        exact loop2 60 0 h2 [] none (by omega) rfl GoodT.nil (by simpa using hu) ⟨b1, ⟨f, b2, fun s hs => hf s (by omega)⟩, ⟨g, b3, fun s hs => hg s (by omega)⟩, b4⟩ o2
      · exact absurd c12 (by omega)
    | succ m ih =>
      intro i h2 f g hi b1 b2 b3 b4 hf hg o2
      refine R_iload_n dX8_learn_9 rfl ?_
      refine R_bipush (v := nI 86) dX8_learn_10 (by decide) ?_
      refine R_icmp_ge_N (tgt := 46) dX8_learn_12 (by decide) (by omega) (by omega) (fun c12 => ?_) (fun c12 => ?_)
      -- X8_learn: ('branch', 12, 46, 15)
      · exact absurd c12 (by omega)
      · have rest : ∀ y, y = letT ru [] i → WP E k_X8_learn 4 0 0 32 [some (.ref W), some (.ref P), some (.int (nI i)), none] [.int (nI y), .int (nI i), .ref (W + 1)] h2 (fun v h' => v = none ∧ (∃ re le, WordsT E h' W ru (ordS ru) re le) ∧ Out h h' W (W + 5)) := by
          intro y hy
          refine R_iastore_N dX8_learn_32 b2 (by omega) (by omega) ?_
          -- X8_learn: ('put', 33)
          intro h3 u3
          have b1' := (u3.2.2 W (by omega)).trans b1
          have b3' := (u3.2.2 (W + 2) (by omega)).trans b3
          refine R_aload_n dX8_learn_33 rfl ?_
          refine R_get K_8 (f := 1) (by decide) dX8_learn_34 f_RX8_15 (by first | exact b1' | exact b3') rfl ?_
          refine R_iload_n dX8_learn_37 rfl ?_
          refine R_iconst (v := nI 0) dX8_learn_38 (by decide) ?_
          refine R_iastore_N dX8_learn_39 (by first | exact b1' | exact b3') (by omega) (by omega) ?_
          -- X8_learn: ('put', 40)
          intro h4 u4
          have o4 : Out h2 h4 W (W + 3) := (Out.upd u3 (by omega) (by omega)).trans (Out.upd u4 (by omega) (by omega))
          refine R_iinc2 dX8_learn_40 (by decide) (nI_inc _ 1) ?_
          refine R_goto (tgt := 9) dX8_learn_43 (by decide) ?_
          -- X8_learn: ('stop', 9)
          refine ih (i + 1) h4 _ _ (by omega) ((u4.2.2 W (by omega)).trans b1') ((u4.2.2 _ (by omega)).trans u3.2.1) u4.2.1 (b4.out o4 (by omega)) (fun s hs => ?_) (fun s hs => ?_) (o2.trans (o4.mono (Nat.le_refl _) (by omega)))
          · by_cases hsi : s = i
            · subst hsi; rw [upd, if_pos rfl, hy]
            · rw [upd, if_neg hsi]; exact hf s (by omega)
          · by_cases hsi : s = i
            · subst hsi; rw [upd, if_pos rfl]; simp [depT]
            · rw [upd, if_neg hsi]; exact hg s (by omega)
        refine R_aload_n dX8_learn_15 rfl ?_
        refine R_get K_8 (f := 0) (by decide) dX8_learn_16 f_RX8_9 (by first | exact b1 | exact b2) rfl ?_
        refine R_iload_n dX8_learn_19 rfl ?_
        refine R_iload_n dX8_learn_20 rfl ?_
        -- X8_learn: ('call', 21, '.invokestatic', 37)
        refine R_callSN s_X9_isLetter (isLetter_N (s := i) (by omega)) dX8_learn_21 l_RX8_37 rfl rfl (Nat.le_of_ble_eq_true rfl) (by omega) rfl rfl (fun v h1 hq => ?_)
        obtain ⟨rfl, rfl⟩ := hq
        by_cases hl : i < 26
        · rw [if_pos hl]
          refine R_if_eq_N (tgt := 31) dX8_learn_24 (by decide) (by omega) (fun c24 => ?_) (fun c24 => ?_)
          -- X8_learn: ('branch', 24, 31, 27)
          · exact absurd c24 (by decide)
          · refine R_iconst (v := nI 1) dX8_learn_27 (by decide) ?_
            refine R_goto (tgt := 32) dX8_learn_28 (by decide) ?_
            -- X8_learn: ('stop', 32)
            exact rest 1 (by rw [letT, if_pos hl])
        · rw [if_neg hl]
          refine R_if_eq_N (tgt := 31) dX8_learn_24 (by decide) (by omega) (fun c24 => ?_) (fun c24 => ?_)
          -- X8_learn: ('branch', 24, 31, 27)
          · refine R_iconst (v := nI 0) dX8_learn_31 (by decide) ?_
            -- X8_learn: ('stop', 32)
            exact rest 0 (by rw [letT, if_neg hl]; simp)
          · exact absurd rfl c24
  refine R_aload_n dX8_learn_0 rfl ?_
  refine R_get K_8 (f := 2) (by decide) dX8_learn_1 f_RX8_23 a1 rfl ?_
  -- X8_learn: ('call', 4, '.invokevirtual', 34)
  refine R_callV v_X6_clear (Row_clear a4) dX8_learn_4 l_RX8_34 rfl rfl a4.2.2.1 (Nat.le_of_ble_eq_true rfl) (by omega) rfl rfl (fun v h1 hq => ?_)
  obtain ⟨rfl, hR3, o3⟩ := hq
  refine R_iconst (v := nI 0) dX8_learn_7 (by decide) ?_
  refine R_istore2 dX8_learn_8 (by decide) ?_
  -- X8_learn: ('stop', 9)
  exact loop1 86 0 _ f0 g0 (by omega) ((o3.2 _ (by omega)).trans a1) ((o3.2 _ (by omega)).trans a2) ((o3.2 _ (by omega)).trans a3) hR3 (fun s hs => absurd hs (by omega)) (fun s hs => absurd hs (by omega)) (o3.mono (by omega) (by omega))
end WORDSM2
