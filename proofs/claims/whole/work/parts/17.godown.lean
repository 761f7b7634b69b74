/-! WORDS: going down -/
section GODOWN
variable {E : EnvT} {h : Hp} {W P : Nat} {sq : List Nat} {ru : Ru} {re le : Int32}
theorem letT_all {ru : Ru} (hA : Acy ru) {s : Nat} (hs : isSg ru s) : letT ru (ordS ru) s = wlen ru s := by
  rw [letT]
  rcases hs with h | h
  · rw [if_pos h, wlen_letter h]
  · rw [if_neg (by have := h.1; omega), if_pos (ordS_all hA h)]
theorem depT_all {ru : Ru} (hA : Acy ru) {s : Nat} (hs : isSg ru s) : depT ru (ordS ru) s = dpt ru s := by
  rw [depT]
  rcases hs with h | h
  · rw [if_neg (fun z => absurd ((ordS_good ru).1.rul s z).1 (by omega)), dpt_letter h]
  · rw [if_pos (ordS_all hA h)]
theorem isSg_lt {ru : Ru} {s : Nat} (hs : isSg ru s) : s < 86 := by rcases hs with h | h <;> omega
theorem Words_len (hW : WOk ru) (hw : WordsT E h W ru (ordS ru) re le) {s : Nat} (hs : isSg ru s) : Spec E k_X8_lettersOf 1 0 0 [.ref W, .int (nI s)] h (fun v h' => v = some (.int (nI (wlen ru s))) ∧ h' = h) := by
  have := Words_lettersOf hw (s := s) (by have := isSg_lt hs; omega)
  rwa [if_pos (isSg_lt hs), letT_all hW.1 hs] at this
theorem Words_dep (hW : WOk ru) (hw : WordsT E h W ru (ordS ru) re le) {s : Nat} (hs : isSg ru s) : Spec E k_X8_depthOf 1 0 0 [.ref W, .int (nI s)] h (fun v h' => v = some (.int (nI (dpt ru s))) ∧ h' = h) := by
  have := Words_depthOf hw (s := s) (by have := isSg_lt hs; omega)
  rwa [if_pos (isSg_lt hs), depT_all hW.1 hs] at this
theorem wlen_le {ru : Ru} (hW : WOk ru) {s : Nat} (hs : isSg ru s) : wlen ru s ≤ 240 := by
  rcases hs with h | h
  · rw [wlen_letter h]; omega
  · exact hW.2 s h
theorem WordsT.fld {T : List Nat} (hw : WordsT E h W ru T re le) {h1 : Hp} {re' le' : Int32} (u : Upd h h1 W (.inr (8, [.ref (W + 1), .ref (W + 2), .ref (W + 3), .int re', .int le']))) : WordsT E h1 W ru T re' le' := by
  have o : Out h h1 W (W + 1) := Out.upd u (by omega) (by omega)
  obtain ⟨h1, ⟨f, h2, h2'⟩, ⟨g, h3, h3'⟩, h4⟩ := hw
  exact ⟨u.2.1, ⟨f, (o.2 _ (by omega)).trans h2, h2'⟩, ⟨g, (o.2 _ (by omega)).trans h3, h3'⟩, h4.out o (by omega)⟩
theorem Words_goDown (hW : WOk ru) (hw : WordsT E h W ru (ordS ru) re le) (hP : PackAt E h P sq ru) (hd : P + 126 ≤ W ∨ W + 5 ≤ P) {s p most : Nat} (hs : isSg ru s) (hp : p < 2 ^ 31) (hm : most ≤ 1000) : Spec E k_X8_goDown 3 0 0 [.ref W, .ref P, .int (nI s), .int (nI p), .int (nI most)] h (fun v h' => v = none ∧ WordsT E h' W ru (ordS ru) (nI (lastD s (path ru most s p))) (nI (path ru most s p).length) ∧ Out h h' W (W + 5)) := by
  refine Spec.of (by decide +kernel) (by simp [Value.category]) (Nat.le_of_ble_eq_true rfl) ?_
  show WP E k_X8_goDown 3 0 0 0 [some (.ref W), some (.ref P), some (.int (nI s)), some (.int (nI p)), some (.int (nI most)), none, none, none] [] h _
  have loop : ∀ m h2 t q lv x6 x7, lv + m = most → isSg ru t → q ≤ p → WordsT E h2 W ru (ordS ru) (nI t) (nI lv) → Out h h2 W (W + 5) → lastD s (path ru most s p) = lastD t (path ru m t q) → (path ru most s p).length = lv + (path ru m t q).length → WP E k_X8_goDown 3 0 0 13 [some (.ref W), some (.ref P), some (.int (nI s)), some (.int (nI p)), some (.int (nI most)), some (.int (nI q)), x6, x7] [] h2 (fun v h' => v = none ∧ WordsT E h' W ru (ordS ru) (nI (lastD s (path ru most s p))) (nI (path ru most s p).length) ∧ Out h h' W (W + 5)) := by
    intro m
    induction m with
    | zero =>
      intro h2 t q lv x6 x7 hlv ht hqp hw2 o2 e1 e2
      refine R_aload_n dX8_goDown_13 rfl ?_
      refine R_get K_8 (f := 4) (by decide) dX8_goDown_14 f_RX8_31 hw2.1 rfl ?_
      refine R_iload dX8_goDown_17 rfl ?_
      refine R_icmp_ge_N (tgt := 120) dX8_goDown_19 (by decide) (by omega) (by omega) (fun c19 => ?_) (fun c19 => ?_)
      -- X8_goDown: ('branch', 19, 120, 22)
      · refine R_return dX8_goDown_120 rfl ?_
        -- X8_goDown: ('ret', 120)
        rw [e1, e2]
        exact ⟨rfl, hw2, o2⟩
      · exact absurd c19 (by omega)
    | succ m ih =>
      intro h2 t q lv x6 x7 hlv ht hqp hw2 o2 e1 e2
      have hP2 := hP.out o2 (by omega)
      have ht86 := isSg_lt ht
      refine R_aload_n dX8_goDown_13 rfl ?_
      refine R_get K_8 (f := 4) (by decide) dX8_goDown_14 f_RX8_31 hw2.1 rfl ?_
      refine R_iload dX8_goDown_17 rfl ?_
      refine R_icmp_ge_N (tgt := 120) dX8_goDown_19 (by decide) (by omega) (by omega) (fun c19 => ?_) (fun c19 => ?_)
      -- X8_goDown: ('branch', 19, 120, 22)
      · exact absurd c19 (by omega)
      · refine R_aload_n dX8_goDown_22 rfl ?_
        refine R_aload_n dX8_goDown_23 rfl ?_
        refine R_get K_8 (f := 3) (by decide) dX8_goDown_24 f_RX8_27 hw2.1 rfl ?_
        -- X8_goDown: ('call', 27, '.invokevirtual', 63)
        refine R_callV v_X2_isRule (Pack_isRule hP2 (s := t) (by omega)) dX8_goDown_27 l_RX8_63 rfl rfl hP2.1 (Nat.le_of_ble_eq_true rfl) (by omega) rfl rfl (fun v h1 hq => ?_)
        obtain ⟨rfl, e9⟩ := hq
        rw [e9]
        by_cases hr : isRul ru t
        · rw [if_pos hr]
          refine R_if_eq_N (tgt := 120) dX8_goDown_30 (by decide) (by omega) (fun c30 => ?_) (fun c30 => ?_)
          -- X8_goDown: ('branch', 30, 120, 33)
          · exact absurd c30 (by decide)
          · refine R_aload_n dX8_goDown_33 rfl ?_
            refine R_aload_n dX8_goDown_34 rfl ?_
            refine R_get K_8 (f := 3) (by decide) dX8_goDown_35 f_RX8_27 hw2.1 rfl ?_
            -- X8_goDown: ('call', 38, '.invokevirtual', 45)
            refine R_callV v_X2_rowOf (Pack_rowOf hP2 (s := t) (by omega)) dX8_goDown_38 l_RX8_45 rfl rfl hP2.1 (Nat.le_of_ble_eq_true rfl) (by omega) rfl rfl (fun v h1 hq => ?_)
            obtain ⟨rfl, e9⟩ := hq
            rw [e9]
            rw [rowA_in ⟨hr.1, hr.2.1⟩]
            have hrow := hP2.rul (i := t - 26) (by omega)
            have hrl := hrow.1
            have hr0 : 1 ≤ (ru (t - 26)).length := by
              have := mt List.length_eq_zero_iff.mp hr.2.2
              omega
            have inner : ∀ m2 i q2, i + m2 + 1 = (ru (t - 26)).length → q2 ≤ p → pickR (wlen ru) ((ru (t - 26)).drop i) q2 = pickR (wlen ru) (ru (t - 26)) q → WP E k_X8_goDown 3 0 0 46 [some (.ref W), some (.ref P), some (.int (nI s)), some (.int (nI p)), some (.int (nI most)), some (.int (nI q2)), some (.ref (P + 6 + 2 * (t - 26))), some (.int (nI i))] [] h2 (fun v h' => v = none ∧ WordsT E h' W ru (ordS ru) (nI (lastD s (path ru most s p))) (nI (path ru most s p).length) ∧ Out h h' W (W + 5)) := by
              intro m2
              induction m2 with
              | zero =>
                intro i q2 hi hq2 hpick
                obtain ⟨x, hx⟩ := getE (l := ru (t - 26)) (i := i) (by omega)
                have hxm := List.mem_of_getElem? hx
                have hdrop : (ru (t - 26)).drop i = [x] := by
                  obtain ⟨hlt, hv⟩ := List.getElem?_eq_some_iff.mp hx
                  rw [List.drop_eq_getElem_cons hlt, hv, List.drop_eq_nil_of_le (by omega)]
                rw [hdrop] at hpick
                have hpk : pickR (wlen ru) (ru (t - 26)) q = (x, q2) := hpick.symm
                refine R_iload dX8_goDown_46 rfl ?_
                refine R_aload dX8_goDown_48 rfl ?_
                -- X8_goDown: ('call', 50, '.invokevirtual', 55)
                refine R_callV v_X6_size (Row_size hrow) dX8_goDown_50 l_RX8_55 rfl rfl hrow.2.2.1 (Nat.le_of_ble_eq_true rfl) (by omega) rfl rfl (fun v h1 hq => ?_)
                obtain ⟨rfl, e9⟩ := hq
                rw [e9]
                refine R_iconst (v := nI 1) dX8_goDown_53 (by decide) ?_
                refine R_isub_N dX8_goDown_54 (by omega) ?_
                refine R_icmp_ge_N (tgt := 96) dX8_goDown_55 (by decide) (by omega) (by omega) (fun c55 => ?_) (fun c55 => ?_)
                -- X8_goDown: ('branch', 55, 96, 58)
                · refine R_aload_n dX8_goDown_96 rfl ?_
                  refine R_aload dX8_goDown_97 rfl ?_
                  refine R_iload dX8_goDown_99 rfl ?_
                  -- X8_goDown: ('call', 101, '.invokevirtual', 59)
                  refine R_callV v_X6_get (Row_get hrow (nI i)) dX8_goDown_101 l_RX8_59 rfl rfl hrow.2.2.1 (Nat.le_of_ble_eq_true rfl) (by omega) rfl rfl (fun v h1 hq => ?_)
                  obtain ⟨rfl, e9⟩ := hq
                  rw [e9]
                  rw [rget_in (by omega) hx]
                  refine R_put_A K_8 (f := 3) (by decide) dX8_goDown_104 f_RX8_27 rfl hw2.1 (by rfl) (by rfl) (Nat.le_of_ble_eq_true rfl) ?_
                  -- X8_goDown: ('put', 107)
                  intro h3 u3
                  have hw3 := hw2.fld u3
                  refine R_aload_n dX8_goDown_107 rfl ?_
                  refine R_dup dX8_goDown_108 rfl ?_
                  refine R_get K_8 (f := 4) (by decide) dX8_goDown_109 f_RX8_31 hw3.1 rfl ?_
                  refine R_iconst (v := nI 1) dX8_goDown_112 (by decide) ?_
                  refine R_iadd_N dX8_goDown_113 ?_
                  refine R_put_A K_8 (f := 4) (by decide) dX8_goDown_114 f_RX8_31 rfl hw3.1 (by rfl) (by rfl) (Nat.le_of_ble_eq_true rfl) ?_
                  -- X8_goDown: ('put', 117)
                  intro h4 u4
                  have hw4 := hw3.fld u4
                  have o4 : Out h h4 W (W + 5) := o2.trans (((Out.upd u3 (Nat.le_refl _) (Nat.lt_succ_self _)).trans (Out.upd u4 (Nat.le_refl _) (Nat.lt_succ_self _))).mono (Nat.le_refl _) (by omega))
                  refine R_goto (tgt := 13) dX8_goDown_117 (by decide) ?_
                  -- X8_goDown: ('stop', 13)
                  refine ih h4 x q2 (lv + 1) _ _ (by omega) (acy_sg hW.1 (by omega) hxm) hq2 hw4 o4 ?_ ?_
                  · rw [e1, path_succ hr, hpk]; rfl
                  · rw [e2, path_succ hr, hpk, List.length_cons]; show lv + ((path ru m x q2).length + 1) = _; omega
                · exact absurd c55 (by omega)
              | succ m2 ih2 =>
                intro i q2 hi hq2 hpick
                obtain ⟨x, hx⟩ := getE (l := ru (t - 26)) (i := i) (by omega)
                obtain ⟨y, hy⟩ := getE (l := ru (t - 26)) (i := i + 1) (by omega)
                have hxm := List.mem_of_getElem? hx
                have hxs := acy_sg hW.1 (show t - 26 < 60 by omega) hxm
                have hxl := wlen_le hW hxs
                have hdrop1 : (ru (t - 26)).drop (i + 1) = y :: (ru (t - 26)).drop (i + 2) := by
                  obtain ⟨hlt, hv⟩ := List.getElem?_eq_some_iff.mp hy
                  rw [List.drop_eq_getElem_cons hlt, hv]
                have hdrop : (ru (t - 26)).drop i = x :: y :: (ru (t - 26)).drop (i + 2) := by
                  obtain ⟨hlt, hv⟩ := List.getElem?_eq_some_iff.mp hx
                  rw [List.drop_eq_getElem_cons hlt, hv, hdrop1]
                rw [hdrop, pickR] at hpick
                refine R_iload dX8_goDown_46 rfl ?_
                refine R_aload dX8_goDown_48 rfl ?_
                -- X8_goDown: ('call', 50, '.invokevirtual', 55)
                refine R_callV v_X6_size (Row_size hrow) dX8_goDown_50 l_RX8_55 rfl rfl hrow.2.2.1 (Nat.le_of_ble_eq_true rfl) (by omega) rfl rfl (fun v h1 hq => ?_)
                obtain ⟨rfl, e9⟩ := hq
                rw [e9]
                refine R_iconst (v := nI 1) dX8_goDown_53 (by decide) ?_
                refine R_isub_N dX8_goDown_54 (by omega) ?_
                refine R_icmp_ge_N (tgt := 96) dX8_goDown_55 (by decide) (by omega) (by omega) (fun c55 => ?_) (fun c55 => ?_)
                -- X8_goDown: ('branch', 55, 96, 58)
                · exact absurd c55 (by omega)
                · refine R_iload dX8_goDown_58 rfl ?_
                  refine R_aload_n dX8_goDown_60 rfl ?_
                  refine R_aload dX8_goDown_61 rfl ?_
                  refine R_iload dX8_goDown_63 rfl ?_
                  -- X8_goDown: ('call', 65, '.invokevirtual', 59)
                  refine R_callV v_X6_get (Row_get hrow (nI i)) dX8_goDown_65 l_RX8_59 rfl rfl hrow.2.2.1 (Nat.le_of_ble_eq_true rfl) (by omega) rfl rfl (fun v h1 hq => ?_)
                  obtain ⟨rfl, e9⟩ := hq
                  rw [e9]
                  rw [rget_in (by omega) hx]
                  refine R_callV v_X8_lettersOf (Words_len hW hw2 hxs) dX8_goDown_68 l_RX8_66 rfl rfl hw2.1 (Nat.le_of_ble_eq_true rfl) (by omega) rfl rfl (fun v h1 hq => ?_)
                  obtain ⟨rfl, e9⟩ := hq
                  rw [e9]
                  refine R_icmp_lt_N (tgt := 96) dX8_goDown_71 (by decide) (by omega) (by omega) (fun c71 => ?_) (fun c71 => ?_)
                  -- X8_goDown: ('branch', 71, 96, 74)
                  · rw [if_neg (by omega)] at hpick
                    have hpk : pickR (wlen ru) (ru (t - 26)) q = (x, q2) := hpick.symm
                    refine R_aload_n dX8_goDown_96 rfl ?_
                    refine R_aload dX8_goDown_97 rfl ?_
                    refine R_iload dX8_goDown_99 rfl ?_
                    -- X8_goDown: ('call', 101, '.invokevirtual', 59)
                    refine R_callV v_X6_get (Row_get hrow (nI i)) dX8_goDown_101 l_RX8_59 rfl rfl hrow.2.2.1 (Nat.le_of_ble_eq_true rfl) (by omega) rfl rfl (fun v h1 hq => ?_)
                    obtain ⟨rfl, e9⟩ := hq
                    rw [e9]
                    rw [rget_in (by omega) hx]
                    refine R_put_A K_8 (f := 3) (by decide) dX8_goDown_104 f_RX8_27 rfl hw2.1 (by rfl) (by rfl) (Nat.le_of_ble_eq_true rfl) ?_
                    -- X8_goDown: ('put', 107)
                    intro h3 u3
                    have hw3 := hw2.fld u3
                    refine R_aload_n dX8_goDown_107 rfl ?_
                    refine R_dup dX8_goDown_108 rfl ?_
                    refine R_get K_8 (f := 4) (by decide) dX8_goDown_109 f_RX8_31 hw3.1 rfl ?_
                    refine R_iconst (v := nI 1) dX8_goDown_112 (by decide) ?_
                    refine R_iadd_N dX8_goDown_113 ?_
                    refine R_put_A K_8 (f := 4) (by decide) dX8_goDown_114 f_RX8_31 rfl hw3.1 (by rfl) (by rfl) (Nat.le_of_ble_eq_true rfl) ?_
                    -- X8_goDown: ('put', 117)
                    intro h4 u4
                    have hw4 := hw3.fld u4
                    have o4 : Out h h4 W (W + 5) := o2.trans (((Out.upd u3 (Nat.le_refl _) (Nat.lt_succ_self _)).trans (Out.upd u4 (Nat.le_refl _) (Nat.lt_succ_self _))).mono (Nat.le_refl _) (by omega))
                    refine R_goto (tgt := 13) dX8_goDown_117 (by decide) ?_
                    -- X8_goDown: ('stop', 13)
                    refine ih h4 x q2 (lv + 1) _ _ (by omega) hxs hq2 hw4 o4 ?_ ?_
                    · rw [e1, path_succ hr, hpk]; rfl
                    · rw [e2, path_succ hr, hpk, List.length_cons]; show lv + ((path ru m x q2).length + 1) = _; omega
                  · rw [if_pos c71] at hpick
                    refine R_iload dX8_goDown_74 rfl ?_
                    refine R_aload_n dX8_goDown_76 rfl ?_
                    refine R_aload dX8_goDown_77 rfl ?_
                    refine R_iload dX8_goDown_79 rfl ?_
                    -- X8_goDown: ('call', 81, '.invokevirtual', 59)
                    refine R_callV v_X6_get (Row_get hrow (nI i)) dX8_goDown_81 l_RX8_59 rfl rfl hrow.2.2.1 (Nat.le_of_ble_eq_true rfl) (by omega) rfl rfl (fun v h1 hq => ?_)
                    obtain ⟨rfl, e9⟩ := hq
                    rw [e9]
                    rw [rget_in (by omega) hx]
                    refine R_callV v_X8_lettersOf (Words_len hW hw2 hxs) dX8_goDown_84 l_RX8_66 rfl rfl hw2.1 (Nat.le_of_ble_eq_true rfl) (by omega) rfl rfl (fun v h1 hq => ?_)
                    obtain ⟨rfl, e9⟩ := hq
                    rw [e9]
                    refine R_isub_N dX8_goDown_87 (by omega) ?_
                    refine R_istore5 dX8_goDown_88 (by decide) ?_
                    refine R_iinc7 dX8_goDown_90 (by decide) (nI_inc _ 1) ?_
                    refine R_goto (tgt := 46) dX8_goDown_93 (by decide) ?_
                    -- X8_goDown: ('stop', 46)
                    exact ih2 (i + 1) (q2 - wlen ru x) (by omega) (by omega) (by rw [hdrop1]; exact hpick)
            refine R_astore6 dX8_goDown_41 (by decide) ?_
            refine R_iconst (v := nI 0) dX8_goDown_43 (by decide) ?_
            refine R_istore7 dX8_goDown_44 (by decide) ?_
            -- X8_goDown: ('stop', 46)
            exact inner ((ru (t - 26)).length - 1) 0 q (by omega) hqp (by rw [List.drop_zero])
        · rw [if_neg hr]
          refine R_if_eq_N (tgt := 120) dX8_goDown_30 (by decide) (by omega) (fun c30 => ?_) (fun c30 => ?_)
          -- X8_goDown: ('branch', 30, 120, 33)
          · refine R_return dX8_goDown_120 rfl ?_
            -- X8_goDown: ('ret', 120)
            rw [path_stop hr] at e1 e2
            rw [e1, e2]
            exact ⟨rfl, hw2, o2⟩
          · exact absurd rfl c30
  refine R_aload_n dX8_goDown_0 rfl ?_
  refine R_iload_n dX8_goDown_1 rfl ?_
  refine R_put_A K_8 (f := 3) (by decide) dX8_goDown_2 f_RX8_27 rfl hw.1 (by rfl) (by rfl) (Nat.le_of_ble_eq_true rfl) ?_
  -- X8_goDown: ('put', 5)
  intro h1 u1
  have hw1 := hw.fld u1
  refine R_aload_n dX8_goDown_5 rfl ?_
  refine R_iconst (v := nI 0) dX8_goDown_6 (by decide) ?_
  refine R_put_A K_8 (f := 4) (by decide) dX8_goDown_7 f_RX8_31 rfl hw1.1 (by rfl) (by rfl) (Nat.le_of_ble_eq_true rfl) ?_
  -- X8_goDown: ('put', 10)
  intro h2 u2
  have hw2 := hw1.fld u2
  have o2 : Out h h2 W (W + 5) := ((Out.upd u1 (Nat.le_refl _) (Nat.lt_succ_self _)).trans (Out.upd u2 (Nat.le_refl _) (Nat.lt_succ_self _))).mono (Nat.le_refl _) (by omega)
  refine R_iload_n dX8_goDown_10 rfl ?_
  refine R_istore5 dX8_goDown_11 (by decide) ?_
  -- X8_goDown: ('stop', 13)
  exact loop most h2 s p 0 none none (by omega) hs (Nat.le_refl _) hw2 o2 rfl (by omega)
end GODOWN
