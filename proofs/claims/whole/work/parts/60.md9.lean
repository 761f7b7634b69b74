/-! THE MODEL: places opened; letters put, cut, put in -/
def muS (ru : Ru) (x : Nat) : Nat := 2 * wlen ru x - 1
theorem mu_row {q : Pk} (hq : PkOk q) {x : Nat} (hx : isRul q.2 x) : lsum (muS q.2) (q.2 (x - 26)) + 1 ≤ muS q.2 x := by
  have h1 := hx.1
  have h2 := hx.2.1
  have key : ∀ l : List Nat, (∀ y ∈ l, isSg q.2 y) → lsum (muS q.2) l + l.length = 2 * lsum (wlen q.2) l := by
    intro l
    induction l with
    | nil => intro _; rfl
    | cons y t ih =>
      intro hl
      have := ih (fun z hz => hl z (List.mem_cons_of_mem _ hz))
      have hp := wlen_pos hq.1.1 (hl y List.mem_cons_self)
      rw [lsum, lsum, List.length_cons]
      have e : muS q.2 y = 2 * wlen q.2 y - 1 := rfl
      omega
  have := key (q.2 (x - 26)) (fun y hy => acy_sg hq.1.1 (i := x - 26) (by omega) hy)
  have hw := wlen_rule hq.1.1 hx
  have e : muS q.2 x = 2 * wlen q.2 x - 1 := rfl
  rcases hq.2.2.2 (x - 26) (by omega) with z | z
  · exact absurd z hx.2.2
  · omega
section MD9
variable {E : EnvT} {h h1 : Hp} {M : Nat} {S : MSt} {q : Pk} {ds : List Pk} {im : Nat → Pk} {md : Nat → Nat} {tp ph : List Nat} {fk fp : Int32}
theorem Md_inRowR (x : MdAt E h M S) {s i : Nat} {v0 : Int32} (h26 : 26 ≤ s) (h86 : s < 86) (hi : i < 100) (e : S.2 1 (241 + 13 * (s - 26) + 1 + i) = v0) : Spec E k_X10_inRow 2 0 0 [.ref M, .int (nI s), .int (nI i)] h (fun v h' => v = some (.int v0) ∧ h' = h) := by
  refine Spec.of (by decide +kernel) (by simp [Value.category]) (Nat.le_of_ble_eq_true rfl) ?_
  show WP E k_X10_inRow 2 0 0 0 [some (.ref M), some (.int (nI s)), some (.int (nI i))] [] h _
  refine R_aload_n dX10_inRow_0 rfl ?_
  refine R_get K_10 (f := 1) (by decide) dX10_inRow_1 f_RX10_13 x.1 rfl ?_
  refine R_iload_n dX10_inRow_4 rfl ?_
  -- X10_inRow: ('call', 5, '.invokestatic', 92)
  refine R_callS s_X10_rowAt (Md_rowAt h26) dX10_inRow_5 l_RX10_92 rfl rfl (Nat.le_of_ble_eq_true rfl) (by omega) rfl rfl (fun v h2 hq => ?_)
  obtain ⟨rfl, e9⟩ := hq
  rw [e9]
  refine R_iconst (v := nI 1) dX10_inRow_8 (by decide) ?_
  refine R_iadd_N dX10_inRow_9 ?_
  refine R_iload_n dX10_inRow_10 rfl ?_
  refine R_iadd_N dX10_inRow_11 ?_
  refine R_iaload_N dX10_inRow_12 x.a1 (by omega) (by omega) e ?_
  refine R_ireturn dX10_inRow_13 rfl rfl ?_
  -- X10_inRow: ('ret', 13)
  exact ⟨rfl, rfl⟩
theorem Md_opens (hq : PkOk q) (x : MdAt E h M S) (c : curF (S.2 1) q) {place : Nat} (hp : place ≤ lsum (wlen q.2) q.1) : Spec E k_X10_opens 66 0 0 [.ref M, .int (nI place)] h (fun v h' => Out h h' M (M + 23) ∧ ∃ n sq i, opD q.2 place n q.1 0 0 = some (sq, i) ∧ v = some (.int (nI i)) ∧ ∃ S', MdAt E h' M S' ∧ Ony [1, 6, 7] [] S S' ∧ curF (S'.2 1) (sq, q.2) ∧ ∀ k, 241 ≤ k → S'.2 1 k = S.2 1 k) := by
  have hq240 := hq.2.2.1
  refine Spec.of (by decide +kernel) (by simp [Value.category]) (Nat.le_of_ble_eq_true rfl) ?_
  show WP E k_X10_opens 66 0 0 0 [some (.ref M), some (.int (nI place)), none, none, none, none, none] [] h _
  refine R_aload_n dX10_opens_0 rfl ?_
  -- X10_opens: ('call', 1, '.invokevirtual', 134)
  refine R_callV v_X10_laysWords (Md_laysWords hq x c) dX10_opens_1 l_RX10_134 rfl rfl x.1 (Nat.le_of_ble_eq_true rfl) (by omega) rfl rfl (fun v h2 hq => ?_)
  obtain ⟨rfl, g2, S2, x2, o2, w2⟩ := hq
  have loop : ∀ m (sq : List Nat) i b h3 S3 (z4 z5 z6 : Option Value), lsum (muS q.2) (sq.drop i) ≤ m → (∀ y ∈ sq, isSg q.2 y) → lsum (wlen q.2) sq = lsum (wlen q.2) q.1 → b = lsum (wlen q.2) (sq.take i) → i ≤ sq.length → b ≤ place → (∀ n r, opD q.2 place n sq i b = some r → ∃ m, opD q.2 place m q.1 0 0 = some r) → MdAt E h3 M S3 → Ony [1] [] S2 S3 → curF (S3.2 1) (sq, q.2) → (∀ k, 241 ≤ k → S3.2 1 k = S2.2 1 k) → Out h h3 M (M + 23) → WP E k_X10_opens 66 0 0 8 [some (.ref M), some (.int (nI place)), some (.int (nI i)), some (.int (nI b)), z4, z5, z6] [] h3 (fun v h' => Out h h' M (M + 23) ∧ ∃ n sq i, opD q.2 place n q.1 0 0 = some (sq, i) ∧ v = some (.int (nI i)) ∧ ∃ S', MdAt E h' M S' ∧ Ony [1, 6, 7] [] S S' ∧ curF (S'.2 1) (sq, q.2) ∧ ∀ k, 241 ≤ k → S'.2 1 k = S.2 1 k) := by
    intro m
    induction m with
    | zero =>
      intro sq i b h3 S3 z4 z5 z6 hm hsg hls hb hi hbp hop x3 o3 c3 f3 g3
      have hil : i = sq.length := by
        by_cases e : i < sq.length
        · obtain ⟨y, hy⟩ := getE e
          have hd : sq.drop i = y :: sq.drop (i + 1) := by
            obtain ⟨l1, e1⟩ := List.getElem?_eq_some_iff.mp hy
            rw [List.drop_eq_getElem_cons l1, e1]
          have hwp := wlen_pos hq.1.1 (hsg y (List.mem_of_getElem? hy))
          rw [hd, lsum] at hm
          have e : muS q.2 y = 2 * wlen q.2 y - 1 := rfl
          omega
        · omega
      rw [hil, List.take_length] at hb
      refine R_iload_n dX10_opens_8 rfl ?_
      refine R_iload_n dX10_opens_9 rfl ?_
      refine R_icmp_ge_N (tgt := 149) dX10_opens_10 (by decide) (by omega) (by omega) (fun c10 => ?_) (fun c10 => ?_)
      -- X10_opens: ('branch', 10, 149, 13)
      · refine R_iload_n dX10_opens_149 rfl ?_
        refine R_ireturn dX10_opens_150 rfl rfl ?_
        -- X10_opens: ('ret', 150)
        obtain ⟨n, hn⟩ := hop 1 (sq, i) (by rw [opD, if_pos (by omega)])
        exact ⟨g3, n, sq, i, hn, rfl, S3, x3, (o2.mono (by decide) (by decide)).trans (o3.mono (by decide) (by decide)), c3, fun k hk => by rw [f3 k hk, o2.1 1 (by decide)]⟩
      · exact absurd c10 (by omega)
    | succ m ih =>
      intro sq i b h3 S3 z4 z5 z6 hm hsg hls hb hi hbp hop x3 o3 c3 f3 g3
      have hsl : sq.length ≤ 240 := c3.1
      refine R_iload_n dX10_opens_8 rfl ?_
      refine R_iload_n dX10_opens_9 rfl ?_
      refine R_icmp_ge_N (tgt := 149) dX10_opens_10 (by decide) (by omega) (by omega) (fun c10 => ?_) (fun c10 => ?_)
      -- X10_opens: ('branch', 10, 149, 13)
      · refine R_iload_n dX10_opens_149 rfl ?_
        refine R_ireturn dX10_opens_150 rfl rfl ?_
        -- X10_opens: ('ret', 150)
        obtain ⟨n, hn⟩ := hop 1 (sq, i) (by rw [opD, if_pos (by omega)])
        exact ⟨g3, n, sq, i, hn, rfl, S3, x3, (o2.mono (by decide) (by decide)).trans (o3.mono (by decide) (by decide)), c3, fun k hk => by rw [f3 k hk, o2.1 1 (by decide)]⟩
      · have hil : i < sq.length := by
          by_cases e : i < sq.length
          · exact e
          · rw [List.take_of_length_le (by omega)] at hb; omega
        obtain ⟨y, hy⟩ := getE hil
        have hys := hsg y (List.mem_of_getElem? hy)
        have hy86 := isSg_lt hys
        have hwp := wlen_pos hq.1.1 hys
        have hwl := wlen_le hq.1 hys
        have hgd := getD_of hy
        have ew : S3.2 6 y = nI (wlen q.2 y) := by rw [o3.1 6 (by decide)]; exact (w2 y hys).1
        have hd : sq.drop i = y :: sq.drop (i + 1) := by
          obtain ⟨l1, e1⟩ := List.getElem?_eq_some_iff.mp hy
          rw [List.drop_eq_getElem_cons l1, e1]
        rw [hd, lsum] at hm
        have emu : muS q.2 y = 2 * wlen q.2 y - 1 := rfl
        refine R_aload_n dX10_opens_13 rfl ?_
        refine R_iload_n dX10_opens_14 rfl ?_
        -- X10_opens: ('call', 15, '.invokevirtual', 127)
        refine R_callV v_X10_signAt (Md_signAt x3 c3 (i := i) (y := y) hy) dX10_opens_15 l_RX10_127 rfl rfl x3.1 (Nat.le_of_ble_eq_true rfl) (by omega) rfl rfl (fun v h4 hq => ?_)
        obtain ⟨rfl, e9⟩ := hq
        rw [e9]
        refine R_istore4 dX10_opens_18 (by decide) ?_
        refine R_iload_n dX10_opens_20 rfl ?_
        refine R_aload_n dX10_opens_21 rfl ?_
        refine R_get K_10 (f := 7) (by decide) dX10_opens_22 f_RX10_30 x3.1 rfl ?_
        refine R_iload dX10_opens_25 rfl ?_
        refine R_iaload_N dX10_opens_27 x3.a6 (by omega) (by omega) ew ?_
        refine R_iadd_N dX10_opens_28 ?_
        refine R_iload_n dX10_opens_29 rfl ?_
        refine R_icmp_gt_N (tgt := 49) dX10_opens_30 (by decide) (by omega) (by omega) (fun c30 => ?_) (fun c30 => ?_)
        -- X10_opens: ('branch', 30, 49, 33)
        · have hr : isRul q.2 y := by
            rcases hys with z | z
            · rw [wlen_letter z] at c30; omega
            · exact z
          have h26 := hr.1
          have hwr := wlen_rule hq.1.1 hr
          have hmr := mu_row hq hr
          have hro : rowOf q.2 y = q.2 (y - 26) := rowOf_in ⟨h26, hy86⟩
          have hr12 : (q.2 (y - 26)).length ≤ 12 := (c.2.2.2 (y - 26) (by omega)).1
          have hr2 : 2 ≤ (q.2 (y - 26)).length := by
            rcases hq.2.2.2 (y - 26) (by omega) with z | z
            · exact absurd z hr.2.2
            · exact z
          have hAl : (sq.take i).length = i := by rw [List.length_take]; omega
          have hsp := split_at hy
          have hls2 : lsum (wlen q.2) (sq.take i ++ q.2 (y - 26) ++ sq.drop (i + 1)) = lsum (wlen q.2) q.1 := by
            have := congrArg (lsum (wlen q.2)) hsp
            rw [lsum_app, lsum] at this
            rw [lsum_app, lsum_app, ← hwr]; omega
          have hsg2 : ∀ w ∈ sq.take i ++ q.2 (y - 26) ++ sq.drop (i + 1), isSg q.2 w := by
            intro w hw
            rcases List.mem_append.mp hw with z | z
            · rcases List.mem_append.mp z with z | z
              · exact hsg w (List.mem_of_mem_take z)
              · exact acy_sg hq.1.1 (i := y - 26) (by omega) z
            · exact hsg w (List.mem_of_mem_drop z)
          have hlen2 : (sq.take i ++ q.2 (y - 26) ++ sq.drop (i + 1)).length = sq.length + ((q.2 (y - 26)).length - 1) := by
            rw [List.length_append, List.length_append, hAl, List.length_drop]; omega
          have hl240 : (sq.take i ++ q.2 (y - 26) ++ sq.drop (i + 1)).length ≤ 240 := by
            have := lsum_len (f := wlen q.2) (fun w hw => wlen_pos hq.1.1 (hsg2 w hw))
            rw [hls2] at this; omega
          have fin : ∀ h7 S7 (z6 : Option Value), MdAt E h7 M S7 → Ony [1] [] S3 S7 → S7.2 1 0 = nI sq.length → (∀ j w, j < i → sq[j]? = some w → S7.2 1 (1 + j) = nI w) → (∀ j w, (q.2 (y - 26))[j]? = some w → S7.2 1 (1 + i + j) = nI w) → (∀ j w, i < j → sq[j]? = some w → S7.2 1 (1 + j + ((q.2 (y - 26)).length - 1)) = nI w) → (∀ k, 241 ≤ k → S7.2 1 k = S3.2 1 k) → Out h3 h7 M (M + 23) → WP E k_X10_opens 66 0 0 135 [some (.ref M), some (.int (nI place)), some (.int (nI i)), some (.int (nI b)), some (.int (nI y)), some (.int (nI ((q.2 (y - 26)).length - 1))), z6] [] h7 (fun v h' => Out h h' M (M + 23) ∧ ∃ n sq i, opD q.2 place n q.1 0 0 = some (sq, i) ∧ v = some (.int (nI i)) ∧ ∃ S', MdAt E h' M S' ∧ Ony [1, 6, 7] [] S S' ∧ curF (S'.2 1) (sq, q.2) ∧ ∀ k, 241 ≤ k → S'.2 1 k = S.2 1 k) := by
            intro h7 S7 z6 x7 o7 e0 eA eB eC f7 g7
            refine R_aload_n dX10_opens_135 rfl ?_
            refine R_get K_10 (f := 1) (by decide) dX10_opens_136 f_RX10_13 x7.1 rfl ?_
            refine R_iconst (v := nI 0) dX10_opens_139 (by decide) ?_
            refine R_dup2 dX10_opens_140 rfl rfl ?_
            refine R_iaload_N dX10_opens_141 x7.a1 (by omega) (by omega) e0 ?_
            refine R_iload dX10_opens_142 rfl ?_
            refine R_iadd_N dX10_opens_144 ?_
            refine R_iastore_N dX10_opens_145 x7.a1 (by omega) (by omega) ?_
            -- X10_opens: ('put', 146)
            intro h8 u8
            have x8 := x7.s1 u8
            refine R_goto (tgt := 8) dX10_opens_146 (by decide) ?_
            -- X10_opens: ('stop', 8)
            refine ih (sq.take i ++ q.2 (y - 26) ++ sq.drop (i + 1)) i b h8 _ _ _ _ ?_ hsg2 hls2 ?_ (by omega) hbp (fun n r hr9 => ?_) x8 ((o3.trans o7).st (by decide)) ?_ (fun k hk => ?_) ((g3.trans g7).trans (Out.upd u8 (by omega) (by omega)))
            · rw [List.append_assoc, List.drop_append_of_le_length (by omega), List.drop_of_length_le (by omega), List.nil_append, lsum_app]
              omega
            · rw [List.append_assoc, List.take_left' hAl]; exact hb
            · refine hop (n + 1) r ?_
              rw [opD, if_neg (by omega), hgd, if_neg (by omega), hro]; exact hr9
            · refine c3.setSeq (q := (sq, q.2)) (l := sq.take i ++ q.2 (y - 26) ++ sq.drop (i + 1)) hl240 ?_ (fun j w hw => ?_) (fun k hk1 hk2 => ?_)
              · rw [hlen2]; exact upd_at (f := S7.2 1) (k := 0) (x := nI (sq.length + ((q.2 (y - 26)).length - 1)))
              · show upd (S7.2 1) 0 _ (1 + j) = nI w
                rw [upd_ne (by omega)]
                by_cases j1 : j < i
                · rw [List.append_assoc, List.getElem?_append_left (by omega), List.getElem?_take_of_lt j1] at hw
                  exact eA j w j1 hw
                · by_cases j2 : j < i + (q.2 (y - 26)).length
                  · rw [List.append_assoc, List.getElem?_append_right (by omega), hAl, List.getElem?_append_left (by omega)] at hw
                    have := eB (j - i) w hw
                    rwa [show 1 + i + (j - i) = 1 + j by omega] at this
                  · rw [List.getElem?_append_right (by rw [List.length_append]; omega), List.length_append, hAl, List.getElem?_drop] at hw
                    have := eC (i + 1 + (j - (i + (q.2 (y - 26)).length))) w (by omega) hw
                    rwa [show 1 + (i + 1 + (j - (i + (q.2 (y - 26)).length))) + ((q.2 (y - 26)).length - 1) = 1 + j by omega] at this
              · show upd (S7.2 1) 0 _ k = _
                rw [upd_ne (by omega)]; exact f7 k hk1
            · show upd (S7.2 1) 0 _ k = _
              rw [upd_ne (by omega), f7 k hk]; exact f3 k hk
          have rowl : ∀ m2 j h7 S7, j + m2 = (q.2 (y - 26)).length → MdAt E h7 M S7 → Ony [1] [] S3 S7 → S7.2 1 0 = nI sq.length → (∀ j w, j < i → sq[j]? = some w → S7.2 1 (1 + j) = nI w) → (∀ j2 w, j2 < j → (q.2 (y - 26))[j2]? = some w → S7.2 1 (1 + i + j2) = nI w) → (∀ j w, i < j → sq[j]? = some w → S7.2 1 (1 + j + ((q.2 (y - 26)).length - 1)) = nI w) → (∀ k, 241 ≤ k → S7.2 1 k = S3.2 1 k) → Out h3 h7 M (M + 23) → WP E k_X10_opens 66 0 0 103 [some (.ref M), some (.int (nI place)), some (.int (nI i)), some (.int (nI b)), some (.int (nI y)), some (.int (nI ((q.2 (y - 26)).length - 1))), some (.int (nI j))] [] h7 (fun v h' => Out h h' M (M + 23) ∧ ∃ n sq i, opD q.2 place n q.1 0 0 = some (sq, i) ∧ v = some (.int (nI i)) ∧ ∃ S', MdAt E h' M S' ∧ Ony [1, 6, 7] [] S S' ∧ curF (S'.2 1) (sq, q.2) ∧ ∀ k, 241 ≤ k → S'.2 1 k = S.2 1 k) := by
            intro m2
            induction m2 with
            | zero =>
              intro j h7 S7 hj x7 o7 e0 eA eB eC f7 g7
              refine R_iload dX10_opens_103 rfl ?_
              refine R_iload dX10_opens_105 rfl ?_
              refine R_icmp_gt_N (tgt := 135) dX10_opens_107 (by decide) (by omega) (by omega) (fun c107 => ?_) (fun c107 => ?_)
              -- X10_opens: ('branch', 107, 135, 110)
              · exact fin h7 S7 _ x7 o7 e0 eA (fun j2 w hw => eB j2 w (by have := (List.getElem?_eq_some_iff.mp hw).1; omega) hw) eC f7 g7
              · exact absurd c107 (by omega)
            | succ m2 ih2 =>
              intro j h7 S7 hj x7 o7 e0 eA eB eC f7 g7
              obtain ⟨w, hw⟩ := getE (l := q.2 (y - 26)) (i := j) (by omega)
              have er : S7.2 1 (241 + 13 * (y - 26) + 1 + j) = nI w := by
                rw [f7 _ (by omega)]
                exact c3.rx (q := (sq, q.2)) (r := y - 26) (by omega) hw
              refine R_iload dX10_opens_103 rfl ?_
              refine R_iload dX10_opens_105 rfl ?_
              refine R_icmp_gt_N (tgt := 135) dX10_opens_107 (by decide) (by omega) (by omega) (fun c107 => ?_) (fun c107 => ?_)
              -- X10_opens: ('branch', 107, 135, 110)
              · exact absurd c107 (by omega)
              · refine R_aload_n dX10_opens_110 rfl ?_
                refine R_get K_10 (f := 1) (by decide) dX10_opens_111 f_RX10_13 x7.1 rfl ?_
                refine R_iconst (v := nI 1) dX10_opens_114 (by decide) ?_
                refine R_iload_n dX10_opens_115 rfl ?_
                refine R_iadd_N dX10_opens_116 ?_
                refine R_iload dX10_opens_117 rfl ?_
                refine R_iadd_N dX10_opens_119 ?_
                refine R_aload_n dX10_opens_120 rfl ?_
                refine R_iload dX10_opens_121 rfl ?_
                refine R_iload dX10_opens_123 rfl ?_
                -- X10_opens: ('call', 125, '.invokevirtual', 113)
                refine R_callV v_X10_inRow (Md_inRowR x7 h26 hy86 (by omega) er) dX10_opens_125 l_RX10_113 rfl rfl x7.1 (Nat.le_of_ble_eq_true rfl) (by omega) rfl rfl (fun v h8 hq => ?_)
                obtain ⟨rfl, e9⟩ := hq
                rw [e9]
                refine R_iastore_N dX10_opens_128 x7.a1 (by omega) (by omega) ?_
                -- X10_opens: ('put', 129)
                intro h9 u9
                have x9 := x7.s1 u9
                refine R_iinc6 dX10_opens_129 (by decide) (nI_inc _ 1) ?_
                refine R_goto (tgt := 103) dX10_opens_132 (by decide) ?_
                -- X10_opens: ('stop', 103)
                refine ih2 (j + 1) h9 _ (by omega) x9 (o7.st (by decide)) ?_ (fun a u ha hu => ?_) (fun a u ha hu => ?_) (fun a u ha hu => ?_) (fun k hk => ?_) (g7.trans (Out.upd u9 (by omega) (by omega)))
                · show upd (S7.2 1) (1 + i + j) _ 0 = _
                  rw [upd_ne (by omega)]; exact e0
                · show upd (S7.2 1) (1 + i + j) _ (1 + a) = nI u
                  rw [upd_ne (by omega)]; exact eA a u ha hu
                · show upd (S7.2 1) (1 + i + j) (nI w) (1 + i + a) = nI u
                  by_cases e : a = j
                  · rw [e, upd_at]
                    rw [e, hw] at hu
                    rw [Option.some.inj hu]
                  · rw [upd_ne (by omega)]; exact eB a u (by omega) hu
                · show upd (S7.2 1) (1 + i + j) _ (1 + a + _) = nI u
                  rw [upd_ne (by omega)]; exact eC a u ha hu
                · show upd (S7.2 1) (1 + i + j) _ k = _
                  rw [upd_ne (by omega)]; exact f7 k hk
          have shift : ∀ k h7 S7, i + k < sq.length → MdAt E h7 M S7 → Ony [1] [] S3 S7 → S7.2 1 0 = nI sq.length → (∀ j w, j ≤ i + k → sq[j]? = some w → S7.2 1 (1 + j) = nI w) → (∀ j w, i + k < j → sq[j]? = some w → S7.2 1 (1 + j + ((q.2 (y - 26)).length - 1)) = nI w) → (∀ k, 241 ≤ k → S7.2 1 k = S3.2 1 k) → Out h3 h7 M (M + 23) → WP E k_X10_opens 66 0 0 67 [some (.ref M), some (.int (nI place)), some (.int (nI i)), some (.int (nI b)), some (.int (nI y)), some (.int (nI ((q.2 (y - 26)).length - 1))), some (.int (nI (i + k)))] [] h7 (fun v h' => Out h h' M (M + 23) ∧ ∃ n sq i, opD q.2 place n q.1 0 0 = some (sq, i) ∧ v = some (.int (nI i)) ∧ ∃ S', MdAt E h' M S' ∧ Ony [1, 6, 7] [] S S' ∧ curF (S'.2 1) (sq, q.2) ∧ ∀ k, 241 ≤ k → S'.2 1 k = S.2 1 k) := by
            intro k
            induction k with
            | zero =>
              intro h7 S7 hk x7 o7 e0 eA eC f7 g7
              refine R_iload dX10_opens_67 rfl ?_
              refine R_iload_n dX10_opens_69 rfl ?_
              refine R_icmp_le_N (tgt := 100) dX10_opens_70 (by decide) (by omega) (by omega) (fun c70 => ?_) (fun c70 => ?_)
              -- X10_opens: ('branch', 70, 100, 73)
              · refine R_iconst (v := nI 0) dX10_opens_100 (by decide) ?_
                refine R_istore6 dX10_opens_101 (by decide) ?_
                -- X10_opens: ('stop', 103)
                exact rowl (q.2 (y - 26)).length 0 h7 S7 (by omega) x7 o7 e0 (fun j w hj hw => eA j w (by omega) hw) (fun j w hj => absurd hj (by omega)) (fun j w hj hw => eC j w (by omega) hw) f7 g7
              · exact absurd c70 (by omega)
            | succ k ih2 =>
              intro h7 S7 hk x7 o7 e0 eA eC f7 g7
              obtain ⟨w, hw⟩ := getE (l := sq) (i := i + (k + 1)) (by omega)
              have ewv := eA (i + (k + 1)) w (Nat.le_refl _) hw
              refine R_iload dX10_opens_67 rfl ?_
              refine R_iload_n dX10_opens_69 rfl ?_
              refine R_icmp_le_N (tgt := 100) dX10_opens_70 (by decide) (by omega) (by omega) (fun c70 => ?_) (fun c70 => ?_)
              -- X10_opens: ('branch', 70, 100, 73)
              · exact absurd c70 (by omega)
              · refine R_aload_n dX10_opens_73 rfl ?_
                refine R_get K_10 (f := 1) (by decide) dX10_opens_74 f_RX10_13 x7.1 rfl ?_
                refine R_iconst (v := nI 1) dX10_opens_77 (by decide) ?_
                refine R_iload dX10_opens_78 rfl ?_
                refine R_iadd_N dX10_opens_80 ?_
                refine R_iload dX10_opens_81 rfl ?_
                refine R_iadd_N dX10_opens_83 ?_
                refine R_aload_n dX10_opens_84 rfl ?_
                refine R_get K_10 (f := 1) (by decide) dX10_opens_85 f_RX10_13 x7.1 rfl ?_
                refine R_iconst (v := nI 1) dX10_opens_88 (by decide) ?_
                refine R_iload dX10_opens_89 rfl ?_
                refine R_iadd_N dX10_opens_91 ?_
                refine R_iaload_N dX10_opens_92 x7.a1 (by omega) (by omega) ewv ?_
                refine R_iastore_N dX10_opens_93 x7.a1 (by omega) (by omega) ?_
                -- X10_opens: ('put', 94)
                intro h8 u8
                have x8 := x7.s1 u8
                refine R_iinc6 dX10_opens_94 (by decide) (nI_sub1 (by omega)) ?_
                refine R_goto (tgt := 67) dX10_opens_97 (by decide) ?_
                -- X10_opens: ('stop', 67)
                rw [show i + (k + 1) - 1 = i + k by omega]
                refine ih2 h8 _ (by omega) x8 (o7.st (by decide)) ?_ (fun j u hj hu => ?_) (fun j u hj hu => ?_) (fun k2 hk2 => ?_) (g7.trans (Out.upd u8 (by omega) (by omega)))
                · show upd (S7.2 1) (1 + (i + (k + 1)) + _) _ 0 = _
                  rw [upd_ne (by omega)]; exact e0
                · show upd (S7.2 1) (1 + (i + (k + 1)) + _) _ (1 + j) = nI u
                  rw [upd_ne (by omega)]; exact eA j u (by omega) hu
                · show upd (S7.2 1) (1 + (i + (k + 1)) + ((q.2 (y - 26)).length - 1)) (nI w) (1 + j + ((q.2 (y - 26)).length - 1)) = nI u
                  by_cases e : j = i + (k + 1)
                  · rw [e, upd_at]
                    rw [e, hw] at hu
                    rw [Option.some.inj hu]
                  · rw [upd_ne (by omega)]; exact eC j u (by omega) hu
                · show upd (S7.2 1) (1 + (i + (k + 1)) + _) _ k2 = _
                  rw [upd_ne (by omega)]; exact f7 k2 hk2
          refine R_aload_n dX10_opens_49 rfl ?_
          refine R_iload dX10_opens_50 rfl ?_
          -- X10_opens: ('call', 52, '.invokevirtual', 106)
          refine R_callV v_X10_rowLong (Md_rowLong x3 c3 hy86) dX10_opens_52 l_RX10_106 rfl rfl x3.1 (Nat.le_of_ble_eq_true rfl) (by omega) rfl rfl (fun v h5 hq => ?_)
          obtain ⟨rfl, e9⟩ := hq
          rw [e9, show rowOf (sq, q.2).2 y = q.2 (y - 26) from hro]
          refine R_iconst (v := nI 1) dX10_opens_55 (by decide) ?_
          refine R_isub_N dX10_opens_56 (by omega) ?_
          refine R_istore5 dX10_opens_57 (by decide) ?_
          refine R_aload_n dX10_opens_59 rfl ?_
          -- X10_opens: ('call', 60, '.invokevirtual', 123)
          refine R_callV v_X10_many (Md_many x3 c3) dX10_opens_60 l_RX10_123 rfl rfl x3.1 (Nat.le_of_ble_eq_true rfl) (by omega) rfl rfl (fun v h6 hq => ?_)
          obtain ⟨rfl, e9⟩ := hq
          rw [e9, show ((sq, q.2) : Pk).1.length = sq.length from rfl]
          refine R_iconst (v := nI 1) dX10_opens_63 (by decide) ?_
          refine R_isub_N dX10_opens_64 (by omega) ?_
          refine R_istore6 dX10_opens_65 (by decide) ?_
          -- X10_opens: ('stop', 67)
          have := shift (sq.length - 1 - i) h3 S3 (by omega) x3 Ony.refl c3.many (fun j w _ hw => c3.sg (q := (sq, q.2)) hw) (fun j w hj hw => absurd (List.getElem?_eq_some_iff.mp hw).1 (by omega)) (fun _ _ => rfl) Out.refl
          rw [show i + (sq.length - 1 - i) = sq.length - 1 by omega] at this
          exact this
        · refine R_iload_n dX10_opens_33 rfl ?_
          refine R_aload_n dX10_opens_34 rfl ?_
          refine R_get K_10 (f := 7) (by decide) dX10_opens_35 f_RX10_30 x3.1 rfl ?_
          refine R_iload dX10_opens_38 rfl ?_
          refine R_iaload_N dX10_opens_40 x3.a6 (by omega) (by omega) ew ?_
          refine R_iadd_N dX10_opens_41 ?_
          refine R_istore3 dX10_opens_42 (by decide) ?_
          refine R_iinc2 dX10_opens_43 (by decide) (nI_inc _ 1) ?_
          refine R_goto (tgt := 8) dX10_opens_46 (by decide) ?_
          -- X10_opens: ('stop', 8)
          refine ih sq (i + 1) (b + wlen q.2 y) h3 S3 _ _ _ (by omega) hsg hls (by rw [take_snoc hy, lsum_app, ← hb, lsum, lsum, Nat.add_zero]) hil c30 (fun n r hr9 => hop (n + 1) r ?_) x3 o3 c3 f3 g3
          rw [opD, if_neg (by omega), hgd, if_pos c30]; exact hr9
  refine R_iconst (v := nI 0) dX10_opens_4 (by decide) ?_
  refine R_istore2 dX10_opens_5 (by decide) ?_
  refine R_iconst (v := nI 0) dX10_opens_6 (by decide) ?_
  refine R_istore3 dX10_opens_7 (by decide) ?_
  -- X10_opens: ('stop', 8)
  exact loop _ q.1 0 0 h2 S2 none none none (Nat.le_refl _) hq.2.1 rfl rfl (Nat.zero_le _) (Nat.zero_le _) (fun n r hr => ⟨n, hr⟩) x2 Ony.refl (by rw [o2.a1 (by decide)]; exact c) (fun _ _ => rfl) g2
theorem place_iff {len : Nat} (hl : len ≤ 240) (p : Int32) : (nI 0 ≤ p ∧ p ≤ nI len - nI 1) ↔ hasP len p := by
  by_cases hp : p < 0
  · exact ⟨fun z => absurd hp (Int32.not_lt.mpr z.1), fun z => absurd hp z.1⟩
  · obtain ⟨n, hn, rfl⟩ := nI_of hp
    rw [hasP, nI_clamp hn]
    by_cases h0 : len = 0
    · subst h0
      rw [show nI 0 - nI 1 = (-1 : Int32) from by decide]
      refine ⟨fun z => absurd z.2 (Int32.not_le.mpr ?_), fun z => absurd z.2 (by omega)⟩
      rw [Int32.lt_iff_toInt_lt, nI_toInt hn]
      have : (-1 : Int32).toInt = -1 := by decide
      omega
    · rw [pk_sub (by omega), in_iff (by decide) (by omega) hn]
      exact ⟨fun z => ⟨hp, by omega⟩, fun z => ⟨by omega, by omega⟩⟩
theorem lt_iffI {c : Int32} : (nI 0 ≤ c ∧ c ≤ nI 25) ↔ ltI c := by
  by_cases hp : c < 0
  · exact ⟨fun z => absurd hp (Int32.not_lt.mpr z.1), fun z => absurd hp z.1⟩
  · obtain ⟨n, hn, rfl⟩ := nI_of hp
    rw [ltI_nI hn, in_iff (by decide) (by decide) hn]; omega
theorem MP_put_no1 (y : MMAt E h M q ds im md tp ph fk fp) {c p : Int32} (hn : ¬ ltI c) : Spec E k_X10_put 67 0 0 [.ref M, .int p, .int c] h (fun v h' => v = some (.int (-2)) ∧ MMAt E h' M q ds im md tp ph fk fp ∧ Out h h' M (M + 23)) := by
  obtain ⟨S, x, r⟩ := y
  refine Spec.of (by decide +kernel) (by simp [Value.category]) (Nat.le_of_ble_eq_true rfl) ?_
  show WP E k_X10_put 67 0 0 0 [some (.ref M), some (.int p), some (.int c), none, none, none] [] h _
  refine R_aload_n dX10_put_0 rfl ?_
  refine R_iconst (v := nI 0) dX10_put_1 (by decide) ?_
  refine R_put_A K_10 (f := 0) (by decide) dX10_put_2 f_RX10_1 rfl x.1 (by rfl) (by rfl) (Nat.le_of_ble_eq_true rfl) ?_
  intro h0 u0
  have x0 := x.put u0 (by decide)
  have r0 := r.keep (S2 := (upd S.1 0 (nI 0), S.2)) (Ony.refl.put (by decide))
  have g0 : Out h h0 M (M + 23) := Out.upd u0 (by omega) (by omega)
  generalize (upd S.1 0 (nI 0), S.2) = S0 at x0 r0
  refine R_iload_n dX10_put_5 rfl ?_
  refine R_i2l dX10_put_6 ?_
  refine R_lconst (v := 0) dX10_put_7 rfl ?_
  refine R_ldc2 dX10_put_8 cl_RX10_96 ?_
  -- X10_put: ('call', 11, '.invokestatic', 98)
  refine R_callS s_X10_isIn (Md_isIn c (nI 0) (nI 25) (by decide) (by decide)) dX10_put_11 l_RX10_98 rfl rfl (Nat.le_of_ble_eq_true rfl) (by omega) rfl rfl (fun v h2 hq => ?_)
  obtain ⟨rfl, e9⟩ := hq
  rw [e9, if_neg (fun z => hn (lt_iffI.mp z))]
  refine R_if_ne_N (tgt := 20) dX10_put_14 (by decide) (by omega) (fun c14 => ?_) (fun c14 => ?_)
  -- X10_put: ('branch', 14, 20, 17)
  · exact absurd rfl c14
  · refine R_bipush (v := (-2)) dX10_put_17 (by decide) ?_
    refine R_ireturn dX10_put_19 rfl rfl ?_
    -- X10_put: ('ret', 19)
    exact ⟨rfl, ⟨S0, x0, r0⟩, g0⟩
theorem MP_put_no2 (y : MMAt E h M q ds im md tp ph fk fp) (hq : PkOk q) {c : Nat} {p : Int32} (hc : c < 26) (hn : ¬ hasP (letL q.2 q.1).length p) : Spec E k_X10_put 67 0 0 [.ref M, .int p, .int (nI c)] h (fun v h' => v = some (.int (-5)) ∧ MMAt E h' M q ds im md tp ph fk fp ∧ Out h h' M (M + 23)) := by
  have hlen : (letL q.2 q.1).length ≤ 240 := by rw [letL_len]; exact hq.2.2.1
  obtain ⟨S, x, r⟩ := y
  refine Spec.of (by decide +kernel) (by simp [Value.category]) (Nat.le_of_ble_eq_true rfl) ?_
  show WP E k_X10_put 67 0 0 0 [some (.ref M), some (.int p), some (.int (nI c)), none, none, none] [] h _
  refine R_aload_n dX10_put_0 rfl ?_
  refine R_iconst (v := nI 0) dX10_put_1 (by decide) ?_
  refine R_put_A K_10 (f := 0) (by decide) dX10_put_2 f_RX10_1 rfl x.1 (by rfl) (by rfl) (Nat.le_of_ble_eq_true rfl) ?_
  intro h0 u0
  have x0 := x.put u0 (by decide)
  have r0 := r.keep (S2 := (upd S.1 0 (nI 0), S.2)) (Ony.refl.put (by decide))
  have g0 : Out h h0 M (M + 23) := Out.upd u0 (by omega) (by omega)
  generalize (upd S.1 0 (nI 0), S.2) = S0 at x0 r0
  refine R_iload_n dX10_put_5 rfl ?_
  refine R_i2l dX10_put_6 ?_
  refine R_lconst (v := 0) dX10_put_7 rfl ?_
  refine R_ldc2 dX10_put_8 cl_RX10_96 ?_
  -- X10_put: ('call', 11, '.invokestatic', 98)
  refine R_callS s_X10_isIn (Md_isIn (nI c) (nI 0) (nI 25) (by decide) (by decide)) dX10_put_11 l_RX10_98 rfl rfl (Nat.le_of_ble_eq_true rfl) (by omega) rfl rfl (fun v h2 hq => ?_)
  obtain ⟨rfl, e9⟩ := hq
  rw [e9, if_pos (lt_iffI.mpr ((ltI_nI (by omega)).mpr hc))]
  refine R_if_ne_N (tgt := 20) dX10_put_14 (by decide) (by omega) (fun c14 => ?_) (fun c14 => ?_)
  -- X10_put: ('branch', 14, 20, 17)
  · refine R_iload_n dX10_put_20 rfl ?_
    refine R_i2l dX10_put_21 ?_
    refine R_lconst (v := 0) dX10_put_22 rfl ?_
    refine R_aload_n dX10_put_23 rfl ?_
    -- X10_put: ('call', 24, '.invokevirtual', 174)
    refine R_callV v_X10_lettersMany (Md_lettersMany hq x0 r0.1) dX10_put_24 l_RX10_174 rfl rfl x0.1 (Nat.le_of_ble_eq_true rfl) (by omega) rfl rfl (fun v h3 hq => ?_)
    obtain ⟨rfl, g3, S3, x3, o3, w3⟩ := hq
    have r3 := r0.keep (o3.mono (by decide) (by decide))
    refine R_iconst (v := nI 1) dX10_put_27 (by decide) ?_
    refine R_isub dX10_put_28 ?_
    refine R_i2l dX10_put_29 ?_
    -- X10_put: ('call', 30, '.invokestatic', 98)
    refine R_callS s_X10_isIn (Md_isIn p (nI 0) (nI (letL q.2 q.1).length - nI 1) (by decide) rfl) dX10_put_30 l_RX10_98 rfl rfl (Nat.le_of_ble_eq_true rfl) (by omega) rfl rfl (fun v h4 hq => ?_)
    obtain ⟨rfl, e9⟩ := hq
    rw [e9, if_neg (fun z => hn ((place_iff hlen p).mp z))]
    refine R_if_ne_N (tgt := 39) dX10_put_33 (by decide) (by omega) (fun c33 => ?_) (fun c33 => ?_)
    -- X10_put: ('branch', 33, 39, 36)
    · exact absurd rfl c33
    · refine R_bipush (v := (-5)) dX10_put_36 (by decide) ?_
      refine R_ireturn dX10_put_38 rfl rfl ?_
      -- X10_put: ('ret', 38)
      exact ⟨rfl, ⟨S3, x3, r3⟩, g0.trans g3⟩
  · exact absurd c14 (by decide)
theorem MP_put (y : MMAt E h M q ds im md tp ph fk fp) (hq : PkOk q) {c p l0 : Nat} (hc : c < 26) (hl0 : (letL q.2 q.1)[p]? = some l0) : Spec E k_X10_put 67 0 0 [.ref M, .int (nI p), .int (nI c)] h (fun v h' => v = some (.int (nI l0)) ∧ (∃ sq i j, op2 q p (p + 1) sq i j ∧ MMAt E h' M (sq.set i c, q.2) (pushD ds q) im md tp ph fk fp) ∧ Out h h' M (M + 23)) := by
  have hlen : (letL q.2 q.1).length ≤ 240 := by rw [letL_len]; exact hq.2.2.1
  have hp : p < (letL q.2 q.1).length := (List.getElem?_eq_some_iff.mp hl0).1
  have hll := letL_len (ru := q.2) (q := q.1)
  obtain ⟨S, x, r⟩ := y
  refine Spec.of (by decide +kernel) (by simp [Value.category]) (Nat.le_of_ble_eq_true rfl) ?_
  show WP E k_X10_put 67 0 0 0 [some (.ref M), some (.int (nI p)), some (.int (nI c)), none, none, none] [] h _
  refine R_aload_n dX10_put_0 rfl ?_
  refine R_iconst (v := nI 0) dX10_put_1 (by decide) ?_
  refine R_put_A K_10 (f := 0) (by decide) dX10_put_2 f_RX10_1 rfl x.1 (by rfl) (by rfl) (Nat.le_of_ble_eq_true rfl) ?_
  intro h0 u0
  have x0 := x.put u0 (by decide)
  have r0 := r.keep (S2 := (upd S.1 0 (nI 0), S.2)) (Ony.refl.put (by decide))
  have g0 : Out h h0 M (M + 23) := Out.upd u0 (by omega) (by omega)
  generalize (upd S.1 0 (nI 0), S.2) = S0 at x0 r0
  refine R_iload_n dX10_put_5 rfl ?_
  refine R_i2l dX10_put_6 ?_
  refine R_lconst (v := 0) dX10_put_7 rfl ?_
  refine R_ldc2 dX10_put_8 cl_RX10_96 ?_
  -- X10_put: ('call', 11, '.invokestatic', 98)
  refine R_callS s_X10_isIn (Md_isIn (nI c) (nI 0) (nI 25) (by decide) (by decide)) dX10_put_11 l_RX10_98 rfl rfl (Nat.le_of_ble_eq_true rfl) (by omega) rfl rfl (fun v h2 hq => ?_)
  obtain ⟨rfl, e9⟩ := hq
  rw [e9, if_pos (lt_iffI.mpr ((ltI_nI (by omega)).mpr hc))]
  refine R_if_ne_N (tgt := 20) dX10_put_14 (by decide) (by omega) (fun c14 => ?_) (fun c14 => ?_)
  -- X10_put: ('branch', 14, 20, 17)
  · refine R_iload_n dX10_put_20 rfl ?_
    refine R_i2l dX10_put_21 ?_
    refine R_lconst (v := 0) dX10_put_22 rfl ?_
    refine R_aload_n dX10_put_23 rfl ?_
    -- X10_put: ('call', 24, '.invokevirtual', 174)
    refine R_callV v_X10_lettersMany (Md_lettersMany hq x0 r0.1) dX10_put_24 l_RX10_174 rfl rfl x0.1 (Nat.le_of_ble_eq_true rfl) (by omega) rfl rfl (fun v h3 hq => ?_)
    obtain ⟨rfl, g3, S3, x3, o3, w3⟩ := hq
    have r3 := r0.keep (o3.mono (by decide) (by decide))
    refine R_iconst (v := nI 1) dX10_put_27 (by decide) ?_
    refine R_isub dX10_put_28 ?_
    refine R_i2l dX10_put_29 ?_
    -- X10_put: ('call', 30, '.invokestatic', 98)
    refine R_callS s_X10_isIn (Md_isIn (nI p) (nI 0) (nI (letL q.2 q.1).length - nI 1) (by decide) rfl) dX10_put_30 l_RX10_98 rfl rfl (Nat.le_of_ble_eq_true rfl) (by omega) rfl rfl (fun v h4 hq => ?_)
    obtain ⟨rfl, e9⟩ := hq
    rw [e9, if_pos ((place_iff hlen (nI p)).mpr ⟨nI_pos (by omega), by rw [nI_clamp (by omega)]; exact hp⟩)]
    refine R_if_ne_N (tgt := 39) dX10_put_33 (by decide) (by omega) (fun c33 => ?_) (fun c33 => ?_)
    -- X10_put: ('branch', 33, 39, 36)
    · refine R_aload_n dX10_put_39 rfl ?_
      -- X10_put: ('call', 40, '.invokevirtual', 171)
      refine R_callV v_X10_notes (Md_notes x3 r3.1 r3.2.1) dX10_put_40 l_RX10_171 rfl rfl x3.1 (Nat.le_of_ble_eq_true rfl) (by omega) rfl rfl (fun v h5 hq => ?_)
      obtain ⟨rfl, g5, S5, x5, o5, d5⟩ := hq
      have c5 : curF (S5.2 1) q := by rw [o5.a1 (by decide)]; exact r3.1
      refine R_aload_n dX10_put_43 rfl ?_
      refine R_iload_n dX10_put_44 rfl ?_
      -- X10_put: ('call', 45, '.invokevirtual', 273)
      refine R_callV v_X10_opens (Md_opens hq x5 c5 (place := p) (by omega)) dX10_put_45 l_RX10_273 rfl rfl x5.1 (Nat.le_of_ble_eq_true rfl) (by omega) rfl rfl (fun v h6 hq => ?_)
      obtain ⟨g6, n6, sq6, i6, ho6, rfl, S6, x6, o6, c6, f6⟩ := hq
      obtain ⟨ok6, ls6, -, -, il6, -⟩ := opD_one hq (by omega) ho6
      have ls6 : lsum (wlen q.2) sq6 = lsum (wlen q.2) q.1 := ls6
      have sl6 : sq6.length ≤ 240 := c6.1
      refine R_istore3 dX10_put_48 (by decide) ?_
      refine R_aload_n dX10_put_49 rfl ?_
      refine R_iload_n dX10_put_50 rfl ?_
      refine R_iconst (v := nI 1) dX10_put_51 (by decide) ?_
      refine R_iadd_N dX10_put_52 ?_
      -- X10_put: ('call', 53, '.invokevirtual', 273)
      refine R_callV v_X10_opens (Md_opens ok6 x6 c6 (place := p + 1) (by show p + 1 ≤ lsum (wlen q.2) sq6; omega)) dX10_put_53 l_RX10_273 rfl rfl x6.1 (Nat.le_of_ble_eq_true rfl) (by omega) rfl rfl (fun v h7 hq => ?_)
      obtain ⟨g7, n7, sq7, j7, ho7, rfl, S7, x7, o7, c7, f7⟩ := hq
      have op : op2 q p (p + 1) sq7 i6 j7 := ⟨n6, n7, sq6, ho6, ho7⟩
      obtain ⟨il, hat, -, ok2⟩ := put_ok hq (by omega) op hc
      have sl7 : sq7.length ≤ 240 := c7.1
      rw [hl0] at hat
      refine R_istore4 dX10_put_56 (by decide) ?_
      refine R_aload_n dX10_put_58 rfl ?_
      refine R_iload_n dX10_put_59 rfl ?_
      -- X10_put: ('call', 60, '.invokevirtual', 127)
      refine R_callV v_X10_signAt (Md_signAt x7 c7 (i := i6) (y := l0) hat) dX10_put_60 l_RX10_127 rfl rfl x7.1 (Nat.le_of_ble_eq_true rfl) (by omega) rfl rfl (fun v h8 hq => ?_)
      obtain ⟨rfl, e9⟩ := hq
      rw [e9]
      refine R_istore5 dX10_put_63 (by decide) ?_
      refine R_aload_n dX10_put_65 rfl ?_
      refine R_get K_10 (f := 1) (by decide) dX10_put_66 f_RX10_13 x7.1 rfl ?_
      refine R_iconst (v := nI 1) dX10_put_69 (by decide) ?_
      refine R_iload_n dX10_put_70 rfl ?_
      refine R_iadd_N dX10_put_71 ?_
      refine R_iload_n dX10_put_72 rfl ?_
      refine R_iastore_N dX10_put_73 x7.a1 (by omega) (by omega) ?_
      -- X10_put: ('put', 74)
      intro h9 u9
      have x9 := x7.s1 u9
      refine R_iload dX10_put_74 rfl ?_
      refine R_ireturn dX10_put_76 rfl rfl ?_
      -- X10_put: ('ret', 76)
      have far : ∀ k, 241 ≤ k → S7.2 1 k = S3.2 1 k := fun k hk => by rw [f7 k hk, f6 k hk, o5.1 1 (by decide)]
      refine ⟨rfl, ⟨sq7, i6, j7, op, _, x9, r3.chg ((((o5.mono (by decide) (by decide)).trans (o6.mono (by decide) (by decide))).trans (o7.mono (by decide) (by decide))).st (by decide)) ?_ (fun k hk => ?_) (d5.keep ?_ ?_)⟩, ((((g0.trans g3).trans g5).trans g6).trans g7).trans (Out.upd u9 (by omega) (by omega))⟩
      · refine c7.setSeq (q := (sq7, q.2)) (l := sq7.set i6 c) (by rw [List.length_set]; exact sl7) ?_ (fun j w hw => ?_) (fun k hk1 hk2 => ?_)
        · show upd (S7.2 1) (1 + i6) _ 0 = _
          rw [upd_ne (by omega), List.length_set]; exact c7.many
        · show upd (S7.2 1) (1 + i6) (nI c) (1 + j) = nI w
          by_cases e : j = i6
          · rw [e, upd_at]
            rw [e, List.getElem?_set_self il] at hw
            rw [Option.some.inj hw]
          · rw [upd_ne (by omega)]
            rw [List.getElem?_set_ne (Ne.symm e)] at hw
            exact c7.sg (q := (sq7, q.2)) hw
        · show upd (S7.2 1) (1 + i6) _ k = _
          rw [upd_ne (by omega)]
      · show upd (S7.2 1) (1 + i6) _ k = _
        rw [upd_ne (by omega)]; exact far k (by omega)
      · show S7.1 5 = _
        rw [o7.2 5 (by decide), o6.2 5 (by decide)]
      · show S7.2 2 = _
        rw [o7.1 2 (by decide), o6.1 2 (by decide)]
    · exact absurd c33 (by decide)
  · exact absurd c14 (by decide)
theorem lsumI {a b : Nat} (ha : a < 2 ^ 31) (hb : b < 2 ^ 31) : (nI a).toInt64 + (nI b).toInt64 = lN (a + b) := by
  rw [nI_l ha, nI_l hb]; exact (Int64.ofNat_add a b).symm
theorem lcmp_le {p n len : Nat} (hp : p < 2 ^ 31) (hn : n < 2 ^ 31) (hl : len < 2 ^ 31) : lg_cmp ((nI p).toInt64 + (nI n).toInt64) (nI len).toInt64 ≤ 0 ↔ p + n ≤ len := by
  have h1 := lg_cmp_gt ((nI p).toInt64 + (nI n).toInt64) (nI len).toInt64
  rw [lsumI hp hn, nI_l hl, pk_lLT (by omega) (by omega)] at h1
  rw [lsumI hp hn, nI_l hl, ← Int32.not_lt, h1]; omega
theorem MP_cut_no1 (y : MMAt E h M q ds im md tp ph fk fp) {p n : Int32} (hn : n < nI 1) : Spec E k_X10_cut 67 0 0 [.ref M, .int p, .int n] h (fun v h' => v = some (.int (-3)) ∧ MMAt E h' M q ds im md tp ph fk fp ∧ Out h h' M (M + 23)) := by
  obtain ⟨S, x, r⟩ := y
  refine Spec.of (by decide +kernel) (by simp [Value.category]) (Nat.le_of_ble_eq_true rfl) ?_
  show WP E k_X10_cut 67 0 0 0 [some (.ref M), some (.int p), some (.int n), none, none, none, none] [] h _
  refine R_aload_n dX10_cut_0 rfl ?_
  refine R_iconst (v := nI 0) dX10_cut_1 (by decide) ?_
  refine R_put_A K_10 (f := 0) (by decide) dX10_cut_2 f_RX10_1 rfl x.1 (by rfl) (by rfl) (Nat.le_of_ble_eq_true rfl) ?_
  intro h0 u0
  have x0 := x.put u0 (by decide)
  have r0 := r.keep (S2 := (upd S.1 0 (nI 0), S.2)) (Ony.refl.put (by decide))
  have g0 : Out h h0 M (M + 23) := Out.upd u0 (by omega) (by omega)
  generalize (upd S.1 0 (nI 0), S.2) = S0 at x0 r0
  refine R_iload_n dX10_cut_5 rfl ?_
  refine R_iconst (v := nI 1) dX10_cut_6 (by decide) ?_
  refine R_icmp_ge (tgt := 13) dX10_cut_7 (by decide) (fun c7 => ?_) (fun c7 => ?_)
  -- X10_cut: ('branch', 7, 13, 10)
  · exact absurd hn (Int32.not_lt.mpr c7)
  · refine R_bipush (v := (-3)) dX10_cut_10 (by decide) ?_
    refine R_ireturn dX10_cut_12 rfl rfl ?_
    -- X10_cut: ('ret', 12)
    exact ⟨rfl, ⟨S0, x0, r0⟩, g0⟩
theorem MP_cut_no2 (y : MMAt E h M q ds im md tp ph fk fp) (hq : PkOk q) {p : Int32} {n : Nat} (h1n : 1 ≤ n) (hn : n < 2 ^ 31) (hs : ¬ stP (letL q.2 q.1).length p n) : Spec E k_X10_cut 67 0 0 [.ref M, .int p, .int (nI n)] h (fun v h' => v = some (.int (-5)) ∧ MMAt E h' M q ds im md tp ph fk fp ∧ Out h h' M (M + 23)) := by
  have hlen : (letL q.2 q.1).length ≤ 240 := by rw [letL_len]; exact hq.2.2.1
  obtain ⟨S, x, r⟩ := y
  refine Spec.of (by decide +kernel) (by simp [Value.category]) (Nat.le_of_ble_eq_true rfl) ?_
  show WP E k_X10_cut 67 0 0 0 [some (.ref M), some (.int p), some (.int (nI n)), none, none, none, none] [] h _
  refine R_aload_n dX10_cut_0 rfl ?_
  refine R_iconst (v := nI 0) dX10_cut_1 (by decide) ?_
  refine R_put_A K_10 (f := 0) (by decide) dX10_cut_2 f_RX10_1 rfl x.1 (by rfl) (by rfl) (Nat.le_of_ble_eq_true rfl) ?_
  intro h0 u0
  have x0 := x.put u0 (by decide)
  have r0 := r.keep (S2 := (upd S.1 0 (nI 0), S.2)) (Ony.refl.put (by decide))
  have g0 : Out h h0 M (M + 23) := Out.upd u0 (by omega) (by omega)
  generalize (upd S.1 0 (nI 0), S.2) = S0 at x0 r0
  refine R_iload_n dX10_cut_5 rfl ?_
  refine R_iconst (v := nI 1) dX10_cut_6 (by decide) ?_
  refine R_icmp_ge_N (tgt := 13) dX10_cut_7 (by decide) (by omega) (by omega) (fun c7 => ?_) (fun c7 => ?_)
  -- X10_cut: ('branch', 7, 13, 10)
  · refine R_aload_n dX10_cut_13 rfl ?_
    -- X10_cut: ('call', 14, '.invokevirtual', 174)
    refine R_callV v_X10_lettersMany (Md_lettersMany hq x0 r0.1) dX10_cut_14 l_RX10_174 rfl rfl x0.1 (Nat.le_of_ble_eq_true rfl) (by omega) rfl rfl (fun v h3 hq => ?_)
    obtain ⟨rfl, g3, S3, x3, o3, w3⟩ := hq
    have r3 := r0.keep (o3.mono (by decide) (by decide))
    by_cases hp : p < 0
    · refine R_istore3 dX10_cut_17 (by decide) ?_
      refine R_iload_n dX10_cut_18 rfl ?_
      refine R_if_lt (tgt := 33) dX10_cut_19 (by decide) (fun c19 => ?_) (fun c19 => ?_)
      -- X10_cut: ('branch', 19, 33, 22)
      · refine R_bipush (v := (-5)) dX10_cut_33 (by decide) ?_
        refine R_ireturn dX10_cut_35 rfl rfl ?_
        -- X10_cut: ('ret', 35)
        exact ⟨rfl, ⟨S3, x3, r3⟩, g0.trans g3⟩
      · exact absurd hp c19
    · obtain ⟨p, hp2, rfl⟩ := nI_of hp
      rw [stP_nI hp2] at hs
      refine R_istore3 dX10_cut_17 (by decide) ?_
      refine R_iload_n dX10_cut_18 rfl ?_
      refine R_if_lt_N (tgt := 33) dX10_cut_19 (by decide) (by omega) ?_
      refine R_iload_n dX10_cut_22 rfl ?_
      refine R_i2l dX10_cut_23 ?_
      refine R_iload_n dX10_cut_24 rfl ?_
      refine R_i2l dX10_cut_25 ?_
      refine R_ladd dX10_cut_26 ?_
      refine R_iload_n dX10_cut_27 rfl ?_
      refine R_i2l dX10_cut_28 ?_
      refine R_lcmp dX10_cut_29 ?_
      refine R_if_le (tgt := 36) dX10_cut_30 (by decide) (fun c30 => ?_) (fun c30 => ?_)
      -- X10_cut: ('branch', 30, 36, 33)
      · exact absurd ((lcmp_le hp2 hn (by omega)).mp c30) hs
      · refine R_bipush (v := (-5)) dX10_cut_33 (by decide) ?_
        refine R_ireturn dX10_cut_35 rfl rfl ?_
        -- X10_cut: ('ret', 35)
        exact ⟨rfl, ⟨S3, x3, r3⟩, g0.trans g3⟩
  · exact absurd c7 (by omega)
theorem MP_cut (y : MMAt E h M q ds im md tp ph fk fp) (hq : PkOk q) {p n : Nat} (h1n : 1 ≤ n) (hs : p + n ≤ (letL q.2 q.1).length) : Spec E k_X10_cut 67 0 0 [.ref M, .int (nI p), .int (nI n)] h (fun v h' => v = some (.int (nI ((letL q.2 q.1).length - n))) ∧ (∃ sq i j, op2 q p (p + n) sq i j ∧ MMAt E h' M (sq.take i ++ sq.drop j, q.2) (pushD ds q) im md tp ph fk fp) ∧ Out h h' M (M + 23)) := by
  have hlen : (letL q.2 q.1).length ≤ 240 := by rw [letL_len]; exact hq.2.2.1
  have hll := letL_len (ru := q.2) (q := q.1)
  obtain ⟨S, x, r⟩ := y
  refine Spec.of (by decide +kernel) (by simp [Value.category]) (Nat.le_of_ble_eq_true rfl) ?_
  show WP E k_X10_cut 67 0 0 0 [some (.ref M), some (.int (nI p)), some (.int (nI n)), none, none, none, none] [] h _
  refine R_aload_n dX10_cut_0 rfl ?_
  refine R_iconst (v := nI 0) dX10_cut_1 (by decide) ?_
  refine R_put_A K_10 (f := 0) (by decide) dX10_cut_2 f_RX10_1 rfl x.1 (by rfl) (by rfl) (Nat.le_of_ble_eq_true rfl) ?_
  intro h0 u0
  have x0 := x.put u0 (by decide)
  have r0 := r.keep (S2 := (upd S.1 0 (nI 0), S.2)) (Ony.refl.put (by decide))
  have g0 : Out h h0 M (M + 23) := Out.upd u0 (by omega) (by omega)
  generalize (upd S.1 0 (nI 0), S.2) = S0 at x0 r0
  refine R_iload_n dX10_cut_5 rfl ?_
  refine R_iconst (v := nI 1) dX10_cut_6 (by decide) ?_
  refine R_icmp_ge_N (tgt := 13) dX10_cut_7 (by decide) (by omega) (by omega) (fun c7 => ?_) (fun c7 => ?_)
  -- X10_cut: ('branch', 7, 13, 10)
  · refine R_aload_n dX10_cut_13 rfl ?_
    -- X10_cut: ('call', 14, '.invokevirtual', 174)
    refine R_callV v_X10_lettersMany (Md_lettersMany hq x0 r0.1) dX10_cut_14 l_RX10_174 rfl rfl x0.1 (Nat.le_of_ble_eq_true rfl) (by omega) rfl rfl (fun v h3 hq => ?_)
    obtain ⟨rfl, g3, S3, x3, o3, w3⟩ := hq
    have r3 := r0.keep (o3.mono (by decide) (by decide))
    refine R_istore3 dX10_cut_17 (by decide) ?_
    refine R_iload_n dX10_cut_18 rfl ?_
    refine R_if_lt_N (tgt := 33) dX10_cut_19 (by decide) (by omega) ?_
    refine R_iload_n dX10_cut_22 rfl ?_
    refine R_i2l dX10_cut_23 ?_
    refine R_iload_n dX10_cut_24 rfl ?_
    refine R_i2l dX10_cut_25 ?_
    refine R_ladd dX10_cut_26 ?_
    refine R_iload_n dX10_cut_27 rfl ?_
    refine R_i2l dX10_cut_28 ?_
    refine R_lcmp dX10_cut_29 ?_
    refine R_if_le (tgt := 36) dX10_cut_30 (by decide) (fun c30 => ?_) (fun c30 => ?_)
    -- X10_cut: ('branch', 30, 36, 33)
    · refine R_aload_n dX10_cut_36 rfl ?_
      -- X10_cut: ('call', 37, '.invokevirtual', 171)
      refine R_callV v_X10_notes (Md_notes x3 r3.1 r3.2.1) dX10_cut_37 l_RX10_171 rfl rfl x3.1 (Nat.le_of_ble_eq_true rfl) (by omega) rfl rfl (fun v h5 hq => ?_)
      obtain ⟨rfl, g5, S5, x5, o5, d5⟩ := hq
      have c5 : curF (S5.2 1) q := by rw [o5.a1 (by decide)]; exact r3.1
      refine R_aload_n dX10_cut_40 rfl ?_
      refine R_iload_n dX10_cut_41 rfl ?_
      -- X10_cut: ('call', 42, '.invokevirtual', 273)
      refine R_callV v_X10_opens (Md_opens hq x5 c5 (place := p) (by omega)) dX10_cut_42 l_RX10_273 rfl rfl x5.1 (Nat.le_of_ble_eq_true rfl) (by omega) rfl rfl (fun v h6 hq => ?_)
      obtain ⟨g6, n6, sq6, i6, ho6, rfl, S6, x6, o6, c6, f6⟩ := hq
      obtain ⟨ok6, ls6, -, -, il6, -⟩ := opD_one hq (by omega) ho6
      have ls6 : lsum (wlen q.2) sq6 = lsum (wlen q.2) q.1 := ls6
      refine R_istore4 dX10_cut_45 (by decide) ?_
      refine R_aload_n dX10_cut_47 rfl ?_
      refine R_iload_n dX10_cut_48 rfl ?_
      refine R_iload_n dX10_cut_49 rfl ?_
      refine R_iadd_N dX10_cut_50 ?_
      -- X10_cut: ('call', 51, '.invokevirtual', 273)
      refine R_callV v_X10_opens (Md_opens ok6 x6 c6 (place := p + n) (by show p + n ≤ lsum (wlen q.2) sq6; omega)) dX10_cut_51 l_RX10_273 rfl rfl x6.1 (Nat.le_of_ble_eq_true rfl) (by omega) rfl rfl (fun v h7 hq => ?_)
      obtain ⟨g7, n7, sq7, j7, ho7, rfl, S7, x7, o7, c7, f7⟩ := hq
      have op : op2 q p (p + n) sq7 i6 j7 := ⟨n6, n7, sq6, ho6, ho7⟩
      obtain ⟨hij, hjl, ok2, ls2⟩ := cut_ok hq (by omega) op
      have sl7 : sq7.length ≤ 240 := c7.1
      have far : ∀ k, 241 ≤ k → S7.2 1 k = S3.2 1 k := fun k hk => by rw [f7 k hk, f6 k hk, o5.1 1 (by decide)]
      have loop : ∀ m t h8 S8, t + m = sq7.length → j7 ≤ t → MdAt E h8 M S8 → Ony [1] [] S7 S8 → S8.2 1 0 = nI sq7.length → (∀ j w, j < i6 → sq7[j]? = some w → S8.2 1 (1 + j) = nI w) → (∀ j w, j7 ≤ j → j < t → sq7[j]? = some w → S8.2 1 (1 + i6 + (j - j7)) = nI w) → (∀ j w, t ≤ j → sq7[j]? = some w → S8.2 1 (1 + j) = nI w) → (∀ k, 241 ≤ k → S8.2 1 k = S7.2 1 k) → Out h h8 M (M + 23) → WP E k_X10_cut 67 0 0 60 [some (.ref M), some (.int (nI p)), some (.int (nI n)), some (.int (nI (letL q.2 q.1).length)), some (.int (nI i6)), some (.int (nI j7)), some (.int (nI t))] [] h8 (fun v h' => v = some (.int (nI ((letL q.2 q.1).length - n))) ∧ (∃ sq i j, op2 q p (p + n) sq i j ∧ MMAt E h' M (sq.take i ++ sq.drop j, q.2) (pushD ds q) im md tp ph fk fp) ∧ Out h h' M (M + 23)) := by
        intro m
        induction m with
        | zero =>
          intro t h8 S8 ht hjt x8 o8 e0 eA eB eC f8 g8
          refine R_iload dX10_cut_60 rfl ?_
          refine R_aload_n dX10_cut_62 rfl ?_
          -- X10_cut: ('call', 63, '.invokevirtual', 123)
          refine R_callV v_X10_many (Md_manyR x8 e0) dX10_cut_63 l_RX10_123 rfl rfl x8.1 (Nat.le_of_ble_eq_true rfl) (by omega) rfl rfl (fun v h9 hq => ?_)
          obtain ⟨rfl, e9⟩ := hq
          rw [e9]
          refine R_icmp_ge_N (tgt := 96) dX10_cut_66 (by decide) (by omega) (by omega) (fun c66 => ?_) (fun c66 => ?_)
          -- X10_cut: ('branch', 66, 96, 69)
          · refine R_aload_n dX10_cut_96 rfl ?_
            refine R_get K_10 (f := 1) (by decide) dX10_cut_97 f_RX10_13 x8.1 rfl ?_
            refine R_iconst (v := nI 0) dX10_cut_100 (by decide) ?_
            refine R_dup2 dX10_cut_101 rfl rfl ?_
            refine R_iaload_N dX10_cut_102 x8.a1 (by omega) (by omega) e0 ?_
            refine R_iload dX10_cut_103 rfl ?_
            refine R_iload dX10_cut_105 rfl ?_
            refine R_isub_N dX10_cut_107 (by omega) ?_
            refine R_isub_N dX10_cut_108 (by omega) ?_
            refine R_iastore_N dX10_cut_109 x8.a1 (by omega) (by omega) ?_
            -- X10_cut: ('put', 110)
            intro h10 u10
            have x10 := x8.s1 u10
            refine R_iload_n dX10_cut_110 rfl ?_
            refine R_iload_n dX10_cut_111 rfl ?_
            refine R_isub_N dX10_cut_112 (by omega) ?_
            refine R_ireturn dX10_cut_113 rfl rfl ?_
            -- X10_cut: ('ret', 113)
            have hl2 : (sq7.take i6 ++ sq7.drop j7).length = sq7.length - (j7 - i6) := by rw [List.length_append, List.length_take, List.length_drop]; omega
            refine ⟨rfl, ⟨sq7, i6, j7, op, _, x10, r3.chg (((((o5.mono (by decide) (by decide)).trans (o6.mono (by decide) (by decide))).trans (o7.mono (by decide) (by decide))).trans (o8.mono (by decide) (by decide))).st (by decide)) ?_ (fun k hk => ?_) (d5.keep ?_ ?_)⟩, g8.trans (Out.upd u10 (by omega) (by omega))⟩
            · refine c7.setSeq (q := (sq7, q.2)) (l := sq7.take i6 ++ sq7.drop j7) (by omega) ?_ (fun j w hw => ?_) (fun k hk1 hk2 => ?_)
              · rw [hl2]; exact upd_at (f := S8.2 1) (k := 0) (x := nI (sq7.length - (j7 - i6)))
              · have hj := (List.getElem?_eq_some_iff.mp hw).1
                show upd (S8.2 1) 0 _ (1 + j) = nI w
                rw [upd_ne (by omega)]
                by_cases j1 : j < i6
                · rw [List.getElem?_append_left (by rw [List.length_take]; omega), List.getElem?_take_of_lt j1] at hw
                  exact eA j w j1 hw
                · rw [List.getElem?_append_right (by rw [List.length_take]; omega), List.length_take, List.getElem?_drop, show min i6 sq7.length = i6 by omega] at hw
                  have := eB (j7 + (j - i6)) w (by omega) (by omega) hw
                  rwa [show 1 + i6 + (j7 + (j - i6) - j7) = 1 + j by omega] at this
              · show upd (S8.2 1) 0 _ k = _
                rw [upd_ne (by omega)]; exact f8 k hk1
            · show upd (S8.2 1) 0 _ k = _
              rw [upd_ne (by omega), f8 k (by omega)]; exact far k (by omega)
            · show S8.1 5 = _
              rw [o8.2 5 (by decide), o7.2 5 (by decide), o6.2 5 (by decide)]
            · show S8.2 2 = _
              rw [o8.1 2 (by decide), o7.1 2 (by decide), o6.1 2 (by decide)]
          · exact absurd c66 (by omega)
        | succ m ih =>
          intro t h8 S8 ht hjt x8 o8 e0 eA eB eC f8 g8
          obtain ⟨w, hw⟩ := getE (l := sq7) (i := t) (by omega)
          have ev := eC t w (Nat.le_refl _) hw
          refine R_iload dX10_cut_60 rfl ?_
          refine R_aload_n dX10_cut_62 rfl ?_
          -- X10_cut: ('call', 63, '.invokevirtual', 123)
          refine R_callV v_X10_many (Md_manyR x8 e0) dX10_cut_63 l_RX10_123 rfl rfl x8.1 (Nat.le_of_ble_eq_true rfl) (by omega) rfl rfl (fun v h9 hq => ?_)
          obtain ⟨rfl, e9⟩ := hq
          rw [e9]
          refine R_icmp_ge_N (tgt := 96) dX10_cut_66 (by decide) (by omega) (by omega) (fun c66 => ?_) (fun c66 => ?_)
          -- X10_cut: ('branch', 66, 96, 69)
          · exact absurd c66 (by omega)
          · refine R_aload_n dX10_cut_69 rfl ?_
            refine R_get K_10 (f := 1) (by decide) dX10_cut_70 f_RX10_13 x8.1 rfl ?_
            refine R_iconst (v := nI 1) dX10_cut_73 (by decide) ?_
            refine R_iload dX10_cut_74 rfl ?_
            refine R_iadd_N dX10_cut_76 ?_
            refine R_iload dX10_cut_77 rfl ?_
            refine R_iadd_N dX10_cut_79 ?_
            refine R_iload dX10_cut_80 rfl ?_
            refine R_isub_N dX10_cut_82 (by omega) ?_
            refine R_aload_n dX10_cut_83 rfl ?_
            refine R_iload dX10_cut_84 rfl ?_
            -- X10_cut: ('call', 86, '.invokevirtual', 127)
            refine R_callV v_X10_signAt (Md_signAtR x8 (by omega) ev) dX10_cut_86 l_RX10_127 rfl rfl x8.1 (Nat.le_of_ble_eq_true rfl) (by omega) rfl rfl (fun v h10 hq => ?_)
            obtain ⟨rfl, e9⟩ := hq
            rw [e9]
            refine R_iastore_N dX10_cut_89 x8.a1 (by omega) (by omega) ?_
            -- X10_cut: ('put', 90)
            intro h11 u11
            have x11 := x8.s1 u11
            refine R_iinc6 dX10_cut_90 (by decide) (nI_inc _ 1) ?_
            refine R_goto (tgt := 60) dX10_cut_93 (by decide) ?_
            -- X10_cut: ('stop', 60)
            refine ih (t + 1) h11 _ (by omega) (by omega) x11 (o8.st (by decide)) ?_ (fun j u hj hu => ?_) (fun j u hj1 hj2 hu => ?_) (fun j u hj hu => ?_) (fun k hk => ?_) (g8.trans (Out.upd u11 (by omega) (by omega)))
            · show upd (S8.2 1) (1 + i6 + t - j7) _ 0 = _
              rw [upd_ne (by omega)]; exact e0
            · show upd (S8.2 1) (1 + i6 + t - j7) _ (1 + j) = nI u
              rw [upd_ne (by omega)]; exact eA j u hj hu
            · show upd (S8.2 1) (1 + i6 + t - j7) (nI w) (1 + i6 + (j - j7)) = nI u
              by_cases e : j = t
              · rw [e, show 1 + i6 + (t - j7) = 1 + i6 + t - j7 by omega, upd_at]
                rw [e, hw] at hu
                rw [Option.some.inj hu]
              · rw [upd_ne (by omega)]; exact eB j u hj1 (by omega) hu
            · show upd (S8.2 1) (1 + i6 + t - j7) _ (1 + j) = nI u
              rw [upd_ne (by omega)]; exact eC j u (by omega) hu
            · show upd (S8.2 1) (1 + i6 + t - j7) _ k = _
              rw [upd_ne (by omega)]; exact f8 k hk
      refine R_istore5 dX10_cut_54 (by decide) ?_
      refine R_iload dX10_cut_56 rfl ?_
      refine R_istore6 dX10_cut_58 (by decide) ?_
      -- X10_cut: ('stop', 60)
      exact loop (sq7.length - j7) j7 h7 S7 (by omega) (Nat.le_refl _) x7 Ony.refl c7.many (fun j w _ hw => c7.sg (q := (sq7, q.2)) hw) (fun j w h1 h2 => absurd h1 (by omega)) (fun j w _ hw => c7.sg (q := (sq7, q.2)) hw) (fun _ _ => rfl) ((((g0.trans g3).trans g5).trans g6).trans g7)
    · exact absurd ((lcmp_le (by omega) (by omega) (by omega)).mpr hs) c30
  · exact absurd c7 (by omega)
theorem MP_insert_no1 (y : MMAt E h M q ds im md tp ph fk fp) {c p : Int32} (hn : ¬ ltI c) : Spec E k_X10_insert 67 0 0 [.ref M, .int p, .int c] h (fun v h' => v = some (.int (-2)) ∧ MMAt E h' M q ds im md tp ph fk fp ∧ Out h h' M (M + 23)) := by
  obtain ⟨S, x, r⟩ := y
  refine Spec.of (by decide +kernel) (by simp [Value.category]) (Nat.le_of_ble_eq_true rfl) ?_
  show WP E k_X10_insert 67 0 0 0 [some (.ref M), some (.int p), some (.int c), none, none, none] [] h _
  refine R_aload_n dX10_insert_0 rfl ?_
  refine R_iconst (v := nI 0) dX10_insert_1 (by decide) ?_
  refine R_put_A K_10 (f := 0) (by decide) dX10_insert_2 f_RX10_1 rfl x.1 (by rfl) (by rfl) (Nat.le_of_ble_eq_true rfl) ?_
  intro h0 u0
  have x0 := x.put u0 (by decide)
  have r0 := r.keep (S2 := (upd S.1 0 (nI 0), S.2)) (Ony.refl.put (by decide))
  have g0 : Out h h0 M (M + 23) := Out.upd u0 (by omega) (by omega)
  generalize (upd S.1 0 (nI 0), S.2) = S0 at x0 r0
  refine R_iload_n dX10_insert_5 rfl ?_
  refine R_i2l dX10_insert_6 ?_
  refine R_lconst (v := 0) dX10_insert_7 rfl ?_
  refine R_ldc2 dX10_insert_8 cl_RX10_96 ?_
  -- X10_insert: ('call', 11, '.invokestatic', 98)
  refine R_callS s_X10_isIn (Md_isIn c (nI 0) (nI 25) (by decide) (by decide)) dX10_insert_11 l_RX10_98 rfl rfl (Nat.le_of_ble_eq_true rfl) (by omega) rfl rfl (fun v h2 hq => ?_)
  obtain ⟨rfl, e9⟩ := hq
  rw [e9, if_neg (fun z => hn (lt_iffI.mp z))]
  refine R_if_ne_N (tgt := 20) dX10_insert_14 (by decide) (by omega) (fun c14 => ?_) (fun c14 => ?_)
  -- X10_insert: ('branch', 14, 20, 17)
  · exact absurd rfl c14
  · refine R_bipush (v := (-2)) dX10_insert_17 (by decide) ?_
    refine R_ireturn dX10_insert_19 rfl rfl ?_
    -- X10_insert: ('ret', 19)
    exact ⟨rfl, ⟨S0, x0, r0⟩, g0⟩
theorem st0_iff {len : Nat} (hl : len ≤ 300) (p : Int32) : (nI 0 ≤ p ∧ p ≤ nI len) ↔ stP len p 0 := by
  by_cases hp : p < 0
  · exact ⟨fun z => absurd hp (Int32.not_lt.mpr z.1), fun z => absurd hp z.1⟩
  · obtain ⟨n, hn, rfl⟩ := nI_of hp
    rw [stP_nI hn, in_iff (by decide) (by omega) hn]; omega
theorem MP_insert_no2 (y : MMAt E h M q ds im md tp ph fk fp) (hq : PkOk q) {c : Nat} {p : Int32} (hc : c < 26) (hn : ¬ stP (letL q.2 q.1).length p 0) : Spec E k_X10_insert 67 0 0 [.ref M, .int p, .int (nI c)] h (fun v h' => v = some (.int (-5)) ∧ MMAt E h' M q ds im md tp ph fk fp ∧ Out h h' M (M + 23)) := by
  have hlen : (letL q.2 q.1).length ≤ 240 := by rw [letL_len]; exact hq.2.2.1
  obtain ⟨S, x, r⟩ := y
  refine Spec.of (by decide +kernel) (by simp [Value.category]) (Nat.le_of_ble_eq_true rfl) ?_
  show WP E k_X10_insert 67 0 0 0 [some (.ref M), some (.int p), some (.int (nI c)), none, none, none] [] h _
  refine R_aload_n dX10_insert_0 rfl ?_
  refine R_iconst (v := nI 0) dX10_insert_1 (by decide) ?_
  refine R_put_A K_10 (f := 0) (by decide) dX10_insert_2 f_RX10_1 rfl x.1 (by rfl) (by rfl) (Nat.le_of_ble_eq_true rfl) ?_
  intro h0 u0
  have x0 := x.put u0 (by decide)
  have r0 := r.keep (S2 := (upd S.1 0 (nI 0), S.2)) (Ony.refl.put (by decide))
  have g0 : Out h h0 M (M + 23) := Out.upd u0 (by omega) (by omega)
  generalize (upd S.1 0 (nI 0), S.2) = S0 at x0 r0
  refine R_iload_n dX10_insert_5 rfl ?_
  refine R_i2l dX10_insert_6 ?_
  refine R_lconst (v := 0) dX10_insert_7 rfl ?_
  refine R_ldc2 dX10_insert_8 cl_RX10_96 ?_
  -- X10_insert: ('call', 11, '.invokestatic', 98)
  refine R_callS s_X10_isIn (Md_isIn (nI c) (nI 0) (nI 25) (by decide) (by decide)) dX10_insert_11 l_RX10_98 rfl rfl (Nat.le_of_ble_eq_true rfl) (by omega) rfl rfl (fun v h2 hq => ?_)
  obtain ⟨rfl, e9⟩ := hq
  rw [e9, if_pos (lt_iffI.mpr ((ltI_nI (by omega)).mpr hc))]
  refine R_if_ne_N (tgt := 20) dX10_insert_14 (by decide) (by omega) (fun c14 => ?_) (fun c14 => ?_)
  -- X10_insert: ('branch', 14, 20, 17)
  · refine R_aload_n dX10_insert_20 rfl ?_
    -- X10_insert: ('call', 21, '.invokevirtual', 174)
    refine R_callV v_X10_lettersMany (Md_lettersMany hq x0 r0.1) dX10_insert_21 l_RX10_174 rfl rfl x0.1 (Nat.le_of_ble_eq_true rfl) (by omega) rfl rfl (fun v h3 hq => ?_)
    obtain ⟨rfl, g3, S3, x3, o3, w3⟩ := hq
    have r3 := r0.keep (o3.mono (by decide) (by decide))
    refine R_istore3 dX10_insert_24 (by decide) ?_
    refine R_iload_n dX10_insert_25 rfl ?_
    refine R_i2l dX10_insert_26 ?_
    refine R_lconst (v := 0) dX10_insert_27 rfl ?_
    refine R_iload_n dX10_insert_28 rfl ?_
    refine R_i2l dX10_insert_29 ?_
    -- X10_insert: ('call', 30, '.invokestatic', 98)
    refine R_callS s_X10_isIn (Md_isIn p (nI 0) (nI (letL q.2 q.1).length) (by decide) rfl) dX10_insert_30 l_RX10_98 rfl rfl (Nat.le_of_ble_eq_true rfl) (by omega) rfl rfl (fun v h4 hq => ?_)
    obtain ⟨rfl, e9⟩ := hq
    rw [e9, if_neg (fun z => hn ((st0_iff (by omega) p).mp z))]
    refine R_if_ne_N (tgt := 39) dX10_insert_33 (by decide) (by omega) (fun c33 => ?_) (fun c33 => ?_)
    -- X10_insert: ('branch', 33, 39, 36)
    · exact absurd rfl c33
    · refine R_bipush (v := (-5)) dX10_insert_36 (by decide) ?_
      refine R_ireturn dX10_insert_38 rfl rfl ?_
      -- X10_insert: ('ret', 38)
      exact ⟨rfl, ⟨S3, x3, r3⟩, g0.trans g3⟩
  · exact absurd c14 (by decide)
theorem MP_insert_no3 (y : MMAt E h M q ds im md tp ph fk fp) (hq : PkOk q) {c p : Nat} (hc : c < 26) (hp : p ≤ (letL q.2 q.1).length) (hn : (letL q.2 q.1).length = 240) : Spec E k_X10_insert 67 0 0 [.ref M, .int (nI p), .int (nI c)] h (fun v h' => v = some (.int (-4)) ∧ MMAt E h' M q ds im md tp ph fk fp ∧ Out h h' M (M + 23)) := by
  obtain ⟨S, x, r⟩ := y
  refine Spec.of (by decide +kernel) (by simp [Value.category]) (Nat.le_of_ble_eq_true rfl) ?_
  show WP E k_X10_insert 67 0 0 0 [some (.ref M), some (.int (nI p)), some (.int (nI c)), none, none, none] [] h _
  refine R_aload_n dX10_insert_0 rfl ?_
  refine R_iconst (v := nI 0) dX10_insert_1 (by decide) ?_
  refine R_put_A K_10 (f := 0) (by decide) dX10_insert_2 f_RX10_1 rfl x.1 (by rfl) (by rfl) (Nat.le_of_ble_eq_true rfl) ?_
  intro h0 u0
  have x0 := x.put u0 (by decide)
  have r0 := r.keep (S2 := (upd S.1 0 (nI 0), S.2)) (Ony.refl.put (by decide))
  have g0 : Out h h0 M (M + 23) := Out.upd u0 (by omega) (by omega)
  generalize (upd S.1 0 (nI 0), S.2) = S0 at x0 r0
  refine R_iload_n dX10_insert_5 rfl ?_
  refine R_i2l dX10_insert_6 ?_
  refine R_lconst (v := 0) dX10_insert_7 rfl ?_
  refine R_ldc2 dX10_insert_8 cl_RX10_96 ?_
  -- X10_insert: ('call', 11, '.invokestatic', 98)
  refine R_callS s_X10_isIn (Md_isIn (nI c) (nI 0) (nI 25) (by decide) (by decide)) dX10_insert_11 l_RX10_98 rfl rfl (Nat.le_of_ble_eq_true rfl) (by omega) rfl rfl (fun v h2 hq => ?_)
  obtain ⟨rfl, e9⟩ := hq
  rw [e9, if_pos (lt_iffI.mpr ((ltI_nI (by omega)).mpr hc))]
  refine R_if_ne_N (tgt := 20) dX10_insert_14 (by decide) (by omega) (fun c14 => ?_) (fun c14 => ?_)
  -- X10_insert: ('branch', 14, 20, 17)
  · refine R_aload_n dX10_insert_20 rfl ?_
    -- X10_insert: ('call', 21, '.invokevirtual', 174)
    refine R_callV v_X10_lettersMany (Md_lettersMany hq x0 r0.1) dX10_insert_21 l_RX10_174 rfl rfl x0.1 (Nat.le_of_ble_eq_true rfl) (by omega) rfl rfl (fun v h3 hq => ?_)
    obtain ⟨rfl, g3, S3, x3, o3, w3⟩ := hq
    have r3 := r0.keep (o3.mono (by decide) (by decide))
    refine R_istore3 dX10_insert_24 (by decide) ?_
    refine R_iload_n dX10_insert_25 rfl ?_
    refine R_i2l dX10_insert_26 ?_
    refine R_lconst (v := 0) dX10_insert_27 rfl ?_
    refine R_iload_n dX10_insert_28 rfl ?_
    refine R_i2l dX10_insert_29 ?_
    -- X10_insert: ('call', 30, '.invokestatic', 98)
    refine R_callS s_X10_isIn (Md_isIn (nI p) (nI 0) (nI (letL q.2 q.1).length) (by decide) rfl) dX10_insert_30 l_RX10_98 rfl rfl (Nat.le_of_ble_eq_true rfl) (by omega) rfl rfl (fun v h4 hq => ?_)
    obtain ⟨rfl, e9⟩ := hq
    rw [e9, if_pos ((st0_iff (by omega) (nI p)).mpr ((stP_nI (by omega)).mpr (by omega)))]
    refine R_if_ne_N (tgt := 39) dX10_insert_33 (by decide) (by omega) (fun c33 => ?_) (fun c33 => ?_)
    -- X10_insert: ('branch', 33, 39, 36)
    · refine R_iload_n dX10_insert_39 rfl ?_
      refine R_sipush (v := nI 240) dX10_insert_40 (by decide) ?_
      refine R_icmp_ne_N (tgt := 49) dX10_insert_43 (by decide) (by omega) (by omega) (fun c43 => ?_) (fun c43 => ?_)
      -- X10_insert: ('branch', 43, 49, 46)
      · exact absurd hn c43
      · refine R_bipush (v := (-4)) dX10_insert_46 (by decide) ?_
        refine R_ireturn dX10_insert_48 rfl rfl ?_
        -- X10_insert: ('ret', 48)
        exact ⟨rfl, ⟨S3, x3, r3⟩, g0.trans g3⟩
    · exact absurd c33 (by decide)
  · exact absurd c14 (by decide)
theorem MP_insert (y : MMAt E h M q ds im md tp ph fk fp) (hq : PkOk q) {c p : Nat} (hc : c < 26) (hp : p ≤ (letL q.2 q.1).length) (hn : (letL q.2 q.1).length < 240) : Spec E k_X10_insert 67 0 0 [.ref M, .int (nI p), .int (nI c)] h (fun v h' => v = some (.int (nI ((letL q.2 q.1).length + 1))) ∧ (∃ n sq i, opD q.2 p n q.1 0 0 = some (sq, i) ∧ MMAt E h' M (sq.take i ++ c :: sq.drop i, q.2) (pushD ds q) im md tp ph fk fp) ∧ Out h h' M (M + 23)) := by
  have hll := letL_len (ru := q.2) (q := q.1)
  obtain ⟨S, x, r⟩ := y
  refine Spec.of (by decide +kernel) (by simp [Value.category]) (Nat.le_of_ble_eq_true rfl) ?_
  show WP E k_X10_insert 67 0 0 0 [some (.ref M), some (.int (nI p)), some (.int (nI c)), none, none, none] [] h _
  refine R_aload_n dX10_insert_0 rfl ?_
  refine R_iconst (v := nI 0) dX10_insert_1 (by decide) ?_
  refine R_put_A K_10 (f := 0) (by decide) dX10_insert_2 f_RX10_1 rfl x.1 (by rfl) (by rfl) (Nat.le_of_ble_eq_true rfl) ?_
  intro h0 u0
  have x0 := x.put u0 (by decide)
  have r0 := r.keep (S2 := (upd S.1 0 (nI 0), S.2)) (Ony.refl.put (by decide))
  have g0 : Out h h0 M (M + 23) := Out.upd u0 (by omega) (by omega)
  generalize (upd S.1 0 (nI 0), S.2) = S0 at x0 r0
  refine R_iload_n dX10_insert_5 rfl ?_
  refine R_i2l dX10_insert_6 ?_
  refine R_lconst (v := 0) dX10_insert_7 rfl ?_
  refine R_ldc2 dX10_insert_8 cl_RX10_96 ?_
  -- X10_insert: ('call', 11, '.invokestatic', 98)
  refine R_callS s_X10_isIn (Md_isIn (nI c) (nI 0) (nI 25) (by decide) (by decide)) dX10_insert_11 l_RX10_98 rfl rfl (Nat.le_of_ble_eq_true rfl) (by omega) rfl rfl (fun v h2 hq => ?_)
  obtain ⟨rfl, e9⟩ := hq
  rw [e9, if_pos (lt_iffI.mpr ((ltI_nI (by omega)).mpr hc))]
  refine R_if_ne_N (tgt := 20) dX10_insert_14 (by decide) (by omega) (fun c14 => ?_) (fun c14 => ?_)
  -- X10_insert: ('branch', 14, 20, 17)
  · refine R_aload_n dX10_insert_20 rfl ?_
    -- X10_insert: ('call', 21, '.invokevirtual', 174)
    refine R_callV v_X10_lettersMany (Md_lettersMany hq x0 r0.1) dX10_insert_21 l_RX10_174 rfl rfl x0.1 (Nat.le_of_ble_eq_true rfl) (by omega) rfl rfl (fun v h3 hq => ?_)
    obtain ⟨rfl, g3, S3, x3, o3, w3⟩ := hq
    have r3 := r0.keep (o3.mono (by decide) (by decide))
    refine R_istore3 dX10_insert_24 (by decide) ?_
    refine R_iload_n dX10_insert_25 rfl ?_
    refine R_i2l dX10_insert_26 ?_
    refine R_lconst (v := 0) dX10_insert_27 rfl ?_
    refine R_iload_n dX10_insert_28 rfl ?_
    refine R_i2l dX10_insert_29 ?_
    -- X10_insert: ('call', 30, '.invokestatic', 98)
    refine R_callS s_X10_isIn (Md_isIn (nI p) (nI 0) (nI (letL q.2 q.1).length) (by decide) rfl) dX10_insert_30 l_RX10_98 rfl rfl (Nat.le_of_ble_eq_true rfl) (by omega) rfl rfl (fun v h4 hq => ?_)
    obtain ⟨rfl, e9⟩ := hq
    rw [e9, if_pos ((st0_iff (by omega) (nI p)).mpr ((stP_nI (by omega)).mpr (by omega)))]
    refine R_if_ne_N (tgt := 39) dX10_insert_33 (by decide) (by omega) (fun c33 => ?_) (fun c33 => ?_)
    -- X10_insert: ('branch', 33, 39, 36)
    · refine R_iload_n dX10_insert_39 rfl ?_
      refine R_sipush (v := nI 240) dX10_insert_40 (by decide) ?_
      refine R_icmp_ne_N (tgt := 49) dX10_insert_43 (by decide) (by omega) (by omega) (fun c43 => ?_) (fun c43 => ?_)
      -- X10_insert: ('branch', 43, 49, 46)
      · refine R_aload_n dX10_insert_49 rfl ?_
        -- X10_insert: ('call', 50, '.invokevirtual', 171)
        refine R_callV v_X10_notes (Md_notes x3 r3.1 r3.2.1) dX10_insert_50 l_RX10_171 rfl rfl x3.1 (Nat.le_of_ble_eq_true rfl) (by omega) rfl rfl (fun v h5 hq => ?_)
        obtain ⟨rfl, g5, S5, x5, o5, d5⟩ := hq
        have c5 : curF (S5.2 1) q := by rw [o5.a1 (by decide)]; exact r3.1
        refine R_aload_n dX10_insert_53 rfl ?_
        refine R_iload_n dX10_insert_54 rfl ?_
        -- X10_insert: ('call', 55, '.invokevirtual', 273)
        refine R_callV v_X10_opens (Md_opens hq x5 c5 (place := p) (by omega)) dX10_insert_55 l_RX10_273 rfl rfl x5.1 (Nat.le_of_ble_eq_true rfl) (by omega) rfl rfl (fun v h6 hq => ?_)
        obtain ⟨g6, n6, sq6, i6, ho6, rfl, S6, x6, o6, c6, f6⟩ := hq
        obtain ⟨il6, sl6, ok6, ls6⟩ := ins_ok hq (by omega) (by omega) ho6 hc
        have far : ∀ k, 241 ≤ k → S6.2 1 k = S3.2 1 k := fun k hk => by rw [f6 k hk, o5.1 1 (by decide)]
        refine R_istore4 dX10_insert_58 (by decide) ?_
        refine R_aload_n dX10_insert_60 rfl ?_
        -- X10_insert: ('call', 61, '.invokevirtual', 123)
        refine R_callV v_X10_many (Md_many x6 c6) dX10_insert_61 l_RX10_123 rfl rfl x6.1 (Nat.le_of_ble_eq_true rfl) (by omega) rfl rfl (fun v h7 hq => ?_)
        obtain ⟨rfl, e9⟩ := hq
        rw [e9]
        have loop : ∀ k h8 S8, i6 + k ≤ sq6.length → MdAt E h8 M S8 → Ony [1] [] S6 S8 → S8.2 1 0 = nI sq6.length → (∀ j w, j < i6 + k → sq6[j]? = some w → S8.2 1 (1 + j) = nI w) → (∀ j w, i6 + k ≤ j → sq6[j]? = some w → S8.2 1 (1 + (j + 1)) = nI w) → (∀ k, 241 ≤ k → S8.2 1 k = S6.2 1 k) → Out h h8 M (M + 23) → WP E k_X10_insert 67 0 0 66 [some (.ref M), some (.int (nI p)), some (.int (nI c)), some (.int (nI (letL q.2 q.1).length)), some (.int (nI i6)), some (.int (nI (i6 + k)))] [] h8 (fun v h' => v = some (.int (nI ((letL q.2 q.1).length + 1))) ∧ (∃ n sq i, opD q.2 p n q.1 0 0 = some (sq, i) ∧ MMAt E h' M (sq.take i ++ c :: sq.drop i, q.2) (pushD ds q) im md tp ph fk fp) ∧ Out h h' M (M + 23)) := by
          intro k
          induction k with
          | zero =>
            intro h8 S8 hk x8 o8 e0 eA eC f8 g8
            refine R_iload dX10_insert_66 rfl ?_
            refine R_iload dX10_insert_68 rfl ?_
            refine R_icmp_le_N (tgt := 99) dX10_insert_70 (by decide) (by omega) (by omega) (fun c70 => ?_) (fun c70 => ?_)
            -- X10_insert: ('branch', 70, 99, 73)
            · refine R_aload_n dX10_insert_99 rfl ?_
              refine R_get K_10 (f := 1) (by decide) dX10_insert_100 f_RX10_13 x8.1 rfl ?_
              refine R_iconst (v := nI 1) dX10_insert_103 (by decide) ?_
              refine R_iload dX10_insert_104 rfl ?_
              refine R_iadd_N dX10_insert_106 ?_
              refine R_iload_n dX10_insert_107 rfl ?_
              refine R_iastore_N dX10_insert_108 x8.a1 (by omega) (by omega) ?_
              -- X10_insert: ('put', 109)
              intro h9 u9
              have x9 := x8.s1 u9
              have e0' : (S8.1, updF S8.2 1 (upd (S8.2 1) (1 + i6) (nI c))).2 1 0 = nI sq6.length := by
                show upd (S8.2 1) (1 + i6) _ 0 = _
                rw [upd_ne (by omega)]; exact e0
              refine R_aload_n dX10_insert_109 rfl ?_
              refine R_get K_10 (f := 1) (by decide) dX10_insert_110 f_RX10_13 x9.1 rfl ?_
              refine R_iconst (v := nI 0) dX10_insert_113 (by decide) ?_
              refine R_dup2 dX10_insert_114 rfl rfl ?_
              refine R_iaload_N dX10_insert_115 x9.a1 (by omega) (by omega) e0' ?_
              refine R_iconst (v := nI 1) dX10_insert_116 (by decide) ?_
              refine R_iadd_N dX10_insert_117 ?_
              refine R_iastore_N dX10_insert_118 x9.a1 (by omega) (by omega) ?_
              -- X10_insert: ('put', 119)
              intro h10 u10
              have x10 := x9.s1 u10
              refine R_iload_n dX10_insert_119 rfl ?_
              refine R_iconst (v := nI 1) dX10_insert_120 (by decide) ?_
              refine R_iadd_N dX10_insert_121 ?_
              refine R_ireturn dX10_insert_122 rfl rfl ?_
              -- X10_insert: ('ret', 122)
              have hl2 : (sq6.take i6 ++ c :: sq6.drop i6).length = sq6.length + 1 := by rw [List.length_append, List.length_take, List.length_cons, List.length_drop]; omega
              refine ⟨rfl, ⟨n6, sq6, i6, ho6, _, x10, r3.chg (((((o5.mono (by decide) (by decide)).trans (o6.mono (by decide) (by decide))).trans (o8.mono (by decide) (by decide))).st (by decide)).st (by decide)) ?_ (fun k hk => ?_) (d5.keep ?_ ?_)⟩, (g8.trans (Out.upd u9 (by omega) (by omega))).trans (Out.upd u10 (by omega) (by omega))⟩
              · refine c6.setSeq (q := (sq6, q.2)) (l := sq6.take i6 ++ c :: sq6.drop i6) (by omega) ?_ (fun j w hw => ?_) (fun k hk1 hk2 => ?_)
                · rw [hl2]; exact upd_at (f := upd (S8.2 1) (1 + i6) (nI c)) (k := 0) (x := nI (sq6.length + 1))
                · show upd (upd (S8.2 1) (1 + i6) (nI c)) 0 _ (1 + j) = nI w
                  rw [upd_ne (by omega)]
                  by_cases j1 : j < i6
                  · rw [List.getElem?_append_left (by rw [List.length_take]; omega), List.getElem?_take_of_lt j1] at hw
                    rw [upd_ne (by omega)]; exact eA j w (by omega) hw
                  · rw [List.getElem?_append_right (by rw [List.length_take]; omega), List.length_take, show min i6 sq6.length = i6 by omega] at hw
                    by_cases j2 : j = i6
                    · subst j2
                      rw [Nat.sub_self] at hw
                      rw [upd_at, Option.some.inj hw]
                    · rw [show j - i6 = (j - i6 - 1) + 1 by omega, List.getElem?_cons_succ, List.getElem?_drop] at hw
                      rw [upd_ne (by omega)]
                      have := eC (i6 + (j - i6 - 1)) w (by omega) hw
                      rwa [show 1 + (i6 + (j - i6 - 1) + 1) = 1 + j by omega] at this
                · show upd (upd (S8.2 1) (1 + i6) (nI c)) 0 _ k = _
                  rw [upd_ne (by omega), upd_ne (by omega)]; exact f8 k hk1
              · show upd (upd (S8.2 1) (1 + i6) (nI c)) 0 _ k = _
                rw [upd_ne (by omega), upd_ne (by omega), f8 k (by omega)]; exact far k (by omega)
              · show S8.1 5 = _
                rw [o8.2 5 (by decide), o6.2 5 (by decide)]
              · show S8.2 2 = _
                rw [o8.1 2 (by decide), o6.1 2 (by decide)]
            · exact absurd c70 (by omega)
          | succ k ih =>
            intro h8 S8 hk x8 o8 e0 eA eC f8 g8
            obtain ⟨w, hw⟩ := getE (l := sq6) (i := i6 + k) (by omega)
            have ev := eA (i6 + k) w (by omega) hw
            have ev2 : S8.2 1 (1 + (i6 + (k + 1)) - 1) = nI w := by rw [show 1 + (i6 + (k + 1)) - 1 = 1 + (i6 + k) by omega]; exact ev
            refine R_iload dX10_insert_66 rfl ?_
            refine R_iload dX10_insert_68 rfl ?_
            refine R_icmp_le_N (tgt := 99) dX10_insert_70 (by decide) (by omega) (by omega) (fun c70 => ?_) (fun c70 => ?_)
            -- X10_insert: ('branch', 70, 99, 73)
            · exact absurd c70 (by omega)
            · refine R_aload_n dX10_insert_73 rfl ?_
              refine R_get K_10 (f := 1) (by decide) dX10_insert_74 f_RX10_13 x8.1 rfl ?_
              refine R_iconst (v := nI 1) dX10_insert_77 (by decide) ?_
              refine R_iload dX10_insert_78 rfl ?_
              refine R_iadd_N dX10_insert_80 ?_
              refine R_aload_n dX10_insert_81 rfl ?_
              refine R_get K_10 (f := 1) (by decide) dX10_insert_82 f_RX10_13 x8.1 rfl ?_
              refine R_iconst (v := nI 1) dX10_insert_85 (by decide) ?_
              refine R_iload dX10_insert_86 rfl ?_
              refine R_iadd_N dX10_insert_88 ?_
              refine R_iconst (v := nI 1) dX10_insert_89 (by decide) ?_
              refine R_isub_N dX10_insert_90 (by omega) ?_
              refine R_iaload_N dX10_insert_91 x8.a1 (by omega) (by omega) ev2 ?_
              refine R_iastore_N dX10_insert_92 x8.a1 (by omega) (by omega) ?_
              -- X10_insert: ('put', 93)
              intro h9 u9
              have x9 := x8.s1 u9
              refine R_iinc5 dX10_insert_93 (by decide) (nI_sub1 (by omega)) ?_
              refine R_goto (tgt := 66) dX10_insert_96 (by decide) ?_
              -- X10_insert: ('stop', 66)
              rw [show i6 + (k + 1) - 1 = i6 + k by omega]
              refine ih h9 _ (by omega) x9 (o8.st (by decide)) ?_ (fun j u hj hu => ?_) (fun j u hj hu => ?_) (fun k2 hk2 => ?_) (g8.trans (Out.upd u9 (by omega) (by omega)))
              · show upd (S8.2 1) (1 + (i6 + (k + 1))) (nI w) 0 = _
                rw [upd_ne (by omega)]; exact e0
              · show upd (S8.2 1) (1 + (i6 + (k + 1))) (nI w) (1 + j) = nI u
                rw [upd_ne (by omega)]; exact eA j u (by omega) hu
              · show upd (S8.2 1) (1 + (i6 + (k + 1))) (nI w) (1 + (j + 1)) = nI u
                by_cases e : j = i6 + k
                · rw [e, show 1 + (i6 + k + 1) = 1 + (i6 + (k + 1)) by omega, upd_at]
                  rw [e, hw] at hu
                  rw [Option.some.inj hu]
                · rw [upd_ne (by omega)]; exact eC j u (by omega) hu
              · show upd (S8.2 1) (1 + (i6 + (k + 1))) (nI w) k2 = _
                rw [upd_ne (by omega)]; exact f8 k2 hk2
        refine R_istore5 dX10_insert_64 (by decide) ?_
        -- X10_insert: ('stop', 66)
        have := loop (sq6.length - i6) h6 S6 (by omega) x6 Ony.refl c6.many (fun j w _ hw => c6.sg (q := (sq6, q.2)) hw) (fun j w h1 hw => absurd (List.getElem?_eq_some_iff.mp hw).1 (by omega)) (fun _ _ => rfl) (((g0.trans g3).trans g5).trans g6)
        rw [show i6 + (sq6.length - i6) = sq6.length by omega] at this
        exact this
      · exact absurd c43 (by omega)
    · exact absurd c33 (by decide)
  · exact absurd c14 (by decide)
end MD9
