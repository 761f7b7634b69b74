/-! THE MODEL: a rule, a form, load -/
theorem LdInv.le {lt : Nat → Nat} {ru : Ru} (x : LdInv lt ru) : (∀ s, s < 86 → lt s ≤ 240) ∧ ∀ s, s < 26 → lt s ≠ 0 := by
  refine ⟨fun s hs => ?_, fun s hs z => (x.2.2 s (by omega)).1 z (Or.inl hs)⟩
  by_cases c : lt s = 0
  · omega
  · obtain ⟨a, b⟩ := (x.2.2 s hs).2 c
    rw [← b]; exact wlen_le x.1 a
section MD18
variable {E : EnvT} {h h1 : Hp} {M : Nat} {S : MSt} {q : Pk} {ds : List Pk} {im : Nat → Pk} {md : Nat → Nat} {tp ph : List Nat} {fk fp : Int32} {n pos : Nat} {lt : Nat → Nat} {ru : Ru}
theorem neg_ge {k : Nat} (h : k < 5) : ¬ (0 : Int32) ≤ -30 - nI k := Int32.not_le.mpr (neg30 k h)
theorem Md_nextRule (x : MdAt E h M S) (r : RdM S tp n pos lt) (hn : n ≤ tp.length) (htl : tp.length ≤ 260) (hp : pos ≤ n) (li : LdInv lt ru) (c : curF (S.2 12) ([], ru)) : Spec E k_X10_nextRule 3 0 0 [.ref M] h (fun v h' => Out h h' M (M + 23) ∧ ∃ S', MdAt E h' M S' ∧ Ony [6, 12] [14, 15, 19, 21] S S' ∧ RM (rdRule tp n pos lt ru) v S' (fun a => v = some (.int (nI 0)) ∧ a.1 ≤ n ∧ S'.1 14 = S.1 14 ∧ S'.1 15 = S.1 15 ∧ RdM S' tp n a.1 a.2.1 ∧ curF (S'.2 12) ([], a.2.2))) := by
  have V19 := fld_get (M := M) (k := 19) (by decide) r.1
  have V20 := fld_get (M := M) (k := 20) (by decide) r.2.1
  obtain ⟨hlt, h26⟩ := li.le
  refine Spec.of (by decide +kernel) (by simp [Value.category]) (Nat.le_of_ble_eq_true rfl) ?_
  show WP E k_X10_nextRule 3 0 0 0 [some (.ref M), none, none, none] [] h _
  by_cases hpn : pos = n
  · refine R_aload_n dX10_nextRule_0 rfl ?_
    refine R_get K_10 (f := 19) (by decide) dX10_nextRule_1 f_RX10_147 x.1 V19 ?_
    refine R_aload_n dX10_nextRule_4 rfl ?_
    refine R_get K_10 (f := 20) (by decide) dX10_nextRule_5 f_RX10_150 x.1 V20 ?_
    refine R_icmp_ne_N (tgt := 21) dX10_nextRule_8 (by decide) (by omega) (by omega) (fun c8 => ?_) (fun c8 => ?_)
    -- X10_nextRule: ('branch', 8, 21, 11)
    · exact absurd hpn c8
    · refine R_aload_n dX10_nextRule_11 rfl ?_
      refine R_iconst (v := nI 1) dX10_nextRule_12 (by decide) ?_
      refine R_aload_n dX10_nextRule_13 rfl ?_
      refine R_get K_10 (f := 19) (by decide) dX10_nextRule_14 f_RX10_147 x.1 V19 ?_
      -- X10_nextRule: ('call', 17, '.invokevirtual', 153)
      refine R_callV v_X10_fails (Md_fails x (nI 1) (nI pos)) dX10_nextRule_17 l_RX10_153 rfl rfl x.1 (Nat.le_of_ble_eq_true rfl) (by omega) rfl rfl (fun v h2 hq => ?_)
      obtain ⟨rfl, g2, S2, x2, o2, e14, e15⟩ := hq
      refine R_ireturn dX10_nextRule_20 rfl rfl ?_
      -- X10_nextRule: ('ret', 20)
      refine ⟨g2, S2, x2, o2.mono (by decide) (by decide), ?_⟩
      rw [rdRule, if_pos (by omega)]
      exact RM.er rfl e14 e15 (by decide)
  · obtain ⟨t1, t2, t3⟩ := r.tape hn (p := pos) (by omega)
    have hdef : rdRule tp n pos lt ru = if tp.getD pos 0 < 26 ∨ 86 ≤ tp.getD pos 0 then .error (2, pos) else if 0 < lt (tp.getD pos 0) then .error (3, pos) else if n ≤ pos + 1 then .error (1, pos + 1) else if tp.getD (pos + 1) 0 < 2 ∨ 12 < tp.getD (pos + 1) 0 then .error (2, pos + 1) else rdMk tp n lt ru (tp.getD pos 0) (tp.getD (pos + 1) 0) (pos + 2) := by
      rw [rdRule, if_neg (by omega)]
    rw [hdef]
    generalize hy : tp.getD pos 0 = y at *
    refine R_aload_n dX10_nextRule_0 rfl ?_
    refine R_get K_10 (f := 19) (by decide) dX10_nextRule_1 f_RX10_147 x.1 V19 ?_
    refine R_aload_n dX10_nextRule_4 rfl ?_
    refine R_get K_10 (f := 20) (by decide) dX10_nextRule_5 f_RX10_150 x.1 V20 ?_
    refine R_icmp_ne_N (tgt := 21) dX10_nextRule_8 (by decide) (by omega) (by omega) (fun c8 => ?_) (fun c8 => ?_)
    -- X10_nextRule: ('branch', 8, 21, 11)
    · refine R_aload_n dX10_nextRule_21 rfl ?_
      refine R_get K_10 (f := 12) (by decide) dX10_nextRule_22 f_RX10_42 x.1 rfl ?_
      refine R_aload_n dX10_nextRule_25 rfl ?_
      refine R_get K_10 (f := 19) (by decide) dX10_nextRule_26 f_RX10_147 x.1 V19 ?_
      refine R_baload_N dX10_nextRule_29 x.a10 (by omega) (by omega) t1 ?_
      refine R_sipush (v := nI 255) dX10_nextRule_30 (by decide) ?_
      refine R_iand dX10_nextRule_33 ?_
      -- X10_nextRule: ('stop', 34)
      rw [and255 t2]
      refine R_istore1 dX10_nextRule_34 (by decide) ?_
      refine R_iload_n dX10_nextRule_35 rfl ?_
      refine R_i2l dX10_nextRule_36 ?_
      refine R_ldc2 dX10_nextRule_37 cl_RX10_102 ?_
      refine R_ldc2 dX10_nextRule_40 cl_RX10_104 ?_
      -- X10_nextRule: ('call', 43, '.invokestatic', 98)
      refine R_callS s_X10_isIn (Md_isIn (nI y) (nI 26) (nI 85) (by decide) (by decide)) dX10_nextRule_43 l_RX10_98 rfl rfl (Nat.le_of_ble_eq_true rfl) (by omega) rfl rfl (fun v h2 hq => ?_)
      obtain ⟨rfl, e9⟩ := hq
      rw [e9, if_iff (in_iff (by omega) (by omega) (by omega))]
      by_cases cy : 26 ≤ y ∧ y ≤ 85
      · rw [if_pos cy, if_neg (show ¬ (y < 26 ∨ 86 ≤ y) by omega)]
        have hly := hlt y (by omega)
        refine R_if_ne_N (tgt := 59) dX10_nextRule_46 (by decide) (by omega) (fun c46 => ?_) (fun c46 => ?_)
        -- X10_nextRule: ('branch', 46, 59, 49)
        · refine R_aload_n dX10_nextRule_59 rfl ?_
          refine R_get K_10 (f := 7) (by decide) dX10_nextRule_60 f_RX10_30 x.1 rfl ?_
          refine R_iload_n dX10_nextRule_63 rfl ?_
          refine R_iaload_N dX10_nextRule_64 x.a6 (by omega) (by omega) (r.2.2.2 y (by omega)) ?_
          refine R_if_le_N (tgt := 78) dX10_nextRule_65 (by decide) (by omega) (fun c65 => ?_) (fun c65 => ?_)
          -- X10_nextRule: ('branch', 65, 78, 68)
          · rw [if_neg (by omega)]
            have hy0 : lt y = 0 := by omega
            refine R_aload_n dX10_nextRule_78 rfl ?_
            refine R_dup dX10_nextRule_79 rfl ?_
            refine R_get K_10 (f := 19) (by decide) dX10_nextRule_80 f_RX10_147 x.1 V19 ?_
            refine R_iconst (v := nI 1) dX10_nextRule_83 (by decide) ?_
            refine R_iadd_N dX10_nextRule_84 ?_
            refine R_put_A K_10 (f := 19) (by decide) dX10_nextRule_85 f_RX10_147 rfl x.1 (by rfl) (by rfl) (Nat.le_of_ble_eq_true rfl) ?_
            -- X10_nextRule: ('put', 88)
            intro h3 u3
            have x3 := x.put u3 (by decide)
            have r3 : RdM (upd S.1 19 (nI (pos + 1)), S.2) tp n (pos + 1) lt := ⟨rfl, r.2.1, r.2.2.1, r.2.2.2⟩
            have o3 : Ony [6, 12] [14, 15, 19, 21] S (upd S.1 19 (nI (pos + 1)), S.2) := Ony.refl.put (by decide)
            have g3 : Out h h3 M (M + 23) := Out.upd u3 (by omega) (by omega)
            refine R_aload_n dX10_nextRule_88 rfl ?_
            refine R_iconst (v := nI 2) dX10_nextRule_89 (by decide) ?_
            refine R_bipush (v := nI 12) dX10_nextRule_90 (by decide) ?_
            -- X10_nextRule: ('call', 92, '.invokevirtual', 159)
            refine R_callV v_X10_nextByte (Md_nextByte x3 r3 hn htl (by omega) (lo := 2) (hi := 12) (by decide) (by decide)) dX10_nextRule_92 l_RX10_159 rfl rfl x3.1 (Nat.le_of_ble_eq_true rfl) (by omega) rfl rfl (fun v h4 hq => ?_)
            obtain ⟨g4, S4, x4, o4, k4⟩ := hq
            have hb : rdByte tp n (pos + 1) 2 12 = if n ≤ pos + 1 then .error (1, pos + 1) else if tp.getD (pos + 1) 0 < 2 ∨ 12 < tp.getD (pos + 1) 0 then .error (2, pos + 1) else .ok (tp.getD (pos + 1) 0) := rfl
            by_cases c1 : n ≤ pos + 1
            · rw [hb, if_pos c1] at k4
              obtain ⟨rfl, e14, e15, -⟩ := k4.ere
              refine R_istore2 dX10_nextRule_95 (by decide) ?_
              refine R_iload_n dX10_nextRule_96 rfl ?_
              refine R_if_ge (tgt := 102) dX10_nextRule_97 (by decide) (fun c97 => ?_) (fun c97 => ?_)
              -- X10_nextRule: ('branch', 97, 102, 100)
              · exact absurd c97 (neg_ge (k := 1) (by decide))
              · refine R_iload_n dX10_nextRule_100 rfl ?_
                refine R_ireturn dX10_nextRule_101 rfl rfl ?_
                -- X10_nextRule: ('ret', 101)
                refine ⟨g3.trans g4, S4, x4, o3.trans (o4.mono (by decide) (by decide)), ?_⟩
                rw [if_pos c1]
                exact RM.er rfl e14 e15 (by decide)
            · by_cases c2 : tp.getD (pos + 1) 0 < 2 ∨ 12 < tp.getD (pos + 1) 0
              · rw [hb, if_neg c1, if_pos c2] at k4
                obtain ⟨rfl, e14, e15, -⟩ := k4.ere
                refine R_istore2 dX10_nextRule_95 (by decide) ?_
                refine R_iload_n dX10_nextRule_96 rfl ?_
                refine R_if_ge (tgt := 102) dX10_nextRule_97 (by decide) (fun c97 => ?_) (fun c97 => ?_)
                -- X10_nextRule: ('branch', 97, 102, 100)
                · exact absurd c97 (neg_ge (k := 2) (by decide))
                · refine R_iload_n dX10_nextRule_100 rfl ?_
                  refine R_ireturn dX10_nextRule_101 rfl rfl ?_
                  -- X10_nextRule: ('ret', 101)
                  refine ⟨g3.trans g4, S4, x4, o3.trans (o4.mono (by decide) (by decide)), ?_⟩
                  rw [if_neg c1, if_pos c2]
                  exact RM.er rfl e14 e15 (by decide)
              · rw [hb, if_neg c1, if_neg c2] at k4
                obtain ⟨rfl, -, -, -, -, e19, e14, e15⟩ := k4.get
                rw [if_neg c1, if_neg c2]
                generalize hm : tp.getD (pos + 1) 0 = m at *
                have r4 : RdM S4 tp n (pos + 2) lt := ⟨e19, (o4.2 20 (by decide)).trans r.2.1, fun i w hw => by rw [o4.1 10 (by decide)]; exact r.2.2.1 i w hw, fun s hs => by rw [o4.1 6 (by decide)]; exact r.2.2.2 s hs⟩
                have o34 := o3.trans (o4.mono (by decide) (by decide))
                refine R_istore2 dX10_nextRule_95 (by decide) ?_
                refine R_iload_n dX10_nextRule_96 rfl ?_
                refine R_if_ge_N (tgt := 102) dX10_nextRule_97 (by decide) (by omega) ?_
                refine R_aload_n dX10_nextRule_102 rfl ?_
                refine R_iload_n dX10_nextRule_103 rfl ?_
                -- X10_nextRule: ('call', 104, '.invokestatic', 92)
                refine R_callS s_X10_rowAt (Md_rowAt (s := y) cy.1) dX10_nextRule_104 l_RX10_92 rfl rfl (Nat.le_of_ble_eq_true rfl) (by omega) rfl rfl (fun v h5 hq => ?_)
                obtain ⟨rfl, e9⟩ := hq
                rw [e9]
                refine R_iconst (v := nI 1) dX10_nextRule_107 (by decide) ?_
                refine R_iadd_N dX10_nextRule_108 ?_
                refine R_iload_n dX10_nextRule_109 rfl ?_
                -- X10_nextRule: ('call', 110, '.invokevirtual', 162)
                refine R_callV v_X10_nextSigns (Md_nextSigns x4 r4 hn htl (by omega) hlt h26 (fr := 241 + 13 * (y - 26) + 1) (m := m) (by omega)) dX10_nextRule_110 l_RX10_162 rfl rfl x4.1 (Nat.le_of_ble_eq_true rfl) (by omega) rfl rfl (fun v h6 hq => ?_)
                obtain ⟨g6, S6, x6, o6, k6⟩ := hq
                cases hrow : rdRow tp n lt m (pos + 2) 0 [] with
                | error e =>
                  rw [hrow] at k6
                  obtain ⟨rfl, e14, e15, e5⟩ := k6.ere
                  refine R_istore3 dX10_nextRule_113 (by decide) ?_
                  refine R_iload_n dX10_nextRule_114 rfl ?_
                  refine R_if_ge (tgt := 120) dX10_nextRule_115 (by decide) (fun c115 => ?_) (fun c115 => ?_)
                  -- X10_nextRule: ('branch', 115, 120, 118)
                  · exact absurd c115 (neg_ge (k := e.1) e5)
                  · refine R_iload_n dX10_nextRule_118 rfl ?_
                    refine R_ireturn dX10_nextRule_119 rfl rfl ?_
                    -- X10_nextRule: ('ret', 119)
                    refine ⟨(g3.trans g4).trans g6, S6, x6, o34.trans (o6.mono (by decide) (by decide)), ?_⟩
                    rw [rdMk_er hrow]
                    exact RM.er rfl e14 e15 e5
                | ok a =>
                  rw [hrow] at k6
                  obtain ⟨rfl, hle, f19, f21, f14, f15, fa, fk9⟩ := k6.get
                  obtain ⟨s1, s2, s3⟩ := rdRow_sum (by decide) hrow
                  rw [List.length_nil, Nat.zero_add] at s3
                  refine R_istore3 dX10_nextRule_113 (by decide) ?_
                  refine R_iload_n dX10_nextRule_114 rfl ?_
                  refine R_if_ge_N (tgt := 120) dX10_nextRule_115 (by decide) (by omega) ?_
                  refine R_aload_n dX10_nextRule_120 rfl ?_
                  refine R_get K_10 (f := 18) (by decide) dX10_nextRule_121 f_RX10_52 x6.1 rfl ?_
                  refine R_iload_n dX10_nextRule_124 rfl ?_
                  -- X10_nextRule: ('call', 125, '.invokestatic', 92)
                  refine R_callS s_X10_rowAt (Md_rowAt (s := y) cy.1) dX10_nextRule_125 l_RX10_92 rfl rfl (Nat.le_of_ble_eq_true rfl) (by omega) rfl rfl (fun v h7 hq => ?_)
                  obtain ⟨rfl, e9⟩ := hq
                  rw [e9]
                  refine R_iload_n dX10_nextRule_128 rfl ?_
                  refine R_iastore_N dX10_nextRule_129 x6.a12 (by omega) (by omega) ?_
                  -- X10_nextRule: ('put', 130)
                  intro h8 u8
                  have x8 := x6.s12 u8
                  refine R_aload_n dX10_nextRule_130 rfl ?_
                  refine R_get K_10 (f := 7) (by decide) dX10_nextRule_131 f_RX10_30 x8.1 rfl ?_
                  refine R_iload_n dX10_nextRule_134 rfl ?_
                  refine R_aload_n dX10_nextRule_135 rfl ?_
                  refine R_get K_10 (f := 21) (by decide) dX10_nextRule_136 f_RX10_156 x8.1 (fld_get (k := 21) (by decide) f21) ?_
                  refine R_iastore_N dX10_nextRule_139 x8.a6 (by omega) (by omega) ?_
                  -- X10_nextRule: ('put', 140)
                  intro h9 u9
                  have x9 := x8.s6 u9
                  refine R_iconst (v := nI 0) dX10_nextRule_140 (by decide) ?_
                  refine R_ireturn dX10_nextRule_141 rfl rfl ?_
                  -- X10_nextRule: ('ret', 141)
                  refine ⟨(((g3.trans g4).trans g6).trans (Out.upd u8 (by omega) (by omega))).trans (Out.upd u9 (by omega) (by omega)), _, x9, ((o34.trans (o6.mono (by decide) (by decide))).st (by decide)).st (by decide), ?_⟩
                  rw [rdMk_ok hrow]
                  refine RM.fi ⟨rfl, hle, f14.trans e14, f15.trans e15, ⟨f19, ?_, fun i w hw => ?_, fun s hs => ?_⟩, ?_⟩
                  · exact (o6.2 20 (by decide)).trans r4.2.1
                  · show S6.2 10 i = _ ∧ _
                    rw [o6.1 10 (by decide)]; exact r4.2.2.1 i w hw
                  · show upd (S6.2 6) y (nI a.2.2) s = nI (if s = y then a.2.2 else lt s)
                    by_cases e : s = y
                    · rw [e, upd_at, if_pos rfl]
                    · rw [upd_ne e, if_neg e, o6.1 6 (by decide)]; exact r4.2.2.2 s hs
                  · show curF (upd (S6.2 12) (241 + 13 * (y - 26)) (nI m)) ([], ruSet ru (y - 26) a.1)
                    refine recF.setRow (q := ([], ru)) c (by omega) (by omega) (by rw [upd_at, s3]) (fun j w hw => ?_) (fun k hk hk2 => ?_)
                    · rw [upd_ne (by omega)]; exact fa j w hw
                    · rw [upd_ne (by omega), fk9 k (by omega), o4.1 12 (by decide)]
          · rw [if_pos (by omega)]
            refine R_aload_n dX10_nextRule_68 rfl ?_
            refine R_iconst (v := nI 3) dX10_nextRule_69 (by decide) ?_
            refine R_aload_n dX10_nextRule_70 rfl ?_
            refine R_get K_10 (f := 19) (by decide) dX10_nextRule_71 f_RX10_147 x.1 V19 ?_
            -- X10_nextRule: ('call', 74, '.invokevirtual', 153)
            refine R_callV v_X10_fails (Md_fails x (nI 3) (nI pos)) dX10_nextRule_74 l_RX10_153 rfl rfl x.1 (Nat.le_of_ble_eq_true rfl) (by omega) rfl rfl (fun v h2 hq => ?_)
            obtain ⟨rfl, g2, S2, x2, o2, e14, e15⟩ := hq
            refine R_ireturn dX10_nextRule_77 rfl rfl ?_
            -- X10_nextRule: ('ret', 77)
            exact ⟨g2, S2, x2, o2.mono (by decide) (by decide), RM.er rfl e14 e15 (by decide)⟩
        · exact absurd c46 (by decide)
      · rw [if_neg cy, if_pos (show y < 26 ∨ 86 ≤ y by omega)]
        refine R_if_ne_N (tgt := 59) dX10_nextRule_46 (by decide) (by omega) (fun c46 => ?_) (fun c46 => ?_)
        -- X10_nextRule: ('branch', 46, 59, 49)
        · exact absurd rfl c46
        · refine R_aload_n dX10_nextRule_49 rfl ?_
          refine R_iconst (v := nI 2) dX10_nextRule_50 (by decide) ?_
          refine R_aload_n dX10_nextRule_51 rfl ?_
          refine R_get K_10 (f := 19) (by decide) dX10_nextRule_52 f_RX10_147 x.1 V19 ?_
          -- X10_nextRule: ('call', 55, '.invokevirtual', 153)
          refine R_callV v_X10_fails (Md_fails x (nI 2) (nI pos)) dX10_nextRule_55 l_RX10_153 rfl rfl x.1 (Nat.le_of_ble_eq_true rfl) (by omega) rfl rfl (fun v h2 hq => ?_)
          obtain ⟨rfl, g2, S2, x2, o2, e14, e15⟩ := hq
          refine R_ireturn dX10_nextRule_58 rfl rfl ?_
          -- X10_nextRule: ('ret', 58)
          exact ⟨g2, S2, x2, o2.mono (by decide) (by decide), RM.er rfl e14 e15 (by decide)⟩
    · exact absurd c8 hpn
theorem MRel.flt {S2 : MSt} (r : MRel S q ds im md tp ph fk fp) (o : Ony [6, 12] [14, 15, 19, 20, 21] S S2) : MRel S2 q ds im md tp ph (S2.1 14) (S2.1 15) := by
  obtain ⟨ra, rb, rc, rd, re, rf, rg⟩ := r
  exact ⟨by rw [o.1 1 (by decide)]; exact ra, rb.keep (o.2 5 (by decide)) (o.1 2 (by decide)), rc.keep (o.1 5 (by decide)) (fun k _ => by rw [o.1 1 (by decide)]), rd.keep (o.2 13 (by decide)) (o.1 10 (by decide)), re.keep (o.2 16 (by decide)) (o.1 11 (by decide)), rfl, rfl⟩
theorem Md_readsForm (x : MdAt E h M S) (e20 : S.1 20 = nI n) (ht : ∀ i x, tp[i]? = some x → S.2 10 i = byI x ∧ x < 256) (hn : n ≤ tp.length) (htl : tp.length ≤ 260) : Spec E k_X10_readsForm 4 0 0 [.ref M] h (fun v h' => Out h h' M (M + 23) ∧ ∃ S', MdAt E h' M S' ∧ Ony [6, 12] [14, 15, 19, 21] S S' ∧ RM (rdForm tp n) v S' (fun q2 => v = some (.int (nI 0)) ∧ S'.1 14 = S.1 14 ∧ S'.1 15 = S.1 15 ∧ curF (S'.2 12) q2)) := by
  refine Spec.of (by decide +kernel) (by simp [Value.category]) (Nat.le_of_ble_eq_true rfl) ?_
  show WP E k_X10_readsForm 4 0 0 0 [some (.ref M), none, none, none] [] h _
  have rest : ∀ mm pos5 lt5 ru5 h5 S5 (z3 : Option Value), tp.getD 0 0 ≤ 60 → 0 < n → mm ≤ tp.getD 0 0 → pos5 ≤ n → MdAt E h5 M S5 → Ony [6, 12] [14, 15, 19, 21] S S5 → S5.1 14 = S.1 14 → S5.1 15 = S.1 15 → RdM S5 tp n pos5 lt5 → LdInv lt5 ru5 → curF (S5.2 12) ([], ru5) → rdRules tp n (tp.getD 0 0) 1 lt0 (fun _ => []) = rdRules tp n mm pos5 lt5 ru5 → Out h h5 M (M + 23) → WP E k_X10_readsForm 4 0 0 74 [some (.ref M), some (.int (nI (tp.getD 0 0))), some (.int (nI (tp.getD 0 0 - mm))), z3] [] h5 (fun v h' => Out h h' M (M + 23) ∧ ∃ S', MdAt E h' M S' ∧ Ony [6, 12] [14, 15, 19, 21] S S' ∧ RM (rdForm tp n) v S' (fun q2 => v = some (.int (nI 0)) ∧ S'.1 14 = S.1 14 ∧ S'.1 15 = S.1 15 ∧ curF (S'.2 12) q2)) := by
    intro mm
    induction mm with
    | zero =>
      intro pos5 lt5 ru5 h5 S5 z3 hc hn0 hm hp5 x5 o5 e14 e15 r5 li c5 hr g5
      rw [rdRules] at hr
      obtain ⟨hlt, h26⟩ := li.le
      refine R_iload_n dX10_readsForm_74 rfl ?_
      refine R_iload_n dX10_readsForm_75 rfl ?_
      refine R_icmp_ge_N (tgt := 96) dX10_readsForm_76 (by decide) (by omega) (by omega) (fun c76 => ?_) (fun c76 => ?_)
      -- X10_readsForm: ('branch', 76, 96, 79)
      · refine R_aload_n dX10_readsForm_96 rfl ?_
        refine R_iconst (v := nI 0) dX10_readsForm_97 (by decide) ?_
        refine R_sipush (v := nI 240) dX10_readsForm_98 (by decide) ?_
        -- X10_readsForm: ('call', 101, '.invokevirtual', 159)
        refine R_callV v_X10_nextByte (Md_nextByte x5 r5 hn htl hp5 (lo := 0) (hi := 240) (by decide) (by decide)) dX10_readsForm_101 l_RX10_159 rfl rfl x5.1 (Nat.le_of_ble_eq_true rfl) (by omega) rfl rfl (fun v h6 hq => ?_)
        obtain ⟨g6, S6, x6, o6, k6⟩ := hq
        have hb : rdByte tp n pos5 0 240 = if n ≤ pos5 then .error (1, pos5) else if tp.getD pos5 0 < 0 ∨ 240 < tp.getD pos5 0 then .error (2, pos5) else .ok (tp.getD pos5 0) := rfl
        have hs : rdSeq tp n pos5 lt5 = if n ≤ pos5 then .error (1, pos5) else if 240 < tp.getD pos5 0 then .error (2, pos5) else rdRow tp n lt5 (tp.getD pos5 0) (pos5 + 1) 0 [] := rfl
        have o56 := o5.trans (o6.mono (by decide) (by decide))
        by_cases c1 : n ≤ pos5
        · rw [hb, if_pos c1] at k6
          rw [if_pos c1] at hs
          obtain ⟨rfl, f14, f15, -⟩ := k6.ere
          refine R_istore2 dX10_readsForm_104 (by decide) ?_
          refine R_iload_n dX10_readsForm_105 rfl ?_
          refine R_if_ge (tgt := 111) dX10_readsForm_106 (by decide) (fun c106 => ?_) (fun c106 => ?_)
          -- X10_readsForm: ('branch', 106, 111, 109)
          · exact absurd c106 (neg_ge (k := 1) (by decide))
          · refine R_iload_n dX10_readsForm_109 rfl ?_
            refine R_ireturn dX10_readsForm_110 rfl rfl ?_
            -- X10_readsForm: ('ret', 110)
            refine ⟨g5.trans g6, S6, x6, o56, ?_⟩
            rw [rdForm_4 hn0 (by omega) hr hs]
            exact RM.er rfl f14 f15 (by decide)
        · by_cases c2 : 240 < tp.getD pos5 0
          · rw [hb, if_neg c1, if_pos (Or.inr c2)] at k6
            rw [if_neg c1, if_pos c2] at hs
            obtain ⟨rfl, f14, f15, -⟩ := k6.ere
            refine R_istore2 dX10_readsForm_104 (by decide) ?_
            refine R_iload_n dX10_readsForm_105 rfl ?_
            refine R_if_ge (tgt := 111) dX10_readsForm_106 (by decide) (fun c106 => ?_) (fun c106 => ?_)
            -- X10_readsForm: ('branch', 106, 111, 109)
            · exact absurd c106 (neg_ge (k := 2) (by decide))
            · refine R_iload_n dX10_readsForm_109 rfl ?_
              refine R_ireturn dX10_readsForm_110 rfl rfl ?_
              -- X10_readsForm: ('ret', 110)
              refine ⟨g5.trans g6, S6, x6, o56, ?_⟩
              rw [rdForm_4 hn0 (by omega) hr hs]
              exact RM.er rfl f14 f15 (by decide)
          · rw [hb, if_neg c1, if_neg (fun z => z.elim (by omega) c2)] at k6
            rw [if_neg c1, if_neg c2] at hs
            obtain ⟨rfl, -, -, -, -, f19, f14, f15⟩ := k6.get
            generalize hcn : tp.getD pos5 0 = cn at *
            have r6 : RdM S6 tp n (pos5 + 1) lt5 := ⟨f19, (o6.2 20 (by decide)).trans r5.2.1, fun i w hw => by rw [o6.1 10 (by decide)]; exact r5.2.2.1 i w hw, fun s hs => by rw [o6.1 6 (by decide)]; exact r5.2.2.2 s hs⟩
            refine R_istore2 dX10_readsForm_104 (by decide) ?_
            refine R_iload_n dX10_readsForm_105 rfl ?_
            refine R_if_ge_N (tgt := 111) dX10_readsForm_106 (by decide) (by omega) ?_
            refine R_aload_n dX10_readsForm_111 rfl ?_
            refine R_iconst (v := nI 1) dX10_readsForm_112 (by decide) ?_
            refine R_iload_n dX10_readsForm_113 rfl ?_
            -- X10_readsForm: ('call', 114, '.invokevirtual', 162)
            refine R_callV v_X10_nextSigns (Md_nextSigns x6 r6 hn htl (by omega) hlt h26 (fr := 1) (m := cn) (by omega)) dX10_readsForm_114 l_RX10_162 rfl rfl x6.1 (Nat.le_of_ble_eq_true rfl) (by omega) rfl rfl (fun v h7 hq => ?_)
            obtain ⟨g7, S7, x7, o7, k7⟩ := hq
            have o57 := o56.trans (o7.mono (by decide) (by decide))
            have g57 := (g5.trans g6).trans g7
            cases hrow : rdRow tp n lt5 cn (pos5 + 1) 0 [] with
            | error e =>
              rw [hrow] at k7 hs
              obtain ⟨rfl, p14, p15, e5⟩ := k7.ere
              refine R_istore3 dX10_readsForm_117 (by decide) ?_
              refine R_iload_n dX10_readsForm_118 rfl ?_
              refine R_if_ge (tgt := 124) dX10_readsForm_119 (by decide) (fun c119 => ?_) (fun c119 => ?_)
              -- X10_readsForm: ('branch', 119, 124, 122)
              · exact absurd c119 (neg_ge (k := e.1) e5)
              · refine R_iload_n dX10_readsForm_122 rfl ?_
                refine R_ireturn dX10_readsForm_123 rfl rfl ?_
                -- X10_readsForm: ('ret', 123)
                refine ⟨g57, S7, x7, o57, ?_⟩
                rw [rdForm_4 hn0 (by omega) hr hs]
                exact RM.er rfl p14 p15 e5
            | ok b =>
              rw [hrow] at k7 hs
              obtain ⟨rfl, hle, p19, p21, p14, p15, pa, pk9⟩ := k7.get
              obtain ⟨s1, s2, s3⟩ := rdRow_sum (by decide) hrow
              rw [List.length_nil, Nat.zero_add] at s3
              refine R_istore3 dX10_readsForm_117 (by decide) ?_
              refine R_iload_n dX10_readsForm_118 rfl ?_
              refine R_if_ge_N (tgt := 124) dX10_readsForm_119 (by decide) (by omega) ?_
              refine R_aload_n dX10_readsForm_124 rfl ?_
              refine R_get K_10 (f := 18) (by decide) dX10_readsForm_125 f_RX10_52 x7.1 rfl ?_
              refine R_iconst (v := nI 0) dX10_readsForm_128 (by decide) ?_
              refine R_iload_n dX10_readsForm_129 rfl ?_
              refine R_iastore_N dX10_readsForm_130 x7.a12 (by omega) (by omega) ?_
              -- X10_readsForm: ('put', 131)
              intro h8 u8
              have x8 := x7.s12 u8
              have o8 := o57.st (k := 12) (g := upd (S7.2 12) 0 (nI cn)) (by decide)
              have g8 := g57.trans (Out.upd u8 (by omega) (by omega))
              have cf : curF (upd (S7.2 12) 0 (nI cn)) (b.1, ru5) := by
                refine recF.setSeq (q := ([], ru5)) c5 (by omega) (by rw [upd_at, s3]) (fun j w hw => ?_) (fun k hk hk2 => ?_)
                · rw [upd_ne (by omega)]; exact pa j w hw
                · rw [upd_ne (by omega), pk9 k (by omega), o6.1 12 (by decide)]
              have V19 := fld_get (M := M) (k := 19) (by decide) p19
              have V20 := fld_get (M := M) (w := S7.1) (k := 20) (by decide) ((o7.2 20 (by decide)).trans r6.2.1)
              have hfin := rdForm_5 hn0 (by omega) hr hs
              refine R_aload_n dX10_readsForm_131 rfl ?_
              refine R_get K_10 (f := 19) (by decide) dX10_readsForm_132 f_RX10_147 x8.1 V19 ?_
              refine R_aload_n dX10_readsForm_135 rfl ?_
              refine R_get K_10 (f := 20) (by decide) dX10_readsForm_136 f_RX10_150 x8.1 V20 ?_
              refine R_icmp_ge_N (tgt := 154) dX10_readsForm_139 (by decide) (by omega) (by omega) (fun c139 => ?_) (fun c139 => ?_)
              -- X10_readsForm: ('branch', 139, 154, 142)
              · rw [if_neg (by omega)] at hfin
                refine R_iconst (v := nI 0) dX10_readsForm_154 (by decide) ?_
                refine R_ireturn dX10_readsForm_155 rfl rfl ?_
                -- X10_readsForm: ('ret', 155)
                refine ⟨g8, _, x8, o8, ?_⟩
                rw [hfin]
                exact RM.fi ⟨rfl, (p14.trans f14).trans e14, (p15.trans f15).trans e15, cf⟩
              · rw [if_pos (by omega)] at hfin
                refine R_aload_n dX10_readsForm_142 rfl ?_
                refine R_iconst (v := nI 1) dX10_readsForm_143 (by decide) ?_
                refine R_aload_n dX10_readsForm_144 rfl ?_
                refine R_get K_10 (f := 19) (by decide) dX10_readsForm_145 f_RX10_147 x8.1 V19 ?_
                -- X10_readsForm: ('call', 148, '.invokevirtual', 153)
                refine R_callV v_X10_fails (Md_fails x8 (nI 1) (nI b.2.1)) dX10_readsForm_148 l_RX10_153 rfl rfl x8.1 (Nat.le_of_ble_eq_true rfl) (by omega) rfl rfl (fun v h9 hq => ?_)
                obtain ⟨rfl, g9, S9, x9, o9, t14, t15⟩ := hq
                refine R_goto (tgt := 155) dX10_readsForm_151 (by decide) ?_
                refine R_ireturn dX10_readsForm_155 rfl rfl ?_
                -- X10_readsForm: ('ret', 155)
                refine ⟨g8.trans g9, S9, x9, o8.trans (o9.mono (by decide) (by decide)), ?_⟩
                rw [hfin]
                exact RM.er rfl t14 t15 (by decide)
      · exact absurd c76 (by omega)
    | succ mm ih =>
      intro pos5 lt5 ru5 h5 S5 z3 hc hn0 hm hp5 x5 o5 e14 e15 r5 li c5 hr g5
      refine R_iload_n dX10_readsForm_74 rfl ?_
      refine R_iload_n dX10_readsForm_75 rfl ?_
      refine R_icmp_ge_N (tgt := 96) dX10_readsForm_76 (by decide) (by omega) (by omega) (fun c76 => ?_) (fun c76 => ?_)
      -- X10_readsForm: ('branch', 76, 96, 79)
      · exact absurd c76 (by omega)
      · refine R_aload_n dX10_readsForm_79 rfl ?_
        -- X10_readsForm: ('call', 80, '.invokevirtual', 165)
        refine R_callV v_X10_nextRule (Md_nextRule x5 r5 hn htl hp5 li c5) dX10_readsForm_80 l_RX10_165 rfl rfl x5.1 (Nat.le_of_ble_eq_true rfl) (by omega) rfl rfl (fun v h6 hq => ?_)
        obtain ⟨g6, S6, x6, o6, k6⟩ := hq
        have o56 := o5.trans (o6.mono (by decide) (by decide))
        cases hrule : rdRule tp n pos5 lt5 ru5 with
        | error e =>
          rw [hrule] at k6
          rw [rdRules_er hrule] at hr
          obtain ⟨rfl, f14, f15, e5⟩ := k6.ere
          refine R_istore3 dX10_readsForm_83 (by decide) ?_
          refine R_iload_n dX10_readsForm_84 rfl ?_
          refine R_if_ge (tgt := 90) dX10_readsForm_85 (by decide) (fun c85 => ?_) (fun c85 => ?_)
          -- X10_readsForm: ('branch', 85, 90, 88)
          · exact absurd c85 (neg_ge (k := e.1) e5)
          · refine R_iload_n dX10_readsForm_88 rfl ?_
            refine R_ireturn dX10_readsForm_89 rfl rfl ?_
            -- X10_readsForm: ('ret', 89)
            refine ⟨g5.trans g6, S6, x6, o56, ?_⟩
            rw [rdForm_3 hn0 (by omega) hr]
            exact RM.er rfl f14 f15 e5
        | ok a =>
          rw [hrule] at k6
          rw [rdRules_ok2 hrule] at hr
          obtain ⟨rfl, hle, f14, f15, r6, c6⟩ := k6.get
          refine R_istore3 dX10_readsForm_83 (by decide) ?_
          refine R_iload_n dX10_readsForm_84 rfl ?_
          refine R_if_ge_N (tgt := 90) dX10_readsForm_85 (by decide) (by omega) ?_
          refine R_iinc2 dX10_readsForm_90 (by decide) (nI_inc _ 1) ?_
          refine R_goto (tgt := 74) dX10_readsForm_93 (by decide) ?_
          -- X10_readsForm: ('stop', 74)
          have := ih a.1 a.2.1 a.2.2 h6 S6 (some (.int (nI 0))) hc hn0 (by omega) hle x6 o56 (f14.trans e14) (f15.trans e15) r6 (rdRule_ok li hrule) c6 hr (g5.trans g6)
          rw [show tp.getD 0 0 - mm = tp.getD 0 0 - (mm + 1) + 1 by omega] at this
          exact this
  have loop2 : ∀ m i h5 S5, i + m = 86 → MdAt E h5 M S5 → Ony [6, 12] [14, 15, 19, 21] S S5 → S5.1 14 = S.1 14 → S5.1 15 = S.1 15 → (∀ s, s < i → S5.2 6 s = nI (lt0 s)) → curF (S5.2 12) ([], fun _ => []) → Out h h5 M (M + 23) → WP E k_X10_readsForm 4 0 0 24 [some (.ref M), some (.int (nI i)), none, none] [] h5 (fun v h' => Out h h' M (M + 23) ∧ ∃ S', MdAt E h' M S' ∧ Ony [6, 12] [14, 15, 19, 21] S S' ∧ RM (rdForm tp n) v S' (fun q2 => v = some (.int (nI 0)) ∧ S'.1 14 = S.1 14 ∧ S'.1 15 = S.1 15 ∧ curF (S'.2 12) q2)) := by
    intro m
    induction m with
    | zero =>
      intro i h5 S5 hi x5 o5 e14 e15 l5 c5 g5
      obtain rfl : i = 86 := by omega
      refine R_iload_n dX10_readsForm_24 rfl ?_
      refine R_bipush (v := nI 86) dX10_readsForm_25 (by decide) ?_
      refine R_icmp_ge_N (tgt := 53) dX10_readsForm_27 (by decide) (by omega) (by omega) (fun c27 => ?_) (fun c27 => ?_)
      -- X10_readsForm: ('branch', 27, 53, 30)
      · refine R_aload_n dX10_readsForm_53 rfl ?_
        refine R_iconst (v := nI 0) dX10_readsForm_54 (by decide) ?_
        refine R_put_A K_10 (f := 19) (by decide) dX10_readsForm_55 f_RX10_147 rfl x5.1 (by rfl) (by rfl) (Nat.le_of_ble_eq_true rfl) ?_
        -- X10_readsForm: ('put', 58)
        intro h6 u6
        have x6 := x5.put u6 (by decide)
        have o6 : Ony [6, 12] [14, 15, 19, 21] S (upd S5.1 19 (nI 0), S5.2) := o5.put (by decide)
        have r6 : RdM (upd S5.1 19 (nI 0), S5.2) tp n 0 lt0 := ⟨rfl, (o5.2 20 (by decide)).trans e20, fun i w hw => by show S5.2 10 i = _ ∧ _; rw [o5.1 10 (by decide)]; exact ht i w hw, l5⟩
        have g6 := g5.trans (Out.upd u6 (by omega) (by omega))
        refine R_aload_n dX10_readsForm_58 rfl ?_
        refine R_iconst (v := nI 0) dX10_readsForm_59 (by decide) ?_
        refine R_bipush (v := nI 60) dX10_readsForm_60 (by decide) ?_
        -- X10_readsForm: ('call', 62, '.invokevirtual', 159)
        refine R_callV v_X10_nextByte (Md_nextByte x6 r6 hn htl (Nat.zero_le _) (lo := 0) (hi := 60) (by decide) (by decide)) dX10_readsForm_62 l_RX10_159 rfl rfl x6.1 (Nat.le_of_ble_eq_true rfl) (by omega) rfl rfl (fun v h7 hq => ?_)
        obtain ⟨g7, S7, x7, o7, k7⟩ := hq
        have o67 := o6.trans (o7.mono (by decide) (by decide))
        have hb : rdByte tp n 0 0 60 = if n ≤ 0 then .error (1, 0) else if tp.getD 0 0 < 0 ∨ 60 < tp.getD 0 0 then .error (2, 0) else .ok (tp.getD 0 0) := rfl
        by_cases c1 : n ≤ 0
        · rw [hb, if_pos c1] at k7
          obtain ⟨rfl, f14, f15, -⟩ := k7.ere
          obtain rfl : n = 0 := by omega
          refine R_istore1 dX10_readsForm_65 (by decide) ?_
          refine R_iload_n dX10_readsForm_66 rfl ?_
          refine R_if_ge (tgt := 72) dX10_readsForm_67 (by decide) (fun c67 => ?_) (fun c67 => ?_)
          -- X10_readsForm: ('branch', 67, 72, 70)
          · exact absurd c67 (neg_ge (k := 1) (by decide))
          · refine R_iload_n dX10_readsForm_70 rfl ?_
            refine R_ireturn dX10_readsForm_71 rfl rfl ?_
            -- X10_readsForm: ('ret', 71)
            refine ⟨g6.trans g7, S7, x7, o67, ?_⟩
            rw [rdForm_1]
            exact RM.er rfl f14 f15 (by decide)
        · by_cases c2 : 60 < tp.getD 0 0
          · rw [hb, if_neg c1, if_pos (Or.inr c2)] at k7
            obtain ⟨rfl, f14, f15, -⟩ := k7.ere
            refine R_istore1 dX10_readsForm_65 (by decide) ?_
            refine R_iload_n dX10_readsForm_66 rfl ?_
            refine R_if_ge (tgt := 72) dX10_readsForm_67 (by decide) (fun c67 => ?_) (fun c67 => ?_)
            -- X10_readsForm: ('branch', 67, 72, 70)
            · exact absurd c67 (neg_ge (k := 2) (by decide))
            · refine R_iload_n dX10_readsForm_70 rfl ?_
              refine R_ireturn dX10_readsForm_71 rfl rfl ?_
              -- X10_readsForm: ('ret', 71)
              refine ⟨g6.trans g7, S7, x7, o67, ?_⟩
              rw [rdForm_2 (by omega) c2]
              exact RM.er rfl f14 f15 (by decide)
          · rw [hb, if_neg c1, if_neg (fun z => z.elim (by omega) c2)] at k7
            obtain ⟨rfl, -, -, -, -, f19, f14, f15⟩ := k7.get
            have r7 : RdM S7 tp n 1 lt0 := ⟨f19, (o7.2 20 (by decide)).trans r6.2.1, fun i w hw => by rw [o7.1 10 (by decide)]; exact r6.2.2.1 i w hw, fun s hs => by rw [o7.1 6 (by decide)]; exact r6.2.2.2 s hs⟩
            have c7 : curF (S7.2 12) ([], fun _ => []) := by rw [o7.1 12 (by decide)]; exact c5
            refine R_istore1 dX10_readsForm_65 (by decide) ?_
            refine R_iload_n dX10_readsForm_66 rfl ?_
            refine R_if_ge_N (tgt := 72) dX10_readsForm_67 (by decide) (by omega) ?_
            refine R_iconst (v := nI 0) dX10_readsForm_72 (by decide) ?_
            refine R_istore2 dX10_readsForm_73 (by decide) ?_
            -- X10_readsForm: ('stop', 74)
            have := rest (tp.getD 0 0) 1 lt0 (fun _ => []) h7 S7 none (by omega) (by omega) (Nat.le_refl _) (by omega) x7 o67 (f14.trans e14) (f15.trans e15) r7 ldInv0 c7 rfl (g6.trans g7)
            rw [Nat.sub_self] at this
            exact this
      · exact absurd c27 (by omega)
    | succ m ih =>
      intro i h5 S5 hi x5 o5 e14 e15 l5 c5 g5
      have body : ∀ v : Nat, v = lt0 i → WP E k_X10_readsForm 4 0 0 46 [some (.ref M), some (.int (nI i)), none, none] [.int (nI v), .int (nI i), .ref (M + 6)] h5 (fun v h' => Out h h' M (M + 23) ∧ ∃ S', MdAt E h' M S' ∧ Ony [6, 12] [14, 15, 19, 21] S S' ∧ RM (rdForm tp n) v S' (fun q2 => v = some (.int (nI 0)) ∧ S'.1 14 = S.1 14 ∧ S'.1 15 = S.1 15 ∧ curF (S'.2 12) q2)) := by
        intro v hv
        refine R_iastore_N dX10_readsForm_46 x5.a6 (by omega) (by omega) ?_
        -- X10_readsForm: ('put', 47)
        intro h6 u6
        have x6 := x5.s6 u6
        refine R_iinc1 dX10_readsForm_47 (by decide) (nI_inc _ 1) ?_
        refine R_goto (tgt := 24) dX10_readsForm_50 (by decide) ?_
        -- X10_readsForm: ('stop', 24)
        refine ih (i + 1) h6 _ (by omega) x6 (o5.st (by decide)) e14 e15 (fun s hs => ?_) c5 (g5.trans (Out.upd u6 (by omega) (by omega)))
        show upd (S5.2 6) i (nI v) s = _
        by_cases e : s = i
        · rw [e, upd_at, hv]
        · rw [upd_ne e]; exact l5 s (by omega)
      refine R_iload_n dX10_readsForm_24 rfl ?_
      refine R_bipush (v := nI 86) dX10_readsForm_25 (by decide) ?_
      refine R_icmp_ge_N (tgt := 53) dX10_readsForm_27 (by decide) (by omega) (by omega) (fun c27 => ?_) (fun c27 => ?_)
      -- X10_readsForm: ('branch', 27, 53, 30)
      · exact absurd c27 (by omega)
      · refine R_aload_n dX10_readsForm_30 rfl ?_
        refine R_get K_10 (f := 7) (by decide) dX10_readsForm_31 f_RX10_30 x5.1 rfl ?_
        refine R_iload_n dX10_readsForm_34 rfl ?_
        refine R_iload_n dX10_readsForm_35 rfl ?_
        refine R_bipush (v := nI 26) dX10_readsForm_36 (by decide) ?_
        refine R_icmp_ge_N (tgt := 45) dX10_readsForm_38 (by decide) (by omega) (by omega) (fun c38 => ?_) (fun c38 => ?_)
        -- X10_readsForm: ('branch', 38, 45, 41)
        · refine R_iconst (v := nI 0) dX10_readsForm_45 (by decide) ?_
          -- X10_readsForm: ('stop', 46)
          exact body 0 (by rw [lt0, if_neg (by omega)])
        · refine R_iconst (v := nI 1) dX10_readsForm_41 (by decide) ?_
          refine R_goto (tgt := 46) dX10_readsForm_42 (by decide) ?_
          -- X10_readsForm: ('stop', 46)
          exact body 1 (by rw [lt0, if_pos (by omega)])
  have loop1 : ∀ m i h5 S5, i + m = 1021 → MdAt E h5 M S5 → Ony [6, 12] [14, 15, 19, 21] S S5 → S5.1 14 = S.1 14 → S5.1 15 = S.1 15 → (∀ k, k < i → S5.2 12 k = nI 0) → Out h h5 M (M + 23) → WP E k_X10_readsForm 4 0 0 2 [some (.ref M), some (.int (nI i)), none, none] [] h5 (fun v h' => Out h h' M (M + 23) ∧ ∃ S', MdAt E h' M S' ∧ Ony [6, 12] [14, 15, 19, 21] S S' ∧ RM (rdForm tp n) v S' (fun q2 => v = some (.int (nI 0)) ∧ S'.1 14 = S.1 14 ∧ S'.1 15 = S.1 15 ∧ curF (S'.2 12) q2)) := by
    intro m
    induction m with
    | zero =>
      intro i h5 S5 hi x5 o5 e14 e15 l5 g5
      obtain rfl : i = 1021 := by omega
      refine R_iload_n dX10_readsForm_2 rfl ?_
      refine R_sipush (v := nI 1021) dX10_readsForm_3 (by decide) ?_
      refine R_icmp_ge_N (tgt := 22) dX10_readsForm_6 (by decide) (by omega) (by omega) (fun c6 => ?_) (fun c6 => ?_)
      -- X10_readsForm: ('branch', 6, 22, 9)
      · refine R_iconst (v := nI 0) dX10_readsForm_22 (by decide) ?_
        refine R_istore1 dX10_readsForm_23 (by decide) ?_
        -- X10_readsForm: ('stop', 24)
        refine loop2 86 0 h5 S5 (by omega) x5 o5 e14 e15 (fun s hs => absurd hs (by omega)) ⟨by decide, l5 _ (by decide), fun i w hw => by simp at hw, fun r hr => ⟨Nat.zero_le _, l5 _ (by omega), fun i w hw => by simp at hw⟩⟩ g5
      · exact absurd c6 (by omega)
    | succ m ih =>
      intro i h5 S5 hi x5 o5 e14 e15 l5 g5
      refine R_iload_n dX10_readsForm_2 rfl ?_
      refine R_sipush (v := nI 1021) dX10_readsForm_3 (by decide) ?_
      refine R_icmp_ge_N (tgt := 22) dX10_readsForm_6 (by decide) (by omega) (by omega) (fun c6 => ?_) (fun c6 => ?_)
      -- X10_readsForm: ('branch', 6, 22, 9)
      · exact absurd c6 (by omega)
      · refine R_aload_n dX10_readsForm_9 rfl ?_
        refine R_get K_10 (f := 18) (by decide) dX10_readsForm_10 f_RX10_52 x5.1 rfl ?_
        refine R_iload_n dX10_readsForm_13 rfl ?_
        refine R_iconst (v := nI 0) dX10_readsForm_14 (by decide) ?_
        refine R_iastore_N dX10_readsForm_15 x5.a12 (by omega) (by omega) ?_
        -- X10_readsForm: ('put', 16)
        intro h6 u6
        have x6 := x5.s12 u6
        refine R_iinc1 dX10_readsForm_16 (by decide) (nI_inc _ 1) ?_
        refine R_goto (tgt := 2) dX10_readsForm_19 (by decide) ?_
        -- X10_readsForm: ('stop', 2)
        refine ih (i + 1) h6 _ (by omega) x6 (o5.st (by decide)) e14 e15 (fun k hk => ?_) (g5.trans (Out.upd u6 (by omega) (by omega)))
        show upd (S5.2 12) i (nI 0) k = _
        by_cases e : k = i
        · rw [e, upd_at]
        · rw [upd_ne e]; exact l5 k (by omega)
  refine R_iconst (v := nI 0) dX10_readsForm_0 (by decide) ?_
  refine R_istore1 dX10_readsForm_1 (by decide) ?_
  -- X10_readsForm: ('stop', 2)
  exact loop1 1021 0 h S (by omega) x Ony.refl rfl rfl (fun k hk => absurd hk (by omega)) Out.refl
theorem MP_load_no1 (y : MMAt E h M q ds im md tp ph fk fp) {n : Int32} (hn : ¬ stP tp.length n 0) : Spec E k_X10_load 67 0 0 [.ref M, .int n] h (fun v h' => v = some (.int (-3)) ∧ MMAt E h' M q ds im md tp ph fk fp ∧ Out h h' M (M + 23)) := by
  obtain ⟨S, x, r⟩ := y
  refine Spec.of (by decide +kernel) (by simp [Value.category]) (Nat.le_of_ble_eq_true rfl) ?_
  show WP E k_X10_load 67 0 0 0 [some (.ref M), some (.int n), none] [] h _
  refine R_aload_n dX10_load_0 rfl ?_
  refine R_iconst (v := nI 0) dX10_load_1 (by decide) ?_
  refine R_put_A K_10 (f := 0) (by decide) dX10_load_2 f_RX10_1 rfl x.1 (by rfl) (by rfl) (Nat.le_of_ble_eq_true rfl) ?_
  intro h0 u0
  have x0 := x.put u0 (by decide)
  have r0 := r.keep (S2 := (upd S.1 0 (nI 0), S.2)) (Ony.refl.put (by decide))
  have g0 : Out h h0 M (M + 23) := Out.upd u0 (by omega) (by omega)
  generalize (upd S.1 0 (nI 0), S.2) = S0 at x0 r0
  have ht := r0.2.2.2.1
  have htl := ht.2.1
  refine R_iload_n dX10_load_5 rfl ?_
  refine R_i2l dX10_load_6 ?_
  refine R_lconst (v := 0) dX10_load_7 rfl ?_
  refine R_aload_n dX10_load_8 rfl ?_
  refine R_get K_10 (f := 13) (by decide) dX10_load_9 f_RX10_137 x0.1 (fld_get (k := 13) (by decide) ht.1) ?_
  refine R_i2l dX10_load_12 ?_
  -- X10_load: ('call', 13, '.invokestatic', 98)
  refine R_callS s_X10_isIn (Md_isIn n (nI 0) (nI tp.length) (by decide) rfl) dX10_load_13 l_RX10_98 rfl rfl (Nat.le_of_ble_eq_true rfl) (by omega) rfl rfl (fun v h2 hq => ?_)
  obtain ⟨rfl, e9⟩ := hq
  rw [e9, if_neg (fun z => hn ((st0_iff (len := tp.length) (by omega) n).mp z))]
  refine R_if_ne_N (tgt := 22) dX10_load_16 (by decide) (by omega) (fun c16 => ?_) (fun c16 => ?_)
  -- X10_load: ('branch', 16, 22, 19)
  · exact absurd rfl c16
  · refine R_bipush (v := (-3)) dX10_load_19 (by decide) ?_
    refine R_ireturn dX10_load_21 rfl rfl ?_
    -- X10_load: ('ret', 21)
    exact ⟨rfl, ⟨S0, x0, r0⟩, g0⟩
theorem Md_load (y : MMAt E h M q ds im md tp ph fk fp) (hq : PkOk q) {n : Nat} (hn : n ≤ tp.length) : Spec E k_X10_load 67 0 0 [.ref M, .int (nI n)] h (fun v h' => (∃ S', MdAt E h' M S' ∧ (∀ k p, rdForm tp n = .error (k, p) → v = some (.int (-30 - nI k)) ∧ MRel S' q ds im md [] ph (nI k) (nI p)) ∧ ∀ q2, rdForm tp n = .ok q2 → v = some (.int (nI (letL q2.2 q2.1).length)) ∧ MRel S' q2 (pushD ds q) im md [] ph (nI 0) (-1)) ∧ Out h h' M (M + 23)) := by
  obtain ⟨S, x, r⟩ := y
  refine Spec.of (by decide +kernel) (by simp [Value.category]) (Nat.le_of_ble_eq_true rfl) ?_
  show WP E k_X10_load 67 0 0 0 [some (.ref M), some (.int (nI n)), none] [] h _
  refine R_aload_n dX10_load_0 rfl ?_
  refine R_iconst (v := nI 0) dX10_load_1 (by decide) ?_
  refine R_put_A K_10 (f := 0) (by decide) dX10_load_2 f_RX10_1 rfl x.1 (by rfl) (by rfl) (Nat.le_of_ble_eq_true rfl) ?_
  intro h0 u0
  have x0 := x.put u0 (by decide)
  have r0 := r.keep (S2 := (upd S.1 0 (nI 0), S.2)) (Ony.refl.put (by decide))
  have g0 : Out h h0 M (M + 23) := Out.upd u0 (by omega) (by omega)
  generalize (upd S.1 0 (nI 0), S.2) = S0 at x0 r0
  have ht := r0.2.2.2.1
  have htl := ht.2.1
  refine R_iload_n dX10_load_5 rfl ?_
  refine R_i2l dX10_load_6 ?_
  refine R_lconst (v := 0) dX10_load_7 rfl ?_
  refine R_aload_n dX10_load_8 rfl ?_
  refine R_get K_10 (f := 13) (by decide) dX10_load_9 f_RX10_137 x0.1 (fld_get (k := 13) (by decide) ht.1) ?_
  refine R_i2l dX10_load_12 ?_
  -- X10_load: ('call', 13, '.invokestatic', 98)
  refine R_callS s_X10_isIn (Md_isIn (nI n) (nI 0) (nI tp.length) (by decide) rfl) dX10_load_13 l_RX10_98 rfl rfl (Nat.le_of_ble_eq_true rfl) (by omega) rfl rfl (fun v h2 hq => ?_)
  obtain ⟨rfl, e9⟩ := hq
  rw [e9, if_pos ((in_iff (by decide) (by omega) (by omega)).mpr ⟨by omega, hn⟩)]
  refine R_if_ne_N (tgt := 22) dX10_load_16 (by decide) (by omega) (fun c16 => ?_) (fun c16 => ?_)
  -- X10_load: ('branch', 16, 22, 19)
  · refine R_aload_n dX10_load_22 rfl ?_
    refine R_iconst (v := nI 0) dX10_load_23 (by decide) ?_
    refine R_put_A K_10 (f := 13) (by decide) dX10_load_24 f_RX10_137 rfl x0.1 (by rfl) (by rfl) (Nat.le_of_ble_eq_true rfl) ?_
    -- X10_load: ('put', 27)
    intro h3 u3
    have x3 := x0.put u3 (by decide)
    refine R_aload_n dX10_load_27 rfl ?_
    refine R_iconst (v := nI 0) dX10_load_28 (by decide) ?_
    refine R_put_A K_10 (f := 14) (by decide) dX10_load_29 f_RX10_140 rfl x3.1 (by rfl) (by rfl) (Nat.le_of_ble_eq_true rfl) ?_
    -- X10_load: ('put', 32)
    intro h4 u4
    have x4 := x3.put u4 (by decide)
    refine R_aload_n dX10_load_32 rfl ?_
    refine R_iconst (v := (-1)) dX10_load_33 (by decide) ?_
    refine R_put_A K_10 (f := 15) (by decide) dX10_load_34 f_RX10_46 rfl x4.1 (by rfl) (by rfl) (Nat.le_of_ble_eq_true rfl) ?_
    -- X10_load: ('put', 37)
    intro h5 u5
    have x5 := x4.put u5 (by decide)
    have o5 : Ony [] [13, 14, 15] S0 (upd (upd (upd S0.1 13 (nI 0)) 14 (nI 0)) 15 (-1), S0.2) := ((Ony.refl.put (by decide)).put (by decide)).put (by decide)
    have r5 := r0.taken o5 rfl
    refine R_aload_n dX10_load_37 rfl ?_
    refine R_iload_n dX10_load_38 rfl ?_
    refine R_put_A K_10 (f := 20) (by decide) dX10_load_39 f_RX10_150 rfl x5.1 (by rfl) (by rfl) (Nat.le_of_ble_eq_true rfl) ?_
    -- X10_load: ('put', 42)
    intro h6 u6
    have x6 := x5.put u6 (by decide)
    have r6 := r5.keep (S2 := (upd (upd (upd (upd S0.1 13 (nI 0)) 14 (nI 0)) 15 (-1)) 20 (nI n), S0.2)) (Ony.refl.put (by decide))
    have g6 : Out h h6 M (M + 23) := (((g0.trans (Out.upd u3 (by omega) (by omega))).trans (Out.upd u4 (by omega) (by omega))).trans (Out.upd u5 (by omega) (by omega))).trans (Out.upd u6 (by omega) (by omega))
    have t6 := ht.2.2
    have e14 : (upd (upd (upd (upd S0.1 13 (nI 0)) 14 (nI 0)) 15 (-1)) 20 (nI n), S0.2).1 14 = nI 0 := rfl
    have e15 : (upd (upd (upd (upd S0.1 13 (nI 0)) 14 (nI 0)) 15 (-1)) 20 (nI n), S0.2).1 15 = -1 := rfl
    have e20 : (upd (upd (upd (upd S0.1 13 (nI 0)) 14 (nI 0)) 15 (-1)) 20 (nI n), S0.2).1 20 = nI n := rfl
    have e10 : (upd (upd (upd (upd S0.1 13 (nI 0)) 14 (nI 0)) 15 (-1)) 20 (nI n), S0.2).2 10 = S0.2 10 := rfl
    rw [show (upd (upd (upd S0.1 13 (nI 0)) 14 (nI 0)) 15 (-1), S0.2).1 14 = nI 0 from rfl, show (upd (upd (upd S0.1 13 (nI 0)) 14 (nI 0)) 15 (-1), S0.2).1 15 = -1 from rfl] at r6
    rw [← e10] at t6
    generalize (upd (upd (upd (upd S0.1 13 (nI 0)) 14 (nI 0)) 15 (-1)) 20 (nI n), S0.2) = S6 at *
    refine R_aload_n dX10_load_42 rfl ?_
    -- X10_load: ('call', 43, '.invokevirtual', 168)
    refine R_callV v_X10_readsForm (Md_readsForm x6 e20 t6 hn htl) dX10_load_43 l_RX10_168 rfl rfl x6.1 (Nat.le_of_ble_eq_true rfl) (by omega) rfl rfl (fun v h7 hq => ?_)
    obtain ⟨g7, S7, x7, o7, k7⟩ := hq
    cases hf : rdForm tp n with
    | error e =>
      rw [hf] at k7
      obtain ⟨rfl, f14, f15, e5⟩ := k7.ere
      have r7 := r6.flt (o7.mono (by decide) (by decide))
      refine R_istore2 dX10_load_46 (by decide) ?_
      refine R_iload_n dX10_load_47 rfl ?_
      refine R_if_ge (tgt := 53) dX10_load_48 (by decide) (fun c48 => ?_) (fun c48 => ?_)
      -- X10_load: ('branch', 48, 53, 51)
      · exact absurd c48 (neg_ge (k := e.1) e5)
      · refine R_iload_n dX10_load_51 rfl ?_
        refine R_ireturn dX10_load_52 rfl rfl ?_
        -- X10_load: ('ret', 52)
        refine ⟨⟨S7, x7, fun k p he => ?_, fun q2 he => (by cases he)⟩, g6.trans g7⟩
        cases he
        rw [f14, f15] at r7
        exact ⟨rfl, r7⟩
    | ok q2 =>
      rw [hf] at k7
      obtain ⟨rfl, f14, f15, c7⟩ := k7.get
      have ok2 := rdForm_ok hf
      have r7 := r6.flt (o7.mono (by decide) (by decide))
      rw [f14, f15, e14, e15] at r7
      refine R_istore2 dX10_load_46 (by decide) ?_
      refine R_iload_n dX10_load_47 rfl ?_
      refine R_if_ge_N (tgt := 53) dX10_load_48 (by decide) (by omega) ?_
      refine R_aload_n dX10_load_53 rfl ?_
      -- X10_load: ('call', 54, '.invokevirtual', 171)
      refine R_callV v_X10_notes (Md_notes x7 r7.1 r7.2.1) dX10_load_54 l_RX10_171 rfl rfl x7.1 (Nat.le_of_ble_eq_true rfl) (by omega) rfl rfl (fun v h8 hq => ?_)
      obtain ⟨rfl, g8, S8, x8, o8, d8⟩ := hq
      refine R_aload_n dX10_load_57 rfl ?_
      refine R_get K_10 (f := 18) (by decide) dX10_load_58 f_RX10_52 x8.1 rfl ?_
      refine R_iconst (v := nI 0) dX10_load_61 (by decide) ?_
      refine R_aload_n dX10_load_62 rfl ?_
      refine R_get K_10 (f := 1) (by decide) dX10_load_63 f_RX10_13 x8.1 rfl ?_
      refine R_iconst (v := nI 0) dX10_load_66 (by decide) ?_
      refine R_sipush (v := nI 1021) dX10_load_67 (by decide) ?_
      -- X10_load: ('call', 70, '.invokestatic', 88)
      refine R_callS s_X10_copies (Md_copies (sp := 0) (dp := 0) (n := 1021) x8.a12 x8.a1 (by omega) (by omega) (by omega) (by decide) (by decide)) dX10_load_70 l_RX10_88 rfl rfl (Nat.le_of_ble_eq_true rfl) (by omega) rfl rfl (fun v h9 hq => ?_)
      obtain ⟨rfl, u9⟩ := hq
      have x9 := x8.s1 u9
      have c9 : curF (va_cpy (S8.2 12) (S8.2 1) 0 0 1021) q2 := by
        refine c7.copy (fun k hk => ?_)
        rw [pk_cpy_in (by omega) (by omega), o8.1 12 (by decide)]
        exact congrArg (S7.2 12) (by omega)
      have r9 : MRel (S8.1, updF S8.2 1 (va_cpy (S8.2 12) (S8.2 1) 0 0 1021)) q2 (pushD ds q) im md [] ph (nI 0) (-1) := by
        obtain ⟨ra, rb, rc, rd, re, rf, rg⟩ := r7
        refine ⟨c9, d8.keep rfl rfl, ?_, rd.keep (o8.2 13 (by decide)) (o8.1 10 (by decide)), re.keep (o8.2 16 (by decide)) (o8.1 11 (by decide)), (o8.2 14 (by decide)).trans rf, (o8.2 15 (by decide)).trans rg⟩
        refine rc.keep (o8.1 5 (by decide)) (fun k hk => ?_)
        show va_cpy (S8.2 12) (S8.2 1) 0 0 1021 k = _
        rw [pk_cpy_out (by omega), o8.1 1 (by decide)]
      refine R_aload_n dX10_load_73 rfl ?_
      -- X10_load: ('call', 74, '.invokevirtual', 174)
      refine R_callV v_X10_lettersMany (Md_lettersMany ok2 x9 r9.1) dX10_load_74 l_RX10_174 rfl rfl x9.1 (Nat.le_of_ble_eq_true rfl) (by omega) rfl rfl (fun v h10 hq => ?_)
      obtain ⟨rfl, g10, S10, x10, o10, w10⟩ := hq
      refine R_ireturn dX10_load_77 rfl rfl ?_
      -- X10_load: ('ret', 77)
      refine ⟨⟨S10, x10, fun k p he => (by cases he), fun q3 he => ?_⟩, (((g6.trans g7).trans g8).trans (Out.upd u9 (by omega) (by omega))).trans g10⟩
      cases he
      exact ⟨rfl, r9.keep (o10.mono (by decide) (by decide))⟩
  · exact absurd c16 (by decide)
end MD18
