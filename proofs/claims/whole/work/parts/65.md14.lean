/-! THE MODEL: the form laid out -/
theorem rules_ord {ru : Ru} (hA : Acy ru) : (ordS ru).length = rulesS ru := by
  obtain ⟨hT, -, -⟩ := ordS_good ru
  rw [nodup_cnt (n := 86) hT.1 (fun x hx => (hT.rul x hx).2.1), rulesS, show (86 : Nat) = 26 + 60 from rfl, cntB_split, cntB_zero (fun j hj => decide_eq_false (fun z => by have := (hT.rul j z).1; omega)), Nat.zero_add]
  refine cntB_ext (fun j hj => ?_)
  have e : 26 + j - 26 = j := by omega
  by_cases z : ru j = []
  · rw [decide_eq_false (fun y => (hT.rul _ y).2.2 (by rw [e]; exact z)), decide_eq_false (by rw [z]; exact Nat.lt_irrefl 0)]
  · rw [decide_eq_true (ordS_all hA ⟨by omega, by omega, by rw [e]; exact z⟩), decide_eq_true (List.length_pos_iff.mpr z)]
section MD14
variable {E : EnvT} {h h1 : Hp} {M : Nat} {S : MSt} {q : Pk} {ds : List Pk} {im : Nat → Pk} {md : Nat → Nat} {tp ph : List Nat} {fk fp : Int32}
theorem Md_laysForm (hq : PkOk q) (x : MdAt E h M S) (c : curF (S.2 1) q) : Spec E k_X10_laysForm 4 0 0 [.ref M] h (fun v h' => v = none ∧ Out h h' M (M + 23) ∧ ∃ S', MdAt E h' M S' ∧ Ony [13, 14] [24] S S' ∧ FOut S' (formS q)) := by
  have hql := c.1
  have hrl : ∀ i, i < 60 → (q.2 i).length ≤ 12 := fun i hi => (c.2.2.2 i hi).1
  have hol := (ordS_good q.2).2.1
  have hro := rules_ord hq.1.1
  refine Spec.of (by decide +kernel) (by simp [Value.category]) (Nat.le_of_ble_eq_true rfl) ?_
  show WP E k_X10_laysForm 4 0 0 0 [some (.ref M), none, none] [] h _
  have last : ∀ m t h5 S5, t + m = q.1.length → MdAt E h5 M S5 → Ony [13, 14] [24] S S5 → FOut S5 ((ordS q.2).length :: ((ordS q.2).flatMap (rulB q.2) ++ (q.1.length :: q.1.take t))) → Out h h5 M (M + 23) → ∀ z2, WP E k_X10_laysForm 4 0 0 120 [some (.ref M), some (.int (nI t)), z2] [] h5 (fun v h' => v = none ∧ Out h h' M (M + 23) ∧ ∃ S', MdAt E h' M S' ∧ Ony [13, 14] [24] S S' ∧ FOut S' (formS q)) := by
    intro m
    induction m with
    | zero =>
      intro t h5 S5 ht x5 o5 f5 g5 z2
      obtain rfl : t = q.1.length := by omega
      have c5 : curF (S5.2 1) q := by rw [o5.a1 (by decide)]; exact c
      rw [List.take_length] at f5
      refine R_iload_n dX10_laysForm_120 rfl ?_
      refine R_aload_n dX10_laysForm_121 rfl ?_
      -- X10_laysForm: ('call', 122, '.invokevirtual', 123)
      refine R_callV v_X10_many (Md_many x5 c5) dX10_laysForm_122 l_RX10_123 rfl rfl x5.1 (Nat.le_of_ble_eq_true rfl) (by omega) rfl rfl (fun v h6 hq => ?_)
      obtain ⟨rfl, e9⟩ := hq
      rw [e9]
      refine R_icmp_ge_N (tgt := 143) dX10_laysForm_125 (by decide) (by omega) (by omega) (fun c125 => ?_) (fun c125 => ?_)
      -- X10_laysForm: ('branch', 125, 143, 128)
      · refine R_return dX10_laysForm_143 rfl ?_
        -- X10_laysForm: ('ret', 143)
        exact ⟨rfl, g5, S5, x5, o5, f5⟩
      · exact absurd c125 (by omega)
    | succ m ih =>
      intro t h5 S5 ht x5 o5 f5 g5 z2
      obtain ⟨y, hy⟩ := getE (l := q.1) (i := t) (by omega)
      have c5 : curF (S5.2 1) q := by rw [o5.a1 (by decide)]; exact c
      have hfl := flat_len (rulB_len hrl) (ordS q.2)
      refine R_iload_n dX10_laysForm_120 rfl ?_
      refine R_aload_n dX10_laysForm_121 rfl ?_
      -- X10_laysForm: ('call', 122, '.invokevirtual', 123)
      refine R_callV v_X10_many (Md_many x5 c5) dX10_laysForm_122 l_RX10_123 rfl rfl x5.1 (Nat.le_of_ble_eq_true rfl) (by omega) rfl rfl (fun v h6 hq => ?_)
      obtain ⟨rfl, e9⟩ := hq
      rw [e9]
      refine R_icmp_ge_N (tgt := 143) dX10_laysForm_125 (by decide) (by omega) (by omega) (fun c125 => ?_) (fun c125 => ?_)
      -- X10_laysForm: ('branch', 125, 143, 128)
      · exact absurd c125 (by omega)
      · refine R_aload_n dX10_laysForm_128 rfl ?_
        refine R_aload_n dX10_laysForm_129 rfl ?_
        refine R_iload_n dX10_laysForm_130 rfl ?_
        -- X10_laysForm: ('call', 131, '.invokevirtual', 127)
        refine R_callV v_X10_signAt (Md_signAt x5 c5 hy) dX10_laysForm_131 l_RX10_127 rfl rfl x5.1 (Nat.le_of_ble_eq_true rfl) (by omega) rfl rfl (fun v h6 hq => ?_)
        obtain ⟨rfl, e9⟩ := hq
        rw [e9]
        refine R_callV v_X10_tells (Md_tells x5 f5 (by rw [List.length_cons, List.length_append, List.length_cons, List.length_take]; omega) y) dX10_laysForm_134 l_RX10_183 rfl rfl x5.1 (Nat.le_of_ble_eq_true rfl) (by omega) rfl rfl (fun v h7 hq => ?_)
        obtain ⟨rfl, g7, S7, x7, o7, f7⟩ := hq
        refine R_iinc1 dX10_laysForm_137 (by decide) (nI_inc _ 1) ?_
        refine R_goto (tgt := 120) dX10_laysForm_140 (by decide) ?_
        -- X10_laysForm: ('stop', 120)
        refine ih (t + 1) h7 S7 (by omega) x7 (o5.trans (o7.mono (by decide) (by decide))) ?_ (g5.trans g7) _
        rw [take_snoc hy]
        simpa using f7
  have row : ∀ m s i k h5 S5 l, isRul q.2 s → i + m = (rowOf q.2 s).length → l.length + m ≤ 1080 → MdAt E h5 M S5 → Ony [13, 14] [24] S S5 → FOut S5 l → TOld S5 k → Out h h5 M (M + 23) → (∀ h6 S6 z2, MdAt E h6 M S6 → Ony [13, 14] [24] S S6 → FOut S6 (l ++ (rowOf q.2 s).drop i) → TOld S6 k → Out h h6 M (M + 23) → WP E k_X10_laysForm 4 0 0 95 [some (.ref M), some (.int (nI s)), z2] [] h6 (fun v h' => v = none ∧ Out h h' M (M + 23) ∧ ∃ S', MdAt E h' M S' ∧ Ony [13, 14] [24] S S' ∧ FOut S' (formS q))) → WP E k_X10_laysForm 4 0 0 70 [some (.ref M), some (.int (nI s)), some (.int (nI i))] [] h5 (fun v h' => v = none ∧ Out h h' M (M + 23) ∧ ∃ S', MdAt E h' M S' ∧ Ony [13, 14] [24] S S' ∧ FOut S' (formS q)) := by
    intro m
    induction m with
    | zero =>
      intro s i k h5 S5 l hs hi hl x5 o5 f5 t5 g5 kk
      have c5 : curF (S5.2 1) q := by rw [o5.a1 (by decide)]; exact c
      have h86 := hs.2.1
      have hr12 : (rowOf q.2 s).length ≤ 12 := by rw [rowOf_in ⟨hs.1, h86⟩]; exact hrl _ (by omega)
      refine R_iload_n dX10_laysForm_70 rfl ?_
      refine R_aload_n dX10_laysForm_71 rfl ?_
      refine R_iload_n dX10_laysForm_72 rfl ?_
      -- X10_laysForm: ('call', 73, '.invokevirtual', 106)
      refine R_callV v_X10_rowLong (Md_rowLong x5 c5 h86) dX10_laysForm_73 l_RX10_106 rfl rfl x5.1 (Nat.le_of_ble_eq_true rfl) (by omega) rfl rfl (fun v h6 hq => ?_)
      obtain ⟨rfl, e9⟩ := hq
      rw [e9]
      refine R_icmp_ge_N (tgt := 95) dX10_laysForm_76 (by decide) (by omega) (by omega) (fun c76 => ?_) (fun c76 => ?_)
      -- X10_laysForm: ('branch', 76, 95, 79)
      · exact kk h5 S5 _ x5 o5 (by rw [List.drop_of_length_le (by omega), List.append_nil]; exact f5) t5 g5
      · exact absurd c76 (by omega)
    | succ m ih =>
      intro s i k h5 S5 l hs hi hl x5 o5 f5 t5 g5 kk
      obtain ⟨y, hy⟩ := getE (l := rowOf q.2 s) (i := i) (by omega)
      have c5 : curF (S5.2 1) q := by rw [o5.a1 (by decide)]; exact c
      have h86 := hs.2.1
      have hr12 : (rowOf q.2 s).length ≤ 12 := by rw [rowOf_in ⟨hs.1, h86⟩]; exact hrl _ (by omega)
      have hd : (rowOf q.2 s).drop i = y :: (rowOf q.2 s).drop (i + 1) := by
        obtain ⟨l1, e1⟩ := List.getElem?_eq_some_iff.mp hy
        rw [List.drop_eq_getElem_cons l1, e1]
      refine R_iload_n dX10_laysForm_70 rfl ?_
      refine R_aload_n dX10_laysForm_71 rfl ?_
      refine R_iload_n dX10_laysForm_72 rfl ?_
      -- X10_laysForm: ('call', 73, '.invokevirtual', 106)
      refine R_callV v_X10_rowLong (Md_rowLong x5 c5 h86) dX10_laysForm_73 l_RX10_106 rfl rfl x5.1 (Nat.le_of_ble_eq_true rfl) (by omega) rfl rfl (fun v h6 hq => ?_)
      obtain ⟨rfl, e9⟩ := hq
      rw [e9]
      refine R_icmp_ge_N (tgt := 95) dX10_laysForm_76 (by decide) (by omega) (by omega) (fun c76 => ?_) (fun c76 => ?_)
      -- X10_laysForm: ('branch', 76, 95, 79)
      · exact absurd c76 (by omega)
      · refine R_aload_n dX10_laysForm_79 rfl ?_
        refine R_aload_n dX10_laysForm_80 rfl ?_
        refine R_iload_n dX10_laysForm_81 rfl ?_
        refine R_iload_n dX10_laysForm_82 rfl ?_
        -- X10_laysForm: ('call', 83, '.invokevirtual', 113)
        refine R_callV v_X10_inRow (Md_inRow x5 c5 h86 hy) dX10_laysForm_83 l_RX10_113 rfl rfl x5.1 (Nat.le_of_ble_eq_true rfl) (by omega) rfl rfl (fun v h6 hq => ?_)
        obtain ⟨rfl, e9⟩ := hq
        rw [e9]
        refine R_callV v_X10_tells (Md_tells x5 f5 (by omega) y) dX10_laysForm_86 l_RX10_183 rfl rfl x5.1 (Nat.le_of_ble_eq_true rfl) (by omega) rfl rfl (fun v h7 hq => ?_)
        obtain ⟨rfl, g7, S7, x7, o7, f7⟩ := hq
        refine R_iinc2 dX10_laysForm_89 (by decide) (nI_inc _ 1) ?_
        refine R_goto (tgt := 70) dX10_laysForm_92 (by decide) ?_
        -- X10_laysForm: ('stop', 70)
        refine ih s (i + 1) k h7 S7 (l ++ [y]) hs (by omega) (by rw [List.length_append, List.length_singleton]; omega) x7 (o5.trans (o7.mono (by decide) (by decide))) f7 (fun w hw => by rw [o7.1 14 (by decide)]; exact t5 w hw) (g5.trans g7) (fun h8 S8 z2 x8 o8 f8 t8 g8 => kk h8 S8 z2 x8 o8 ?_ t8 g8)
        rw [hd]
        simpa using f8
  have rules : ∀ m T h5 S5, T.length + m ≤ 60 → ordF q.2 m T = ordS q.2 → (∀ s ∈ T, isRul q.2 s) → MdAt E h5 M S5 → Ony [13, 14] [24] S S5 → FOut S5 ((ordS q.2).length :: T.flatMap (rulB q.2)) → TOld S5 T → Out h h5 M (M + 23) → ∀ z2, WP E k_X10_laysForm 4 0 0 49 [some (.ref M), some (.int (oI 26 (nxt q.2 T))), z2] [] h5 (fun v h' => v = none ∧ Out h h' M (M + 23) ∧ ∃ S', MdAt E h' M S' ∧ Ony [13, 14] [24] S S' ∧ FOut S' (formS q)) := by
    intro m
    induction m with
    | zero =>
      intro T h5 S5 hT ho hr x5 o5 f5 t5 g5 z2
      have c5 : curF (S5.2 1) q := by rw [o5.a1 (by decide)]; exact c
      rw [ordF] at ho
      subst ho
      have hn : nxt q.2 (ordS q.2) = none := (ordS_good q.2).2.2
      have hfl := flat_len (rulB_len hrl) (ordS q.2)
      rw [hn]
      refine R_iload_n dX10_laysForm_49 rfl ?_
      refine R_iconst (v := (-1)) dX10_laysForm_50 (by decide) ?_
      refine R_icmp_eq (tgt := 110) dX10_laysForm_51 (by decide) (fun c51 => ?_) (fun c51 => ?_)
      -- X10_laysForm: ('branch', 51, 110, 54)
      · refine R_aload_n dX10_laysForm_110 rfl ?_
        refine R_aload_n dX10_laysForm_111 rfl ?_
        -- X10_laysForm: ('call', 112, '.invokevirtual', 123)
        refine R_callV v_X10_many (Md_many x5 c5) dX10_laysForm_112 l_RX10_123 rfl rfl x5.1 (Nat.le_of_ble_eq_true rfl) (by omega) rfl rfl (fun v h6 hq => ?_)
        obtain ⟨rfl, e9⟩ := hq
        rw [e9]
        refine R_callV v_X10_tells (Md_tells x5 f5 (by rw [List.length_cons]; omega) q.1.length) dX10_laysForm_115 l_RX10_183 rfl rfl x5.1 (Nat.le_of_ble_eq_true rfl) (by omega) rfl rfl (fun v h7 hq => ?_)
        obtain ⟨rfl, g7, S7, x7, o7, f7⟩ := hq
        refine R_iconst (v := nI 0) dX10_laysForm_118 (by decide) ?_
        refine R_istore1 dX10_laysForm_119 (by decide) ?_
        -- X10_laysForm: ('stop', 120)
        exact last q.1.length 0 h7 S7 (by omega) x7 (o5.trans (o7.mono (by decide) (by decide))) (by simpa using f7) (g5.trans g7) _
      · exact absurd rfl c51
    | succ m ih =>
      intro T h5 S5 hT ho hr x5 o5 f5 t5 g5 z2
      have c5 : curF (S5.2 1) q := by rw [o5.a1 (by decide)]; exact c
      have hfl := flat_len (rulB_len hrl) T
      cases hn : nxt q.2 T with
      | none =>
        rw [ordF_none hn] at ho
        have := ih T h5 S5 (by omega) (by rw [ordF_none hn]; exact ho) hr x5 o5 f5 t5 g5 z2
        rw [hn] at this
        exact this
      | some i =>
        obtain ⟨hi, hrd⟩ := nxt_some hn
        rw [ordF_some hn] at ho
        have hs : isRul q.2 (26 + i) := ⟨by omega, by omega, by rw [show 26 + i - 26 = i by omega]; exact hrd.1⟩
        have hro : rowOf q.2 (26 + i) = q.2 i := by rw [rowOf_in ⟨by omega, by omega⟩, show 26 + i - 26 = i by omega]
        have hr12 := hrl i hi
        rw [show oI 26 (some i) = nI (26 + i) from rfl]
        refine R_iload_n dX10_laysForm_49 rfl ?_
        refine R_iconst (v := (-1)) dX10_laysForm_50 (by decide) ?_
        refine R_icmp_eq (tgt := 110) dX10_laysForm_51 (by decide) (fun c51 => ?_) (fun c51 => ?_)
        -- X10_laysForm: ('branch', 51, 110, 54)
        · exact absurd c51 (nI_ne_m1 (by omega))
        · refine R_aload_n dX10_laysForm_54 rfl ?_
          refine R_iload_n dX10_laysForm_55 rfl ?_
          -- X10_laysForm: ('call', 56, '.invokevirtual', 183)
          refine R_callV v_X10_tells (Md_tells x5 f5 (by rw [List.length_cons]; omega) (26 + i)) dX10_laysForm_56 l_RX10_183 rfl rfl x5.1 (Nat.le_of_ble_eq_true rfl) (by omega) rfl rfl (fun v h7 hq => ?_)
          obtain ⟨rfl, g7, S7, x7, o7, f7⟩ := hq
          have o57 : Ony [13, 14] [24] S S7 := o5.trans (o7.mono (by decide) (by decide))
          have c7 : curF (S7.2 1) q := by rw [o57.a1 (by decide)]; exact c
          refine R_aload_n dX10_laysForm_59 rfl ?_
          refine R_aload_n dX10_laysForm_60 rfl ?_
          refine R_iload_n dX10_laysForm_61 rfl ?_
          -- X10_laysForm: ('call', 62, '.invokevirtual', 106)
          refine R_callV v_X10_rowLong (Md_rowLong x7 c7 (s := 26 + i) (by omega)) dX10_laysForm_62 l_RX10_106 rfl rfl x7.1 (Nat.le_of_ble_eq_true rfl) (by omega) rfl rfl (fun v h8 hq => ?_)
          obtain ⟨rfl, e9⟩ := hq
          rw [e9]
          refine R_callV v_X10_tells (Md_tells x7 f7 (by rw [List.length_append, List.length_cons, List.length_singleton]; omega) (rowOf q.2 (26 + i)).length) dX10_laysForm_65 l_RX10_183 rfl rfl x7.1 (Nat.le_of_ble_eq_true rfl) (by omega) rfl rfl (fun v h9 hq => ?_)
          obtain ⟨rfl, g9, S9, x9, o9, f9⟩ := hq
          refine R_iconst (v := nI 0) dX10_laysForm_68 (by decide) ?_
          refine R_istore2 dX10_laysForm_69 (by decide) ?_
          -- X10_laysForm: ('stop', 70)
          refine row (rowOf q.2 (26 + i)).length (26 + i) 0 T h9 S9 _ hs (by omega) ?_ x9 (o57.trans (o9.mono (by decide) (by decide))) f9 (fun w hw => by rw [o9.1 14 (by decide), o7.1 14 (by decide)]; exact t5 w hw) ((g5.trans g7).trans g9) (fun h10 S10 z2 x10 o10 f10 t10 g10 => ?_)
          · rw [hro, List.length_append, List.length_append, List.length_cons, List.length_singleton, List.length_singleton]; omega
          · refine R_aload_n dX10_laysForm_95 rfl ?_
            refine R_get K_10 (f := 23) (by decide) dX10_laysForm_96 f_RX10_58 x10.1 rfl ?_
            refine R_iload_n dX10_laysForm_99 rfl ?_
            refine R_iconst (v := nI 1) dX10_laysForm_100 (by decide) ?_
            refine R_zastore_N dX10_laysForm_101 x10.a14 (by omega) (by omega) (by omega) ?_
            -- X10_laysForm: ('put', 102)
            intro h11 u11
            have x11 := x10.s14 u11
            have o11 := o10.st (k := 14) (g := upd (S10.2 14) (26 + i) (nI 1)) (by decide)
            have t11 : TOld (S10.1, updF S10.2 14 (upd (S10.2 14) (26 + i) (nI 1))) (T ++ [26 + i]) := by
              intro w hw
              show upd (S10.2 14) (26 + i) (nI 1) w = _
              by_cases e : w = 26 + i
              · rw [e, upd_at, if_pos (Or.inr (List.mem_append_right _ (List.mem_singleton.mpr rfl)))]
              · rw [upd_ne e, t10 w hw]
                congr 1
                exact if_iff (by rw [List.mem_append, List.mem_singleton]; exact ⟨fun z => z.elim Or.inl (fun y => Or.inr (Or.inl y)), fun z => z.elim Or.inl (fun y => y.elim Or.inr (fun u => absurd u e))⟩)
            have c11 : curF (S10.2 1) q := by rw [o10.a1 (by decide)]; exact c
            refine R_aload_n dX10_laysForm_102 rfl ?_
            -- X10_laysForm: ('call', 103, '.invokevirtual', 186)
            refine R_callV v_X10_nextTold (Md_nextTold x11 c11 hq t11) dX10_laysForm_103 l_RX10_186 rfl rfl x11.1 (Nat.le_of_ble_eq_true rfl) (by omega) rfl rfl (fun v h12 hq => ?_)
            obtain ⟨rfl, e9⟩ := hq
            rw [e9]
            refine R_istore1 dX10_laysForm_106 (by decide) ?_
            refine R_goto (tgt := 49) dX10_laysForm_107 (by decide) ?_
            -- X10_laysForm: ('stop', 49)
            refine ih (T ++ [26 + i]) h11 _ (by rw [List.length_append, List.length_singleton]; omega) ho (fun s hs2 => ?_) x11 o11 ⟨?_, ?_⟩ t11 (g10.trans (Out.upd u11 (by omega) (by omega))) _
            · rcases List.mem_append.mp hs2 with z | z
              · exact hr s z
              · rw [List.mem_singleton.mp z]; exact hs
            · rw [List.flatMap_append, List.flatMap_singleton, rulB]
              have := f10.1
              simpa using this
            · rw [List.flatMap_append, List.flatMap_singleton, rulB]
              intro i2 w2 hw2
              show S10.2 13 i2 = nI w2
              exact f10.2 i2 w2 (by simpa using hw2)
  have told : ∀ m i h5 S5, i + m = 86 → MdAt E h5 M S5 → Ony [13, 14] [24] S S5 → S5.1 24 = nI 0 → (∀ s, s < i → S5.2 14 s = nI (if s < 26 then 1 else 0)) → Out h h5 M (M + 23) → WP E k_X10_laysForm 4 0 0 7 [some (.ref M), some (.int (nI i)), none] [] h5 (fun v h' => v = none ∧ Out h h' M (M + 23) ∧ ∃ S', MdAt E h' M S' ∧ Ony [13, 14] [24] S S' ∧ FOut S' (formS q)) := by
    intro m
    induction m with
    | zero =>
      intro i h5 S5 hi x5 o5 e5 t5 g5
      obtain rfl : i = 86 := by omega
      have c5 : curF (S5.2 1) q := by rw [o5.a1 (by decide)]; exact c
      have f5 : FOut S5 [] := ⟨e5, fun i y hy => by simp at hy⟩
      refine R_iload_n dX10_laysForm_7 rfl ?_
      refine R_bipush (v := nI 86) dX10_laysForm_8 (by decide) ?_
      refine R_icmp_ge_N (tgt := 36) dX10_laysForm_10 (by decide) (by omega) (by omega) (fun c10 => ?_) (fun c10 => ?_)
      -- X10_laysForm: ('branch', 10, 36, 13)
      · refine R_aload_n dX10_laysForm_36 rfl ?_
        refine R_aload_n dX10_laysForm_37 rfl ?_
        -- X10_laysForm: ('call', 38, '.invokevirtual', 180)
        refine R_callV v_X10_rulesMany (Md_rulesMany x5 c5) dX10_laysForm_38 l_RX10_180 rfl rfl x5.1 (Nat.le_of_ble_eq_true rfl) (by omega) rfl rfl (fun v h6 hq => ?_)
        obtain ⟨rfl, e9⟩ := hq
        rw [e9]
        refine R_callV v_X10_tells (Md_tells x5 f5 (by decide) (rulesS q.2)) dX10_laysForm_41 l_RX10_183 rfl rfl x5.1 (Nat.le_of_ble_eq_true rfl) (by omega) rfl rfl (fun v h7 hq => ?_)
        obtain ⟨rfl, g7, S7, x7, o7, f7⟩ := hq
        have o57 : Ony [13, 14] [24] S S7 := o5.trans (o7.mono (by decide) (by decide))
        have c7 : curF (S7.2 1) q := by rw [o57.a1 (by decide)]; exact c
        have t7 : TOld S7 [] := fun s hs => by
          rw [o7.1 14 (by decide), t5 s hs]
          congr 1
          exact if_iff ⟨Or.inl, fun z => z.elim id (fun y => absurd y List.not_mem_nil)⟩
        refine R_aload_n dX10_laysForm_44 rfl ?_
        -- X10_laysForm: ('call', 45, '.invokevirtual', 186)
        refine R_callV v_X10_nextTold (Md_nextTold x7 c7 hq t7) dX10_laysForm_45 l_RX10_186 rfl rfl x7.1 (Nat.le_of_ble_eq_true rfl) (by omega) rfl rfl (fun v h12 hq => ?_)
        obtain ⟨rfl, e9⟩ := hq
        rw [e9]
        refine R_istore1 dX10_laysForm_48 (by decide) ?_
        -- X10_laysForm: ('stop', 49)
        exact rules 60 [] h7 S7 (by decide) rfl (fun s hs => absurd hs List.not_mem_nil) x7 o57 (by rw [hro]; exact f7) t7 (g5.trans g7) _
      · exact absurd c10 (by omega)
    | succ m ih =>
      intro i h5 S5 hi x5 o5 e5 t5 g5
      have body : ∀ v : Nat, v = (if i < 26 then 1 else 0) → WP E k_X10_laysForm 4 0 0 29 [some (.ref M), some (.int (nI i)), none] [.int (nI v), .int (nI i), .ref (M + 14)] h5 (fun v h' => v = none ∧ Out h h' M (M + 23) ∧ ∃ S', MdAt E h' M S' ∧ Ony [13, 14] [24] S S' ∧ FOut S' (formS q)) := by
        intro v hv
        have hv2 : v < 2 := by rw [hv]; split <;> omega
        refine R_zastore_N dX10_laysForm_29 x5.a14 (by omega) (by omega) (by omega) ?_
        -- X10_laysForm: ('put', 30)
        intro h6 u6
        have x6 := x5.s14 u6
        refine R_iinc1 dX10_laysForm_30 (by decide) (nI_inc _ 1) ?_
        refine R_goto (tgt := 7) dX10_laysForm_33 (by decide) ?_
        -- X10_laysForm: ('stop', 7)
        refine ih (i + 1) h6 _ (by omega) x6 (o5.st (by decide)) e5 (fun s hs => ?_) (g5.trans (Out.upd u6 (by omega) (by omega)))
        show upd (S5.2 14) i (nI v) s = _
        by_cases e : s = i
        · rw [e, upd_at, hv]
        · rw [upd_ne e]; exact t5 s (by omega)
      refine R_iload_n dX10_laysForm_7 rfl ?_
      refine R_bipush (v := nI 86) dX10_laysForm_8 (by decide) ?_
      refine R_icmp_ge_N (tgt := 36) dX10_laysForm_10 (by decide) (by omega) (by omega) (fun c10 => ?_) (fun c10 => ?_)
      -- X10_laysForm: ('branch', 10, 36, 13)
      · exact absurd c10 (by omega)
      · refine R_aload_n dX10_laysForm_13 rfl ?_
        refine R_get K_10 (f := 23) (by decide) dX10_laysForm_14 f_RX10_58 x5.1 rfl ?_
        refine R_iload_n dX10_laysForm_17 rfl ?_
        refine R_iload_n dX10_laysForm_18 rfl ?_
        refine R_bipush (v := nI 26) dX10_laysForm_19 (by decide) ?_
        refine R_icmp_ge_N (tgt := 28) dX10_laysForm_21 (by decide) (by omega) (by omega) (fun c21 => ?_) (fun c21 => ?_)
        -- X10_laysForm: ('branch', 21, 28, 24)
        · refine R_iconst (v := nI 0) dX10_laysForm_28 (by decide) ?_
          -- X10_laysForm: ('stop', 29)
          exact body 0 (by rw [if_neg (by omega)])
        · refine R_iconst (v := nI 1) dX10_laysForm_24 (by decide) ?_
          refine R_goto (tgt := 29) dX10_laysForm_25 (by decide) ?_
          -- X10_laysForm: ('stop', 29)
          exact body 1 (by rw [if_pos (by omega)])
  refine R_aload_n dX10_laysForm_0 rfl ?_
  refine R_iconst (v := nI 0) dX10_laysForm_1 (by decide) ?_
  refine R_put_A K_10 (f := 24) (by decide) dX10_laysForm_2 f_RX10_177 rfl x.1 (by rfl) (by rfl) (Nat.le_of_ble_eq_true rfl) ?_
  -- X10_laysForm: ('put', 5)
  intro h2 u2
  have x2 := x.put u2 (by decide)
  refine R_iconst (v := nI 0) dX10_laysForm_5 (by decide) ?_
  refine R_istore1 dX10_laysForm_6 (by decide) ?_
  -- X10_laysForm: ('stop', 7)
  exact told 86 0 h2 _ (by omega) x2 (Ony.refl.put (by decide)) rfl (fun s hs => absurd hs (by omega)) (Out.upd u2 (by omega) (by omega))
theorem formS_len (hq : PkOk q) (c : curF (S.2 1) q) : (formS q).length ≤ 1082 := by
  have hql := c.1
  have hol := (ordS_good q.2).2.1
  have hfl := flat_len (rulB_len (fun i hi => (c.2.2.2 i hi).1)) (ordS q.2)
  rw [formS, List.length_cons, List.length_append, List.length_cons]
  omega
theorem MP_form_no (y : MMAt E h M q ds im md tp ph fk fp) {i : Int32} (hi : i < 0) : Spec E k_X10_form 5 0 0 [.ref M, .int i] h (fun v h' => v = some (.int (-3)) ∧ MMAt E h' M q ds im md tp ph fk fp ∧ Out h h' M (M + 23)) := by
  obtain ⟨S, x, r⟩ := y
  refine Spec.of (by decide +kernel) (by simp [Value.category]) (Nat.le_of_ble_eq_true rfl) ?_
  show WP E k_X10_form 5 0 0 0 [some (.ref M), some (.int i)] [] h _
  refine R_aload_n dX10_form_0 rfl ?_
  refine R_iconst (v := nI 0) dX10_form_1 (by decide) ?_
  refine R_put_A K_10 (f := 0) (by decide) dX10_form_2 f_RX10_1 rfl x.1 (by rfl) (by rfl) (Nat.le_of_ble_eq_true rfl) ?_
  intro h0 u0
  have x0 := x.put u0 (by decide)
  have r0 := r.keep (S2 := (upd S.1 0 (nI 0), S.2)) (Ony.refl.put (by decide))
  have g0 : Out h h0 M (M + 23) := Out.upd u0 (by omega) (by omega)
  generalize (upd S.1 0 (nI 0), S.2) = S0 at x0 r0
  refine R_iload_n dX10_form_5 rfl ?_
  refine R_if_ge (tgt := 12) dX10_form_6 (by decide) (fun c6 => ?_) (fun c6 => ?_)
  -- X10_form: ('branch', 6, 12, 9)
  · exact absurd hi (Int32.not_lt.mpr c6)
  · refine R_bipush (v := (-3)) dX10_form_9 (by decide) ?_
    refine R_ireturn dX10_form_11 rfl rfl ?_
    -- X10_form: ('ret', 11)
    exact ⟨rfl, ⟨S0, x0, r0⟩, g0⟩
theorem MP_form (y : MMAt E h M q ds im md tp ph fk fp) (hq : PkOk q) {i : Nat} (hi : i < 2 ^ 31) : Spec E k_X10_form 5 0 0 [.ref M, .int (nI i)] h (fun v h' => v = some (.int (rget (formS q) (nI i))) ∧ MMAt E h' M q ds im md tp ph fk fp ∧ Out h h' M (M + 23)) := by
  obtain ⟨S, x, r⟩ := y
  refine Spec.of (by decide +kernel) (by simp [Value.category]) (Nat.le_of_ble_eq_true rfl) ?_
  show WP E k_X10_form 5 0 0 0 [some (.ref M), some (.int (nI i))] [] h _
  refine R_aload_n dX10_form_0 rfl ?_
  refine R_iconst (v := nI 0) dX10_form_1 (by decide) ?_
  refine R_put_A K_10 (f := 0) (by decide) dX10_form_2 f_RX10_1 rfl x.1 (by rfl) (by rfl) (Nat.le_of_ble_eq_true rfl) ?_
  intro h0 u0
  have x0 := x.put u0 (by decide)
  have r0 := r.keep (S2 := (upd S.1 0 (nI 0), S.2)) (Ony.refl.put (by decide))
  have g0 : Out h h0 M (M + 23) := Out.upd u0 (by omega) (by omega)
  generalize (upd S.1 0 (nI 0), S.2) = S0 at x0 r0
  have hfl := formS_len hq r0.1
  refine R_iload_n dX10_form_5 rfl ?_
  refine R_if_ge_N (tgt := 12) dX10_form_6 (by decide) (by omega) ?_
  refine R_aload_n dX10_form_12 rfl ?_
  -- X10_form: ('call', 13, '.invokevirtual', 189)
  refine R_callV v_X10_laysForm (Md_laysForm hq x0 r0.1) dX10_form_13 l_RX10_189 rfl rfl x0.1 (Nat.le_of_ble_eq_true rfl) (by omega) rfl rfl (fun v h3 hq => ?_)
  obtain ⟨rfl, g3, S3, x3, o3, f3⟩ := hq
  have r3 := r0.keep (o3.mono (by decide) (by decide))
  have fin : MMAt E h3 M q ds im md tp ph fk fp ∧ Out h h3 M (M + 23) := ⟨⟨S3, x3, r3⟩, g0.trans g3⟩
  refine R_iload_n dX10_form_16 rfl ?_
  refine R_aload_n dX10_form_17 rfl ?_
  refine R_get K_10 (f := 24) (by decide) dX10_form_18 f_RX10_177 x3.1 (fld_get (k := 24) (by decide) f3.1) ?_
  refine R_icmp_ge_N (tgt := 33) dX10_form_21 (by decide) (by omega) (by omega) (fun c21 => ?_) (fun c21 => ?_)
  -- X10_form: ('branch', 21, 33, 24)
  · refine R_iconst (v := (-1)) dX10_form_33 (by decide) ?_
    refine R_ireturn dX10_form_34 rfl rfl ?_
    -- X10_form: ('ret', 34)
    exact ⟨by rw [rget_out hi (by omega)], fin⟩
  · obtain ⟨a, ha⟩ := getE (l := formS q) (i := i) (by omega)
    refine R_aload_n dX10_form_24 rfl ?_
    refine R_get K_10 (f := 22) (by decide) dX10_form_25 f_RX10_55 x3.1 rfl ?_
    refine R_iload_n dX10_form_28 rfl ?_
    refine R_iaload_N dX10_form_29 x3.a13 (by omega) (by omega) (f3.2 i a ha) ?_
    refine R_goto (tgt := 34) dX10_form_30 (by decide) ?_
    refine R_ireturn dX10_form_34 rfl rfl ?_
    -- X10_form: ('ret', 34)
    exact ⟨by rw [rget_in hi ha], fin⟩
end MD14
