/-! PAIRPACKER: what is asked of signs and places -/
theorem I32_small {w : Int32} {n : Nat} (h0 : ¬ w.toInt < 0) (h1 : ¬ (n : Int) < w.toInt) : ∃ k, k ≤ n ∧ w = nI k := by
  have hw : ¬ w < 0 := by
    rw [Int32.lt_iff_toInt_lt]
    exact h0
  obtain ⟨k, hk, rfl⟩ := nI_of hw
  rw [nI_toInt hk] at h1
  exact ⟨k, by omega, rfl⟩
def ruleI (q : Pk) (ph : List Nat) (s : Nat) (w : Int32) : Int32 := if w = nI 0 then nI (rowOf q.2 s).length else if w = nI 1 then nI (wlen q.2 s) else if w = nI 2 then nI (dpt q.2 s) else if w = nI 3 then nI (usesS q.1 q.2 s) else if w = nI 4 then nI (q.1.count s) else if w = nI 5 then nI (hitsS ph (letL q.2 [s])) else if nI 10 ≤ w ∧ w < nI 22 then rget (rowOf q.2 s) (w - nI 10) else -2
theorem ruleI_o {q : Pk} {ph : List Nat} {s : Nat} {w : Int32} (hw : w.toInt < 0 ∨ (5 : Int) < w.toInt) : ruleI q ph s w = if nI 10 ≤ w ∧ w < nI 22 then rget (rowOf q.2 s) (w - nI 10) else -2 := by
  have ne : ∀ k : Nat, k ≤ 5 → ¬ w = nI k := by
    rintro k hk rfl
    rw [nI_toInt (by omega)] at hw; omega
  rw [ruleI, if_neg (ne 0 (by omega)), if_neg (ne 1 (by omega)), if_neg (ne 2 (by omega)), if_neg (ne 3 (by omega)), if_neg (ne 4 (by omega)), if_neg (ne 5 (by omega))]
theorem home_at {ru : Ru} : ∀ (q : List Nat) (i0 b0 p : Nat), p < lsum (wlen ru) q → ∃ j x b, (homL ru i0 q)[p]? = some (i0 + j) ∧ q[j]? = some x ∧ (begL ru b0 q)[p]? = some (b0 + b) ∧ b = lsum (wlen ru) (q.take j) ∧ b ≤ p ∧ p < b + wlen ru x
  | [], i0, b0, p, h => by simp [lsum] at h
  | x :: t, i0, b0, p, h => by
    rw [lsum] at h
    rw [homL, begL]
    by_cases c : p < wlen ru x
    · refine ⟨0, x, 0, ?_, rfl, ?_, rfl, Nat.zero_le _, by omega⟩
      · rw [List.getElem?_append_left (by rw [List.length_replicate]; exact c), List.getElem?_replicate, if_pos c]; rfl
      · rw [List.getElem?_append_left (by rw [List.length_replicate]; exact c), List.getElem?_replicate, if_pos c]; rfl
    · obtain ⟨j, y, b, e1, e2, e3, e4, e5, e6⟩ := home_at (ru := ru) t (i0 + 1) (b0 + wlen ru x) (p - wlen ru x) (by omega)
      refine ⟨j + 1, y, wlen ru x + b, ?_, e2, ?_, by rw [List.take_succ_cons, lsum, e4], by omega, by omega⟩
      · rw [List.getElem?_append_right (by rw [List.length_replicate]; omega), List.length_replicate, e1]; congr 1; omega
      · rw [List.getElem?_append_right (by rw [List.length_replicate]; omega), List.length_replicate, e3]; congr 1; omega
theorem path_len {ru : Ru} (hA : Acy ru) {n s p : Nat} (hs : isSg ru s) (hp : p < wlen ru s) (hn : 60 ≤ n) : (path ru n s p).length ≤ 60 := by
  have h1 := path_wx hA n s p hs (Nat.le_trans (dpt_le ru s) hn) hp
  exact wxF_dep 60 s _ (List.mem_of_getElem? h1)
/-- the sign on the way, as it is told -/
def wayX (ru : Ru) (x p k : Nat) : Int32 := if (path ru k x p).length < k then -1 else nI (lastD x (path ru k x p))
def wayI (q : Pk) (p k : Nat) : Int32 := if p < (letL q.2 q.1).length then wayX q.2 (q.1.getD ((homL q.2 0 q.1).getD p 0) 0) (p - (begL q.2 0 q.1).getD p 0) k else -1
def wordI (q : Pk) (s i : Nat) : Int32 := ((wx q.2 s)[i]?).elim (-1) (fun p => nI p.1)
section PP8
variable {E : EnvT} {h h1 : Hp} {X rd : Nat} {q qc : Pk} {ds : List Pk} {im : Nat → Pk} {md : Nat → Nat} {tp ph : List Nat} {fk fp : Int32}
theorem PPAt.wset {re le : Int32} (x : PPAt E h X 1 q ds im md tp ph fk fp) (w : WordsT E h1 (X + 1525) q.2 (ordS q.2) re le) (o : Out h h1 (X + 1525) (X + 1525 + 5)) : PPAt E h1 X 1 q ds im md tp ph fk fp := by
  obtain ⟨-, lo, la, r⟩ := x.cach
  exact PPC.setCa (PPC.of x) (Or.inr ⟨rfl, ⟨re, le, w⟩, lo, la, r.ag (o.ag (by omega))⟩) (o.mono (by omega) (by omega))
theorem PP_rowSign (x : PPAt E h X rd q ds im md tp ph fk fp) {s : Nat} (hs : s < 86) (w : Int32) : Spec E k_X9_rowSign 2 0 0 [.ref X, .int (nI s), .int w] h (fun v h' => v = some (.int (if nI 10 ≤ w ∧ w < nI 22 then rget (rowOf q.2 s) (w - nI 10) else -2)) ∧ h' = h) := by
  have hP := x.2.1
  have hR := hP.row (s := s)
  refine Spec.of (by decide +kernel) (by simp [Value.category]) (Nat.le_of_ble_eq_true rfl) ?_
  show WP E k_X9_rowSign 2 0 0 0 [some (.ref X), some (.int (nI s)), some (.int w)] [] h _
  refine R_iload_n dX9_rowSign_0 rfl ?_
  refine R_bipush (v := nI 10) dX9_rowSign_1 (by decide) ?_
  refine R_icmp_lt (tgt := 12) dX9_rowSign_3 (by decide) (fun c3 => ?_) (fun c3 => ?_)
  -- X9_rowSign: ('branch', 3, 12, 6)
  · refine R_bipush (v := (-2)) dX9_rowSign_12 (by decide) ?_
    refine R_ireturn dX9_rowSign_14 rfl rfl ?_
    -- X9_rowSign: ('ret', 14)
    exact ⟨by rw [if_neg (fun z => absurd c3 (Int32.not_lt.mpr z.1))], rfl⟩
  · refine R_iload_n dX9_rowSign_6 rfl ?_
    refine R_bipush (v := nI 22) dX9_rowSign_7 (by decide) ?_
    refine R_icmp_lt (tgt := 15) dX9_rowSign_9 (by decide) (fun c9 => ?_) (fun c9 => ?_)
    -- X9_rowSign: ('branch', 9, 15, 12)
    · refine R_aload_n dX9_rowSign_15 rfl ?_
      refine R_get K_9 (f := 0) (by decide) dX9_rowSign_16 f_RX9_12 x.1 rfl ?_
      refine R_iload_n dX9_rowSign_19 rfl ?_
      -- X9_rowSign: ('call', 20, '.invokevirtual', 240)
      refine R_callV v_X2_rowOf (Pack_rowOf hP (s := s) (by omega)) dX9_rowSign_20 l_RX9_240 rfl rfl hP.1 (Nat.le_of_ble_eq_true rfl) (by omega) rfl rfl (fun v h3 hq => ?_)
      obtain ⟨rfl, e9⟩ := hq
      rw [e9]
      refine R_iload_n dX9_rowSign_23 rfl ?_
      refine R_bipush (v := nI 10) dX9_rowSign_24 (by decide) ?_
      refine R_isub dX9_rowSign_26 ?_
      -- X9_rowSign: ('call', 27, '.invokevirtual', 237)
      refine R_callV v_X6_get (Row_get hR (w - nI 10)) dX9_rowSign_27 l_RX9_237 rfl rfl hR.2.2.1 (Nat.le_of_ble_eq_true rfl) (by omega) rfl rfl (fun v h4 hq => ?_)
      obtain ⟨rfl, e9⟩ := hq
      refine R_ireturn dX9_rowSign_30 rfl rfl ?_
      -- X9_rowSign: ('ret', 30)
      exact ⟨by rw [if_pos ⟨Int32.not_lt.mp c3, c9⟩], e9⟩
    · refine R_bipush (v := (-2)) dX9_rowSign_12 (by decide) ?_
      refine R_ireturn dX9_rowSign_14 rfl rfl ?_
      -- X9_rowSign: ('ret', 14)
      exact ⟨by rw [if_neg (fun z => c9 z.2)], rfl⟩
theorem PP_hitsWithin (x : PPAt E h X 1 q ds im md tp ph fk fp) (hq : PkOk q) {s : Nat} (hs : isSg q.2 s) : Spec E k_X9_hitsWithin 5 0 0 [.ref X, .int (nI s)] h (fun v h' => v = some (.int (nI (hitsS ph (letL q.2 [s])))) ∧ (∃ rd, PPAt E h' X rd q ds im md tp ph fk fp) ∧ Out h h' X (X + 1830)) := by
  have hs86 := isSg_lt hs
  have hwl : lsum (wlen q.2) [s] ≤ 240 := by have := wlen_le hq.1 hs; simpa [lsum] using this
  obtain ⟨sl, hS⟩ := x.2.2.2.2.2.2.2.2.1
  refine Spec.of (by decide +kernel) (by simp [Value.category]) (Nat.le_of_ble_eq_true rfl) ?_
  show WP E k_X9_hitsWithin 5 0 0 0 [some (.ref X), some (.int (nI s))] [] h _
  refine R_aload_n dX9_hitsWithin_0 rfl ?_
  refine R_get K_9 (f := 12) (by decide) dX9_hitsWithin_1 f_RX9_75 x.1 rfl ?_
  -- X9_hitsWithin: ('call', 4, '.invokevirtual', 143)
  refine R_callV v_X6_clear (Row_clear hS) dX9_hitsWithin_4 l_RX9_143 rfl rfl hS.2.2.1 (Nat.le_of_ble_eq_true rfl) (by omega) rfl rfl (fun v h2 hq => ?_)
  obtain ⟨rfl, hS2, o2⟩ := hq
  have k2 := (o2.2 X (by omega)).trans x.1
  refine R_aload_n dX9_hitsWithin_7 rfl ?_
  refine R_get K_9 (f := 12) (by decide) dX9_hitsWithin_8 f_RX9_75 k2 rfl ?_
  refine R_iload_n dX9_hitsWithin_11 rfl ?_
  -- X9_hitsWithin: ('call', 12, '.invokevirtual', 211)
  refine R_callV v_X6_add (Row_add hS2 (x := s) (by omega) (by decide)) dX9_hitsWithin_12 l_RX9_211 rfl rfl hS2.2.2.1 (Nat.le_of_ble_eq_true rfl) (by omega) rfl rfl (fun v h3 hq => ?_)
  obtain ⟨rfl, hS3, o3⟩ := hq
  have hS3 : RowAt E h3 (X + 1540) 1 [s] := hS3
  have o23 : Out h h3 (X + 1540) (X + 1542) := o2.trans o3
  obtain ⟨a, -, r, d, e, f, l2, g⟩ := id x.2.2.2.2.2.2.2
  have x3 : PPAt E h3 X 1 q ds im md tp ph fk fp := x.scr ⟨a.ag (o23.ag (by omega)), ⟨_, hS3⟩, r.ag (o23.ag (by omega)), d.ag (o23.ag (by omega)), e.ag (o23.ag (by omega)), f.ag (o23.ag (by omega)), l2, g.ag (o23.ag (by omega))⟩ o23 (by omega)
  obtain ⟨⟨re, le, w⟩, -⟩ := x3.cach
  obtain ⟨b1, b2, b3, b4, lo, la, rr⟩ := x3.2.2.2.2.2.2.2.2.2.1
  refine R_aload_n dX9_hitsWithin_15 rfl ?_
  refine R_get K_9 (f := 13) (by decide) dX9_hitsWithin_16 f_RX9_78 x3.1 rfl ?_
  refine R_aload_n dX9_hitsWithin_19 rfl ?_
  refine R_get K_9 (f := 12) (by decide) dX9_hitsWithin_20 f_RX9_75 x3.1 rfl ?_
  refine R_aload_n dX9_hitsWithin_23 rfl ?_
  refine R_get K_9 (f := 0) (by decide) dX9_hitsWithin_24 f_RX9_12 x3.1 rfl ?_
  refine R_aload_n dX9_hitsWithin_27 rfl ?_
  refine R_get K_9 (f := 9) (by decide) dX9_hitsWithin_28 f_RX9_60 x3.1 rfl ?_
  -- X9_hitsWithin: ('call', 31, '.invokevirtual', 365)
  refine R_callV v_X5_readRow (Read_readRow hq.1 rr w x3.2.1 hS3 (fun y hy => by rw [List.mem_singleton.mp hy]; exact hs) hwl (by omega) (by omega) (by omega) (by omega) (by omega)) dX9_hitsWithin_31 l_RX9_365 rfl rfl rr.1 (Nat.le_of_ble_eq_true rfl) (by omega) rfl rfl (fun v h4 hq => ?_)
  obtain ⟨rfl, r4, ⟨re4, le4, w4⟩, o4⟩ := hq
  have x4 : PPAt E h4 X 1 q ds im md tp ph fk fp := by
    obtain ⟨y1, y2, y3, y4, y5, y6, y7, y8⟩ := id x3
    obtain ⟨-, lo9, la9, r9⟩ := x3.cach
    obtain ⟨a, ⟨l, b⟩, -, d, e, f, l2, g⟩ := y8
    exact ⟨(o4.2 _ (by omega) (by omega)).trans y1, y2.ag (o4.ag (by omega) (by omega)), y3.ag (o4.ag (by omega) (by omega)), y4.ag (o4.ag (by omega) (by omega)) (o4.ag (by omega) (by omega)), y5.ag (o4.ag (by omega) (by omega)), y6.ag (o4.ag (by omega) (by omega)), Or.inr ⟨rfl, ⟨_, _, w4⟩, lo9, la9, r9.ag (o4.ag (by omega) (by omega))⟩, a.ag (o4.ag (by omega) (by omega)), ⟨l, b.ag (o4.ag (by omega) (by omega))⟩, ⟨_, _, _, _, _, _, r4⟩, d.ag (o4.ag (by omega) (by omega)), e.ag (o4.ag (by omega) (by omega)), f.ag (o4.ag (by omega) (by omega)), l2, g.ag (o4.ag (by omega) (by omega))⟩
  refine R_aload_n dX9_hitsWithin_34 rfl ?_
  refine R_get K_9 (f := 13) (by decide) dX9_hitsWithin_35 f_RX9_78 x4.1 rfl ?_
  refine R_aload_n dX9_hitsWithin_38 rfl ?_
  refine R_get K_9 (f := 5) (by decide) dX9_hitsWithin_39 f_RX9_40 x4.1 rfl ?_
  -- X9_hitsWithin: ('call', 42, '.invokevirtual', 147)
  refine R_callV v_X5_hitsOf (Read_hitsOf r4 x4.2.2.2.2.2.1) dX9_hitsWithin_42 l_RX9_147 rfl rfl r4.1 (Nat.le_of_ble_eq_true rfl) (by omega) rfl rfl (fun v h5 hq => ?_)
  obtain ⟨rfl, e9⟩ := hq
  rw [e9]
  refine R_ireturn dX9_hitsWithin_45 rfl rfl ?_
  -- X9_hitsWithin: ('ret', 45)
  exact ⟨rfl, ⟨_, x4⟩, (o23.mono (by omega) (by omega)).trans ⟨o4.1, fun z hz => o4.2 z (by omega) (by omega)⟩⟩
theorem PP_rule_no (x : PPAt E h X rd q ds im md tp ph fk fp) {s w : Int32} (hn : ¬ sgI q.2 s) : Spec E k_X9_rule 6 0 0 [.ref X, .int s, .int w] h (fun v h' => v = some (.int (-2)) ∧ h' = h) := by
  have hP := x.2.1
  refine Spec.of (by decide +kernel) (by simp [Value.category]) (Nat.le_of_ble_eq_true rfl) ?_
  show WP E k_X9_rule 6 0 0 0 [some (.ref X), some (.int s), some (.int w)] [] h _
  refine R_aload_n dX9_rule_0 rfl ?_
  refine R_get K_9 (f := 0) (by decide) dX9_rule_1 f_RX9_12 x.1 rfl ?_
  refine R_iload_n dX9_rule_4 rfl ?_
  -- X9_rule: ('call', 5, '.invokevirtual', 188)
  refine R_callV v_X2_has (Pack_has_any hP s) dX9_rule_5 l_RX9_188 rfl rfl hP.1 (Nat.le_of_ble_eq_true rfl) (by omega) rfl rfl (fun v h2 hq => ?_)
  obtain ⟨rfl, e9⟩ := hq
  rw [e9, if_neg hn]
  refine R_if_ne_N (tgt := 14) dX9_rule_8 (by decide) (by omega) (fun c8 => ?_) (fun c8 => ?_)
  -- X9_rule: ('branch', 8, 14, 11)
  · exact absurd rfl c8
  · refine R_bipush (v := (-2)) dX9_rule_11 (by decide) ?_
    refine R_ireturn dX9_rule_13 rfl rfl ?_
    -- X9_rule: ('ret', 13)
    exact ⟨rfl, rfl⟩
theorem PP_rule (x : PPAt E h X rd q ds im md tp ph fk fp) (hq : PkOk q) {s : Nat} (hs : isSg q.2 s) (w : Int32) : Spec E k_X9_rule 6 0 0 [.ref X, .int (nI s), .int w] h (fun v h' => v = some (.int (ruleI q ph s w)) ∧ (∃ rd, PPAt E h' X rd q ds im md tp ph fk fp) ∧ Out h h' X (X + 1830)) := by
  have hP := x.2.1
  have hs86 := isSg_lt hs
  refine Spec.of (by decide +kernel) (by simp [Value.category]) (Nat.le_of_ble_eq_true rfl) ?_
  show WP E k_X9_rule 6 0 0 0 [some (.ref X), some (.int (nI s)), some (.int w)] [] h _
  refine R_aload_n dX9_rule_0 rfl ?_
  refine R_get K_9 (f := 0) (by decide) dX9_rule_1 f_RX9_12 x.1 rfl ?_
  refine R_iload_n dX9_rule_4 rfl ?_
  -- X9_rule: ('call', 5, '.invokevirtual', 188)
  refine R_callV v_X2_has (Pack_has hP (s := s) (by omega)) dX9_rule_5 l_RX9_188 rfl rfl hP.1 (Nat.le_of_ble_eq_true rfl) (by omega) rfl rfl (fun v h2 hq => ?_)
  obtain ⟨rfl, e9⟩ := hq
  rw [e9, if_pos hs]
  refine R_if_ne_N (tgt := 14) dX9_rule_8 (by decide) (by omega) (fun c8 => ?_) (fun c8 => ?_)
  -- X9_rule: ('branch', 8, 14, 11)
  · refine R_aload_n dX9_rule_14 rfl ?_
    -- X9_rule: ('call', 15, '.invokevirtual', 144)
    refine R_callV v_X9_read (PP_read x hq) dX9_rule_15 l_RX9_144 rfl rfl x.1 (Nat.le_of_ble_eq_true rfl) (by omega) rfl rfl (fun v h3 hq => ?_)
    obtain ⟨rfl, x2, o2⟩ := hq
    obtain ⟨⟨re, le, ww⟩, lo, la, r⟩ := x2.cach
    have hR := x2.2.1.row (s := s)
    have fin : (∃ rd, PPAt E h3 X rd q ds im md tp ph fk fp) ∧ Out h h3 X (X + 1830) := ⟨⟨_, x2⟩, o2⟩
    by_cases hw : ¬ w.toInt < 0 ∧ ¬ ((5 : Nat) : Int) < w.toInt
    · obtain ⟨k, hk, rfl⟩ := I32_small hw.1 hw.2
      refine R_iload_n dX9_rule_18 rfl ?_
      -- X9_rule: ('op', 19, '.tableswitch 94 0 5 #[37, 49, 58, 67, 76, 88]')
      rcases (show k = 0 ∨ k = 1 ∨ k = 2 ∨ k = 3 ∨ k = 4 ∨ k = 5 by omega) with rfl | rfl | rfl | rfl | rfl | rfl
      · refine R_tableIn (off := 37) (tgt := 56) dX9_rule_19 (by decide) (by decide) rfl (by decide) ?_
        refine R_aload_n dX9_rule_56 rfl ?_
        refine R_get K_9 (f := 0) (by decide) dX9_rule_57 f_RX9_12 x2.1 rfl ?_
        refine R_iload_n dX9_rule_60 rfl ?_
        -- X9_rule: ('call', 61, '.invokevirtual', 240)
        refine R_callV v_X2_rowOf (Pack_rowOf x2.2.1 (s := s) (by omega)) dX9_rule_61 l_RX9_240 rfl rfl x2.2.1.1 (Nat.le_of_ble_eq_true rfl) (by omega) rfl rfl (fun v h4 hq => ?_)
        obtain ⟨rfl, e9⟩ := hq
        rw [e9]
        refine R_callV v_X6_size (Row_size hR) dX9_rule_64 l_RX9_105 rfl rfl hR.2.2.1 (Nat.le_of_ble_eq_true rfl) (by omega) rfl rfl (fun v h5 hq => ?_)
        obtain ⟨rfl, e9⟩ := hq
        rw [e9]
        refine R_ireturn dX9_rule_67 rfl rfl ?_
        -- X9_rule: ('ret', 67)
        exact ⟨rfl, fin⟩
      · refine R_tableIn (off := 49) (tgt := 68) dX9_rule_19 (by decide) (by decide) rfl (by decide) ?_
        refine R_aload_n dX9_rule_68 rfl ?_
        refine R_get K_9 (f := 9) (by decide) dX9_rule_69 f_RX9_60 x2.1 rfl ?_
        refine R_iload_n dX9_rule_72 rfl ?_
        -- X9_rule: ('call', 73, '.invokevirtual', 244)
        refine R_callV v_X8_lettersOf (Words_len hq.1 ww hs) dX9_rule_73 l_RX9_244 rfl rfl ww.1 (Nat.le_of_ble_eq_true rfl) (by omega) rfl rfl (fun v h4 hq => ?_)
        obtain ⟨rfl, e9⟩ := hq
        rw [e9]
        refine R_ireturn dX9_rule_76 rfl rfl ?_
        -- X9_rule: ('ret', 76)
        exact ⟨rfl, fin⟩
      · refine R_tableIn (off := 58) (tgt := 77) dX9_rule_19 (by decide) (by decide) rfl (by decide) ?_
        refine R_aload_n dX9_rule_77 rfl ?_
        refine R_get K_9 (f := 9) (by decide) dX9_rule_78 f_RX9_60 x2.1 rfl ?_
        refine R_iload_n dX9_rule_81 rfl ?_
        -- X9_rule: ('call', 82, '.invokevirtual', 247)
        refine R_callV v_X8_depthOf (Words_dep hq.1 ww hs) dX9_rule_82 l_RX9_247 rfl rfl ww.1 (Nat.le_of_ble_eq_true rfl) (by omega) rfl rfl (fun v h4 hq => ?_)
        obtain ⟨rfl, e9⟩ := hq
        rw [e9]
        refine R_ireturn dX9_rule_85 rfl rfl ?_
        -- X9_rule: ('ret', 85)
        exact ⟨rfl, fin⟩
      · refine R_tableIn (off := 67) (tgt := 86) dX9_rule_19 (by decide) (by decide) rfl (by decide) ?_
        refine R_aload_n dX9_rule_86 rfl ?_
        refine R_get K_9 (f := 0) (by decide) dX9_rule_87 f_RX9_12 x2.1 rfl ?_
        refine R_iload_n dX9_rule_90 rfl ?_
        -- X9_rule: ('call', 91, '.invokevirtual', 250)
        refine R_callV v_X2_usesOf (Pack_usesOf x2.2.1 (s := s) (by omega)) dX9_rule_91 l_RX9_250 rfl rfl x2.2.1.1 (Nat.le_of_ble_eq_true rfl) (by omega) rfl rfl (fun v h4 hq => ?_)
        obtain ⟨rfl, e9⟩ := hq
        rw [e9]
        refine R_ireturn dX9_rule_94 rfl rfl ?_
        -- X9_rule: ('ret', 94)
        exact ⟨rfl, fin⟩
      · refine R_tableIn (off := 76) (tgt := 95) dX9_rule_19 (by decide) (by decide) rfl (by decide) ?_
        refine R_aload_n dX9_rule_95 rfl ?_
        refine R_get K_9 (f := 0) (by decide) dX9_rule_96 f_RX9_12 x2.1 rfl ?_
        -- X9_rule: ('call', 99, '.invokevirtual', 135)
        refine R_callV v_X2_sequence (Pack_sequence x2.2.1) dX9_rule_99 l_RX9_135 rfl rfl x2.2.1.1 (Nat.le_of_ble_eq_true rfl) (by omega) rfl rfl (fun v h4 hq => ?_)
        obtain ⟨rfl, e9⟩ := hq
        rw [e9]
        refine R_iload_n dX9_rule_102 rfl ?_
        -- X9_rule: ('call', 103, '.invokevirtual', 253)
        refine R_callV v_X6_howMany (Row_howMany x2.2.1.2.1 (x := s) (by omega)) dX9_rule_103 l_RX9_253 rfl rfl x2.2.1.2.1.2.2.1 (Nat.le_of_ble_eq_true rfl) (by omega) rfl rfl (fun v h5 hq => ?_)
        obtain ⟨rfl, e9⟩ := hq
        rw [e9]
        refine R_ireturn dX9_rule_106 rfl rfl ?_
        -- X9_rule: ('ret', 106)
        exact ⟨rfl, fin⟩
      · refine R_tableIn (off := 88) (tgt := 107) dX9_rule_19 (by decide) (by decide) rfl (by decide) ?_
        refine R_aload_n dX9_rule_107 rfl ?_
        refine R_iload_n dX9_rule_108 rfl ?_
        -- X9_rule: ('call', 109, '.invokevirtual', 256)
        refine R_callV v_X9_hitsWithin (PP_hitsWithin x2 hq hs) dX9_rule_109 l_RX9_256 rfl rfl x2.1 (Nat.le_of_ble_eq_true rfl) (by omega) rfl rfl (fun v h4 hq => ?_)
        obtain ⟨rfl, x4, o4⟩ := hq
        refine R_ireturn dX9_rule_112 rfl rfl ?_
        -- X9_rule: ('ret', 112)
        exact ⟨rfl, x4, o2.trans o4⟩
    · have hw2 : w.toInt < 0 ∨ (5 : Int) < w.toInt := by
        by_cases z : w.toInt < 0
        · exact Or.inl z
        · exact Or.inr (by have := Classical.not_not.mp (fun y => hw ⟨z, y⟩); omega)
      refine R_iload_n dX9_rule_18 rfl ?_
      -- X9_rule: ('op', 19, '.tableswitch 94 0 5 #[37, 49, 58, 67, 76, 88]')
      refine R_tableOut (tgt := 113) dX9_rule_19 hw2 (by decide) ?_
      refine R_aload_n dX9_rule_113 rfl ?_
      refine R_iload_n dX9_rule_114 rfl ?_
      refine R_iload_n dX9_rule_115 rfl ?_
      -- X9_rule: ('call', 116, '.invokevirtual', 259)
      refine R_callV v_X9_rowSign (PP_rowSign x2 hs86 w) dX9_rule_116 l_RX9_259 rfl rfl x2.1 (Nat.le_of_ble_eq_true rfl) (by omega) rfl rfl (fun v h4 hq => ?_)
      obtain ⟨rfl, e9⟩ := hq
      rw [e9]
      refine R_ireturn dX9_rule_119 rfl rfl ?_
      -- X9_rule: ('ret', 119)
      exact ⟨by rw [ruleI_o hw2], fin⟩
  · exact absurd c8 (by decide)
theorem PP_word_no (x : PPAt E h X rd q ds im md tp ph fk fp) {s i : Int32} (hn : ¬ sgI q.2 s) : Spec E k_X9_word 6 0 0 [.ref X, .int s, .int i] h (fun v h' => v = some (.int (-2)) ∧ h' = h) := by
  have hP := x.2.1
  refine Spec.of (by decide +kernel) (by simp [Value.category]) (Nat.le_of_ble_eq_true rfl) ?_
  show WP E k_X9_word 6 0 0 0 [some (.ref X), some (.int s), some (.int i)] [] h _
  refine R_aload_n dX9_word_0 rfl ?_
  refine R_get K_9 (f := 0) (by decide) dX9_word_1 f_RX9_12 x.1 rfl ?_
  refine R_iload_n dX9_word_4 rfl ?_
  -- X9_word: ('call', 5, '.invokevirtual', 188)
  refine R_callV v_X2_has (Pack_has_any hP s) dX9_word_5 l_RX9_188 rfl rfl hP.1 (Nat.le_of_ble_eq_true rfl) (by omega) rfl rfl (fun v h2 hq => ?_)
  obtain ⟨rfl, e9⟩ := hq
  rw [e9, if_neg hn]
  refine R_if_ne_N (tgt := 14) dX9_word_8 (by decide) (by omega) (fun c8 => ?_) (fun c8 => ?_)
  -- X9_word: ('branch', 8, 14, 11)
  · exact absurd rfl c8
  · refine R_bipush (v := (-2)) dX9_word_11 (by decide) ?_
    refine R_ireturn dX9_word_13 rfl rfl ?_
    -- X9_word: ('ret', 13)
    exact ⟨rfl, rfl⟩
theorem PP_word_neg (x : PPAt E h X rd q ds im md tp ph fk fp) {s i : Int32} (hs : sgI q.2 s) (hi : i < 0) : Spec E k_X9_word 6 0 0 [.ref X, .int s, .int i] h (fun v h' => v = some (.int (-3)) ∧ h' = h) := by
  have hP := x.2.1
  refine Spec.of (by decide +kernel) (by simp [Value.category]) (Nat.le_of_ble_eq_true rfl) ?_
  show WP E k_X9_word 6 0 0 0 [some (.ref X), some (.int s), some (.int i)] [] h _
  refine R_aload_n dX9_word_0 rfl ?_
  refine R_get K_9 (f := 0) (by decide) dX9_word_1 f_RX9_12 x.1 rfl ?_
  refine R_iload_n dX9_word_4 rfl ?_
  -- X9_word: ('call', 5, '.invokevirtual', 188)
  refine R_callV v_X2_has (Pack_has_any hP s) dX9_word_5 l_RX9_188 rfl rfl hP.1 (Nat.le_of_ble_eq_true rfl) (by omega) rfl rfl (fun v h2 hq => ?_)
  obtain ⟨rfl, e9⟩ := hq
  rw [e9, if_pos hs]
  refine R_if_ne_N (tgt := 14) dX9_word_8 (by decide) (by omega) (fun c8 => ?_) (fun c8 => ?_)
  -- X9_word: ('branch', 8, 14, 11)
  · refine R_iload_n dX9_word_14 rfl ?_
    refine R_if_ge (tgt := 21) dX9_word_15 (by decide) (fun c15 => ?_) (fun c15 => ?_)
    -- X9_word: ('branch', 15, 21, 18)
    · exact absurd hi (Int32.not_lt.mpr c15)
    · refine R_bipush (v := (-3)) dX9_word_18 (by decide) ?_
      refine R_ireturn dX9_word_20 rfl rfl ?_
      -- X9_word: ('ret', 20)
      exact ⟨rfl, rfl⟩
  · exact absurd c8 (by decide)
theorem PP_word (x : PPAt E h X rd q ds im md tp ph fk fp) (hq : PkOk q) {s i : Nat} (hs : isSg q.2 s) (hi : i < 2 ^ 31) : Spec E k_X9_word 6 0 0 [.ref X, .int (nI s), .int (nI i)] h (fun v h' => v = some (.int (wordI q s i)) ∧ (∃ rd, PPAt E h' X rd q ds im md tp ph fk fp) ∧ Out h h' X (X + 1830)) := by
  have hP := x.2.1
  have hs86 := isSg_lt hs
  have hwl := wlen_le hq.1 hs
  refine Spec.of (by decide +kernel) (by simp [Value.category]) (Nat.le_of_ble_eq_true rfl) ?_
  show WP E k_X9_word 6 0 0 0 [some (.ref X), some (.int (nI s)), some (.int (nI i))] [] h _
  refine R_aload_n dX9_word_0 rfl ?_
  refine R_get K_9 (f := 0) (by decide) dX9_word_1 f_RX9_12 x.1 rfl ?_
  refine R_iload_n dX9_word_4 rfl ?_
  -- X9_word: ('call', 5, '.invokevirtual', 188)
  refine R_callV v_X2_has (Pack_has hP (s := s) (by omega)) dX9_word_5 l_RX9_188 rfl rfl hP.1 (Nat.le_of_ble_eq_true rfl) (by omega) rfl rfl (fun v h2 hq => ?_)
  obtain ⟨rfl, e9⟩ := hq
  rw [e9, if_pos hs]
  refine R_if_ne_N (tgt := 14) dX9_word_8 (by decide) (by omega) (fun c8 => ?_) (fun c8 => ?_)
  -- X9_word: ('branch', 8, 14, 11)
  · refine R_iload_n dX9_word_14 rfl ?_
    refine R_if_ge_N (tgt := 21) dX9_word_15 (by decide) (by omega) ?_
    refine R_aload_n dX9_word_21 rfl ?_
    -- X9_word: ('call', 22, '.invokevirtual', 144)
    refine R_callV v_X9_read (PP_read x hq) dX9_word_22 l_RX9_144 rfl rfl x.1 (Nat.le_of_ble_eq_true rfl) (by omega) rfl rfl (fun v h3 hq => ?_)
    obtain ⟨rfl, x2, o2⟩ := hq
    obtain ⟨⟨re, le, ww⟩, lo, la, r⟩ := x2.cach
    refine R_iload_n dX9_word_25 rfl ?_
    refine R_aload_n dX9_word_26 rfl ?_
    refine R_get K_9 (f := 9) (by decide) dX9_word_27 f_RX9_60 x2.1 rfl ?_
    refine R_iload_n dX9_word_30 rfl ?_
    -- X9_word: ('call', 31, '.invokevirtual', 244)
    refine R_callV v_X8_lettersOf (Words_len hq.1 ww hs) dX9_word_31 l_RX9_244 rfl rfl ww.1 (Nat.le_of_ble_eq_true rfl) (by omega) rfl rfl (fun v h4 hq => ?_)
    obtain ⟨rfl, e9⟩ := hq
    rw [e9]
    refine R_icmp_lt_N (tgt := 39) dX9_word_34 (by decide) (by omega) (by omega) (fun c34 => ?_) (fun c34 => ?_)
    -- X9_word: ('branch', 34, 39, 37)
    · refine R_aload_n dX9_word_39 rfl ?_
      refine R_get K_9 (f := 9) (by decide) dX9_word_40 f_RX9_60 x2.1 rfl ?_
      refine R_aload_n dX9_word_43 rfl ?_
      refine R_get K_9 (f := 0) (by decide) dX9_word_44 f_RX9_12 x2.1 rfl ?_
      refine R_iload_n dX9_word_47 rfl ?_
      refine R_iload_n dX9_word_48 rfl ?_
      refine R_bipush (v := nI 60) dX9_word_49 (by decide) ?_
      -- X9_word: ('call', 51, '.invokevirtual', 262)
      refine R_callV v_X8_goDown (Words_goDown hq.1 ww x2.2.1 (by omega) hs (p := i) (most := 60) hi (by decide)) dX9_word_51 l_RX9_262 rfl rfl ww.1 (Nat.le_of_ble_eq_true rfl) (by omega) rfl rfl (fun v h5 hq => ?_)
      obtain ⟨rfl, w5, o5⟩ := hq
      have x5 := x2.wset w5 o5
      have hpw := path_wx hq.1.1 60 s i hs (dpt_le q.2 s) c34
      refine R_aload_n dX9_word_54 rfl ?_
      refine R_get K_9 (f := 9) (by decide) dX9_word_55 f_RX9_60 x5.1 rfl ?_
      -- X9_word: ('call', 58, '.invokevirtual', 266)
      refine R_callV v_X8_reached (Words_reached w5) dX9_word_58 l_RX9_266 rfl rfl w5.1 (Nat.le_of_ble_eq_true rfl) (by omega) rfl rfl (fun v h6 hq => ?_)
      obtain ⟨rfl, e9⟩ := hq
      rw [e9]
      refine R_ireturn dX9_word_61 rfl rfl ?_
      -- X9_word: ('ret', 61)
      exact ⟨by rw [wordI, hpw]; rfl, ⟨_, x5⟩, o2.trans (o5.mono (by omega) (by omega))⟩
    · refine R_iconst (v := (-1)) dX9_word_37 (by decide) ?_
      refine R_ireturn dX9_word_38 rfl rfl ?_
      -- X9_word: ('ret', 38)
      exact ⟨by rw [wordI, List.getElem?_eq_none (by rw [← show wlen q.2 s = (wx q.2 s).length from rfl]; exact c34)]; rfl, ⟨_, x2⟩, o2⟩
  · exact absurd c8 (by decide)
theorem PP_way_no {p k : Int32} (hn : p < 0 ∨ k < 0) : Spec E k_X9_way 6 0 0 [.ref X, .int p, .int k] h (fun v h' => v = some (.int (-3)) ∧ h' = h) := by
  refine Spec.of (by decide +kernel) (by simp [Value.category]) (Nat.le_of_ble_eq_true rfl) ?_
  show WP E k_X9_way 6 0 0 0 [some (.ref X), some (.int p), some (.int k), none] [] h _
  refine R_iload_n dX9_way_0 rfl ?_
  refine R_if_lt (tgt := 8) dX9_way_1 (by decide) (fun c1 => ?_) (fun c1 => ?_)
  -- X9_way: ('branch', 1, 8, 4)
  · refine R_bipush (v := (-3)) dX9_way_8 (by decide) ?_
    refine R_ireturn dX9_way_10 rfl rfl ?_
    -- X9_way: ('ret', 10)
    exact ⟨rfl, rfl⟩
  · refine R_iload_n dX9_way_4 rfl ?_
    refine R_if_ge (tgt := 11) dX9_way_5 (by decide) (fun c5 => ?_) (fun c5 => ?_)
    -- X9_way: ('branch', 5, 11, 8)
    · rcases hn with z | z
      · exact absurd z c1
      · exact absurd z (Int32.not_lt.mpr c5)
    · refine R_bipush (v := (-3)) dX9_way_8 (by decide) ?_
      refine R_ireturn dX9_way_10 rfl rfl ?_
      -- X9_way: ('ret', 10)
      exact ⟨rfl, rfl⟩
theorem PP_way (x : PPAt E h X rd q ds im md tp ph fk fp) (hq : PkOk q) {p k : Nat} (hp : p < 2 ^ 31) (hk : k < 2 ^ 31) : Spec E k_X9_way 6 0 0 [.ref X, .int (nI p), .int (nI k)] h (fun v h' => v = some (.int (wayI q p k)) ∧ (∃ rd, PPAt E h' X rd q ds im md tp ph fk fp) ∧ Out h h' X (X + 1830)) := by
  have hll := letL_len (ru := q.2) (q := q.1)
  refine Spec.of (by decide +kernel) (by simp [Value.category]) (Nat.le_of_ble_eq_true rfl) ?_
  show WP E k_X9_way 6 0 0 0 [some (.ref X), some (.int (nI p)), some (.int (nI k)), none] [] h _
  refine R_iload_n dX9_way_0 rfl ?_
  refine R_if_lt_N (tgt := 8) dX9_way_1 (by decide) (by omega) ?_
  refine R_iload_n dX9_way_4 rfl ?_
  refine R_if_ge_N (tgt := 11) dX9_way_5 (by decide) (by omega) ?_
  refine R_aload_n dX9_way_11 rfl ?_
  -- X9_way: ('call', 12, '.invokevirtual', 144)
  refine R_callV v_X9_read (PP_read x hq) dX9_way_12 l_RX9_144 rfl rfl x.1 (Nat.le_of_ble_eq_true rfl) (by omega) rfl rfl (fun v h3 hq => ?_)
  obtain ⟨rfl, x2, o2⟩ := hq
  obtain ⟨⟨re, le, ww⟩, lo, la, r⟩ := x2.cach
  refine R_aload_n dX9_way_15 rfl ?_
  refine R_get K_9 (f := 10) (by decide) dX9_way_16 f_RX9_67 x2.1 rfl ?_
  refine R_iload_n dX9_way_19 rfl ?_
  -- X9_way: ('call', 20, '.invokevirtual', 217)
  refine R_callV v_X5_hasPlace (Read_hasPlace r hp) dX9_way_20 l_RX9_217 rfl rfl r.1 (Nat.le_of_ble_eq_true rfl) (by omega) rfl rfl (fun v h4 hq => ?_)
  obtain ⟨rfl, e9⟩ := hq
  rw [e9]
  by_cases c : p < (letL q.2 q.1).length
  · rw [if_pos c]
    obtain ⟨j, y, b, e1, e2, e3, e4, e5, e6⟩ := home_at (ru := q.2) q.1 0 0 p (by omega)
    have hys := hq.2.1 y (List.mem_of_getElem? e2)
    rw [Nat.zero_add] at e1 e3
    have hw : wayI q p k = wayX q.2 y (p - b) k := by rw [wayI, if_pos c, getD_of e1, getD_of e2, getD_of e3]
    rw [hw]
    refine R_if_eq_N (tgt := 32) dX9_way_23 (by decide) (by omega) (fun c23 => ?_) (fun c23 => ?_)
    -- X9_way: ('branch', 23, 32, 26)
    · exact absurd c23 (by decide)
    · refine R_iload_n dX9_way_26 rfl ?_
      refine R_bipush (v := nI 60) dX9_way_27 (by decide) ?_
      refine R_icmp_le_N (tgt := 34) dX9_way_29 (by decide) (by omega) (by omega) (fun c29 => ?_) (fun c29 => ?_)
      -- X9_way: ('branch', 29, 34, 32)
      · refine R_aload_n dX9_way_34 rfl ?_
        refine R_get K_9 (f := 0) (by decide) dX9_way_35 f_RX9_12 x2.1 rfl ?_
        -- X9_way: ('call', 38, '.invokevirtual', 135)
        refine R_callV v_X2_sequence (Pack_sequence x2.2.1) dX9_way_38 l_RX9_135 rfl rfl x2.2.1.1 (Nat.le_of_ble_eq_true rfl) (by omega) rfl rfl (fun v h5 hq => ?_)
        obtain ⟨rfl, e9⟩ := hq
        rw [e9]
        refine R_aload_n dX9_way_41 rfl ?_
        refine R_get K_9 (f := 10) (by decide) dX9_way_42 f_RX9_67 x2.1 rfl ?_
        refine R_iload_n dX9_way_45 rfl ?_
        -- X9_way: ('call', 46, '.invokevirtual', 269)
        refine R_callV v_X5_homeAt (Read_homeAt r (nI p)) dX9_way_46 l_RX9_269 rfl rfl r.1 (Nat.le_of_ble_eq_true rfl) (by omega) rfl rfl (fun v h6 hq => ?_)
        obtain ⟨rfl, e9⟩ := hq
        rw [e9, rget_in hp e1]
        have hjl := (List.getElem?_eq_some_iff.mp e2).1
        have hql := x2.rows.1
        refine R_callV v_X6_get (Row_get x2.2.1.2.1 (nI j)) dX9_way_49 l_RX9_237 rfl rfl x2.2.1.2.1.2.2.1 (Nat.le_of_ble_eq_true rfl) (by omega) rfl rfl (fun v h7 hq => ?_)
        obtain ⟨rfl, e9⟩ := hq
        rw [e9, rget_in (by omega) e2]
        refine R_istore3 dX9_way_52 (by decide) ?_
        refine R_aload_n dX9_way_53 rfl ?_
        refine R_get K_9 (f := 9) (by decide) dX9_way_54 f_RX9_60 x2.1 rfl ?_
        refine R_aload_n dX9_way_57 rfl ?_
        refine R_get K_9 (f := 0) (by decide) dX9_way_58 f_RX9_12 x2.1 rfl ?_
        refine R_iload_n dX9_way_61 rfl ?_
        refine R_iload_n dX9_way_62 rfl ?_
        refine R_aload_n dX9_way_63 rfl ?_
        refine R_get K_9 (f := 10) (by decide) dX9_way_64 f_RX9_67 x2.1 rfl ?_
        refine R_iload_n dX9_way_67 rfl ?_
        -- X9_way: ('call', 68, '.invokevirtual', 272)
        refine R_callV v_X5_beginAt (Read_beginAt r (nI p)) dX9_way_68 l_RX9_272 rfl rfl r.1 (Nat.le_of_ble_eq_true rfl) (by omega) rfl rfl (fun v h8 hq => ?_)
        obtain ⟨rfl, e9⟩ := hq
        rw [e9, rget_in hp e3]
        refine R_isub_N dX9_way_71 (by omega) ?_
        refine R_iload_n dX9_way_72 rfl ?_
        -- X9_way: ('call', 73, '.invokevirtual', 262)
        refine R_callV v_X8_goDown (Words_goDown hq.1 ww x2.2.1 (by omega) hys (p := p - b) (most := k) (by omega) (by omega)) dX9_way_73 l_RX9_262 rfl rfl ww.1 (Nat.le_of_ble_eq_true rfl) (by omega) rfl rfl (fun v h9 hq => ?_)
        obtain ⟨rfl, w9, o9⟩ := hq
        have x9 := x2.wset w9 o9
        have hpl : (path q.2 k y (p - b)).length ≤ 2 ^ 30 := by
          have : ∀ (n s p : Nat), (path q.2 n s p).length ≤ n := by
            intro n
            induction n with
            | zero => intro s p; exact Nat.le_refl _
            | succ n ih =>
              intro s p
              by_cases z : isRul q.2 s
              · rw [path_succ z, List.length_cons]; have := ih (pickR (wlen q.2) (q.2 (s - 26)) p).1 (pickR (wlen q.2) (q.2 (s - 26)) p).2; omega
              · rw [path_stop z]; exact Nat.zero_le _
          have := this k y (p - b); omega
        have o29 : Out h h9 X (X + 1830) := o2.trans (o9.mono (by omega) (by omega))
        refine R_aload_n dX9_way_76 rfl ?_
        refine R_get K_9 (f := 9) (by decide) dX9_way_77 f_RX9_60 x9.1 rfl ?_
        -- X9_way: ('call', 80, '.invokevirtual', 278)
        refine R_callV v_X8_levelsGone (Words_levelsGone w9) dX9_way_80 l_RX9_278 rfl rfl w9.1 (Nat.le_of_ble_eq_true rfl) (by omega) rfl rfl (fun v h10 hq => ?_)
        obtain ⟨rfl, e9⟩ := hq
        rw [e9]
        refine R_iload_n dX9_way_83 rfl ?_
        refine R_icmp_ge_N (tgt := 91) dX9_way_84 (by decide) (by omega) (by omega) (fun c84 => ?_) (fun c84 => ?_)
        -- X9_way: ('branch', 84, 91, 87)
        · refine R_aload_n dX9_way_91 rfl ?_
          refine R_get K_9 (f := 9) (by decide) dX9_way_92 f_RX9_60 x9.1 rfl ?_
          -- X9_way: ('call', 95, '.invokevirtual', 266)
          refine R_callV v_X8_reached (Words_reached w9) dX9_way_95 l_RX9_266 rfl rfl w9.1 (Nat.le_of_ble_eq_true rfl) (by omega) rfl rfl (fun v h11 hq => ?_)
          obtain ⟨rfl, e9⟩ := hq
          rw [e9]
          refine R_ireturn dX9_way_98 rfl rfl ?_
          -- X9_way: ('ret', 98)
          exact ⟨by rw [wayX, if_neg (by omega)], ⟨_, x9⟩, o29⟩
        · refine R_iconst (v := (-1)) dX9_way_87 (by decide) ?_
          refine R_goto (tgt := 98) dX9_way_88 (by decide) ?_
          refine R_ireturn dX9_way_98 rfl rfl ?_
          -- X9_way: ('ret', 98)
          exact ⟨by rw [wayX, if_pos c84], ⟨_, x9⟩, o29⟩
      · refine R_iconst (v := (-1)) dX9_way_32 (by decide) ?_
        refine R_ireturn dX9_way_33 rfl rfl ?_
        -- X9_way: ('ret', 33)
        have := path_len hq.1.1 hys (p := p - b) (n := k) (by omega) (by omega)
        exact ⟨by rw [wayX, if_pos (by omega)], ⟨_, x2⟩, o2⟩
  · rw [if_neg c]
    refine R_if_eq_N (tgt := 32) dX9_way_23 (by decide) (by omega) (fun c23 => ?_) (fun c23 => ?_)
    -- X9_way: ('branch', 23, 32, 26)
    · refine R_iconst (v := (-1)) dX9_way_32 (by decide) ?_
      refine R_ireturn dX9_way_33 rfl rfl ?_
      -- X9_way: ('ret', 33)
      exact ⟨by rw [wayI, if_neg c], ⟨_, x2⟩, o2⟩
    · exact absurd rfl c23
end PP8
