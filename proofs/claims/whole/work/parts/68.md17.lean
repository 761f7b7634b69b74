/-! THE MODEL: a form read -/
def RM {α : Type} (x : Except (Nat × Nat) α) (v : Option Value) (S : MSt) (ok : α → Prop) : Prop := match x with
  | .error e => v = some (.int (-30 - nI e.1)) ∧ S.1 14 = nI e.1 ∧ S.1 15 = nI e.2 ∧ e.1 < 5
  | .ok a => ok a
theorem RM.er {α : Type} {k p : Nat} {v : Option Value} {S : MSt} {ok : α → Prop} (h1 : v = some (.int (-30 - nI k))) (h2 : S.1 14 = nI k) (h3 : S.1 15 = nI p) (h4 : k < 5) : RM (.error (k, p)) v S ok := ⟨h1, h2, h3, h4⟩
theorem RM.fi {α : Type} {a : α} {v : Option Value} {S : MSt} {ok : α → Prop} (h : ok a) : RM (.ok a) v S ok := h
theorem RM.ere {α : Type} {e : Nat × Nat} {v : Option Value} {S : MSt} {ok : α → Prop} (h : RM (.error e) v S ok) : v = some (.int (-30 - nI e.1)) ∧ S.1 14 = nI e.1 ∧ S.1 15 = nI e.2 ∧ e.1 < 5 := h
theorem RM.get {α : Type} {a : α} {v : Option Value} {S : MSt} {ok : α → Prop} (h : RM (.ok a) v S ok) : ok a := h
theorem neg30 : ∀ k, k < 5 → (-30 - nI k : Int32) < 0 := by decide +kernel
theorem and255 {x : Nat} (h : x < 256) : byI x &&& nI 255 = nI x := by rw [show nI 255 = (255 : Int32) from by decide]; exact byI_and x h
def rdByte (t : List Nat) (n pos lo hi : Nat) : Except (Nat × Nat) Nat := if n ≤ pos then .error (1, pos) else if t.getD pos 0 < lo ∨ hi < t.getD pos 0 then .error (2, pos) else .ok (t.getD pos 0)
def RdM (S : MSt) (tp : List Nat) (n pos : Nat) (lt : Nat → Nat) : Prop := S.1 19 = nI pos ∧ S.1 20 = nI n ∧ (∀ i x, tp[i]? = some x → S.2 10 i = byI x ∧ x < 256) ∧ ∀ s, s < 86 → S.2 6 s = nI (lt s)
theorem rdForm_1 {t : List Nat} : rdForm t 0 = .error (1, 0) := by rw [rdForm, if_pos (Nat.le_refl _)]
theorem rdForm_2 {t : List Nat} {n : Nat} (h0 : 0 < n) (h1 : 60 < t.getD 0 0) : rdForm t n = .error (2, 0) := by rw [rdForm, if_neg (by omega), if_pos h1]
theorem rdForm_3 {t : List Nat} {n : Nat} {e : Nat × Nat} (h0 : 0 < n) (h1 : ¬ 60 < t.getD 0 0) (h2 : rdRules t n (t.getD 0 0) 1 lt0 (fun _ => []) = .error e) : rdForm t n = .error e := by
  unfold rdForm
  rw [if_neg (by omega), if_neg h1]
  simp only [h2]
theorem rdForm_4 {t : List Nat} {n : Nat} {a : Nat × (Nat → Nat) × Ru} {e : Nat × Nat} (h0 : 0 < n) (h1 : ¬ 60 < t.getD 0 0) (h2 : rdRules t n (t.getD 0 0) 1 lt0 (fun _ => []) = .ok a) (h3 : rdSeq t n a.1 a.2.1 = .error e) : rdForm t n = .error e := by
  unfold rdForm
  rw [if_neg (by omega), if_neg h1]
  simp only [h2, h3]
theorem rdForm_5 {t : List Nat} {n : Nat} {a : Nat × (Nat → Nat) × Ru} {b : List Nat × Nat × Nat} (h0 : 0 < n) (h1 : ¬ 60 < t.getD 0 0) (h2 : rdRules t n (t.getD 0 0) 1 lt0 (fun _ => []) = .ok a) (h3 : rdSeq t n a.1 a.2.1 = .ok b) : rdForm t n = if b.2.1 < n then .error (1, b.2.1) else .ok (b.1, a.2.2) := by
  unfold rdForm
  rw [if_neg (by omega), if_neg h1]
  simp only [h2, h3]
theorem rdRules_er {t : List Nat} {n c pos : Nat} {lt : Nat → Nat} {ru : Ru} {e : Nat × Nat} (h : rdRule t n pos lt ru = .error e) : rdRules t n (c + 1) pos lt ru = .error e := by
  rw [rdRules]; simp only [h]
theorem rdRules_ok2 {t : List Nat} {n c pos : Nat} {lt : Nat → Nat} {ru : Ru} {a : Nat × (Nat → Nat) × Ru} (h : rdRule t n pos lt ru = .ok a) : rdRules t n (c + 1) pos lt ru = rdRules t n c a.1 a.2.1 a.2.2 := by
  rw [rdRules]; simp only [h]
theorem rdMk_er {t : List Nat} {n x m pos : Nat} {lt : Nat → Nat} {ru : Ru} {e : Nat × Nat} (h : rdRow t n lt m pos 0 [] = .error e) : rdMk t n lt ru x m pos = .error e := by
  rw [rdMk]; simp only [h]
theorem rdMk_ok {t : List Nat} {n x m pos : Nat} {lt : Nat → Nat} {ru : Ru} {a : List Nat × Nat × Nat} (h : rdRow t n lt m pos 0 [] = .ok a) : rdMk t n lt ru x m pos = .ok (a.2.1, (fun y => if y = x then a.2.2 else lt y), ruSet ru (x - 26) a.1) := by
  rw [rdMk]; simp only [h]
section MD17
variable {E : EnvT} {h h1 : Hp} {M : Nat} {S : MSt} {q : Pk} {ds : List Pk} {im : Nat → Pk} {md : Nat → Nat} {tp ph : List Nat} {fk fp : Int32} {n pos : Nat} {lt : Nat → Nat} {ru : Ru}
theorem RdM.tape (r : RdM S tp n pos lt) (hn : n ≤ tp.length) {p : Nat} (hp : p < n) : S.2 10 p = byI (tp.getD p 0) ∧ tp.getD p 0 < 256 ∧ tp[p]? = some (tp.getD p 0) := by
  obtain ⟨y, hy⟩ := getE (l := tp) (i := p) (by omega)
  rw [getD_of hy]
  exact ⟨(r.2.2.1 p y hy).1, (r.2.2.1 p y hy).2, hy⟩
theorem Md_fails (x : MdAt E h M S) (k p : Int32) : Spec E k_X10_fails 0 0 0 [.ref M, .int k, .int p] h (fun v h' => v = some (.int (-30 - k)) ∧ Out h h' M (M + 23) ∧ ∃ S', MdAt E h' M S' ∧ Ony [] [14, 15] S S' ∧ S'.1 14 = k ∧ S'.1 15 = p) := by
  refine Spec.of (by decide +kernel) (by simp [Value.category]) (Nat.le_of_ble_eq_true rfl) ?_
  show WP E k_X10_fails 0 0 0 0 [some (.ref M), some (.int k), some (.int p)] [] h _
  refine R_aload_n dX10_fails_0 rfl ?_
  refine R_iload_n dX10_fails_1 rfl ?_
  refine R_put_A K_10 (f := 14) (by decide) dX10_fails_2 f_RX10_140 rfl x.1 (by rfl) (by rfl) (Nat.le_of_ble_eq_true rfl) ?_
  -- X10_fails: ('put', 5)
  intro h2 u2
  have x2 := x.put u2 (by decide)
  refine R_aload_n dX10_fails_5 rfl ?_
  refine R_iload_n dX10_fails_6 rfl ?_
  refine R_put_A K_10 (f := 15) (by decide) dX10_fails_7 f_RX10_46 rfl x2.1 (by rfl) (by rfl) (Nat.le_of_ble_eq_true rfl) ?_
  -- X10_fails: ('put', 10)
  intro h3 u3
  have x3 := x2.put u3 (by decide)
  refine R_bipush (v := (-30)) dX10_fails_10 (by decide) ?_
  refine R_iload_n dX10_fails_12 rfl ?_
  refine R_isub dX10_fails_13 ?_
  refine R_ireturn dX10_fails_14 rfl rfl ?_
  -- X10_fails: ('ret', 14)
  exact ⟨rfl, (Out.upd u2 (by omega) (by omega)).trans (Out.upd u3 (by omega) (by omega)), _, x3, (Ony.refl.put (by decide)).put (by decide), rfl, rfl⟩
theorem Md_nextByte (x : MdAt E h M S) (r : RdM S tp n pos lt) (hn : n ≤ tp.length) (htl : tp.length ≤ 260) (hp : pos ≤ n) {lo hi : Nat} (hlo : lo ≤ 1000) (hhi : hi ≤ 1000) : Spec E k_X10_nextByte 2 0 0 [.ref M, .int (nI lo), .int (nI hi)] h (fun v h' => Out h h' M (M + 23) ∧ ∃ S', MdAt E h' M S' ∧ Ony [] [14, 15, 19] S S' ∧ RM (rdByte tp n pos lo hi) v S' (fun a => v = some (.int (nI a)) ∧ pos < n ∧ a = tp.getD pos 0 ∧ lo ≤ a ∧ a ≤ hi ∧ S'.1 19 = nI (pos + 1) ∧ S'.1 14 = S.1 14 ∧ S'.1 15 = S.1 15)) := by
  have V19 := fld_get (M := M) (k := 19) (by decide) r.1
  have V20 := fld_get (M := M) (k := 20) (by decide) r.2.1
  refine Spec.of (by decide +kernel) (by simp [Value.category]) (Nat.le_of_ble_eq_true rfl) ?_
  show WP E k_X10_nextByte 2 0 0 0 [some (.ref M), some (.int (nI lo)), some (.int (nI hi)), none] [] h _
  by_cases hpn : pos = n
  · refine R_aload_n dX10_nextByte_0 rfl ?_
    refine R_get K_10 (f := 19) (by decide) dX10_nextByte_1 f_RX10_147 x.1 V19 ?_
    refine R_aload_n dX10_nextByte_4 rfl ?_
    refine R_get K_10 (f := 20) (by decide) dX10_nextByte_5 f_RX10_150 x.1 V20 ?_
    refine R_icmp_ne_N (tgt := 21) dX10_nextByte_8 (by decide) (by omega) (by omega) (fun c8 => ?_) (fun c8 => ?_)
    -- X10_nextByte: ('branch', 8, 21, 11)
    · exact absurd hpn c8
    · refine R_aload_n dX10_nextByte_11 rfl ?_
      refine R_iconst (v := nI 1) dX10_nextByte_12 (by decide) ?_
      refine R_aload_n dX10_nextByte_13 rfl ?_
      refine R_get K_10 (f := 19) (by decide) dX10_nextByte_14 f_RX10_147 x.1 V19 ?_
      -- X10_nextByte: ('call', 17, '.invokevirtual', 153)
      refine R_callV v_X10_fails (Md_fails x (nI 1) (nI pos)) dX10_nextByte_17 l_RX10_153 rfl rfl x.1 (Nat.le_of_ble_eq_true rfl) (by omega) rfl rfl (fun v h2 hq => ?_)
      obtain ⟨rfl, g2, S2, x2, o2, e14, e15⟩ := hq
      refine R_ireturn dX10_nextByte_20 rfl rfl ?_
      -- X10_nextByte: ('ret', 20)
      refine ⟨g2, S2, x2, o2.mono (by decide) (by decide), ?_⟩
      rw [rdByte, if_pos (by omega)]
      exact RM.er rfl e14 e15 (by decide)
  · obtain ⟨t1, t2, t3⟩ := r.tape hn (p := pos) (by omega)
    generalize hy : tp.getD pos 0 = y at *
    refine R_aload_n dX10_nextByte_0 rfl ?_
    refine R_get K_10 (f := 19) (by decide) dX10_nextByte_1 f_RX10_147 x.1 V19 ?_
    refine R_aload_n dX10_nextByte_4 rfl ?_
    refine R_get K_10 (f := 20) (by decide) dX10_nextByte_5 f_RX10_150 x.1 V20 ?_
    refine R_icmp_ne_N (tgt := 21) dX10_nextByte_8 (by decide) (by omega) (by omega) (fun c8 => ?_) (fun c8 => ?_)
    -- X10_nextByte: ('branch', 8, 21, 11)
    · refine R_aload_n dX10_nextByte_21 rfl ?_
      refine R_get K_10 (f := 12) (by decide) dX10_nextByte_22 f_RX10_42 x.1 rfl ?_
      refine R_aload_n dX10_nextByte_25 rfl ?_
      refine R_get K_10 (f := 19) (by decide) dX10_nextByte_26 f_RX10_147 x.1 V19 ?_
      refine R_baload_N dX10_nextByte_29 x.a10 (by omega) (by omega) t1 ?_
      refine R_sipush (v := nI 255) dX10_nextByte_30 (by decide) ?_
      refine R_iand dX10_nextByte_33 ?_
      -- X10_nextByte: ('stop', 34)
      rw [and255 t2]
      refine R_istore3 dX10_nextByte_34 (by decide) ?_
      refine R_iload_n dX10_nextByte_35 rfl ?_
      refine R_i2l dX10_nextByte_36 ?_
      refine R_iload_n dX10_nextByte_37 rfl ?_
      refine R_i2l dX10_nextByte_38 ?_
      refine R_iload_n dX10_nextByte_39 rfl ?_
      refine R_i2l dX10_nextByte_40 ?_
      -- X10_nextByte: ('call', 41, '.invokestatic', 98)
      refine R_callS s_X10_isIn (Md_isIn (nI y) (nI lo) (nI hi) rfl rfl) dX10_nextByte_41 l_RX10_98 rfl rfl (Nat.le_of_ble_eq_true rfl) (by omega) rfl rfl (fun v h2 hq => ?_)
      obtain ⟨rfl, e9⟩ := hq
      rw [e9, if_iff (in_iff (by omega) (by omega) (by omega))]
      by_cases c : lo ≤ y ∧ y ≤ hi
      · rw [if_pos c]
        refine R_if_ne_N (tgt := 57) dX10_nextByte_44 (by decide) (by omega) (fun c44 => ?_) (fun c44 => ?_)
        -- X10_nextByte: ('branch', 44, 57, 47)
        · refine R_aload_n dX10_nextByte_57 rfl ?_
          refine R_dup dX10_nextByte_58 rfl ?_
          refine R_get K_10 (f := 19) (by decide) dX10_nextByte_59 f_RX10_147 x.1 V19 ?_
          refine R_iconst (v := nI 1) dX10_nextByte_62 (by decide) ?_
          refine R_iadd_N dX10_nextByte_63 ?_
          refine R_put_A K_10 (f := 19) (by decide) dX10_nextByte_64 f_RX10_147 rfl x.1 (by rfl) (by rfl) (Nat.le_of_ble_eq_true rfl) ?_
          -- X10_nextByte: ('put', 67)
          intro h3 u3
          have x3 := x.put u3 (by decide)
          refine R_iload_n dX10_nextByte_67 rfl ?_
          refine R_ireturn dX10_nextByte_68 rfl rfl ?_
          -- X10_nextByte: ('ret', 68)
          refine ⟨Out.upd u3 (by omega) (by omega), _, x3, Ony.refl.put (by decide), ?_⟩
          rw [rdByte, if_neg (by omega), hy, if_neg (by omega)]
          exact RM.fi ⟨rfl, by omega, rfl, c.1, c.2, rfl, rfl, rfl⟩
        · exact absurd c44 (by decide)
      · rw [if_neg c]
        refine R_if_ne_N (tgt := 57) dX10_nextByte_44 (by decide) (by omega) (fun c44 => ?_) (fun c44 => ?_)
        -- X10_nextByte: ('branch', 44, 57, 47)
        · exact absurd rfl c44
        · refine R_aload_n dX10_nextByte_47 rfl ?_
          refine R_iconst (v := nI 2) dX10_nextByte_48 (by decide) ?_
          refine R_aload_n dX10_nextByte_49 rfl ?_
          refine R_get K_10 (f := 19) (by decide) dX10_nextByte_50 f_RX10_147 x.1 V19 ?_
          -- X10_nextByte: ('call', 53, '.invokevirtual', 153)
          refine R_callV v_X10_fails (Md_fails x (nI 2) (nI pos)) dX10_nextByte_53 l_RX10_153 rfl rfl x.1 (Nat.le_of_ble_eq_true rfl) (by omega) rfl rfl (fun v h2 hq => ?_)
          obtain ⟨rfl, g2, S2, x2, o2, e14, e15⟩ := hq
          refine R_ireturn dX10_nextByte_56 rfl rfl ?_
          -- X10_nextByte: ('ret', 56)
          refine ⟨g2, S2, x2, o2.mono (by decide) (by decide), ?_⟩
          rw [rdByte, if_neg (by omega), hy, if_pos (by omega)]
          exact RM.er rfl e14 e15 (by decide)
    · exact absurd c8 hpn
theorem Md_nextSigns (x : MdAt E h M S) (r : RdM S tp n pos lt) (hn : n ≤ tp.length) (htl : tp.length ≤ 260) (hp : pos ≤ n) (hlt : ∀ s, s < 86 → lt s ≤ 240) (h26 : ∀ s, s < 26 → lt s ≠ 0) {fr m : Nat} (hfr : fr + m ≤ 1021) : Spec E k_X10_nextSigns 1 0 0 [.ref M, .int (nI fr), .int (nI m)] h (fun v h' => Out h h' M (M + 23) ∧ ∃ S', MdAt E h' M S' ∧ Ony [12] [14, 15, 19, 21] S S' ∧ RM (rdRow tp n lt m pos 0 []) v S' (fun a => v = some (.int (nI 0)) ∧ a.2.1 ≤ n ∧ S'.1 19 = nI a.2.1 ∧ S'.1 21 = nI a.2.2 ∧ S'.1 14 = S.1 14 ∧ S'.1 15 = S.1 15 ∧ (∀ j y, a.1[j]? = some y → S'.2 12 (fr + j) = nI y) ∧ ∀ k, (k < fr ∨ fr + m ≤ k) → S'.2 12 k = S.2 12 k)) := by
  refine Spec.of (by decide +kernel) (by simp [Value.category]) (Nat.le_of_ble_eq_true rfl) ?_
  show WP E k_X10_nextSigns 1 0 0 0 [some (.ref M), some (.int (nI fr)), some (.int (nI m)), none, none, none] [] h _
  have loop : ∀ mm pos5 sum acc h5 S5 (z5 : Option Value), acc.length + mm = m → MdAt E h5 M S5 → Ony [12] [19] S S5 → S5.1 19 = nI pos5 → pos5 ≤ n → sum ≤ 240 → (∀ j y, acc[j]? = some y → S5.2 12 (fr + j) = nI y) → (∀ k, (k < fr ∨ fr + m ≤ k) → S5.2 12 k = S.2 12 k) → rdRow tp n lt m pos 0 [] = rdRow tp n lt mm pos5 sum acc → Out h h5 M (M + 23) → WP E k_X10_nextSigns 1 0 0 5 [some (.ref M), some (.int (nI fr)), some (.int (nI m)), some (.int (nI sum)), some (.int (nI acc.length)), z5] [] h5 (fun v h' => Out h h' M (M + 23) ∧ ∃ S', MdAt E h' M S' ∧ Ony [12] [14, 15, 19, 21] S S' ∧ RM (rdRow tp n lt m pos 0 []) v S' (fun a => v = some (.int (nI 0)) ∧ a.2.1 ≤ n ∧ S'.1 19 = nI a.2.1 ∧ S'.1 21 = nI a.2.2 ∧ S'.1 14 = S.1 14 ∧ S'.1 15 = S.1 15 ∧ (∀ j y, a.1[j]? = some y → S'.2 12 (fr + j) = nI y) ∧ ∀ k, (k < fr ∨ fr + m ≤ k) → S'.2 12 k = S.2 12 k)) := by
    intro mm
    induction mm with
    | zero =>
      intro pos5 sum acc h5 S5 z5 hm x5 o5 e19 hp5 hs ha hk hr g5
      refine R_iload dX10_nextSigns_5 rfl ?_
      refine R_iload_n dX10_nextSigns_7 rfl ?_
      refine R_icmp_ge_N (tgt := 135) dX10_nextSigns_8 (by decide) (by omega) (by omega) (fun c8 => ?_) (fun c8 => ?_)
      -- X10_nextSigns: ('branch', 8, 135, 11)
      · refine R_aload_n dX10_nextSigns_135 rfl ?_
        refine R_iload_n dX10_nextSigns_136 rfl ?_
        refine R_put_A K_10 (f := 21) (by decide) dX10_nextSigns_137 f_RX10_156 rfl x5.1 (by rfl) (by rfl) (Nat.le_of_ble_eq_true rfl) ?_
        -- X10_nextSigns: ('put', 140)
        intro h6 u6
        have x6 := x5.put u6 (by decide)
        refine R_iconst (v := nI 0) dX10_nextSigns_140 (by decide) ?_
        refine R_ireturn dX10_nextSigns_141 rfl rfl ?_
        -- X10_nextSigns: ('ret', 141)
        refine ⟨g5.trans (Out.upd u6 (by omega) (by omega)), _, x6, (o5.mono (by decide) (by decide)).put (by decide), ?_⟩
        rw [hr, rdRow]
        exact RM.fi ⟨rfl, hp5, e19, rfl, o5.2 14 (by decide), o5.2 15 (by decide), ha, hk⟩
      · exact absurd c8 (by omega)
    | succ mm ih =>
      intro pos5 sum acc h5 S5 z5 hm x5 o5 e19 hp5 hs ha hk hr g5
      have V19 := fld_get (M := M) (k := 19) (by decide) e19
      have V20 := fld_get (M := M) (w := S5.1) (k := 20) (by decide) ((o5.2 20 (by decide)).trans r.2.1)
      rw [rdRow] at hr
      refine R_iload dX10_nextSigns_5 rfl ?_
      refine R_iload_n dX10_nextSigns_7 rfl ?_
      refine R_icmp_ge_N (tgt := 135) dX10_nextSigns_8 (by decide) (by omega) (by omega) (fun c8 => ?_) (fun c8 => ?_)
      -- X10_nextSigns: ('branch', 8, 135, 11)
      · exact absurd c8 (by omega)
      · by_cases hpn : pos5 = n
        · rw [if_pos (by omega)] at hr
          refine R_aload_n dX10_nextSigns_11 rfl ?_
          refine R_get K_10 (f := 19) (by decide) dX10_nextSigns_12 f_RX10_147 x5.1 V19 ?_
          refine R_aload_n dX10_nextSigns_15 rfl ?_
          refine R_get K_10 (f := 20) (by decide) dX10_nextSigns_16 f_RX10_150 x5.1 V20 ?_
          refine R_icmp_ne_N (tgt := 32) dX10_nextSigns_19 (by decide) (by omega) (by omega) (fun c19 => ?_) (fun c19 => ?_)
          -- X10_nextSigns: ('branch', 19, 32, 22)
          · exact absurd hpn c19
          · refine R_aload_n dX10_nextSigns_22 rfl ?_
            refine R_iconst (v := nI 1) dX10_nextSigns_23 (by decide) ?_
            refine R_aload_n dX10_nextSigns_24 rfl ?_
            refine R_get K_10 (f := 19) (by decide) dX10_nextSigns_25 f_RX10_147 x5.1 V19 ?_
            -- X10_nextSigns: ('call', 28, '.invokevirtual', 153)
            refine R_callV v_X10_fails (Md_fails x5 (nI 1) (nI pos5)) dX10_nextSigns_28 l_RX10_153 rfl rfl x5.1 (Nat.le_of_ble_eq_true rfl) (by omega) rfl rfl (fun v h6 hq => ?_)
            obtain ⟨rfl, g6, S6, x6, o6, e14, e15⟩ := hq
            refine R_ireturn dX10_nextSigns_31 rfl rfl ?_
            -- X10_nextSigns: ('ret', 31)
            refine ⟨g5.trans g6, S6, x6, (o5.mono (by decide) (by decide)).trans (o6.mono (by decide) (by decide)), ?_⟩
            rw [hr]
            exact RM.er rfl e14 e15 (by decide)
        · rw [if_neg (by omega)] at hr
          obtain ⟨t1, t2, t3⟩ := r.tape hn (p := pos5) (by omega)
          rw [← o5.1 10 (by decide)] at t1
          generalize hy : tp.getD pos5 0 = y at *
          have bad : (y < 86 → 26 ≤ y ∧ lt y = 0) → ∀ z4, WP E k_X10_nextSigns 1 0 0 71 [some (.ref M), some (.int (nI fr)), some (.int (nI m)), some (.int (nI sum)), some (.int (nI acc.length)), z4] [] h5 (fun v h' => Out h h' M (M + 23) ∧ ∃ S', MdAt E h' M S' ∧ Ony [12] [14, 15, 19, 21] S S' ∧ RM (rdRow tp n lt m pos 0 []) v S' (fun a => v = some (.int (nI 0)) ∧ a.2.1 ≤ n ∧ S'.1 19 = nI a.2.1 ∧ S'.1 21 = nI a.2.2 ∧ S'.1 14 = S.1 14 ∧ S'.1 15 = S.1 15 ∧ (∀ j y, a.1[j]? = some y → S'.2 12 (fr + j) = nI y) ∧ ∀ k, (k < fr ∨ fr + m ≤ k) → S'.2 12 k = S.2 12 k)) := by
            intro hb z4
            have h0 : ltv lt y = 0 := by
              rw [ltv]
              by_cases c : y < 86
              · rw [if_pos c]; exact (hb c).2
              · rw [if_neg c]
            rw [if_pos h0] at hr
            refine R_aload_n dX10_nextSigns_71 rfl ?_
            refine R_iconst (v := nI 3) dX10_nextSigns_72 (by decide) ?_
            refine R_aload_n dX10_nextSigns_73 rfl ?_
            refine R_get K_10 (f := 19) (by decide) dX10_nextSigns_74 f_RX10_147 x5.1 V19 ?_
            -- X10_nextSigns: ('call', 77, '.invokevirtual', 153)
            refine R_callV v_X10_fails (Md_fails x5 (nI 3) (nI pos5)) dX10_nextSigns_77 l_RX10_153 rfl rfl x5.1 (Nat.le_of_ble_eq_true rfl) (by omega) rfl rfl (fun v h6 hq => ?_)
            obtain ⟨rfl, g6, S6, x6, o6, e14, e15⟩ := hq
            refine R_ireturn dX10_nextSigns_80 rfl rfl ?_
            -- X10_nextSigns: ('ret', 80)
            refine ⟨g5.trans g6, S6, x6, (o5.mono (by decide) (by decide)).trans (o6.mono (by decide) (by decide)), ?_⟩
            rw [hr]
            exact RM.er rfl e14 e15 (by decide)
          have good : y < 86 → lt y ≠ 0 → WP E k_X10_nextSigns 1 0 0 81 [some (.ref M), some (.int (nI fr)), some (.int (nI m)), some (.int (nI sum)), some (.int (nI acc.length)), some (.int (nI y))] [] h5 (fun v h' => Out h h' M (M + 23) ∧ ∃ S', MdAt E h' M S' ∧ Ony [12] [14, 15, 19, 21] S S' ∧ RM (rdRow tp n lt m pos 0 []) v S' (fun a => v = some (.int (nI 0)) ∧ a.2.1 ≤ n ∧ S'.1 19 = nI a.2.1 ∧ S'.1 21 = nI a.2.2 ∧ S'.1 14 = S.1 14 ∧ S'.1 15 = S.1 15 ∧ (∀ j y, a.1[j]? = some y → S'.2 12 (fr + j) = nI y) ∧ ∀ k, (k < fr ∨ fr + m ≤ k) → S'.2 12 k = S.2 12 k)) := by
            intro h86 h0
            have hly := hlt y h86
            have e6 : S5.2 6 y = nI (lt y) := by rw [o5.1 6 (by decide)]; exact r.2.2.2 y h86
            have hv : ltv lt y = lt y := if_pos h86
            rw [hv, if_neg h0] at hr
            refine R_iload_n dX10_nextSigns_81 rfl ?_
            refine R_aload_n dX10_nextSigns_82 rfl ?_
            refine R_get K_10 (f := 7) (by decide) dX10_nextSigns_83 f_RX10_30 x5.1 rfl ?_
            refine R_iload dX10_nextSigns_86 rfl ?_
            refine R_iaload_N dX10_nextSigns_88 x5.a6 (by omega) (by omega) e6 ?_
            refine R_iadd_N dX10_nextSigns_89 ?_
            refine R_istore3 dX10_nextSigns_90 (by decide) ?_
            refine R_iload_n dX10_nextSigns_91 rfl ?_
            refine R_sipush (v := nI 240) dX10_nextSigns_92 (by decide) ?_
            refine R_icmp_le_N (tgt := 108) dX10_nextSigns_95 (by decide) (by omega) (by omega) (fun c95 => ?_) (fun c95 => ?_)
            -- X10_nextSigns: ('branch', 95, 108, 98)
            · rw [if_neg (by omega)] at hr
              refine R_aload_n dX10_nextSigns_108 rfl ?_
              refine R_get K_10 (f := 18) (by decide) dX10_nextSigns_109 f_RX10_52 x5.1 rfl ?_
              refine R_iload_n dX10_nextSigns_112 rfl ?_
              refine R_iload dX10_nextSigns_113 rfl ?_
              refine R_iadd_N dX10_nextSigns_115 ?_
              refine R_iload dX10_nextSigns_116 rfl ?_
              refine R_iastore_N dX10_nextSigns_118 x5.a12 (by omega) (by omega) ?_
              -- X10_nextSigns: ('put', 119)
              intro h6 u6
              have x6 := x5.s12 u6
              refine R_aload_n dX10_nextSigns_119 rfl ?_
              refine R_dup dX10_nextSigns_120 rfl ?_
              refine R_get K_10 (f := 19) (by decide) dX10_nextSigns_121 f_RX10_147 x6.1 V19 ?_
              refine R_iconst (v := nI 1) dX10_nextSigns_124 (by decide) ?_
              refine R_iadd_N dX10_nextSigns_125 ?_
              refine R_put_A K_10 (f := 19) (by decide) dX10_nextSigns_126 f_RX10_147 rfl x6.1 (by rfl) (by rfl) (Nat.le_of_ble_eq_true rfl) ?_
              -- X10_nextSigns: ('put', 129)
              intro h7 u7
              have x7 := x6.put u7 (by decide)
              refine R_iinc4 dX10_nextSigns_129 (by decide) (nI_inc _ 1) ?_
              refine R_goto (tgt := 5) dX10_nextSigns_132 (by decide) ?_
              -- X10_nextSigns: ('stop', 5)
              have ih := ih (pos5 + 1) (sum + lt y) (acc ++ [y]) h7 _ (some (.int (nI y))) (by rw [List.length_append, List.length_singleton]; omega) x7 ((o5.st (by decide)).put (by decide)) rfl (by omega) (by omega) (fun j w hw => ?_) (fun k hk2 => ?_) hr ((g5.trans (Out.upd u6 (by omega) (by omega))).trans (Out.upd u7 (by omega) (by omega)))
              · rw [List.length_append, List.length_singleton] at ih
                exact ih
              · show upd (S5.2 12) (fr + acc.length) (nI y) (fr + j) = nI w
                rcases snoc_get (l := acc) (a := y) hw with ⟨z1, z2⟩ | ⟨z1, z2⟩
                · rw [upd_ne (by omega)]; exact ha j w z2
                · rw [z1, z2, upd_at]
              · show upd (S5.2 12) (fr + acc.length) (nI y) k = _
                rw [upd_ne (by omega)]; exact hk k hk2
            · rw [if_pos (by omega)] at hr
              refine R_aload_n dX10_nextSigns_98 rfl ?_
              refine R_iconst (v := nI 4) dX10_nextSigns_99 (by decide) ?_
              refine R_aload_n dX10_nextSigns_100 rfl ?_
              refine R_get K_10 (f := 19) (by decide) dX10_nextSigns_101 f_RX10_147 x5.1 V19 ?_
              -- X10_nextSigns: ('call', 104, '.invokevirtual', 153)
              refine R_callV v_X10_fails (Md_fails x5 (nI 4) (nI pos5)) dX10_nextSigns_104 l_RX10_153 rfl rfl x5.1 (Nat.le_of_ble_eq_true rfl) (by omega) rfl rfl (fun v h6 hq => ?_)
              obtain ⟨rfl, g6, S6, x6, o6, e14, e15⟩ := hq
              refine R_ireturn dX10_nextSigns_107 rfl rfl ?_
              -- X10_nextSigns: ('ret', 107)
              refine ⟨g5.trans g6, S6, x6, (o5.mono (by decide) (by decide)).trans (o6.mono (by decide) (by decide)), ?_⟩
              rw [hr]
              exact RM.er rfl e14 e15 (by decide)
          refine R_aload_n dX10_nextSigns_11 rfl ?_
          refine R_get K_10 (f := 19) (by decide) dX10_nextSigns_12 f_RX10_147 x5.1 V19 ?_
          refine R_aload_n dX10_nextSigns_15 rfl ?_
          refine R_get K_10 (f := 20) (by decide) dX10_nextSigns_16 f_RX10_150 x5.1 V20 ?_
          refine R_icmp_ne_N (tgt := 32) dX10_nextSigns_19 (by decide) (by omega) (by omega) (fun c19 => ?_) (fun c19 => ?_)
          -- X10_nextSigns: ('branch', 19, 32, 22)
          · refine R_aload_n dX10_nextSigns_32 rfl ?_
            refine R_get K_10 (f := 12) (by decide) dX10_nextSigns_33 f_RX10_42 x5.1 rfl ?_
            refine R_aload_n dX10_nextSigns_36 rfl ?_
            refine R_get K_10 (f := 19) (by decide) dX10_nextSigns_37 f_RX10_147 x5.1 V19 ?_
            refine R_baload_N dX10_nextSigns_40 x5.a10 (by omega) (by omega) t1 ?_
            refine R_sipush (v := nI 255) dX10_nextSigns_41 (by decide) ?_
            refine R_iand dX10_nextSigns_44 ?_
            -- X10_nextSigns: ('stop', 45)
            rw [and255 t2]
            refine R_istore5 dX10_nextSigns_45 (by decide) ?_
            refine R_iload dX10_nextSigns_47 rfl ?_
            refine R_bipush (v := nI 86) dX10_nextSigns_49 (by decide) ?_
            refine R_icmp_ge_N (tgt := 71) dX10_nextSigns_51 (by decide) (by omega) (by omega) (fun c51 => ?_) (fun c51 => ?_)
            -- X10_nextSigns: ('branch', 51, 71, 54)
            · exact bad (fun z => by omega) _
            · refine R_iload dX10_nextSigns_54 rfl ?_
              refine R_bipush (v := nI 26) dX10_nextSigns_56 (by decide) ?_
              refine R_icmp_lt_N (tgt := 81) dX10_nextSigns_58 (by decide) (by omega) (by omega) (fun c58 => ?_) (fun c58 => ?_)
              -- X10_nextSigns: ('branch', 58, 81, 61)
              · exact good (by omega) (h26 y (by omega))
              · have e6 : S5.2 6 y = nI (lt y) := by rw [o5.1 6 (by decide)]; exact r.2.2.2 y (by omega)
                have hly := hlt y (by omega)
                refine R_aload_n dX10_nextSigns_61 rfl ?_
                refine R_get K_10 (f := 7) (by decide) dX10_nextSigns_62 f_RX10_30 x5.1 rfl ?_
                refine R_iload dX10_nextSigns_65 rfl ?_
                refine R_iaload_N dX10_nextSigns_67 x5.a6 (by omega) (by omega) e6 ?_
                refine R_if_ne_N (tgt := 81) dX10_nextSigns_68 (by decide) (by omega) (fun c68 => ?_) (fun c68 => ?_)
                -- X10_nextSigns: ('branch', 68, 81, 71)
                · exact good (by omega) (by omega)
                · exact bad (fun _ => ⟨by omega, by omega⟩) _
          · exact absurd c19 hpn
  refine R_iconst (v := nI 0) dX10_nextSigns_0 (by decide) ?_
  refine R_istore3 dX10_nextSigns_1 (by decide) ?_
  refine R_iconst (v := nI 0) dX10_nextSigns_2 (by decide) ?_
  refine R_istore4 dX10_nextSigns_3 (by decide) ?_
  -- X10_nextSigns: ('stop', 5)
  exact loop m pos 0 [] h S none (by simp) x Ony.refl r.1 hp (by decide) (fun j y hy => by simp at hy) (fun k _ => rfl) rfl Out.refl
end MD17
