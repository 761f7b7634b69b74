/-! FORMREADER: a rule, the sequence, a form -/
def rdRules (t : List Nat) (n : Nat) : Nat → Nat → (Nat → Nat) → Ru → Except (Nat × Nat) (Nat × (Nat → Nat) × Ru)
  | 0, pos, lt, ru => .ok (pos, lt, ru)
  | c + 1, pos, lt, ru => match rdRule t n pos lt ru with
    | .error e => .error e
    | .ok a => rdRules t n c a.1 a.2.1 a.2.2
def rdSeq (t : List Nat) (n pos : Nat) (lt : Nat → Nat) : Except (Nat × Nat) (List Nat × Nat × Nat) :=
  if n ≤ pos then .error (1, pos) else if 240 < t.getD pos 0 then .error (2, pos) else rdRow t n lt (t.getD pos 0) (pos + 1) 0 []
def lt0 (s : Nat) : Nat := if s < 26 then 1 else 0
def rdForm (t : List Nat) (n : Nat) : Except (Nat × Nat) (List Nat × Ru) :=
  if n ≤ 0 then .error (1, 0) else if 60 < t.getD 0 0 then .error (2, 0) else
  match rdRules t n (t.getD 0 0) 1 lt0 (fun _ => []) with
  | .error e => .error e
  | .ok a => match rdSeq t n a.1 a.2.1 with
    | .error e => .error e
    | .ok b => if b.2.1 < n then .error (1, b.2.1) else .ok (b.1, a.2.2)
theorem rdRow_sum {t : List Nat} {n : Nat} {lt : Nat → Nat} : ∀ {m pos sum : Nat} {acc : List Nat} {a : List Nat × Nat × Nat}, sum ≤ 240 → rdRow t n lt m pos sum acc = .ok a → a.2.2 ≤ 240 ∧ a.2.1 = pos + m ∧ a.1.length = acc.length + m
  | 0, pos, sum, acc, a, hs, h => by
    rw [rdRow] at h; cases h; exact ⟨hs, rfl, rfl⟩
  | m + 1, pos, sum, acc, a, hs, h => by
    rw [rdRow] at h
    split at h
    · cases h
    · split at h
      · cases h
      · split at h
        · cases h
        · rename_i c1 c2 c3
          have := rdRow_sum (by omega) h
          simp at this
          exact ⟨this.1, by omega, by omega⟩
theorem arrN.raw {E : EnvT} {h : Hp} {a : Nat} {w : Nat → Nat} (x : arrN E h a w) : ∃ f, h.2 a = some (.inl (E.2.2.1 0, 86, .inl f)) ∧ ∀ s, s < 86 → f s = nI (w s) := x
def RdAll (E : EnvT) (h : Hp) (D B n pos k : Nat) (pl : Int32) (lt : Nat → Nat) (sq : List Nat) (ru : Ru) : Prop := RdO E h D B n pos k pl lt ∧ PackAt E h (D + 1) sq ru
def Flt (E : EnvT) (h : Hp) (D B n k p : Nat) : Prop := ∃ pos lt sq ru, RdAll E h D B n pos k (nI p) lt sq ru
section READER2
variable {E : EnvT} {h : Hp} {D B n pos k capB : Nat} {pl : Int32} {lt : Nat → Nat} {t : List Nat} {sq : List Nat} {ru : Ru}
set_option maxHeartbeats 1000000 in
theorem Rd_readRule (hO : RdO E h D B n pos 0 pl lt) (hP : PackAt E h (D + 1) sq ru) (hB : RowAt E h B capB t) (hn : n ≤ t.length) (hp : pos ≤ 500000) (hBD : B + 2 ≤ D ∨ D + 130 ≤ B) (hlt : ∀ s, lt s ≤ 240) (hru : ∀ i, i < 60 → lt (26 + i) = 0 → ru i = []) : Spec E k_X1_readRule 4 0 0 [.ref D] h (fun v h' => v = none ∧ Out h h' D (D + 130) ∧ RP (rdRule t n pos lt ru) (fun k p => Flt E h' D B n k p) (fun a => RdAll E h' D B n a.1 0 pl a.2.1 sq a.2.2)) := by
  have hBc := hB.2.1
  have hBl := hB.1
  refine Spec.of (by decide +kernel) (by simp [Value.category]) (Nat.le_of_ble_eq_true rfl) ?_
  show WP E k_X1_readRule 4 0 0 0 [some (.ref D), none, none] [] h _
  refine R_aload_n dX1_readRule_0 rfl ?_
  -- X1_readRule: ('call', 1, '.invokevirtual', 48)
  by_cases he : n ≤ pos
  · have e0 : rdRule t n pos lt ru = .error (1, pos) := by rw [rdRule, if_pos he]
    rw [e0]
    refine R_callV v_X1_nextByte (Rd_nextEnd hO (by omega) (by omega) he) dX1_readRule_1 l_RX1_48 rfl rfl hO.1 (Nat.le_of_ble_eq_true rfl) (by omega) rfl rfl (fun v h3 hq => ?_)
    obtain ⟨rfl, hO3, o3⟩ := hq
    refine R_istore1 dX1_readRule_4 (by decide) ?_
    refine R_aload_n dX1_readRule_5 rfl ?_
    -- X1_readRule: ('call', 6, '.invokevirtual', 52)
    refine R_callV v_X1_isWhole (Rd_isWhole hO3 (by omega)) dX1_readRule_6 l_RX1_52 rfl rfl hO3.1 (Nat.le_of_ble_eq_true rfl) (by omega) rfl rfl (fun v h1 hq => ?_)
    obtain ⟨rfl, e9⟩ := hq
    rw [e9, if_neg (by omega)]
    refine R_if_ne_N (tgt := 13) dX1_readRule_9 (by decide) (by omega) (fun c9 => ?_) (fun c9 => ?_)
    -- X1_readRule: ('branch', 9, 13, 12)
    · exact absurd rfl c9
    · refine R_return dX1_readRule_12 rfl ?_
      -- X1_readRule: ('ret', 12)
      exact ⟨rfl, o3.mono (by omega) (by omega), ⟨Nat.one_ne_zero, (by show 1 < 5; decide)⟩, _, _, _, _, hO3, hP.ag (o3.ag (by omega))⟩
  · obtain ⟨x, hx⟩ := getE (l := t) (i := pos) (by omega)
    have hx2 := hB.lt hx
    have e0 : rdRule t n pos lt ru = if x < 26 ∨ 86 ≤ x then .error (2, pos) else if 0 < lt x then .error (3, pos) else if n ≤ pos + 1 then .error (1, pos + 1) else if t.getD (pos + 1) 0 < 2 ∨ 12 < t.getD (pos + 1) 0 then .error (2, pos + 1) else rdMk t n lt ru x (t.getD (pos + 1) 0) (pos + 2) := by rw [rdRule, if_neg he, getD_of hx]
    rw [e0]
    refine R_callV v_X1_nextByte (Rd_nextByte hO hB (by omega) (by omega) hx) dX1_readRule_1 l_RX1_48 rfl rfl hO.1 (Nat.le_of_ble_eq_true rfl) (by omega) rfl rfl (fun v h3 hq => ?_)
    obtain ⟨rfl, hO3, o3⟩ := hq
    have hP3 := hP.ag (o3.ag (by omega))
    have hB3 := hB.out o3 (by omega)
    refine R_istore1 dX1_readRule_4 (by decide) ?_
    refine R_aload_n dX1_readRule_5 rfl ?_
    -- X1_readRule: ('call', 6, '.invokevirtual', 52)
    refine R_callV v_X1_isWhole (Rd_isWhole hO3 (by omega)) dX1_readRule_6 l_RX1_52 rfl rfl hO3.1 (Nat.le_of_ble_eq_true rfl) (by omega) rfl rfl (fun v h1 hq => ?_)
    obtain ⟨rfl, e9⟩ := hq
    rw [e9, if_pos rfl]
    refine R_if_ne_N (tgt := 13) dX1_readRule_9 (by decide) (by omega) (fun c9 => ?_) (fun c9 => ?_)
    -- X1_readRule: ('branch', 9, 13, 12)
    rotate_left
    · exact absurd c9 (by decide)
    -- a byte that cannot be: blamed
    have bad : ∀ (k p : Nat) h4 pos4 lt4 sq4 ru4 st, k ≠ 0 → k < 5 → RdO E h4 D B n pos4 k (nI p) lt4 → PackAt E h4 (D + 1) sq4 ru4 → Out h h4 D (D + 130) → RP (.error (k, p) : Except (Nat × Nat) (Nat × (Nat → Nat) × Ru)) (fun k p => Flt E h4 D B n k p) st := fun k p h4 pos4 lt4 sq4 ru4 st a1 a2 a3 a4 a5 => ⟨⟨a1, a2⟩, pos4, lt4, sq4, ru4, a3, a4⟩
    have imp : x < 26 ∨ 86 ≤ x → ∀ x2, WP E k_X1_readRule 4 0 0 25 [some (.ref D), some (.int (nI x)), x2] [] h3 (fun v h' => v = none ∧ Out h h' D (D + 130) ∧ RP (if x < 26 ∨ 86 ≤ x then .error (2, pos) else if 0 < lt x then .error (3, pos) else if n ≤ pos + 1 then .error (1, pos + 1) else if t.getD (pos + 1) 0 < 2 ∨ 12 < t.getD (pos + 1) 0 then .error (2, pos + 1) else rdMk t n lt ru x (t.getD (pos + 1) 0) (pos + 2)) (fun k p => Flt E h' D B n k p) (fun a => RdAll E h' D B n a.1 0 pl a.2.1 sq a.2.2)) := by
      intro hbad x2
      rw [if_pos hbad]
      refine R_aload_n dX1_readRule_25 rfl ?_
      refine R_iconst (v := nI 2) dX1_readRule_26 (by decide) ?_
      -- X1_readRule: ('call', 27, '.invokevirtual', 56)
      refine R_callV v_X1_blame (Rd_blame hO3 (by omega) 2) dX1_readRule_27 l_RX1_56 rfl rfl hO3.1 (Nat.le_of_ble_eq_true rfl) (by omega) rfl rfl (fun v h4 hq => ?_)
      obtain ⟨rfl, hO4, o4⟩ := hq
      refine R_return dX1_readRule_30 rfl ?_
      -- X1_readRule: ('ret', 30)
      have oo : Out h h4 D (D + 130) := (o3.trans o4).mono (by omega) (by omega)
      exact ⟨rfl, oo, bad _ _ h4 _ _ _ _ _ (by decide) (by decide) hO4 (hP3.ag (o4.ag (by omega))) oo⟩
    refine R_iload_n dX1_readRule_13 rfl ?_
    refine R_bipush (v := nI 26) dX1_readRule_14 (by decide) ?_
    refine R_icmp_lt_N (tgt := 25) dX1_readRule_16 (by decide) (by omega) (by omega) (fun c16 => ?_) (fun c16 => ?_)
    -- X1_readRule: ('branch', 16, 25, 19)
    · exact imp (Or.inl c16) _
    · refine R_iload_n dX1_readRule_19 rfl ?_
      refine R_bipush (v := nI 86) dX1_readRule_20 (by decide) ?_
      refine R_icmp_lt_N (tgt := 31) dX1_readRule_22 (by decide) (by omega) (by omega) (fun c22 => ?_) (fun c22 => ?_)
      -- X1_readRule: ('branch', 22, 31, 25)
      rotate_left
      · exact imp (Or.inr (by omega)) _
      rw [if_neg (by omega)]
      refine R_aload_n dX1_readRule_31 rfl ?_
      refine R_iload_n dX1_readRule_32 rfl ?_
      -- X1_readRule: ('call', 33, '.invokevirtual', 76)
      refine R_callV v_X1_lettersOf (Rd_lettersOf hO3 (nI x)) dX1_readRule_33 l_RX1_76 rfl rfl hO3.1 (Nat.le_of_ble_eq_true rfl) (by omega) rfl rfl (fun v h1 hq => ?_)
      obtain ⟨rfl, e9⟩ := hq
      rw [e9, rlen_nI (by omega), if_pos c22]
      have hlx := hlt x
      refine R_if_le_N (tgt := 45) dX1_readRule_36 (by decide) (by omega) (fun c36 => ?_) (fun c36 => ?_)
      -- X1_readRule: ('branch', 36, 45, 39)
      rotate_left
      · rw [if_pos (by omega)]
        refine R_aload_n dX1_readRule_39 rfl ?_
        refine R_iconst (v := nI 3) dX1_readRule_40 (by decide) ?_
        -- X1_readRule: ('call', 41, '.invokevirtual', 56)
        refine R_callV v_X1_blame (Rd_blame hO3 (by omega) 3) dX1_readRule_41 l_RX1_56 rfl rfl hO3.1 (Nat.le_of_ble_eq_true rfl) (by omega) rfl rfl (fun v h4 hq => ?_)
        obtain ⟨rfl, hO4, o4⟩ := hq
        refine R_return dX1_readRule_44 rfl ?_
        -- X1_readRule: ('ret', 44)
        have oo : Out h h4 D (D + 130) := (o3.trans o4).mono (by omega) (by omega)
        exact ⟨rfl, oo, bad _ _ h4 _ _ _ _ _ (by decide) (by decide) hO4 (hP3.ag (o4.ag (by omega))) oo⟩
      rw [if_neg (by omega)]
      have hrx : ru (x - 26) = [] := hru (x - 26) (by omega) (by rw [show 26 + (x - 26) = x by omega]; omega)
      -- the end when the length is at fault
      have off : ∀ (k p : Nat) h4 pos4 x2, k ≠ 0 → k < 5 → RdO E h4 D B n pos4 k (nI p) lt → Out h h4 D (D + 1) → WP E k_X1_readRule 4 0 0 73 [some (.ref D), some (.int (nI x)), some (.int x2)] [] h4 (fun v h' => v = none ∧ Out h h' D (D + 130) ∧ RP (.error (k, p) : Except (Nat × Nat) (Nat × (Nat → Nat) × Ru)) (fun k p => Flt E h' D B n k p) (fun a => RdAll E h' D B n a.1 0 pl a.2.1 sq a.2.2)) := by
        intro k p h4 pos4 x2 hk hk5 hO4 o4
        have hP4 := hP.ag (o4.ag (by omega))
        obtain ⟨f4, a4, hf4⟩ := hO4.2.raw
        refine R_aload_n dX1_readRule_73 rfl ?_
        refine R_get K_1 (f := 1) (by decide) dX1_readRule_74 f_RX1_18 hO4.1 rfl ?_
        refine R_iload_n dX1_readRule_77 rfl ?_
        refine R_aload_n dX1_readRule_78 rfl ?_
        refine R_aload_n dX1_readRule_79 rfl ?_
        refine R_get K_1 (f := 0) (by decide) dX1_readRule_80 f_RX1_12 hO4.1 rfl ?_
        refine R_iload_n dX1_readRule_83 rfl ?_
        -- X1_readRule: ('call', 84, '.invokevirtual', 79)
        refine R_callV v_X2_rowOf (Pack_rowOf hP4 (s := x) (by omega)) dX1_readRule_84 l_RX1_79 rfl rfl hP4.1 (Nat.le_of_ble_eq_true rfl) (by omega) rfl rfl (fun v h1 hq => ?_)
        obtain ⟨rfl, e9⟩ := hq
        rw [e9]
        refine R_iload_n dX1_readRule_87 rfl ?_
        -- X1_readRule: ('call', 88, '.invokevirtual', 83)
        refine R_callV v_X1_readRow (Rd_readRow_off hO4 hk hk5 _ x2) dX1_readRule_88 l_RX1_83 rfl rfl hO4.1 (Nat.le_of_ble_eq_true rfl) (by omega) rfl rfl (fun v h1 hq => ?_)
        obtain ⟨rfl, e9⟩ := hq
        rw [e9]
        refine R_iastore_N dX1_readRule_91 a4 (by omega) (by omega) ?_
        -- X1_readRule: ('put', 92)
        intro h5 u5
        have o5 : Out h h5 D (D + 130) := (o4.mono (by omega) (by omega)).trans (Out.upd u5 (by omega) (by omega))
        refine R_return dX1_readRule_92 rfl ?_
        -- X1_readRule: ('ret', 92)
        exact ⟨rfl, o5, bad _ _ h5 _ _ _ _ _ hk hk5 ⟨(u5.2.2 _ (by omega)).trans hO4.1, arrN.set (v := 0) hf4 u5⟩ (hP4.ag (fun q _ _ => u5.2.2 q (by omega))) o5⟩
      refine R_aload_n dX1_readRule_45 rfl ?_
      -- X1_readRule: ('call', 46, '.invokevirtual', 48)
      by_cases he2 : n ≤ pos + 1
      · rw [if_pos he2]
        refine R_callV v_X1_nextByte (Rd_nextEnd hO3 (by omega) (by omega) he2) dX1_readRule_46 l_RX1_48 rfl rfl hO3.1 (Nat.le_of_ble_eq_true rfl) (by omega) rfl rfl (fun v h4 hq => ?_)
        obtain ⟨rfl, hO4, o4⟩ := hq
        refine R_istore2 dX1_readRule_49 (by decide) ?_
        refine R_aload_n dX1_readRule_50 rfl ?_
        -- X1_readRule: ('call', 51, '.invokevirtual', 52)
        refine R_callV v_X1_isWhole (Rd_isWhole hO4 (by omega)) dX1_readRule_51 l_RX1_52 rfl rfl hO4.1 (Nat.le_of_ble_eq_true rfl) (by omega) rfl rfl (fun v h1 hq => ?_)
        obtain ⟨rfl, e9⟩ := hq
        rw [e9, if_neg (by omega)]
        refine R_if_eq_N (tgt := 73) dX1_readRule_54 (by decide) (by omega) (fun c54 => ?_) (fun c54 => ?_)
        -- X1_readRule: ('branch', 54, 73, 57)
        · exact off 1 (pos + 1) h4 _ _ (by omega) (by omega) hO4 (o3.trans o4)
        · exact absurd rfl c54
      · rw [if_neg he2]
        obtain ⟨y, hy⟩ := getE (l := t) (i := pos + 1) (by omega)
        have hy2 := hB.lt hy
        rw [getD_of hy]
        refine R_callV v_X1_nextByte (Rd_nextByte hO3 hB3 (by omega) (by omega) hy) dX1_readRule_46 l_RX1_48 rfl rfl hO3.1 (Nat.le_of_ble_eq_true rfl) (by omega) rfl rfl (fun v h4 hq => ?_)
        obtain ⟨rfl, hO4, o4⟩ := hq
        have o34 := o3.trans o4
        have hP4 := hP3.ag (o4.ag (by omega))
        have hB4 := hB3.out o4 (by omega)
        refine R_istore2 dX1_readRule_49 (by decide) ?_
        refine R_aload_n dX1_readRule_50 rfl ?_
        -- X1_readRule: ('call', 51, '.invokevirtual', 52)
        refine R_callV v_X1_isWhole (Rd_isWhole hO4 (by omega)) dX1_readRule_51 l_RX1_52 rfl rfl hO4.1 (Nat.le_of_ble_eq_true rfl) (by omega) rfl rfl (fun v h1 hq => ?_)
        obtain ⟨rfl, e9⟩ := hq
        rw [e9, if_pos rfl]
        refine R_if_eq_N (tgt := 73) dX1_readRule_54 (by decide) (by omega) (fun c54 => ?_) (fun c54 => ?_)
        -- X1_readRule: ('branch', 54, 73, 57)
        · exact absurd c54 (by decide)
        · have imp2 : y < 2 ∨ 12 < y → WP E k_X1_readRule 4 0 0 68 [some (.ref D), some (.int (nI x)), some (.int (nI y))] [] h4 (fun v h' => v = none ∧ Out h h' D (D + 130) ∧ RP (.error (2, pos + 1) : Except (Nat × Nat) (Nat × (Nat → Nat) × Ru)) (fun k p => Flt E h' D B n k p) (fun a => RdAll E h' D B n a.1 0 pl a.2.1 sq a.2.2)) := by
            intro _
            refine R_aload_n dX1_readRule_68 rfl ?_
            refine R_iconst (v := nI 2) dX1_readRule_69 (by decide) ?_
            -- X1_readRule: ('call', 70, '.invokevirtual', 56)
            refine R_callV v_X1_blame (Rd_blame hO4 (by omega) 2) dX1_readRule_70 l_RX1_56 rfl rfl hO4.1 (Nat.le_of_ble_eq_true rfl) (by omega) rfl rfl (fun v h5 hq => ?_)
            obtain ⟨rfl, hO5, o5⟩ := hq
            exact off 2 (pos + 1) h5 _ _ (by omega) (by omega) hO5 (o34.trans o5)
          refine R_iload_n dX1_readRule_57 rfl ?_
          refine R_iconst (v := nI 2) dX1_readRule_58 (by decide) ?_
          refine R_icmp_lt_N (tgt := 68) dX1_readRule_59 (by decide) (by omega) (by omega) (fun c59 => ?_) (fun c59 => ?_)
          -- X1_readRule: ('branch', 59, 68, 62)
          · rw [if_pos (Or.inl c59)]
            exact imp2 (Or.inl c59)
          · refine R_iload_n dX1_readRule_62 rfl ?_
            refine R_bipush (v := nI 12) dX1_readRule_63 (by decide) ?_
            refine R_icmp_le_N (tgt := 73) dX1_readRule_65 (by decide) (by omega) (by omega) (fun c65 => ?_) (fun c65 => ?_)
            -- X1_readRule: ('branch', 65, 73, 68)
            rotate_left
            · rw [if_pos (Or.inr (by omega))]
              exact imp2 (Or.inr (by omega))
            rw [if_neg (by omega)]
            have hrow := hP4.rul (i := x - 26) (by omega)
            rw [hrx] at hrow
            obtain ⟨f4, a4, hf4⟩ := hO4.2.raw
            refine R_aload_n dX1_readRule_73 rfl ?_
            refine R_get K_1 (f := 1) (by decide) dX1_readRule_74 f_RX1_18 hO4.1 rfl ?_
            refine R_iload_n dX1_readRule_77 rfl ?_
            refine R_aload_n dX1_readRule_78 rfl ?_
            refine R_aload_n dX1_readRule_79 rfl ?_
            refine R_get K_1 (f := 0) (by decide) dX1_readRule_80 f_RX1_12 hO4.1 rfl ?_
            refine R_iload_n dX1_readRule_83 rfl ?_
            -- X1_readRule: ('call', 84, '.invokevirtual', 79)
            refine R_callV v_X2_rowOf (Pack_rowOf hP4 (s := x) (by omega)) dX1_readRule_84 l_RX1_79 rfl rfl hP4.1 (Nat.le_of_ble_eq_true rfl) (by omega) rfl rfl (fun v h1 hq => ?_)
            obtain ⟨rfl, e9⟩ := hq
            rw [e9, rowA_in (by omega)]
            refine R_iload_n dX1_readRule_87 rfl ?_
            -- X1_readRule: ('call', 88, '.invokevirtual', 83)
            refine R_callV v_X1_readRow (Rd_readRow hO4 hB4 hn (by omega) hrow (m := y) (by simp; omega) hBD (by omega) hlt) dX1_readRule_88 l_RX1_83 rfl rfl hO4.1 (Nat.le_of_ble_eq_true rfl) (by omega) rfl rfl (fun v h5 hq => ?_)
            obtain ⟨o5, hq⟩ := hq
            have a5 := (o5.2 (D + 127) (by omega) (by omega)).trans a4
            have hPx : ∀ l, RowAt E h5 (D + 1 + 6 + 2 * (x - 26)) 12 l → PackAt E h5 (D + 1) sq (ruSet ru (x - 26) l) := fun l hl => hP4.setRule2 (by omega) hl (fun q _ _ _ => o5.2 q (by omega) (by omega))
            have o15 : Out h h5 D (D + 130) := (o34.mono (by omega) (by omega)).trans ⟨o5.1, fun q hq => o5.2 q (by omega) (by omega)⟩
            rw [rdMk]
            cases hrd : rdRow t n lt y (pos + 2) 0 [] with
            | error e =>
              rw [show pos + 1 + 1 = pos + 2 from rfl, hrd] at hq
              obtain ⟨⟨k1, k2⟩, z, pos2, l2, rfl, hO5, hR5⟩ := hq
              refine R_iastore_N dX1_readRule_91 a5 (by omega) (by omega) ?_
              -- X1_readRule: ('put', 92)
              intro h6 u6
              have o6 : Out h h6 D (D + 130) := o15.trans (Out.upd u6 (by omega) (by omega))
              refine R_return dX1_readRule_92 rfl ?_
              -- X1_readRule: ('ret', 92)
              exact ⟨rfl, o6, bad _ _ h6 _ _ _ _ _ k1 k2 ⟨(u6.2.2 _ (by omega)).trans hO5.1, arrN.set hf4 u6⟩ ((hPx _ hR5).ag (fun q _ _ => u6.2.2 q (by omega))) o6⟩
            | ok a =>
              rw [show pos + 1 + 1 = pos + 2 from rfl, hrd] at hq
              obtain ⟨rfl, hO5, hR5⟩ := hq
              refine R_iastore_N dX1_readRule_91 a5 (by omega) (by omega) ?_
              -- X1_readRule: ('put', 92)
              intro h6 u6
              have o6 : Out h h6 D (D + 130) := o15.trans (Out.upd u6 (by omega) (by omega))
              refine R_return dX1_readRule_92 rfl ?_
              -- X1_readRule: ('ret', 92)
              exact ⟨rfl, o6, ⟨(u6.2.2 _ (by omega)).trans hO5.1, arrN.set hf4 u6⟩, (hPx _ hR5).ag (fun q _ _ => u6.2.2 q (by omega))⟩
end READER2
