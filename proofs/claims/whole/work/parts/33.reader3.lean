/-! FORMREADER: a form -/
theorem rdRow_pos {t : List Nat} {n : Nat} {lt : Nat → Nat} : ∀ {m pos sum : Nat} {acc : List Nat} {a : List Nat × Nat × Nat}, rdRow t n lt m pos sum acc = .ok a → sum + m ≤ a.2.2
  | 0, pos, sum, acc, a, h => by
    rw [rdRow] at h; cases h; exact Nat.le_refl _
  | m + 1, pos, sum, acc, a, h => by
    rw [rdRow] at h
    split at h
    · cases h
    · split at h
      · cases h
      · split at h
        · cases h
        · rename_i c1 c2 c3
          have := rdRow_pos h
          omega
/-- what holds of letters and rules while a form is read -/
def RdInv (lt : Nat → Nat) (ru : Ru) : Prop := (∀ s, lt s ≤ 240) ∧ ∀ i, i < 60 → lt (26 + i) = 0 → ru i = []
theorem rdRule_inv {t : List Nat} {n pos : Nat} {lt : Nat → Nat} {ru : Ru} {a : Nat × (Nat → Nat) × Ru} (hi : RdInv lt ru) (h : rdRule t n pos lt ru = .ok a) : RdInv a.2.1 a.2.2 ∧ a.1 ≤ pos + 14 := by
  rw [rdRule] at h
  split at h
  · cases h
  split at h
  · cases h
  split at h
  · cases h
  split at h
  · cases h
  split at h
  · cases h
  rename_i c1 c2 c3 c4 c5
  rw [rdMk] at h
  split at h
  · cases h
  · rename_i b hb
    cases h
    obtain ⟨s1, s2, s3⟩ := rdRow_sum (by omega) hb
    have s4 := rdRow_pos hb
    refine ⟨⟨fun s => ?_, fun i hi2 hz => ?_⟩, by show b.2.1 ≤ _; omega⟩
    · show (if s = t.getD pos 0 then b.2.2 else lt s) ≤ 240
      have := hi.1 s
      split <;> omega
    · have hz : (if 26 + i = t.getD pos 0 then b.2.2 else lt (26 + i)) = 0 := hz
      by_cases e : 26 + i = t.getD pos 0
      · rw [if_pos e] at hz; omega
      · rw [if_neg e] at hz
        show ruSet ru (t.getD pos 0 - 26) b.1 i = []
        rw [ruSet, if_neg (by omega)]
        exact hi.2 i hi2 hz
theorem rdInv0 : RdInv lt0 (fun _ => []) := ⟨fun s => by rw [lt0]; split <;> omega, fun i _ _ => rfl⟩
def RdAny (E : EnvT) (h : Hp) (D : Nat) : Prop := ∃ B n pos k pl lt sq ru, RdAll E h D B n pos k pl lt sq ru
theorem RdAll.ag {E : EnvT} {h h1 : Hp} {D B n pos k : Nat} {pl : Int32} {lt : Nat → Nat} {sq : List Nat} {ru : Ru} (x : RdAll E h D B n pos k pl lt sq ru) (o : Ag h h1 D (D + 130)) : RdAll E h1 D B n pos k pl lt sq ru := ⟨x.1.eq (o _ (by omega) (by omega)) (o _ (by omega) (by omega)), x.2.ag (o.sub (by omega) (by omega))⟩
theorem RdAny.ag {E : EnvT} {h h1 : Hp} {D : Nat} (x : RdAny E h D) (o : Ag h h1 D (D + 130)) : RdAny E h1 D := by
  obtain ⟨B, n, pos, k, pl, lt, sq, ru, x⟩ := x
  exact ⟨B, n, pos, k, pl, lt, sq, ru, x.ag o⟩
theorem Flt.any {E : EnvT} {h : Hp} {D B n k p : Nat} (x : Flt E h D B n k p) : RdAny E h D := by
  obtain ⟨pos, lt, sq, ru, x⟩ := x
  exact ⟨_, _, _, _, _, _, _, _, x⟩
section READER3
variable {E : EnvT} {h : Hp} {D B n pos k capB : Nat} {pl : Int32} {lt : Nat → Nat} {t : List Nat} {sq : List Nat} {ru : Ru}
theorem Rd_start (hA : RdAny E h D) (hn : n < 2 ^ 30) : Spec E k_X1_start 3 0 0 [.ref D, .ref B, .int (nI n)] h (fun v h' => v = none ∧ Out h h' D (D + 130) ∧ RdAll E h' D B n 0 0 (-1) lt0 [] (fun _ => [])) := by
  obtain ⟨B0, n0, pos0, k0, pl0, ltx, sq0, ru0, hO, hP⟩ := hA
  refine Spec.of (by decide +kernel) (by simp [Value.category]) (Nat.le_of_ble_eq_true rfl) ?_
  show WP E k_X1_start 3 0 0 0 [some (.ref D), some (.ref B), some (.int (nI n)), none] [] h _
  refine R_aload_n dX1_start_0 rfl ?_
  refine R_get K_1 (f := 0) (by decide) dX1_start_1 f_RX1_12 hO.1 rfl ?_
  -- X1_start: ('call', 4, '.invokevirtual', 65)
  refine R_callV v_X2_clear (Pack_clear hP) dX1_start_4 l_RX1_65 rfl rfl hP.1 (Nat.le_of_ble_eq_true rfl) (by omega) rfl rfl (fun v h2 hq => ?_)
  obtain ⟨rfl, hP2, o2⟩ := hq
  have hO2 := hO.eq (o2.2 D (by omega)) (o2.2 (D + 127) (by omega))
  have loop : ∀ m i h3, i + m = 86 → RdO E h3 D B0 n0 pos0 k0 pl0 (fun s => if s < i then lt0 s else ltx s) → Out h2 h3 (D + 127) (D + 128) → WP E k_X1_start 3 0 0 9 [some (.ref D), some (.ref B), some (.int (nI n)), some (.int (nI i))] [] h3 (fun v h' => v = none ∧ Out h h' D (D + 130) ∧ RdAll E h' D B n 0 0 (-1) lt0 [] (fun _ => [])) := by
    intro m
    induction m with
    | zero =>
      intro i h3 hi k1 o3
      obtain rfl : i = 86 := by omega
      obtain ⟨g0, g1⟩ := k1
      refine R_iload_n dX1_start_9 rfl ?_
      refine R_bipush (v := nI 86) dX1_start_10 (by decide) ?_
      refine R_icmp_ge_N (tgt := 39) dX1_start_12 (by decide) (by omega) (by omega) (fun c12 => ?_) (fun c12 => ?_)
      -- X1_start: ('branch', 12, 39, 15)
      · refine R_aload_n dX1_start_39 rfl ?_
        refine R_aload_n dX1_start_40 rfl ?_
        refine R_put_A K_1 (f := 2) (by decide) dX1_start_41 f_RX1_27 rfl g0 (by rfl) (by rfl) (Nat.le_of_ble_eq_true rfl) ?_
        -- X1_start: ('put', 44)
        intro h4 u4
        refine R_aload_n dX1_start_44 rfl ?_
        refine R_iload_n dX1_start_45 rfl ?_
        refine R_put_A K_1 (f := 3) (by decide) dX1_start_46 f_RX1_31 rfl u4.2.1 (by rfl) (by rfl) (Nat.le_of_ble_eq_true rfl) ?_
        -- X1_start: ('put', 49)
        intro h5 u5
        refine R_aload_n dX1_start_49 rfl ?_
        refine R_iconst (v := nI 0) dX1_start_50 (by decide) ?_
        refine R_put_A K_1 (f := 4) (by decide) dX1_start_51 f_RX1_35 rfl u5.2.1 (by rfl) (by rfl) (Nat.le_of_ble_eq_true rfl) ?_
        -- X1_start: ('put', 54)
        intro h6 u6
        refine R_aload_n dX1_start_54 rfl ?_
        refine R_iconst (v := nI 0) dX1_start_55 (by decide) ?_
        refine R_put_A K_1 (f := 5) (by decide) dX1_start_56 f_RX1_38 rfl u6.2.1 (by rfl) (by rfl) (Nat.le_of_ble_eq_true rfl) ?_
        -- X1_start: ('put', 59)
        intro h7 u7
        refine R_aload_n dX1_start_59 rfl ?_
        refine R_iconst (v := (-1)) dX1_start_60 (by decide) ?_
        refine R_put_A K_1 (f := 6) (by decide) dX1_start_61 f_RX1_41 rfl u7.2.1 (by rfl) (by rfl) (Nat.le_of_ble_eq_true rfl) ?_
        -- X1_start: ('put', 64)
        intro h8 u8
        refine R_return dX1_start_64 rfl ?_
        -- X1_start: ('ret', 64)
        have o8 : Out h3 h8 D (D + 1) := ((((Out.upd u4 (by omega) (by omega)).trans (Out.upd u5 (by omega) (by omega))).trans (Out.upd u6 (by omega) (by omega))).trans (Out.upd u7 (by omega) (by omega))).trans (Out.upd u8 (by omega) (by omega))
        exact ⟨rfl, ((o2.mono (by omega) (by omega)).trans (o3.mono (by omega) (by omega))).trans (o8.mono (by omega) (by omega)), ⟨u8.2.1, (g1.to (fun s hs => if_pos hs)).eq (o8.2 _ (by omega))⟩, (hP2.ag (o3.ag (by omega))).ag (o8.ag (by omega))⟩
      · exact absurd c12 (by omega)
    | succ m ih =>
      intro i h3 hi k1 o3
      obtain ⟨g0, f, g1, hf⟩ := k1
      have st : ∀ v, v = lt0 i → WP E k_X1_start 3 0 0 32 [some (.ref D), some (.ref B), some (.int (nI n)), some (.int (nI i))] [.int (nI v), .int (nI i), .ref (D + 127)] h3 (fun v h' => v = none ∧ Out h h' D (D + 130) ∧ RdAll E h' D B n 0 0 (-1) lt0 [] (fun _ => [])) := by
        intro v hv
        refine R_iastore_N dX1_start_32 g1 (by omega) (by omega) ?_
        -- X1_start: ('put', 33)
        intro h4 u4
        refine R_iinc3 dX1_start_33 (by decide) (nI_inc _ 1) ?_
        refine R_goto (tgt := 9) dX1_start_36 (by decide) ?_
        -- X1_start: ('stop', 9)
        refine ih (i + 1) h4 (by omega) ⟨(u4.2.2 _ (by omega)).trans g0, (arrN.set hf u4).to (fun s hs => ?_)⟩ (o3.trans (Out.upd u4 (by omega) (by omega)))
        by_cases e : s = i
        · subst e; simp [hv]
        · simp only [if_neg e, show s < i + 1 ↔ s < i by omega]
      refine R_iload_n dX1_start_9 rfl ?_
      refine R_bipush (v := nI 86) dX1_start_10 (by decide) ?_
      refine R_icmp_ge_N (tgt := 39) dX1_start_12 (by decide) (by omega) (by omega) (fun c12 => ?_) (fun c12 => ?_)
      -- X1_start: ('branch', 12, 39, 15)
      · exact absurd c12 (by omega)
      · refine R_aload_n dX1_start_15 rfl ?_
        refine R_get K_1 (f := 1) (by decide) dX1_start_16 f_RX1_18 g0 rfl ?_
        refine R_iload_n dX1_start_19 rfl ?_
        refine R_iload_n dX1_start_20 rfl ?_
        -- X1_start: ('call', 21, '.invokestatic', 68)
        refine R_callSN s_X9_isLetter (isLetter_N (s := i) (by omega)) dX1_start_21 l_RX1_68 rfl rfl (Nat.le_of_ble_eq_true rfl) (by omega) rfl rfl (fun v h1 hq => ?_)
        obtain ⟨rfl, e9⟩ := hq
        rw [e9]
        by_cases hl : i < 26
        · rw [if_pos hl]
          refine R_if_eq_N (tgt := 31) dX1_start_24 (by decide) (by omega) (fun c24 => ?_) (fun c24 => ?_)
          -- X1_start: ('branch', 24, 31, 27)
          · exact absurd c24 (by decide)
          · refine R_iconst (v := nI 1) dX1_start_27 (by decide) ?_
            refine R_goto (tgt := 32) dX1_start_28 (by decide) ?_
            -- X1_start: ('stop', 32)
            exact st 1 (by rw [lt0, if_pos hl])
        · rw [if_neg hl]
          refine R_if_eq_N (tgt := 31) dX1_start_24 (by decide) (by omega) (fun c24 => ?_) (fun c24 => ?_)
          -- X1_start: ('branch', 24, 31, 27)
          · refine R_iconst (v := nI 0) dX1_start_31 (by decide) ?_
            -- X1_start: ('stop', 32)
            exact st 0 (by rw [lt0, if_neg hl])
          · exact absurd rfl c24
  refine R_iconst (v := nI 0) dX1_start_7 (by decide) ?_
  refine R_istore3 dX1_start_8 (by decide) ?_
  -- X1_start: ('stop', 9)
  exact loop 86 0 h2 (by omega) ⟨hO2.1, hO2.2.to (fun s hs => by rw [if_neg (by omega)])⟩ Out.refl
theorem Rd_readSequence (hO : RdO E h D B n pos 0 pl lt) (hP : PackAt E h (D + 1) [] ru) (hB : RowAt E h B capB t) (hn : n ≤ t.length) (hp : pos ≤ 500000) (hBD : B + 2 ≤ D ∨ D + 130 ≤ B) (hlt : ∀ s, lt s ≤ 240) : Spec E k_X1_readSequence 4 0 0 [.ref D] h (fun v h' => v = none ∧ Out h h' D (D + 130) ∧ RP (rdSeq t n pos lt) (fun k p => Flt E h' D B n k p) (fun a => RdAll E h' D B n a.2.1 0 pl lt a.1 ru)) := by
  have hBc := hB.2.1
  have hBl := hB.1
  refine Spec.of (by decide +kernel) (by simp [Value.category]) (Nat.le_of_ble_eq_true rfl) ?_
  show WP E k_X1_readSequence 4 0 0 0 [some (.ref D), none] [] h _
  have off : ∀ (k p : Nat) h4 pos4 x2, k ≠ 0 → k < 5 → RdO E h4 D B n pos4 k (nI p) lt → Out h h4 D (D + 1) → WP E k_X1_readSequence 4 0 0 24 [some (.ref D), some (.int x2)] [] h4 (fun v h' => v = none ∧ Out h h' D (D + 130) ∧ RP (.error (k, p) : Except (Nat × Nat) (List Nat × Nat × Nat)) (fun k p => Flt E h' D B n k p) (fun a => RdAll E h' D B n a.2.1 0 pl lt a.1 ru)) := by
    intro k p h4 pos4 x2 hk hk5 hO4 o4
    have hP4 := hP.ag (o4.ag (by omega))
    refine R_aload_n dX1_readSequence_24 rfl ?_
    refine R_aload_n dX1_readSequence_25 rfl ?_
    refine R_get K_1 (f := 0) (by decide) dX1_readSequence_26 f_RX1_12 hO4.1 rfl ?_
    -- X1_readSequence: ('call', 29, '.invokevirtual', 87)
    refine R_callV v_X2_sequence (Pack_sequence hP4) dX1_readSequence_29 l_RX1_87 rfl rfl hP4.1 (Nat.le_of_ble_eq_true rfl) (by omega) rfl rfl (fun v h1 hq => ?_)
    obtain ⟨rfl, e9⟩ := hq
    rw [e9]
    refine R_iload_n dX1_readSequence_32 rfl ?_
    -- X1_readSequence: ('call', 33, '.invokevirtual', 83)
    refine R_callV v_X1_readRow (Rd_readRow_off hO4 hk hk5 _ x2) dX1_readSequence_33 l_RX1_83 rfl rfl hO4.1 (Nat.le_of_ble_eq_true rfl) (by omega) rfl rfl (fun v h1 hq => ?_)
    obtain ⟨rfl, e9⟩ := hq
    rw [e9]
    refine R_pop dX1_readSequence_36 rfl ?_
    refine R_return dX1_readSequence_37 rfl ?_
    -- X1_readSequence: ('ret', 37)
    exact ⟨rfl, o4.mono (by omega) (by omega), ⟨hk, hk5⟩, _, _, _, _, hO4, hP4⟩
  refine R_aload_n dX1_readSequence_0 rfl ?_
  -- X1_readSequence: ('call', 1, '.invokevirtual', 48)
  by_cases he : n ≤ pos
  · rw [rdSeq, if_pos he]
    refine R_callV v_X1_nextByte (Rd_nextEnd hO (by omega) (by omega) he) dX1_readSequence_1 l_RX1_48 rfl rfl hO.1 (Nat.le_of_ble_eq_true rfl) (by omega) rfl rfl (fun v h3 hq => ?_)
    obtain ⟨rfl, hO3, o3⟩ := hq
    refine R_istore1 dX1_readSequence_4 (by decide) ?_
    refine R_aload_n dX1_readSequence_5 rfl ?_
    -- X1_readSequence: ('call', 6, '.invokevirtual', 52)
    refine R_callV v_X1_isWhole (Rd_isWhole hO3 (by omega)) dX1_readSequence_6 l_RX1_52 rfl rfl hO3.1 (Nat.le_of_ble_eq_true rfl) (by omega) rfl rfl (fun v h1 hq => ?_)
    obtain ⟨rfl, e9⟩ := hq
    rw [e9, if_neg (by omega)]
    refine R_if_eq_N (tgt := 24) dX1_readSequence_9 (by decide) (by omega) (fun c9 => ?_) (fun c9 => ?_)
    -- X1_readSequence: ('branch', 9, 24, 12)
    · exact off 1 pos h3 _ _ (by omega) (by omega) hO3 o3
    · exact absurd rfl c9
  · obtain ⟨x, hx⟩ := getE (l := t) (i := pos) (by omega)
    have hx2 := hB.lt hx
    rw [rdSeq, if_neg he, getD_of hx]
    refine R_callV v_X1_nextByte (Rd_nextByte hO hB (by omega) (by omega) hx) dX1_readSequence_1 l_RX1_48 rfl rfl hO.1 (Nat.le_of_ble_eq_true rfl) (by omega) rfl rfl (fun v h3 hq => ?_)
    obtain ⟨rfl, hO3, o3⟩ := hq
    have hP3 := hP.ag (o3.ag (by omega))
    have hB3 := hB.out o3 (by omega)
    refine R_istore1 dX1_readSequence_4 (by decide) ?_
    refine R_aload_n dX1_readSequence_5 rfl ?_
    -- X1_readSequence: ('call', 6, '.invokevirtual', 52)
    refine R_callV v_X1_isWhole (Rd_isWhole hO3 (by omega)) dX1_readSequence_6 l_RX1_52 rfl rfl hO3.1 (Nat.le_of_ble_eq_true rfl) (by omega) rfl rfl (fun v h1 hq => ?_)
    obtain ⟨rfl, e9⟩ := hq
    rw [e9, if_pos rfl]
    refine R_if_eq_N (tgt := 24) dX1_readSequence_9 (by decide) (by omega) (fun c9 => ?_) (fun c9 => ?_)
    -- X1_readSequence: ('branch', 9, 24, 12)
    · exact absurd c9 (by decide)
    · refine R_iload_n dX1_readSequence_12 rfl ?_
      refine R_sipush (v := nI 240) dX1_readSequence_13 (by decide) ?_
      refine R_icmp_le_N (tgt := 24) dX1_readSequence_16 (by decide) (by omega) (by omega) (fun c16 => ?_) (fun c16 => ?_)
      -- X1_readSequence: ('branch', 16, 24, 19)
      rotate_left
      · rw [if_pos (by omega)]
        refine R_aload_n dX1_readSequence_19 rfl ?_
        refine R_iconst (v := nI 2) dX1_readSequence_20 (by decide) ?_
        -- X1_readSequence: ('call', 21, '.invokevirtual', 56)
        refine R_callV v_X1_blame (Rd_blame hO3 (by omega) 2) dX1_readSequence_21 l_RX1_56 rfl rfl hO3.1 (Nat.le_of_ble_eq_true rfl) (by omega) rfl rfl (fun v h4 hq => ?_)
        obtain ⟨rfl, hO4, o4⟩ := hq
        exact off 2 pos h4 _ _ (by omega) (by omega) hO4 (o3.trans o4)
      · rw [if_neg (by omega)]
        refine R_aload_n dX1_readSequence_24 rfl ?_
        refine R_aload_n dX1_readSequence_25 rfl ?_
        refine R_get K_1 (f := 0) (by decide) dX1_readSequence_26 f_RX1_12 hO3.1 rfl ?_
        -- X1_readSequence: ('call', 29, '.invokevirtual', 87)
        refine R_callV v_X2_sequence (Pack_sequence hP3) dX1_readSequence_29 l_RX1_87 rfl rfl hP3.1 (Nat.le_of_ble_eq_true rfl) (by omega) rfl rfl (fun v h1 hq => ?_)
        obtain ⟨rfl, e9⟩ := hq
        rw [e9]
        refine R_iload_n dX1_readSequence_32 rfl ?_
        -- X1_readSequence: ('call', 33, '.invokevirtual', 83)
        refine R_callV v_X1_readRow (Rd_readRow hO3 hB3 hn (by omega) hP3.2.1 (m := x) (by simp; omega) hBD (by omega) hlt) dX1_readSequence_33 l_RX1_83 rfl rfl hO3.1 (Nat.le_of_ble_eq_true rfl) (by omega) rfl rfl (fun v h5 hq => ?_)
        obtain ⟨o5, hq⟩ := hq
        have hPx : ∀ l, RowAt E h5 (D + 1 + 1) 240 l → PackAt E h5 (D + 1) l ru := fun l hl => hP3.setSeq2 hl (fun q _ _ _ => o5.2 q (by omega) (by omega))
        have o15 : Out h h5 D (D + 130) := (o3.mono (by omega) (by omega)).trans ⟨o5.1, fun q hq => o5.2 q (by omega) (by omega)⟩
        cases hrd : rdRow t n lt x (pos + 1) 0 [] with
        | error e =>
          rw [hrd] at hq
          obtain ⟨⟨k1, k2⟩, z, pos2, l2, rfl, hO5, hR5⟩ := hq
          refine R_pop dX1_readSequence_36 rfl ?_
          refine R_return dX1_readSequence_37 rfl ?_
          -- X1_readSequence: ('ret', 37)
          exact ⟨rfl, o15, ⟨k1, k2⟩, _, _, _, _, hO5, hPx _ hR5⟩
        | ok a =>
          rw [hrd] at hq
          obtain ⟨rfl, hO5, hR5⟩ := hq
          refine R_pop dX1_readSequence_36 rfl ?_
          refine R_return dX1_readSequence_37 rfl ?_
          -- X1_readSequence: ('ret', 37)
          exact ⟨rfl, o15, hO5, hPx _ hR5⟩
set_option maxHeartbeats 1000000 in
theorem Rd_readFrom (hA : RdAny E h D) (hB : RowAt E h B capB t) (hn : n ≤ t.length) (hBD : B + 2 ≤ D ∨ D + 130 ≤ B) : Spec E k_X1_readFrom 5 0 0 [.ref D, .ref B, .int (nI n)] h (fun v h' => v = none ∧ Out h h' D (D + 130) ∧ RP (rdForm t n) (fun k p => Flt E h' D B n k p) (fun a => ∃ pos lt, RdAll E h' D B n pos 0 (-1) lt a.1 a.2)) := by
  have hBc := hB.2.1
  have hBl := hB.1
  refine Spec.of (by decide +kernel) (by simp [Value.category]) (Nat.le_of_ble_eq_true rfl) ?_
  show WP E k_X1_readFrom 5 0 0 0 [some (.ref D), some (.ref B), some (.int (nI n)), none, none] [] h _
  have f66 : ∀ k p h4 x3 x4, k ≠ 0 → k < 5 → Flt E h4 D B n k p → Out h h4 D (D + 130) → rdForm t n = .error (k, p) → WP E k_X1_readFrom 5 0 0 66 [some (.ref D), some (.ref B), some (.int (nI n)), x3, x4] [] h4 (fun v h' => v = none ∧ Out h h' D (D + 130) ∧ RP (rdForm t n) (fun k p => Flt E h' D B n k p) (fun a => ∃ pos lt, RdAll E h' D B n pos 0 (-1) lt a.1 a.2)) := by
    intro k p h4 x3 x4 hk hk5 hF o4 hfm
    obtain ⟨pos, lt, sq, ru, hO4, hP4⟩ := id hF
    refine R_aload_n dX1_readFrom_66 rfl ?_
    -- X1_readFrom: ('call', 67, '.invokevirtual', 52)
    refine R_callV v_X1_isWhole (Rd_isWhole hO4 hk5) dX1_readFrom_67 l_RX1_52 rfl rfl hO4.1 (Nat.le_of_ble_eq_true rfl) (by omega) rfl rfl (fun v h1 hq => ?_)
    obtain ⟨rfl, e9⟩ := hq
    rw [e9, if_neg hk]
    refine R_if_eq_N (tgt := 99) dX1_readFrom_70 (by decide) (by omega) (fun c70 => ?_) (fun c70 => ?_)
    -- X1_readFrom: ('branch', 70, 99, 73)
    · refine R_return dX1_readFrom_99 rfl ?_
      -- X1_readFrom: ('ret', 99)
      rw [hfm]
      exact ⟨rfl, o4, ⟨hk, hk5⟩, hF⟩
    · exact absurd rfl c70
  have f55 : ∀ k p h4 x3 x4, k ≠ 0 → k < 5 → Flt E h4 D B n k p → Out h h4 D (D + 130) → rdForm t n = .error (k, p) → WP E k_X1_readFrom 5 0 0 55 [some (.ref D), some (.ref B), some (.int (nI n)), x3, x4] [] h4 (fun v h' => v = none ∧ Out h h' D (D + 130) ∧ RP (rdForm t n) (fun k p => Flt E h' D B n k p) (fun a => ∃ pos lt, RdAll E h' D B n pos 0 (-1) lt a.1 a.2)) := by
    intro k p h4 x3 x4 hk hk5 hF o4 hfm
    obtain ⟨pos, lt, sq, ru, hO4, hP4⟩ := id hF
    refine R_aload_n dX1_readFrom_55 rfl ?_
    -- X1_readFrom: ('call', 56, '.invokevirtual', 52)
    refine R_callV v_X1_isWhole (Rd_isWhole hO4 hk5) dX1_readFrom_56 l_RX1_52 rfl rfl hO4.1 (Nat.le_of_ble_eq_true rfl) (by omega) rfl rfl (fun v h1 hq => ?_)
    obtain ⟨rfl, e9⟩ := hq
    rw [e9, if_neg hk]
    refine R_if_eq_N (tgt := 66) dX1_readFrom_59 (by decide) (by omega) (fun c59 => ?_) (fun c59 => ?_)
    -- X1_readFrom: ('branch', 59, 66, 62)
    · exact f66 k p h4 _ _ hk hk5 hF o4 hfm
    · exact absurd rfl c59
  have f32 : ∀ k p h4 (y z : Int32), k ≠ 0 → k < 5 → Flt E h4 D B n k p → Out h h4 D (D + 130) → rdForm t n = .error (k, p) → WP E k_X1_readFrom 5 0 0 32 [some (.ref D), some (.ref B), some (.int (nI n)), some (.int y), some (.int z)] [] h4 (fun v h' => v = none ∧ Out h h' D (D + 130) ∧ RP (rdForm t n) (fun k p => Flt E h' D B n k p) (fun a => ∃ pos lt, RdAll E h' D B n pos 0 (-1) lt a.1 a.2)) := by
    intro k p h4 y z hk hk5 hF o4 hfm
    obtain ⟨pos, lt, sq, ru, hO4, hP4⟩ := id hF
    refine R_iload dX1_readFrom_32 rfl ?_
    refine R_iload_n dX1_readFrom_34 rfl ?_
    refine R_icmp_ge (tgt := 55) dX1_readFrom_35 (by decide) (fun c35 => ?_) (fun c35 => ?_)
    -- X1_readFrom: ('branch', 35, 55, 38)
    · exact f55 k p h4 _ _ hk hk5 hF o4 hfm
    · refine R_aload_n dX1_readFrom_38 rfl ?_
      -- X1_readFrom: ('call', 39, '.invokevirtual', 52)
      refine R_callV v_X1_isWhole (Rd_isWhole hO4 hk5) dX1_readFrom_39 l_RX1_52 rfl rfl hO4.1 (Nat.le_of_ble_eq_true rfl) (by omega) rfl rfl (fun v h1 hq => ?_)
      obtain ⟨rfl, e9⟩ := hq
      rw [e9, if_neg hk]
      refine R_if_eq_N (tgt := 55) dX1_readFrom_42 (by decide) (by omega) (fun c42 => ?_) (fun c42 => ?_)
      -- X1_readFrom: ('branch', 42, 55, 45)
      · exact f55 k p h4 _ _ hk hk5 hF o4 hfm
      · exact absurd rfl c42
  refine R_aload_n dX1_readFrom_0 rfl ?_
  refine R_aload_n dX1_readFrom_1 rfl ?_
  refine R_iload_n dX1_readFrom_2 rfl ?_
  -- X1_readFrom: ('call', 3, '.invokevirtual', 44)
  refine R_callV v_X1_start (Rd_start (B := B) (n := n) hA (by omega)) dX1_readFrom_3 l_RX1_44 rfl rfl hA.choose_spec.choose_spec.choose_spec.choose_spec.choose_spec.choose_spec.choose_spec.choose_spec.1.1 (Nat.le_of_ble_eq_true rfl) (by omega) rfl rfl (fun v h2 hq => ?_)
  obtain ⟨rfl, o2, hO2, hP2⟩ := hq
  have hB2 := hB.out o2 (by omega)
  refine R_aload_n dX1_readFrom_6 rfl ?_
  -- X1_readFrom: ('call', 7, '.invokevirtual', 48)
  by_cases he : n ≤ 0
  · have hfm : rdForm t n = .error (1, 0) := by rw [rdForm, if_pos he]
    refine R_callV v_X1_nextByte (Rd_nextEnd hO2 (by omega) (by omega) he) dX1_readFrom_7 l_RX1_48 rfl rfl hO2.1 (Nat.le_of_ble_eq_true rfl) (by omega) rfl rfl (fun v h3 hq => ?_)
    obtain ⟨rfl, hO3, o3⟩ := hq
    have hF : Flt E h3 D B n 1 0 := ⟨_, _, _, _, hO3, hP2.ag (o3.ag (by omega))⟩
    have oo := o2.trans (o3.mono (by omega) (by omega))
    refine R_istore3 dX1_readFrom_10 (by decide) ?_
    refine R_aload_n dX1_readFrom_11 rfl ?_
    -- X1_readFrom: ('call', 12, '.invokevirtual', 52)
    refine R_callV v_X1_isWhole (Rd_isWhole hO3 (by omega)) dX1_readFrom_12 l_RX1_52 rfl rfl hO3.1 (Nat.le_of_ble_eq_true rfl) (by omega) rfl rfl (fun v h1 hq => ?_)
    obtain ⟨rfl, e9⟩ := hq
    rw [e9, if_neg (by omega)]
    refine R_if_eq_N (tgt := 29) dX1_readFrom_15 (by decide) (by omega) (fun c15 => ?_) (fun c15 => ?_)
    -- X1_readFrom: ('branch', 15, 29, 18)
    · refine R_iconst (v := nI 0) dX1_readFrom_29 (by decide) ?_
      refine R_istore4 dX1_readFrom_30 (by decide) ?_
      -- X1_readFrom: ('stop', 32)
      exact f32 1 0 h3 _ _ (by omega) (by omega) hF oo hfm
    · exact absurd rfl c15
  · obtain ⟨x, hx⟩ := getE (l := t) (i := 0) (by omega)
    have hx2 := hB.lt hx
    have hfm : rdForm t n = if 60 < x then .error (2, 0) else rdForm t n := by
      split
      · rename_i hgt
        rw [rdForm, if_neg he, getD_of hx, if_pos hgt]
      · rfl
    refine R_callV v_X1_nextByte (Rd_nextByte hO2 hB2 (by omega) (by omega) hx) dX1_readFrom_7 l_RX1_48 rfl rfl hO2.1 (Nat.le_of_ble_eq_true rfl) (by omega) rfl rfl (fun v h3 hq => ?_)
    obtain ⟨rfl, hO3, o3⟩ := hq
    have hP3 := hP2.ag (o3.ag (by omega))
    have hB3 := hB2.out o3 (by omega)
    have oo := o2.trans (o3.mono (a' := D) (b' := D + 130) (by omega) (by omega))
    refine R_istore3 dX1_readFrom_10 (by decide) ?_
    refine R_aload_n dX1_readFrom_11 rfl ?_
    -- X1_readFrom: ('call', 12, '.invokevirtual', 52)
    refine R_callV v_X1_isWhole (Rd_isWhole hO3 (by omega)) dX1_readFrom_12 l_RX1_52 rfl rfl hO3.1 (Nat.le_of_ble_eq_true rfl) (by omega) rfl rfl (fun v h1 hq => ?_)
    obtain ⟨rfl, e9⟩ := hq
    rw [e9, if_pos rfl]
    refine R_if_eq_N (tgt := 29) dX1_readFrom_15 (by decide) (by omega) (fun c15 => ?_) (fun c15 => ?_)
    -- X1_readFrom: ('branch', 15, 29, 18)
    · exact absurd c15 (by decide)
    · refine R_iload_n dX1_readFrom_18 rfl ?_
      refine R_bipush (v := nI 60) dX1_readFrom_19 (by decide) ?_
      refine R_icmp_le_N (tgt := 29) dX1_readFrom_21 (by decide) (by omega) (by omega) (fun c21 => ?_) (fun c21 => ?_)
      -- X1_readFrom: ('branch', 21, 29, 24)
      rotate_left
      · rw [if_pos (by omega)] at hfm
        refine R_aload_n dX1_readFrom_24 rfl ?_
        refine R_iconst (v := nI 2) dX1_readFrom_25 (by decide) ?_
        -- X1_readFrom: ('call', 26, '.invokevirtual', 56)
        refine R_callV v_X1_blame (Rd_blame hO3 (by omega) 2) dX1_readFrom_26 l_RX1_56 rfl rfl hO3.1 (Nat.le_of_ble_eq_true rfl) (by omega) rfl rfl (fun v h4 hq => ?_)
        obtain ⟨rfl, hO4, o4⟩ := hq
        refine R_iconst (v := nI 0) dX1_readFrom_29 (by decide) ?_
        refine R_istore4 dX1_readFrom_30 (by decide) ?_
        -- X1_readFrom: ('stop', 32)
        exact f32 2 0 h4 _ _ (by omega) (by omega) ⟨_, _, _, _, hO4, hP3.ag (o4.ag (by omega))⟩ (oo.trans (o4.mono (by omega) (by omega))) hfm
      · clear hfm
        have hle : x ≤ 60 := by omega
        have loop : ∀ c i pos lt ru h4, i + c = x → rdRules t n x 1 lt0 (fun _ => []) = rdRules t n c pos lt ru → RdInv lt ru → pos ≤ 1 + 14 * i → RdAll E h4 D B n pos 0 (-1) lt [] ru → Out h h4 D (D + 130) → WP E k_X1_readFrom 5 0 0 32 [some (.ref D), some (.ref B), some (.int (nI n)), some (.int (nI x)), some (.int (nI i))] [] h4 (fun v h' => v = none ∧ Out h h' D (D + 130) ∧ RP (rdForm t n) (fun k p => Flt E h' D B n k p) (fun a => ∃ pos lt, RdAll E h' D B n pos 0 (-1) lt a.1 a.2)) := by
          intro c
          induction c with
          | zero =>
            intro i pos lt ru h4 hi hrs hinv hpos hA4 o4
            obtain ⟨hO4, hP4⟩ := id hA4
            have hB4 := hB.out o4 (by omega)
            rw [rdRules] at hrs
            refine R_iload dX1_readFrom_32 rfl ?_
            refine R_iload_n dX1_readFrom_34 rfl ?_
            refine R_icmp_ge_N (tgt := 55) dX1_readFrom_35 (by decide) (by omega) (by omega) (fun c35 => ?_) (fun c35 => ?_)
            -- X1_readFrom: ('branch', 35, 55, 38)
            · refine R_aload_n dX1_readFrom_55 rfl ?_
              -- X1_readFrom: ('call', 56, '.invokevirtual', 52)
              refine R_callV v_X1_isWhole (Rd_isWhole hO4 (by omega)) dX1_readFrom_56 l_RX1_52 rfl rfl hO4.1 (Nat.le_of_ble_eq_true rfl) (by omega) rfl rfl (fun v h1 hq => ?_)
              obtain ⟨rfl, e9⟩ := hq
              rw [e9, if_pos rfl]
              refine R_if_eq_N (tgt := 66) dX1_readFrom_59 (by decide) (by omega) (fun c59 => ?_) (fun c59 => ?_)
              -- X1_readFrom: ('branch', 59, 66, 62)
              · exact absurd c59 (by decide)
              · refine R_aload_n dX1_readFrom_62 rfl ?_
                -- X1_readFrom: ('call', 63, '.invokevirtual', 62)
                refine R_callV v_X1_readSequence (Rd_readSequence hO4 hP4 hB4 hn (by omega) hBD hinv.1) dX1_readFrom_63 l_RX1_62 rfl rfl hO4.1 (Nat.le_of_ble_eq_true rfl) (by omega) rfl rfl (fun v h5 hq => ?_)
                obtain ⟨rfl, o5, hq⟩ := hq
                have hfm : rdForm t n = (match rdSeq t n pos lt with
                  | .error e => .error e
                  | .ok b => if b.2.1 < n then .error (1, b.2.1) else .ok (b.1, ru)) := by
                  rw [rdForm, if_neg he, getD_of hx, if_neg (by omega), hrs]; rfl
                cases hsq : rdSeq t n pos lt with
                | error e =>
                  rw [hsq] at hq hfm
                  exact f66 e.1 e.2 h5 _ _ hq.1.1 hq.1.2 hq.2 (o4.trans o5) hfm
                | ok b =>
                  rw [hsq] at hq hfm
                  obtain ⟨hO5, hP5⟩ := id hq
                  have hb2 : b.2.1 ≤ 1000000 := by
                    rw [rdSeq] at hsq
                    split at hsq
                    · cases hsq
                    split at hsq
                    · cases hsq
                    have := (rdRow_sum (by omega) hsq).2.1
                    omega
                  refine R_aload_n dX1_readFrom_66 rfl ?_
                  -- X1_readFrom: ('call', 67, '.invokevirtual', 52)
                  refine R_callV v_X1_isWhole (Rd_isWhole hO5 (by omega)) dX1_readFrom_67 l_RX1_52 rfl rfl hO5.1 (Nat.le_of_ble_eq_true rfl) (by omega) rfl rfl (fun v h1 hq => ?_)
                  obtain ⟨rfl, e9⟩ := hq
                  rw [e9, if_pos rfl]
                  refine R_if_eq_N (tgt := 99) dX1_readFrom_70 (by decide) (by omega) (fun c70 => ?_) (fun c70 => ?_)
                  -- X1_readFrom: ('branch', 70, 99, 73)
                  · exact absurd c70 (by decide)
                  · refine R_aload_n dX1_readFrom_73 rfl ?_
                    refine R_get K_1 (f := 4) (by decide) dX1_readFrom_74 f_RX1_35 hO5.1 rfl ?_
                    refine R_aload_n dX1_readFrom_77 rfl ?_
                    refine R_get K_1 (f := 3) (by decide) dX1_readFrom_78 f_RX1_31 hO5.1 rfl ?_
                    refine R_icmp_ge_N (tgt := 99) dX1_readFrom_81 (by decide) (by omega) (by omega) (fun c81 => ?_) (fun c81 => ?_)
                    -- X1_readFrom: ('branch', 81, 99, 84)
                    · have hfm : rdForm t n = .ok (b.1, ru) := hfm.trans (if_neg (by omega))
                      refine R_return dX1_readFrom_99 rfl ?_
                      -- X1_readFrom: ('ret', 99)
                      rw [hfm]
                      exact ⟨rfl, o4.trans o5, _, _, hO5, hP5⟩
                    · have hfm : rdForm t n = .error (1, b.2.1) := hfm.trans (if_pos (by omega))
                      refine R_aload_n dX1_readFrom_84 rfl ?_
                      refine R_dup dX1_readFrom_85 rfl ?_
                      refine R_get K_1 (f := 4) (by decide) dX1_readFrom_86 f_RX1_35 hO5.1 rfl ?_
                      refine R_iconst (v := nI 1) dX1_readFrom_89 (by decide) ?_
                      refine R_iadd_N dX1_readFrom_90 ?_
                      refine R_put_A K_1 (f := 4) (by decide) dX1_readFrom_91 f_RX1_35 rfl hO5.1 (by rfl) (by rfl) (Nat.le_of_ble_eq_true rfl) ?_
                      -- X1_readFrom: ('put', 94)
                      intro h6 u6
                      have hO6 : RdO E h6 D B n (b.2.1 + 1) 0 (-1) lt := ⟨u6.2.1, hO5.2.eq (u6.2.2 _ (by omega))⟩
                      refine R_aload_n dX1_readFrom_94 rfl ?_
                      refine R_iconst (v := nI 1) dX1_readFrom_95 (by decide) ?_
                      -- X1_readFrom: ('call', 96, '.invokevirtual', 56)
                      refine R_callV v_X1_blame (Rd_blame hO6 (by omega) 1) dX1_readFrom_96 l_RX1_56 rfl rfl hO6.1 (Nat.le_of_ble_eq_true rfl) (by omega) rfl rfl (fun v h7 hq => ?_)
                      obtain ⟨rfl, hO7, o7⟩ := hq
                      refine R_return dX1_readFrom_99 rfl ?_
                      -- X1_readFrom: ('ret', 99)
                      rw [hfm]
                      exact ⟨rfl, ((o4.trans o5).trans (Out.upd u6 (by omega) (by omega))).trans (o7.mono (by omega) (by omega)), ⟨Nat.one_ne_zero, (by show 1 < 5; decide)⟩, _, _, _, _, hO7, (hP5.ag (fun q _ _ => u6.2.2 q (by omega))).ag (o7.ag (by omega))⟩
            · exact absurd c35 (by omega)
          | succ c ih =>
            intro i pos lt ru h4 hi hrs hinv hpos hA4 o4
            obtain ⟨hO4, hP4⟩ := id hA4
            have hB4 := hB.out o4 (by omega)
            rw [rdRules] at hrs
            refine R_iload dX1_readFrom_32 rfl ?_
            refine R_iload_n dX1_readFrom_34 rfl ?_
            refine R_icmp_ge_N (tgt := 55) dX1_readFrom_35 (by decide) (by omega) (by omega) (fun c35 => ?_) (fun c35 => ?_)
            -- X1_readFrom: ('branch', 35, 55, 38)
            · exact absurd c35 (by omega)
            · refine R_aload_n dX1_readFrom_38 rfl ?_
              -- X1_readFrom: ('call', 39, '.invokevirtual', 52)
              refine R_callV v_X1_isWhole (Rd_isWhole hO4 (by omega)) dX1_readFrom_39 l_RX1_52 rfl rfl hO4.1 (Nat.le_of_ble_eq_true rfl) (by omega) rfl rfl (fun v h1 hq => ?_)
              obtain ⟨rfl, e9⟩ := hq
              rw [e9, if_pos rfl]
              refine R_if_eq_N (tgt := 55) dX1_readFrom_42 (by decide) (by omega) (fun c42 => ?_) (fun c42 => ?_)
              -- X1_readFrom: ('branch', 42, 55, 45)
              · exact absurd c42 (by decide)
              · refine R_aload_n dX1_readFrom_45 rfl ?_
                -- X1_readFrom: ('call', 46, '.invokevirtual', 59)
                refine R_callV v_X1_readRule (Rd_readRule hO4 hP4 hB4 hn (by omega) hBD hinv.1 hinv.2) dX1_readFrom_46 l_RX1_59 rfl rfl hO4.1 (Nat.le_of_ble_eq_true rfl) (by omega) rfl rfl (fun v h5 hq => ?_)
                obtain ⟨rfl, o5, hq⟩ := hq
                refine R_iinc4 dX1_readFrom_49 (by decide) (nI_inc _ 1) ?_
                refine R_goto (tgt := 32) dX1_readFrom_52 (by decide) ?_
                -- X1_readFrom: ('stop', 32)
                cases hru : rdRule t n pos lt ru with
                | error e =>
                  rw [hru] at hq hrs
                  have hfm : rdForm t n = .error (e.1, e.2) := by
                    rw [rdForm, if_neg he, getD_of hx, if_neg (by omega), hrs]
                  exact f32 e.1 e.2 h5 _ _ hq.1.1 hq.1.2 hq.2 (o4.trans o5) hfm
                | ok a =>
                  rw [hru] at hq hrs
                  have hia := rdRule_inv hinv hru
                  exact ih (i + 1) a.1 a.2.1 a.2.2 h5 (by omega) hrs hia.1 (by omega) hq (o4.trans o5)
        refine R_iconst (v := nI 0) dX1_readFrom_29 (by decide) ?_
        refine R_istore4 dX1_readFrom_30 (by decide) ?_
        -- X1_readFrom: ('stop', 32)
        exact loop x 0 1 lt0 _ h3 (by omega) rfl rdInv0 (by omega) ⟨hO3, hP3⟩ oo
end READER3
