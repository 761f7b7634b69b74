/-! FORMREADER: a row, a rule read off bytes -/
def ltv (lt : Nat → Nat) (s : Nat) : Nat := if s < 86 then lt s else 0
def rdRow (t : List Nat) (n : Nat) (lt : Nat → Nat) : Nat → Nat → Nat → List Nat → Except (Nat × Nat) (List Nat × Nat × Nat)
  | 0, pos, sum, acc => .ok (acc, pos, sum)
  | m + 1, pos, sum, acc => if n ≤ pos then .error (1, pos) else if ltv lt (t.getD pos 0) = 0 then .error (3, pos) else if 240 < sum + ltv lt (t.getD pos 0) then .error (4, pos) else rdRow t n lt m (pos + 1) (sum + ltv lt (t.getD pos 0)) (acc ++ [t.getD pos 0])
def RP {α : Type} (x : Except (Nat × Nat) α) (er : Nat → Nat → Prop) (ok : α → Prop) : Prop := match x with
  | .error e => (e.1 ≠ 0 ∧ e.1 < 5) ∧ er e.1 e.2
  | .ok a => ok a
def rdMk (t : List Nat) (n : Nat) (lt : Nat → Nat) (ru : Ru) (x m pos : Nat) : Except (Nat × Nat) (Nat × (Nat → Nat) × Ru) := match rdRow t n lt m pos 0 [] with
  | .error e => .error e
  | .ok a => .ok (a.2.1, (fun y => if y = x then a.2.2 else lt y), ruSet ru (x - 26) a.1)
def rdRule (t : List Nat) (n pos : Nat) (lt : Nat → Nat) (ru : Ru) : Except (Nat × Nat) (Nat × (Nat → Nat) × Ru) :=
  if n ≤ pos then .error (1, pos) else if t.getD pos 0 < 26 ∨ 86 ≤ t.getD pos 0 then .error (2, pos) else if 0 < lt (t.getD pos 0) then .error (3, pos)
  else if n ≤ pos + 1 then .error (1, pos + 1) else if t.getD (pos + 1) 0 < 2 ∨ 12 < t.getD (pos + 1) 0 then .error (2, pos + 1)
  else rdMk t n lt ru (t.getD pos 0) (t.getD (pos + 1) 0) (pos + 2)
theorem getD_of {t : List Nat} {i x : Nat} (h : t[i]? = some x) : t.getD i 0 = x := by simp [List.getD, h]
def RdO (E : EnvT) (h : Hp) (D B n pos k : Nat) (pl : Int32) (lt : Nat → Nat) : Prop := h.2 D = some (.inr (1, [.ref (D + 1), .ref (D + 127), .ref B, .int (nI n), .int (nI pos), .int (nI k), .int pl])) ∧ arrN E h (D + 127) lt
theorem RdO.eq {E : EnvT} {h h1 : Hp} {D B n pos k : Nat} {pl : Int32} {lt : Nat → Nat} (x : RdO E h D B n pos k pl lt) (o1 : h1.2 D = h.2 D) (o2 : h1.2 (D + 127) = h.2 (D + 127)) : RdO E h1 D B n pos k pl lt := ⟨o1.trans x.1, x.2.eq o2⟩
theorem PackAt.setRule2 {E : EnvT} {h h1 : Hp} {P i : Nat} {sq l : List Nat} {ru : Ru} (x : PackAt E h P sq ru) (hi : i < 60) (hR : RowAt E h1 (P + 6 + 2 * i) 12 l) (o : ∀ q, P ≤ q → q < P + 126 → (q < P + 6 + 2 * i ∨ P + 6 + 2 * i + 2 ≤ q) → h1.2 q = h.2 q) : PackAt E h1 P sq (ruSet ru i l) := by
  obtain ⟨h1, h2, ⟨g, h3, h3'⟩, h4, h5⟩ := x
  refine ⟨(o P (by omega) (by omega) (by omega)).trans h1, h2.ag (fun q _ _ => o q (by omega) (by omega) (by omega)), ⟨g, (o _ (by omega) (by omega) (by omega)).trans h3, h3'⟩, h4.ag (fun q _ _ => o q (by omega) (by omega) (by omega)), fun j hj => ?_⟩
  by_cases hji : j = i
  · subst hji; simpa [ruSet] using hR
  · simp only [ruSet, if_neg hji]
    exact (h5 j hj).ag (fun q _ _ => o q (by omega) (by omega) (by omega))
theorem PackAt.setSeq2 {E : EnvT} {h h1 : Hp} {P : Nat} {sq l : List Nat} {ru : Ru} (x : PackAt E h P sq ru) (hR : RowAt E h1 (P + 1) 240 l) (o : ∀ q, P ≤ q → q < P + 126 → (q < P + 1 ∨ P + 3 ≤ q) → h1.2 q = h.2 q) : PackAt E h1 P l ru := by
  obtain ⟨h1, h2, ⟨g, h3, h3'⟩, h4, h5⟩ := x
  exact ⟨(o P (by omega) (by omega) (by omega)).trans h1, hR, ⟨g, (o _ (by omega) (by omega) (by omega)).trans h3, h3'⟩, h4.ag (fun q _ _ => o q (by omega) (by omega) (by omega)), fun j hj => (h5 j hj).ag (fun q _ _ => o q (by omega) (by omega) (by omega))⟩
section READER
variable {E : EnvT} {h : Hp} {D B n pos k capB : Nat} {pl : Int32} {lt : Nat → Nat} {t : List Nat} {sq : List Nat} {ru : Ru}
theorem Rd_isWhole (hO : RdO E h D B n pos k pl lt) (hk : k < 5) : Spec E k_X1_isWhole 1 0 0 [.ref D] h (fun v h' => v = some (.int (nI (if k = 0 then 1 else 0))) ∧ h' = h) := by
  refine Spec.of (by decide +kernel) (by simp [Value.category]) (Nat.le_of_ble_eq_true rfl) ?_
  show WP E k_X1_isWhole 1 0 0 0 [some (.ref D)] [] h _
  refine R_aload_n dX1_isWhole_0 rfl ?_
  refine R_get K_1 (f := 5) (by decide) dX1_isWhole_1 f_RX1_38 hO.1 rfl ?_
  refine R_if_ne_N (tgt := 11) dX1_isWhole_4 (by decide) (by omega) (fun c4 => ?_) (fun c4 => ?_)
  -- X1_isWhole: ('branch', 4, 11, 7)
  · refine R_iconst (v := nI 0) dX1_isWhole_11 (by decide) ?_
    refine R_ireturn dX1_isWhole_12 rfl (by rfl) ?_
    -- X1_isWhole: ('ret', 12)
    exact ⟨by rw [if_neg (by omega)], rfl⟩
  · refine R_iconst (v := nI 1) dX1_isWhole_7 (by decide) ?_
    refine R_goto (tgt := 12) dX1_isWhole_8 (by decide) ?_
    refine R_ireturn dX1_isWhole_12 rfl (by rfl) ?_
    -- X1_isWhole: ('ret', 12)
    exact ⟨by rw [if_pos (by omega)], rfl⟩
theorem Rd_blame (hO : RdO E h D B n pos k pl lt) (hp : 1 ≤ pos) (k2 : Nat) : Spec E k_X1_blame 1 0 0 [.ref D, .int (nI k2)] h (fun v h' => v = none ∧ RdO E h' D B n pos k2 (nI (pos - 1)) lt ∧ Out h h' D (D + 1)) := by
  refine Spec.of (by decide +kernel) (by simp [Value.category]) (Nat.le_of_ble_eq_true rfl) ?_
  show WP E k_X1_blame 1 0 0 0 [some (.ref D), some (.int (nI k2))] [] h _
  refine R_aload_n dX1_blame_0 rfl ?_
  refine R_iload_n dX1_blame_1 rfl ?_
  refine R_put_A K_1 (f := 5) (by decide) dX1_blame_2 f_RX1_38 rfl hO.1 (by rfl) (by rfl) (Nat.le_of_ble_eq_true rfl) ?_
  -- X1_blame: ('put', 5)
  intro h1 u1
  refine R_aload_n dX1_blame_5 rfl ?_
  refine R_aload_n dX1_blame_6 rfl ?_
  refine R_get K_1 (f := 4) (by decide) dX1_blame_7 f_RX1_35 u1.2.1 rfl ?_
  refine R_iconst (v := nI 1) dX1_blame_10 (by decide) ?_
  refine R_isub_N dX1_blame_11 (by omega) ?_
  refine R_put_A K_1 (f := 6) (by decide) dX1_blame_12 f_RX1_41 rfl u1.2.1 (by rfl) (by rfl) (Nat.le_of_ble_eq_true rfl) ?_
  -- X1_blame: ('put', 15)
  intro h2 u2
  refine R_return dX1_blame_15 rfl ?_
  -- X1_blame: ('ret', 15)
  exact ⟨rfl, ⟨u2.2.1, hO.2.eq ((u2.2.2 _ (by omega)).trans (u1.2.2 _ (by omega)))⟩, (Out.upd u1 (by omega) (by omega)).trans (Out.upd u2 (by omega) (by omega))⟩
theorem Rd_lettersOf (hO : RdO E h D B n pos k pl lt) (x : Int32) : Spec E k_X1_lettersOf 1 0 0 [.ref D, .int x] h (fun v h' => v = some (.int (nI (rlen lt x))) ∧ h' = h) := by
  obtain ⟨g0, f, g4, hf⟩ := id hO
  refine Spec.of (by decide +kernel) (by simp [Value.category]) (Nat.le_of_ble_eq_true rfl) ?_
  show WP E k_X1_lettersOf 1 0 0 0 [some (.ref D), some (.int x)] [] h _
  refine R_iload_n dX1_lettersOf_0 rfl ?_
  refine R_if_lt (tgt := 19) dX1_lettersOf_1 (by decide) (fun c1 => ?_) (fun c1 => ?_)
  -- X1_lettersOf: ('branch', 1, 19, 4)
  · refine R_iconst (v := nI 0) dX1_lettersOf_19 (by decide) ?_
    refine R_ireturn dX1_lettersOf_20 rfl rfl ?_
    -- X1_lettersOf: ('ret', 20)
    exact ⟨by rw [rlen, if_pos c1], rfl⟩
  · obtain ⟨n, hn, rfl⟩ := nI_of c1
    rw [rlen_nI hn]
    refine R_iload_n dX1_lettersOf_4 rfl ?_
    refine R_bipush (v := nI 86) dX1_lettersOf_5 (by decide) ?_
    refine R_icmp_ge_N (tgt := 19) dX1_lettersOf_7 (by decide) (by omega) (by omega) (fun c7 => ?_) (fun c7 => ?_)
    -- X1_lettersOf: ('branch', 7, 19, 10)
    · refine R_iconst (v := nI 0) dX1_lettersOf_19 (by decide) ?_
      refine R_ireturn dX1_lettersOf_20 rfl rfl ?_
      -- X1_lettersOf: ('ret', 20)
      exact ⟨by rw [if_neg (by omega)], rfl⟩
    · refine R_aload_n dX1_lettersOf_10 rfl ?_
      refine R_get K_1 (f := 1) (by decide) dX1_lettersOf_11 f_RX1_18 (by first | exact g0 | exact g4) rfl ?_
      refine R_iload_n dX1_lettersOf_14 rfl ?_
      refine R_iaload_N dX1_lettersOf_15 (by first | exact g0 | exact g4) (by omega) (by omega) (hf n (by omega)) ?_
      refine R_goto (tgt := 20) dX1_lettersOf_16 (by decide) ?_
      refine R_ireturn dX1_lettersOf_20 rfl rfl ?_
      -- X1_lettersOf: ('ret', 20)
      exact ⟨by rw [if_pos c7], rfl⟩
theorem Rd_nextEnd (hO : RdO E h D B n pos k pl lt) (hn : n < 2 ^ 30) (hp : pos < 2 ^ 30) (he : n ≤ pos) : Spec E k_X1_nextByte 2 0 0 [.ref D] h (fun v h' => v = some (.int (-1)) ∧ RdO E h' D B n (pos + 1) 1 (nI pos) lt ∧ Out h h' D (D + 1)) := by
  refine Spec.of (by decide +kernel) (by simp [Value.category]) (Nat.le_of_ble_eq_true rfl) ?_
  show WP E k_X1_nextByte 2 0 0 0 [some (.ref D), none] [] h _
  refine R_aload_n dX1_nextByte_0 rfl ?_
  refine R_get K_1 (f := 4) (by decide) dX1_nextByte_1 f_RX1_35 hO.1 rfl ?_
  refine R_aload_n dX1_nextByte_4 rfl ?_
  refine R_get K_1 (f := 3) (by decide) dX1_nextByte_5 f_RX1_31 hO.1 rfl ?_
  refine R_icmp_lt_N (tgt := 28) dX1_nextByte_8 (by decide) (by omega) (by omega) (fun c8 => ?_) (fun c8 => ?_)
  -- X1_nextByte: ('branch', 8, 28, 11)
  · exact absurd c8 (by omega)
  · refine R_aload_n dX1_nextByte_11 rfl ?_
    refine R_dup dX1_nextByte_12 rfl ?_
    refine R_get K_1 (f := 4) (by decide) dX1_nextByte_13 f_RX1_35 hO.1 rfl ?_
    refine R_iconst (v := nI 1) dX1_nextByte_16 (by decide) ?_
    refine R_iadd_N dX1_nextByte_17 ?_
    refine R_put_A K_1 (f := 4) (by decide) dX1_nextByte_18 f_RX1_35 rfl hO.1 (by rfl) (by rfl) (Nat.le_of_ble_eq_true rfl) ?_
    -- X1_nextByte: ('put', 21)
    intro h1 u1
    have hO1 : RdO E h1 D B n (pos + 1) k pl lt := ⟨u1.2.1, hO.2.eq (u1.2.2 _ (by omega))⟩
    refine R_aload_n dX1_nextByte_21 rfl ?_
    refine R_iconst (v := nI 1) dX1_nextByte_22 (by decide) ?_
    -- X1_nextByte: ('call', 23, '.invokevirtual', 56)
    refine R_callV v_X1_blame (Rd_blame hO1 (by omega) 1) dX1_nextByte_23 l_RX1_56 rfl rfl hO1.1 (Nat.le_of_ble_eq_true rfl) (by omega) rfl rfl (fun v h2 hq => ?_)
    obtain ⟨rfl, hO2, o2⟩ := hq
    refine R_iconst (v := (-1)) dX1_nextByte_26 (by decide) ?_
    refine R_ireturn dX1_nextByte_27 rfl rfl ?_
    -- X1_nextByte: ('ret', 27)
    exact ⟨rfl, hO2, (Out.upd u1 (by omega) (by omega)).trans o2⟩
theorem Rd_nextByte (hO : RdO E h D B n pos k pl lt) (hB : RowAt E h B capB t) (hn : n < 2 ^ 30) (hp : pos < n) {x : Nat} (hx : t[pos]? = some x) : Spec E k_X1_nextByte 2 0 0 [.ref D] h (fun v h' => v = some (.int (nI x)) ∧ RdO E h' D B n (pos + 1) k pl lt ∧ Out h h' D (D + 1)) := by
  refine Spec.of (by decide +kernel) (by simp [Value.category]) (Nat.le_of_ble_eq_true rfl) ?_
  show WP E k_X1_nextByte 2 0 0 0 [some (.ref D), none] [] h _
  refine R_aload_n dX1_nextByte_0 rfl ?_
  refine R_get K_1 (f := 4) (by decide) dX1_nextByte_1 f_RX1_35 hO.1 rfl ?_
  refine R_aload_n dX1_nextByte_4 rfl ?_
  refine R_get K_1 (f := 3) (by decide) dX1_nextByte_5 f_RX1_31 hO.1 rfl ?_
  refine R_icmp_lt_N (tgt := 28) dX1_nextByte_8 (by decide) (by omega) (by omega) (fun c8 => ?_) (fun c8 => ?_)
  -- X1_nextByte: ('branch', 8, 28, 11)
  · refine R_aload_n dX1_nextByte_28 rfl ?_
    refine R_get K_1 (f := 2) (by decide) dX1_nextByte_29 f_RX1_27 hO.1 rfl ?_
    refine R_aload_n dX1_nextByte_32 rfl ?_
    refine R_get K_1 (f := 4) (by decide) dX1_nextByte_33 f_RX1_35 hO.1 rfl ?_
    -- X1_nextByte: ('call', 36, '.invokevirtual', 72)
    refine R_callV v_X6_get (Row_get hB (nI pos)) dX1_nextByte_36 l_RX1_72 rfl rfl hB.2.2.1 (Nat.le_of_ble_eq_true rfl) (by omega) rfl rfl (fun v h1 hq => ?_)
    obtain ⟨rfl, e9⟩ := hq
    rw [e9, rget_in (by omega) hx]
    refine R_istore1 dX1_nextByte_39 (by decide) ?_
    refine R_aload_n dX1_nextByte_40 rfl ?_
    refine R_dup dX1_nextByte_41 rfl ?_
    refine R_get K_1 (f := 4) (by decide) dX1_nextByte_42 f_RX1_35 hO.1 rfl ?_
    refine R_iconst (v := nI 1) dX1_nextByte_45 (by decide) ?_
    refine R_iadd_N dX1_nextByte_46 ?_
    refine R_put_A K_1 (f := 4) (by decide) dX1_nextByte_47 f_RX1_35 rfl hO.1 (by rfl) (by rfl) (Nat.le_of_ble_eq_true rfl) ?_
    -- X1_nextByte: ('put', 50)
    intro h1 u1
    refine R_iload_n dX1_nextByte_50 rfl ?_
    refine R_ireturn dX1_nextByte_51 rfl rfl ?_
    -- X1_nextByte: ('ret', 51)
    exact ⟨rfl, ⟨u1.2.1, hO.2.eq (u1.2.2 _ (by omega))⟩, Out.upd u1 (by omega) (by omega)⟩
  · exact absurd hp (by omega)
theorem Rd_readRow_off (hO : RdO E h D B n pos k pl lt) (hk : k ≠ 0) (hk5 : k < 5) (r : Nat) (x : Int32) : Spec E k_X1_readRow 3 0 0 [.ref D, .ref r, .int x] h (fun v h' => v = some (.int (nI 0)) ∧ h' = h) := by
  refine Spec.of (by decide +kernel) (by simp [Value.category]) (Nat.le_of_ble_eq_true rfl) ?_
  show WP E k_X1_readRow 3 0 0 0 [some (.ref D), some (.ref r), some (.int x), none, none, none] [] h _
  refine R_iconst (v := nI 0) dX1_readRow_0 (by decide) ?_
  refine R_istore3 dX1_readRow_1 (by decide) ?_
  refine R_iconst (v := nI 0) dX1_readRow_2 (by decide) ?_
  refine R_istore4 dX1_readRow_3 (by decide) ?_
  refine R_iload dX1_readRow_5 rfl ?_
  refine R_iload_n dX1_readRow_7 rfl ?_
  refine R_icmp_ge (tgt := 81) dX1_readRow_8 (by decide) (fun c8 => ?_) (fun c8 => ?_)
  -- X1_readRow: ('branch', 8, 81, 11)
  · refine R_iload_n dX1_readRow_81 rfl ?_
    refine R_ireturn dX1_readRow_82 rfl rfl ?_
    -- X1_readRow: ('ret', 82)
    exact ⟨rfl, rfl⟩
  · refine R_aload_n dX1_readRow_11 rfl ?_
    -- X1_readRow: ('call', 12, '.invokevirtual', 52)
    refine R_callV v_X1_isWhole (Rd_isWhole hO hk5) dX1_readRow_12 l_RX1_52 rfl rfl hO.1 (Nat.le_of_ble_eq_true rfl) (by omega) rfl rfl (fun v h1 hq => ?_)
    obtain ⟨rfl, e9⟩ := hq
    rw [e9, if_neg hk]
    refine R_if_eq_N (tgt := 81) dX1_readRow_15 (by decide) (by omega) (fun c15 => ?_) (fun c15 => ?_)
    -- X1_readRow: ('branch', 15, 81, 18)
    · refine R_iload_n dX1_readRow_81 rfl ?_
      refine R_ireturn dX1_readRow_82 rfl rfl ?_
      -- X1_readRow: ('ret', 82)
      exact ⟨rfl, rfl⟩
    · exact absurd rfl c15
set_option maxHeartbeats 1000000 in
theorem Rd_readRow (hO : RdO E h D B n pos 0 pl lt) (hB : RowAt E h B capB t) (hn : n ≤ t.length) (hp : pos ≤ 1000000) {r cap m : Nat} {l : List Nat} (hR : RowAt E h r cap l) (hm : m + l.length ≤ cap) (hBD : B + 2 ≤ D ∨ D + 130 ≤ B) (hrD : D < r ∧ r + 2 ≤ D + 127) (hlt : ∀ s, lt s ≤ 240) : Spec E k_X1_readRow 3 0 0 [.ref D, .ref r, .int (nI m)] h (fun v h' => Out2 h h' D (D + 1) r (r + 2) ∧ RP (rdRow t n lt m pos 0 []) (fun k p => ∃ z pos2 l2, v = some (.int (nI z)) ∧ RdO E h' D B n pos2 k (nI p) lt ∧ RowAt E h' r cap l2) (fun a => v = some (.int (nI a.2.2)) ∧ RdO E h' D B n a.2.1 0 pl lt ∧ RowAt E h' r cap (l ++ a.1))) := by
  have hcap := hR.2.1
  have hBc := hB.2.1
  have hBl := hB.1
  have hltv : ∀ s, ltv lt s ≤ 240 := fun s => by rw [ltv]; have := hlt s; split <;> omega
  refine Spec.of (by decide +kernel) (by simp [Value.category]) (Nat.le_of_ble_eq_true rfl) ?_
  show WP E k_X1_readRow 3 0 0 0 [some (.ref D), some (.ref r), some (.int (nI m)), none, none, none] [] h _
  have off : ∀ i h2 k p pos2 sum l2 x5, i ≤ m → k ≠ 0 → k < 5 → RdO E h2 D B n pos2 k (nI p) lt → RowAt E h2 r cap l2 → Out2 h h2 D (D + 1) r (r + 2) → rdRow t n lt m pos 0 [] = .error (k, p) → WP E k_X1_readRow 3 0 0 5 [some (.ref D), some (.ref r), some (.int (nI m)), some (.int (nI sum)), some (.int (nI i)), x5] [] h2 (fun v h' => Out2 h h' D (D + 1) r (r + 2) ∧ RP (rdRow t n lt m pos 0 []) (fun k p => ∃ z pos2 l2, v = some (.int (nI z)) ∧ RdO E h' D B n pos2 k (nI p) lt ∧ RowAt E h' r cap l2) (fun a => v = some (.int (nI a.2.2)) ∧ RdO E h' D B n a.2.1 0 pl lt ∧ RowAt E h' r cap (l ++ a.1))) := by
    intro i h2 k p pos2 sum l2 x5 hi hk hk5 k1 k2 k3 k4
    refine R_iload dX1_readRow_5 rfl ?_
    refine R_iload_n dX1_readRow_7 rfl ?_
    refine R_icmp_ge_N (tgt := 81) dX1_readRow_8 (by decide) (by omega) (by omega) (fun c8 => ?_) (fun c8 => ?_)
    -- X1_readRow: ('branch', 8, 81, 11)
    · refine R_iload_n dX1_readRow_81 rfl ?_
      refine R_ireturn dX1_readRow_82 rfl rfl ?_
      -- X1_readRow: ('ret', 82)
      rw [k4]
      exact ⟨k3, ⟨hk, hk5⟩, _, _, _, rfl, k1, k2⟩
    · refine R_aload_n dX1_readRow_11 rfl ?_
      -- X1_readRow: ('call', 12, '.invokevirtual', 52)
      refine R_callV v_X1_isWhole (Rd_isWhole k1 hk5) dX1_readRow_12 l_RX1_52 rfl rfl k1.1 (Nat.le_of_ble_eq_true rfl) (by omega) rfl rfl (fun v h1 hq => ?_)
      obtain ⟨rfl, e9⟩ := hq
      rw [e9, if_neg hk]
      refine R_if_eq_N (tgt := 81) dX1_readRow_15 (by decide) (by omega) (fun c15 => ?_) (fun c15 => ?_)
      -- X1_readRow: ('branch', 15, 81, 18)
      · refine R_iload_n dX1_readRow_81 rfl ?_
        refine R_ireturn dX1_readRow_82 rfl rfl ?_
        -- X1_readRow: ('ret', 82)
        rw [k4]
        exact ⟨k3, ⟨hk, hk5⟩, _, _, _, rfl, k1, k2⟩
      · exact absurd rfl c15
  have loop : ∀ rem i pos2 sum acc h2 x5, i + rem = m → rdRow t n lt m pos 0 [] = rdRow t n lt rem pos2 sum acc → RdO E h2 D B n pos2 0 pl lt → RowAt E h2 r cap (l ++ acc) → acc.length = i → pos2 = pos + i → sum ≤ 240 → Out2 h h2 D (D + 1) r (r + 2) → WP E k_X1_readRow 3 0 0 5 [some (.ref D), some (.ref r), some (.int (nI m)), some (.int (nI sum)), some (.int (nI i)), x5] [] h2 (fun v h' => Out2 h h' D (D + 1) r (r + 2) ∧ RP (rdRow t n lt m pos 0 []) (fun k p => ∃ z pos2 l2, v = some (.int (nI z)) ∧ RdO E h' D B n pos2 k (nI p) lt ∧ RowAt E h' r cap l2) (fun a => v = some (.int (nI a.2.2)) ∧ RdO E h' D B n a.2.1 0 pl lt ∧ RowAt E h' r cap (l ++ a.1))) := by
    intro rem
    induction rem with
    | zero =>
      intro i pos2 sum acc h2 x5 hi hrd k1 k2 hal hp2 hs k3
      refine R_iload dX1_readRow_5 rfl ?_
      refine R_iload_n dX1_readRow_7 rfl ?_
      refine R_icmp_ge_N (tgt := 81) dX1_readRow_8 (by decide) (by omega) (by omega) (fun c8 => ?_) (fun c8 => ?_)
      -- X1_readRow: ('branch', 8, 81, 11)
      · refine R_iload_n dX1_readRow_81 rfl ?_
        refine R_ireturn dX1_readRow_82 rfl rfl ?_
        -- X1_readRow: ('ret', 82)
        rw [hrd, rdRow]
        exact ⟨k3, rfl, k1, k2⟩
      · exact absurd c8 (by omega)
    | succ rem ih =>
      intro i pos2 sum acc h2 x5 hi hrd k1 k2 hal hp2 hs k3
      rw [rdRow] at hrd
      have hB2 := hB.ag (k3.ag (a' := B) (b' := B + 2) (by omega) (by omega))
      have hlen : (l ++ acc).length < cap := by rw [List.length_append]; omega
      refine R_iload dX1_readRow_5 rfl ?_
      refine R_iload_n dX1_readRow_7 rfl ?_
      refine R_icmp_ge_N (tgt := 81) dX1_readRow_8 (by decide) (by omega) (by omega) (fun c8 => ?_) (fun c8 => ?_)
      -- X1_readRow: ('branch', 8, 81, 11)
      · exact absurd c8 (by omega)
      · refine R_aload_n dX1_readRow_11 rfl ?_
        -- X1_readRow: ('call', 12, '.invokevirtual', 52)
        refine R_callV v_X1_isWhole (Rd_isWhole k1 (by omega)) dX1_readRow_12 l_RX1_52 rfl rfl k1.1 (Nat.le_of_ble_eq_true rfl) (by omega) rfl rfl (fun v h1 hq => ?_)
        obtain ⟨rfl, e9⟩ := hq
        rw [e9, if_pos rfl]
        refine R_if_eq_N (tgt := 81) dX1_readRow_15 (by decide) (by omega) (fun c15 => ?_) (fun c15 => ?_)
        -- X1_readRow: ('branch', 15, 81, 18)
        · exact absurd c15 (by decide)
        · refine R_aload_n dX1_readRow_18 rfl ?_
          -- X1_readRow: ('call', 19, '.invokevirtual', 48)
          by_cases he : n ≤ pos2
          · rw [if_pos he] at hrd
            refine R_callV v_X1_nextByte (Rd_nextEnd k1 (by omega) (by omega) he) dX1_readRow_19 l_RX1_48 rfl rfl k1.1 (Nat.le_of_ble_eq_true rfl) (by omega) rfl rfl (fun v h3 hq => ?_)
            obtain ⟨rfl, hO3, o3⟩ := hq
            refine R_istore5 dX1_readRow_22 (by decide) ?_
            refine R_aload_n dX1_readRow_24 rfl ?_
            -- X1_readRow: ('call', 25, '.invokevirtual', 52)
            refine R_callV v_X1_isWhole (Rd_isWhole hO3 (by omega)) dX1_readRow_25 l_RX1_52 rfl rfl hO3.1 (Nat.le_of_ble_eq_true rfl) (by omega) rfl rfl (fun v h1 hq => ?_)
            obtain ⟨rfl, e9⟩ := hq
            rw [e9, if_neg (by omega)]
            refine R_if_eq_N (tgt := 75) dX1_readRow_28 (by decide) (by omega) (fun c28 => ?_) (fun c28 => ?_)
            -- X1_readRow: ('branch', 28, 75, 31)
            · refine R_iinc4 dX1_readRow_75 (by decide) (nI_inc _ 1) ?_
              refine R_goto (tgt := 5) dX1_readRow_78 (by decide) ?_
              -- X1_readRow: ('stop', 5)
              exact off (i + 1) h3 1 pos2 _ _ _ _ (by omega) (by omega) (by omega) hO3 (k2.out o3 (by omega)) (k3.trans (o3.two (by omega))) hrd
            · exact absurd rfl c28
          · rw [if_neg he] at hrd
            obtain ⟨x, hx⟩ := getE (l := t) (i := pos2) (by omega)
            have hx2 := hB.lt hx
            rw [getD_of hx] at hrd
            have hlx := hltv x
            refine R_callV v_X1_nextByte (Rd_nextByte k1 hB2 (by omega) (by omega) hx) dX1_readRow_19 l_RX1_48 rfl rfl k1.1 (Nat.le_of_ble_eq_true rfl) (by omega) rfl rfl (fun v h3 hq => ?_)
            obtain ⟨rfl, hO3, o3⟩ := hq
            have hR3 := k2.out o3 (by omega)
            have o3' := k3.trans (o3.two (by omega))
            refine R_istore5 dX1_readRow_22 (by decide) ?_
            refine R_aload_n dX1_readRow_24 rfl ?_
            -- X1_readRow: ('call', 25, '.invokevirtual', 52)
            refine R_callV v_X1_isWhole (Rd_isWhole hO3 (by omega)) dX1_readRow_25 l_RX1_52 rfl rfl hO3.1 (Nat.le_of_ble_eq_true rfl) (by omega) rfl rfl (fun v h1 hq => ?_)
            obtain ⟨rfl, e9⟩ := hq
            rw [e9, if_pos rfl]
            refine R_if_eq_N (tgt := 75) dX1_readRow_28 (by decide) (by omega) (fun c28 => ?_) (fun c28 => ?_)
            -- X1_readRow: ('branch', 28, 75, 31)
            · exact absurd c28 (by decide)
            · refine R_iload_n dX1_readRow_31 rfl ?_
              refine R_aload_n dX1_readRow_32 rfl ?_
              refine R_iload dX1_readRow_33 rfl ?_
              -- X1_readRow: ('call', 35, '.invokevirtual', 76)
              refine R_callV v_X1_lettersOf (Rd_lettersOf hO3 (nI x)) dX1_readRow_35 l_RX1_76 rfl rfl hO3.1 (Nat.le_of_ble_eq_true rfl) (by omega) rfl rfl (fun v h1 hq => ?_)
              obtain ⟨rfl, e9⟩ := hq
              rw [e9, rlen_nI (by omega), ← ltv]
              refine R_iadd_N dX1_readRow_38 ?_
              refine R_istore3 dX1_readRow_39 (by decide) ?_
              refine R_aload_n dX1_readRow_40 rfl ?_
              refine R_iload dX1_readRow_41 rfl ?_
              -- X1_readRow: ('call', 43, '.invokevirtual', 76)
              refine R_callV v_X1_lettersOf (Rd_lettersOf hO3 (nI x)) dX1_readRow_43 l_RX1_76 rfl rfl hO3.1 (Nat.le_of_ble_eq_true rfl) (by omega) rfl rfl (fun v h1 hq => ?_)
              obtain ⟨rfl, e9⟩ := hq
              rw [e9, rlen_nI (by omega), ← ltv]
              -- the sign goes to the row, then on
              have put : ∀ h4 (kk : ∀ h5, RowAt E h5 r cap (l ++ (acc ++ [x])) → Out h4 h5 r (r + 2) → WP E k_X1_readRow 3 0 0 5 [some (.ref D), some (.ref r), some (.int (nI m)), some (.int (nI (sum + ltv lt x))), some (.int (nI (i + 1))), some (.int (nI x))] [] h5 (fun v h' => Out2 h h' D (D + 1) r (r + 2) ∧ RP (rdRow t n lt m pos 0 []) (fun k p => ∃ z pos2 l2, v = some (.int (nI z)) ∧ RdO E h' D B n pos2 k (nI p) lt ∧ RowAt E h' r cap l2) (fun a => v = some (.int (nI a.2.2)) ∧ RdO E h' D B n a.2.1 0 pl lt ∧ RowAt E h' r cap (l ++ a.1)))), RowAt E h4 r cap (l ++ acc) → WP E k_X1_readRow 3 0 0 69 [some (.ref D), some (.ref r), some (.int (nI m)), some (.int (nI (sum + ltv lt x))), some (.int (nI i)), some (.int (nI x))] [] h4 (fun v h' => Out2 h h' D (D + 1) r (r + 2) ∧ RP (rdRow t n lt m pos 0 []) (fun k p => ∃ z pos2 l2, v = some (.int (nI z)) ∧ RdO E h' D B n pos2 k (nI p) lt ∧ RowAt E h' r cap l2) (fun a => v = some (.int (nI a.2.2)) ∧ RdO E h' D B n a.2.1 0 pl lt ∧ RowAt E h' r cap (l ++ a.1))) := by
                intro h4 kk hR4
                refine R_aload_n dX1_readRow_69 rfl ?_
                refine R_iload dX1_readRow_70 rfl ?_
                -- X1_readRow: ('call', 72, '.invokevirtual', 91)
                refine R_callV v_X6_add (Row_add hR4 hx2 hlen) dX1_readRow_72 l_RX1_91 rfl rfl hR4.2.2.1 (Nat.le_of_ble_eq_true rfl) (by omega) rfl rfl (fun v h5 hq => ?_)
                obtain ⟨rfl, hR5, o5⟩ := hq
                refine R_iinc4 dX1_readRow_75 (by decide) (nI_inc _ 1) ?_
                refine R_goto (tgt := 5) dX1_readRow_78 (by decide) ?_
                -- X1_readRow: ('stop', 5)
                exact kk h5 (by rw [← List.append_assoc]; exact hR5) o5
              refine R_if_ne_N (tgt := 57) dX1_readRow_46 (by decide) (by omega) (fun c46 => ?_) (fun c46 => ?_)
              -- X1_readRow: ('branch', 46, 57, 49)
              · rw [if_neg c46] at hrd
                refine R_iload_n dX1_readRow_57 rfl ?_
                refine R_sipush (v := nI 240) dX1_readRow_58 (by decide) ?_
                refine R_icmp_le_N (tgt := 69) dX1_readRow_61 (by decide) (by omega) (by omega) (fun c61 => ?_) (fun c61 => ?_)
                -- X1_readRow: ('branch', 61, 69, 64)
                · rw [if_neg (by omega)] at hrd
                  refine put h3 (fun h5 hR5 o5 => ?_) hR3
                  exact ih (i + 1) (pos2 + 1) _ (acc ++ [x]) h5 _ (by omega) hrd (hO3.eq (o5.2 _ (by omega)) (o5.2 _ (by omega))) hR5 (by simp; omega) (by omega) (by omega) (o3'.trans (o5.two (by omega)))
                · rw [if_pos (by omega)] at hrd
                  refine R_aload_n dX1_readRow_64 rfl ?_
                  refine R_iconst (v := nI 4) dX1_readRow_65 (by decide) ?_
                  -- X1_readRow: ('call', 66, '.invokevirtual', 56)
                  refine R_callV v_X1_blame (Rd_blame hO3 (by omega) 4) dX1_readRow_66 l_RX1_56 rfl rfl hO3.1 (Nat.le_of_ble_eq_true rfl) (by omega) rfl rfl (fun v h4 hq => ?_)
                  obtain ⟨rfl, hO4, o4⟩ := hq
                  refine put h4 (fun h5 hR5 o5 => ?_) (hR3.out o4 (by omega))
                  exact off (i + 1) h5 4 pos2 _ _ _ _ (by omega) (by omega) (by omega) (hO4.eq (o5.2 _ (by omega)) (o5.2 _ (by omega))) hR5 ((o3'.trans (o4.two (by omega))).trans (o5.two (by omega))) hrd
              · rw [if_pos c46] at hrd
                refine R_aload_n dX1_readRow_49 rfl ?_
                refine R_iconst (v := nI 3) dX1_readRow_50 (by decide) ?_
                -- X1_readRow: ('call', 51, '.invokevirtual', 56)
                refine R_callV v_X1_blame (Rd_blame hO3 (by omega) 3) dX1_readRow_51 l_RX1_56 rfl rfl hO3.1 (Nat.le_of_ble_eq_true rfl) (by omega) rfl rfl (fun v h4 hq => ?_)
                obtain ⟨rfl, hO4, o4⟩ := hq
                refine R_goto (tgt := 69) dX1_readRow_54 (by decide) ?_
                -- X1_readRow: ('stop', 69)
                refine put h4 (fun h5 hR5 o5 => ?_) (hR3.out o4 (by omega))
                exact off (i + 1) h5 3 pos2 _ _ _ _ (by omega) (by omega) (by omega) (hO4.eq (o5.2 _ (by omega)) (o5.2 _ (by omega))) hR5 ((o3'.trans (o4.two (by omega))).trans (o5.two (by omega))) hrd
  refine R_iconst (v := nI 0) dX1_readRow_0 (by decide) ?_
  refine R_istore3 dX1_readRow_1 (by decide) ?_
  refine R_iconst (v := nI 0) dX1_readRow_2 (by decide) ?_
  refine R_istore4 dX1_readRow_3 (by decide) ?_
  -- X1_readRow: ('stop', 5)
  exact loop m 0 pos 0 [] h _ (by omega) rfl hO (by rw [List.append_nil]; exact hR) rfl (by omega) (by omega) Out2.refl
end READER
