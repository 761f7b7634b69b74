/-! READING: what is asked of the letters -/
abbrev hitP (ph ls : List Nat) (p : Nat) : Prop := ph ≠ [] ∧ (ls.drop p).take ph.length = ph
def hitsS (ph ls : List Nat) : Nat := cntB (fun p => decide (hitP ph ls p)) ls.length
def hitAtS (ph ls : List Nat) (k : Nat) : Option Nat := fstB (fun j => decide (hitP ph ls j ∧ cntB (fun p => decide (hitP ph ls p)) j = k)) ls.length
def crossS (ph ls hs : List Nat) : Nat := cntB (fun p => decide (hitP ph ls p ∧ hs[p]? ≠ hs[p + ph.length - 1]?)) ls.length
def comN (ls : List Nat) (i j : Nat) : Nat := (fstB (fun n => decide (ls[i + n]? ≠ ls[j + n]?)) (ls.length - max i j)).getD (ls.length - max i j)
theorem hitP_len {ph ls : List Nat} {p : Nat} (h : hitP ph ls p) : p + ph.length ≤ ls.length ∧ 0 < ph.length := by
  have h1 := congrArg List.length h.2
  rw [List.length_take, List.length_drop] at h1
  have h2 := mt List.length_eq_zero_iff.mp h.1
  omega
theorem hitP_iff {ph ls : List Nat} {p : Nat} (hl : p + ph.length ≤ ls.length) : (ls.drop p).take ph.length = ph ↔ ∀ k, k < ph.length → ls[p + k]? = ph[k]? := by
  constructor
  · intro h k hk
    rw [← List.getElem?_drop, ← List.getElem?_take_of_lt hk, h]
  · intro h
    refine List.ext_getElem? (fun k => ?_)
    by_cases hk : k < ph.length
    · rw [List.getElem?_take_of_lt hk, List.getElem?_drop, h k hk]
    · rw [List.getElem?_eq_none (by rw [List.length_take]; omega), List.getElem?_eq_none (by omega)]
theorem cntB_step {p : Nat → Bool} {n : Nat} : cntB p (n + 1) = cntB p n + if p n then 1 else 0 := rfl
section READING2
variable {E : EnvT} {h : Hp} {D : Nat} {ls hs bs ds : List Nat} {lo la : Int32}
theorem Read_size (hD : ReadAt E h D ls hs bs ds lo la) : Spec E k_X5_size 2 0 0 [.ref D] h (fun v h' => v = some (.int (nI ls.length)) ∧ h' = h) := by
  refine Spec.of (by decide +kernel) (by simp [Value.category]) (Nat.le_of_ble_eq_true rfl) ?_
  show WP E k_X5_size 2 0 0 0 [some (.ref D)] [] h _
  refine R_aload_n dX5_size_0 rfl ?_
  refine R_get K_5 (f := 0) (by decide) dX5_size_1 f_RX5_14 hD.1 rfl ?_
  -- X5_size: ('call', 4, '.invokevirtual', 43)
  refine R_callV v_X6_size (Row_size hD.2.1) dX5_size_4 l_RX5_43 rfl rfl hD.2.1.2.2.1 (Nat.le_of_ble_eq_true rfl) (by omega) rfl rfl (fun v h1 hq => ?_)
  obtain ⟨rfl, e9⟩ := hq
  rw [e9]
  refine R_ireturn dX5_size_7 rfl rfl ?_
  -- X5_size: ('ret', 7)
  exact ⟨rfl, rfl⟩
theorem Read_letterAt (hD : ReadAt E h D ls hs bs ds lo la) (i : Int32) : Spec E k_X5_letterAt 2 0 0 [.ref D, .int i] h (fun v h' => v = some (.int (rget ls i)) ∧ h' = h) := by
  refine Spec.of (by decide +kernel) (by simp [Value.category]) (Nat.le_of_ble_eq_true rfl) ?_
  show WP E k_X5_letterAt 2 0 0 0 [some (.ref D), some (.int i)] [] h _
  refine R_aload_n dX5_letterAt_0 rfl ?_
  refine R_get K_5 (f := 0) (by decide) dX5_letterAt_1 f_RX5_14 hD.1 rfl ?_
  refine R_iload_n dX5_letterAt_4 rfl ?_
  -- X5_letterAt: ('call', 5, '.invokevirtual', 47)
  refine R_callV v_X6_get (Row_get hD.2.1 i) dX5_letterAt_5 l_RX5_47 rfl rfl hD.2.1.2.2.1 (Nat.le_of_ble_eq_true rfl) (by omega) rfl rfl (fun v h1 hq => ?_)
  obtain ⟨rfl, e9⟩ := hq
  rw [e9]
  refine R_ireturn dX5_letterAt_8 rfl rfl ?_
  -- X5_letterAt: ('ret', 8)
  exact ⟨rfl, rfl⟩
theorem Read_homeAt (hD : ReadAt E h D ls hs bs ds lo la) (i : Int32) : Spec E k_X5_homeAt 2 0 0 [.ref D, .int i] h (fun v h' => v = some (.int (rget hs i)) ∧ h' = h) := by
  refine Spec.of (by decide +kernel) (by simp [Value.category]) (Nat.le_of_ble_eq_true rfl) ?_
  show WP E k_X5_homeAt 2 0 0 0 [some (.ref D), some (.int i)] [] h _
  refine R_aload_n dX5_homeAt_0 rfl ?_
  refine R_get K_5 (f := 1) (by decide) dX5_homeAt_1 f_RX5_20 hD.1 rfl ?_
  refine R_iload_n dX5_homeAt_4 rfl ?_
  -- X5_homeAt: ('call', 5, '.invokevirtual', 47)
  refine R_callV v_X6_get (Row_get hD.2.2.1 i) dX5_homeAt_5 l_RX5_47 rfl rfl hD.2.2.1.2.2.1 (Nat.le_of_ble_eq_true rfl) (by omega) rfl rfl (fun v h1 hq => ?_)
  obtain ⟨rfl, e9⟩ := hq
  rw [e9]
  refine R_ireturn dX5_homeAt_8 rfl rfl ?_
  -- X5_homeAt: ('ret', 8)
  exact ⟨rfl, rfl⟩
theorem Read_beginAt (hD : ReadAt E h D ls hs bs ds lo la) (i : Int32) : Spec E k_X5_beginAt 2 0 0 [.ref D, .int i] h (fun v h' => v = some (.int (rget bs i)) ∧ h' = h) := by
  refine Spec.of (by decide +kernel) (by simp [Value.category]) (Nat.le_of_ble_eq_true rfl) ?_
  show WP E k_X5_beginAt 2 0 0 0 [some (.ref D), some (.int i)] [] h _
  refine R_aload_n dX5_beginAt_0 rfl ?_
  refine R_get K_5 (f := 2) (by decide) dX5_beginAt_1 f_RX5_23 hD.1 rfl ?_
  refine R_iload_n dX5_beginAt_4 rfl ?_
  -- X5_beginAt: ('call', 5, '.invokevirtual', 47)
  refine R_callV v_X6_get (Row_get hD.2.2.2.1 i) dX5_beginAt_5 l_RX5_47 rfl rfl hD.2.2.2.1.2.2.1 (Nat.le_of_ble_eq_true rfl) (by omega) rfl rfl (fun v h1 hq => ?_)
  obtain ⟨rfl, e9⟩ := hq
  rw [e9]
  refine R_ireturn dX5_beginAt_8 rfl rfl ?_
  -- X5_beginAt: ('ret', 8)
  exact ⟨rfl, rfl⟩
theorem Read_depthAt (hD : ReadAt E h D ls hs bs ds lo la) (i : Int32) : Spec E k_X5_depthAt 2 0 0 [.ref D, .int i] h (fun v h' => v = some (.int (rget ds i)) ∧ h' = h) := by
  refine Spec.of (by decide +kernel) (by simp [Value.category]) (Nat.le_of_ble_eq_true rfl) ?_
  show WP E k_X5_depthAt 2 0 0 0 [some (.ref D), some (.int i)] [] h _
  refine R_aload_n dX5_depthAt_0 rfl ?_
  refine R_get K_5 (f := 3) (by decide) dX5_depthAt_1 f_RX5_26 hD.1 rfl ?_
  refine R_iload_n dX5_depthAt_4 rfl ?_
  -- X5_depthAt: ('call', 5, '.invokevirtual', 47)
  refine R_callV v_X6_get (Row_get hD.2.2.2.2.1 i) dX5_depthAt_5 l_RX5_47 rfl rfl hD.2.2.2.2.1.2.2.1 (Nat.le_of_ble_eq_true rfl) (by omega) rfl rfl (fun v h1 hq => ?_)
  obtain ⟨rfl, e9⟩ := hq
  rw [e9]
  refine R_ireturn dX5_depthAt_8 rfl rfl ?_
  -- X5_depthAt: ('ret', 8)
  exact ⟨rfl, rfl⟩
theorem Read_longestTwice (hD : ReadAt E h D ls hs bs ds lo la) : Spec E k_X5_longestTwice 1 0 0 [.ref D] h (fun v h' => v = some (.int lo) ∧ h' = h) := by
  refine Spec.of (by decide +kernel) (by simp [Value.category]) (Nat.le_of_ble_eq_true rfl) ?_
  show WP E k_X5_longestTwice 1 0 0 0 [some (.ref D)] [] h _
  refine R_aload_n dX5_longestTwice_0 rfl ?_
  refine R_get K_5 (f := 5) (by decide) dX5_longestTwice_1 f_RX5_33 hD.1 rfl ?_
  refine R_ireturn dX5_longestTwice_4 rfl rfl ?_
  -- X5_longestTwice: ('ret', 4)
  exact ⟨rfl, rfl⟩
theorem Read_twiceAt (hD : ReadAt E h D ls hs bs ds lo la) : Spec E k_X5_twiceAt 1 0 0 [.ref D] h (fun v h' => v = some (.int la) ∧ h' = h) := by
  refine Spec.of (by decide +kernel) (by simp [Value.category]) (Nat.le_of_ble_eq_true rfl) ?_
  show WP E k_X5_twiceAt 1 0 0 0 [some (.ref D)] [] h _
  refine R_aload_n dX5_twiceAt_0 rfl ?_
  refine R_get K_5 (f := 6) (by decide) dX5_twiceAt_1 f_RX5_37 hD.1 rfl ?_
  refine R_ireturn dX5_twiceAt_4 rfl rfl ?_
  -- X5_twiceAt: ('ret', 4)
  exact ⟨rfl, rfl⟩
theorem Read_hasPlace (hD : ReadAt E h D ls hs bs ds lo la) {i : Nat} (hi : i < 2 ^ 31) : Spec E k_X5_hasPlace 2 0 0 [.ref D, .int (nI i)] h (fun v h' => v = some (.int (nI (if i < ls.length then 1 else 0))) ∧ h' = h) := by
  have hl := hD.2.1.1
  refine Spec.of (by decide +kernel) (by simp [Value.category]) (Nat.le_of_ble_eq_true rfl) ?_
  show WP E k_X5_hasPlace 2 0 0 0 [some (.ref D), some (.int (nI i))] [] h _
  refine R_iload_n dX5_hasPlace_0 rfl ?_
  refine R_if_lt_N (tgt := 19) dX5_hasPlace_1 (by decide) (by omega) ?_
  refine R_iload_n dX5_hasPlace_4 rfl ?_
  refine R_aload_n dX5_hasPlace_5 rfl ?_
  refine R_get K_5 (f := 0) (by decide) dX5_hasPlace_6 f_RX5_14 hD.1 rfl ?_
  -- X5_hasPlace: ('call', 9, '.invokevirtual', 43)
  refine R_callV v_X6_size (Row_size hD.2.1) dX5_hasPlace_9 l_RX5_43 rfl rfl hD.2.1.2.2.1 (Nat.le_of_ble_eq_true rfl) (by omega) rfl rfl (fun v h1 hq => ?_)
  obtain ⟨rfl, e9⟩ := hq
  rw [e9]
  refine R_icmp_ge_N (tgt := 19) dX5_hasPlace_12 (by decide) (by omega) (by omega) (fun c12 => ?_) (fun c12 => ?_)
  -- X5_hasPlace: ('branch', 12, 19, 15)
  · refine R_iconst (v := nI 0) dX5_hasPlace_19 (by decide) ?_
    refine R_ireturn dX5_hasPlace_20 rfl (by rfl) ?_
    -- X5_hasPlace: ('ret', 20)
    exact ⟨by rw [if_neg (by omega)], rfl⟩
  · refine R_iconst (v := nI 1) dX5_hasPlace_15 (by decide) ?_
    refine R_goto (tgt := 20) dX5_hasPlace_16 (by decide) ?_
    refine R_ireturn dX5_hasPlace_20 rfl (by rfl) ?_
    -- X5_hasPlace: ('ret', 20)
    exact ⟨by rw [if_pos c12], rfl⟩
theorem Read_hasPlace_neg {i : Int32} (hi : i < 0) : Spec E k_X5_hasPlace 2 0 0 [.ref D, .int i] h (fun v h' => v = some (.int (nI 0)) ∧ h' = h) := by
  refine Spec.of (by decide +kernel) (by simp [Value.category]) (Nat.le_of_ble_eq_true rfl) ?_
  show WP E k_X5_hasPlace 2 0 0 0 [some (.ref D), some (.int i)] [] h _
  refine R_iload_n dX5_hasPlace_0 rfl ?_
  refine R_if_lt (tgt := 19) dX5_hasPlace_1 (by decide) (fun c1 => ?_) (fun c1 => ?_)
  -- X5_hasPlace: ('branch', 1, 19, 4)
  · refine R_iconst (v := nI 0) dX5_hasPlace_19 (by decide) ?_
    refine R_ireturn dX5_hasPlace_20 rfl (by rfl) ?_
    -- X5_hasPlace: ('ret', 20)
    exact ⟨rfl, rfl⟩
  · exact absurd hi c1
theorem Read_depthSum (hD : ReadAt E h D ls hs bs ds lo la) : Spec E k_X5_depthSum 2 0 0 [.ref D] h (fun v h' => v = some (.int (nI (lsum id ds))) ∧ h' = h) := by
  have hR := hD.2.2.2.2.1
  have hl := hR.1
  refine Spec.of (by decide +kernel) (by simp [Value.category]) (Nat.le_of_ble_eq_true rfl) ?_
  show WP E k_X5_depthSum 2 0 0 0 [some (.ref D), none, none] [] h _
  have loop : ∀ m i, i + m = ds.length → WP E k_X5_depthSum 2 0 0 4 [some (.ref D), some (.int (nI (lsum id (ds.take i)))), some (.int (nI i))] [] h (fun v h' => v = some (.int (nI (lsum id ds))) ∧ h' = h) := by
    intro m
    induction m with
    | zero =>
      intro i hi
      rw [List.take_of_length_le (by omega)]
      refine R_iload_n dX5_depthSum_4 rfl ?_
      refine R_aload_n dX5_depthSum_5 rfl ?_
      refine R_get K_5 (f := 3) (by decide) dX5_depthSum_6 f_RX5_26 hD.1 rfl ?_
      -- X5_depthSum: ('call', 9, '.invokevirtual', 43)
      refine R_callV v_X6_size (Row_size hR) dX5_depthSum_9 l_RX5_43 rfl rfl hR.2.2.1 (Nat.le_of_ble_eq_true rfl) (by omega) rfl rfl (fun v h1 hq => ?_)
      obtain ⟨rfl, e9⟩ := hq
      rw [e9]
      refine R_icmp_ge_N (tgt := 32) dX5_depthSum_12 (by decide) (by omega) (by omega) (fun c12 => ?_) (fun c12 => ?_)
      -- X5_depthSum: ('branch', 12, 32, 15)
      · refine R_iload_n dX5_depthSum_32 rfl ?_
        refine R_ireturn dX5_depthSum_33 rfl rfl ?_
        -- X5_depthSum: ('ret', 33)
        exact ⟨rfl, rfl⟩
      · exact absurd c12 (by omega)
    | succ m ih =>
      intro i hi
      obtain ⟨x, hx⟩ := getE (l := ds) (i := i) (by omega)
      have := ih (i + 1) (by omega)
      rw [take_snoc hx, lsum_app] at this
      simp only [lsum, Nat.add_zero, id] at this
      refine R_iload_n dX5_depthSum_4 rfl ?_
      refine R_aload_n dX5_depthSum_5 rfl ?_
      refine R_get K_5 (f := 3) (by decide) dX5_depthSum_6 f_RX5_26 hD.1 rfl ?_
      -- X5_depthSum: ('call', 9, '.invokevirtual', 43)
      refine R_callV v_X6_size (Row_size hR) dX5_depthSum_9 l_RX5_43 rfl rfl hR.2.2.1 (Nat.le_of_ble_eq_true rfl) (by omega) rfl rfl (fun v h1 hq => ?_)
      obtain ⟨rfl, e9⟩ := hq
      rw [e9]
      refine R_icmp_ge_N (tgt := 32) dX5_depthSum_12 (by decide) (by omega) (by omega) (fun c12 => ?_) (fun c12 => ?_)
      -- X5_depthSum: ('branch', 12, 32, 15)
      · exact absurd c12 (by omega)
      · refine R_iload_n dX5_depthSum_15 rfl ?_
        refine R_aload_n dX5_depthSum_16 rfl ?_
        refine R_get K_5 (f := 3) (by decide) dX5_depthSum_17 f_RX5_26 hD.1 rfl ?_
        refine R_iload_n dX5_depthSum_20 rfl ?_
        -- X5_depthSum: ('call', 21, '.invokevirtual', 47)
        refine R_callV v_X6_get (Row_get hR (nI i)) dX5_depthSum_21 l_RX5_47 rfl rfl hR.2.2.1 (Nat.le_of_ble_eq_true rfl) (by omega) rfl rfl (fun v h1 hq => ?_)
        obtain ⟨rfl, e9⟩ := hq
        rw [e9, rget_in (by omega) hx]
        refine R_iadd_N dX5_depthSum_24 ?_
        refine R_istore1 dX5_depthSum_25 (by decide) ?_
        refine R_iinc2 dX5_depthSum_26 (by decide) (nI_inc _ 1) ?_
        refine R_goto (tgt := 4) dX5_depthSum_29 (by decide) ?_
        -- X5_depthSum: ('stop', 4)
        exact this
  refine R_iconst (v := nI 0) dX5_depthSum_0 (by decide) ?_
  refine R_istore1 dX5_depthSum_1 (by decide) ?_
  refine R_iconst (v := nI 0) dX5_depthSum_2 (by decide) ?_
  refine R_istore2 dX5_depthSum_3 (by decide) ?_
  -- X5_depthSum: ('stop', 4)
  exact loop ds.length 0 (by omega)
theorem Read_isHit (hD : ReadAt E h D ls hs bs ds lo la) {r cap p : Nat} {ph : List Nat} (hR : RowAt E h r cap ph) (hp : p ≤ ls.length) : Spec E k_X5_isHit 2 0 0 [.ref D, .ref r, .int (nI p)] h (fun v h' => v = some (.int (nI (if hitP ph ls p then 1 else 0))) ∧ h' = h) := by
  have hl := hD.2.1.1
  have hc := hR.1
  have hcap := hR.2.1
  refine Spec.of (by decide +kernel) (by simp [Value.category]) (Nat.le_of_ble_eq_true rfl) ?_
  show WP E k_X5_isHit 2 0 0 0 [some (.ref D), some (.ref r), some (.int (nI p)), none] [] h _
  have loop : ph ≠ [] → p + ph.length ≤ ls.length → ∀ m k, k + m = ph.length → (∀ j, j < k → ls[p + j]? = ph[j]?) → WP E k_X5_isHit 2 0 0 27 [some (.ref D), some (.ref r), some (.int (nI p)), some (.int (nI k))] [] h (fun v h' => v = some (.int (nI (if hitP ph ls p then 1 else 0))) ∧ h' = h) := by
    intro hne hle m
    induction m with
    | zero =>
      intro k hk h0
      refine R_iload_n dX5_isHit_27 rfl ?_
      refine R_aload_n dX5_isHit_28 rfl ?_
      -- X5_isHit: ('call', 29, '.invokevirtual', 43)
      refine R_callV v_X6_size (Row_size hR) dX5_isHit_29 l_RX5_43 rfl rfl hR.2.2.1 (Nat.le_of_ble_eq_true rfl) (by omega) rfl rfl (fun v h1 hq => ?_)
      obtain ⟨rfl, e9⟩ := hq
      rw [e9]
      refine R_icmp_ge_N (tgt := 61) dX5_isHit_32 (by decide) (by omega) (by omega) (fun c32 => ?_) (fun c32 => ?_)
      -- X5_isHit: ('branch', 32, 61, 35)
      · refine R_iconst (v := nI 1) dX5_isHit_61 (by decide) ?_
        refine R_ireturn dX5_isHit_62 rfl (by rfl) ?_
        -- X5_isHit: ('ret', 62)
        exact ⟨by rw [if_pos ⟨hne, (hitP_iff hle).mpr (fun j hj => h0 j (by omega))⟩], rfl⟩
      · exact absurd c32 (by omega)
    | succ m ih =>
      intro k hk h0
      obtain ⟨x, hx⟩ := getE (l := ls) (i := p + k) (by omega)
      obtain ⟨y, hy⟩ := getE (l := ph) (i := k) (by omega)
      have hx6 := hD.2.1.lt hx
      have hy6 := hR.lt hy
      refine R_iload_n dX5_isHit_27 rfl ?_
      refine R_aload_n dX5_isHit_28 rfl ?_
      -- X5_isHit: ('call', 29, '.invokevirtual', 43)
      refine R_callV v_X6_size (Row_size hR) dX5_isHit_29 l_RX5_43 rfl rfl hR.2.2.1 (Nat.le_of_ble_eq_true rfl) (by omega) rfl rfl (fun v h1 hq => ?_)
      obtain ⟨rfl, e9⟩ := hq
      rw [e9]
      refine R_icmp_ge_N (tgt := 61) dX5_isHit_32 (by decide) (by omega) (by omega) (fun c32 => ?_) (fun c32 => ?_)
      -- X5_isHit: ('branch', 32, 61, 35)
      · exact absurd c32 (by omega)
      · refine R_aload_n dX5_isHit_35 rfl ?_
        refine R_get K_5 (f := 0) (by decide) dX5_isHit_36 f_RX5_14 hD.1 rfl ?_
        refine R_iload_n dX5_isHit_39 rfl ?_
        refine R_iload_n dX5_isHit_40 rfl ?_
        refine R_iadd_N dX5_isHit_41 ?_
        -- X5_isHit: ('call', 42, '.invokevirtual', 47)
        refine R_callV v_X6_get (Row_get hD.2.1 (nI (p + k))) dX5_isHit_42 l_RX5_47 rfl rfl hD.2.1.2.2.1 (Nat.le_of_ble_eq_true rfl) (by omega) rfl rfl (fun v h1 hq => ?_)
        obtain ⟨rfl, e9⟩ := hq
        rw [e9, rget_in (by omega) hx]
        refine R_aload_n dX5_isHit_45 rfl ?_
        refine R_iload_n dX5_isHit_46 rfl ?_
        -- X5_isHit: ('call', 47, '.invokevirtual', 47)
        refine R_callV v_X6_get (Row_get hR (nI k)) dX5_isHit_47 l_RX5_47 rfl rfl hR.2.2.1 (Nat.le_of_ble_eq_true rfl) (by omega) rfl rfl (fun v h1 hq => ?_)
        obtain ⟨rfl, e9⟩ := hq
        rw [e9, rget_in (by omega) hy]
        refine R_icmp_eq_N (tgt := 55) dX5_isHit_50 (by decide) (by omega) (by omega) (fun c50 => ?_) (fun c50 => ?_)
        -- X5_isHit: ('branch', 50, 55, 53)
        · refine R_iinc3 dX5_isHit_55 (by decide) (nI_inc _ 1) ?_
          refine R_goto (tgt := 27) dX5_isHit_58 (by decide) ?_
          -- X5_isHit: ('stop', 27)
          refine ih (k + 1) (by omega) (fun j hj => ?_)
          by_cases hjk : j = k
          · rw [hjk, hx, hy, c50]
          · exact h0 j (by omega)
        · refine R_iconst (v := nI 0) dX5_isHit_53 (by decide) ?_
          refine R_ireturn dX5_isHit_54 rfl (by rfl) ?_
          -- X5_isHit: ('ret', 54)
          have hno : ¬ hitP ph ls p := fun z => by
            have := (hitP_iff hle).mp z.2 k (by omega)
            rw [hx, hy] at this
            exact c50 (Option.some.inj this)
          exact ⟨by rw [if_neg hno], rfl⟩
  refine R_aload_n dX5_isHit_0 rfl ?_
  -- X5_isHit: ('call', 1, '.invokevirtual', 43)
  refine R_callV v_X6_size (Row_size hR) dX5_isHit_1 l_RX5_43 rfl rfl hR.2.2.1 (Nat.le_of_ble_eq_true rfl) (by omega) rfl rfl (fun v h1 hq => ?_)
  obtain ⟨rfl, e9⟩ := hq
  rw [e9]
  refine R_if_eq_N (tgt := 23) dX5_isHit_4 (by decide) (by omega) (fun c4 => ?_) (fun c4 => ?_)
  -- X5_isHit: ('branch', 4, 23, 7)
  · refine R_iconst (v := nI 0) dX5_isHit_23 (by decide) ?_
    refine R_ireturn dX5_isHit_24 rfl (by rfl) ?_
    -- X5_isHit: ('ret', 24)
    exact ⟨by rw [if_neg (fun z => z.1 (List.length_eq_zero_iff.mp c4))], rfl⟩
  · refine R_aload_n dX5_isHit_7 rfl ?_
    -- X5_isHit: ('call', 8, '.invokevirtual', 43)
    refine R_callV v_X6_size (Row_size hR) dX5_isHit_8 l_RX5_43 rfl rfl hR.2.2.1 (Nat.le_of_ble_eq_true rfl) (by omega) rfl rfl (fun v h1 hq => ?_)
    obtain ⟨rfl, e9⟩ := hq
    rw [e9]
    refine R_aload_n dX5_isHit_11 rfl ?_
    refine R_get K_5 (f := 0) (by decide) dX5_isHit_12 f_RX5_14 hD.1 rfl ?_
    -- X5_isHit: ('call', 15, '.invokevirtual', 43)
    refine R_callV v_X6_size (Row_size hD.2.1) dX5_isHit_15 l_RX5_43 rfl rfl hD.2.1.2.2.1 (Nat.le_of_ble_eq_true rfl) (by omega) rfl rfl (fun v h1 hq => ?_)
    obtain ⟨rfl, e9⟩ := hq
    rw [e9]
    refine R_iload_n dX5_isHit_18 rfl ?_
    refine R_isub_N dX5_isHit_19 (by omega) ?_
    refine R_icmp_le_N (tgt := 25) dX5_isHit_20 (by decide) (by omega) (by omega) (fun c20 => ?_) (fun c20 => ?_)
    -- X5_isHit: ('branch', 20, 25, 23)
    · refine R_iconst (v := nI 0) dX5_isHit_25 (by decide) ?_
      refine R_istore3 dX5_isHit_26 (by decide) ?_
      -- X5_isHit: ('stop', 27)
      exact loop (fun e => c4 (by rw [e]; rfl)) (by omega) ph.length 0 (by omega) (fun j hj => absurd hj (by omega))
    · refine R_iconst (v := nI 0) dX5_isHit_23 (by decide) ?_
      refine R_ireturn dX5_isHit_24 rfl (by rfl) ?_
      -- X5_isHit: ('ret', 24)
      exact ⟨by rw [if_neg (fun z => absurd (hitP_len z).1 (by omega))], rfl⟩
theorem Read_hitsOf (hD : ReadAt E h D ls hs bs ds lo la) {r cap : Nat} {ph : List Nat} (hR : RowAt E h r cap ph) : Spec E k_X5_hitsOf 3 0 0 [.ref D, .ref r] h (fun v h' => v = some (.int (nI (hitsS ph ls))) ∧ h' = h) := by
  have hl := hD.2.1.1
  refine Spec.of (by decide +kernel) (by simp [Value.category]) (Nat.le_of_ble_eq_true rfl) ?_
  show WP E k_X5_hitsOf 3 0 0 0 [some (.ref D), some (.ref r), none, none] [] h _
  have loop : ∀ m i, i + m = ls.length → WP E k_X5_hitsOf 3 0 0 4 [some (.ref D), some (.ref r), some (.int (nI (cntB (fun p => decide (hitP ph ls p)) i))), some (.int (nI i))] [] h (fun v h' => v = some (.int (nI (hitsS ph ls))) ∧ h' = h) := by
    intro m
    induction m with
    | zero =>
      intro i hi
      have ei : i = ls.length := by omega
      subst ei
      refine R_iload_n dX5_hitsOf_4 rfl ?_
      refine R_aload_n dX5_hitsOf_5 rfl ?_
      refine R_get K_5 (f := 0) (by decide) dX5_hitsOf_6 f_RX5_14 hD.1 rfl ?_
      -- X5_hitsOf: ('call', 9, '.invokevirtual', 43)
      refine R_callV v_X6_size (Row_size hD.2.1) dX5_hitsOf_9 l_RX5_43 rfl rfl hD.2.1.2.2.1 (Nat.le_of_ble_eq_true rfl) (by omega) rfl rfl (fun v h1 hq => ?_)
      obtain ⟨rfl, e9⟩ := hq
      rw [e9]
      refine R_icmp_ge_N (tgt := 33) dX5_hitsOf_12 (by decide) (by omega) (by omega) (fun c12 => ?_) (fun c12 => ?_)
      -- X5_hitsOf: ('branch', 12, 33, 15)
      · refine R_iload_n dX5_hitsOf_33 rfl ?_
        refine R_ireturn dX5_hitsOf_34 rfl rfl ?_
        -- X5_hitsOf: ('ret', 34)
        exact ⟨rfl, rfl⟩
      · exact absurd c12 (by omega)
    | succ m ih =>
      intro i hi
      have nx := ih (i + 1) (by omega)
      rw [cntB_step] at nx
      refine R_iload_n dX5_hitsOf_4 rfl ?_
      refine R_aload_n dX5_hitsOf_5 rfl ?_
      refine R_get K_5 (f := 0) (by decide) dX5_hitsOf_6 f_RX5_14 hD.1 rfl ?_
      -- X5_hitsOf: ('call', 9, '.invokevirtual', 43)
      refine R_callV v_X6_size (Row_size hD.2.1) dX5_hitsOf_9 l_RX5_43 rfl rfl hD.2.1.2.2.1 (Nat.le_of_ble_eq_true rfl) (by omega) rfl rfl (fun v h1 hq => ?_)
      obtain ⟨rfl, e9⟩ := hq
      rw [e9]
      refine R_icmp_ge_N (tgt := 33) dX5_hitsOf_12 (by decide) (by omega) (by omega) (fun c12 => ?_) (fun c12 => ?_)
      -- X5_hitsOf: ('branch', 12, 33, 15)
      · exact absurd c12 (by omega)
      · refine R_aload_n dX5_hitsOf_15 rfl ?_
        refine R_aload_n dX5_hitsOf_16 rfl ?_
        refine R_iload_n dX5_hitsOf_17 rfl ?_
        -- X5_hitsOf: ('call', 18, '.invokevirtual', 75)
        refine R_callV v_X5_isHit (Read_isHit hD hR (p := i) (by omega)) dX5_hitsOf_18 l_RX5_75 rfl rfl hD.1 (Nat.le_of_ble_eq_true rfl) (by omega) rfl rfl (fun v h1 hq => ?_)
        obtain ⟨rfl, e9⟩ := hq
        rw [e9]
        by_cases hh : hitP ph ls i
        · rw [if_pos hh]
          rw [if_pos (decide_eq_true hh)] at nx
          refine R_if_eq_N (tgt := 27) dX5_hitsOf_21 (by decide) (by omega) (fun c21 => ?_) (fun c21 => ?_)
          -- X5_hitsOf: ('branch', 21, 27, 24)
          · exact absurd c21 (by decide)
          · refine R_iinc2 dX5_hitsOf_24 (by decide) (nI_inc _ 1) ?_
            refine R_iinc3 dX5_hitsOf_27 (by decide) (nI_inc _ 1) ?_
            refine R_goto (tgt := 4) dX5_hitsOf_30 (by decide) ?_
            -- X5_hitsOf: ('stop', 4)
            exact nx
        · rw [if_neg hh]
          rw [if_neg (fun z => hh (of_decide_eq_true z))] at nx
          refine R_if_eq_N (tgt := 27) dX5_hitsOf_21 (by decide) (by omega) (fun c21 => ?_) (fun c21 => ?_)
          -- X5_hitsOf: ('branch', 21, 27, 24)
          · refine R_iinc3 dX5_hitsOf_27 (by decide) (nI_inc _ 1) ?_
            refine R_goto (tgt := 4) dX5_hitsOf_30 (by decide) ?_
            -- X5_hitsOf: ('stop', 4)
            exact nx
          · exact absurd rfl c21
  refine R_iconst (v := nI 0) dX5_hitsOf_0 (by decide) ?_
  refine R_istore2 dX5_hitsOf_1 (by decide) ?_
  refine R_iconst (v := nI 0) dX5_hitsOf_2 (by decide) ?_
  refine R_istore3 dX5_hitsOf_3 (by decide) ?_
  -- X5_hitsOf: ('stop', 4)
  exact loop ls.length 0 (by omega)
theorem Read_crossingsOf (hD : ReadAt E h D ls hs bs ds lo la) (hhs : hs.length = ls.length) {r cap : Nat} {ph : List Nat} (hR : RowAt E h r cap ph) : Spec E k_X5_crossingsOf 3 0 0 [.ref D, .ref r] h (fun v h' => v = some (.int (nI (crossS ph ls hs))) ∧ h' = h) := by
  have hl := hD.2.1.1
  refine Spec.of (by decide +kernel) (by simp [Value.category]) (Nat.le_of_ble_eq_true rfl) ?_
  show WP E k_X5_crossingsOf 3 0 0 0 [some (.ref D), some (.ref r), none, none] [] h _
  have loop : ∀ m i, i + m = ls.length → WP E k_X5_crossingsOf 3 0 0 4 [some (.ref D), some (.ref r), some (.int (nI (cntB (fun p => decide (hitP ph ls p ∧ hs[p]? ≠ hs[p + ph.length - 1]?)) i))), some (.int (nI i))] [] h (fun v h' => v = some (.int (nI (crossS ph ls hs))) ∧ h' = h) := by
    intro m
    induction m with
    | zero =>
      intro i hi
      have ei : i = ls.length := by omega
      subst ei
      refine R_iload_n dX5_crossingsOf_4 rfl ?_
      refine R_aload_n dX5_crossingsOf_5 rfl ?_
      refine R_get K_5 (f := 0) (by decide) dX5_crossingsOf_6 f_RX5_14 hD.1 rfl ?_
      -- X5_crossingsOf: ('call', 9, '.invokevirtual', 43)
      refine R_callV v_X6_size (Row_size hD.2.1) dX5_crossingsOf_9 l_RX5_43 rfl rfl hD.2.1.2.2.1 (Nat.le_of_ble_eq_true rfl) (by omega) rfl rfl (fun v h1 hq => ?_)
      obtain ⟨rfl, e9⟩ := hq
      rw [e9]
      refine R_icmp_ge_N (tgt := 59) dX5_crossingsOf_12 (by decide) (by omega) (by omega) (fun c12 => ?_) (fun c12 => ?_)
      -- X5_crossingsOf: ('branch', 12, 59, 15)
      · refine R_iload_n dX5_crossingsOf_59 rfl ?_
        refine R_ireturn dX5_crossingsOf_60 rfl rfl ?_
        -- X5_crossingsOf: ('ret', 60)
        exact ⟨rfl, rfl⟩
      · exact absurd c12 (by omega)
    | succ m ih =>
      intro i hi
      have nx := ih (i + 1) (by omega)
      rw [cntB_step] at nx
      refine R_iload_n dX5_crossingsOf_4 rfl ?_
      refine R_aload_n dX5_crossingsOf_5 rfl ?_
      refine R_get K_5 (f := 0) (by decide) dX5_crossingsOf_6 f_RX5_14 hD.1 rfl ?_
      -- X5_crossingsOf: ('call', 9, '.invokevirtual', 43)
      refine R_callV v_X6_size (Row_size hD.2.1) dX5_crossingsOf_9 l_RX5_43 rfl rfl hD.2.1.2.2.1 (Nat.le_of_ble_eq_true rfl) (by omega) rfl rfl (fun v h1 hq => ?_)
      obtain ⟨rfl, e9⟩ := hq
      rw [e9]
      refine R_icmp_ge_N (tgt := 59) dX5_crossingsOf_12 (by decide) (by omega) (by omega) (fun c12 => ?_) (fun c12 => ?_)
      -- X5_crossingsOf: ('branch', 12, 59, 15)
      · exact absurd c12 (by omega)
      · refine R_aload_n dX5_crossingsOf_15 rfl ?_
        refine R_aload_n dX5_crossingsOf_16 rfl ?_
        refine R_iload_n dX5_crossingsOf_17 rfl ?_
        -- X5_crossingsOf: ('call', 18, '.invokevirtual', 75)
        refine R_callV v_X5_isHit (Read_isHit hD hR (p := i) (by omega)) dX5_crossingsOf_18 l_RX5_75 rfl rfl hD.1 (Nat.le_of_ble_eq_true rfl) (by omega) rfl rfl (fun v h1 hq => ?_)
        obtain ⟨rfl, e9⟩ := hq
        rw [e9]
        by_cases hh : hitP ph ls i
        · rw [if_pos hh]
          obtain ⟨k1, k2⟩ := hitP_len hh
          obtain ⟨x, hx⟩ := getE (l := hs) (i := i) (by omega)
          obtain ⟨y, hy⟩ := getE (l := hs) (i := i + ph.length - 1) (by omega)
          have hx6 := hD.2.2.1.lt hx
          have hy6 := hD.2.2.1.lt hy
          refine R_if_eq_N (tgt := 53) dX5_crossingsOf_21 (by decide) (by omega) (fun c21 => ?_) (fun c21 => ?_)
          -- X5_crossingsOf: ('branch', 21, 53, 24)
          · exact absurd c21 (by decide)
          · refine R_aload_n dX5_crossingsOf_24 rfl ?_
            refine R_get K_5 (f := 1) (by decide) dX5_crossingsOf_25 f_RX5_20 hD.1 rfl ?_
            refine R_iload_n dX5_crossingsOf_28 rfl ?_
            -- X5_crossingsOf: ('call', 29, '.invokevirtual', 47)
            refine R_callV v_X6_get (Row_get hD.2.2.1 (nI i)) dX5_crossingsOf_29 l_RX5_47 rfl rfl hD.2.2.1.2.2.1 (Nat.le_of_ble_eq_true rfl) (by omega) rfl rfl (fun v h1 hq => ?_)
            obtain ⟨rfl, e9⟩ := hq
            rw [e9, rget_in (by omega) hx]
            refine R_aload_n dX5_crossingsOf_32 rfl ?_
            refine R_get K_5 (f := 1) (by decide) dX5_crossingsOf_33 f_RX5_20 hD.1 rfl ?_
            refine R_iload_n dX5_crossingsOf_36 rfl ?_
            refine R_aload_n dX5_crossingsOf_37 rfl ?_
            -- X5_crossingsOf: ('call', 38, '.invokevirtual', 43)
            refine R_callV v_X6_size (Row_size hR) dX5_crossingsOf_38 l_RX5_43 rfl rfl hR.2.2.1 (Nat.le_of_ble_eq_true rfl) (by omega) rfl rfl (fun v h1 hq => ?_)
            obtain ⟨rfl, e9⟩ := hq
            rw [e9]
            refine R_iadd_N dX5_crossingsOf_41 ?_
            refine R_iconst (v := nI 1) dX5_crossingsOf_42 (by decide) ?_
            refine R_isub_N dX5_crossingsOf_43 (by omega) ?_
            -- X5_crossingsOf: ('call', 44, '.invokevirtual', 47)
            refine R_callV v_X6_get (Row_get hD.2.2.1 (nI (i + ph.length - 1))) dX5_crossingsOf_44 l_RX5_47 rfl rfl hD.2.2.1.2.2.1 (Nat.le_of_ble_eq_true rfl) (by omega) rfl rfl (fun v h1 hq => ?_)
            obtain ⟨rfl, e9⟩ := hq
            rw [e9, rget_in (by omega) hy]
            refine R_icmp_eq_N (tgt := 53) dX5_crossingsOf_47 (by decide) (by omega) (by omega) (fun c47 => ?_) (fun c47 => ?_)
            -- X5_crossingsOf: ('branch', 47, 53, 50)
            · refine R_iinc3 dX5_crossingsOf_53 (by decide) (nI_inc _ 1) ?_
              refine R_goto (tgt := 4) dX5_crossingsOf_56 (by decide) ?_
              -- X5_crossingsOf: ('stop', 4)
              rw [if_neg (fun z => (of_decide_eq_true z).2 (by rw [hx, hy, c47]))] at nx
              exact nx
            · refine R_iinc2 dX5_crossingsOf_50 (by decide) (nI_inc _ 1) ?_
              refine R_iinc3 dX5_crossingsOf_53 (by decide) (nI_inc _ 1) ?_
              refine R_goto (tgt := 4) dX5_crossingsOf_56 (by decide) ?_
              -- X5_crossingsOf: ('stop', 4)
              rw [if_pos (decide_eq_true ⟨hh, fun z => c47 (by rw [hx, hy] at z; exact Option.some.inj z)⟩)] at nx
              exact nx
        · rw [if_neg hh]
          rw [if_neg (fun z => hh (of_decide_eq_true z).1)] at nx
          refine R_if_eq_N (tgt := 53) dX5_crossingsOf_21 (by decide) (by omega) (fun c21 => ?_) (fun c21 => ?_)
          -- X5_crossingsOf: ('branch', 21, 53, 24)
          · refine R_iinc3 dX5_crossingsOf_53 (by decide) (nI_inc _ 1) ?_
            refine R_goto (tgt := 4) dX5_crossingsOf_56 (by decide) ?_
            -- X5_crossingsOf: ('stop', 4)
            exact nx
          · exact absurd rfl c21
  refine R_iconst (v := nI 0) dX5_crossingsOf_0 (by decide) ?_
  refine R_istore2 dX5_crossingsOf_1 (by decide) ?_
  refine R_iconst (v := nI 0) dX5_crossingsOf_2 (by decide) ?_
  refine R_istore3 dX5_crossingsOf_3 (by decide) ?_
  -- X5_crossingsOf: ('stop', 4)
  exact loop ls.length 0 (by omega)
theorem Read_hitAt (hD : ReadAt E h D ls hs bs ds lo la) {r cap k : Nat} {ph : List Nat} (hR : RowAt E h r cap ph) (hk : k < 2 ^ 31) : Spec E k_X5_hitAt 3 0 0 [.ref D, .ref r, .int (nI k)] h (fun v h' => v = some (.int (oI 0 (hitAtS ph ls k))) ∧ h' = h) := by
  have hl := hD.2.1.1
  refine Spec.of (by decide +kernel) (by simp [Value.category]) (Nat.le_of_ble_eq_true rfl) ?_
  show WP E k_X5_hitAt 3 0 0 0 [some (.ref D), some (.ref r), some (.int (nI k)), none, none] [] h _
  have loop : ∀ m i, i + m = ls.length → fstB (fun j => decide (hitP ph ls j ∧ cntB (fun p => decide (hitP ph ls p)) j = k)) i = none → WP E k_X5_hitAt 3 0 0 5 [some (.ref D), some (.ref r), some (.int (nI k)), some (.int (nI (cntB (fun p => decide (hitP ph ls p)) i))), some (.int (nI i))] [] h (fun v h' => v = some (.int (oI 0 (hitAtS ph ls k))) ∧ h' = h) := by
    intro m
    induction m with
    | zero =>
      intro i hi h0
      have ei : i = ls.length := by omega
      subst ei
      refine R_iload dX5_hitAt_5 rfl ?_
      refine R_aload_n dX5_hitAt_7 rfl ?_
      refine R_get K_5 (f := 0) (by decide) dX5_hitAt_8 f_RX5_14 hD.1 rfl ?_
      -- X5_hitAt: ('call', 11, '.invokevirtual', 43)
      refine R_callV v_X6_size (Row_size hD.2.1) dX5_hitAt_11 l_RX5_43 rfl rfl hD.2.1.2.2.1 (Nat.le_of_ble_eq_true rfl) (by omega) rfl rfl (fun v h1 hq => ?_)
      obtain ⟨rfl, e9⟩ := hq
      rw [e9]
      refine R_icmp_ge_N (tgt := 44) dX5_hitAt_14 (by decide) (by omega) (by omega) (fun c14 => ?_) (fun c14 => ?_)
      -- X5_hitAt: ('branch', 14, 44, 17)
      · refine R_iconst (v := (-1)) dX5_hitAt_44 (by decide) ?_
        refine R_ireturn dX5_hitAt_45 rfl rfl ?_
        -- X5_hitAt: ('ret', 45)
        exact ⟨by rw [hitAtS, h0]; rfl, rfl⟩
      · exact absurd c14 (by omega)
    | succ m ih =>
      intro i hi h0
      have nx := ih (i + 1) (by omega)
      rw [cntB_step] at nx
      have hcl := cntB_le (fun p => decide (hitP ph ls p)) i
      refine R_iload dX5_hitAt_5 rfl ?_
      refine R_aload_n dX5_hitAt_7 rfl ?_
      refine R_get K_5 (f := 0) (by decide) dX5_hitAt_8 f_RX5_14 hD.1 rfl ?_
      -- X5_hitAt: ('call', 11, '.invokevirtual', 43)
      refine R_callV v_X6_size (Row_size hD.2.1) dX5_hitAt_11 l_RX5_43 rfl rfl hD.2.1.2.2.1 (Nat.le_of_ble_eq_true rfl) (by omega) rfl rfl (fun v h1 hq => ?_)
      obtain ⟨rfl, e9⟩ := hq
      rw [e9]
      refine R_icmp_ge_N (tgt := 44) dX5_hitAt_14 (by decide) (by omega) (by omega) (fun c14 => ?_) (fun c14 => ?_)
      -- X5_hitAt: ('branch', 14, 44, 17)
      · exact absurd c14 (by omega)
      · refine R_aload_n dX5_hitAt_17 rfl ?_
        refine R_aload_n dX5_hitAt_18 rfl ?_
        refine R_iload dX5_hitAt_19 rfl ?_
        -- X5_hitAt: ('call', 21, '.invokevirtual', 75)
        refine R_callV v_X5_isHit (Read_isHit hD hR (p := i) (by omega)) dX5_hitAt_21 l_RX5_75 rfl rfl hD.1 (Nat.le_of_ble_eq_true rfl) (by omega) rfl rfl (fun v h1 hq => ?_)
        obtain ⟨rfl, e9⟩ := hq
        rw [e9]
        by_cases hh : hitP ph ls i
        · rw [if_pos hh]
          rw [if_pos (decide_eq_true hh)] at nx
          refine R_if_eq_N (tgt := 38) dX5_hitAt_24 (by decide) (by omega) (fun c24 => ?_) (fun c24 => ?_)
          -- X5_hitAt: ('branch', 24, 38, 27)
          · exact absurd c24 (by decide)
          · refine R_iload_n dX5_hitAt_27 rfl ?_
            refine R_iload_n dX5_hitAt_28 rfl ?_
            refine R_icmp_ne_N (tgt := 35) dX5_hitAt_29 (by decide) (by omega) (by omega) (fun c29 => ?_) (fun c29 => ?_)
            -- X5_hitAt: ('branch', 29, 35, 32)
            · refine R_iinc3 dX5_hitAt_35 (by decide) (nI_inc _ 1) ?_
              refine R_iinc4 dX5_hitAt_38 (by decide) (nI_inc _ 1) ?_
              refine R_goto (tgt := 5) dX5_hitAt_41 (by decide) ?_
              -- X5_hitAt: ('stop', 5)
              exact nx (fstB_step h0 (decide_eq_false (fun z => c29 z.2)))
            · refine R_iload dX5_hitAt_32 rfl ?_
              refine R_ireturn dX5_hitAt_34 rfl rfl ?_
              -- X5_hitAt: ('ret', 34)
              refine ⟨?_, rfl⟩
              rw [hitAtS, fstB_at h0 (decide_eq_true ⟨hh, c29⟩) (show i < ls.length by omega), oI, Nat.zero_add]
        · rw [if_neg hh]
          rw [if_neg (fun z => hh (of_decide_eq_true z))] at nx
          refine R_if_eq_N (tgt := 38) dX5_hitAt_24 (by decide) (by omega) (fun c24 => ?_) (fun c24 => ?_)
          -- X5_hitAt: ('branch', 24, 38, 27)
          · refine R_iinc4 dX5_hitAt_38 (by decide) (nI_inc _ 1) ?_
            refine R_goto (tgt := 5) dX5_hitAt_41 (by decide) ?_
            -- X5_hitAt: ('stop', 5)
            exact nx (fstB_step h0 (decide_eq_false (fun z => hh z.1)))
          · exact absurd rfl c24
  refine R_iconst (v := nI 0) dX5_hitAt_0 (by decide) ?_
  refine R_istore3 dX5_hitAt_1 (by decide) ?_
  refine R_iconst (v := nI 0) dX5_hitAt_2 (by decide) ?_
  refine R_istore4 dX5_hitAt_3 (by decide) ?_
  -- X5_hitAt: ('stop', 5)
  exact loop ls.length 0 (by omega) rfl
theorem Read_alikeFrom (hD : ReadAt E h D ls hs bs ds lo la) {i j : Nat} (hi : i ≤ ls.length) (hj : j ≤ ls.length) : Spec E k_X5_alikeFrom 2 0 0 [.ref D, .int (nI i), .int (nI j)] h (fun v h' => v = some (.int (nI (comN ls i j))) ∧ h' = h) := by
  have hl := hD.2.1.1
  refine Spec.of (by decide +kernel) (by simp [Value.category]) (Nat.le_of_ble_eq_true rfl) ?_
  show WP E k_X5_alikeFrom 2 0 0 0 [some (.ref D), some (.int (nI i)), some (.int (nI j)), none, none] [] h _
  have loop : ∀ m n, n + m = ls.length - max i j → fstB (fun n => decide (ls[i + n]? ≠ ls[j + n]?)) n = none → WP E k_X5_alikeFrom 2 0 0 17 [some (.ref D), some (.int (nI i)), some (.int (nI j)), some (.int (nI (ls.length - max i j))), some (.int (nI n))] [] h (fun v h' => v = some (.int (nI (comN ls i j))) ∧ h' = h) := by
    intro m
    induction m with
    | zero =>
      intro n hn h0
      refine R_iload dX5_alikeFrom_17 rfl ?_
      refine R_iload_n dX5_alikeFrom_19 rfl ?_
      refine R_icmp_ge_N (tgt := 57) dX5_alikeFrom_20 (by decide) (by omega) (by omega) (fun c20 => ?_) (fun c20 => ?_)
      -- X5_alikeFrom: ('branch', 20, 57, 23)
      · refine R_iload_n dX5_alikeFrom_57 rfl ?_
        refine R_iconst (v := nI 0) dX5_alikeFrom_58 (by decide) ?_
        -- X5_alikeFrom: ('call', 59, '.invokestatic', 69)
        refine R_callS s_J9_max_7cf53 (J_max (a := ls.length - max i j) (b := 0) (by omega) (by omega)) dX5_alikeFrom_59 l_RX5_69 rfl rfl (Nat.le_of_ble_eq_true rfl) (by omega) rfl rfl (fun v h1 hq => ?_)
        obtain ⟨rfl, e9⟩ := hq
        rw [e9]
        refine R_ireturn dX5_alikeFrom_62 rfl rfl ?_
        -- X5_alikeFrom: ('ret', 62)
        refine ⟨?_, rfl⟩
        have e : n = ls.length - max i j := by omega
        rw [comN, ← e, h0, Nat.max_eq_left (Nat.zero_le _)]
        rfl
      · exact absurd c20 (by omega)
    | succ m ih =>
      intro n hn h0
      obtain ⟨x, hx⟩ := getE (l := ls) (i := i + n) (by omega)
      obtain ⟨y, hy⟩ := getE (l := ls) (i := j + n) (by omega)
      have hx6 := hD.2.1.lt hx
      have hy6 := hD.2.1.lt hy
      refine R_iload dX5_alikeFrom_17 rfl ?_
      refine R_iload_n dX5_alikeFrom_19 rfl ?_
      refine R_icmp_ge_N (tgt := 57) dX5_alikeFrom_20 (by decide) (by omega) (by omega) (fun c20 => ?_) (fun c20 => ?_)
      -- X5_alikeFrom: ('branch', 20, 57, 23)
      · exact absurd c20 (by omega)
      · refine R_aload_n dX5_alikeFrom_23 rfl ?_
        refine R_get K_5 (f := 0) (by decide) dX5_alikeFrom_24 f_RX5_14 hD.1 rfl ?_
        refine R_iload_n dX5_alikeFrom_27 rfl ?_
        refine R_iload dX5_alikeFrom_28 rfl ?_
        refine R_iadd_N dX5_alikeFrom_30 ?_
        -- X5_alikeFrom: ('call', 31, '.invokevirtual', 47)
        refine R_callV v_X6_get (Row_get hD.2.1 (nI (i + n))) dX5_alikeFrom_31 l_RX5_47 rfl rfl hD.2.1.2.2.1 (Nat.le_of_ble_eq_true rfl) (by omega) rfl rfl (fun v h1 hq => ?_)
        obtain ⟨rfl, e9⟩ := hq
        rw [e9, rget_in (by omega) hx]
        refine R_aload_n dX5_alikeFrom_34 rfl ?_
        refine R_get K_5 (f := 0) (by decide) dX5_alikeFrom_35 f_RX5_14 hD.1 rfl ?_
        refine R_iload_n dX5_alikeFrom_38 rfl ?_
        refine R_iload dX5_alikeFrom_39 rfl ?_
        refine R_iadd_N dX5_alikeFrom_41 ?_
        -- X5_alikeFrom: ('call', 42, '.invokevirtual', 47)
        refine R_callV v_X6_get (Row_get hD.2.1 (nI (j + n))) dX5_alikeFrom_42 l_RX5_47 rfl rfl hD.2.1.2.2.1 (Nat.le_of_ble_eq_true rfl) (by omega) rfl rfl (fun v h1 hq => ?_)
        obtain ⟨rfl, e9⟩ := hq
        rw [e9, rget_in (by omega) hy]
        refine R_icmp_eq_N (tgt := 51) dX5_alikeFrom_45 (by decide) (by omega) (by omega) (fun c45 => ?_) (fun c45 => ?_)
        -- X5_alikeFrom: ('branch', 45, 51, 48)
        · refine R_iinc4 dX5_alikeFrom_51 (by decide) (nI_inc _ 1) ?_
          refine R_goto (tgt := 17) dX5_alikeFrom_54 (by decide) ?_
          -- X5_alikeFrom: ('stop', 17)
          exact ih (n + 1) (by omega) (fstB_step h0 (decide_eq_false (fun z => z (by rw [hx, hy, c45]))))
        · refine R_iload dX5_alikeFrom_48 rfl ?_
          refine R_ireturn dX5_alikeFrom_50 rfl rfl ?_
          -- X5_alikeFrom: ('ret', 50)
          refine ⟨?_, rfl⟩
          rw [comN, fstB_at h0 (decide_eq_true (fun z => c45 (by rw [hx, hy] at z; exact Option.some.inj z))) (show n < ls.length - max i j by omega)]
          rfl
  refine R_aload_n dX5_alikeFrom_0 rfl ?_
  refine R_get K_5 (f := 0) (by decide) dX5_alikeFrom_1 f_RX5_14 hD.1 rfl ?_
  -- X5_alikeFrom: ('call', 4, '.invokevirtual', 43)
  refine R_callV v_X6_size (Row_size hD.2.1) dX5_alikeFrom_4 l_RX5_43 rfl rfl hD.2.1.2.2.1 (Nat.le_of_ble_eq_true rfl) (by omega) rfl rfl (fun v h1 hq => ?_)
  obtain ⟨rfl, e9⟩ := hq
  rw [e9]
  refine R_iload_n dX5_alikeFrom_7 rfl ?_
  refine R_iload_n dX5_alikeFrom_8 rfl ?_
  -- X5_alikeFrom: ('call', 9, '.invokestatic', 69)
  refine R_callS s_J9_max_7cf53 (J_max (a := i) (b := j) (by omega) (by omega)) dX5_alikeFrom_9 l_RX5_69 rfl rfl (Nat.le_of_ble_eq_true rfl) (by omega) rfl rfl (fun v h1 hq => ?_)
  obtain ⟨rfl, e9⟩ := hq
  rw [e9]
  refine R_isub_N dX5_alikeFrom_12 (by omega) ?_
  refine R_istore3 dX5_alikeFrom_13 (by decide) ?_
  refine R_iconst (v := nI 0) dX5_alikeFrom_14 (by decide) ?_
  refine R_istore4 dX5_alikeFrom_15 (by decide) ?_
  -- X5_alikeFrom: ('stop', 17)
  exact loop (ls.length - max i j) 0 (by omega) rfl
end READING2
