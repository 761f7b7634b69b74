/-! ROWS: a row of numbers at r, its items at r + 1 -/
/-- a row at r with room for cap numbers holds l -/
def RowAt (E : EnvT) (h : Hp) (r cap : Nat) (l : List Nat) : Prop := l.length ≤ cap ∧ cap < 100000 ∧ h.2 r = some (.inr (6, [.ref (r + 1), .int (nI l.length)])) ∧ ∃ f, h.2 (r + 1) = some (.inl (E.2.2.1 0, cap, .inl f)) ∧ ∀ i x, l[i]? = some x → f i = nI x ∧ x < 65536
/-- outside the cells a to b nothing has changed -/
def Out (h h' : Hp) (a b : Nat) : Prop := h'.1 = h.1 ∧ ∀ q, (q < a ∨ b ≤ q) → h'.2 q = h.2 q
theorem Out.refl {h : Hp} {a b : Nat} : Out h h a b := ⟨rfl, fun _ _ => rfl⟩
theorem Out.trans {h h1 h2 : Hp} {a b : Nat} (x : Out h h1 a b) (y : Out h1 h2 a b) : Out h h2 a b := ⟨y.1.trans x.1, fun q hq => (y.2 q hq).trans (x.2 q hq)⟩
theorem Out.mono {h h1 : Hp} {a b a' b' : Nat} (x : Out h h1 a b) (ha : a' ≤ a) (hb : b ≤ b') : Out h h1 a' b' := ⟨x.1, fun q hq => x.2 q (by omega)⟩
theorem Out.upd {h h1 : Hp} {a b q : Nat} {e : va_E} (x : Upd h h1 q e) (g1 : a ≤ q) (g2 : q < b) : Out h h1 a b := ⟨x.1, fun p hp => x.2.2 p (by omega)⟩
theorem RowAt.out {E : EnvT} {h h1 : Hp} {r cap a b : Nat} {l : List Nat} (x : RowAt E h r cap l) (o : Out h h1 a b) (hd : r + 2 ≤ a ∨ b ≤ r) : RowAt E h1 r cap l := by
  obtain ⟨h1, h2, h3, f, h4, h5⟩ := x
  exact ⟨h1, h2, (o.2 r (by omega)).trans h3, f, (o.2 (r + 1) (by omega)).trans h4, h5⟩
theorem RowAt.lt {E : EnvT} {h : Hp} {r cap : Nat} {l : List Nat} (x : RowAt E h r cap l) {i v : Nat} (hi : l[i]? = some v) : v < 65536 := by
  obtain ⟨h1, h2, h3, f, h4, h5⟩ := x
  exact (h5 i v hi).2
/-- what get answers -/
def rget (l : List Nat) (i : Int32) : Int32 := if i < 0 then -1 else match l[i.toNatClampNeg]? with
  | some x => nI x
  | none => -1
theorem rget_nI {l : List Nat} {i : Nat} (hi : i < 2 ^ 31) : rget l (nI i) = match l[i]? with
  | some x => nI x
  | none => -1 := by
  simp only [rget, if_neg (nI_pos hi), nI_clamp hi]
theorem rget_in {l : List Nat} {i x : Nat} (hi : i < 2 ^ 31) (h : l[i]? = some x) : rget l (nI i) = nI x := by rw [rget_nI hi, h]
theorem rget_out {l : List Nat} {i : Nat} (hi : i < 2 ^ 31) (h : l.length ≤ i) : rget l (nI i) = -1 := by rw [rget_nI hi, List.getElem?_eq_none h]
theorem rget_neg {l : List Nat} {i : Int32} (hi : i < 0) : rget l i = -1 := by simp [rget, hi]
theorem getE {l : List Nat} {i : Nat} (h : i < l.length) : ∃ x, l[i]? = some x := ⟨_, List.getElem?_eq_getElem h⟩
section ROWS
variable {E : EnvT} {h : Hp} {r cap : Nat} {l : List Nat}
theorem Row_size (hR : RowAt E h r cap l) : Spec E k_X6_size 1 0 0 [.ref r] h (fun v h' => v = some (.int (nI l.length)) ∧ h' = h) := by
  obtain ⟨hc, hcap, hr, f, ha, hf⟩ := hR
  refine Spec.of (by decide +kernel) (by simp [Value.category]) (Nat.le_of_ble_eq_true rfl) ?_
  show WP E k_X6_size 1 0 0 0 [some (.ref r)] [] h _
  refine R_aload_n dX6_size_0 rfl ?_
  refine R_get K_6 (f := 1) (by decide) dX6_size_1 f_RX6_9 hr rfl ?_
  refine R_ireturn dX6_size_4 rfl rfl ?_
  -- X6_size: ('ret', 4)
  exact ⟨rfl, rfl⟩
theorem Row_clear (hR : RowAt E h r cap l) : Spec E k_X6_clear 1 0 0 [.ref r] h (fun v h' => v = none ∧ RowAt E h' r cap [] ∧ Out h h' r (r + 2)) := by
  obtain ⟨hc, hcap, hr, f, ha, hf⟩ := hR
  refine Spec.of (by decide +kernel) (by simp [Value.category]) (Nat.le_of_ble_eq_true rfl) ?_
  show WP E k_X6_clear 1 0 0 0 [some (.ref r)] [] h _
  refine R_aload_n dX6_clear_0 rfl ?_
  refine R_iconst (v := nI 0) dX6_clear_1 (by decide) ?_
  refine R_put_A K_6 (f := 1) (by decide) dX6_clear_2 f_RX6_9 rfl hr (by rfl) (by rfl) (Nat.le_of_ble_eq_true rfl) ?_
  -- X6_clear: ('put', 5)
  intro h1 u
  refine R_return dX6_clear_5 rfl ?_
  -- X6_clear: ('ret', 5)
  refine ⟨rfl, ⟨Nat.zero_le _, hcap, u.2.1, f, (u.2.2 _ (by omega)).trans ha, fun i x hx => by simp at hx⟩, Out.upd u (by omega) (by omega)⟩
theorem Row_get (hR : RowAt E h r cap l) (i : Int32) : Spec E k_X6_get 1 0 0 [.ref r, .int i] h (fun v h' => v = some (.int (rget l i)) ∧ h' = h) := by
  obtain ⟨hc, hcap, hr, f, ha, hf⟩ := hR
  refine Spec.of (by decide +kernel) (by simp [Value.category]) (Nat.le_of_ble_eq_true rfl) ?_
  show WP E k_X6_get 1 0 0 0 [some (.ref r), some (.int i)] [] h _
  refine R_iload_n dX6_get_0 rfl ?_
  refine R_if_lt (tgt := 21) dX6_get_1 (by decide) (fun c1 => ?_) (fun c1 => ?_)
  -- X6_get: ('branch', 1, 21, 4)
  · refine R_iconst (v := (-1)) dX6_get_21 (by decide) ?_
    refine R_ireturn dX6_get_22 rfl rfl ?_
    -- X6_get: ('ret', 22)
    exact ⟨by rw [rget_neg c1], rfl⟩
  · obtain ⟨j, hj, rfl⟩ := nI_of c1
    refine R_iload_n dX6_get_4 rfl ?_
    refine R_aload_n dX6_get_5 rfl ?_
    refine R_get K_6 (f := 1) (by decide) dX6_get_6 f_RX6_9 (by first | exact hr | exact ha) rfl ?_
    refine R_icmp_ge_N (tgt := 21) dX6_get_9 (by decide) (by omega) (by omega) (fun c9 => ?_) (fun c9 => ?_)
    -- X6_get: ('branch', 9, 21, 12)
    · refine R_iconst (v := (-1)) dX6_get_21 (by decide) ?_
      refine R_ireturn dX6_get_22 rfl rfl ?_
      -- X6_get: ('ret', 22)
      exact ⟨by rw [rget_out hj c9], rfl⟩
    · obtain ⟨x, hx⟩ := getE c9
      refine R_aload_n dX6_get_12 rfl ?_
      refine R_get K_6 (f := 0) (by decide) dX6_get_13 f_RX6_15 (by first | exact hr | exact ha) rfl ?_
      refine R_iload_n dX6_get_16 rfl ?_
      refine R_iaload_N dX6_get_17 (by first | exact hr | exact ha) (by omega) (by omega) (hf j x hx).1 ?_
      refine R_goto (tgt := 22) dX6_get_18 (by decide) ?_
      refine R_ireturn dX6_get_22 rfl rfl ?_
      -- X6_get: ('ret', 22)
      exact ⟨by rw [rget_in hj hx], rfl⟩
theorem Row_add (hR : RowAt E h r cap l) {x : Nat} (hx : x < 65536) (hl : l.length < cap) : Spec E k_X6_add 1 0 0 [.ref r, .int (nI x)] h (fun v h' => v = none ∧ RowAt E h' r cap (l ++ [x]) ∧ Out h h' r (r + 2)) := by
  obtain ⟨hc, hcap, hr, f, ha, hf⟩ := hR
  refine Spec.of (by decide +kernel) (by simp [Value.category]) (Nat.le_of_ble_eq_true rfl) ?_
  show WP E k_X6_add 1 0 0 0 [some (.ref r), some (.int (nI x))] [] h _
  refine R_aload_n dX6_add_0 rfl ?_
  refine R_get K_6 (f := 1) (by decide) dX6_add_1 f_RX6_9 (by first | exact hr | exact ha) rfl ?_
  refine R_aload_n dX6_add_4 rfl ?_
  refine R_get K_6 (f := 0) (by decide) dX6_add_5 f_RX6_15 (by first | exact hr | exact ha) rfl ?_
  refine R_arraylength (t0 := 0) dX6_add_8 rfl (by first | exact hr | exact ha) ?_
  refine R_icmp_ge_N (tgt := 32) dX6_add_9 (by decide) (by omega) (by omega) (fun c9 => ?_) (fun c9 => ?_)
  -- X6_add: ('branch', 9, 32, 12)
  · exact absurd c9 (by omega)
  · refine R_aload_n dX6_add_12 rfl ?_
    refine R_get K_6 (f := 0) (by decide) dX6_add_13 f_RX6_15 (by first | exact hr | exact ha) rfl ?_
    refine R_aload_n dX6_add_16 rfl ?_
    refine R_get K_6 (f := 1) (by decide) dX6_add_17 f_RX6_9 (by first | exact hr | exact ha) rfl ?_
    refine R_iload_n dX6_add_20 rfl ?_
    refine R_iastore_N dX6_add_21 (by first | exact hr | exact ha) (by omega) (by omega) ?_
    -- X6_add: ('put', 22)
    intro h1 u
    have hr1 := (u.2.2 r (by omega)).trans hr
    refine R_aload_n dX6_add_22 rfl ?_
    refine R_dup dX6_add_23 rfl ?_
    refine R_get K_6 (f := 1) (by decide) dX6_add_24 f_RX6_9 hr1 rfl ?_
    refine R_iconst (v := nI 1) dX6_add_27 (by decide) ?_
    refine R_iadd_N dX6_add_28 ?_
    refine R_put_A K_6 (f := 1) (by decide) dX6_add_29 f_RX6_9 rfl hr1 (by rfl) (by rfl) (Nat.le_of_ble_eq_true rfl) ?_
    -- X6_add: ('put', 32)
    intro h2 u2
    refine R_return dX6_add_32 rfl ?_
    -- X6_add: ('ret', 32)
    refine ⟨rfl, ⟨by simp; omega, hcap, by rw [u2.2.1]; simp, _, (u2.2.2 _ (by omega)).trans u.2.1, fun i y hy => ?_⟩, (Out.upd u (by omega) (by omega)).trans (Out.upd u2 (by omega) (by omega))⟩
    by_cases hi : i < l.length
    · rw [List.getElem?_append_left hi] at hy
      rw [upd, if_neg (by omega)]
      exact hf i y hy
    · rw [List.getElem?_append_right (by omega)] at hy
      have hz := (List.getElem?_eq_some_iff.mp hy).1
      simp at hz
      have : i = l.length := by omega
      subst this
      simp at hy
      subst hy
      exact ⟨by simp [upd], hx⟩
theorem Row_howMany (hR : RowAt E h r cap l) {x : Nat} (hx : x < 65536) : Spec E k_X6_howMany 1 0 0 [.ref r, .int (nI x)] h (fun v h' => v = some (.int (nI (l.count x))) ∧ h' = h) := by
  obtain ⟨hc, hcap, hr, f, ha, hf⟩ := hR
  refine Spec.of (by decide +kernel) (by simp [Value.category]) (Nat.le_of_ble_eq_true rfl) ?_
  show WP E k_X6_howMany 1 0 0 0 [some (.ref r), some (.int (nI x)), none, none] [] h _
  have loop : ∀ m i c, i + m = l.length → c = (l.take i).count x → WP E k_X6_howMany 1 0 0 4 [some (.ref r), some (.int (nI x)), some (.int (nI c)), some (.int (nI i))] [] h (fun v h' => v = some (.int (nI (l.count x))) ∧ h' = h) := by
    intro m
    induction m with
    | zero =>
      intro i c hi hcc
      refine R_iload_n dX6_howMany_4 rfl ?_
      refine R_aload_n dX6_howMany_5 rfl ?_
      refine R_get K_6 (f := 1) (by decide) dX6_howMany_6 f_RX6_9 (by first | exact hr | exact ha) rfl ?_
      refine R_icmp_ge_N (tgt := 31) dX6_howMany_9 (by decide) (by omega) (by omega) (fun c9 => ?_) (fun c9 => ?_)
      -- X6_howMany: ('branch', 9, 31, 12)
      · refine R_iload_n dX6_howMany_31 rfl ?_
        refine R_ireturn dX6_howMany_32 rfl rfl ?_
        -- X6_howMany: ('ret', 32)
        rw [List.take_of_length_le (by omega)] at hcc
        exact ⟨by rw [hcc], rfl⟩
      · exact absurd c9 (by omega)
    | succ m ih =>
      intro i c hi hcc
      refine R_iload_n dX6_howMany_4 rfl ?_
      refine R_aload_n dX6_howMany_5 rfl ?_
      refine R_get K_6 (f := 1) (by decide) dX6_howMany_6 f_RX6_9 (by first | exact hr | exact ha) rfl ?_
      refine R_icmp_ge_N (tgt := 31) dX6_howMany_9 (by decide) (by omega) (by omega) (fun c9 => ?_) (fun c9 => ?_)
      -- X6_howMany: ('branch', 9, 31, 12)
      · exact absurd c9 (by omega)
      · obtain ⟨y, hy⟩ := getE c9
        have hy2 := hf i y hy
        have ht : (l.take (i + 1)).count x = (l.take i).count x + if y = x then 1 else 0 := by
          rw [List.take_add_one, hy]
          simp [List.count_append, List.count_singleton, beq_iff_eq]
        refine R_aload_n dX6_howMany_12 rfl ?_
        refine R_get K_6 (f := 0) (by decide) dX6_howMany_13 f_RX6_15 (by first | exact hr | exact ha) rfl ?_
        refine R_iload_n dX6_howMany_16 rfl ?_
        refine R_iaload_N dX6_howMany_17 (by first | exact hr | exact ha) (by omega) (by omega) hy2.1 ?_
        refine R_iload_n dX6_howMany_18 rfl ?_
        refine R_icmp_ne_N (tgt := 25) dX6_howMany_19 (by decide) (by omega) (by omega) (fun c19 => ?_) (fun c19 => ?_)
        -- X6_howMany: ('branch', 19, 25, 22)
        · refine R_iinc3 dX6_howMany_25 (by decide) (nI_inc _ 1) ?_
          refine R_goto (tgt := 4) dX6_howMany_28 (by decide) ?_
          -- X6_howMany: ('stop', 4)
          exact ih (i + 1) c (by omega) (by rw [ht, if_neg c19]; omega)
        · refine R_iinc2 dX6_howMany_22 (by decide) (nI_inc _ 1) ?_
          refine R_iinc3 dX6_howMany_25 (by decide) (nI_inc _ 1) ?_
          refine R_goto (tgt := 4) dX6_howMany_28 (by decide) ?_
          -- X6_howMany: ('stop', 4)
          exact ih (i + 1) (c + 1) (by omega) (by rw [ht, if_pos c19]; omega)
  refine R_iconst (v := nI 0) dX6_howMany_0 (by decide) ?_
  refine R_istore2 dX6_howMany_1 (by decide) ?_
  refine R_iconst (v := nI 0) dX6_howMany_2 (by decide) ?_
  refine R_istore3 dX6_howMany_3 (by decide) ?_
  -- X6_howMany: ('stop', 4)
  exact loop l.length 0 0 (by omega) (by simp)
theorem Row_init {n : Nat} (hn : n < 100000) (hs : h.1 = r + 1) (hr : h.2 r = some (.inr (6, [.null, .int 0]))) : Spec E k_X6_init 2 1 n [.ref r, .int (nI n)] h (fun v h' => v = none ∧ RowAt E h' r n [] ∧ h'.1 = r + 2 ∧ ∀ q, q < r → h'.2 q = h.2 q) := by
  refine Spec.of (by decide +kernel) (by simp [Value.category]) (Nat.le_of_ble_eq_true rfl) ?_
  show WP E k_X6_init 2 1 n 0 [some (.ref r), some (.int (nI n))] [] h _
  refine R_aload_n dX6_init_0 rfl ?_
  -- X6_init: ('call', 1, '.invokespecial', 3)
  refine R_objInit dX6_init_1 l_RX6_3 (Nat.le_of_ble_eq_true rfl) (by omega) ?_
  refine R_aload_n dX6_init_4 rfl ?_
  refine R_iconst (v := nI 0) dX6_init_5 (by decide) ?_
  refine R_put_A K_6 (f := 1) (by decide) dX6_init_6 f_RX6_9 rfl hr (by rfl) (by rfl) (Nat.le_of_ble_eq_true rfl) ?_
  -- X6_init: ('put', 9)
  intro h1 u
  refine R_aload_n dX6_init_9 rfl ?_
  refine R_iload_n dX6_init_10 rfl ?_
  refine R_if_ge_N (tgt := 18) dX6_init_11 (by decide) (by omega) ?_
  refine R_iload_n dX6_init_18 rfl ?_
  -- X6_init: ('op', 19, '.newarray .int')
  refine R_newarray_int (N := n) (mc' := 0) (ms' := 0) dX6_init_19 a_int (nI_pos (by omega)) (nI_clamp (by omega)) (by omega) rfl (by omega) ?_
  have hs1 : h1.1 = r + 1 := u.1.trans hs
  have hr1 : (hpush h1 (.inl (E.2.2.1 0, n, .inl (fun _ => 0)))).2 r = some (.inr (6, [.null, .int 0])) := by
    simp only [hpush, hs1]
    rw [if_neg (by omega), u.2.1]
    rfl
  rw [hs1]
  refine R_putF_A K_6 (f := 0) (by decide) dX6_init_21 f_RX6_15 rfl rfl rfl hr1 (by rfl) (by rfl) (Nat.le_of_ble_eq_true rfl) ?_
  -- X6_init: ('put', 24)
  intro h2 u2
  refine R_return dX6_init_24 rfl ?_
  -- X6_init: ('ret', 24)
  refine ⟨rfl, ⟨Nat.zero_le _, hn, u2.2.1, fun _ => 0, ?_, fun i x hx => by simp at hx⟩, ?_, fun q hq => ?_⟩
  · rw [u2.2.2 _ (by omega)]
    simp [hpush, hs1]
  · rw [u2.1]; simp [hpush, hs1]
  · rw [u2.2.2 _ (by omega)]
    simp only [hpush, hs1]
    rw [if_neg (by omega), u.2.2 _ (by omega)]
theorem Row_set (hR : RowAt E h r cap l) {i x : Nat} (hi : i < l.length) (hx : x < 65536) : Spec E k_X6_set 1 0 0 [.ref r, .int (nI i), .int (nI x)] h (fun v h' => v = none ∧ RowAt E h' r cap (l.set i x) ∧ Out h h' r (r + 2)) := by
  obtain ⟨hc, hcap, hr, f, ha, hf⟩ := hR
  refine Spec.of (by decide +kernel) (by simp [Value.category]) (Nat.le_of_ble_eq_true rfl) ?_
  show WP E k_X6_set 1 0 0 0 [some (.ref r), some (.int (nI i)), some (.int (nI x))] [] h _
  refine R_iload_n dX6_set_0 rfl ?_
  refine R_if_lt_N (tgt := 19) dX6_set_1 (by decide) (by omega) ?_
  refine R_iload_n dX6_set_4 rfl ?_
  refine R_aload_n dX6_set_5 rfl ?_
  refine R_get K_6 (f := 1) (by decide) dX6_set_6 f_RX6_9 (by first | exact hr | exact ha) rfl ?_
  refine R_icmp_ge_N (tgt := 19) dX6_set_9 (by decide) (by omega) (by omega) (fun c9 => ?_) (fun c9 => ?_)
  -- X6_set: ('branch', 9, 19, 12)
  · exact absurd c9 (by omega)
  · refine R_aload_n dX6_set_12 rfl ?_
    refine R_get K_6 (f := 0) (by decide) dX6_set_13 f_RX6_15 (by first | exact hr | exact ha) rfl ?_
    refine R_iload_n dX6_set_16 rfl ?_
    refine R_iload_n dX6_set_17 rfl ?_
    refine R_iastore_N dX6_set_18 (by first | exact hr | exact ha) (by omega) (by omega) ?_
    -- X6_set: ('put', 19)
    intro h1 u
    refine R_return dX6_set_19 rfl ?_
    -- X6_set: ('ret', 19)
    refine ⟨rfl, ⟨by simpa using hc, hcap, by rw [u.2.2 r (by omega), hr]; simp, _, u.2.1, fun j y hy => ?_⟩, Out.upd u (by omega) (by omega)⟩
    by_cases hji : j = i
    · subst hji
      rw [List.getElem?_set_self hi] at hy
      cases hy
      exact ⟨by simp [upd], hx⟩
    · rw [List.getElem?_set_ne (Ne.symm hji)] at hy
      rw [upd, if_neg hji]
      exact hf j y hy
theorem Row_isPair (hR : RowAt E h r cap l) {x y : Nat} (hx : x < 65536) (hy : y < 65536) : Spec E k_X6_isPair 1 0 0 [.ref r, .int (nI x), .int (nI y)] h (fun v h' => v = some (.int (nI (if l = [x, y] then 1 else 0))) ∧ h' = h) := by
  obtain ⟨hc, hcap, hr, f, ha, hf⟩ := hR
  refine Spec.of (by decide +kernel) (by simp [Value.category]) (Nat.le_of_ble_eq_true rfl) ?_
  show WP E k_X6_isPair 1 0 0 0 [some (.ref r), some (.int (nI x)), some (.int (nI y))] [] h _
  refine R_aload_n dX6_isPair_0 rfl ?_
  refine R_get K_6 (f := 1) (by decide) dX6_isPair_1 f_RX6_9 (by first | exact hr | exact ha) rfl ?_
  refine R_iconst (v := nI 2) dX6_isPair_4 (by decide) ?_
  refine R_icmp_ne_N (tgt := 32) dX6_isPair_5 (by decide) (by omega) (by omega) (fun c5 => ?_) (fun c5 => ?_)
  -- X6_isPair: ('branch', 5, 32, 8)
  · refine R_iconst (v := nI 0) dX6_isPair_32 (by decide) ?_
    refine R_ireturn dX6_isPair_33 rfl (by rfl) ?_
    -- X6_isPair: ('ret', 33)
    exact ⟨by rw [if_neg (fun z => c5 (by rw [z]; rfl))], rfl⟩
  · obtain ⟨p, q, rfl⟩ : ∃ p q, l = [p, q] := by
      match l, c5 with
      | [p, q], _ => exact ⟨p, q, rfl⟩
    have hp := hf 0 p rfl
    have hq := hf 1 q rfl
    simp only [List.length_cons, List.length_nil] at hc
    refine R_aload_n dX6_isPair_8 rfl ?_
    refine R_get K_6 (f := 0) (by decide) dX6_isPair_9 f_RX6_15 (by first | exact hr | exact ha) rfl ?_
    refine R_iconst (v := nI 0) dX6_isPair_12 (by decide) ?_
    refine R_iaload_N dX6_isPair_13 (by first | exact hr | exact ha) (by omega) (by omega) hp.1 ?_
    refine R_iload_n dX6_isPair_14 rfl ?_
    refine R_icmp_ne_N (tgt := 32) dX6_isPair_15 (by decide) (by omega) (by omega) (fun c15 => ?_) (fun c15 => ?_)
    -- X6_isPair: ('branch', 15, 32, 18)
    · refine R_iconst (v := nI 0) dX6_isPair_32 (by decide) ?_
      refine R_ireturn dX6_isPair_33 rfl (by rfl) ?_
      -- X6_isPair: ('ret', 33)
      exact ⟨by rw [if_neg (fun z => c15 (by simpa using (List.cons.inj z).1))], rfl⟩
    · refine R_aload_n dX6_isPair_18 rfl ?_
      refine R_get K_6 (f := 0) (by decide) dX6_isPair_19 f_RX6_15 (by first | exact hr | exact ha) rfl ?_
      refine R_iconst (v := nI 1) dX6_isPair_22 (by decide) ?_
      refine R_iaload_N dX6_isPair_23 (by first | exact hr | exact ha) (by omega) (by omega) hq.1 ?_
      refine R_iload_n dX6_isPair_24 rfl ?_
      refine R_icmp_ne_N (tgt := 32) dX6_isPair_25 (by decide) (by omega) (by omega) (fun c25 => ?_) (fun c25 => ?_)
      -- X6_isPair: ('branch', 25, 32, 28)
      · refine R_iconst (v := nI 0) dX6_isPair_32 (by decide) ?_
        refine R_ireturn dX6_isPair_33 rfl (by rfl) ?_
        -- X6_isPair: ('ret', 33)
        exact ⟨by rw [if_neg (fun z => c25 (by simpa using (List.cons.inj (List.cons.inj z).2).1))], rfl⟩
      · refine R_iconst (v := nI 1) dX6_isPair_28 (by decide) ?_
        refine R_goto (tgt := 33) dX6_isPair_29 (by decide) ?_
        refine R_ireturn dX6_isPair_33 rfl (by rfl) ?_
        -- X6_isPair: ('ret', 33)
        exact ⟨by rw [c15, c25, if_pos rfl], rfl⟩
theorem Row_moveTail {n a b : Nat} {f : Nat → Int32} (hcap : cap < 100000) (hn : n ≤ cap) (hr : h.2 r = some (.inr (6, [.ref (r + 1), .int (nI n)]))) (ha : h.2 (r + 1) = some (.inl (E.2.2.1 0, cap, .inl f))) (h1 : a ≤ n) (h2 : b + (n - a) ≤ cap) : Spec E k_X6_moveTail 2 0 0 [.ref r, .int (nI a), .int (nI b)] h (fun v h' => v = none ∧ h'.2 r = some (.inr (6, [.ref (r + 1), .int (nI (n + b - a))])) ∧ h'.2 (r + 1) = some (.inl (E.2.2.1 0, cap, .inl (va_cpy f f a b (n - a)))) ∧ Out h h' r (r + 2)) := by
  refine Spec.of (by decide +kernel) (by simp [Value.category]) (Nat.le_of_ble_eq_true rfl) ?_
  show WP E k_X6_moveTail 2 0 0 0 [some (.ref r), some (.int (nI a)), some (.int (nI b))] [] h _
  refine R_iload_n dX6_moveTail_0 rfl ?_
  refine R_if_lt_N (tgt := 32) dX6_moveTail_1 (by decide) (by omega) ?_
  refine R_iload_n dX6_moveTail_4 rfl ?_
  refine R_aload_n dX6_moveTail_5 rfl ?_
  refine R_get K_6 (f := 1) (by decide) dX6_moveTail_6 f_RX6_9 (by first | exact hr | exact ha) rfl ?_
  refine R_icmp_gt_N (tgt := 32) dX6_moveTail_9 (by decide) (by omega) (by omega) (fun c9 => ?_) (fun c9 => ?_)
  -- X6_moveTail: ('branch', 9, 32, 12)
  · exact absurd c9 (by omega)
  · refine R_iload_n dX6_moveTail_12 rfl ?_
    refine R_if_lt_N (tgt := 32) dX6_moveTail_13 (by decide) (by omega) ?_
    refine R_iload_n dX6_moveTail_16 rfl ?_
    refine R_aload_n dX6_moveTail_17 rfl ?_
    refine R_get K_6 (f := 0) (by decide) dX6_moveTail_18 f_RX6_15 (by first | exact hr | exact ha) rfl ?_
    refine R_arraylength (t0 := 0) dX6_moveTail_21 rfl (by first | exact hr | exact ha) ?_
    refine R_aload_n dX6_moveTail_22 rfl ?_
    refine R_get K_6 (f := 1) (by decide) dX6_moveTail_23 f_RX6_9 (by first | exact hr | exact ha) rfl ?_
    refine R_iload_n dX6_moveTail_26 rfl ?_
    refine R_isub_N dX6_moveTail_27 (by omega) ?_
    refine R_isub_N dX6_moveTail_28 (by omega) ?_
    refine R_icmp_le_N (tgt := 33) dX6_moveTail_29 (by decide) (by omega) (by omega) (fun c29 => ?_) (fun c29 => ?_)
    -- X6_moveTail: ('branch', 29, 33, 32)
    · refine R_aload_n dX6_moveTail_33 rfl ?_
      refine R_get K_6 (f := 0) (by decide) dX6_moveTail_34 f_RX6_15 (by first | exact hr | exact ha) rfl ?_
      refine R_iload_n dX6_moveTail_37 rfl ?_
      refine R_aload_n dX6_moveTail_38 rfl ?_
      refine R_get K_6 (f := 0) (by decide) dX6_moveTail_39 f_RX6_15 (by first | exact hr | exact ha) rfl ?_
      refine R_iload_n dX6_moveTail_42 rfl ?_
      refine R_aload_n dX6_moveTail_43 rfl ?_
      refine R_get K_6 (f := 1) (by decide) dX6_moveTail_44 f_RX6_9 (by first | exact hr | exact ha) rfl ?_
      refine R_iload_n dX6_moveTail_47 rfl ?_
      refine R_isub_N dX6_moveTail_48 (by omega) ?_
      -- X6_moveTail: ('call', 49, '.invokestatic', 34)
      refine R_arraycopy_N dX6_moveTail_49 l_RX6_34 ha ha (by omega) (by omega) (by omega) (by omega) (by decide) (by decide) ?_
      intro h3 u
      have hr1 := (u.2.2 r (by omega)).trans hr
      refine R_aload_n dX6_moveTail_52 rfl ?_
      refine R_dup dX6_moveTail_53 rfl ?_
      refine R_get K_6 (f := 1) (by decide) dX6_moveTail_54 f_RX6_9 hr1 rfl ?_
      refine R_iload_n dX6_moveTail_57 rfl ?_
      refine R_iload_n dX6_moveTail_58 rfl ?_
      refine R_isub dX6_moveTail_59 ?_
      refine R_iadd dX6_moveTail_60 ?_
      -- X6_moveTail: ('stop', 61)
      rw [nI_addsub (by omega)]
      refine R_put_A K_6 (f := 1) (by decide) dX6_moveTail_61 f_RX6_9 rfl hr1 (by rfl) (by rfl) (Nat.le_of_ble_eq_true rfl) ?_
      -- X6_moveTail: ('put', 64)
      intro h4 u2
      refine R_return dX6_moveTail_64 rfl ?_
      -- X6_moveTail: ('ret', 64)
      exact ⟨rfl, u2.2.1, (u2.2.2 _ (by omega)).trans u.2.1, (Out.upd u (by omega) (by omega)).trans (Out.upd u2 (by omega) (by omega))⟩
    · exact absurd c29 (by omega)
theorem Row_addAt (hR : RowAt E h r cap l) {i x : Nat} (hi : i ≤ l.length) (hl : l.length < cap) (hx : x < 65536) : Spec E k_X6_addAt 3 0 0 [.ref r, .int (nI i), .int (nI x)] h (fun v h' => v = none ∧ RowAt E h' r cap (l.take i ++ x :: l.drop i) ∧ Out h h' r (r + 2)) := by
  obtain ⟨hc, hcap, hr, f, ha, hf⟩ := hR
  refine Spec.of (by decide +kernel) (by simp [Value.category]) (Nat.le_of_ble_eq_true rfl) ?_
  show WP E k_X6_addAt 3 0 0 0 [some (.ref r), some (.int (nI i)), some (.int (nI x))] [] h _
  refine R_iload_n dX6_addAt_0 rfl ?_
  refine R_if_lt_N (tgt := 24) dX6_addAt_1 (by decide) (by omega) ?_
  refine R_iload_n dX6_addAt_4 rfl ?_
  refine R_aload_n dX6_addAt_5 rfl ?_
  refine R_get K_6 (f := 1) (by decide) dX6_addAt_6 f_RX6_9 (by first | exact hr | exact ha) rfl ?_
  refine R_icmp_gt_N (tgt := 24) dX6_addAt_9 (by decide) (by omega) (by omega) (fun c9 => ?_) (fun c9 => ?_)
  -- X6_addAt: ('branch', 9, 24, 12)
  · exact absurd c9 (by omega)
  · refine R_aload_n dX6_addAt_12 rfl ?_
    refine R_get K_6 (f := 1) (by decide) dX6_addAt_13 f_RX6_9 (by first | exact hr | exact ha) rfl ?_
    refine R_aload_n dX6_addAt_16 rfl ?_
    refine R_get K_6 (f := 0) (by decide) dX6_addAt_17 f_RX6_15 (by first | exact hr | exact ha) rfl ?_
    refine R_arraylength (t0 := 0) dX6_addAt_20 rfl (by first | exact hr | exact ha) ?_
    refine R_icmp_lt_N (tgt := 25) dX6_addAt_21 (by decide) (by omega) (by omega) (fun c21 => ?_) (fun c21 => ?_)
    -- X6_addAt: ('branch', 21, 25, 24)
    · refine R_aload_n dX6_addAt_25 rfl ?_
      refine R_iload_n dX6_addAt_26 rfl ?_
      refine R_iload_n dX6_addAt_27 rfl ?_
      refine R_iconst (v := nI 1) dX6_addAt_28 (by decide) ?_
      refine R_iadd_N dX6_addAt_29 ?_
      -- X6_addAt: ('call', 30, '.invokevirtual', 19)
      refine R_callV v_X6_moveTail (Row_moveTail (n := l.length) (a := i) (b := i + 1) hcap hc hr ha hi (by omega)) dX6_addAt_30 l_RX6_19 rfl rfl hr (Nat.le_of_ble_eq_true rfl) (by omega) rfl rfl (fun v h1 hq => ?_)
      obtain ⟨rfl, hr1, ha1, o1⟩ := hq
      refine R_aload_n dX6_addAt_33 rfl ?_
      refine R_get K_6 (f := 0) (by decide) dX6_addAt_34 f_RX6_15 (by first | exact hr1 | exact ha1) rfl ?_
      refine R_iload_n dX6_addAt_37 rfl ?_
      refine R_iload_n dX6_addAt_38 rfl ?_
      refine R_iastore_N dX6_addAt_39 (by first | exact hr1 | exact ha1) (by omega) (by omega) ?_
      -- X6_addAt: ('put', 40)
      intro h2 u
      refine R_return dX6_addAt_40 rfl ?_
      -- X6_addAt: ('ret', 40)
      refine ⟨rfl, ⟨by simp; omega, hcap, ?_, _, u.2.1, fun j y hy => ?_⟩, o1.trans (Out.upd u (by omega) (by omega))⟩
      · rw [u.2.2 r (by omega), hr1]
        simp only [List.length_append, List.length_cons, List.length_take, List.length_drop]
        rw [show l.length + (i + 1) - i = min i l.length + (l.length - i + 1) by omega]
      · rcases Nat.lt_trichotomy j i with g | g | g
        · rw [List.getElem?_append_left (by simp; omega), List.getElem?_take_of_lt g] at hy
          rw [upd, if_neg (by omega), va_cpy, if_neg (by omega)]
          exact hf j y hy
        · subst g
          rw [List.getElem?_append_right (by simp; omega)] at hy
          simp [Nat.min_eq_left hi] at hy
          subst hy
          exact ⟨by simp [upd], hx⟩
        · rw [List.getElem?_append_right (by simp; omega), List.length_take, Nat.min_eq_left hi, show j - i = (j - i - 1) + 1 by omega, List.getElem?_cons_succ, List.getElem?_drop] at hy
          have hlt := (List.getElem?_eq_some_iff.mp hy).1
          rw [upd, if_neg (by omega), va_cpy, if_pos (by omega)]
          rw [show i + (j - i - 1) = i + (j - (i + 1)) by omega] at hy
          exact hf _ y hy
    · exact absurd c21 (by omega)
theorem Row_removeFrom (hR : RowAt E h r cap l) {i n : Nat} (hi : i + n ≤ l.length) : Spec E k_X6_removeFrom 3 0 0 [.ref r, .int (nI i), .int (nI n)] h (fun v h' => v = none ∧ RowAt E h' r cap (l.take i ++ l.drop (i + n)) ∧ Out h h' r (r + 2)) := by
  obtain ⟨hc, hcap, hr, f, ha, hf⟩ := hR
  refine Spec.of (by decide +kernel) (by simp [Value.category]) (Nat.le_of_ble_eq_true rfl) ?_
  show WP E k_X6_removeFrom 3 0 0 0 [some (.ref r), some (.int (nI i)), some (.int (nI n))] [] h _
  refine R_iload_n dX6_removeFrom_0 rfl ?_
  refine R_if_lt_N (tgt := 26) dX6_removeFrom_1 (by decide) (by omega) ?_
  refine R_iload_n dX6_removeFrom_4 rfl ?_
  refine R_if_lt_N (tgt := 26) dX6_removeFrom_5 (by decide) (by omega) ?_
  refine R_iload_n dX6_removeFrom_8 rfl ?_
  refine R_aload_n dX6_removeFrom_9 rfl ?_
  refine R_get K_6 (f := 1) (by decide) dX6_removeFrom_10 f_RX6_9 hr rfl ?_
  refine R_iload_n dX6_removeFrom_13 rfl ?_
  refine R_isub_N dX6_removeFrom_14 (by omega) ?_
  refine R_icmp_gt_N (tgt := 26) dX6_removeFrom_15 (by decide) (by omega) (by omega) (fun c15 => ?_) (fun c15 => ?_)
  -- X6_removeFrom: ('branch', 15, 26, 18)
  · exact absurd c15 (by omega)
  · refine R_aload_n dX6_removeFrom_18 rfl ?_
    refine R_iload_n dX6_removeFrom_19 rfl ?_
    refine R_iload_n dX6_removeFrom_20 rfl ?_
    refine R_iadd_N dX6_removeFrom_21 ?_
    refine R_iload_n dX6_removeFrom_22 rfl ?_
    -- X6_removeFrom: ('call', 23, '.invokevirtual', 19)
    refine R_callV v_X6_moveTail (Row_moveTail (n := l.length) (a := i + n) (b := i) hcap hc hr ha hi (by omega)) dX6_removeFrom_23 l_RX6_19 rfl rfl hr (Nat.le_of_ble_eq_true rfl) (by omega) rfl rfl (fun v h1 hq => ?_)
    obtain ⟨rfl, hr1, ha1, o1⟩ := hq
    refine R_return dX6_removeFrom_26 rfl ?_
    -- X6_removeFrom: ('ret', 26)
    refine ⟨rfl, ⟨by simp; omega, hcap, ?_, _, ha1, fun j y hy => ?_⟩, o1⟩
    · rw [hr1]
      simp only [List.length_append, List.length_take, List.length_drop]
      rw [show l.length + i - (i + n) = min i l.length + (l.length - (i + n)) by omega]
    · by_cases g : j < i
      · rw [List.getElem?_append_left (by simp; omega), List.getElem?_take_of_lt g] at hy
        rw [va_cpy, if_neg (by omega)]
        exact hf j y hy
      · rw [List.getElem?_append_right (by simp; omega), List.length_take, Nat.min_eq_left (by omega), List.getElem?_drop] at hy
        have hlt := (List.getElem?_eq_some_iff.mp hy).1
        rw [va_cpy, if_pos (by omega)]
        exact hf _ y hy
theorem Row_take (hR : RowAt E h r cap l) {q cap2 : Nat} {l2 : List Nat} (hQ : RowAt E h q cap2 l2) (hne : q + 2 ≤ r ∨ r + 2 ≤ q) (hl : l2.length ≤ cap) : Spec E k_X6_take 2 0 0 [.ref r, .ref q] h (fun v h' => v = none ∧ RowAt E h' r cap l2 ∧ Out h h' r (r + 2)) := by
  refine Spec.of (by decide +kernel) (by simp [Value.category]) (Nat.le_of_ble_eq_true rfl) ?_
  show WP E k_X6_take 2 0 0 0 [some (.ref r), some (.ref q), none] [] h _
  refine R_aload_n dX6_take_0 rfl ?_
  -- X6_take: ('call', 1, '.invokevirtual', 23)
  obtain ⟨gc, gcap, gr, g, ga, gf⟩ := id hQ
  refine R_callV v_X6_clear (Row_clear hR) dX6_take_1 l_RX6_23 rfl rfl hR.2.2.1 (Nat.le_of_ble_eq_true rfl) (by omega) rfl rfl (fun v h1 hq => ?_)
  obtain ⟨rfl, hR1, o1⟩ := hq
  have loop : ∀ m i h2, i + m = l2.length → RowAt E h2 r cap (l2.take i) → Out h h2 r (r + 2) → WP E k_X6_take 2 0 0 6 [some (.ref r), some (.ref q), some (.int (nI i))] [] h2 (fun v h' => v = none ∧ RowAt E h' r cap l2 ∧ Out h h' r (r + 2)) := by
    intro m
    induction m with
    | zero =>
      intro i h2 hi hR2 o2
      have gr2 := (o2.2 q (by omega)).trans gr
      refine R_iload_n dX6_take_6 rfl ?_
      refine R_aload_n dX6_take_7 rfl ?_
      refine R_get K_6 (f := 1) (by decide) dX6_take_8 f_RX6_9 gr2 rfl ?_
      refine R_icmp_ge_N (tgt := 30) dX6_take_11 (by decide) (by omega) (by omega) (fun c11 => ?_) (fun c11 => ?_)
      -- X6_take: ('branch', 11, 30, 14)
      · refine R_return dX6_take_30 rfl ?_
        -- X6_take: ('ret', 30)
        rw [List.take_of_length_le (by omega)] at hR2
        exact ⟨rfl, hR2, o2⟩
      · exact absurd c11 (by omega)
    | succ m ih =>
      intro i h2 hi hR2 o2
      have gr2 := (o2.2 q (by omega)).trans gr
      have ga2 := (o2.2 (q + 1) (by omega)).trans ga
      obtain ⟨y, hy⟩ := getE (l := l2) (i := i) (by omega)
      have hy2 := gf i y hy
      refine R_iload_n dX6_take_6 rfl ?_
      refine R_aload_n dX6_take_7 rfl ?_
      refine R_get K_6 (f := 1) (by decide) dX6_take_8 f_RX6_9 gr2 rfl ?_
      refine R_icmp_ge_N (tgt := 30) dX6_take_11 (by decide) (by omega) (by omega) (fun c11 => ?_) (fun c11 => ?_)
      -- X6_take: ('branch', 11, 30, 14)
      · exact absurd c11 (by omega)
      · refine R_aload_n dX6_take_14 rfl ?_
        refine R_aload_n dX6_take_15 rfl ?_
        refine R_get K_6 (f := 0) (by decide) dX6_take_16 f_RX6_15 (by first | exact gr2 | exact ga2) rfl ?_
        refine R_iload_n dX6_take_19 rfl ?_
        refine R_iaload_N dX6_take_20 (by first | exact gr2 | exact ga2) (by omega) (by omega) hy2.1 ?_
        -- X6_take: ('call', 21, '.invokevirtual', 26)
        refine R_callV v_X6_add (Row_add hR2 hy2.2 (by simp; omega)) dX6_take_21 l_RX6_26 rfl rfl hR2.2.2.1 (Nat.le_of_ble_eq_true rfl) (by omega) rfl rfl (fun v h1 hq => ?_)
        obtain ⟨rfl, hR3, o3⟩ := hq
        refine R_iinc2 dX6_take_24 (by decide) (nI_inc _ 1) ?_
        refine R_goto (tgt := 6) dX6_take_27 (by decide) ?_
        -- X6_take: ('stop', 6)
        refine ih (i + 1) _ (by omega) ?_ (o2.trans o3)
        rw [List.take_add_one, hy]
        exact hR3
  refine R_iconst (v := nI 0) dX6_take_4 (by decide) ?_
  refine R_istore2 dX6_take_5 (by decide) ?_
  -- X6_take: ('stop', 6)
  exact loop l2.length 0 _ (by omega) hR1 o1
theorem Row_spreadAt (hR : RowAt E h r cap l) {q cap2 i : Nat} {l2 : List Nat} (hQ : RowAt E h q cap2 l2) (hne : q + 2 ≤ r ∨ r + 2 ≤ q) (hi : i < l.length) (hl : l.length + l2.length ≤ cap + 1) : Spec E k_X6_spreadAt 3 0 0 [.ref r, .int (nI i), .ref q] h (fun v h' => v = none ∧ RowAt E h' r cap (l.take i ++ l2 ++ l.drop (i + 1)) ∧ Out h h' r (r + 2)) := by
  obtain ⟨hc, hcap, hr, f, ha, hf⟩ := hR
  obtain ⟨gc, gcap, gr, g, ga, gf⟩ := hQ
  refine Spec.of (by decide +kernel) (by simp [Value.category]) (Nat.le_of_ble_eq_true rfl) ?_
  show WP E k_X6_spreadAt 3 0 0 0 [some (.ref r), some (.int (nI i)), some (.ref q), none] [] h _
  refine R_iload_n dX6_spreadAt_0 rfl ?_
  refine R_if_lt_N (tgt := 31) dX6_spreadAt_1 (by decide) (by omega) ?_
  refine R_iload_n dX6_spreadAt_4 rfl ?_
  refine R_aload_n dX6_spreadAt_5 rfl ?_
  refine R_get K_6 (f := 1) (by decide) dX6_spreadAt_6 f_RX6_9 (by first | exact hr | exact ha | exact gr) rfl ?_
  refine R_icmp_ge_N (tgt := 31) dX6_spreadAt_9 (by decide) (by omega) (by omega) (fun c9 => ?_) (fun c9 => ?_)
  -- X6_spreadAt: ('branch', 9, 31, 12)
  · exact absurd c9 (by omega)
  · refine R_aload_n dX6_spreadAt_12 rfl ?_
    refine R_get K_6 (f := 1) (by decide) dX6_spreadAt_13 f_RX6_9 (by first | exact hr | exact ha | exact gr) rfl ?_
    refine R_aload_n dX6_spreadAt_16 rfl ?_
    refine R_get K_6 (f := 0) (by decide) dX6_spreadAt_17 f_RX6_15 (by first | exact hr | exact ha | exact gr) rfl ?_
    refine R_arraylength (t0 := 0) dX6_spreadAt_20 rfl (by first | exact hr | exact ha | exact gr) ?_
    refine R_aload_n dX6_spreadAt_21 rfl ?_
    refine R_get K_6 (f := 1) (by decide) dX6_spreadAt_22 f_RX6_9 (by first | exact hr | exact ha | exact gr) rfl ?_
    refine R_isub_N dX6_spreadAt_25 (by omega) ?_
    refine R_iconst (v := nI 1) dX6_spreadAt_26 (by decide) ?_
    refine R_iadd_N dX6_spreadAt_27 ?_
    refine R_icmp_le_N (tgt := 32) dX6_spreadAt_28 (by decide) (by omega) (by omega) (fun c28 => ?_) (fun c28 => ?_)
    -- X6_spreadAt: ('branch', 28, 32, 31)
    · refine R_aload_n dX6_spreadAt_32 rfl ?_
      refine R_iload_n dX6_spreadAt_33 rfl ?_
      refine R_iconst (v := nI 1) dX6_spreadAt_34 (by decide) ?_
      refine R_iadd_N dX6_spreadAt_35 ?_
      refine R_iload_n dX6_spreadAt_36 rfl ?_
      refine R_aload_n dX6_spreadAt_37 rfl ?_
      refine R_get K_6 (f := 1) (by decide) dX6_spreadAt_38 f_RX6_9 (by first | exact hr | exact ha | exact gr) rfl ?_
      refine R_iadd_N dX6_spreadAt_41 ?_
      -- X6_spreadAt: ('call', 42, '.invokevirtual', 19)
      refine R_callV v_X6_moveTail (Row_moveTail (n := l.length) (a := i + 1) (b := i + l2.length) hcap hc hr ha (by omega) (by omega)) dX6_spreadAt_42 l_RX6_19 rfl rfl hr (Nat.le_of_ble_eq_true rfl) (by omega) rfl rfl (fun v h1 hq => ?_)
      obtain ⟨rfl, hr1, ha1, o1⟩ := hq
      have loop : ∀ m j h2 f2, j + m = l2.length → h2.2 r = some (.inr (6, [.ref (r + 1), .int (nI (l.length + (i + l2.length) - (i + 1)))])) → h2.2 (r + 1) = some (.inl (E.2.2.1 0, cap, .inl f2)) → (∀ p y, p < j → l2[p]? = some y → f2 (i + p) = nI y) → (∀ p, p < i ∨ i + j ≤ p → f2 p = va_cpy f f (i + 1) (i + l2.length) (l.length - (i + 1)) p) → Out h h2 r (r + 2) → WP E k_X6_spreadAt 3 0 0 47 [some (.ref r), some (.int (nI i)), some (.ref q), some (.int (nI j))] [] h2 (fun v h' => v = none ∧ RowAt E h' r cap (l.take i ++ l2 ++ l.drop (i + 1)) ∧ Out h h' r (r + 2)) := by
        intro m
        induction m with
        | zero =>
          intro j h2 f2 hj hr2 ha2 hin hout o2
          have gr2 := (o2.2 q (by omega)).trans gr
          refine R_iload_n dX6_spreadAt_47 rfl ?_
          refine R_aload_n dX6_spreadAt_48 rfl ?_
          refine R_get K_6 (f := 1) (by decide) dX6_spreadAt_49 f_RX6_9 gr2 rfl ?_
          refine R_icmp_ge_N (tgt := 75) dX6_spreadAt_52 (by decide) (by omega) (by omega) (fun c52 => ?_) (fun c52 => ?_)
          -- X6_spreadAt: ('branch', 52, 75, 55)
          · refine R_return dX6_spreadAt_75 rfl ?_
            -- X6_spreadAt: ('ret', 75)
            refine ⟨rfl, ⟨by simp; omega, hcap, ?_, _, ha2, fun p y hy => ?_⟩, o2⟩
            · rw [hr2]
              simp only [List.length_append, List.length_take, List.length_drop]
              rw [show l.length + (i + l2.length) - (i + 1) = min i l.length + l2.length + (l.length - (i + 1)) by omega]
            · rw [List.append_assoc] at hy
              by_cases g1 : p < i
              · rw [List.getElem?_append_left (by simp; omega), List.getElem?_take_of_lt g1] at hy
                rw [hout p (by omega), va_cpy, if_neg (by omega)]
                exact hf p y hy
              · rw [List.getElem?_append_right (by simp; omega), List.length_take, Nat.min_eq_left (by omega)] at hy
                by_cases g2 : p - i < l2.length
                · rw [List.getElem?_append_left g2] at hy
                  have := hin (p - i) y (by omega) hy
                  rw [show i + (p - i) = p by omega] at this
                  exact ⟨this, (gf _ y hy).2⟩
                · rw [List.getElem?_append_right (by omega), List.getElem?_drop] at hy
                  have hlt := (List.getElem?_eq_some_iff.mp hy).1
                  rw [hout p (by omega), va_cpy, if_pos (by omega)]
                  rw [show i + 1 + (p - i - l2.length) = i + 1 + (p - (i + l2.length)) by omega] at hy
                  exact hf _ y hy
          · exact absurd c52 (by omega)
        | succ m ih =>
          intro j h2 f2 hj hr2 ha2 hin hout o2
          have gr2 := (o2.2 q (by omega)).trans gr
          have ga2 := (o2.2 (q + 1) (by omega)).trans ga
          obtain ⟨y, hy⟩ := getE (l := l2) (i := j) (by omega)
          have hy2 := gf j y hy
          refine R_iload_n dX6_spreadAt_47 rfl ?_
          refine R_aload_n dX6_spreadAt_48 rfl ?_
          refine R_get K_6 (f := 1) (by decide) dX6_spreadAt_49 f_RX6_9 gr2 rfl ?_
          refine R_icmp_ge_N (tgt := 75) dX6_spreadAt_52 (by decide) (by omega) (by omega) (fun c52 => ?_) (fun c52 => ?_)
          -- X6_spreadAt: ('branch', 52, 75, 55)
          · exact absurd c52 (by omega)
          · refine R_aload_n dX6_spreadAt_55 rfl ?_
            refine R_get K_6 (f := 0) (by decide) dX6_spreadAt_56 f_RX6_15 (by first | exact hr2 | exact ha2 | exact gr2 | exact ga2) rfl ?_
            refine R_iload_n dX6_spreadAt_59 rfl ?_
            refine R_iload_n dX6_spreadAt_60 rfl ?_
            refine R_iadd_N dX6_spreadAt_61 ?_
            refine R_aload_n dX6_spreadAt_62 rfl ?_
            refine R_get K_6 (f := 0) (by decide) dX6_spreadAt_63 f_RX6_15 (by first | exact hr2 | exact ha2 | exact gr2 | exact ga2) rfl ?_
            refine R_iload_n dX6_spreadAt_66 rfl ?_
            refine R_iaload_N dX6_spreadAt_67 (by first | exact hr2 | exact ha2 | exact gr2 | exact ga2) (by omega) (by omega) hy2.1 ?_
            refine R_iastore_N dX6_spreadAt_68 (by first | exact hr2 | exact ha2 | exact gr2 | exact ga2) (by omega) (by omega) ?_
            -- X6_spreadAt: ('put', 69)
            intro h3 u
            refine R_iinc3 dX6_spreadAt_69 (by decide) (nI_inc _ 1) ?_
            refine R_goto (tgt := 47) dX6_spreadAt_72 (by decide) ?_
            -- X6_spreadAt: ('stop', 47)
            refine ih (j + 1) _ _ (by omega) ((u.2.2 r (by omega)).trans hr2) u.2.1 (fun p z hp hz => ?_) (fun p hp => ?_) (o2.trans (Out.upd u (by omega) (by omega)))
            · by_cases hpj : p = j
              · subst hpj
                rw [hy] at hz
                cases hz
                simp [upd]
              · rw [upd, if_neg (by omega)]
                exact hin p z (by omega) hz
            · rw [upd, if_neg (by omega)]
              exact hout p (by omega)
      refine R_iconst (v := nI 0) dX6_spreadAt_45 (by decide) ?_
      refine R_istore3 dX6_spreadAt_46 (by decide) ?_
      -- X6_spreadAt: ('stop', 47)
      exact loop l2.length 0 _ _ (by omega) hr1 ha1 (fun p y hp => absurd hp (by omega)) (fun p hp => rfl) o1
    · exact absurd c28 (by omega)
end ROWS
