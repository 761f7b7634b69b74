/-! CODES: made -/
theorem take_rev {l : List Nat} {i s : Nat} (h : l[i]? = some s) : (l.take (i + 1)).reverse = s :: (l.take i).reverse := by rw [take_snoc h, List.reverse_append]; rfl
def nxL (ln : Nat → Nat) : List Nat → Int32
  | [] => 0
  | s :: r => cvL ln (s :: r) + 1
def bfL (ln : Nat → Nat) (b0 : Nat) : List Nat → Nat
  | [] => b0
  | s :: _ => ln s
theorem nx_cv {ln : Nat → Nat} {b0 s : Nat} : ∀ {r : List Nat}, (r = [] → b0 = ln s) → nxL ln r <<< ((nI (ln s) - nI (bfL ln b0 r)) &&& 31) = cvL ln (s :: r)
  | [], h => by
    rw [nxL, bfL, cvL, h rfl, Int32.sub_self]; decide
  | t :: r, _ => by rw [nxL, bfL, cvL]
section CODES3
variable {E : EnvT} {h : Hp} {C : Nat} {w gr gw ln : Nat → Nat} {cd : Nat → Int32} {l : List Nat}
theorem Cod_putInOrder (hC : CodAt E h C w gr gw ln cd l) (hl : ∀ s, ln s < 2 ^ 31) : Spec E k_X0_putInOrder 2 0 0 [.ref C] h (fun v h' => v = none ∧ CodAt E h' C w gr gw ln cd (rkC ln 85) ∧ Out h h' C (C + 8)) := by
  refine Spec.of (by decide +kernel) (by simp [Value.category]) (Nat.le_of_ble_eq_true rfl) ?_
  show WP E k_X0_putInOrder 2 0 0 0 [some (.ref C), none, none] [] h _
  have loop2 : ∀ m n s h2 x2, n + 1 ≤ 85 → s + m = 86 → CodAt E h2 C w gr gw ln cd (rkC ln n ++ rkR ln (n + 1) s) → Out h h2 C (C + 8) → (∀ h3 x3, CodAt E h3 C w gr gw ln cd (rkC ln (n + 1)) → Out h h3 C (C + 8) → WP E k_X0_putInOrder 2 0 0 9 [some (.ref C), some (.int (nI (n + 2))), x3] [] h3 (fun v h' => v = none ∧ CodAt E h' C w gr gw ln cd (rkC ln 85) ∧ Out h h' C (C + 8))) → x2 = some (.int (nI s)) → WP E k_X0_putInOrder 2 0 0 17 [some (.ref C), some (.int (nI (n + 1))), x2] [] h2 (fun v h' => v = none ∧ CodAt E h' C w gr gw ln cd (rkC ln 85) ∧ Out h h' C (C + 8)) := by
    intro m
    induction m with
    | zero =>
      intro n s h2 x2 hn hs hC2 o2 kk hx
      subst hx
      obtain rfl : s = 86 := by omega
      refine R_iload_n dX0_putInOrder_17 rfl ?_
      refine R_bipush (v := nI 86) dX0_putInOrder_18 (by decide) ?_
      refine R_icmp_ge_N (tgt := 47) dX0_putInOrder_20 (by decide) (by omega) (by omega) (fun c20 => ?_) (fun c20 => ?_)
      -- X0_putInOrder: ('branch', 20, 47, 23)
      · refine R_iinc1 dX0_putInOrder_47 (by decide) (nI_inc _ 1) ?_
        refine R_goto (tgt := 9) dX0_putInOrder_50 (by decide) ?_
        -- X0_putInOrder: ('stop', 9)
        exact kk h2 _ hC2 o2
      · exact absurd c20 (by omega)
    | succ m ih =>
      intro n s h2 x2 hn hs hC2 o2 kk hx
      subst hx
      obtain ⟨a1, a2, a3, a4, ⟨f4, a5, hf4⟩, a6, a7⟩ := id hC2
      have hls := hl s
      refine R_iload_n dX0_putInOrder_17 rfl ?_
      refine R_bipush (v := nI 86) dX0_putInOrder_18 (by decide) ?_
      refine R_icmp_ge_N (tgt := 47) dX0_putInOrder_20 (by decide) (by omega) (by omega) (fun c20 => ?_) (fun c20 => ?_)
      -- X0_putInOrder: ('branch', 20, 47, 23)
      · exact absurd c20 (by omega)
      · refine R_aload_n dX0_putInOrder_23 rfl ?_
        refine R_get K_0 (f := 3) (by decide) dX0_putInOrder_24 f_RX0_21 a1 rfl ?_
        refine R_iload_n dX0_putInOrder_27 rfl ?_
        refine R_iaload_N dX0_putInOrder_28 a5 (by omega) (by omega) (hf4 s (by omega)) ?_
        refine R_iload_n dX0_putInOrder_29 rfl ?_
        refine R_icmp_ne_N (tgt := 41) dX0_putInOrder_30 (by decide) (by omega) (by omega) (fun c30 => ?_) (fun c30 => ?_)
        -- X0_putInOrder: ('branch', 30, 41, 33)
        · refine R_iinc2 dX0_putInOrder_41 (by decide) (nI_inc _ 1) ?_
          refine R_goto (tgt := 17) dX0_putInOrder_44 (by decide) ?_
          -- X0_putInOrder: ('stop', 17)
          refine ih n (s + 1) h2 _ hn (by omega) ?_ o2 kk rfl
          rw [rkR, if_neg c30, List.append_nil]
          exact hC2
        · have hfit := rk_fit (ln := ln) (n := n) (s := s + 1) (by omega)
          rw [rkR, if_pos c30, List.length_append] at hfit
          have hlen : (rkC ln n ++ rkR ln (n + 1) s).length < 86 := by rw [List.length_append]; simp at hfit; omega
          refine R_aload_n dX0_putInOrder_33 rfl ?_
          refine R_get K_0 (f := 5) (by decide) dX0_putInOrder_34 f_RX0_32 a1 rfl ?_
          refine R_iload_n dX0_putInOrder_37 rfl ?_
          -- X0_putInOrder: ('call', 38, '.invokevirtual', 77)
          refine R_callV v_X6_add (Row_add a7 (x := s) (by omega) hlen) dX0_putInOrder_38 l_RX0_77 rfl rfl a7.2.2.1 (Nat.le_of_ble_eq_true rfl) (by omega) rfl rfl (fun v h3 hq => ?_)
          obtain ⟨rfl, a7', o3⟩ := hq
          refine R_iinc2 dX0_putInOrder_41 (by decide) (nI_inc _ 1) ?_
          refine R_goto (tgt := 17) dX0_putInOrder_44 (by decide) ?_
          -- X0_putInOrder: ('stop', 17)
          obtain ⟨f5, a6, hf5⟩ := a6
          refine ih n (s + 1) h3 _ hn (by omega) ⟨(o3.2 _ (by omega)).trans a1, a2.eq (o3.2 _ (by omega)), a3.eq (o3.2 _ (by omega)), a4.eq (o3.2 _ (by omega)), arrN.eq ⟨f4, a5, hf4⟩ (o3.2 _ (by omega)), ⟨f5, (o3.2 _ (by omega)).trans a6, hf5⟩, ?_⟩ (o2.trans (o3.mono (by omega) (by omega))) kk rfl
          rw [rkR, if_pos c30, ← List.append_assoc]
          exact a7'
  have loop : ∀ m n h2 x3, n + m = 85 → CodAt E h2 C w gr gw ln cd (rkC ln n) → Out h h2 C (C + 8) → WP E k_X0_putInOrder 2 0 0 9 [some (.ref C), some (.int (nI (n + 1))), x3] [] h2 (fun v h' => v = none ∧ CodAt E h' C w gr gw ln cd (rkC ln 85) ∧ Out h h' C (C + 8)) := by
    intro m
    induction m with
    | zero =>
      intro n h2 x3 hn hC2 o2
      obtain rfl : n = 85 := by omega
      refine R_iload_n dX0_putInOrder_9 rfl ?_
      refine R_bipush (v := nI 86) dX0_putInOrder_10 (by decide) ?_
      refine R_icmp_ge_N (tgt := 53) dX0_putInOrder_12 (by decide) (by omega) (by omega) (fun c12 => ?_) (fun c12 => ?_)
      -- X0_putInOrder: ('branch', 12, 53, 15)
      · refine R_return dX0_putInOrder_53 rfl ?_
        -- X0_putInOrder: ('ret', 53)
        exact ⟨rfl, hC2, o2⟩
      · exact absurd c12 (by omega)
    | succ m ih =>
      intro n h2 x3 hn hC2 o2
      refine R_iload_n dX0_putInOrder_9 rfl ?_
      refine R_bipush (v := nI 86) dX0_putInOrder_10 (by decide) ?_
      refine R_icmp_ge_N (tgt := 53) dX0_putInOrder_12 (by decide) (by omega) (by omega) (fun c12 => ?_) (fun c12 => ?_)
      -- X0_putInOrder: ('branch', 12, 53, 15)
      · exact absurd c12 (by omega)
      · refine R_iconst (v := nI 0) dX0_putInOrder_15 (by decide) ?_
        refine R_istore2 dX0_putInOrder_16 (by decide) ?_
        -- X0_putInOrder: ('stop', 17)
        exact loop2 86 n 0 h2 _ (by omega) (by omega) (by rw [rkR, List.append_nil]; exact hC2) o2 (fun h3 x3 k1 k2 => ih (n + 1) h3 x3 (by omega) k1 k2) rfl
  obtain ⟨a1, a2, a3, a4, a5, ⟨f5, a6, hf5⟩, a7⟩ := id hC
  refine R_aload_n dX0_putInOrder_0 rfl ?_
  refine R_get K_0 (f := 5) (by decide) dX0_putInOrder_1 f_RX0_32 a1 rfl ?_
  -- X0_putInOrder: ('call', 4, '.invokevirtual', 74)
  refine R_callV v_X6_clear (Row_clear a7) dX0_putInOrder_4 l_RX0_74 rfl rfl a7.2.2.1 (Nat.le_of_ble_eq_true rfl) (by omega) rfl rfl (fun v h3 hq => ?_)
  obtain ⟨rfl, a7', o3⟩ := hq
  refine R_iconst (v := nI 1) dX0_putInOrder_7 (by decide) ?_
  refine R_istore1 dX0_putInOrder_8 (by decide) ?_
  -- X0_putInOrder: ('stop', 9)
  exact loop 85 0 h3 _ (by omega) ⟨(o3.2 _ (by omega)).trans a1, a2.eq (o3.2 _ (by omega)), a3.eq (o3.2 _ (by omega)), a4.eq (o3.2 _ (by omega)), a5.eq (o3.2 _ (by omega)), ⟨f5, (o3.2 _ (by omega)).trans a6, hf5⟩, a7'⟩ (o3.mono (by omega) (by omega))
theorem Cod_number (hC : CodAt E h C w gr gw ln cd l) (hl : ∀ s ∈ l, s < 86) (hll : l.length ≤ 86) : Spec E k_X0_number 2 0 0 [.ref C] h (fun v h' => v = none ∧ CodAt E h' C w gr gw ln (cwL ln cd l.reverse) l ∧ Out h h' C (C + 8)) := by
  refine Spec.of (by decide +kernel) (by simp [Value.category]) (Nat.le_of_ble_eq_true rfl) ?_
  show WP E k_X0_number 2 0 0 0 [some (.ref C), none, none, none, none] [] h _
  have loop : ∀ m i b0 h2 x4, i + m = l.length → (∀ s, l[0]? = some s → b0 = ln s) → CodAt E h2 C w gr gw ln (cwL ln cd (l.take i).reverse) l → Out h h2 C (C + 8) → WP E k_X0_number 2 0 0 17 [some (.ref C), some (.int (nxL ln (l.take i).reverse)), some (.int (nI (bfL ln b0 (l.take i).reverse))), some (.int (nI i)), x4] [] h2 (fun v h' => v = none ∧ CodAt E h' C w gr gw ln (cwL ln cd l.reverse) l ∧ Out h h' C (C + 8)) := by
    intro m
    induction m with
    | zero =>
      intro i b0 h2 x4 hi hb hC2 o2
      have a7 := hC2.2.2.2.2.2.2
      rw [List.take_of_length_le (by omega)] at hC2 ⊢
      refine R_iload_n dX0_number_17 rfl ?_
      refine R_aload_n dX0_number_18 rfl ?_
      refine R_get K_0 (f := 5) (by decide) dX0_number_19 f_RX0_32 hC2.1 rfl ?_
      -- X0_number: ('call', 22, '.invokevirtual', 80)
      refine R_callV v_X6_size (Row_size a7) dX0_number_22 l_RX0_80 rfl rfl a7.2.2.1 (Nat.le_of_ble_eq_true rfl) (by omega) rfl rfl (fun v h1 hq => ?_)
      obtain ⟨rfl, e9⟩ := hq
      rw [e9]
      refine R_icmp_ge_N (tgt := 85) dX0_number_25 (by decide) (by omega) (by omega) (fun c25 => ?_) (fun c25 => ?_)
      -- X0_number: ('branch', 25, 85, 28)
      · refine R_return dX0_number_85 rfl ?_
        -- X0_number: ('ret', 85)
        exact ⟨rfl, hC2, o2⟩
      · exact absurd c25 (by omega)
    | succ m ih =>
      intro i b0 h2 x4 hi hb hC2 o2
      obtain ⟨a1, a2, a3, a4, a5, ⟨f5, a6, hf5⟩, a7⟩ := id hC2
      obtain ⟨s, hs⟩ := getE (l := l) (i := i) (by omega)
      have hs86 := hl s (List.mem_of_getElem? hs)
      have key := nx_cv (ln := ln) (b0 := b0) (s := s) (r := (l.take i).reverse) (fun e => hb s (by
        have hz : (l.take i).length = 0 := by rw [← List.length_reverse, e]; rfl
        rw [List.length_take] at hz
        rw [show (0 : Nat) = i by omega]; exact hs))
      refine R_iload_n dX0_number_17 rfl ?_
      refine R_aload_n dX0_number_18 rfl ?_
      refine R_get K_0 (f := 5) (by decide) dX0_number_19 f_RX0_32 a1 rfl ?_
      -- X0_number: ('call', 22, '.invokevirtual', 80)
      refine R_callV v_X6_size (Row_size a7) dX0_number_22 l_RX0_80 rfl rfl a7.2.2.1 (Nat.le_of_ble_eq_true rfl) (by omega) rfl rfl (fun v h1 hq => ?_)
      obtain ⟨rfl, e9⟩ := hq
      rw [e9]
      refine R_icmp_ge_N (tgt := 85) dX0_number_25 (by decide) (by omega) (by omega) (fun c25 => ?_) (fun c25 => ?_)
      -- X0_number: ('branch', 25, 85, 28)
      · exact absurd c25 (by omega)
      · refine R_aload_n dX0_number_28 rfl ?_
        refine R_get K_0 (f := 5) (by decide) dX0_number_29 f_RX0_32 a1 rfl ?_
        refine R_iload_n dX0_number_32 rfl ?_
        -- X0_number: ('call', 33, '.invokevirtual', 59)
        refine R_callV v_X6_get (Row_get a7 (nI i)) dX0_number_33 l_RX0_59 rfl rfl a7.2.2.1 (Nat.le_of_ble_eq_true rfl) (by omega) rfl rfl (fun v h1 hq => ?_)
        obtain ⟨rfl, e9⟩ := hq
        rw [e9, rget_in (by omega) hs]
        refine R_istore4 dX0_number_36 (by decide) ?_
        refine R_iload_n dX0_number_38 rfl ?_
        refine R_aload_n dX0_number_39 rfl ?_
        refine R_iload dX0_number_40 rfl ?_
        -- X0_number: ('call', 42, '.invokevirtual', 56)
        refine R_callV v_X0_lengthOf (Cod_lengthOf hC2 (nI s)) dX0_number_42 l_RX0_56 rfl rfl a1 (Nat.le_of_ble_eq_true rfl) (by omega) rfl rfl (fun v h1 hq => ?_)
        obtain ⟨rfl, e9⟩ := hq
        rw [e9, rlen_nI (by omega), if_pos hs86]
        refine R_iload_n dX0_number_45 rfl ?_
        refine R_isub dX0_number_46 ?_
        refine R_ishl dX0_number_47 ?_
        -- X0_number: ('stop', 48)
        rw [key]
        refine R_istore1 dX0_number_48 (by decide) ?_
        refine R_aload_n dX0_number_49 rfl ?_
        refine R_iload dX0_number_50 rfl ?_
        -- X0_number: ('call', 52, '.invokevirtual', 56)
        refine R_callV v_X0_lengthOf (Cod_lengthOf hC2 (nI s)) dX0_number_52 l_RX0_56 rfl rfl a1 (Nat.le_of_ble_eq_true rfl) (by omega) rfl rfl (fun v h1 hq => ?_)
        obtain ⟨rfl, e9⟩ := hq
        rw [e9, rlen_nI (by omega), if_pos hs86]
        refine R_istore2 dX0_number_55 (by decide) ?_
        refine R_iload dX0_number_56 rfl ?_
        refine R_if_lt_N (tgt := 76) dX0_number_58 (by decide) (by omega) ?_
        refine R_iload dX0_number_61 rfl ?_
        refine R_bipush (v := nI 86) dX0_number_63 (by decide) ?_
        refine R_icmp_ge_N (tgt := 76) dX0_number_65 (by decide) (by omega) (by omega) (fun c65 => ?_) (fun c65 => ?_)
        -- X0_number: ('branch', 65, 76, 68)
        · exact absurd c65 (by omega)
        · refine R_aload_n dX0_number_68 rfl ?_
          refine R_get K_0 (f := 4) (by decide) dX0_number_69 f_RX0_24 a1 rfl ?_
          refine R_iload dX0_number_72 rfl ?_
          refine R_iload_n dX0_number_74 rfl ?_
          refine R_iastore_N dX0_number_75 a6 (by omega) (by omega) ?_
          -- X0_number: ('put', 76)
          intro h3 u3
          refine R_iinc1 dX0_number_76 (by decide) rfl ?_
          refine R_iinc3 dX0_number_79 (by decide) (nI_inc _ 1) ?_
          refine R_goto (tgt := 17) dX0_number_82 (by decide) ?_
          -- X0_number: ('stop', 17)
          have o3 : Out h2 h3 C (C + 6) := Out.upd u3 (by omega) (by omega)
          have := ih (i + 1) b0 h3 (some (.int (nI s))) (by omega) hb ⟨(u3.2.2 _ (by omega)).trans a1, a2.eq (u3.2.2 _ (by omega)), a3.eq (u3.2.2 _ (by omega)), a4.eq (u3.2.2 _ (by omega)), a5.eq (u3.2.2 _ (by omega)), ⟨_, u3.2.1, fun x hx => ?_⟩, a7.out o3 (by omega)⟩ (o2.trans (o3.mono (by omega) (by omega)))
          · rw [take_rev hs] at this
            exact this
          · rw [take_rev hs, cwL]
            by_cases e : x = s
            · simp only [upd, if_pos e]
            · simp only [upd, if_neg e, hf5 x hx]
  have a7 := hC.2.2.2.2.2.2
  refine R_iconst (v := nI 0) dX0_number_0 (by decide) ?_
  refine R_istore1 dX0_number_1 (by decide) ?_
  refine R_aload_n dX0_number_2 rfl ?_
  refine R_aload_n dX0_number_3 rfl ?_
  refine R_get K_0 (f := 5) (by decide) dX0_number_4 f_RX0_32 hC.1 rfl ?_
  refine R_iconst (v := nI 0) dX0_number_7 (by decide) ?_
  -- X0_number: ('call', 8, '.invokevirtual', 59)
  refine R_callV v_X6_get (Row_get a7 (nI 0)) dX0_number_8 l_RX0_59 rfl rfl a7.2.2.1 (Nat.le_of_ble_eq_true rfl) (by omega) rfl rfl (fun v h1 hq => ?_)
  obtain ⟨rfl, e9⟩ := hq
  rw [e9]
  refine R_callV v_X0_lengthOf (Cod_lengthOf hC (rget l (nI 0))) dX0_number_11 l_RX0_56 rfl rfl hC.1 (Nat.le_of_ble_eq_true rfl) (by omega) rfl rfl (fun v h1 hq => ?_)
  obtain ⟨rfl, e9⟩ := hq
  rw [e9]
  refine R_istore2 dX0_number_14 (by decide) ?_
  refine R_iconst (v := nI 0) dX0_number_15 (by decide) ?_
  refine R_istore3 dX0_number_16 (by decide) ?_
  -- X0_number: ('stop', 17)
  refine loop l.length 0 _ h none (by omega) (fun s hs => ?_) hC Out.refl
  have hs86 := hl s (List.mem_of_getElem? hs)
  rw [rget_in (by omega) hs]
  exact (rlen_nI (n := s) (by omega)).trans (if_pos hs86)
theorem cst0_good {sq : List Nat} (hs : sq.length < 100000) : CGood (cst0 sq) 0 := by
  refine ⟨fun s hs => hs, ?_, fun s => Nat.le_refl _⟩
  have := sumB_le (f := (cst0 sq).1) (c := 100000) (fun i => by
    have := List.count_le_length (a := i) (l := sq)
    simp only [cst0]; omega) 86
  omega
theorem Cod_make (hC : CodAt E h C w gr gw ln cd l) {r cap : Nat} {sq : List Nat} (hR : RowAt E h r cap sq) (hd : r + 2 ≤ C ∨ C + 8 ≤ r) : Spec E k_X0_make 3 0 0 [.ref C, .ref r] h (fun v h' => v = none ∧ (∃ gr gw, CodAt E h' C (fun s => sq.count s) gr gw (lnS sq) (cdS sq) (rkS sq)) ∧ Out h h' C (C + 8)) := by
  have hg0 := cst0_good (sq := sq) (by have := hR.1; have := hR.2.1; omega)
  have hk : kindsS sq ≤ 86 := cntB_le _ _
  refine Spec.of (by decide +kernel) (by simp [Value.category]) (Nat.le_of_ble_eq_true rfl) ?_
  show WP E k_X0_make 3 0 0 0 [some (.ref C), some (.ref r), none, none] [] h _
  refine R_aload_n dX0_make_0 rfl ?_
  refine R_aload_n dX0_make_1 rfl ?_
  -- X0_make: ('call', 2, '.invokevirtual', 36)
  refine R_callV v_X0_weigh (Cod_weigh hC hR hd) dX0_make_2 l_RX0_36 rfl rfl hC.1 (Nat.le_of_ble_eq_true rfl) (by omega) rfl rfl (fun v h2 hq => ?_)
  obtain ⟨rfl, hC2, o2⟩ := hq
  rw [show cntB (fun s => decide (0 < sq.count s)) 86 = kindsS sq from rfl]
  have fin : ∀ h3 gr gw x3, CodAt E h3 C (fun s => sq.count s) gr gw (lnS sq) (fun _ => 0) l → Out h h3 C (C + 8) → (∀ s, lnS sq s ≤ 86) → WP E k_X0_make 3 0 0 37 [some (.ref C), some (.ref r), some (.int (nI (kindsS sq))), x3] [] h3 (fun v h' => v = none ∧ (∃ gr gw, CodAt E h' C (fun s => sq.count s) gr gw (lnS sq) (cdS sq) (rkS sq)) ∧ Out h h' C (C + 8)) := by
    intro h3 gr gw x3 k1 k2 k3
    refine R_aload_n dX0_make_37 rfl ?_
    -- X0_make: ('call', 38, '.invokevirtual', 50)
    refine R_callV v_X0_putInOrder (Cod_putInOrder k1 (fun s => by have := k3 s; omega)) dX0_make_38 l_RX0_50 rfl rfl k1.1 (Nat.le_of_ble_eq_true rfl) (by omega) rfl rfl (fun v h4 hq => ?_)
    obtain ⟨rfl, hC4, o4⟩ := hq
    refine R_aload_n dX0_make_41 rfl ?_
    -- X0_make: ('call', 42, '.invokevirtual', 53)
    refine R_callV v_X0_number (Cod_number hC4 (fun s hs => (rkC_mem.mp hs).1) (by have := rkC_len (ln := lnS sq) 85; have := cntB_le (fun x => decide (1 ≤ lnS sq x ∧ lnS sq x ≤ 85)) 86; omega)) dX0_make_42 l_RX0_53 rfl rfl hC4.1 (Nat.le_of_ble_eq_true rfl) (by omega) rfl rfl (fun v h5 hq => ?_)
    obtain ⟨rfl, hC5, o5⟩ := hq
    refine R_return dX0_make_45 rfl ?_
    -- X0_make: ('ret', 45)
    exact ⟨rfl, ⟨_, _, hC5⟩, (k2.trans o4).trans o5⟩
  have loop : ∀ m i h3, i + m = kindsS sq - 1 → CodAt E h3 C (fun s => sq.count s) (jnI (cst0 sq) i).2.1 (jnI (cst0 sq) i).1 (jnI (cst0 sq) i).2.2 (fun _ => 0) l → Out h h3 C (C + 8) → WP E k_X0_make 3 0 0 8 [some (.ref C), some (.ref r), some (.int (nI (kindsS sq))), some (.int (nI (i + 1)))] [] h3 (fun v h' => v = none ∧ (∃ gr gw, CodAt E h' C (fun s => sq.count s) gr gw (lnS sq) (cdS sq) (rkS sq)) ∧ Out h h' C (C + 8)) := by
    intro m
    induction m with
    | zero =>
      intro i h3 hi k1 k2
      have hgi := hg0.iter i
      refine R_iload_n dX0_make_8 rfl ?_
      refine R_iload_n dX0_make_9 rfl ?_
      refine R_icmp_ge_N (tgt := 23) dX0_make_10 (by decide) (by omega) (by omega) (fun c10 => ?_) (fun c10 => ?_)
      -- X0_make: ('branch', 10, 23, 13)
      · refine R_iload_n dX0_make_23 rfl ?_
        refine R_iconst (v := nI 1) dX0_make_24 (by decide) ?_
        refine R_icmp_ne_N (tgt := 37) dX0_make_25 (by decide) (by omega) (by omega) (fun c25 => ?_) (fun c25 => ?_)
        -- X0_make: ('branch', 25, 37, 28)
        · by_cases hk1 : kindsS sq = 1
          · exact absurd hk1 c25
          · refine fin h3 (jnI (cst0 sq) i).2.1 (jnI (cst0 sq) i).1 _ ?_ k2 (fun s => ?_)
            · rw [lnS, if_neg hk1, ← show i = kindsS sq - 1 by omega]; exact k1
            · rw [lnS, if_neg hk1, ← show i = kindsS sq - 1 by omega]
              have := hgi.2.2 s
              omega
        · have hi0 : i = 0 := by omega
          subst hi0
          refine R_aload_n dX0_make_28 rfl ?_
          refine R_aload_n dX0_make_29 rfl ?_
          refine R_iconst (v := (-1)) dX0_make_30 (by decide) ?_
          -- X0_make: ('call', 31, '.invokevirtual', 43)
          refine R_callV v_X0_lightestBut (Cod_lightestBut k1 (but := none) (fun s hs => by have := sumB_ge (g := (jnI (cst0 sq) 0).1) hs; have := hgi.2.1; omega) (fun b z => by cases z)) dX0_make_31 l_RX0_43 rfl rfl k1.1 (Nat.le_of_ble_eq_true rfl) (by omega) rfl rfl (fun v h1 hq => ?_)
          obtain ⟨rfl, e9⟩ := hq
          rw [e9]
          refine R_callV v_X0_lengthenGroup (Cod_lengthenGroup k1 (g := lightF (jnI (cst0 sq) 0).1 none 86) (fun s hs => by have := hgi.1 s hs; omega) (fun b z => (lightF_some z).1)) dX0_make_34 l_RX0_47 rfl rfl k1.1 (Nat.le_of_ble_eq_true rfl) (by omega) rfl rfl (fun v h4 hq => ?_)
          obtain ⟨rfl, hC4, o4⟩ := hq
          have hk1 : kindsS sq = 1 := c25
          have eL : (fun s => if some ((jnI (cst0 sq) 0).2.1 s) = lightF (jnI (cst0 sq) 0).1 none 86 then (jnI (cst0 sq) 0).2.2 s + 1 else (jnI (cst0 sq) 0).2.2 s) = lnS sq := by
            rw [lnS, if_pos hk1]; rfl
          rw [eL] at hC4
          refine fin h4 (jnI (cst0 sq) 0).2.1 (jnI (cst0 sq) 0).1 _ hC4 (k2.trans o4) (fun s => ?_)
          rw [lnS, if_pos hk1]
          show (if some s = lightF (fun s => sq.count s) none 86 then 0 + 1 else 0) ≤ 86
          split <;> omega
      · exact absurd c10 (by omega)
    | succ m ih =>
      intro i h3 hi k1 k2
      refine R_iload_n dX0_make_8 rfl ?_
      refine R_iload_n dX0_make_9 rfl ?_
      refine R_icmp_ge_N (tgt := 23) dX0_make_10 (by decide) (by omega) (by omega) (fun c10 => ?_) (fun c10 => ?_)
      -- X0_make: ('branch', 10, 23, 13)
      · exact absurd c10 (by omega)
      · refine R_aload_n dX0_make_13 rfl ?_
        -- X0_make: ('call', 14, '.invokevirtual', 40)
        refine R_callV v_X0_putTwoTogether (Cod_putTwo k1 (hg0.iter i)) dX0_make_14 l_RX0_40 rfl rfl k1.1 (Nat.le_of_ble_eq_true rfl) (by omega) rfl rfl (fun v h4 hq => ?_)
        obtain ⟨rfl, hC4, o4⟩ := hq
        refine R_iinc3 dX0_make_17 (by decide) (nI_inc _ 1) ?_
        refine R_goto (tgt := 8) dX0_make_20 (by decide) ?_
        -- X0_make: ('stop', 8)
        exact ih (i + 1) h4 (by omega) hC4 (k2.trans o4)
  refine R_istore2 dX0_make_5 (by decide) ?_
  refine R_iconst (v := nI 1) dX0_make_6 (by decide) ?_
  refine R_istore3 dX0_make_7 (by decide) ?_
  -- X0_make: ('stop', 8)
  exact loop (kindsS sq - 1) 0 h2 (by omega) hC2 o2
end CODES3
