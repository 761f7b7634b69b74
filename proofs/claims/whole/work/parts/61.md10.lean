/-! THE MODEL: what is asked of the text -/
theorem sgAt_uniq {ru : Ru} {q : List Nat} {p j j2 x x2 : Nat} (h1 : q[j]? = some x) (h2 : q[j2]? = some x2) (a1 : lsum (wlen ru) (q.take j) ≤ p) (a2 : p < lsum (wlen ru) (q.take j) + wlen ru x) (b1 : lsum (wlen ru) (q.take j2) ≤ p) (b2 : p < lsum (wlen ru) (q.take j2) + wlen ru x2) : j = j2 := by
  have key : ∀ a b y, a < b → q[a]? = some y → lsum (wlen ru) (q.take a) + wlen ru y ≤ lsum (wlen ru) (q.take b) := by
    intro a b y hab hy
    have := lsum_take_le (f := wlen ru) (l := q) (i := a + 1) (j := b) hab
    rw [take_snoc hy, lsum_app, lsum, lsum] at this
    omega
  by_cases c : j < j2
  · have := key j j2 x c h1; omega
  · by_cases d : j2 < j
    · have := key j2 j x2 d h2; omega
    · omega
theorem home_is {ru : Ru} {q : List Nat} {p j x : Nat} (h1 : q[j]? = some x) (a1 : lsum (wlen ru) (q.take j) ≤ p) (a2 : p < lsum (wlen ru) (q.take j) + wlen ru x) (hp : p < lsum (wlen ru) q) : (homL ru 0 q)[p]? = some j ∧ (begL ru 0 q)[p]? = some (lsum (wlen ru) (q.take j)) := by
  obtain ⟨j2, x2, b, e1, e2, e3, e4, e5, e6⟩ := home_at (ru := ru) q 0 0 p hp
  have := sgAt_uniq h1 e2 a1 a2 (by rw [← e4]; exact e5) (by rw [← e4]; exact e6)
  subst this
  rw [Nat.zero_add] at e1 e3
  exact ⟨e1, by rw [e3, e4]⟩
theorem wayX_0 {ru : Ru} {x p : Nat} : wayX ru x p 0 = nI x := by
  rw [wayX, if_neg (by omega)]; rfl
theorem wayX_letter {ru : Ru} {x p m : Nat} (h : ¬ isRul ru x) : wayX ru x p (m + 1) = -1 := by
  rw [wayX, path_stop h, if_pos (by show 0 < m + 1; omega)]
theorem wayX_rule {ru : Ru} {x p m : Nat} (h : isRul ru x) : wayX ru x p (m + 1) = wayX ru (pickR (wlen ru) (ru (x - 26)) p).1 (pickR (wlen ru) (ru (x - 26)) p).2 m := by
  rw [wayX, wayX, path_succ h, List.length_cons]
  exact if_iff (by omega)
theorem pickR_go {f : Nat → Nat} {x : Nat} {l : List Nat} {p : Nat} (h : f x ≤ p) (hl : l ≠ []) : pickR f (x :: l) p = pickR f l (p - f x) := by
  cases l with
  | nil => exact absurd rfl hl
  | cons y t => rw [pickR, if_pos h]
theorem pickR_at {f : Nat → Nat} {x : Nat} {l : List Nat} {p : Nat} (h : p < f x) : pickR f (x :: l) p = (x, p) := by
  cases l with
  | nil => rfl
  | cons y t => rw [pickR, if_neg (by omega)]
/-- the longest word that stands twice, gone through from the left -/
def twB (ls : List Nat) : Nat → Nat × Option Nat
  | 0 => (0, none)
  | n + 1 => if (twB ls n).1 < rowMx ls n then (rowMx ls n, some n) else twB ls n
theorem twA_zero {ls : List Nat} : ∀ l : List Nat, lmax (rowMx ls) l = 0 → twA ls l = none
  | [], _ => rfl
  | x :: l, h => by
    rw [lmax] at h
    rw [twA, if_neg (by omega)]
    exact twA_zero l (by omega)
theorem twB_end {ls : List Nat} : twB ls ls.length = (twS ls, twAtS ls) := by
  have key : ∀ m k, k + m = ls.length → (if (twB ls k).1 < lmax (rowMx ls) (rng k ls.length) then (lmax (rowMx ls) (rng k ls.length), twA ls (rng k ls.length)) else twB ls k) = twB ls ls.length := by
    intro m
    induction m with
    | zero =>
      intro k hk
      obtain rfl : k = ls.length := by omega
      rw [rng_nil (Nat.le_refl _), lmax, if_neg (by omega)]
    | succ m ih =>
      intro k hk
      rw [← ih (k + 1) (by omega), rng_cons (by omega), lmax, twA, twB]
      generalize twB ls k = z
      obtain ⟨mx, a⟩ := z
      generalize rowMx ls k = r
      generalize lmax (rowMx ls) (rng (k + 1) ls.length) = L
      generalize twA ls (rng (k + 1) ls.length) = A
      show (if mx < max r L then (max r L, if 0 < r ∧ L ≤ r then some k else A) else (mx, a)) = _
      by_cases c1 : mx < r
      · rw [if_pos (show (mx, a).1 < r from c1), if_pos (by omega)]
        by_cases c2 : r < L
        · rw [if_pos (show (r, some k).1 < L from c2), if_neg (by omega), show max r L = L by omega]
        · rw [if_neg (show ¬ (r, some k).1 < L from c2), if_pos ⟨by omega, by omega⟩, show max r L = r by omega]
      · rw [if_neg (show ¬ (mx, a).1 < r from c1)]
        by_cases c2 : mx < L
        · rw [if_pos (show (mx, a).1 < L from c2), if_pos (by omega), if_neg (by omega), show max r L = L by omega]
        · rw [if_neg (show ¬ (mx, a).1 < L from c2), if_neg (by omega)]
  have := key ls.length 0 (by omega)
  rw [← this, twS, twAtS]
  by_cases c : 0 < lmax (rowMx ls) (rng 0 ls.length)
  · rw [if_pos (show (twB ls 0).1 < _ from c)]
  · rw [if_neg (show ¬ (twB ls 0).1 < _ from c)]
    have h0 : lmax (rowMx ls) (rng 0 ls.length) = 0 := by omega
    rw [h0, twA_zero _ h0]; rfl
section MD10
variable {E : EnvT} {h h1 : Hp} {M : Nat} {S : MSt} {q : Pk} {ds : List Pk} {im : Nat → Pk} {md : Nat → Nat} {tp ph : List Nat} {fk fp : Int32}
theorem PkOk.len {q : Pk} (hq : PkOk q) : (letL q.2 q.1).length ≤ 240 := by rw [letL_len]; exact hq.2.2.1
theorem Md_commonOf (x : MdAt E h M S) {ls dp : List Nat} (lo : LOut S ls dp) (hl : ls.length ≤ 240) (hlt : ∀ c ∈ ls, c < 26) {i j : Nat} (hi : i ≤ ls.length) (hj : j ≤ ls.length) : Spec E k_X10_commonOf 1 0 0 [.ref M, .int (nI i), .int (nI j)] h (fun v h' => v = some (.int (nI (comN ls i j))) ∧ h' = h) := by
  obtain ⟨l1, l2, l3, l4⟩ := lo
  have V11 := fld_get (M := M) (k := 11) (by decide) l2
  refine Spec.of (by decide +kernel) (by simp [Value.category]) (Nat.le_of_ble_eq_true rfl) ?_
  show WP E k_X10_commonOf 1 0 0 0 [some (.ref M), some (.int (nI i)), some (.int (nI j)), none] [] h _
  have loop : ∀ m t, t + m = ls.length - max i j → fstB (fun n => decide (ls[i + n]? ≠ ls[j + n]?)) t = none → WP E k_X10_commonOf 1 0 0 2 [some (.ref M), some (.int (nI i)), some (.int (nI j)), some (.int (nI t))] [] h (fun v h' => v = some (.int (nI (comN ls i j))) ∧ h' = h) := by
    intro m
    induction m with
    | zero =>
      intro t ht hf
      have hc : comN ls i j = t := by rw [comN, show ls.length - max i j = t by omega, hf]; rfl
      refine R_iload_n dX10_commonOf_2 rfl ?_
      refine R_iload_n dX10_commonOf_3 rfl ?_
      refine R_iadd_N dX10_commonOf_4 ?_
      refine R_aload_n dX10_commonOf_5 rfl ?_
      refine R_get K_10 (f := 11) (by decide) dX10_commonOf_6 f_RX10_120 x.1 V11 ?_
      refine R_icmp_ge_N (tgt := 47) dX10_commonOf_9 (by decide) (by omega) (by omega) (fun c9 => ?_) (fun c9 => ?_)
      -- X10_commonOf: ('branch', 9, 47, 12)
      · refine R_iload_n dX10_commonOf_47 rfl ?_
        refine R_ireturn dX10_commonOf_48 rfl rfl ?_
        -- X10_commonOf: ('ret', 48)
        exact ⟨by rw [hc], rfl⟩
      · refine R_iload_n dX10_commonOf_12 rfl ?_
        refine R_iload_n dX10_commonOf_13 rfl ?_
        refine R_iadd_N dX10_commonOf_14 ?_
        refine R_aload_n dX10_commonOf_15 rfl ?_
        refine R_get K_10 (f := 11) (by decide) dX10_commonOf_16 f_RX10_120 x.1 V11 ?_
        refine R_icmp_ge_N (tgt := 47) dX10_commonOf_19 (by decide) (by omega) (by omega) (fun c19 => ?_) (fun c19 => ?_)
        -- X10_commonOf: ('branch', 19, 47, 22)
        · refine R_iload_n dX10_commonOf_47 rfl ?_
          refine R_ireturn dX10_commonOf_48 rfl rfl ?_
          -- X10_commonOf: ('ret', 48)
          exact ⟨by rw [hc], rfl⟩
        · exact absurd c19 (by omega)
    | succ m ih =>
      intro t ht hf
      obtain ⟨a, ha⟩ := getE (l := ls) (i := i + t) (by omega)
      obtain ⟨b, hb⟩ := getE (l := ls) (i := j + t) (by omega)
      have ha26 := hlt a (List.mem_of_getElem? ha)
      have hb26 := hlt b (List.mem_of_getElem? hb)
      refine R_iload_n dX10_commonOf_2 rfl ?_
      refine R_iload_n dX10_commonOf_3 rfl ?_
      refine R_iadd_N dX10_commonOf_4 ?_
      refine R_aload_n dX10_commonOf_5 rfl ?_
      refine R_get K_10 (f := 11) (by decide) dX10_commonOf_6 f_RX10_120 x.1 V11 ?_
      refine R_icmp_ge_N (tgt := 47) dX10_commonOf_9 (by decide) (by omega) (by omega) (fun c9 => ?_) (fun c9 => ?_)
      -- X10_commonOf: ('branch', 9, 47, 12)
      · exact absurd c9 (by omega)
      · refine R_iload_n dX10_commonOf_12 rfl ?_
        refine R_iload_n dX10_commonOf_13 rfl ?_
        refine R_iadd_N dX10_commonOf_14 ?_
        refine R_aload_n dX10_commonOf_15 rfl ?_
        refine R_get K_10 (f := 11) (by decide) dX10_commonOf_16 f_RX10_120 x.1 V11 ?_
        refine R_icmp_ge_N (tgt := 47) dX10_commonOf_19 (by decide) (by omega) (by omega) (fun c19 => ?_) (fun c19 => ?_)
        -- X10_commonOf: ('branch', 19, 47, 22)
        · exact absurd c19 (by omega)
        · refine R_aload_n dX10_commonOf_22 rfl ?_
          refine R_get K_10 (f := 9) (by decide) dX10_commonOf_23 f_RX10_36 x.1 rfl ?_
          refine R_iload_n dX10_commonOf_26 rfl ?_
          refine R_iload_n dX10_commonOf_27 rfl ?_
          refine R_iadd_N dX10_commonOf_28 ?_
          refine R_iaload_N dX10_commonOf_29 x.a8 (by omega) (by omega) (l3 _ a ha) ?_
          refine R_aload_n dX10_commonOf_30 rfl ?_
          refine R_get K_10 (f := 9) (by decide) dX10_commonOf_31 f_RX10_36 x.1 rfl ?_
          refine R_iload_n dX10_commonOf_34 rfl ?_
          refine R_iload_n dX10_commonOf_35 rfl ?_
          refine R_iadd_N dX10_commonOf_36 ?_
          refine R_iaload_N dX10_commonOf_37 x.a8 (by omega) (by omega) (l3 _ b hb) ?_
          refine R_icmp_ne_N (tgt := 47) dX10_commonOf_38 (by decide) (by omega) (by omega) (fun c38 => ?_) (fun c38 => ?_)
          -- X10_commonOf: ('branch', 38, 47, 41)
          · refine R_iload_n dX10_commonOf_47 rfl ?_
            refine R_ireturn dX10_commonOf_48 rfl rfl ?_
            -- X10_commonOf: ('ret', 48)
            have : fstB (fun n => decide (ls[i + n]? ≠ ls[j + n]?)) (ls.length - max i j) = some t := fstB_at hf (decide_eq_true (by rw [ha, hb]; exact fun e => c38 (Option.some.inj e))) (by omega)
            exact ⟨by rw [comN, this]; rfl, rfl⟩
          · refine R_iinc3 dX10_commonOf_41 (by decide) (nI_inc _ 1) ?_
            refine R_goto (tgt := 2) dX10_commonOf_44 (by decide) ?_
            -- X10_commonOf: ('stop', 2)
            exact ih (t + 1) (by omega) (fstB_step hf (decide_eq_false (fun e => e (by rw [ha, hb, c38]))))
  refine R_iconst (v := nI 0) dX10_commonOf_0 (by decide) ?_
  refine R_istore3 dX10_commonOf_1 (by decide) ?_
  -- X10_commonOf: ('stop', 2)
  exact loop (ls.length - max i j) 0 (by omega) rfl
theorem Md_arePlaces (hq : PkOk q) (x : MdAt E h M S) (c : curF (S.2 1) q) (i j : Int32) : Spec E k_X10_arePlaces 66 0 0 [.ref M, .int i, .int j] h (fun v h' => v = some (.int (nI (if hasP (letL q.2 q.1).length i ∧ hasP (letL q.2 q.1).length j then 1 else 0))) ∧ Out h h' M (M + 23) ∧ ∃ S', MdAt E h' M S' ∧ Ony [8, 9] [11] S S' ∧ TxAt S' q) := by
  have hlen := hq.len
  refine Spec.of (by decide +kernel) (by simp [Value.category]) (Nat.le_of_ble_eq_true rfl) ?_
  show WP E k_X10_arePlaces 66 0 0 0 [some (.ref M), some (.int i), some (.int j)] [] h _
  refine R_aload_n dX10_arePlaces_0 rfl ?_
  -- X10_arePlaces: ('call', 1, '.invokevirtual', 224)
  refine R_callV v_X10_laysText (Md_laysText hq x c) dX10_arePlaces_1 l_RX10_224 rfl rfl x.1 (Nat.le_of_ble_eq_true rfl) (by omega) rfl rfl (fun v h2 hq => ?_)
  obtain ⟨rfl, g2, S2, x2, o2, t2⟩ := hq
  have V11 := fld_get (M := M) (k := 11) (by decide) t2.2.1
  refine R_iload_n dX10_arePlaces_4 rfl ?_
  refine R_i2l dX10_arePlaces_5 ?_
  refine R_lconst (v := 0) dX10_arePlaces_6 rfl ?_
  refine R_aload_n dX10_arePlaces_7 rfl ?_
  refine R_get K_10 (f := 11) (by decide) dX10_arePlaces_8 f_RX10_120 x2.1 V11 ?_
  refine R_iconst (v := nI 1) dX10_arePlaces_11 (by decide) ?_
  refine R_isub dX10_arePlaces_12 ?_
  refine R_i2l dX10_arePlaces_13 ?_
  -- X10_arePlaces: ('call', 14, '.invokestatic', 98)
  refine R_callS s_X10_isIn (Md_isIn i (nI 0) (nI (letL q.2 q.1).length - nI 1) (by decide) rfl) dX10_arePlaces_14 l_RX10_98 rfl rfl (Nat.le_of_ble_eq_true rfl) (by omega) rfl rfl (fun v h3 hq => ?_)
  obtain ⟨rfl, e9⟩ := hq
  rw [e9, if_iff (place_iff hlen i)]
  by_cases ci : hasP (letL q.2 q.1).length i
  · rw [if_pos ci]
    refine R_if_eq_N (tgt := 40) dX10_arePlaces_17 (by decide) (by omega) (fun c17 => ?_) (fun c17 => ?_)
    -- X10_arePlaces: ('branch', 17, 40, 20)
    · exact absurd c17 (by decide)
    · refine R_iload_n dX10_arePlaces_20 rfl ?_
      refine R_i2l dX10_arePlaces_21 ?_
      refine R_lconst (v := 0) dX10_arePlaces_22 rfl ?_
      refine R_aload_n dX10_arePlaces_23 rfl ?_
      refine R_get K_10 (f := 11) (by decide) dX10_arePlaces_24 f_RX10_120 x2.1 V11 ?_
      refine R_iconst (v := nI 1) dX10_arePlaces_27 (by decide) ?_
      refine R_isub dX10_arePlaces_28 ?_
      refine R_i2l dX10_arePlaces_29 ?_
      -- X10_arePlaces: ('call', 30, '.invokestatic', 98)
      refine R_callS s_X10_isIn (Md_isIn j (nI 0) (nI (letL q.2 q.1).length - nI 1) (by decide) rfl) dX10_arePlaces_30 l_RX10_98 rfl rfl (Nat.le_of_ble_eq_true rfl) (by omega) rfl rfl (fun v h4 hq => ?_)
      obtain ⟨rfl, e9⟩ := hq
      rw [e9, if_iff (place_iff hlen j)]
      by_cases cj : hasP (letL q.2 q.1).length j
      · rw [if_pos cj]
        refine R_if_eq_N (tgt := 40) dX10_arePlaces_33 (by decide) (by omega) (fun c33 => ?_) (fun c33 => ?_)
        -- X10_arePlaces: ('branch', 33, 40, 36)
        · exact absurd c33 (by decide)
        · refine R_iconst (v := nI 1) dX10_arePlaces_36 (by decide) ?_
          refine R_goto (tgt := 41) dX10_arePlaces_37 (by decide) ?_
          refine R_ireturn dX10_arePlaces_41 rfl (by rfl) ?_
          -- X10_arePlaces: ('ret', 41)
          exact ⟨by rw [if_pos ⟨ci, cj⟩], g2, S2, x2, o2, t2⟩
      · rw [if_neg cj]
        refine R_if_eq_N (tgt := 40) dX10_arePlaces_33 (by decide) (by omega) (fun c33 => ?_) (fun c33 => ?_)
        -- X10_arePlaces: ('branch', 33, 40, 36)
        · refine R_iconst (v := nI 0) dX10_arePlaces_40 (by decide) ?_
          refine R_ireturn dX10_arePlaces_41 rfl (by rfl) ?_
          -- X10_arePlaces: ('ret', 41)
          exact ⟨by rw [if_neg (fun z => cj z.2)], g2, S2, x2, o2, t2⟩
        · exact absurd rfl c33
  · rw [if_neg ci]
    refine R_if_eq_N (tgt := 40) dX10_arePlaces_17 (by decide) (by omega) (fun c17 => ?_) (fun c17 => ?_)
    -- X10_arePlaces: ('branch', 17, 40, 20)
    · refine R_iconst (v := nI 0) dX10_arePlaces_40 (by decide) ?_
      refine R_ireturn dX10_arePlaces_41 rfl (by rfl) ?_
      -- X10_arePlaces: ('ret', 41)
      exact ⟨by rw [if_neg (fun z => ci z.1)], g2, S2, x2, o2, t2⟩
    · exact absurd rfl c17
theorem MP_common (y : MMAt E h M q ds im md tp ph fk fp) (hq : PkOk q) (i j : Int32) : Spec E k_X10_common 67 0 0 [.ref M, .int i, .int j] h (fun v h' => v = some (.int (if hasP (letL q.2 q.1).length i ∧ hasP (letL q.2 q.1).length j then nI (comN (letL q.2 q.1) i.toNatClampNeg j.toNatClampNeg) else -5)) ∧ MMAt E h' M q ds im md tp ph fk fp ∧ Out h h' M (M + 23)) := by
  obtain ⟨S, x, r⟩ := y
  refine Spec.of (by decide +kernel) (by simp [Value.category]) (Nat.le_of_ble_eq_true rfl) ?_
  show WP E k_X10_common 67 0 0 0 [some (.ref M), some (.int i), some (.int j)] [] h _
  refine R_aload_n dX10_common_0 rfl ?_
  refine R_iconst (v := nI 0) dX10_common_1 (by decide) ?_
  refine R_put_A K_10 (f := 0) (by decide) dX10_common_2 f_RX10_1 rfl x.1 (by rfl) (by rfl) (Nat.le_of_ble_eq_true rfl) ?_
  intro h0 u0
  have x0 := x.put u0 (by decide)
  have r0 := r.keep (S2 := (upd S.1 0 (nI 0), S.2)) (Ony.refl.put (by decide))
  have g0 : Out h h0 M (M + 23) := Out.upd u0 (by omega) (by omega)
  generalize (upd S.1 0 (nI 0), S.2) = S0 at x0 r0
  refine R_aload_n dX10_common_5 rfl ?_
  refine R_iload_n dX10_common_6 rfl ?_
  refine R_iload_n dX10_common_7 rfl ?_
  -- X10_common: ('call', 8, '.invokevirtual', 291)
  refine R_callV v_X10_arePlaces (Md_arePlaces hq x0 r0.1 i j) dX10_common_8 l_RX10_291 rfl rfl x0.1 (Nat.le_of_ble_eq_true rfl) (by omega) rfl rfl (fun v h2 hq => ?_)
  obtain ⟨rfl, g2, S2, x2, o2, t2⟩ := hq
  have r2 := r0.keep (o2.mono (by decide) (by decide))
  by_cases c : hasP (letL q.2 q.1).length i ∧ hasP (letL q.2 q.1).length j
  · rw [if_pos c]
    obtain ⟨n, hn, rfl⟩ := nI_of c.1.1
    obtain ⟨m, hm, rfl⟩ := nI_of c.2.1
    have c1 := c.1.2
    have c2 := c.2.2
    rw [nI_clamp hn] at c1
    rw [nI_clamp hm] at c2
    refine R_if_eq_N (tgt := 23) dX10_common_11 (by decide) (by omega) (fun c11 => ?_) (fun c11 => ?_)
    -- X10_common: ('branch', 11, 23, 14)
    · exact absurd c11 (by decide)
    · refine R_aload_n dX10_common_14 rfl ?_
      refine R_iload_n dX10_common_15 rfl ?_
      refine R_iload_n dX10_common_16 rfl ?_
      -- X10_common: ('call', 17, '.invokevirtual', 294)
      refine R_callV v_X10_commonOf (Md_commonOf x2 t2 hq.len letL_lt (i := n) (j := m) (by omega) (by omega)) dX10_common_17 l_RX10_294 rfl rfl x2.1 (Nat.le_of_ble_eq_true rfl) (by omega) rfl rfl (fun v h3 hq => ?_)
      obtain ⟨rfl, e9⟩ := hq
      rw [e9]
      refine R_goto (tgt := 25) dX10_common_20 (by decide) ?_
      refine R_ireturn dX10_common_25 rfl rfl ?_
      -- X10_common: ('ret', 25)
      exact ⟨by rw [if_pos c, nI_clamp hn, nI_clamp hm], ⟨S2, x2, r2⟩, g0.trans g2⟩
  · rw [if_neg c]
    refine R_if_eq_N (tgt := 23) dX10_common_11 (by decide) (by omega) (fun c11 => ?_) (fun c11 => ?_)
    -- X10_common: ('branch', 11, 23, 14)
    · refine R_bipush (v := (-5)) dX10_common_23 (by decide) ?_
      refine R_ireturn dX10_common_25 rfl rfl ?_
      -- X10_common: ('ret', 25)
      exact ⟨by rw [if_neg c], ⟨S2, x2, r2⟩, g0.trans g2⟩
    · exact absurd rfl c11
theorem comN_ends {ls : List Nat} {i j : Nat} (hij : i ≠ j) (hi : i < ls.length) (hj : j < ls.length) : (i + comN ls i j < ls.length ∧ j + comN ls i j < ls.length) ∨ (i + comN ls i j = ls.length ∧ j + comN ls i j < ls.length) ∨ (i + comN ls i j < ls.length ∧ j + comN ls i j = ls.length) := by
  have : comN ls i j ≤ ls.length - max i j := by
    rw [comN]
    cases hx : fstB (fun n => decide (ls[i + n]? ≠ ls[j + n]?)) (ls.length - max i j) with
    | none => exact Nat.le_refl _
    | some t => have := (fstB_some hx).1; show t ≤ _; omega
  omega
theorem MP_compare (y : MMAt E h M q ds im md tp ph fk fp) (hq : PkOk q) (i j : Int32) : Spec E k_X10_compare 67 0 0 [.ref M, .int i, .int j] h (fun v h' => v = some (.int (if hasP (letL q.2 q.1).length i ∧ hasP (letL q.2 q.1).length j then cmpI (letL q.2 q.1) i.toNatClampNeg j.toNatClampNeg else -5)) ∧ MMAt E h' M q ds im md tp ph fk fp ∧ Out h h' M (M + 23)) := by
  have hlen := hq.len
  obtain ⟨S, x, r⟩ := y
  refine Spec.of (by decide +kernel) (by simp [Value.category]) (Nat.le_of_ble_eq_true rfl) ?_
  show WP E k_X10_compare 67 0 0 0 [some (.ref M), some (.int i), some (.int j), none] [] h _
  refine R_aload_n dX10_compare_0 rfl ?_
  refine R_iconst (v := nI 0) dX10_compare_1 (by decide) ?_
  refine R_put_A K_10 (f := 0) (by decide) dX10_compare_2 f_RX10_1 rfl x.1 (by rfl) (by rfl) (Nat.le_of_ble_eq_true rfl) ?_
  intro h0 u0
  have x0 := x.put u0 (by decide)
  have r0 := r.keep (S2 := (upd S.1 0 (nI 0), S.2)) (Ony.refl.put (by decide))
  have g0 : Out h h0 M (M + 23) := Out.upd u0 (by omega) (by omega)
  generalize (upd S.1 0 (nI 0), S.2) = S0 at x0 r0
  refine R_aload_n dX10_compare_5 rfl ?_
  refine R_iload_n dX10_compare_6 rfl ?_
  refine R_iload_n dX10_compare_7 rfl ?_
  -- X10_compare: ('call', 8, '.invokevirtual', 291)
  refine R_callV v_X10_arePlaces (Md_arePlaces hq x0 r0.1 i j) dX10_compare_8 l_RX10_291 rfl rfl x0.1 (Nat.le_of_ble_eq_true rfl) (by omega) rfl rfl (fun v h2 hq => ?_)
  obtain ⟨rfl, g2, S2, x2, o2, t2⟩ := hq
  have r2 := r0.keep (o2.mono (by decide) (by decide))
  have V11 := fld_get (M := M) (k := 11) (by decide) t2.2.1
  by_cases c : hasP (letL q.2 q.1).length i ∧ hasP (letL q.2 q.1).length j
  · rw [if_pos c]
    obtain ⟨n, hn, rfl⟩ := nI_of c.1.1
    obtain ⟨m, hm, rfl⟩ := nI_of c.2.1
    have c1 := c.1.2
    have c2 := c.2.2
    rw [nI_clamp hn] at c1
    rw [nI_clamp hm] at c2
    rw [if_pos c, nI_clamp hn, nI_clamp hm]
    have fin : MMAt E h2 M q ds im md tp ph fk fp ∧ Out h h2 M (M + 23) := ⟨⟨S2, x2, r2⟩, g0.trans g2⟩
    refine R_if_ne_N (tgt := 17) dX10_compare_11 (by decide) (by omega) (fun c11 => ?_) (fun c11 => ?_)
    -- X10_compare: ('branch', 11, 17, 14)
    · refine R_iload_n dX10_compare_17 rfl ?_
      refine R_iload_n dX10_compare_18 rfl ?_
      refine R_icmp_ne_N (tgt := 24) dX10_compare_19 (by decide) (by omega) (by omega) (fun c19 => ?_) (fun c19 => ?_)
      -- X10_compare: ('branch', 19, 24, 22)
      · have hends := comN_ends (ls := letL q.2 q.1) c19 c1 c2
        refine R_aload_n dX10_compare_24 rfl ?_
        refine R_iload_n dX10_compare_25 rfl ?_
        refine R_iload_n dX10_compare_26 rfl ?_
        -- X10_compare: ('call', 27, '.invokevirtual', 294)
        refine R_callV v_X10_commonOf (Md_commonOf x2 t2 hq.len letL_lt (i := n) (j := m) (by omega) (by omega)) dX10_compare_27 l_RX10_294 rfl rfl x2.1 (Nat.le_of_ble_eq_true rfl) (by omega) rfl rfl (fun v h3 hq => ?_)
        obtain ⟨rfl, e9⟩ := hq
        rw [e9]
        generalize hk : comN (letL q.2 q.1) n m = k at *
        refine R_istore3 dX10_compare_30 (by decide) ?_
        refine R_iload_n dX10_compare_31 rfl ?_
        refine R_iload_n dX10_compare_32 rfl ?_
        refine R_iadd_N dX10_compare_33 ?_
        refine R_aload_n dX10_compare_34 rfl ?_
        refine R_get K_10 (f := 11) (by decide) dX10_compare_35 f_RX10_120 x2.1 V11 ?_
        refine R_icmp_ne_N (tgt := 43) dX10_compare_38 (by decide) (by omega) (by omega) (fun c38 => ?_) (fun c38 => ?_)
        -- X10_compare: ('branch', 38, 43, 41)
        · refine R_iload_n dX10_compare_43 rfl ?_
          refine R_iload_n dX10_compare_44 rfl ?_
          refine R_iadd_N dX10_compare_45 ?_
          refine R_aload_n dX10_compare_46 rfl ?_
          refine R_get K_10 (f := 11) (by decide) dX10_compare_47 f_RX10_120 x2.1 V11 ?_
          refine R_icmp_ne_N (tgt := 55) dX10_compare_50 (by decide) (by omega) (by omega) (fun c50 => ?_) (fun c50 => ?_)
          -- X10_compare: ('branch', 50, 55, 53)
          · obtain ⟨a, ha⟩ := getE (l := letL q.2 q.1) (i := n + k) (by omega)
            obtain ⟨b, hb⟩ := getE (l := letL q.2 q.1) (i := m + k) (by omega)
            have ha26 := letL_lt a (List.mem_of_getElem? ha)
            have hb26 := letL_lt b (List.mem_of_getElem? hb)
            have hcmp : cmpI (letL q.2 q.1) n m = if nI a < nI b then 1 else 2 := by rw [cmpI, if_neg c19, hk, rget_in (by omega) ha, rget_in (by omega) hb]
            refine R_aload_n dX10_compare_55 rfl ?_
            refine R_get K_10 (f := 9) (by decide) dX10_compare_56 f_RX10_36 x2.1 rfl ?_
            refine R_iload_n dX10_compare_59 rfl ?_
            refine R_iload_n dX10_compare_60 rfl ?_
            refine R_iadd_N dX10_compare_61 ?_
            refine R_iaload_N dX10_compare_62 x2.a8 (by omega) (by omega) (t2.2.2.1 _ a ha) ?_
            refine R_aload_n dX10_compare_63 rfl ?_
            refine R_get K_10 (f := 9) (by decide) dX10_compare_64 f_RX10_36 x2.1 rfl ?_
            refine R_iload_n dX10_compare_67 rfl ?_
            refine R_iload_n dX10_compare_68 rfl ?_
            refine R_iadd_N dX10_compare_69 ?_
            refine R_iaload_N dX10_compare_70 x2.a8 (by omega) (by omega) (t2.2.2.1 _ b hb) ?_
            refine R_icmp_ge_N (tgt := 78) dX10_compare_71 (by decide) (by omega) (by omega) (fun c71 => ?_) (fun c71 => ?_)
            -- X10_compare: ('branch', 71, 78, 74)
            · refine R_iconst (v := nI 2) dX10_compare_78 (by decide) ?_
              refine R_ireturn dX10_compare_79 rfl rfl ?_
              -- X10_compare: ('ret', 79)
              exact ⟨by rw [hcmp, if_neg (by rw [nI_ltI (by omega) (by omega)]; omega)]; rfl, fin⟩
            · refine R_iconst (v := nI 1) dX10_compare_74 (by decide) ?_
              refine R_goto (tgt := 79) dX10_compare_75 (by decide) ?_
              refine R_ireturn dX10_compare_79 rfl rfl ?_
              -- X10_compare: ('ret', 79)
              exact ⟨by rw [hcmp, if_pos (by rw [nI_ltI (by omega) (by omega)]; omega)]; rfl, fin⟩
          · obtain ⟨a, ha⟩ := getE (l := letL q.2 q.1) (i := n + k) (by omega)
            have ha26 := letL_lt a (List.mem_of_getElem? ha)
            refine R_iconst (v := nI 2) dX10_compare_53 (by decide) ?_
            refine R_ireturn dX10_compare_54 rfl rfl ?_
            -- X10_compare: ('ret', 54)
            refine ⟨?_, fin⟩
            rw [cmpI, if_neg c19, hk, rget_in (by omega) ha, rget_out (by omega) (by omega), if_neg ?_]
            · rfl
            · exact fun z => nI_pos (n := a) (by omega) (Int32.lt_trans z (by decide))
        · obtain ⟨b, hb⟩ := getE (l := letL q.2 q.1) (i := m + k) (by omega)
          have hb26 := letL_lt b (List.mem_of_getElem? hb)
          refine R_iconst (v := nI 1) dX10_compare_41 (by decide) ?_
          refine R_ireturn dX10_compare_42 rfl rfl ?_
          -- X10_compare: ('ret', 42)
          refine ⟨?_, fin⟩
          rw [cmpI, if_neg c19, hk, rget_out (by omega) (by omega), rget_in (by omega) hb, if_pos ?_]
          · rfl
          · rw [Int32.lt_iff_toInt_lt, nI_toInt (by omega)]
            have : (-1 : Int32).toInt = -1 := by decide
            omega
      · refine R_iconst (v := nI 0) dX10_compare_22 (by decide) ?_
        refine R_ireturn dX10_compare_23 rfl rfl ?_
        -- X10_compare: ('ret', 23)
        exact ⟨by rw [cmpI, if_pos c19]; rfl, fin⟩
    · exact absurd c11 (by decide)
  · rw [if_neg c]
    refine R_if_ne_N (tgt := 17) dX10_compare_11 (by decide) (by omega) (fun c11 => ?_) (fun c11 => ?_)
    -- X10_compare: ('branch', 11, 17, 14)
    · exact absurd rfl c11
    · refine R_bipush (v := (-5)) dX10_compare_14 (by decide) ?_
      refine R_ireturn dX10_compare_16 rfl rfl ?_
      -- X10_compare: ('ret', 16)
      exact ⟨by rw [if_neg c], ⟨S2, x2, r2⟩, g0.trans g2⟩
theorem MP_at (y : MMAt E h M q ds im md tp ph fk fp) (hq : PkOk q) (i : Int32) : Spec E k_X10_at 66 0 0 [.ref M, .int i] h (fun v h' => v = some (.int (if i < 0 then -3 else rget (letL q.2 q.1) i)) ∧ MMAt E h' M q ds im md tp ph fk fp ∧ Out h h' M (M + 23)) := by
  have hlen := hq.len
  obtain ⟨S, x, r⟩ := y
  refine Spec.of (by decide +kernel) (by simp [Value.category]) (Nat.le_of_ble_eq_true rfl) ?_
  show WP E k_X10_at 66 0 0 0 [some (.ref M), some (.int i)] [] h _
  refine R_aload_n dX10_at_0 rfl ?_
  refine R_iconst (v := nI 0) dX10_at_1 (by decide) ?_
  refine R_put_A K_10 (f := 0) (by decide) dX10_at_2 f_RX10_1 rfl x.1 (by rfl) (by rfl) (Nat.le_of_ble_eq_true rfl) ?_
  intro h0 u0
  have x0 := x.put u0 (by decide)
  have r0 := r.keep (S2 := (upd S.1 0 (nI 0), S.2)) (Ony.refl.put (by decide))
  have g0 : Out h h0 M (M + 23) := Out.upd u0 (by omega) (by omega)
  generalize (upd S.1 0 (nI 0), S.2) = S0 at x0 r0
  by_cases hi : i < 0
  · refine R_iload_n dX10_at_5 rfl ?_
    refine R_if_ge (tgt := 12) dX10_at_6 (by decide) (fun c6 => ?_) (fun c6 => ?_)
    -- X10_at: ('branch', 6, 12, 9)
    · exact absurd hi (Int32.not_lt.mpr c6)
    · refine R_bipush (v := (-3)) dX10_at_9 (by decide) ?_
      refine R_ireturn dX10_at_11 rfl rfl ?_
      -- X10_at: ('ret', 11)
      exact ⟨by rw [if_pos hi], ⟨S0, x0, r0⟩, g0⟩
  · obtain ⟨n, hn, rfl⟩ := nI_of hi
    rw [if_neg hi]
    refine R_iload_n dX10_at_5 rfl ?_
    refine R_if_ge_N (tgt := 12) dX10_at_6 (by decide) (by omega) ?_
    refine R_aload_n dX10_at_12 rfl ?_
    -- X10_at: ('call', 13, '.invokevirtual', 224)
    refine R_callV v_X10_laysText (Md_laysText hq x0 r0.1) dX10_at_13 l_RX10_224 rfl rfl x0.1 (Nat.le_of_ble_eq_true rfl) (by omega) rfl rfl (fun v h2 hq => ?_)
    obtain ⟨rfl, g2, S2, x2, o2, t2⟩ := hq
    have r2 := r0.keep (o2.mono (by decide) (by decide))
    refine R_iload_n dX10_at_16 rfl ?_
    refine R_aload_n dX10_at_17 rfl ?_
    refine R_get K_10 (f := 11) (by decide) dX10_at_18 f_RX10_120 x2.1 (fld_get (k := 11) (by decide) t2.2.1) ?_
    refine R_icmp_ge_N (tgt := 33) dX10_at_21 (by decide) (by omega) (by omega) (fun c21 => ?_) (fun c21 => ?_)
    -- X10_at: ('branch', 21, 33, 24)
    · refine R_iconst (v := (-1)) dX10_at_33 (by decide) ?_
      refine R_ireturn dX10_at_34 rfl rfl ?_
      -- X10_at: ('ret', 34)
      exact ⟨by rw [rget_out hn c21], ⟨S2, x2, r2⟩, g0.trans g2⟩
    · obtain ⟨a, ha⟩ := getE c21
      refine R_aload_n dX10_at_24 rfl ?_
      refine R_get K_10 (f := 9) (by decide) dX10_at_25 f_RX10_36 x2.1 rfl ?_
      refine R_iload_n dX10_at_28 rfl ?_
      refine R_iaload_N dX10_at_29 x2.a8 (by omega) (by omega) (t2.2.2.1 _ a ha) ?_
      refine R_goto (tgt := 34) dX10_at_30 (by decide) ?_
      refine R_ireturn dX10_at_34 rfl rfl ?_
      -- X10_at: ('ret', 34)
      exact ⟨by rw [rget_in hn ha], ⟨S2, x2, r2⟩, g0.trans g2⟩
theorem Md_seeks (hq : PkOk q) (x : MdAt E h M S) (c : curF (S.2 1) q) {p : Nat} (hp : p < 2 ^ 31) : Spec E k_X10_seeks 66 0 0 [.ref M, .int (nI p)] h (fun v h' => v = some (.int (nI (if p < (letL q.2 q.1).length then 1 else 0))) ∧ Out h h' M (M + 23) ∧ ∃ S', MdAt E h' M S' ∧ Ony [6, 7] [34, 35] S S' ∧ WAll q.2 S' ∧ (p < (letL q.2 q.1).length → ∃ j y, q.1[j]? = some y ∧ lsum (wlen q.2) (q.1.take j) ≤ p ∧ p < lsum (wlen q.2) (q.1.take j) + wlen q.2 y ∧ S'.1 34 = nI j ∧ S'.1 35 = nI (lsum (wlen q.2) (q.1.take j)))) := by
  have hq240 := hq.2.2.1
  have hql := c.1
  have hll := letL_len (ru := q.2) (q := q.1)
  refine Spec.of (by decide +kernel) (by simp [Value.category]) (Nat.le_of_ble_eq_true rfl) ?_
  show WP E k_X10_seeks 66 0 0 0 [some (.ref M), some (.int (nI p))] [] h _
  refine R_aload_n dX10_seeks_0 rfl ?_
  -- X10_seeks: ('call', 1, '.invokevirtual', 134)
  refine R_callV v_X10_laysWords (Md_laysWords hq x c) dX10_seeks_1 l_RX10_134 rfl rfl x.1 (Nat.le_of_ble_eq_true rfl) (by omega) rfl rfl (fun v h2 hq => ?_)
  obtain ⟨rfl, g2, S2, x2, o2, w2⟩ := hq
  refine R_aload_n dX10_seeks_4 rfl ?_
  refine R_iconst (v := nI 0) dX10_seeks_5 (by decide) ?_
  refine R_put_A K_10 (f := 34) (by decide) dX10_seeks_6 f_RX10_280 rfl x2.1 (by rfl) (by rfl) (Nat.le_of_ble_eq_true rfl) ?_
  -- X10_seeks: ('put', 9)
  intro h3 u3
  have x3 := x2.put u3 (by decide)
  refine R_aload_n dX10_seeks_9 rfl ?_
  refine R_iconst (v := nI 0) dX10_seeks_10 (by decide) ?_
  refine R_put_A K_10 (f := 35) (by decide) dX10_seeks_11 f_RX10_283 rfl x3.1 (by rfl) (by rfl) (Nat.le_of_ble_eq_true rfl) ?_
  -- X10_seeks: ('put', 14)
  intro h4 u4
  have x4 := x3.put u4 (by decide)
  have loop : ∀ m t h5 S5, t + m = q.1.length → MdAt E h5 M S5 → Ony [] [34, 35] S2 S5 → S5.1 34 = nI t → S5.1 35 = nI (lsum (wlen q.2) (q.1.take t)) → lsum (wlen q.2) (q.1.take t) ≤ p → Out h h5 M (M + 23) → WP E k_X10_seeks 66 0 0 14 [some (.ref M), some (.int (nI p))] [] h5 (fun v h' => v = some (.int (nI (if p < (letL q.2 q.1).length then 1 else 0))) ∧ Out h h' M (M + 23) ∧ ∃ S', MdAt E h' M S' ∧ Ony [6, 7] [34, 35] S S' ∧ WAll q.2 S' ∧ (p < (letL q.2 q.1).length → ∃ j y, q.1[j]? = some y ∧ lsum (wlen q.2) (q.1.take j) ≤ p ∧ p < lsum (wlen q.2) (q.1.take j) + wlen q.2 y ∧ S'.1 34 = nI j ∧ S'.1 35 = nI (lsum (wlen q.2) (q.1.take j)))) := by
    intro m
    induction m with
    | zero =>
      intro t h5 S5 ht x5 o5 e34 e35 hb g5
      obtain rfl : t = q.1.length := by omega
      have c5 : curF (S5.2 1) q := by rw [o5.1 1 (by decide), o2.1 1 (by decide)]; exact c
      have w5 : WAll q.2 S5 := fun s hs => by have := w2 s hs; exact ⟨by rw [o5.1 6 (by decide)]; exact this.1, by rw [o5.1 7 (by decide)]; exact this.2⟩
      rw [List.take_length] at hb
      have V34 := fld_get (M := M) (k := 34) (by decide) e34
      refine R_aload_n dX10_seeks_14 rfl ?_
      refine R_get K_10 (f := 34) (by decide) dX10_seeks_15 f_RX10_280 x5.1 V34 ?_
      refine R_aload_n dX10_seeks_18 rfl ?_
      -- X10_seeks: ('call', 19, '.invokevirtual', 123)
      refine R_callV v_X10_many (Md_many x5 c5) dX10_seeks_19 l_RX10_123 rfl rfl x5.1 (Nat.le_of_ble_eq_true rfl) (by omega) rfl rfl (fun v h6 hq => ?_)
      obtain ⟨rfl, e9⟩ := hq
      rw [e9]
      refine R_icmp_ge_N (tgt := 82) dX10_seeks_22 (by decide) (by omega) (by omega) (fun c22 => ?_) (fun c22 => ?_)
      -- X10_seeks: ('branch', 22, 82, 25)
      · refine R_aload_n dX10_seeks_82 rfl ?_
        refine R_get K_10 (f := 34) (by decide) dX10_seeks_83 f_RX10_280 x5.1 V34 ?_
        refine R_aload_n dX10_seeks_86 rfl ?_
        -- X10_seeks: ('call', 87, '.invokevirtual', 123)
        refine R_callV v_X10_many (Md_many x5 c5) dX10_seeks_87 l_RX10_123 rfl rfl x5.1 (Nat.le_of_ble_eq_true rfl) (by omega) rfl rfl (fun v h7 hq => ?_)
        obtain ⟨rfl, e9⟩ := hq
        rw [e9]
        refine R_icmp_ge_N (tgt := 97) dX10_seeks_90 (by decide) (by omega) (by omega) (fun c90 => ?_) (fun c90 => ?_)
        -- X10_seeks: ('branch', 90, 97, 93)
        · refine R_iconst (v := nI 0) dX10_seeks_97 (by decide) ?_
          refine R_ireturn dX10_seeks_98 rfl (by rfl) ?_
          -- X10_seeks: ('ret', 98)
          exact ⟨by rw [if_neg (by omega)], g5, S5, x5, (o2.mono (by decide) (by decide)).trans (o5.mono (by decide) (by decide)), w5, fun z => absurd z (by omega)⟩
        · exact absurd c90 (by omega)
      · exact absurd c22 (by omega)
    | succ m ih =>
      intro t h5 S5 ht x5 o5 e34 e35 hb g5
      obtain ⟨y, hy⟩ := getE (l := q.1) (i := t) (by omega)
      have hys := hq.2.1 y (List.mem_of_getElem? hy)
      have hy86 := isSg_lt hys
      have hwl := wlen_le hq.1 hys
      have c5 : curF (S5.2 1) q := by rw [o5.1 1 (by decide), o2.1 1 (by decide)]; exact c
      have w5 : WAll q.2 S5 := fun s hs => by have := w2 s hs; exact ⟨by rw [o5.1 6 (by decide)]; exact this.1, by rw [o5.1 7 (by decide)]; exact this.2⟩
      have V34 := fld_get (M := M) (k := 34) (by decide) e34
      have V35 := fld_get (M := M) (k := 35) (by decide) e35
      have hsum : lsum (wlen q.2) (q.1.take t) + wlen q.2 y ≤ lsum (wlen q.2) q.1 := by
        have e := congrArg (lsum (wlen q.2)) (split_at hy)
        rw [lsum_app, lsum] at e
        omega
      refine R_aload_n dX10_seeks_14 rfl ?_
      refine R_get K_10 (f := 34) (by decide) dX10_seeks_15 f_RX10_280 x5.1 V34 ?_
      refine R_aload_n dX10_seeks_18 rfl ?_
      -- X10_seeks: ('call', 19, '.invokevirtual', 123)
      refine R_callV v_X10_many (Md_many x5 c5) dX10_seeks_19 l_RX10_123 rfl rfl x5.1 (Nat.le_of_ble_eq_true rfl) (by omega) rfl rfl (fun v h6 hq => ?_)
      obtain ⟨rfl, e9⟩ := hq
      rw [e9]
      refine R_icmp_ge_N (tgt := 82) dX10_seeks_22 (by decide) (by omega) (by omega) (fun c22 => ?_) (fun c22 => ?_)
      -- X10_seeks: ('branch', 22, 82, 25)
      · exact absurd c22 (by omega)
      · refine R_aload_n dX10_seeks_25 rfl ?_
        refine R_get K_10 (f := 35) (by decide) dX10_seeks_26 f_RX10_283 x5.1 V35 ?_
        refine R_aload_n dX10_seeks_29 rfl ?_
        refine R_get K_10 (f := 7) (by decide) dX10_seeks_30 f_RX10_30 x5.1 rfl ?_
        refine R_aload_n dX10_seeks_33 rfl ?_
        refine R_aload_n dX10_seeks_34 rfl ?_
        refine R_get K_10 (f := 34) (by decide) dX10_seeks_35 f_RX10_280 x5.1 V34 ?_
        -- X10_seeks: ('call', 38, '.invokevirtual', 127)
        refine R_callV v_X10_signAt (Md_signAt x5 c5 hy) dX10_seeks_38 l_RX10_127 rfl rfl x5.1 (Nat.le_of_ble_eq_true rfl) (by omega) rfl rfl (fun v h7 hq => ?_)
        obtain ⟨rfl, e9⟩ := hq
        rw [e9]
        refine R_iaload_N dX10_seeks_41 x5.a6 (by omega) (by omega) (w5 y hys).1 ?_
        refine R_iadd_N dX10_seeks_42 ?_
        refine R_iload_n dX10_seeks_43 rfl ?_
        refine R_icmp_gt_N (tgt := 82) dX10_seeks_44 (by decide) (by omega) (by omega) (fun c44 => ?_) (fun c44 => ?_)
        -- X10_seeks: ('branch', 44, 82, 47)
        · refine R_aload_n dX10_seeks_82 rfl ?_
          refine R_get K_10 (f := 34) (by decide) dX10_seeks_83 f_RX10_280 x5.1 V34 ?_
          refine R_aload_n dX10_seeks_86 rfl ?_
          -- X10_seeks: ('call', 87, '.invokevirtual', 123)
          refine R_callV v_X10_many (Md_many x5 c5) dX10_seeks_87 l_RX10_123 rfl rfl x5.1 (Nat.le_of_ble_eq_true rfl) (by omega) rfl rfl (fun v h7 hq => ?_)
          obtain ⟨rfl, e9⟩ := hq
          rw [e9]
          refine R_icmp_ge_N (tgt := 97) dX10_seeks_90 (by decide) (by omega) (by omega) (fun c90 => ?_) (fun c90 => ?_)
          -- X10_seeks: ('branch', 90, 97, 93)
          · exact absurd c90 (by omega)
          · refine R_iconst (v := nI 1) dX10_seeks_93 (by decide) ?_
            refine R_goto (tgt := 98) dX10_seeks_94 (by decide) ?_
            refine R_ireturn dX10_seeks_98 rfl (by rfl) ?_
            -- X10_seeks: ('ret', 98)
            exact ⟨by rw [if_pos (by omega)], g5, S5, x5, (o2.mono (by decide) (by decide)).trans (o5.mono (by decide) (by decide)), w5, fun _ => ⟨t, y, hy, hb, c44, e34, e35⟩⟩
        · refine R_aload_n dX10_seeks_47 rfl ?_
          refine R_dup dX10_seeks_48 rfl ?_
          refine R_get K_10 (f := 35) (by decide) dX10_seeks_49 f_RX10_283 x5.1 V35 ?_
          refine R_aload_n dX10_seeks_52 rfl ?_
          refine R_get K_10 (f := 7) (by decide) dX10_seeks_53 f_RX10_30 x5.1 rfl ?_
          refine R_aload_n dX10_seeks_56 rfl ?_
          refine R_aload_n dX10_seeks_57 rfl ?_
          refine R_get K_10 (f := 34) (by decide) dX10_seeks_58 f_RX10_280 x5.1 V34 ?_
          -- X10_seeks: ('call', 61, '.invokevirtual', 127)
          refine R_callV v_X10_signAt (Md_signAt x5 c5 hy) dX10_seeks_61 l_RX10_127 rfl rfl x5.1 (Nat.le_of_ble_eq_true rfl) (by omega) rfl rfl (fun v h7 hq => ?_)
          obtain ⟨rfl, e9⟩ := hq
          rw [e9]
          refine R_iaload_N dX10_seeks_64 x5.a6 (by omega) (by omega) (w5 y hys).1 ?_
          refine R_iadd_N dX10_seeks_65 ?_
          refine R_put_A K_10 (f := 35) (by decide) dX10_seeks_66 f_RX10_283 rfl x5.1 (by rfl) (by rfl) (Nat.le_of_ble_eq_true rfl) ?_
          -- X10_seeks: ('put', 69)
          intro h8 u8
          have x8 := x5.put u8 (by decide)
          refine R_aload_n dX10_seeks_69 rfl ?_
          refine R_dup dX10_seeks_70 rfl ?_
          refine R_get K_10 (f := 34) (by decide) dX10_seeks_71 f_RX10_280 x8.1 V34 ?_
          refine R_iconst (v := nI 1) dX10_seeks_74 (by decide) ?_
          refine R_iadd_N dX10_seeks_75 ?_
          refine R_put_A K_10 (f := 34) (by decide) dX10_seeks_76 f_RX10_280 rfl x8.1 (by rfl) (by rfl) (Nat.le_of_ble_eq_true rfl) ?_
          -- X10_seeks: ('put', 79)
          intro h9 u9
          have x9 := x8.put u9 (by decide)
          refine R_goto (tgt := 14) dX10_seeks_79 (by decide) ?_
          -- X10_seeks: ('stop', 14)
          refine ih (t + 1) h9 _ (by omega) x9 ((o5.put (by decide)).put (by decide)) rfl ?_ ?_ ((g5.trans (Out.upd u8 (by omega) (by omega))).trans (Out.upd u9 (by omega) (by omega)))
          · rw [take_snoc hy, lsum_app, lsum, lsum, Nat.add_zero]; rfl
          · rw [take_snoc hy, lsum_app, lsum, lsum, Nat.add_zero]; exact c44
  exact loop q.1.length 0 h4 _ (by omega) x4 ((Ony.refl.put (by decide)).put (by decide)) rfl rfl (Nat.zero_le _) ((g2.trans (Out.upd u3 (by omega) (by omega))).trans (Out.upd u4 (by omega) (by omega)))
theorem in02 {w : Int32} : (nI 0 ≤ w ∧ w ≤ nI 2) ↔ ¬ (w < 0 ∨ nI 2 < w) := by
  rw [show (0 : Int32) = nI 0 from by decide]
  constructor
  · rintro ⟨a, b⟩ (z | z)
    · exact Int32.not_lt.mpr a z
    · exact Int32.not_lt.mpr b z
  · intro z
    exact ⟨Int32.not_lt.mp (fun y => z (Or.inl y)), Int32.not_lt.mp (fun y => z (Or.inr y))⟩
theorem MP_within (y : MMAt E h M q ds im md tp ph fk fp) (hq : PkOk q) (i w : Int32) : Spec E k_X10_within 67 0 0 [.ref M, .int i, .int w] h (fun v h' => v = some (.int (if w < 0 ∨ nI 2 < w then -2 else if i < 0 then -3 else if w = 0 then rget (homL q.2 0 q.1) i else if w = nI 1 then rget (begL q.2 0 q.1) i else rget (dpL q.2 q.1) i)) ∧ MMAt E h' M q ds im md tp ph fk fp ∧ Out h h' M (M + 23)) := by
  have hlen := hq.len
  have hll := letL_len (ru := q.2) (q := q.1)
  obtain ⟨S, x, r⟩ := y
  refine Spec.of (by decide +kernel) (by simp [Value.category]) (Nat.le_of_ble_eq_true rfl) ?_
  show WP E k_X10_within 67 0 0 0 [some (.ref M), some (.int i), some (.int w)] [] h _
  refine R_aload_n dX10_within_0 rfl ?_
  refine R_iconst (v := nI 0) dX10_within_1 (by decide) ?_
  refine R_put_A K_10 (f := 0) (by decide) dX10_within_2 f_RX10_1 rfl x.1 (by rfl) (by rfl) (Nat.le_of_ble_eq_true rfl) ?_
  intro h0 u0
  have x0 := x.put u0 (by decide)
  have r0 := r.keep (S2 := (upd S.1 0 (nI 0), S.2)) (Ony.refl.put (by decide))
  have g0 : Out h h0 M (M + 23) := Out.upd u0 (by omega) (by omega)
  generalize (upd S.1 0 (nI 0), S.2) = S0 at x0 r0
  refine R_iload_n dX10_within_5 rfl ?_
  refine R_i2l dX10_within_6 ?_
  refine R_lconst (v := 0) dX10_within_7 rfl ?_
  refine R_ldc2 dX10_within_8 cl_RX10_286 ?_
  -- X10_within: ('call', 11, '.invokestatic', 98)
  refine R_callS s_X10_isIn (Md_isIn w (nI 0) (nI 2) (by decide) (by decide)) dX10_within_11 l_RX10_98 rfl rfl (Nat.le_of_ble_eq_true rfl) (by omega) rfl rfl (fun v h2 hq => ?_)
  obtain ⟨rfl, e9⟩ := hq
  rw [e9]
  by_cases cw : w < 0 ∨ nI 2 < w
  · rw [if_neg (fun z => in02.mp z cw), if_pos cw]
    refine R_if_ne_N (tgt := 20) dX10_within_14 (by decide) (by omega) (fun c14 => ?_) (fun c14 => ?_)
    -- X10_within: ('branch', 14, 20, 17)
    · exact absurd rfl c14
    · refine R_bipush (v := (-2)) dX10_within_17 (by decide) ?_
      refine R_ireturn dX10_within_19 rfl rfl ?_
      -- X10_within: ('ret', 19)
      exact ⟨rfl, ⟨S0, x0, r0⟩, g0⟩
  · rw [if_pos (in02.mpr cw), if_neg cw]
    refine R_if_ne_N (tgt := 20) dX10_within_14 (by decide) (by omega) (fun c14 => ?_) (fun c14 => ?_)
    -- X10_within: ('branch', 14, 20, 17)
    · by_cases hi : i < 0
      · refine R_iload_n dX10_within_20 rfl ?_
        refine R_if_ge (tgt := 27) dX10_within_21 (by decide) (fun c21 => ?_) (fun c21 => ?_)
        -- X10_within: ('branch', 21, 27, 24)
        · exact absurd hi (Int32.not_lt.mpr c21)
        · refine R_bipush (v := (-3)) dX10_within_24 (by decide) ?_
          refine R_ireturn dX10_within_26 rfl rfl ?_
          -- X10_within: ('ret', 26)
          exact ⟨by rw [if_pos hi], ⟨S0, x0, r0⟩, g0⟩
      · obtain ⟨n, hn, rfl⟩ := nI_of hi
        rw [if_neg hi]
        refine R_iload_n dX10_within_20 rfl ?_
        refine R_if_ge_N (tgt := 27) dX10_within_21 (by decide) (by omega) ?_
        refine R_aload_n dX10_within_27 rfl ?_
        refine R_iload_n dX10_within_28 rfl ?_
        -- X10_within: ('call', 29, '.invokevirtual', 288)
        refine R_callV v_X10_seeks (Md_seeks hq x0 r0.1 hn) dX10_within_29 l_RX10_288 rfl rfl x0.1 (Nat.le_of_ble_eq_true rfl) (by omega) rfl rfl (fun v h3 hq => ?_)
        obtain ⟨rfl, g3, S3, x3, o3, w3, k3⟩ := hq
        have r3 := r0.keep (o3.mono (by decide) (by decide))
        by_cases cn : n < (letL q.2 q.1).length
        · obtain ⟨j, z, k4, k5, k6, e34, e35⟩ := k3 cn
          obtain ⟨hh, hb⟩ := home_is k4 k5 k6 (by omega)
          rw [if_pos cn]
          refine R_if_ne_N (tgt := 37) dX10_within_32 (by decide) (by omega) (fun c32 => ?_) (fun c32 => ?_)
          -- X10_within: ('branch', 32, 37, 35)
          · refine R_aload_n dX10_within_37 rfl ?_
            -- X10_within: ('call', 38, '.invokevirtual', 224)
            refine R_callV v_X10_laysText (Md_laysText hq x3 r3.1) dX10_within_38 l_RX10_224 rfl rfl x3.1 (Nat.le_of_ble_eq_true rfl) (by omega) rfl rfl (fun v h4 hq => ?_)
            obtain ⟨rfl, g4, S4, x4, o4, t4⟩ := hq
            have r4 := r3.keep (o4.mono (by decide) (by decide))
            have V34 := fld_get (M := M) (w := S4.1) (k := 34) (by decide) ((o4.2 34 (by decide)).trans e34)
            have V35 := fld_get (M := M) (w := S4.1) (k := 35) (by decide) ((o4.2 35 (by decide)).trans e35)
            have fin : MMAt E h4 M q ds im md tp ph fk fp ∧ Out h h4 M (M + 23) := ⟨⟨S4, x4, r4⟩, (g0.trans g3).trans g4⟩
            refine R_iload_n dX10_within_41 rfl ?_
            refine R_if_ne (tgt := 52) dX10_within_42 (by decide) (fun c42 => ?_) (fun c42 => ?_)
            -- X10_within: ('branch', 42, 52, 45)
            · rw [if_neg c42]
              refine R_iload_n dX10_within_52 rfl ?_
              refine R_iconst (v := nI 1) dX10_within_53 (by decide) ?_
              refine R_icmp_ne (tgt := 64) dX10_within_54 (by decide) (fun c54 => ?_) (fun c54 => ?_)
              -- X10_within: ('branch', 54, 64, 57)
              · rw [if_neg c54]
                obtain ⟨d, hd⟩ := getE (l := dpL q.2 q.1) (i := n) (by rw [dpL_len]; omega)
                refine R_aload_n dX10_within_64 rfl ?_
                refine R_get K_10 (f := 10) (by decide) dX10_within_65 f_RX10_39 x4.1 rfl ?_
                refine R_iload_n dX10_within_68 rfl ?_
                refine R_iaload_N dX10_within_69 x4.a9 (by omega) (by omega) (t4.2.2.2 n d hd) ?_
                refine R_ireturn dX10_within_70 rfl rfl ?_
                -- X10_within: ('ret', 70)
                exact ⟨by rw [rget_in hn hd], fin⟩
              · rw [if_pos c54]
                refine R_aload_n dX10_within_57 rfl ?_
                refine R_get K_10 (f := 35) (by decide) dX10_within_58 f_RX10_283 x4.1 V35 ?_
                refine R_goto (tgt := 70) dX10_within_61 (by decide) ?_
                refine R_ireturn dX10_within_70 rfl rfl ?_
                -- X10_within: ('ret', 70)
                exact ⟨by rw [rget_in hn hb], fin⟩
            · rw [if_pos c42]
              refine R_aload_n dX10_within_45 rfl ?_
              refine R_get K_10 (f := 34) (by decide) dX10_within_46 f_RX10_280 x4.1 V34 ?_
              refine R_goto (tgt := 70) dX10_within_49 (by decide) ?_
              refine R_ireturn dX10_within_70 rfl rfl ?_
              -- X10_within: ('ret', 70)
              exact ⟨by rw [rget_in hn hh], fin⟩
          · exact absurd c32 (by decide)
        · rw [if_neg cn]
          refine R_if_ne_N (tgt := 37) dX10_within_32 (by decide) (by omega) (fun c32 => ?_) (fun c32 => ?_)
          -- X10_within: ('branch', 32, 37, 35)
          · exact absurd rfl c32
          · refine R_iconst (v := (-1)) dX10_within_35 (by decide) ?_
            refine R_ireturn dX10_within_36 rfl rfl ?_
            -- X10_within: ('ret', 36)
            refine ⟨?_, ⟨S3, x3, r3⟩, g0.trans g3⟩
            rw [rget_out hn (by rw [homL_len]; omega), rget_out hn (by rw [begL_len]; omega), rget_out hn (by rw [dpL_len]; omega)]
            split
            · rfl
            · split <;> rfl
    · exact absurd c14 (by decide)
end MD10
