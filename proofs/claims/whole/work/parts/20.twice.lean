/-! THE LONGEST WORD THAT STANDS TWICE -/
def mxJ (ls : List Nat) (i : Nat) : Nat → Nat
  | 0 => 0
  | n + 1 => if i < n then max (mxJ ls i n) (comN ls i n) else mxJ ls i n
def rowMx (ls : List Nat) (i : Nat) : Nat := mxJ ls i ls.length
def twA (ls : List Nat) : List Nat → Option Nat
  | [] => none
  | k :: t => if 0 < rowMx ls k ∧ lmax (rowMx ls) t ≤ rowMx ls k then some k else twA ls t
def rng (k n : Nat) : List Nat := List.range' k (n - k)
theorem rng_cons {k n : Nat} (h : k < n) : rng k n = k :: rng (k + 1) n := by
  rw [rng, show n - k = (n - (k + 1)) + 1 by omega, List.range'_succ, rng]
theorem rng_nil {k n : Nat} (h : n ≤ k) : rng k n = [] := by rw [rng, show n - k = 0 by omega]; rfl
def twS (ls : List Nat) : Nat := lmax (rowMx ls) (rng 0 ls.length)
def twAtS (ls : List Nat) : Option Nat := twA ls (rng 0 ls.length)
theorem fstB_shift {p : Nat → Bool} : ∀ n, fstB p (n + 1) = if p 0 then some 0 else (fstB (fun k => p (k + 1)) n).map (· + 1)
  | 0 => by simp [fstB]
  | n + 1 => by
    rw [fstB, fstB_shift n]
    by_cases h : p 0 = true
    · simp [h]
    · rw [if_neg h, if_neg h]
      cases hx : fstB (fun k => p (k + 1)) n with
      | some i => rw [fstB, hx]; rfl
      | none =>
        rw [fstB, hx]
        simp only [Option.map_none]
        split <;> rfl
theorem comN_step {ls : List Nat} {i j : Nat} (hij : i < j) (hj : j < ls.length) : comN ls i j = if ls[i]? = ls[j]? then comN ls (i + 1) (j + 1) + 1 else 0 := by
  have e1 : ls.length - max i j = (ls.length - max (i + 1) (j + 1)) + 1 := by omega
  rw [comN, e1, fstB_shift]
  by_cases h : ls[i]? = ls[j]?
  · rw [if_pos h, if_neg (by simp [h]), comN]
    have e : (fun k => decide (ls[i + (k + 1)]? ≠ ls[j + (k + 1)]?)) = (fun n => decide (ls[i + 1 + n]? ≠ ls[j + 1 + n]?)) := by
      funext k
      rw [show i + (k + 1) = i + 1 + k by omega, show j + (k + 1) = j + 1 + k by omega]
    rw [e]
    cases fstB (fun n => decide (ls[i + 1 + n]? ≠ ls[j + 1 + n]?)) (ls.length - max (i + 1) (j + 1)) <;> rfl
  · rw [if_neg h, if_pos (by simpa using h)]
    rfl
theorem comN_end {ls : List Nat} {i : Nat} (hi : i ≤ ls.length) : comN ls i ls.length = 0 := by
  rw [comN, show ls.length - max i ls.length = 0 by omega]
  rfl
theorem comN_le {ls : List Nat} {i j : Nat} : comN ls i j ≤ ls.length := by
  rw [comN]
  cases hx : fstB (fun n => decide (ls[i + n]? ≠ ls[j + n]?)) (ls.length - max i j) with
  | none => show ls.length - max i j ≤ _; omega
  | some n => have := fst_lt hx; show n ≤ _; omega
/-- what is held when row i has been gone through up to j -/
def twL (ls : List Nat) (i j : Nat) : Nat := if 0 < mxJ ls i j ∧ lmax (rowMx ls) (rng (i + 1) ls.length) ≤ mxJ ls i j then mxJ ls i j else lmax (rowMx ls) (rng (i + 1) ls.length)
def twK (ls : List Nat) (i j : Nat) : Option Nat := if 0 < mxJ ls i j ∧ lmax (rowMx ls) (rng (i + 1) ls.length) ≤ mxJ ls i j then some i else twA ls (rng (i + 1) ls.length)
theorem mxJ_succ {ls : List Nat} {i j : Nat} (h : i < j) : mxJ ls i (j + 1) = max (mxJ ls i j) (comN ls i j) := by rw [mxJ, if_pos h]
theorem mxJ_0 {ls : List Nat} {i : Nat} : ∀ {j : Nat}, j ≤ i + 1 → mxJ ls i j = 0
  | 0, _ => rfl
  | j + 1, h => by rw [mxJ, if_neg (by omega), mxJ_0 (by omega)]
theorem tw_yes {ls : List Nat} {i j : Nat} (h : i < j) (h1 : 0 < comN ls i j) (h2 : twL ls i j ≤ comN ls i j) : twL ls i (j + 1) = comN ls i j ∧ twK ls i (j + 1) = some i := by
  rw [twL, twK, mxJ_succ h]
  rw [twL] at h2
  have e : max (mxJ ls i j) (comN ls i j) = comN ls i j := by split at h2 <;> omega
  have e2 : lmax (rowMx ls) (rng (i + 1) ls.length) ≤ comN ls i j := by split at h2 <;> omega
  rw [e, if_pos ⟨h1, e2⟩, if_pos ⟨h1, e2⟩]
  exact ⟨rfl, rfl⟩
theorem tw_no {ls : List Nat} {i j : Nat} (h : i < j) (h1 : comN ls i j = 0 ∨ comN ls i j < twL ls i j) : twL ls i (j + 1) = twL ls i j ∧ twK ls i (j + 1) = twK ls i j := by
  rw [twL, twL, twK, twK, mxJ_succ h]
  rw [twL] at h1
  by_cases hc : 0 < mxJ ls i j ∧ lmax (rowMx ls) (rng (i + 1) ls.length) ≤ mxJ ls i j
  · rw [if_pos hc] at h1 ⊢
    have e : max (mxJ ls i j) (comN ls i j) = mxJ ls i j := by omega
    rw [e, if_pos hc, if_pos hc]
    exact ⟨rfl, rfl⟩
  · rw [if_neg hc] at h1 ⊢
    have e : ¬ (0 < max (mxJ ls i j) (comN ls i j) ∧ lmax (rowMx ls) (rng (i + 1) ls.length) ≤ max (mxJ ls i j) (comN ls i j)) := by omega
    rw [if_neg e, if_neg e, if_neg hc]
    exact ⟨rfl, rfl⟩
theorem tw_row {ls : List Nat} {i : Nat} (h : i < ls.length) : twL ls i ls.length = lmax (rowMx ls) (rng i ls.length) ∧ twK ls i ls.length = twA ls (rng i ls.length) := by
  rw [rng_cons h, lmax, twA, twL, twK]
  have er : rowMx ls i = mxJ ls i ls.length := rfl
  rw [er]
  refine ⟨?_, rfl⟩
  split <;> omega
theorem tw_0 {ls : List Nat} {i : Nat} : twL ls i (i + 1) = lmax (rowMx ls) (rng (i + 1) ls.length) ∧ twK ls i (i + 1) = twA ls (rng (i + 1) ls.length) := by
  rw [twL, twK, mxJ_0 (Nat.le_refl _), if_neg (by omega), if_neg (by omega)]
  exact ⟨rfl, rfl⟩
theorem mxJ_le {ls : List Nat} {i : Nat} : ∀ j, mxJ ls i j ≤ ls.length
  | 0 => Nat.zero_le _
  | j + 1 => by
    have := mxJ_le (ls := ls) (i := i) j
    have := comN_le (ls := ls) (i := i) (j := j)
    rw [mxJ]; split <;> omega
theorem rowMx_last {ls : List Nat} {i : Nat} (h : ls.length ≤ i + 1) : rowMx ls i = 0 := mxJ_0 h
theorem lmax_rng_le {ls : List Nat} {k : Nat} : lmax (rowMx ls) (rng k ls.length) ≤ ls.length := lmax_le (fun x _ => mxJ_le ls.length)
section TWICE
variable {E : EnvT} {h : Hp} {D : Nat} {ls hs bs ds : List Nat} {lo la : Int32}
set_option maxHeartbeats 4000000 in
theorem Read_seekTwice (hD : ReadAt E h D ls hs bs ds lo la) : Spec E k_X5_seekTwice 2 0 0 [.ref D] h (fun v h' => v = none ∧ ReadAt E h' D ls hs bs ds (nI (twS ls)) (oI 0 (twAtS ls)) ∧ Out h h' D (D + 10)) := by
  have hl := hD.2.1.1
  refine Spec.of (by decide +kernel) (by simp [Value.category]) (Nat.le_of_ble_eq_true rfl) ?_
  show WP E k_X5_seekTwice 2 0 0 0 [some (.ref D), none, none, none] [] h _
  -- the heap in the loops: what is held, and the row of lengths
  have outer : ∀ m h2 f (iv : Int32) x3, m + 1 ≤ ls.length ∨ m = 0 → (m = 0 → iv = -1 ∨ ls.length ≤ 1) → (∀ j, m = j + 1 → iv = nI j) → (m = 0 → iv < 0) → ReadAt E h2 D ls hs bs ds (nI (lmax (rowMx ls) (rng m ls.length))) (oI 0 (twA ls (rng m ls.length))) → h2.2 (D + 9) = some (.inl (E.2.2.1 0, 241, .inl f)) → (∀ j, m < j → j ≤ ls.length → f j = nI (comN ls m j)) → Out h h2 D (D + 10) → WP E k_X5_seekTwice 2 0 0 39 [some (.ref D), some (.int (nI ls.length)), some (.int iv), x3] [] h2 (fun v h' => v = none ∧ ReadAt E h' D ls hs bs ds (nI (twS ls)) (oI 0 (twAtS ls)) ∧ Out h h' D (D + 10)) := by
    intro m
    induction m with
    | zero =>
      intro h2 f iv x3 hm e0 e1 en hD2 hf hv o2
      refine R_iload_n dX5_seekTwice_39 rfl ?_
      refine R_if_lt (tgt := 140) dX5_seekTwice_40 (by decide) (fun c40 => ?_) (fun c40 => ?_)
      -- X5_seekTwice: ('branch', 40, 140, 43)
      · refine R_return dX5_seekTwice_140 rfl ?_
        -- X5_seekTwice: ('ret', 140)
        exact ⟨rfl, hD2, o2⟩
      · exact absurd (en rfl) c40
    | succ i ih =>
      intro h2 f iv x3 hm e0 e1 en hD2 hf hv o2
      rw [e1 i rfl]
      have hil : i + 1 < ls.length := by omega
      obtain ⟨t0, ht0⟩ := tw_0 (ls := ls) (i := i)
      rw [← t0, ← ht0] at hD2
      have inner : ∀ m2 j h3 f3, j + m2 = ls.length → i < j → ReadAt E h3 D ls hs bs ds (nI (twL ls i j)) (oI 0 (twK ls i j)) → h3.2 (D + 9) = some (.inl (E.2.2.1 0, 241, .inl f3)) → (∀ q, i < q → q < j → f3 q = nI (comN ls i q)) → (∀ q, j < q → q ≤ ls.length → f3 q = nI (comN ls (i + 1) q)) → f3 ls.length = nI 0 → Out h h3 D (D + 10) → WP E k_X5_seekTwice 2 0 0 47 [some (.ref D), some (.int (nI ls.length)), some (.int (nI i)), some (.int (nI j))] [] h3 (fun v h' => v = none ∧ ReadAt E h' D ls hs bs ds (nI (twS ls)) (oI 0 (twAtS ls)) ∧ Out h h' D (D + 10)) := by
        intro m2
        induction m2 with
        | zero =>
          intro j h3 f3 hj hij hD3 hf3 hlo hhi hend o3
          have ej : j = ls.length := by omega
          subst ej
          obtain ⟨r1, r2⟩ := tw_row (ls := ls) (i := i) (by omega)
          rw [r1, r2] at hD3
          refine R_iload_n dX5_seekTwice_47 rfl ?_
          refine R_iload_n dX5_seekTwice_48 rfl ?_
          refine R_icmp_ge_N (tgt := 134) dX5_seekTwice_49 (by decide) (by omega) (by omega) (fun c49 => ?_) (fun c49 => ?_)
          -- X5_seekTwice: ('branch', 49, 134, 52)
          · refine R_iinc2 dX5_seekTwice_134 (by decide) rfl ?_
            refine R_goto (tgt := 39) dX5_seekTwice_137 (by decide) ?_
            -- X5_seekTwice: ('stop', 39)
            refine ih h3 f3 _ _ (by omega) (fun e => Or.inl (by rw [e]; decide)) (fun j e => by rw [e]; exact nI_sub1 (a := j + 1) (by omega)) (fun e => by rw [e]; decide) hD3 hf3 (fun q h1 h2 => ?_) o3
            by_cases hq : q < ls.length
            · exact hlo q h1 hq
            · have eq : q = ls.length := by omega
              rw [eq, hend, comN_end (by omega)]
          · exact absurd c49 (by omega)
        | succ m2 ih2 =>
          intro j h3 f3 hj hij hD3 hf3 hlo hhi hend o3
          obtain ⟨x, hx⟩ := getE (l := ls) (i := i) (by omega)
          obtain ⟨y, hy⟩ := getE (l := ls) (i := j) (by omega)
          have hx6 := hD3.2.1.lt hx
          have hy6 := hD3.2.1.lt hy
          have hcs := comN_step hij (show j < ls.length by omega)
          have hcl := comN_le (ls := ls) (i := i) (j := j)
          have hcl2 := comN_le (ls := ls) (i := i + 1) (j := j + 1)
          have htl : twL ls i j ≤ ls.length := by
            have := mxJ_le (ls := ls) (i := i) j
            have := lmax_rng_le (ls := ls) (k := i + 1)
            rw [twL]; split <;> omega
          -- the value is put
          have putv : WP E k_X5_seekTwice 2 0 0 90 [some (.ref D), some (.int (nI ls.length)), some (.int (nI i)), some (.int (nI j))] [.int (nI (comN ls i j)), .int (nI j), .ref (D + 9)] h3 (fun v h' => v = none ∧ ReadAt E h' D ls hs bs ds (nI (twS ls)) (oI 0 (twAtS ls)) ∧ Out h h' D (D + 10)) := by
            refine R_iastore_N dX5_seekTwice_90 hf3 (by omega) (by omega) ?_
            -- X5_seekTwice: ('put', 91)
            intro h4 u4
            have o34 : Out h3 h4 (D + 9) (D + 10) := Out.upd u4 (Nat.le_refl _) (by omega)
            have hD4 : ReadAt E h4 D ls hs bs ds (nI (twL ls i j)) (oI 0 (twK ls i j)) := by
              obtain ⟨b1, b2, b3, b4, b5, -⟩ := hD3
              exact ⟨(o34.2 _ (by omega)).trans b1, b2.out o34 (by omega), b3.out o34 (by omega), b4.out o34 (by omega), b5.out o34 (by omega), _, u4.2.1⟩
            have hvj : upd f3 j (nI (comN ls i j)) j = nI (comN ls i j) := by simp [upd]
            have hlo4 : ∀ q, i < q → q < j + 1 → upd f3 j (nI (comN ls i j)) q = nI (comN ls i q) := fun q h1 h2 => by
              by_cases hqj : q = j
              · rw [hqj, hvj]
              · rw [upd, if_neg hqj]; exact hlo q h1 (by omega)
            have hhi4 : ∀ q, j + 1 < q → q ≤ ls.length → upd f3 j (nI (comN ls i j)) q = nI (comN ls (i + 1) q) := fun q h1 h2 => by
              rw [upd, if_neg (by omega)]; exact hhi q (by omega) h2
            have hend4 : upd f3 j (nI (comN ls i j)) ls.length = nI 0 := by rw [upd, if_neg (by omega)]; exact hend
            have o4 := o3.trans (o34.mono (by omega) (Nat.le_refl _))
            have no : comN ls i j = 0 ∨ comN ls i j < twL ls i j → WP E k_X5_seekTwice 2 0 0 128 [some (.ref D), some (.int (nI ls.length)), some (.int (nI i)), some (.int (nI j))] [] h4 (fun v h' => v = none ∧ ReadAt E h' D ls hs bs ds (nI (twS ls)) (oI 0 (twAtS ls)) ∧ Out h h' D (D + 10)) := by
              intro hn
              obtain ⟨n1, n2⟩ := tw_no hij hn
              refine R_iinc3 dX5_seekTwice_128 (by decide) (nI_inc _ 1) ?_
              refine R_goto (tgt := 47) dX5_seekTwice_131 (by decide) ?_
              -- X5_seekTwice: ('stop', 47)
              exact ih2 (j + 1) h4 _ (by omega) (by omega) (by rw [n1, n2]; exact hD4) u4.2.1 hlo4 hhi4 hend4 o4
            refine R_aload_n dX5_seekTwice_91 rfl ?_
            refine R_get K_5 (f := 4) (by decide) dX5_seekTwice_92 f_RX5_29 (by first | exact hD4.1 | exact u4.2.1) rfl ?_
            refine R_iload_n dX5_seekTwice_95 rfl ?_
            refine R_iaload_N dX5_seekTwice_96 (by first | exact hD4.1 | exact u4.2.1) (by omega) (by omega) hvj ?_
            refine R_if_le_N (tgt := 128) dX5_seekTwice_97 (by decide) (by omega) (fun c97 => ?_) (fun c97 => ?_)
            -- X5_seekTwice: ('branch', 97, 128, 100)
            · exact no (Or.inl c97)
            · refine R_aload_n dX5_seekTwice_100 rfl ?_
              refine R_get K_5 (f := 4) (by decide) dX5_seekTwice_101 f_RX5_29 (by first | exact hD4.1 | exact u4.2.1) rfl ?_
              refine R_iload_n dX5_seekTwice_104 rfl ?_
              refine R_iaload_N dX5_seekTwice_105 (by first | exact hD4.1 | exact u4.2.1) (by omega) (by omega) hvj ?_
              refine R_aload_n dX5_seekTwice_106 rfl ?_
              refine R_get K_5 (f := 5) (by decide) dX5_seekTwice_107 f_RX5_33 (by first | exact hD4.1 | exact u4.2.1) rfl ?_
              refine R_icmp_lt_N (tgt := 128) dX5_seekTwice_110 (by decide) (by omega) (by omega) (fun c110 => ?_) (fun c110 => ?_)
              -- X5_seekTwice: ('branch', 110, 128, 113)
              · exact no (Or.inr c110)
              · obtain ⟨n1, n2⟩ := tw_yes hij c97 c110
                refine R_aload_n dX5_seekTwice_113 rfl ?_
                refine R_aload_n dX5_seekTwice_114 rfl ?_
                refine R_get K_5 (f := 4) (by decide) dX5_seekTwice_115 f_RX5_29 (by first | exact hD4.1 | exact u4.2.1) rfl ?_
                refine R_iload_n dX5_seekTwice_118 rfl ?_
                refine R_iaload_N dX5_seekTwice_119 (by first | exact hD4.1 | exact u4.2.1) (by omega) (by omega) hvj ?_
                refine R_put_A K_5 (f := 5) (by decide) dX5_seekTwice_120 f_RX5_33 rfl (by first | exact hD4.1 | exact u4.2.1) (by rfl) (by rfl) (Nat.le_of_ble_eq_true rfl) ?_
                -- X5_seekTwice: ('put', 123)
                intro h5 u5
                refine R_aload_n dX5_seekTwice_123 rfl ?_
                refine R_iload_n dX5_seekTwice_124 rfl ?_
                refine R_put_A K_5 (f := 6) (by decide) dX5_seekTwice_125 f_RX5_37 rfl u5.2.1 (by rfl) (by rfl) (Nat.le_of_ble_eq_true rfl) ?_
                -- X5_seekTwice: ('put', 128)
                intro h6 u6
                have o46 : Out h4 h6 D (D + 1) := (Out.upd u5 (Nat.le_refl _) (by omega)).trans (Out.upd u6 (Nat.le_refl _) (by omega))
                refine R_iinc3 dX5_seekTwice_128 (by decide) (nI_inc _ 1) ?_
                refine R_goto (tgt := 47) dX5_seekTwice_131 (by decide) ?_
                -- X5_seekTwice: ('stop', 47)
                refine ih2 (j + 1) h6 _ (by omega) (by omega) ?_ ((o46.2 _ (by omega)).trans u4.2.1) hlo4 hhi4 hend4 (o4.trans (o46.mono (Nat.le_refl _) (by omega)))
                obtain ⟨b1, b2, b3, b4, b5, f5, b6⟩ := hD4
                rw [n1, n2]
                refine ⟨?_, b2.out o46 (by omega), b3.out o46 (by omega), b4.out o46 (by omega), b5.out o46 (by omega), f5, (o46.2 _ (by omega)).trans b6⟩
                rw [oI, Nat.zero_add]
                exact u6.2.1
          refine R_iload_n dX5_seekTwice_47 rfl ?_
          refine R_iload_n dX5_seekTwice_48 rfl ?_
          refine R_icmp_ge_N (tgt := 134) dX5_seekTwice_49 (by decide) (by omega) (by omega) (fun c49 => ?_) (fun c49 => ?_)
          -- X5_seekTwice: ('branch', 49, 134, 52)
          · exact absurd c49 (by omega)
          · refine R_aload_n dX5_seekTwice_52 rfl ?_
            refine R_get K_5 (f := 4) (by decide) dX5_seekTwice_53 f_RX5_29 hD3.1 rfl ?_
            refine R_iload_n dX5_seekTwice_56 rfl ?_
            refine R_aload_n dX5_seekTwice_57 rfl ?_
            refine R_get K_5 (f := 0) (by decide) dX5_seekTwice_58 f_RX5_14 hD3.1 rfl ?_
            refine R_iload_n dX5_seekTwice_61 rfl ?_
            -- X5_seekTwice: ('call', 62, '.invokevirtual', 47)
            refine R_callV v_X6_get (Row_get hD3.2.1 (nI i)) dX5_seekTwice_62 l_RX5_47 rfl rfl hD3.2.1.2.2.1 (Nat.le_of_ble_eq_true rfl) (by omega) rfl rfl (fun v h1 hq => ?_)
            obtain ⟨rfl, e9⟩ := hq
            rw [e9, rget_in (by omega) hx]
            refine R_aload_n dX5_seekTwice_65 rfl ?_
            refine R_get K_5 (f := 0) (by decide) dX5_seekTwice_66 f_RX5_14 hD3.1 rfl ?_
            refine R_iload_n dX5_seekTwice_69 rfl ?_
            -- X5_seekTwice: ('call', 70, '.invokevirtual', 47)
            refine R_callV v_X6_get (Row_get hD3.2.1 (nI j)) dX5_seekTwice_70 l_RX5_47 rfl rfl hD3.2.1.2.2.1 (Nat.le_of_ble_eq_true rfl) (by omega) rfl rfl (fun v h1 hq => ?_)
            obtain ⟨rfl, e9⟩ := hq
            rw [e9, rget_in (by omega) hy]
            refine R_icmp_ne_N (tgt := 89) dX5_seekTwice_73 (by decide) (by omega) (by omega) (fun c73 => ?_) (fun c73 => ?_)
            -- X5_seekTwice: ('branch', 73, 89, 76)
            · rw [hx, hy, if_neg (fun z => c73 (Option.some.inj z))] at hcs
              rw [hcs] at putv
              refine R_iconst (v := nI 0) dX5_seekTwice_89 (by decide) ?_
              -- X5_seekTwice: ('stop', 90)
              exact putv
            · rw [hx, hy, c73, if_pos rfl] at hcs
              rw [hcs] at putv
              have hnext : f3 (j + 1) = nI (comN ls (i + 1) (j + 1)) := hhi (j + 1) (by omega) (by omega)
              refine R_aload_n dX5_seekTwice_76 rfl ?_
              refine R_get K_5 (f := 4) (by decide) dX5_seekTwice_77 f_RX5_29 (by first | exact hD3.1 | exact hf3) rfl ?_
              refine R_iload_n dX5_seekTwice_80 rfl ?_
              refine R_iconst (v := nI 1) dX5_seekTwice_81 (by decide) ?_
              refine R_iadd_N dX5_seekTwice_82 ?_
              refine R_iaload_N dX5_seekTwice_83 (by first | exact hD3.1 | exact hf3) (by omega) (by omega) hnext ?_
              refine R_iconst (v := nI 1) dX5_seekTwice_84 (by decide) ?_
              refine R_iadd_N dX5_seekTwice_85 ?_
              refine R_goto (tgt := 90) dX5_seekTwice_86 (by decide) ?_
              -- X5_seekTwice: ('stop', 90)
              exact putv
      refine R_iload_n dX5_seekTwice_39 rfl ?_
      refine R_if_lt_N (tgt := 140) dX5_seekTwice_40 (by decide) (by omega) ?_
      refine R_iload_n dX5_seekTwice_43 rfl ?_
      refine R_iconst (v := nI 1) dX5_seekTwice_44 (by decide) ?_
      refine R_iadd_N dX5_seekTwice_45 ?_
      refine R_istore3 dX5_seekTwice_46 (by decide) ?_
      -- X5_seekTwice: ('stop', 47)
      have hendv : f ls.length = nI 0 := by rw [hv ls.length (by omega) (Nat.le_refl _), comN_end (by omega)]
      exact inner (ls.length - (i + 1)) (i + 1) h2 f (by omega) (by omega) hD2 hf (fun q h1 h2 => absurd h1 (by omega)) (fun q h1 h2 => hv q h1 h2) hendv o2
  obtain ⟨b1, b2, b3, b4, b5, f0, b6⟩ := id hD
  refine R_aload_n dX5_seekTwice_0 rfl ?_
  refine R_iconst (v := nI 0) dX5_seekTwice_1 (by decide) ?_
  refine R_put_A K_5 (f := 5) (by decide) dX5_seekTwice_2 f_RX5_33 rfl b1 (by rfl) (by rfl) (Nat.le_of_ble_eq_true rfl) ?_
  -- X5_seekTwice: ('put', 5)
  intro h2 u2
  refine R_aload_n dX5_seekTwice_5 rfl ?_
  refine R_iconst (v := (-1)) dX5_seekTwice_6 (by decide) ?_
  refine R_put_A K_5 (f := 6) (by decide) dX5_seekTwice_7 f_RX5_37 rfl u2.2.1 (by rfl) (by rfl) (Nat.le_of_ble_eq_true rfl) ?_
  -- X5_seekTwice: ('put', 10)
  intro h3 u3
  have o3 : Out h h3 D (D + 1) := (Out.upd u2 (Nat.le_refl _) (by omega)).trans (Out.upd u3 (Nat.le_refl _) (by omega))
  have c1 := u3.2.1
  have c2 := b2.out o3 (by omega)
  have c6 := (o3.2 (D + 9) (by omega)).trans b6
  refine R_aload_n dX5_seekTwice_10 rfl ?_
  refine R_get K_5 (f := 0) (by decide) dX5_seekTwice_11 f_RX5_14 c1 rfl ?_
  -- X5_seekTwice: ('call', 14, '.invokevirtual', 43)
  refine R_callV v_X6_size (Row_size c2) dX5_seekTwice_14 l_RX5_43 rfl rfl c2.2.2.1 (Nat.le_of_ble_eq_true rfl) (by omega) rfl rfl (fun v h1 hq => ?_)
  obtain ⟨rfl, e9⟩ := hq
  rw [e9]
  refine R_istore1 dX5_seekTwice_17 (by decide) ?_
  refine R_iload_n dX5_seekTwice_18 rfl ?_
  refine R_aload_n dX5_seekTwice_19 rfl ?_
  refine R_get K_5 (f := 4) (by decide) dX5_seekTwice_20 f_RX5_29 (by first | exact c1 | exact c6) rfl ?_
  refine R_arraylength (t0 := 0) dX5_seekTwice_23 rfl (by first | exact c1 | exact c6) ?_
  refine R_icmp_lt_N (tgt := 28) dX5_seekTwice_24 (by decide) (by omega) (by omega) (fun c24 => ?_) (fun c24 => ?_)
  -- X5_seekTwice: ('branch', 24, 28, 27)
  · refine R_aload_n dX5_seekTwice_28 rfl ?_
    refine R_get K_5 (f := 4) (by decide) dX5_seekTwice_29 f_RX5_29 (by first | exact c1 | exact c6) rfl ?_
    refine R_iload_n dX5_seekTwice_32 rfl ?_
    refine R_iconst (v := nI 0) dX5_seekTwice_33 (by decide) ?_
    refine R_iastore_N dX5_seekTwice_34 (by first | exact c1 | exact c6) (by omega) (by omega) ?_
    -- X5_seekTwice: ('put', 35)
    intro h4 u4
    have o34 : Out h3 h4 (D + 9) (D + 10) := Out.upd u4 (Nat.le_refl _) (by omega)
    have o4 : Out h h4 D (D + 10) := (o3.mono (Nat.le_refl _) (by omega)).trans (o34.mono (by omega) (Nat.le_refl _))
    have e1 : lmax (rowMx ls) (rng (ls.length - 1) ls.length) = 0 := by
      by_cases hz : ls.length = 0
      · rw [rng_nil (by omega)]; rfl
      · rw [rng_cons (by omega), rng_nil (by omega), lmax, lmax, rowMx_last (by omega)]; rfl
    have e2 : twA ls (rng (ls.length - 1) ls.length) = none := by
      by_cases hz : ls.length = 0
      · rw [rng_nil (by omega)]; rfl
      · rw [rng_cons (by omega), rng_nil (by omega), twA, rowMx_last (by omega), if_neg (by omega)]; rfl
    refine R_iload_n dX5_seekTwice_35 rfl ?_
    refine R_iconst (v := nI 2) dX5_seekTwice_36 (by decide) ?_
    refine R_isub dX5_seekTwice_37 ?_
    refine R_istore2 dX5_seekTwice_38 (by decide) ?_
    -- X5_seekTwice: ('stop', 39)
    refine outer (ls.length - 1) h4 _ _ none (by omega) (fun e => Or.inr (by omega)) (fun j e => ?_) (fun e => ?_) ?_ u4.2.1 (fun q h1 h2 => ?_) o4
    · rw [show ls.length = j + 2 by omega, pk_sub (by omega)]; rfl
    · rcases (show ls.length = 0 ∨ ls.length = 1 by omega) with e0 | e0 <;> rw [e0] <;> decide
    · rw [e1, e2]
      exact ⟨(o34.2 _ (by omega)).trans c1, c2.out o34 (by omega), (b3.out o3 (by omega)).out o34 (by omega), (b4.out o3 (by omega)).out o34 (by omega), (b5.out o3 (by omega)).out o34 (by omega), _, u4.2.1⟩
    · have eq : q = ls.length := by omega
      rw [eq, comN_end (by omega)]
      simp [upd]
  · exact absurd c24 (by omega)
end TWICE
