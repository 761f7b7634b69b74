/-! BITS: both programs' floats as numbers -/
theorem fc0 : FP.fconst0 = 0 := rfl
theorem fc1 : FP.fconst1 = nrm 127 0 := by decide
theorem fc2 : FP.fconst2 = nrm 128 0 := by decide
theorem hfc : (1056964608 : UInt32) = nrm 126 0 := by decide
theorem qfc : (1048576000 : UInt32) = nrm 125 0 := by decide
theorem bgc : (1258291200 : UInt32) = nrm 150 0 := by decide
def bitsF (v : UInt32) : Int32 := if v = 0 then 0 else (nI (v.toNat / 8388608) <<< (nI 23 &&& 31)) + FP.f2i (FP.fmul (FP.fsub (nrm 127 (v.toNat % 8388608)) FP.fconst1) 1258291200)
def FV (v : UInt32) : Prop := v = 0 ∨ ∃ E T, 2 ≤ E ∧ E ≤ 253 ∧ T < 8388608 ∧ v = nrm E T
theorem bitsF_n {E T : Nat} (h1 : 1 ≤ E) (h2 : E ≤ 254) (hT : T < 8388608) : bitsF (nrm E T) = (nI E <<< (nI 23 &&& 31)) + FP.f2i (FP.fmul (FP.fsub (nrm 127 T) FP.fconst1) 1258291200) := by
  have hn := nrm_nat h2 hT
  have h0 : ¬ nrm E T = 0 := fun e => by
    rw [e] at hn
    have : (0 : UInt32).toNat = 0 := rfl
    omega
  rw [bitsF, if_neg h0, hn, show (E * 8388608 + T) / 8388608 = E by omega, show (E * 8388608 + T) % 8388608 = T by omega]
theorem vf_sub {T : Nat} (hT : T < 8388608) : vf_n32 (FP.fsub (nrm 127 T) FP.fconst1) := by
  rw [fc1]
  rcases sub_one hT with e | ⟨E, V, e1, e2, hV, e⟩ <;> rw [e]
  · exact vf_0
  · exact vf_nrm (by omega) hV
theorem vf_mul {T : Nat} (hT : T < 8388608) : vf_n32 (FP.fmul (FP.fsub (nrm 127 T) FP.fconst1) 1258291200) := by
  rw [fc1, bgc]
  rcases sub_one hT with e | ⟨E, V, e1, e2, hV, e⟩ <;> rw [e]
  · rw [mul_0 (by decide) (by decide)]; exact vf_0
  · rw [mul_pow (by omega) (by omega) hV (by decide) (by decide) (by omega) (by omega)]
    exact vf_nrm (by omega) hV
def perF (a n : Nat) : UInt32 := if n = 0 then 0 else FP.fdiv (FP.i2f (nI a)) (FP.i2f (nI n))
theorem perF_is {a n : Nat} (h0 : n ≠ 0) (hn : n ≤ 240) (ha : a < 16777216) : vf_n32 (FP.fdiv (FP.i2f (nI a)) (FP.i2f (nI n))) ∧ FV (FP.fdiv (FP.i2f (nI a)) (FP.i2f (nI n))) := by
  obtain ⟨U, hU, en⟩ := i2f_is (n := n) (by omega) (by omega)
  have hk := log2_le (n := n) (k := 7) (by omega) (by omega)
  rw [en]
  by_cases c : a = 0
  · rw [c, i2f_0, div_0 (by omega) (by omega) hU]
    exact ⟨vf_0, Or.inl rfl⟩
  · obtain ⟨T, hT, ea⟩ := i2f_is (n := a) (by omega) ha
    have hk2 := log2_le (n := a) (k := 23) (by omega) (by omega)
    rw [ea]
    obtain ⟨E, V, e1, e2, hV, e⟩ := div_in (A := a.log2 + 127) (B := n.log2 + 127) (T := T) (U := U) (by omega) (by omega) (by omega) (by omega) hT hU
    rw [e]
    exact ⟨vf_nrm (by omega) hV, Or.inr ⟨E, V, by omega, by omega, hV, rfl⟩⟩
def fldS (f : UInt32) (n : Nat) : UInt32 := FP.fmul (FP.fadd (FP.fmul f 1056964608) (FP.i2f (nI n))) 1048576000
def fldF : UInt32 → List Nat → UInt32
  | f, [] => f
  | f, n :: t => fldF (fldS f n) t
def FI (f : UInt32) : Prop := f = 0 ∨ ∃ E T, 120 ≤ E ∧ E ≤ 134 ∧ T < 8388608 ∧ f = nrm E T
theorem fld_one {f : UInt32} {n : Nat} (hf : FI f) (h0 : 0 < n) (hn : n ≤ 240) : vf_n32 (FP.fmul f 1056964608) ∧ vf_n32 (FP.fadd (FP.fmul f 1056964608) (FP.i2f (nI n))) ∧ vf_n32 (fldS f n) ∧ FI (fldS f n) := by
  obtain ⟨U, hU, en⟩ := i2f_is (n := n) (by omega) (by omega)
  have hk := log2_le (n := n) (k := 7) (by omega) (by omega)
  have key : ∀ x : UInt32, vf_n32 x → (∃ E T, 127 ≤ E ∧ E ≤ 136 ∧ T < 8388608 ∧ FP.fadd x (nrm (n.log2 + 127) U) = nrm E T) → FP.fmul f 1056964608 = x → vf_n32 (FP.fmul f 1056964608) ∧ vf_n32 (FP.fadd (FP.fmul f 1056964608) (FP.i2f (nI n))) ∧ vf_n32 (fldS f n) ∧ FI (fldS f n) := by
    intro x hx ha he
    obtain ⟨E, T, e1, e2, hT, e⟩ := ha
    rw [fldS, he, en, e, qfc, mul_pow (by omega) (by omega) hT (by decide) (by decide) (by omega) (by omega)]
    exact ⟨hx, vf_nrm (by omega) hT, vf_nrm (by omega) hT, Or.inr ⟨_, T, by omega, by omega, hT, rfl⟩⟩
  rcases hf with e | ⟨E, T, e1, e2, hT, e⟩
  · refine key 0 vf_0 (add_in dec_0 (by decide) (by decide) (by decide) (by omega) (by omega) hU) ?_
    rw [e, hfc, mul_0 (by decide) (by decide)]
  · refine key (nrm (E + 126 - 127) T) (vf_nrm (by omega) hT) (add_in (dec_nrm (by omega) (by omega) hT) (by omega) (by omega) (by omega) (by omega) (by omega) hU) ?_
    rw [e, hfc, mul_pow (by omega) (by omega) hT (by decide) (by decide) (by omega) (by omega)]
theorem FI.fv {f : UInt32} (h : FI f) : FV f := by
  rcases h with e | ⟨E, T, e1, e2, hT, e⟩
  · exact Or.inl e
  · exact Or.inr ⟨E, T, by omega, by omega, hT, e⟩
theorem fldF_snoc {l : List Nat} {n : Nat} : ∀ {f : UInt32}, fldF f (l ++ [n]) = fldS (fldF f l) n := by
  induction l with
  | nil => intro f; rfl
  | cons x t ih => intro f; exact ih
theorem fldF_fi : ∀ {l : List Nat} {f : UInt32}, FI f → (∀ x ∈ l, 0 < x ∧ x ≤ 240) → FI (fldF f l)
  | [], f, h, _ => h
  | x :: t, f, h, hl => by
    have := hl x List.mem_cons_self
    show FI (fldF (fldS f x) t)
    exact fldF_fi (fld_one h this.1 this.2).2.2.2 (fun z hz => hl z (List.mem_cons_of_mem x hz))
theorem dpL_le {ru : Ru} {q : List Nat} : ∀ d ∈ dpL ru q, d ≤ 60 := fun d hd => by
  rw [dpL] at hd
  obtain ⟨p, hp, rfl⟩ := List.mem_map.mp hd
  obtain ⟨s, -, hs⟩ := List.mem_flatMap.mp hp
  exact wxF_dep 60 s p hs
def valF (q : Pk) (w : Int32) : UInt32 := if w = 0 then perF (sizeS q.1 q.2) (letL q.2 q.1).length else if w = nI 1 then perF (lsum id (dpL q.2 q.1)) (letL q.2 q.1).length else fldF 0 (q.1.map (wlen q.2))
def bitI (q : Pk) (w : Int32) : Int32 := if w < 0 ∨ nI 2 < w then -2147483648 else bitsF (valF q w)
section BITS
variable {E : EnvT} {h h1 : Hp} {M X rd : Nat} {S : MSt} {q : Pk} {ds : List Pk} {im : Nat → Pk} {md : Nat → Nat} {tp ph : List Nat} {fk fp : Int32}
theorem PP_bitsOf {v : UInt32} (hv : FV v) : Spec E k_X9_bitsOf 0 0 0 [.float v] h (fun w h' => w = some (.int (bitsF v)) ∧ h' = h) := by
  refine Spec.of (by decide +kernel) (by simp [Value.category]) (Nat.le_of_ble_eq_true rfl) ?_
  show WP E k_X9_bitsOf 0 0 0 0 [some (.float v), none, none] [] h _
  rcases hv with rfl | ⟨F, T, h1, h2, hT, rfl⟩
  · refine R_fload_n dX9_bitsOf_0 rfl ?_
    refine R_fconst0 dX9_bitsOf_1 ?_
    refine R_fcmp dX9_bitsOf_2 ?_
    -- X9_bitsOf: ('stop', 3)
    rw [fc0, cmp_00]
    refine R_if_gt (tgt := 8) dX9_bitsOf_3 (by decide) (fun c3 => ?_) (fun c3 => ?_)
    -- X9_bitsOf: ('branch', 3, 8, 6)
    · exact absurd c3 (by decide)
    · refine R_iconst (v := nI 0) dX9_bitsOf_6 (by decide) ?_
      refine R_ireturn dX9_bitsOf_7 rfl rfl ?_
      -- X9_bitsOf: ('ret', 7)
      exact ⟨by rw [bitsF, if_pos rfl]; rfl, rfl⟩
  · have fin : WP E k_X9_bitsOf 0 0 0 59 [some (.float (nrm F T)), some (.float (nrm 127 T)), some (.int (nI F))] [] h (fun w h' => w = some (.int (bitsF (nrm F T))) ∧ h' = h) := by
      refine R_iload_n dX9_bitsOf_59 rfl ?_
      refine R_bipush (v := nI 23) dX9_bitsOf_60 (by decide) ?_
      refine R_ishl dX9_bitsOf_62 ?_
      refine R_fload_n dX9_bitsOf_63 rfl ?_
      refine R_fconst1 dX9_bitsOf_64 ?_
      refine R_fsub dX9_bitsOf_65 (vf_sub hT) ?_
      refine R_ldcwf dX9_bitsOf_66 cf_RX9_382 ?_
      refine R_fmul dX9_bitsOf_69 (vf_mul hT) ?_
      refine R_f2i dX9_bitsOf_70 ?_
      refine R_iadd dX9_bitsOf_71 ?_
      refine R_ireturn dX9_bitsOf_72 rfl rfl ?_
      -- X9_bitsOf: ('ret', 72)
      exact ⟨by rw [bitsF_n (by omega) (by omega) hT], rfl⟩
    have up : ∀ m, m ≤ 125 → WP E k_X9_bitsOf 0 0 0 38 [some (.float (nrm F T)), some (.float (nrm (127 - m) T)), some (.int (nI (F + m)))] [] h (fun w h' => w = some (.int (bitsF (nrm F T))) ∧ h' = h) := by
      intro m
      induction m with
      | zero =>
        intro hm
        have := cmp_ge (E := 127) (T := T) (P := 127) (op := .g) (by decide) (by decide) hT (by decide)
        refine R_fload_n dX9_bitsOf_38 rfl ?_
        refine R_fconst1 dX9_bitsOf_39 ?_
        refine R_fcmp dX9_bitsOf_40 ?_
        -- X9_bitsOf: ('stop', 41)
        rw [fc1]
        refine R_if_ge (tgt := 59) dX9_bitsOf_41 (by decide) (fun c41 => ?_) (fun c41 => ?_)
        -- X9_bitsOf: ('branch', 41, 59, 44)
        · exact fin
        · exact absurd (Int32.not_le.mp c41) this
      | succ m ih =>
        intro hm
        have hv : FP.fmul (nrm (127 - (m + 1)) T) FP.fconst2 = nrm (127 - m) T := by
          rw [fc2, mul_pow (by omega) (by omega) hT (by decide) (by decide) (by omega) (by omega), show 127 - (m + 1) + 128 - 127 = 127 - m by omega]
        have hvf : vf_n32 (FP.fmul (nrm (127 - (m + 1)) T) FP.fconst2) := by rw [hv]; exact vf_nrm (by omega) hT
        refine R_fload_n dX9_bitsOf_38 rfl ?_
        refine R_fconst1 dX9_bitsOf_39 ?_
        refine R_fcmp dX9_bitsOf_40 ?_
        -- X9_bitsOf: ('stop', 41)
        rw [fc1, cmp_lt (by omega) (by omega) hT (by decide)]
        refine R_if_ge (tgt := 59) dX9_bitsOf_41 (by decide) (fun c41 => ?_) (fun c41 => ?_)
        -- X9_bitsOf: ('branch', 41, 59, 44)
        · exact absurd c41 (by decide)
        · refine R_iload_n dX9_bitsOf_44 rfl ?_
          refine R_iconst (v := nI 1) dX9_bitsOf_45 (by decide) ?_
          refine R_icmp_le_N (tgt := 59) dX9_bitsOf_46 (by decide) (by omega) (by omega) (fun c46 => ?_) (fun c46 => ?_)
          -- X9_bitsOf: ('branch', 46, 59, 49)
          · exact absurd c46 (by omega)
          · refine R_fload_n dX9_bitsOf_49 rfl ?_
            refine R_fconst2 dX9_bitsOf_50 ?_
            refine R_fmul dX9_bitsOf_51 hvf ?_
            -- X9_bitsOf: ('stop', 52)
            rw [hv]
            refine R_fstore1 dX9_bitsOf_52 (by decide) ?_
            refine R_iinc2 dX9_bitsOf_53 (by decide) (nI_sub1 (by omega)) ?_
            refine R_goto (tgt := 38) dX9_bitsOf_56 (by decide) ?_
            -- X9_bitsOf: ('stop', 38)
            exact ih (by omega)
    have down : ∀ m, F = 127 + m → ∀ j, j ≤ m → WP E k_X9_bitsOf 0 0 0 13 [some (.float (nrm F T)), some (.float (nrm (127 + j) T)), some (.int (nI (F - j)))] [] h (fun w h' => w = some (.int (bitsF (nrm F T))) ∧ h' = h) := by
      intro m hF j
      induction j with
      | zero =>
        intro hj
        refine R_fload_n dX9_bitsOf_13 rfl ?_
        refine R_fconst2 dX9_bitsOf_14 ?_
        refine R_fcmp dX9_bitsOf_15 ?_
        -- X9_bitsOf: ('stop', 16)
        rw [fc2, cmp_lt (by omega) (by omega) hT (by decide)]
        refine R_if_lt (tgt := 38) dX9_bitsOf_16 (by decide) (fun c16 => ?_) (fun c16 => ?_)
        -- X9_bitsOf: ('branch', 16, 38, 19)
        · exact up 0 (by omega)
        · exact absurd (by decide) c16
      | succ j ih =>
        intro hj
        have hv : FP.fmul (nrm (127 + (j + 1)) T) 1056964608 = nrm (127 + j) T := by
          rw [hfc, mul_pow (by omega) (by omega) hT (by decide) (by decide) (by omega) (by omega), show 127 + (j + 1) + 126 - 127 = 127 + j by omega]
        have hvf : vf_n32 (FP.fmul (nrm (127 + (j + 1)) T) 1056964608) := by rw [hv]; exact vf_nrm (by omega) hT
        have hc := cmp_ge (E := 127 + (j + 1)) (T := T) (P := 128) (op := .l) (by decide) (by omega) hT (by omega)
        have ih := ih (by omega)
        rw [show F - j = F - (j + 1) + 1 by omega] at ih
        refine R_fload_n dX9_bitsOf_13 rfl ?_
        refine R_fconst2 dX9_bitsOf_14 ?_
        refine R_fcmp dX9_bitsOf_15 ?_
        -- X9_bitsOf: ('stop', 16)
        rw [fc2]
        refine R_if_lt (tgt := 38) dX9_bitsOf_16 (by decide) (fun c16 => ?_) (fun c16 => ?_)
        -- X9_bitsOf: ('branch', 16, 38, 19)
        · exact absurd c16 hc
        · refine R_iload_n dX9_bitsOf_19 rfl ?_
          refine R_sipush (v := nI 254) dX9_bitsOf_20 (by decide) ?_
          refine R_icmp_ge_N (tgt := 38) dX9_bitsOf_23 (by decide) (by omega) (by omega) (fun c23 => ?_) (fun c23 => ?_)
          -- X9_bitsOf: ('branch', 23, 38, 26)
          · exact absurd c23 (by omega)
          · refine R_fload_n dX9_bitsOf_26 rfl ?_
            refine R_ldcwf dX9_bitsOf_27 cf_RX9_380 ?_
            refine R_fmul dX9_bitsOf_30 hvf ?_
            -- X9_bitsOf: ('stop', 31)
            rw [hv]
            refine R_fstore1 dX9_bitsOf_31 (by decide) ?_
            refine R_iinc2 dX9_bitsOf_32 (by decide) (nI_inc _ 1) ?_
            refine R_goto (tgt := 13) dX9_bitsOf_35 (by decide) ?_
            -- X9_bitsOf: ('stop', 13)
            exact ih
    have go : WP E k_X9_bitsOf 0 0 0 8 [some (.float (nrm F T)), none, none] [] h (fun w h' => w = some (.int (bitsF (nrm F T))) ∧ h' = h) := by
      refine R_fload_n dX9_bitsOf_8 rfl ?_
      refine R_fstore1 dX9_bitsOf_9 (by decide) ?_
      refine R_bipush (v := nI 127) dX9_bitsOf_10 (by decide) ?_
      refine R_istore2 dX9_bitsOf_12 (by decide) ?_
      -- X9_bitsOf: ('stop', 13)
      by_cases c : F < 127
      · have u := up (127 - F) (by omega)
        rw [show 127 - (127 - F) = F by omega, show F + (127 - F) = 127 by omega] at u
        refine R_fload_n dX9_bitsOf_13 rfl ?_
        refine R_fconst2 dX9_bitsOf_14 ?_
        refine R_fcmp dX9_bitsOf_15 ?_
        -- X9_bitsOf: ('stop', 16)
        rw [fc2, cmp_lt (by omega) (by omega) hT (by decide)]
        refine R_if_lt (tgt := 38) dX9_bitsOf_16 (by decide) (fun c16 => ?_) (fun c16 => ?_)
        -- X9_bitsOf: ('branch', 16, 38, 19)
        · exact u
        · exact absurd (by decide) c16
      · have d := down (F - 127) (by omega) (F - 127) (Nat.le_refl _)
        rw [show 127 + (F - 127) = F by omega, show F - (F - 127) = 127 by omega] at d
        exact d
    refine R_fload_n dX9_bitsOf_0 rfl ?_
    refine R_fconst0 dX9_bitsOf_1 ?_
    refine R_fcmp dX9_bitsOf_2 ?_
    -- X9_bitsOf: ('stop', 3)
    rw [fc0, cmp_z (by omega) (by omega) hT]
    refine R_if_gt (tgt := 8) dX9_bitsOf_3 (by decide) (fun c3 => ?_) (fun c3 => ?_)
    -- X9_bitsOf: ('branch', 3, 8, 6)
    · exact go
    · exact absurd (by decide) c3
theorem Md_bitsOf {v : UInt32} (hv : FV v) : Spec E k_X10_bitsOf 0 0 0 [.float v] h (fun w h' => w = some (.int (bitsF v)) ∧ h' = h) := by
  refine Spec.of (by decide +kernel) (by simp [Value.category]) (Nat.le_of_ble_eq_true rfl) ?_
  show WP E k_X10_bitsOf 0 0 0 0 [some (.float v), none, none] [] h _
  rcases hv with rfl | ⟨F, T, h1, h2, hT, rfl⟩
  · refine R_fload_n dX10_bitsOf_0 rfl ?_
    refine R_fconst0 dX10_bitsOf_1 ?_
    refine R_fcmp dX10_bitsOf_2 ?_
    -- X10_bitsOf: ('stop', 3)
    rw [fc0, cmp_00]
    refine R_if_ne (tgt := 8) dX10_bitsOf_3 (by decide) (fun c3 => ?_) (fun c3 => ?_)
    -- X10_bitsOf: ('branch', 3, 8, 6)
    · exact absurd rfl c3
    · refine R_iconst (v := nI 0) dX10_bitsOf_6 (by decide) ?_
      refine R_ireturn dX10_bitsOf_7 rfl rfl ?_
      -- X10_bitsOf: ('ret', 7)
      exact ⟨by rw [bitsF, if_pos rfl]; rfl, rfl⟩
  · have fin : WP E k_X10_bitsOf 0 0 0 47 [some (.float (nrm F T)), some (.float (nrm 127 T)), some (.int (nI F))] [] h (fun w h' => w = some (.int (bitsF (nrm F T))) ∧ h' = h) := by
      refine R_iload_n dX10_bitsOf_47 rfl ?_
      refine R_bipush (v := nI 23) dX10_bitsOf_48 (by decide) ?_
      refine R_ishl dX10_bitsOf_50 ?_
      refine R_fload_n dX10_bitsOf_51 rfl ?_
      refine R_fconst1 dX10_bitsOf_52 ?_
      refine R_fsub dX10_bitsOf_53 (vf_sub hT) ?_
      refine R_ldcwf dX10_bitsOf_54 cf_RX10_323 ?_
      refine R_fmul dX10_bitsOf_57 (vf_mul hT) ?_
      refine R_f2i dX10_bitsOf_58 ?_
      refine R_iadd dX10_bitsOf_59 ?_
      refine R_ireturn dX10_bitsOf_60 rfl rfl ?_
      -- X10_bitsOf: ('ret', 60)
      exact ⟨by rw [bitsF_n (by omega) (by omega) hT], rfl⟩
    have up : ∀ m, m ≤ 125 → WP E k_X10_bitsOf 0 0 0 31 [some (.float (nrm F T)), some (.float (nrm (127 - m) T)), some (.int (nI (F + m)))] [] h (fun w h' => w = some (.int (bitsF (nrm F T))) ∧ h' = h) := by
      intro m
      induction m with
      | zero =>
        intro hm
        have := cmp_ge (E := 127) (T := T) (P := 127) (op := .g) (by decide) (by decide) hT (by decide)
        refine R_fload_n dX10_bitsOf_31 rfl ?_
        refine R_fconst1 dX10_bitsOf_32 ?_
        refine R_fcmp dX10_bitsOf_33 ?_
        -- X10_bitsOf: ('stop', 34)
        rw [fc1]
        refine R_if_ge (tgt := 47) dX10_bitsOf_34 (by decide) (fun c34 => ?_) (fun c34 => ?_)
        -- X10_bitsOf: ('branch', 34, 47, 37)
        · exact fin
        · exact absurd (Int32.not_le.mp c34) this
      | succ m ih =>
        intro hm
        have hv : FP.fmul (nrm (127 - (m + 1)) T) FP.fconst2 = nrm (127 - m) T := by
          rw [fc2, mul_pow (by omega) (by omega) hT (by decide) (by decide) (by omega) (by omega), show 127 - (m + 1) + 128 - 127 = 127 - m by omega]
        have hvf : vf_n32 (FP.fmul (nrm (127 - (m + 1)) T) FP.fconst2) := by rw [hv]; exact vf_nrm (by omega) hT
        refine R_fload_n dX10_bitsOf_31 rfl ?_
        refine R_fconst1 dX10_bitsOf_32 ?_
        refine R_fcmp dX10_bitsOf_33 ?_
        -- X10_bitsOf: ('stop', 34)
        rw [fc1, cmp_lt (by omega) (by omega) hT (by decide)]
        refine R_if_ge (tgt := 47) dX10_bitsOf_34 (by decide) (fun c34 => ?_) (fun c34 => ?_)
        -- X10_bitsOf: ('branch', 34, 47, 37)
        · exact absurd c34 (by decide)
        · refine R_fload_n dX10_bitsOf_37 rfl ?_
          refine R_fconst2 dX10_bitsOf_38 ?_
          refine R_fmul dX10_bitsOf_39 hvf ?_
          -- X10_bitsOf: ('stop', 40)
          rw [hv]
          refine R_fstore1 dX10_bitsOf_40 (by decide) ?_
          refine R_iinc2 dX10_bitsOf_41 (by decide) (nI_sub1 (by omega)) ?_
          refine R_goto (tgt := 31) dX10_bitsOf_44 (by decide) ?_
          -- X10_bitsOf: ('stop', 31)
          exact ih (by omega)
    have down : ∀ m, F = 127 + m → ∀ j, j ≤ m → WP E k_X10_bitsOf 0 0 0 13 [some (.float (nrm F T)), some (.float (nrm (127 + j) T)), some (.int (nI (F - j)))] [] h (fun w h' => w = some (.int (bitsF (nrm F T))) ∧ h' = h) := by
      intro m hF j
      induction j with
      | zero =>
        intro hj
        refine R_fload_n dX10_bitsOf_13 rfl ?_
        refine R_fconst2 dX10_bitsOf_14 ?_
        refine R_fcmp dX10_bitsOf_15 ?_
        -- X10_bitsOf: ('stop', 16)
        rw [fc2, cmp_lt (by omega) (by omega) hT (by decide)]
        refine R_if_lt (tgt := 31) dX10_bitsOf_16 (by decide) (fun c16 => ?_) (fun c16 => ?_)
        -- X10_bitsOf: ('branch', 16, 31, 19)
        · exact up 0 (by omega)
        · exact absurd (by decide) c16
      | succ j ih =>
        intro hj
        have hv : FP.fmul (nrm (127 + (j + 1)) T) 1056964608 = nrm (127 + j) T := by
          rw [hfc, mul_pow (by omega) (by omega) hT (by decide) (by decide) (by omega) (by omega), show 127 + (j + 1) + 126 - 127 = 127 + j by omega]
        have hvf : vf_n32 (FP.fmul (nrm (127 + (j + 1)) T) 1056964608) := by rw [hv]; exact vf_nrm (by omega) hT
        have hc := cmp_ge (E := 127 + (j + 1)) (T := T) (P := 128) (op := .l) (by decide) (by omega) hT (by omega)
        have ih := ih (by omega)
        rw [show F - j = F - (j + 1) + 1 by omega] at ih
        refine R_fload_n dX10_bitsOf_13 rfl ?_
        refine R_fconst2 dX10_bitsOf_14 ?_
        refine R_fcmp dX10_bitsOf_15 ?_
        -- X10_bitsOf: ('stop', 16)
        rw [fc2]
        refine R_if_lt (tgt := 31) dX10_bitsOf_16 (by decide) (fun c16 => ?_) (fun c16 => ?_)
        -- X10_bitsOf: ('branch', 16, 31, 19)
        · exact absurd c16 hc
        · refine R_fload_n dX10_bitsOf_19 rfl ?_
          refine R_ldcwf dX10_bitsOf_20 cf_RX10_322 ?_
          refine R_fmul dX10_bitsOf_23 hvf ?_
          -- X10_bitsOf: ('stop', 24)
          rw [hv]
          refine R_fstore1 dX10_bitsOf_24 (by decide) ?_
          refine R_iinc2 dX10_bitsOf_25 (by decide) (nI_inc _ 1) ?_
          refine R_goto (tgt := 13) dX10_bitsOf_28 (by decide) ?_
          -- X10_bitsOf: ('stop', 13)
          exact ih
    have go : WP E k_X10_bitsOf 0 0 0 8 [some (.float (nrm F T)), none, none] [] h (fun w h' => w = some (.int (bitsF (nrm F T))) ∧ h' = h) := by
      refine R_fload_n dX10_bitsOf_8 rfl ?_
      refine R_fstore1 dX10_bitsOf_9 (by decide) ?_
      refine R_bipush (v := nI 127) dX10_bitsOf_10 (by decide) ?_
      refine R_istore2 dX10_bitsOf_12 (by decide) ?_
      -- X10_bitsOf: ('stop', 13)
      by_cases c : F < 127
      · have u := up (127 - F) (by omega)
        rw [show 127 - (127 - F) = F by omega, show F + (127 - F) = 127 by omega] at u
        refine R_fload_n dX10_bitsOf_13 rfl ?_
        refine R_fconst2 dX10_bitsOf_14 ?_
        refine R_fcmp dX10_bitsOf_15 ?_
        -- X10_bitsOf: ('stop', 16)
        rw [fc2, cmp_lt (by omega) (by omega) hT (by decide)]
        refine R_if_lt (tgt := 31) dX10_bitsOf_16 (by decide) (fun c16 => ?_) (fun c16 => ?_)
        -- X10_bitsOf: ('branch', 16, 31, 19)
        · exact u
        · exact absurd (by decide) c16
      · have d := down (F - 127) (by omega) (F - 127) (Nat.le_refl _)
        rw [show 127 + (F - 127) = F by omega, show F - (F - 127) = 127 by omega] at d
        exact d
    refine R_fload_n dX10_bitsOf_0 rfl ?_
    refine R_fconst0 dX10_bitsOf_1 ?_
    refine R_fcmp dX10_bitsOf_2 ?_
    -- X10_bitsOf: ('stop', 3)
    rw [fc0, cmp_z (by omega) (by omega) hT]
    refine R_if_ne (tgt := 8) dX10_bitsOf_3 (by decide) (fun c3 => ?_) (fun c3 => ?_)
    -- X10_bitsOf: ('branch', 3, 8, 6)
    · exact go
    · exact absurd c3 (by decide)
theorem PP_perLetter (x : PPAt E h X 1 q ds im md tp ph fk fp) (hq : PkOk q) {a : Nat} (ha : a < 16777216) : Spec E k_X9_perLetter 3 0 0 [.ref X, .int (nI a)] h (fun v h' => v = some (.float (perF a (letL q.2 q.1).length)) ∧ h' = h) := by
  have hlen := hq.len
  obtain ⟨-, lo, la, r⟩ := x.cach
  refine Spec.of (by decide +kernel) (by simp [Value.category]) (Nat.le_of_ble_eq_true rfl) ?_
  show WP E k_X9_perLetter 3 0 0 0 [some (.ref X), some (.int (nI a))] [] h _
  refine R_aload_n dX9_perLetter_0 rfl ?_
  refine R_get K_9 (f := 10) (by decide) dX9_perLetter_1 f_RX9_67 x.1 rfl ?_
  -- X9_perLetter: ('call', 4, '.invokevirtual', 207)
  refine R_callV v_X5_size (Read_size r) dX9_perLetter_4 l_RX9_207 rfl rfl r.1 (Nat.le_of_ble_eq_true rfl) (by omega) rfl rfl (fun v h2 hq => ?_)
  obtain ⟨rfl, e9⟩ := hq
  rw [e9]
  refine R_if_ne_N (tgt := 14) dX9_perLetter_7 (by decide) (by omega) (fun c7 => ?_) (fun c7 => ?_)
  -- X9_perLetter: ('branch', 7, 14, 10)
  · refine R_iload_n dX9_perLetter_14 rfl ?_
    refine R_i2f dX9_perLetter_15 ?_
    refine R_aload_n dX9_perLetter_16 rfl ?_
    refine R_get K_9 (f := 10) (by decide) dX9_perLetter_17 f_RX9_67 x.1 rfl ?_
    -- X9_perLetter: ('call', 20, '.invokevirtual', 207)
    refine R_callV v_X5_size (Read_size r) dX9_perLetter_20 l_RX9_207 rfl rfl r.1 (Nat.le_of_ble_eq_true rfl) (by omega) rfl rfl (fun v h2 hq => ?_)
    obtain ⟨rfl, e9⟩ := hq
    rw [e9]
    refine R_i2f dX9_perLetter_23 ?_
    refine R_fdiv dX9_perLetter_24 (perF_is c7 hlen ha).1 ?_
    refine R_freturn dX9_perLetter_25 rfl ?_
    -- X9_perLetter: ('ret', 25)
    exact ⟨by rw [perF, if_neg c7], rfl⟩
  · refine R_fconst0 dX9_perLetter_10 ?_
    refine R_goto (tgt := 25) dX9_perLetter_11 (by decide) ?_
    refine R_freturn dX9_perLetter_25 rfl ?_
    -- X9_perLetter: ('ret', 25)
    exact ⟨by rw [perF, if_pos c7]; rfl, rfl⟩
theorem PP_foldedLengths (x : PPAt E h X 1 q ds im md tp ph fk fp) (hq : PkOk q) : Spec E k_X9_foldedLengths 3 0 0 [.ref X] h (fun v h' => v = some (.float (fldF 0 (q.1.map (wlen q.2)))) ∧ h' = h) := by
  obtain ⟨⟨re, le, w⟩, -⟩ := x.cach
  have hP := x.2.1
  have hql := x.rows.1
  have hw : ∀ l : List Nat, (∀ y ∈ l, y ∈ q.1) → ∀ z ∈ l.map (wlen q.2), 0 < z ∧ z ≤ 240 := by
    intro l hl z hz
    obtain ⟨y, hy, rfl⟩ := List.mem_map.mp hz
    have hys := hq.2.1 y (hl y hy)
    exact ⟨wlen_pos hq.1.1 hys, wlen_le hq.1 hys⟩
  refine Spec.of (by decide +kernel) (by simp [Value.category]) (Nat.le_of_ble_eq_true rfl) ?_
  show WP E k_X9_foldedLengths 3 0 0 0 [some (.ref X), none, none, none] [] h _
  have loop : ∀ m t (z : Option Value), t + m = q.1.length → WP E k_X9_foldedLengths 3 0 0 4 [some (.ref X), some (.float (fldF 0 ((q.1.take t).map (wlen q.2)))), some (.int (nI t)), z] [] h (fun v h' => v = some (.float (fldF 0 (q.1.map (wlen q.2)))) ∧ h' = h) := by
    intro m
    induction m with
    | zero =>
      intro t z ht
      refine R_iload_n dX9_foldedLengths_4 rfl ?_
      refine R_aload_n dX9_foldedLengths_5 rfl ?_
      refine R_get K_9 (f := 0) (by decide) dX9_foldedLengths_6 f_RX9_12 x.1 rfl ?_
      -- X9_foldedLengths: ('call', 9, '.invokevirtual', 135)
      refine R_callV v_X2_sequence (Pack_sequence hP) dX9_foldedLengths_9 l_RX9_135 rfl rfl hP.1 (Nat.le_of_ble_eq_true rfl) (by omega) rfl rfl (fun v h2 hq => ?_)
      obtain ⟨rfl, e9⟩ := hq
      rw [e9]
      refine R_callV v_X6_size (Row_size hP.2.1) dX9_foldedLengths_12 l_RX9_105 rfl rfl hP.2.1.2.2.1 (Nat.le_of_ble_eq_true rfl) (by omega) rfl rfl (fun v h3 hq => ?_)
      obtain ⟨rfl, e9⟩ := hq
      rw [e9]
      refine R_icmp_ge_N (tgt := 56) dX9_foldedLengths_15 (by decide) (by omega) (by omega) (fun c15 => ?_) (fun c15 => ?_)
      -- X9_foldedLengths: ('branch', 15, 56, 18)
      · refine R_fload_n dX9_foldedLengths_56 rfl ?_
        refine R_freturn dX9_foldedLengths_57 rfl ?_
        -- X9_foldedLengths: ('ret', 57)
        exact ⟨by rw [List.take_of_length_le (by omega)], rfl⟩
      · exact absurd c15 (by omega)
    | succ m ih =>
      intro t z ht
      obtain ⟨y, hy⟩ := getE (l := q.1) (i := t) (by omega)
      have hys := hq.2.1 y (List.mem_of_getElem? hy)
      have hy86 := isSg_lt hys
      have ih := fun z => ih (t + 1) z (by omega)
      rw [take_snoc hy, List.map_append, List.map_singleton, fldF_snoc] at ih
      obtain ⟨f1, f2, f3, -⟩ := fld_one (f := fldF 0 ((q.1.take t).map (wlen q.2))) (n := wlen q.2 y) (fldF_fi (Or.inl rfl) (hw _ (fun y hy => List.mem_of_mem_take hy))) (wlen_pos hq.1.1 hys) (wlen_le hq.1 hys)
      rw [fldS] at f3 ih
      refine R_iload_n dX9_foldedLengths_4 rfl ?_
      refine R_aload_n dX9_foldedLengths_5 rfl ?_
      refine R_get K_9 (f := 0) (by decide) dX9_foldedLengths_6 f_RX9_12 x.1 rfl ?_
      -- X9_foldedLengths: ('call', 9, '.invokevirtual', 135)
      refine R_callV v_X2_sequence (Pack_sequence hP) dX9_foldedLengths_9 l_RX9_135 rfl rfl hP.1 (Nat.le_of_ble_eq_true rfl) (by omega) rfl rfl (fun v h2 hq => ?_)
      obtain ⟨rfl, e9⟩ := hq
      rw [e9]
      refine R_callV v_X6_size (Row_size hP.2.1) dX9_foldedLengths_12 l_RX9_105 rfl rfl hP.2.1.2.2.1 (Nat.le_of_ble_eq_true rfl) (by omega) rfl rfl (fun v h3 hq => ?_)
      obtain ⟨rfl, e9⟩ := hq
      rw [e9]
      refine R_icmp_ge_N (tgt := 56) dX9_foldedLengths_15 (by decide) (by omega) (by omega) (fun c15 => ?_) (fun c15 => ?_)
      -- X9_foldedLengths: ('branch', 15, 56, 18)
      · exact absurd c15 (by omega)
      · refine R_aload_n dX9_foldedLengths_18 rfl ?_
        refine R_get K_9 (f := 9) (by decide) dX9_foldedLengths_19 f_RX9_60 x.1 rfl ?_
        refine R_aload_n dX9_foldedLengths_22 rfl ?_
        refine R_get K_9 (f := 0) (by decide) dX9_foldedLengths_23 f_RX9_12 x.1 rfl ?_
        -- X9_foldedLengths: ('call', 26, '.invokevirtual', 135)
        refine R_callV v_X2_sequence (Pack_sequence hP) dX9_foldedLengths_26 l_RX9_135 rfl rfl hP.1 (Nat.le_of_ble_eq_true rfl) (by omega) rfl rfl (fun v h4 hq => ?_)
        obtain ⟨rfl, e9⟩ := hq
        rw [e9]
        refine R_iload_n dX9_foldedLengths_29 rfl ?_
        -- X9_foldedLengths: ('call', 30, '.invokevirtual', 237)
        refine R_callV v_X6_get (Row_get hP.2.1 (nI t)) dX9_foldedLengths_30 l_RX9_237 rfl rfl hP.2.1.2.2.1 (Nat.le_of_ble_eq_true rfl) (by omega) rfl rfl (fun v h5 hq => ?_)
        obtain ⟨rfl, e9⟩ := hq
        rw [e9, rget_in (by omega) hy]
        refine R_callV v_X8_lettersOf (Words_len hq.1 w hys) dX9_foldedLengths_33 l_RX9_244 rfl rfl w.1 (Nat.le_of_ble_eq_true rfl) (by omega) rfl rfl (fun v h6 hq => ?_)
        obtain ⟨rfl, e9⟩ := hq
        rw [e9]
        refine R_i2f dX9_foldedLengths_36 ?_
        refine R_fstore3 dX9_foldedLengths_37 (by decide) ?_
        refine R_fload_n dX9_foldedLengths_38 rfl ?_
        refine R_ldcwf dX9_foldedLengths_39 cf_RX9_380 ?_
        refine R_fmul dX9_foldedLengths_42 f1 ?_
        refine R_fload_n dX9_foldedLengths_43 rfl ?_
        refine R_fadd dX9_foldedLengths_44 f2 ?_
        refine R_ldcwf dX9_foldedLengths_45 cf_RX9_381 ?_
        refine R_fmul dX9_foldedLengths_48 f3 ?_
        refine R_fstore1 dX9_foldedLengths_49 (by decide) ?_
        refine R_iinc2 dX9_foldedLengths_50 (by decide) (nI_inc _ 1) ?_
        refine R_goto (tgt := 4) dX9_foldedLengths_53 (by decide) ?_
        -- X9_foldedLengths: ('stop', 4)
        exact ih _
  refine R_fconst0 dX9_foldedLengths_0 ?_
  refine R_fstore1 dX9_foldedLengths_1 (by decide) ?_
  refine R_iconst (v := nI 0) dX9_foldedLengths_2 (by decide) ?_
  refine R_istore2 dX9_foldedLengths_3 (by decide) ?_
  -- X9_foldedLengths: ('stop', 4)
  exact loop q.1.length 0 none (by omega)
theorem sz_lt (hr : ∀ i, i < 60 → (q.2 i).length ≤ 12) (hl : q.1.length ≤ 240) : sizeS q.1 q.2 < 16777216 := by
  have := sumB_le2 (f := fun r => (q.2 r).length) (c := 12) 60 hr
  rw [sizeS]
  omega
theorem dp_lt (hq : PkOk q) : lsum id (dpL q.2 q.1) < 16777216 := by
  have h1 := lsum_le (f := id) (b := 60) (l := dpL q.2 q.1) (fun d hd => dpL_le d hd)
  have h2 := dpL_len (ru := q.2) (q := q.1)
  have h3 := hq.2.2.1
  rw [h2] at h1
  omega
theorem val_fv (hq : PkOk q) (hr : ∀ i, i < 60 → (q.2 i).length ≤ 12) (w : Int32) : FV (valF q w) := by
  have hlen := hq.len
  have hql : q.1.length ≤ 240 := by
    have := lsum_len (f := wlen q.2) (l := q.1) (fun x hx => wlen_pos hq.1.1 (hq.2.1 x hx))
    have := hq.2.2.1
    omega
  have hp : ∀ a, a < 16777216 → FV (perF a (letL q.2 q.1).length) := by
    intro a ha
    rw [perF]
    split
    · exact Or.inl rfl
    · rename_i c
      exact (perF_is c hlen ha).2
  rw [valF]
  split
  · exact hp _ (sz_lt hr hql)
  · split
    · exact hp _ (dp_lt hq)
    · refine (fldF_fi (Or.inl rfl) (fun z hz => ?_)).fv
      obtain ⟨y, hy, rfl⟩ := List.mem_map.mp hz
      have hys := hq.2.1 y hy
      exact ⟨wlen_pos hq.1.1 hys, wlen_le hq.1 hys⟩
theorem PP_bits (x : PPAt E h X rd q ds im md tp ph fk fp) (hq : PkOk q) (w : Int32) : Spec E k_X9_bits 6 0 0 [.ref X, .int w] h (fun v h' => v = some (.int (bitI q w)) ∧ (∃ rd, PPAt E h' X rd q ds im md tp ph fk fp) ∧ Out h h' X (X + 1830)) := by
  have fv := val_fv hq x.rows.2 w
  refine Spec.of (by decide +kernel) (by simp [Value.category]) (Nat.le_of_ble_eq_true rfl) ?_
  show WP E k_X9_bits 6 0 0 0 [some (.ref X), some (.int w)] [] h _
  refine R_iload_n dX9_bits_0 rfl ?_
  refine R_if_lt (tgt := 9) dX9_bits_1 (by decide) (fun c1 => ?_) (fun c1 => ?_)
  -- X9_bits: ('branch', 1, 9, 4)
  · refine R_ldcw dX9_bits_9 ci_RX9_308 ?_
    refine R_ireturn dX9_bits_12 rfl rfl ?_
    -- X9_bits: ('ret', 12)
    exact ⟨by rw [bitI, if_pos (Or.inl c1)], ⟨_, x⟩, Out.refl⟩
  · refine R_iload_n dX9_bits_4 rfl ?_
    refine R_iconst (v := nI 2) dX9_bits_5 (by decide) ?_
    refine R_icmp_le (tgt := 13) dX9_bits_6 (by decide) (fun c6 => ?_) (fun c6 => ?_)
    -- X9_bits: ('branch', 6, 13, 9)
    · rw [bitI, if_neg (fun z => z.elim c1 (Int32.not_lt.mpr c6))]
      refine R_aload_n dX9_bits_13 rfl ?_
      -- X9_bits: ('call', 14, '.invokevirtual', 144)
      refine R_callV v_X9_read (PP_read x hq) dX9_bits_14 l_RX9_144 rfl rfl x.1 (Nat.le_of_ble_eq_true rfl) (by omega) rfl rfl (fun v h3 hq => ?_)
      obtain ⟨rfl, x2, o2⟩ := hq
      have hP := x2.2.1
      obtain ⟨-, lo, la, r⟩ := x2.cach
      refine R_iload_n dX9_bits_17 rfl ?_
      refine R_if_ne (tgt := 36) dX9_bits_18 (by decide) (fun c18 => ?_) (fun c18 => ?_)
      -- X9_bits: ('branch', 18, 36, 21)
      · rw [valF, if_neg c18] at fv ⊢
        refine R_iload_n dX9_bits_36 rfl ?_
        refine R_iconst (v := nI 1) dX9_bits_37 (by decide) ?_
        refine R_icmp_ne (tgt := 55) dX9_bits_38 (by decide) (fun c38 => ?_) (fun c38 => ?_)
        -- X9_bits: ('branch', 38, 55, 41)
        · rw [if_neg c38] at fv ⊢
          refine R_aload_n dX9_bits_55 rfl ?_
          -- X9_bits: ('call', 56, '.invokevirtual', 320)
          refine R_callV v_X9_foldedLengths (PP_foldedLengths x2 hq) dX9_bits_56 l_RX9_320 rfl rfl x2.1 (Nat.le_of_ble_eq_true rfl) (by omega) rfl rfl (fun v h4 hq => ?_)
          obtain ⟨rfl, e9⟩ := hq
          rw [e9]
          refine R_callS s_X9_bitsOf (PP_bitsOf fv) dX9_bits_59 l_RX9_313 rfl rfl (Nat.le_of_ble_eq_true rfl) (by omega) rfl rfl (fun v h5 hq => ?_)
          obtain ⟨rfl, e9⟩ := hq
          rw [e9]
          refine R_ireturn dX9_bits_62 rfl rfl ?_
          -- X9_bits: ('ret', 62)
          exact ⟨rfl, ⟨_, x2⟩, o2⟩
        · rw [if_pos c38] at fv ⊢
          refine R_aload_n dX9_bits_41 rfl ?_
          refine R_aload_n dX9_bits_42 rfl ?_
          refine R_get K_9 (f := 10) (by decide) dX9_bits_43 f_RX9_67 x2.1 rfl ?_
          -- X9_bits: ('call', 46, '.invokevirtual', 317)
          refine R_callV v_X5_depthSum (Read_depthSum r) dX9_bits_46 l_RX9_317 rfl rfl r.1 (Nat.le_of_ble_eq_true rfl) (by omega) rfl rfl (fun v h4 hq => ?_)
          obtain ⟨rfl, e9⟩ := hq
          rw [e9]
          refine R_callV v_X9_perLetter (PP_perLetter x2 hq (dp_lt hq)) dX9_bits_49 l_RX9_309 rfl rfl x2.1 (Nat.le_of_ble_eq_true rfl) (by omega) rfl rfl (fun v h5 hq => ?_)
          obtain ⟨rfl, e9⟩ := hq
          rw [e9]
          refine R_goto (tgt := 59) dX9_bits_52 (by decide) ?_
          -- X9_bits: ('call', 59, '.invokestatic', 313)
          refine R_callS s_X9_bitsOf (PP_bitsOf fv) dX9_bits_59 l_RX9_313 rfl rfl (Nat.le_of_ble_eq_true rfl) (by omega) rfl rfl (fun v h6 hq => ?_)
          obtain ⟨rfl, e9⟩ := hq
          rw [e9]
          refine R_ireturn dX9_bits_62 rfl rfl ?_
          -- X9_bits: ('ret', 62)
          exact ⟨rfl, ⟨_, x2⟩, o2⟩
      · rw [valF, if_pos c18] at fv ⊢
        refine R_aload_n dX9_bits_21 rfl ?_
        refine R_aload_n dX9_bits_22 rfl ?_
        refine R_get K_9 (f := 0) (by decide) dX9_bits_23 f_RX9_12 x2.1 rfl ?_
        -- X9_bits: ('call', 26, '.invokevirtual', 203)
        refine R_callV v_X2_size (Pack_size hP) dX9_bits_26 l_RX9_203 rfl rfl hP.1 (Nat.le_of_ble_eq_true rfl) (by omega) rfl rfl (fun v h4 hq => ?_)
        obtain ⟨rfl, e9⟩ := hq
        rw [e9]
        refine R_callV v_X9_perLetter (PP_perLetter x2 hq (sz_lt x.rows.2 x.rows.1)) dX9_bits_29 l_RX9_309 rfl rfl x2.1 (Nat.le_of_ble_eq_true rfl) (by omega) rfl rfl (fun v h5 hq => ?_)
        obtain ⟨rfl, e9⟩ := hq
        rw [e9]
        refine R_callS s_X9_bitsOf (PP_bitsOf fv) dX9_bits_32 l_RX9_313 rfl rfl (Nat.le_of_ble_eq_true rfl) (by omega) rfl rfl (fun v h6 hq => ?_)
        obtain ⟨rfl, e9⟩ := hq
        rw [e9]
        refine R_ireturn dX9_bits_35 rfl rfl ?_
        -- X9_bits: ('ret', 35)
        exact ⟨rfl, ⟨_, x2⟩, o2⟩
    · refine R_ldcw dX9_bits_9 ci_RX9_308 ?_
      refine R_ireturn dX9_bits_12 rfl rfl ?_
      -- X9_bits: ('ret', 12)
      exact ⟨by rw [bitI, if_pos (Or.inr (Int32.not_le.mp c6))], ⟨_, x⟩, Out.refl⟩
theorem Md_floatOf (hq : PkOk q) (x : MdAt E h M S) (c : curF (S.2 1) q) (w : Int32) : Spec E k_X10_floatOf 66 0 0 [.ref M, .int w] h (fun v h' => v = some (.float (valF q w)) ∧ Out h h' M (M + 23) ∧ ∃ S', MdAt E h' M S' ∧ Ony [6, 7, 8, 9] [11] S S') := by
  have hlen := hq.len
  have hql := c.1
  have hr : ∀ i, i < 60 → (q.2 i).length ≤ 12 := fun i hi => (c.2.2.2 i hi).1
  refine Spec.of (by decide +kernel) (by simp [Value.category]) (Nat.le_of_ble_eq_true rfl) ?_
  show WP E k_X10_floatOf 66 0 0 0 [some (.ref M), some (.int w), none, none] [] h _
  refine R_aload_n dX10_floatOf_0 rfl ?_
  -- X10_floatOf: ('call', 1, '.invokevirtual', 134)
  refine R_callV v_X10_laysWords (Md_laysWords hq x c) dX10_floatOf_1 l_RX10_134 rfl rfl x.1 (Nat.le_of_ble_eq_true rfl) (by omega) rfl rfl (fun v h2 hq => ?_)
  obtain ⟨rfl, g2, S2, x2, o2, w2⟩ := hq
  have c2 : curF (S2.2 1) q := by rw [o2.a1 (by decide)]; exact c
  refine R_aload_n dX10_floatOf_4 rfl ?_
  -- X10_floatOf: ('call', 5, '.invokevirtual', 224)
  refine R_callV v_X10_laysText (Md_laysText hq x2 c2) dX10_floatOf_5 l_RX10_224 rfl rfl x2.1 (Nat.le_of_ble_eq_true rfl) (by omega) rfl rfl (fun v h3 hq => ?_)
  obtain ⟨rfl, g3, S3, x3, o3, t3⟩ := hq
  have c3' : curF (S3.2 1) q := by rw [o3.a1 (by decide)]; exact c2
  have w3 : WAll q.2 S3 := fun s hs => by have := w2 s hs; exact ⟨by rw [o3.1 6 (by decide)]; exact this.1, by rw [o3.1 7 (by decide)]; exact this.2⟩
  have fin : Out h h3 M (M + 23) ∧ ∃ S', MdAt E h3 M S' ∧ Ony [6, 7, 8, 9] [11] S S' := ⟨g2.trans g3, S3, x3, (o2.mono (by decide) (by decide)).trans (o3.mono (by decide) (by decide))⟩
  have V11 := fld_get (M := M) (k := 11) (by decide) t3.2.1
  refine R_aload_n dX10_floatOf_8 rfl ?_
  refine R_get K_10 (f := 11) (by decide) dX10_floatOf_9 f_RX10_120 x3.1 V11 ?_
  refine R_if_ne_N (tgt := 17) dX10_floatOf_12 (by decide) (by omega) (fun c12 => ?_) (fun c12 => ?_)
  -- X10_floatOf: ('branch', 12, 17, 15)
  · refine R_iload_n dX10_floatOf_17 rfl ?_
    refine R_if_ne (tgt := 33) dX10_floatOf_18 (by decide) (fun c18 => ?_) (fun c18 => ?_)
    -- X10_floatOf: ('branch', 18, 33, 21)
    · refine R_iload_n dX10_floatOf_33 rfl ?_
      refine R_iconst (v := nI 1) dX10_floatOf_34 (by decide) ?_
      refine R_icmp_ne (tgt := 74) dX10_floatOf_35 (by decide) (fun c35 => ?_) (fun c35 => ?_)
      -- X10_floatOf: ('branch', 35, 74, 38)
      · have hval : valF q w = fldF 0 (q.1.map (wlen q.2)) := by rw [valF, if_neg c18, if_neg c35]
        rw [hval]
        have hw : ∀ l : List Nat, (∀ y ∈ l, y ∈ q.1) → ∀ z ∈ l.map (wlen q.2), 0 < z ∧ z ≤ 240 := by
          intro l hl z hz
          obtain ⟨y, hy, rfl⟩ := List.mem_map.mp hz
          have hys := hq.2.1 y (hl y hy)
          exact ⟨wlen_pos hq.1.1 hys, wlen_le hq.1 hys⟩
        have loop : ∀ m t, t + m = q.1.length → WP E k_X10_floatOf 66 0 0 78 [some (.ref M), some (.int w), some (.float (fldF 0 ((q.1.take t).map (wlen q.2)))), some (.int (nI t))] [] h3 (fun v h' => v = some (.float (fldF 0 (q.1.map (wlen q.2)))) ∧ Out h h' M (M + 23) ∧ ∃ S', MdAt E h' M S' ∧ Ony [6, 7, 8, 9] [11] S S') := by
          intro m
          induction m with
          | zero =>
            intro t ht
            refine R_iload_n dX10_floatOf_78 rfl ?_
            refine R_aload_n dX10_floatOf_79 rfl ?_
            -- X10_floatOf: ('call', 80, '.invokevirtual', 123)
            refine R_callV v_X10_many (Md_many x3 c3') dX10_floatOf_80 l_RX10_123 rfl rfl x3.1 (Nat.le_of_ble_eq_true rfl) (by omega) rfl rfl (fun v h4 hq => ?_)
            obtain ⟨rfl, e9⟩ := hq
            rw [e9]
            refine R_icmp_ge_N (tgt := 114) dX10_floatOf_83 (by decide) (by omega) (by omega) (fun c83 => ?_) (fun c83 => ?_)
            -- X10_floatOf: ('branch', 83, 114, 86)
            · refine R_fload_n dX10_floatOf_114 rfl ?_
              refine R_freturn dX10_floatOf_115 rfl ?_
              -- X10_floatOf: ('ret', 115)
              exact ⟨by rw [List.take_of_length_le (by omega)], fin⟩
            · exact absurd c83 (by omega)
          | succ m ih =>
            intro t ht
            obtain ⟨y, hy⟩ := getE (l := q.1) (i := t) (by omega)
            have hys := hq.2.1 y (List.mem_of_getElem? hy)
            have hy86 := isSg_lt hys
            have ih := ih (t + 1) (by omega)
            rw [take_snoc hy, List.map_append, List.map_singleton, fldF_snoc] at ih
            obtain ⟨f1, f2, f3, -⟩ := fld_one (f := fldF 0 ((q.1.take t).map (wlen q.2))) (n := wlen q.2 y) (fldF_fi (Or.inl rfl) (hw _ (fun y hy => List.mem_of_mem_take hy))) (wlen_pos hq.1.1 hys) (wlen_le hq.1 hys)
            rw [fldS] at f3 ih
            refine R_iload_n dX10_floatOf_78 rfl ?_
            refine R_aload_n dX10_floatOf_79 rfl ?_
            -- X10_floatOf: ('call', 80, '.invokevirtual', 123)
            refine R_callV v_X10_many (Md_many x3 c3') dX10_floatOf_80 l_RX10_123 rfl rfl x3.1 (Nat.le_of_ble_eq_true rfl) (by omega) rfl rfl (fun v h4 hq => ?_)
            obtain ⟨rfl, e9⟩ := hq
            rw [e9]
            refine R_icmp_ge_N (tgt := 114) dX10_floatOf_83 (by decide) (by omega) (by omega) (fun c83 => ?_) (fun c83 => ?_)
            -- X10_floatOf: ('branch', 83, 114, 86)
            · exact absurd c83 (by omega)
            · refine R_fload_n dX10_floatOf_86 rfl ?_
              refine R_ldcwf dX10_floatOf_87 cf_RX10_322 ?_
              refine R_fmul dX10_floatOf_90 f1 ?_
              refine R_aload_n dX10_floatOf_91 rfl ?_
              refine R_get K_10 (f := 7) (by decide) dX10_floatOf_92 f_RX10_30 x3.1 rfl ?_
              refine R_aload_n dX10_floatOf_95 rfl ?_
              refine R_iload_n dX10_floatOf_96 rfl ?_
              -- X10_floatOf: ('call', 97, '.invokevirtual', 127)
              refine R_callV v_X10_signAt (Md_signAt x3 c3' hy) dX10_floatOf_97 l_RX10_127 rfl rfl x3.1 (Nat.le_of_ble_eq_true rfl) (by omega) rfl rfl (fun v h5 hq => ?_)
              obtain ⟨rfl, e9⟩ := hq
              rw [e9]
              refine R_iaload_N dX10_floatOf_100 x3.a6 (by omega) (by omega) (w3 y hys).1 ?_
              refine R_i2f dX10_floatOf_101 ?_
              refine R_fadd dX10_floatOf_102 f2 ?_
              refine R_ldcwf dX10_floatOf_103 cf_RX10_324 ?_
              refine R_fmul dX10_floatOf_106 f3 ?_
              refine R_fstore2 dX10_floatOf_107 (by decide) ?_
              refine R_iinc3 dX10_floatOf_108 (by decide) (nI_inc _ 1) ?_
              refine R_goto (tgt := 78) dX10_floatOf_111 (by decide) ?_
              -- X10_floatOf: ('stop', 78)
              exact ih
        refine R_fconst0 dX10_floatOf_74 ?_
        refine R_fstore2 dX10_floatOf_75 (by decide) ?_
        refine R_iconst (v := nI 0) dX10_floatOf_76 (by decide) ?_
        refine R_istore3 dX10_floatOf_77 (by decide) ?_
        -- X10_floatOf: ('stop', 78)
        exact loop q.1.length 0 (by omega)
      · have hval : valF q w = perF (lsum id (dpL q.2 q.1)) (letL q.2 q.1).length := by rw [valF, if_neg c18, if_pos c35]
        rw [hval]
        have hdl := dpL_len (ru := q.2) (q := q.1)
        have hll := letL_len (ru := q.2) (q := q.1)
        have loop : ∀ m t, t + m = (letL q.2 q.1).length → WP E k_X10_floatOf 66 0 0 42 [some (.ref M), some (.int w), some (.int (nI (lsum id ((dpL q.2 q.1).take t)))), some (.int (nI t))] [] h3 (fun v h' => v = some (.float (perF (lsum id (dpL q.2 q.1)) (letL q.2 q.1).length)) ∧ Out h h' M (M + 23) ∧ ∃ S', MdAt E h' M S' ∧ Ony [6, 7, 8, 9] [11] S S') := by
          intro m
          induction m with
          | zero =>
            intro t ht
            obtain rfl : t = (letL q.2 q.1).length := by omega
            refine R_iload_n dX10_floatOf_42 rfl ?_
            refine R_aload_n dX10_floatOf_43 rfl ?_
            refine R_get K_10 (f := 11) (by decide) dX10_floatOf_44 f_RX10_120 x3.1 V11 ?_
            refine R_icmp_ge_N (tgt := 65) dX10_floatOf_47 (by decide) (by omega) (by omega) (fun c47 => ?_) (fun c47 => ?_)
            -- X10_floatOf: ('branch', 47, 65, 50)
            · have ht : (dpL q.2 q.1).take (letL q.2 q.1).length = dpL q.2 q.1 := List.take_of_length_le (by omega)
              rw [ht]
              refine R_iload_n dX10_floatOf_65 rfl ?_
              refine R_i2f dX10_floatOf_66 ?_
              refine R_aload_n dX10_floatOf_67 rfl ?_
              refine R_get K_10 (f := 11) (by decide) dX10_floatOf_68 f_RX10_120 x3.1 V11 ?_
              refine R_i2f dX10_floatOf_71 ?_
              refine R_fdiv dX10_floatOf_72 (perF_is c12 hlen (dp_lt hq)).1 ?_
              refine R_freturn dX10_floatOf_73 rfl ?_
              -- X10_floatOf: ('ret', 73)
              exact ⟨by rw [perF, if_neg c12], fin⟩
            · exact absurd c47 (by omega)
          | succ m ih =>
            intro t ht
            obtain ⟨y, hy⟩ := getE (l := dpL q.2 q.1) (i := t) (by omega)
            have ih := ih (t + 1) (by omega)
            rw [take_snoc hy, lsum_app, lsum, lsum, Nat.add_zero] at ih
            refine R_iload_n dX10_floatOf_42 rfl ?_
            refine R_aload_n dX10_floatOf_43 rfl ?_
            refine R_get K_10 (f := 11) (by decide) dX10_floatOf_44 f_RX10_120 x3.1 V11 ?_
            refine R_icmp_ge_N (tgt := 65) dX10_floatOf_47 (by decide) (by omega) (by omega) (fun c47 => ?_) (fun c47 => ?_)
            -- X10_floatOf: ('branch', 47, 65, 50)
            · exact absurd c47 (by omega)
            · refine R_iload_n dX10_floatOf_50 rfl ?_
              refine R_aload_n dX10_floatOf_51 rfl ?_
              refine R_get K_10 (f := 10) (by decide) dX10_floatOf_52 f_RX10_39 x3.1 rfl ?_
              refine R_iload_n dX10_floatOf_55 rfl ?_
              refine R_iaload_N dX10_floatOf_56 x3.a9 (by omega) (by omega) (t3.2.2.2 t y hy) ?_
              refine R_iadd_N dX10_floatOf_57 ?_
              refine R_istore2 dX10_floatOf_58 (by decide) ?_
              refine R_iinc3 dX10_floatOf_59 (by decide) (nI_inc _ 1) ?_
              refine R_goto (tgt := 42) dX10_floatOf_62 (by decide) ?_
              -- X10_floatOf: ('stop', 42)
              exact ih
        refine R_iconst (v := nI 0) dX10_floatOf_38 (by decide) ?_
        refine R_istore2 dX10_floatOf_39 (by decide) ?_
        refine R_iconst (v := nI 0) dX10_floatOf_40 (by decide) ?_
        refine R_istore3 dX10_floatOf_41 (by decide) ?_
        -- X10_floatOf: ('stop', 42)
        exact loop (letL q.2 q.1).length 0 (by omega)
    · have hval : valF q w = perF (sizeS q.1 q.2) (letL q.2 q.1).length := by rw [valF, if_pos c18]
      rw [hval]
      refine R_aload_n dX10_floatOf_21 rfl ?_
      -- X10_floatOf: ('call', 22, '.invokevirtual', 264)
      refine R_callV v_X10_sizeNow (Md_sizeNow x3 c3') dX10_floatOf_22 l_RX10_264 rfl rfl x3.1 (Nat.le_of_ble_eq_true rfl) (by omega) rfl rfl (fun v h4 hq => ?_)
      obtain ⟨rfl, e9⟩ := hq
      rw [e9]
      refine R_i2f dX10_floatOf_25 ?_
      refine R_aload_n dX10_floatOf_26 rfl ?_
      refine R_get K_10 (f := 11) (by decide) dX10_floatOf_27 f_RX10_120 x3.1 V11 ?_
      refine R_i2f dX10_floatOf_30 ?_
      refine R_fdiv dX10_floatOf_31 (perF_is c12 hlen (sz_lt hr hql)).1 ?_
      refine R_freturn dX10_floatOf_32 rfl ?_
      -- X10_floatOf: ('ret', 32)
      exact ⟨by rw [perF, if_neg c12], fin⟩
  · refine R_fconst0 dX10_floatOf_15 ?_
    refine R_freturn dX10_floatOf_16 rfl ?_
    -- X10_floatOf: ('ret', 16)
    refine ⟨?_, fin⟩
    have h0 : ∀ a, perF a (letL q.2 q.1).length = 0 := fun a => by rw [perF, if_pos c12]
    have hq0 : q.1 = [] := by
      have := lsum_len (f := wlen q.2) (l := q.1) (fun x hx => wlen_pos hq.1.1 (hq.2.1 x hx))
      rw [letL_len] at c12
      exact List.eq_nil_of_length_eq_zero (by omega)
    have : valF q w = 0 := by
      rw [valF, h0, h0, hq0]
      split
      · rfl
      · split <;> rfl
    rw [this]; rfl
theorem MP_bits (y : MMAt E h M q ds im md tp ph fk fp) (hq : PkOk q) (w : Int32) : Spec E k_X10_bits 67 0 0 [.ref M, .int w] h (fun v h' => v = some (.int (bitI q w)) ∧ MMAt E h' M q ds im md tp ph fk fp ∧ Out h h' M (M + 23)) := by
  obtain ⟨S, x, r⟩ := y
  refine Spec.of (by decide +kernel) (by simp [Value.category]) (Nat.le_of_ble_eq_true rfl) ?_
  show WP E k_X10_bits 67 0 0 0 [some (.ref M), some (.int w)] [] h _
  refine R_aload_n dX10_bits_0 rfl ?_
  refine R_iconst (v := nI 0) dX10_bits_1 (by decide) ?_
  refine R_put_A K_10 (f := 0) (by decide) dX10_bits_2 f_RX10_1 rfl x.1 (by rfl) (by rfl) (Nat.le_of_ble_eq_true rfl) ?_
  intro h0 u0
  have x0 := x.put u0 (by decide)
  have r0 := r.keep (S2 := (upd S.1 0 (nI 0), S.2)) (Ony.refl.put (by decide))
  have g0 : Out h h0 M (M + 23) := Out.upd u0 (by omega) (by omega)
  generalize (upd S.1 0 (nI 0), S.2) = S0 at x0 r0
  have fv := val_fv hq (fun i hi => (r0.1.2.2.2 i hi).1) w
  refine R_iload_n dX10_bits_5 rfl ?_
  refine R_i2l dX10_bits_6 ?_
  refine R_lconst (v := 0) dX10_bits_7 rfl ?_
  refine R_ldc2 dX10_bits_8 cl_RX10_286 ?_
  -- X10_bits: ('call', 11, '.invokestatic', 98)
  refine R_callS s_X10_isIn (Md_isIn w (nI 0) (nI 2) (by decide) (by decide)) dX10_bits_11 l_RX10_98 rfl rfl (Nat.le_of_ble_eq_true rfl) (by omega) rfl rfl (fun v h2 hq => ?_)
  obtain ⟨rfl, e9⟩ := hq
  rw [e9]
  by_cases cw : w < 0 ∨ nI 2 < w
  · rw [if_neg (fun z => in02.mp z cw), bitI, if_pos cw]
    refine R_if_eq_N (tgt := 28) dX10_bits_14 (by decide) (by omega) (fun c14 => ?_) (fun c14 => ?_)
    -- X10_bits: ('branch', 14, 28, 17)
    · refine R_ldcw dX10_bits_28 ci_RX10_333 ?_
      refine R_ireturn dX10_bits_31 rfl rfl ?_
      -- X10_bits: ('ret', 31)
      exact ⟨rfl, ⟨S0, x0, r0⟩, g0⟩
    · exact absurd rfl c14
  · rw [if_pos (in02.mpr cw), bitI, if_neg cw]
    refine R_if_eq_N (tgt := 28) dX10_bits_14 (by decide) (by omega) (fun c14 => ?_) (fun c14 => ?_)
    -- X10_bits: ('branch', 14, 28, 17)
    · exact absurd c14 (by decide)
    · refine R_aload_n dX10_bits_17 rfl ?_
      refine R_iload_n dX10_bits_18 rfl ?_
      -- X10_bits: ('call', 19, '.invokevirtual', 325)
      refine R_callV v_X10_floatOf (Md_floatOf hq x0 r0.1 w) dX10_bits_19 l_RX10_325 rfl rfl x0.1 (Nat.le_of_ble_eq_true rfl) (by omega) rfl rfl (fun v h3 hq => ?_)
      obtain ⟨rfl, g3, S3, x3, o3⟩ := hq
      refine R_callS s_X10_bitsOf (Md_bitsOf fv) dX10_bits_22 l_RX10_329 rfl rfl (Nat.le_of_ble_eq_true rfl) (by omega) rfl rfl (fun v h4 hq => ?_)
      obtain ⟨rfl, e9⟩ := hq
      rw [e9]
      refine R_goto (tgt := 31) dX10_bits_25 (by decide) ?_
      refine R_ireturn dX10_bits_31 rfl rfl ?_
      -- X10_bits: ('ret', 31)
      exact ⟨rfl, ⟨S3, x3, r0.keep (o3.mono (by decide) (by decide))⟩, g0.trans g3⟩
end BITS
