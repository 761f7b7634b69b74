/-! BITS: both programs' floats as numbers -/
theorem fc0 : FP.fconst0 = 0 := rfl
theorem fc1 : FP.fconst1 = nrm 127 0 := by decide
theorem fc2 : FP.fconst2 = nrm 128 0 := by decide
theorem hfc : (1056964608 : UInt32) = nrm 126 0 := by decide
theorem qfc : (1048576000 : UInt32) = nrm 125 0 := by decide
theorem bgc : (1258291200 : UInt32) = nrm 150 0 := by decide
def bitsF (v : UInt32) : Int32 := if v = 0 then 0 else (nI (v.toNat / 8388608) <<< (nI 23 &&& 31)) + FP.f2i (FP.fmul (FP.fsub (nrm 127 (v.toNat % 8388608)) FP.fconst1) 1258291200)
def FV (v : UInt32) : Prop := v = 0 ∨ ∃ E T, 2 ≤ E ∧ E ≤ 253 ∧ T < 8388608 ∧ v = nrm E T
theorem bitsF_n {E T : Nat} (h1 : 1 ≤ E) (h2 : E ≤ 254) (hT : T < 8388608) : bitsF (nrm E T) = (nI E <<< (nI 23 &&& 31)) + FP.f2i (FP.fmul (FP.fsub (nrm 127 T) FP.fconst1) 1258291200) := by
  have hn := nrm_nat h2 hT
  have h0 : ¬ nrm E T = 0 := fun e => by
    rw [e] at hn
    have : (0 : UInt32).toNat = 0 := rfl
    omega
  rw [bitsF, if_neg h0, hn, show (E * 8388608 + T) / 8388608 = E by omega, show (E * 8388608 + T) % 8388608 = T by omega]
theorem vf_sub {T : Nat} (hT : T < 8388608) : vf_n32 (FP.fsub (nrm 127 T) FP.fconst1) := by
  rw [fc1]
  rcases sub_one hT with e | ⟨E, V, e1, e2, hV, e⟩ <;> rw [e]
  · exact vf_0
  · exact vf_nrm (by omega) hV
theorem vf_mul {T : Nat} (hT : T < 8388608) : vf_n32 (FP.fmul (FP.fsub (nrm 127 T) FP.fconst1) 1258291200) := by
  rw [fc1, bgc]
  rcases sub_one hT with e | ⟨E, V, e1, e2, hV, e⟩ <;> rw [e]
  · rw [mul_0 (by decide) (by decide)]; exact vf_0
  · rw [mul_pow (by omega) (by omega) hV (by decide) (by decide) (by omega) (by omega)]
    exact vf_nrm (by omega) hV
def perF (a n : Nat) : UInt32 := if n = 0 then 0 else FP.fdiv (FP.i2f (nI a)) (FP.i2f (nI n))
theorem perF_is {a n : Nat} (h0 : n ≠ 0) (hn : n ≤ 240) (ha : a < 16777216) : vf_n32 (FP.fdiv (FP.i2f (nI a)) (FP.i2f (nI n))) ∧ FV (FP.fdiv (FP.i2f (nI a)) (FP.i2f (nI n))) := by
  obtain ⟨U, hU, en⟩ := i2f_is (n := n) (by omega) (by omega)
  have hk := log2_le (n := n) (k := 7) (by omega) (by omega)
  rw [en]
  by_cases c : a = 0
  · rw [c, i2f_0, div_0 (by omega) (by omega) hU]
    exact ⟨vf_0, Or.inl rfl⟩
  · obtain ⟨T, hT, ea⟩ := i2f_is (n := a) (by omega) ha
    have hk2 := log2_le (n := a) (k := 23) (by omega) (by omega)
    rw [ea]
    obtain ⟨E, V, e1, e2, hV, e⟩ := div_in (A := a.log2 + 127) (B := n.log2 + 127) (T := T) (U := U) (by omega) (by omega) (by omega) (by omega) hT hU
    rw [e]
    exact ⟨vf_nrm (by omega) hV, Or.inr ⟨E, V, by omega, by omega, hV, rfl⟩⟩
def fldS (f : UInt32) (n : Nat) : UInt32 := FP.fmul (FP.fadd (FP.fmul f 1056964608) (FP.i2f (nI n))) 1048576000
def fldF : UInt32 → List Nat → UInt32
  | f, [] => f
  | f, n :: t => fldF (fldS f n) t
def FI (f : UInt32) : Prop := f = 0 ∨ ∃ E T, 120 ≤ E ∧ E ≤ 134 ∧ T < 8388608 ∧ f = nrm E T
theorem fld_one {f : UInt32} {n : Nat} (hf : FI f) (h0 : 0 < n) (hn : n ≤ 240) : vf_n32 (FP.fmul f 1056964608) ∧ vf_n32 (FP.fadd (FP.fmul f 1056964608) (FP.i2f (nI n))) ∧ vf_n32 (fldS f n) ∧ FI (fldS f n) := by
  obtain ⟨U, hU, en⟩ := i2f_is (n := n) (by omega) (by omega)
  have hk := log2_le (n := n) (k := 7) (by omega) (by omega)
  have key : ∀ x : UInt32, vf_n32 x → (∃ E T, 127 ≤ E ∧ E ≤ 136 ∧ T < 8388608 ∧ FP.fadd x (nrm (n.log2 + 127) U) = nrm E T) → FP.fmul f 1056964608 = x → vf_n32 (FP.fmul f 1056964608) ∧ vf_n32 (FP.fadd (FP.fmul f 1056964608) (FP.i2f (nI n))) ∧ vf_n32 (fldS f n) ∧ FI (fldS f n) := by
    intro x hx ha he
    obtain ⟨E, T, e1, e2, hT, e⟩ := ha
    rw [fldS, he, en, e, qfc, mul_pow (by omega) (by omega) hT (by decide) (by decide) (by omega) (by omega)]
    exact ⟨hx, vf_nrm (by omega) hT, vf_nrm (by omega) hT, Or.inr ⟨_, T, by omega, by omega, hT, rfl⟩⟩
  rcases hf with e | ⟨E, T, e1, e2, hT, e⟩
  · refine key 0 vf_0 (add_in dec_0 (by decide) (by decide) (by decide) (by omega) (by omega) hU) ?_
    rw [e, hfc, mul_0 (by decide) (by decide)]
  · refine key (nrm (E + 126 - 127) T) (vf_nrm (by omega) hT) (add_in (dec_nrm (by omega) (by omega) hT) (by omega) (by omega) (by omega) (by omega) (by omega) hU) ?_
    rw [e, hfc, mul_pow (by omega) (by omega) hT (by decide) (by decide) (by omega) (by omega)]
theorem FI.fv {f : UInt32} (h : FI f) : FV f := by
  rcases h with e | ⟨E, T, e1, e2, hT, e⟩
  · exact Or.inl e
  · exact Or.inr ⟨E, T, by omega, by omega, hT, e⟩
theorem fldF_snoc {l : List Nat} {n : Nat} : ∀ {f : UInt32}, fldF f (l ++ [n]) = fldS (fldF f l) n := by
  induction l with
  | nil => intro f; rfl
  | cons x t ih => intro f; exact ih
theorem fldF_fi : ∀ {l : List Nat} {f : UInt32}, FI f → (∀ x ∈ l, 0 < x ∧ x ≤ 240) → FI (fldF f l)
  | [], f, h, _ => h
  | x :: t, f, h, hl => by
    have := hl x List.mem_cons_self
    exact fldF_fi (fld_one h this.1 this.2).2.2.2 (fun y hy => hl y (List.mem_cons_of_mem _ hy))
theorem dpL_le {ru : Ru} {q : List Nat} : ∀ d ∈ dpL ru q, d ≤ 60 := fun d hd => by
  rw [dpL] at hd
  obtain ⟨p, hp, rfl⟩ := List.mem_map.mp hd
  obtain ⟨s, -, hs⟩ := List.mem_flatMap.mp hp
  exact wxF_dep 60 s p hs
def valF (q : Pk) (w : Int32) : UInt32 := if w = 0 then perF (sizeS q.1 q.2) (letL q.2 q.1).length else if w = nI 1 then perF (lsum id (dpL q.2 q.1)) (letL q.2 q.1).length else fldF 0 (q.1.map (wlen q.2))
def bitI (q : Pk) (w : Int32) : Int32 := if w < 0 ∨ nI 2 < w then -2147483648 else bitsF (valF q w)
section BITS
variable {E : EnvT} {h h1 : Hp} {M X rd : Nat} {S : MSt} {q : Pk} {ds : List Pk} {im : Nat → Pk} {md : Nat → Nat} {tp ph : List Nat} {fk fp : Int32}
theorem PP_bitsOf {v : UInt32} (hv : FV v) : Spec E k_X9_bitsOf 0 0 0 [.float v] h (fun w h' => w = some (.int (bitsF v)) ∧ h' = h) := by
  refine Spec.of (by decide +kernel) (by simp [Value.category]) (Nat.le_of_ble_eq_true rfl) ?_
  show WP E k_X9_bitsOf 0 0 0 0 [some (.float v), none, none] [] h _
  rcases hv with rfl | ⟨F, T, h1, h2, hT, rfl⟩
  · refine R_fload_n dX9_bitsOf_0 rfl ?_
    refine R_fconst0 dX9_bitsOf_1 ?_
    refine R_fcmp dX9_bitsOf_2 ?_
    -- X9_bitsOf: ('stop', 3)
    rw [fc0, cmp_00]
    refine R_if_gt (tgt := 8) dX9_bitsOf_3 (by decide) (fun c3 => ?_) (fun c3 => ?_)
    -- X9_bitsOf: ('branch', 3, 8, 6)
    · exact absurd c3 (by decide)
    · refine R_iconst (v := nI 0) dX9_bitsOf_6 (by decide) ?_
      refine R_ireturn dX9_bitsOf_7 rfl rfl ?_
      -- X9_bitsOf: ('ret', 7)
      exact ⟨by rw [bitsF, if_pos rfl]; rfl, rfl⟩
  · have fin : WP E k_X9_bitsOf 0 0 0 59 [some (.float (nrm F T)), some (.float (nrm 127 T)), some (.int (nI F))] [] h (fun w h' => w = some (.int (bitsF (nrm F T))) ∧ h' = h) := by
      refine R_iload_n dX9_bitsOf_59 rfl ?_
      refine R_bipush (v := nI 23) dX9_bitsOf_60 (by decide) ?_
      refine R_ishl dX9_bitsOf_62 ?_
      refine R_fload_n dX9_bitsOf_63 rfl ?_
      refine R_fconst1 dX9_bitsOf_64 ?_
      refine R_fsub dX9_bitsOf_65 (vf_sub hT) ?_
      refine R_ldcwf dX9_bitsOf_66 cf_RX9_382 ?_
      refine R_fmul dX9_bitsOf_69 (vf_mul hT) ?_
      refine R_f2i dX9_bitsOf_70 ?_
      refine R_iadd dX9_bitsOf_71 ?_
      refine R_ireturn dX9_bitsOf_72 rfl rfl ?_
      -- X9_bitsOf: ('ret', 72)
      exact ⟨by rw [bitsF_n (by omega) (by omega) hT], rfl⟩
    have up : ∀ m, F + m = 127 ∨ m = 0 → 127 ≤ F + m → WP E k_X9_bitsOf 0 0 0 38 [some (.float (nrm F T)), some (.float (nrm (127 - m) T)), some (.int (nI (F + m)))] [] h (fun w h' => w = some (.int (bitsF (nrm F T))) ∧ h' = h) := by
      intro m
      induction m with
      | zero =>
        intro hm hF
        refine R_fload_n dX9_bitsOf_38 rfl ?_
        refine R_fconst1 dX9_bitsOf_39 ?_
        refine R_fcmp dX9_bitsOf_40 ?_
        -- X9_bitsOf: ('stop', 41)
        rw [fc1]
        have := cmp_ge (E := 127) (T := T) (P := 127) (op := .g) (by decide) (by decide) hT (by decide)
        refine R_if_ge (tgt := 59) dX9_bitsOf_41 (by decide) (fun c41 => ?_) (fun c41 => ?_)
        -- X9_bitsOf: ('branch', 41, 59, 44)
        · exact fin
        · exact absurd (Int32.not_le.mp c41) this
      | succ m ih =>
        intro hm hF
        sorry
    sorry
end BITS
