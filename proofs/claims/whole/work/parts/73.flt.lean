/-! FLOATS: what the two programs reckon with them -/
theorem R_ldcwf {E : EnvT} {k : MI} {d mc ms pc : Nat} {L : List (Option Value)} {st : List Value} {h : Hp} {Q : Option Value → Hp → Prop} {i : Nat} {v : UInt32} (hd : decode k.2.1 pc = .ok (.ldc_w i, 3)) (hw : Cond.constantFloat k.1.cls i v ∈ gw) (kk : WP E k d mc ms (pc + 3) L (.float v :: st) h Q) : WP E k d mc ms pc L st h Q := by
  intro p e R s m args below meth c H locs cells slots KC KS Z ls C hL hR hlo h1 h2 h3 h4 kr
  have kw := kk p e R s m args below meth c H locs cells slots KC KS Z ls C hL hR hlo h1 h2 h3 h4 kr
  obtain ⟨k1, cf, hk, hcf, hcp⟩ := Cond.constantFloat_spec C.2.2.2.2.1 (C.2.2.2.2.2.1 _ hw)
  have hexec := C.1
  have hdg : decode c.code pc = .ok (.ldc_w i, 3) := by rw [C.2.1]; exact hd
  intro T hT X
  obtain ⟨t, a, b⟩ := kw T hT X
  obtain ⟨k2, hk2, he⟩ := X.warmed.alike.2.2 _ _ hk
  refine ⟨t, ?_, b⟩
  jvm_step X.here [hexec, hdg, Op.ldc_w.wp_float (s := T) (f := F0 m pc ls st) X.here.top hk2 (by rw [he]; exact hcf) hcp]
  exact a
abbrev b32 : FP.Core.Fmt := FP.Core.b32
theorem b_tl : b32.tails = 8388608 := by decide
theorem b_ex : b32.exps = 256 := by decide
theorem b_qm : b32.qmin = -149 := by decide
theorem b_qx : b32.qmax = 104 := by decide
theorem b_pp : (b32.p : Int) = 24 := by decide
theorem b_2p : 2 ^ b32.p = 16777216 := by decide
def nrm (E T : Nat) : UInt32 := UInt32.ofNat (E * 8388608 + T)
theorem nrm_nat {E T : Nat} (h2 : E ≤ 254) (hT : T < 8388608) : (nrm E T).toNat = E * 8388608 + T := by
  rw [nrm, UInt32.toNat_ofNat']
  exact Nat.mod_eq_of_lt (by omega)
theorem dec_nrm {E T : Nat} (h1 : 1 ≤ E) (h2 : E ≤ 254) (hT : T < 8388608) : FP.Core.decode b32 (nrm E T).toNat = .fin false (8388608 + T) ((E : Int) - 150) := by
  have hn := nrm_nat h2 hT
  have e1 : (E * 8388608 + T) / 8388608 = E := by omega
  have e2 : (E * 8388608 + T) % 8388608 = T := by omega
  have e3 : E % 256 = E := by omega
  have e4 : E / 256 = 0 := by omega
  rw [hn]
  simp only [FP.Core.decode, FP.Core.fieldE, FP.Core.fieldT, FP.Core.fieldS, b_tl, b_ex, b_qm, e1, e2, e3, e4]
  rw [if_neg (by omega), if_neg (by omega)]
  congr 1
  omega
theorem dec_0 : FP.Core.decode b32 (0 : UInt32).toNat = .fin false 0 (-149) := by decide
theorem enc_nrm {c : Nat} {q : Int} (h1 : 8388608 ≤ c) (h3 : -149 ≤ q) : FP.Core.encode b32 (.fin false c q) = (q + 150).toNat * 8388608 + (c - 8388608) := by
  simp only [FP.Core.encode, FP.Core.assemble, b_tl, b_ex, b_qm]
  rw [if_neg (by omega)]
  have : (q - -149).toNat + 1 = (q + 150).toNat := by omega
  rw [this, show false.toNat = 0 from rfl, Nat.zero_mul, Nat.zero_add]
theorem near_in {N D : Nat} (hD : 0 < D) (h1 : 8388608 * D ≤ N) (h2 : N < 16777216 * D) : 8388608 ≤ FP.Core.nearest N D ∧ FP.Core.nearest N D ≤ 16777216 := by
  have a : 8388608 ≤ N / D := (Nat.le_div_iff_mul_le hD).mpr h1
  have b : N / D < 16777216 := (Nat.div_lt_iff_lt_mul hD).mpr h2
  rw [FP.Core.nearest]
  split
  · omega
  · split <;> omega
theorem near_ex {c D : Nat} (hD : 0 < D) : FP.Core.nearest (c * D) D = c := by
  rw [FP.Core.nearest, Nat.mul_mod_left, Nat.mul_div_cancel _ hD, if_pos (by omega)]
/-- rounding, its last digit told -/
theorem rr_in {num den : Nat} {e q : Int} (h0 : num ≠ 0) (hq : FP.Core.quantum b32 num den e = q) (q1 : -149 ≤ q) (q2 : q ≤ 103) (hD : 0 < FP.Core.unitsDen den e q) (h1 : 8388608 * FP.Core.unitsDen den e q ≤ FP.Core.unitsNum num e q) (h2 : FP.Core.unitsNum num e q < 16777216 * FP.Core.unitsDen den e q) : ∃ E T, T < 8388608 ∧ (E = (q + 150).toNat ∨ E = (q + 151).toNat) ∧ FP.Core.encode b32 (FP.Core.roundRatio b32 false num den e) = E * 8388608 + T := by
  obtain ⟨n1, n2⟩ := near_in hD h1 h2
  rw [FP.Core.roundRatio, if_neg h0, hq, FP.Core.roundAt, FP.Core.settle, b_2p]
  generalize FP.Core.nearest _ _ = c at *
  by_cases hc : c < 16777216
  · rw [if_pos hc, FP.Core.bound, b_qx, if_pos (by omega)]
    exact ⟨_, c - 8388608, by omega, Or.inl rfl, enc_nrm n1 q1⟩
  · rw [if_neg hc, FP.Core.bound, b_qx, if_pos (by omega), b_tl]
    refine ⟨(q + 1 + 150).toNat, 0, by omega, Or.inr (by omega), ?_⟩
    rw [enc_nrm (Nat.le_refl _) (by omega)]
theorem rr_ex {num den c : Nat} {e q : Int} (h0 : num ≠ 0) (hq : FP.Core.quantum b32 num den e = q) (q1 : -149 ≤ q) (q2 : q ≤ 103) (hD : 0 < FP.Core.unitsDen den e q) (h1 : FP.Core.unitsNum num e q = c * FP.Core.unitsDen den e q) (c1 : 8388608 ≤ c) (c2 : c < 16777216) : FP.Core.encode b32 (FP.Core.roundRatio b32 false num den e) = (q + 150).toNat * 8388608 + (c - 8388608) := by
  rw [FP.Core.roundRatio, if_neg h0, hq, FP.Core.roundAt, h1, near_ex hD, FP.Core.settle, b_2p, if_pos c2, FP.Core.bound, b_qx, if_pos (by omega), enc_nrm c1 q1]
theorem lead_1 {num : Nat} (h : num ≠ 0) : FP.Core.leading num 1 = (num.log2 : Int) := by
  have hl : Nat.log2 1 = 0 := by decide
  simp only [FP.Core.leading, hl]
  rw [if_pos]
  · omega
  · have := Nat.log2_self_le h
    have e1 : ((num.log2 : Int) - ((0 : Nat) : Int)).toNat = num.log2 := by omega
    have e2 : (-((num.log2 : Int) - ((0 : Nat) : Int))).toNat = 0 := by omega
    rw [e1, e2]; omega
theorem log2_is {n k : Nat} (h1 : 2 ^ k ≤ n) (h2 : n < 2 ^ (k + 1)) : n.log2 = k := (Nat.log2_eq_iff (by have := Nat.two_pow_pos k; omega)).mpr ⟨h1, h2⟩
theorem quant_1 {num : Nat} {e : Int} (h : num ≠ 0) (hq : -149 ≤ (num.log2 : Int) + e - 23) : FP.Core.quantum b32 num 1 e = (num.log2 : Int) + e - 23 := by
  rw [FP.Core.quantum, lead_1 h, b_qm, b_pp]; omega
theorem vf_nrm {E T : Nat} (h2 : E ≤ 254) (hT : T < 8388608) : vf_n32 (nrm E T) := by
  have hn := nrm_nat h2 hT
  rw [vf_n32, UInt32.le_iff_toNat_le, UInt32.toNat_and, hn]
  have : (E * 8388608 + T) &&& (0x7fffffff : UInt32).toNat ≤ E * 8388608 + T := Nat.and_le_left
  have e : (0x7f800000 : UInt32).toNat = 2139095040 := by decide
  omega
theorem vf_0 : vf_n32 0 := by unfold vf_n32; decide
/-- a product with a power of two -/
theorem mul_pow {E T P : Nat} (h1 : 1 ≤ E) (h2 : E ≤ 254) (hT : T < 8388608) (p1 : 1 ≤ P) (p2 : P ≤ 254) (r1 : 128 ≤ E + P) (r2 : E + P ≤ 380) : FP.fmul (nrm E T) (nrm P 0) = nrm (E + P - 127) T := by
  show UInt32.ofNat (FP.Core.encode b32 (FP.Core.round b32 (FP.Core.exactProduct (FP.Core.decode b32 (nrm E T).toNat) (FP.Core.decode b32 (nrm P 0).toNat)))) = UInt32.ofNat ((E + P - 127) * 8388608 + T)
  rw [dec_nrm h1 h2 hT, dec_nrm p1 p2 (by decide)]
  show UInt32.ofNat (FP.Core.encode b32 (FP.Core.roundRatio b32 false ((8388608 + T) * (8388608 + 0)) 1 ((E : Int) - 150 + ((P : Int) - 150)))) = _
  have hl : ((8388608 + T) * (8388608 + 0)).log2 = 46 := log2_is (by omega) (by omega)
  have hq : FP.Core.quantum b32 ((8388608 + T) * (8388608 + 0)) 1 ((E : Int) - 150 + ((P : Int) - 150)) = (E : Int) + P - 277 := by
    rw [quant_1 (by omega) (by rw [hl]; omega), hl]; omega
  have e1 : ((E : Int) - 150 + ((P : Int) - 150) - ((E : Int) + P - 277)).toNat = 0 := by omega
  have e2 : ((E : Int) + P - 277 - ((E : Int) - 150 + ((P : Int) - 150))).toNat = 23 := by omega
  rw [rr_ex (c := 8388608 + T) (by omega) hq (by omega) (by omega) (by rw [FP.Core.unitsDen, e2]; decide) (by rw [FP.Core.unitsDen, FP.Core.unitsNum, e1, e2]; omega) (by omega) (by omega)]
  rw [show ((E : Int) + P - 277 + 150).toNat = E + P - 127 by omega, show 8388608 + T - 8388608 = T by omega]
theorem mul_0 {P : Nat} (p1 : 1 ≤ P) (p2 : P ≤ 254) : FP.fmul 0 (nrm P 0) = 0 := by
  show UInt32.ofNat (FP.Core.encode b32 (FP.Core.round b32 (FP.Core.exactProduct (FP.Core.decode b32 (0 : UInt32).toNat) (FP.Core.decode b32 (nrm P 0).toNat)))) = 0
  rw [dec_0, dec_nrm p1 p2 (by decide)]
  show UInt32.ofNat (FP.Core.encode b32 (FP.Core.roundRatio b32 false (0 * (8388608 + 0)) 1 (-149 + ((P : Int) - 150)))) = 0
  rw [Nat.zero_mul, FP.Core.roundRatio, if_pos rfl]
  decide
theorem pow_up {a b : Nat} (h : a ≤ b) : 2 ^ a ≤ 2 ^ b := Nat.pow_le_pow_right (by decide) h
/-- a whole number as a float -/
theorem i2f_is {n : Nat} (h0 : 0 < n) (h1 : n < 16777216) : ∃ T, T < 8388608 ∧ FP.i2f (nI n) = nrm (n.log2 + 127) T := by
  have hk : n.log2 < 24 := by
    have a := Nat.log2_self_le (n := n) (by omega)
    by_cases c : n.log2 < 24
    · exact c
    · have := pow_up (a := 24) (b := n.log2) (by omega)
      omega
  have a1 := Nat.log2_self_le (n := n) (by omega)
  have a2 : n < 2 ^ (n.log2 + 1) := Nat.lt_log2_self
  have hi : (nI n).toInt = (n : Int) := nI_toInt (by omega)
  have hq : FP.Core.quantum b32 n 1 0 = (n.log2 : Int) - 23 := by rw [quant_1 (by omega) (by omega)]; omega
  have e1 : ((0 : Int) - ((n.log2 : Int) - 23)).toNat = 23 - n.log2 := by omega
  have e2 : ((n.log2 : Int) - 23 - 0).toNat = 0 := by omega
  have p1 : 2 ^ n.log2 * 2 ^ (23 - n.log2) = 8388608 := by rw [← Nat.pow_add, show n.log2 + (23 - n.log2) = 23 by omega]
  have p2 : 2 ^ (n.log2 + 1) * 2 ^ (23 - n.log2) = 16777216 := by rw [← Nat.pow_add, show n.log2 + 1 + (23 - n.log2) = 24 by omega]
  have hp : 0 < 2 ^ (23 - n.log2) := Nat.two_pow_pos _
  have c1 : 8388608 ≤ n * 2 ^ (23 - n.log2) := by rw [← p1]; exact Nat.mul_le_mul_right _ a1
  have c2 : n * 2 ^ (23 - n.log2) < 16777216 := by rw [← p2]; exact (Nat.mul_lt_mul_right hp).mpr a2
  refine ⟨n * 2 ^ (23 - n.log2) - 8388608, by omega, ?_⟩
  show UInt32.ofNat (FP.Core.encode b32 (FP.Core.roundRatio b32 (decide ((nI n).toInt < 0)) (nI n).toInt.natAbs 1 0)) = UInt32.ofNat ((n.log2 + 127) * 8388608 + (n * 2 ^ (23 - n.log2) - 8388608))
  rw [hi, decide_eq_false (by omega), Int.natAbs_natCast]
  rw [rr_ex (c := n * 2 ^ (23 - n.log2)) (by omega) hq (by omega) (by omega) (by rw [FP.Core.unitsDen, e2]; decide) (by rw [FP.Core.unitsDen, FP.Core.unitsNum, e1, e2]; omega) c1 c2]
  rw [show ((n.log2 : Int) - 23 + 150).toNat = n.log2 + 127 by omega]
theorem i2f_0 : FP.i2f (nI 0) = 0 := by decide
theorem log2_le {n k : Nat} (h0 : 0 < n) (h : n < 2 ^ (k + 1)) : n.log2 ≤ k := by
  have a := Nat.log2_self_le (n := n) (by omega)
  by_cases c : n.log2 ≤ k
  · exact c
  · have := pow_up (a := k + 1) (b := n.log2) (by omega)
    omega
/-- a sum of two numbers below 256, one of them at least 1 -/
theorem add_in {x : UInt32} {c : Nat} {q : Int} {B U : Nat} (hx : FP.Core.decode b32 x.toNat = .fin false c q) (hc : c < 16777216) (hq : q ≤ -16) (hq2 : -149 ≤ q) (b1 : 127 ≤ B) (b2 : B ≤ 134) (hU : U < 8388608) : ∃ E T, 127 ≤ E ∧ E ≤ 136 ∧ T < 8388608 ∧ FP.fadd x (nrm B U) = nrm E T := by
  obtain ⟨m, hm⟩ : ∃ m : Int, m = min q ((B : Int) - 150) := ⟨_, rfl⟩
  obtain ⟨s, hs⟩ : ∃ s, s = c * 2 ^ (q - m).toNat + (8388608 + U) * 2 ^ ((B : Int) - 150 - m).toNat := ⟨_, rfl⟩
  have key : FP.fadd x (nrm B U) = UInt32.ofNat (FP.Core.encode b32 (FP.Core.roundRatio b32 false s 1 m)) := by
    show UInt32.ofNat (FP.Core.encode b32 (FP.Core.round b32 (FP.Core.exactSum (FP.Core.decode b32 x.toNat) (FP.Core.decode b32 (nrm B U).toNat)))) = _
    rw [hx, dec_nrm (by omega) (by omega) hU]
    have hv : FP.Core.sumUnits false c q false (8388608 + U) ((B : Int) - 150) (min q ((B : Int) - 150)) = (s : Int) := by
      rw [FP.Core.sumUnits, FP.Core.inUnits, FP.Core.inUnits, ← hm, hs]
      show ((c * 2 ^ (q - m).toNat : Nat) : Int) + (((8388608 + U) * 2 ^ ((B : Int) - 150 - m).toNat : Nat) : Int) = _
      rw [Int.natCast_add]
    show UInt32.ofNat (FP.Core.encode b32 (FP.Core.round b32 (.fin (FP.Core.sumSign false false (FP.Core.sumUnits false c q false (8388608 + U) ((B : Int) - 150) (min q ((B : Int) - 150)))) (FP.Core.sumUnits false c q false (8388608 + U) ((B : Int) - 150) (min q ((B : Int) - 150))).natAbs (min q ((B : Int) - 150))))) = _
    rw [hv, ← hm, Int.natAbs_natCast]
    have hsg : FP.Core.sumSign false false (s : Int) = false := by
      rw [FP.Core.sumSign]
      split
      · rfl
      · exact decide_eq_false (by omega)
    rw [hsg]
    rfl
  have hm1 : m ≤ q := by omega
  have hm2 : m ≤ (B : Int) - 150 := by omega
  have hm3 : m = q ∨ m = (B : Int) - 150 := by omega
  have hp1 : 0 < 2 ^ ((B : Int) - 150 - m).toNat := Nat.two_pow_pos _
  have lo : 2 ^ ((B : Int) - 127 - m).toNat ≤ s := by
    have e : 2 ^ ((B : Int) - 127 - m).toNat = 8388608 * 2 ^ ((B : Int) - 150 - m).toNat := by
      rw [show ((B : Int) - 127 - m).toNat = 23 + ((B : Int) - 150 - m).toNat by omega, Nat.pow_add]
    rw [e, hs]
    have := Nat.mul_le_mul_right (2 ^ ((B : Int) - 150 - m).toNat) (show 8388608 ≤ 8388608 + U by omega)
    omega
  have hi : s < 2 ^ ((9 : Int) - m).toNat := by
    have e : 2 ^ ((9 : Int) - m).toNat = 2 ^ ((8 : Int) - m).toNat + 2 ^ ((8 : Int) - m).toNat := by
      rw [show ((9 : Int) - m).toNat = ((8 : Int) - m).toNat + 1 by omega, Nat.pow_succ]; omega
    have u1 : c * 2 ^ (q - m).toNat < 2 ^ ((8 : Int) - m).toNat := by
      have w1 : c * 2 ^ (q - m).toNat < 16777216 * 2 ^ (q - m).toNat := (Nat.mul_lt_mul_right (Nat.two_pow_pos _)).mpr hc
      have w2 : 16777216 * 2 ^ (q - m).toNat = 2 ^ (24 + (q - m).toNat) := by rw [Nat.pow_add]
      have w3 := pow_up (a := 24 + (q - m).toNat) (b := ((8 : Int) - m).toNat) (by omega)
      omega
    have u2 : (8388608 + U) * 2 ^ ((B : Int) - 150 - m).toNat < 2 ^ ((8 : Int) - m).toNat := by
      have w1 : (8388608 + U) * 2 ^ ((B : Int) - 150 - m).toNat < 16777216 * 2 ^ ((B : Int) - 150 - m).toNat := (Nat.mul_lt_mul_right hp1).mpr (by omega)
      have w2 : 16777216 * 2 ^ ((B : Int) - 150 - m).toNat = 2 ^ (24 + ((B : Int) - 150 - m).toNat) := by rw [Nat.pow_add]
      have w3 := pow_up (a := 24 + ((B : Int) - 150 - m).toNat) (b := ((8 : Int) - m).toNat) (by omega)
      omega
    omega
  have hs0 : s ≠ 0 := by have := Nat.two_pow_pos ((B : Int) - 127 - m).toNat; omega
  have k1 : ((B : Int) - 127 - m).toNat ≤ s.log2 := by
    by_cases z : ((B : Int) - 127 - m).toNat ≤ s.log2
    · exact z
    · have a2 : s < 2 ^ (s.log2 + 1) := Nat.lt_log2_self
      have := pow_up (a := s.log2 + 1) (b := ((B : Int) - 127 - m).toNat) (by omega)
      omega
  have k2 : s.log2 ≤ ((8 : Int) - m).toNat := by
    refine log2_le (by omega) ?_
    rw [show ((8 : Int) - m).toNat + 1 = ((9 : Int) - m).toNat by omega]; exact hi
  have a1 := Nat.log2_self_le (n := s) hs0
  have a2 : s < 2 ^ (s.log2 + 1) := Nat.lt_log2_self
  have hq9 : FP.Core.quantum b32 s 1 m = (s.log2 : Int) + m - 23 := quant_1 hs0 (by omega)
  obtain ⟨E, T, hT, hE, he⟩ : ∃ E T, T < 8388608 ∧ (E = ((s.log2 : Int) + m - 23 + 150).toNat ∨ E = ((s.log2 : Int) + m - 23 + 151).toNat) ∧ FP.Core.encode b32 (FP.Core.roundRatio b32 false s 1 m) = E * 8388608 + T := by
    have e1 : (m - ((s.log2 : Int) + m - 23)).toNat = 23 - s.log2 := by omega
    have e2 : ((s.log2 : Int) + m - 23 - m).toNat = s.log2 - 23 := by omega
    refine rr_in hs0 hq9 (by omega) (by omega) ?_ ?_ ?_
    · rw [FP.Core.unitsDen, e2, Nat.one_mul]; exact Nat.two_pow_pos _
    · rw [FP.Core.unitsDen, FP.Core.unitsNum, e1, e2, Nat.one_mul]
      by_cases z : s.log2 ≤ 23
      · rw [show s.log2 - 23 = 0 by omega]
        have p1 : 2 ^ s.log2 * 2 ^ (23 - s.log2) = 8388608 := by rw [← Nat.pow_add, show s.log2 + (23 - s.log2) = 23 by omega]
        have := Nat.mul_le_mul_right (2 ^ (23 - s.log2)) a1
        omega
      · rw [show 23 - s.log2 = 0 by omega]
        have p1 : 8388608 * 2 ^ (s.log2 - 23) = 2 ^ s.log2 := by
          rw [show (8388608 : Nat) = 2 ^ 23 from rfl, ← Nat.pow_add, show 23 + (s.log2 - 23) = s.log2 by omega]
        omega
    · rw [FP.Core.unitsDen, FP.Core.unitsNum, e1, e2, Nat.one_mul]
      by_cases z : s.log2 ≤ 23
      · rw [show s.log2 - 23 = 0 by omega]
        have p1 : 2 ^ (s.log2 + 1) * 2 ^ (23 - s.log2) = 16777216 := by rw [← Nat.pow_add, show s.log2 + 1 + (23 - s.log2) = 24 by omega]
        have := (Nat.mul_lt_mul_right (Nat.two_pow_pos (23 - s.log2))).mpr a2
        omega
      · rw [show 23 - s.log2 = 0 by omega]
        have p1 : 16777216 * 2 ^ (s.log2 - 23) = 2 ^ (s.log2 + 1) := by
          rw [show (16777216 : Nat) = 2 ^ 24 from rfl, ← Nat.pow_add, show 24 + (s.log2 - 23) = s.log2 + 1 by omega]
        omega
  refine ⟨E, T, by omega, by omega, hT, ?_⟩
  rw [key, he]; rfl
/-- a quotient -/
theorem div_in {A B T U : Nat} (a1 : 127 ≤ A) (a2 : A ≤ 150) (b1 : 127 ≤ B) (b2 : B ≤ 150) (hT : T < 8388608) (hU : U < 8388608) : ∃ E V, 100 ≤ E ∧ E ≤ 152 ∧ V < 8388608 ∧ FP.fdiv (nrm A T) (nrm B U) = nrm E V := by
  have key : FP.fdiv (nrm A T) (nrm B U) = UInt32.ofNat (FP.Core.encode b32 (FP.Core.roundRatio b32 false (8388608 + T) (8388608 + U) ((A : Int) - 150 - ((B : Int) - 150)))) := by
    show UInt32.ofNat (FP.Core.encode b32 (FP.Core.quotient b32 (FP.Core.decode b32 (nrm A T).toNat) (FP.Core.decode b32 (nrm B U).toNat))) = _
    rw [dec_nrm (by omega) (by omega) hT, dec_nrm (by omega) (by omega) hU]
    simp only [FP.Core.quotient]
    rw [if_neg (by omega)]
    rfl
  have l1 : (8388608 + T).log2 = 23 := log2_is (by omega) (by omega)
  have l2 : (8388608 + U).log2 = 23 := log2_is (by omega) (by omega)
  have hlead : FP.Core.leading (8388608 + T) (8388608 + U) = if 8388608 + U ≤ 8388608 + T then 0 else -1 := by
    simp only [FP.Core.leading, l1, l2]
    rw [show (((23 : Nat) : Int) - ((23 : Nat) : Int)) = 0 by omega, show ((0 : Int).toNat) = 0 from rfl, show ((-(0 : Int)).toNat) = 0 from rfl]
    simp
  obtain ⟨e, he⟩ : ∃ e : Int, e = (A : Int) - 150 - ((B : Int) - 150) := ⟨_, rfl⟩
  rw [← he] at key
  by_cases c : 8388608 + U ≤ 8388608 + T
  · rw [if_pos c] at hlead
    have hq : FP.Core.quantum b32 (8388608 + T) (8388608 + U) e = e - 23 := by rw [FP.Core.quantum, hlead, b_qm, b_pp]; omega
    have e1 : (e - (e - 23)).toNat = 23 := by omega
    have e2 : (e - 23 - e).toNat = 0 := by omega
    obtain ⟨E, V, hV, hE, hh⟩ := rr_in (num := 8388608 + T) (den := 8388608 + U) (by omega) hq (by omega) (by omega) (by rw [FP.Core.unitsDen, e2]; omega) (by rw [FP.Core.unitsDen, FP.Core.unitsNum, e1, e2]; omega) (by rw [FP.Core.unitsDen, FP.Core.unitsNum, e1, e2]; omega)
    exact ⟨E, V, by omega, by omega, hV, by rw [key, hh]; rfl⟩
  · rw [if_neg c] at hlead
    have hq : FP.Core.quantum b32 (8388608 + T) (8388608 + U) e = e - 24 := by rw [FP.Core.quantum, hlead, b_qm, b_pp]; omega
    have e1 : (e - (e - 24)).toNat = 24 := by omega
    have e2 : (e - 24 - e).toNat = 0 := by omega
    obtain ⟨E, V, hV, hE, hh⟩ := rr_in (num := 8388608 + T) (den := 8388608 + U) (by omega) hq (by omega) (by omega) (by rw [FP.Core.unitsDen, e2]; omega) (by rw [FP.Core.unitsDen, FP.Core.unitsNum, e1, e2]; omega) (by rw [FP.Core.unitsDen, FP.Core.unitsNum, e1, e2]; omega)
    exact ⟨E, V, by omega, by omega, hV, by rw [key, hh]; rfl⟩
theorem div_0 {B U : Nat} (b1 : 127 ≤ B) (b2 : B ≤ 150) (hU : U < 8388608) : FP.fdiv 0 (nrm B U) = 0 := by
  show UInt32.ofNat (FP.Core.encode b32 (FP.Core.quotient b32 (FP.Core.decode b32 (0 : UInt32).toNat) (FP.Core.decode b32 (nrm B U).toNat))) = 0
  rw [dec_0, dec_nrm (by omega) (by omega) hU]
  simp only [FP.Core.quotient]
  rw [if_neg (by omega)]
  show UInt32.ofNat (FP.Core.encode b32 (FP.Core.roundRatio b32 false 0 (8388608 + U) (-149 - ((B : Int) - 150)))) = 0
  rw [FP.Core.roundRatio, if_pos rfl]
  decide
/-- less one -/
theorem sub_one {T : Nat} (hT : T < 8388608) : FP.fsub (nrm 127 T) (nrm 127 0) = 0 ∨ ∃ E V, 104 ≤ E ∧ E ≤ 130 ∧ V < 8388608 ∧ FP.fsub (nrm 127 T) (nrm 127 0) = nrm E V := by
  have key : FP.fsub (nrm 127 T) (nrm 127 0) = UInt32.ofNat (FP.Core.encode b32 (FP.Core.roundRatio b32 false T 1 (-23))) := by
    show UInt32.ofNat (FP.Core.encode b32 (FP.Core.round b32 (FP.Core.exactSum (FP.Core.decode b32 (nrm 127 T).toNat) (FP.Core.negate (FP.Core.decode b32 (nrm 127 0).toNat))))) = _
    rw [dec_nrm (by omega) (by omega) hT, dec_nrm (by omega) (by omega) (by decide)]
    have hv : FP.Core.sumUnits false (8388608 + T) (((127 : Nat) : Int) - 150) true (8388608 + 0) (((127 : Nat) : Int) - 150) (min (((127 : Nat) : Int) - 150) (((127 : Nat) : Int) - 150)) = (T : Int) := by
      rw [Int.min_self, FP.Core.sumUnits, FP.Core.inUnits, FP.Core.inUnits, Int.sub_self]
      show (((8388608 + T) * 2 ^ 0 : Nat) : Int) + -(((8388608 + 0) * 2 ^ 0 : Nat) : Int) = _
      omega
    show UInt32.ofNat (FP.Core.encode b32 (FP.Core.round b32 (.fin (FP.Core.sumSign false true (FP.Core.sumUnits false (8388608 + T) (((127 : Nat) : Int) - 150) true (8388608 + 0) (((127 : Nat) : Int) - 150) (min (((127 : Nat) : Int) - 150) (((127 : Nat) : Int) - 150)))) (FP.Core.sumUnits false (8388608 + T) (((127 : Nat) : Int) - 150) true (8388608 + 0) (((127 : Nat) : Int) - 150) (min (((127 : Nat) : Int) - 150) (((127 : Nat) : Int) - 150))).natAbs (min (((127 : Nat) : Int) - 150) (((127 : Nat) : Int) - 150))))) = _
    rw [hv, Int.natAbs_natCast, Int.min_self]
    have hsg : FP.Core.sumSign false true (T : Int) = false := by
      rw [FP.Core.sumSign]
      split
      · rfl
      · exact decide_eq_false (by omega)
    rw [hsg]
    rfl
  by_cases h0 : T = 0
  · left
    rw [key, h0, FP.Core.roundRatio, if_pos rfl]
    decide
  · right
    have hk : T.log2 ≤ 22 := log2_le (by omega) (by omega)
    have a1 := Nat.log2_self_le (n := T) h0
    have a2 : T < 2 ^ (T.log2 + 1) := Nat.lt_log2_self
    have hq : FP.Core.quantum b32 T 1 (-23) = (T.log2 : Int) - 46 := by rw [quant_1 h0 (by omega)]; omega
    have e1 : ((-23 : Int) - ((T.log2 : Int) - 46)).toNat = 23 - T.log2 := by omega
    have e2 : ((T.log2 : Int) - 46 - (-23)).toNat = 0 := by omega
    have p1 : 2 ^ T.log2 * 2 ^ (23 - T.log2) = 8388608 := by rw [← Nat.pow_add, show T.log2 + (23 - T.log2) = 23 by omega]
    have p2 : 2 ^ (T.log2 + 1) * 2 ^ (23 - T.log2) = 16777216 := by rw [← Nat.pow_add, show T.log2 + 1 + (23 - T.log2) = 24 by omega]
    have w1 := Nat.mul_le_mul_right (2 ^ (23 - T.log2)) a1
    have w2 := (Nat.mul_lt_mul_right (Nat.two_pow_pos (23 - T.log2))).mpr a2
    obtain ⟨E, V, hV, hE, hh⟩ := rr_in h0 hq (by omega) (by omega) (by rw [FP.Core.unitsDen, e2]; decide) (by rw [FP.Core.unitsDen, FP.Core.unitsNum, e1, e2]; omega) (by rw [FP.Core.unitsDen, FP.Core.unitsNum, e1, e2]; omega)
    exact ⟨E, V, by omega, by omega, hV, by rw [key, hh]; rfl⟩
theorem ord_fin {c d : Nat} {q r : Int} : FP.Core.order (.fin false c q) (.fin false d r) = some (compare ((c * 2 ^ (q - min q r).toNat : Nat) : Int) ((d * 2 ^ (r - min q r).toNat : Nat) : Int)) := rfl
theorem cmp_lt {E T P : Nat} {op : CmpOp} (h1 : 1 ≤ E) (h2 : E < P) (hT : T < 8388608) (p2 : P ≤ 254) : Op.cmpValue (FP.fcmp (nrm E T) (nrm P 0)) op = -1 := by
  have : FP.fcmp (nrm E T) (nrm P 0) = some .lt := by
    show FP.Core.order (FP.Core.decode b32 (nrm E T).toNat) (FP.Core.decode b32 (nrm P 0).toNat) = _
    rw [dec_nrm h1 (by omega) hT, dec_nrm (by omega) p2 (by decide), ord_fin]
    have e1 : ((E : Int) - 150 - min ((E : Int) - 150) ((P : Int) - 150)).toNat = 0 := by omega
    have e2 : ((P : Int) - 150 - min ((E : Int) - 150) ((P : Int) - 150)).toNat = P - E := by omega
    rw [e1, e2]
    have w := pow_up (a := 1) (b := P - E) (by omega)
    have w2 := Nat.mul_le_mul_left 8388608 w
    congr 1
    show compareOfLessAndEq _ _ = _
    rw [compareOfLessAndEq, if_pos (by omega)]
  rw [this]; rfl
theorem cmp_ge {E T P : Nat} {op : CmpOp} (h1 : 1 ≤ P) (h2 : P ≤ E) (hT : T < 8388608) (p2 : E ≤ 254) : ¬ Op.cmpValue (FP.fcmp (nrm E T) (nrm P 0)) op < 0 := by
  have hc : FP.fcmp (nrm E T) (nrm P 0) = some (compare (((8388608 + T) * 2 ^ ((E : Int) - 150 - min ((E : Int) - 150) ((P : Int) - 150)).toNat : Nat) : Int) (((8388608 + 0) * 2 ^ ((P : Int) - 150 - min ((E : Int) - 150) ((P : Int) - 150)).toNat : Nat) : Int)) := by
    show FP.Core.order (FP.Core.decode b32 (nrm E T).toNat) (FP.Core.decode b32 (nrm P 0).toNat) = _
    rw [dec_nrm (by omega) p2 hT, dec_nrm h1 (by omega) (by decide), ord_fin]
  have hn : compare (((8388608 + T) * 2 ^ ((E : Int) - 150 - min ((E : Int) - 150) ((P : Int) - 150)).toNat : Nat) : Int) (((8388608 + 0) * 2 ^ ((P : Int) - 150 - min ((E : Int) - 150) ((P : Int) - 150)).toNat : Nat) : Int) ≠ .lt := by
    have e1 : ((P : Int) - 150 - min ((E : Int) - 150) ((P : Int) - 150)).toNat = 0 := by omega
    rw [e1]
    have w := Nat.two_pow_pos ((E : Int) - 150 - min ((E : Int) - 150) ((P : Int) - 150)).toNat
    have w2 := Nat.mul_le_mul_left (8388608 + T) w
    show compareOfLessAndEq _ _ ≠ _
    rw [compareOfLessAndEq, if_neg (by omega)]
    split <;> decide
  rw [hc]
  revert hn
  generalize compare (α := Int) _ _ = o
  intro hn
  cases o
  · exact absurd rfl hn
  · show ¬ (0 : Int32) < 0
    decide
  · show ¬ (1 : Int32) < 0
    decide
theorem cmp_z {E T : Nat} {op : CmpOp} (h1 : 1 ≤ E) (h2 : E ≤ 254) (hT : T < 8388608) : Op.cmpValue (FP.fcmp (nrm E T) 0) op = 1 := by
  have : FP.fcmp (nrm E T) 0 = some .gt := by
    show FP.Core.order (FP.Core.decode b32 (nrm E T).toNat) (FP.Core.decode b32 (0 : UInt32).toNat) = _
    rw [dec_nrm h1 h2 hT, dec_0, ord_fin, Nat.zero_mul]
    have w := Nat.two_pow_pos ((E : Int) - 150 - min ((E : Int) - 150) (-149)).toNat
    have w2 := Nat.mul_le_mul_left (8388608 + T) w
    congr 1
    show compareOfLessAndEq _ _ = _
    rw [compareOfLessAndEq, if_neg (by omega), if_neg (by omega)]
  rw [this]; rfl
theorem cmp_00 {op : CmpOp} : Op.cmpValue (FP.fcmp 0 0) op = 0 := by
  have : FP.fcmp 0 0 = some .eq := by decide
  rw [this]; rfl
