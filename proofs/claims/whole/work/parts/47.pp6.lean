/-! PAIRPACKER: pairs replaced, rules dropped -/
def pkF (cf : Nat → Nat) : Nat → Option Nat
  | 0 => none
  | n + 1 => (pkF cf n).elim (if 2 ≤ cf n then some n else none) (fun b => if 2 ≤ cf n ∧ cf b < cf n then some n else some b)
theorem pkF_is {cf : Nat → Nat} : ∀ n, (pkF cf n = none → ∀ j, j < n → cf j < 2) ∧ (∀ b, pkF cf n = some b → b < n ∧ 2 ≤ cf b ∧ ∀ j, j < n → 2 ≤ cf j → ¬ ahd cf j b)
  | 0 => ⟨fun _ j hj => absurd hj (by omega), fun b h => by cases h⟩
  | n + 1 => by
    obtain ⟨h1, h2⟩ := pkF_is (cf := cf) n
    rw [pkF]
    cases hx : pkF cf n with
    | none =>
      have h1 := h1 hx
      rw [Option.elim_none]
      by_cases c : 2 ≤ cf n
      · rw [if_pos c]
        refine ⟨(fun z => by cases z), fun b hb => ?_⟩
        cases hb
        refine ⟨by omega, c, fun j hj h2j hah => ?_⟩
        by_cases e : j = n
        · subst e; exact ahd_irr hah
        · have := h1 j (by omega); omega
      · rw [if_neg c]
        refine ⟨fun _ j hj => ?_, fun b hb => by cases hb⟩
        by_cases e : j = n
        · subst e; omega
        · exact h1 j (by omega)
    | some b0 =>
      obtain ⟨g1, g2, g3⟩ := h2 b0 hx
      rw [Option.elim_some]
      by_cases c : 2 ≤ cf n ∧ cf b0 < cf n
      · rw [if_pos c]
        refine ⟨(fun z => by cases z), fun b hb => ?_⟩
        cases hb
        refine ⟨by omega, c.1, fun j hj h2j hah => ?_⟩
        by_cases e : j = n
        · subst e; exact ahd_irr hah
        · exact g3 j (by omega) h2j (by rcases hah with z | z <;> exact Or.inl (by omega))
      · rw [if_neg c]
        refine ⟨(fun z => by cases z), fun b hb => ?_⟩
        cases hb
        refine ⟨by omega, g2, fun j hj h2j hah => ?_⟩
        by_cases e : j = n
        · subst e
          rcases hah with z | z
          · exact c ⟨h2j, z⟩
          · omega
        · exact g3 j (by omega) h2j hah
def pickS (l : List Nat) : Option Nat := pkF (pcf l) 7396
theorem pkF_rank {cf : Nat → Nat} (n : Nat) (r : Option Nat) (h : pkF cf n = r) : (r = none → ∀ j, j < n → cf j < 2) ∧ (∀ b, r = some b → b < n ∧ 2 ≤ cf b ∧ ∀ j, j < n → 2 ≤ cf j → ¬ ahd cf j b) := by
  subst h
  exact pkF_is n
theorem pickS_ex {l : List Nat} : ∃ r, pickS l = r ∧ RankIs (pcf l) 0 r := by
  obtain ⟨r, hr⟩ : ∃ r, pickS l = r := ⟨_, rfl⟩
  refine ⟨r, hr, ?_⟩
  have hh := pkF_rank 7396 r hr
  cases r with
  | none =>
    have h1 := hh.1 rfl
    show tot (pcf l) 7396 ≤ 0
    rw [tot, cntB_zero (fun j hj => decide_eq_false (by have := h1 j hj; omega))]
    exact Nat.le_refl _
  | some b =>
    obtain ⟨g1, g2, g3⟩ := hh.2 b rfl
    refine ⟨g1, g2, ?_⟩
    rw [nA, cntB_zero (fun j hj => decide_eq_false (fun z => g3 j hj z.1 z.2))]
theorem pickS_some {l : List Nat} {p : Nat} (h : pickS l = some p) : p < 7396 ∧ 2 ≤ cntG l (p / 86) (p % 86) := by
  obtain ⟨r, e, hr⟩ := pickS_ex (l := l)
  rw [h] at e
  subst e
  exact ⟨hr.1, hr.2.1⟩
def jnP (q : Pk) (a b i : Nat) : Pk := (joinL a b (26 + i) q.1, ruSet q.2 i [a, b])
def jnE (q : Pk) (ds : List Pk) (a b : Nat) : Pk × List Pk := (signS q.2 a b).elim (q, ds) (fun i => (jnP q a b i, pushD ds q))
def jnA (q : Pk) (a b : Nat) : Int32 := (signS q.2 a b).elim (-4) (fun i => nI (26 + i))
def pkStep (q : Pk) : Option Pk := (pickS q.1).elim none (fun p => (signS q.2 (p / 86) (p % 86)).elim none (fun i => some (jnP q (p / 86) (p % 86) i)))
theorem pkStep_0 {q : Pk} (h : pickS q.1 = none) : pkStep q = none := by rw [pkStep, h]; rfl
theorem pkStep_1 {q : Pk} {p : Nat} (h : pickS q.1 = some p) (h2 : signS q.2 (p / 86) (p % 86) = none) : pkStep q = none := by rw [pkStep, h, Option.elim_some, h2]; rfl
theorem pkStep_2 {q : Pk} {p i : Nat} (h : pickS q.1 = some p) (h2 : signS q.2 (p / 86) (p % 86) = some i) : pkStep q = some (jnP q (p / 86) (p % 86) i) := by rw [pkStep, h, Option.elim_some, h2]; rfl
theorem pkStep_ok {q q2 : Pk} (h : PkOk q) (hs : pkStep q = some q2) : PkOk q2 ∧ q2.1.length < q.1.length := by
  cases hp : pickS q.1 with
  | none => rw [pkStep_0 hp] at hs; cases hs
  | some p =>
    cases hi : signS q.2 (p / 86) (p % 86) with
    | none => rw [pkStep_1 hp hi] at hs; cases hs
    | some i =>
      rw [pkStep_2 hp hi] at hs
      cases hs
      have h2 := (pickS_some hp).2
      refine ⟨h.join hi (by omega), ?_⟩
      show (joinL (p / 86) (p % 86) (26 + i) q.1).length < q.1.length
      have := joinL_len_eq (a := p / 86) (b := p % 86) (s := 26 + i) (l := q.1)
      omega
def packF : Nat → Pk → Pk × Nat
  | 0, q => (q, 0)
  | n + 1, q => (pkStep q).elim (q, 0) (fun q2 => ((packF n q2).1, (packF n q2).2 + 1))
theorem packF_none {n : Nat} {q : Pk} (h : pkStep q = none) : packF n q = (q, 0) := by
  cases n with
  | zero => rfl
  | succ n => rw [packF, h]; rfl
theorem packF_some {n : Nat} {q q2 : Pk} (h : pkStep q = some q2) : packF (n + 1) q = ((packF n q2).1, (packF n q2).2 + 1) := by rw [packF, h]; rfl
theorem packF_ok : ∀ {n : Nat} {q : Pk}, PkOk q → PkOk (packF n q).1
  | 0, q, h => h
  | n + 1, q, h => by
    cases hx : pkStep q with
    | none => rw [packF_none hx]; exact h
    | some q2 => rw [packF_some hx]; exact packF_ok (pkStep_ok h hx).1
def drP (q : Pk) (s : Nat) : Pk := (sub s (rowOf q.2 s) q.1, dropRu q.2 s)
def trimF : Nat → Pk → Pk × Nat
  | 0, q => (q, 0)
  | n + 1, q => (idleS q.1 q.2).elim (q, 0) (fun i => ((trimF n (drP q (26 + i))).1, (trimF n (drP q (26 + i))).2 + 1))
theorem trimF_none {n : Nat} {q : Pk} (h : idleS q.1 q.2 = none) : trimF n q = (q, 0) := by
  cases n with
  | zero => rfl
  | succ n => rw [trimF, h]; rfl
theorem trimF_some {n i : Nat} {q : Pk} (h : idleS q.1 q.2 = some i) : trimF (n + 1) q = ((trimF n (drP q (26 + i))).1, (trimF n (drP q (26 + i))).2 + 1) := by rw [trimF, h]; rfl
theorem idle_rul {q : Pk} {i : Nat} (h : idleS q.1 q.2 = some i) : isRul q.2 (26 + i) ∧ (usesS q.1 q.2 (26 + i) = 0 ∨ usesS q.1 q.2 (26 + i) = 1 ∧ canGo q.2 (26 + i)) := by
  obtain ⟨h1, h2, -⟩ := fstB_some h
  have h2 := of_decide_eq_true h2
  exact ⟨⟨by omega, by omega, by rw [show 26 + i - 26 = i by omega]; exact h2.1⟩, h2.2⟩
theorem sumB_zero {f : Nat → Nat} : ∀ {n}, sumB f n = 0 → ∀ j, j < n → f j = 0
  | 0, _, j, hj => absurd hj (by omega)
  | n + 1, h, j, hj => by
    rw [sumB] at h
    by_cases e : j = n
    · subst e; omega
    · exact sumB_zero (n := n) (by omega) j (by omega)
theorem idle_go {q : Pk} {i : Nat} (h : idleS q.1 q.2 = some i) (hr : ∀ r, r < 60 → (q.2 r).length ≤ 12) : canGo q.2 (26 + i) := by
  rcases (idle_rul h).2 with z | ⟨-, z⟩
  · intro r hr2
    rw [usesS] at z
    have := sumB_zero (f := fun r => (q.2 r).count (26 + i)) (n := 60) (by omega) r hr2
    rw [this, Nat.zero_mul]
    exact hr r hr2
  · exact z
theorem trimF_ok : ∀ {n : Nat} {q : Pk}, PkOk q → PkOk (trimF n q).1
  | 0, q, h => h
  | n + 1, q, h => by
    cases hx : idleS q.1 q.2 with
    | none => rw [trimF_none hx]; exact h
    | some i => rw [trimF_some hx]; exact trimF_ok (h.drop (idle_rul hx).1)
section PP6
variable {E : EnvT} {h h1 : Hp} {X rd : Nat} {q qc : Pk} {ds : List Pk} {im : Nat → Pk} {md : Nat → Nat} {tp ph : List Nat} {fk fp : Int32}
theorem PPC.lo (x : PPC E h X 0 q qc ds im md tp ph fk fp) : PPAt E h X 0 q ds im md tp ph fk fp := by
  obtain ⟨a1, a2, a3, a4, a5, a6, a7, a8⟩ := x
  exact ⟨a1, a2, a3, a4, a5, a6, a7.low, a8⟩
theorem PPAt.rows (x : PPAt E h X rd q ds im md tp ph fk fp) : q.1.length ≤ 240 ∧ ∀ r, r < 60 → (q.2 r).length ≤ 12 := ⟨x.2.1.2.1.1, fun r hr => (x.2.1.rul hr).1⟩
theorem PP_join (x : PPAt E h X rd q ds im md tp ph fk fp) {a b : Nat} (ha : a < 65536) (hb : b < 65536) : Spec E k_X9_join 5 0 0 [.ref X, .int (nI a), .int (nI b)] h (fun v h' => v = some (.int (jnA q a b)) ∧ (∃ rd, PPAt E h' X rd (jnE q ds a b).1 (jnE q ds a b).2 im md tp ph fk fp) ∧ Out h h' X (X + 1830)) := by
  have hP := x.2.1
  obtain ⟨nx, ks, hQ, hk⟩ := id x.2.2.1
  refine Spec.of (by decide +kernel) (by simp [Value.category]) (Nat.le_of_ble_eq_true rfl) ?_
  show WP E k_X9_join 5 0 0 0 [some (.ref X), some (.int (nI a)), some (.int (nI b))] [] h _
  refine R_aload_n dX9_join_0 rfl ?_
  refine R_get K_9 (f := 0) (by decide) dX9_join_1 f_RX9_12 x.1 rfl ?_
  refine R_iload_n dX9_join_4 rfl ?_
  refine R_iload_n dX9_join_5 rfl ?_
  -- X9_join: ('call', 6, '.invokevirtual', 369)
  refine R_callV v_X2_signFor (Pack_signFor hP ha hb) dX9_join_6 l_RX9_369 rfl rfl hP.1 (Nat.le_of_ble_eq_true rfl) (by omega) rfl rfl (fun v h2 hq => ?_)
  obtain ⟨rfl, e9⟩ := hq
  rw [e9]
  cases hs : signS q.2 a b with
  | none =>
    refine R_iconst (v := (-1)) dX9_join_9 (by decide) ?_
    refine R_icmp_ne (tgt := 16) dX9_join_10 (by decide) (fun c10 => ?_) (fun c10 => ?_)
    -- X9_join: ('branch', 10, 16, 13)
    · exact absurd rfl c10
    · refine R_bipush (v := (-4)) dX9_join_13 (by decide) ?_
      refine R_ireturn dX9_join_15 rfl rfl ?_
      -- X9_join: ('ret', 15)
      exact ⟨by rw [jnA, hs]; rfl, ⟨_, by rw [jnE, hs]; exact x⟩, Out.refl⟩
  | some i =>
    have hi := signS_lt hs
    refine R_iconst (v := (-1)) dX9_join_9 (by decide) ?_
    refine R_icmp_ne (tgt := 16) dX9_join_10 (by decide) (fun c10 => ?_) (fun c10 => ?_)
    -- X9_join: ('branch', 10, 16, 13)
    · refine R_aload_n dX9_join_16 rfl ?_
      refine R_get K_9 (f := 1) (by decide) dX9_join_17 f_RX9_19 x.1 rfl ?_
      refine R_aload_n dX9_join_20 rfl ?_
      refine R_get K_9 (f := 0) (by decide) dX9_join_21 f_RX9_12 x.1 rfl ?_
      -- X9_join: ('call', 24, '.invokevirtual', 128)
      refine R_callV v_X4_keep (Past_keep hQ hP (by omega)) dX9_join_24 l_RX9_128 rfl rfl hQ.1 (Nat.le_of_ble_eq_true rfl) (by omega) rfl rfl (fun v h3 hq => ?_)
      obtain ⟨rfl, hQ3, o3⟩ := hq
      have x3 := (PPC.of x).kept hQ hk hQ3 o3
      refine R_aload_n dX9_join_27 rfl ?_
      refine R_iconst (v := nI 0) dX9_join_28 (by decide) ?_
      refine R_put_A K_9 (f := 11) (by decide) dX9_join_29 f_RX9_71 rfl x3.1 (by rfl) (by rfl) (Nat.le_of_ble_eq_true rfl) ?_
      -- X9_join: ('put', 32)
      intro h4 u4
      have x4 : PPC E h4 X 0 q q (pushD ds q) im md tp ph fk fp := x3.setObj (rd2 := 0) u4 x3.2.2.2.2.2.2.1.low
      refine R_aload_n dX9_join_32 rfl ?_
      refine R_get K_9 (f := 0) (by decide) dX9_join_33 f_RX9_12 x4.1 rfl ?_
      refine R_iload_n dX9_join_36 rfl ?_
      refine R_iload_n dX9_join_37 rfl ?_
      -- X9_join: ('call', 38, '.invokevirtual', 372)
      refine R_callV v_X2_joinPair (Pack_joinPair x4.2.1 ha hb hs) dX9_join_38 l_RX9_372 rfl rfl x4.2.1.1 (Nat.le_of_ble_eq_true rfl) (by omega) rfl rfl (fun v h5 hq => ?_)
      obtain ⟨rfl, hP5, o5⟩ := hq
      have x5 := x4.setPk (q2 := jnP q a b i) hP5 o5
      refine R_ireturn dX9_join_41 rfl rfl ?_
      -- X9_join: ('ret', 41)
      exact ⟨by rw [jnA, hs]; rfl, ⟨0, by rw [jnE, hs]; exact x5.lo⟩, ((o3.mono (by omega) (by omega)).trans (Out.upd u4 (by omega) (by omega))).trans (o5.mono (by omega) (by omega))⟩
    · exact absurd c10 (nI_ne_m1 (n := 26 + i) (by omega))
def stepA (q : Pk) : Int32 := (pickS q.1).elim (-1) (fun p => jnA q (p / 86) (p % 86))
def stepE (q : Pk) (ds : List Pk) : Pk × List Pk := (pickS q.1).elim (q, ds) (fun p => jnE q ds (p / 86) (p % 86))
theorem PP_step (x : PPAt E h X rd q ds im md tp ph fk fp) (hq : PkOk q) : Spec E k_X9_step 6 0 0 [.ref X] h (fun v h' => v = some (.int (stepA q)) ∧ (∃ rd, PPAt E h' X rd (stepE q ds).1 (stepE q ds).2 im md tp ph fk fp) ∧ Out h h' X (X + 1830)) := by
  have t := x.2.2.2.2.2.2.2.2.2.2.1
  have hP := x.2.1
  have h86 : ∀ y ∈ q.1, y < 86 := fun y hy => isSg_lt (hq.2.1 y hy)
  refine Spec.of (by decide +kernel) (by simp [Value.category]) (Nat.le_of_ble_eq_true rfl) ?_
  show WP E k_X9_step 6 0 0 0 [some (.ref X), none] [] h _
  refine R_aload_n dX9_step_0 rfl ?_
  refine R_get K_9 (f := 14) (by decide) dX9_step_1 f_RX9_84 x.1 rfl ?_
  refine R_aload_n dX9_step_4 rfl ?_
  refine R_get K_9 (f := 0) (by decide) dX9_step_5 f_RX9_12 x.1 rfl ?_
  -- X9_step: ('call', 8, '.invokevirtual', 135)
  refine R_callV v_X2_sequence (Pack_sequence hP) dX9_step_8 l_RX9_135 rfl rfl hP.1 (Nat.le_of_ble_eq_true rfl) (by omega) rfl rfl (fun v h2 hq => ?_)
  obtain ⟨rfl, e9⟩ := hq
  rw [e9]
  refine R_callV v_X3_tally (PT_tally t hP.2.1 h86 hP.2.1.1 (by omega)) dX9_step_11 l_RX9_168 rfl rfl t.choose_spec.choose_spec.1.1 (Nat.le_of_ble_eq_true rfl) (by omega) rfl rfl (fun v h3 hq => ?_)
  obtain ⟨rfl, ⟨st, t3⟩, o3⟩ := hq
  have x3 := x.scr (x.2.2.2.2.2.2.2.pt t3.any o3) o3 (by omega)
  have o3' : Out h h3 X (X + 1830) := o3.mono (by omega) (by omega)
  refine R_aload_n dX9_step_14 rfl ?_
  refine R_get K_9 (f := 14) (by decide) dX9_step_15 f_RX9_84 x3.1 rfl ?_
  refine R_iconst (v := nI 0) dX9_step_18 (by decide) ?_
  -- X9_step: ('call', 19, '.invokevirtual', 172)
  refine R_callV v_X3_ranked (PT_ranked t3 hP.2.1.1 (i := 0) (by decide)) dX9_step_19 l_RX9_172 rfl rfl t3.1.1 (Nat.le_of_ble_eq_true rfl) (by omega) rfl rfl (fun v h4 hq => ?_)
  obtain ⟨⟨r, rfl, hr⟩, e9⟩ := hq
  rw [e9]
  obtain ⟨r0, hp, hr0⟩ := pickS_ex (l := q.1)
  obtain rfl := hr.uniq hr0
  cases r with
  | none =>
    refine R_istore1 dX9_step_22 (by decide) ?_
    refine R_iload_n dX9_step_23 rfl ?_
    refine R_iconst (v := (-1)) dX9_step_24 (by decide) ?_
    refine R_icmp_ne (tgt := 30) dX9_step_25 (by decide) (fun c25 => ?_) (fun c25 => ?_)
    -- X9_step: ('branch', 25, 30, 28)
    · exact absurd rfl c25
    · refine R_iconst (v := (-1)) dX9_step_28 (by decide) ?_
      refine R_ireturn dX9_step_29 rfl rfl ?_
      -- X9_step: ('ret', 29)
      exact ⟨by rw [stepA, hp]; rfl, ⟨_, by rw [stepE, hp]; exact x3⟩, o3'⟩
  | some p =>
    have hp7 := (pickS_some hp).1
    rw [show oI 0 (some p) = nI p from by rw [oI, Nat.zero_add]]
    refine R_istore1 dX9_step_22 (by decide) ?_
    refine R_iload_n dX9_step_23 rfl ?_
    refine R_iconst (v := (-1)) dX9_step_24 (by decide) ?_
    refine R_icmp_ne (tgt := 30) dX9_step_25 (by decide) (fun c25 => ?_) (fun c25 => ?_)
    -- X9_step: ('branch', 25, 30, 28)
    · refine R_aload_n dX9_step_30 rfl ?_
      refine R_iload_n dX9_step_31 rfl ?_
      -- X9_step: ('call', 32, '.invokestatic', 175)
      refine R_callS s_X3_leftOf (PT_leftOf hp7) dX9_step_32 l_RX9_175 rfl rfl (Nat.le_of_ble_eq_true rfl) (by omega) rfl rfl (fun v h5 hq => ?_)
      obtain ⟨rfl, e9⟩ := hq
      rw [e9]
      refine R_iload_n dX9_step_35 rfl ?_
      -- X9_step: ('call', 36, '.invokestatic', 178)
      refine R_callS s_X3_rightOf (PT_rightOf hp7) dX9_step_36 l_RX9_178 rfl rfl (Nat.le_of_ble_eq_true rfl) (by omega) rfl rfl (fun v h6 hq => ?_)
      obtain ⟨rfl, e9⟩ := hq
      rw [e9]
      refine R_callV v_X9_join (PP_join x3 (a := p / 86) (b := p % 86) (by omega) (by omega)) dX9_step_39 l_RX9_181 rfl rfl x3.1 (Nat.le_of_ble_eq_true rfl) (by omega) rfl rfl (fun v h7 hq => ?_)
      obtain ⟨rfl, ⟨rd7, x7⟩, o7⟩ := hq
      refine R_ireturn dX9_step_42 rfl rfl ?_
      -- X9_step: ('ret', 42)
      exact ⟨by rw [stepA, hp]; rfl, ⟨_, by rw [stepE, hp]; exact x7⟩, o3'.trans o7⟩
    · exact absurd c25 (nI_ne_m1 (n := p) (by omega))
theorem PP_replace_no (x : PPAt E h X rd q ds im md tp ph fk fp) {a b : Int32} (hn : ¬ (sgI q.2 a ∧ sgI q.2 b)) : Spec E k_X9_replace 6 0 0 [.ref X, .int a, .int b] h (fun v h' => v = some (.int (-2)) ∧ h' = h) := by
  have hP := x.2.1
  refine Spec.of (by decide +kernel) (by simp [Value.category]) (Nat.le_of_ble_eq_true rfl) ?_
  show WP E k_X9_replace 6 0 0 0 [some (.ref X), some (.int a), some (.int b)] [] h _
  refine R_aload_n dX9_replace_0 rfl ?_
  refine R_get K_9 (f := 0) (by decide) dX9_replace_1 f_RX9_12 x.1 rfl ?_
  refine R_iload_n dX9_replace_4 rfl ?_
  -- X9_replace: ('call', 5, '.invokevirtual', 188)
  refine R_callV v_X2_has (Pack_has_any hP a) dX9_replace_5 l_RX9_188 rfl rfl hP.1 (Nat.le_of_ble_eq_true rfl) (by omega) rfl rfl (fun v h2 hq => ?_)
  obtain ⟨rfl, e9⟩ := hq
  rw [e9]
  by_cases ha : sgI q.2 a
  · rw [if_pos ha]
    refine R_if_eq_N (tgt := 22) dX9_replace_8 (by decide) (by omega) (fun c8 => ?_) (fun c8 => ?_)
    -- X9_replace: ('branch', 8, 22, 11)
    · exact absurd c8 (by decide)
    · refine R_aload_n dX9_replace_11 rfl ?_
      refine R_get K_9 (f := 0) (by decide) dX9_replace_12 f_RX9_12 x.1 rfl ?_
      refine R_iload_n dX9_replace_15 rfl ?_
      -- X9_replace: ('call', 16, '.invokevirtual', 188)
      refine R_callV v_X2_has (Pack_has_any hP b) dX9_replace_16 l_RX9_188 rfl rfl hP.1 (Nat.le_of_ble_eq_true rfl) (by omega) rfl rfl (fun v h3 hq => ?_)
      obtain ⟨rfl, e9⟩ := hq
      rw [e9, if_neg (fun z => hn ⟨ha, z⟩)]
      refine R_if_ne_N (tgt := 25) dX9_replace_19 (by decide) (by omega) (fun c19 => ?_) (fun c19 => ?_)
      -- X9_replace: ('branch', 19, 25, 22)
      · exact absurd rfl c19
      · refine R_bipush (v := (-2)) dX9_replace_22 (by decide) ?_
        refine R_ireturn dX9_replace_24 rfl rfl ?_
        -- X9_replace: ('ret', 24)
        exact ⟨rfl, rfl⟩
  · rw [if_neg ha]
    refine R_if_eq_N (tgt := 22) dX9_replace_8 (by decide) (by omega) (fun c8 => ?_) (fun c8 => ?_)
    -- X9_replace: ('branch', 8, 22, 11)
    · refine R_bipush (v := (-2)) dX9_replace_22 (by decide) ?_
      refine R_ireturn dX9_replace_24 rfl rfl ?_
      -- X9_replace: ('ret', 24)
      exact ⟨rfl, rfl⟩
    · exact absurd rfl c8
def replA (q : Pk) (a b : Nat) : Int32 := if cntG q.1 a b = 0 then -5 else jnA q a b
def replE (q : Pk) (ds : List Pk) (a b : Nat) : Pk × List Pk := if cntG q.1 a b = 0 then (q, ds) else jnE q ds a b
theorem PP_replace (x : PPAt E h X rd q ds im md tp ph fk fp) (hq : PkOk q) {a b : Nat} (ha : isSg q.2 a) (hb : isSg q.2 b) : Spec E k_X9_replace 6 0 0 [.ref X, .int (nI a), .int (nI b)] h (fun v h' => v = some (.int (replA q a b)) ∧ (∃ rd, PPAt E h' X rd (replE q ds a b).1 (replE q ds a b).2 im md tp ph fk fp) ∧ Out h h' X (X + 1830)) := by
  have hP := x.2.1
  have t := x.2.2.2.2.2.2.2.2.2.2.1
  have h86 : ∀ y ∈ q.1, y < 86 := fun y hy => isSg_lt (hq.2.1 y hy)
  have ha2 := isSg_lt ha
  have hb2 := isSg_lt hb
  have hcl : cntG q.1 a b ≤ 240 := Nat.le_trans cntG_le hP.2.1.1
  refine Spec.of (by decide +kernel) (by simp [Value.category]) (Nat.le_of_ble_eq_true rfl) ?_
  show WP E k_X9_replace 6 0 0 0 [some (.ref X), some (.int (nI a)), some (.int (nI b))] [] h _
  refine R_aload_n dX9_replace_0 rfl ?_
  refine R_get K_9 (f := 0) (by decide) dX9_replace_1 f_RX9_12 x.1 rfl ?_
  refine R_iload_n dX9_replace_4 rfl ?_
  -- X9_replace: ('call', 5, '.invokevirtual', 188)
  refine R_callV v_X2_has (Pack_has hP (by omega)) dX9_replace_5 l_RX9_188 rfl rfl hP.1 (Nat.le_of_ble_eq_true rfl) (by omega) rfl rfl (fun v h2 hq => ?_)
  obtain ⟨rfl, e9⟩ := hq
  rw [e9, if_pos ha]
  refine R_if_eq_N (tgt := 22) dX9_replace_8 (by decide) (by omega) (fun c8 => ?_) (fun c8 => ?_)
  -- X9_replace: ('branch', 8, 22, 11)
  · exact absurd c8 (by decide)
  · refine R_aload_n dX9_replace_11 rfl ?_
    refine R_get K_9 (f := 0) (by decide) dX9_replace_12 f_RX9_12 x.1 rfl ?_
    refine R_iload_n dX9_replace_15 rfl ?_
    -- X9_replace: ('call', 16, '.invokevirtual', 188)
    refine R_callV v_X2_has (Pack_has hP (by omega)) dX9_replace_16 l_RX9_188 rfl rfl hP.1 (Nat.le_of_ble_eq_true rfl) (by omega) rfl rfl (fun v h3 hq => ?_)
    obtain ⟨rfl, e9⟩ := hq
    rw [e9, if_pos hb]
    refine R_if_ne_N (tgt := 25) dX9_replace_19 (by decide) (by omega) (fun c19 => ?_) (fun c19 => ?_)
    -- X9_replace: ('branch', 19, 25, 22)
    · refine R_aload_n dX9_replace_25 rfl ?_
      refine R_get K_9 (f := 14) (by decide) dX9_replace_26 f_RX9_84 x.1 rfl ?_
      refine R_aload_n dX9_replace_29 rfl ?_
      refine R_get K_9 (f := 0) (by decide) dX9_replace_30 f_RX9_12 x.1 rfl ?_
      -- X9_replace: ('call', 33, '.invokevirtual', 135)
      refine R_callV v_X2_sequence (Pack_sequence hP) dX9_replace_33 l_RX9_135 rfl rfl hP.1 (Nat.le_of_ble_eq_true rfl) (by omega) rfl rfl (fun v h4 hq => ?_)
      obtain ⟨rfl, e9⟩ := hq
      rw [e9]
      refine R_callV v_X3_tally (PT_tally t hP.2.1 h86 hP.2.1.1 (by omega)) dX9_replace_36 l_RX9_168 rfl rfl t.choose_spec.choose_spec.1.1 (Nat.le_of_ble_eq_true rfl) (by omega) rfl rfl (fun v h5 hq => ?_)
      obtain ⟨rfl, ⟨st, t3⟩, o3⟩ := hq
      have x3 := x.scr (x.2.2.2.2.2.2.2.pt t3.any o3) o3 (by omega)
      refine R_aload_n dX9_replace_39 rfl ?_
      refine R_get K_9 (f := 14) (by decide) dX9_replace_40 f_RX9_84 x3.1 rfl ?_
      refine R_iload_n dX9_replace_43 rfl ?_
      refine R_iload_n dX9_replace_44 rfl ?_
      -- X9_replace: ('call', 45, '.invokevirtual', 191)
      refine R_callV v_X3_countOf (PT_countOf t3.1 ha2 hb2) dX9_replace_45 l_RX9_191 rfl rfl t3.1.1 (Nat.le_of_ble_eq_true rfl) (by omega) rfl rfl (fun v h6 hq => ?_)
      obtain ⟨rfl, e9⟩ := hq
      rw [e9, pcf_at hb2]
      refine R_if_ne_N (tgt := 54) dX9_replace_48 (by decide) (by omega) (fun c48 => ?_) (fun c48 => ?_)
      -- X9_replace: ('branch', 48, 54, 51)
      · refine R_aload_n dX9_replace_54 rfl ?_
        refine R_iload_n dX9_replace_55 rfl ?_
        refine R_iload_n dX9_replace_56 rfl ?_
        -- X9_replace: ('call', 57, '.invokevirtual', 181)
        refine R_callV v_X9_join (PP_join x3 (a := a) (b := b) (by omega) (by omega)) dX9_replace_57 l_RX9_181 rfl rfl x3.1 (Nat.le_of_ble_eq_true rfl) (by omega) rfl rfl (fun v h7 hq => ?_)
        obtain ⟨rfl, ⟨rd7, x7⟩, o7⟩ := hq
        refine R_ireturn dX9_replace_60 rfl rfl ?_
        -- X9_replace: ('ret', 60)
        exact ⟨by rw [replA, if_neg c48], ⟨_, by rw [replE, if_neg c48]; exact x7⟩, (o3.mono (by omega) (by omega)).trans o7⟩
      · refine R_bipush (v := (-5)) dX9_replace_51 (by decide) ?_
        refine R_ireturn dX9_replace_53 rfl rfl ?_
        -- X9_replace: ('ret', 53)
        exact ⟨by rw [replA, if_pos c48], ⟨_, by rw [replE, if_pos c48]; exact x3⟩, o3.mono (by omega) (by omega)⟩
    · exact absurd c19 (by decide)
theorem PP_packBest (x : PPAt E h X 0 q ds im md tp ph fk fp) (hq : PkOk q) : Spec E k_X9_packBest 5 0 0 [.ref X] h (fun v h' => v = some (.int (nI (if (pkStep q).isSome then 1 else 0))) ∧ PPAt E h' X 0 ((pkStep q).getD q) ds im md tp ph fk fp ∧ Out h h' X (X + 1830)) := by
  have t := x.2.2.2.2.2.2.2.2.2.2.1
  have hP := x.2.1
  have h86 : ∀ y ∈ q.1, y < 86 := fun y hy => isSg_lt (hq.2.1 y hy)
  refine Spec.of (by decide +kernel) (by simp [Value.category]) (Nat.le_of_ble_eq_true rfl) ?_
  show WP E k_X9_packBest 5 0 0 0 [some (.ref X), none] [] h _
  refine R_aload_n dX9_packBest_0 rfl ?_
  refine R_get K_9 (f := 14) (by decide) dX9_packBest_1 f_RX9_84 x.1 rfl ?_
  refine R_aload_n dX9_packBest_4 rfl ?_
  refine R_get K_9 (f := 0) (by decide) dX9_packBest_5 f_RX9_12 x.1 rfl ?_
  -- X9_packBest: ('call', 8, '.invokevirtual', 135)
  refine R_callV v_X2_sequence (Pack_sequence hP) dX9_packBest_8 l_RX9_135 rfl rfl hP.1 (Nat.le_of_ble_eq_true rfl) (by omega) rfl rfl (fun v h2 hq => ?_)
  obtain ⟨rfl, e9⟩ := hq
  rw [e9]
  refine R_callV v_X3_tally (PT_tally t hP.2.1 h86 hP.2.1.1 (by omega)) dX9_packBest_11 l_RX9_168 rfl rfl t.choose_spec.choose_spec.1.1 (Nat.le_of_ble_eq_true rfl) (by omega) rfl rfl (fun v h3 hq => ?_)
  obtain ⟨rfl, ⟨st, t3⟩, o3⟩ := hq
  have x3 := x.scr (x.2.2.2.2.2.2.2.pt t3.any o3) o3 (by omega)
  have o3' : Out h h3 X (X + 1830) := o3.mono (by omega) (by omega)
  refine R_aload_n dX9_packBest_14 rfl ?_
  refine R_get K_9 (f := 14) (by decide) dX9_packBest_15 f_RX9_84 x3.1 rfl ?_
  refine R_iconst (v := nI 0) dX9_packBest_18 (by decide) ?_
  -- X9_packBest: ('call', 19, '.invokevirtual', 172)
  refine R_callV v_X3_ranked (PT_ranked t3 hP.2.1.1 (i := 0) (by decide)) dX9_packBest_19 l_RX9_172 rfl rfl t3.1.1 (Nat.le_of_ble_eq_true rfl) (by omega) rfl rfl (fun v h4 hq => ?_)
  obtain ⟨⟨r, rfl, hr⟩, e9⟩ := hq
  rw [e9]
  obtain ⟨r0, hp, hr0⟩ := pickS_ex (l := q.1)
  obtain rfl := hr.uniq hr0
  cases r with
  | none =>
    refine R_istore1 dX9_packBest_22 (by decide) ?_
    refine R_iload_n dX9_packBest_23 rfl ?_
    refine R_iconst (v := (-1)) dX9_packBest_24 (by decide) ?_
    refine R_icmp_eq (tgt := 51) dX9_packBest_25 (by decide) (fun c25 => ?_) (fun c25 => ?_)
    -- X9_packBest: ('branch', 25, 51, 28)
    · refine R_iconst (v := nI 0) dX9_packBest_51 (by decide) ?_
      refine R_ireturn dX9_packBest_52 rfl (by rfl) ?_
      -- X9_packBest: ('ret', 52)
      exact ⟨by rw [pkStep_0 hp]; rfl, by rw [pkStep_0 hp]; exact x3, o3'⟩
    · exact absurd rfl c25
  | some p =>
    have hp7 := (pickS_some hp).1
    rw [show oI 0 (some p) = nI p from by rw [oI, Nat.zero_add]]
    refine R_istore1 dX9_packBest_22 (by decide) ?_
    refine R_iload_n dX9_packBest_23 rfl ?_
    refine R_iconst (v := (-1)) dX9_packBest_24 (by decide) ?_
    refine R_icmp_eq (tgt := 51) dX9_packBest_25 (by decide) (fun c25 => ?_) (fun c25 => ?_)
    -- X9_packBest: ('branch', 25, 51, 28)
    · exact absurd c25 (nI_ne_m1 (n := p) (by omega))
    · refine R_aload_n dX9_packBest_28 rfl ?_
      refine R_get K_9 (f := 0) (by decide) dX9_packBest_29 f_RX9_12 x3.1 rfl ?_
      refine R_iload_n dX9_packBest_32 rfl ?_
      -- X9_packBest: ('call', 33, '.invokestatic', 175)
      refine R_callS s_X3_leftOf (PT_leftOf hp7) dX9_packBest_33 l_RX9_175 rfl rfl (Nat.le_of_ble_eq_true rfl) (by omega) rfl rfl (fun v h5 hq => ?_)
      obtain ⟨rfl, e9⟩ := hq
      rw [e9]
      refine R_iload_n dX9_packBest_36 rfl ?_
      -- X9_packBest: ('call', 37, '.invokestatic', 178)
      refine R_callS s_X3_rightOf (PT_rightOf hp7) dX9_packBest_37 l_RX9_178 rfl rfl (Nat.le_of_ble_eq_true rfl) (by omega) rfl rfl (fun v h6 hq => ?_)
      obtain ⟨rfl, e9⟩ := hq
      rw [e9]
      cases hs : signS q.2 (p / 86) (p % 86) with
      | none =>
        refine R_callV v_X2_joinPair (Pack_joinPair_none x3.2.1 (a := p / 86) (b := p % 86) (by omega) (by omega) hs) dX9_packBest_40 l_RX9_372 rfl rfl x3.2.1.1 (Nat.le_of_ble_eq_true rfl) (by omega) rfl rfl (fun v h7 hq => ?_)
        obtain ⟨rfl, e9⟩ := hq
        rw [e9]
        refine R_iconst (v := (-1)) dX9_packBest_43 (by decide) ?_
        refine R_icmp_eq (tgt := 51) dX9_packBest_44 (by decide) (fun c44 => ?_) (fun c44 => ?_)
        -- X9_packBest: ('branch', 44, 51, 47)
        · refine R_iconst (v := nI 0) dX9_packBest_51 (by decide) ?_
          refine R_ireturn dX9_packBest_52 rfl (by rfl) ?_
          -- X9_packBest: ('ret', 52)
          exact ⟨by rw [pkStep_1 hp hs]; rfl, by rw [pkStep_1 hp hs]; exact x3, o3'⟩
        · exact absurd rfl c44
      | some i =>
        have hi := signS_lt hs
        refine R_callV v_X2_joinPair (Pack_joinPair x3.2.1 (a := p / 86) (b := p % 86) (by omega) (by omega) hs) dX9_packBest_40 l_RX9_372 rfl rfl x3.2.1.1 (Nat.le_of_ble_eq_true rfl) (by omega) rfl rfl (fun v h7 hq => ?_)
        obtain ⟨rfl, hP7, o7⟩ := hq
        have x7 := (PPC.of x3).setPk (q2 := jnP q (p / 86) (p % 86) i) hP7 o7
        refine R_iconst (v := (-1)) dX9_packBest_43 (by decide) ?_
        refine R_icmp_eq (tgt := 51) dX9_packBest_44 (by decide) (fun c44 => ?_) (fun c44 => ?_)
        -- X9_packBest: ('branch', 44, 51, 47)
        · exact absurd c44 (nI_ne_m1 (n := 26 + i) (by omega))
        · refine R_iconst (v := nI 1) dX9_packBest_47 (by decide) ?_
          refine R_goto (tgt := 52) dX9_packBest_48 (by decide) ?_
          refine R_ireturn dX9_packBest_52 rfl (by rfl) ?_
          -- X9_packBest: ('ret', 52)
          exact ⟨by rw [pkStep_2 hp hs]; rfl, by rw [pkStep_2 hp hs]; exact x7.lo, o3'.trans (o7.mono (by omega) (by omega))⟩
theorem PP_pack (x : PPAt E h X rd q ds im md tp ph fk fp) (hq : PkOk q) : Spec E k_X9_pack 6 0 0 [.ref X] h (fun v h' => v = some (.int (nI (packF 240 q).2)) ∧ (∃ rd, PPAt E h' X rd (packF 240 q).1 (pushD ds q) im md tp ph fk fp) ∧ Out h h' X (X + 1830)) := by
  have hP := x.2.1
  obtain ⟨nx, ks, hQ, hk⟩ := id x.2.2.1
  refine Spec.of (by decide +kernel) (by simp [Value.category]) (Nat.le_of_ble_eq_true rfl) ?_
  show WP E k_X9_pack 6 0 0 0 [some (.ref X), none] [] h _
  have loop : ∀ m t q2 h2, t + m = 240 → PkOk q2 → PPAt E h2 X 0 q2 (pushD ds q) im md tp ph fk fp → Out h h2 X (X + 1830) → WP E k_X9_pack 6 0 0 18 [some (.ref X), some (.int (nI t))] [] h2 (fun v h' => v = some (.int (nI (t + (packF m q2).2))) ∧ (∃ rd, PPAt E h' X rd (packF m q2).1 (pushD ds q) im md tp ph fk fp) ∧ Out h h' X (X + 1830)) := by
    intro m
    induction m with
    | zero =>
      intro t q2 h2 ht hok x2 o2
      refine R_iload_n dX9_pack_18 rfl ?_
      refine R_sipush (v := nI 240) dX9_pack_19 (by decide) ?_
      refine R_icmp_ge_N (tgt := 38) dX9_pack_22 (by decide) (by omega) (by omega) (fun c22 => ?_) (fun c22 => ?_)
      -- X9_pack: ('branch', 22, 38, 25)
      · refine R_iload_n dX9_pack_38 rfl ?_
        refine R_ireturn dX9_pack_39 rfl rfl ?_
        -- X9_pack: ('ret', 39)
        exact ⟨rfl, ⟨_, x2⟩, o2⟩
      · exact absurd c22 (by omega)
    | succ m ih =>
      intro t q2 h2 ht hok x2 o2
      refine R_iload_n dX9_pack_18 rfl ?_
      refine R_sipush (v := nI 240) dX9_pack_19 (by decide) ?_
      refine R_icmp_ge_N (tgt := 38) dX9_pack_22 (by decide) (by omega) (by omega) (fun c22 => ?_) (fun c22 => ?_)
      -- X9_pack: ('branch', 22, 38, 25)
      · exact absurd c22 (by omega)
      · refine R_aload_n dX9_pack_25 rfl ?_
        -- X9_pack: ('call', 26, '.invokevirtual', 184)
        refine R_callV v_X9_packBest (PP_packBest x2 hok) dX9_pack_26 l_RX9_184 rfl rfl x2.1 (Nat.le_of_ble_eq_true rfl) (by omega) rfl rfl (fun v h3 hq => ?_)
        obtain ⟨rfl, x3, o3⟩ := hq
        cases hs : pkStep q2 with
        | none =>
          rw [hs] at x3
          rw [show (none : Option Pk).isSome = false from rfl, if_neg (by decide)]
          refine R_if_eq_N (tgt := 38) dX9_pack_29 (by decide) (by omega) (fun c29 => ?_) (fun c29 => ?_)
          -- X9_pack: ('branch', 29, 38, 32)
          · refine R_iload_n dX9_pack_38 rfl ?_
            refine R_ireturn dX9_pack_39 rfl rfl ?_
            -- X9_pack: ('ret', 39)
            exact ⟨by rw [packF_none hs]; rfl, ⟨_, by rw [packF_none hs]; exact x3⟩, o2.trans o3⟩
          · exact absurd rfl c29
        | some q3 =>
          rw [hs] at x3
          rw [show (some q3).isSome = true from rfl, if_pos rfl]
          refine R_if_eq_N (tgt := 38) dX9_pack_29 (by decide) (by omega) (fun c29 => ?_) (fun c29 => ?_)
          -- X9_pack: ('branch', 29, 38, 32)
          · exact absurd c29 (by decide)
          · refine R_iinc1 dX9_pack_32 (by decide) (nI_inc _ 1) ?_
            refine R_goto (tgt := 18) dX9_pack_35 (by decide) ?_
            -- X9_pack: ('stop', 18)
            have := ih (t + 1) q3 h3 (by omega) (pkStep_ok hok hs).1 x3 (o2.trans o3)
            rw [packF_some hs]
            rw [show t + ((packF m q3).2 + 1) = t + 1 + (packF m q3).2 by omega]
            exact this
  refine R_aload_n dX9_pack_0 rfl ?_
  refine R_get K_9 (f := 1) (by decide) dX9_pack_1 f_RX9_19 x.1 rfl ?_
  refine R_aload_n dX9_pack_4 rfl ?_
  refine R_get K_9 (f := 0) (by decide) dX9_pack_5 f_RX9_12 x.1 rfl ?_
  -- X9_pack: ('call', 8, '.invokevirtual', 128)
  refine R_callV v_X4_keep (Past_keep hQ hP (by omega)) dX9_pack_8 l_RX9_128 rfl rfl hQ.1 (Nat.le_of_ble_eq_true rfl) (by omega) rfl rfl (fun v h3 hq => ?_)
  obtain ⟨rfl, hQ3, o3⟩ := hq
  have x3 := (PPC.of x).kept hQ hk hQ3 o3
  refine R_aload_n dX9_pack_11 rfl ?_
  refine R_iconst (v := nI 0) dX9_pack_12 (by decide) ?_
  refine R_put_A K_9 (f := 11) (by decide) dX9_pack_13 f_RX9_71 rfl x3.1 (by rfl) (by rfl) (Nat.le_of_ble_eq_true rfl) ?_
  -- X9_pack: ('put', 16)
  intro h4 u4
  have x4 : PPC E h4 X 0 q q (pushD ds q) im md tp ph fk fp := x3.setObj (rd2 := 0) u4 x3.2.2.2.2.2.2.1.low
  refine R_iconst (v := nI 0) dX9_pack_16 (by decide) ?_
  refine R_istore1 dX9_pack_17 (by decide) ?_
  -- X9_pack: ('stop', 18)
  have := loop 240 0 q h4 rfl hq x4.lo ((o3.mono (by omega) (by omega)).trans (Out.upd u4 (by omega) (by omega)))
  rw [Nat.zero_add] at this
  exact this
theorem PP_drop_no (x : PPAt E h X rd q ds im md tp ph fk fp) {s : Int32} (hn : ¬ rlI q.2 s) : Spec E k_X9_drop 6 0 0 [.ref X, .int s] h (fun v h' => v = some (.int (-2)) ∧ h' = h) := by
  have hP := x.2.1
  refine Spec.of (by decide +kernel) (by simp [Value.category]) (Nat.le_of_ble_eq_true rfl) ?_
  show WP E k_X9_drop 6 0 0 0 [some (.ref X), some (.int s)] [] h _
  refine R_aload_n dX9_drop_0 rfl ?_
  refine R_get K_9 (f := 0) (by decide) dX9_drop_1 f_RX9_12 x.1 rfl ?_
  refine R_iload_n dX9_drop_4 rfl ?_
  -- X9_drop: ('call', 5, '.invokevirtual', 194)
  refine R_callV v_X2_isRule (Pack_isRule_any hP s) dX9_drop_5 l_RX9_194 rfl rfl hP.1 (Nat.le_of_ble_eq_true rfl) (by omega) rfl rfl (fun v h2 hq => ?_)
  obtain ⟨rfl, e9⟩ := hq
  rw [e9, if_neg hn]
  refine R_if_ne_N (tgt := 14) dX9_drop_8 (by decide) (by omega) (fun c8 => ?_) (fun c8 => ?_)
  -- X9_drop: ('branch', 8, 14, 11)
  · exact absurd rfl c8
  · refine R_bipush (v := (-2)) dX9_drop_11 (by decide) ?_
    refine R_ireturn dX9_drop_13 rfl rfl ?_
    -- X9_drop: ('ret', 13)
    exact ⟨rfl, rfl⟩
theorem PP_drop_cant (x : PPAt E h X rd q ds im md tp ph fk fp) {s : Nat} (hs : isRul q.2 s) (hg : ¬ canGo q.2 s) : Spec E k_X9_drop 6 0 0 [.ref X, .int (nI s)] h (fun v h' => v = some (.int (-5)) ∧ h' = h) := by
  have hP := x.2.1
  have h86 := hs.2.1
  refine Spec.of (by decide +kernel) (by simp [Value.category]) (Nat.le_of_ble_eq_true rfl) ?_
  show WP E k_X9_drop 6 0 0 0 [some (.ref X), some (.int (nI s))] [] h _
  refine R_aload_n dX9_drop_0 rfl ?_
  refine R_get K_9 (f := 0) (by decide) dX9_drop_1 f_RX9_12 x.1 rfl ?_
  refine R_iload_n dX9_drop_4 rfl ?_
  -- X9_drop: ('call', 5, '.invokevirtual', 194)
  refine R_callV v_X2_isRule (Pack_isRule hP (by omega)) dX9_drop_5 l_RX9_194 rfl rfl hP.1 (Nat.le_of_ble_eq_true rfl) (by omega) rfl rfl (fun v h2 hq => ?_)
  obtain ⟨rfl, e9⟩ := hq
  rw [e9, if_pos hs]
  refine R_if_ne_N (tgt := 14) dX9_drop_8 (by decide) (by omega) (fun c8 => ?_) (fun c8 => ?_)
  -- X9_drop: ('branch', 8, 14, 11)
  · refine R_aload_n dX9_drop_14 rfl ?_
    refine R_get K_9 (f := 0) (by decide) dX9_drop_15 f_RX9_12 x.1 rfl ?_
    refine R_iload_n dX9_drop_18 rfl ?_
    -- X9_drop: ('call', 19, '.invokevirtual', 197)
    refine R_callV v_X2_canGiveUp (Pack_canGiveUp hP hs) dX9_drop_19 l_RX9_197 rfl rfl hP.1 (Nat.le_of_ble_eq_true rfl) (by omega) rfl rfl (fun v h3 hq => ?_)
    obtain ⟨rfl, e9⟩ := hq
    rw [e9, if_neg hg]
    refine R_if_ne_N (tgt := 28) dX9_drop_22 (by decide) (by omega) (fun c22 => ?_) (fun c22 => ?_)
    -- X9_drop: ('branch', 22, 28, 25)
    · exact absurd rfl c22
    · refine R_bipush (v := (-5)) dX9_drop_25 (by decide) ?_
      refine R_ireturn dX9_drop_27 rfl rfl ?_
      -- X9_drop: ('ret', 27)
      exact ⟨rfl, rfl⟩
  · exact absurd c8 (by decide)
theorem PP_drop (x : PPAt E h X rd q ds im md tp ph fk fp) (hq : PkOk q) {s : Nat} (hs : isRul q.2 s) (hg : canGo q.2 s) : Spec E k_X9_drop 6 0 0 [.ref X, .int (nI s)] h (fun v h' => v = some (.int (nI (sizeS (drP q s).1 (drP q s).2))) ∧ (∃ rd, PPAt E h' X rd (drP q s) (pushD ds q) im md tp ph fk fp) ∧ Out h h' X (X + 1830)) := by
  have hP := x.2.1
  have h86 := hs.2.1
  obtain ⟨nx, ks, hQ, hk⟩ := id x.2.2.1
  have hself := List.count_eq_zero.mpr (acy_self hq.1.1 hs)
  refine Spec.of (by decide +kernel) (by simp [Value.category]) (Nat.le_of_ble_eq_true rfl) ?_
  show WP E k_X9_drop 6 0 0 0 [some (.ref X), some (.int (nI s))] [] h _
  refine R_aload_n dX9_drop_0 rfl ?_
  refine R_get K_9 (f := 0) (by decide) dX9_drop_1 f_RX9_12 x.1 rfl ?_
  refine R_iload_n dX9_drop_4 rfl ?_
  -- X9_drop: ('call', 5, '.invokevirtual', 194)
  refine R_callV v_X2_isRule (Pack_isRule hP (by omega)) dX9_drop_5 l_RX9_194 rfl rfl hP.1 (Nat.le_of_ble_eq_true rfl) (by omega) rfl rfl (fun v h2 hq => ?_)
  obtain ⟨rfl, e9⟩ := hq
  rw [e9, if_pos hs]
  refine R_if_ne_N (tgt := 14) dX9_drop_8 (by decide) (by omega) (fun c8 => ?_) (fun c8 => ?_)
  -- X9_drop: ('branch', 8, 14, 11)
  · refine R_aload_n dX9_drop_14 rfl ?_
    refine R_get K_9 (f := 0) (by decide) dX9_drop_15 f_RX9_12 x.1 rfl ?_
    refine R_iload_n dX9_drop_18 rfl ?_
    -- X9_drop: ('call', 19, '.invokevirtual', 197)
    refine R_callV v_X2_canGiveUp (Pack_canGiveUp hP hs) dX9_drop_19 l_RX9_197 rfl rfl hP.1 (Nat.le_of_ble_eq_true rfl) (by omega) rfl rfl (fun v h3 hq => ?_)
    obtain ⟨rfl, e9⟩ := hq
    rw [e9, if_pos hg]
    refine R_if_ne_N (tgt := 28) dX9_drop_22 (by decide) (by omega) (fun c22 => ?_) (fun c22 => ?_)
    -- X9_drop: ('branch', 22, 28, 25)
    · refine R_aload_n dX9_drop_28 rfl ?_
      refine R_get K_9 (f := 1) (by decide) dX9_drop_29 f_RX9_19 x.1 rfl ?_
      refine R_aload_n dX9_drop_32 rfl ?_
      refine R_get K_9 (f := 0) (by decide) dX9_drop_33 f_RX9_12 x.1 rfl ?_
      -- X9_drop: ('call', 36, '.invokevirtual', 128)
      refine R_callV v_X4_keep (Past_keep hQ hP (by omega)) dX9_drop_36 l_RX9_128 rfl rfl hQ.1 (Nat.le_of_ble_eq_true rfl) (by omega) rfl rfl (fun v h3 hq => ?_)
      obtain ⟨rfl, hQ3, o3⟩ := hq
      have x3 := (PPC.of x).kept hQ hk hQ3 o3
      refine R_aload_n dX9_drop_39 rfl ?_
      refine R_get K_9 (f := 0) (by decide) dX9_drop_40 f_RX9_12 x3.1 rfl ?_
      refine R_iload_n dX9_drop_43 rfl ?_
      -- X9_drop: ('call', 44, '.invokevirtual', 200)
      refine R_callV v_X2_giveUp (Pack_giveUp x3.2.1 hs (hq.dropLen hs) hg hself) dX9_drop_44 l_RX9_200 rfl rfl x3.2.1.1 (Nat.le_of_ble_eq_true rfl) (by omega) rfl rfl (fun v h5 hq => ?_)
      obtain ⟨rfl, hP5, o5⟩ := hq
      have x5 := x3.setPk (q2 := drP q s) hP5 o5
      refine R_aload_n dX9_drop_47 rfl ?_
      refine R_iconst (v := nI 0) dX9_drop_48 (by decide) ?_
      refine R_put_A K_9 (f := 11) (by decide) dX9_drop_49 f_RX9_71 rfl x5.1 (by rfl) (by rfl) (Nat.le_of_ble_eq_true rfl) ?_
      -- X9_drop: ('put', 52)
      intro h6 u6
      have x6 : PPC E h6 X 0 (drP q s) q (pushD ds q) im md tp ph fk fp := x5.setObj (rd2 := 0) u6 x5.2.2.2.2.2.2.1.low
      refine R_aload_n dX9_drop_52 rfl ?_
      refine R_get K_9 (f := 0) (by decide) dX9_drop_53 f_RX9_12 x6.1 rfl ?_
      -- X9_drop: ('call', 56, '.invokevirtual', 203)
      refine R_callV v_X2_size (Pack_size x6.2.1) dX9_drop_56 l_RX9_203 rfl rfl x6.2.1.1 (Nat.le_of_ble_eq_true rfl) (by omega) rfl rfl (fun v h7 hq => ?_)
      obtain ⟨rfl, e9⟩ := hq
      rw [e9]
      refine R_ireturn dX9_drop_59 rfl rfl ?_
      -- X9_drop: ('ret', 59)
      exact ⟨rfl, ⟨0, x6.lo⟩, ((o3.mono (by omega) (by omega)).trans (o5.mono (by omega) (by omega))).trans (Out.upd u6 (by omega) (by omega))⟩
    · exact absurd c22 (by decide)
  · exact absurd c8 (by decide)
theorem PP_trim (x : PPAt E h X rd q ds im md tp ph fk fp) (hq : PkOk q) : Spec E k_X9_trim 6 0 0 [.ref X] h (fun v h' => v = some (.int (nI (trimF 60 q).2)) ∧ (∃ rd, PPAt E h' X rd (trimF 60 q).1 (pushD ds q) im md tp ph fk fp) ∧ Out h h' X (X + 1830)) := by
  have hP := x.2.1
  obtain ⟨nx, ks, hQ, hk⟩ := id x.2.2.1
  refine Spec.of (by decide +kernel) (by simp [Value.category]) (Nat.le_of_ble_eq_true rfl) ?_
  show WP E k_X9_trim 6 0 0 0 [some (.ref X), none, none, none] [] h _
  have loop : ∀ m t q2 h2 (z : Option Value), t + m = 60 → PkOk q2 → PPAt E h2 X 0 q2 (pushD ds q) im md tp ph fk fp → Out h h2 X (X + 1830) → WP E k_X9_trim 6 0 0 20 [some (.ref X), some (.int (nI t)), some (.int (nI t)), z] [] h2 (fun v h' => v = some (.int (nI (t + (trimF m q2).2))) ∧ (∃ rd, PPAt E h' X rd (trimF m q2).1 (pushD ds q) im md tp ph fk fp) ∧ Out h h' X (X + 1830)) := by
    intro m
    induction m with
    | zero =>
      intro t q2 h2 z ht hok x2 o2
      refine R_iload_n dX9_trim_20 rfl ?_
      refine R_bipush (v := nI 60) dX9_trim_21 (by decide) ?_
      refine R_icmp_ge_N (tgt := 58) dX9_trim_23 (by decide) (by omega) (by omega) (fun c23 => ?_) (fun c23 => ?_)
      -- X9_trim: ('branch', 23, 58, 26)
      · refine R_iload_n dX9_trim_58 rfl ?_
        refine R_ireturn dX9_trim_59 rfl rfl ?_
        -- X9_trim: ('ret', 59)
        exact ⟨rfl, ⟨_, x2⟩, o2⟩
      · exact absurd c23 (by omega)
    | succ m ih =>
      intro t q2 h2 z ht hok x2 o2
      refine R_iload_n dX9_trim_20 rfl ?_
      refine R_bipush (v := nI 60) dX9_trim_21 (by decide) ?_
      refine R_icmp_ge_N (tgt := 58) dX9_trim_23 (by decide) (by omega) (by omega) (fun c23 => ?_) (fun c23 => ?_)
      -- X9_trim: ('branch', 23, 58, 26)
      · exact absurd c23 (by omega)
      · refine R_aload_n dX9_trim_26 rfl ?_
        refine R_get K_9 (f := 0) (by decide) dX9_trim_27 f_RX9_12 x2.1 rfl ?_
        -- X9_trim: ('call', 30, '.invokevirtual', 204)
        refine R_callV v_X2_leastIdle (Pack_leastIdle x2.2.1) dX9_trim_30 l_RX9_204 rfl rfl x2.2.1.1 (Nat.le_of_ble_eq_true rfl) (by omega) rfl rfl (fun v h3 hq => ?_)
        obtain ⟨rfl, e9⟩ := hq
        rw [e9]
        cases hs : idleS q2.1 q2.2 with
        | none =>
          refine R_istore3 dX9_trim_33 (by decide) ?_
          refine R_iload_n dX9_trim_34 rfl ?_
          refine R_iconst (v := (-1)) dX9_trim_35 (by decide) ?_
          refine R_icmp_ne (tgt := 41) dX9_trim_36 (by decide) (fun c36 => ?_) (fun c36 => ?_)
          -- X9_trim: ('branch', 36, 41, 39)
          · exact absurd rfl c36
          · refine R_iload_n dX9_trim_39 rfl ?_
            refine R_ireturn dX9_trim_40 rfl rfl ?_
            -- X9_trim: ('ret', 40)
            exact ⟨by rw [trimF_none hs]; rfl, ⟨_, by rw [trimF_none hs]; exact x2⟩, o2⟩
        | some i =>
          have hR := (idle_rul hs).1
          have hi := hR.2.1
          refine R_istore3 dX9_trim_33 (by decide) ?_
          refine R_iload_n dX9_trim_34 rfl ?_
          refine R_iconst (v := (-1)) dX9_trim_35 (by decide) ?_
          refine R_icmp_ne (tgt := 41) dX9_trim_36 (by decide) (fun c36 => ?_) (fun c36 => ?_)
          -- X9_trim: ('branch', 36, 41, 39)
          · refine R_aload_n dX9_trim_41 rfl ?_
            refine R_get K_9 (f := 0) (by decide) dX9_trim_42 f_RX9_12 x2.1 rfl ?_
            refine R_iload_n dX9_trim_45 rfl ?_
            -- X9_trim: ('call', 46, '.invokevirtual', 200)
            refine R_callV v_X2_giveUp (Pack_giveUp x2.2.1 hR (hok.dropLen hR) (idle_go hs x2.rows.2) (List.count_eq_zero.mpr (acy_self hok.1.1 hR))) dX9_trim_46 l_RX9_200 rfl rfl x2.2.1.1 (Nat.le_of_ble_eq_true rfl) (by omega) rfl rfl (fun v h5 hq => ?_)
            obtain ⟨rfl, hP5, o5⟩ := hq
            have x5 := ((PPC.of x2).setPk (q2 := drP q2 (26 + i)) hP5 o5).lo
            refine R_iinc1 dX9_trim_49 (by decide) (nI_inc _ 1) ?_
            refine R_iinc2 dX9_trim_52 (by decide) (nI_inc _ 1) ?_
            refine R_goto (tgt := 20) dX9_trim_55 (by decide) ?_
            -- X9_trim: ('stop', 20)
            have := ih (t + 1) (drP q2 (26 + i)) h5 (some (.int (nI (26 + i)))) (by omega) (hok.drop hR) x5 (o2.trans (o5.mono (by omega) (by omega)))
            rw [trimF_some hs]
            rw [show t + ((trimF m (drP q2 (26 + i))).2 + 1) = t + 1 + (trimF m (drP q2 (26 + i))).2 by omega]
            exact this
          · exact absurd c36 (nI_ne_m1 (n := 26 + i) (by omega))
  refine R_aload_n dX9_trim_0 rfl ?_
  refine R_get K_9 (f := 1) (by decide) dX9_trim_1 f_RX9_19 x.1 rfl ?_
  refine R_aload_n dX9_trim_4 rfl ?_
  refine R_get K_9 (f := 0) (by decide) dX9_trim_5 f_RX9_12 x.1 rfl ?_
  -- X9_trim: ('call', 8, '.invokevirtual', 128)
  refine R_callV v_X4_keep (Past_keep hQ hP (by omega)) dX9_trim_8 l_RX9_128 rfl rfl hQ.1 (Nat.le_of_ble_eq_true rfl) (by omega) rfl rfl (fun v h3 hq => ?_)
  obtain ⟨rfl, hQ3, o3⟩ := hq
  have x3 := (PPC.of x).kept hQ hk hQ3 o3
  refine R_aload_n dX9_trim_11 rfl ?_
  refine R_iconst (v := nI 0) dX9_trim_12 (by decide) ?_
  refine R_put_A K_9 (f := 11) (by decide) dX9_trim_13 f_RX9_71 rfl x3.1 (by rfl) (by rfl) (Nat.le_of_ble_eq_true rfl) ?_
  -- X9_trim: ('put', 16)
  intro h4 u4
  have x4 : PPC E h4 X 0 q q (pushD ds q) im md tp ph fk fp := x3.setObj (rd2 := 0) u4 x3.2.2.2.2.2.2.1.low
  refine R_iconst (v := nI 0) dX9_trim_16 (by decide) ?_
  refine R_istore1 dX9_trim_17 (by decide) ?_
  refine R_iconst (v := nI 0) dX9_trim_18 (by decide) ?_
  refine R_istore2 dX9_trim_19 (by decide) ?_
  -- X9_trim: ('stop', 20)
  have := loop 60 0 q h4 none rfl hq x4.lo ((o3.mono (by omega) (by omega)).trans (Out.upd u4 (by omega) (by omega)))
  rw [Nat.zero_add] at this
  exact this
theorem PP_unpack (x : PPAt E h X rd q ds im md tp ph fk fp) (hq : PkOk q) : Spec E k_X9_unpack 6 0 0 [.ref X] h (fun v h' => v = some (.int (nI (letL q.2 q.1).length)) ∧ (∃ rd, PPAt E h' X rd (letL q.2 q.1, fun _ => []) (pushD ds q) im md tp ph fk fp) ∧ Out h h' X (X + 1830)) := by
  have hlen : (letL q.2 q.1).length ≤ 240 := by rw [letL_len]; exact hq.2.2.1
  refine Spec.of (by decide +kernel) (by simp [Value.category]) (Nat.le_of_ble_eq_true rfl) ?_
  show WP E k_X9_unpack 6 0 0 0 [some (.ref X), none] [] h _
  have loop : ∀ m t h2, t + m = (letL q.2 q.1).length → (∃ qc, PPC E h2 X 1 ((letL q.2 q.1).take t, fun _ => []) qc (pushD ds q) im md tp ph fk fp) → (∃ lo la, ReadAt E h2 (X + 1530) (letL q.2 q.1) (homL q.2 0 q.1) (begL q.2 0 q.1) (dpL q.2 q.1) lo la) → Out h h2 X (X + 1830) → WP E k_X9_unpack 6 0 0 24 [some (.ref X), some (.int (nI t))] [] h2 (fun v h' => v = some (.int (nI (letL q.2 q.1).length)) ∧ (∃ rd, PPAt E h' X rd (letL q.2 q.1, fun _ => []) (pushD ds q) im md tp ph fk fp) ∧ Out h h' X (X + 1830)) := by
    intro m
    induction m with
    | zero =>
      rintro t h2 ht ⟨qc, x2⟩ ⟨lo, la, r2⟩ o2
      refine R_iload_n dX9_unpack_24 rfl ?_
      refine R_aload_n dX9_unpack_25 rfl ?_
      refine R_get K_9 (f := 10) (by decide) dX9_unpack_26 f_RX9_67 x2.1 rfl ?_
      -- X9_unpack: ('call', 29, '.invokevirtual', 207)
      refine R_callV v_X5_size (Read_size r2) dX9_unpack_29 l_RX9_207 rfl rfl r2.1 (Nat.le_of_ble_eq_true rfl) (by omega) rfl rfl (fun v h3 hq => ?_)
      obtain ⟨rfl, e9⟩ := hq
      rw [e9]
      refine R_icmp_ge_N (tgt := 59) dX9_unpack_32 (by decide) (by omega) (by omega) (fun c32 => ?_) (fun c32 => ?_)
      -- X9_unpack: ('branch', 32, 59, 35)
      · refine R_aload_n dX9_unpack_59 rfl ?_
        refine R_iconst (v := nI 0) dX9_unpack_60 (by decide) ?_
        refine R_put_A K_9 (f := 11) (by decide) dX9_unpack_61 f_RX9_71 rfl x2.1 (by rfl) (by rfl) (Nat.le_of_ble_eq_true rfl) ?_
        -- X9_unpack: ('put', 64)
        intro h4 u4
        rw [List.take_of_length_le (by omega)] at x2
        have x4 : PPC E h4 X 0 (letL q.2 q.1, fun _ => []) qc (pushD ds q) im md tp ph fk fp := x2.setObj (rd2 := 0) u4 x2.2.2.2.2.2.2.1.low
        refine R_aload_n dX9_unpack_64 rfl ?_
        refine R_get K_9 (f := 0) (by decide) dX9_unpack_65 f_RX9_12 x4.1 rfl ?_
        -- X9_unpack: ('call', 68, '.invokevirtual', 135)
        refine R_callV v_X2_sequence (Pack_sequence x4.2.1) dX9_unpack_68 l_RX9_135 rfl rfl x4.2.1.1 (Nat.le_of_ble_eq_true rfl) (by omega) rfl rfl (fun v h5 hq => ?_)
        obtain ⟨rfl, e9⟩ := hq
        rw [e9]
        refine R_callV v_X6_size (Row_size x4.2.1.2.1) dX9_unpack_71 l_RX9_105 rfl rfl x4.2.1.2.1.2.2.1 (Nat.le_of_ble_eq_true rfl) (by omega) rfl rfl (fun v h6 hq => ?_)
        obtain ⟨rfl, e9⟩ := hq
        rw [e9]
        refine R_ireturn dX9_unpack_74 rfl rfl ?_
        -- X9_unpack: ('ret', 74)
        exact ⟨rfl, ⟨0, x4.lo⟩, o2.trans (Out.upd u4 (by omega) (by omega))⟩
      · exact absurd c32 (by omega)
    | succ m ih =>
      rintro t h2 ht ⟨qc, x2⟩ ⟨lo, la, r2⟩ o2
      refine R_iload_n dX9_unpack_24 rfl ?_
      refine R_aload_n dX9_unpack_25 rfl ?_
      refine R_get K_9 (f := 10) (by decide) dX9_unpack_26 f_RX9_67 x2.1 rfl ?_
      -- X9_unpack: ('call', 29, '.invokevirtual', 207)
      refine R_callV v_X5_size (Read_size r2) dX9_unpack_29 l_RX9_207 rfl rfl r2.1 (Nat.le_of_ble_eq_true rfl) (by omega) rfl rfl (fun v h3 hq => ?_)
      obtain ⟨rfl, e9⟩ := hq
      rw [e9]
      refine R_icmp_ge_N (tgt := 59) dX9_unpack_32 (by decide) (by omega) (by omega) (fun c32 => ?_) (fun c32 => ?_)
      -- X9_unpack: ('branch', 32, 59, 35)
      · exact absurd c32 (by omega)
      · obtain ⟨c, hc⟩ := getE (l := letL q.2 q.1) (i := t) (by omega)
        have hc26 := letL_lt c (List.mem_of_getElem? hc)
        refine R_aload_n dX9_unpack_35 rfl ?_
        refine R_get K_9 (f := 0) (by decide) dX9_unpack_36 f_RX9_12 x2.1 rfl ?_
        -- X9_unpack: ('call', 39, '.invokevirtual', 135)
        refine R_callV v_X2_sequence (Pack_sequence x2.2.1) dX9_unpack_39 l_RX9_135 rfl rfl x2.2.1.1 (Nat.le_of_ble_eq_true rfl) (by omega) rfl rfl (fun v h5 hq => ?_)
        obtain ⟨rfl, e9⟩ := hq
        rw [e9]
        refine R_aload_n dX9_unpack_42 rfl ?_
        refine R_get K_9 (f := 10) (by decide) dX9_unpack_43 f_RX9_67 x2.1 rfl ?_
        refine R_iload_n dX9_unpack_46 rfl ?_
        -- X9_unpack: ('call', 47, '.invokevirtual', 208)
        refine R_callV v_X5_letterAt (Read_letterAt r2 (nI t)) dX9_unpack_47 l_RX9_208 rfl rfl r2.1 (Nat.le_of_ble_eq_true rfl) (by omega) rfl rfl (fun v h6 hq => ?_)
        obtain ⟨rfl, e9⟩ := hq
        rw [e9, rget_in (by omega) hc]
        refine R_callV v_X6_add (Row_add x2.2.1.2.1 (x := c) (by omega) (by show ((letL q.2 q.1).take t).length < 240; rw [List.length_take]; omega)) dX9_unpack_50 l_RX9_211 rfl rfl x2.2.1.2.1.2.2.1 (Nat.le_of_ble_eq_true rfl) (by omega) rfl rfl (fun v h7 hq => ?_)
        obtain ⟨rfl, hR7, o7⟩ := hq
        have x7 := x2.setPk (q2 := ((letL q.2 q.1).take (t + 1), fun _ => [])) (x2.2.1.setSeq (by rw [take_snoc hc]; exact hR7) o7) (o7.mono (by omega) (by omega))
        refine R_iinc1 dX9_unpack_53 (by decide) (nI_inc _ 1) ?_
        refine R_goto (tgt := 24) dX9_unpack_56 (by decide) ?_
        -- X9_unpack: ('stop', 24)
        exact ih (t + 1) h7 (by omega) ⟨qc, x7⟩ ⟨lo, la, r2.ag (o7.ag (by omega))⟩ (o2.trans (o7.mono (by omega) (by omega)))
  refine R_aload_n dX9_unpack_0 rfl ?_
  -- X9_unpack: ('call', 1, '.invokevirtual', 144)
  refine R_callV v_X9_read (PP_read x hq) dX9_unpack_1 l_RX9_144 rfl rfl x.1 (Nat.le_of_ble_eq_true rfl) (by omega) rfl rfl (fun v h2 hq => ?_)
  obtain ⟨rfl, x2, o2⟩ := hq
  obtain ⟨nx, ks, hQ, hk⟩ := id x2.2.2.1
  refine R_aload_n dX9_unpack_4 rfl ?_
  refine R_get K_9 (f := 1) (by decide) dX9_unpack_5 f_RX9_19 x2.1 rfl ?_
  refine R_aload_n dX9_unpack_8 rfl ?_
  refine R_get K_9 (f := 0) (by decide) dX9_unpack_9 f_RX9_12 x2.1 rfl ?_
  -- X9_unpack: ('call', 12, '.invokevirtual', 128)
  refine R_callV v_X4_keep (Past_keep hQ x2.2.1 (by omega)) dX9_unpack_12 l_RX9_128 rfl rfl hQ.1 (Nat.le_of_ble_eq_true rfl) (by omega) rfl rfl (fun v h3 hq => ?_)
  obtain ⟨rfl, hQ3, o3⟩ := hq
  have x3 := (PPC.of x2).kept hQ hk hQ3 o3
  obtain ⟨-, lo, la, r2⟩ := x2.cach
  refine R_aload_n dX9_unpack_15 rfl ?_
  refine R_get K_9 (f := 0) (by decide) dX9_unpack_16 f_RX9_12 x3.1 rfl ?_
  -- X9_unpack: ('call', 19, '.invokevirtual', 132)
  refine R_callV v_X2_clear (Pack_clear x3.2.1) dX9_unpack_19 l_RX9_132 rfl rfl x3.2.1.1 (Nat.le_of_ble_eq_true rfl) (by omega) rfl rfl (fun v h5 hq => ?_)
  obtain ⟨rfl, hP5, o5⟩ := hq
  have x5 := x3.setPk (q2 := ([], fun _ => [])) hP5 o5
  refine R_iconst (v := nI 0) dX9_unpack_22 (by decide) ?_
  refine R_istore1 dX9_unpack_23 (by decide) ?_
  -- X9_unpack: ('stop', 24)
  exact loop (letL q.2 q.1).length 0 h5 (by omega) ⟨q, x5⟩ ⟨lo, la, (r2.ag (o3.ag (by omega))).ag (o5.ag (by omega))⟩ (o2.trans ((o3.mono (by omega) (by omega)).trans (o5.mono (by omega) (by omega))))
end PP6
