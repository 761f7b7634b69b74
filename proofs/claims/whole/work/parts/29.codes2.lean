/-! CODES: groups put together, the order, the codes -/
abbrev CSt : Type := (Nat → Nat) × (Nat → Nat) × (Nat → Nat)
def jnS (st : CSt) : CSt := (lightF st.1 none 86).elim st (fun a => (lightF st.1 (some a) 86).elim st (fun b => (fun s => if s = max a b then 0 else if s = min a b then st.1 (min a b) + st.1 (max a b) else st.1 s, fun s => if st.2.1 s = max a b then min a b else st.2.1 s, fun s => if some (st.2.1 s) = some b then (if some (st.2.1 s) = some a then st.2.2 s + 1 else st.2.2 s) + 1 else if some (st.2.1 s) = some a then st.2.2 s + 1 else st.2.2 s)))
def jnT (st : CSt) (a b : Nat) : CSt := (fun s => if s = max a b then 0 else if s = min a b then st.1 (min a b) + st.1 (max a b) else st.1 s, fun s => if st.2.1 s = max a b then min a b else st.2.1 s, fun s => if some (st.2.1 s) = some b then (if some (st.2.1 s) = some a then st.2.2 s + 1 else st.2.2 s) + 1 else if some (st.2.1 s) = some a then st.2.2 s + 1 else st.2.2 s)
theorem jnS_1 {st : CSt} (h : lightF st.1 none 86 = none) : jnS st = st := by rw [jnS, h]; rfl
theorem jnS_2 {st : CSt} {a : Nat} (h : lightF st.1 none 86 = some a) (h2 : lightF st.1 (some a) 86 = none) : jnS st = st := by rw [jnS, h, Option.elim_some, h2]; rfl
theorem jnS_3 {st : CSt} {a b : Nat} (h : lightF st.1 none 86 = some a) (h2 : lightF st.1 (some a) 86 = some b) : jnS st = jnT st a b := by rw [jnS, h, Option.elim_some, h2]; rfl
def jnI (st : CSt) : Nat → CSt
  | 0 => st
  | n + 1 => jnS (jnI st n)
theorem sumB_mv {g : Nat → Nat} {t f : Nat} (hne : ¬ t = f) : ∀ n, sumB (fun s => if s = f then 0 else if s = t then g t + g f else g s) n + (if f < n then g f else 0) = sumB g n + (if t < n then g f else 0)
  | 0 => by simp [sumB]
  | n + 1 => by
    have := sumB_mv (g := g) hne n
    rw [sumB, sumB]
    by_cases h1 : n = f
    · subst h1
      rw [if_neg (Nat.lt_irrefl n)] at this
      rw [if_pos rfl, if_pos (Nat.lt_succ_self n)]
      by_cases h2 : t < n
      · rw [if_pos h2] at this; rw [if_pos (by omega)]; omega
      · rw [if_neg h2] at this; rw [if_neg (by omega)]; omega
    · rw [if_neg h1]
      have e1 : (if f < n + 1 then g f else 0) = if f < n then g f else 0 := by
        by_cases h3 : f < n
        · rw [if_pos h3, if_pos (by omega)]
        · rw [if_neg h3, if_neg (by omega)]
      rw [e1]
      by_cases h2 : n = t
      · subst h2
        rw [if_neg (Nat.lt_irrefl n)] at this
        rw [if_pos rfl, if_pos (Nat.lt_succ_self n)]
        omega
      · rw [if_neg h2]
        have e2 : (if t < n + 1 then g f else 0) = if t < n then g f else 0 := by
          by_cases h3 : t < n
          · rw [if_pos h3, if_pos (by omega)]
          · rw [if_neg h3, if_neg (by omega)]
        rw [e2]; omega
theorem sumB_ge {g : Nat → Nat} {s : Nat} : ∀ {n}, s < n → g s ≤ sumB g n
  | n + 1, h => by
    rw [sumB]
    by_cases e : s = n
    · subst e; omega
    · have := sumB_ge (g := g) (s := s) (n := n) (by omega)
      omega
def CGood (st : CSt) (n : Nat) : Prop := (∀ s, s < 86 → st.2.1 s < 86) ∧ sumB st.1 86 ≤ 8600000 ∧ ∀ s, st.2.2 s ≤ n
theorem CGood.next {st : CSt} {n : Nat} (x : CGood st n) : CGood (jnS st) (n + 1) := by
  obtain ⟨x1, x2, x3⟩ := x
  have triv : CGood st (n + 1) := ⟨x1, x2, fun s => by have := x3 s; omega⟩
  cases ha : lightF st.1 none 86 with
  | none => rw [jnS_1 ha]; exact triv
  | some a =>
    cases hb : lightF st.1 (some a) 86 with
    | none => rw [jnS_2 ha hb]; exact triv
    | some b =>
      obtain ⟨a1, a2, -⟩ := lightF_some ha
      obtain ⟨b1, b2, b3⟩ := lightF_some hb
      have hab : ¬ b = a := fun e => b3 (by rw [e])
      rw [jnS_3 ha hb]
      refine ⟨fun s hs => ?_, ?_, fun s => ?_⟩
      · simp only [jnT]
        have := x1 s hs
        split <;> omega
      · have := sumB_mv (g := st.1) (t := min a b) (f := max a b) (by omega) 86
        rw [if_pos (by omega), if_pos (by omega)] at this
        simp only [jnT]
        omega
      · simp only [jnT]
        have := x3 s
        by_cases e1 : some (st.2.1 s) = some b
        · rw [if_pos e1, if_neg (fun z => hab (Option.some.inj (e1.symm.trans z)))]; omega
        · rw [if_neg e1]; split <;> omega
theorem CGood.iter {st : CSt} {n : Nat} (x : CGood st n) : ∀ m, CGood (jnI st m) (n + m)
  | 0 => x
  | m + 1 => (x.iter m).next
def rkR (ln : Nat → Nat) (n : Nat) : Nat → List Nat
  | 0 => []
  | s + 1 => rkR ln n s ++ (if ln s = n then [s] else [])
def rkC (ln : Nat → Nat) : Nat → List Nat
  | 0 => []
  | n + 1 => rkC ln n ++ rkR ln (n + 1) 86
theorem rkR_len {ln : Nat → Nat} {n : Nat} : ∀ s, (rkR ln n s).length = cntB (fun x => decide (ln x = n)) s
  | 0 => rfl
  | s + 1 => by
    rw [rkR, cntB, List.length_append, rkR_len s]
    by_cases e : ln s = n <;> simp [e]
theorem cntB_add {p q r : Nat → Bool} (h1 : ∀ x, r x = (p x || q x)) (h2 : ∀ x, p x = true → q x = false) : ∀ n, cntB r n = cntB p n + cntB q n
  | 0 => rfl
  | n + 1 => by
    rw [cntB, cntB, cntB, cntB_add h1 h2 n, h1 n]
    cases hp : p n with
    | true => rw [h2 n hp]; simp; omega
    | false => simp; omega
theorem cntB_mono {p : Nat → Bool} {a : Nat} : ∀ {n}, a ≤ n → cntB p a ≤ cntB p n
  | 0, h => by rw [show a = 0 by omega]; exact Nat.le_refl _
  | n + 1, h => by
    by_cases e : a = n + 1
    · rw [e]; exact Nat.le_refl _
    · have := cntB_mono (p := p) (a := a) (n := n) (by omega)
      rw [cntB]; omega
theorem rkC_len {ln : Nat → Nat} : ∀ n, (rkC ln n).length = cntB (fun x => decide (1 ≤ ln x ∧ ln x ≤ n)) 86
  | 0 => by
    have : ∀ k, cntB (fun x => decide (1 ≤ ln x ∧ ln x ≤ 0)) k = 0 := by
      intro k
      induction k with
      | zero => rfl
      | succ k ih => rw [cntB, ih, if_neg (by simp; omega)]
    rw [this]; rfl
  | n + 1 => by
    rw [rkC, List.length_append, rkC_len n, rkR_len]
    refine (cntB_add (fun x => ?_) (fun x hx => ?_) 86).symm
    · rw [Bool.eq_iff_iff]; simp; omega
    · simp at hx ⊢; omega
theorem rk_fit {ln : Nat → Nat} {n s : Nat} (hs : s ≤ 86) : (rkC ln n).length + (rkR ln (n + 1) s).length ≤ 86 := by
  have h1 := rkC_len (ln := ln) (n + 1)
  rw [rkC, List.length_append, rkR_len] at h1
  have h2 := cntB_mono (p := fun x => decide (ln x = n + 1)) hs
  have h3 := cntB_le (fun x => decide (1 ≤ ln x ∧ ln x ≤ n + 1)) 86
  rw [rkR_len]; omega
theorem rkR_mem {ln : Nat → Nat} {n x : Nat} : ∀ {s}, x ∈ rkR ln n s ↔ x < s ∧ ln x = n
  | 0 => by simp [rkR]
  | s + 1 => by
    rw [rkR, List.mem_append, rkR_mem (s := s)]
    by_cases e : ln s = n
    · rw [if_pos e]; simp
      constructor
      · rintro (z | z)
        · exact ⟨by omega, z.2⟩
        · subst z; exact ⟨by omega, e⟩
      · rintro ⟨z1, z2⟩; by_cases y : x = s
        · exact Or.inr y
        · exact Or.inl ⟨by omega, z2⟩
    · rw [if_neg e]; simp
      intro z
      constructor
      · intro y; omega
      · intro y
        have : ¬ x = s := fun q => e (q ▸ z)
        omega
theorem rkC_mem {ln : Nat → Nat} {x : Nat} : ∀ {n}, x ∈ rkC ln n ↔ x < 86 ∧ 1 ≤ ln x ∧ ln x ≤ n
  | 0 => by simp [rkC]; omega
  | n + 1 => by
    rw [rkC, List.mem_append, rkC_mem (n := n), rkR_mem]
    omega
/-- the code of the last of a row told backwards -/
def cvL (ln : Nat → Nat) : List Nat → Int32
  | [] => 0
  | [_] => 0
  | s :: t :: r => (cvL ln (t :: r) + 1) <<< ((nI (ln s) - nI (ln t)) &&& 31)
def cwL (ln : Nat → Nat) (f0 : Nat → Int32) : List Nat → Nat → Int32
  | [] => f0
  | s :: r => fun x => if x = s then cvL ln (s :: r) else cwL ln f0 r x
def kindsS (sq : List Nat) : Nat := cntB (fun s => decide (0 < sq.count s)) 86
def cst0 (sq : List Nat) : CSt := (fun s => sq.count s, fun s => s, fun _ => 0)
def lnS (sq : List Nat) : Nat → Nat := if kindsS sq = 1 then (fun s => if some s = lightF (fun s => sq.count s) none 86 then 0 + 1 else 0) else (jnI (cst0 sq) (kindsS sq - 1)).2.2
def rkS (sq : List Nat) : List Nat := rkC (lnS sq) 85
def cdS (sq : List Nat) : Nat → Int32 := cwL (lnS sq) (fun _ => 0) (rkS sq).reverse
section CODES2
variable {E : EnvT} {h : Hp} {C : Nat} {w gr gw ln : Nat → Nat} {cd : Nat → Int32} {l : List Nat}
theorem Cod_putTwo (hC : CodAt E h C w gr gw ln cd l) {n : Nat} (hgd : CGood (gw, gr, ln) n) : Spec E k_X0_putTwoTogether 2 0 0 [.ref C] h (fun v h' => v = none ∧ CodAt E h' C w (jnS (gw, gr, ln)).2.1 (jnS (gw, gr, ln)).1 (jnS (gw, gr, ln)).2.2 cd l ∧ Out h h' C (C + 8)) := by
  obtain ⟨hgr, hsum, -⟩ := hgd
  have hgw : ∀ s, s < 86 → gw s < 2 ^ 31 := fun s hs => by
    have := sumB_ge (g := gw) hs
    have h2 : sumB gw 86 ≤ 8600000 := hsum
    omega
  have hgr : ∀ s, s < 86 → gr s < 86 := hgr
  refine Spec.of (by decide +kernel) (by simp [Value.category]) (Nat.le_of_ble_eq_true rfl) ?_
  show WP E k_X0_putTwoTogether 2 0 0 0 [some (.ref C), none, none, none, none, none] [] h _
  refine R_aload_n dX0_putTwoTogether_0 rfl ?_
  refine R_iconst (v := (-1)) dX0_putTwoTogether_1 (by decide) ?_
  -- X0_putTwoTogether: ('call', 2, '.invokevirtual', 43)
  refine R_callV v_X0_lightestBut (Cod_lightestBut hC hgw (but := none) (fun b z => by cases z)) dX0_putTwoTogether_2 l_RX0_43 rfl rfl hC.1 (Nat.le_of_ble_eq_true rfl) (by omega) rfl rfl (fun v h1 hq => ?_)
  obtain ⟨rfl, e9⟩ := hq
  rw [e9]
  refine R_istore1 dX0_putTwoTogether_5 (by decide) ?_
  refine R_aload_n dX0_putTwoTogether_6 rfl ?_
  refine R_iload_n dX0_putTwoTogether_7 rfl ?_
  -- X0_putTwoTogether: ('call', 8, '.invokevirtual', 43)
  refine R_callV v_X0_lightestBut (Cod_lightestBut hC hgw (but := lightF gw none 86) (fun b z => (lightF_some z).1)) dX0_putTwoTogether_8 l_RX0_43 rfl rfl hC.1 (Nat.le_of_ble_eq_true rfl) (by omega) rfl rfl (fun v h1 hq => ?_)
  obtain ⟨rfl, e9⟩ := hq
  rw [e9]
  cases ha : lightF gw none 86 with
  | none =>
    have ej : jnS (gw, gr, ln) = (gw, gr, ln) := jnS_1 ha
    rw [ej]
    refine R_istore2 dX0_putTwoTogether_11 (by decide) ?_
    refine R_iload_n dX0_putTwoTogether_12 rfl ?_
    refine R_iconst (v := (-1)) dX0_putTwoTogether_13 (by decide) ?_
    refine R_icmp_eq (tgt := 22) dX0_putTwoTogether_14 (by decide) (fun c14 => ?_) (fun c14 => ?_)
    -- X0_putTwoTogether: ('branch', 14, 22, 17)
    · refine R_return dX0_putTwoTogether_22 rfl ?_
      -- X0_putTwoTogether: ('ret', 22)
      exact ⟨rfl, hC, Out.refl⟩
    · exact absurd rfl c14
  | some a =>
    obtain ⟨a1, a2, -⟩ := lightF_some ha
    have ea : oI 0 (some a) = nI a := by rw [oI, Nat.zero_add]
    cases hb : lightF gw (some a) 86 with
    | none =>
      have ej : jnS (gw, gr, ln) = (gw, gr, ln) := jnS_2 ha hb
      rw [ej]
      refine R_istore2 dX0_putTwoTogether_11 (by decide) ?_
      refine R_iload_n dX0_putTwoTogether_12 rfl ?_
      refine R_iconst (v := (-1)) dX0_putTwoTogether_13 (by decide) ?_
      refine R_icmp_eq (tgt := 22) dX0_putTwoTogether_14 (by decide) (fun c14 => ?_) (fun c14 => ?_)
      -- X0_putTwoTogether: ('branch', 14, 22, 17)
      · exact absurd (ea.symm.trans c14) (nI_ne_m1 (by omega))
      · refine R_iload_n dX0_putTwoTogether_17 rfl ?_
        refine R_iconst (v := (-1)) dX0_putTwoTogether_18 (by decide) ?_
        refine R_icmp_ne (tgt := 23) dX0_putTwoTogether_19 (by decide) (fun c19 => ?_) (fun c19 => ?_)
        -- X0_putTwoTogether: ('branch', 19, 23, 22)
        · exact absurd rfl c19
        · refine R_return dX0_putTwoTogether_22 rfl ?_
          -- X0_putTwoTogether: ('ret', 22)
          exact ⟨rfl, hC, Out.refl⟩
    | some b =>
      obtain ⟨b1, b2, b3⟩ := lightF_some hb
      have hab : ¬ b = a := fun e => b3 (by rw [e])
      have eb : oI 0 (some b) = nI b := by rw [oI, Nat.zero_add]
      have ej : jnS (gw, gr, ln) = jnT (gw, gr, ln) a b := jnS_3 ha hb
      rw [ej]
      refine R_istore2 dX0_putTwoTogether_11 (by decide) ?_
      refine R_iload_n dX0_putTwoTogether_12 rfl ?_
      refine R_iconst (v := (-1)) dX0_putTwoTogether_13 (by decide) ?_
      refine R_icmp_eq (tgt := 22) dX0_putTwoTogether_14 (by decide) (fun c14 => ?_) (fun c14 => ?_)
      -- X0_putTwoTogether: ('branch', 14, 22, 17)
      · exact absurd (ea.symm.trans c14) (nI_ne_m1 (by omega))
      · refine R_iload_n dX0_putTwoTogether_17 rfl ?_
        refine R_iconst (v := (-1)) dX0_putTwoTogether_18 (by decide) ?_
        refine R_icmp_ne (tgt := 23) dX0_putTwoTogether_19 (by decide) (fun c19 => ?_) (fun c19 => ?_)
        -- X0_putTwoTogether: ('branch', 19, 23, 22)
        · refine R_aload_n dX0_putTwoTogether_23 rfl ?_
          refine R_iload_n dX0_putTwoTogether_24 rfl ?_
          -- X0_putTwoTogether: ('call', 25, '.invokevirtual', 47)
          refine R_callV v_X0_lengthenGroup (Cod_lengthenGroup hC (g := some a) (fun s hs => by have := hgr s hs; omega) (fun b z => by cases z; omega)) dX0_putTwoTogether_25 l_RX0_47 rfl rfl hC.1 (Nat.le_of_ble_eq_true rfl) (by omega) rfl rfl (fun v h3 hq => ?_)
          obtain ⟨rfl, hC3, o3⟩ := hq
          refine R_aload_n dX0_putTwoTogether_28 rfl ?_
          refine R_iload_n dX0_putTwoTogether_29 rfl ?_
          -- X0_putTwoTogether: ('call', 30, '.invokevirtual', 47)
          refine R_callV v_X0_lengthenGroup (Cod_lengthenGroup hC3 (g := some b) (fun s hs => by have := hgr s hs; omega) (fun b z => by cases z; omega)) dX0_putTwoTogether_30 l_RX0_47 rfl rfl hC3.1 (Nat.le_of_ble_eq_true rfl) (by omega) rfl rfl (fun v h4 hq => ?_)
          obtain ⟨rfl, hC4, o4⟩ := hq
          rw [ea, eb]
          refine R_iload_n dX0_putTwoTogether_33 rfl ?_
          refine R_iload_n dX0_putTwoTogether_34 rfl ?_
          -- X0_putTwoTogether: ('call', 35, '.invokestatic', 65)
          refine R_callS s_J9_min_7cf53 (J_min (a := a) (b := b) (by omega) (by omega)) dX0_putTwoTogether_35 l_RX0_65 rfl rfl (Nat.le_of_ble_eq_true rfl) (by omega) rfl rfl (fun v h1 hq => ?_)
          obtain ⟨rfl, e9⟩ := hq
          rw [e9]
          refine R_istore3 dX0_putTwoTogether_38 (by decide) ?_
          refine R_iload_n dX0_putTwoTogether_39 rfl ?_
          refine R_iload_n dX0_putTwoTogether_40 rfl ?_
          -- X0_putTwoTogether: ('call', 41, '.invokestatic', 71)
          refine R_callS s_J9_max_7cf53 (J_max (a := a) (b := b) (by omega) (by omega)) dX0_putTwoTogether_41 l_RX0_71 rfl rfl (Nat.le_of_ble_eq_true rfl) (by omega) rfl rfl (fun v h1 hq => ?_)
          obtain ⟨rfl, e9⟩ := hq
          rw [e9]
          obtain ⟨q1, q2, ⟨f2, q3, hf2⟩, ⟨f3, q4, hf3⟩, q5, ⟨f5, q6, hf5⟩, q7⟩ := id hC4
          refine R_istore4 dX0_putTwoTogether_44 (by decide) ?_
          refine R_aload_n dX0_putTwoTogether_46 rfl ?_
          refine R_get K_0 (f := 2) (by decide) dX0_putTwoTogether_47 f_RX0_18 q1 rfl ?_
          refine R_iload_n dX0_putTwoTogether_50 rfl ?_
          refine R_dup2 dX0_putTwoTogether_51 rfl rfl ?_
          refine R_iaload_N dX0_putTwoTogether_52 q4 (by omega) (by omega) (hf3 _ (by omega)) ?_
          refine R_aload_n dX0_putTwoTogether_53 rfl ?_
          refine R_get K_0 (f := 2) (by decide) dX0_putTwoTogether_54 f_RX0_18 q1 rfl ?_
          refine R_iload dX0_putTwoTogether_57 rfl ?_
          refine R_iaload_N dX0_putTwoTogether_59 q4 (by omega) (by omega) (hf3 _ (by omega)) ?_
          refine R_iadd_N dX0_putTwoTogether_60 ?_
          refine R_iastore_N dX0_putTwoTogether_61 q4 (by omega) (by omega) ?_
          -- X0_putTwoTogether: ('put', 62)
          intro h5 u5
          have r1 := (u5.2.2 C (by omega)).trans q1
          have r4 := u5.2.1
          refine R_aload_n dX0_putTwoTogether_62 rfl ?_
          refine R_get K_0 (f := 2) (by decide) dX0_putTwoTogether_63 f_RX0_18 r1 rfl ?_
          refine R_iload dX0_putTwoTogether_66 rfl ?_
          refine R_iconst (v := nI 0) dX0_putTwoTogether_68 (by decide) ?_
          refine R_iastore_N dX0_putTwoTogether_69 r4 (by omega) (by omega) ?_
          -- X0_putTwoTogether: ('put', 70)
          intro h6 u6
          have hf3' : ∀ s, s < 86 → upd f3 (min a b) (nI (gw (min a b) + gw (max a b))) s = nI (if s = min a b then gw (min a b) + gw (max a b) else gw s) := fun s hs => by
            by_cases e : s = min a b
            · rw [upd, if_pos e, if_pos e]
            · rw [upd, if_neg e, if_neg e, hf3 s hs]
          have a6 := arrN.set hf3' u6
          have o6 : Out h4 h6 C (C + 6) := (Out.upd u5 (by omega) (by omega)).trans (Out.upd u6 (by omega) (by omega))
          have hC6 : CodAt E h6 C w gr (jnT (gw, gr, ln) a b).1 (jnT (gw, gr, ln) a b).2.2 cd l := ⟨(u6.2.2 C (by omega)).trans r1, q2.eq ((u6.2.2 _ (by omega)).trans (u5.2.2 _ (by omega))), ⟨f2, ((u6.2.2 _ (by omega)).trans (u5.2.2 _ (by omega))).trans q3, hf2⟩, a6, q5.eq ((u6.2.2 _ (by omega)).trans (u5.2.2 _ (by omega))), ⟨f5, ((u6.2.2 _ (by omega)).trans (u5.2.2 _ (by omega))).trans q6, hf5⟩, q7.out o6 (by omega)⟩
          have oh : Out h h6 C (C + 8) := (o3.trans o4).trans (o6.mono (by omega) (by omega))
          have loop : ∀ m i h2, i + m = 86 → CodAt E h2 C w (fun s => if s < i ∧ gr s = max a b then min a b else gr s) (jnT (gw, gr, ln) a b).1 (jnT (gw, gr, ln) a b).2.2 cd l → Out h h2 C (C + 8) → WP E k_X0_putTwoTogether 2 0 0 73 [some (.ref C), some (.int (nI a)), some (.int (nI b)), some (.int (nI (min a b))), some (.int (nI (max a b))), some (.int (nI i))] [] h2 (fun v h' => v = none ∧ CodAt E h' C w (jnT (gw, gr, ln) a b).2.1 (jnT (gw, gr, ln) a b).1 (jnT (gw, gr, ln) a b).2.2 cd l ∧ Out h h' C (C + 8)) := by
            intro m
            induction m with
            | zero =>
              intro i h2 hi hC2 o2
              obtain ⟨a1, a2, a3, a4, a5, a6, a7⟩ := hC2
              refine R_iload dX0_putTwoTogether_73 rfl ?_
              refine R_bipush (v := nI 86) dX0_putTwoTogether_75 (by decide) ?_
              refine R_icmp_ge_N (tgt := 106) dX0_putTwoTogether_77 (by decide) (by omega) (by omega) (fun c77 => ?_) (fun c77 => ?_)
              -- X0_putTwoTogether: ('branch', 77, 106, 80)
              · refine R_return dX0_putTwoTogether_106 rfl ?_
                -- X0_putTwoTogether: ('ret', 106)
                refine ⟨rfl, ⟨a1, a2, a3.to (fun s hs => ?_), a4, a5, a6, a7⟩, o2⟩
                simp only [jnT, show s < i ↔ True from ⟨fun _ => trivial, fun _ => by omega⟩, true_and]
              · exact absurd c77 (by omega)
            | succ m ih =>
              intro i h2 hi hC2 o2
              obtain ⟨a1, a2, ⟨f2, a3, hf2⟩, a4, a5, ⟨f5, a6, hf5⟩, a7⟩ := hC2
              have hgi := hgr i (by omega)
              have e2 : f2 i = nI (gr i) := by rw [hf2 i (by omega)]; simp
              refine R_iload dX0_putTwoTogether_73 rfl ?_
              refine R_bipush (v := nI 86) dX0_putTwoTogether_75 (by decide) ?_
              refine R_icmp_ge_N (tgt := 106) dX0_putTwoTogether_77 (by decide) (by omega) (by omega) (fun c77 => ?_) (fun c77 => ?_)
              -- X0_putTwoTogether: ('branch', 77, 106, 80)
              · exact absurd c77 (by omega)
              · refine R_aload_n dX0_putTwoTogether_80 rfl ?_
                refine R_get K_0 (f := 1) (by decide) dX0_putTwoTogether_81 f_RX0_15 a1 rfl ?_
                refine R_iload dX0_putTwoTogether_84 rfl ?_
                refine R_iaload_N dX0_putTwoTogether_86 a3 (by omega) (by omega) e2 ?_
                refine R_iload dX0_putTwoTogether_87 rfl ?_
                refine R_icmp_ne_N (tgt := 100) dX0_putTwoTogether_89 (by decide) (by omega) (by omega) (fun c89 => ?_) (fun c89 => ?_)
                -- X0_putTwoTogether: ('branch', 89, 100, 92)
                · refine R_iinc5 dX0_putTwoTogether_100 (by decide) (nI_inc _ 1) ?_
                  refine R_goto (tgt := 73) dX0_putTwoTogether_103 (by decide) ?_
                  -- X0_putTwoTogether: ('stop', 73)
                  refine ih (i + 1) h2 (by omega) ⟨a1, a2, arrN.to ⟨f2, a3, hf2⟩ (fun s hs => ?_), a4, a5, ⟨f5, a6, hf5⟩, a7⟩ o2
                  by_cases e : s = i
                  · subst e; simp [c89]
                  · simp only [show s < i + 1 ↔ s < i by omega]
                · refine R_aload_n dX0_putTwoTogether_92 rfl ?_
                  refine R_get K_0 (f := 1) (by decide) dX0_putTwoTogether_93 f_RX0_15 a1 rfl ?_
                  refine R_iload dX0_putTwoTogether_96 rfl ?_
                  refine R_iload_n dX0_putTwoTogether_98 rfl ?_
                  refine R_iastore_N dX0_putTwoTogether_99 a3 (by omega) (by omega) ?_
                  -- X0_putTwoTogether: ('put', 100)
                  intro h3 u3
                  refine R_iinc5 dX0_putTwoTogether_100 (by decide) (nI_inc _ 1) ?_
                  refine R_goto (tgt := 73) dX0_putTwoTogether_103 (by decide) ?_
                  -- X0_putTwoTogether: ('stop', 73)
                  have o3 : Out h2 h3 C (C + 6) := Out.upd u3 (by omega) (by omega)
                  refine ih (i + 1) h3 (by omega) ⟨(u3.2.2 _ (by omega)).trans a1, a2.eq (u3.2.2 _ (by omega)), (arrN.set hf2 u3).to (fun s hs => ?_), a4.eq (u3.2.2 _ (by omega)), a5.eq (u3.2.2 _ (by omega)), ⟨f5, (u3.2.2 _ (by omega)).trans a6, hf5⟩, a7.out o3 (by omega)⟩ (o2.trans (o3.mono (by omega) (by omega)))
                  by_cases e : s = i
                  · subst e; simp [c89]
                  · simp only [if_neg e, show s < i + 1 ↔ s < i by omega]
          refine R_iconst (v := nI 0) dX0_putTwoTogether_70 (by decide) ?_
          refine R_istore5 dX0_putTwoTogether_71 (by decide) ?_
          -- X0_putTwoTogether: ('stop', 73)
          exact loop 86 0 h6 (by omega) (by simpa using hC6) oh
        · exact absurd (eb.symm.trans c19) (nI_ne_m1 (by omega))
end CODES2
