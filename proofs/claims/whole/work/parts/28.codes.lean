/-! CODES: by the weights of the signs -/
def arrN (E : EnvT) (h : Hp) (a : Nat) (w : Nat → Nat) : Prop := ∃ f, h.2 a = some (.inl (E.2.2.1 0, 86, .inl f)) ∧ ∀ s, s < 86 → f s = nI (w s)
theorem arrN.set {E : EnvT} {h h1 : Hp} {a : Nat} {w : Nat → Nat} {f : Nat → Int32} {i v : Nat} (hf : ∀ s, s < 86 → f s = nI (w s)) (u : Upd h h1 a (.inl (E.2.2.1 0, 86, .inl (upd f i (nI v))))) : arrN E h1 a (fun s => if s = i then v else w s) := ⟨_, u.2.1, fun s hs => by
  by_cases e : s = i
  · simp only [upd, if_pos e]
  · simp only [upd, if_neg e, hf s hs]⟩
theorem arrN.eq {E : EnvT} {h h1 : Hp} {a : Nat} {w : Nat → Nat} (x : arrN E h a w) (o : h1.2 a = h.2 a) : arrN E h1 a w := ⟨x.choose, o.trans x.choose_spec.1, x.choose_spec.2⟩
theorem arrN.to {E : EnvT} {h : Hp} {a : Nat} {w w2 : Nat → Nat} (x : arrN E h a w) (o : ∀ s, s < 86 → w s = w2 s) : arrN E h a w2 := ⟨x.choose, x.choose_spec.1, fun s hs => by rw [x.choose_spec.2 s hs, o s hs]⟩
def CodAt (E : EnvT) (h : Hp) (C : Nat) (w gr gw ln : Nat → Nat) (cd : Nat → Int32) (l : List Nat) : Prop := h.2 C = some (.inr (0, [.ref (C + 1), .ref (C + 2), .ref (C + 3), .ref (C + 4), .ref (C + 5), .ref (C + 6)])) ∧ arrN E h (C + 1) w ∧ arrN E h (C + 2) gr ∧ arrN E h (C + 3) gw ∧ arrN E h (C + 4) ln ∧ (∃ f, h.2 (C + 5) = some (.inl (E.2.2.1 0, 86, .inl f)) ∧ ∀ s, s < 86 → f s = cd s) ∧ RowAt E h (C + 6) 86 l
theorem CodAt.ag {E : EnvT} {h h1 : Hp} {C : Nat} {w gr gw ln : Nat → Nat} {cd : Nat → Int32} {l : List Nat} (x : CodAt E h C w gr gw ln cd l) (o : Ag h h1 C (C + 8)) : CodAt E h1 C w gr gw ln cd l := by
  obtain ⟨a, b, c, d, e, ⟨f, g1, g2⟩, r⟩ := x
  exact ⟨(o _ (by omega) (by omega)).trans a, b.eq (o _ (by omega) (by omega)), c.eq (o _ (by omega) (by omega)), d.eq (o _ (by omega) (by omega)), e.eq (o _ (by omega) (by omega)), ⟨f, (o _ (by omega) (by omega)).trans g1, g2⟩, r.ag (o.sub (by omega) (by omega))⟩
def lightF (gw : Nat → Nat) (but : Option Nat) : Nat → Option Nat
  | 0 => none
  | n + 1 => if 0 < gw n ∧ ¬ some n = but ∧ (∀ b, lightF gw but n = some b → gw n < gw b) then some n else lightF gw but n
theorem lightF_some {gw : Nat → Nat} {but : Option Nat} {a : Nat} : ∀ {n}, lightF gw but n = some a → a < n ∧ 0 < gw a ∧ ¬ some a = but
  | 0, h => by cases h
  | n + 1, h => by
    rw [lightF] at h
    split at h
    · rename_i c
      cases h
      exact ⟨by omega, c.1, c.2.1⟩
    · have := lightF_some h
      exact ⟨by omega, this.2⟩
def rlen (ln : Nat → Nat) (x : Int32) : Nat := if x < 0 then 0 else if x.toNatClampNeg < 86 then ln x.toNatClampNeg else 0
theorem rlen_nI {ln : Nat → Nat} {n : Nat} (hn : n < 2 ^ 31) : rlen ln (nI n) = if n < 86 then ln n else 0 := by rw [rlen, if_neg (nI_pos hn), nI_clamp hn]
theorem nI_inj {a b : Nat} (ha : a < 2 ^ 31) (hb : b < 2 ^ 31) : nI a = nI b ↔ a = b := ⟨fun e => by rw [← nI_clamp ha, e, nI_clamp hb], fun e => by rw [e]⟩
theorem oI0_eq {i : Nat} (hi : i < 86) {but : Option Nat} (hb : ∀ b, but = some b → b < 86) : nI i = oI 0 but ↔ some i = but := by
  cases but with
  | none => exact ⟨fun e => absurd e (nI_ne_m1 (by omega)), fun e => by cases e⟩
  | some b =>
    have := hb b rfl
    rw [oI, Nat.zero_add, nI_inj (by omega) (by omega)]
    exact ⟨fun e => by rw [e], fun e => by cases e; rfl⟩
section CODES
variable {E : EnvT} {h : Hp} {C : Nat} {w gr gw ln : Nat → Nat} {cd : Nat → Int32} {l : List Nat}
theorem Cod_lengthOf (hC : CodAt E h C w gr gw ln cd l) (x : Int32) : Spec E k_X0_lengthOf 1 0 0 [.ref C, .int x] h (fun v h' => v = some (.int (nI (rlen ln x))) ∧ h' = h) := by
  obtain ⟨g0, -, -, -, ⟨f, g4, hf⟩, -, -⟩ := id hC
  refine Spec.of (by decide +kernel) (by simp [Value.category]) (Nat.le_of_ble_eq_true rfl) ?_
  show WP E k_X0_lengthOf 1 0 0 0 [some (.ref C), some (.int x)] [] h _
  refine R_iload_n dX0_lengthOf_0 rfl ?_
  refine R_if_lt (tgt := 19) dX0_lengthOf_1 (by decide) (fun c1 => ?_) (fun c1 => ?_)
  -- X0_lengthOf: ('branch', 1, 19, 4)
  · refine R_iconst (v := nI 0) dX0_lengthOf_19 (by decide) ?_
    refine R_ireturn dX0_lengthOf_20 rfl rfl ?_
    -- X0_lengthOf: ('ret', 20)
    exact ⟨by rw [rlen, if_pos c1], rfl⟩
  · obtain ⟨n, hn, rfl⟩ := nI_of c1
    rw [rlen_nI hn]
    refine R_iload_n dX0_lengthOf_4 rfl ?_
    refine R_bipush (v := nI 86) dX0_lengthOf_5 (by decide) ?_
    refine R_icmp_ge_N (tgt := 19) dX0_lengthOf_7 (by decide) (by omega) (by omega) (fun c7 => ?_) (fun c7 => ?_)
    -- X0_lengthOf: ('branch', 7, 19, 10)
    · refine R_iconst (v := nI 0) dX0_lengthOf_19 (by decide) ?_
      refine R_ireturn dX0_lengthOf_20 rfl rfl ?_
      -- X0_lengthOf: ('ret', 20)
      exact ⟨by rw [if_neg (by omega)], rfl⟩
    · refine R_aload_n dX0_lengthOf_10 rfl ?_
      refine R_get K_0 (f := 3) (by decide) dX0_lengthOf_11 f_RX0_21 (by first | exact g0 | exact g4) rfl ?_
      refine R_iload_n dX0_lengthOf_14 rfl ?_
      refine R_iaload_N dX0_lengthOf_15 (by first | exact g0 | exact g4) (by omega) (by omega) (hf n (by omega)) ?_
      refine R_goto (tgt := 20) dX0_lengthOf_16 (by decide) ?_
      refine R_ireturn dX0_lengthOf_20 rfl rfl ?_
      -- X0_lengthOf: ('ret', 20)
      exact ⟨by rw [if_pos c7], rfl⟩
theorem Cod_lightestBut (hC : CodAt E h C w gr gw ln cd l) (hg : ∀ s, s < 86 → gw s < 2 ^ 31) {but : Option Nat} (hb : ∀ b, but = some b → b < 86) : Spec E k_X0_lightestBut 1 0 0 [.ref C, .int (oI 0 but)] h (fun v h' => v = some (.int (oI 0 (lightF gw but 86))) ∧ h' = h) := by
  obtain ⟨g0, -, -, ⟨f, g3, hf⟩, -, -, -⟩ := id hC
  refine Spec.of (by decide +kernel) (by simp [Value.category]) (Nat.le_of_ble_eq_true rfl) ?_
  show WP E k_X0_lightestBut 1 0 0 0 [some (.ref C), some (.int (oI 0 but)), none, none] [] h _
  have loop : ∀ m i, i + m = 86 → WP E k_X0_lightestBut 1 0 0 4 [some (.ref C), some (.int (oI 0 but)), some (.int (oI 0 (lightF gw but i))), some (.int (nI i))] [] h (fun v h' => v = some (.int (oI 0 (lightF gw but 86))) ∧ h' = h) := by
    intro m
    induction m with
    | zero =>
      intro i hi
      obtain rfl : i = 86 := by omega
      refine R_iload_n dX0_lightestBut_4 rfl ?_
      refine R_bipush (v := nI 86) dX0_lightestBut_5 (by decide) ?_
      refine R_icmp_ge_N (tgt := 52) dX0_lightestBut_7 (by decide) (by omega) (by omega) (fun c7 => ?_) (fun c7 => ?_)
      -- X0_lightestBut: ('branch', 7, 52, 10)
      · refine R_iload_n dX0_lightestBut_52 rfl ?_
        refine R_ireturn dX0_lightestBut_53 rfl rfl ?_
        -- X0_lightestBut: ('ret', 53)
        exact ⟨rfl, rfl⟩
      · exact absurd c7 (by omega)
    | succ m ih =>
      intro i hi
      have hgi := hg i (by omega)
      have nx : ∀ r x, lightF gw but (i + 1) = r → x = oI 0 r → WP E k_X0_lightestBut 1 0 0 46 [some (.ref C), some (.int (oI 0 but)), some (.int x), some (.int (nI i))] [] h (fun v h' => v = some (.int (oI 0 (lightF gw but 86))) ∧ h' = h) := by
        intro r x hr hx
        refine R_iinc3 dX0_lightestBut_46 (by decide) (nI_inc _ 1) ?_
        refine R_goto (tgt := 4) dX0_lightestBut_49 (by decide) ?_
        -- X0_lightestBut: ('stop', 4)
        rw [hx, ← hr]
        exact ih (i + 1) (by omega)
      refine R_iload_n dX0_lightestBut_4 rfl ?_
      refine R_bipush (v := nI 86) dX0_lightestBut_5 (by decide) ?_
      refine R_icmp_ge_N (tgt := 52) dX0_lightestBut_7 (by decide) (by omega) (by omega) (fun c7 => ?_) (fun c7 => ?_)
      -- X0_lightestBut: ('branch', 7, 52, 10)
      · exact absurd c7 (by omega)
      · refine R_iload_n dX0_lightestBut_10 rfl ?_
        refine R_iload_n dX0_lightestBut_11 rfl ?_
        refine R_icmp_eq (tgt := 46) dX0_lightestBut_12 (by decide) (fun c12 => ?_) (fun c12 => ?_)
        -- X0_lightestBut: ('branch', 12, 46, 15)
        · exact nx _ _ (by rw [lightF, if_neg (fun z => z.2.1 ((oI0_eq (by omega) hb).mp c12))]) rfl
        · have hne : ¬ some i = but := fun z => c12 ((oI0_eq (by omega) hb).mpr z)
          refine R_aload_n dX0_lightestBut_15 rfl ?_
          refine R_get K_0 (f := 2) (by decide) dX0_lightestBut_16 f_RX0_18 (by first | exact g0 | exact g3) rfl ?_
          refine R_iload_n dX0_lightestBut_19 rfl ?_
          refine R_iaload_N dX0_lightestBut_20 (by first | exact g0 | exact g3) (by omega) (by omega) (hf i (by omega)) ?_
          refine R_if_le_N (tgt := 46) dX0_lightestBut_21 (by decide) (by omega) (fun c21 => ?_) (fun c21 => ?_)
          -- X0_lightestBut: ('branch', 21, 46, 24)
          · exact nx _ _ (by rw [lightF, if_neg (fun z => absurd z.1 (by omega))]) rfl
          · cases hl : lightF gw but i with
            | none =>
              refine R_iload_n dX0_lightestBut_24 rfl ?_
              refine R_iconst (v := (-1)) dX0_lightestBut_25 (by decide) ?_
              refine R_icmp_eq (tgt := 44) dX0_lightestBut_26 (by decide) (fun c26 => ?_) (fun c26 => ?_)
              -- X0_lightestBut: ('branch', 26, 44, 29)
              · refine R_iload_n dX0_lightestBut_44 rfl ?_
                refine R_istore2 dX0_lightestBut_45 (by decide) ?_
                -- X0_lightestBut: ('stop', 46)
                exact nx (some i) _ (by rw [lightF, if_pos ⟨by omega, hne, fun b z => by rw [hl] at z; cases z⟩]) (by rw [oI, Nat.zero_add])
              · exact absurd rfl c26
            | some b =>
              have hbl := (lightF_some hl).1
              have hgb := hg b (by omega)
              rw [oI, Nat.zero_add]
              refine R_iload_n dX0_lightestBut_24 rfl ?_
              refine R_iconst (v := (-1)) dX0_lightestBut_25 (by decide) ?_
              refine R_icmp_eq (tgt := 44) dX0_lightestBut_26 (by decide) (fun c26 => ?_) (fun c26 => ?_)
              -- X0_lightestBut: ('branch', 26, 44, 29)
              · exact absurd c26 (nI_ne_m1 (by omega))
              · refine R_aload_n dX0_lightestBut_29 rfl ?_
                refine R_get K_0 (f := 2) (by decide) dX0_lightestBut_30 f_RX0_18 (by first | exact g0 | exact g3) rfl ?_
                refine R_iload_n dX0_lightestBut_33 rfl ?_
                refine R_iaload_N dX0_lightestBut_34 (by first | exact g0 | exact g3) (by omega) (by omega) (hf _ (by omega)) ?_
                refine R_aload_n dX0_lightestBut_35 rfl ?_
                refine R_get K_0 (f := 2) (by decide) dX0_lightestBut_36 f_RX0_18 (by first | exact g0 | exact g3) rfl ?_
                refine R_iload_n dX0_lightestBut_39 rfl ?_
                refine R_iaload_N dX0_lightestBut_40 (by first | exact g0 | exact g3) (by omega) (by omega) (hf _ (by omega)) ?_
                refine R_icmp_ge_N (tgt := 46) dX0_lightestBut_41 (by decide) (by omega) (by omega) (fun c41 => ?_) (fun c41 => ?_)
                -- X0_lightestBut: ('branch', 41, 46, 44)
                · exact nx (some b) _ (by rw [lightF, if_neg (fun z => absurd (z.2.2 b hl) (by omega)), hl]) (by rw [oI, Nat.zero_add])
                · refine R_iload_n dX0_lightestBut_44 rfl ?_
                  refine R_istore2 dX0_lightestBut_45 (by decide) ?_
                  -- X0_lightestBut: ('stop', 46)
                  exact nx (some i) _ (by rw [lightF, if_pos ⟨by omega, hne, fun b2 z => by rw [hl] at z; cases z; omega⟩]) (by rw [oI, Nat.zero_add])
  refine R_iconst (v := (-1)) dX0_lightestBut_0 (by decide) ?_
  refine R_istore2 dX0_lightestBut_1 (by decide) ?_
  refine R_iconst (v := nI 0) dX0_lightestBut_2 (by decide) ?_
  refine R_istore3 dX0_lightestBut_3 (by decide) ?_
  -- X0_lightestBut: ('stop', 4)
  exact loop 86 0 (by omega)
theorem Cod_lengthenGroup (hC : CodAt E h C w gr gw ln cd l) (hg : ∀ s, s < 86 → gr s < 2 ^ 31) {g : Option Nat} (hb : ∀ b, g = some b → b < 86) : Spec E k_X0_lengthenGroup 1 0 0 [.ref C, .int (oI 0 g)] h (fun v h' => v = none ∧ CodAt E h' C w gr gw (fun s => if some (gr s) = g then ln s + 1 else ln s) cd l ∧ Out h h' C (C + 8)) := by
  refine Spec.of (by decide +kernel) (by simp [Value.category]) (Nat.le_of_ble_eq_true rfl) ?_
  show WP E k_X0_lengthenGroup 1 0 0 0 [some (.ref C), some (.int (oI 0 g)), none] [] h _
  have loop : ∀ m i h2, i + m = 86 → CodAt E h2 C w gr gw (fun s => if s < i ∧ some (gr s) = g then ln s + 1 else ln s) cd l → Out h h2 C (C + 8) → WP E k_X0_lengthenGroup 1 0 0 2 [some (.ref C), some (.int (oI 0 g)), some (.int (nI i))] [] h2 (fun v h' => v = none ∧ CodAt E h' C w gr gw (fun s => if some (gr s) = g then ln s + 1 else ln s) cd l ∧ Out h h' C (C + 8)) := by
    intro m
    induction m with
    | zero =>
      intro i h2 hi hC2 o2
      obtain ⟨a1, a2, a3, a4, a5, a6, a7⟩ := hC2
      refine R_iload_n dX0_lengthenGroup_2 rfl ?_
      refine R_bipush (v := nI 86) dX0_lengthenGroup_3 (by decide) ?_
      refine R_icmp_ge_N (tgt := 34) dX0_lengthenGroup_5 (by decide) (by omega) (by omega) (fun c5 => ?_) (fun c5 => ?_)
      -- X0_lengthenGroup: ('branch', 5, 34, 8)
      · refine R_return dX0_lengthenGroup_34 rfl ?_
        -- X0_lengthenGroup: ('ret', 34)
        refine ⟨rfl, ⟨a1, a2, a3, a4, a5.to (fun s hs => ?_), a6, a7⟩, o2⟩
        by_cases e : some (gr s) = g
        · rw [if_pos ⟨by omega, e⟩, if_pos e]
        · rw [if_neg (fun z => e z.2), if_neg e]
      · exact absurd c5 (by omega)
    | succ m ih =>
      intro i h2 hi hC2 o2
      obtain ⟨a1, a2, ⟨f2, a3, hf2⟩, a4, ⟨f4, a5, hf4⟩, ⟨f5, a6, hf5⟩, a7⟩ := id hC2
      have hgi := hg i (by omega)
      have e4 : f4 i = nI (ln i) := by rw [hf4 i (by omega)]; simp
      have key : (some (gr i) = g ↔ nI (gr i) = oI 0 g) := by
        cases g with
        | none => exact ⟨fun e => by (cases e), fun e => absurd e (nI_ne_m1 hgi)⟩
        | some b =>
          have := hb b rfl
          rw [oI, Nat.zero_add, nI_inj hgi (by omega)]
          exact ⟨fun e => by cases e; rfl, fun e => by rw [e]⟩
      refine R_iload_n dX0_lengthenGroup_2 rfl ?_
      refine R_bipush (v := nI 86) dX0_lengthenGroup_3 (by decide) ?_
      refine R_icmp_ge_N (tgt := 34) dX0_lengthenGroup_5 (by decide) (by omega) (by omega) (fun c5 => ?_) (fun c5 => ?_)
      -- X0_lengthenGroup: ('branch', 5, 34, 8)
      · exact absurd c5 (by omega)
      · have no : ¬ some (gr i) = g → WP E k_X0_lengthenGroup 1 0 0 28 [some (.ref C), some (.int (oI 0 g)), some (.int (nI i))] [] h2 (fun v h' => v = none ∧ CodAt E h' C w gr gw (fun s => if some (gr s) = g then ln s + 1 else ln s) cd l ∧ Out h h' C (C + 8)) := by
          intro hn
          refine R_iinc2 dX0_lengthenGroup_28 (by decide) (nI_inc _ 1) ?_
          refine R_goto (tgt := 2) dX0_lengthenGroup_31 (by decide) ?_
          -- X0_lengthenGroup: ('stop', 2)
          refine ih (i + 1) h2 (by omega) ⟨a1, a2, ⟨f2, a3, hf2⟩, a4, arrN.to ⟨f4, a5, hf4⟩ (fun s hs => ?_), ⟨f5, a6, hf5⟩, a7⟩ o2
          by_cases e : s = i
          · subst e; simp [hn]
          · simp only [show s < i + 1 ↔ s < i by omega]
        refine R_aload_n dX0_lengthenGroup_8 rfl ?_
        refine R_get K_0 (f := 1) (by decide) dX0_lengthenGroup_9 f_RX0_15 a1 rfl ?_
        refine R_iload_n dX0_lengthenGroup_12 rfl ?_
        refine R_iaload_N dX0_lengthenGroup_13 a3 (by omega) (by omega) (hf2 i (by omega)) ?_
        refine R_iload_n dX0_lengthenGroup_14 rfl ?_
        refine R_icmp_ne (tgt := 28) dX0_lengthenGroup_15 (by decide) (fun c15 => ?_) (fun c15 => ?_)
        -- X0_lengthenGroup: ('branch', 15, 28, 18)
        · exact no (fun z => c15 (key.mp z))
        · refine R_aload_n dX0_lengthenGroup_18 rfl ?_
          refine R_get K_0 (f := 3) (by decide) dX0_lengthenGroup_19 f_RX0_21 a1 rfl ?_
          refine R_iload_n dX0_lengthenGroup_22 rfl ?_
          refine R_dup2 dX0_lengthenGroup_23 rfl rfl ?_
          refine R_iaload_N dX0_lengthenGroup_24 a5 (by omega) (by omega) e4 ?_
          refine R_iconst (v := nI 1) dX0_lengthenGroup_25 (by decide) ?_
          refine R_iadd_N dX0_lengthenGroup_26 ?_
          refine R_iastore_N dX0_lengthenGroup_27 a5 (by omega) (by omega) ?_
          -- X0_lengthenGroup: ('put', 28)
          intro h3 u3
          refine R_iinc2 dX0_lengthenGroup_28 (by decide) (nI_inc _ 1) ?_
          refine R_goto (tgt := 2) dX0_lengthenGroup_31 (by decide) ?_
          -- X0_lengthenGroup: ('stop', 2)
          have o3 : Out h2 h3 C (C + 8) := Out.upd u3 (by omega) (by omega)
          refine ih (i + 1) h3 (by omega) ⟨(u3.2.2 _ (by omega)).trans a1, a2.eq (u3.2.2 _ (by omega)), ⟨f2, (u3.2.2 _ (by omega)).trans a3, hf2⟩, a4.eq (u3.2.2 _ (by omega)), (arrN.set hf4 u3).to (fun s hs => ?_), ⟨f5, (u3.2.2 _ (by omega)).trans a6, hf5⟩, a7.out (Out.upd u3 (Nat.le_refl _) (Nat.lt_succ_self _)) (by omega)⟩ (o2.trans o3)
          by_cases e : s = i
          · subst e; simp [key.mpr c15]
          · simp only [if_neg e, show s < i + 1 ↔ s < i by omega]
  refine R_iconst (v := nI 0) dX0_lengthenGroup_0 (by decide) ?_
  refine R_istore2 dX0_lengthenGroup_1 (by decide) ?_
  -- X0_lengthenGroup: ('stop', 2)
  refine loop 86 0 h (by omega) ?_ Out.refl
  obtain ⟨a1, a2, a3, a4, a5, a6, a7⟩ := hC
  exact ⟨a1, a2, a3, a4, a5.to (fun s hs => by rw [if_neg (fun z => absurd z.1 (by omega))]), a6, a7⟩
theorem Cod_allBits (hC : CodAt E h C w gr gw ln cd l) : Spec E k_X0_allBits 1 0 0 [.ref C] h (fun v h' => v = some (.int (nI (sumB (fun s => w s * ln s) 86))) ∧ h' = h) := by
  obtain ⟨a1, ⟨f1, a2, hf1⟩, a3, a4, ⟨f4, a5, hf4⟩, a6, a7⟩ := id hC
  refine Spec.of (by decide +kernel) (by simp [Value.category]) (Nat.le_of_ble_eq_true rfl) ?_
  show WP E k_X0_allBits 1 0 0 0 [some (.ref C), none, none] [] h _
  have loop : ∀ m i, i + m = 86 → WP E k_X0_allBits 1 0 0 4 [some (.ref C), some (.int (nI (sumB (fun s => w s * ln s) i))), some (.int (nI i))] [] h (fun v h' => v = some (.int (nI (sumB (fun s => w s * ln s) 86))) ∧ h' = h) := by
    intro m
    induction m with
    | zero =>
      intro i hi
      obtain rfl : i = 86 := by omega
      refine R_iload_n dX0_allBits_4 rfl ?_
      refine R_bipush (v := nI 86) dX0_allBits_5 (by decide) ?_
      refine R_icmp_ge_N (tgt := 32) dX0_allBits_7 (by decide) (by omega) (by omega) (fun c7 => ?_) (fun c7 => ?_)
      -- X0_allBits: ('branch', 7, 32, 10)
      · refine R_iload_n dX0_allBits_32 rfl ?_
        refine R_ireturn dX0_allBits_33 rfl rfl ?_
        -- X0_allBits: ('ret', 33)
        exact ⟨rfl, rfl⟩
      · exact absurd c7 (by omega)
    | succ m ih =>
      intro i hi
      refine R_iload_n dX0_allBits_4 rfl ?_
      refine R_bipush (v := nI 86) dX0_allBits_5 (by decide) ?_
      refine R_icmp_ge_N (tgt := 32) dX0_allBits_7 (by decide) (by omega) (by omega) (fun c7 => ?_) (fun c7 => ?_)
      -- X0_allBits: ('branch', 7, 32, 10)
      · exact absurd c7 (by omega)
      · refine R_iload_n dX0_allBits_10 rfl ?_
        refine R_aload_n dX0_allBits_11 rfl ?_
        refine R_get K_0 (f := 0) (by decide) dX0_allBits_12 f_RX0_9 a1 rfl ?_
        refine R_iload_n dX0_allBits_15 rfl ?_
        refine R_iaload_N dX0_allBits_16 a2 (by omega) (by omega) (by first | exact hf1 i (by omega) | exact hf4 i (by omega)) ?_
        refine R_aload_n dX0_allBits_17 rfl ?_
        refine R_get K_0 (f := 3) (by decide) dX0_allBits_18 f_RX0_21 a1 rfl ?_
        refine R_iload_n dX0_allBits_21 rfl ?_
        refine R_iaload_N dX0_allBits_22 a5 (by omega) (by omega) (by first | exact hf1 i (by omega) | exact hf4 i (by omega)) ?_
        refine R_imul_N dX0_allBits_23 ?_
        refine R_iadd_N dX0_allBits_24 ?_
        refine R_istore1 dX0_allBits_25 (by decide) ?_
        refine R_iinc2 dX0_allBits_26 (by decide) (nI_inc _ 1) ?_
        refine R_goto (tgt := 4) dX0_allBits_29 (by decide) ?_
        -- X0_allBits: ('stop', 4)
        exact ih (i + 1) (by omega)
  refine R_iconst (v := nI 0) dX0_allBits_0 (by decide) ?_
  refine R_istore1 dX0_allBits_1 (by decide) ?_
  refine R_iconst (v := nI 0) dX0_allBits_2 (by decide) ?_
  refine R_istore2 dX0_allBits_3 (by decide) ?_
  -- X0_allBits: ('stop', 4)
  exact loop 86 0 (by omega)
theorem Cod_signAt (hC : CodAt E h C w gr gw ln cd l) (i : Int32) : Spec E k_X0_signAt 2 0 0 [.ref C, .int i] h (fun v h' => v = some (.int (rget l i)) ∧ h' = h) := by
  have hR := hC.2.2.2.2.2.2
  refine Spec.of (by decide +kernel) (by simp [Value.category]) (Nat.le_of_ble_eq_true rfl) ?_
  show WP E k_X0_signAt 2 0 0 0 [some (.ref C), some (.int i)] [] h _
  refine R_aload_n dX0_signAt_0 rfl ?_
  refine R_get K_0 (f := 5) (by decide) dX0_signAt_1 f_RX0_32 hC.1 rfl ?_
  refine R_iload_n dX0_signAt_4 rfl ?_
  -- X0_signAt: ('call', 5, '.invokevirtual', 59)
  refine R_callV v_X6_get (Row_get hR i) dX0_signAt_5 l_RX0_59 rfl rfl hR.2.2.1 (Nat.le_of_ble_eq_true rfl) (by omega) rfl rfl (fun v h1 hq => ?_)
  obtain ⟨rfl, rfl⟩ := hq
  refine R_ireturn dX0_signAt_8 rfl rfl ?_
  -- X0_signAt: ('ret', 8)
  exact ⟨rfl, rfl⟩
theorem Cod_codeOf (hC : CodAt E h C w gr gw ln cd l) {s : Nat} (hs : s < 86) (hl : ln s < 2 ^ 31) : Spec E k_X0_codeOf 2 0 0 [.ref C, .int (nI s)] h (fun v h' => v = some (.int (if 0 < ln s then cd s else -1)) ∧ h' = h) := by
  obtain ⟨a1, a2, a3, a4, a5, ⟨f5, a6, hf5⟩, a7⟩ := id hC
  refine Spec.of (by decide +kernel) (by simp [Value.category]) (Nat.le_of_ble_eq_true rfl) ?_
  show WP E k_X0_codeOf 2 0 0 0 [some (.ref C), some (.int (nI s))] [] h _
  refine R_aload_n dX0_codeOf_0 rfl ?_
  refine R_iload_n dX0_codeOf_1 rfl ?_
  -- X0_codeOf: ('call', 2, '.invokevirtual', 56)
  refine R_callV v_X0_lengthOf (Cod_lengthOf hC (nI s)) dX0_codeOf_2 l_RX0_56 rfl rfl a1 (Nat.le_of_ble_eq_true rfl) (by omega) rfl rfl (fun v h1 hq => ?_)
  obtain ⟨rfl, rfl⟩ := hq
  rw [rlen_nI (by omega), if_pos hs]
  refine R_if_le_N (tgt := 17) dX0_codeOf_5 (by decide) (by omega) (fun c5 => ?_) (fun c5 => ?_)
  -- X0_codeOf: ('branch', 5, 17, 8)
  · refine R_iconst (v := (-1)) dX0_codeOf_17 (by decide) ?_
    refine R_ireturn dX0_codeOf_18 rfl rfl ?_
    -- X0_codeOf: ('ret', 18)
    exact ⟨by rw [if_neg (by omega)], rfl⟩
  · refine R_aload_n dX0_codeOf_8 rfl ?_
    refine R_get K_0 (f := 4) (by decide) dX0_codeOf_9 f_RX0_24 a1 rfl ?_
    refine R_iload_n dX0_codeOf_12 rfl ?_
    refine R_iaload_N dX0_codeOf_13 a6 (by omega) (by omega) (hf5 s (by omega)) ?_
    refine R_goto (tgt := 18) dX0_codeOf_14 (by decide) ?_
    refine R_ireturn dX0_codeOf_18 rfl rfl ?_
    -- X0_codeOf: ('ret', 18)
    exact ⟨by rw [if_pos (by omega)], rfl⟩
theorem Cod_weigh (hC : CodAt E h C w gr gw ln cd l) {r cap : Nat} {sq : List Nat} (hR : RowAt E h r cap sq) (hd : r + 2 ≤ C ∨ C + 8 ≤ r) : Spec E k_X0_weigh 2 0 0 [.ref C, .ref r] h (fun v h' => v = some (.int (nI (cntB (fun s => decide (0 < sq.count s)) 86))) ∧ CodAt E h' C (fun s => sq.count s) (fun s => s) (fun s => sq.count s) (fun _ => 0) (fun _ => 0) l ∧ Out h h' C (C + 8)) := by
  have hcb : ∀ s, sq.count s < 100000 := fun s => by
    have b1 := List.count_le_length (a := s) (l := sq)
    have b2 := hR.1
    have b3 := hR.2.1
    omega
  refine Spec.of (by decide +kernel) (by simp [Value.category]) (Nat.le_of_ble_eq_true rfl) ?_
  show WP E k_X0_weigh 2 0 0 0 [some (.ref C), some (.ref r), none, none] [] h _
  have loop : ∀ m i h2, i + m = 86 → CodAt E h2 C (fun s => if s < i then sq.count s else w s) (fun s => if s < i then s else gr s) (fun s => if s < i then sq.count s else gw s) (fun s => if s < i then 0 else ln s) (fun s => if s < i then 0 else cd s) l → Out h h2 C (C + 8) → WP E k_X0_weigh 2 0 0 4 [some (.ref C), some (.ref r), some (.int (nI (cntB (fun s => decide (0 < sq.count s)) i))), some (.int (nI i))] [] h2 (fun v h' => v = some (.int (nI (cntB (fun s => decide (0 < sq.count s)) 86))) ∧ CodAt E h' C (fun s => sq.count s) (fun s => s) (fun s => sq.count s) (fun _ => 0) (fun _ => 0) l ∧ Out h h' C (C + 8)) := by
    intro m
    induction m with
    | zero =>
      intro i h2 hi hC2 o2
      obtain rfl : i = 86 := by omega
      obtain ⟨a1, a2, a3, a4, a5, ⟨f5, a6, hf5⟩, a7⟩ := hC2
      refine R_iload_n dX0_weigh_4 rfl ?_
      refine R_bipush (v := nI 86) dX0_weigh_5 (by decide) ?_
      refine R_icmp_ge_N (tgt := 72) dX0_weigh_7 (by decide) (by omega) (by omega) (fun c7 => ?_) (fun c7 => ?_)
      -- X0_weigh: ('branch', 7, 72, 10)
      · refine R_iload_n dX0_weigh_72 rfl ?_
        refine R_ireturn dX0_weigh_73 rfl rfl ?_
        -- X0_weigh: ('ret', 73)
        refine ⟨rfl, ⟨a1, a2.to (fun s hs => if_pos hs), a3.to (fun s hs => if_pos hs), a4.to (fun s hs => if_pos hs), a5.to (fun s hs => if_pos hs), ⟨f5, a6, fun s hs => (hf5 s hs).trans (if_pos hs)⟩, a7⟩, o2⟩
      · exact absurd c7 (by omega)
    | succ m ih =>
      intro i h2 hi hC2 o2
      obtain ⟨a1, ⟨f1, a2, hf1⟩, ⟨f2, a3, hf2⟩, ⟨f3, a4, hf3⟩, ⟨f4, a5, hf4⟩, ⟨f5, a6, hf5⟩, a7⟩ := hC2
      have hR2 := hR.out o2 (by omega)
      have hci := hcb i
      have hcn := cntB_le (fun s => decide (0 < sq.count s)) i
      refine R_iload_n dX0_weigh_4 rfl ?_
      refine R_bipush (v := nI 86) dX0_weigh_5 (by decide) ?_
      refine R_icmp_ge_N (tgt := 72) dX0_weigh_7 (by decide) (by omega) (by omega) (fun c7 => ?_) (fun c7 => ?_)
      -- X0_weigh: ('branch', 7, 72, 10)
      · exact absurd c7 (by omega)
      · refine R_aload_n dX0_weigh_10 rfl ?_
        refine R_get K_0 (f := 0) (by decide) dX0_weigh_11 f_RX0_9 a1 rfl ?_
        refine R_iload_n dX0_weigh_14 rfl ?_
        refine R_aload_n dX0_weigh_15 rfl ?_
        refine R_iload_n dX0_weigh_16 rfl ?_
        -- X0_weigh: ('call', 17, '.invokevirtual', 62)
        refine R_callV v_X6_howMany (Row_howMany hR2 (x := i) (by omega)) dX0_weigh_17 l_RX0_62 rfl rfl hR2.2.2.1 (Nat.le_of_ble_eq_true rfl) (by omega) rfl rfl (fun v g1 hq => ?_)
        obtain ⟨rfl, e9⟩ := hq
        rw [e9]
        refine R_iastore_N dX0_weigh_20 a2 (by omega) (by omega) ?_
        -- X0_weigh: ('put', 21)
        intro h3 u3
        have b1 := (u3.2.2 C (by omega)).trans a1
        have b3 := (u3.2.2 (C + 2) (by omega)).trans a3
        have b4 := (u3.2.2 (C + 3) (by omega)).trans a4
        have b5 := (u3.2.2 (C + 4) (by omega)).trans a5
        have b6 := (u3.2.2 (C + 5) (by omega)).trans a6
        refine R_aload_n dX0_weigh_21 rfl ?_
        refine R_get K_0 (f := 1) (by decide) dX0_weigh_22 f_RX0_15 b1 rfl ?_
        refine R_iload_n dX0_weigh_25 rfl ?_
        refine R_iload_n dX0_weigh_26 rfl ?_
        refine R_iastore_N dX0_weigh_27 b3 (by omega) (by omega) ?_
        -- X0_weigh: ('put', 28)
        intro h4 u4
        have d1 := (u4.2.2 C (by omega)).trans b1
        have d2 := (u4.2.2 (C + 1) (by omega)).trans u3.2.1
        have d4 := (u4.2.2 (C + 3) (by omega)).trans b4
        have d5 := (u4.2.2 (C + 4) (by omega)).trans b5
        have d6 := (u4.2.2 (C + 5) (by omega)).trans b6
        refine R_aload_n dX0_weigh_28 rfl ?_
        refine R_get K_0 (f := 2) (by decide) dX0_weigh_29 f_RX0_18 d1 rfl ?_
        refine R_iload_n dX0_weigh_32 rfl ?_
        refine R_aload_n dX0_weigh_33 rfl ?_
        refine R_get K_0 (f := 0) (by decide) dX0_weigh_34 f_RX0_9 d1 rfl ?_
        refine R_iload_n dX0_weigh_37 rfl ?_
        refine R_iaload_N dX0_weigh_38 d2 (by omega) (by omega) (by rw [upd, if_pos rfl]) ?_
        refine R_iastore_N dX0_weigh_39 d4 (by omega) (by omega) ?_
        -- X0_weigh: ('put', 40)
        intro h5 u5
        have k1 := (u5.2.2 C (by omega)).trans d1
        have k2 := (u5.2.2 (C + 1) (by omega)).trans d2
        have k3 := (u5.2.2 (C + 2) (by omega)).trans u4.2.1
        have k5 := (u5.2.2 (C + 4) (by omega)).trans d5
        have k6 := (u5.2.2 (C + 5) (by omega)).trans d6
        refine R_aload_n dX0_weigh_40 rfl ?_
        refine R_get K_0 (f := 3) (by decide) dX0_weigh_41 f_RX0_21 k1 rfl ?_
        refine R_iload_n dX0_weigh_44 rfl ?_
        refine R_iconst (v := nI 0) dX0_weigh_45 (by decide) ?_
        refine R_iastore_N dX0_weigh_46 k5 (by omega) (by omega) ?_
        -- X0_weigh: ('put', 47)
        intro h6 u6
        have m1 := (u6.2.2 C (by omega)).trans k1
        have m2 := (u6.2.2 (C + 1) (by omega)).trans k2
        have m6 := (u6.2.2 (C + 5) (by omega)).trans k6
        refine R_aload_n dX0_weigh_47 rfl ?_
        refine R_get K_0 (f := 4) (by decide) dX0_weigh_48 f_RX0_24 m1 rfl ?_
        refine R_iload_n dX0_weigh_51 rfl ?_
        refine R_iconst (v := nI 0) dX0_weigh_52 (by decide) ?_
        refine R_iastore_N dX0_weigh_53 m6 (by omega) (by omega) ?_
        -- X0_weigh: ('put', 54)
        intro h7 u7
        have n1 := (u7.2.2 C (by omega)).trans m1
        have n2 := (u7.2.2 (C + 1) (by omega)).trans m2
        have o7 : Out h2 h7 C (C + 6) := ((((Out.upd u3 (by omega) (by omega)).trans (Out.upd u4 (by omega) (by omega))).trans (Out.upd u5 (by omega) (by omega))).trans (Out.upd u6 (by omega) (by omega))).trans (Out.upd u7 (by omega) (by omega))
        have hC7 : CodAt E h7 C (fun s => if s < i + 1 then sq.count s else w s) (fun s => if s < i + 1 then s else gr s) (fun s => if s < i + 1 then sq.count s else gw s) (fun s => if s < i + 1 then 0 else ln s) (fun s => if s < i + 1 then 0 else cd s) l := by
          refine ⟨n1, ((arrN.set hf1 u3).eq (((u7.2.2 _ (by omega)).trans (u6.2.2 _ (by omega))).trans ((u5.2.2 _ (by omega)).trans (u4.2.2 _ (by omega))))).to ?_, ((arrN.set hf2 u4).eq (((u7.2.2 _ (by omega)).trans (u6.2.2 _ (by omega))).trans (u5.2.2 _ (by omega)))).to ?_, ((arrN.set hf3 u5).eq ((u7.2.2 _ (by omega)).trans (u6.2.2 _ (by omega)))).to ?_, ((arrN.set (v := 0) hf4 u6).eq (u7.2.2 _ (by omega))).to ?_, ⟨_, u7.2.1, fun s hs => ?_⟩, a7.out o7 (by omega)⟩
          all_goals (try intro s hs)
          all_goals by_cases e : s = i
          all_goals first | (subst e; simp [upd]; done) | (simp only [upd, if_neg e, show s < i + 1 ↔ s < i by omega]) | skip
          all_goals first | exact hf5 s hs | (subst e; rw [upd, if_pos rfl]; simp; decide) | skip
        have ihx := fun z => ih (i + 1) h7 (by omega) hC7 (o2.trans (o7.mono (by omega) (by omega)))
        rw [cntB] at ihx
        refine R_aload_n dX0_weigh_54 rfl ?_
        refine R_get K_0 (f := 0) (by decide) dX0_weigh_55 f_RX0_9 n1 rfl ?_
        refine R_iload_n dX0_weigh_58 rfl ?_
        refine R_iaload_N dX0_weigh_59 n2 (by omega) (by omega) (by rw [upd, if_pos rfl]) ?_
        refine R_if_le_N (tgt := 66) dX0_weigh_60 (by decide) (by omega) (fun c60 => ?_) (fun c60 => ?_)
        -- X0_weigh: ('branch', 60, 66, 63)
        · refine R_iinc3 dX0_weigh_66 (by decide) (nI_inc _ 1) ?_
          refine R_goto (tgt := 4) dX0_weigh_69 (by decide) ?_
          -- X0_weigh: ('stop', 4)
          have := ihx (by omega)
          rw [show decide (0 < sq.count i) = false from decide_eq_false (by omega), if_neg (by decide), Nat.add_zero] at this
          exact this
        · refine R_iinc2 dX0_weigh_63 (by decide) (nI_inc _ 1) ?_
          refine R_iinc3 dX0_weigh_66 (by decide) (nI_inc _ 1) ?_
          refine R_goto (tgt := 4) dX0_weigh_69 (by decide) ?_
          -- X0_weigh: ('stop', 4)
          have := ihx (by omega)
          rw [show decide (0 < sq.count i) = true from decide_eq_true (by omega), if_pos rfl] at this
          exact this
  refine R_iconst (v := nI 0) dX0_weigh_0 (by decide) ?_
  refine R_istore2 dX0_weigh_1 (by decide) ?_
  refine R_iconst (v := nI 0) dX0_weigh_2 (by decide) ?_
  refine R_istore3 dX0_weigh_3 (by decide) ?_
  -- X0_weigh: ('stop', 4)
  exact loop 86 0 h (by omega) hC Out.refl
end CODES
