/-! THE MODEL: codes -/
theorem lightF_no {gw : Nat → Nat} {but : Option Nat} : ∀ {n}, lightF gw but n = none → ∀ s, s < n → 0 < gw s → some s = but
  | 0, _, s, hs, _ => absurd hs (by omega)
  | n + 1, h, s, hs, hg => by
    rw [lightF] at h
    split at h
    · cases h
    · rename_i c
      have ih := lightF_no h
      by_cases e : s = n
      · subst e
        apply Classical.byContradiction
        intro hb
        exact c ⟨hg, hb, fun b hb2 => by rw [h] at hb2; cases hb2⟩
      · exact ih s (by omega) hg
/-- what the groups keep to -/
def CInv (sq : List Nat) (st : CSt) : Prop := (∀ s, s < 86 → st.2.1 s < 86) ∧ (∀ s, s < 86 → (0 < st.1 s ↔ 0 < sq.count s ∧ st.2.1 s = s)) ∧ (∀ s, s < 86 → 0 < sq.count s → st.2.1 (st.2.1 s) = st.2.1 s ∧ 0 < sq.count (st.2.1 s)) ∧ ∀ s, s < 86 → sq.count s = 0 → st.2.1 s = s
theorem CInv.start {sq : List Nat} : CInv sq (cst0 sq) := ⟨fun s hs => hs, fun s _ => ⟨fun z => ⟨z, rfl⟩, fun z => z.1⟩, fun s _ z => ⟨rfl, z⟩, fun s _ _ => rfl⟩
abbrev ldr (st : CSt) : Nat := cntB (fun s => decide (0 < st.1 s)) 86
theorem CInv.next {sq : List Nat} {st : CSt} {a b : Nat} (x : CInv sq st) (ha : a < 86) (hb : b < 86) (ga : 0 < st.1 a) (gb : 0 < st.1 b) (hab : ¬ b = a) : CInv sq (jnT st a b) ∧ ldr (jnT st a b) + 1 = ldr st := by
  obtain ⟨x1, x2, x3, x4⟩ := x
  obtain ⟨la, fa⟩ := (x2 a ha).mp ga
  obtain ⟨lb, fb⟩ := (x2 b hb).mp gb
  obtain ⟨lo, hi, hlo, hhi, e1, e2⟩ : ∃ lo hi, lo < 86 ∧ hi < 86 ∧ lo = min a b ∧ hi = max a b := ⟨_, _, by omega, by omega, rfl, rfl⟩
  have hne : ¬ lo = hi := by omega
  have flo : st.2.1 lo = lo ∧ 0 < sq.count lo ∧ 0 < st.1 lo := by
    rcases (show lo = a ∨ lo = b by omega) with z | z <;> rw [z]
    · exact ⟨fa, la, ga⟩
    · exact ⟨fb, lb, gb⟩
  have fhi : st.2.1 hi = hi ∧ 0 < sq.count hi ∧ 0 < st.1 hi := by
    rcases (show hi = a ∨ hi = b by omega) with z | z <;> rw [z]
    · exact ⟨fa, la, ga⟩
    · exact ⟨fb, lb, gb⟩
  have w' : ∀ s, (jnT st a b).1 s = if s = hi then 0 else if s = lo then st.1 lo + st.1 hi else st.1 s := fun s => by rw [e1, e2]; rfl
  have g' : ∀ s, (jnT st a b).2.1 s = if st.2.1 s = hi then lo else st.2.1 s := fun s => by rw [e1, e2]; rfl
  refine ⟨⟨fun s hs => ?_, fun s hs => ?_, fun s hs hl => ?_, fun s hs hl => ?_⟩, ?_⟩
  · rw [g']
    have := x1 s hs
    split <;> omega
  · rw [w', g']
    by_cases c1 : s = hi
    · rw [if_pos c1, c1, fhi.1, if_pos rfl]
      exact ⟨fun z => absurd z (by omega), fun z => absurd z.2 hne⟩
    · rw [if_neg c1]
      by_cases c2 : s = lo
      · rw [if_pos c2, c2, flo.1, if_neg hne]
        exact ⟨fun _ => ⟨flo.2.1, rfl⟩, fun _ => by omega⟩
      · rw [if_neg c2, x2 s hs]
        by_cases c3 : st.2.1 s = hi
        · rw [if_pos c3]
          exact ⟨fun z => absurd (z.2.symm.trans c3) c1, fun z => absurd z.2.symm c2⟩
        · rw [if_neg c3]
  · rw [g' s]
    by_cases c1 : st.2.1 s = hi
    · rw [if_pos c1, g', flo.1, if_neg hne]
      exact ⟨rfl, flo.2.1⟩
    · obtain ⟨y1, y2⟩ := x3 s hs hl
      rw [if_neg c1, g', y1, if_neg c1]
      exact ⟨rfl, y2⟩
  · have := x4 s hs hl
    rw [g', this, if_neg (fun z => by rw [z] at hl; omega)]
  · have := cntB_ins (p := fun s => decide (0 < (jnT st a b).1 s)) (q := fun s => decide (0 < st.1 s)) hhi (decide_eq_false (by rw [w', if_pos rfl]; omega)) (decide_eq_true fhi.2.2) (n := 86) (fun j _ hj => by
      rw [w', if_neg hj]
      by_cases c : j = lo
      · rw [if_pos c, c, decide_eq_true flo.2.2, decide_eq_true (by omega)]
      · rw [if_neg c])
    exact this.symm
theorem ldr_two {st : CSt} (h : 2 ≤ ldr st) : ∃ a b, lightF st.1 none 86 = some a ∧ lightF st.1 (some a) 86 = some b := by
  have h : 2 ≤ cntB (fun s => decide (0 < st.1 s)) 86 := h
  cases ha : lightF st.1 none 86 with
  | none =>
    have := cntB_mem (p := fun s => decide (0 < st.1 s)) (l := []) 86 (fun j hj hp => by cases lightF_no ha j hj (of_decide_eq_true hp))
    simp at this
    omega
  | some a =>
    cases hb : lightF st.1 (some a) 86 with
    | none =>
      have := cntB_mem (p := fun s => decide (0 < st.1 s)) (l := [a]) 86 (fun j hj hp => by cases lightF_no hb j hj (of_decide_eq_true hp); exact List.mem_singleton.mpr rfl)
      have h2 : ([a].countP (fun x => decide (x < 86))) ≤ 1 := List.countP_le_length
      omega
    | some b => exact ⟨a, b, rfl, hb⟩
theorem ldr_one {st : CSt} {a b : Nat} (h : ldr st ≤ 1) (ha : lightF st.1 none 86 = some a) : ¬ lightF st.1 (some a) 86 = some b := by
  intro hb
  obtain ⟨a1, a2, -⟩ := lightF_some ha
  obtain ⟨b1, b2, b3⟩ := lightF_some hb
  have hab : ¬ b = a := fun e => b3 (by rw [e])
  have k1 := cntB_ins (p := fun s => decide (0 < st.1 s ∧ ¬ s = a)) (q := fun s => decide (0 < st.1 s)) a1 (decide_eq_false (fun z => z.2 rfl)) (decide_eq_true a2) (n := 86) (fun j _ hj => by
    by_cases c : 0 < st.1 j
    · rw [decide_eq_true c, decide_eq_true ⟨c, hj⟩]
    · rw [decide_eq_false c, decide_eq_false (fun z => c z.1)])
  have k2 := cntB_ins (p := fun s => decide (0 < st.1 s ∧ ¬ s = a ∧ ¬ s = b)) (q := fun s => decide (0 < st.1 s ∧ ¬ s = a)) b1 (decide_eq_false (fun z => z.2.2 rfl)) (decide_eq_true ⟨b2, hab⟩) (n := 86) (fun j _ hj => by
    by_cases c : 0 < st.1 j ∧ ¬ j = a
    · rw [decide_eq_true c, decide_eq_true ⟨c.1, c.2, hj⟩]
    · rw [decide_eq_false c, decide_eq_false (fun z => c ⟨z.1, z.2.1⟩)])
  have : ldr st = _ := k1
  omega
theorem sumB_pt {g : Nat → Nat} {x v : Nat} : ∀ n, sumB (fun s => g s + if x = s then v else 0) n = sumB g n + if x < n then v else 0
  | 0 => rfl
  | n + 1 => by
    rw [sumB, sumB, sumB_pt n]
    by_cases e : x = n
    · rw [if_pos e, if_neg (by omega), if_pos (by omega)]; omega
    · rw [if_neg e]
      by_cases c : x < n
      · rw [if_pos c, if_pos (by omega)]; omega
      · rw [if_neg c, if_neg (by omega)]; omega
theorem sumB_ext9 {f g : Nat → Nat} : ∀ {n}, (∀ j, j < n → f j = g j) → sumB f n = sumB g n
  | 0, _ => rfl
  | n + 1, h => by rw [sumB, sumB, sumB_ext9 (fun j hj => h j (by omega)), h n (by omega)]
theorem lsum_count {f : Nat → Nat} : ∀ {l : List Nat}, (∀ y ∈ l, y < 86) → lsum f l = sumB (fun s => l.count s * f s) 86
  | [], _ => by
    rw [lsum]
    have : ∀ n, sumB (fun s => ([] : List Nat).count s * f s) n = 0 := by
      intro n
      induction n with
      | zero => rfl
      | succ n ih => rw [sumB, ih]; simp
    rw [this]
  | x :: t, h => by
    rw [lsum, lsum_count (fun y hy => h y (List.mem_cons_of_mem _ hy))]
    have e : sumB (fun s => (x :: t).count s * f s) 86 = sumB (fun s => t.count s * f s + if x = s then f x else 0) 86 := sumB_ext9 (fun j _ => by
      rw [List.count_cons]
      by_cases c : x = j
      · subst c; simp [Nat.add_mul]
      · rw [if_neg c, if_neg (by simpa using c)]; simp)
    rw [e, sumB_pt, if_pos (h x List.mem_cons_self)]; omega
theorem cwL_at {ln : Nat → Nat} {f0 : Nat → Int32} {s : Nat} {r : List Nat} : cwL ln f0 (s :: r) s = cvL ln (s :: r) := if_pos rfl
theorem cwL_ne {ln : Nat → Nat} {f0 : Nat → Int32} {s y : Nat} {r : List Nat} (h : ¬ y = s) : cwL ln f0 (s :: r) y = cwL ln f0 r y := if_neg h
section MD15
variable {E : EnvT} {h h1 : Hp} {M : Nat} {S : MSt} {q : Pk} {ds : List Pk} {im : Nat → Pk} {md : Nat → Nat} {tp ph : List Nat} {fk fp : Int32}
def CdM (S : MSt) (sq : List Nat) (st : CSt) : Prop := ∀ s, s < 86 → (0 < st.1 s → S.2 15 s = nI (st.1 s)) ∧ S.2 16 s = (if 0 < sq.count s then nI (st.2.1 s) else -1) ∧ S.2 17 s = nI (st.2.2 s)
theorem CdM.own {sq : List Nat} {st : CSt} (d : CdM S sq st) (v : CInv sq st) {s t : Nat} (hs : s < 86) (ht : t < 86) (gt : 0 < st.1 t) : S.2 16 s = nI t ↔ st.2.1 s = t := by
  have hg := v.1 s hs
  rw [(d s hs).2.1]
  by_cases c : 0 < sq.count s
  · rw [if_pos c, nI_inj (by omega) (by omega)]
  · rw [if_neg c]
    refine ⟨fun z => absurd z.symm (nI_ne_m1 (by omega)), fun z => ?_⟩
    have := v.2.2.2 s hs (by omega)
    rw [this] at z
    rw [z] at c
    exact absurd ((v.2.1 t ht).mp gt).1 c
theorem CdM.led {sq : List Nat} {st : CSt} (d : CdM S sq st) (v : CInv sq st) {s : Nat} (hs : s < 86) : S.2 16 s = nI s ↔ 0 < st.1 s := by
  have hg := v.1 s hs
  rw [(d s hs).2.1, v.2.1 s hs]
  by_cases c : 0 < sq.count s
  · rw [if_pos c, nI_inj (by omega) (by omega)]
    exact ⟨fun z => ⟨c, z⟩, fun z => z.2⟩
  · rw [if_neg c]
    exact ⟨fun z => absurd z.symm (nI_ne_m1 (by omega)), fun z => absurd z.1 c⟩
theorem Md_lightest (x : MdAt E h M S) {sq : List Nat} {st : CSt} (d : CdM S sq st) (v : CInv sq st) (hg : ∀ s, s < 86 → st.1 s < 2 ^ 31) {but : Option Nat} (hb : ∀ b, but = some b → b < 86) : Spec E k_X10_lightest 0 0 0 [.ref M, .int (oI 0 but)] h (fun v h' => v = some (.int (oI 0 (lightF st.1 but 86))) ∧ h' = h) := by
  refine Spec.of (by decide +kernel) (by simp [Value.category]) (Nat.le_of_ble_eq_true rfl) ?_
  show WP E k_X10_lightest 0 0 0 0 [some (.ref M), some (.int (oI 0 but)), none, none] [] h _
  have loop : ∀ m i, i + m = 86 → WP E k_X10_lightest 0 0 0 4 [some (.ref M), some (.int (oI 0 but)), some (.int (oI 0 (lightF st.1 but i))), some (.int (nI i))] [] h (fun v h' => v = some (.int (oI 0 (lightF st.1 but 86))) ∧ h' = h) := by
    intro m
    induction m with
    | zero =>
      intro i hi
      obtain rfl : i = 86 := by omega
      refine R_iload_n dX10_lightest_4 rfl ?_
      refine R_bipush (v := nI 86) dX10_lightest_5 (by decide) ?_
      refine R_icmp_ge_N (tgt := 53) dX10_lightest_7 (by decide) (by omega) (by omega) (fun c7 => ?_) (fun c7 => ?_)
      -- X10_lightest: ('branch', 7, 53, 10)
      · refine R_iload_n dX10_lightest_53 rfl ?_
        refine R_ireturn dX10_lightest_54 rfl rfl ?_
        -- X10_lightest: ('ret', 54)
        exact ⟨rfl, rfl⟩
      · exact absurd c7 (by omega)
    | succ m ih =>
      intro i hi
      have hgi := hg i (by omega)
      have nx : ∀ r x, lightF st.1 but (i + 1) = r → x = oI 0 r → WP E k_X10_lightest 0 0 0 47 [some (.ref M), some (.int (oI 0 but)), some (.int x), some (.int (nI i))] [] h (fun v h' => v = some (.int (oI 0 (lightF st.1 but 86))) ∧ h' = h) := by
        intro r x hr hx
        refine R_iinc3 dX10_lightest_47 (by decide) (nI_inc _ 1) ?_
        refine R_goto (tgt := 4) dX10_lightest_50 (by decide) ?_
        -- X10_lightest: ('stop', 4)
        rw [hx, ← hr]
        exact ih (i + 1) (by omega)
      refine R_iload_n dX10_lightest_4 rfl ?_
      refine R_bipush (v := nI 86) dX10_lightest_5 (by decide) ?_
      refine R_icmp_ge_N (tgt := 53) dX10_lightest_7 (by decide) (by omega) (by omega) (fun c7 => ?_) (fun c7 => ?_)
      -- X10_lightest: ('branch', 7, 53, 10)
      · exact absurd c7 (by omega)
      · refine R_aload_n dX10_lightest_10 rfl ?_
        refine R_get K_10 (f := 26) (by decide) dX10_lightest_11 f_RX10_64 x.1 rfl ?_
        refine R_iload_n dX10_lightest_14 rfl ?_
        refine R_iaload_N dX10_lightest_15 x.a16 (by omega) (by omega) rfl ?_
        refine R_iload_n dX10_lightest_16 rfl ?_
        refine R_icmp_ne (tgt := 47) dX10_lightest_17 (by decide) (fun c17 => ?_) (fun c17 => ?_)
        -- X10_lightest: ('branch', 17, 47, 20)
        · exact nx _ _ (by rw [lightF, if_neg (fun z => c17 ((d.led v (by omega)).mpr z.1))]) rfl
        · have hw := (d.led v (by omega)).mp c17
          refine R_iload_n dX10_lightest_20 rfl ?_
          refine R_iload_n dX10_lightest_21 rfl ?_
          refine R_icmp_eq (tgt := 47) dX10_lightest_22 (by decide) (fun c22 => ?_) (fun c22 => ?_)
          -- X10_lightest: ('branch', 22, 47, 25)
          · exact nx _ _ (by rw [lightF, if_neg (fun z => z.2.1 ((oI0_eq (by omega) hb).mp c22))]) rfl
          · have hne : ¬ some i = but := fun z => c22 ((oI0_eq (by omega) hb).mpr z)
            cases hl : lightF st.1 but i with
            | none =>
              refine R_iload_n dX10_lightest_25 rfl ?_
              refine R_iconst (v := (-1)) dX10_lightest_26 (by decide) ?_
              refine R_icmp_eq (tgt := 45) dX10_lightest_27 (by decide) (fun c27 => ?_) (fun c27 => ?_)
              -- X10_lightest: ('branch', 27, 45, 30)
              · refine R_iload_n dX10_lightest_45 rfl ?_
                refine R_istore2 dX10_lightest_46 (by decide) ?_
                -- X10_lightest: ('stop', 47)
                exact nx (some i) _ (by rw [lightF, if_pos ⟨hw, hne, fun b z => by rw [hl] at z; cases z⟩]) (by rw [oI, Nat.zero_add])
              · exact absurd rfl c27
            | some b =>
              obtain ⟨b1, b2, b3⟩ := lightF_some hl
              have hgb := hg b (by omega)
              rw [oI, Nat.zero_add]
              refine R_iload_n dX10_lightest_25 rfl ?_
              refine R_iconst (v := (-1)) dX10_lightest_26 (by decide) ?_
              refine R_icmp_eq (tgt := 45) dX10_lightest_27 (by decide) (fun c27 => ?_) (fun c27 => ?_)
              -- X10_lightest: ('branch', 27, 45, 30)
              · exact absurd c27 (nI_ne_m1 (by omega))
              · refine R_aload_n dX10_lightest_30 rfl ?_
                refine R_get K_10 (f := 25) (by decide) dX10_lightest_31 f_RX10_61 x.1 rfl ?_
                refine R_iload_n dX10_lightest_34 rfl ?_
                refine R_iaload_N dX10_lightest_35 x.a15 (by omega) (by omega) ((d i (by omega)).1 hw) ?_
                refine R_aload_n dX10_lightest_36 rfl ?_
                refine R_get K_10 (f := 25) (by decide) dX10_lightest_37 f_RX10_61 x.1 rfl ?_
                refine R_iload_n dX10_lightest_40 rfl ?_
                refine R_iaload_N dX10_lightest_41 x.a15 (by omega) (by omega) ((d b (by omega)).1 b2) ?_
                refine R_icmp_ge_N (tgt := 47) dX10_lightest_42 (by decide) (by omega) (by omega) (fun c42 => ?_) (fun c42 => ?_)
                -- X10_lightest: ('branch', 42, 47, 45)
                · exact nx (some b) _ (by rw [lightF, if_neg (fun z => absurd (z.2.2 b hl) (by omega)), hl]) (by rw [oI, Nat.zero_add])
                · refine R_iload_n dX10_lightest_45 rfl ?_
                  refine R_istore2 dX10_lightest_46 (by decide) ?_
                  -- X10_lightest: ('stop', 47)
                  exact nx (some i) _ (by rw [lightF, if_pos ⟨hw, hne, fun b2 z => by rw [hl] at z; cases z; omega⟩]) (by rw [oI, Nat.zero_add])
  refine R_iconst (v := (-1)) dX10_lightest_0 (by decide) ?_
  refine R_istore2 dX10_lightest_1 (by decide) ?_
  refine R_iconst (v := nI 0) dX10_lightest_2 (by decide) ?_
  refine R_istore3 dX10_lightest_3 (by decide) ?_
  -- X10_lightest: ('stop', 4)
  exact loop 86 0 (by omega)
theorem Md_joins (x : MdAt E h M S) {sq : List Nat} {st : CSt} {n : Nat} (d : CdM S sq st) (v : CInv sq st) (gd : CGood st n) (hn : n ≤ 1000) {a b : Nat} (ha : a < 86) (hb : b < 86) (ga : 0 < st.1 a) (gb : 0 < st.1 b) (hab : ¬ b = a) : Spec E k_X10_joins 2 0 0 [.ref M, .int (nI a), .int (nI b)] h (fun v h' => v = none ∧ Out h h' M (M + 23) ∧ ∃ S', MdAt E h' M S' ∧ Ony [15, 16, 17] [] S S' ∧ CdM S' sq (jnT st a b)) := by
  have hga : st.1 a < 2 ^ 30 := by have := sumB_ge (g := st.1) ha; have := gd.2.1; omega
  have hgb : st.1 b < 2 ^ 30 := by have := sumB_ge (g := st.1) hb; have := gd.2.1; omega
  have e3 : ∀ s, (jnT st a b).2.2 s = if st.2.1 s = a ∨ st.2.1 s = b then st.2.2 s + 1 else st.2.2 s := by
    intro s
    show (if some (st.2.1 s) = some b then (if some (st.2.1 s) = some a then st.2.2 s + 1 else st.2.2 s) + 1 else if some (st.2.1 s) = some a then st.2.2 s + 1 else st.2.2 s) = _
    by_cases c1 : st.2.1 s = b
    · rw [if_pos (by rw [c1]), if_neg (fun z => hab (c1.symm.trans (Option.some.inj z))), if_pos (Or.inr c1)]
    · rw [if_neg (fun z => c1 (Option.some.inj z))]
      by_cases c2 : st.2.1 s = a
      · rw [if_pos (by rw [c2]), if_pos (Or.inl c2)]
      · rw [if_neg (fun z => c2 (Option.some.inj z)), if_neg (fun z => z.elim c2 c1)]
  have e2 : ∀ s, (jnT st a b).2.1 s = if st.2.1 s = a ∨ st.2.1 s = b then min a b else st.2.1 s := by
    intro s
    show (if st.2.1 s = max a b then min a b else st.2.1 s) = _
    by_cases c : st.2.1 s = a ∨ st.2.1 s = b
    · rw [if_pos c]
      by_cases z : st.2.1 s = max a b
      · rw [if_pos z]
      · rw [if_neg z]; omega
    · rw [if_neg c, if_neg (fun z => c (by omega))]
  refine Spec.of (by decide +kernel) (by simp [Value.category]) (Nat.le_of_ble_eq_true rfl) ?_
  show WP E k_X10_joins 2 0 0 0 [some (.ref M), some (.int (nI a)), some (.int (nI b)), none, none, none] [] h _
  refine R_iload_n dX10_joins_0 rfl ?_
  refine R_iload_n dX10_joins_1 rfl ?_
  -- X10_joins: ('call', 2, '.invokestatic', 204)
  refine R_callS s_X10_lesser (Md_lesser (a := a) (b := b) (by omega) (by omega)) dX10_joins_2 l_RX10_204 rfl rfl (Nat.le_of_ble_eq_true rfl) (by omega) rfl rfl (fun v h2 hq => ?_)
  obtain ⟨rfl, e9⟩ := hq
  rw [e9]
  have loop : ∀ m s h5 S5, s + m = 86 → MdAt E h5 M S5 → Ony [16, 17] [] S S5 → (∀ t, t < s → S5.2 16 t = (if 0 < sq.count t then nI ((jnT st a b).2.1 t) else -1) ∧ S5.2 17 t = nI ((jnT st a b).2.2 t)) → (∀ t, s ≤ t → S5.2 16 t = S.2 16 t ∧ S5.2 17 t = S.2 17 t) → Out h h5 M (M + 23) → WP E k_X10_joins 2 0 0 24 [some (.ref M), some (.int (nI a)), some (.int (nI b)), some (.int (nI (min a b))), some (.int (nI (st.1 a + st.1 b))), some (.int (nI s))] [] h5 (fun v h' => v = none ∧ Out h h' M (M + 23) ∧ ∃ S', MdAt E h' M S' ∧ Ony [15, 16, 17] [] S S' ∧ CdM S' sq (jnT st a b)) := by
    intro m
    induction m with
    | zero =>
      intro s h5 S5 hs x5 o5 k1 k2 g5
      obtain rfl : s = 86 := by omega
      refine R_iload dX10_joins_24 rfl ?_
      refine R_bipush (v := nI 86) dX10_joins_26 (by decide) ?_
      refine R_icmp_ge_N (tgt := 92) dX10_joins_28 (by decide) (by omega) (by omega) (fun c28 => ?_) (fun c28 => ?_)
      -- X10_joins: ('branch', 28, 92, 31)
      · refine R_aload_n dX10_joins_92 rfl ?_
        refine R_get K_10 (f := 25) (by decide) dX10_joins_93 f_RX10_61 x5.1 rfl ?_
        refine R_iload_n dX10_joins_96 rfl ?_
        refine R_iload dX10_joins_97 rfl ?_
        refine R_iastore_N dX10_joins_99 x5.a15 (by omega) (by omega) ?_
        -- X10_joins: ('put', 100)
        intro h6 u6
        have x6 := x5.s15 u6
        refine R_return dX10_joins_100 rfl ?_
        -- X10_joins: ('ret', 100)
        refine ⟨rfl, g5.trans (Out.upd u6 (by omega) (by omega)), _, x6, (o5.mono (by decide) (by decide)).st (by decide), fun s hs => ⟨fun hw => ?_, (k1 s hs).1, (k1 s hs).2⟩⟩
        show upd (S5.2 15) (min a b) (nI (st.1 a + st.1 b)) s = _
        have e1 : (jnT st a b).1 s = if s = max a b then 0 else if s = min a b then st.1 (min a b) + st.1 (max a b) else st.1 s := rfl
        rw [e1] at hw ⊢
        by_cases c1 : s = max a b
        · rw [if_pos c1] at hw; omega
        · rw [if_neg c1] at hw ⊢
          by_cases c2 : s = min a b
          · rw [if_pos c2, c2, upd_at]
            rcases (show (min a b = a ∧ max a b = b) ∨ (min a b = b ∧ max a b = a) by omega) with z | z
            · rw [z.1, z.2]
            · rw [z.1, z.2, Nat.add_comm]
          · rw [if_neg c2] at hw ⊢
            rw [upd_ne c2, o5.1 15 (by decide)]
            exact (d s hs).1 hw
      · exact absurd c28 (by omega)
    | succ m ih =>
      intro s h5 S5 hs x5 o5 k1 k2 g5
      have hs86 : s < 86 := by omega
      have hgs := v.1 s hs86
      have d16 := (k2 s (Nat.le_refl _)).1.trans (d s hs86).2.1
      have d17 := (k2 s (Nat.le_refl _)).2.trans (d s hs86).2.2
      have hln := gd.2.2 s
      have keep : ¬ (st.2.1 s = a ∨ st.2.1 s = b) → WP E k_X10_joins 2 0 0 86 [some (.ref M), some (.int (nI a)), some (.int (nI b)), some (.int (nI (min a b))), some (.int (nI (st.1 a + st.1 b))), some (.int (nI s))] [] h5 (fun v h' => v = none ∧ Out h h' M (M + 23) ∧ ∃ S', MdAt E h' M S' ∧ Ony [15, 16, 17] [] S S' ∧ CdM S' sq (jnT st a b)) := by
        intro hn
        refine R_iinc5 dX10_joins_86 (by decide) (nI_inc _ 1) ?_
        refine R_goto (tgt := 24) dX10_joins_89 (by decide) ?_
        -- X10_joins: ('stop', 24)
        refine ih (s + 1) h5 S5 (by omega) x5 o5 (fun t ht => ?_) (fun t ht => k2 t (by omega)) g5
        by_cases e : t = s
        · rw [e, e2, e3, if_neg hn, if_neg hn]; exact ⟨d16, d17⟩
        · exact k1 t (by omega)
      by_cases cl : 0 < sq.count s
      · rw [if_pos cl] at d16
        have chg : (st.2.1 s = a ∨ st.2.1 s = b) → WP E k_X10_joins 2 0 0 67 [some (.ref M), some (.int (nI a)), some (.int (nI b)), some (.int (nI (min a b))), some (.int (nI (st.1 a + st.1 b))), some (.int (nI s))] [] h5 (fun v h' => v = none ∧ Out h h' M (M + 23) ∧ ∃ S', MdAt E h' M S' ∧ Ony [15, 16, 17] [] S S' ∧ CdM S' sq (jnT st a b)) := by
          intro hy
          refine R_aload_n dX10_joins_67 rfl ?_
          refine R_get K_10 (f := 26) (by decide) dX10_joins_68 f_RX10_64 x5.1 rfl ?_
          refine R_iload dX10_joins_71 rfl ?_
          refine R_iload_n dX10_joins_73 rfl ?_
          refine R_iastore_N dX10_joins_74 x5.a16 (by omega) (by omega) ?_
          -- X10_joins: ('put', 75)
          intro h6 u6
          have x6 := x5.s16 u6
          refine R_aload_n dX10_joins_75 rfl ?_
          refine R_get K_10 (f := 27) (by decide) dX10_joins_76 f_RX10_67 x6.1 rfl ?_
          refine R_iload dX10_joins_79 rfl ?_
          refine R_dup2 dX10_joins_81 rfl rfl ?_
          refine R_iaload_N dX10_joins_82 x6.a17 (by omega) (by omega) d17 ?_
          refine R_iconst (v := nI 1) dX10_joins_83 (by decide) ?_
          refine R_iadd_N dX10_joins_84 ?_
          refine R_iastore_N dX10_joins_85 x6.a17 (by omega) (by omega) ?_
          -- X10_joins: ('put', 86)
          intro h7 u7
          have x7 := x6.s17 u7
          refine R_iinc5 dX10_joins_86 (by decide) (nI_inc _ 1) ?_
          refine R_goto (tgt := 24) dX10_joins_89 (by decide) ?_
          -- X10_joins: ('stop', 24)
          refine ih (s + 1) h7 _ (by omega) x7 ((o5.st (by decide)).st (by decide)) (fun t ht => ?_) (fun t ht => ?_) ((g5.trans (Out.upd u6 (by omega) (by omega))).trans (Out.upd u7 (by omega) (by omega)))
          · show upd (S5.2 16) s (nI (min a b)) t = _ ∧ upd (S5.2 17) s (nI (st.2.2 s + 1)) t = _
            by_cases e : t = s
            · rw [e, upd_at, upd_at, if_pos cl, e2, e3, if_pos hy, if_pos hy]; exact ⟨rfl, rfl⟩
            · rw [upd_ne e, upd_ne e]; exact k1 t (by omega)
          · show upd (S5.2 16) s (nI (min a b)) t = _ ∧ upd (S5.2 17) s (nI (st.2.2 s + 1)) t = _
            rw [upd_ne (by omega), upd_ne (by omega)]; exact k2 t (by omega)
        refine R_iload dX10_joins_24 rfl ?_
        refine R_bipush (v := nI 86) dX10_joins_26 (by decide) ?_
        refine R_icmp_ge_N (tgt := 92) dX10_joins_28 (by decide) (by omega) (by omega) (fun c28 => ?_) (fun c28 => ?_)
        -- X10_joins: ('branch', 28, 92, 31)
        · exact absurd c28 (by omega)
        · refine R_aload_n dX10_joins_31 rfl ?_
          refine R_get K_10 (f := 26) (by decide) dX10_joins_32 f_RX10_64 x5.1 rfl ?_
          refine R_iload dX10_joins_35 rfl ?_
          refine R_iaload_N dX10_joins_37 x5.a16 (by omega) (by omega) d16 ?_
          refine R_iconst (v := (-1)) dX10_joins_38 (by decide) ?_
          refine R_icmp_eq (tgt := 86) dX10_joins_39 (by decide) (fun c39 => ?_) (fun c39 => ?_)
          -- X10_joins: ('branch', 39, 86, 42)
          · exact absurd c39 (nI_ne_m1 (by omega))
          · refine R_aload_n dX10_joins_42 rfl ?_
            refine R_get K_10 (f := 26) (by decide) dX10_joins_43 f_RX10_64 x5.1 rfl ?_
            refine R_iload dX10_joins_46 rfl ?_
            refine R_iaload_N dX10_joins_48 x5.a16 (by omega) (by omega) d16 ?_
            refine R_iload_n dX10_joins_49 rfl ?_
            refine R_icmp_eq_N (tgt := 67) dX10_joins_50 (by decide) (by omega) (by omega) (fun c50 => ?_) (fun c50 => ?_)
            -- X10_joins: ('branch', 50, 67, 53)
            · exact chg (Or.inl c50)
            · refine R_aload_n dX10_joins_53 rfl ?_
              refine R_get K_10 (f := 26) (by decide) dX10_joins_54 f_RX10_64 x5.1 rfl ?_
              refine R_iload dX10_joins_57 rfl ?_
              refine R_iaload_N dX10_joins_59 x5.a16 (by omega) (by omega) d16 ?_
              refine R_iload_n dX10_joins_60 rfl ?_
              refine R_icmp_eq_N (tgt := 67) dX10_joins_61 (by decide) (by omega) (by omega) (fun c61 => ?_) (fun c61 => ?_)
              -- X10_joins: ('branch', 61, 67, 64)
              · exact chg (Or.inr c61)
              · refine R_goto (tgt := 86) dX10_joins_64 (by decide) ?_
                -- X10_joins: ('stop', 86)
                exact keep (fun z => z.elim c50 c61)
      · rw [if_neg cl] at d16
        have hgs2 := v.2.2.2 s hs86 (by omega)
        refine R_iload dX10_joins_24 rfl ?_
        refine R_bipush (v := nI 86) dX10_joins_26 (by decide) ?_
        refine R_icmp_ge_N (tgt := 92) dX10_joins_28 (by decide) (by omega) (by omega) (fun c28 => ?_) (fun c28 => ?_)
        -- X10_joins: ('branch', 28, 92, 31)
        · exact absurd c28 (by omega)
        · refine R_aload_n dX10_joins_31 rfl ?_
          refine R_get K_10 (f := 26) (by decide) dX10_joins_32 f_RX10_64 x5.1 rfl ?_
          refine R_iload dX10_joins_35 rfl ?_
          refine R_iaload_N dX10_joins_37 x5.a16 (by omega) (by omega) d16 ?_
          refine R_iconst (v := (-1)) dX10_joins_38 (by decide) ?_
          refine R_icmp_eq (tgt := 86) dX10_joins_39 (by decide) (fun c39 => ?_) (fun c39 => ?_)
          -- X10_joins: ('branch', 39, 86, 42)
          · refine keep (fun z => ?_)
            rw [hgs2] at z
            rcases z with rfl | rfl
            · exact cl ((v.2.1 _ ha).mp ga).1
            · exact cl ((v.2.1 _ hb).mp gb).1
          · exact absurd rfl c39
  refine R_istore3 dX10_joins_5 (by decide) ?_
  refine R_aload_n dX10_joins_6 rfl ?_
  refine R_get K_10 (f := 25) (by decide) dX10_joins_7 f_RX10_61 x.1 rfl ?_
  refine R_iload_n dX10_joins_10 rfl ?_
  refine R_iaload_N dX10_joins_11 x.a15 (by omega) (by omega) ((d a ha).1 ga) ?_
  refine R_aload_n dX10_joins_12 rfl ?_
  refine R_get K_10 (f := 25) (by decide) dX10_joins_13 f_RX10_61 x.1 rfl ?_
  refine R_iload_n dX10_joins_16 rfl ?_
  refine R_iaload_N dX10_joins_17 x.a15 (by omega) (by omega) ((d b hb).1 gb) ?_
  refine R_iadd_N dX10_joins_18 ?_
  refine R_istore4 dX10_joins_19 (by decide) ?_
  refine R_iconst (v := nI 0) dX10_joins_21 (by decide) ?_
  refine R_istore5 dX10_joins_22 (by decide) ?_
  -- X10_joins: ('stop', 24)
  exact loop 86 0 h S (by omega) x Ony.refl (fun t ht => absurd ht (by omega)) (fun t _ => ⟨rfl, rfl⟩) Out.refl
def RkM (S : MSt) (ln : Nat → Nat) (l : List Nat) : Prop := S.1 30 = nI l.length ∧ (∀ i x, l[i]? = some x → S.2 18 i = nI x) ∧ ∀ s, s ∈ l → S.2 19 s = cwL ln (fun _ => 0) l.reverse s
theorem Md_ranksCodes (x : MdAt E h M S) {ln : Nat → Nat} (d : ∀ s, s < 86 → S.2 17 s = nI (ln s)) (hl : ∀ s, ln s ≤ 86) : Spec E k_X10_ranksCodes 0 0 0 [.ref M] h (fun v h' => v = none ∧ Out h h' M (M + 23) ∧ ∃ S', MdAt E h' M S' ∧ Ony [18, 19] [30] S S' ∧ RkM S' ln (rkC ln 85)) := by
  refine Spec.of (by decide +kernel) (by simp [Value.category]) (Nat.le_of_ble_eq_true rfl) ?_
  show WP E k_X10_ranksCodes 0 0 0 0 [some (.ref M), none, none, none] [] h _
  have loop2 : ∀ m n s h5 S5, n + 1 ≤ 85 → s + m = 86 → MdAt E h5 M S5 → Ony [18, 19] [30] S S5 → RkM S5 ln (rkC ln n ++ rkR ln (n + 1) s) → Out h h5 M (M + 23) → (∀ h6 S6 z2 z3, MdAt E h6 M S6 → Ony [18, 19] [30] S S6 → RkM S6 ln (rkC ln (n + 1)) → Out h h6 M (M + 23) → WP E k_X10_ranksCodes 0 0 0 7 [some (.ref M), some (.int (nI (n + 2))), z2, z3] [] h6 (fun v h' => v = none ∧ Out h h' M (M + 23) ∧ ∃ S', MdAt E h' M S' ∧ Ony [18, 19] [30] S S' ∧ RkM S' ln (rkC ln 85))) → ∀ z3, WP E k_X10_ranksCodes 0 0 0 15 [some (.ref M), some (.int (nI (n + 1))), some (.int (nI s)), z3] [] h5 (fun v h' => v = none ∧ Out h h' M (M + 23) ∧ ∃ S', MdAt E h' M S' ∧ Ony [18, 19] [30] S S' ∧ RkM S' ln (rkC ln 85)) := by
    intro m
    induction m with
    | zero =>
      intro n s h5 S5 hn hs x5 o5 k5 g5 kk z3
      obtain rfl : s = 86 := by omega
      refine R_iload_n dX10_ranksCodes_15 rfl ?_
      refine R_bipush (v := nI 86) dX10_ranksCodes_16 (by decide) ?_
      refine R_icmp_ge_N (tgt := 115) dX10_ranksCodes_18 (by decide) (by omega) (by omega) (fun c18 => ?_) (fun c18 => ?_)
      -- X10_ranksCodes: ('branch', 18, 115, 21)
      · refine R_iinc1 dX10_ranksCodes_115 (by decide) (nI_inc _ 1) ?_
        refine R_goto (tgt := 7) dX10_ranksCodes_118 (by decide) ?_
        -- X10_ranksCodes: ('stop', 7)
        exact kk h5 S5 _ _ x5 o5 k5 g5
      · exact absurd c18 (by omega)
    | succ m ih =>
      intro n s h5 S5 hn hs x5 o5 k5 g5 kk z3
      have hls := hl s
      have d5 : ∀ s, s < 86 → S5.2 17 s = nI (ln s) := fun s hs => by rw [o5.1 17 (by decide)]; exact d s hs
      refine R_iload_n dX10_ranksCodes_15 rfl ?_
      refine R_bipush (v := nI 86) dX10_ranksCodes_16 (by decide) ?_
      refine R_icmp_ge_N (tgt := 115) dX10_ranksCodes_18 (by decide) (by omega) (by omega) (fun c18 => ?_) (fun c18 => ?_)
      -- X10_ranksCodes: ('branch', 18, 115, 21)
      · exact absurd c18 (by omega)
      · refine R_aload_n dX10_ranksCodes_21 rfl ?_
        refine R_get K_10 (f := 27) (by decide) dX10_ranksCodes_22 f_RX10_67 x5.1 rfl ?_
        refine R_iload_n dX10_ranksCodes_25 rfl ?_
        refine R_iaload_N dX10_ranksCodes_26 x5.a17 (by omega) (by omega) (d5 s (by omega)) ?_
        refine R_iload_n dX10_ranksCodes_27 rfl ?_
        refine R_icmp_eq_N (tgt := 34) dX10_ranksCodes_28 (by decide) (by omega) (by omega) (fun c28 => ?_) (fun c28 => ?_)
        -- X10_ranksCodes: ('branch', 28, 34, 31)
        · have hfit := rk_fit (ln := ln) (n := n) (s := s + 1) (by omega)
          rw [rkR, if_pos c28, List.length_append, List.length_singleton] at hfit
          have ih := ih n (s + 1)
          rw [rkR, if_pos c28, ← List.append_assoc] at ih
          have hlen : (rkC ln n ++ rkR ln (n + 1) s).length < 86 := by rw [List.length_append]; omega
          have hmem : ∀ y ∈ rkC ln n ++ rkR ln (n + 1) s, y < 86 := by
            intro y hy
            rcases List.mem_append.mp hy with z | z
            · exact (rkC_mem.mp z).1
            · have := (rkR_mem.mp z).1; omega
          generalize rkC ln n ++ rkR ln (n + 1) s = l at *
          obtain ⟨q1, q2, q3⟩ := k5
          have V30 := fld_get (M := M) (k := 30) (by decide) q1
          have body : ∀ z3 : Option Value, WP E k_X10_ranksCodes 0 0 0 88 [some (.ref M), some (.int (nI (n + 1))), some (.int (nI s)), z3] [.int (cvL ln (s :: l.reverse)), .int (nI s), .ref (M + 19)] h5 (fun v h' => v = none ∧ Out h h' M (M + 23) ∧ ∃ S', MdAt E h' M S' ∧ Ony [18, 19] [30] S S' ∧ RkM S' ln (rkC ln 85)) := by
            intro z3
            refine R_iastore_N dX10_ranksCodes_88 x5.a19 (by omega) (by omega) ?_
            -- X10_ranksCodes: ('put', 89)
            intro h6 u6
            have x6 := x5.s19 u6
            refine R_aload_n dX10_ranksCodes_89 rfl ?_
            refine R_get K_10 (f := 28) (by decide) dX10_ranksCodes_90 f_RX10_70 x6.1 rfl ?_
            refine R_aload_n dX10_ranksCodes_93 rfl ?_
            refine R_get K_10 (f := 30) (by decide) dX10_ranksCodes_94 f_RX10_207 x6.1 V30 ?_
            refine R_iload_n dX10_ranksCodes_97 rfl ?_
            refine R_iastore_N dX10_ranksCodes_98 x6.a18 (by omega) (by omega) ?_
            -- X10_ranksCodes: ('put', 99)
            intro h7 u7
            have x7 := x6.s18 u7
            refine R_aload_n dX10_ranksCodes_99 rfl ?_
            refine R_dup dX10_ranksCodes_100 rfl ?_
            refine R_get K_10 (f := 30) (by decide) dX10_ranksCodes_101 f_RX10_207 x7.1 V30 ?_
            refine R_iconst (v := nI 1) dX10_ranksCodes_104 (by decide) ?_
            refine R_iadd_N dX10_ranksCodes_105 ?_
            refine R_put_A K_10 (f := 30) (by decide) dX10_ranksCodes_106 f_RX10_207 rfl x7.1 (by rfl) (by rfl) (Nat.le_of_ble_eq_true rfl) ?_
            -- X10_ranksCodes: ('put', 109)
            intro h8 u8
            have x8 := x7.put u8 (by decide)
            refine R_iinc2 dX10_ranksCodes_109 (by decide) (nI_inc _ 1) ?_
            refine R_goto (tgt := 15) dX10_ranksCodes_112 (by decide) ?_
            -- X10_ranksCodes: ('stop', 15)
            refine ih h8 _ hn (by omega) x8 (((o5.st (by decide)).st (by decide)).put (by decide)) ⟨?_, fun i y hy => ?_, fun y hy => ?_⟩ (((g5.trans (Out.upd u6 (by omega) (by omega))).trans (Out.upd u7 (by omega) (by omega))).trans (Out.upd u8 (by omega) (by omega))) kk _
            · show nI (l.length + 1) = _
              rw [List.length_append]; rfl
            · show upd (S5.2 18) l.length (nI s) i = nI y
              rcases snoc_get (l := l) (a := s) hy with ⟨z1, z2⟩ | ⟨z1, z2⟩
              · rw [upd_ne (by omega)]; exact q2 i y z2
              · rw [z1, z2, upd_at]
            · show upd (S5.2 19) s (cvL ln (s :: l.reverse)) y = _
              rw [List.reverse_append, List.reverse_singleton, List.singleton_append]
              by_cases e : y = s
              · rw [e, upd_at, cwL_at]
              · rw [upd_ne e, cwL_ne e]
                refine q3 y ?_
                rcases List.mem_append.mp hy with z | z
                · exact z
                · exact absurd (List.mem_singleton.mp z) e
          rcases List.eq_nil_or_concat l with e | ⟨l0, t, e⟩
          · subst e
            refine R_aload_n dX10_ranksCodes_34 rfl ?_
            refine R_get K_10 (f := 30) (by decide) dX10_ranksCodes_35 f_RX10_207 x5.1 V30 ?_
            refine R_if_ne_N (tgt := 45) dX10_ranksCodes_38 (by decide) (by omega) (fun c38 => ?_) (fun c38 => ?_)
            -- X10_ranksCodes: ('branch', 38, 45, 41)
            · exact absurd rfl c38
            · refine R_iconst (v := (-1)) dX10_ranksCodes_41 (by decide) ?_
              refine R_goto (tgt := 56) dX10_ranksCodes_42 (by decide) ?_
              refine R_istore3 dX10_ranksCodes_56 (by decide) ?_
              refine R_aload_n dX10_ranksCodes_57 rfl ?_
              refine R_get K_10 (f := 29) (by decide) dX10_ranksCodes_58 f_RX10_73 x5.1 rfl ?_
              refine R_iload_n dX10_ranksCodes_61 rfl ?_
              refine R_iload_n dX10_ranksCodes_62 rfl ?_
              refine R_iconst (v := (-1)) dX10_ranksCodes_63 (by decide) ?_
              refine R_icmp_ne (tgt := 71) dX10_ranksCodes_64 (by decide) (fun c64 => ?_) (fun c64 => ?_)
              -- X10_ranksCodes: ('branch', 64, 71, 67)
              · exact absurd rfl c64
              · refine R_iconst (v := nI 0) dX10_ranksCodes_67 (by decide) ?_
                refine R_goto (tgt := 88) dX10_ranksCodes_68 (by decide) ?_
                -- X10_ranksCodes: ('stop', 88)
                exact body _
          · rw [List.concat_eq_append] at e
            subst e
            have ht : (l0 ++ [t])[l0.length]? = some t := by simp
            have ht86 := hmem t (List.mem_of_getElem? ht)
            have hlt := hl t
            have hv := q3 t (List.mem_of_getElem? ht)
            rw [List.reverse_append, List.reverse_singleton, List.singleton_append, cwL_at] at hv
            have e8 : (l0 ++ [t]).length - 1 = l0.length := by rw [List.length_append]; rfl
            have hl1 : 1 ≤ (l0 ++ [t]).length := by rw [List.length_append, List.length_singleton]; omega
            rw [List.reverse_append, List.reverse_singleton, List.singleton_append, cvL] at body
            rw [c28] at body
            generalize hL : (l0 ++ [t]).length = L at *
            have e18 : S5.2 18 (L - 1) = nI t := by rw [e8]; exact q2 _ t ht
            refine R_aload_n dX10_ranksCodes_34 rfl ?_
            refine R_get K_10 (f := 30) (by decide) dX10_ranksCodes_35 f_RX10_207 x5.1 V30 ?_
            refine R_if_ne_N (tgt := 45) dX10_ranksCodes_38 (by decide) (by omega) (fun c38 => ?_) (fun c38 => ?_)
            -- X10_ranksCodes: ('branch', 38, 45, 41)
            · refine R_aload_n dX10_ranksCodes_45 rfl ?_
              refine R_get K_10 (f := 28) (by decide) dX10_ranksCodes_46 f_RX10_70 x5.1 rfl ?_
              refine R_aload_n dX10_ranksCodes_49 rfl ?_
              refine R_get K_10 (f := 30) (by decide) dX10_ranksCodes_50 f_RX10_207 x5.1 V30 ?_
              refine R_iconst (v := nI 1) dX10_ranksCodes_53 (by decide) ?_
              refine R_isub_N dX10_ranksCodes_54 (by omega) ?_
              refine R_iaload_N dX10_ranksCodes_55 x5.a18 (by omega) (by omega) e18 ?_
              refine R_istore3 dX10_ranksCodes_56 (by decide) ?_
              refine R_aload_n dX10_ranksCodes_57 rfl ?_
              refine R_get K_10 (f := 29) (by decide) dX10_ranksCodes_58 f_RX10_73 x5.1 rfl ?_
              refine R_iload_n dX10_ranksCodes_61 rfl ?_
              refine R_iload_n dX10_ranksCodes_62 rfl ?_
              refine R_iconst (v := (-1)) dX10_ranksCodes_63 (by decide) ?_
              refine R_icmp_ne (tgt := 71) dX10_ranksCodes_64 (by decide) (fun c64 => ?_) (fun c64 => ?_)
              -- X10_ranksCodes: ('branch', 64, 71, 67)
              · refine R_aload_n dX10_ranksCodes_71 rfl ?_
                refine R_get K_10 (f := 29) (by decide) dX10_ranksCodes_72 f_RX10_73 x5.1 rfl ?_
                refine R_iload_n dX10_ranksCodes_75 rfl ?_
                refine R_iaload_N dX10_ranksCodes_76 x5.a19 (by omega) (by omega) hv ?_
                refine R_iconst (v := nI 1) dX10_ranksCodes_77 (by decide) ?_
                refine R_iadd dX10_ranksCodes_78 ?_
                refine R_iload_n dX10_ranksCodes_79 rfl ?_
                refine R_aload_n dX10_ranksCodes_80 rfl ?_
                refine R_get K_10 (f := 27) (by decide) dX10_ranksCodes_81 f_RX10_67 x5.1 rfl ?_
                refine R_iload_n dX10_ranksCodes_84 rfl ?_
                refine R_iaload_N dX10_ranksCodes_85 x5.a17 (by omega) (by omega) (d5 t ht86) ?_
                refine R_isub dX10_ranksCodes_86 ?_
                refine R_ishl dX10_ranksCodes_87 ?_
                -- X10_ranksCodes: ('stop', 88)
                exact body _
              · exact absurd c64 (nI_ne_m1 (by omega))
            · exact absurd c38 (by omega)
        · refine R_goto (tgt := 109) dX10_ranksCodes_31 (by decide) ?_
          refine R_iinc2 dX10_ranksCodes_109 (by decide) (nI_inc _ 1) ?_
          refine R_goto (tgt := 15) dX10_ranksCodes_112 (by decide) ?_
          -- X10_ranksCodes: ('stop', 15)
          refine ih n (s + 1) h5 S5 hn (by omega) x5 o5 ?_ g5 kk _
          rw [rkR, if_neg c28, List.append_nil]
          exact k5
  have loop : ∀ m n h5 S5, n + m = 85 → MdAt E h5 M S5 → Ony [18, 19] [30] S S5 → RkM S5 ln (rkC ln n) → Out h h5 M (M + 23) → ∀ z2 z3, WP E k_X10_ranksCodes 0 0 0 7 [some (.ref M), some (.int (nI (n + 1))), z2, z3] [] h5 (fun v h' => v = none ∧ Out h h' M (M + 23) ∧ ∃ S', MdAt E h' M S' ∧ Ony [18, 19] [30] S S' ∧ RkM S' ln (rkC ln 85)) := by
    intro m
    induction m with
    | zero =>
      intro n h5 S5 hn x5 o5 k5 g5 z2 z3
      obtain rfl : n = 85 := by omega
      refine R_iload_n dX10_ranksCodes_7 rfl ?_
      refine R_bipush (v := nI 86) dX10_ranksCodes_8 (by decide) ?_
      refine R_icmp_ge_N (tgt := 121) dX10_ranksCodes_10 (by decide) (by omega) (by omega) (fun c10 => ?_) (fun c10 => ?_)
      -- X10_ranksCodes: ('branch', 10, 121, 13)
      · refine R_return dX10_ranksCodes_121 rfl ?_
        -- X10_ranksCodes: ('ret', 121)
        exact ⟨rfl, g5, S5, x5, o5, k5⟩
      · exact absurd c10 (by omega)
    | succ m ih =>
      intro n h5 S5 hn x5 o5 k5 g5 z2 z3
      refine R_iload_n dX10_ranksCodes_7 rfl ?_
      refine R_bipush (v := nI 86) dX10_ranksCodes_8 (by decide) ?_
      refine R_icmp_ge_N (tgt := 121) dX10_ranksCodes_10 (by decide) (by omega) (by omega) (fun c10 => ?_) (fun c10 => ?_)
      -- X10_ranksCodes: ('branch', 10, 121, 13)
      · exact absurd c10 (by omega)
      · refine R_iconst (v := nI 0) dX10_ranksCodes_13 (by decide) ?_
        refine R_istore2 dX10_ranksCodes_14 (by decide) ?_
        -- X10_ranksCodes: ('stop', 15)
        exact loop2 86 n 0 h5 S5 (by omega) (by omega) x5 o5 (by rw [rkR, List.append_nil]; exact k5) g5 (fun h6 S6 z2 z3 x6 o6 k6 g6 => ih (n + 1) h6 S6 (by omega) x6 o6 k6 g6 z2 z3) _
  refine R_aload_n dX10_ranksCodes_0 rfl ?_
  refine R_iconst (v := nI 0) dX10_ranksCodes_1 (by decide) ?_
  refine R_put_A K_10 (f := 30) (by decide) dX10_ranksCodes_2 f_RX10_207 rfl x.1 (by rfl) (by rfl) (Nat.le_of_ble_eq_true rfl) ?_
  -- X10_ranksCodes: ('put', 5)
  intro h2 u2
  have x2 := x.put u2 (by decide)
  refine R_iconst (v := nI 1) dX10_ranksCodes_5 (by decide) ?_
  refine R_istore1 dX10_ranksCodes_6 (by decide) ?_
  -- X10_ranksCodes: ('stop', 7)
  exact loop 85 0 h2 _ (by omega) x2 (Ony.refl.put (by decide)) ⟨rfl, fun i y hy => by simp [rkC] at hy, fun s hs => absurd hs List.not_mem_nil⟩ (Out.upd u2 (by omega) (by omega)) _ _
end MD15
