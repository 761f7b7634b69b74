/-! ROWS: all of a sign spread, pairs joined -/
/-- each s becomes bl -/
def sub (s : Nat) (bl l : List Nat) : List Nat := l.flatMap (fun x => if x = s then bl else [x])
theorem sub_nil {s : Nat} {bl : List Nat} : sub s bl [] = [] := rfl
theorem sub_cons {s x : Nat} {bl l : List Nat} : sub s bl (x :: l) = (if x = s then bl else [x]) ++ sub s bl l := by simp [sub]
theorem sub_app {s : Nat} {bl l1 l2 : List Nat} : sub s bl (l1 ++ l2) = sub s bl l1 ++ sub s bl l2 := by simp [sub]
theorem sub_len {s : Nat} {bl : List Nat} (hb : 1 ≤ bl.length) : ∀ l : List Nat, l.length ≤ (sub s bl l).length
  | [] => Nat.le_refl _
  | x :: l => by
    rw [sub_cons, List.length_append, List.length_cons]
    have := sub_len (s := s) hb l
    split
    · omega
    · simp; omega
/-- the pair a b becomes s, from the left -/
def joinL (a b s : Nat) : List Nat → List Nat
  | x :: y :: t => if x = a ∧ y = b then s :: joinL a b s t else x :: joinL a b s (y :: t)
  | l => l
theorem joinL_nil {a b s : Nat} : joinL a b s [] = [] := by simp [joinL]
theorem joinL_len (a b s : Nat) : ∀ l : List Nat, (joinL a b s l).length ≤ l.length
  | [] => Nat.le_refl _
  | [x] => Nat.le_refl _
  | x :: y :: t => by
    rw [joinL]
    split
    · have := joinL_len a b s t
      simp; omega
    · have := joinL_len a b s (y :: t)
      simp at this ⊢; omega
section ROWS2
variable {E : EnvT} {h : Hp} {r cap : Nat} {l : List Nat}
theorem Row_spreadAll (hR : RowAt E h r cap l) {q cap2 s : Nat} {l2 : List Nat} (hQ : RowAt E h q cap2 l2) (hne : q + 2 ≤ r ∨ r + 2 ≤ q) (hs : s < 65536) (h1 : 1 ≤ l2.length) (hl : (sub s l2 l).length ≤ cap) : Spec E k_X6_spreadAll 4 0 0 [.ref r, .int (nI s), .ref q] h (fun v h' => v = none ∧ RowAt E h' r cap (sub s l2 l) ∧ Out h h' r (r + 2)) := by
  refine Spec.of (by decide +kernel) (by simp [Value.category]) (Nat.le_of_ble_eq_true rfl) ?_
  show WP E k_X6_spreadAll 4 0 0 0 [some (.ref r), some (.int (nI s)), some (.ref q), none] [] h _
  have loop : ∀ m h2 (iv : Int32), m ≤ l.length → (m = 0 → iv = -1) → (∀ j, m = j + 1 → iv = nI j) → RowAt E h2 r cap (l.take m ++ sub s l2 (l.drop m)) → Out h h2 r (r + 2) → WP E k_X6_spreadAll 4 0 0 7 [some (.ref r), some (.int (nI s)), some (.ref q), some (.int iv)] [] h2 (fun v h' => v = none ∧ RowAt E h' r cap (sub s l2 l) ∧ Out h h' r (r + 2)) := by
    intro m
    induction m with
    | zero =>
      intro h2 iv hm e0 e1 hR2 o2
      rw [e0 rfl]
      refine R_iload_n dX6_spreadAll_7 rfl ?_
      refine R_if_lt (tgt := 33) dX6_spreadAll_8 (by decide) (fun c8 => ?_) (fun c8 => ?_)
      -- X6_spreadAll: ('branch', 8, 33, 11)
      · refine R_return dX6_spreadAll_33 rfl ?_
        -- X6_spreadAll: ('ret', 33)
        exact ⟨rfl, by simpa using hR2, o2⟩
      · exact absurd c8 (by decide)
    | succ m ih =>
      intro h2 iv hm e0 e1 hR2 o2
      rw [e1 m rfl]
      obtain ⟨hc, hcap, hr, f, ha, hf⟩ := id hR2
      obtain ⟨y, hy⟩ := getE (l := l) (i := m) (by omega)
      have hy1 : (l.take (m + 1) ++ sub s l2 (l.drop (m + 1)))[m]? = some y := by
        rw [List.getElem?_append_left (by simp; omega), List.getElem?_take_of_lt (by omega), hy]
      have hy2 := hf m y hy1
      have hd : l.drop m = y :: l.drop (m + 1) := by
        obtain ⟨hlt, hv⟩ := List.getElem?_eq_some_iff.mp hy
        rw [← hv]; exact List.drop_eq_getElem_cons hlt
      have ht : l.take (m + 1) = l.take m ++ [y] := by rw [List.take_add_one, hy]; rfl
      have hmc : m + 1 ≤ cap := by
        have hc' := hc
        simp only [List.length_append, List.length_take] at hc'
        omega
      have next : ∀ h3 (jv : Int32), jv = nI m + Int32.ofInt (-1) → RowAt E h3 r cap (l.take m ++ sub s l2 (l.drop m)) → Out h h3 r (r + 2) → WP E k_X6_spreadAll 4 0 0 7 [some (.ref r), some (.int (nI s)), some (.ref q), some (.int jv)] [] h3 (fun v h' => v = none ∧ RowAt E h' r cap (sub s l2 l) ∧ Out h h' r (r + 2)) := by
        intro h3 jv hj hR3 o3
        refine ih h3 jv (by omega) (fun e => ?_) (fun j e => ?_) hR3 o3
        · rw [hj, e]; decide
        · rw [hj, e]; exact nI_sub1 (a := j + 1) (by omega)
      refine R_iload_n dX6_spreadAll_7 rfl ?_
      refine R_if_lt_N (tgt := 33) dX6_spreadAll_8 (by decide) (by omega) ?_
      refine R_aload_n dX6_spreadAll_11 rfl ?_
      refine R_get K_6 (f := 0) (by decide) dX6_spreadAll_12 f_RX6_15 (by first | exact hr | exact ha) rfl ?_
      refine R_iload_n dX6_spreadAll_15 rfl ?_
      refine R_iaload_N dX6_spreadAll_16 (by first | exact hr | exact ha) (by omega) (by omega) hy2.1 ?_
      refine R_iload_n dX6_spreadAll_17 rfl ?_
      refine R_icmp_ne_N (tgt := 27) dX6_spreadAll_18 (by decide) (by omega) (by omega) (fun c18 => ?_) (fun c18 => ?_)
      -- X6_spreadAll: ('branch', 18, 27, 21)
      · refine R_iinc3 dX6_spreadAll_27 (by decide) rfl ?_
        refine R_goto (tgt := 7) dX6_spreadAll_30 (by decide) ?_
        -- X6_spreadAll: ('stop', 7)
        refine next h2 _ rfl ?_ o2
        rw [hd, sub_cons, if_neg c18]
        rw [ht] at hR2
        simpa using hR2
      · have hsl := sub_len (s := s) h1 (l.take m)
        have hfull : (sub s l2 l).length = (sub s l2 (l.take m)).length + (l2.length + (sub s l2 (l.drop (m + 1))).length) := by
          have e : sub s l2 l = sub s l2 (l.take m) ++ sub s l2 (l.drop m) := by rw [← sub_app, List.take_append_drop]
          rw [e, hd, sub_cons, if_pos c18]; simp
        refine R_aload_n dX6_spreadAll_21 rfl ?_
        refine R_iload_n dX6_spreadAll_22 rfl ?_
        refine R_aload_n dX6_spreadAll_23 rfl ?_
        -- X6_spreadAll: ('call', 24, '.invokevirtual', 30)
        refine R_callV v_X6_spreadAt (Row_spreadAt hR2 (hQ.out o2 (by omega)) hne (i := m) (by simp; omega) (by rw [ht]; simp at hsl ⊢; omega)) dX6_spreadAll_24 l_RX6_30 rfl rfl hr (Nat.le_of_ble_eq_true rfl) (by omega) rfl rfl (fun v h1 hq => ?_)
        obtain ⟨rfl, hR3, o3⟩ := hq
        refine R_iinc3 dX6_spreadAll_27 (by decide) rfl ?_
        refine R_goto (tgt := 7) dX6_spreadAll_30 (by decide) ?_
        -- X6_spreadAll: ('stop', 7)
        refine next _ _ rfl ?_ (o2.trans o3)
        rw [hd, sub_cons, if_pos c18]
        have e1 : (l.take (m + 1) ++ sub s l2 (l.drop (m + 1))).take m = l.take m := by
          rw [List.take_append_of_le_length (by simp; omega), List.take_take, Nat.min_eq_left (by omega)]
        have e2 : (l.take (m + 1) ++ sub s l2 (l.drop (m + 1))).drop (m + 1) = sub s l2 (l.drop (m + 1)) := by
          rw [List.drop_append_of_le_length (by simp; omega), List.drop_take, Nat.sub_self, List.take_zero, List.nil_append]
        rw [e1, e2] at hR3
        simpa using hR3
  obtain ⟨hc, hcap, hr, f, ha, hf⟩ := id hR
  refine R_aload_n dX6_spreadAll_0 rfl ?_
  refine R_get K_6 (f := 1) (by decide) dX6_spreadAll_1 f_RX6_9 hr rfl ?_
  refine R_iconst (v := nI 1) dX6_spreadAll_4 (by decide) ?_
  refine R_isub dX6_spreadAll_5 ?_
  refine R_istore3 dX6_spreadAll_6 (by decide) ?_
  -- X6_spreadAll: ('stop', 7)
  refine loop l.length h _ (Nat.le_refl _) (fun e => ?_) (fun j e => ?_) (by simpa [sub_nil] using hR) Out.refl
  · rw [e]; decide
  · rw [e]; exact nI_pred j
theorem Row_joinPairs (hR : RowAt E h r cap l) {a b s : Nat} (ha' : a < 65536) (hb' : b < 65536) (hs : s < 65536) : Spec E k_X6_joinPairs 1 0 0 [.ref r, .int (nI a), .int (nI b), .int (nI s)] h (fun v h' => v = none ∧ RowAt E h' r cap (joinL a b s l) ∧ Out h h' r (r + 2)) := by
  obtain ⟨hc, hcap, hr, f, ha, hf⟩ := hR
  refine Spec.of (by decide +kernel) (by simp [Value.category]) (Nat.le_of_ble_eq_true rfl) ?_
  show WP E k_X6_joinPairs 1 0 0 0 [some (.ref r), some (.int (nI a)), some (.int (nI b)), some (.int (nI s)), none, none, none] [] h _
  have loop : ∀ m i o h2 f2 (x6 : Option Value), l.length - i < m → i ≤ l.length → o.length ≤ i → h2.2 r = some (.inr (6, [.ref (r + 1), .int (nI l.length)])) → h2.2 (r + 1) = some (.inl (E.2.2.1 0, cap, .inl f2)) → (∀ p y, o[p]? = some y → f2 p = nI y ∧ y < 65536) → (∀ p, i ≤ p → f2 p = f p) → o ++ joinL a b s (l.drop i) = joinL a b s l → Out h h2 r (r + 2) →
      WP E k_X6_joinPairs 1 0 0 6 [some (.ref r), some (.int (nI a)), some (.int (nI b)), some (.int (nI s)), some (.int (nI o.length)), some (.int (nI i)), x6] [] h2 (fun v h' => v = none ∧ RowAt E h' r cap (joinL a b s l) ∧ Out h h' r (r + 2)) := by
    intro m
    induction m with
    | zero => intro i o h2 f2 x6 hm; exact absurd hm (by omega)
    | succ m ih =>
      intro i o h2 f2 x6 hm hi ho hr2 ha2 hin hout ej o2
      refine R_iload dX6_joinPairs_6 rfl ?_
      refine R_aload_n dX6_joinPairs_8 rfl ?_
      refine R_get K_6 (f := 1) (by decide) dX6_joinPairs_9 f_RX6_9 (by first | exact hr2 | exact ha2) rfl ?_
      refine R_icmp_ge_N (tgt := 101) dX6_joinPairs_12 (by decide) (by omega) (by omega) (fun c12 => ?_) (fun c12 => ?_)
      -- X6_joinPairs: ('branch', 12, 101, 15)
      · refine R_aload_n dX6_joinPairs_101 rfl ?_
        refine R_iload dX6_joinPairs_102 rfl ?_
        refine R_put_A K_6 (f := 1) (by decide) dX6_joinPairs_104 f_RX6_9 rfl (by first | exact hr2 | exact ha2) (by rfl) (by rfl) (Nat.le_of_ble_eq_true rfl) ?_
        -- X6_joinPairs: ('put', 107)
        intro h3 u
        refine R_return dX6_joinPairs_107 rfl ?_
        -- X6_joinPairs: ('ret', 107)
        rw [List.drop_eq_nil_of_le c12, joinL_nil, List.append_nil] at ej
        subst ej
        exact ⟨rfl, ⟨by omega, hcap, u.2.1, f2, (u.2.2 _ (by omega)).trans ha2, hin⟩, o2.trans (Out.upd u (by omega) (by omega))⟩
      · obtain ⟨x, hx⟩ := getE (l := l) (i := i) (by omega)
        have hx2 := hf i x hx
        have hfx : f2 i = nI x := (hout i (Nat.le_refl _)).trans hx2.1
        have hd : l.drop i = x :: l.drop (i + 1) := by
          obtain ⟨hlt, hv⟩ := List.getElem?_eq_some_iff.mp hx
          rw [← hv]; exact List.drop_eq_getElem_cons hlt
        -- the end of a turn with a value put
        have k54 : ¬ (∃ y, l[i + 1]? = some y ∧ x = a ∧ y = b) → WP E k_X6_joinPairs 1 0 0 54 [some (.ref r), some (.int (nI a)), some (.int (nI b)), some (.int (nI s)), some (.int (nI o.length)), some (.int (nI i)), x6] [] h2 (fun v h' => v = none ∧ RowAt E h' r cap (joinL a b s l) ∧ Out h h' r (r + 2)) := by
          intro hno
          refine R_iconst (v := nI 0) dX6_joinPairs_54 (by decide) ?_
          refine R_istore6 dX6_joinPairs_55 (by decide) ?_
          refine R_aload_n dX6_joinPairs_57 rfl ?_
          refine R_get K_6 (f := 0) (by decide) dX6_joinPairs_58 f_RX6_15 (by first | exact hr2 | exact ha2) rfl ?_
          refine R_iload dX6_joinPairs_61 rfl ?_
          refine R_iload dX6_joinPairs_63 rfl ?_
          refine R_if_eq_N (tgt := 72) dX6_joinPairs_65 (by decide) (by omega) (fun c65 => ?_) (fun c65 => ?_)
          -- X6_joinPairs: ('branch', 65, 72, 68)
          · refine R_aload_n dX6_joinPairs_72 rfl ?_
            refine R_get K_6 (f := 0) (by decide) dX6_joinPairs_73 f_RX6_15 (by first | exact hr2 | exact ha2) rfl ?_
            refine R_iload dX6_joinPairs_76 rfl ?_
            refine R_iaload_N dX6_joinPairs_78 (by first | exact hr2 | exact ha2) (by omega) (by omega) hfx ?_
            refine R_iastore_N dX6_joinPairs_79 (by first | exact hr2 | exact ha2) (by omega) (by omega) ?_
            -- X6_joinPairs: ('put', 80)
            intro h3 u
            refine R_iinc4 dX6_joinPairs_80 (by decide) (nI_inc _ 1) ?_
            refine R_iload dX6_joinPairs_83 rfl ?_
            refine R_iload dX6_joinPairs_85 rfl ?_
            refine R_if_eq_N (tgt := 94) dX6_joinPairs_87 (by decide) (by omega) (fun c87 => ?_) (fun c87 => ?_)
            -- X6_joinPairs: ('branch', 87, 94, 90)
            · refine R_iconst (v := nI 1) dX6_joinPairs_94 (by decide) ?_
              refine R_iadd_N dX6_joinPairs_95 ?_
              refine R_istore5 dX6_joinPairs_96 (by decide) ?_
              refine R_goto (tgt := 6) dX6_joinPairs_98 (by decide) ?_
              -- X6_joinPairs: ('stop', 6)
              have key : joinL a b s (x :: l.drop (i + 1)) = x :: joinL a b s (l.drop (i + 1)) := by
                cases hn : l.drop (i + 1) with
                | nil => rfl
                | cons y t =>
                  rw [joinL, if_neg]
                  rintro ⟨e1, e2⟩
                  refine hno ⟨y, ?_, e1, e2⟩
                  have := congrArg List.head? hn
                  simpa [List.head?_drop] using this
              have hlen : (o ++ [x]).length = o.length + 1 := by simp
              have := ih (i + 1) (o ++ [x]) h3 (upd f2 o.length (nI x)) (some (.int (nI 0))) (by omega) (by omega) (by rw [hlen]; omega) ((u.2.2 r (by omega)).trans hr2) u.2.1 (fun p y hp => ?_) (fun p hp => by rw [upd, if_neg (by omega)]; exact hout p (by omega)) (by rw [← ej, hd, key]; simp) (o2.trans (Out.upd u (by omega) (by omega)))
              · rw [hlen] at this; exact this
              · by_cases hpo : p < o.length
                · rw [List.getElem?_append_left hpo] at hp
                  rw [upd, if_neg (by omega)]
                  exact hin p y hp
                · have hlt := (List.getElem?_eq_some_iff.mp hp).1
                  rw [hlen] at hlt
                  have : p = o.length := by omega
                  subst this
                  simp at hp
                  subst hp
                  exact ⟨by simp [upd], hx2.2⟩
            · exact absurd rfl c87
          · exact absurd rfl c65
        refine R_iload dX6_joinPairs_15 rfl ?_
        refine R_iconst (v := nI 1) dX6_joinPairs_17 (by decide) ?_
        refine R_iadd_N dX6_joinPairs_18 ?_
        refine R_aload_n dX6_joinPairs_19 rfl ?_
        refine R_get K_6 (f := 1) (by decide) dX6_joinPairs_20 f_RX6_9 (by first | exact hr2 | exact ha2) rfl ?_
        refine R_icmp_ge_N (tgt := 54) dX6_joinPairs_23 (by decide) (by omega) (by omega) (fun c23 => ?_) (fun c23 => ?_)
        -- X6_joinPairs: ('branch', 23, 54, 26)
        · refine k54 ?_
          rintro ⟨y, hy, -⟩
          have := (List.getElem?_eq_some_iff.mp hy).1
          omega
        · obtain ⟨y, hy⟩ := getE (l := l) (i := i + 1) (by omega)
          have hy2 := hf (i + 1) y hy
          have hfy : f2 (i + 1) = nI y := (hout (i + 1) (by omega)).trans hy2.1
          refine R_aload_n dX6_joinPairs_26 rfl ?_
          refine R_get K_6 (f := 0) (by decide) dX6_joinPairs_27 f_RX6_15 (by first | exact hr2 | exact ha2) rfl ?_
          refine R_iload dX6_joinPairs_30 rfl ?_
          refine R_iaload_N dX6_joinPairs_32 (by first | exact hr2 | exact ha2) (by omega) (by omega) hfx ?_
          refine R_iload_n dX6_joinPairs_33 rfl ?_
          refine R_icmp_ne_N (tgt := 54) dX6_joinPairs_34 (by decide) (by omega) (by omega) (fun c34 => ?_) (fun c34 => ?_)
          -- X6_joinPairs: ('branch', 34, 54, 37)
          · refine k54 ?_
            rintro ⟨z, hz, e1, e2⟩
            exact c34 e1
          · refine R_aload_n dX6_joinPairs_37 rfl ?_
            refine R_get K_6 (f := 0) (by decide) dX6_joinPairs_38 f_RX6_15 (by first | exact hr2 | exact ha2) rfl ?_
            refine R_iload dX6_joinPairs_41 rfl ?_
            refine R_iconst (v := nI 1) dX6_joinPairs_43 (by decide) ?_
            refine R_iadd_N dX6_joinPairs_44 ?_
            refine R_iaload_N dX6_joinPairs_45 (by first | exact hr2 | exact ha2) (by omega) (by omega) hfy ?_
            refine R_iload_n dX6_joinPairs_46 rfl ?_
            refine R_icmp_ne_N (tgt := 54) dX6_joinPairs_47 (by decide) (by omega) (by omega) (fun c47 => ?_) (fun c47 => ?_)
            -- X6_joinPairs: ('branch', 47, 54, 50)
            · refine k54 ?_
              rintro ⟨z, hz, e1, e2⟩
              rw [hy] at hz
              cases hz
              exact c47 e2
            · refine R_iconst (v := nI 1) dX6_joinPairs_50 (by decide) ?_
              refine R_goto (tgt := 55) dX6_joinPairs_51 (by decide) ?_
              refine R_istore6 dX6_joinPairs_55 (by decide) ?_
              refine R_aload_n dX6_joinPairs_57 rfl ?_
              refine R_get K_6 (f := 0) (by decide) dX6_joinPairs_58 f_RX6_15 (by first | exact hr2 | exact ha2) rfl ?_
              refine R_iload dX6_joinPairs_61 rfl ?_
              refine R_iload dX6_joinPairs_63 rfl ?_
              refine R_if_eq_N (tgt := 72) dX6_joinPairs_65 (by decide) (by omega) (fun c65 => ?_) (fun c65 => ?_)
              -- X6_joinPairs: ('branch', 65, 72, 68)
              · exact absurd c65 (by decide)
              · refine R_iload_n dX6_joinPairs_68 rfl ?_
                refine R_goto (tgt := 79) dX6_joinPairs_69 (by decide) ?_
                refine R_iastore_N dX6_joinPairs_79 (by first | exact hr2 | exact ha2) (by omega) (by omega) ?_
                -- X6_joinPairs: ('put', 80)
                intro h3 u
                refine R_iinc4 dX6_joinPairs_80 (by decide) (nI_inc _ 1) ?_
                refine R_iload dX6_joinPairs_83 rfl ?_
                refine R_iload dX6_joinPairs_85 rfl ?_
                refine R_if_eq_N (tgt := 94) dX6_joinPairs_87 (by decide) (by omega) (fun c87 => ?_) (fun c87 => ?_)
                -- X6_joinPairs: ('branch', 87, 94, 90)
                · exact absurd c87 (by decide)
                · refine R_iconst (v := nI 2) dX6_joinPairs_90 (by decide) ?_
                  refine R_goto (tgt := 95) dX6_joinPairs_91 (by decide) ?_
                  refine R_iadd_N dX6_joinPairs_95 ?_
                  refine R_istore5 dX6_joinPairs_96 (by decide) ?_
                  refine R_goto (tgt := 6) dX6_joinPairs_98 (by decide) ?_
                  -- X6_joinPairs: ('stop', 6)
                  have hd2 : l.drop (i + 1) = y :: l.drop (i + 2) := by
                    obtain ⟨hlt, hv⟩ := List.getElem?_eq_some_iff.mp hy
                    rw [← hv]; exact List.drop_eq_getElem_cons hlt
                  have key : joinL a b s (x :: l.drop (i + 1)) = s :: joinL a b s (l.drop (i + 2)) := by
                    rw [hd2, joinL, if_pos ⟨c34, c47⟩]
                  have hlen : (o ++ [s]).length = o.length + 1 := by simp
                  have := ih (i + 2) (o ++ [s]) h3 (upd f2 o.length (nI s)) (some (.int (nI 1))) (by omega) (by omega) (by rw [hlen]; omega) ((u.2.2 r (by omega)).trans hr2) u.2.1 (fun p y hp => ?_) (fun p hp => by rw [upd, if_neg (by omega)]; exact hout p (by omega)) (by rw [← ej, hd, key]; simp) (o2.trans (Out.upd u (by omega) (by omega)))
                  · rw [hlen] at this; exact this
                  · by_cases hpo : p < o.length
                    · rw [List.getElem?_append_left hpo] at hp
                      rw [upd, if_neg (by omega)]
                      exact hin p y hp
                    · have hlt := (List.getElem?_eq_some_iff.mp hp).1
                      rw [hlen] at hlt
                      have : p = o.length := by omega
                      subst this
                      simp at hp
                      subst hp
                      exact ⟨by simp [upd], hs⟩
  refine R_iconst (v := nI 0) dX6_joinPairs_0 (by decide) ?_
  refine R_istore4 dX6_joinPairs_1 (by decide) ?_
  refine R_iconst (v := nI 0) dX6_joinPairs_3 (by decide) ?_
  refine R_istore5 dX6_joinPairs_4 (by decide) ?_
  -- X6_joinPairs: ('stop', 6)
  exact loop (l.length + 1) 0 [] h f none (by omega) (by omega) (by simp) hr ha (fun p y hp => by simp at hp) (fun p _ => rfl) (by simp) Out.refl
end ROWS2
