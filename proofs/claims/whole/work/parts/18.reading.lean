/-! READING: the letters of a row of signs, each with its home, its begin, its depth -/
/-- the cells a to b are as they were -/
def Ag (h h' : Hp) (a b : Nat) : Prop := ∀ q, a ≤ q → q < b → h'.2 q = h.2 q
/-- outside a to b and c to d nothing has changed -/
def Out2 (h h' : Hp) (a b c d : Nat) : Prop := h'.1 = h.1 ∧ ∀ q, (q < a ∨ b ≤ q) → (q < c ∨ d ≤ q) → h'.2 q = h.2 q
theorem Out2.refl {h : Hp} {a b c d : Nat} : Out2 h h a b c d := ⟨rfl, fun _ _ _ => rfl⟩
theorem Out2.trans {h h1 h2 : Hp} {a b c d : Nat} (x : Out2 h h1 a b c d) (y : Out2 h1 h2 a b c d) : Out2 h h2 a b c d := ⟨y.1.trans x.1, fun q hq hr => (y.2 q hq hr).trans (x.2 q hq hr)⟩
theorem Out.two {h h1 : Hp} {a b a' b' c d : Nat} (x : Out h h1 a b) (hs : (a' ≤ a ∧ b ≤ b') ∨ (c ≤ a ∧ b ≤ d)) : Out2 h h1 a' b' c d := ⟨x.1, fun q _ _ => x.2 q (by omega)⟩
theorem Out.ag {h h1 : Hp} {a b a' b' : Nat} (x : Out h h1 a b) (hd : b' ≤ a ∨ b ≤ a') : Ag h h1 a' b' := fun q _ _ => x.2 q (by omega)
theorem Out2.ag {h h1 : Hp} {a b c d a' b' : Nat} (x : Out2 h h1 a b c d) (k1 : b' ≤ a ∨ b ≤ a') (k2 : b' ≤ c ∨ d ≤ a') : Ag h h1 a' b' := fun q _ _ => x.2 q (by omega) (by omega)
theorem Ag.out {h h1 : Hp} {a b : Nat} (x : Ag h h1 a b) : ∀ {e : va_E}, h.2 a = some e → a < b → h1.2 a = some e := fun he hl => (x a (Nat.le_refl _) hl).trans he
theorem RowAt.ag {E : EnvT} {h h1 : Hp} {r cap : Nat} {l : List Nat} (x : RowAt E h r cap l) (o : Ag h h1 r (r + 2)) : RowAt E h1 r cap l := by
  obtain ⟨h1, h2, h3, f, h4, h5⟩ := x
  exact ⟨h1, h2, (o r (by omega) (by omega)).trans h3, f, (o (r + 1) (by omega) (by omega)).trans h4, h5⟩
theorem Ag.sub {h h1 : Hp} {a b a' b' : Nat} (x : Ag h h1 a b) (k1 : a ≤ a') (k2 : b' ≤ b) : Ag h h1 a' b' := fun q _ _ => x q (by omega) (by omega)
theorem PackAt.ag {E : EnvT} {h h1 : Hp} {P : Nat} {sq : List Nat} {ru : Ru} (x : PackAt E h P sq ru) (o : Ag h h1 P (P + 126)) : PackAt E h1 P sq ru := by
  obtain ⟨h1, h2, ⟨g, h3, h3'⟩, h4, h5⟩ := x
  exact ⟨(o P (by omega) (by omega)).trans h1, h2.ag (o.sub (by omega) (by omega)), ⟨g, (o _ (by omega) (by omega)).trans h3, h3'⟩, h4.ag (o.sub (by omega) (by omega)), fun i hi => (h5 i hi).ag (o.sub (by omega) (by omega))⟩
theorem WordsT.ag {E : EnvT} {h h1 : Hp} {W : Nat} {ru : Ru} {T : List Nat} {re le : Int32} (x : WordsT E h W ru T re le) (o : Ag h h1 W (W + 5)) : WordsT E h1 W ru T re le := by
  obtain ⟨h1, ⟨f, h2, h2'⟩, ⟨g, h3, h3'⟩, h4⟩ := x
  exact ⟨(o _ (by omega) (by omega)).trans h1, ⟨f, (o _ (by omega) (by omega)).trans h2, h2'⟩, ⟨g, (o _ (by omega) (by omega)).trans h3, h3'⟩, h4.ag (o.sub (by omega) (by omega))⟩
theorem WordsAny.ag {E : EnvT} {h h1 : Hp} {W : Nat} (x : WordsAny E h W) (o : Ag h h1 W (W + 5)) : WordsAny E h1 W := by
  obtain ⟨re, le, f, g, T, h1, h2, h3, h4⟩ := x
  exact ⟨re, le, f, g, T, (o _ (by omega) (by omega)).trans h1, (o _ (by omega) (by omega)).trans h2, (o _ (by omega) (by omega)).trans h3, h4.ag (o.sub (by omega) (by omega))⟩
def ReadAt (E : EnvT) (h : Hp) (D : Nat) (ls hs bs ds : List Nat) (lo la : Int32) : Prop :=
  h.2 D = some (.inr (5, [.ref (D + 1), .ref (D + 3), .ref (D + 5), .ref (D + 7), .ref (D + 9), .int lo, .int la])) ∧ RowAt E h (D + 1) 240 ls ∧ RowAt E h (D + 3) 240 hs ∧ RowAt E h (D + 5) 240 bs ∧ RowAt E h (D + 7) 240 ds ∧ ∃ f, h.2 (D + 9) = some (.inl (E.2.2.1 0, 241, .inl f))
theorem ReadAt.ag {E : EnvT} {h h1 : Hp} {D : Nat} {ls hs bs ds : List Nat} {lo la : Int32} (x : ReadAt E h D ls hs bs ds lo la) (o : Ag h h1 D (D + 10)) : ReadAt E h1 D ls hs bs ds lo la := by
  obtain ⟨h1, h2, h3, h4, h5, f, h6⟩ := x
  exact ⟨(o _ (by omega) (by omega)).trans h1, h2.ag (o.sub (by omega) (by omega)), h3.ag (o.sub (by omega) (by omega)), h4.ag (o.sub (by omega) (by omega)), h5.ag (o.sub (by omega) (by omega)), f, (o _ (by omega) (by omega)).trans h6⟩
def letL (ru : Ru) (q : List Nat) : List Nat := (q.flatMap (wx ru)).map Prod.fst
def dpL (ru : Ru) (q : List Nat) : List Nat := (q.flatMap (wx ru)).map Prod.snd
def homL (ru : Ru) : Nat → List Nat → List Nat
  | _, [] => []
  | i, x :: t => List.replicate (wlen ru x) i ++ homL ru (i + 1) t
def begL (ru : Ru) : Nat → List Nat → List Nat
  | _, [] => []
  | b, x :: t => List.replicate (wlen ru x) b ++ begL ru (b + wlen ru x) t
theorem homL_app {ru : Ru} : ∀ (a b : List Nat) (i : Nat), homL ru i (a ++ b) = homL ru i a ++ homL ru (i + a.length) b
  | [], b, i => rfl
  | x :: a, b, i => by rw [List.cons_append, homL, homL, homL_app a b, List.append_assoc, List.length_cons, show i + 1 + a.length = i + (a.length + 1) by omega]
theorem begL_app {ru : Ru} : ∀ (a b : List Nat) (i : Nat), begL ru i (a ++ b) = begL ru i a ++ begL ru (i + lsum (wlen ru) a) b
  | [], b, i => rfl
  | x :: a, b, i => by rw [List.cons_append, begL, begL, begL_app a b, List.append_assoc, lsum, show i + wlen ru x + lsum (wlen ru) a = i + (wlen ru x + lsum (wlen ru) a) by omega]
theorem letL_len {ru : Ru} {q : List Nat} : (letL ru q).length = lsum (wlen ru) q := by rw [letL, List.length_map, lsum_flat]
theorem dpL_len {ru : Ru} {q : List Nat} : (dpL ru q).length = lsum (wlen ru) q := by rw [dpL, List.length_map, lsum_flat]
theorem homL_len {ru : Ru} : ∀ (q : List Nat) (i : Nat), (homL ru i q).length = lsum (wlen ru) q
  | [], _ => rfl
  | x :: t, i => by rw [homL, List.length_append, List.length_replicate, homL_len t, lsum]
theorem begL_len {ru : Ru} : ∀ (q : List Nat) (i : Nat), (begL ru i q).length = lsum (wlen ru) q
  | [], _ => rfl
  | x :: t, i => by rw [begL, List.length_append, List.length_replicate, begL_len t, lsum]
theorem letL_app {ru : Ru} {a b : List Nat} : letL ru (a ++ b) = letL ru a ++ letL ru b := by simp [letL]
theorem dpL_app {ru : Ru} {a b : List Nat} : dpL ru (a ++ b) = dpL ru a ++ dpL ru b := by simp [dpL]
theorem homL_one {ru : Ru} {i x : Nat} : homL ru i [x] = List.replicate (wlen ru x) i := by simp [homL]
theorem begL_one {ru : Ru} {i x : Nat} : begL ru i [x] = List.replicate (wlen ru x) i := by simp [begL]
theorem letL_one {ru : Ru} {x : Nat} : letL ru [x] = (wx ru x).map Prod.fst := by simp [letL]
theorem dpL_one {ru : Ru} {x : Nat} : dpL ru [x] = (wx ru x).map Prod.snd := by simp [dpL]
theorem rep_snoc {n x : Nat} : List.replicate (n + 1) x = List.replicate n x ++ [x] := by rw [← List.replicate_append_replicate]; rfl
theorem wx_lt {ru : Ru} : ∀ (n s : Nat) (p : Nat × Nat), p ∈ wxF ru n s → p.1 < 26
  | 0, s, p, h => by
    rw [wxF] at h
    split at h
    · simp at h; rw [h]; assumption
    · simp at h
  | n + 1, s, p, h => by
    rw [wxF] at h
    split at h
    · simp at h; rw [h]; assumption
    · obtain ⟨q, hq, rfl⟩ := List.mem_map.mp h
      obtain ⟨x, -, hx⟩ := List.mem_flatMap.mp hq
      exact wx_lt n x q hx
theorem letL_lt {ru : Ru} {q : List Nat} : ∀ x ∈ letL ru q, x < 26 := fun x hx => by
  obtain ⟨p, hp, rfl⟩ := List.mem_map.mp hx
  obtain ⟨y, -, hy⟩ := List.mem_flatMap.mp hp
  exact wx_lt 60 y p hy
section READING
variable {E : EnvT} {h : Hp} {D W P : Nat} {sq : List Nat} {ru : Ru}
set_option maxHeartbeats 4000000 in
theorem Read_readRow {ls0 hs0 bs0 ds0 : List Nat} {lo la re le : Int32} (hW : WOk ru) (hD : ReadAt E h D ls0 hs0 bs0 ds0 lo la) (hw : WordsT E h W ru (ordS ru) re le) (hP : PackAt E h P sq ru) {r cap : Nat} {q : List Nat} (hR : RowAt E h r cap q) (hs : ∀ x ∈ q, isSg ru x) (hl : lsum (wlen ru) q ≤ 240)
    (d1 : P + 126 ≤ W ∨ W + 5 ≤ P) (d2 : P + 126 ≤ D ∨ D + 10 ≤ P) (d3 : W + 5 ≤ D ∨ D + 10 ≤ W) (d4 : r + 2 ≤ D ∨ D + 10 ≤ r) (d5 : r + 2 ≤ W ∨ W + 5 ≤ r) : Spec E k_X5_readRow 4 0 0 [.ref D, .ref r, .ref P, .ref W] h (fun v h' => v = none ∧ ReadAt E h' D (letL ru q) (homL ru 0 q) (begL ru 0 q) (dpL ru q) lo la ∧ (∃ re le, WordsT E h' W ru (ordS ru) re le) ∧ Out2 h h' D (D + 10) W (W + 5)) := by
  have hcap := hR.2.1
  have hqc := hR.1
  have hql : q.length ≤ 240 := Nat.le_trans (lsum_len (fun x hx => wlen_pos hW.1 (hs x hx))) hl
  refine Spec.of (by decide +kernel) (by simp [Value.category]) (Nat.le_of_ble_eq_true rfl) ?_
  show WP E k_X5_readRow 4 0 0 0 [some (.ref D), some (.ref r), some (.ref P), some (.ref W), none, none, none, none] [] h _
  have loop : ∀ m i h2 re le x5 x6 x7, i + m = q.length → ReadAt E h2 D (letL ru (q.take i)) (homL ru 0 (q.take i)) (begL ru 0 (q.take i)) (dpL ru (q.take i)) lo la → WordsT E h2 W ru (ordS ru) re le → Out2 h h2 D (D + 10) W (W + 5) → WP E k_X5_readRow 4 0 0 31 [some (.ref D), some (.ref r), some (.ref P), some (.ref W), some (.int (nI i)), x5, x6, x7] [] h2 (fun v h' => v = none ∧ ReadAt E h' D (letL ru q) (homL ru 0 q) (begL ru 0 q) (dpL ru q) lo la ∧ (∃ re le, WordsT E h' W ru (ordS ru) re le) ∧ Out2 h h' D (D + 10) W (W + 5)) := by
    intro m
    induction m with
    | zero =>
      intro i h2 re le x5 x6 x7 hi hD2 hw2 o2
      have hR2 := hR.ag (o2.ag (by omega) (by omega))
      rw [List.take_of_length_le (by omega)] at hD2
      refine R_iload dX5_readRow_31 rfl ?_
      refine R_aload_n dX5_readRow_33 rfl ?_
      -- X5_readRow: ('call', 34, '.invokevirtual', 43)
      refine R_callV v_X6_size (Row_size hR2) dX5_readRow_34 l_RX5_43 rfl rfl hR2.2.2.1 (Nat.le_of_ble_eq_true rfl) (by omega) rfl rfl (fun v h1 hq => ?_)
      obtain ⟨rfl, e9⟩ := hq
      rw [e9]
      refine R_icmp_ge_N (tgt := 145) dX5_readRow_37 (by decide) (by omega) (by omega) (fun c37 => ?_) (fun c37 => ?_)
      -- X5_readRow: ('branch', 37, 145, 40)
      · refine R_return dX5_readRow_145 rfl ?_
        -- X5_readRow: ('ret', 145)
        exact ⟨rfl, hD2, ⟨re, le, hw2⟩, o2⟩
      · exact absurd c37 (by omega)
    | succ m ih =>
      intro i h2 re le x5 x6 x7 hi hD2 hw2 o2
      have hR2 := hR.ag (o2.ag (by omega) (by omega))
      obtain ⟨x, hx⟩ := getE (l := q) (i := i) (by omega)
      have hxs := hs x (List.mem_of_getElem? hx)
      have hxl := wlen_le hW hxs
      have hts := take_snoc hx
      have hbeg : lsum (wlen ru) (q.take i) + wlen ru x ≤ 240 := by
        have e := congrArg (lsum (wlen ru)) (List.take_append_drop (i + 1) q)
        rw [lsum_app, hts, lsum_app] at e
        simp only [lsum] at e
        omega
      refine R_iload dX5_readRow_31 rfl ?_
      refine R_aload_n dX5_readRow_33 rfl ?_
      -- X5_readRow: ('call', 34, '.invokevirtual', 43)
      refine R_callV v_X6_size (Row_size hR2) dX5_readRow_34 l_RX5_43 rfl rfl hR2.2.2.1 (Nat.le_of_ble_eq_true rfl) (by omega) rfl rfl (fun v h1 hq => ?_)
      obtain ⟨rfl, e9⟩ := hq
      rw [e9]
      refine R_icmp_ge_N (tgt := 145) dX5_readRow_37 (by decide) (by omega) (by omega) (fun c37 => ?_) (fun c37 => ?_)
      -- X5_readRow: ('branch', 37, 145, 40)
      · exact absurd c37 (by omega)
      · refine R_aload_n dX5_readRow_40 rfl ?_
        refine R_get K_5 (f := 0) (by decide) dX5_readRow_41 f_RX5_14 hD2.1 rfl ?_
        -- X5_readRow: ('call', 44, '.invokevirtual', 43)
        refine R_callV v_X6_size (Row_size hD2.2.1) dX5_readRow_44 l_RX5_43 rfl rfl hD2.2.1.2.2.1 (Nat.le_of_ble_eq_true rfl) (by omega) rfl rfl (fun v h1 hq => ?_)
        obtain ⟨rfl, e9⟩ := hq
        rw [e9, letL_len]
        refine R_istore5 dX5_readRow_47 (by decide) ?_
        refine R_iload dX5_readRow_49 rfl ?_
        refine R_aload_n dX5_readRow_51 rfl ?_
        refine R_aload_n dX5_readRow_52 rfl ?_
        refine R_iload dX5_readRow_53 rfl ?_
        -- X5_readRow: ('call', 55, '.invokevirtual', 47)
        refine R_callV v_X6_get (Row_get hR2 (nI i)) dX5_readRow_55 l_RX5_47 rfl rfl hR2.2.2.1 (Nat.le_of_ble_eq_true rfl) (by omega) rfl rfl (fun v h1 hq => ?_)
        obtain ⟨rfl, e9⟩ := hq
        rw [e9, rget_in (by omega) hx]
        refine R_callV v_X8_lettersOf (Words_len hW hw2 hxs) dX5_readRow_58 l_RX5_51 rfl rfl hw2.1 (Nat.le_of_ble_eq_true rfl) (by omega) rfl rfl (fun v h1 hq => ?_)
        obtain ⟨rfl, e9⟩ := hq
        rw [e9]
        have inner : ∀ m2 j h3 re le, j + m2 = wlen ru x → ReadAt E h3 D (letL ru (q.take i) ++ ((wx ru x).take j).map Prod.fst) (homL ru 0 (q.take i) ++ List.replicate j i) (begL ru 0 (q.take i) ++ List.replicate j (lsum (wlen ru) (q.take i))) (dpL ru (q.take i) ++ ((wx ru x).take j).map Prod.snd) lo la → WordsT E h3 W ru (ordS ru) re le → Out2 h h3 D (D + 10) W (W + 5) → WP E k_X5_readRow 4 0 0 68 [some (.ref D), some (.ref r), some (.ref P), some (.ref W), some (.int (nI i)), some (.int (nI (lsum (wlen ru) (q.take i)))), some (.int (nI (lsum (wlen ru) (q.take i) + wlen ru x))), some (.int (nI (lsum (wlen ru) (q.take i) + j)))] [] h3 (fun v h' => v = none ∧ ReadAt E h' D (letL ru q) (homL ru 0 q) (begL ru 0 q) (dpL ru q) lo la ∧ (∃ re le, WordsT E h' W ru (ordS ru) re le) ∧ Out2 h h' D (D + 10) W (W + 5)) := by
          intro m2
          induction m2 with
          | zero =>
            intro j h3 re le hj hD3 hw3 o3
            refine R_iload dX5_readRow_68 rfl ?_
            refine R_iload dX5_readRow_70 rfl ?_
            refine R_icmp_ge_N (tgt := 139) dX5_readRow_72 (by decide) (by omega) (by omega) (fun c72 => ?_) (fun c72 => ?_)
            -- X5_readRow: ('branch', 72, 139, 75)
            · refine R_iinc4 dX5_readRow_139 (by decide) (nI_inc _ 1) ?_
              refine R_goto (tgt := 31) dX5_readRow_142 (by decide) ?_
              -- X5_readRow: ('stop', 31)
              refine ih (i + 1) h3 re le _ _ _ (by omega) ?_ hw3 o3
              rw [hts, letL_app, homL_app, begL_app, dpL_app, letL_one, homL_one, begL_one, dpL_one]
              have hj' : j = wlen ru x := by omega
              rw [hj', List.take_of_length_le (show (wx ru x).length ≤ wlen ru x from Nat.le_refl _)] at hD3
              rw [show 0 + (q.take i).length = i by simp; omega, Nat.zero_add]
              exact hD3
            · exact absurd c72 (by omega)
          | succ m2 ih2 =>
            intro j h3 re le hj hD3 hw3 o3
            have hR3 := hR.ag (o3.ag (by omega) (by omega))
            have hP3 := hP.ag (o3.ag (by omega) (by omega))
            obtain ⟨a1, a2, a3, a4, a5, f, a6⟩ := id hD3
            have hpw := path_wx hW.1 60 x j hxs (dpt_le ru x) (by omega)
            have hle26 : lastD x (path ru 60 x j) < 26 := wx_lt 60 x _ (List.mem_of_getElem? hpw)
            have hled : (path ru 60 x j).length ≤ 60 := wxF_dep 60 x _ (List.mem_of_getElem? hpw)
            have hwt : (wx ru x).take (j + 1) = (wx ru x).take j ++ [(lastD x (path ru 60 x j), (path ru 60 x j).length)] := by rw [List.take_add_one, hpw]; rfl
            have l1 : (letL ru (q.take i) ++ ((wx ru x).take j).map Prod.fst).length < 240 := by
              rw [List.length_append, letL_len, List.length_map, List.length_take]; omega
            have l2 : (homL ru 0 (q.take i) ++ List.replicate j i).length < 240 := by
              rw [List.length_append, homL_len, List.length_replicate]; omega
            have l3 : (begL ru 0 (q.take i) ++ List.replicate j (lsum (wlen ru) (q.take i))).length < 240 := by
              rw [List.length_append, begL_len, List.length_replicate]; omega
            have l4 : (dpL ru (q.take i) ++ ((wx ru x).take j).map Prod.snd).length < 240 := by
              rw [List.length_append, dpL_len, List.length_map, List.length_take]; omega
            refine R_iload dX5_readRow_68 rfl ?_
            refine R_iload dX5_readRow_70 rfl ?_
            refine R_icmp_ge_N (tgt := 139) dX5_readRow_72 (by decide) (by omega) (by omega) (fun c72 => ?_) (fun c72 => ?_)
            -- X5_readRow: ('branch', 72, 139, 75)
            · exact absurd c72 (by omega)
            · refine R_aload_n dX5_readRow_75 rfl ?_
              refine R_aload_n dX5_readRow_76 rfl ?_
              refine R_aload_n dX5_readRow_77 rfl ?_
              refine R_iload dX5_readRow_78 rfl ?_
              -- X5_readRow: ('call', 80, '.invokevirtual', 47)
              refine R_callV v_X6_get (Row_get hR3 (nI i)) dX5_readRow_80 l_RX5_47 rfl rfl hR3.2.2.1 (Nat.le_of_ble_eq_true rfl) (by omega) rfl rfl (fun v h1 hq => ?_)
              obtain ⟨rfl, e9⟩ := hq
              rw [e9, rget_in (by omega) hx]
              refine R_iload dX5_readRow_83 rfl ?_
              refine R_iload dX5_readRow_85 rfl ?_
              refine R_isub_N dX5_readRow_87 (by omega) ?_
              refine R_bipush (v := nI 60) dX5_readRow_88 (by decide) ?_
              -- X5_readRow: ('call', 90, '.invokevirtual', 56)
              rw [show lsum (wlen ru) (q.take i) + j - lsum (wlen ru) (q.take i) = j by omega]
              refine R_callV v_X8_goDown (Words_goDown hW hw3 hP3 d1 hxs (p := j) (most := 60) (by omega) (by omega)) dX5_readRow_90 l_RX5_56 rfl rfl hw3.1 (Nat.le_of_ble_eq_true rfl) (by omega) rfl rfl (fun v h1 hq => ?_)
              obtain ⟨rfl, hw4, o4⟩ := hq
              have a1' := (o4.2 D (by omega)).trans a1
              have a2' := a2.out o4 (by omega)
              refine R_aload_n dX5_readRow_93 rfl ?_
              refine R_get K_5 (f := 0) (by decide) dX5_readRow_94 f_RX5_14 a1' rfl ?_
              refine R_aload_n dX5_readRow_97 rfl ?_
              -- X5_readRow: ('call', 98, '.invokevirtual', 60)
              refine R_callV v_X8_reached (Words_reached hw4) dX5_readRow_98 l_RX5_60 rfl rfl hw4.1 (Nat.le_of_ble_eq_true rfl) (by omega) rfl rfl (fun v h1 hq => ?_)
              obtain ⟨rfl, e9⟩ := hq
              rw [e9]
              refine R_callV v_X6_add (Row_add a2' (x := lastD x (path ru 60 x j)) (by omega) l1) dX5_readRow_101 l_RX5_63 rfl rfl a2'.2.2.1 (Nat.le_of_ble_eq_true rfl) (by omega) rfl rfl (fun v h1 hq => ?_)
              obtain ⟨rfl, b2, o5⟩ := hq
              have a1'' := (o5.2 D (by omega)).trans a1'
              have a3' := (a3.out o4 (by omega)).out o5 (by omega)
              refine R_aload_n dX5_readRow_104 rfl ?_
              refine R_get K_5 (f := 1) (by decide) dX5_readRow_105 f_RX5_20 a1'' rfl ?_
              refine R_iload dX5_readRow_108 rfl ?_
              -- X5_readRow: ('call', 110, '.invokevirtual', 63)
              refine R_callV v_X6_add (Row_add a3' (x := i) (by omega) l2) dX5_readRow_110 l_RX5_63 rfl rfl a3'.2.2.1 (Nat.le_of_ble_eq_true rfl) (by omega) rfl rfl (fun v h1 hq => ?_)
              obtain ⟨rfl, b3, o6⟩ := hq
              have a13 := (o6.2 D (by omega)).trans a1''
              have a4' := ((a4.out o4 (by omega)).out o5 (by omega)).out o6 (by omega)
              refine R_aload_n dX5_readRow_113 rfl ?_
              refine R_get K_5 (f := 2) (by decide) dX5_readRow_114 f_RX5_23 a13 rfl ?_
              refine R_iload dX5_readRow_117 rfl ?_
              -- X5_readRow: ('call', 119, '.invokevirtual', 63)
              refine R_callV v_X6_add (Row_add a4' (x := lsum (wlen ru) (q.take i)) (by omega) l3) dX5_readRow_119 l_RX5_63 rfl rfl a4'.2.2.1 (Nat.le_of_ble_eq_true rfl) (by omega) rfl rfl (fun v h1 hq => ?_)
              obtain ⟨rfl, b4, o7⟩ := hq
              have a14 := (o7.2 D (by omega)).trans a13
              have a5' := (((a5.out o4 (by omega)).out o5 (by omega)).out o6 (by omega)).out o7 (by omega)
              have hw7 := ((hw4.out o5 (by omega)).out o6 (by omega)).out o7 (by omega)
              refine R_aload_n dX5_readRow_122 rfl ?_
              refine R_get K_5 (f := 3) (by decide) dX5_readRow_123 f_RX5_26 a14 rfl ?_
              refine R_aload_n dX5_readRow_126 rfl ?_
              -- X5_readRow: ('call', 127, '.invokevirtual', 66)
              refine R_callV v_X8_levelsGone (Words_levelsGone hw7) dX5_readRow_127 l_RX5_66 rfl rfl hw7.1 (Nat.le_of_ble_eq_true rfl) (by omega) rfl rfl (fun v h1 hq => ?_)
              obtain ⟨rfl, e9⟩ := hq
              rw [e9]
              refine R_callV v_X6_add (Row_add a5' (x := (path ru 60 x j).length) (by omega) l4) dX5_readRow_130 l_RX5_63 rfl rfl a5'.2.2.1 (Nat.le_of_ble_eq_true rfl) (by omega) rfl rfl (fun v h1 hq => ?_)
              obtain ⟨rfl, b5, o8⟩ := hq
              refine R_iinc7 dX5_readRow_133 (by decide) (nI_inc _ 1) ?_
              refine R_goto (tgt := 68) dX5_readRow_136 (by decide) ?_
              -- X5_readRow: ('stop', 68)
              refine ih2 (j + 1) _ _ _ (by omega) ⟨(o8.2 D (by omega)).trans a14, ?_, ?_, ?_, ?_, f, ?_⟩ (hw7.out o8 (by omega)) ((((o3.trans (o4.two (by omega))).trans (o5.two (by omega))).trans (o6.two (by omega))).trans (o7.two (by omega)) |>.trans (o8.two (by omega)))
              · rw [hwt, List.map_append, ← List.append_assoc]
                exact ((b2.out o6 (by omega)).out o7 (by omega)).out o8 (by omega)
              · rw [rep_snoc, ← List.append_assoc]
                exact (b3.out o7 (by omega)).out o8 (by omega)
              · rw [rep_snoc, ← List.append_assoc]
                exact b4.out o8 (by omega)
              · rw [hwt, List.map_append, ← List.append_assoc]
                exact b5
              · rw [o8.2 _ (by omega), o7.2 _ (by omega), o6.2 _ (by omega), o5.2 _ (by omega), o4.2 _ (by omega)]
                exact a6
        refine R_iadd_N dX5_readRow_61 ?_
        refine R_istore6 dX5_readRow_62 (by decide) ?_
        refine R_iload dX5_readRow_64 rfl ?_
        refine R_istore7 dX5_readRow_66 (by decide) ?_
        -- X5_readRow: ('stop', 68)
        exact inner (wlen ru x) 0 h2 re le (by omega) (by simpa using hD2) hw2 o2
  obtain ⟨a1, a2, a3, a4, a5, f, a6⟩ := id hD
  refine R_aload_n dX5_readRow_0 rfl ?_
  refine R_get K_5 (f := 0) (by decide) dX5_readRow_1 f_RX5_14 a1 rfl ?_
  -- X5_readRow: ('call', 4, '.invokevirtual', 40)
  refine R_callV v_X6_clear (Row_clear a2) dX5_readRow_4 l_RX5_40 rfl rfl a2.2.2.1 (Nat.le_of_ble_eq_true rfl) (by omega) rfl rfl (fun v h1 hq => ?_)
  obtain ⟨rfl, b2, o2⟩ := hq
  have a1' := (o2.2 D (by omega)).trans a1
  have a3' := a3.out o2 (by omega)
  refine R_aload_n dX5_readRow_7 rfl ?_
  refine R_get K_5 (f := 1) (by decide) dX5_readRow_8 f_RX5_20 a1' rfl ?_
  -- X5_readRow: ('call', 11, '.invokevirtual', 40)
  refine R_callV v_X6_clear (Row_clear a3') dX5_readRow_11 l_RX5_40 rfl rfl a3'.2.2.1 (Nat.le_of_ble_eq_true rfl) (by omega) rfl rfl (fun v h1 hq => ?_)
  obtain ⟨rfl, b3, o3⟩ := hq
  have a1'' := (o3.2 D (by omega)).trans a1'
  have a4' := (a4.out o2 (by omega)).out o3 (by omega)
  refine R_aload_n dX5_readRow_14 rfl ?_
  refine R_get K_5 (f := 2) (by decide) dX5_readRow_15 f_RX5_23 a1'' rfl ?_
  -- X5_readRow: ('call', 18, '.invokevirtual', 40)
  refine R_callV v_X6_clear (Row_clear a4') dX5_readRow_18 l_RX5_40 rfl rfl a4'.2.2.1 (Nat.le_of_ble_eq_true rfl) (by omega) rfl rfl (fun v h1 hq => ?_)
  obtain ⟨rfl, b4, o4⟩ := hq
  have a13 := (o4.2 D (by omega)).trans a1''
  have a5' := ((a5.out o2 (by omega)).out o3 (by omega)).out o4 (by omega)
  refine R_aload_n dX5_readRow_21 rfl ?_
  refine R_get K_5 (f := 3) (by decide) dX5_readRow_22 f_RX5_26 a13 rfl ?_
  -- X5_readRow: ('call', 25, '.invokevirtual', 40)
  refine R_callV v_X6_clear (Row_clear a5') dX5_readRow_25 l_RX5_40 rfl rfl a5'.2.2.1 (Nat.le_of_ble_eq_true rfl) (by omega) rfl rfl (fun v h1 hq => ?_)
  obtain ⟨rfl, b5, o5⟩ := hq
  refine R_iconst (v := nI 0) dX5_readRow_28 (by decide) ?_
  refine R_istore4 dX5_readRow_29 (by decide) ?_
  -- X5_readRow: ('stop', 31)
  refine loop q.length 0 _ re le none none none (by omega) ⟨(o5.2 D (by omega)).trans a13, ?_, ?_, ?_, ?_, f, ?_⟩ ((((hw.out o2 (by omega)).out o3 (by omega)).out o4 (by omega)).out o5 (by omega)) ((((o2.two (by omega)).trans (o3.two (by omega))).trans (o4.two (by omega))).trans (o5.two (by omega)))
  · exact ((b2.out o3 (by omega)).out o4 (by omega)).out o5 (by omega)
  · exact (b3.out o4 (by omega)).out o5 (by omega)
  · exact b4.out o5 (by omega)
  · exact b5
  · rw [o5.2 _ (by omega), o4.2 _ (by omega), o3.2 _ (by omega), o2.2 _ (by omega)]
    exact a6
end READING
