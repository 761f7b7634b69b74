/-! PACKING: a sign made to begin at a place -/
def opD (ru : Ru) (place : Nat) : Nat → List Nat → Nat → Nat → Option (List Nat × Nat)
  | 0, _, _, _ => none
  | n + 1, sq, i, b => if place ≤ b then some (sq, i) else if b + wlen ru (sq.getD i 0) ≤ place then opD ru place n sq (i + 1) (b + wlen ru (sq.getD i 0)) else opD ru place n (sq.take i ++ rowOf ru (sq.getD i 0) ++ sq.drop (i + 1)) i b
theorem opD_up {ru : Ru} {place : Nat} : ∀ {n : Nat} {sq : List Nat} {i b : Nat} {r : List Nat × Nat}, opD ru place n sq i b = some r → opD ru place (n + 1) sq i b = some r
  | 0, sq, i, b, r, h => by cases h
  | n + 1, sq, i, b, r, h => by
    rw [opD] at h ⊢
    split
    · rename_i c; rw [if_pos c] at h; exact h
    · rename_i c
      rw [if_neg c] at h
      split
      · rename_i c2; rw [if_pos c2] at h; exact opD_up h
      · rename_i c2; rw [if_neg c2] at h; exact opD_up h
theorem opD_le {ru : Ru} {place : Nat} {n m : Nat} {sq : List Nat} {i b : Nat} {r : List Nat × Nat} (h : opD ru place n sq i b = some r) (hm : n ≤ m) : opD ru place m sq i b = some r := by
  induction m with
  | zero => rw [show n = 0 by omega] at h; exact h
  | succ m ih =>
    by_cases e : n = m + 1
    · rw [← e]; exact h
    · exact opD_up (ih (by omega))
theorem opD_uniq {ru : Ru} {place : Nat} {n m : Nat} {sq : List Nat} {i b : Nat} {r r2 : List Nat × Nat} (h : opD ru place n sq i b = some r) (h2 : opD ru place m sq i b = some r2) : r = r2 := by
  have a := opD_le h (Nat.le_max_left n m)
  have b := opD_le h2 (Nat.le_max_right n m)
  exact Option.some.inj (a.symm.trans b)
theorem lmax_in {f : Nat → Nat} : ∀ {l : List Nat} {x : Nat}, x ∈ l → f x ≤ lmax f l
  | y :: l, x, h => by
    rw [lmax]
    rcases List.mem_cons.mp h with e | e
    · subst e; omega
    · have := lmax_in (f := f) e; omega
theorem split_at {l : List Nat} {i x : Nat} (h : l[i]? = some x) : l = l.take i ++ x :: l.drop (i + 1) := by
  obtain ⟨hlt, hv⟩ := List.getElem?_eq_some_iff.mp h
  rw [← hv, ← List.drop_eq_getElem_cons hlt, List.take_append_drop]
def OpInv (ru : Ru) (place d e : Nat) (sq : List Nat) (i b : Nat) : Prop := (∀ x ∈ sq, isSg ru x) ∧ lsum (wlen ru) sq ≤ 240 ∧ b = lsum (wlen ru) (sq.take i) ∧ b ≤ place ∧ i ≤ e ∧ e ≤ sq.length ∧ place ≤ lsum (wlen ru) (sq.take e) ∧ ∀ j x, i ≤ j → j < e → sq[j]? = some x → dpt ru x + d ≤ 60
theorem OpInv.lt {ru : Ru} {place d e i b : Nat} {sq : List Nat} (h : OpInv ru place d e sq i b) (hb : b < place) : i < e := by
  obtain ⟨-, -, h3, -, h5, -, h7, -⟩ := h
  by_cases z : i = e
  · subst z; omega
  · omega
theorem OpInv.adv {ru : Ru} {place d e i b x : Nat} {sq : List Nat} (h : OpInv ru place d e sq i b) (hb : b < place) (hx : sq[i]? = some x) (hle : b + wlen ru x ≤ place) : OpInv ru place d e sq (i + 1) (b + wlen ru x) := by
  have hlt := h.lt hb
  obtain ⟨h1, h2, h3, h4, h5, h6, h7, h8⟩ := h
  refine ⟨h1, h2, ?_, hle, by omega, h6, h7, fun j y k1 k2 k3 => h8 j y (by omega) k2 k3⟩
  rw [take_snoc hx, lsum_app, ← h3, lsum, lsum, Nat.add_zero]
theorem OpInv.exp {ru : Ru} {place d e i b x : Nat} {sq : List Nat} (hA : Acy ru) (h : OpInv ru place d e sq i b) (hb : b < place) (hx : sq[i]? = some x) (hlt : place < b + wlen ru x) : isRul ru x ∧ d < 60 ∧ sq.length + (ru (x - 26)).length ≤ 241 ∧ OpInv ru place (d + 1) (i + (ru (x - 26)).length) (sq.take i ++ ru (x - 26) ++ sq.drop (i + 1)) i b := by
  have hie := h.lt hb
  obtain ⟨h1, h2, h3, h4, h5, h6, h7, h8⟩ := h
  have hr : isRul ru x := by
    rcases h1 x (List.mem_of_getElem? hx) with z | z
    · rw [wlen_letter z] at hlt; omega
    · exact z
  have hdx := h8 i x (Nat.le_refl _) hie hx
  have hdr := dpt_rule hA hr
  have hwr := wlen_rule hA hr
  have hAl : (sq.take i).length = i := by rw [List.length_take]; omega
  have hsp := split_at hx
  have hls : lsum (wlen ru) (sq.take i ++ ru (x - 26) ++ sq.drop (i + 1)) = lsum (wlen ru) sq := by
    have := congrArg (lsum (wlen ru)) hsp
    rw [lsum_app, lsum] at this
    rw [lsum_app, lsum_app, ← hwr]; omega
  have hsg : ∀ y ∈ sq.take i ++ ru (x - 26) ++ sq.drop (i + 1), isSg ru y := by
    intro y hy
    rcases List.mem_append.mp hy with z | z
    · rcases List.mem_append.mp z with z | z
      · exact h1 y (List.mem_of_mem_take z)
      · exact acy_sg hA (by have := hr.2.1; omega) z
    · exact h1 y (List.mem_of_mem_drop z)
  have hlen := lsum_len (f := wlen ru) (fun y hy => wlen_pos hA (hsg y hy))
  rw [hls] at hlen
  have hl2 : (sq.take i ++ ru (x - 26) ++ sq.drop (i + 1)).length = i + (ru (x - 26)).length + (sq.length - (i + 1)) := by
    rw [List.length_append, List.length_append, hAl, List.length_drop]
  refine ⟨hr, by omega, by omega, hsg, by omega, ?_, h4, by omega, by omega, ?_, ?_⟩
  · rw [List.append_assoc, List.take_left' hAl]; exact h3
  · rw [List.take_left' (by rw [List.length_append, hAl]), lsum_app, ← h3, ← hwr]; omega
  · intro j y k1 k2 k3
    rw [List.append_assoc, List.getElem?_append_right (by omega), hAl, List.getElem?_append_left (by omega)] at k3
    have := lmax_in (f := dpt ru) (List.mem_of_getElem? k3)
    omega
section OPEN
variable {E : EnvT} {h : Hp} {W P : Nat} {sq : List Nat} {ru : Ru} {re le : Int32}
theorem Pack_open (hW : WOk ru) (hw : WordsT E h W ru (ordS ru) re le) (hP : PackAt E h P sq ru) (hd : P + 126 ≤ W ∨ W + 5 ≤ P) (hs : ∀ x ∈ sq, isSg ru x) {place : Nat} (hl : lsum (wlen ru) sq ≤ 240) (hp : place ≤ lsum (wlen ru) sq) : Spec E k_X2_open 4 0 0 [.ref P, .int (nI place), .ref W] h (fun v h' => ∃ n sq2 i, opD ru place n sq 0 0 = some (sq2, i) ∧ v = some (.int (nI i)) ∧ PackAt E h' P sq2 ru ∧ Out h h' P (P + 126)) := by
  refine Spec.of (by decide +kernel) (by simp [Value.category]) (Nat.le_of_ble_eq_true rfl) ?_
  show WP E k_X2_open 4 0 0 0 [some (.ref P), some (.int (nI place)), some (.ref W), none, none, none] [] h _
  have core : ∀ D d, d + D = 60 → (0 < D → ∀ sq3 i3 b3 e3 h3, OpInv ru place (d + 1) e3 sq3 i3 b3 → PackAt E h3 P sq3 ru → Out h h3 P (P + 126) → (∀ n r, opD ru place n sq3 i3 b3 = some r → ∃ m, opD ru place m sq 0 0 = some r) → WP E k_X2_open 4 0 0 15 [some (.ref P), some (.int (nI place)), some (.ref W), some (.int (nI i3)), some (.int (nI b3)), some (.int (nI (d + 1)))] [] h3 (fun v h' => ∃ n sq2 i, opD ru place n sq 0 0 = some (sq2, i) ∧ v = some (.int (nI i)) ∧ PackAt E h' P sq2 ru ∧ Out h h' P (P + 126))) → ∀ m sq2 i b e h2, i + m = e → OpInv ru place d e sq2 i b → PackAt E h2 P sq2 ru → Out h h2 P (P + 126) → (∀ n r, opD ru place n sq2 i b = some r → ∃ m, opD ru place m sq 0 0 = some r) → WP E k_X2_open 4 0 0 15 [some (.ref P), some (.int (nI place)), some (.ref W), some (.int (nI i)), some (.int (nI b)), some (.int (nI d))] [] h2 (fun v h' => ∃ n sq2 i, opD ru place n sq 0 0 = some (sq2, i) ∧ v = some (.int (nI i)) ∧ PackAt E h' P sq2 ru ∧ Out h h' P (P + 126)) := by
    intro D d hD kk m
    have done : ∀ sq2 i b e h2, b = place → OpInv ru place d e sq2 i b → PackAt E h2 P sq2 ru → Out h h2 P (P + 126) → (∀ n r, opD ru place n sq2 i b = some r → ∃ m, opD ru place m sq 0 0 = some r) → WP E k_X2_open 4 0 0 68 [some (.ref P), some (.int (nI place)), some (.ref W), some (.int (nI i)), some (.int (nI b)), some (.int (nI d))] [] h2 (fun v h' => ∃ n sq2 i, opD ru place n sq 0 0 = some (sq2, i) ∧ v = some (.int (nI i)) ∧ PackAt E h' P sq2 ru ∧ Out h h' P (P + 126)) := by
      intro sq2 i b e h2 hbe hinv hP2 o2 hop
      have hb240 : b ≤ 240 := by omega
      refine R_iload dX2_open_68 rfl ?_
      refine R_iload_n dX2_open_70 rfl ?_
      refine R_icmp_eq_N (tgt := 85) dX2_open_71 (by decide) (by omega) (by omega) (fun c71 => ?_) (fun c71 => ?_)
      -- X2_open: ('branch', 71, 85, 74)
      · refine R_iload_n dX2_open_85 rfl ?_
        refine R_ireturn dX2_open_86 rfl rfl ?_
        -- X2_open: ('ret', 86)
        obtain ⟨n, hn⟩ := hop 1 (sq2, i) (by rw [opD, if_pos (by omega)])
        exact ⟨n, sq2, i, hn, rfl, hP2, o2⟩
      · exact absurd hbe c71
    have stay : ∀ sq2 i b e h2, b = place → OpInv ru place d e sq2 i b → PackAt E h2 P sq2 ru → Out h h2 P (P + 126) → (∀ n r, opD ru place n sq2 i b = some r → ∃ m, opD ru place m sq 0 0 = some r) → WP E k_X2_open 4 0 0 15 [some (.ref P), some (.int (nI place)), some (.ref W), some (.int (nI i)), some (.int (nI b)), some (.int (nI d))] [] h2 (fun v h' => ∃ n sq2 i, opD ru place n sq 0 0 = some (sq2, i) ∧ v = some (.int (nI i)) ∧ PackAt E h' P sq2 ru ∧ Out h h' P (P + 126)) := by
      intro sq2 i b e h2 hbe hinv hP2 o2 hop
      have hsz := hP2.2.1.1
      have hie := hinv.2.2.2.2.1
      have hel := hinv.2.2.2.2.2.1
      refine R_iload_n dX2_open_15 rfl ?_
      refine R_aload_n dX2_open_16 rfl ?_
      refine R_get K_2 (f := 0) (by decide) dX2_open_17 f_RX2_14 hP2.1 rfl ?_
      -- X2_open: ('call', 20, '.invokevirtual', 31)
      refine R_callV v_X6_size (Row_size hP2.2.1) dX2_open_20 l_RX2_31 rfl rfl hP2.2.1.2.2.1 (Nat.le_of_ble_eq_true rfl) (by omega) rfl rfl (fun v h1 hq => ?_)
      obtain ⟨rfl, e9⟩ := hq
      rw [e9]
      refine R_icmp_ge_N (tgt := 68) dX2_open_23 (by decide) (by omega) (by omega) (fun c23 => ?_) (fun c23 => ?_)
      -- X2_open: ('branch', 23, 68, 26)
      · exact done sq2 i b e h2 hbe hinv hP2 o2 hop
      · obtain ⟨x, hx⟩ := getE (l := sq2) (i := i) (by omega)
        have hxs := hinv.1 x (List.mem_of_getElem? hx)
        have hwp := wlen_pos hW.1 hxs
        have hwl := wlen_le hW hxs
        have hw2 := hw.out o2 (by omega)
        refine R_iload dX2_open_26 rfl ?_
        refine R_aload_n dX2_open_28 rfl ?_
        refine R_aload_n dX2_open_29 rfl ?_
        refine R_get K_2 (f := 0) (by decide) dX2_open_30 f_RX2_14 hP2.1 rfl ?_
        refine R_iload_n dX2_open_33 rfl ?_
        -- X2_open: ('call', 34, '.invokevirtual', 84)
        refine R_callV v_X6_get (Row_get hP2.2.1 (nI i)) dX2_open_34 l_RX2_84 rfl rfl hP2.2.1.2.2.1 (Nat.le_of_ble_eq_true rfl) (by omega) rfl rfl (fun v h1 hq => ?_)
        obtain ⟨rfl, e9⟩ := hq
        rw [e9, rget_in (by omega) hx]
        refine R_callV v_X8_lettersOf (Words_len hW hw2 hxs) dX2_open_37 l_RX2_87 rfl rfl hw2.1 (Nat.le_of_ble_eq_true rfl) (by omega) rfl rfl (fun v h1 hq => ?_)
        obtain ⟨rfl, e9⟩ := hq
        rw [e9]
        refine R_iadd_N dX2_open_40 ?_
        refine R_iload_n dX2_open_41 rfl ?_
        refine R_icmp_gt_N (tgt := 68) dX2_open_42 (by decide) (by omega) (by omega) (fun c42 => ?_) (fun c42 => ?_)
        -- X2_open: ('branch', 42, 68, 45)
        · exact done sq2 i b e h2 hbe hinv hP2 o2 hop
        · exact absurd c42 (by omega)
    induction m with
    | zero =>
      intro sq2 i b e h2 hi hinv hP2 o2 hop
      have hbp := hinv.2.2.2.1
      have hbe : b = place := by
        by_cases z : b < place
        · have := hinv.lt z; omega
        · omega
      exact stay sq2 i b e h2 hbe hinv hP2 o2 hop
    | succ m ih =>
      intro sq2 i b e h2 hi hinv hP2 o2 hop
      have hbp := hinv.2.2.2.1
      by_cases hbe : b = place
      · exact stay sq2 i b e h2 hbe hinv hP2 o2 hop
      have hb : b < place := by omega
      have hie := hinv.lt hb
      have hsz := hP2.2.1.1
      have hel := hinv.2.2.2.2.2.1
      have hw2 := hw.out o2 (by omega)
      obtain ⟨x, hx⟩ := getE (l := sq2) (i := i) (by omega)
      have hxs := hinv.1 x (List.mem_of_getElem? hx)
      have hx86 := isSg_lt hxs
      have hwl := wlen_le hW hxs
      refine R_iload_n dX2_open_15 rfl ?_
      refine R_aload_n dX2_open_16 rfl ?_
      refine R_get K_2 (f := 0) (by decide) dX2_open_17 f_RX2_14 hP2.1 rfl ?_
      -- X2_open: ('call', 20, '.invokevirtual', 31)
      refine R_callV v_X6_size (Row_size hP2.2.1) dX2_open_20 l_RX2_31 rfl rfl hP2.2.1.2.2.1 (Nat.le_of_ble_eq_true rfl) (by omega) rfl rfl (fun v h1 hq => ?_)
      obtain ⟨rfl, e9⟩ := hq
      rw [e9]
      refine R_icmp_ge_N (tgt := 68) dX2_open_23 (by decide) (by omega) (by omega) (fun c23 => ?_) (fun c23 => ?_)
      -- X2_open: ('branch', 23, 68, 26)
      · exact absurd c23 (by omega)
      · refine R_iload dX2_open_26 rfl ?_
        refine R_aload_n dX2_open_28 rfl ?_
        refine R_aload_n dX2_open_29 rfl ?_
        refine R_get K_2 (f := 0) (by decide) dX2_open_30 f_RX2_14 hP2.1 rfl ?_
        refine R_iload_n dX2_open_33 rfl ?_
        -- X2_open: ('call', 34, '.invokevirtual', 84)
        refine R_callV v_X6_get (Row_get hP2.2.1 (nI i)) dX2_open_34 l_RX2_84 rfl rfl hP2.2.1.2.2.1 (Nat.le_of_ble_eq_true rfl) (by omega) rfl rfl (fun v h1 hq => ?_)
        obtain ⟨rfl, e9⟩ := hq
        rw [e9, rget_in (by omega) hx]
        refine R_callV v_X8_lettersOf (Words_len hW hw2 hxs) dX2_open_37 l_RX2_87 rfl rfl hw2.1 (Nat.le_of_ble_eq_true rfl) (by omega) rfl rfl (fun v h1 hq => ?_)
        obtain ⟨rfl, e9⟩ := hq
        rw [e9]
        refine R_iadd_N dX2_open_40 ?_
        refine R_iload_n dX2_open_41 rfl ?_
        refine R_icmp_gt_N (tgt := 68) dX2_open_42 (by decide) (by omega) (by omega) (fun c42 => ?_) (fun c42 => ?_)
        -- X2_open: ('branch', 42, 68, 45)
        · obtain ⟨k1, k2, k3, k4⟩ := hinv.exp hW.1 hb hx c42
          have hrow := hP2.rul (i := x - 26) (by omega)
          refine R_iload dX2_open_68 rfl ?_
          refine R_iload_n dX2_open_70 rfl ?_
          refine R_icmp_eq_N (tgt := 85) dX2_open_71 (by decide) (by omega) (by omega) (fun c71 => ?_) (fun c71 => ?_)
          -- X2_open: ('branch', 71, 85, 74)
          · exact absurd c71 hbe
          · refine R_iload_n dX2_open_74 rfl ?_
            refine R_aload_n dX2_open_75 rfl ?_
            refine R_get K_2 (f := 0) (by decide) dX2_open_76 f_RX2_14 hP2.1 rfl ?_
            -- X2_open: ('call', 79, '.invokevirtual', 31)
            refine R_callV v_X6_size (Row_size hP2.2.1) dX2_open_79 l_RX2_31 rfl rfl hP2.2.1.2.2.1 (Nat.le_of_ble_eq_true rfl) (by omega) rfl rfl (fun v h1 hq => ?_)
            obtain ⟨rfl, e9⟩ := hq
            rw [e9]
            refine R_icmp_lt_N (tgt := 87) dX2_open_82 (by decide) (by omega) (by omega) (fun c82 => ?_) (fun c82 => ?_)
            -- X2_open: ('branch', 82, 87, 85)
            · refine R_aload_n dX2_open_87 rfl ?_
              refine R_get K_2 (f := 0) (by decide) dX2_open_88 f_RX2_14 hP2.1 rfl ?_
              refine R_iload_n dX2_open_91 rfl ?_
              refine R_aload_n dX2_open_92 rfl ?_
              refine R_aload_n dX2_open_93 rfl ?_
              refine R_get K_2 (f := 0) (by decide) dX2_open_94 f_RX2_14 hP2.1 rfl ?_
              refine R_iload_n dX2_open_97 rfl ?_
              -- X2_open: ('call', 98, '.invokevirtual', 84)
              refine R_callV v_X6_get (Row_get hP2.2.1 (nI i)) dX2_open_98 l_RX2_84 rfl rfl hP2.2.1.2.2.1 (Nat.le_of_ble_eq_true rfl) (by omega) rfl rfl (fun v h1 hq => ?_)
              obtain ⟨rfl, e9⟩ := hq
              rw [e9, rget_in (by omega) hx]
              refine R_callV v_X2_rowOf (Pack_rowOf hP2 (s := x) (by omega)) dX2_open_101 l_RX2_27 rfl rfl hP2.1 (Nat.le_of_ble_eq_true rfl) (by omega) rfl rfl (fun v h1 hq => ?_)
              obtain ⟨rfl, e9⟩ := hq
              rw [e9, rowA_in ⟨k1.1, k1.2.1⟩]
              refine R_callV v_X6_spreadAt (Row_spreadAt hP2.2.1 hrow (i := i) (by omega) (by omega) (by omega)) dX2_open_104 l_RX2_92 rfl rfl hP2.2.1.2.2.1 (Nat.le_of_ble_eq_true rfl) (by omega) rfl rfl (fun v h3 hq => ?_)
              obtain ⟨rfl, hR3, o3⟩ := hq
              refine R_iinc5 dX2_open_107 (by decide) (nI_inc _ 1) ?_
              refine R_goto (tgt := 8) dX2_open_110 (by decide) ?_
              refine R_iload dX2_open_8 rfl ?_
              refine R_bipush (v := nI 60) dX2_open_10 (by decide) ?_
              refine R_icmp_gt_N (tgt := 113) dX2_open_12 (by decide) (by omega) (by omega) (fun c12 => ?_) (fun c12 => ?_)
              -- X2_open: ('branch', 12, 113, 15)
              · exact absurd c12 (by omega)
              · refine kk (by omega) _ i b _ h3 k4 (hP2.setSeq hR3 o3) (o2.trans (o3.mono (by omega) (by omega))) (fun n r hn => hop (n + 1) r ?_)
                rw [opD, if_neg (by omega), getD_of hx, if_neg (by omega), rowOf_in ⟨k1.1, k1.2.1⟩]
                exact hn
            · exact absurd c82 (by omega)
        · have hadv := hinv.adv hb hx c42
          refine R_iload dX2_open_45 rfl ?_
          refine R_aload_n dX2_open_47 rfl ?_
          refine R_aload_n dX2_open_48 rfl ?_
          refine R_get K_2 (f := 0) (by decide) dX2_open_49 f_RX2_14 hP2.1 rfl ?_
          refine R_iload_n dX2_open_52 rfl ?_
          -- X2_open: ('call', 53, '.invokevirtual', 84)
          refine R_callV v_X6_get (Row_get hP2.2.1 (nI i)) dX2_open_53 l_RX2_84 rfl rfl hP2.2.1.2.2.1 (Nat.le_of_ble_eq_true rfl) (by omega) rfl rfl (fun v h1 hq => ?_)
          obtain ⟨rfl, e9⟩ := hq
          rw [e9, rget_in (by omega) hx]
          refine R_callV v_X8_lettersOf (Words_len hW hw2 hxs) dX2_open_56 l_RX2_87 rfl rfl hw2.1 (Nat.le_of_ble_eq_true rfl) (by omega) rfl rfl (fun v h1 hq => ?_)
          obtain ⟨rfl, e9⟩ := hq
          rw [e9]
          refine R_iadd_N dX2_open_59 ?_
          refine R_istore4 dX2_open_60 (by decide) ?_
          refine R_iinc3 dX2_open_62 (by decide) (nI_inc _ 1) ?_
          refine R_goto (tgt := 15) dX2_open_65 (by decide) ?_
          -- X2_open: ('stop', 15)
          refine ih sq2 (i + 1) _ e h2 (by omega) hadv hP2 o2 (fun n r hn => hop (n + 1) r ?_)
          rw [opD, if_neg (by omega), getD_of hx, if_pos c42]
          exact hn
  have all : ∀ D d, d + D = 60 → ∀ sq2 i b e h2, OpInv ru place d e sq2 i b → PackAt E h2 P sq2 ru → Out h h2 P (P + 126) → (∀ n r, opD ru place n sq2 i b = some r → ∃ m, opD ru place m sq 0 0 = some r) → WP E k_X2_open 4 0 0 15 [some (.ref P), some (.int (nI place)), some (.ref W), some (.int (nI i)), some (.int (nI b)), some (.int (nI d))] [] h2 (fun v h' => ∃ n sq2 i, opD ru place n sq 0 0 = some (sq2, i) ∧ v = some (.int (nI i)) ∧ PackAt E h' P sq2 ru ∧ Out h h' P (P + 126)) := by
    intro D
    induction D with
    | zero => exact fun d hd sq2 i b e h2 hinv => core 0 d hd (fun z => absurd z (by decide)) (e - i) sq2 i b e h2 (by have := hinv.2.2.2.2.1; omega) hinv
    | succ D ih => exact fun d hd sq2 i b e h2 hinv => core (D + 1) d hd (fun _ => ih (d + 1) (by omega)) (e - i) sq2 i b e h2 (by have := hinv.2.2.2.2.1; omega) hinv
  refine R_iconst (v := nI 0) dX2_open_0 (by decide) ?_
  refine R_istore3 dX2_open_1 (by decide) ?_
  refine R_iconst (v := nI 0) dX2_open_2 (by decide) ?_
  refine R_istore4 dX2_open_3 (by decide) ?_
  refine R_iconst (v := nI 0) dX2_open_5 (by decide) ?_
  refine R_istore5 dX2_open_6 (by decide) ?_
  refine R_iload dX2_open_8 rfl ?_
  refine R_bipush (v := nI 60) dX2_open_10 (by decide) ?_
  refine R_icmp_gt_N (tgt := 113) dX2_open_12 (by decide) (by omega) (by omega) (fun c12 => ?_) (fun c12 => ?_)
  -- X2_open: ('branch', 12, 113, 15)
  · exact absurd c12 (by omega)
  · refine all 60 0 (by omega) sq 0 0 sq.length h ⟨hs, hl, rfl, Nat.zero_le _, Nat.zero_le _, Nat.le_refl _, by rw [List.take_length]; exact hp, fun j x _ _ _ => ?_⟩ hP Out.refl (fun n r h => ⟨n, h⟩)
    have := dpt_le ru x
    omega
end OPEN
