/-! PLACES OPENED: what it keeps -/
theorem letL_exp {ru : Ru} (hA : Acy ru) {x : Nat} (hx : isRul ru x) : letL ru [x] = letL ru (ru (x - 26)) := by
  rw [letL_one, wx_rule hA hx, List.map_map, letL]; rfl
theorem opD_ok {ru : Ru} {place : Nat} (hA : Acy ru) : ∀ (n : Nat) (sq : List Nat) (i b : Nat) (r : List Nat × Nat), (∀ x ∈ sq, isSg ru x) → b = lsum (wlen ru) (sq.take i) → i ≤ sq.length → b ≤ place → place ≤ lsum (wlen ru) sq → opD ru place n sq i b = some r → (∀ x ∈ r.1, isSg ru x) ∧ lsum (wlen ru) r.1 = lsum (wlen ru) sq ∧ lsum (wlen ru) (r.1.take r.2) = place ∧ letL ru r.1 = letL ru sq ∧ r.2 ≤ r.1.length ∧ (∀ k, k ≤ sq.length → lsum (wlen ru) (sq.take k) ≤ place → r.1.take k = sq.take k ∧ k ≤ r.2)
  | 0, sq, i, b, r, _, _, _, _, _, h => by cases h
  | n + 1, sq, i, b, r, hsg, hb, hi, hbp, hp, h => by
    rw [opD] at h
    have mono : ∀ k, k ≤ sq.length → i < k → b < lsum (wlen ru) (sq.take k) := by
      intro k hk hik
      obtain ⟨x, hx⟩ := getE (l := sq) (i := i) (by omega)
      have hw := wlen_pos hA (hsg x (List.mem_of_getElem? hx))
      have e : sq.take k = (sq.take (i + 1)) ++ (sq.take k).drop (i + 1) := by
        have := (List.take_append_drop (i + 1) (sq.take k)).symm
        rwa [List.take_take, Nat.min_eq_left (by omega)] at this
      rw [e, lsum_app, take_snoc hx, lsum_app, ← hb, lsum, lsum]
      omega
    split at h
    · rename_i c
      cases h
      refine ⟨hsg, rfl, by show lsum (wlen ru) (sq.take i) = place; omega, rfl, hi, fun k hk hkp => ⟨rfl, ?_⟩⟩
      show k ≤ i
      by_cases hik : i < k
      · have := mono k hk hik; omega
      · omega
    · rename_i c
      have hil : i < sq.length := by
        by_cases z : i < sq.length
        · exact z
        · rw [List.take_of_length_le (by omega)] at hb; omega
      obtain ⟨x, hx⟩ := getE hil
      have hgd := getD_of hx
      rw [hgd] at h
      have hxs := hsg x (List.mem_of_getElem? hx)
      split at h
      · rename_i c2
        have ih := opD_ok hA n sq (i + 1) (b + wlen ru x) r hsg (by rw [take_snoc hx, lsum_app, ← hb, lsum, lsum, Nat.add_zero]) hil c2 hp h
        exact ih
      · rename_i c2
        have hr : isRul ru x := by
          rcases hxs with z | z
          · rw [wlen_letter z] at c2; omega
          · exact z
        rw [rowOf_in ⟨hr.1, hr.2.1⟩] at h
        have hAl : (sq.take i).length = i := by rw [List.length_take]; omega
        have hwr := wlen_rule hA hr
        have hsp := split_at hx
        have hls : lsum (wlen ru) (sq.take i ++ ru (x - 26) ++ sq.drop (i + 1)) = lsum (wlen ru) sq := by
          have := congrArg (lsum (wlen ru)) hsp
          rw [lsum_app, lsum] at this
          rw [lsum_app, lsum_app, ← hwr]; omega
        have hlt : letL ru (sq.take i ++ ru (x - 26) ++ sq.drop (i + 1)) = letL ru sq := by
          have := congrArg (letL ru) hsp
          rw [this, letL_app, letL_app, ← letL_exp hA hr, ← letL_app, ← letL_app, List.append_assoc, List.singleton_append]
        have hsg2 : ∀ y ∈ sq.take i ++ ru (x - 26) ++ sq.drop (i + 1), isSg ru y := by
          intro y hy
          rcases List.mem_append.mp hy with z | z
          · rcases List.mem_append.mp z with z | z
            · exact hsg y (List.mem_of_mem_take z)
            · exact acy_sg hA (by have := hr.1; have := hr.2.1; omega) z
          · exact hsg y (List.mem_of_mem_drop z)
        have htk : ∀ k, k ≤ i → (sq.take i ++ ru (x - 26) ++ sq.drop (i + 1)).take k = sq.take k := by
          intro k hk
          rw [List.append_assoc, List.take_append_of_le_length (by omega), List.take_take, Nat.min_eq_left hk]
        have ih := opD_ok hA n (sq.take i ++ ru (x - 26) ++ sq.drop (i + 1)) i b r hsg2 (by rw [htk i (Nat.le_refl _)]; exact hb) (by rw [List.length_append, List.length_append, hAl]; omega) hbp (by rw [hls]; exact hp) h
        obtain ⟨i1, i2, i3, i4, i5, i6⟩ := ih
        refine ⟨i1, by rw [i2, hls], i3, by rw [i4, hlt], i5, fun k hk hkp => ?_⟩
        have hki : k ≤ i := by
          by_cases z : i < k
          · have e : sq.take k = (sq.take (i + 1)) ++ (sq.take k).drop (i + 1) := by
              have := (List.take_append_drop (i + 1) (sq.take k)).symm
              rwa [List.take_take, Nat.min_eq_left (by omega)] at this
            rw [e, lsum_app, take_snoc hx, lsum_app, ← hb, lsum, lsum] at hkp
            omega
          · omega
        have := i6 k (by rw [List.length_append, List.length_append, hAl]; omega) (by rw [htk k hki]; exact hkp)
        rw [htk k hki] at this
        exact this
/-- one place opened, from the begin of the sequence -/
theorem opD_one {q : Pk} (h : PkOk q) {place n : Nat} {r : List Nat × Nat} (hp : place ≤ lsum (wlen q.2) q.1) (ho : opD q.2 place n q.1 0 0 = some r) : PkOk (r.1, q.2) ∧ lsum (wlen q.2) r.1 = lsum (wlen q.2) q.1 ∧ lsum (wlen q.2) (r.1.take r.2) = place ∧ letL q.2 r.1 = letL q.2 q.1 ∧ r.2 ≤ r.1.length ∧ (∀ k, k ≤ q.1.length → lsum (wlen q.2) (q.1.take k) ≤ place → r.1.take k = q.1.take k ∧ k ≤ r.2) := by
  obtain ⟨i1, i2, i3, i4, i5, i6⟩ := opD_ok h.1.1 n q.1 0 0 r h.2.1 rfl (Nat.zero_le _) (Nat.zero_le _) hp ho
  exact ⟨⟨h.1, i1, by show lsum (wlen q.2) r.1 ≤ 240; rw [i2]; exact h.2.2.1, h.2.2.2⟩, i2, i3, i4, i5, i6⟩
/-- two places opened: the first one's index stays -/
def op2 (q : Pk) (p1 p2 : Nat) (sq : List Nat) (i j : Nat) : Prop := ∃ n m sq1, opD q.2 p1 n q.1 0 0 = some (sq1, i) ∧ opD q.2 p2 m sq1 0 0 = some (sq, j)
theorem op2.uniq {q : Pk} {p1 p2 : Nat} {sq sq' : List Nat} {i j i' j' : Nat} (h : op2 q p1 p2 sq i j) (h' : op2 q p1 p2 sq' i' j') : sq = sq' ∧ i = i' ∧ j = j' := by
  obtain ⟨n, m, s1, a, b⟩ := h
  obtain ⟨n', m', s1', a', b'⟩ := h'
  have e := opD_uniq a a'
  cases e
  have e := opD_uniq b b'
  cases e
  exact ⟨rfl, rfl, rfl⟩
theorem op2.ok {q : Pk} (h : PkOk q) {p1 p2 : Nat} {sq : List Nat} {i j : Nat} (hp1 : p1 ≤ p2) (hp2 : p2 ≤ lsum (wlen q.2) q.1) (ho : op2 q p1 p2 sq i j) : PkOk (sq, q.2) ∧ lsum (wlen q.2) sq = lsum (wlen q.2) q.1 ∧ lsum (wlen q.2) (sq.take i) = p1 ∧ lsum (wlen q.2) (sq.take j) = p2 ∧ letL q.2 sq = letL q.2 q.1 ∧ i ≤ j ∧ j ≤ sq.length := by
  obtain ⟨n, m, s1, a, b⟩ := ho
  obtain ⟨k1, k2, k3, k4, k5, -⟩ := opD_one h (by omega) a
  obtain ⟨g1, g2, g3, g4, g5, g6⟩ := opD_one k1 (place := p2) (by show p2 ≤ lsum (wlen q.2) s1; rw [k2]; exact hp2) b
  have z := g6 i k5 (by show lsum (wlen q.2) (s1.take i) ≤ p2; rw [k3]; exact hp1)
  refine ⟨g1, by rw [g2, k2], ?_, g3, by rw [g4, k4], z.2, g5⟩
  show lsum (wlen q.2) (sq.take i) = p1
  rw [z.1]; exact k3
theorem lsum_take_le {f : Nat → Nat} {l : List Nat} {i j : Nat} (h : i ≤ j) : lsum f (l.take i) ≤ lsum f (l.take j) := by
  have e : l.take j = (l.take i) ++ (l.take j).drop i := by
    have := (List.take_append_drop i (l.take j)).symm
    rwa [List.take_take, Nat.min_eq_left h] at this
  rw [e, lsum_app]; omega
/-- a word of one letter is a letter -/
theorem wlen_one {q : Pk} (h : PkOk q) {x : Nat} (hx : isSg q.2 x) (h1 : wlen q.2 x = 1) : x < 26 := by
  rcases hx with z | z
  · exact z
  · rw [wlen_rule h.1.1 z] at h1
    have g1 := z.1
    have g2 := z.2.1
    rcases h.2.2.2 (x - 26) (by omega) with w | w
    · exact absurd w z.2.2
    · have := lsum_len (f := wlen q.2) (l := q.2 (x - 26)) (fun y hy => wlen_pos h.1.1 (acy_sg h.1.1 (i := x - 26) (by omega) hy))
      omega
theorem put_ok {q : Pk} (h : PkOk q) {p : Nat} {sq : List Nat} {i j : Nat} (hp : p < lsum (wlen q.2) q.1) (ho : op2 q p (p + 1) sq i j) {c : Nat} (hc : c < 26) : i < sq.length ∧ sq[i]? = (letL q.2 q.1)[p]? ∧ (∃ x, sq[i]? = some x ∧ x < 26) ∧ PkOk (sq.set i c, q.2) := by
  obtain ⟨k1, k2, k3, k4, k5, k6, k7⟩ := op2.ok h (by omega) hp ho
  have hij : i < j := by
    by_cases z : i = j
    · rw [z] at k3; omega
    · omega
  have hil : i < sq.length := by omega
  obtain ⟨x, hx⟩ := getE hil
  have hxs := k1.2.1 x (List.mem_of_getElem? hx)
  have hx1 : wlen q.2 x = 1 := by
    have hp1 := wlen_pos h.1.1 hxs
    have := lsum_take_le (f := wlen q.2) (l := sq) (i := i + 1) (j := j) hij
    rw [take_snoc hx, lsum_app, lsum, lsum, k3, k4] at this
    omega
  have hx26 := wlen_one k1 hxs hx1
  have hsp := split_at hx
  refine ⟨hil, ?_, ⟨x, hx, hx26⟩, k1.1, fun y hy => ?_, ?_, k1.2.2.2⟩
  · rw [← k5, hx]
    have e := congrArg (letL q.2) hsp
    rw [letL_app] at e
    have e2 : letL q.2 (x :: sq.drop (i + 1)) = [x] ++ letL q.2 (sq.drop (i + 1)) := by
      rw [show x :: sq.drop (i + 1) = [x] ++ sq.drop (i + 1) from rfl, letL_app, letL_one, wx_letter hx26]; rfl
    have hlen : (letL q.2 (sq.take i)).length = p := by rw [letL_len]; exact k3
    rw [e, e2, List.getElem?_append_right (by omega), hlen, Nat.sub_self]
    rfl
  · show isSg q.2 y
    rcases List.mem_or_eq_of_mem_set hy with z | z
    · exact k1.2.1 y z
    · rw [z]; exact Or.inl hc
  · show lsum (wlen q.2) (sq.set i c) ≤ 240
    have : sq.set i c = sq.take i ++ c :: sq.drop (i + 1) := List.set_eq_take_append_cons_drop.trans (if_pos hil)
    rw [this, lsum_app, lsum, wlen_letter hc]
    have e := congrArg (lsum (wlen q.2)) hsp
    rw [lsum_app, lsum, hx1] at e
    have := k1.2.2.1
    show _ ≤ 240
    have e3 : lsum (wlen q.2) sq ≤ 240 := this
    omega
theorem cut_ok {q : Pk} (h : PkOk q) {p n : Nat} {sq : List Nat} {i j : Nat} (hp : p + n ≤ lsum (wlen q.2) q.1) (ho : op2 q p (p + n) sq i j) : i ≤ j ∧ j ≤ sq.length ∧ PkOk (sq.take i ++ sq.drop j, q.2) ∧ lsum (wlen q.2) (sq.take i ++ sq.drop j) = lsum (wlen q.2) q.1 - n := by
  obtain ⟨k1, k2, k3, k4, k5, k6, k7⟩ := op2.ok h (by omega) hp ho
  have e := congrArg (lsum (wlen q.2)) (List.take_append_drop j sq)
  rw [lsum_app, k4, k2] at e
  have hl : lsum (wlen q.2) (sq.take i ++ sq.drop j) = lsum (wlen q.2) q.1 - n := by rw [lsum_app, k3]; omega
  refine ⟨k6, k7, ⟨k1.1, fun y hy => ?_, ?_, k1.2.2.2⟩, hl⟩
  · show isSg q.2 y
    rcases List.mem_append.mp hy with z | z
    · exact k1.2.1 y (List.mem_of_mem_take z)
    · exact k1.2.1 y (List.mem_of_mem_drop z)
  · show lsum (wlen q.2) (sq.take i ++ sq.drop j) ≤ 240
    rw [hl]; have := h.2.2.1; omega
theorem ins_ok {q : Pk} (h : PkOk q) {p n : Nat} {sq : List Nat} {i : Nat} (hp : p ≤ lsum (wlen q.2) q.1) (hr : lsum (wlen q.2) q.1 < 240) (ho : opD q.2 p n q.1 0 0 = some (sq, i)) {c : Nat} (hc : c < 26) : i ≤ sq.length ∧ sq.length < 240 ∧ PkOk (sq.take i ++ c :: sq.drop i, q.2) ∧ lsum (wlen q.2) (sq.take i ++ c :: sq.drop i) = lsum (wlen q.2) q.1 + 1 := by
  obtain ⟨k1, k2, k3, k4, k5, -⟩ := opD_one h hp ho
  have e := congrArg (lsum (wlen q.2)) (List.take_append_drop i sq)
  have k2 : lsum (wlen q.2) sq = lsum (wlen q.2) q.1 := k2
  rw [lsum_app, k2] at e
  have hl : lsum (wlen q.2) (sq.take i ++ c :: sq.drop i) = lsum (wlen q.2) q.1 + 1 := by rw [lsum_app, lsum, wlen_letter hc]; omega
  have hlen := lsum_len (f := wlen q.2) (l := sq) (fun x hx => wlen_pos h.1.1 (k1.2.1 x hx))
  refine ⟨k5, by omega, ⟨k1.1, fun y hy => ?_, ?_, k1.2.2.2⟩, hl⟩
  · show isSg q.2 y
    rcases List.mem_append.mp hy with z | z
    · exact k1.2.1 y (List.mem_of_mem_take z)
    · rcases List.mem_cons.mp z with w | w
      · rw [w]; exact Or.inl hc
      · exact k1.2.1 y (List.mem_of_mem_drop w)
  · show lsum (wlen q.2) (sq.take i ++ c :: sq.drop i) ≤ 240
    rw [hl]; omega
/-! a form read is a packing -/
def LdInv (lt : Nat → Nat) (ru : Ru) : Prop := WOk ru ∧ (∀ i, i < 60 → ru i = [] ∨ 2 ≤ (ru i).length) ∧ ∀ s, s < 86 → (lt s = 0 → ¬ isSg ru s) ∧ (lt s ≠ 0 → isSg ru s ∧ wlen ru s = lt s)
theorem rdRow_ok {t : List Nat} {n : Nat} {lt : Nat → Nat} {ru : Ru} (hi : LdInv lt ru) : ∀ {m pos sum : Nat} {acc : List Nat} {a : List Nat × Nat × Nat}, (∀ x ∈ acc, isSg ru x) → sum = lsum (wlen ru) acc → rdRow t n lt m pos sum acc = .ok a → (∀ x ∈ a.1, isSg ru x) ∧ a.2.2 = lsum (wlen ru) a.1
  | 0, pos, sum, acc, a, ha, hs, h => by
    rw [rdRow] at h; cases h; exact ⟨ha, hs⟩
  | m + 1, pos, sum, acc, a, ha, hs, h => by
    rw [rdRow] at h
    split at h
    · cases h
    · split at h
      · cases h
      · split at h
        · cases h
        · rename_i c1 c2 c3
          have h86 : t.getD pos 0 < 86 := by
            by_cases z : t.getD pos 0 < 86
            · exact z
            · rw [ltv, if_neg z] at c2; exact absurd rfl c2
          rw [ltv, if_pos h86] at c2 h
          obtain ⟨g1, g2⟩ := (hi.2.2 _ h86).2 c2
          refine rdRow_ok hi (fun x hx => ?_) ?_ h
          · rcases List.mem_append.mp hx with z | z
            · exact ha x z
            · rw [List.mem_singleton.mp z]; exact g1
          · rw [lsum_app, lsum, lsum, g2, hs]; omega
theorem rdRule_ok {t : List Nat} {n pos : Nat} {lt : Nat → Nat} {ru : Ru} {a : Nat × (Nat → Nat) × Ru} (hi : LdInv lt ru) (h : rdRule t n pos lt ru = .ok a) : LdInv a.2.1 a.2.2 := by
  rw [rdRule] at h
  split at h
  · cases h
  split at h
  · cases h
  split at h
  · cases h
  split at h
  · cases h
  split at h
  · cases h
  rename_i c1 c2 c3 c4 c5
  rw [rdMk] at h
  split at h
  · cases h
  · rename_i b hb
    cases h
    obtain ⟨s1, s2, s3⟩ := rdRow_sum (by omega) hb
    obtain ⟨r1, r2⟩ := rdRow_ok (acc := []) hi (fun x hx => absurd hx List.not_mem_nil) rfl hb
    have hx1 : 26 ≤ t.getD pos 0 ∧ t.getD pos 0 < 86 := by omega
    generalize t.getD pos 0 = x at *
    obtain ⟨i, rfl⟩ : ∃ i, x = 26 + i := ⟨x - 26, by omega⟩
    have hi60 : i < 60 := by omega
    have h0 : ru i = [] := by
      cases hr : ru i with
      | nil => rfl
      | cons y l => exact absurd (Or.inr ⟨by omega, by omega, by rw [show 26 + i - 26 = i by omega, hr]; simp⟩) ((hi.2.2 (26 + i) (by omega)).1 (by omega))
    have hlen : 2 ≤ b.1.length := by rw [List.length_nil] at s3; omega
    have hne : b.1 ≠ [] := by intro e; rw [e] at hlen; simp at hlen
    show LdInv (fun y => if y = 26 + i then b.2.2 else lt y) (ruSet ru (26 + i - 26) b.1)
    rw [show 26 + i - 26 = i by omega]
    refine ⟨wok_new hi.1 hi60 h0 r1 hne (by rw [← r2]; exact s1), fun j hj => ?_, fun s hs => ?_⟩
    · by_cases e : j = i
      · rw [e, ruSet_at]; exact Or.inr hlen
      · rw [ruSet_ne e]; exact hi.2.1 j hj
    · have hp : 1 ≤ b.2.2 := by
        rw [r2]
        have := lsum_len (f := wlen ru) (l := b.1) (fun y hy => wlen_pos hi.1.1 (r1 y hy))
        omega
      by_cases e : s = 26 + i
      · show ((if s = 26 + i then b.2.2 else lt s) = 0 → _) ∧ ((if s = 26 + i then b.2.2 else lt s) ≠ 0 → isSg (ruSet ru i b.1) s ∧ wlen (ruSet ru i b.1) s = (if s = 26 + i then b.2.2 else lt s))
        rw [if_pos e]
        refine ⟨fun z => by omega, fun _ => ?_⟩
        rw [e, wlen_newAt hi.1.1 hi60 h0 r1 hne]
        exact ⟨Or.inr (new_rul hi60 hne), r2.symm⟩
      · show ((if s = 26 + i then b.2.2 else lt s) = 0 → _) ∧ ((if s = 26 + i then b.2.2 else lt s) ≠ 0 → isSg (ruSet ru i b.1) s ∧ wlen (ruSet ru i b.1) s = (if s = 26 + i then b.2.2 else lt s))
        rw [if_neg e]
        obtain ⟨g1, g2⟩ := hi.2.2 s hs
        refine ⟨fun z w => ?_, fun z => ?_⟩
        · rcases sg_back w with v | v
          · exact g1 z v
          · exact e v
        · obtain ⟨v1, v2⟩ := g2 z
          exact ⟨sg_new h0 v1, by rw [wlen_new hi.1.1 hi60 h0 r1 v1, v2]⟩
theorem rdRules_ok {t : List Nat} {n : Nat} : ∀ {c pos : Nat} {lt : Nat → Nat} {ru : Ru} {a : Nat × (Nat → Nat) × Ru}, LdInv lt ru → rdRules t n c pos lt ru = .ok a → LdInv a.2.1 a.2.2
  | 0, pos, lt, ru, a, hi, h => by
    rw [rdRules] at h; cases h; exact hi
  | c + 1, pos, lt, ru, a, hi, h => by
    rw [rdRules] at h
    split at h
    · cases h
    · rename_i b hb
      exact rdRules_ok (rdRule_ok hi hb) h
theorem ldInv0 : LdInv lt0 (fun _ => []) := by
  refine ⟨⟨acy_nil, fun s hs => absurd rfl hs.2.2⟩, fun i _ => Or.inl rfl, fun s hs => ?_⟩
  rw [lt0]
  by_cases e : s < 26
  · rw [if_pos e]
    exact ⟨fun z => absurd z (by decide), fun _ => ⟨Or.inl e, wlen_letter e⟩⟩
  · rw [if_neg e]
    exact ⟨fun _ z => z.elim e (fun w => w.2.2 rfl), fun z => absurd rfl z⟩
theorem rdForm_ok {t : List Nat} {n : Nat} {q : Pk} (h : rdForm t n = .ok q) : PkOk q := by
  rw [rdForm] at h
  split at h
  · cases h
  split at h
  · cases h
  split at h
  · cases h
  rename_i a ha
  split at h
  · cases h
  rename_i b hb
  split at h
  · cases h
  cases h
  have hi := rdRules_ok ldInv0 ha
  rw [rdSeq] at hb
  split at hb
  · cases hb
  split at hb
  · cases hb
  obtain ⟨s1, s2, s3⟩ := rdRow_sum (by omega) hb
  obtain ⟨r1, r2⟩ := rdRow_ok (acc := []) hi (fun x hx => absurd hx List.not_mem_nil) rfl hb
  exact ⟨hi.1, r1, by show lsum (wlen a.2.2) b.1 ≤ 240; rw [← r2]; exact s1, hi.2.1⟩
