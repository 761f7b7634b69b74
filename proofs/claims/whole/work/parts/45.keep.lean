/-! WHAT A PACKING KEEPS: words behind a change of the rules -/
theorem wx_same {ru ru2 : Ru} (hA : Acy ru) (hA2 : Acy ru2) {S : Nat → Prop} (hS : ∀ s, S s → s < 26 ∨ isRul ru s ∧ ru2 (s - 26) = ru (s - 26) ∧ ∀ x ∈ ru (s - 26), S x) : ∀ s, S s → wx ru2 s = wx ru s := by
  have hA' := hA
  obtain ⟨rk, hrk⟩ := hA
  have key : ∀ n s, rk s < n → S s → wx ru2 s = wx ru s := by
    intro n
    induction n with
    | zero => intro s h; exact absurd h (by omega)
    | succ n ih =>
      intro s hn hs
      rcases hS s hs with h | ⟨h, he, hall⟩
      · rw [wx_letter h, wx_letter h]
      · have h2 : isRul ru2 s := ⟨h.1, h.2.1, by rw [he]; exact h.2.2⟩
        rw [wx_rule hA' h, wx_rule hA2 h2, he]
        congr 1
        refine flatMap_congr' (fun x hx => ?_)
        have h26 := h.1
        have h86 := h.2.1
        rcases hrk (s - 26) (by omega) x hx with z | ⟨z, zl⟩
        · rw [wx_letter z, wx_letter z]
        · rw [show 26 + (s - 26) = s by omega] at zl
          exact ih x (by omega) (hall x hx)
  exact fun s hs => key (rk s + 1) s (by omega) hs
theorem ruSet_at {ru : Ru} {i : Nat} {l : List Nat} : ruSet ru i l i = l := by rw [ruSet, if_pos rfl]
theorem ruSet_ne {ru : Ru} {i j : Nat} {l : List Nat} (h : j ≠ i) : ruSet ru i l j = ru j := by rw [ruSet, if_neg h]
theorem ruSet_same {ru : Ru} {i : Nat} {l : List Nat} (h : ru i = l) : ruSet ru i l = ru := by
  funext j
  by_cases e : j = i
  · subst e; rw [ruSet_at, h]
  · rw [ruSet_ne e]
section NEWRULE
variable {ru : Ru} {i : Nat} {l : List Nat}
theorem sg_ne {x : Nat} (h0 : ru i = []) (hx : isSg ru x) (hi : i < 60) : x ≠ 26 + i := by
  rintro rfl
  rcases hx with h | ⟨-, -, h3⟩
  · omega
  · rw [show 26 + i - 26 = i by omega] at h3
    exact h3 h0
theorem rul_new {x : Nat} (h0 : ru i = []) (hx : isRul ru x) : isRul (ruSet ru i l) x := by
  refine ⟨hx.1, hx.2.1, ?_⟩
  rw [ruSet_ne (fun e => hx.2.2 (by rw [e, h0]))]
  exact hx.2.2
theorem sg_new {x : Nat} (h0 : ru i = []) (hx : isSg ru x) : isSg (ruSet ru i l) x := by
  rcases hx with h | h
  · exact Or.inl h
  · exact Or.inr (rul_new h0 h)
theorem new_rul (hi : i < 60) (hl : l ≠ []) : isRul (ruSet ru i l) (26 + i) := by
  refine ⟨by omega, by omega, ?_⟩
  rw [show 26 + i - 26 = i by omega, ruSet_at]
  exact hl
theorem acy_new (hA : Acy ru) (hi : i < 60) (h0 : ru i = []) (hl : ∀ x ∈ l, isSg ru x) : Acy (ruSet ru i l) := by
  obtain ⟨rk, hrk⟩ := hA
  refine ⟨fun x => if x = 26 + i then lmax rk l + 1 else rk x, fun j hj x hx => ?_⟩
  by_cases e : j = i
  · subst e
    rw [ruSet_at] at hx
    have hs := hl x hx
    rcases hs with h | h
    · exact Or.inl h
    · refine Or.inr ⟨rul_new h0 h, ?_⟩
      show (if x = 26 + j then lmax rk l + 1 else rk x) < (if 26 + j = 26 + j then lmax rk l + 1 else rk (26 + j))
      rw [if_neg (sg_ne h0 (Or.inr h) hi), if_pos rfl]
      have := lmax_mem (f := rk) hx
      omega
  · rw [ruSet_ne e] at hx
    rcases hrk j hj x hx with h | ⟨h, hlt⟩
    · exact Or.inl h
    · refine Or.inr ⟨rul_new h0 h, ?_⟩
      show (if x = 26 + i then lmax rk l + 1 else rk x) < (if 26 + j = 26 + i then lmax rk l + 1 else rk (26 + j))
      rw [if_neg (sg_ne h0 (Or.inr h) hi), if_neg (by omega)]
      exact hlt
theorem wx_new (hA : Acy ru) (hi : i < 60) (h0 : ru i = []) (hl : ∀ x ∈ l, isSg ru x) {s : Nat} (hs : isSg ru s) : wx (ruSet ru i l) s = wx ru s := by
  refine wx_same hA (acy_new hA hi h0 hl) (S := isSg ru) (fun s hs => ?_) s hs
  rcases hs with h | h
  · exact Or.inl h
  · exact Or.inr ⟨h, ruSet_ne (fun e => h.2.2 (by rw [e, h0])), fun x hx => acy_sg hA (by have := h.1; have := h.2.1; omega) hx⟩
theorem wlen_new (hA : Acy ru) (hi : i < 60) (h0 : ru i = []) (hl : ∀ x ∈ l, isSg ru x) {s : Nat} (hs : isSg ru s) : wlen (ruSet ru i l) s = wlen ru s := by
  rw [wlen, wlen, wx_new hA hi h0 hl hs]
theorem lsum_ext {f g : Nat → Nat} : ∀ {l : List Nat}, (∀ x ∈ l, f x = g x) → lsum f l = lsum g l
  | [], _ => rfl
  | x :: l, h => by
    rw [lsum, lsum, h x List.mem_cons_self, lsum_ext (fun y hy => h y (List.mem_cons_of_mem _ hy))]
theorem wlen_newAt (hA : Acy ru) (hi : i < 60) (h0 : ru i = []) (hl : ∀ x ∈ l, isSg ru x) (hne : l ≠ []) : wlen (ruSet ru i l) (26 + i) = lsum (wlen ru) l := by
  rw [wlen_rule (acy_new hA hi h0 hl) (new_rul hi hne), show 26 + i - 26 = i by omega, ruSet_at]
  exact lsum_ext (fun x hx => wlen_new hA hi h0 hl (hl x hx))
/-- a sign of the new rules is one of the old or the new one -/
theorem sg_back {x : Nat} (hx : isSg (ruSet ru i l) x) : isSg ru x ∨ x = 26 + i := by
  rcases hx with h | ⟨h1, h2, h3⟩
  · exact Or.inl (Or.inl h)
  · by_cases e : x - 26 = i
    · exact Or.inr (by omega)
    · rw [ruSet_ne e] at h3
      exact Or.inl (Or.inr ⟨h1, h2, h3⟩)
theorem wok_new (hW : WOk ru) (hi : i < 60) (h0 : ru i = []) (hl : ∀ x ∈ l, isSg ru x) (hne : l ≠ []) (hs : lsum (wlen ru) l ≤ 240) : WOk (ruSet ru i l) := by
  refine ⟨acy_new hW.1 hi h0 hl, fun s hr => ?_⟩
  rcases sg_back (Or.inr hr) with h | h
  · rw [wlen_new hW.1 hi h0 hl h]
    exact wlen_le hW h
  · rw [h, wlen_newAt hW.1 hi h0 hl hne]
    exact hs
end NEWRULE
/-! a pair joined -/
theorem lsum_join {f : Nat → Nat} {a b s : Nat} (h : f s = f a + f b) : ∀ l, lsum f (joinL a b s l) = lsum f l
  | [] => by simp [joinL]
  | [x] => by simp [joinL]
  | x :: y :: t => by
    rw [joinL]
    split
    · rename_i c
      rw [lsum, lsum_join h t, lsum, lsum, c.1, c.2, h]; omega
    · rw [lsum, lsum_join h (y :: t)]; rfl
theorem lsum_two {f : Nat → Nat} {l : List Nat} {i a b : Nat} (ha : l[i]? = some a) (hb : l[i + 1]? = some b) : f a + f b ≤ lsum f l := by
  rw [split_at ha, lsum_app, lsum]
  have hd : (l.drop (i + 1))[0]? = some b := by rw [List.getElem?_drop]; exact hb
  have := lsum_mem (f := f) (List.mem_of_getElem? hd)
  omega
theorem PkOk.join {q : Pk} {a b i : Nat} (h : PkOk q) (hi : signS q.2 a b = some i) (hc : 0 < cntG q.1 a b) : PkOk (joinL a b (26 + i) q.1, ruSet q.2 i [a, b]) := by
  obtain ⟨hW, hsg, hl, hr2⟩ := h
  obtain ⟨j, ja, jb⟩ := cntG_std hc
  have ha := hsg a (List.mem_of_getElem? ja)
  have hb := hsg b (List.mem_of_getElem? jb)
  have hab := lsum_two (f := wlen q.2) ja jb
  have hi60 := signS_lt hi
  have hmem : ∀ x ∈ [a, b], isSg q.2 x := by
    intro x hx
    simp only [List.mem_cons, List.not_mem_nil, or_false] at hx
    rcases hx with rfl | rfl
    · exact ha
    · exact hb
  have hrow : ∀ j, j < 60 → ruSet q.2 i [a, b] j = [] ∨ 2 ≤ (ruSet q.2 i [a, b] j).length := by
    intro j hj
    by_cases e : j = i
    · subst e; rw [ruSet_at]; exact Or.inr (Nat.le_refl _)
    · rw [ruSet_ne e]; exact hr2 j hj
  rcases signS_or hi with h0 | h0
  · have e := ruSet_same h0
    have hR : isRul q.2 (26 + i) := ⟨by omega, by omega, by rw [show 26 + i - 26 = i by omega, h0]; simp⟩
    have hw : wlen q.2 (26 + i) = wlen q.2 a + wlen q.2 b := by
      rw [wlen_rule hW.1 hR, show 26 + i - 26 = i by omega, h0]; simp [lsum]
    refine ⟨by rw [e]; exact hW, fun x hx => ?_, ?_, hrow⟩
    · show isSg (ruSet q.2 i [a, b]) x
      rw [e]
      rcases joinL_mem hx with z | z
      · rw [z]; exact Or.inr hR
      · exact hsg x z
    · show lsum (wlen (ruSet q.2 i [a, b])) (joinL a b (26 + i) q.1) ≤ 240
      rw [e, lsum_join hw]; exact hl
  · have hn : [a, b] ≠ [] := by simp
    have hs2 : lsum (wlen q.2) [a, b] = wlen q.2 a + wlen q.2 b := by simp [lsum]
    have hw : wlen (ruSet q.2 i [a, b]) (26 + i) = wlen (ruSet q.2 i [a, b]) a + wlen (ruSet q.2 i [a, b]) b := by
      rw [wlen_newAt hW.1 hi60 h0 hmem hn, wlen_new hW.1 hi60 h0 hmem ha, wlen_new hW.1 hi60 h0 hmem hb, hs2]
    refine ⟨wok_new hW hi60 h0 hmem hn (by omega), fun x hx => ?_, ?_, hrow⟩
    · show isSg (ruSet q.2 i [a, b]) x
      rcases joinL_mem hx with z | z
      · rw [z]; exact Or.inr (new_rul hi60 hn)
      · exact sg_new h0 (hsg x z)
    · show lsum (wlen (ruSet q.2 i [a, b])) (joinL a b (26 + i) q.1) ≤ 240
      rw [lsum_join hw, lsum_ext (fun x hx => wlen_new hW.1 hi60 h0 hmem (hsg x hx))]
      exact hl
/-! a rule given up -/
theorem mem_sub {s x : Nat} {bl : List Nat} : ∀ {l : List Nat}, x ∈ sub s bl l → (s ∈ l ∧ x ∈ bl) ∨ (x ∈ l ∧ x ≠ s)
  | [], h => by simp [sub_nil] at h
  | y :: l, h => by
    rw [sub_cons] at h
    rcases List.mem_append.mp h with z | z
    · by_cases e : y = s
      · rw [if_pos e] at z
        exact Or.inl ⟨by rw [e]; exact List.mem_cons_self, z⟩
      · rw [if_neg e] at z
        have hx : x = y := by simpa using z
        exact Or.inr ⟨by rw [hx]; exact List.mem_cons_self, by rw [hx]; exact e⟩
    · rcases mem_sub z with w | w
      · exact Or.inl ⟨List.mem_cons_of_mem _ w.1, w.2⟩
      · exact Or.inr ⟨List.mem_cons_of_mem _ w.1, w.2⟩
theorem acy_self {ru : Ru} (hA : Acy ru) {s : Nat} (hs : isRul ru s) : s ∉ ru (s - 26) := by
  obtain ⟨rk, hrk⟩ := hA
  intro hin
  have h1 := hs.1
  have h2 := hs.2.1
  rcases hrk (s - 26) (by omega) s hin with z | ⟨-, z⟩
  · omega
  · rw [show 26 + (s - 26) = s by omega] at z; omega
theorem lsum_sub {f g : Nat → Nat} {s : Nat} {bl : List Nat} : ∀ l : List Nat, (s ∈ l → g s = lsum f bl) → (∀ y ∈ l, y ≠ s → f y = g y) → lsum f (sub s bl l) = lsum g l
  | [], _, _ => rfl
  | x :: l, hs, hy => by
    rw [sub_cons, lsum_app, lsum, lsum_sub l (fun z => hs (List.mem_cons_of_mem _ z)) (fun y z => hy y (List.mem_cons_of_mem _ z))]
    by_cases e : x = s
    · rw [if_pos e, ← hs (by rw [e]; exact List.mem_cons_self), e]
    · rw [if_neg e, ← hy x List.mem_cons_self e]; simp [lsum]
section DROP
variable {ru : Ru} {s : Nat}
theorem dropRu_self : dropRu ru s (s - 26) = [] := by rw [dropRu, if_pos rfl]
theorem dropRu_ne {r : Nat} (h : r ≠ s - 26) : dropRu ru s r = sub s (rowOf ru s) (ru r) := by rw [dropRu, if_neg h]
theorem rul_drop (hs : isRul ru s) {x : Nat} (hx : isRul ru x) (hne : x ≠ s) : isRul (dropRu ru s) x := by
  have h1 := hs.1
  have h2 := hx.1
  refine ⟨hx.1, hx.2.1, fun e => ?_⟩
  rw [dropRu_ne (by omega), rowOf_in ⟨hs.1, hs.2.1⟩] at e
  have h3 := sub_len (s := s) (bl := ru (s - 26)) (by cases hb : ru (s - 26) with
    | nil => exact absurd hb hs.2.2
    | cons y t => simp) (ru (x - 26))
  rw [e] at h3
  exact hx.2.2 (List.eq_nil_of_length_eq_zero (by simpa using h3))
theorem sg_drop (hs : isRul ru s) {x : Nat} (hx : isSg ru x) (hne : x ≠ s) : isSg (dropRu ru s) x := by
  rcases hx with h | h
  · exact Or.inl h
  · exact Or.inr (rul_drop hs h hne)
theorem sg_dropBack (hs : isRul ru s) {x : Nat} (hx : isRul (dropRu ru s) x) : isRul ru x ∧ x ≠ s := by
  obtain ⟨h1, h2, h3⟩ := hx
  have hne : x ≠ s := by rintro rfl; exact h3 dropRu_self
  refine ⟨⟨h1, h2, fun e => h3 ?_⟩, hne⟩
  have := hs.1
  rw [dropRu_ne (by omega), e, sub_nil]
theorem acy_drop (hA : Acy ru) (hs : isRul ru s) : Acy (dropRu ru s) := by
  have hself := acy_self hA hs
  obtain ⟨rk, hrk⟩ := hA
  have h1 := hs.1
  have h2 := hs.2.1
  refine ⟨rk, fun j hj x hx => ?_⟩
  by_cases e : j = s - 26
  · rw [e, dropRu_self] at hx; simp at hx
  · rw [dropRu_ne e, rowOf_in ⟨h1, h2⟩] at hx
    rcases mem_sub hx with ⟨z1, z2⟩ | ⟨z1, z2⟩
    · rcases hrk (s - 26) (by omega) x z2 with w | ⟨w, wl⟩
      · exact Or.inl w
      · rcases hrk j hj s z1 with v | ⟨-, vl⟩
        · omega
        · rw [show 26 + (s - 26) = s by omega] at wl
          exact Or.inr ⟨rul_drop hs w (by rintro rfl; exact hself z2), by omega⟩
    · rcases hrk j hj x z1 with w | ⟨w, wl⟩
      · exact Or.inl w
      · exact Or.inr ⟨rul_drop hs w z2, wl⟩
theorem wlen_drop (hA : Acy ru) (hs : isRul ru s) {x : Nat} (hx : isSg ru x) (hne : x ≠ s) : wlen (dropRu ru s) x = wlen ru x := by
  have hself := acy_self hA hs
  have hA2 := acy_drop hA hs
  have hA' := hA
  obtain ⟨rk, hrk⟩ := hA
  have h1 := hs.1
  have h2 := hs.2.1
  have key : ∀ n x, rk x < n → isSg ru x → x ≠ s → wlen (dropRu ru s) x = wlen ru x := by
    intro n
    induction n with
    | zero => intro x h; exact absurd h (by omega)
    | succ n ih =>
      intro x hn hx hne
      rcases hx with h | h
      · rw [wlen_letter h, wlen_letter h]
      · have g1 := h.1
        have g2 := h.2.1
        have row : ∀ z, isRul ru z → rk z ≤ n → ∀ y ∈ ru (z - 26), y ≠ s → wlen (dropRu ru s) y = wlen ru y := by
          intro z hz hzn y hy hys
          have z1 := hz.1
          have z2 := hz.2.1
          rcases hrk (z - 26) (by omega) y hy with w | ⟨w, wl⟩
          · rw [wlen_letter w, wlen_letter w]
          · rw [show 26 + (z - 26) = z by omega] at wl
            exact ih y (by omega) (Or.inr w) hys
        rw [wlen_rule hA2 (rul_drop hs h hne), dropRu_ne (by omega), rowOf_in ⟨h1, h2⟩, wlen_rule hA' h]
        refine lsum_sub _ (fun hin => ?_) (row x h (by omega))
        rw [wlen_rule hA' hs]
        refine lsum_ext (fun y hy => (row s hs ?_ y hy (by rintro rfl; exact hself hy)).symm)
        rcases hrk (x - 26) (by omega) s hin with w | ⟨-, wl⟩
        · omega
        · rw [show 26 + (x - 26) = x by omega] at wl; omega
  exact key (rk x + 1) x (by omega) hx hne
end DROP
theorem lsum_drop {q : Pk} {s : Nat} (h : PkOk q) (hs : isRul q.2 s) {l : List Nat} (hl : ∀ x ∈ l, isSg q.2 x) : lsum (wlen (dropRu q.2 s)) (sub s (rowOf q.2 s) l) = lsum (wlen q.2) l := by
  have hself := acy_self h.1.1 hs
  have h1 := hs.1
  have h2 := hs.2.1
  refine lsum_sub _ (fun hin => ?_) (fun y hy hne => wlen_drop h.1.1 hs (hl y hy) hne)
  rw [rowOf_in ⟨hs.1, hs.2.1⟩, wlen_rule h.1.1 hs]
  exact lsum_ext (fun y hy => (wlen_drop h.1.1 hs (acy_sg h.1.1 (i := s - 26) (by omega) hy) (by rintro rfl; exact hself hy)).symm)
theorem PkOk.drop {q : Pk} {s : Nat} (h : PkOk q) (hs : isRul q.2 s) : PkOk (sub s (rowOf q.2 s) q.1, dropRu q.2 s) := by
  have hself := acy_self h.1.1 hs
  have h1 := hs.1
  have h2 := hs.2.1
  have hls := lsum_drop h hs h.2.1
  obtain ⟨hW, hsg, hl, hr2⟩ := h
  refine ⟨⟨acy_drop hW.1 hs, fun x hx => ?_⟩, fun x hx => ?_, ?_, fun j hj => ?_⟩
  · obtain ⟨z1, z2⟩ := sg_dropBack hs hx
    rw [wlen_drop hW.1 hs (Or.inr z1) z2]
    exact hW.2 x z1
  · show isSg (dropRu q.2 s) x
    have hx : x ∈ sub s (rowOf q.2 s) q.1 := hx
    rw [rowOf_in ⟨h1, h2⟩] at hx
    rcases mem_sub hx with ⟨z1, z2⟩ | ⟨z1, z2⟩
    · exact sg_drop hs (acy_sg hW.1 (i := s - 26) (by omega) z2) (by rintro rfl; exact hself z2)
    · exact sg_drop hs (hsg x z1) z2
  · show lsum (wlen (dropRu q.2 s)) (sub s (rowOf q.2 s) q.1) ≤ 240
    rw [hls]; exact hl
  · show dropRu q.2 s j = [] ∨ 2 ≤ (dropRu q.2 s j).length
    by_cases e : j = s - 26
    · rw [e]; exact Or.inl dropRu_self
    · rw [dropRu_ne e, rowOf_in ⟨h1, h2⟩]
      rcases hr2 j hj with z | z
      · rw [z, sub_nil]; exact Or.inl rfl
      · have := sub_len (s := s) (bl := q.2 (s - 26)) (by cases hb : q.2 (s - 26) with
          | nil => exact absurd hb hs.2.2
          | cons y t => simp) (q.2 j)
        exact Or.inr (by omega)
/-- behind a drop the sequence has room -/
theorem PkOk.dropLen {q : Pk} {s : Nat} (h : PkOk q) (hs : isRul q.2 s) : (sub s (rowOf q.2 s) q.1).length ≤ 240 := by
  have h2 := h.drop hs
  exact Nat.le_trans (lsum_len (f := wlen (dropRu q.2 s)) (fun x hx => wlen_pos h2.1.1 (h2.2.1 x hx))) h2.2.2.1
/-! letters alone -/
theorem acy_nil : Acy (fun _ => []) := ⟨fun _ => 0, fun i _ x hx => by simp at hx⟩
theorem lsum_lets {ru : Ru} : ∀ {l : List Nat}, (∀ x ∈ l, x < 26) → lsum (wlen ru) l = l.length
  | [], _ => rfl
  | x :: l, h => by
    rw [lsum, wlen_letter (h x List.mem_cons_self), lsum_lets (fun y hy => h y (List.mem_cons_of_mem _ hy)), List.length_cons]; omega
theorem PkOk.lets {l : List Nat} (h : ∀ x ∈ l, x < 26) (hl : l.length ≤ 240) : PkOk (l, fun _ => []) := by
  refine ⟨⟨acy_nil, fun s hs => absurd rfl hs.2.2⟩, fun x hx => Or.inl (h x hx), ?_, fun i _ => Or.inl rfl⟩
  show lsum (wlen fun _ => []) l ≤ 240
  rw [lsum_lets h]; exact hl
