/-! SEARCH: what it finds is the least -/
/-- a size that k replaces at most lead to -/
def Rch : Nat → List Nat → Ru → Nat → Prop
  | 0, sq, ru, n => n = sizeS sq ru
  | k + 1, sq, ru, n => n = sizeS sq ru ∨ ∃ a b i, (∃ j, sq[j]? = some a ∧ sq[j + 1]? = some b) ∧ signS ru a b = some i ∧ Rch k (joinL a b (26 + i) sq) (ruSet ru i [a, b]) n
def IsBest (k : Nat) (sq : List Nat) (ru : Ru) (n : Nat) : Prop := Rch k sq ru n ∧ ∀ n', Rch k sq ru n' → n ≤ n'
theorem IsBest.uniq {k : Nat} {sq : List Nat} {ru : Ru} {n n' : Nat} (h : IsBest k sq ru n) (h' : IsBest k sq ru n') : n = n' := by
  have := h.2 n' h'.1
  have := h'.2 n h.1
  omega
theorem std_cnt {l : List Nat} {a b j : Nat} (h1 : l[j]? = some a) (h2 : l[j + 1]? = some b) : 0 < cntG l a b := by
  by_cases hg : gP l a b j = true
  · have hj := (List.getElem?_eq_some_iff.mp h1).1
    have := (cntB_lt (p := gP l a b) (q := fun _ => false) (i := j) (fun _ h => by cases h) hg rfl l.length).1 hj
    rw [cntB_zero (p := fun _ => false) (fun _ _ => rfl)] at this
    simp only [cntG]; omega
  · cases j with
    | zero => exact absurd (decide_eq_true ⟨h1, h2⟩) hg
    | succ j =>
      rw [gP, decide_eq_true (show l[j + 1]? = some a ∧ l[j + 2]? = some b from ⟨h1, h2⟩), Bool.true_and] at hg
      have hg2 : gP l a b j = true := by simpa using hg
      have hj := (List.getElem?_eq_some_iff.mp h1).1
      have := (cntB_lt (p := gP l a b) (q := fun _ => false) (i := j) (fun _ h => by cases h) hg2 rfl l.length).1 (by omega)
      rw [cntB_zero (p := fun _ => false) (fun _ _ => rfl)] at this
      simp only [cntG]; omega
theorem sumB_ext {f g : Nat → Nat} : ∀ {n}, (∀ i, i < n → f i = g i) → sumB f n = sumB g n
  | 0, _ => rfl
  | n + 1, h => by rw [sumB, sumB, sumB_ext (n := n) (fun j hj => h j (by omega)), h n (by omega)]
theorem sumB_one {f g : Nat → Nat} {i : Nat} : ∀ {n}, i < n → (∀ j, j < n → j ≠ i → f j = g j) → sumB f n + g i = sumB g n + f i
  | 0, h, _ => absurd h (by omega)
  | n + 1, h, hne => by
    rw [sumB, sumB]
    by_cases hin : i = n
    · subst hin
      rw [sumB_ext (f := f) (g := g) (fun j hj => hne j (by omega) (by omega))]
      omega
    · have := sumB_one (n := n) (by omega) (fun j hj hn => hne j (by omega) hn)
      rw [hne n (by omega) (fun e => hin e.symm)]
      omega
/-- the size behind a replace -/
theorem size_join {sq : List Nat} {ru : Ru} {a b i : Nat} (hi : signS ru a b = some i) : sizeS (joinL a b (26 + i) sq) (ruSet ru i [a, b]) + cntG sq a b = sizeS sq ru + (if (ruleS ru a b).isSome then 0 else 2) := by
  have h1 := joinL_len_eq (a := a) (b := b) (s := 26 + i) (l := sq)
  have h2 := sumB_one (f := fun r => (ruSet ru i [a, b] r).length) (g := fun r => (ru r).length) (signS_lt hi) (fun j _ hj => by simp [ruSet, hj])
  have e : (ruSet ru i [a, b] i).length = 2 := by simp [ruSet]
  simp only [e] at h2
  rw [sizeS, sizeS]
  cases hx : ruleS ru a b with
  | some j =>
    have hij : i = j := by rw [signS_1 hx] at hi; exact (Option.some.inj hi).symm
    have hr : ru i = [a, b] := by rw [hij]; simpa using (fstB_some hx).2.1
    rw [hr] at h2
    simp only [List.length_cons, List.length_nil] at h2
    simp only [Option.isSome_some, if_true]
    omega
  | none =>
    rw [signS_0 hx] at hi
    have hr : ru i = [] := by simpa using (fstB_some hi).2.1
    rw [hr] at h2
    simp only [List.length_nil] at h2
    simp only [Option.isSome_none, Bool.false_eq_true, if_false]
    omega
theorem cntB_not {p : Nat → Bool} : ∀ n, cntB p n + cntB (fun i => !p i) n = n
  | 0 => rfl
  | n + 1 => by
    have := cntB_not (p := p) n
    rw [cntB, cntB]
    cases p n <;> simp <;> omega
theorem freeN_pos {ru : Ru} : 0 < freeN ru ↔ freeS ru ≠ none := by
  have h := cntB_not (p := fun r => decide (0 < (ru r).length)) 60
  rw [freeN, rulesS]
  constructor
  · intro h0 hn
    have : cntB (fun i => !decide (0 < (ru i).length)) 60 = 0 := cntB_zero (fun j hj => by
      have := fstB_none hn j hj
      simp only [decide_eq_false_iff_not] at this
      have hl := mt List.length_eq_zero_iff.mp this
      simp; omega)
    omega
  · intro hn
    cases hx : freeS ru with
    | none => exact absurd hx hn
    | some i =>
      have hi := fst_lt hx
      have he : ru i = [] := by simpa using (fstB_some hx).2.1
      have := (cntB_lt (p := fun i => !decide (0 < (ru i).length)) (q := fun _ => false) (i := i) (fun _ h => by cases h) (by simp [he]) rfl 60).1 hi
      rw [cntB_zero (p := fun _ => false) (fun _ _ => rfl)] at this
      omega
theorem freeN_le {ru : Ru} : freeN ru ≤ 60 := by rw [freeN]; omega
theorem canR_iff {ru : Ru} {p : Nat} : (0 < freeN ru ∨ ruledB ru p = true) ↔ ∃ i, signS ru (p / 86) (p % 86) = some i := by
  rw [freeN_pos, ruledB]
  cases hx : ruleS ru (p / 86) (p % 86) with
  | some j => simp [signS_1 hx]
  | none =>
    rw [signS_0 hx]
    cases freeS ru <;> simp
/-- the greatest gain is the best of one -/
theorem best_one {sq : List Nat} {ru : Ru} {G : Nat} (h86 : ∀ x ∈ sq, x < 86) (h : IsGG sq ru (freeN ru) G) : IsBest 1 sq ru (sizeS sq ru - G) := by
  obtain ⟨h1, h2⟩ := h
  have step : ∀ p i, p < 7396 → 0 < pcf sq p → signS ru (p / 86) (p % 86) = some i → sizeS (joinL (p / 86) (p % 86) (26 + i) sq) (ruSet ru i [p / 86, p % 86]) = sizeS sq ru + (if ruledB ru p then 0 else 2) - pcf sq p := by
    intro p i hp hc hi
    have := size_join (sq := sq) hi
    rw [← ruledB] at this
    simp only [pcf]; omega
  have hcl : ∀ p, pcf sq p ≤ sizeS sq ru := fun p => by have := cntG_le (l := sq) (a := p / 86) (b := p % 86); simp only [pcf, sizeS]; omega
  refine ⟨?_, ?_⟩
  · rcases h2 with rfl | ⟨p, hp, hc, ha, rfl⟩
    · exact Or.inl rfl
    · obtain ⟨i, hi⟩ := canR_iff.mp ha
      by_cases hz : gnN ru (pcf sq p) p = 0
      · rw [hz]; exact Or.inl rfl
      · obtain ⟨j, hj1, hj2⟩ := cntG_std hc
        refine Or.inr ⟨p / 86, p % 86, i, ⟨j, hj1, hj2⟩, hi, ?_⟩
        show _ = sizeS _ _
        rw [step p i hp hc hi, gnN]
        rw [gnN] at hz
        have := hcl p
        split at hz
        · rename_i hr; rw [if_pos hr, if_pos hr]; omega
        · rename_i hr; rw [if_neg hr, if_neg hr]; omega
  · rintro n' (rfl | ⟨a, b, i, ⟨j, hj1, hj2⟩, hi, hn⟩)
    · omega
    · have hn : n' = sizeS _ _ := hn
      have ha8 := h86 a (List.mem_of_getElem? hj1)
      have hb8 := h86 b (List.mem_of_getElem? hj2)
      obtain ⟨d1, d2⟩ := pair_dm (a := a) hb8
      have hc : 0 < pcf sq (86 * a + b) := by rw [pcf, d1, d2]; exact std_cnt hj1 hj2
      have hi' : signS ru ((86 * a + b) / 86) ((86 * a + b) % 86) = some i := by rw [d1, d2]; exact hi
      have hs := step (86 * a + b) i (by omega) hc hi'
      have hg := h1 (86 * a + b) (by omega) hc (canR_iff.mpr ⟨i, hi'⟩)
      rw [d1, d2] at hs
      rw [hn, hs]
      rw [gnN] at hg
      split at hg <;> rename_i hr
      · rw [if_pos hr]; omega
      · rw [if_neg hr]; omega
/-- the best of k + 1 out of the bests of k behind each pair -/
theorem best_succ {k : Nat} {sq : List Nat} {ru : Ru} {n : Nat} (hn : n = sizeS sq ru ∨ ∃ a b i, (∃ j, sq[j]? = some a ∧ sq[j + 1]? = some b) ∧ signS ru a b = some i ∧ IsBest k (joinL a b (26 + i) sq) (ruSet ru i [a, b]) n)
    (h0 : n ≤ sizeS sq ru) (h1 : ∀ a b i, (∃ j, sq[j]? = some a ∧ sq[j + 1]? = some b) → signS ru a b = some i → ∃ n', n ≤ n' ∧ IsBest k (joinL a b (26 + i) sq) (ruSet ru i [a, b]) n') : IsBest (k + 1) sq ru n := by
  refine ⟨?_, ?_⟩
  · rcases hn with rfl | ⟨a, b, i, hst, hi, hb⟩
    · exact Or.inl rfl
    · exact Or.inr ⟨a, b, i, hst, hi, hb.1⟩
  · rintro n' (rfl | ⟨a, b, i, hst, hi, hr⟩)
    · exact h0
    · obtain ⟨n2, hle, hb⟩ := h1 a b i hst hi
      have := hb.2 n' hr
      omega
/-- what the marks of the elder rules tell behind a replace -/
theorem gg_behind {sq : List Nat} {ru : Ru} {a b i G : Nat} (ha : a < 86) (hb : b < 86) (hi : signS ru a b = some i) (hsa : 26 + i ≠ a) (hsb : 26 + i ≠ b) (h : IsGG (joinL a b (26 + i) sq) ru (if ruledB ru (86 * a + b) then freeN ru else freeN ru - 1) G) : IsGG (joinL a b (26 + i) sq) (ruSet ru i [a, b]) (freeN (ruSet ru i [a, b])) G := by
  obtain ⟨d1, d2⟩ := pair_dm (a := a) hb
  have hlt := signS_lt hi
  have hr : ∀ q, q < 7396 → 0 < pcf (joinL a b (26 + i) sq) q → ruledB (ruSet ru i [a, b]) q = ruledB ru q := by
    intro q hq hc
    have hne : ¬ [a, b] = [q / 86, q % 86] := fun e => by
      have e1 := (List.cons.inj e).1
      have e2 := (List.cons.inj (List.cons.inj e).2).1
      rw [pcf, ← e1, ← e2, joinL_cnt0 hsa hsb] at hc
      omega
    have hne2 : ru i ≠ [q / 86, q % 86] := fun e => by
      rcases signS_or hi with z | z
      · rw [z] at e; exact hne e
      · rw [z] at e; cases e
    rw [Bool.eq_iff_iff, ruledB_ex, ruledB_ex]
    constructor
    · rintro ⟨j, hj, e⟩
      by_cases hji : j = i
      · subst hji; simp only [ruSet, if_true] at e; exact absurd e hne
      · simp only [ruSet, if_neg hji] at e; exact ⟨j, hj, e⟩
    · rintro ⟨j, hj, e⟩
      by_cases hji : j = i
      · subst hji; exact absurd e hne2
      · exact ⟨j, hj, by simp only [ruSet, if_neg hji]; exact e⟩
  have hf : freeN (ruSet ru i [a, b]) = if ruledB ru (86 * a + b) then freeN ru else freeN ru - 1 := by
    rw [ruledB, d1, d2]
    rw [freeN, freeN, rulesS, rulesS]
    cases hx : ruleS ru a b with
    | some j =>
      have hij : i = j := by rw [signS_1 hx] at hi; exact (Option.some.inj hi).symm
      have hri : ru i = [a, b] := by rw [hij]; simpa using (fstB_some hx).2.1
      have : ruSet ru i [a, b] = ru := by
        funext j; by_cases hji : j = i
        · subst hji; simp [ruSet, hri]
        · simp [ruSet, hji]
      rw [this]; rfl
    | none =>
      rw [signS_0 hx] at hi
      have hri : ru i = [] := by simpa using (fstB_some hi).2.1
      have := cntB_ins (p := fun r => decide (0 < (ru r).length)) (q := fun r => decide (0 < (ruSet ru i [a, b] r).length)) (x := i) (n := 60) hlt (by simp [hri]) (by simp [ruSet]) (fun j _ hj => by simp [ruSet, hj])
      simp only [Option.isSome_none, Bool.false_eq_true, if_false]
      omega
  rw [hf]
  obtain ⟨h1, h2⟩ := h
  refine ⟨fun p hp hc ha => ?_, ?_⟩
  · have := hr p hp hc
    rw [this] at ha
    rw [gnN, this, ← gnN]
    exact h1 p hp hc ha
  · rcases h2 with e | ⟨p, hp, hc, ha, e⟩
    · exact Or.inl e
    · have := hr p hp hc
      exact Or.inr ⟨p, hp, hc, by rw [this]; exact ha, by rw [gnN, this, ← gnN]; exact e⟩
