/-! THE WAY DOWN from a sign to a letter of its word -/
/-- which sign of a row the p-th letter lies in, and at which place in its word -/
def pickR (f : Nat → Nat) : List Nat → Nat → Nat × Nat
  | [], p => (0, p)
  | [x], p => (x, p)
  | x :: y :: t, p => if f x ≤ p then pickR f (y :: t) (p - f x) else (x, p)
/-- the signs behind s on the way down, n at most -/
def path (ru : Ru) : Nat → Nat → Nat → List Nat
  | 0, _, _ => []
  | n + 1, s, p => if isRul ru s then (pickR (wlen ru) (ru (s - 26)) p).1 :: path ru n (pickR (wlen ru) (ru (s - 26)) p).1 (pickR (wlen ru) (ru (s - 26)) p).2 else []
def lastD (s : Nat) : List Nat → Nat
  | [] => s
  | x :: l => lastD x l
theorem path_succ {ru : Ru} {n s p : Nat} (h : isRul ru s) : path ru (n + 1) s p = (pickR (wlen ru) (ru (s - 26)) p).1 :: path ru n (pickR (wlen ru) (ru (s - 26)) p).1 (pickR (wlen ru) (ru (s - 26)) p).2 := by rw [path, if_pos h]
theorem path_stop {ru : Ru} {n s p : Nat} (h : ¬ isRul ru s) : path ru n s p = [] := by
  cases n with
  | zero => rfl
  | succ n => rw [path, if_neg h]
theorem pickR_mem {f : Nat → Nat} : ∀ {l : List Nat} {p : Nat}, l ≠ [] → (pickR f l p).1 ∈ l
  | [], p, h => absurd rfl h
  | [x], p, _ => by simp [pickR]
  | x :: y :: t, p, _ => by
    rw [pickR]
    split
    · exact List.mem_cons_of_mem _ (pickR_mem (l := y :: t) (by simp))
    · exact List.mem_cons_self
/-- the letter is the one of the picked sign -/
theorem pickR_get {ru : Ru} : ∀ {l : List Nat} {p : Nat}, p < lsum (wlen ru) l → (l.flatMap (wx ru))[p]? = (wx ru (pickR (wlen ru) l p).1)[(pickR (wlen ru) l p).2]? ∧ (pickR (wlen ru) l p).2 < wlen ru (pickR (wlen ru) l p).1
  | [], p, h => by simp [lsum] at h
  | [x], p, h => by
    simp only [lsum, Nat.add_zero] at h
    simp [pickR, h]
  | x :: y :: t, p, h => by
    rw [pickR]
    by_cases hp : wlen ru x ≤ p
    · rw [if_pos hp, List.flatMap_cons, List.getElem?_append_right hp]
      rw [lsum] at h
      exact pickR_get (l := y :: t) (p := p - wlen ru x) (by omega)
    · rw [if_neg hp, List.flatMap_cons, List.getElem?_append_left (by simpa [wlen] using hp)]
      exact ⟨rfl, Nat.not_le.mp hp⟩
theorem pickR_snd {f : Nat → Nat} : ∀ {l : List Nat} {p : Nat}, (pickR f l p).2 ≤ p
  | [], p => Nat.le_refl _
  | [x], p => Nat.le_refl _
  | x :: y :: t, p => by
    rw [pickR]
    split
    · have := pickR_snd (f := f) (l := y :: t) (p := p - f x)
      omega
    · exact Nat.le_refl _
theorem lmax_mem {f : Nat → Nat} : ∀ {l : List Nat} {x : Nat}, x ∈ l → f x ≤ lmax f l
  | y :: l, x, h => by
    rcases List.mem_cons.mp h with rfl | h
    · rw [lmax]; omega
    · have := lmax_mem (f := f) h
      rw [lmax]; omega
/-- the whole way down: its last sign is the letter, its length the letter's depth -/
theorem path_wx {ru : Ru} (hA : Acy ru) : ∀ (n s p : Nat), isSg ru s → dpt ru s ≤ n → p < wlen ru s → (wx ru s)[p]? = some (lastD s (path ru n s p), (path ru n s p).length) := by
  intro n
  induction n with
  | zero =>
    intro s p hs hd hp
    rcases hs with h | h
    · rw [wx_letter h]
      rw [wlen_letter h] at hp
      have : p = 0 := by omega
      subst this
      rfl
    · rw [dpt_rule hA h] at hd; omega
  | succ n ih =>
    intro s p hs hd hp
    rcases hs with h | h
    · rw [path_stop (fun z => absurd z.1 (by omega)), wx_letter h]
      rw [wlen_letter h] at hp
      have : p = 0 := by omega
      subst this
      rfl
    · rw [dpt_rule hA h] at hd
      rw [wlen_rule hA h] at hp
      obtain ⟨e1, e2⟩ := pickR_get hp
      have hm := pickR_mem (f := wlen ru) (p := p) h.2.2
      have hx : isSg ru (pickR (wlen ru) (ru (s - 26)) p).1 := acy_sg hA (by have := h.2.1; omega) hm
      have hdx : dpt ru (pickR (wlen ru) (ru (s - 26)) p).1 ≤ n := by
        have := lmax_mem (f := dpt ru) hm
        omega
      rw [wx_rule hA h, List.getElem?_map, e1, ih _ _ hx hdx e2, path_succ h]
      rfl
