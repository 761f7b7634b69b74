/-! WORDS, as numbers: the order in which rules can be told, the letters of a sign with their depths -/
abbrev rdy (ru : Ru) (T : List Nat) (i : Nat) : Prop := ru i ≠ [] ∧ (26 + i) ∉ T ∧ ∀ x ∈ ru i, x < 26 ∨ x ∈ T
def nxt (ru : Ru) (T : List Nat) : Option Nat := fstB (fun i => decide (rdy ru T i)) 60
def ordF (ru : Ru) : Nat → List Nat → List Nat
  | 0, T => T
  | n + 1, T => (nxt ru T).elim T (fun i => ordF ru n (T ++ [26 + i]))
def ordS (ru : Ru) : List Nat := ordF ru 60 []
def GoodT (ru : Ru) (T : List Nat) : Prop := T.Nodup ∧ ∀ k s, T[k]? = some s → isRul ru s ∧ ∀ x ∈ ru (s - 26), x < 26 ∨ x ∈ T.take k
def untold (ru : Ru) (T : List Nat) : Nat := cntB (fun i => decide (ru i ≠ [] ∧ (26 + i) ∉ T)) 60
def Acy (ru : Ru) : Prop := ∃ rk : Nat → Nat, ∀ i, i < 60 → ∀ x ∈ ru i, x < 26 ∨ isRul ru x ∧ rk x < rk (26 + i)
theorem ordF_some {ru : Ru} {n i : Nat} {T : List Nat} (h : nxt ru T = some i) : ordF ru (n + 1) T = ordF ru n (T ++ [26 + i]) := by rw [ordF, h]; rfl
theorem ordF_none {ru : Ru} {n : Nat} {T : List Nat} (h : nxt ru T = none) : ordF ru n T = T := by
  cases n with
  | zero => rfl
  | succ n => rw [ordF, h]; rfl
theorem nxt_some {ru : Ru} {T : List Nat} {i : Nat} (h : nxt ru T = some i) : i < 60 ∧ rdy ru T i := by
  have := fstB_some h
  exact ⟨this.1, of_decide_eq_true this.2.1⟩
theorem nxt_none {ru : Ru} {T : List Nat} (h : nxt ru T = none) : ∀ i, i < 60 → ¬ rdy ru T i := fun i hi => of_decide_eq_false (fstB_none h i hi)
theorem nxt_of_none {ru : Ru} {T : List Nat} (h : ∀ i, i < 60 → ¬ rdy ru T i) : nxt ru T = none := by
  cases hx : nxt ru T with
  | none => rfl
  | some i => exact absurd (nxt_some hx).2 (h i (nxt_some hx).1)
theorem GoodT.nil {ru : Ru} : GoodT ru [] := ⟨List.nodup_nil, fun k s h => by simp at h⟩
theorem GoodT.snoc {ru : Ru} {T : List Nat} {i : Nat} (h : GoodT ru T) (hi : i < 60) (hr : rdy ru T i) : GoodT ru (T ++ [26 + i]) := by
  refine ⟨?_, fun k s hk => ?_⟩
  · rw [List.nodup_append]
    refine ⟨h.1, by simp, fun a ha b hb => ?_⟩
    simp at hb
    subst hb
    intro e
    subst e
    exact hr.2.1 ha
  · by_cases hlt : k < T.length
    · rw [List.getElem?_append_left hlt] at hk
      rw [List.take_append_of_le_length (by omega)]
      exact h.2 k s hk
    · have h2 := (List.getElem?_eq_some_iff.mp hk).1
      simp at h2
      have hkl : k = T.length := by omega
      subst hkl
      simp at hk
      subst hk
      refine ⟨⟨by omega, by omega, by rw [Nat.add_sub_cancel_left]; exact hr.1⟩, fun x hx => ?_⟩
      rw [Nat.add_sub_cancel_left] at hx
      rw [List.take_append_of_le_length (Nat.le_refl _), List.take_length]
      exact hr.2.2 x hx
theorem cntB_lt {p q : Nat → Bool} {i : Nat} (hpq : ∀ j, q j = true → p j = true) (hp : p i = true) (hq : q i = false) : ∀ n, (i < n → cntB q n + 1 ≤ cntB p n) ∧ cntB q n ≤ cntB p n
  | 0 => ⟨fun h => absurd h (by omega), Nat.le_refl _⟩
  | n + 1 => by
    have ih := cntB_lt hpq hp hq n
    have := hpq n
    rw [cntB, cntB]
    by_cases hin : i = n
    · subst hin
      rw [hp, hq]
      refine ⟨fun _ => ?_, ?_⟩ <;> simp <;> omega
    · refine ⟨fun hlt => ?_, ?_⟩
      · have := ih.1 (by omega)
        split <;> split <;> first | omega | (rename_i a b; exact absurd (hpq n a) b)
      · have := ih.2
        split <;> split <;> first | omega | (rename_i a b; exact absurd (hpq n a) b)
theorem untold_snoc {ru : Ru} {T : List Nat} {i : Nat} (hi : i < 60) (hr : rdy ru T i) : untold ru (T ++ [26 + i]) + 1 ≤ untold ru T := by
  refine (cntB_lt (i := i) (fun j hj => ?_) ?_ ?_ 60).1 hi
  · have := of_decide_eq_true hj
    exact decide_eq_true ⟨this.1, fun z => this.2 (List.mem_append_left _ z)⟩
  · exact decide_eq_true ⟨hr.1, hr.2.1⟩
  · refine decide_eq_false (fun z => z.2 ?_)
    simp
theorem ordF_good {ru : Ru} : ∀ (n : Nat) (T : List Nat), GoodT ru T → T.length + untold ru T ≤ 60 → GoodT ru (ordF ru n T) ∧ (ordF ru n T).length ≤ 60 ∧ (untold ru T ≤ n → nxt ru (ordF ru n T) = none) ∧ (∀ x ∈ T, x ∈ ordF ru n T)
  | 0, T, h, hl => by
    have e : ordF ru 0 T = T := rfl
    rw [e]
    refine ⟨h, by omega, fun h0 => nxt_of_none fun i hi hr => ?_, fun x hx => hx⟩
    have := untold_snoc hi hr
    omega
  | n + 1, T, h, hl => by
    cases hx : nxt ru T with
    | none => rw [ordF_none hx]; exact ⟨h, by omega, fun _ => hx, fun x hx => hx⟩
    | some i =>
      have hs := nxt_some hx
      have hu := untold_snoc hs.1 hs.2
      rw [ordF_some hx]
      have ih := ordF_good n (T ++ [26 + i]) (h.snoc hs.1 hs.2) (by simp; omega)
      exact ⟨ih.1, ih.2.1, fun h0 => ih.2.2.1 (by omega), fun x hx => ih.2.2.2 x (List.mem_append_left _ hx)⟩
theorem untold_le (ru : Ru) (T : List Nat) : untold ru T ≤ 60 := cntB_le _ _
theorem ordS_good (ru : Ru) : GoodT ru (ordS ru) ∧ (ordS ru).length ≤ 60 ∧ nxt ru (ordS ru) = none := by
  have h0 := untold_le ru []
  have := ordF_good 60 [] (GoodT.nil (ru := ru)) (by simpa using h0)
  exact ⟨this.1, this.2.1, this.2.2.1 h0⟩
theorem told_all {ru : Ru} {T : List Nat} (hA : Acy ru) (hn : nxt ru T = none) : ∀ s, isRul ru s → s ∈ T := by
  obtain ⟨rk, hrk⟩ := hA
  have key : ∀ n s, rk s < n → isRul ru s → s ∈ T := by
    intro n
    induction n with
    | zero => intro s h; exact absurd h (by omega)
    | succ n ih =>
      intro s hs hr
      by_cases hin : s ∈ T
      · exact hin
      · refine absurd ?_ (nxt_none hn (s - 26) (by omega))
        refine ⟨hr.2.2, by rw [show 26 + (s - 26) = s by omega]; exact hin, fun x hx => ?_⟩
        rcases hrk (s - 26) (by omega) x hx with h1 | ⟨h1, h2⟩
        · exact Or.inl h1
        · rw [show 26 + (s - 26) = s by omega] at h2
          exact Or.inr (ih x (by omega) h1)
  exact fun s hr => key (rk s + 1) s (by omega) hr
theorem ordS_all {ru : Ru} (hA : Acy ru) {s : Nat} (hr : isRul ru s) : s ∈ ordS ru := told_all hA (ordS_good ru).2.2 s hr
/-- the letters of a sign, each with its depth in it -/
def wxF (ru : Ru) : Nat → Nat → List (Nat × Nat)
  | 0, s => if s < 26 then [(s, 0)] else []
  | n + 1, s => if s < 26 then [(s, 0)] else ((rowOf ru s).flatMap (wxF ru n)).map (fun p => (p.1, p.2 + 1))
def wx (ru : Ru) (s : Nat) : List (Nat × Nat) := wxF ru 60 s
theorem wxF_letter {ru : Ru} {n s : Nat} (h : s < 26) : wxF ru n s = [(s, 0)] := by cases n <;> simp [wxF, h]
theorem wxF_succ {ru : Ru} {n s : Nat} (h : ¬ s < 26) : wxF ru (n + 1) s = ((rowOf ru s).flatMap (wxF ru n)).map (fun p => (p.1, p.2 + 1)) := by rw [wxF, if_neg h]
theorem wx_letter {ru : Ru} {s : Nat} (h : s < 26) : wx ru s = [(s, 0)] := wxF_letter h
theorem flatMap_congr' {α β : Type} {f g : α → List β} : ∀ {l : List α}, (∀ x ∈ l, f x = g x) → l.flatMap f = l.flatMap g
  | [], _ => rfl
  | x :: l, h => by rw [List.flatMap_cons, List.flatMap_cons, h x List.mem_cons_self, flatMap_congr' (fun y hy => h y (List.mem_cons_of_mem _ hy))]
theorem wxF_stable {ru : Ru} {T : List Nat} (hT : GoodT ru T) : ∀ (k s : Nat), (∃ j, j < k ∧ T[j]? = some s) → ∀ n m, k ≤ n → k ≤ m → wxF ru n s = wxF ru m s := by
  intro k
  induction k with
  | zero => rintro s ⟨j, hj, -⟩; exact absurd hj (by omega)
  | succ k ih =>
    rintro s ⟨j, hj, hs⟩ n m hn hm
    obtain ⟨n, rfl⟩ : ∃ z, n = z + 1 := ⟨n - 1, by omega⟩
    obtain ⟨m, rfl⟩ : ∃ z, m = z + 1 := ⟨m - 1, by omega⟩
    obtain ⟨hr, hrow⟩ := hT.2 j s hs
    rw [wxF_succ (by omega), wxF_succ (by omega), rowOf_in ⟨hr.1, hr.2.1⟩]
    congr 1
    refine flatMap_congr' (fun x hx => ?_)
    rcases hrow x hx with h | h
    · rw [wxF_letter h, wxF_letter h]
    · obtain ⟨q, hq⟩ := List.getElem?_of_mem h
      have hqlt : q < j := by
        have := (List.getElem?_eq_some_iff.mp hq).1
        simp at this; omega
      rw [List.getElem?_take_of_lt hqlt] at hq
      exact ih x ⟨q, by omega, hq⟩ n m (by omega) (by omega)
theorem wx_rule {ru : Ru} (hA : Acy ru) {s : Nat} (hr : isRul ru s) : wx ru s = ((ru (s - 26)).flatMap (wx ru)).map (fun p => (p.1, p.2 + 1)) := by
  obtain ⟨hT, hl, hn⟩ := ordS_good ru
  obtain ⟨k, hk⟩ := List.getElem?_of_mem (ordS_all hA hr)
  have hk60 := (List.getElem?_eq_some_iff.mp hk).1
  have e : wx ru s = wxF ru (59 + 1) s := rfl
  rw [e, wxF_succ (by omega), rowOf_in ⟨hr.1, hr.2.1⟩]
  congr 1
  refine flatMap_congr' (fun x hx => ?_)
  rcases (hT.2 k s hk).2 x hx with h | h
  · rw [wxF_letter h, wx_letter h]
  · obtain ⟨q, hq⟩ := List.getElem?_of_mem h
    have hqlt : q < k := by
      have := (List.getElem?_eq_some_iff.mp hq).1
      simp at this; omega
    rw [List.getElem?_take_of_lt hqlt] at hq
    exact wxF_stable hT (q + 1) x ⟨q, by omega, hq⟩ 59 60 (by omega) (by omega)
def wlen (ru : Ru) (s : Nat) : Nat := (wx ru s).length
def lsum (f : Nat → Nat) : List Nat → Nat
  | [] => 0
  | x :: l => f x + lsum f l
theorem lsum_app {f : Nat → Nat} : ∀ {a b : List Nat}, lsum f (a ++ b) = lsum f a + lsum f b
  | [], b => by simp [lsum]
  | x :: a, b => by rw [List.cons_append, lsum, lsum, lsum_app]; omega
theorem lsum_flat {ru : Ru} : ∀ l : List Nat, (l.flatMap (wx ru)).length = lsum (wlen ru) l
  | [] => rfl
  | x :: l => by rw [List.flatMap_cons, List.length_append, lsum_flat l]; rfl
theorem wlen_letter {ru : Ru} {s : Nat} (h : s < 26) : wlen ru s = 1 := by rw [wlen, wx_letter h]; rfl
theorem wlen_rule {ru : Ru} (hA : Acy ru) {s : Nat} (hr : isRul ru s) : wlen ru s = lsum (wlen ru) (ru (s - 26)) := by
  rw [wlen, wx_rule hA hr, List.length_map, lsum_flat]
theorem acy_sg {ru : Ru} (hA : Acy ru) {i x : Nat} (hi : i < 60) (hx : x ∈ ru i) : isSg ru x := by
  obtain ⟨rk, h⟩ := hA
  rcases h i hi x hx with h | h
  · exact Or.inl h
  · exact Or.inr h.1
theorem wlen_pos {ru : Ru} (hA : Acy ru) {s : Nat} (hs : isSg ru s) : 1 ≤ wlen ru s := by
  have hA' := hA
  obtain ⟨rk, hrk⟩ := hA
  have key : ∀ n s, rk s < n → isSg ru s → 1 ≤ wlen ru s := by
    intro n
    induction n with
    | zero => intro s h; exact absurd h (by omega)
    | succ n ih =>
      intro s hn hs
      rcases hs with h | h
      · rw [wlen_letter h]; omega
      · rw [wlen_rule hA' h]
        obtain ⟨h1, h2, h3⟩ := h
        cases hrow : ru (s - 26) with
        | nil => exact absurd hrow h3
        | cons x l =>
          have hx : x ∈ ru (s - 26) := by rw [hrow]; exact List.mem_cons_self
          rw [lsum]
          rcases hrk (s - 26) (by omega) x hx with h | ⟨h, hlt⟩
          · rw [wlen_letter h]; omega
          · rw [show 26 + (s - 26) = s by omega] at hlt
            have := ih x (by omega) (Or.inr h)
            omega
  exact key (rk s + 1) s (by omega) hs
theorem lsum_len {f : Nat → Nat} : ∀ {l : List Nat}, (∀ x ∈ l, 1 ≤ f x) → l.length ≤ lsum f l
  | [], _ => Nat.le_refl _
  | x :: l, h => by
    have := lsum_len (l := l) (fun y hy => h y (List.mem_cons_of_mem _ hy))
    have := h x List.mem_cons_self
    rw [lsum, List.length_cons]; omega
theorem lsum_mem {f : Nat → Nat} : ∀ {l : List Nat} {x : Nat}, x ∈ l → f x ≤ lsum f l
  | y :: l, x, h => by
    rcases List.mem_cons.mp h with rfl | h
    · rw [lsum]; omega
    · have := lsum_mem (f := f) h
      rw [lsum]; omega
/-- the greatest depth -/
def mxD : List (Nat × Nat) → Nat
  | [] => 0
  | p :: l => max p.2 (mxD l)
theorem mxD_app : ∀ {a b : List (Nat × Nat)}, mxD (a ++ b) = max (mxD a) (mxD b)
  | [], b => by simp [mxD]
  | p :: a, b => by rw [List.cons_append, mxD, mxD, mxD_app, Nat.max_assoc]
theorem mxD_map : ∀ {l : List (Nat × Nat)}, l ≠ [] → mxD (l.map (fun p => (p.1, p.2 + 1))) = mxD l + 1
  | [], h => absurd rfl h
  | [p], _ => by simp [mxD]
  | p :: q :: l, _ => by
    rw [List.map_cons, mxD, mxD_map (l := q :: l) (by simp)]
    show max (p.2 + 1) (mxD (q :: l) + 1) = max p.2 (mxD (q :: l)) + 1
    omega
def lmax (f : Nat → Nat) : List Nat → Nat
  | [] => 0
  | x :: l => max (f x) (lmax f l)
theorem lmax_app {f : Nat → Nat} : ∀ {a b : List Nat}, lmax f (a ++ b) = max (lmax f a) (lmax f b)
  | [], b => by simp [lmax]
  | x :: a, b => by rw [List.cons_append, lmax, lmax, lmax_app, Nat.max_assoc]
def dpt (ru : Ru) (s : Nat) : Nat := mxD (wx ru s)
theorem mxD_flat {ru : Ru} : ∀ l : List Nat, mxD (l.flatMap (wx ru)) = lmax (dpt ru) l
  | [] => rfl
  | x :: l => by rw [List.flatMap_cons, mxD_app, mxD_flat l]; rfl
theorem dpt_letter {ru : Ru} {s : Nat} (h : s < 26) : dpt ru s = 0 := by rw [dpt, wx_letter h]; rfl
theorem dpt_rule {ru : Ru} (hA : Acy ru) {s : Nat} (hr : isRul ru s) : dpt ru s = lmax (dpt ru) (ru (s - 26)) + 1 := by
  have hp := wlen_pos hA (Or.inr hr)
  rw [wlen_rule hA hr, ← lsum_flat] at hp
  rw [dpt, wx_rule hA hr, mxD_map (fun e => by rw [e] at hp; simp at hp), mxD_flat]
