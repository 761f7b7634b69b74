/-! PAIRS: how long a row is when a pair has been joined; which pairs stand then -/
def cntJ (a b : Nat) : List Nat → Nat
  | x :: y :: t => if x = a ∧ y = b then 1 + cntJ a b t else cntJ a b (y :: t)
  | _ => 0
theorem joinL_cntJ {a b s : Nat} : ∀ l : List Nat, (joinL a b s l).length + cntJ a b l = l.length
  | [] => by simp [joinL, cntJ]
  | [x] => by simp [joinL, cntJ]
  | x :: y :: t => by
    rw [joinL, cntJ]
    split
    · have := joinL_cntJ (a := a) (b := b) (s := s) t
      simp only [List.length_cons]; omega
    · have := joinL_cntJ (a := a) (b := b) (s := s) (y :: t)
      simp only [List.length_cons] at this ⊢; omega
theorem cntB_split {p : Nat → Bool} {i : Nat} : ∀ n, cntB p (i + n) = cntB p i + cntB (fun j => p (i + j)) n
  | 0 => rfl
  | n + 1 => by rw [← Nat.add_assoc, cntB, cntB_split n, cntB]; omega
theorem gP_next {l : List Nat} {a b i : Nat} (hp : i = 0 ∨ ∃ j, i = j + 1 ∧ gP l a b j = false) : gP l a b i = decide (l[i]? = some a ∧ l[i + 1]? = some b) := by
  rcases hp with rfl | ⟨j, rfl, hj⟩
  · rfl
  · rw [gP, hj]; simp
theorem drop_get {l : List Nat} {i x : Nat} {t : List Nat} (h : l.drop i = x :: t) : l[i]? = some x ∧ l.drop (i + 1) = t := by
  have h1 : (l.drop i)[0]? = some x := by rw [h]; rfl
  rw [List.getElem?_drop] at h1
  refine ⟨h1, ?_⟩
  have h2 : (l.drop i).drop 1 = t := by rw [h]; rfl
  rwa [List.drop_drop] at h2
theorem cntG_J {l : List Nat} {a b : Nat} : ∀ (n i : Nat), l.length - i ≤ n → i ≤ l.length → (i = 0 ∨ ∃ j, i = j + 1 ∧ gP l a b j = false) → cntB (fun j => gP l a b (i + j)) (l.length - i) = cntJ a b (l.drop i) := by
  intro n
  induction n using Nat.strongRecOn with
  | _ n ih =>
    intro i hn hi hp
    cases hd : l.drop i with
    | nil =>
      have : l.length - i = 0 := by have := congrArg List.length hd; simpa using this
      rw [this]; rfl
    | cons x t =>
      obtain ⟨hx, ht⟩ := drop_get hd
      have hil := (List.getElem?_eq_some_iff.mp hx).1
      have hg := gP_next hp
      clear hp
      cases ht' : t with
      | nil =>
        have hlen : l.length = i + 1 := by
          rw [ht'] at ht
          have := congrArg List.length ht
          simp at this; omega
        rw [show l.length - i = 1 by omega]
        show 0 + (if gP l a b (i + 0) then 1 else 0) = 0
        rw [gP_out (by omega)]
        rfl
      | cons y t2 =>
        rw [ht'] at ht
        obtain ⟨hy, ht2⟩ := drop_get ht
        have hil2 := (List.getElem?_eq_some_iff.mp hy).1
        rw [hx, hy] at hg
        rw [cntJ]
        by_cases hab : x = a ∧ y = b
        · obtain ⟨rfl, rfl⟩ := hab
          rw [if_pos ⟨rfl, rfl⟩]
          have hgi : gP l x y i = true := by rw [hg]; simp
          have hgi1 : gP l x y (i + 1) = false := by rw [gP, hgi]; simp
          have := ih (l.length - (i + 2)) (by omega) (i + 2) (Nat.le_refl _) (by omega) (Or.inr ⟨i + 1, rfl, hgi1⟩)
          rw [ht2] at this
          rw [← this, show l.length - i = 2 + (l.length - (i + 2)) by omega, cntB_split]
          congr 1
          · show (0 + (if gP l x y (i + 0) then 1 else 0)) + (if gP l x y (i + 1) then 1 else 0) = 1
            rw [Nat.add_zero, hgi, hgi1]; rfl
          · refine cntB_ext (fun j _ => ?_)
            rw [← Nat.add_assoc]
        · rw [if_neg hab]
          have hgi : gP l a b i = false := by rw [hg]; simpa using hab
          have := ih (l.length - (i + 1)) (by omega) (i + 1) (Nat.le_refl _) (by omega) (Or.inr ⟨i, rfl, hgi⟩)
          rw [ht] at this
          rw [← this, show l.length - i = 1 + (l.length - (i + 1)) by omega, cntB_split]
          show (0 + (if gP l a b (i + 0) then 1 else 0)) + _ = _
          rw [Nat.add_zero, hgi]
          simp only [Bool.false_eq_true, if_false, Nat.zero_add]
          refine cntB_ext (fun j _ => ?_)
          rw [← Nat.add_assoc]
theorem cntG_cntJ {l : List Nat} {a b : Nat} : cntG l a b = cntJ a b l := by
  have := cntG_J (l := l) (a := a) (b := b) l.length 0 (by omega) (by omega) (Or.inl rfl)
  rw [Nat.sub_zero, List.drop_zero] at this
  rw [← this, cntG]
  exact cntB_ext (fun j _ => by rw [Nat.zero_add])
theorem joinL_len_eq {a b s : Nat} {l : List Nat} : (joinL a b s l).length + cntG l a b = l.length := by rw [cntG_cntJ]; exact joinL_cntJ l
/-- what a row holds behind a join -/
theorem joinL_mem {a b s x : Nat} : ∀ {l : List Nat}, x ∈ joinL a b s l → x = s ∨ x ∈ l
  | [], h => by simp [joinL] at h
  | [y], h => by simp [joinL] at h; exact Or.inr (by simp [h])
  | y :: z :: t, h => by
    rw [joinL] at h
    split at h
    · rcases List.mem_cons.mp h with e | e
      · exact Or.inl e
      · rcases joinL_mem e with e | e
        · exact Or.inl e
        · exact Or.inr (List.mem_cons_of_mem _ (List.mem_cons_of_mem _ e))
    · rcases List.mem_cons.mp h with e | e
      · exact Or.inr (by simp [e])
      · rcases joinL_mem e with e | e
        · exact Or.inl e
        · exact Or.inr (List.mem_cons_of_mem _ e)
theorem joinL_head {a b s : Nat} : ∀ {l : List Nat} {x : Nat} {t : List Nat}, joinL a b s l = x :: t → x = s ∨ ∃ t', l = x :: t' ∧ (∀ y t2, t' = y :: t2 → ¬ (x = a ∧ y = b)) ∧ t = joinL a b s t'
  | [], x, t, h => by simp [joinL] at h
  | [y], x, t, h => by
    simp only [joinL, List.cons.injEq] at h
    obtain ⟨rfl, rfl⟩ := h
    exact Or.inr ⟨[], rfl, fun y t2 e => (by cases e), by simp [joinL]⟩
  | y :: z :: t', x, t, h => by
    rw [joinL] at h
    split at h
    · exact Or.inl (List.cons.inj h).1.symm
    · rename_i hn
      obtain ⟨rfl, rfl⟩ := List.cons.inj h
      exact Or.inr ⟨z :: t', rfl, fun y2 t2 e => by obtain ⟨rfl, -⟩ := List.cons.inj e; exact hn, rfl⟩
/-- the pair itself stands nowhere then -/
theorem joinL_nowhere {a b s : Nat} (hsa : s ≠ a) (hsb : s ≠ b) : ∀ (n : Nat) (l : List Nat), l.length ≤ n → ∀ i, ¬ ((joinL a b s l)[i]? = some a ∧ (joinL a b s l)[i + 1]? = some b) := by
  intro n
  induction n with
  | zero =>
    intro l hl i
    have : l = [] := List.length_eq_zero_iff.mp (by omega)
    subst this
    rw [joinL_nil]; simp
  | succ n ih =>
    intro l hl i
    rintro ⟨h1, h2⟩
    cases hj : joinL a b s l with
    | nil => rw [hj] at h1; simp at h1
    | cons x t =>
      rw [hj] at h1 h2
      have tl : ∃ l', l'.length ≤ n ∧ t = joinL a b s l' := by
        match l, hl, hj with
        | [y], _, hj =>
          simp only [joinL, List.cons.injEq] at hj
          exact ⟨[], by simp, by rw [joinL_nil]; exact hj.2.symm⟩
        | y :: z :: t', hl, hj =>
          rw [joinL] at hj
          split at hj
          · exact ⟨t', by simp at hl; omega, (List.cons.inj hj).2.symm⟩
          · exact ⟨z :: t', by simp at hl ⊢; omega, (List.cons.inj hj).2.symm⟩
      cases i with
      | zero =>
        simp only [List.getElem?_cons_zero, Option.some.injEq] at h1
        subst h1
        rcases joinL_head hj with e | ⟨t', rfl, hno, rfl⟩
        · exact hsa e.symm
        · rw [List.getElem?_cons_succ] at h2
          cases ht : joinL x b s t' with
          | nil => rw [ht] at h2; simp at h2
          | cons y t2 =>
            rw [ht] at h2
            simp only [List.getElem?_cons_zero, Option.some.injEq] at h2
            subst h2
            rcases joinL_head ht with e | ⟨t3, rfl, -, -⟩
            · exact hsb e.symm
            · exact hno y t3 rfl ⟨rfl, rfl⟩
      | succ i =>
        obtain ⟨l', hl', rfl⟩ := tl
        rw [List.getElem?_cons_succ] at h1 h2
        exact ih l' hl' i ⟨h1, h2⟩
theorem joinL_cnt0 {a b s : Nat} {l : List Nat} (hsa : s ≠ a) (hsb : s ≠ b) : cntG (joinL a b s l) a b = 0 := by
  refine cntB_zero (fun j _ => ?_)
  cases hg : gP (joinL a b s l) a b j with
  | false => rfl
  | true => exact absurd (gP_at hg) (joinL_nowhere hsa hsb l.length l (Nat.le_refl _) j)
