/-! THE MODEL: its object, 23 cells from M: S.1 its numbers, S.2 its arrays -/
abbrev MSt : Type := (Nat → Int32) × (Nat → Nat → Int32)
def fldM (M : Nat) (w : Nat → Int32) : List Value := [.int (w 0), .ref (M + 1), .ref (M + 2), .ref (M + 3), .ref (M + 4), .int (w 5), .ref (M + 5), .ref (M + 6), .ref (M + 7), .ref (M + 8), .ref (M + 9), .int (w 11), .ref (M + 10), .int (w 13), .int (w 14), .int (w 15), .int (w 16), .ref (M + 11), .ref (M + 12), .int (w 19), .int (w 20), .int (w 21), .ref (M + 13), .ref (M + 14), .int (w 24), .ref (M + 15), .ref (M + 16), .ref (M + 17), .ref (M + 18), .ref (M + 19), .int (w 30), .ref (M + 20), .ref (M + 21), .ref (M + 22), .int (w 34), .int (w 35), .int (w 36), .int (w 37)]
def mTy (k : Nat) : Nat := if k = 5 then 1 else if k = 14 then 1 else if k = 10 then 2 else 0
def mLen (k : Nat) : Nat := if k = 1 then 3063 else if k = 2 then 10210 else if k = 3 then 1021 else if k = 4 then 3063 else if k = 5 then 2 else if k = 6 then 86 else if k = 7 then 86 else if k = 8 then 240 else if k = 9 then 240 else if k = 10 then 260 else if k = 11 then 20 else if k = 12 then 1021 else if k = 13 then 1090 else if k = 14 then 86 else if k = 15 then 86 else if k = 16 then 86 else if k = 17 then 86 else if k = 18 then 86 else if k = 19 then 86 else if k = 20 then 7396 else if k = 21 then 7396 else 240
def MdAt (E : EnvT) (h : Hp) (M : Nat) (S : MSt) : Prop := h.2 M = some (.inr (10, fldM M S.1)) ∧ ∀ k, 1 ≤ k → k ≤ 22 → h.2 (M + k) = some (.inl (E.2.2.1 (mTy k), mLen k, .inl (S.2 k)))
def updF (F : Nat → Nat → Int32) (k : Nat) (g : Nat → Int32) : Nat → Nat → Int32 := fun j => if j = k then g else F j
abbrev isMI (k : Nat) : Prop := k ∈ [0, 5, 11, 13, 14, 15, 16, 19, 20, 21, 24, 30, 34, 35, 36, 37]
def Ony (ks js : List Nat) (S S2 : MSt) : Prop := (∀ k, k ∉ ks → S2.2 k = S.2 k) ∧ ∀ j, j ∉ js → S2.1 j = S.1 j
theorem Ony.refl {ks js : List Nat} {S : MSt} : Ony ks js S S := ⟨fun _ _ => rfl, fun _ _ => rfl⟩
theorem Ony.trans {ks js : List Nat} {S S2 S3 : MSt} (x : Ony ks js S S2) (y : Ony ks js S2 S3) : Ony ks js S S3 := ⟨fun k hk => (y.1 k hk).trans (x.1 k hk), fun j hj => (y.2 j hj).trans (x.2 j hj)⟩
theorem Ony.mono {ks js ks2 js2 : List Nat} {S S2 : MSt} (x : Ony ks js S S2) (h1 : ∀ k, k ∈ ks → k ∈ ks2) (h2 : ∀ j, j ∈ js → j ∈ js2) : Ony ks2 js2 S S2 := ⟨fun k hk => x.1 k (fun z => hk (h1 k z)), fun j hj => x.2 j (fun z => hj (h2 j z))⟩
theorem Ony.st {ks js : List Nat} {S S2 : MSt} {k : Nat} {g : Nat → Int32} (x : Ony ks js S S2) (hk : k ∈ ks) : Ony ks js S (S2.1, updF S2.2 k g) := ⟨fun j hj => by
  show (if j = k then g else S2.2 j) = S.2 j
  rw [if_neg (fun e => hj (by rw [e]; exact hk))]; exact x.1 j hj, x.2⟩
theorem Ony.put {ks js : List Nat} {S S2 : MSt} {k : Nat} {v : Int32} (x : Ony ks js S S2) (hk : k ∈ js) : Ony ks js S (upd S2.1 k v, S2.2) := ⟨x.1, fun j hj => by
  show (if j = k then v else S2.1 j) = S.1 j
  rw [if_neg (fun e => hj (by rw [e]; exact hk))]; exact x.2 j hj⟩
theorem updF_at {F : Nat → Nat → Int32} {k : Nat} {g : Nat → Int32} : updF F k g k = g := if_pos rfl
theorem updF_ne {F : Nat → Nat → Int32} {k j : Nat} {g : Nat → Int32} (h : j ≠ k) : updF F k g j = F j := if_neg h
section MD
variable {E : EnvT} {h h1 : Hp} {M : Nat} {S : MSt}
theorem fldM_set {w : Nat → Int32} {k : Nat} {v : Int32} (hk : isMI k) : (fldM M w).set k (.int v) = fldM M (upd w k v) := by
  simp only [List.mem_cons, List.not_mem_nil, or_false] at hk
  rcases hk with rfl | rfl | rfl | rfl | rfl | rfl | rfl | rfl | rfl | rfl | rfl | rfl | rfl | rfl | rfl | rfl <;> rfl
theorem MdAt.put {k : Nat} {v : Int32} (x : MdAt E h M S) (u : Upd h h1 M (.inr (10, (fldM M S.1).set k (.int v)))) (hk : isMI k) : MdAt E h1 M (upd S.1 k v, S.2) := by
  rw [fldM_set hk] at u
  exact ⟨u.2.1, fun j h1 h2 => (u.2.2 _ (by omega)).trans (x.2 j h1 h2)⟩
theorem MdAt.st {k : Nat} {g : Nat → Int32} (x : MdAt E h M S) (u : Upd h h1 (M + k) (.inl (E.2.2.1 (mTy k), mLen k, .inl g))) (hk : 1 ≤ k) : MdAt E h1 M (S.1, updF S.2 k g) := by
  refine ⟨(u.2.2 _ (by omega)).trans x.1, fun j h1 h2 => ?_⟩
  by_cases e : j = k
  · subst e
    rw [show (S.1, updF S.2 j g).2 j = g from updF_at]; exact u.2.1
  · rw [show (S.1, updF S.2 k g).2 j = S.2 j from updF_ne e]
    exact (u.2.2 _ (by omega)).trans (x.2 j h1 h2)
theorem MdAt.ag (x : MdAt E h M S) (o : Ag h h1 M (M + 23)) : MdAt E h1 M S := ⟨(o _ (by omega) (by omega)).trans x.1, fun k a b => (o _ (by omega) (by omega)).trans (x.2 k a b)⟩
theorem MdAt.a1 (x : MdAt E h M S) : h.2 (M + 1) = some (.inl (E.2.2.1 0, 3063, .inl (S.2 1))) := x.2 1 (by decide) (by decide)
theorem MdAt.a2 (x : MdAt E h M S) : h.2 (M + 2) = some (.inl (E.2.2.1 0, 10210, .inl (S.2 2))) := x.2 2 (by decide) (by decide)
theorem MdAt.a3 (x : MdAt E h M S) : h.2 (M + 3) = some (.inl (E.2.2.1 0, 1021, .inl (S.2 3))) := x.2 3 (by decide) (by decide)
theorem MdAt.a4 (x : MdAt E h M S) : h.2 (M + 4) = some (.inl (E.2.2.1 0, 3063, .inl (S.2 4))) := x.2 4 (by decide) (by decide)
theorem MdAt.a5 (x : MdAt E h M S) : h.2 (M + 5) = some (.inl (E.2.2.1 1, 2, .inl (S.2 5))) := x.2 5 (by decide) (by decide)
theorem MdAt.a6 (x : MdAt E h M S) : h.2 (M + 6) = some (.inl (E.2.2.1 0, 86, .inl (S.2 6))) := x.2 6 (by decide) (by decide)
theorem MdAt.a7 (x : MdAt E h M S) : h.2 (M + 7) = some (.inl (E.2.2.1 0, 86, .inl (S.2 7))) := x.2 7 (by decide) (by decide)
theorem MdAt.a8 (x : MdAt E h M S) : h.2 (M + 8) = some (.inl (E.2.2.1 0, 240, .inl (S.2 8))) := x.2 8 (by decide) (by decide)
theorem MdAt.a9 (x : MdAt E h M S) : h.2 (M + 9) = some (.inl (E.2.2.1 0, 240, .inl (S.2 9))) := x.2 9 (by decide) (by decide)
theorem MdAt.a10 (x : MdAt E h M S) : h.2 (M + 10) = some (.inl (E.2.2.1 2, 260, .inl (S.2 10))) := x.2 10 (by decide) (by decide)
theorem MdAt.a11 (x : MdAt E h M S) : h.2 (M + 11) = some (.inl (E.2.2.1 0, 20, .inl (S.2 11))) := x.2 11 (by decide) (by decide)
theorem MdAt.a12 (x : MdAt E h M S) : h.2 (M + 12) = some (.inl (E.2.2.1 0, 1021, .inl (S.2 12))) := x.2 12 (by decide) (by decide)
theorem MdAt.a13 (x : MdAt E h M S) : h.2 (M + 13) = some (.inl (E.2.2.1 0, 1090, .inl (S.2 13))) := x.2 13 (by decide) (by decide)
theorem MdAt.a14 (x : MdAt E h M S) : h.2 (M + 14) = some (.inl (E.2.2.1 1, 86, .inl (S.2 14))) := x.2 14 (by decide) (by decide)
theorem MdAt.a15 (x : MdAt E h M S) : h.2 (M + 15) = some (.inl (E.2.2.1 0, 86, .inl (S.2 15))) := x.2 15 (by decide) (by decide)
theorem MdAt.a16 (x : MdAt E h M S) : h.2 (M + 16) = some (.inl (E.2.2.1 0, 86, .inl (S.2 16))) := x.2 16 (by decide) (by decide)
theorem MdAt.a17 (x : MdAt E h M S) : h.2 (M + 17) = some (.inl (E.2.2.1 0, 86, .inl (S.2 17))) := x.2 17 (by decide) (by decide)
theorem MdAt.a18 (x : MdAt E h M S) : h.2 (M + 18) = some (.inl (E.2.2.1 0, 86, .inl (S.2 18))) := x.2 18 (by decide) (by decide)
theorem MdAt.a19 (x : MdAt E h M S) : h.2 (M + 19) = some (.inl (E.2.2.1 0, 86, .inl (S.2 19))) := x.2 19 (by decide) (by decide)
theorem MdAt.a20 (x : MdAt E h M S) : h.2 (M + 20) = some (.inl (E.2.2.1 0, 7396, .inl (S.2 20))) := x.2 20 (by decide) (by decide)
theorem MdAt.a21 (x : MdAt E h M S) : h.2 (M + 21) = some (.inl (E.2.2.1 0, 7396, .inl (S.2 21))) := x.2 21 (by decide) (by decide)
theorem MdAt.a22 (x : MdAt E h M S) : h.2 (M + 22) = some (.inl (E.2.2.1 0, 240, .inl (S.2 22))) := x.2 22 (by decide) (by decide)
theorem MdAt.s1 {g : Nat → Int32} (x : MdAt E h M S) (u : Upd h h1 (M + 1) (.inl (E.2.2.1 0, 3063, .inl g))) : MdAt E h1 M (S.1, updF S.2 1 g) := x.st (k := 1) u (by decide)
theorem MdAt.s2 {g : Nat → Int32} (x : MdAt E h M S) (u : Upd h h1 (M + 2) (.inl (E.2.2.1 0, 10210, .inl g))) : MdAt E h1 M (S.1, updF S.2 2 g) := x.st (k := 2) u (by decide)
theorem MdAt.s3 {g : Nat → Int32} (x : MdAt E h M S) (u : Upd h h1 (M + 3) (.inl (E.2.2.1 0, 1021, .inl g))) : MdAt E h1 M (S.1, updF S.2 3 g) := x.st (k := 3) u (by decide)
theorem MdAt.s4 {g : Nat → Int32} (x : MdAt E h M S) (u : Upd h h1 (M + 4) (.inl (E.2.2.1 0, 3063, .inl g))) : MdAt E h1 M (S.1, updF S.2 4 g) := x.st (k := 4) u (by decide)
theorem MdAt.s5 {g : Nat → Int32} (x : MdAt E h M S) (u : Upd h h1 (M + 5) (.inl (E.2.2.1 1, 2, .inl g))) : MdAt E h1 M (S.1, updF S.2 5 g) := x.st (k := 5) u (by decide)
theorem MdAt.s6 {g : Nat → Int32} (x : MdAt E h M S) (u : Upd h h1 (M + 6) (.inl (E.2.2.1 0, 86, .inl g))) : MdAt E h1 M (S.1, updF S.2 6 g) := x.st (k := 6) u (by decide)
theorem MdAt.s7 {g : Nat → Int32} (x : MdAt E h M S) (u : Upd h h1 (M + 7) (.inl (E.2.2.1 0, 86, .inl g))) : MdAt E h1 M (S.1, updF S.2 7 g) := x.st (k := 7) u (by decide)
theorem MdAt.s8 {g : Nat → Int32} (x : MdAt E h M S) (u : Upd h h1 (M + 8) (.inl (E.2.2.1 0, 240, .inl g))) : MdAt E h1 M (S.1, updF S.2 8 g) := x.st (k := 8) u (by decide)
theorem MdAt.s9 {g : Nat → Int32} (x : MdAt E h M S) (u : Upd h h1 (M + 9) (.inl (E.2.2.1 0, 240, .inl g))) : MdAt E h1 M (S.1, updF S.2 9 g) := x.st (k := 9) u (by decide)
theorem MdAt.s10 {g : Nat → Int32} (x : MdAt E h M S) (u : Upd h h1 (M + 10) (.inl (E.2.2.1 2, 260, .inl g))) : MdAt E h1 M (S.1, updF S.2 10 g) := x.st (k := 10) u (by decide)
theorem MdAt.s11 {g : Nat → Int32} (x : MdAt E h M S) (u : Upd h h1 (M + 11) (.inl (E.2.2.1 0, 20, .inl g))) : MdAt E h1 M (S.1, updF S.2 11 g) := x.st (k := 11) u (by decide)
theorem MdAt.s12 {g : Nat → Int32} (x : MdAt E h M S) (u : Upd h h1 (M + 12) (.inl (E.2.2.1 0, 1021, .inl g))) : MdAt E h1 M (S.1, updF S.2 12 g) := x.st (k := 12) u (by decide)
theorem MdAt.s13 {g : Nat → Int32} (x : MdAt E h M S) (u : Upd h h1 (M + 13) (.inl (E.2.2.1 0, 1090, .inl g))) : MdAt E h1 M (S.1, updF S.2 13 g) := x.st (k := 13) u (by decide)
theorem MdAt.s14 {g : Nat → Int32} (x : MdAt E h M S) (u : Upd h h1 (M + 14) (.inl (E.2.2.1 1, 86, .inl g))) : MdAt E h1 M (S.1, updF S.2 14 g) := x.st (k := 14) u (by decide)
theorem MdAt.s15 {g : Nat → Int32} (x : MdAt E h M S) (u : Upd h h1 (M + 15) (.inl (E.2.2.1 0, 86, .inl g))) : MdAt E h1 M (S.1, updF S.2 15 g) := x.st (k := 15) u (by decide)
theorem MdAt.s16 {g : Nat → Int32} (x : MdAt E h M S) (u : Upd h h1 (M + 16) (.inl (E.2.2.1 0, 86, .inl g))) : MdAt E h1 M (S.1, updF S.2 16 g) := x.st (k := 16) u (by decide)
theorem MdAt.s17 {g : Nat → Int32} (x : MdAt E h M S) (u : Upd h h1 (M + 17) (.inl (E.2.2.1 0, 86, .inl g))) : MdAt E h1 M (S.1, updF S.2 17 g) := x.st (k := 17) u (by decide)
theorem MdAt.s18 {g : Nat → Int32} (x : MdAt E h M S) (u : Upd h h1 (M + 18) (.inl (E.2.2.1 0, 86, .inl g))) : MdAt E h1 M (S.1, updF S.2 18 g) := x.st (k := 18) u (by decide)
theorem MdAt.s19 {g : Nat → Int32} (x : MdAt E h M S) (u : Upd h h1 (M + 19) (.inl (E.2.2.1 0, 86, .inl g))) : MdAt E h1 M (S.1, updF S.2 19 g) := x.st (k := 19) u (by decide)
theorem MdAt.s20 {g : Nat → Int32} (x : MdAt E h M S) (u : Upd h h1 (M + 20) (.inl (E.2.2.1 0, 7396, .inl g))) : MdAt E h1 M (S.1, updF S.2 20 g) := x.st (k := 20) u (by decide)
theorem MdAt.s21 {g : Nat → Int32} (x : MdAt E h M S) (u : Upd h h1 (M + 21) (.inl (E.2.2.1 0, 7396, .inl g))) : MdAt E h1 M (S.1, updF S.2 21 g) := x.st (k := 21) u (by decide)
theorem MdAt.s22 {g : Nat → Int32} (x : MdAt E h M S) (u : Upd h h1 (M + 22) (.inl (E.2.2.1 0, 240, .inl g))) : MdAt E h1 M (S.1, updF S.2 22 g) := x.st (k := 22) u (by decide)
end MD
/-- the words of a packing in a row of numbers, from o on -/
def recF (f : Nat → Int32) (o : Nat) (q : Pk) : Prop := q.1.length ≤ 240 ∧ f o = nI q.1.length ∧ (∀ i x, q.1[i]? = some x → f (o + (1 + i)) = nI x) ∧ ∀ r, r < 60 → (q.2 r).length ≤ 12 ∧ f (o + (241 + 13 * r)) = nI (q.2 r).length ∧ ∀ i x, (q.2 r)[i]? = some x → f (o + (241 + 13 * r + 1 + i)) = nI x
abbrev curF (f : Nat → Int32) (q : Pk) : Prop := recF f 0 q
section RECF
variable {f g : Nat → Int32} {q : Pk} {o : Nat}
theorem recF.many (c : curF f q) : f 0 = nI q.1.length := c.2.1
theorem recF.sg (c : curF f q) {i x : Nat} (h : q.1[i]? = some x) : f (1 + i) = nI x := by have := c.2.2.1 i x h; rwa [Nat.zero_add] at this
theorem recF.rl (c : curF f q) {r : Nat} (h : r < 60) : f (241 + 13 * r) = nI (q.2 r).length := by have := (c.2.2.2 r h).2.1; rwa [Nat.zero_add] at this
theorem recF.rx (c : curF f q) {r i x : Nat} (h : r < 60) (hx : (q.2 r)[i]? = some x) : f (241 + 13 * r + 1 + i) = nI x := by have := (c.2.2.2 r h).2.2 i x hx; rwa [Nat.zero_add] at this
theorem recF.copy {o2 : Nat} (c : recF f o q) (h : ∀ k, k < 1021 → g (o2 + k) = f (o + k)) : recF g o2 q := by
  obtain ⟨a, b, d, e⟩ := c
  refine ⟨a, ?_, fun i x hx => ?_, fun r hr => ?_⟩
  · have := h 0 (by decide); rw [Nat.add_zero, Nat.add_zero] at this; rw [this]; exact b
  · have hi := (List.getElem?_eq_some_iff.mp hx).1
    rw [h _ (by omega)]; exact d i x hx
  · obtain ⟨e1, e2, e3⟩ := e r hr
    refine ⟨e1, by rw [h _ (by omega)]; exact e2, fun i x hx => ?_⟩
    have hi := (List.getElem?_eq_some_iff.mp hx).1
    rw [h _ (by omega)]; exact e3 i x hx
theorem recF.same (c : recF f o q) (h : ∀ k, k < 1021 → g (o + k) = f (o + k)) : recF g o q := c.copy h
end RECF
section MD1
variable {E : EnvT} {h h1 : Hp} {M : Nat} {S : MSt} {q : Pk}
set_option maxHeartbeats 4000000 in
theorem Md_isInL (a b c : Int64) : Spec E k_X10_isIn 1 0 0 [.long a, .long b, .long c] h (fun v h' => v = some (.int (nI (if ¬ a < b ∧ ¬ c < a then 1 else 0))) ∧ h' = h) := by
  refine Met.ofWF (cc := k_X10_isIn.2.1) (maxL := k_X10_isIn.2.2.1) (ret := k_X10_isIn.2.2.2) (by decide +kernel) rfl ?_
  intro p e s m args below meth c2 s₁ B hml hv
  obtain ⟨rfl, hR, hK⟩ := hv
  have hl := lv_entry [.long a, .long b, .long c] (n := 6) (Nat.le_refl 6)
  rw [lg_entry_eq]
  have e6 : k_X10_isIn.2.2.1 = 6 := rfl
  rw [e6]
  generalize (lg_sl [.long a, .long b, .long c] ++ List.replicate (6 - (lg_sl [.long a, .long b, .long c]).length) Slot.unset).toArray = ls at hl ⊢
  have done : ∀ (w : Int32) (u : Int32), w = nI (if ¬ a < b ∧ ¬ c < a then 1 else 0) → narrow .boolean (.int w) = .int w → W p E.1 e (headSpec (wsE k_X10_isIn) (rmE 1 0 0)).room s m #[Value.long a, Value.long b, Value.long c] below meth c2 s.heap [] 0 0 (MQ below (QcE E (fun v h' => v = some (.int (nI (if ¬ a < b ∧ ¬ c < a then 1 else 0))) ∧ h' = h)) #[Value.long a, Value.long b, Value.long c] s 0 0 (fun q => E.2.2.2.size ≤ q)) (F0 m 18 ls [.int w]) := by
    intro w u hw hn
    exact W.zret B.exec B.bytes (ty := .boolean) (B.returns.trans rfl) hn (fun t ht _ => ⟨some (.int w), h, rfl, by rw [ht]; exact hR, by rw [hw], rfl⟩) (fun q hq => by cases hq) dX10_isIn_18 B.notSynchronized
  refine lv_lload_n B.exec B.bytes dX10_isIn_0 rfl (lv_at hl 0 rfl) ?_
  refine lv_lload_n B.exec B.bytes dX10_isIn_1 rfl (lv_at hl 1 rfl) ?_
  refine W.lcmp B.exec B.bytes dX10_isIn_2 ?_
  refine lv_if_lt (tgt := 17) B.exec B.bytes dX10_isIn_3 (by decide) (fun z => ?_) (fun z => ?_)
  · refine lv_iconst (v := nI 0) B.exec B.bytes dX10_isIn_17 (by decide) ?_
    exact done _ 0 (by rw [if_neg (fun y => y.1 ((lg_cmp_lt _ _).mp z))]) (by decide)
  · refine lv_lload_n B.exec B.bytes dX10_isIn_6 rfl (lv_at hl 0 rfl) ?_
    refine lv_lload B.exec B.bytes dX10_isIn_7 (lv_at hl 2 rfl) ?_
    refine W.lcmp B.exec B.bytes dX10_isIn_9 ?_
    refine lv_if_gt (tgt := 17) B.exec B.bytes dX10_isIn_10 (by decide) (fun y => ?_) (fun y => ?_)
    · refine lv_iconst (v := nI 0) B.exec B.bytes dX10_isIn_17 (by decide) ?_
      exact done _ 0 (by rw [if_neg (fun w => w.2 ((lg_cmp_gt _ _).mp y))]) (by decide)
    · refine lv_iconst (v := nI 1) B.exec B.bytes dX10_isIn_13 (by decide) ?_
      refine lv_goto (tgt := 18) B.exec B.bytes dX10_isIn_14 (by decide) ?_
      exact done _ 0 (by rw [if_pos ⟨fun w => z ((lg_cmp_lt _ _).mpr w), fun w => y ((lg_cmp_gt _ _).mpr w)⟩]) (by decide)
theorem I64_lt {x y : Int32} : x.toInt64 < y.toInt64 ↔ x < y := by
  rw [Int64.lt_iff_toInt_lt, Int32.lt_iff_toInt_lt, Int32.toInt_toInt64, Int32.toInt_toInt64]
/-- isIn of three ints -/
theorem Md_isIn (x lo hi : Int32) {l u : Int64} (hl : lo.toInt64 = l) (hu : hi.toInt64 = u) : Spec E k_X10_isIn 1 0 0 [.long x.toInt64, .long l, .long u] h (fun v h' => v = some (.int (nI (if lo ≤ x ∧ x ≤ hi then 1 else 0))) ∧ h' = h) := by
  subst hl hu
  have := Md_isInL (E := E) (h := h) x.toInt64 lo.toInt64 hi.toInt64
  rwa [if_iff (show (¬ x.toInt64 < lo.toInt64 ∧ ¬ hi.toInt64 < x.toInt64) ↔ (lo ≤ x ∧ x ≤ hi) from by rw [I64_lt, I64_lt, Int32.not_lt, Int32.not_lt])] at this
theorem Md_greater {a b : Nat} (ha : a < 2 ^ 31) (hb : b < 2 ^ 31) : Spec E k_X10_greater 1 0 0 [.int (nI a), .int (nI b)] h (fun v h' => v = some (.int (nI (max a b))) ∧ h' = h) := by
  refine Spec.of (by decide +kernel) (by simp [Value.category]) (Nat.le_of_ble_eq_true rfl) ?_
  show WP E k_X10_greater 1 0 0 0 [some (.int (nI a)), some (.int (nI b))] [] h _
  refine R_iload_n dX10_greater_0 rfl ?_
  refine R_iload_n dX10_greater_1 rfl ?_
  refine R_icmp_le_N (tgt := 9) dX10_greater_2 (by decide) (by omega) (by omega) (fun c2 => ?_) (fun c2 => ?_)
  -- X10_greater: ('branch', 2, 9, 5)
  · refine R_iload_n dX10_greater_9 rfl ?_
    refine R_ireturn dX10_greater_10 rfl rfl ?_
    -- X10_greater: ('ret', 10)
    exact ⟨by rw [show max a b = b by omega], rfl⟩
  · refine R_iload_n dX10_greater_5 rfl ?_
    refine R_goto (tgt := 10) dX10_greater_6 (by decide) ?_
    refine R_ireturn dX10_greater_10 rfl rfl ?_
    -- X10_greater: ('ret', 10)
    exact ⟨by rw [show max a b = a by omega], rfl⟩
theorem Md_lesser {a b : Nat} (ha : a < 2 ^ 31) (hb : b < 2 ^ 31) : Spec E k_X10_lesser 1 0 0 [.int (nI a), .int (nI b)] h (fun v h' => v = some (.int (nI (min a b))) ∧ h' = h) := by
  refine Spec.of (by decide +kernel) (by simp [Value.category]) (Nat.le_of_ble_eq_true rfl) ?_
  show WP E k_X10_lesser 1 0 0 0 [some (.int (nI a)), some (.int (nI b))] [] h _
  refine R_iload_n dX10_lesser_0 rfl ?_
  refine R_iload_n dX10_lesser_1 rfl ?_
  refine R_icmp_ge_N (tgt := 9) dX10_lesser_2 (by decide) (by omega) (by omega) (fun c2 => ?_) (fun c2 => ?_)
  -- X10_lesser: ('branch', 2, 9, 5)
  · refine R_iload_n dX10_lesser_9 rfl ?_
    refine R_ireturn dX10_lesser_10 rfl rfl ?_
    -- X10_lesser: ('ret', 10)
    exact ⟨by rw [show min a b = b by omega], rfl⟩
  · refine R_iload_n dX10_lesser_5 rfl ?_
    refine R_goto (tgt := 10) dX10_lesser_6 (by decide) ?_
    refine R_ireturn dX10_lesser_10 rfl rfl ?_
    -- X10_lesser: ('ret', 10)
    exact ⟨by rw [show min a b = a by omega], rfl⟩
theorem cpy_step {f g : Nat → Int32} {sp dp t : Nat} : upd (va_cpy f g sp dp t) (dp + t) (f (sp + t)) = va_cpy f g sp dp (t + 1) := by
  funext k
  show (if k = dp + t then f (sp + t) else if dp ≤ k ∧ k < dp + t then f (sp + (k - dp)) else g k) = if dp ≤ k ∧ k < dp + (t + 1) then f (sp + (k - dp)) else g k
  by_cases e : k = dp + t
  · rw [if_pos e, if_pos (by omega), show sp + (k - dp) = sp + t by omega]
  · rw [if_neg e]
    exact if_iff (by omega)
/-- numbers copied from one array to another -/
theorem Md_copies {a b n0 n1 : Nat} {f g : Nat → Int32} {sp dp n : Nat} (ha : h.2 a = some (.inl (E.2.2.1 0, n0, .inl f))) (hb : h.2 b = some (.inl (E.2.2.1 0, n1, .inl g))) (hne : a ≠ b) (h0 : sp + n ≤ n0) (h1 : dp + n ≤ n1) (k0 : n0 < 100000) (k1 : n1 < 100000) : Spec E k_X10_copies 1 0 0 [.ref a, .int (nI sp), .ref b, .int (nI dp), .int (nI n)] h (fun v h' => v = none ∧ Upd h h' b (.inl (E.2.2.1 0, n1, .inl (va_cpy f g sp dp n)))) := by
  refine Spec.of (by decide +kernel) (by simp [Value.category]) (Nat.le_of_ble_eq_true rfl) ?_
  show WP E k_X10_copies 1 0 0 0 [some (.ref a), some (.int (nI sp)), some (.ref b), some (.int (nI dp)), some (.int (nI n)), none] [] h _
  have loop : ∀ m t h2, t + m = n → Upd h h2 b (.inl (E.2.2.1 0, n1, .inl (va_cpy f g sp dp t))) → WP E k_X10_copies 1 0 0 3 [some (.ref a), some (.int (nI sp)), some (.ref b), some (.int (nI dp)), some (.int (nI n)), some (.int (nI t))] [] h2 (fun v h' => v = none ∧ Upd h h' b (.inl (E.2.2.1 0, n1, .inl (va_cpy f g sp dp n)))) := by
    intro m
    induction m with
    | zero =>
      intro t h2 ht u
      obtain rfl : t = n := by omega
      refine R_iload dX10_copies_3 rfl ?_
      refine R_iload dX10_copies_5 rfl ?_
      refine R_icmp_ge_N (tgt := 28) dX10_copies_7 (by decide) (by omega) (by omega) (fun c7 => ?_) (fun c7 => ?_)
      -- X10_copies: ('branch', 7, 28, 10)
      · refine R_return dX10_copies_28 rfl ?_
        -- X10_copies: ('ret', 28)
        exact ⟨rfl, u⟩
      · exact absurd c7 (by omega)
    | succ m ih =>
      intro t h2 ht u
      have ha2 := (u.2.2 a hne).trans ha
      refine R_iload dX10_copies_3 rfl ?_
      refine R_iload dX10_copies_5 rfl ?_
      refine R_icmp_ge_N (tgt := 28) dX10_copies_7 (by decide) (by omega) (by omega) (fun c7 => ?_) (fun c7 => ?_)
      -- X10_copies: ('branch', 7, 28, 10)
      · exact absurd c7 (by omega)
      · refine R_aload_n dX10_copies_10 rfl ?_
        refine R_iload_n dX10_copies_11 rfl ?_
        refine R_iload dX10_copies_12 rfl ?_
        refine R_iadd_N dX10_copies_14 ?_
        refine R_aload_n dX10_copies_15 rfl ?_
        refine R_iload_n dX10_copies_16 rfl ?_
        refine R_iload dX10_copies_17 rfl ?_
        refine R_iadd_N dX10_copies_19 ?_
        refine R_iaload_N dX10_copies_20 ha2 (by omega) (by omega) rfl ?_
        refine R_iastore_N dX10_copies_21 u.2.1 (by omega) (by omega) ?_
        -- X10_copies: ('put', 22)
        intro h3 u3
        refine R_iinc5 dX10_copies_22 (by decide) (nI_inc _ 1) ?_
        refine R_goto (tgt := 3) dX10_copies_25 (by decide) ?_
        -- X10_copies: ('stop', 3)
        refine ih (t + 1) h3 (by omega) ⟨u3.1.trans u.1, ?_, fun q hq => (u3.2.2 q hq).trans (u.2.2 q hq)⟩
        rw [← cpy_step]; exact u3.2.1
  refine R_iconst (v := nI 0) dX10_copies_0 (by decide) ?_
  refine R_istore5 dX10_copies_1 (by decide) ?_
  -- X10_copies: ('stop', 3)
  have hc0 : va_cpy f g sp dp 0 = g := by funext k; exact if_neg (by omega)
  exact loop n 0 h (by omega) ⟨rfl, by rw [hc0]; exact hb, fun _ _ => rfl⟩
/-- numbers copied within an array, to the left or far off -/
theorem Md_copiesIn {a n0 : Nat} {f : Nat → Int32} {sp dp n : Nat} (ha : h.2 a = some (.inl (E.2.2.1 0, n0, .inl f))) (hd : dp ≤ sp ∨ sp + n ≤ dp) (h0 : sp + n ≤ n0) (h1 : dp + n ≤ n0) (k0 : n0 < 100000) : Spec E k_X10_copies 1 0 0 [.ref a, .int (nI sp), .ref a, .int (nI dp), .int (nI n)] h (fun v h' => v = none ∧ Upd h h' a (.inl (E.2.2.1 0, n0, .inl (va_cpy f f sp dp n)))) := by
  refine Spec.of (by decide +kernel) (by simp [Value.category]) (Nat.le_of_ble_eq_true rfl) ?_
  show WP E k_X10_copies 1 0 0 0 [some (.ref a), some (.int (nI sp)), some (.ref a), some (.int (nI dp)), some (.int (nI n)), none] [] h _
  have loop : ∀ m t h2, t + m = n → Upd h h2 a (.inl (E.2.2.1 0, n0, .inl (va_cpy f f sp dp t))) → WP E k_X10_copies 1 0 0 3 [some (.ref a), some (.int (nI sp)), some (.ref a), some (.int (nI dp)), some (.int (nI n)), some (.int (nI t))] [] h2 (fun v h' => v = none ∧ Upd h h' a (.inl (E.2.2.1 0, n0, .inl (va_cpy f f sp dp n)))) := by
    intro m
    induction m with
    | zero =>
      intro t h2 ht u
      obtain rfl : t = n := by omega
      refine R_iload dX10_copies_3 rfl ?_
      refine R_iload dX10_copies_5 rfl ?_
      refine R_icmp_ge_N (tgt := 28) dX10_copies_7 (by decide) (by omega) (by omega) (fun c7 => ?_) (fun c7 => ?_)
      -- X10_copies: ('branch', 7, 28, 10)
      · refine R_return dX10_copies_28 rfl ?_
        -- X10_copies: ('ret', 28)
        exact ⟨rfl, u⟩
      · exact absurd c7 (by omega)
    | succ m ih =>
      intro t h2 ht u
      have hv : va_cpy f f sp dp t (sp + t) = f (sp + t) := if_neg (by omega)
      refine R_iload dX10_copies_3 rfl ?_
      refine R_iload dX10_copies_5 rfl ?_
      refine R_icmp_ge_N (tgt := 28) dX10_copies_7 (by decide) (by omega) (by omega) (fun c7 => ?_) (fun c7 => ?_)
      -- X10_copies: ('branch', 7, 28, 10)
      · exact absurd c7 (by omega)
      · refine R_aload_n dX10_copies_10 rfl ?_
        refine R_iload_n dX10_copies_11 rfl ?_
        refine R_iload dX10_copies_12 rfl ?_
        refine R_iadd_N dX10_copies_14 ?_
        refine R_aload_n dX10_copies_15 rfl ?_
        refine R_iload_n dX10_copies_16 rfl ?_
        refine R_iload dX10_copies_17 rfl ?_
        refine R_iadd_N dX10_copies_19 ?_
        refine R_iaload_N dX10_copies_20 u.2.1 (by omega) (by omega) hv ?_
        refine R_iastore_N dX10_copies_21 u.2.1 (by omega) (by omega) ?_
        -- X10_copies: ('put', 22)
        intro h3 u3
        refine R_iinc5 dX10_copies_22 (by decide) (nI_inc _ 1) ?_
        refine R_goto (tgt := 3) dX10_copies_25 (by decide) ?_
        -- X10_copies: ('stop', 3)
        refine ih (t + 1) h3 (by omega) ⟨u3.1.trans u.1, ?_, fun q hq => (u3.2.2 q hq).trans (u.2.2 q hq)⟩
        rw [← cpy_step]; exact u3.2.1
  refine R_iconst (v := nI 0) dX10_copies_0 (by decide) ?_
  refine R_istore5 dX10_copies_1 (by decide) ?_
  -- X10_copies: ('stop', 3)
  have hc0 : va_cpy f f sp dp 0 = f := by funext k; exact if_neg (by omega)
  exact loop n 0 h (by omega) ⟨rfl, by rw [hc0]; exact ha, fun _ _ => rfl⟩
theorem Md_rowAt {s : Nat} (h26 : 26 ≤ s) : Spec E k_X10_rowAt 1 0 0 [.int (nI s)] h (fun v h' => v = some (.int (nI (241 + 13 * (s - 26)))) ∧ h' = h) := by
  refine Spec.of (by decide +kernel) (by simp [Value.category]) (Nat.le_of_ble_eq_true rfl) ?_
  show WP E k_X10_rowAt 1 0 0 0 [some (.int (nI s))] [] h _
  refine R_sipush (v := nI 241) dX10_rowAt_0 (by decide) ?_
  refine R_bipush (v := nI 13) dX10_rowAt_3 (by decide) ?_
  refine R_iload_n dX10_rowAt_5 rfl ?_
  refine R_bipush (v := nI 26) dX10_rowAt_6 (by decide) ?_
  refine R_isub_N dX10_rowAt_8 (by omega) ?_
  refine R_imul_N dX10_rowAt_9 ?_
  refine R_iadd_N dX10_rowAt_10 ?_
  refine R_ireturn dX10_rowAt_11 rfl rfl ?_
  -- X10_rowAt: ('ret', 11)
  exact ⟨rfl, rfl⟩
theorem Md_many (x : MdAt E h M S) (c : curF (S.2 1) q) : Spec E k_X10_many 1 0 0 [.ref M] h (fun v h' => v = some (.int (nI q.1.length)) ∧ h' = h) := by
  refine Spec.of (by decide +kernel) (by simp [Value.category]) (Nat.le_of_ble_eq_true rfl) ?_
  show WP E k_X10_many 1 0 0 0 [some (.ref M)] [] h _
  refine R_aload_n dX10_many_0 rfl ?_
  refine R_get K_10 (f := 1) (by decide) dX10_many_1 f_RX10_13 x.1 rfl ?_
  refine R_iconst (v := nI 0) dX10_many_4 (by decide) ?_
  refine R_iaload_N dX10_many_5 x.a1 (by omega) (by omega) c.many ?_
  refine R_ireturn dX10_many_6 rfl rfl ?_
  -- X10_many: ('ret', 6)
  exact ⟨rfl, rfl⟩
theorem Md_signAt (x : MdAt E h M S) (c : curF (S.2 1) q) {i y : Nat} (hy : q.1[i]? = some y) : Spec E k_X10_signAt 1 0 0 [.ref M, .int (nI i)] h (fun v h' => v = some (.int (nI y)) ∧ h' = h) := by
  have hi := (List.getElem?_eq_some_iff.mp hy).1
  have hl := c.1
  refine Spec.of (by decide +kernel) (by simp [Value.category]) (Nat.le_of_ble_eq_true rfl) ?_
  show WP E k_X10_signAt 1 0 0 0 [some (.ref M), some (.int (nI i))] [] h _
  refine R_aload_n dX10_signAt_0 rfl ?_
  refine R_get K_10 (f := 1) (by decide) dX10_signAt_1 f_RX10_13 x.1 rfl ?_
  refine R_iconst (v := nI 1) dX10_signAt_4 (by decide) ?_
  refine R_iload_n dX10_signAt_5 rfl ?_
  refine R_iadd_N dX10_signAt_6 ?_
  refine R_iaload_N dX10_signAt_7 x.a1 (by omega) (by omega) (c.sg hy) ?_
  refine R_ireturn dX10_signAt_8 rfl rfl ?_
  -- X10_signAt: ('ret', 8)
  exact ⟨rfl, rfl⟩
theorem Md_rowLong (x : MdAt E h M S) (c : curF (S.2 1) q) {s : Nat} (hs : s < 86) : Spec E k_X10_rowLong 2 0 0 [.ref M, .int (nI s)] h (fun v h' => v = some (.int (nI (rowOf q.2 s).length)) ∧ h' = h) := by
  refine Spec.of (by decide +kernel) (by simp [Value.category]) (Nat.le_of_ble_eq_true rfl) ?_
  show WP E k_X10_rowLong 2 0 0 0 [some (.ref M), some (.int (nI s))] [] h _
  refine R_iload_n dX10_rowLong_0 rfl ?_
  refine R_bipush (v := nI 26) dX10_rowLong_1 (by decide) ?_
  refine R_icmp_ge_N (tgt := 10) dX10_rowLong_3 (by decide) (by omega) (by omega) (fun c3 => ?_) (fun c3 => ?_)
  -- X10_rowLong: ('branch', 3, 10, 6)
  · refine R_aload_n dX10_rowLong_10 rfl ?_
    refine R_get K_10 (f := 1) (by decide) dX10_rowLong_11 f_RX10_13 x.1 rfl ?_
    refine R_iload_n dX10_rowLong_14 rfl ?_
    -- X10_rowLong: ('call', 15, '.invokestatic', 92)
    refine R_callS s_X10_rowAt (Md_rowAt c3) dX10_rowLong_15 l_RX10_92 rfl rfl (Nat.le_of_ble_eq_true rfl) (by omega) rfl rfl (fun v h2 hq => ?_)
    obtain ⟨rfl, e9⟩ := hq
    rw [e9]
    refine R_iaload_N dX10_rowLong_18 x.a1 (by omega) (by omega) (c.rl (r := s - 26) (by omega)) ?_
    refine R_ireturn dX10_rowLong_19 rfl rfl ?_
    -- X10_rowLong: ('ret', 19)
    exact ⟨by rw [rowOf_in ⟨c3, hs⟩], rfl⟩
  · refine R_iconst (v := nI 0) dX10_rowLong_6 (by decide) ?_
    refine R_goto (tgt := 19) dX10_rowLong_7 (by decide) ?_
    refine R_ireturn dX10_rowLong_19 rfl rfl ?_
    -- X10_rowLong: ('ret', 19)
    exact ⟨by rw [rowOf, if_neg (by omega)]; rfl, rfl⟩
theorem Md_inRow (x : MdAt E h M S) (c : curF (S.2 1) q) {s i y : Nat} (hs : s < 86) (hy : (rowOf q.2 s)[i]? = some y) : Spec E k_X10_inRow 2 0 0 [.ref M, .int (nI s), .int (nI i)] h (fun v h' => v = some (.int (nI y)) ∧ h' = h) := by
  have h26 : 26 ≤ s := by
    by_cases z : 26 ≤ s
    · exact z
    · rw [rowOf, if_neg (by omega)] at hy; simp at hy
  rw [rowOf_in ⟨h26, hs⟩] at hy
  have hi := (List.getElem?_eq_some_iff.mp hy).1
  have hl := (c.2.2.2 (s - 26) (by omega)).1
  refine Spec.of (by decide +kernel) (by simp [Value.category]) (Nat.le_of_ble_eq_true rfl) ?_
  show WP E k_X10_inRow 2 0 0 0 [some (.ref M), some (.int (nI s)), some (.int (nI i))] [] h _
  refine R_aload_n dX10_inRow_0 rfl ?_
  refine R_get K_10 (f := 1) (by decide) dX10_inRow_1 f_RX10_13 x.1 rfl ?_
  refine R_iload_n dX10_inRow_4 rfl ?_
  -- X10_inRow: ('call', 5, '.invokestatic', 92)
  refine R_callS s_X10_rowAt (Md_rowAt h26) dX10_inRow_5 l_RX10_92 rfl rfl (Nat.le_of_ble_eq_true rfl) (by omega) rfl rfl (fun v h2 hq => ?_)
  obtain ⟨rfl, e9⟩ := hq
  rw [e9]
  refine R_iconst (v := nI 1) dX10_inRow_8 (by decide) ?_
  refine R_iadd_N dX10_inRow_9 ?_
  refine R_iload_n dX10_inRow_10 rfl ?_
  refine R_iadd_N dX10_inRow_11 ?_
  refine R_iaload_N dX10_inRow_12 x.a1 (by omega) (by omega) (c.rx (r := s - 26) (by omega) hy) ?_
  refine R_ireturn dX10_inRow_13 rfl rfl ?_
  -- X10_inRow: ('ret', 13)
  exact ⟨rfl, rfl⟩
theorem in_iff {a b n : Nat} (ha : a < 2 ^ 31) (hb : b < 2 ^ 31) (hn : n < 2 ^ 31) : (nI a ≤ nI n ∧ nI n ≤ nI b) ↔ (a ≤ n ∧ n ≤ b) := by rw [nI_leI ha hn, nI_leI hn hb]
theorem Md_isSign (x : MdAt E h M S) (c : curF (S.2 1) q) (s : Int32) : Spec E k_X10_isSign 3 0 0 [.ref M, .int s] h (fun v h' => v = some (.int (nI (if sgI q.2 s then 1 else 0))) ∧ h' = h) := by
  refine Spec.of (by decide +kernel) (by simp [Value.category]) (Nat.le_of_ble_eq_true rfl) ?_
  show WP E k_X10_isSign 3 0 0 0 [some (.ref M), some (.int s)] [] h _
  refine R_iload_n dX10_isSign_0 rfl ?_
  refine R_i2l dX10_isSign_1 ?_
  refine R_lconst (v := 0) dX10_isSign_2 rfl ?_
  refine R_ldc2 dX10_isSign_3 cl_RX10_96 ?_
  -- X10_isSign: ('call', 6, '.invokestatic', 98)
  refine R_callS s_X10_isIn (Md_isIn s (nI 0) (nI 25) (by decide) (by decide)) dX10_isSign_6 l_RX10_98 rfl rfl (Nat.le_of_ble_eq_true rfl) (by omega) rfl rfl (fun v h2 hq => ?_)
  obtain ⟨rfl, e9⟩ := hq
  rw [e9]
  by_cases hn : s < 0
  · have n1 : ¬ (nI 0 ≤ s ∧ s ≤ nI 25) := fun z => absurd hn (Int32.not_lt.mpr z.1)
    have n2 : ¬ (nI 26 ≤ s ∧ s ≤ nI 85) := fun z => absurd hn (Int32.not_lt.mpr (Int32.le_trans (by decide) z.1))
    rw [if_neg n1]
    refine R_if_ne_N (tgt := 34) dX10_isSign_9 (by decide) (by omega) (fun c9 => ?_) (fun c9 => ?_)
    -- X10_isSign: ('branch', 9, 34, 12)
    · exact absurd rfl c9
    · refine R_iload_n dX10_isSign_12 rfl ?_
      refine R_i2l dX10_isSign_13 ?_
      refine R_ldc2 dX10_isSign_14 cl_RX10_102 ?_
      refine R_ldc2 dX10_isSign_17 cl_RX10_104 ?_
      -- X10_isSign: ('call', 20, '.invokestatic', 98)
      refine R_callS s_X10_isIn (Md_isIn s (nI 26) (nI 85) (by decide) (by decide)) dX10_isSign_20 l_RX10_98 rfl rfl (Nat.le_of_ble_eq_true rfl) (by omega) rfl rfl (fun v h3 hq => ?_)
      obtain ⟨rfl, e9⟩ := hq
      rw [e9, if_neg n2]
      refine R_if_eq_N (tgt := 38) dX10_isSign_23 (by decide) (by omega) (fun c23 => ?_) (fun c23 => ?_)
      -- X10_isSign: ('branch', 23, 38, 26)
      · refine R_iconst (v := nI 0) dX10_isSign_38 (by decide) ?_
        refine R_ireturn dX10_isSign_39 rfl (by rfl) ?_
        -- X10_isSign: ('ret', 39)
        exact ⟨by rw [if_neg (fun z => z.1 hn)], rfl⟩
      · exact absurd rfl c23
  · obtain ⟨n, hn2, rfl⟩ := nI_of hn
    rw [if_iff (in_iff (by decide) (by decide) hn2), if_iff (sgI_nI hn2)]
    by_cases k1 : n < 26
    · rw [if_pos (show 0 ≤ n ∧ n ≤ 25 by omega)]
      refine R_if_ne_N (tgt := 34) dX10_isSign_9 (by decide) (by omega) (fun c9 => ?_) (fun c9 => ?_)
      -- X10_isSign: ('branch', 9, 34, 12)
      · refine R_iconst (v := nI 1) dX10_isSign_34 (by decide) ?_
        refine R_goto (tgt := 39) dX10_isSign_35 (by decide) ?_
        refine R_ireturn dX10_isSign_39 rfl (by rfl) ?_
        -- X10_isSign: ('ret', 39)
        exact ⟨by rw [if_pos (Or.inl k1)], rfl⟩
      · exact absurd c9 (by decide)
    · rw [if_neg (show ¬ (0 ≤ n ∧ n ≤ 25) by omega)]
      refine R_if_ne_N (tgt := 34) dX10_isSign_9 (by decide) (by omega) (fun c9 => ?_) (fun c9 => ?_)
      -- X10_isSign: ('branch', 9, 34, 12)
      · exact absurd rfl c9
      · refine R_iload_n dX10_isSign_12 rfl ?_
        refine R_i2l dX10_isSign_13 ?_
        refine R_ldc2 dX10_isSign_14 cl_RX10_102 ?_
        refine R_ldc2 dX10_isSign_17 cl_RX10_104 ?_
        -- X10_isSign: ('call', 20, '.invokestatic', 98)
        refine R_callS s_X10_isIn (Md_isIn (nI n) (nI 26) (nI 85) (by decide) (by decide)) dX10_isSign_20 l_RX10_98 rfl rfl (Nat.le_of_ble_eq_true rfl) (by omega) rfl rfl (fun v h3 hq => ?_)
        obtain ⟨rfl, e9⟩ := hq
        rw [e9, if_iff (in_iff (by decide) (by decide) hn2)]
        by_cases k2 : n < 86
        · rw [if_pos (show 26 ≤ n ∧ n ≤ 85 by omega)]
          have hl := (c.2.2.2 (n - 26) (by omega)).1
          have hro : rowOf q.2 n = q.2 (n - 26) := rowOf_in ⟨by omega, k2⟩
          refine R_if_eq_N (tgt := 38) dX10_isSign_23 (by decide) (by omega) (fun c23 => ?_) (fun c23 => ?_)
          -- X10_isSign: ('branch', 23, 38, 26)
          · exact absurd c23 (by decide)
          · refine R_aload_n dX10_isSign_26 rfl ?_
            refine R_iload_n dX10_isSign_27 rfl ?_
            -- X10_isSign: ('call', 28, '.invokevirtual', 106)
            refine R_callV v_X10_rowLong (Md_rowLong x c k2) dX10_isSign_28 l_RX10_106 rfl rfl x.1 (Nat.le_of_ble_eq_true rfl) (by omega) rfl rfl (fun v h4 hq => ?_)
            obtain ⟨rfl, e9⟩ := hq
            rw [e9, hro]
            refine R_if_le_N (tgt := 38) dX10_isSign_31 (by decide) (by omega) (fun c31 => ?_) (fun c31 => ?_)
            -- X10_isSign: ('branch', 31, 38, 34)
            · refine R_iconst (v := nI 0) dX10_isSign_38 (by decide) ?_
              refine R_ireturn dX10_isSign_39 rfl (by rfl) ?_
              -- X10_isSign: ('ret', 39)
              exact ⟨by rw [if_neg (fun z => z.elim k1 (fun w => w.2.2 (List.eq_nil_of_length_eq_zero c31)))], rfl⟩
            · refine R_iconst (v := nI 1) dX10_isSign_34 (by decide) ?_
              refine R_goto (tgt := 39) dX10_isSign_35 (by decide) ?_
              refine R_ireturn dX10_isSign_39 rfl (by rfl) ?_
              -- X10_isSign: ('ret', 39)
              exact ⟨by rw [if_pos (Or.inr ⟨by omega, k2, fun e => by rw [e] at c31; simp at c31⟩)], rfl⟩
        · rw [if_neg (show ¬ (26 ≤ n ∧ n ≤ 85) by omega)]
          refine R_if_eq_N (tgt := 38) dX10_isSign_23 (by decide) (by omega) (fun c23 => ?_) (fun c23 => ?_)
          -- X10_isSign: ('branch', 23, 38, 26)
          · refine R_iconst (v := nI 0) dX10_isSign_38 (by decide) ?_
            refine R_ireturn dX10_isSign_39 rfl (by rfl) ?_
            -- X10_isSign: ('ret', 39)
            exact ⟨by rw [if_neg (fun z => k2 (isSg_lt z))], rfl⟩
          · exact absurd rfl c23
end MD1
