/-! PAIRPACKER: the object, and what it stands for -/
abbrev Pk : Type := List Nat × Ru
def deedsAt (E : EnvT) (h : Hp) (Q : Nat) (ds : List Pk) : Prop := ∃ nx ks, PastAt E h Q nx ds.length ks ∧ ∀ j x, ds[j]? = some x → ks ((nx + 10 - ds.length + j) % 10) = x
def imgAt (E : EnvT) (h : Hp) (X : Nat) (im : Nat → Pk) (md : Nat → Nat) : Prop := (∃ g : Nat → Option Nat, h.2 (X + 1389) = some (.inl (E.2.2.1 4, 2, .inr (.inr (.inr (.inr g))))) ∧ ∀ i, i < 2 → g i = some (X + 1578 + 126 * i)) ∧ (∃ f, h.2 (X + 1390) = some (.inl (E.2.2.1 1, 2, .inl f)) ∧ ∀ i, i < 2 → f i = nI (md i)) ∧ ∀ i, i < 2 → PackAt E h (X + 1578 + 126 * i) (im i).1 (im i).2 ∧ md i < 2
def ReadAny (E : EnvT) (h : Hp) (D : Nat) : Prop := ∃ a b c d lo la, ReadAt E h D a b c d lo la
def CodAny (E : EnvT) (h : Hp) (C : Nat) : Prop := ∃ w gr gw ln cd l, CodAt E h C w gr gw ln cd l
def cachAt (E : EnvT) (h : Hp) (X rd : Nat) (q : Pk) : Prop := (rd = 0 ∧ WordsAny E h (X + 1525) ∧ ReadAny E h (X + 1530)) ∨ (rd = 1 ∧ (∃ re le, WordsT E h (X + 1525) q.2 (ordS q.2) re le) ∧ ∃ lo la, ReadAt E h (X + 1530) (letL q.2 q.1) (homL q.2 0 q.1) (begL q.2 0 q.1) (dpL q.2 q.1) lo la)
def scrAt (E : EnvT) (h : Hp) (X : Nat) : Prop := RdAny E h (X + 1395) ∧ (∃ l, RowAt E h (X + 1540) 1 l) ∧ ReadAny E h (X + 1542) ∧ PTAny E h (X + 1552) ∧ SrAny E h (X + 1556) ∧ CodAny E h (X + 1568) ∧ ∃ l, RowAt E h (X + 1576) 1082 l
def objV (X rd : Nat) (fk fp : Int32) : va_E := .inr (9, [.ref (X + 1), .ref (X + 127), .ref (X + 1389), .ref (X + 1390), .ref (X + 1391), .ref (X + 1393), .ref (X + 1395), .int fk, .int fp, .ref (X + 1525), .ref (X + 1530), .int (nI rd), .ref (X + 1540), .ref (X + 1542), .ref (X + 1552), .ref (X + 1556), .ref (X + 1568), .ref (X + 1576)])
/-- the object at X: packed, the past, the images, the tape, the phrase, the fault -/
def PPAt (E : EnvT) (h : Hp) (X rd : Nat) (q : Pk) (ds : List Pk) (im : Nat → Pk) (md : Nat → Nat) (tp ph : List Nat) (fk fp : Int32) : Prop := h.2 X = some (objV X rd fk fp) ∧ PackAt E h (X + 1) q.1 q.2 ∧ deedsAt E h (X + 127) ds ∧ imgAt E h X im md ∧ RowAt E h (X + 1391) 260 tp ∧ RowAt E h (X + 1393) 20 ph ∧ cachAt E h X rd q ∧ scrAt E h X
section PPAG
variable {E : EnvT} {h h1 : Hp} {X : Nat}
theorem deedsAt.ag {ds : List Pk} (x : deedsAt E h X ds) (o : Ag h h1 X (X + 1262)) : deedsAt E h1 X ds := by
  obtain ⟨nx, ks, a, b⟩ := x
  exact ⟨nx, ks, a.ag o, b⟩
theorem imgAt.ag {im : Nat → Pk} {md : Nat → Nat} (x : imgAt E h X im md) (o : Ag h h1 (X + 1389) (X + 1391)) (o2 : Ag h h1 (X + 1578) (X + 1830)) : imgAt E h1 X im md := by
  obtain ⟨⟨g, a, a'⟩, ⟨f, b, b'⟩, c⟩ := x
  exact ⟨⟨g, (o _ (by omega) (by omega)).trans a, a'⟩, ⟨f, (o _ (by omega) (by omega)).trans b, b'⟩, fun i hi => ⟨(c i hi).1.ag (o2.sub (by omega) (by omega)), (c i hi).2⟩⟩
theorem ReadAny.ag {D : Nat} (x : ReadAny E h D) (o : Ag h h1 D (D + 10)) : ReadAny E h1 D := by
  obtain ⟨a, b, c, d, lo, la, x⟩ := x
  exact ⟨a, b, c, d, lo, la, x.ag o⟩
theorem CodAny.ag {C : Nat} (x : CodAny E h C) (o : Ag h h1 C (C + 8)) : CodAny E h1 C := by
  obtain ⟨a, b, c, d, e, f, x⟩ := x
  exact ⟨a, b, c, d, e, f, x.ag o⟩
theorem cachAt.ag {rd : Nat} {q : Pk} (x : cachAt E h X rd q) (o : Ag h h1 (X + 1525) (X + 1540)) : cachAt E h1 X rd q := by
  rcases x with ⟨a, b, c⟩ | ⟨a, ⟨re, le, b⟩, lo, la, c⟩
  · exact Or.inl ⟨a, b.ag (o.sub (by omega) (by omega)), c.ag (o.sub (by omega) (by omega))⟩
  · exact Or.inr ⟨a, ⟨re, le, b.ag (o.sub (by omega) (by omega))⟩, lo, la, c.ag (o.sub (by omega) (by omega))⟩
theorem cachAt.low {rd : Nat} {q q2 : Pk} (x : cachAt E h X rd q) : cachAt E h X 0 q2 := by
  rcases x with ⟨a, b, c⟩ | ⟨a, ⟨re, le, b⟩, lo, la, c⟩
  · exact Or.inl ⟨rfl, b, c⟩
  · exact Or.inl ⟨rfl, b.any, _, _, _, _, _, _, c⟩
theorem scrAt.ag (x : scrAt E h X) (o : Ag h h1 (X + 1395) (X + 1525)) (o2 : Ag h h1 (X + 1540) (X + 1578)) : scrAt E h1 X := by
  obtain ⟨a, ⟨l, b⟩, c, d, e, f, l2, g⟩ := x
  exact ⟨a.ag (o.sub (by omega) (by omega)), ⟨l, b.ag (o2.sub (by omega) (by omega))⟩, c.ag (o2.sub (by omega) (by omega)), d.ag (o2.sub (by omega) (by omega)), e.ag (o2.sub (by omega) (by omega)), f.ag (o2.sub (by omega) (by omega)), l2, g.ag (o2.sub (by omega) (by omega))⟩
theorem PPAt.ag {rd : Nat} {q : Pk} {ds : List Pk} {im : Nat → Pk} {md : Nat → Nat} {tp ph : List Nat} {fk fp : Int32} (x : PPAt E h X rd q ds im md tp ph fk fp) (o : Ag h h1 X (X + 1830)) : PPAt E h1 X rd q ds im md tp ph fk fp := by
  obtain ⟨a, b, c, d, e, f, g, i⟩ := x
  exact ⟨(o _ (by omega) (by omega)).trans a, b.ag (o.sub (by omega) (by omega)), c.ag (o.sub (by omega) (by omega)), d.ag (o.sub (by omega) (by omega)) (o.sub (by omega) (by omega)), e.ag (o.sub (by omega) (by omega)), f.ag (o.sub (by omega) (by omega)), g.ag (o.sub (by omega) (by omega)), i.ag (o.sub (by omega) (by omega)) (o.sub (by omega) (by omega))⟩
end PPAG
section PPINIT
variable {E : EnvT} {h : Hp} {P : Nat}
theorem PP_seg1 {h0 : Hp} {Q : Option Value → Hp → Prop} (e0 : h0.1 = P + 1) (p : CellAt h0 P (.inr (9, [.null, .null, .null, .null, .null, .null, .null, .int 0, .int 0, .null, .null, .int 0, .null, .null, .null, .null, .null, .null]))) (t : Low h h0 P) (kk : ∀ h', h'.1 = P + 1389 → CellAt h' P (.inr (9, [.ref (P + 1), .ref (P + 127), .null, .null, .null, .null, .null, .int 0, .int 0, .null, .null, .int 0, .null, .null, .null, .null, .null, .null])) → Low h h' P → PackAt E h' (P + 1) [] (fun _ => []) → PastAt E h' (P + 127) 0 0 (fun _ => ([], fun _ => [])) → WP E k_X9_init 5 441 38668 26 [some (.ref P), none] [] h' Q) : WP E k_X9_init 5 1829 51298 4 [some (.ref P), none] [] h0 Q := by
  refine R_aload_n dX9_init_4 rfl ?_
  refine R_new_A (ci := 2) K_2 dX9_init_5 c_RX9_9 n_RX2 ini_RX2 b_2 (by omega : h0.1 = P + 1) rfl rfl ?_
  -- X9_init: ('new', 8)
  intro h1 u1
  have e1 := u1.1
  replace p := p.ag (u1.ag (by omega))
  replace t : Low h h1 P := fun q hq => (u1.2.2 q (by omega)).trans (t q hq)
  refine R_dup dX9_init_8 rfl ?_
  -- X9_init: ('call', 9, '.invokespecial', 11)
  refine R_callI i_X2_init (Pack_init (P := P + 1) u1.1 u1.2.1) dX9_init_9 l_RX9_11 rfl rfl (Nat.le_of_ble_eq_true rfl) (by omega) rfl rfl (fun v h2 hq => ?_)
  obtain ⟨rfl, f1, e2, l2⟩ := hq
  replace p := p.ag (Low.ag l2 (by omega))
  replace t : Low h h2 P := fun q hq => (l2 q (by omega)).trans (t q hq)
  refine R_putF_A K_9 (f := 0) (by decide) dX9_init_12 f_RX9_12 rfl rfl rfl p (by rfl) (by rfl) (Nat.le_of_ble_eq_true rfl) ?_
  -- X9_init: ('put', 15)
  intro h3 u3
  have e3 := u3.1
  replace p : CellAt h3 P (.inr (9, [.ref (P + 1), .null, .null, .null, .null, .null, .null, .int 0, .int 0, .null, .null, .int 0, .null, .null, .null, .null, .null, .null])) := u3.2.1
  replace f1 := f1.ag (u3.ag (by omega))
  replace t : Low h h3 P := fun q hq => (u3.2.2 q (by omega)).trans (t q hq)
  refine R_aload_n dX9_init_15 rfl ?_
  refine R_new_A (ci := 4) K_4 dX9_init_16 c_RX9_16 n_RX4 ini_RX4 b_4 (by omega : h3.1 = P + 127) rfl rfl ?_
  -- X9_init: ('new', 19)
  intro h4 u4
  have e4 := u4.1
  replace f1 := f1.ag (u4.ag (by omega))
  replace p := p.ag (u4.ag (by omega))
  replace t : Low h h4 P := fun q hq => (u4.2.2 q (by omega)).trans (t q hq)
  refine R_dup dX9_init_19 rfl ?_
  -- X9_init: ('call', 20, '.invokespecial', 18)
  refine R_callI i_X4_init (Past_init (Q := P + 127) u4.1 u4.2.1) dX9_init_20 l_RX9_18 rfl rfl (Nat.le_of_ble_eq_true rfl) (by omega) rfl rfl (fun v h5 hq => ?_)
  obtain ⟨rfl, f127, e5, l5⟩ := hq
  replace f1 := f1.ag (Low.ag l5 (by omega))
  replace p := p.ag (Low.ag l5 (by omega))
  replace t : Low h h5 P := fun q hq => (l5 q (by omega)).trans (t q hq)
  refine R_putF_A K_9 (f := 1) (by decide) dX9_init_23 f_RX9_19 rfl rfl rfl p (by rfl) (by rfl) (Nat.le_of_ble_eq_true rfl) ?_
  -- X9_init: ('put', 26)
  intro h6 u6
  have e6 := u6.1
  replace p : CellAt h6 P (.inr (9, [.ref (P + 1), .ref (P + 127), .null, .null, .null, .null, .null, .int 0, .int 0, .null, .null, .int 0, .null, .null, .null, .null, .null, .null])) := u6.2.1
  replace f1 := f1.ag (u6.ag (by omega))
  replace f127 := f127.ag (u6.ag (by omega))
  replace t : Low h h6 P := fun q hq => (u6.2.2 q (by omega)).trans (t q hq)
  exact kk h6 (by omega) p t f1 f127
theorem PP_seg2 {h0 : Hp} {Q : Option Value → Hp → Prop} (e0 : h0.1 = P + 1389) (p : CellAt h0 P (.inr (9, [.ref (P + 1), .ref (P + 127), .null, .null, .null, .null, .null, .int 0, .int 0, .null, .null, .int 0, .null, .null, .null, .null, .null, .null]))) (t : Low h h0 P) (f1 : PackAt E h0 (P + 1) [] (fun _ => [])) (f127 : PastAt E h0 (P + 127) 0 0 (fun _ => ([], fun _ => []))) (kk : ∀ h', h'.1 = P + 1391 → CellAt h' P (.inr (9, [.ref (P + 1), .ref (P + 127), .ref (P + 1389), .ref (P + 1390), .null, .null, .null, .int 0, .int 0, .null, .null, .int 0, .null, .null, .null, .null, .null, .null])) → Low h h' P → PackAt E h' (P + 1) [] (fun _ => []) → PastAt E h' (P + 127) 0 0 (fun _ => ([], fun _ => [])) → CellAt h' (P + 1389) (.inl (E.2.2.1 4, 2, .inr (.inr (.inr (.inr (fun _ => none)))))) → CellAt h' (P + 1390) (.inl (E.2.2.1 1, 2, .inl (fun _ => 0))) → WP E k_X9_init 5 439 38664 41 [some (.ref P), none] [] h' Q) : WP E k_X9_init 5 441 38668 26 [some (.ref P), none] [] h0 Q := by
  refine R_aload_n dX9_init_26 rfl ?_
  refine R_iconst (v := nI 2) dX9_init_27 (by decide) ?_
  refine R_anewarrayPacking_A dX9_init_28 c_RX9_9 (Nat.le_of_ble_eq_true rfl) (by omega : h0.1 = P + 1389) rfl rfl ?_
  -- X9_init: ('new', 31)
  intro h1 u1
  have e1 := u1.1
  replace f1 := f1.ag (u1.ag (by omega))
  replace f127 := f127.ag (u1.ag (by omega))
  replace p := p.ag (u1.ag (by omega))
  replace t : Low h h1 P := fun q hq => (u1.2.2 q (by omega)).trans (t q hq)
  have f1389 : CellAt h1 (P + 1389) (.inl (E.2.2.1 4, 2, .inr (.inr (.inr (.inr (fun _ => none)))))) := u1.2.1
  refine R_putF_A K_9 (f := 2) (by decide) dX9_init_31 f_RX9_23 rfl rfl rfl p (by rfl) (by rfl) (Nat.le_of_ble_eq_true rfl) ?_
  -- X9_init: ('put', 34)
  intro h2 u2
  have e2 := u2.1
  replace p : CellAt h2 P (.inr (9, [.ref (P + 1), .ref (P + 127), .ref (P + 1389), .null, .null, .null, .null, .int 0, .int 0, .null, .null, .int 0, .null, .null, .null, .null, .null, .null])) := u2.2.1
  replace f1 := f1.ag (u2.ag (by omega))
  replace f127 := f127.ag (u2.ag (by omega))
  replace f1389 := f1389.ag (u2.ag (by omega))
  replace t : Low h h2 P := fun q hq => (u2.2.2 q (by omega)).trans (t q hq)
  refine R_aload_n dX9_init_34 rfl ?_
  refine R_iconst (v := nI 2) dX9_init_35 (by decide) ?_
  refine R_newarray_boolean_A dX9_init_36 a_boolean (Nat.le_of_ble_eq_true rfl) (by omega : h2.1 = P + 1390) rfl rfl ?_
  -- X9_init: ('new', 38)
  intro h3 u3
  have e3 := u3.1
  replace f1 := f1.ag (u3.ag (by omega))
  replace f127 := f127.ag (u3.ag (by omega))
  replace f1389 := f1389.ag (u3.ag (by omega))
  replace p := p.ag (u3.ag (by omega))
  replace t : Low h h3 P := fun q hq => (u3.2.2 q (by omega)).trans (t q hq)
  have f1390 : CellAt h3 (P + 1390) (.inl (E.2.2.1 1, 2, .inl (fun _ => 0))) := u3.2.1
  refine R_putF_A K_9 (f := 3) (by decide) dX9_init_38 f_RX9_27 rfl rfl rfl p (by rfl) (by rfl) (Nat.le_of_ble_eq_true rfl) ?_
  -- X9_init: ('put', 41)
  intro h4 u4
  have e4 := u4.1
  replace p : CellAt h4 P (.inr (9, [.ref (P + 1), .ref (P + 127), .ref (P + 1389), .ref (P + 1390), .null, .null, .null, .int 0, .int 0, .null, .null, .int 0, .null, .null, .null, .null, .null, .null])) := u4.2.1
  replace f1 := f1.ag (u4.ag (by omega))
  replace f127 := f127.ag (u4.ag (by omega))
  replace f1389 := f1389.ag (u4.ag (by omega))
  replace f1390 := f1390.ag (u4.ag (by omega))
  replace t : Low h h4 P := fun q hq => (u4.2.2 q (by omega)).trans (t q hq)
  exact kk h4 (by omega) p t f1 f127 f1389 f1390
theorem PP_seg3 {h0 : Hp} {Q : Option Value → Hp → Prop} (e0 : h0.1 = P + 1391) (p : CellAt h0 P (.inr (9, [.ref (P + 1), .ref (P + 127), .ref (P + 1389), .ref (P + 1390), .null, .null, .null, .int 0, .int 0, .null, .null, .int 0, .null, .null, .null, .null, .null, .null]))) (t : Low h h0 P) (f1 : PackAt E h0 (P + 1) [] (fun _ => [])) (f127 : PastAt E h0 (P + 127) 0 0 (fun _ => ([], fun _ => []))) (f1389 : CellAt h0 (P + 1389) (.inl (E.2.2.1 4, 2, .inr (.inr (.inr (.inr (fun _ => none))))))) (f1390 : CellAt h0 (P + 1390) (.inl (E.2.2.1 1, 2, .inl (fun _ => 0)))) (kk : ∀ h', h'.1 = P + 1395 → CellAt h' P (.inr (9, [.ref (P + 1), .ref (P + 127), .ref (P + 1389), .ref (P + 1390), .ref (P + 1391), .ref (P + 1393), .null, .int 0, .int 0, .null, .null, .int 0, .null, .null, .null, .null, .null, .null])) → Low h h' P → PackAt E h' (P + 1) [] (fun _ => []) → PastAt E h' (P + 127) 0 0 (fun _ => ([], fun _ => [])) → CellAt h' (P + 1389) (.inl (E.2.2.1 4, 2, .inr (.inr (.inr (.inr (fun _ => none)))))) → CellAt h' (P + 1390) (.inl (E.2.2.1 1, 2, .inl (fun _ => 0))) → RowAt E h' (P + 1391) 260 [] → RowAt E h' (P + 1393) 20 [] → WP E k_X9_init 5 435 38380 68 [some (.ref P), none] [] h' Q) : WP E k_X9_init 5 439 38664 41 [some (.ref P), none] [] h0 Q := by
  refine R_aload_n dX9_init_41 rfl ?_
  refine R_new_A (ci := 6) K_6 dX9_init_42 c_RX9_31 n_RX6 ini_RX6 b_6 (by omega : h0.1 = P + 1391) rfl rfl ?_
  -- X9_init: ('new', 45)
  intro h1 u1
  have e1 := u1.1
  replace f1 := f1.ag (u1.ag (by omega))
  replace f127 := f127.ag (u1.ag (by omega))
  replace f1389 := f1389.ag (u1.ag (by omega))
  replace f1390 := f1390.ag (u1.ag (by omega))
  replace p := p.ag (u1.ag (by omega))
  replace t : Low h h1 P := fun q hq => (u1.2.2 q (by omega)).trans (t q hq)
  refine R_dup dX9_init_45 rfl ?_
  refine R_sipush (v := nI 260) dX9_init_46 (by decide) ?_
  -- X9_init: ('call', 49, '.invokespecial', 33)
  refine R_callI i_X6_init (Row_init (r := P + 1391) (n := 260) (by omega) u1.1 u1.2.1) dX9_init_49 l_RX9_33 rfl rfl (Nat.le_of_ble_eq_true rfl) (by omega) rfl rfl (fun v h2 hq => ?_)
  obtain ⟨rfl, f1391, e2, l2⟩ := hq
  replace f1 := f1.ag (Low.ag l2 (by omega))
  replace f127 := f127.ag (Low.ag l2 (by omega))
  replace f1389 := f1389.ag (Low.ag l2 (by omega))
  replace f1390 := f1390.ag (Low.ag l2 (by omega))
  replace p := p.ag (Low.ag l2 (by omega))
  replace t : Low h h2 P := fun q hq => (l2 q (by omega)).trans (t q hq)
  refine R_putF_A K_9 (f := 4) (by decide) dX9_init_52 f_RX9_36 rfl rfl rfl p (by rfl) (by rfl) (Nat.le_of_ble_eq_true rfl) ?_
  -- X9_init: ('put', 55)
  intro h3 u3
  have e3 := u3.1
  replace p : CellAt h3 P (.inr (9, [.ref (P + 1), .ref (P + 127), .ref (P + 1389), .ref (P + 1390), .ref (P + 1391), .null, .null, .int 0, .int 0, .null, .null, .int 0, .null, .null, .null, .null, .null, .null])) := u3.2.1
  replace f1 := f1.ag (u3.ag (by omega))
  replace f127 := f127.ag (u3.ag (by omega))
  replace f1389 := f1389.ag (u3.ag (by omega))
  replace f1390 := f1390.ag (u3.ag (by omega))
  replace f1391 := f1391.ag (u3.ag (by omega))
  replace t : Low h h3 P := fun q hq => (u3.2.2 q (by omega)).trans (t q hq)
  refine R_aload_n dX9_init_55 rfl ?_
  refine R_new_A (ci := 6) K_6 dX9_init_56 c_RX9_31 n_RX6 ini_RX6 b_6 (by omega : h3.1 = P + 1393) rfl rfl ?_
  -- X9_init: ('new', 59)
  intro h4 u4
  have e4 := u4.1
  replace f1 := f1.ag (u4.ag (by omega))
  replace f127 := f127.ag (u4.ag (by omega))
  replace f1389 := f1389.ag (u4.ag (by omega))
  replace f1390 := f1390.ag (u4.ag (by omega))
  replace f1391 := f1391.ag (u4.ag (by omega))
  replace p := p.ag (u4.ag (by omega))
  replace t : Low h h4 P := fun q hq => (u4.2.2 q (by omega)).trans (t q hq)
  refine R_dup dX9_init_59 rfl ?_
  refine R_bipush (v := nI 20) dX9_init_60 (by decide) ?_
  -- X9_init: ('call', 62, '.invokespecial', 33)
  refine R_callI i_X6_init (Row_init (r := P + 1393) (n := 20) (by omega) u4.1 u4.2.1) dX9_init_62 l_RX9_33 rfl rfl (Nat.le_of_ble_eq_true rfl) (by omega) rfl rfl (fun v h5 hq => ?_)
  obtain ⟨rfl, f1393, e5, l5⟩ := hq
  replace f1 := f1.ag (Low.ag l5 (by omega))
  replace f127 := f127.ag (Low.ag l5 (by omega))
  replace f1389 := f1389.ag (Low.ag l5 (by omega))
  replace f1390 := f1390.ag (Low.ag l5 (by omega))
  replace f1391 := f1391.ag (Low.ag l5 (by omega))
  replace p := p.ag (Low.ag l5 (by omega))
  replace t : Low h h5 P := fun q hq => (l5 q (by omega)).trans (t q hq)
  refine R_putF_A K_9 (f := 5) (by decide) dX9_init_65 f_RX9_40 rfl rfl rfl p (by rfl) (by rfl) (Nat.le_of_ble_eq_true rfl) ?_
  -- X9_init: ('put', 68)
  intro h6 u6
  have e6 := u6.1
  replace p : CellAt h6 P (.inr (9, [.ref (P + 1), .ref (P + 127), .ref (P + 1389), .ref (P + 1390), .ref (P + 1391), .ref (P + 1393), .null, .int 0, .int 0, .null, .null, .int 0, .null, .null, .null, .null, .null, .null])) := u6.2.1
  replace f1 := f1.ag (u6.ag (by omega))
  replace f127 := f127.ag (u6.ag (by omega))
  replace f1389 := f1389.ag (u6.ag (by omega))
  replace f1390 := f1390.ag (u6.ag (by omega))
  replace f1391 := f1391.ag (u6.ag (by omega))
  replace f1393 := f1393.ag (u6.ag (by omega))
  replace t : Low h h6 P := fun q hq => (u6.2.2 q (by omega)).trans (t q hq)
  exact kk h6 (by omega) p t f1 f127 f1389 f1390 f1391 f1393
theorem PP_seg4 {h0 : Hp} {Q : Option Value → Hp → Prop} (e0 : h0.1 = P + 1395) (p : CellAt h0 P (.inr (9, [.ref (P + 1), .ref (P + 127), .ref (P + 1389), .ref (P + 1390), .ref (P + 1391), .ref (P + 1393), .null, .int 0, .int 0, .null, .null, .int 0, .null, .null, .null, .null, .null, .null]))) (t : Low h h0 P) (f1 : PackAt E h0 (P + 1) [] (fun _ => [])) (f127 : PastAt E h0 (P + 127) 0 0 (fun _ => ([], fun _ => []))) (f1389 : CellAt h0 (P + 1389) (.inl (E.2.2.1 4, 2, .inr (.inr (.inr (.inr (fun _ => none))))))) (f1390 : CellAt h0 (P + 1390) (.inl (E.2.2.1 1, 2, .inl (fun _ => 0)))) (f1391 : RowAt E h0 (P + 1391) 260 []) (f1393 : RowAt E h0 (P + 1393) 20 []) (kk : ∀ h', h'.1 = P + 1525 → CellAt h' P (.inr (9, [.ref (P + 1), .ref (P + 127), .ref (P + 1389), .ref (P + 1390), .ref (P + 1391), .ref (P + 1393), .ref (P + 1395), .int (nI 0), .int 0, .null, .null, .int 0, .null, .null, .null, .null, .null, .null])) → Low h h' P → PackAt E h' (P + 1) [] (fun _ => []) → PastAt E h' (P + 127) 0 0 (fun _ => ([], fun _ => [])) → CellAt h' (P + 1389) (.inl (E.2.2.1 4, 2, .inr (.inr (.inr (.inr (fun _ => none)))))) → CellAt h' (P + 1390) (.inl (E.2.2.1 1, 2, .inl (fun _ => 0))) → RowAt E h' (P + 1391) 260 [] → RowAt E h' (P + 1393) 20 [] → RdAny E h' (P + 1395) → WP E k_X9_init 5 305 37138 84 [some (.ref P), none] [] h' Q) : WP E k_X9_init 5 435 38380 68 [some (.ref P), none] [] h0 Q := by
  refine R_aload_n dX9_init_68 rfl ?_
  refine R_new_A (ci := 1) K_1 dX9_init_69 c_RX9_43 n_RX1 ini_RX1 b_1 (by omega : h0.1 = P + 1395) rfl rfl ?_
  -- X9_init: ('new', 72)
  intro h1 u1
  have e1 := u1.1
  replace f1 := f1.ag (u1.ag (by omega))
  replace f127 := f127.ag (u1.ag (by omega))
  replace f1389 := f1389.ag (u1.ag (by omega))
  replace f1390 := f1390.ag (u1.ag (by omega))
  replace f1391 := f1391.ag (u1.ag (by omega))
  replace f1393 := f1393.ag (u1.ag (by omega))
  replace p := p.ag (u1.ag (by omega))
  replace t : Low h h1 P := fun q hq => (u1.2.2 q (by omega)).trans (t q hq)
  refine R_dup dX9_init_72 rfl ?_
  -- X9_init: ('call', 73, '.invokespecial', 45)
  refine R_callIN i_X1_init (Rd_init (P := P + 1395) u1.1 u1.2.1) dX9_init_73 l_RX9_45 rfl rfl (Nat.le_of_ble_eq_true rfl) (by omega) rfl rfl (fun v h2 hq => ?_)
  obtain ⟨rfl, f1395, e2, l2⟩ := hq
  replace f1 := f1.ag (Low.ag l2 (by omega))
  replace f127 := f127.ag (Low.ag l2 (by omega))
  replace f1389 := f1389.ag (Low.ag l2 (by omega))
  replace f1390 := f1390.ag (Low.ag l2 (by omega))
  replace f1391 := f1391.ag (Low.ag l2 (by omega))
  replace f1393 := f1393.ag (Low.ag l2 (by omega))
  replace p := p.ag (Low.ag l2 (by omega))
  replace t : Low h h2 P := fun q hq => (l2 q (by omega)).trans (t q hq)
  refine R_putF_A K_9 (f := 6) (by decide) dX9_init_76 f_RX9_46 rfl rfl rfl p (by rfl) (by rfl) (Nat.le_of_ble_eq_true rfl) ?_
  -- X9_init: ('put', 79)
  intro h3 u3
  have e3 := u3.1
  replace p : CellAt h3 P (.inr (9, [.ref (P + 1), .ref (P + 127), .ref (P + 1389), .ref (P + 1390), .ref (P + 1391), .ref (P + 1393), .ref (P + 1395), .int 0, .int 0, .null, .null, .int 0, .null, .null, .null, .null, .null, .null])) := u3.2.1
  replace f1 := f1.ag (u3.ag (by omega))
  replace f127 := f127.ag (u3.ag (by omega))
  replace f1389 := f1389.ag (u3.ag (by omega))
  replace f1390 := f1390.ag (u3.ag (by omega))
  replace f1391 := f1391.ag (u3.ag (by omega))
  replace f1393 := f1393.ag (u3.ag (by omega))
  replace f1395 := f1395.ag (u3.ag (by omega))
  replace t : Low h h3 P := fun q hq => (u3.2.2 q (by omega)).trans (t q hq)
  refine R_aload_n dX9_init_79 rfl ?_
  refine R_iconst (v := nI 0) dX9_init_80 (by decide) ?_
  refine R_put_A K_9 (f := 7) (by decide) dX9_init_81 f_RX9_50 rfl p (by rfl) (by rfl) (Nat.le_of_ble_eq_true rfl) ?_
  -- X9_init: ('put', 84)
  intro h4 u4
  have e4 := u4.1
  replace p : CellAt h4 P (.inr (9, [.ref (P + 1), .ref (P + 127), .ref (P + 1389), .ref (P + 1390), .ref (P + 1391), .ref (P + 1393), .ref (P + 1395), .int (nI 0), .int 0, .null, .null, .int 0, .null, .null, .null, .null, .null, .null])) := u4.2.1
  replace f1 := f1.ag (u4.ag (by omega))
  replace f127 := f127.ag (u4.ag (by omega))
  replace f1389 := f1389.ag (u4.ag (by omega))
  replace f1390 := f1390.ag (u4.ag (by omega))
  replace f1391 := f1391.ag (u4.ag (by omega))
  replace f1393 := f1393.ag (u4.ag (by omega))
  replace f1395 := f1395.ag (u4.ag (by omega))
  replace t : Low h h4 P := fun q hq => (u4.2.2 q (by omega)).trans (t q hq)
  exact kk h4 (by omega) p t f1 f127 f1389 f1390 f1391 f1393 f1395
theorem PP_seg5 {h0 : Hp} {Q : Option Value → Hp → Prop} (e0 : h0.1 = P + 1525) (p : CellAt h0 P (.inr (9, [.ref (P + 1), .ref (P + 127), .ref (P + 1389), .ref (P + 1390), .ref (P + 1391), .ref (P + 1393), .ref (P + 1395), .int (nI 0), .int 0, .null, .null, .int 0, .null, .null, .null, .null, .null, .null]))) (t : Low h h0 P) (f1 : PackAt E h0 (P + 1) [] (fun _ => [])) (f127 : PastAt E h0 (P + 127) 0 0 (fun _ => ([], fun _ => []))) (f1389 : CellAt h0 (P + 1389) (.inl (E.2.2.1 4, 2, .inr (.inr (.inr (.inr (fun _ => none))))))) (f1390 : CellAt h0 (P + 1390) (.inl (E.2.2.1 1, 2, .inl (fun _ => 0)))) (f1391 : RowAt E h0 (P + 1391) 260 []) (f1393 : RowAt E h0 (P + 1393) 20 []) (f1395 : RdAny E h0 (P + 1395)) (kk : ∀ h', h'.1 = P + 1530 → CellAt h' P (.inr (9, [.ref (P + 1), .ref (P + 127), .ref (P + 1389), .ref (P + 1390), .ref (P + 1391), .ref (P + 1393), .ref (P + 1395), .int (nI 0), .int (-1), .ref (P + 1525), .null, .int 0, .null, .null, .null, .null, .null, .null])) → Low h h' P → PackAt E h' (P + 1) [] (fun _ => []) → PastAt E h' (P + 127) 0 0 (fun _ => ([], fun _ => [])) → CellAt h' (P + 1389) (.inl (E.2.2.1 4, 2, .inr (.inr (.inr (.inr (fun _ => none)))))) → CellAt h' (P + 1390) (.inl (E.2.2.1 1, 2, .inl (fun _ => 0))) → RowAt E h' (P + 1391) 260 [] → RowAt E h' (P + 1393) 20 [] → RdAny E h' (P + 1395) → WordsAny E h' (P + 1525) → WP E k_X9_init 5 300 36899 100 [some (.ref P), none] [] h' Q) : WP E k_X9_init 5 305 37138 84 [some (.ref P), none] [] h0 Q := by
  refine R_aload_n dX9_init_84 rfl ?_
  refine R_iconst (v := (-1)) dX9_init_85 (by decide) ?_
  refine R_put_A K_9 (f := 8) (by decide) dX9_init_86 f_RX9_54 rfl p (by rfl) (by rfl) (Nat.le_of_ble_eq_true rfl) ?_
  -- X9_init: ('put', 89)
  intro h1 u1
  have e1 := u1.1
  replace p : CellAt h1 P (.inr (9, [.ref (P + 1), .ref (P + 127), .ref (P + 1389), .ref (P + 1390), .ref (P + 1391), .ref (P + 1393), .ref (P + 1395), .int (nI 0), .int (-1), .null, .null, .int 0, .null, .null, .null, .null, .null, .null])) := u1.2.1
  replace f1 := f1.ag (u1.ag (by omega))
  replace f127 := f127.ag (u1.ag (by omega))
  replace f1389 := f1389.ag (u1.ag (by omega))
  replace f1390 := f1390.ag (u1.ag (by omega))
  replace f1391 := f1391.ag (u1.ag (by omega))
  replace f1393 := f1393.ag (u1.ag (by omega))
  replace f1395 := f1395.ag (u1.ag (by omega))
  replace t : Low h h1 P := fun q hq => (u1.2.2 q (by omega)).trans (t q hq)
  refine R_aload_n dX9_init_89 rfl ?_
  refine R_new_A (ci := 8) K_8 dX9_init_90 c_RX9_57 n_RX8 ini_RX8 b_8 (by omega : h1.1 = P + 1525) rfl rfl ?_
  -- X9_init: ('new', 93)
  intro h2 u2
  have e2 := u2.1
  replace f1 := f1.ag (u2.ag (by omega))
  replace f127 := f127.ag (u2.ag (by omega))
  replace f1389 := f1389.ag (u2.ag (by omega))
  replace f1390 := f1390.ag (u2.ag (by omega))
  replace f1391 := f1391.ag (u2.ag (by omega))
  replace f1393 := f1393.ag (u2.ag (by omega))
  replace f1395 := f1395.ag (u2.ag (by omega))
  replace p := p.ag (u2.ag (by omega))
  replace t : Low h h2 P := fun q hq => (u2.2.2 q (by omega)).trans (t q hq)
  refine R_dup dX9_init_93 rfl ?_
  -- X9_init: ('call', 94, '.invokespecial', 59)
  refine R_callIN i_X8_init (Words_init (P := P + 1525) u2.1 u2.2.1) dX9_init_94 l_RX9_59 rfl rfl (Nat.le_of_ble_eq_true rfl) (by omega) rfl rfl (fun v h3 hq => ?_)
  obtain ⟨rfl, f1525, e3, l3⟩ := hq
  replace f1 := f1.ag (Low.ag l3 (by omega))
  replace f127 := f127.ag (Low.ag l3 (by omega))
  replace f1389 := f1389.ag (Low.ag l3 (by omega))
  replace f1390 := f1390.ag (Low.ag l3 (by omega))
  replace f1391 := f1391.ag (Low.ag l3 (by omega))
  replace f1393 := f1393.ag (Low.ag l3 (by omega))
  replace f1395 := f1395.ag (Low.ag l3 (by omega))
  replace p := p.ag (Low.ag l3 (by omega))
  replace t : Low h h3 P := fun q hq => (l3 q (by omega)).trans (t q hq)
  refine R_putF_A K_9 (f := 9) (by decide) dX9_init_97 f_RX9_60 rfl rfl rfl p (by rfl) (by rfl) (Nat.le_of_ble_eq_true rfl) ?_
  -- X9_init: ('put', 100)
  intro h4 u4
  have e4 := u4.1
  replace p : CellAt h4 P (.inr (9, [.ref (P + 1), .ref (P + 127), .ref (P + 1389), .ref (P + 1390), .ref (P + 1391), .ref (P + 1393), .ref (P + 1395), .int (nI 0), .int (-1), .ref (P + 1525), .null, .int 0, .null, .null, .null, .null, .null, .null])) := u4.2.1
  replace f1 := f1.ag (u4.ag (by omega))
  replace f127 := f127.ag (u4.ag (by omega))
  replace f1389 := f1389.ag (u4.ag (by omega))
  replace f1390 := f1390.ag (u4.ag (by omega))
  replace f1391 := f1391.ag (u4.ag (by omega))
  replace f1393 := f1393.ag (u4.ag (by omega))
  replace f1395 := f1395.ag (u4.ag (by omega))
  replace f1525 := f1525.ag (u4.ag (by omega))
  replace t : Low h h4 P := fun q hq => (u4.2.2 q (by omega)).trans (t q hq)
  exact kk h4 (by omega) p t f1 f127 f1389 f1390 f1391 f1393 f1395 f1525
theorem PP_seg6 {h0 : Hp} {Q : Option Value → Hp → Prop} (e0 : h0.1 = P + 1530) (p : CellAt h0 P (.inr (9, [.ref (P + 1), .ref (P + 127), .ref (P + 1389), .ref (P + 1390), .ref (P + 1391), .ref (P + 1393), .ref (P + 1395), .int (nI 0), .int (-1), .ref (P + 1525), .null, .int 0, .null, .null, .null, .null, .null, .null]))) (t : Low h h0 P) (f1 : PackAt E h0 (P + 1) [] (fun _ => [])) (f127 : PastAt E h0 (P + 127) 0 0 (fun _ => ([], fun _ => []))) (f1389 : CellAt h0 (P + 1389) (.inl (E.2.2.1 4, 2, .inr (.inr (.inr (.inr (fun _ => none))))))) (f1390 : CellAt h0 (P + 1390) (.inl (E.2.2.1 1, 2, .inl (fun _ => 0)))) (f1391 : RowAt E h0 (P + 1391) 260 []) (f1393 : RowAt E h0 (P + 1393) 20 []) (f1395 : RdAny E h0 (P + 1395)) (f1525 : WordsAny E h0 (P + 1525)) (kk : ∀ h', h'.1 = P + 1540 → CellAt h' P (.inr (9, [.ref (P + 1), .ref (P + 127), .ref (P + 1389), .ref (P + 1390), .ref (P + 1391), .ref (P + 1393), .ref (P + 1395), .int (nI 0), .int (-1), .ref (P + 1525), .ref (P + 1530), .int (nI 0), .null, .null, .null, .null, .null, .null])) → Low h h' P → PackAt E h' (P + 1) [] (fun _ => []) → PastAt E h' (P + 127) 0 0 (fun _ => ([], fun _ => [])) → CellAt h' (P + 1389) (.inl (E.2.2.1 4, 2, .inr (.inr (.inr (.inr (fun _ => none)))))) → CellAt h' (P + 1390) (.inl (E.2.2.1 1, 2, .inl (fun _ => 0))) → RowAt E h' (P + 1391) 260 [] → RowAt E h' (P + 1393) 20 [] → RdAny E h' (P + 1395) → WordsAny E h' (P + 1525) → ReadAt E h' (P + 1530) [] [] [] [] (nI 0) (-1) → WP E k_X9_init 5 290 35683 116 [some (.ref P), none] [] h' Q) : WP E k_X9_init 5 300 36899 100 [some (.ref P), none] [] h0 Q := by
  refine R_aload_n dX9_init_100 rfl ?_
  refine R_new_A (ci := 5) K_5 dX9_init_101 c_RX9_64 n_RX5 ini_RX5 b_5 (by omega : h0.1 = P + 1530) rfl rfl ?_
  -- X9_init: ('new', 104)
  intro h1 u1
  have e1 := u1.1
  replace f1 := f1.ag (u1.ag (by omega))
  replace f127 := f127.ag (u1.ag (by omega))
  replace f1389 := f1389.ag (u1.ag (by omega))
  replace f1390 := f1390.ag (u1.ag (by omega))
  replace f1391 := f1391.ag (u1.ag (by omega))
  replace f1393 := f1393.ag (u1.ag (by omega))
  replace f1395 := f1395.ag (u1.ag (by omega))
  replace f1525 := f1525.ag (u1.ag (by omega))
  replace p := p.ag (u1.ag (by omega))
  replace t : Low h h1 P := fun q hq => (u1.2.2 q (by omega)).trans (t q hq)
  refine R_dup dX9_init_104 rfl ?_
  -- X9_init: ('call', 105, '.invokespecial', 66)
  refine R_callIN i_X5_init (Read_init (P := P + 1530) u1.1 u1.2.1) dX9_init_105 l_RX9_66 rfl rfl (Nat.le_of_ble_eq_true rfl) (by omega) rfl rfl (fun v h2 hq => ?_)
  obtain ⟨rfl, f1530, e2, l2⟩ := hq
  replace f1 := f1.ag (Low.ag l2 (by omega))
  replace f127 := f127.ag (Low.ag l2 (by omega))
  replace f1389 := f1389.ag (Low.ag l2 (by omega))
  replace f1390 := f1390.ag (Low.ag l2 (by omega))
  replace f1391 := f1391.ag (Low.ag l2 (by omega))
  replace f1393 := f1393.ag (Low.ag l2 (by omega))
  replace f1395 := f1395.ag (Low.ag l2 (by omega))
  replace f1525 := f1525.ag (Low.ag l2 (by omega))
  replace p := p.ag (Low.ag l2 (by omega))
  replace t : Low h h2 P := fun q hq => (l2 q (by omega)).trans (t q hq)
  refine R_putF_A K_9 (f := 10) (by decide) dX9_init_108 f_RX9_67 rfl rfl rfl p (by rfl) (by rfl) (Nat.le_of_ble_eq_true rfl) ?_
  -- X9_init: ('put', 111)
  intro h3 u3
  have e3 := u3.1
  replace p : CellAt h3 P (.inr (9, [.ref (P + 1), .ref (P + 127), .ref (P + 1389), .ref (P + 1390), .ref (P + 1391), .ref (P + 1393), .ref (P + 1395), .int (nI 0), .int (-1), .ref (P + 1525), .ref (P + 1530), .int 0, .null, .null, .null, .null, .null, .null])) := u3.2.1
  replace f1 := f1.ag (u3.ag (by omega))
  replace f127 := f127.ag (u3.ag (by omega))
  replace f1389 := f1389.ag (u3.ag (by omega))
  replace f1390 := f1390.ag (u3.ag (by omega))
  replace f1391 := f1391.ag (u3.ag (by omega))
  replace f1393 := f1393.ag (u3.ag (by omega))
  replace f1395 := f1395.ag (u3.ag (by omega))
  replace f1525 := f1525.ag (u3.ag (by omega))
  replace f1530 := f1530.ag (u3.ag (by omega))
  replace t : Low h h3 P := fun q hq => (u3.2.2 q (by omega)).trans (t q hq)
  refine R_aload_n dX9_init_111 rfl ?_
  refine R_iconst (v := nI 0) dX9_init_112 (by decide) ?_
  refine R_put_A K_9 (f := 11) (by decide) dX9_init_113 f_RX9_71 rfl p (by rfl) (by rfl) (Nat.le_of_ble_eq_true rfl) ?_
  -- X9_init: ('put', 116)
  intro h4 u4
  have e4 := u4.1
  replace p : CellAt h4 P (.inr (9, [.ref (P + 1), .ref (P + 127), .ref (P + 1389), .ref (P + 1390), .ref (P + 1391), .ref (P + 1393), .ref (P + 1395), .int (nI 0), .int (-1), .ref (P + 1525), .ref (P + 1530), .int (nI 0), .null, .null, .null, .null, .null, .null])) := u4.2.1
  replace f1 := f1.ag (u4.ag (by omega))
  replace f127 := f127.ag (u4.ag (by omega))
  replace f1389 := f1389.ag (u4.ag (by omega))
  replace f1390 := f1390.ag (u4.ag (by omega))
  replace f1391 := f1391.ag (u4.ag (by omega))
  replace f1393 := f1393.ag (u4.ag (by omega))
  replace f1395 := f1395.ag (u4.ag (by omega))
  replace f1525 := f1525.ag (u4.ag (by omega))
  replace f1530 := f1530.ag (u4.ag (by omega))
  replace t : Low h h4 P := fun q hq => (u4.2.2 q (by omega)).trans (t q hq)
  exact kk h4 (by omega) p t f1 f127 f1389 f1390 f1391 f1393 f1395 f1525 f1530
theorem PP_seg7 {h0 : Hp} {Q : Option Value → Hp → Prop} (e0 : h0.1 = P + 1540) (p : CellAt h0 P (.inr (9, [.ref (P + 1), .ref (P + 127), .ref (P + 1389), .ref (P + 1390), .ref (P + 1391), .ref (P + 1393), .ref (P + 1395), .int (nI 0), .int (-1), .ref (P + 1525), .ref (P + 1530), .int (nI 0), .null, .null, .null, .null, .null, .null]))) (t : Low h h0 P) (f1 : PackAt E h0 (P + 1) [] (fun _ => [])) (f127 : PastAt E h0 (P + 127) 0 0 (fun _ => ([], fun _ => []))) (f1389 : CellAt h0 (P + 1389) (.inl (E.2.2.1 4, 2, .inr (.inr (.inr (.inr (fun _ => none))))))) (f1390 : CellAt h0 (P + 1390) (.inl (E.2.2.1 1, 2, .inl (fun _ => 0)))) (f1391 : RowAt E h0 (P + 1391) 260 []) (f1393 : RowAt E h0 (P + 1393) 20 []) (f1395 : RdAny E h0 (P + 1395)) (f1525 : WordsAny E h0 (P + 1525)) (f1530 : ReadAt E h0 (P + 1530) [] [] [] [] (nI 0) (-1)) (kk : ∀ h', h'.1 = P + 1552 → CellAt h' P (.inr (9, [.ref (P + 1), .ref (P + 127), .ref (P + 1389), .ref (P + 1390), .ref (P + 1391), .ref (P + 1393), .ref (P + 1395), .int (nI 0), .int (-1), .ref (P + 1525), .ref (P + 1530), .int (nI 0), .ref (P + 1540), .ref (P + 1542), .null, .null, .null, .null])) → Low h h' P → PackAt E h' (P + 1) [] (fun _ => []) → PastAt E h' (P + 127) 0 0 (fun _ => ([], fun _ => [])) → CellAt h' (P + 1389) (.inl (E.2.2.1 4, 2, .inr (.inr (.inr (.inr (fun _ => none)))))) → CellAt h' (P + 1390) (.inl (E.2.2.1 1, 2, .inl (fun _ => 0))) → RowAt E h' (P + 1391) 260 [] → RowAt E h' (P + 1393) 20 [] → RdAny E h' (P + 1395) → WordsAny E h' (P + 1525) → ReadAt E h' (P + 1530) [] [] [] [] (nI 0) (-1) → RowAt E h' (P + 1540) 1 [] → ReadAt E h' (P + 1542) [] [] [] [] (nI 0) (-1) → WP E k_X9_init 5 278 34464 139 [some (.ref P), none] [] h' Q) : WP E k_X9_init 5 290 35683 116 [some (.ref P), none] [] h0 Q := by
  refine R_aload_n dX9_init_116 rfl ?_
  refine R_new_A (ci := 6) K_6 dX9_init_117 c_RX9_31 n_RX6 ini_RX6 b_6 (by omega : h0.1 = P + 1540) rfl rfl ?_
  -- X9_init: ('new', 120)
  intro h1 u1
  have e1 := u1.1
  replace f1 := f1.ag (u1.ag (by omega))
  replace f127 := f127.ag (u1.ag (by omega))
  replace f1389 := f1389.ag (u1.ag (by omega))
  replace f1390 := f1390.ag (u1.ag (by omega))
  replace f1391 := f1391.ag (u1.ag (by omega))
  replace f1393 := f1393.ag (u1.ag (by omega))
  replace f1395 := f1395.ag (u1.ag (by omega))
  replace f1525 := f1525.ag (u1.ag (by omega))
  replace f1530 := f1530.ag (u1.ag (by omega))
  replace p := p.ag (u1.ag (by omega))
  replace t : Low h h1 P := fun q hq => (u1.2.2 q (by omega)).trans (t q hq)
  refine R_dup dX9_init_120 rfl ?_
  refine R_iconst (v := nI 1) dX9_init_121 (by decide) ?_
  -- X9_init: ('call', 122, '.invokespecial', 33)
  refine R_callI i_X6_init (Row_init (r := P + 1540) (n := 1) (by omega) u1.1 u1.2.1) dX9_init_122 l_RX9_33 rfl rfl (Nat.le_of_ble_eq_true rfl) (by omega) rfl rfl (fun v h2 hq => ?_)
  obtain ⟨rfl, f1540, e2, l2⟩ := hq
  replace f1 := f1.ag (Low.ag l2 (by omega))
  replace f127 := f127.ag (Low.ag l2 (by omega))
  replace f1389 := f1389.ag (Low.ag l2 (by omega))
  replace f1390 := f1390.ag (Low.ag l2 (by omega))
  replace f1391 := f1391.ag (Low.ag l2 (by omega))
  replace f1393 := f1393.ag (Low.ag l2 (by omega))
  replace f1395 := f1395.ag (Low.ag l2 (by omega))
  replace f1525 := f1525.ag (Low.ag l2 (by omega))
  replace f1530 := f1530.ag (Low.ag l2 (by omega))
  replace p := p.ag (Low.ag l2 (by omega))
  replace t : Low h h2 P := fun q hq => (l2 q (by omega)).trans (t q hq)
  refine R_putF_A K_9 (f := 12) (by decide) dX9_init_125 f_RX9_75 rfl rfl rfl p (by rfl) (by rfl) (Nat.le_of_ble_eq_true rfl) ?_
  -- X9_init: ('put', 128)
  intro h3 u3
  have e3 := u3.1
  replace p : CellAt h3 P (.inr (9, [.ref (P + 1), .ref (P + 127), .ref (P + 1389), .ref (P + 1390), .ref (P + 1391), .ref (P + 1393), .ref (P + 1395), .int (nI 0), .int (-1), .ref (P + 1525), .ref (P + 1530), .int (nI 0), .ref (P + 1540), .null, .null, .null, .null, .null])) := u3.2.1
  replace f1 := f1.ag (u3.ag (by omega))
  replace f127 := f127.ag (u3.ag (by omega))
  replace f1389 := f1389.ag (u3.ag (by omega))
  replace f1390 := f1390.ag (u3.ag (by omega))
  replace f1391 := f1391.ag (u3.ag (by omega))
  replace f1393 := f1393.ag (u3.ag (by omega))
  replace f1395 := f1395.ag (u3.ag (by omega))
  replace f1525 := f1525.ag (u3.ag (by omega))
  replace f1530 := f1530.ag (u3.ag (by omega))
  replace f1540 := f1540.ag (u3.ag (by omega))
  replace t : Low h h3 P := fun q hq => (u3.2.2 q (by omega)).trans (t q hq)
  refine R_aload_n dX9_init_128 rfl ?_
  refine R_new_A (ci := 5) K_5 dX9_init_129 c_RX9_64 n_RX5 ini_RX5 b_5 (by omega : h3.1 = P + 1542) rfl rfl ?_
  -- X9_init: ('new', 132)
  intro h4 u4
  have e4 := u4.1
  replace f1 := f1.ag (u4.ag (by omega))
  replace f127 := f127.ag (u4.ag (by omega))
  replace f1389 := f1389.ag (u4.ag (by omega))
  replace f1390 := f1390.ag (u4.ag (by omega))
  replace f1391 := f1391.ag (u4.ag (by omega))
  replace f1393 := f1393.ag (u4.ag (by omega))
  replace f1395 := f1395.ag (u4.ag (by omega))
  replace f1525 := f1525.ag (u4.ag (by omega))
  replace f1530 := f1530.ag (u4.ag (by omega))
  replace f1540 := f1540.ag (u4.ag (by omega))
  replace p := p.ag (u4.ag (by omega))
  replace t : Low h h4 P := fun q hq => (u4.2.2 q (by omega)).trans (t q hq)
  refine R_dup dX9_init_132 rfl ?_
  -- X9_init: ('call', 133, '.invokespecial', 66)
  refine R_callIN i_X5_init (Read_init (P := P + 1542) u4.1 u4.2.1) dX9_init_133 l_RX9_66 rfl rfl (Nat.le_of_ble_eq_true rfl) (by omega) rfl rfl (fun v h5 hq => ?_)
  obtain ⟨rfl, f1542, e5, l5⟩ := hq
  replace f1 := f1.ag (Low.ag l5 (by omega))
  replace f127 := f127.ag (Low.ag l5 (by omega))
  replace f1389 := f1389.ag (Low.ag l5 (by omega))
  replace f1390 := f1390.ag (Low.ag l5 (by omega))
  replace f1391 := f1391.ag (Low.ag l5 (by omega))
  replace f1393 := f1393.ag (Low.ag l5 (by omega))
  replace f1395 := f1395.ag (Low.ag l5 (by omega))
  replace f1525 := f1525.ag (Low.ag l5 (by omega))
  replace f1530 := f1530.ag (Low.ag l5 (by omega))
  replace f1540 := f1540.ag (Low.ag l5 (by omega))
  replace p := p.ag (Low.ag l5 (by omega))
  replace t : Low h h5 P := fun q hq => (l5 q (by omega)).trans (t q hq)
  refine R_putF_A K_9 (f := 13) (by decide) dX9_init_136 f_RX9_78 rfl rfl rfl p (by rfl) (by rfl) (Nat.le_of_ble_eq_true rfl) ?_
  -- X9_init: ('put', 139)
  intro h6 u6
  have e6 := u6.1
  replace p : CellAt h6 P (.inr (9, [.ref (P + 1), .ref (P + 127), .ref (P + 1389), .ref (P + 1390), .ref (P + 1391), .ref (P + 1393), .ref (P + 1395), .int (nI 0), .int (-1), .ref (P + 1525), .ref (P + 1530), .int (nI 0), .ref (P + 1540), .ref (P + 1542), .null, .null, .null, .null])) := u6.2.1
  replace f1 := f1.ag (u6.ag (by omega))
  replace f127 := f127.ag (u6.ag (by omega))
  replace f1389 := f1389.ag (u6.ag (by omega))
  replace f1390 := f1390.ag (u6.ag (by omega))
  replace f1391 := f1391.ag (u6.ag (by omega))
  replace f1393 := f1393.ag (u6.ag (by omega))
  replace f1395 := f1395.ag (u6.ag (by omega))
  replace f1525 := f1525.ag (u6.ag (by omega))
  replace f1530 := f1530.ag (u6.ag (by omega))
  replace f1540 := f1540.ag (u6.ag (by omega))
  replace f1542 := f1542.ag (u6.ag (by omega))
  replace t : Low h h6 P := fun q hq => (u6.2.2 q (by omega)).trans (t q hq)
  exact kk h6 (by omega) p t f1 f127 f1389 f1390 f1391 f1393 f1395 f1525 f1530 f1540 f1542
theorem PP_seg8 {h0 : Hp} {Q : Option Value → Hp → Prop} (e0 : h0.1 = P + 1552) (p : CellAt h0 P (.inr (9, [.ref (P + 1), .ref (P + 127), .ref (P + 1389), .ref (P + 1390), .ref (P + 1391), .ref (P + 1393), .ref (P + 1395), .int (nI 0), .int (-1), .ref (P + 1525), .ref (P + 1530), .int (nI 0), .ref (P + 1540), .ref (P + 1542), .null, .null, .null, .null]))) (t : Low h h0 P) (f1 : PackAt E h0 (P + 1) [] (fun _ => [])) (f127 : PastAt E h0 (P + 127) 0 0 (fun _ => ([], fun _ => []))) (f1389 : CellAt h0 (P + 1389) (.inl (E.2.2.1 4, 2, .inr (.inr (.inr (.inr (fun _ => none))))))) (f1390 : CellAt h0 (P + 1390) (.inl (E.2.2.1 1, 2, .inl (fun _ => 0)))) (f1391 : RowAt E h0 (P + 1391) 260 []) (f1393 : RowAt E h0 (P + 1393) 20 []) (f1395 : RdAny E h0 (P + 1395)) (f1525 : WordsAny E h0 (P + 1525)) (f1530 : ReadAt E h0 (P + 1530) [] [] [] [] (nI 0) (-1)) (f1540 : RowAt E h0 (P + 1540) 1 []) (f1542 : ReadAt E h0 (P + 1542) [] [] [] [] (nI 0) (-1)) (kk : ∀ h', h'.1 = P + 1568 → CellAt h' P (.inr (9, [.ref (P + 1), .ref (P + 127), .ref (P + 1389), .ref (P + 1390), .ref (P + 1391), .ref (P + 1393), .ref (P + 1395), .int (nI 0), .int (-1), .ref (P + 1525), .ref (P + 1530), .int (nI 0), .ref (P + 1540), .ref (P + 1542), .ref (P + 1552), .ref (P + 1556), .null, .null])) → Low h h' P → PackAt E h' (P + 1) [] (fun _ => []) → PastAt E h' (P + 127) 0 0 (fun _ => ([], fun _ => [])) → CellAt h' (P + 1389) (.inl (E.2.2.1 4, 2, .inr (.inr (.inr (.inr (fun _ => none)))))) → CellAt h' (P + 1390) (.inl (E.2.2.1 1, 2, .inl (fun _ => 0))) → RowAt E h' (P + 1391) 260 [] → RowAt E h' (P + 1393) 20 [] → RdAny E h' (P + 1395) → WordsAny E h' (P + 1525) → ReadAt E h' (P + 1530) [] [] [] [] (nI 0) (-1) → RowAt E h' (P + 1540) 1 [] → ReadAt E h' (P + 1542) [] [] [] [] (nI 0) (-1) → PTAny E h' (P + 1552) → SrAny E h' (P + 1556) → WP E k_X9_init 5 262 3902 161 [some (.ref P), none] [] h' Q) : WP E k_X9_init 5 278 34464 139 [some (.ref P), none] [] h0 Q := by
  refine R_aload_n dX9_init_139 rfl ?_
  refine R_new_A (ci := 3) K_3 dX9_init_140 c_RX9_81 n_RX3 ini_RX3 b_3 (by omega : h0.1 = P + 1552) rfl rfl ?_
  -- X9_init: ('new', 143)
  intro h1 u1
  have e1 := u1.1
  replace f1 := f1.ag (u1.ag (by omega))
  replace f127 := f127.ag (u1.ag (by omega))
  replace f1389 := f1389.ag (u1.ag (by omega))
  replace f1390 := f1390.ag (u1.ag (by omega))
  replace f1391 := f1391.ag (u1.ag (by omega))
  replace f1393 := f1393.ag (u1.ag (by omega))
  replace f1395 := f1395.ag (u1.ag (by omega))
  replace f1525 := f1525.ag (u1.ag (by omega))
  replace f1530 := f1530.ag (u1.ag (by omega))
  replace f1540 := f1540.ag (u1.ag (by omega))
  replace f1542 := f1542.ag (u1.ag (by omega))
  replace p := p.ag (u1.ag (by omega))
  replace t : Low h h1 P := fun q hq => (u1.2.2 q (by omega)).trans (t q hq)
  refine R_dup dX9_init_143 rfl ?_
  -- X9_init: ('call', 144, '.invokespecial', 83)
  refine R_callIN i_X3_init (PT_init (P := P + 1552) u1.1 u1.2.1) dX9_init_144 l_RX9_83 rfl rfl (Nat.le_of_ble_eq_true rfl) (by omega) rfl rfl (fun v h2 hq => ?_)
  obtain ⟨rfl, f1552, e2, l2⟩ := hq
  replace f1 := f1.ag (Low.ag l2 (by omega))
  replace f127 := f127.ag (Low.ag l2 (by omega))
  replace f1389 := f1389.ag (Low.ag l2 (by omega))
  replace f1390 := f1390.ag (Low.ag l2 (by omega))
  replace f1391 := f1391.ag (Low.ag l2 (by omega))
  replace f1393 := f1393.ag (Low.ag l2 (by omega))
  replace f1395 := f1395.ag (Low.ag l2 (by omega))
  replace f1525 := f1525.ag (Low.ag l2 (by omega))
  replace f1530 := f1530.ag (Low.ag l2 (by omega))
  replace f1540 := f1540.ag (Low.ag l2 (by omega))
  replace f1542 := f1542.ag (Low.ag l2 (by omega))
  replace p := p.ag (Low.ag l2 (by omega))
  replace t : Low h h2 P := fun q hq => (l2 q (by omega)).trans (t q hq)
  refine R_putF_A K_9 (f := 14) (by decide) dX9_init_147 f_RX9_84 rfl rfl rfl p (by rfl) (by rfl) (Nat.le_of_ble_eq_true rfl) ?_
  -- X9_init: ('put', 150)
  intro h3 u3
  have e3 := u3.1
  replace p : CellAt h3 P (.inr (9, [.ref (P + 1), .ref (P + 127), .ref (P + 1389), .ref (P + 1390), .ref (P + 1391), .ref (P + 1393), .ref (P + 1395), .int (nI 0), .int (-1), .ref (P + 1525), .ref (P + 1530), .int (nI 0), .ref (P + 1540), .ref (P + 1542), .ref (P + 1552), .null, .null, .null])) := u3.2.1
  replace f1 := f1.ag (u3.ag (by omega))
  replace f127 := f127.ag (u3.ag (by omega))
  replace f1389 := f1389.ag (u3.ag (by omega))
  replace f1390 := f1390.ag (u3.ag (by omega))
  replace f1391 := f1391.ag (u3.ag (by omega))
  replace f1393 := f1393.ag (u3.ag (by omega))
  replace f1395 := f1395.ag (u3.ag (by omega))
  replace f1525 := f1525.ag (u3.ag (by omega))
  replace f1530 := f1530.ag (u3.ag (by omega))
  replace f1540 := f1540.ag (u3.ag (by omega))
  replace f1542 := f1542.ag (u3.ag (by omega))
  replace f1552 := f1552.ag (u3.ag (by omega))
  replace t : Low h h3 P := fun q hq => (u3.2.2 q (by omega)).trans (t q hq)
  refine R_aload_n dX9_init_150 rfl ?_
  refine R_new_A (ci := 7) K_7 dX9_init_151 c_RX9_88 n_RX7 ini_RX7 b_7 (by omega : h3.1 = P + 1556) rfl rfl ?_
  -- X9_init: ('new', 154)
  intro h4 u4
  have e4 := u4.1
  replace f1 := f1.ag (u4.ag (by omega))
  replace f127 := f127.ag (u4.ag (by omega))
  replace f1389 := f1389.ag (u4.ag (by omega))
  replace f1390 := f1390.ag (u4.ag (by omega))
  replace f1391 := f1391.ag (u4.ag (by omega))
  replace f1393 := f1393.ag (u4.ag (by omega))
  replace f1395 := f1395.ag (u4.ag (by omega))
  replace f1525 := f1525.ag (u4.ag (by omega))
  replace f1530 := f1530.ag (u4.ag (by omega))
  replace f1540 := f1540.ag (u4.ag (by omega))
  replace f1542 := f1542.ag (u4.ag (by omega))
  replace f1552 := f1552.ag (u4.ag (by omega))
  replace p := p.ag (u4.ag (by omega))
  replace t : Low h h4 P := fun q hq => (u4.2.2 q (by omega)).trans (t q hq)
  refine R_dup dX9_init_154 rfl ?_
  -- X9_init: ('call', 155, '.invokespecial', 90)
  refine R_callIN i_X7_init (Sr_init (P := P + 1556) u4.1 u4.2.1) dX9_init_155 l_RX9_90 rfl rfl (Nat.le_of_ble_eq_true rfl) (by omega) rfl rfl (fun v h5 hq => ?_)
  obtain ⟨rfl, f1556, e5, l5⟩ := hq
  replace f1 := f1.ag (Low.ag l5 (by omega))
  replace f127 := f127.ag (Low.ag l5 (by omega))
  replace f1389 := f1389.ag (Low.ag l5 (by omega))
  replace f1390 := f1390.ag (Low.ag l5 (by omega))
  replace f1391 := f1391.ag (Low.ag l5 (by omega))
  replace f1393 := f1393.ag (Low.ag l5 (by omega))
  replace f1395 := f1395.ag (Low.ag l5 (by omega))
  replace f1525 := f1525.ag (Low.ag l5 (by omega))
  replace f1530 := f1530.ag (Low.ag l5 (by omega))
  replace f1540 := f1540.ag (Low.ag l5 (by omega))
  replace f1542 := f1542.ag (Low.ag l5 (by omega))
  replace f1552 := f1552.ag (Low.ag l5 (by omega))
  replace p := p.ag (Low.ag l5 (by omega))
  replace t : Low h h5 P := fun q hq => (l5 q (by omega)).trans (t q hq)
  refine R_putF_A K_9 (f := 15) (by decide) dX9_init_158 f_RX9_91 rfl rfl rfl p (by rfl) (by rfl) (Nat.le_of_ble_eq_true rfl) ?_
  -- X9_init: ('put', 161)
  intro h6 u6
  have e6 := u6.1
  replace p : CellAt h6 P (.inr (9, [.ref (P + 1), .ref (P + 127), .ref (P + 1389), .ref (P + 1390), .ref (P + 1391), .ref (P + 1393), .ref (P + 1395), .int (nI 0), .int (-1), .ref (P + 1525), .ref (P + 1530), .int (nI 0), .ref (P + 1540), .ref (P + 1542), .ref (P + 1552), .ref (P + 1556), .null, .null])) := u6.2.1
  replace f1 := f1.ag (u6.ag (by omega))
  replace f127 := f127.ag (u6.ag (by omega))
  replace f1389 := f1389.ag (u6.ag (by omega))
  replace f1390 := f1390.ag (u6.ag (by omega))
  replace f1391 := f1391.ag (u6.ag (by omega))
  replace f1393 := f1393.ag (u6.ag (by omega))
  replace f1395 := f1395.ag (u6.ag (by omega))
  replace f1525 := f1525.ag (u6.ag (by omega))
  replace f1530 := f1530.ag (u6.ag (by omega))
  replace f1540 := f1540.ag (u6.ag (by omega))
  replace f1542 := f1542.ag (u6.ag (by omega))
  replace f1552 := f1552.ag (u6.ag (by omega))
  replace f1556 := f1556.ag (u6.ag (by omega))
  replace t : Low h h6 P := fun q hq => (u6.2.2 q (by omega)).trans (t q hq)
  exact kk h6 (by omega) p t f1 f127 f1389 f1390 f1391 f1393 f1395 f1525 f1530 f1540 f1542 f1552 f1556
theorem PP_seg9 {h0 : Hp} {Q : Option Value → Hp → Prop} (e0 : h0.1 = P + 1568) (p : CellAt h0 P (.inr (9, [.ref (P + 1), .ref (P + 127), .ref (P + 1389), .ref (P + 1390), .ref (P + 1391), .ref (P + 1393), .ref (P + 1395), .int (nI 0), .int (-1), .ref (P + 1525), .ref (P + 1530), .int (nI 0), .ref (P + 1540), .ref (P + 1542), .ref (P + 1552), .ref (P + 1556), .null, .null]))) (t : Low h h0 P) (f1 : PackAt E h0 (P + 1) [] (fun _ => [])) (f127 : PastAt E h0 (P + 127) 0 0 (fun _ => ([], fun _ => []))) (f1389 : CellAt h0 (P + 1389) (.inl (E.2.2.1 4, 2, .inr (.inr (.inr (.inr (fun _ => none))))))) (f1390 : CellAt h0 (P + 1390) (.inl (E.2.2.1 1, 2, .inl (fun _ => 0)))) (f1391 : RowAt E h0 (P + 1391) 260 []) (f1393 : RowAt E h0 (P + 1393) 20 []) (f1395 : RdAny E h0 (P + 1395)) (f1525 : WordsAny E h0 (P + 1525)) (f1530 : ReadAt E h0 (P + 1530) [] [] [] [] (nI 0) (-1)) (f1540 : RowAt E h0 (P + 1540) 1 []) (f1542 : ReadAt E h0 (P + 1542) [] [] [] [] (nI 0) (-1)) (f1552 : PTAny E h0 (P + 1552)) (f1556 : SrAny E h0 (P + 1556)) (kk : ∀ h', h'.1 = P + 1578 → CellAt h' P (.inr (9, [.ref (P + 1), .ref (P + 127), .ref (P + 1389), .ref (P + 1390), .ref (P + 1391), .ref (P + 1393), .ref (P + 1395), .int (nI 0), .int (-1), .ref (P + 1525), .ref (P + 1530), .int (nI 0), .ref (P + 1540), .ref (P + 1542), .ref (P + 1552), .ref (P + 1556), .ref (P + 1568), .ref (P + 1576)])) → Low h h' P → PackAt E h' (P + 1) [] (fun _ => []) → PastAt E h' (P + 127) 0 0 (fun _ => ([], fun _ => [])) → CellAt h' (P + 1389) (.inl (E.2.2.1 4, 2, .inr (.inr (.inr (.inr (fun _ => none)))))) → CellAt h' (P + 1390) (.inl (E.2.2.1 1, 2, .inl (fun _ => 0))) → RowAt E h' (P + 1391) 260 [] → RowAt E h' (P + 1393) 20 [] → RdAny E h' (P + 1395) → WordsAny E h' (P + 1525) → ReadAt E h' (P + 1530) [] [] [] [] (nI 0) (-1) → RowAt E h' (P + 1540) 1 [] → ReadAt E h' (P + 1542) [] [] [] [] (nI 0) (-1) → PTAny E h' (P + 1552) → SrAny E h' (P + 1556) → CodAt E h' (P + 1568) (fun _ => 0) (fun _ => 0) (fun _ => 0) (fun _ => 0) (fun _ => 0) [] → RowAt E h' (P + 1576) 1082 [] → WP E k_X9_init 5 252 2294 186 [some (.ref P), none] [] h' Q) : WP E k_X9_init 5 262 3902 161 [some (.ref P), none] [] h0 Q := by
  refine R_aload_n dX9_init_161 rfl ?_
  refine R_new_A (ci := 0) K_0 dX9_init_162 c_RX9_95 n_RX0 ini_RX0 b_0 (by omega : h0.1 = P + 1568) rfl rfl ?_
  -- X9_init: ('new', 165)
  intro h1 u1
  have e1 := u1.1
  replace f1 := f1.ag (u1.ag (by omega))
  replace f127 := f127.ag (u1.ag (by omega))
  replace f1389 := f1389.ag (u1.ag (by omega))
  replace f1390 := f1390.ag (u1.ag (by omega))
  replace f1391 := f1391.ag (u1.ag (by omega))
  replace f1393 := f1393.ag (u1.ag (by omega))
  replace f1395 := f1395.ag (u1.ag (by omega))
  replace f1525 := f1525.ag (u1.ag (by omega))
  replace f1530 := f1530.ag (u1.ag (by omega))
  replace f1540 := f1540.ag (u1.ag (by omega))
  replace f1542 := f1542.ag (u1.ag (by omega))
  replace f1552 := f1552.ag (u1.ag (by omega))
  replace f1556 := f1556.ag (u1.ag (by omega))
  replace p := p.ag (u1.ag (by omega))
  replace t : Low h h1 P := fun q hq => (u1.2.2 q (by omega)).trans (t q hq)
  refine R_dup dX9_init_165 rfl ?_
  -- X9_init: ('call', 166, '.invokespecial', 97)
  refine R_callIN i_X0_init (Cod_init (P := P + 1568) u1.1 u1.2.1) dX9_init_166 l_RX9_97 rfl rfl (Nat.le_of_ble_eq_true rfl) (by omega) rfl rfl (fun v h2 hq => ?_)
  obtain ⟨rfl, f1568, e2, l2⟩ := hq
  replace f1 := f1.ag (Low.ag l2 (by omega))
  replace f127 := f127.ag (Low.ag l2 (by omega))
  replace f1389 := f1389.ag (Low.ag l2 (by omega))
  replace f1390 := f1390.ag (Low.ag l2 (by omega))
  replace f1391 := f1391.ag (Low.ag l2 (by omega))
  replace f1393 := f1393.ag (Low.ag l2 (by omega))
  replace f1395 := f1395.ag (Low.ag l2 (by omega))
  replace f1525 := f1525.ag (Low.ag l2 (by omega))
  replace f1530 := f1530.ag (Low.ag l2 (by omega))
  replace f1540 := f1540.ag (Low.ag l2 (by omega))
  replace f1542 := f1542.ag (Low.ag l2 (by omega))
  replace f1552 := f1552.ag (Low.ag l2 (by omega))
  replace f1556 := f1556.ag (Low.ag l2 (by omega))
  replace p := p.ag (Low.ag l2 (by omega))
  replace t : Low h h2 P := fun q hq => (l2 q (by omega)).trans (t q hq)
  refine R_putF_A K_9 (f := 16) (by decide) dX9_init_169 f_RX9_98 rfl rfl rfl p (by rfl) (by rfl) (Nat.le_of_ble_eq_true rfl) ?_
  -- X9_init: ('put', 172)
  intro h3 u3
  have e3 := u3.1
  replace p : CellAt h3 P (.inr (9, [.ref (P + 1), .ref (P + 127), .ref (P + 1389), .ref (P + 1390), .ref (P + 1391), .ref (P + 1393), .ref (P + 1395), .int (nI 0), .int (-1), .ref (P + 1525), .ref (P + 1530), .int (nI 0), .ref (P + 1540), .ref (P + 1542), .ref (P + 1552), .ref (P + 1556), .ref (P + 1568), .null])) := u3.2.1
  replace f1 := f1.ag (u3.ag (by omega))
  replace f127 := f127.ag (u3.ag (by omega))
  replace f1389 := f1389.ag (u3.ag (by omega))
  replace f1390 := f1390.ag (u3.ag (by omega))
  replace f1391 := f1391.ag (u3.ag (by omega))
  replace f1393 := f1393.ag (u3.ag (by omega))
  replace f1395 := f1395.ag (u3.ag (by omega))
  replace f1525 := f1525.ag (u3.ag (by omega))
  replace f1530 := f1530.ag (u3.ag (by omega))
  replace f1540 := f1540.ag (u3.ag (by omega))
  replace f1542 := f1542.ag (u3.ag (by omega))
  replace f1552 := f1552.ag (u3.ag (by omega))
  replace f1556 := f1556.ag (u3.ag (by omega))
  replace f1568 := f1568.ag (u3.ag (by omega))
  replace t : Low h h3 P := fun q hq => (u3.2.2 q (by omega)).trans (t q hq)
  refine R_aload_n dX9_init_172 rfl ?_
  refine R_new_A (ci := 6) K_6 dX9_init_173 c_RX9_31 n_RX6 ini_RX6 b_6 (by omega : h3.1 = P + 1576) rfl rfl ?_
  -- X9_init: ('new', 176)
  intro h4 u4
  have e4 := u4.1
  replace f1 := f1.ag (u4.ag (by omega))
  replace f127 := f127.ag (u4.ag (by omega))
  replace f1389 := f1389.ag (u4.ag (by omega))
  replace f1390 := f1390.ag (u4.ag (by omega))
  replace f1391 := f1391.ag (u4.ag (by omega))
  replace f1393 := f1393.ag (u4.ag (by omega))
  replace f1395 := f1395.ag (u4.ag (by omega))
  replace f1525 := f1525.ag (u4.ag (by omega))
  replace f1530 := f1530.ag (u4.ag (by omega))
  replace f1540 := f1540.ag (u4.ag (by omega))
  replace f1542 := f1542.ag (u4.ag (by omega))
  replace f1552 := f1552.ag (u4.ag (by omega))
  replace f1556 := f1556.ag (u4.ag (by omega))
  replace f1568 := f1568.ag (u4.ag (by omega))
  replace p := p.ag (u4.ag (by omega))
  replace t : Low h h4 P := fun q hq => (u4.2.2 q (by omega)).trans (t q hq)
  refine R_dup dX9_init_176 rfl ?_
  refine R_sipush (v := nI 1082) dX9_init_177 (by decide) ?_
  -- X9_init: ('call', 180, '.invokespecial', 33)
  refine R_callI i_X6_init (Row_init (r := P + 1576) (n := 1082) (by omega) u4.1 u4.2.1) dX9_init_180 l_RX9_33 rfl rfl (Nat.le_of_ble_eq_true rfl) (by omega) rfl rfl (fun v h5 hq => ?_)
  obtain ⟨rfl, f1576, e5, l5⟩ := hq
  replace f1 := f1.ag (Low.ag l5 (by omega))
  replace f127 := f127.ag (Low.ag l5 (by omega))
  replace f1389 := f1389.ag (Low.ag l5 (by omega))
  replace f1390 := f1390.ag (Low.ag l5 (by omega))
  replace f1391 := f1391.ag (Low.ag l5 (by omega))
  replace f1393 := f1393.ag (Low.ag l5 (by omega))
  replace f1395 := f1395.ag (Low.ag l5 (by omega))
  replace f1525 := f1525.ag (Low.ag l5 (by omega))
  replace f1530 := f1530.ag (Low.ag l5 (by omega))
  replace f1540 := f1540.ag (Low.ag l5 (by omega))
  replace f1542 := f1542.ag (Low.ag l5 (by omega))
  replace f1552 := f1552.ag (Low.ag l5 (by omega))
  replace f1556 := f1556.ag (Low.ag l5 (by omega))
  replace f1568 := f1568.ag (Low.ag l5 (by omega))
  replace p := p.ag (Low.ag l5 (by omega))
  replace t : Low h h5 P := fun q hq => (l5 q (by omega)).trans (t q hq)
  refine R_putF_A K_9 (f := 17) (by decide) dX9_init_183 f_RX9_102 rfl rfl rfl p (by rfl) (by rfl) (Nat.le_of_ble_eq_true rfl) ?_
  -- X9_init: ('put', 186)
  intro h6 u6
  have e6 := u6.1
  replace p : CellAt h6 P (.inr (9, [.ref (P + 1), .ref (P + 127), .ref (P + 1389), .ref (P + 1390), .ref (P + 1391), .ref (P + 1393), .ref (P + 1395), .int (nI 0), .int (-1), .ref (P + 1525), .ref (P + 1530), .int (nI 0), .ref (P + 1540), .ref (P + 1542), .ref (P + 1552), .ref (P + 1556), .ref (P + 1568), .ref (P + 1576)])) := u6.2.1
  replace f1 := f1.ag (u6.ag (by omega))
  replace f127 := f127.ag (u6.ag (by omega))
  replace f1389 := f1389.ag (u6.ag (by omega))
  replace f1390 := f1390.ag (u6.ag (by omega))
  replace f1391 := f1391.ag (u6.ag (by omega))
  replace f1393 := f1393.ag (u6.ag (by omega))
  replace f1395 := f1395.ag (u6.ag (by omega))
  replace f1525 := f1525.ag (u6.ag (by omega))
  replace f1530 := f1530.ag (u6.ag (by omega))
  replace f1540 := f1540.ag (u6.ag (by omega))
  replace f1542 := f1542.ag (u6.ag (by omega))
  replace f1552 := f1552.ag (u6.ag (by omega))
  replace f1556 := f1556.ag (u6.ag (by omega))
  replace f1568 := f1568.ag (u6.ag (by omega))
  replace f1576 := f1576.ag (u6.ag (by omega))
  replace t : Low h h6 P := fun q hq => (u6.2.2 q (by omega)).trans (t q hq)
  exact kk h6 (by omega) p t f1 f127 f1389 f1390 f1391 f1393 f1395 f1525 f1530 f1540 f1542 f1552 f1556 f1568 f1576
theorem PP_last {h0 : Hp} (e0 : h0.1 = P + 1578) (p : CellAt h0 P (.inr (9, [.ref (P + 1), .ref (P + 127), .ref (P + 1389), .ref (P + 1390), .ref (P + 1391), .ref (P + 1393), .ref (P + 1395), .int (nI 0), .int (-1), .ref (P + 1525), .ref (P + 1530), .int (nI 0), .ref (P + 1540), .ref (P + 1542), .ref (P + 1552), .ref (P + 1556), .ref (P + 1568), .ref (P + 1576)]))) (t : Low h h0 P) (f1 : PackAt E h0 (P + 1) [] (fun _ => [])) (f127 : PastAt E h0 (P + 127) 0 0 (fun _ => ([], fun _ => []))) (f1389 : CellAt h0 (P + 1389) (.inl (E.2.2.1 4, 2, .inr (.inr (.inr (.inr (fun _ => none))))))) (f1390 : CellAt h0 (P + 1390) (.inl (E.2.2.1 1, 2, .inl (fun _ => 0)))) (f1391 : RowAt E h0 (P + 1391) 260 []) (f1393 : RowAt E h0 (P + 1393) 20 []) (f1395 : RdAny E h0 (P + 1395)) (f1525 : WordsAny E h0 (P + 1525)) (f1530 : ReadAt E h0 (P + 1530) [] [] [] [] (nI 0) (-1)) (f1540 : RowAt E h0 (P + 1540) 1 []) (f1542 : ReadAt E h0 (P + 1542) [] [] [] [] (nI 0) (-1)) (f1552 : PTAny E h0 (P + 1552)) (f1556 : SrAny E h0 (P + 1556)) (f1568 : CodAt E h0 (P + 1568) (fun _ => 0) (fun _ => 0) (fun _ => 0) (fun _ => 0) (fun _ => 0) []) (f1576 : RowAt E h0 (P + 1576) 1082 []) : WP E k_X9_init 5 252 2294 186 [some (.ref P), none] [] h0 (fun v h' => v = none ∧ PPAt E h' P 0 ([], fun _ => []) [] (fun _ => ([], fun _ => [])) (fun _ => 0) [] [] (nI 0) (-1) ∧ h'.1 = P + 1830 ∧ Low h h' P) := by
  have loop : ∀ m i h2 g, i + m = 2 → h2.1 = P + 1578 + 126 * i → h2.2 P = some (objV P 0 (nI 0) (-1)) → h2.2 (P + 1389) = some (.inl (E.2.2.1 4, 2, .inr (.inr (.inr (.inr g))))) → (∀ j, j < i → g j = some (P + 1578 + 126 * j)) → (∀ j, j < i → PackAt E h2 (P + 1578 + 126 * j) [] (fun _ => [])) → Ag h0 h2 (P + 1) (P + 1389) → Ag h0 h2 (P + 1390) (P + 1578) → Low h h2 P → WP E k_X9_init 5 (126 * m) (1147 * m) 188 [some (.ref P), some (.int (nI i))] [] h2 (fun v h' => v = none ∧ PPAt E h' P 0 ([], fun _ => []) [] (fun _ => ([], fun _ => [])) (fun _ => 0) [] [] (nI 0) (-1) ∧ h'.1 = P + 1830 ∧ Low h h' P) := by
    intro m
    induction m with
    | zero =>
      intro i h2 g hi k1 k2 k4 k5 k7 o1 o2 k8
      obtain rfl : i = 2 := by omega
      refine R_iload_n dX9_init_188 rfl ?_
      refine R_iconst (v := nI 2) dX9_init_189 (by decide) ?_
      refine R_icmp_ge_N (tgt := 212) dX9_init_190 (by decide) (by omega) (by omega) (fun c190 => ?_) (fun c190 => ?_)
      -- X9_init: ('branch', 190, 212, 193)
      · refine R_return dX9_init_212 rfl ?_
        -- X9_init: ('ret', 212)
        refine ⟨rfl, ⟨k2, f1.ag (o1.sub (by omega) (by omega)), ⟨0, _, f127.ag (o1.sub (by omega) (by omega)), fun j x hx => by simp at hx⟩, ⟨⟨g, k4, k5⟩, ⟨_, f1390.ag (o2.sub (by omega) (by omega)), fun _ _ => nI_0.symm⟩, fun i hi => ⟨k7 i hi, Nat.zero_lt_two⟩⟩, f1391.ag (o2.sub (by omega) (by omega)), f1393.ag (o2.sub (by omega) (by omega)), Or.inl ⟨rfl, f1525.ag (o2.sub (by omega) (by omega)), _, _, _, _, _, _, f1530.ag (o2.sub (by omega) (by omega))⟩, f1395.ag (o2.sub (by omega) (by omega)), ⟨_, f1540.ag (o2.sub (by omega) (by omega))⟩, ⟨_, _, _, _, _, _, f1542.ag (o2.sub (by omega) (by omega))⟩, f1552.ag (o2.sub (by omega) (by omega)), f1556.ag (o2.sub (by omega) (by omega)), ⟨_, _, _, _, _, _, f1568.ag (o2.sub (by omega) (by omega))⟩, _, f1576.ag (o2.sub (by omega) (by omega))⟩, by omega, k8⟩
      · exact absurd c190 (by omega)
    | succ m ih =>
      intro i h2 g hi k1 k2 k4 k5 k7 o1 o2 k8
      refine R_iload_n dX9_init_188 rfl ?_
      refine R_iconst (v := nI 2) dX9_init_189 (by decide) ?_
      refine R_icmp_ge_N (tgt := 212) dX9_init_190 (by decide) (by omega) (by omega) (fun c190 => ?_) (fun c190 => ?_)
      -- X9_init: ('branch', 190, 212, 193)
      · exact absurd c190 (by omega)
      · refine R_aload_n dX9_init_193 rfl ?_
        refine R_get K_9 (f := 2) (by decide) dX9_init_194 f_RX9_23 k2 rfl ?_
        refine R_iload_n dX9_init_197 rfl ?_
        refine R_new_A (ci := 2) K_2 dX9_init_198 c_RX9_9 n_RX2 ini_RX2 b_2 k1 (show 126 * (m + 1) = 126 * m + 125 + 1 by omega) (show 1147 * (m + 1) = 1147 * m + 1144 + 3 by omega) ?_
        -- X9_init: ('new', 201)
        intro h3 u3
        refine R_dup dX9_init_201 rfl ?_
        -- X9_init: ('call', 202, '.invokespecial', 11)
        refine R_callI i_X2_init (Pack_init (P := P + 1578 + 126 * i) u3.1 u3.2.1) dX9_init_202 l_RX9_11 rfl rfl (Nat.le_of_ble_eq_true rfl) (by omega) rfl rfl (fun v h4 hq => ?_)
        obtain ⟨rfl, hR4, e4, l4⟩ := hq
        have o4 : Low h2 h4 (P + 1578 + 126 * i) := fun q hq => (l4 q hq).trans (u3.2.2 q (by omega))
        have a4 := (o4 (P + 1389) (by omega)).trans k4
        refine R_aastorePacking_N dX9_init_205 a4 hR4.1 (by omega) (by omega) ?_
        -- X9_init: ('put', 206)
        intro h5 u5
        have e5 := u5.1
        refine R_iinc1 dX9_init_206 (by decide) (nI_inc _ 1) ?_
        refine R_goto (tgt := 188) dX9_init_209 (by decide) ?_
        -- X9_init: ('stop', 188)
        refine ih (i + 1) h5 _ (by omega) (by omega) ((u5.2.2 _ (by omega)).trans ((o4 _ (by omega)).trans k2)) u5.2.1 (fun j hj => ?_) (fun j hj => ?_) ((o1.trans (o4.ag (by omega))).trans (u5.ag (by omega))) ((o2.trans (o4.ag (by omega))).trans (u5.ag (by omega))) (fun q hq => (u5.2.2 q (by omega)).trans ((o4 q (by omega)).trans (k8 q hq)))
        · rw [va_up]
          by_cases e : j = i
          · subst e; rw [if_pos rfl]
          · rw [if_neg e]; exact k5 j (by omega)
        · by_cases e : j = i
          · subst e; exact hR4.ag (u5.ag (by omega))
          · exact ((k7 j (by omega)).ag (o4.ag (by omega))).ag (u5.ag (by omega))
  refine R_iconst (v := nI 0) dX9_init_186 (by decide) ?_
  refine R_istore1 dX9_init_187 (by decide) ?_
  -- X9_init: ('stop', 188)
  exact loop 2 0 h0 _ (by omega) (by omega) p f1389 (fun j hj => absurd hj (by omega)) (fun j hj => absurd hj (by omega)) (fun _ _ _ => rfl) (fun _ _ _ => rfl) t
theorem PP_init (hs : h.1 = P + 1) (hr : h.2 P = some (.inr (9, [.null, .null, .null, .null, .null, .null, .null, .int 0, .int 0, .null, .null, .int 0, .null, .null, .null, .null, .null, .null]))) : Spec E k_X9_init 5 1829 51298 [.ref P] h (fun v h' => v = none ∧ PPAt E h' P 0 ([], fun _ => []) [] (fun _ => ([], fun _ => [])) (fun _ => 0) [] [] (nI 0) (-1) ∧ h'.1 = P + 1830 ∧ Low h h' P) := by
  refine Spec.of (by decide +kernel) (by simp [Value.category]) (Nat.le_of_ble_eq_true rfl) ?_
  show WP E k_X9_init 5 1829 51298 0 [some (.ref P), none] [] h _
  refine R_aload_n dX9_init_0 rfl ?_
  -- X9_init: ('call', 1, '.invokespecial', 3)
  refine R_objInit dX9_init_1 l_RX9_3 (Nat.le_of_ble_eq_true rfl) (by omega) ?_
  refine PP_seg1 hs hr (fun q _ => rfl) fun h1 y0 y1 y2 y3 y4 => ?_
  refine PP_seg2 y0 y1 y2 y3 y4 fun h2 y0 y1 y2 y3 y4 y5 y6 => ?_
  refine PP_seg3 y0 y1 y2 y3 y4 y5 y6 fun h3 y0 y1 y2 y3 y4 y5 y6 y7 y8 => ?_
  refine PP_seg4 y0 y1 y2 y3 y4 y5 y6 y7 y8 fun h4 y0 y1 y2 y3 y4 y5 y6 y7 y8 y9 => ?_
  refine PP_seg5 y0 y1 y2 y3 y4 y5 y6 y7 y8 y9 fun h5 y0 y1 y2 y3 y4 y5 y6 y7 y8 y9 y10 => ?_
  refine PP_seg6 y0 y1 y2 y3 y4 y5 y6 y7 y8 y9 y10 fun h6 y0 y1 y2 y3 y4 y5 y6 y7 y8 y9 y10 y11 => ?_
  refine PP_seg7 y0 y1 y2 y3 y4 y5 y6 y7 y8 y9 y10 y11 fun h7 y0 y1 y2 y3 y4 y5 y6 y7 y8 y9 y10 y11 y12 y13 => ?_
  refine PP_seg8 y0 y1 y2 y3 y4 y5 y6 y7 y8 y9 y10 y11 y12 y13 fun h8 y0 y1 y2 y3 y4 y5 y6 y7 y8 y9 y10 y11 y12 y13 y14 y15 => ?_
  refine PP_seg9 y0 y1 y2 y3 y4 y5 y6 y7 y8 y9 y10 y11 y12 y13 y14 y15 fun h9 y0 y1 y2 y3 y4 y5 y6 y7 y8 y9 y10 y11 y12 y13 y14 y15 y16 y17 => ?_
  exact PP_last y0 y1 y2 y3 y4 y5 y6 y7 y8 y9 y10 y11 y12 y13 y14 y15 y16 y17
end PPINIT
