/-! what is made: objects, arrays; each at the next cell -/
def Psh (h h1 : Hp) (a : Nat) (e : va_E) : Prop := h1.1 = a + 1 ∧ h1.2 a = some e ∧ ∀ q, q ≠ a → h1.2 q = h.2 q
theorem Psh.of {h : Hp} {a : Nat} {e : va_E} (ha : h.1 = a) : Psh h (hpush h e) a e := by
  subst ha
  exact ⟨rfl, by simp [hpush], fun q hq => by simp [hpush, hq]⟩
def Low (h h1 : Hp) (c : Nat) : Prop := ∀ q, q < c → h1.2 q = h.2 q
theorem Low.ag {h h1 : Hp} {a b c : Nat} (x : Low h h1 c) (hb : b ≤ c) : Ag h h1 a b := fun q _ hq => x q (by omega)
theorem Psh.ag {h h1 : Hp} {a b c : Nat} {e : va_E} (x : Psh h h1 a e) (hd : c ≤ a ∨ a < b) : Ag h h1 b c := fun q _ _ => x.2.2 q (by omega)
theorem Upd.ag {h h1 : Hp} {a b c : Nat} {e : va_E} (x : Upd h h1 a e) (hd : c ≤ a ∨ a < b) : Ag h h1 b c := fun q _ _ => x.2.2 q (by omega)
theorem Ag.trans {h h1 h2 : Hp} {a b : Nat} (x : Ag h h1 a b) (y : Ag h1 h2 a b) : Ag h h2 a b := fun q k1 k2 => (y q k1 k2).trans (x q k1 k2)
section ALLOC
variable {E : EnvT} {k : MI} {d mc ms pc : Nat} {L : List (Option Value)} {st : List Value} {h : Hp} {Q : Option Value → Hp → Prop}
theorem R_new_A {ci N i mc' ms' a : Nat} {C0 : String} {T : u_T} {ty : Nat → FieldType} (hc : clsOk ci C0 T N ty) (hd : decode k.2.1 pc = .ok (.new i, 3)) (hw1 : Cond.classLink k.1.cls i C0 ∈ gw) (hw2 : Cond.instantiable C0 N ∈ gw) (hw3 : Cond.initialized C0 ∈ gw) {fs : List Value} (hfs : ∀ j, j < N → defaultValue (ty j) = vp_V fs j) (ha : h.1 = a) (hmc : mc = mc' + 1) (hms : ms = ms' + N) (kk : ∀ h1, Psh h h1 a (.inr (ci, fs)) → WP E k d mc' ms' (pc + 3) L (.ref a :: st) h1 Q) : WP E k d mc ms pc L st h Q := by
  subst ha
  exact R_new hc hd hw1 hw2 hw3 hfs hmc hms (kk _ (Psh.of rfl))
theorem R_newarray_int_A {N mc' ms' a : Nat} (hd : decode k.2.1 pc = .ok (.newarray .int, 2)) (hw : Cond.arrayClass .int ∈ gw) (hN2 : N ≤ 100000) (ha : h.1 = a) (hmc : mc = mc' + 1) (hms : ms = ms' + N) (kk : ∀ h1, Psh h h1 a (.inl (E.2.2.1 0, N, .inl (fun _ => 0))) → WP E k d mc' ms' (pc + 2) L (.ref a :: st) h1 Q) : WP E k d mc ms pc L (.int (nI N) :: st) h Q := by
  subst ha
  exact R_newarray_int hd hw (nI_pos (by omega)) (nI_clamp (by omega)) hN2 hmc hms (kk _ (Psh.of rfl))
theorem R_newarray_boolean_A {N mc' ms' a : Nat} (hd : decode k.2.1 pc = .ok (.newarray .boolean, 2)) (hw : Cond.arrayClass .boolean ∈ gw) (hN2 : N ≤ 100000) (ha : h.1 = a) (hmc : mc = mc' + 1) (hms : ms = ms' + N) (kk : ∀ h1, Psh h h1 a (.inl (E.2.2.1 1, N, .inl (fun _ => 0))) → WP E k d mc' ms' (pc + 2) L (.ref a :: st) h1 Q) : WP E k d mc ms pc L (.int (nI N) :: st) h Q := by
  subst ha
  exact R_newarray_boolean hd hw (nI_pos (by omega)) (nI_clamp (by omega)) hN2 hmc hms (kk _ (Psh.of rfl))
theorem R_newarray_byte_A {N mc' ms' a : Nat} (hd : decode k.2.1 pc = .ok (.newarray .byte, 2)) (hw : Cond.arrayClass .byte ∈ gw) (hN2 : N ≤ 100000) (ha : h.1 = a) (hmc : mc = mc' + 1) (hms : ms = ms' + N) (kk : ∀ h1, Psh h h1 a (.inl (E.2.2.1 2, N, .inl (fun _ => 0))) → WP E k d mc' ms' (pc + 2) L (.ref a :: st) h1 Q) : WP E k d mc ms pc L (.int (nI N) :: st) h Q := by
  subst ha
  exact R_newarray_byte hd hw (nI_pos (by omega)) (nI_clamp (by omega)) hN2 hmc hms (kk _ (Psh.of rfl))
theorem R_anewarrayRow_A {i N mc' ms' a : Nat} (hd : decode k.2.1 pc = .ok (.anewarray i, 3)) (hw : Cond.classLink k.1.cls i "PairPacker$Row" ∈ gw) (hN2 : N ≤ 100000) (ha : h.1 = a) (hmc : mc = mc' + 1) (hms : ms = ms' + N) (kk : ∀ h1, Psh h h1 a (.inl (E.2.2.1 3, N, .inr (.inr (.inr (.inr (fun _ => none)))))) → WP E k d mc' ms' (pc + 3) L (.ref a :: st) h1 Q) : WP E k d mc ms pc L (.int (nI N) :: st) h Q := by
  subst ha
  exact R_anewarrayRow hd hw (nI_pos (by omega)) (nI_clamp (by omega)) hN2 hmc hms (kk _ (Psh.of rfl))
theorem R_aastoreRow_N {a n v i : Nat} {vs : List Value} {f : Nat → Option Nat} (hd : decode k.2.1 pc = .ok (.aastore, 1)) (ha : h.2 a = some (.inl (E.2.2.1 3, n, .inr (.inr (.inr (.inr f)))))) (hv : h.2 v = some (.inr (6, vs))) (hin : i < n) (hn : n < 2 ^ 31) (kk : ∀ h1, Upd h h1 a (.inl (E.2.2.1 3, n, .inr (.inr (.inr (.inr (va_up f i (some v))))))) → WP E k d mc ms (pc + 1) L st h1 Q) : WP E k d mc ms pc L (.ref v :: .int (nI i) :: .ref a :: st) h Q := R_aastoreRow hd ha hv (vp_in_nI hin hn) (by rw [nI_clamp (by omega)]; exact kk _ Upd.of)
theorem R_anewarrayPacking_A {i N mc' ms' a : Nat} (hd : decode k.2.1 pc = .ok (.anewarray i, 3)) (hw : Cond.classLink k.1.cls i "PairPacker$Packing" ∈ gw) (hN2 : N ≤ 100000) (ha : h.1 = a) (hmc : mc = mc' + 1) (hms : ms = ms' + N) (kk : ∀ h1, Psh h h1 a (.inl (E.2.2.1 4, N, .inr (.inr (.inr (.inr (fun _ => none)))))) → WP E k d mc' ms' (pc + 3) L (.ref a :: st) h1 Q) : WP E k d mc ms pc L (.int (nI N) :: st) h Q := by
  subst ha
  exact R_anewarrayPacking hd hw (nI_pos (by omega)) (nI_clamp (by omega)) hN2 hmc hms (kk _ (Psh.of rfl))
theorem R_aastorePacking_N {a n v i : Nat} {vs : List Value} {f : Nat → Option Nat} (hd : decode k.2.1 pc = .ok (.aastore, 1)) (ha : h.2 a = some (.inl (E.2.2.1 4, n, .inr (.inr (.inr (.inr f)))))) (hv : h.2 v = some (.inr (2, vs))) (hin : i < n) (hn : n < 2 ^ 31) (kk : ∀ h1, Upd h h1 a (.inl (E.2.2.1 4, n, .inr (.inr (.inr (.inr (va_up f i (some v))))))) → WP E k d mc ms (pc + 1) L st h1 Q) : WP E k d mc ms pc L (.ref v :: .int (nI i) :: .ref a :: st) h Q := R_aastorePacking hd ha hv (vp_in_nI hin hn) (by rw [nI_clamp (by omega)]; exact kk _ Upd.of)
end ALLOC
theorem b_0 : ∀ j, j < 6 → defaultValue (tyX0 j) = vp_V [.null, .null, .null, .null, .null, .null] j := by
  intro j hj
  match j, hj with
  | 0, _ => rfl
  | 1, _ => rfl
  | 2, _ => rfl
  | 3, _ => rfl
  | 4, _ => rfl
  | 5, _ => rfl
  | j + 6, hj => exact absurd hj (by omega)
theorem b_1 : ∀ j, j < 7 → defaultValue (tyX1 j) = vp_V [.null, .null, .null, .int 0, .int 0, .int 0, .int 0] j := by
  intro j hj
  match j, hj with
  | 0, _ => rfl
  | 1, _ => rfl
  | 2, _ => rfl
  | 3, _ => rfl
  | 4, _ => rfl
  | 5, _ => rfl
  | 6, _ => rfl
  | j + 7, hj => exact absurd hj (by omega)
theorem b_2 : ∀ j, j < 3 → defaultValue (tyX2 j) = vp_V [.null, .null, .null] j := by
  intro j hj
  match j, hj with
  | 0, _ => rfl
  | 1, _ => rfl
  | 2, _ => rfl
  | j + 3, hj => exact absurd hj (by omega)
theorem b_3 : ∀ j, j < 2 → defaultValue (tyX3 j) = vp_V [.null, .null] j := by
  intro j hj
  match j, hj with
  | 0, _ => rfl
  | 1, _ => rfl
  | j + 2, hj => exact absurd hj (by omega)
theorem b_4 : ∀ j, j < 3 → defaultValue (tyX4 j) = vp_V [.null, .int 0, .int 0] j := by
  intro j hj
  match j, hj with
  | 0, _ => rfl
  | 1, _ => rfl
  | 2, _ => rfl
  | j + 3, hj => exact absurd hj (by omega)
theorem b_5 : ∀ j, j < 7 → defaultValue (tyX5 j) = vp_V [.null, .null, .null, .null, .null, .int 0, .int 0] j := by
  intro j hj
  match j, hj with
  | 0, _ => rfl
  | 1, _ => rfl
  | 2, _ => rfl
  | 3, _ => rfl
  | 4, _ => rfl
  | 5, _ => rfl
  | 6, _ => rfl
  | j + 7, hj => exact absurd hj (by omega)
theorem b_6 : ∀ j, j < 2 → defaultValue (tyX6 j) = vp_V [.null, .int 0] j := by
  intro j hj
  match j, hj with
  | 0, _ => rfl
  | 1, _ => rfl
  | j + 2, hj => exact absurd hj (by omega)
theorem b_7 : ∀ j, j < 4 → defaultValue (tyX7 j) = vp_V [.null, .null, .null, .null] j := by
  intro j hj
  match j, hj with
  | 0, _ => rfl
  | 1, _ => rfl
  | 2, _ => rfl
  | 3, _ => rfl
  | j + 4, hj => exact absurd hj (by omega)
theorem b_8 : ∀ j, j < 5 → defaultValue (tyX8 j) = vp_V [.null, .null, .null, .int 0, .int 0] j := by
  intro j hj
  match j, hj with
  | 0, _ => rfl
  | 1, _ => rfl
  | 2, _ => rfl
  | 3, _ => rfl
  | 4, _ => rfl
  | j + 5, hj => exact absurd hj (by omega)
theorem b_9 : ∀ j, j < 18 → defaultValue (tyX9 j) = vp_V [.null, .null, .null, .null, .null, .null, .null, .int 0, .int 0, .null, .null, .int 0, .null, .null, .null, .null, .null, .null] j := by
  intro j hj
  match j, hj with
  | 0, _ => rfl
  | 1, _ => rfl
  | 2, _ => rfl
  | 3, _ => rfl
  | 4, _ => rfl
  | 5, _ => rfl
  | 6, _ => rfl
  | 7, _ => rfl
  | 8, _ => rfl
  | 9, _ => rfl
  | 10, _ => rfl
  | 11, _ => rfl
  | 12, _ => rfl
  | 13, _ => rfl
  | 14, _ => rfl
  | 15, _ => rfl
  | 16, _ => rfl
  | 17, _ => rfl
  | j + 18, hj => exact absurd hj (by omega)
theorem b_10 : ∀ j, j < 38 → defaultValue (tyX10 j) = vp_V [.int 0, .null, .null, .null, .null, .int 0, .null, .null, .null, .null, .null, .int 0, .null, .int 0, .int 0, .int 0, .int 0, .null, .null, .int 0, .int 0, .int 0, .null, .null, .int 0, .null, .null, .null, .null, .null, .int 0, .null, .null, .null, .int 0, .int 0, .int 0, .int 0] j := by
  intro j hj
  match j, hj with
  | 0, _ => rfl
  | 1, _ => rfl
  | 2, _ => rfl
  | 3, _ => rfl
  | 4, _ => rfl
  | 5, _ => rfl
  | 6, _ => rfl
  | 7, _ => rfl
  | 8, _ => rfl
  | 9, _ => rfl
  | 10, _ => rfl
  | 11, _ => rfl
  | 12, _ => rfl
  | 13, _ => rfl
  | 14, _ => rfl
  | 15, _ => rfl
  | 16, _ => rfl
  | 17, _ => rfl
  | 18, _ => rfl
  | 19, _ => rfl
  | 20, _ => rfl
  | 21, _ => rfl
  | 22, _ => rfl
  | 23, _ => rfl
  | 24, _ => rfl
  | 25, _ => rfl
  | 26, _ => rfl
  | 27, _ => rfl
  | 28, _ => rfl
  | 29, _ => rfl
  | 30, _ => rfl
  | 31, _ => rfl
  | 32, _ => rfl
  | 33, _ => rfl
  | 34, _ => rfl
  | 35, _ => rfl
  | 36, _ => rfl
  | 37, _ => rfl
  | j + 38, hj => exact absurd hj (by omega)
