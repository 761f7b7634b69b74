/-! THE PROGRAM LOGIC. E: what is fixed for a whole run (launch, classes, array classes, the heap at the start).
    h : Hp is what we know of the heap: its size, and which cells hold what. WP: from here the method comes to its end with Q. -/
abbrev EnvT : Type := Launch × va_G × (Nat → ClassId) × Heap
abbrev Hp : Type := Nat × (Nat → Option va_E)
def tysE (dA : Nat → ClassId) : List (ClassId × FieldType) := [(dA 0, .int), (dA 1, .boolean), (dA 2, .byte), (dA 3, .object "PairPacker$Row"), (dA 4, .object "PairPacker$Packing")]
def KE (E : EnvT) (s : State) : Prop := va_K E.2.1 vwCl (tysE E.2.2.1) s ∧ (∀ q ∈ nestW, va_Nw q s) ∧ va_AO "PairPacker$Row" s ∧ va_AO "PairPacker$Packing" s
def RelH (E : EnvT) (h : Hp) (H : Heap) : Prop := H.size = h.1 ∧ (∀ (a : Nat) (e : va_E), h.2 a = some e → va_at E.2.1 vwCl (a, e) H ∧ E.2.2.2.size ≤ a) ∧ (∀ q : Nat, q < E.2.2.2.size → H[q]? = E.2.2.2[q]?) ∧ E.2.2.2.size ≤ H.size
def hup (h : Hp) (a : Nat) (e : va_E) : Hp := (h.1, fun q => if q = a then some e else h.2 q)
def hpush (h : Hp) (e : va_E) : Hp := (h.1 + 1, fun q => if q = h.1 then some e else h.2 q)
def Lr (ls : Array Slot) (nL : Nat) (L : List (Option Value)) : Prop := ls.size = nL ∧ lv_wf ls ∧ ∀ (i : Nat) (v : Value), L[i]? = some (some v) → ls[i]? = some (.val v) ∧ v.category = 1
def Cx (E : EnvT) (k : MI) (p : Program) (R : Room) (s : State) (m : MethodId) (args : Array Value) (meth : Method) (c : Code) (d : Nat) : Prop :=
  p.tables.exec = Jvm.exec ∧ c.code = k.2.1 ∧ meth.sig.returnType = k.2.2.2 ∧ c.maxLocals = k.2.2.1 ∧ s.vm.findClass k.1.cls = some m.cls ∧ (∀ w ∈ gw, w.before args s = true) ∧ meth.locks = false ∧ KE E s ∧ meth.name = k.1.name ∧ d ≤ R.frames ∧ 64 * d ≤ R.locals
def RetOk (k : MI) (v : Option Value) (pc : Nat) : Prop := match v with
  | none => k.2.2.2 = none ∧ decode k.2.1 pc = .ok (.return_, 1)
  | some (.int x) => decode k.2.1 pc = .ok (.ireturn, 1) ∧ ∃ ty, k.2.2.2 = some ty ∧ narrow ty (.int x) = .int x
  | some (.float _) => decode k.2.1 pc = .ok (.freturn, 1) ∧ k.2.2.2 = some .float
  | some (.ref _) => decode k.2.1 pc = .ok (.areturn, 1) ∧ ∃ n, k.2.2.2 = some (.object n)
  | _ => False
def WP (E : EnvT) (k : MI) (d mc ms : Nat) (pc : Nat) (L : List (Option Value)) (st : List Value) (h : Hp) (Q : Option Value → Hp → Prop) : Prop :=
  ∀ (p : Program) (e : Env) (R : Room) (s : State) (m : MethodId) (args : Array Value) (below : List Frame) (meth : Method) (c : Code) (H : Heap) (locs : List Loc) (cells slots KC KS : Nat) (Z : State → Prop) (ls : Array Slot),
    Cx E k p R s m args meth c d → Lr ls k.2.2.1 L → RelH E h H → (∀ q ∈ locs, E.2.2.2.size ≤ q.base) → cells + mc = KC → slots + ms = KS → KC ≤ R.cells → KS ≤ R.slots →
    (∀ (v : Option Value) (h' : Hp) (H' : Heap) (locs' : List Loc) (pc' : Nat) (ls' : Array Slot), Q v h' → RelH E h' H' → (∀ q ∈ locs', E.2.2.2.size ≤ q.base) → RetOk k v pc' → W p E.1 e R s m args below meth c H' locs' KC KS Z (F0 m pc' ls' v.toList)) →
    W p E.1 e R s m args below meth c H locs cells slots Z (F0 m pc ls st)
def rmE (d mc ms : Nat) : Room := { frames := d, cells := mc, slots := ms, locals := 64 * d }
def PcE (E : EnvT) (args : List Value) (h : Hp) : Array Value → State → Prop := fun a s => a = args.toArray ∧ RelH E h s.heap ∧ KE E s
def QcE (E : EnvT) (Q : Option Value → Hp → Prop) : Array Value → State → Outcome → State → Prop := fun _ _ o t => ∃ (v : Option Value) (h' : Hp), o = .returned v ∧ RelH E h' t.heap ∧ Q v h'
def wsE (k : MI) : List Cond := .code k.1 k.2.1 k.2.2.1 k.2.2.2 :: gw
/-- a method, run on these arguments over this heap, within d calls and this room, comes to an end with Q -/
def Spec (E : EnvT) (k : MI) (d mc ms : Nat) (args : List Value) (h : Hp) (Q : Option Value → Hp → Prop) : Prop :=
  Met E.1 k.1 (wsE k) (rmE d mc ms) (PcE E args h) (QcE E Q) mc ms (fun q => E.2.2.2.size ≤ q)

theorem KE.warm {E : EnvT} {s U : State} (hW : s.WarmedH U.vm) (hK : KE E s) : KE E U := by
  refine ⟨va_K.moved hW.alike hK.1, fun w hw => ?_, va_AO.moved hW.alike hK.2.2.1, va_AO.moved hW.alike hK.2.2.2⟩
  have h1 := hK.2.1 w hw
  simp only [nestW, List.mem_cons, List.not_mem_nil, or_false] at hw
  rcases hw with rfl | rfl | rfl | rfl | rfl | rfl | rfl | rfl | rfl | rfl <;> exact va_Nw.warmM hW h1
theorem KE.blind {E : EnvT} {U : State} {g : JFrame} {mk : MethodId} {a : Array Value} (hK : KE E U) : KE E (U.calling g mk a) := by
  refine ⟨va_K.moved (u := U) (U := U.calling g mk a) (Vm.Alike.refl U.vm) hK.1, fun w hw => ?_, va_AO.moved (U := U.calling g mk a) (Vm.Alike.refl U.vm) hK.2.2.1, va_AO.moved (U := U.calling g mk a) (Vm.Alike.refl U.vm) hK.2.2.2⟩
  have h1 := hK.2.1 w hw
  simp only [nestW, List.mem_cons, List.not_mem_nil, or_false] at hw
  rcases hw with rfl | rfl | rfl | rfl | rfl | rfl | rfl | rfl | rfl | rfl <;> exact va_Nw.same rfl rfl h1
theorem PcE.blind {E : EnvT} {args : List Value} {h : Hp} : FrameBlind (PcE E args h) := fun a U g mk hp => ⟨hp.1, hp.2.1, hp.2.2.blind⟩
theorem Lr.at {ls : Array Slot} {nL : Nat} {L : List (Option Value)} (h : Lr ls nL L) {i : Nat} {v : Value} (hi : L[i]? = some (some v)) : ls[i]? = some (.val v) := (h.2.2 i v hi).1
/-- the listed values of L -/
def Lpairs (L : List (Option Value)) : List (Nat × Value) := (List.range L.length).filterMap (fun i => (L[i]?.join).map (fun v => (i, v)))
theorem Lpairs_in {L : List (Option Value)} {i : Nat} {v : Value} : (i, v) ∈ Lpairs L ↔ L[i]? = some (some v) := by
  simp only [Lpairs, List.mem_filterMap, List.mem_range, Option.map_eq_some_iff, Prod.mk.injEq]
  constructor
  · rintro ⟨j, hj, w, hw, rfl, rfl⟩
    cases hx : L[j]? with
    | none => rw [hx] at hw; cases hw
    | some o => rw [hx] at hw; rw [show o = some w from hw]
  · intro hi
    refine ⟨i, (List.getElem?_eq_some_iff.mp hi).1, v, ?_, rfl, rfl⟩
    rw [hi]; rfl
theorem Lr.has {ls : Array Slot} {nL : Nat} {L : List (Option Value)} (h : Lr ls nL L) : lv_has ls nL (Lpairs L) := ⟨h.1, h.2.1, fun q hq => (h.2.2 q.1 q.2 (Lpairs_in.mp hq)).1⟩
theorem Lr.stored {ls' : Array Slot} {ls : Array Slot} {nL i : Nat} {v : Value} {L : List (Option Value)} (h : Lr ls nL L) (hc : v.category = 1)
    (h' : lv_has ls' nL ((i, v) :: (Lpairs L).filter (fun q => !(q.1 == i) && !(q.1 + 1 == i && q.2.category == 2)))) : Lr ls' nL (L.set i (some v)) := by
  refine ⟨h'.1, h'.2.1, fun j w hj => ?_⟩
  by_cases hji : j = i
  · subst hji
    by_cases hl : j < L.length
    · rw [List.getElem?_set_self hl] at hj
      cases hj
      exact ⟨h'.2.2 (j, v) List.mem_cons_self, hc⟩
    · rw [List.set_eq_of_length_le (by omega)] at hj
      exact absurd (List.getElem?_eq_some_iff.mp hj).1 hl
  · rw [List.getElem?_set_ne (Ne.symm hji)] at hj
    have h1 := h.2.2 j w hj
    refine ⟨h'.2.2 (j, w) (List.mem_cons_of_mem _ (List.mem_filter.mpr ⟨Lpairs_in.mpr hj, ?_⟩)), h1.2⟩
    simp [hji, h1.2]
theorem Lr.set {ls : Array Slot} {nL i : Nat} {v : Value} {L : List (Option Value)} (h : Lr ls nL L) (hi : i < nL) (hc : v.category = 1) :
    ∃ ls', storeLocals ls i v = some ls' ∧ Lr ls' nL (L.set i (some v)) := by
  obtain ⟨ls', e, h'⟩ := lv_store1 h.has hi hc
  exact ⟨ls', e, h.stored hc h'⟩
theorem RelH.cell {E : EnvT} {h : Hp} {H : Heap} (hR : RelH E h H) {a : Nat} {e : va_E} (ha : h.2 a = some e) : va_at E.2.1 vwCl (a, e) H := (hR.2.1 a e ha).1
theorem RelH.P1 {E : EnvT} {h : Hp} {H : Heap} (hR : RelH E h H) {a : Nat} {e : va_E} (ha : h.2 a = some e) : va_P E.2.1 vwCl [(a, e)] H := by
  intro k q hk
  cases k with
  | zero => cases hk; exact hR.cell ha
  | succ k => simp at hk
theorem RelH.set {E : EnvT} {h : Hp} {H H1 : Heap} (hR : RelH E h H) {a : Nat} {e0 e : va_E} (ha : h.2 a = some e0) (he : va_at E.2.1 vwCl (a, e) H1) (z : H1.size = H.size) (oq : ∀ q : Nat, q ≠ a → H1[q]? = H[q]?) : RelH E (hup h a e) H1 := by
  have hb := (hR.2.1 a e0 ha).2
  refine ⟨z.trans hR.1, fun b f hf => ?_, fun q hq => (oq q (by omega)).trans (hR.2.2.1 q hq), by rw [z]; exact hR.2.2.2⟩
  by_cases hba : b = a
  · subst hba
    simp only [hup, if_true] at hf
    cases hf
    exact ⟨he, hb⟩
  · simp only [hup, if_neg hba] at hf
    exact ⟨(hR.2.1 b f hf).1.kept (oq b hba), (hR.2.1 b f hf).2⟩
theorem RelH.push {E : EnvT} {h : Hp} {H H1 : Heap} (hR : RelH E h H) {e : va_E} (he : va_at E.2.1 vwCl (h.1, e) H1) (z : H1.size = h.1 + 1) (oq : ∀ q : Nat, q < h.1 → H1[q]? = H[q]?) : RelH E (hpush h e) H1 := by
  have hs := hR.1
  refine ⟨z, fun b f hf => ?_, fun q hq => (oq q (by have := hR.2.2.2; omega)).trans (hR.2.2.1 q hq), by have := hR.2.2.2; omega⟩
  by_cases hba : b = h.1
  · subst hba
    simp only [hpush, if_true] at hf
    cases hf
    exact ⟨he, by rw [← hs]; exact hR.2.2.2⟩
  · simp only [hpush, if_neg hba] at hf
    have h1 := hR.2.1 b f hf
    have hlt : b < H.size := h1.1.lt
    exact ⟨h1.1.kept (oq b (by omega)), h1.2⟩
section RULES
variable {E : EnvT} {k : MI} {d mc ms pc : Nat} {L : List (Option Value)} {st : List Value} {h : Hp} {Q : Option Value → Hp → Prop}

theorem R_iconst {n : Int} {v : Int32} (hd : decode k.2.1 pc = .ok (.iconst n, 1)) (hv : Int32.ofInt n = v) (kk : WP E k d mc ms (pc + 1) L (.int v :: st) h Q) : WP E k d mc ms pc L st h Q := by
  intro p e R s m args below meth c H locs cells slots KC KS Z ls C hL hR hlo h1 h2 h3 h4 kr
  exact lv_iconst C.1 C.2.1 hd hv (kk p e R s m args below meth c H locs cells slots KC KS Z ls C hL hR hlo h1 h2 h3 h4 kr)

theorem R_bipush {n : Int} {v : Int32} (hd : decode k.2.1 pc = .ok (.bipush n, 2)) (hv : (Int8.ofInt n).toInt32 = v) (kk : WP E k d mc ms (pc + 2) L (.int v :: st) h Q) : WP E k d mc ms pc L st h Q := by
  intro p e R s m args below meth c H locs cells slots KC KS Z ls C hL hR hlo h1 h2 h3 h4 kr
  exact lv_bipush C.1 C.2.1 hd hv (kk p e R s m args below meth c H locs cells slots KC KS Z ls C hL hR hlo h1 h2 h3 h4 kr)

theorem R_sipush {n : Int} {v : Int32} (hd : decode k.2.1 pc = .ok (.sipush n, 3)) (hv : (Int16.ofInt n).toInt32 = v) (kk : WP E k d mc ms (pc + 3) L (.int v :: st) h Q) : WP E k d mc ms pc L st h Q := by
  intro p e R s m args below meth c H locs cells slots KC KS Z ls C hL hR hlo h1 h2 h3 h4 kr
  exact lv_sipush C.1 C.2.1 hd hv (kk p e R s m args below meth c H locs cells slots KC KS Z ls C hL hR hlo h1 h2 h3 h4 kr)

theorem R_lconst {n : Fin 2} {v : Int64} (hd : decode k.2.1 pc = .ok (.lconst n, 1)) (hv : Int64.ofNat (n : Nat) = v) (kk : WP E k d mc ms (pc + 1) L (.long v :: st) h Q) : WP E k d mc ms pc L st h Q := by
  intro p e R s m args below meth c H locs cells slots KC KS Z ls C hL hR hlo h1 h2 h3 h4 kr
  exact lv_lconst C.1 C.2.1 hd hv (kk p e R s m args below meth c H locs cells slots KC KS Z ls C hL hR hlo h1 h2 h3 h4 kr)

theorem R_fconst0  (hd : decode k.2.1 pc = .ok (.fconst 0, 1))  (kk : WP E k d mc ms (pc + 1) L (.float FP.fconst0 :: st) h Q) : WP E k d mc ms pc L st h Q := by
  intro p e R s m args below meth c H locs cells slots KC KS Z ls C hL hR hlo h1 h2 h3 h4 kr
  exact lv_fconst0 C.1 C.2.1 hd  (kk p e R s m args below meth c H locs cells slots KC KS Z ls C hL hR hlo h1 h2 h3 h4 kr)

theorem R_fconst1  (hd : decode k.2.1 pc = .ok (.fconst 1, 1))  (kk : WP E k d mc ms (pc + 1) L (.float FP.fconst1 :: st) h Q) : WP E k d mc ms pc L st h Q := by
  intro p e R s m args below meth c H locs cells slots KC KS Z ls C hL hR hlo h1 h2 h3 h4 kr
  exact lv_fconst1 C.1 C.2.1 hd  (kk p e R s m args below meth c H locs cells slots KC KS Z ls C hL hR hlo h1 h2 h3 h4 kr)

theorem R_fconst2  (hd : decode k.2.1 pc = .ok (.fconst 2, 1))  (kk : WP E k d mc ms (pc + 1) L (.float FP.fconst2 :: st) h Q) : WP E k d mc ms pc L st h Q := by
  intro p e R s m args below meth c H locs cells slots KC KS Z ls C hL hR hlo h1 h2 h3 h4 kr
  exact lv_fconst2 C.1 C.2.1 hd  (kk p e R s m args below meth c H locs cells slots KC KS Z ls C hL hR hlo h1 h2 h3 h4 kr)

theorem R_iload_n {n : Fin 4} {x : Int32} (hd : decode k.2.1 pc = .ok (.iload_n n, 1)) (hl : L[(n : Nat)]? = some (some (.int x))) (kk : WP E k d mc ms (pc + 1) L (.int x :: st) h Q) : WP E k d mc ms pc L st h Q := by
  intro p e R s m args below meth c H locs cells slots KC KS Z ls C hL hR hlo h1 h2 h3 h4 kr
  exact lv_iload_n C.1 C.2.1 hd rfl (hL.at hl) (kk p e R s m args below meth c H locs cells slots KC KS Z ls C hL hR hlo h1 h2 h3 h4 kr)

theorem R_iload {i : Nat} {x : Int32} (hd : decode k.2.1 pc = .ok (.iload i, 2)) (hl : L[i]? = some (some (.int x))) (kk : WP E k d mc ms (pc + 2) L (.int x :: st) h Q) : WP E k d mc ms pc L st h Q := by
  intro p e R s m args below meth c H locs cells slots KC KS Z ls C hL hR hlo h1 h2 h3 h4 kr
  exact lv_iload C.1 C.2.1 hd (hL.at hl) (kk p e R s m args below meth c H locs cells slots KC KS Z ls C hL hR hlo h1 h2 h3 h4 kr)

theorem R_aload_n {n : Fin 4} {x : Nat} (hd : decode k.2.1 pc = .ok (.aload_n n, 1)) (hl : L[(n : Nat)]? = some (some (.ref x))) (kk : WP E k d mc ms (pc + 1) L (.ref x :: st) h Q) : WP E k d mc ms pc L st h Q := by
  intro p e R s m args below meth c H locs cells slots KC KS Z ls C hL hR hlo h1 h2 h3 h4 kr
  exact lv_aload_n C.1 C.2.1 hd rfl (hL.at hl) (kk p e R s m args below meth c H locs cells slots KC KS Z ls C hL hR hlo h1 h2 h3 h4 kr)

theorem R_aload {i : Nat} {x : Nat} (hd : decode k.2.1 pc = .ok (.aload i, 2)) (hl : L[i]? = some (some (.ref x))) (kk : WP E k d mc ms (pc + 2) L (.ref x :: st) h Q) : WP E k d mc ms pc L st h Q := by
  intro p e R s m args below meth c H locs cells slots KC KS Z ls C hL hR hlo h1 h2 h3 h4 kr
  exact lv_aload C.1 C.2.1 hd (hL.at hl) (kk p e R s m args below meth c H locs cells slots KC KS Z ls C hL hR hlo h1 h2 h3 h4 kr)

theorem R_fload_n {n : Fin 4} {x : UInt32} (hd : decode k.2.1 pc = .ok (.fload_n n, 1)) (hl : L[(n : Nat)]? = some (some (.float x))) (kk : WP E k d mc ms (pc + 1) L (.float x :: st) h Q) : WP E k d mc ms pc L st h Q := by
  intro p e R s m args below meth c H locs cells slots KC KS Z ls C hL hR hlo h1 h2 h3 h4 kr
  exact lv_fload_n C.1 C.2.1 hd rfl (hL.at hl) (kk p e R s m args below meth c H locs cells slots KC KS Z ls C hL hR hlo h1 h2 h3 h4 kr)

theorem R_istore_n {n : Fin 4} {x : Int32} {L' : List (Option Value)} (hd : decode k.2.1 pc = .ok (.istore_n n, 1)) (hn : (n : Nat) < k.2.2.1) (hl : L.set (n : Nat) (some (.int x)) = L') (kk : WP E k d mc ms (pc + 1) L' st h Q) : WP E k d mc ms pc L (.int x :: st) h Q := by
  subst hl
  intro p e R s m args below meth c H locs cells slots KC KS Z ls C hL hR hlo h1 h2 h3 h4 kr
  exact lv_istore_n C.1 C.2.1 hd rfl hL.has hn rfl (fun ls' hl' => kk p e R s m args below meth c H locs cells slots KC KS Z ls' C (hL.stored rfl hl') hR hlo h1 h2 h3 h4 kr)

theorem R_istore {i : Nat} {x : Int32} {L' : List (Option Value)} (hd : decode k.2.1 pc = .ok (.istore i, 2)) (hn : i < k.2.2.1) (hl : L.set i (some (.int x)) = L') (kk : WP E k d mc ms (pc + 2) L' st h Q) : WP E k d mc ms pc L (.int x :: st) h Q := by
  subst hl
  intro p e R s m args below meth c H locs cells slots KC KS Z ls C hL hR hlo h1 h2 h3 h4 kr
  exact lv_istore C.1 C.2.1 hd hL.has hn rfl (fun ls' hl' => kk p e R s m args below meth c H locs cells slots KC KS Z ls' C (hL.stored rfl hl') hR hlo h1 h2 h3 h4 kr)

theorem R_astore_n {n : Fin 4} {x : Nat} {L' : List (Option Value)} (hd : decode k.2.1 pc = .ok (.astore_n n, 1)) (hn : (n : Nat) < k.2.2.1) (hl : L.set (n : Nat) (some (.ref x)) = L') (kk : WP E k d mc ms (pc + 1) L' st h Q) : WP E k d mc ms pc L (.ref x :: st) h Q := by
  subst hl
  intro p e R s m args below meth c H locs cells slots KC KS Z ls C hL hR hlo h1 h2 h3 h4 kr
  exact lv_astore_n C.1 C.2.1 hd rfl hL.has hn rfl (fun ls' hl' => kk p e R s m args below meth c H locs cells slots KC KS Z ls' C (hL.stored rfl hl') hR hlo h1 h2 h3 h4 kr)

theorem R_astore {i : Nat} {x : Nat} {L' : List (Option Value)} (hd : decode k.2.1 pc = .ok (.astore i, 2)) (hn : i < k.2.2.1) (hl : L.set i (some (.ref x)) = L') (kk : WP E k d mc ms (pc + 2) L' st h Q) : WP E k d mc ms pc L (.ref x :: st) h Q := by
  subst hl
  intro p e R s m args below meth c H locs cells slots KC KS Z ls C hL hR hlo h1 h2 h3 h4 kr
  exact lv_astore C.1 C.2.1 hd hL.has hn rfl (fun ls' hl' => kk p e R s m args below meth c H locs cells slots KC KS Z ls' C (hL.stored rfl hl') hR hlo h1 h2 h3 h4 kr)

theorem R_fstore_n {n : Fin 4} {x : UInt32} {L' : List (Option Value)} (hd : decode k.2.1 pc = .ok (.fstore_n n, 1)) (hn : (n : Nat) < k.2.2.1) (hl : L.set (n : Nat) (some (.float x)) = L') (kk : WP E k d mc ms (pc + 1) L' st h Q) : WP E k d mc ms pc L (.float x :: st) h Q := by
  subst hl
  intro p e R s m args below meth c H locs cells slots KC KS Z ls C hL hR hlo h1 h2 h3 h4 kr
  exact lv_fstore_n C.1 C.2.1 hd rfl hL.has hn rfl (fun ls' hl' => kk p e R s m args below meth c H locs cells slots KC KS Z ls' C (hL.stored rfl hl') hR hlo h1 h2 h3 h4 kr)

theorem R_iinc {i : Nat} {n : Int} {x v : Int32} {L' : List (Option Value)} (hd : decode k.2.1 pc = .ok (.iinc i n, 3)) (hx : L[i]? = some (some (.int x))) (hn : i < k.2.2.1) (hv : x + Int32.ofInt n = v) (hl : L.set i (some (.int v)) = L') (kk : WP E k d mc ms (pc + 3) L' st h Q) : WP E k d mc ms pc L st h Q := by
  subst hl
  intro p e R s m args below meth c H locs cells slots KC KS Z ls C hL hR hlo h1 h2 h3 h4 kr
  obtain ⟨q, hq⟩ := List.getElem?_of_mem (Lpairs_in.mpr hx)
  exact lv_iinc C.1 C.2.1 hd hL.has hq hv hn rfl (fun ls' hl' => kk p e R s m args below meth c H locs cells slots KC KS Z ls' C (hL.stored rfl hl') hR hlo h1 h2 h3 h4 kr)

theorem R_iadd {x y : Int32} (hd : decode k.2.1 pc = .ok (.iadd, 1))  (kk : WP E k d mc ms (pc + 1) L (.int (x + y) :: st) h Q) : WP E k d mc ms pc L (.int y :: .int x :: st) h Q := by
  intro p e R s m args below meth c H locs cells slots KC KS Z ls C hL hR hlo h1 h2 h3 h4 kr
  exact lv_iadd C.1 C.2.1 hd  (kk p e R s m args below meth c H locs cells slots KC KS Z ls C hL hR hlo h1 h2 h3 h4 kr)

theorem R_isub {x y : Int32} (hd : decode k.2.1 pc = .ok (.isub, 1))  (kk : WP E k d mc ms (pc + 1) L (.int (x - y) :: st) h Q) : WP E k d mc ms pc L (.int y :: .int x :: st) h Q := by
  intro p e R s m args below meth c H locs cells slots KC KS Z ls C hL hR hlo h1 h2 h3 h4 kr
  exact lv_isub C.1 C.2.1 hd  (kk p e R s m args below meth c H locs cells slots KC KS Z ls C hL hR hlo h1 h2 h3 h4 kr)

theorem R_imul {x y : Int32} (hd : decode k.2.1 pc = .ok (.imul, 1))  (kk : WP E k d mc ms (pc + 1) L (.int (x * y) :: st) h Q) : WP E k d mc ms pc L (.int y :: .int x :: st) h Q := by
  intro p e R s m args below meth c H locs cells slots KC KS Z ls C hL hR hlo h1 h2 h3 h4 kr
  exact lv_imul C.1 C.2.1 hd  (kk p e R s m args below meth c H locs cells slots KC KS Z ls C hL hR hlo h1 h2 h3 h4 kr)

theorem R_iand {x y : Int32} (hd : decode k.2.1 pc = .ok (.iand, 1))  (kk : WP E k d mc ms (pc + 1) L (.int (x &&& y) :: st) h Q) : WP E k d mc ms pc L (.int y :: .int x :: st) h Q := by
  intro p e R s m args below meth c H locs cells slots KC KS Z ls C hL hR hlo h1 h2 h3 h4 kr
  exact lv_iand C.1 C.2.1 hd  (kk p e R s m args below meth c H locs cells slots KC KS Z ls C hL hR hlo h1 h2 h3 h4 kr)

theorem R_ixor {x y : Int32} (hd : decode k.2.1 pc = .ok (.ixor, 1))  (kk : WP E k d mc ms (pc + 1) L (.int (x ^^^ y) :: st) h Q) : WP E k d mc ms pc L (.int y :: .int x :: st) h Q := by
  intro p e R s m args below meth c H locs cells slots KC KS Z ls C hL hR hlo h1 h2 h3 h4 kr
  exact lv_ixor C.1 C.2.1 hd  (kk p e R s m args below meth c H locs cells slots KC KS Z ls C hL hR hlo h1 h2 h3 h4 kr)

theorem R_idiv {x y : Int32} (hd : decode k.2.1 pc = .ok (.idiv, 1)) (hne : ¬ y = 0) (kk : WP E k d mc ms (pc + 1) L (.int (x / y) :: st) h Q) : WP E k d mc ms pc L (.int y :: .int x :: st) h Q := by
  intro p e R s m args below meth c H locs cells slots KC KS Z ls C hL hR hlo h1 h2 h3 h4 kr
  exact lv_idiv C.1 C.2.1 hd hne (kk p e R s m args below meth c H locs cells slots KC KS Z ls C hL hR hlo h1 h2 h3 h4 kr)

theorem R_irem {x y : Int32} (hd : decode k.2.1 pc = .ok (.irem, 1)) (hne : ¬ y = 0) (kk : WP E k d mc ms (pc + 1) L (.int (x - x / y * y) :: st) h Q) : WP E k d mc ms pc L (.int y :: .int x :: st) h Q := by
  intro p e R s m args below meth c H locs cells slots KC KS Z ls C hL hR hlo h1 h2 h3 h4 kr
  exact lv_irem C.1 C.2.1 hd hne (kk p e R s m args below meth c H locs cells slots KC KS Z ls C hL hR hlo h1 h2 h3 h4 kr)

theorem R_ladd {x y : Int64} (hd : decode k.2.1 pc = .ok (.ladd, 1))  (kk : WP E k d mc ms (pc + 1) L (.long (x + y) :: st) h Q) : WP E k d mc ms pc L (.long y :: .long x :: st) h Q := by
  intro p e R s m args below meth c H locs cells slots KC KS Z ls C hL hR hlo h1 h2 h3 h4 kr
  exact lv_ladd C.1 C.2.1 hd  (kk p e R s m args below meth c H locs cells slots KC KS Z ls C hL hR hlo h1 h2 h3 h4 kr)

theorem R_ishl {x y : Int32} (hd : decode k.2.1 pc = .ok (.ishl, 1))  (kk : WP E k d mc ms (pc + 1) L (.int (x <<< (y &&& 31)) :: st) h Q) : WP E k d mc ms pc L (.int y :: .int x :: st) h Q := by
  intro p e R s m args below meth c H locs cells slots KC KS Z ls C hL hR hlo h1 h2 h3 h4 kr
  exact lv_ishl C.1 C.2.1 hd  (kk p e R s m args below meth c H locs cells slots KC KS Z ls C hL hR hlo h1 h2 h3 h4 kr)

theorem R_ishr {x y : Int32} (hd : decode k.2.1 pc = .ok (.ishr, 1))  (kk : WP E k d mc ms (pc + 1) L (.int (x >>> (y &&& 31)) :: st) h Q) : WP E k d mc ms pc L (.int y :: .int x :: st) h Q := by
  intro p e R s m args below meth c H locs cells slots KC KS Z ls C hL hR hlo h1 h2 h3 h4 kr
  exact lv_ishr C.1 C.2.1 hd  (kk p e R s m args below meth c H locs cells slots KC KS Z ls C hL hR hlo h1 h2 h3 h4 kr)

theorem R_iushr {x y : Int32} (hd : decode k.2.1 pc = .ok (.iushr, 1))  (kk : WP E k d mc ms (pc + 1) L (.int ((x.toUInt32 >>> (y.toUInt32 &&& Int32.toUInt32 31)).toInt32) :: st) h Q) : WP E k d mc ms pc L (.int y :: .int x :: st) h Q := by
  intro p e R s m args below meth c H locs cells slots KC KS Z ls C hL hR hlo h1 h2 h3 h4 kr
  exact lv_iushr C.1 C.2.1 hd rfl (kk p e R s m args below meth c H locs cells slots KC KS Z ls C hL hR hlo h1 h2 h3 h4 kr)

theorem R_i2l {x : Int32} (hd : decode k.2.1 pc = .ok (.i2l, 1))  (kk : WP E k d mc ms (pc + 1) L (.long x.toInt64 :: st) h Q) : WP E k d mc ms pc L (.int x :: st) h Q := by
  intro p e R s m args below meth c H locs cells slots KC KS Z ls C hL hR hlo h1 h2 h3 h4 kr
  exact lv_i2l C.1 C.2.1 hd rfl (kk p e R s m args below meth c H locs cells slots KC KS Z ls C hL hR hlo h1 h2 h3 h4 kr)

theorem R_i2b {x : Int32} (hd : decode k.2.1 pc = .ok (.i2b, 1))  (kk : WP E k d mc ms (pc + 1) L (.int x.toInt8.toInt32 :: st) h Q) : WP E k d mc ms pc L (.int x :: st) h Q := by
  intro p e R s m args below meth c H locs cells slots KC KS Z ls C hL hR hlo h1 h2 h3 h4 kr
  exact lv_i2b C.1 C.2.1 hd rfl (kk p e R s m args below meth c H locs cells slots KC KS Z ls C hL hR hlo h1 h2 h3 h4 kr)

theorem R_dup {va : Value} (hd : decode k.2.1 pc = .ok (.dup, 1)) (hva : va.category = 1) (kk : WP E k d mc ms (pc + 1) L (va :: va :: st) h Q) : WP E k d mc ms pc L (va :: st) h Q := by
  intro p e R s m args below meth c H locs cells slots KC KS Z ls C hL hR hlo h1 h2 h3 h4 kr
  exact lv_dup C.1 C.2.1 hd hva (kk p e R s m args below meth c H locs cells slots KC KS Z ls C hL hR hlo h1 h2 h3 h4 kr)

theorem R_pop {va : Value} (hd : decode k.2.1 pc = .ok (.pop, 1)) (hva : va.category = 1) (kk : WP E k d mc ms (pc + 1) L st h Q) : WP E k d mc ms pc L (va :: st) h Q := by
  intro p e R s m args below meth c H locs cells slots KC KS Z ls C hL hR hlo h1 h2 h3 h4 kr
  exact lv_pop C.1 C.2.1 hd hva (kk p e R s m args below meth c H locs cells slots KC KS Z ls C hL hR hlo h1 h2 h3 h4 kr)

theorem R_lcmp {x y : Int64} (hd : decode k.2.1 pc = .ok (.lcmp, 1))  (kk : WP E k d mc ms (pc + 1) L (.int (lg_cmp x y) :: st) h Q) : WP E k d mc ms pc L (.long y :: .long x :: st) h Q := by
  intro p e R s m args below meth c H locs cells slots KC KS Z ls C hL hR hlo h1 h2 h3 h4 kr
  exact W.lcmp C.1 C.2.1 hd  (kk p e R s m args below meth c H locs cells slots KC KS Z ls C hL hR hlo h1 h2 h3 h4 kr)

theorem R_i2f {x : Int32} (hd : decode k.2.1 pc = .ok (.i2f, 1))  (kk : WP E k d mc ms (pc + 1) L (.float (FP.i2f x) :: st) h Q) : WP E k d mc ms pc L (.int x :: st) h Q := by
  intro p e R s m args below meth c H locs cells slots KC KS Z ls C hL hR hlo h1 h2 h3 h4 kr
  exact lv_i2f C.1 C.2.1 hd  (kk p e R s m args below meth c H locs cells slots KC KS Z ls C hL hR hlo h1 h2 h3 h4 kr)

theorem R_f2i {x : UInt32} (hd : decode k.2.1 pc = .ok (.f2i, 1))  (kk : WP E k d mc ms (pc + 1) L (.int (FP.f2i x) :: st) h Q) : WP E k d mc ms pc L (.float x :: st) h Q := by
  intro p e R s m args below meth c H locs cells slots KC KS Z ls C hL hR hlo h1 h2 h3 h4 kr
  exact lv_f2i C.1 C.2.1 hd  (kk p e R s m args below meth c H locs cells slots KC KS Z ls C hL hR hlo h1 h2 h3 h4 kr)

theorem R_fcmp {x y : UInt32} {op : CmpOp} (hd : decode k.2.1 pc = .ok (.fcmp op, 1))  (kk : WP E k d mc ms (pc + 1) L (.int (Op.cmpValue (FP.fcmp x y) op) :: st) h Q) : WP E k d mc ms pc L (.float y :: .float x :: st) h Q := by
  intro p e R s m args below meth c H locs cells slots KC KS Z ls C hL hR hlo h1 h2 h3 h4 kr
  exact lv_fcmp C.1 C.2.1 hd  (kk p e R s m args below meth c H locs cells slots KC KS Z ls C hL hR hlo h1 h2 h3 h4 kr)

theorem R_fadd {x y : UInt32} (hd : decode k.2.1 pc = .ok (.fadd, 1)) (hne : vf_n32 (FP.fadd x y)) (kk : WP E k d mc ms (pc + 1) L (.float (FP.fadd x y) :: st) h Q) : WP E k d mc ms pc L (.float y :: .float x :: st) h Q := by
  intro p e R s m args below meth c H locs cells slots KC KS Z ls C hL hR hlo h1 h2 h3 h4 kr
  exact lv_fadd C.1 C.2.1 hd hne (kk p e R s m args below meth c H locs cells slots KC KS Z ls C hL hR hlo h1 h2 h3 h4 kr)

theorem R_fsub {x y : UInt32} (hd : decode k.2.1 pc = .ok (.fsub, 1)) (hne : vf_n32 (FP.fsub x y)) (kk : WP E k d mc ms (pc + 1) L (.float (FP.fsub x y) :: st) h Q) : WP E k d mc ms pc L (.float y :: .float x :: st) h Q := by
  intro p e R s m args below meth c H locs cells slots KC KS Z ls C hL hR hlo h1 h2 h3 h4 kr
  exact lv_fsub C.1 C.2.1 hd hne (kk p e R s m args below meth c H locs cells slots KC KS Z ls C hL hR hlo h1 h2 h3 h4 kr)

theorem R_fmul {x y : UInt32} (hd : decode k.2.1 pc = .ok (.fmul, 1)) (hne : vf_n32 (FP.fmul x y)) (kk : WP E k d mc ms (pc + 1) L (.float (FP.fmul x y) :: st) h Q) : WP E k d mc ms pc L (.float y :: .float x :: st) h Q := by
  intro p e R s m args below meth c H locs cells slots KC KS Z ls C hL hR hlo h1 h2 h3 h4 kr
  exact lv_fmul C.1 C.2.1 hd hne (kk p e R s m args below meth c H locs cells slots KC KS Z ls C hL hR hlo h1 h2 h3 h4 kr)

theorem R_fdiv {x y : UInt32} (hd : decode k.2.1 pc = .ok (.fdiv, 1)) (hne : vf_n32 (FP.fdiv x y)) (kk : WP E k d mc ms (pc + 1) L (.float (FP.fdiv x y) :: st) h Q) : WP E k d mc ms pc L (.float y :: .float x :: st) h Q := by
  intro p e R s m args below meth c H locs cells slots KC KS Z ls C hL hR hlo h1 h2 h3 h4 kr
  exact lv_fdiv C.1 C.2.1 hd hne (kk p e R s m args below meth c H locs cells slots KC KS Z ls C hL hR hlo h1 h2 h3 h4 kr)

theorem R_ldc {i : Nat} {v : Int32} (hd : decode k.2.1 pc = .ok (.ldc i, 2)) (hw : Cond.constant k.1.cls i v ∈ gw) (kk : WP E k d mc ms (pc + 2) L (.int v :: st) h Q) : WP E k d mc ms pc L st h Q := by
  intro p e R s m args below meth c H locs cells slots KC KS Z ls C hL hR hlo h1 h2 h3 h4 kr
  exact lv_ldc C.1 C.2.1 C.2.2.2.2.1 (C.2.2.2.2.2.1 _ hw) hd (kk p e R s m args below meth c H locs cells slots KC KS Z ls C hL hR hlo h1 h2 h3 h4 kr)

theorem R_ldcw {i : Nat} {v : Int32} (hd : decode k.2.1 pc = .ok (.ldc_w i, 3)) (hw : Cond.constant k.1.cls i v ∈ gw) (kk : WP E k d mc ms (pc + 3) L (.int v :: st) h Q) : WP E k d mc ms pc L st h Q := by
  intro p e R s m args below meth c H locs cells slots KC KS Z ls C hL hR hlo h1 h2 h3 h4 kr
  exact lv_ldcw C.1 C.2.1 C.2.2.2.2.1 (C.2.2.2.2.2.1 _ hw) hd (kk p e R s m args below meth c H locs cells slots KC KS Z ls C hL hR hlo h1 h2 h3 h4 kr)

theorem R_ldc2 {i : Nat} {v : Int64} (hd : decode k.2.1 pc = .ok (.ldc2_w i, 3)) (hw : Cond.constantLong k.1.cls i v ∈ gw) (kk : WP E k d mc ms (pc + 3) L (.long v :: st) h Q) : WP E k d mc ms pc L st h Q := by
  intro p e R s m args below meth c H locs cells slots KC KS Z ls C hL hR hlo h1 h2 h3 h4 kr
  exact lv_ldc2 C.1 C.2.1 C.2.2.2.2.1 (C.2.2.2.2.2.1 _ hw) hd (kk p e R s m args below meth c H locs cells slots KC KS Z ls C hL hR hlo h1 h2 h3 h4 kr)

theorem R_ldcf {i : Nat} {v : UInt32} (hd : decode k.2.1 pc = .ok (.ldc i, 2)) (hw : Cond.constantFloat k.1.cls i v ∈ gw) (kk : WP E k d mc ms (pc + 2) L (.float v :: st) h Q) : WP E k d mc ms pc L st h Q := by
  intro p e R s m args below meth c H locs cells slots KC KS Z ls C hL hR hlo h1 h2 h3 h4 kr
  exact lv_ldcf C.1 C.2.1 C.2.2.2.2.1 (C.2.2.2.2.2.1 _ hw) hd (kk p e R s m args below meth c H locs cells slots KC KS Z ls C hL hR hlo h1 h2 h3 h4 kr)

theorem R_if_eq {x : Int32} {off : Int} {tgt : Nat} (hd : decode k.2.1 pc = .ok (.ifCond .eq off, 3)) (ht : (pc : Int) + off = (tgt : Int)) (kt : x = 0 → WP E k d mc ms tgt L st h Q) (kf : ¬ x = 0 → WP E k d mc ms (pc + 3) L st h Q) : WP E k d mc ms pc L (.int x :: st) h Q := by
  intro p e R s m args below meth c H locs cells slots KC KS Z ls C hL hR hlo h1 h2 h3 h4 kr
  exact lv_if_eq C.1 C.2.1 hd ht (fun z => kt z p e R s m args below meth c H locs cells slots KC KS Z ls C hL hR hlo h1 h2 h3 h4 kr) (fun z => kf z p e R s m args below meth c H locs cells slots KC KS Z ls C hL hR hlo h1 h2 h3 h4 kr)

theorem R_icmp_eq {x y : Int32} {off : Int} {tgt : Nat} (hd : decode k.2.1 pc = .ok (.if_icmp .eq off, 3)) (ht : (pc : Int) + off = (tgt : Int)) (kt : x = y → WP E k d mc ms tgt L st h Q) (kf : ¬ x = y → WP E k d mc ms (pc + 3) L st h Q) : WP E k d mc ms pc L (.int y :: .int x :: st) h Q := by
  intro p e R s m args below meth c H locs cells slots KC KS Z ls C hL hR hlo h1 h2 h3 h4 kr
  exact lv_icmp_eq C.1 C.2.1 hd ht (fun z => kt z p e R s m args below meth c H locs cells slots KC KS Z ls C hL hR hlo h1 h2 h3 h4 kr) (fun z => kf z p e R s m args below meth c H locs cells slots KC KS Z ls C hL hR hlo h1 h2 h3 h4 kr)

theorem R_if_ne {x : Int32} {off : Int} {tgt : Nat} (hd : decode k.2.1 pc = .ok (.ifCond .ne off, 3)) (ht : (pc : Int) + off = (tgt : Int)) (kt : ¬ x = 0 → WP E k d mc ms tgt L st h Q) (kf : x = 0 → WP E k d mc ms (pc + 3) L st h Q) : WP E k d mc ms pc L (.int x :: st) h Q := by
  intro p e R s m args below meth c H locs cells slots KC KS Z ls C hL hR hlo h1 h2 h3 h4 kr
  exact lv_if_ne C.1 C.2.1 hd ht (fun z => kt z p e R s m args below meth c H locs cells slots KC KS Z ls C hL hR hlo h1 h2 h3 h4 kr) (fun z => kf z p e R s m args below meth c H locs cells slots KC KS Z ls C hL hR hlo h1 h2 h3 h4 kr)

theorem R_icmp_ne {x y : Int32} {off : Int} {tgt : Nat} (hd : decode k.2.1 pc = .ok (.if_icmp .ne off, 3)) (ht : (pc : Int) + off = (tgt : Int)) (kt : ¬ x = y → WP E k d mc ms tgt L st h Q) (kf : x = y → WP E k d mc ms (pc + 3) L st h Q) : WP E k d mc ms pc L (.int y :: .int x :: st) h Q := by
  intro p e R s m args below meth c H locs cells slots KC KS Z ls C hL hR hlo h1 h2 h3 h4 kr
  exact lv_icmp_ne C.1 C.2.1 hd ht (fun z => kt z p e R s m args below meth c H locs cells slots KC KS Z ls C hL hR hlo h1 h2 h3 h4 kr) (fun z => kf z p e R s m args below meth c H locs cells slots KC KS Z ls C hL hR hlo h1 h2 h3 h4 kr)

theorem R_if_lt {x : Int32} {off : Int} {tgt : Nat} (hd : decode k.2.1 pc = .ok (.ifCond .lt off, 3)) (ht : (pc : Int) + off = (tgt : Int)) (kt : x < 0 → WP E k d mc ms tgt L st h Q) (kf : ¬ x < 0 → WP E k d mc ms (pc + 3) L st h Q) : WP E k d mc ms pc L (.int x :: st) h Q := by
  intro p e R s m args below meth c H locs cells slots KC KS Z ls C hL hR hlo h1 h2 h3 h4 kr
  exact lv_if_lt C.1 C.2.1 hd ht (fun z => kt z p e R s m args below meth c H locs cells slots KC KS Z ls C hL hR hlo h1 h2 h3 h4 kr) (fun z => kf z p e R s m args below meth c H locs cells slots KC KS Z ls C hL hR hlo h1 h2 h3 h4 kr)

theorem R_icmp_lt {x y : Int32} {off : Int} {tgt : Nat} (hd : decode k.2.1 pc = .ok (.if_icmp .lt off, 3)) (ht : (pc : Int) + off = (tgt : Int)) (kt : x < y → WP E k d mc ms tgt L st h Q) (kf : ¬ x < y → WP E k d mc ms (pc + 3) L st h Q) : WP E k d mc ms pc L (.int y :: .int x :: st) h Q := by
  intro p e R s m args below meth c H locs cells slots KC KS Z ls C hL hR hlo h1 h2 h3 h4 kr
  exact lv_icmp_lt C.1 C.2.1 hd ht (fun z => kt z p e R s m args below meth c H locs cells slots KC KS Z ls C hL hR hlo h1 h2 h3 h4 kr) (fun z => kf z p e R s m args below meth c H locs cells slots KC KS Z ls C hL hR hlo h1 h2 h3 h4 kr)

theorem R_if_ge {x : Int32} {off : Int} {tgt : Nat} (hd : decode k.2.1 pc = .ok (.ifCond .ge off, 3)) (ht : (pc : Int) + off = (tgt : Int)) (kt : 0 ≤ x → WP E k d mc ms tgt L st h Q) (kf : ¬ 0 ≤ x → WP E k d mc ms (pc + 3) L st h Q) : WP E k d mc ms pc L (.int x :: st) h Q := by
  intro p e R s m args below meth c H locs cells slots KC KS Z ls C hL hR hlo h1 h2 h3 h4 kr
  exact lv_if_ge C.1 C.2.1 hd ht (fun z => kt z p e R s m args below meth c H locs cells slots KC KS Z ls C hL hR hlo h1 h2 h3 h4 kr) (fun z => kf z p e R s m args below meth c H locs cells slots KC KS Z ls C hL hR hlo h1 h2 h3 h4 kr)

theorem R_icmp_ge {x y : Int32} {off : Int} {tgt : Nat} (hd : decode k.2.1 pc = .ok (.if_icmp .ge off, 3)) (ht : (pc : Int) + off = (tgt : Int)) (kt : y ≤ x → WP E k d mc ms tgt L st h Q) (kf : ¬ y ≤ x → WP E k d mc ms (pc + 3) L st h Q) : WP E k d mc ms pc L (.int y :: .int x :: st) h Q := by
  intro p e R s m args below meth c H locs cells slots KC KS Z ls C hL hR hlo h1 h2 h3 h4 kr
  exact lv_icmp_ge C.1 C.2.1 hd ht (fun z => kt z p e R s m args below meth c H locs cells slots KC KS Z ls C hL hR hlo h1 h2 h3 h4 kr) (fun z => kf z p e R s m args below meth c H locs cells slots KC KS Z ls C hL hR hlo h1 h2 h3 h4 kr)

theorem R_if_gt {x : Int32} {off : Int} {tgt : Nat} (hd : decode k.2.1 pc = .ok (.ifCond .gt off, 3)) (ht : (pc : Int) + off = (tgt : Int)) (kt : 0 < x → WP E k d mc ms tgt L st h Q) (kf : ¬ 0 < x → WP E k d mc ms (pc + 3) L st h Q) : WP E k d mc ms pc L (.int x :: st) h Q := by
  intro p e R s m args below meth c H locs cells slots KC KS Z ls C hL hR hlo h1 h2 h3 h4 kr
  exact lv_if_gt C.1 C.2.1 hd ht (fun z => kt z p e R s m args below meth c H locs cells slots KC KS Z ls C hL hR hlo h1 h2 h3 h4 kr) (fun z => kf z p e R s m args below meth c H locs cells slots KC KS Z ls C hL hR hlo h1 h2 h3 h4 kr)

theorem R_icmp_gt {x y : Int32} {off : Int} {tgt : Nat} (hd : decode k.2.1 pc = .ok (.if_icmp .gt off, 3)) (ht : (pc : Int) + off = (tgt : Int)) (kt : y < x → WP E k d mc ms tgt L st h Q) (kf : ¬ y < x → WP E k d mc ms (pc + 3) L st h Q) : WP E k d mc ms pc L (.int y :: .int x :: st) h Q := by
  intro p e R s m args below meth c H locs cells slots KC KS Z ls C hL hR hlo h1 h2 h3 h4 kr
  exact lv_icmp_gt C.1 C.2.1 hd ht (fun z => kt z p e R s m args below meth c H locs cells slots KC KS Z ls C hL hR hlo h1 h2 h3 h4 kr) (fun z => kf z p e R s m args below meth c H locs cells slots KC KS Z ls C hL hR hlo h1 h2 h3 h4 kr)

theorem R_if_le {x : Int32} {off : Int} {tgt : Nat} (hd : decode k.2.1 pc = .ok (.ifCond .le off, 3)) (ht : (pc : Int) + off = (tgt : Int)) (kt : x ≤ 0 → WP E k d mc ms tgt L st h Q) (kf : ¬ x ≤ 0 → WP E k d mc ms (pc + 3) L st h Q) : WP E k d mc ms pc L (.int x :: st) h Q := by
  intro p e R s m args below meth c H locs cells slots KC KS Z ls C hL hR hlo h1 h2 h3 h4 kr
  exact lv_if_le C.1 C.2.1 hd ht (fun z => kt z p e R s m args below meth c H locs cells slots KC KS Z ls C hL hR hlo h1 h2 h3 h4 kr) (fun z => kf z p e R s m args below meth c H locs cells slots KC KS Z ls C hL hR hlo h1 h2 h3 h4 kr)

theorem R_icmp_le {x y : Int32} {off : Int} {tgt : Nat} (hd : decode k.2.1 pc = .ok (.if_icmp .le off, 3)) (ht : (pc : Int) + off = (tgt : Int)) (kt : x ≤ y → WP E k d mc ms tgt L st h Q) (kf : ¬ x ≤ y → WP E k d mc ms (pc + 3) L st h Q) : WP E k d mc ms pc L (.int y :: .int x :: st) h Q := by
  intro p e R s m args below meth c H locs cells slots KC KS Z ls C hL hR hlo h1 h2 h3 h4 kr
  exact lv_icmp_le C.1 C.2.1 hd ht (fun z => kt z p e R s m args below meth c H locs cells slots KC KS Z ls C hL hR hlo h1 h2 h3 h4 kr) (fun z => kf z p e R s m args below meth c H locs cells slots KC KS Z ls C hL hR hlo h1 h2 h3 h4 kr)

theorem R_goto {off : Int} {tgt : Nat} (hd : decode k.2.1 pc = .ok (.goto off, 3)) (ht : (pc : Int) + off = (tgt : Int)) (kk : WP E k d mc ms tgt L st h Q) : WP E k d mc ms pc L st h Q := by
  intro p e R s m args below meth c H locs cells slots KC KS Z ls C hL hR hlo h1 h2 h3 h4 kr
  exact lv_goto C.1 C.2.1 hd ht (kk p e R s m args below meth c H locs cells slots KC KS Z ls C hL hR hlo h1 h2 h3 h4 kr)

theorem R_tableOut {dflt lo hi : Int} {offs : Array Int} {len : Nat} {x : Int32} {tgt : Nat} (hd : decode k.2.1 pc = .ok (.tableswitch dflt lo hi offs, len)) (hx : x.toInt < lo ∨ hi < x.toInt) (ht : (pc : Int) + dflt = (tgt : Int)) (kk : WP E k d mc ms tgt L st h Q) : WP E k d mc ms pc L (.int x :: st) h Q := by
  intro p e R s m args below meth c H locs cells slots KC KS Z ls C hL hR hlo h1 h2 h3 h4 kr
  exact lv_tableOut C.1 C.2.1 hd hx ht (kk p e R s m args below meth c H locs cells slots KC KS Z ls C hL hR hlo h1 h2 h3 h4 kr)

theorem R_tableIn {dflt lo hi : Int} {offs : Array Int} {len : Nat} {x : Int32} {off : Int} {tgt : Nat} (hd : decode k.2.1 pc = .ok (.tableswitch dflt lo hi offs, len)) (g1 : ¬ x.toInt < lo) (g2 : ¬ hi < x.toInt) (ho : offs[(x.toInt - lo).toNat]? = some off) (ht : (pc : Int) + off = (tgt : Int)) (kk : WP E k d mc ms tgt L st h Q) : WP E k d mc ms pc L (.int x :: st) h Q := by
  intro p e R s m args below meth c H locs cells slots KC KS Z ls C hL hR hlo h1 h2 h3 h4 kr
  exact lv_tableIn C.1 C.2.1 hd g1 g2 ho ht (kk p e R s m args below meth c H locs cells slots KC KS Z ls C hL hR hlo h1 h2 h3 h4 kr)

theorem R_ireturn {x : Int32} {ty : FieldType} (hd : decode k.2.1 pc = .ok (.ireturn, 1)) (hr : k.2.2.2 = some ty) (hn : narrow ty (.int x) = .int x) (hq : Q (some (.int x)) h) : WP E k d mc ms pc L [.int x] h Q := by
  intro p e R s m args below meth c H locs cells slots KC KS Z ls C hL hR hlo h1 h2 h3 h4 kr
  exact W.widen (by omega) (by omega) (kr (some (.int x)) h H locs pc ls hq hR hlo ⟨hd, ty, hr, hn⟩)
theorem R_freturn {x : UInt32} (hd : decode k.2.1 pc = .ok (.freturn, 1)) (hr : k.2.2.2 = some .float) (hq : Q (some (.float x)) h) : WP E k d mc ms pc L [.float x] h Q := by
  intro p e R s m args below meth c H locs cells slots KC KS Z ls C hL hR hlo h1 h2 h3 h4 kr
  exact W.widen (by omega) (by omega) (kr (some (.float x)) h H locs pc ls hq hR hlo ⟨hd, hr⟩)
theorem R_areturn {x : Nat} {n : String} (hd : decode k.2.1 pc = .ok (.areturn, 1)) (hr : k.2.2.2 = some (.object n)) (hq : Q (some (.ref x)) h) : WP E k d mc ms pc L [.ref x] h Q := by
  intro p e R s m args below meth c H locs cells slots KC KS Z ls C hL hR hlo h1 h2 h3 h4 kr
  exact W.widen (by omega) (by omega) (kr (some (.ref x)) h H locs pc ls hq hR hlo ⟨hd, n, hr⟩)
theorem R_return (hd : decode k.2.1 pc = .ok (.return_, 1)) (hr : k.2.2.2 = none) (hq : Q none h) : WP E k d mc ms pc L [] h Q := by
  intro p e R s m args below meth c H locs cells slots KC KS Z ls C hL hR hlo h1 h2 h3 h4 kr
  exact W.widen (by omega) (by omega) (kr none h H locs pc ls hq hR hlo ⟨hr, hd⟩)

theorem R_iaload {a n : Nat} {f : Nat → Int32} {i : Int32} (hd : decode k.2.1 pc = .ok (.iaload, 1)) (ha : h.2 a = some (.inl (E.2.2.1 0, n, .inl f))) (hin : vp_in i n) (kk : WP E k d mc ms (pc + 1) L (.int (f i.toNatClampNeg) :: st) h Q) : WP E k d mc ms pc L (.int i :: .ref a :: st) h Q := by
  intro p e R s m args below meth c H locs cells slots KC KS Z ls C hL hR hlo h1 h2 h3 h4 kr
  exact va_iald C.1 C.2.1 C.2.2.2.2.2.2.2.1.1 (hR.P1 ha) 0 0 rfl rfl hin hd (kk p e R s m args below meth c H locs cells slots KC KS Z ls C hL hR hlo h1 h2 h3 h4 kr)

theorem R_baload {a n : Nat} {f : Nat → Int32} {i : Int32} (hd : decode k.2.1 pc = .ok (.baload, 1)) (ha : h.2 a = some (.inl (E.2.2.1 2, n, .inl f))) (hin : vp_in i n) (kk : WP E k d mc ms (pc + 1) L (.int (f i.toNatClampNeg) :: st) h Q) : WP E k d mc ms pc L (.int i :: .ref a :: st) h Q := by
  intro p e R s m args below meth c H locs cells slots KC KS Z ls C hL hR hlo h1 h2 h3 h4 kr
  exact va_bald C.1 C.2.1 C.2.2.2.2.2.2.2.1.1 (hR.P1 ha) 0 2 rfl rfl hin hd (kk p e R s m args below meth c H locs cells slots KC KS Z ls C hL hR hlo h1 h2 h3 h4 kr)

theorem R_zaload {a n : Nat} {f : Nat → Int32} {i : Int32} (hd : decode k.2.1 pc = .ok (.baload, 1)) (ha : h.2 a = some (.inl (E.2.2.1 1, n, .inl f))) (hin : vp_in i n) (kk : WP E k d mc ms (pc + 1) L (.int (f i.toNatClampNeg) :: st) h Q) : WP E k d mc ms pc L (.int i :: .ref a :: st) h Q := by
  intro p e R s m args below meth c H locs cells slots KC KS Z ls C hL hR hlo h1 h2 h3 h4 kr
  exact va_zald C.1 C.2.1 C.2.2.2.2.2.2.2.1.1 (hR.P1 ha) 0 1 rfl rfl hin hd (kk p e R s m args below meth c H locs cells slots KC KS Z ls C hL hR hlo h1 h2 h3 h4 kr)

theorem R_iastore {a n : Nat} {f : Nat → Int32} {i x : Int32} (hd : decode k.2.1 pc = .ok (.iastore, 1)) (ha : h.2 a = some (.inl (E.2.2.1 0, n, .inl f))) (hin : vp_in i n) (kk : WP E k d mc ms (pc + 1) L st (hup h a (.inl (E.2.2.1 0, n, .inl (upd f i.toNatClampNeg x)))) Q) : WP E k d mc ms pc L (.int x :: .int i :: .ref a :: st) h Q := by
  intro p e R s m args below meth c H locs cells slots KC KS Z ls C hL hR hlo h1 h2 h3 h4 kr
  refine W.iast C.1 C.2.1 (hR.cell ha) ((C.2.2.2.2.2.2.2.1.1.2 0 _ rfl).1 n (fun j => .int (f j))) (fun q => by cases q) (by show ¬ (i < 0 ∨ (arrV _ _ _).slots.size ≤ _); rw [arrV_size]; exact hin) rfl rfl hd fun H1 e1 z oq => ?_
  refine kk p e R s m args below meth c H1 _ cells slots KC KS Z ls C hL (hR.set ha ?_ z oq) (fun q hq => ?_) h1 h2 h3 h4 kr
  · show H1[a]? = some (vp_cell _ _)
    rw [e1]
    rw [vp_cell_i, vp_cell_i, arrV_store]
    congr 2
    funext q
    by_cases hq : q = i.toNatClampNeg
    · subst hq
      simp [updV, upd]
    · simp [updV, upd, hq]
  · rcases List.mem_append.mp hq with z1 | z1
    · exact hlo q z1
    · rw [List.mem_singleton.mp z1]
      exact (hR.2.1 a _ ha).2

theorem R_bastore {a n : Nat} {f : Nat → Int32} {i x : Int32} (hd : decode k.2.1 pc = .ok (.bastore, 1)) (ha : h.2 a = some (.inl (E.2.2.1 2, n, .inl f))) (hin : vp_in i n) (kk : WP E k d mc ms (pc + 1) L st (hup h a (.inl (E.2.2.1 2, n, .inl (upd f i.toNatClampNeg (vp_nar .byte x))))) Q) : WP E k d mc ms pc L (.int x :: .int i :: .ref a :: st) h Q := by
  intro p e R s m args below meth c H locs cells slots KC KS Z ls C hL hR hlo h1 h2 h3 h4 kr
  refine W.bast C.1 C.2.1 (hR.cell ha) ((C.2.2.2.2.2.2.2.1.1.2 2 _ rfl).1 n (fun j => .int (f j))) (fun q => by cases q) (by show ¬ (i < 0 ∨ (arrV _ _ _).slots.size ≤ _); rw [arrV_size]; exact hin) rfl rfl hd fun H1 e1 z oq => ?_
  refine kk p e R s m args below meth c H1 _ cells slots KC KS Z ls C hL (hR.set ha ?_ z oq) (fun q hq => ?_) h1 h2 h3 h4 kr
  · show H1[a]? = some (vp_cell _ _)
    rw [e1]
    rw [vp_cell_i, vp_cell_i, arrV_store]
    congr 2
    funext q
    by_cases hq : q = i.toNatClampNeg
    · subst hq
      simp [updV, upd, vp_nar]; try rfl
    · simp [updV, upd, hq]
  · rcases List.mem_append.mp hq with z1 | z1
    · exact hlo q z1
    · rw [List.mem_singleton.mp z1]
      exact (hR.2.1 a _ ha).2

theorem R_zastore {a n : Nat} {f : Nat → Int32} {i x : Int32} (hd : decode k.2.1 pc = .ok (.bastore, 1)) (ha : h.2 a = some (.inl (E.2.2.1 1, n, .inl f))) (hin : vp_in i n) (kk : WP E k d mc ms (pc + 1) L st (hup h a (.inl (E.2.2.1 1, n, .inl (upd f i.toNatClampNeg (vp_nar .boolean x))))) Q) : WP E k d mc ms pc L (.int x :: .int i :: .ref a :: st) h Q := by
  intro p e R s m args below meth c H locs cells slots KC KS Z ls C hL hR hlo h1 h2 h3 h4 kr
  refine W.zast C.1 C.2.1 (hR.cell ha) ((C.2.2.2.2.2.2.2.1.1.2 1 _ rfl).1 n (fun j => .int (f j))) (fun q => by cases q) (by show ¬ (i < 0 ∨ (arrV _ _ _).slots.size ≤ _); rw [arrV_size]; exact hin) rfl rfl hd fun H1 e1 z oq => ?_
  refine kk p e R s m args below meth c H1 _ cells slots KC KS Z ls C hL (hR.set ha ?_ z oq) (fun q hq => ?_) h1 h2 h3 h4 kr
  · show H1[a]? = some (vp_cell _ _)
    rw [e1]
    rw [vp_cell_i, vp_cell_i, arrV_store]
    congr 2
    funext q
    by_cases hq : q = i.toNatClampNeg
    · subst hq
      simp [updV, upd, vp_nar]; try rfl
    · simp [updV, upd, hq]
  · rcases List.mem_append.mp hq with z1 | z1
    · exact hlo q z1
    · rw [List.mem_singleton.mp z1]
      exact (hR.2.1 a _ ha).2

theorem R_aaloadRow {a n : Nat} {f : Nat → Option Nat} {i : Int32} {v : Value} (hd : decode k.2.1 pc = .ok (.aaload, 1)) (ha : h.2 a = some (.inl (E.2.2.1 3, n, .inr (.inr (.inr (.inr f)))))) (hin : vp_in i n) (hv : va_rf (f i.toNatClampNeg) = v) (kk : WP E k d mc ms (pc + 1) L (v :: st) h Q) : WP E k d mc ms pc L (.int i :: .ref a :: st) h Q := by
  subst hv
  intro p e R s m args below meth c H locs cells slots KC KS Z ls C hL hR hlo h1 h2 h3 h4 kr
  exact va_aldq C.1 C.2.1 C.2.2.2.2.2.2.2.1.1 (hR.P1 ha) 0 3 rfl rfl hin hd (kk p e R s m args below meth c H locs cells slots KC KS Z ls C hL hR hlo h1 h2 h3 h4 kr)

theorem R_aastoreRow {a n v : Nat} {vs : List Value} {f : Nat → Option Nat} {i : Int32} (hd : decode k.2.1 pc = .ok (.aastore, 1)) (ha : h.2 a = some (.inl (E.2.2.1 3, n, .inr (.inr (.inr (.inr f)))))) (hv : h.2 v = some (.inr (6, vs))) (hin : vp_in i n) (kk : WP E k d mc ms (pc + 1) L st (hup h a (.inl (E.2.2.1 3, n, .inr (.inr (.inr (.inr (va_up f i.toNatClampNeg (some v)))))))) Q) : WP E k d mc ms pc L (.ref v :: .int i :: .ref a :: st) h Q := by
  intro p e R s m args below meth c H locs cells slots KC KS Z ls C hL hR hlo h1 h2 h3 h4 kr
  have hK := C.2.2.2.2.2.2.2.1.1
  have hlt : i.toNatClampNeg < n := Nat.not_le.mp fun q => hin (Or.inr q)
  have h0 : ¬ i < 0 := fun q => hin (Or.inl q)
  obtain ⟨r', hr', cellV, g1, g2, g3, -⟩ := hR.cell hv
  have hcls := (hK.1 6 _ rfl).2
  obtain ⟨kA, comp, k1, k2, k3, -⟩ := (hK.2 3 _ rfl).2
  have hcomp : comp = E.2.1.1 6 := Option.some.inj (k3.symm.trans hcls.1)
  subst hcomp
  obtain ⟨kC, hkC, -⟩ := hcls.2
  refine W.aast C.1 C.2.1 (hR.cell ha) (fun q h => by cases h) (fun h => by cases h) k1 k2 rfl hkC ⟨h0, by show _ < (arrV _ _ _).slots.size; rw [arrV_size]; exact hlt⟩ g1 (fun q h => by rw [g3] at h; cases h) (by rw [g2]; exact hkC) (by rw [g2]; exact va_assign hcls) rfl rfl hd fun H1 e1 z oq => ?_
  refine kk p e R s m args below meth c H1 _ cells slots KC KS Z ls C hL (hR.set ha ?_ z oq) (fun q hq => ?_) h1 h2 h3 h4 kr
  · show H1[a]? = some (vp_cell _ _)
    rw [e1]
    rw [vp_cell_q, vp_cell_q, arrV_store]
    congr 2
    funext q
    by_cases hq : q = i.toNatClampNeg
    · subst hq
      simp [updV, va_up, va_rf]
    · simp [updV, va_up, hq]
  · rcases List.mem_append.mp hq with z1 | z1
    · exact hlo q z1
    · rw [List.mem_singleton.mp z1]
      exact (hR.2.1 a _ ha).2

theorem R_aaloadPacking {a n : Nat} {f : Nat → Option Nat} {i : Int32} {v : Value} (hd : decode k.2.1 pc = .ok (.aaload, 1)) (ha : h.2 a = some (.inl (E.2.2.1 4, n, .inr (.inr (.inr (.inr f)))))) (hin : vp_in i n) (hv : va_rf (f i.toNatClampNeg) = v) (kk : WP E k d mc ms (pc + 1) L (v :: st) h Q) : WP E k d mc ms pc L (.int i :: .ref a :: st) h Q := by
  subst hv
  intro p e R s m args below meth c H locs cells slots KC KS Z ls C hL hR hlo h1 h2 h3 h4 kr
  exact va_aldq C.1 C.2.1 C.2.2.2.2.2.2.2.1.1 (hR.P1 ha) 0 4 rfl rfl hin hd (kk p e R s m args below meth c H locs cells slots KC KS Z ls C hL hR hlo h1 h2 h3 h4 kr)

theorem R_aastorePacking {a n v : Nat} {vs : List Value} {f : Nat → Option Nat} {i : Int32} (hd : decode k.2.1 pc = .ok (.aastore, 1)) (ha : h.2 a = some (.inl (E.2.2.1 4, n, .inr (.inr (.inr (.inr f)))))) (hv : h.2 v = some (.inr (2, vs))) (hin : vp_in i n) (kk : WP E k d mc ms (pc + 1) L st (hup h a (.inl (E.2.2.1 4, n, .inr (.inr (.inr (.inr (va_up f i.toNatClampNeg (some v)))))))) Q) : WP E k d mc ms pc L (.ref v :: .int i :: .ref a :: st) h Q := by
  intro p e R s m args below meth c H locs cells slots KC KS Z ls C hL hR hlo h1 h2 h3 h4 kr
  have hK := C.2.2.2.2.2.2.2.1.1
  have hlt : i.toNatClampNeg < n := Nat.not_le.mp fun q => hin (Or.inr q)
  have h0 : ¬ i < 0 := fun q => hin (Or.inl q)
  obtain ⟨r', hr', cellV, g1, g2, g3, -⟩ := hR.cell hv
  have hcls := (hK.1 2 _ rfl).2
  obtain ⟨kA, comp, k1, k2, k3, -⟩ := (hK.2 4 _ rfl).2
  have hcomp : comp = E.2.1.1 2 := Option.some.inj (k3.symm.trans hcls.1)
  subst hcomp
  obtain ⟨kC, hkC, -⟩ := hcls.2
  refine W.aast C.1 C.2.1 (hR.cell ha) (fun q h => by cases h) (fun h => by cases h) k1 k2 rfl hkC ⟨h0, by show _ < (arrV _ _ _).slots.size; rw [arrV_size]; exact hlt⟩ g1 (fun q h => by rw [g3] at h; cases h) (by rw [g2]; exact hkC) (by rw [g2]; exact va_assign hcls) rfl rfl hd fun H1 e1 z oq => ?_
  refine kk p e R s m args below meth c H1 _ cells slots KC KS Z ls C hL (hR.set ha ?_ z oq) (fun q hq => ?_) h1 h2 h3 h4 kr
  · show H1[a]? = some (vp_cell _ _)
    rw [e1]
    rw [vp_cell_q, vp_cell_q, arrV_store]
    congr 2
    funext q
    by_cases hq : q = i.toNatClampNeg
    · subst hq
      simp [updV, va_up, va_rf]
    · simp [updV, va_up, hq]
  · rcases List.mem_append.mp hq with z1 | z1
    · exact hlo q z1
    · rw [List.mem_singleton.mp z1]
      exact (hR.2.1 a _ ha).2

theorem R_arraylength {a t0 n : Nat} {ty : FieldType} {x : (Nat → Int32) ⊕ (Nat → Int64) ⊕ (Nat → UInt32) ⊕ (Nat → UInt64) ⊕ (Nat → Option Nat)} (hd : decode k.2.1 pc = .ok (.arraylength, 1)) (ht : (tysE E.2.2.1)[t0]? = some (E.2.2.1 t0, ty)) (ha : h.2 a = some (.inl (E.2.2.1 t0, n, x))) (kk : WP E k d mc ms (pc + 1) L (.int (nI n) :: st) h Q) : WP E k d mc ms pc L (.ref a :: st) h Q := by
  intro p e R s m args below meth c H locs cells slots KC KS Z ls C hL hR hlo h1 h2 h3 h4 kr
  exact va_alen C.1 C.2.1 C.2.2.2.2.2.2.2.1.1 (hR.P1 ha) 0 t0 rfl ht rfl hd (kk p e R s m args below meth c H locs cells slots KC KS Z ls C hL hR hlo h1 h2 h3 h4 kr)

theorem R_get {ci N i : Nat} {C : String} {T : u_T} {ty : Nat → FieldType} (hc : clsOk ci C T N ty) {f : Nat} (hf : f < N) (hd : decode k.2.1 pc = .ok (.getfield i, 3)) (hw : Cond.fieldLink k.1.cls i (T f).1 (T f).2.1 (T f).2.2.1 ∈ gw) {a : Nat} {fs : List Value} {v : Value} (ha : h.2 a = some (.inr (ci, fs))) (hv : fs[f]? = some v) (kk : WP E k d mc ms (pc + 3) L (v :: st) h Q) : WP E k d mc ms pc L (.ref a :: st) h Q := by
  intro p e R s m args below meth c H locs cells slots KC KS Z ls C hL hR hlo h1 h2 h3 h4 kr
  exact va_get C.1 C.2.1 C.2.2.2.2.2.1 hc.2.1 C.2.2.2.2.1 C.2.2.2.2.2.2.2.1.1 (hR.P1 ha) 0 rfl hc.1 f hf (C.2.2.2.2.2.1 _ hw) (fun _ h9 => h9) hv hd (kk p e R s m args below meth c H locs cells slots KC KS Z ls C hL hR hlo h1 h2 h3 h4 kr)

theorem R_put {ci N i : Nat} {C0 : String} {T : u_T} {ty : Nat → FieldType} (hc : clsOk ci C0 T N ty) {f : Nat} (hf : f < N) (hd : decode k.2.1 pc = .ok (.putfield i, 3)) (hw : Cond.fieldLink k.1.cls i (T f).1 (T f).2.1 (T f).2.2.1 ∈ gw) (hfin : (T f).2.2.2 = false) {a : Nat} {fs : List Value} {v : Value} (ha : h.2 a = some (.inr (ci, fs))) (hn : narrow (ty f) v = v) (hfit : fits (ty f) v = true) (hl : f < fs.length) (kk : WP E k d mc ms (pc + 3) L st (hup h a (.inr (ci, fs.set f v))) Q) : WP E k d mc ms pc L (v :: .ref a :: st) h Q := by
  intro p e R s m args below meth c H locs cells slots KC KS Z ls C hL hR hlo h1 h2 h3 h4 kr
  have hts := C.2.2.2.2.2.1
  have hK := C.2.2.2.2.2.2.2.1.1
  have hap := va_apart (own := k.1.cls) hts hc.2.1 ty hc.2.2.1 hc.2.2.2 hK hc.1
  obtain ⟨r, g1, cell, q1, q2, q3, q4⟩ := hR.cell ha
  have hr : r = (C0, T, N) := Option.some.inj (g1.symm.trans hc.1)
  subst hr
  obtain ⟨hS, hfc, kC, hkC, hkind⟩ := hK.1 ci _ hc.1
  obtain ⟨cf, kf, fi, fd, hi, hsl⟩ := hS f hf
  have hlay := hts _ (hc.2.1 _ (u_in_lay hf))
  unfold u_lay at hlay
  rw [if_neg (by rw [hfin]; decide)] at hlay
  have hst := (u_facts hfc hkC (u_lays hts hc.2.1 hf) hi).1
  have h6 := u_store hfc hkC hkind hlay hi (hc.2.2.1 f hf) hn hfit
  refine W.putK C.1 C.2.1 (f := fd) ⟨C.2.2.2.2.1, hts _ hw, ⟨_, _, _, hi⟩, hst⟩ (by rw [q2]; exact h6) q1 q3 (by rw [hsl]; exact k2_hasslot (q4 f hf)) rfl rfl hd fun H1 e1 z oq => ?_
  · rw [hsl] at e1 ⊢
    refine kk p e R s m args below meth c H1 _ cells slots KC KS Z ls C hL (hR.set ha ⟨_, hc.1, t_OB.to (V := updV (vp_V fs) f v) ⟨_, e1, q2, q3, t_set q4 hap hf v⟩ (fun j _ => vp_updV_set hl v j)⟩ z oq) (fun q hq => ?_) h1 h2 h3 h4 kr
    rcases List.mem_append.mp hq with z1 | z1
    · exact hlo q z1
    · rw [List.mem_singleton.mp z1]
      exact (hR.2.1 a _ ha).2

theorem R_putF {ci N i : Nat} {C0 : String} {T : u_T} {ty : Nat → FieldType} (hc : clsOk ci C0 T N ty) {f : Nat} (hf : f < N) (hd : decode k.2.1 pc = .ok (.putfield i, 3)) (hw : Cond.fieldLink k.1.cls i (T f).1 (T f).2.1 (T f).2.2.1 ∈ gw) (hfin : (T f).2.2.2 = true) (hin2 : k.1.name = "<init>") (hdecl : (T f).1 = k.1.cls) {a : Nat} {fs : List Value} {v : Value} (ha : h.2 a = some (.inr (ci, fs))) (hn : narrow (ty f) v = v) (hfit : fits (ty f) v = true) (hl : f < fs.length) (kk : WP E k d mc ms (pc + 3) L st (hup h a (.inr (ci, fs.set f v))) Q) : WP E k d mc ms pc L (v :: .ref a :: st) h Q := by
  intro p e R s m args below meth c H locs cells slots KC KS Z ls C hL hR hlo h1 h2 h3 h4 kr
  have hts := C.2.2.2.2.2.1
  have hK := C.2.2.2.2.2.2.2.1.1
  have hap := va_apart (own := k.1.cls) hts hc.2.1 ty hc.2.2.1 hc.2.2.2 hK hc.1
  obtain ⟨r, g1, cell, q1, q2, q3, q4⟩ := hR.cell ha
  have hr : r = (C0, T, N) := Option.some.inj (g1.symm.trans hc.1)
  subst hr
  obtain ⟨hS, hfc, kC, hkC, hkind⟩ := hK.1 ci _ hc.1
  obtain ⟨cf, kf, fi, fd, hi, hsl⟩ := hS f hf
  have hlay := hts _ (hc.2.1 _ (u_in_lay hf))
  unfold u_lay at hlay
  rw [if_pos hfin] at hlay
  have hst := (u_facts hfc hkC (u_lays hts hc.2.1 hf) hi).1
  have hcf : m.cls = cf := by
    obtain ⟨_, _, c', _, _, _, -, -, hf', -, -, -, hown2, -⟩ := Cond.laysFinal_spec hlay
    have e1 : c' = cf := by have := hi.symm.trans hf'; simp at this; exact this.1.symm
    rw [hdecl] at hown2
    rw [← e1]; exact Option.some.inj (C.2.2.2.2.1.symm.trans hown2)
  have h6 := u_fits hfc hkC hkind (Or.inr hlay) hi (hc.2.2.1 f hf) hn hfit
  refine W.putFinK C.1 C.2.1 C.2.2.2.2.1 (hts _ hw) hi hst hcf (C.2.2.2.2.2.2.2.2.1.trans hin2) (by rw [q2]; exact h6) q1 q3 (by rw [hsl]; exact k2_hasslot (q4 f hf)) rfl rfl hd fun H1 e1 z oq => ?_
  · rw [hsl] at e1 ⊢
    refine kk p e R s m args below meth c H1 _ cells slots KC KS Z ls C hL (hR.set ha ⟨_, hc.1, t_OB.to (V := updV (vp_V fs) f v) ⟨_, e1, q2, q3, t_set q4 hap hf v⟩ (fun j _ => vp_updV_set hl v j)⟩ z oq) (fun q hq => ?_) h1 h2 h3 h4 kr
    rcases List.mem_append.mp hq with z1 | z1
    · exact hlo q z1
    · rw [List.mem_singleton.mp z1]
      exact (hR.2.1 a _ ha).2

theorem R_new {ci N i mc' ms' : Nat} {C0 : String} {T : u_T} {ty : Nat → FieldType} (hc : clsOk ci C0 T N ty) (hd : decode k.2.1 pc = .ok (.new i, 3)) (hw1 : Cond.classLink k.1.cls i C0 ∈ gw) (hw2 : Cond.instantiable C0 N ∈ gw) (hw3 : Cond.initialized C0 ∈ gw) {fs : List Value} (hfs : ∀ j, j < N → defaultValue (ty j) = vp_V fs j) (hmc : mc = mc' + 1) (hms : ms = ms' + N) (kk : WP E k d mc' ms' (pc + 3) L (.ref h.1 :: st) (hpush h (.inr (ci, fs))) Q) : WP E k d mc ms pc L st h Q := by
  intro p e R s m args below meth c H locs cells slots KC KS Z ls C hL hR hlo h1 h2 h3 h4 kr
  have hts := C.2.2.2.2.2.1
  have hK := C.2.2.2.2.2.2.2.1.1
  have hKn := hK.1 ci _ hc.1
  refine W.newcK C.1 C.2.1 C.2.2.2.2.1 (hts _ hw1) (hts _ hw2) (hts _ hw3) rfl hd (by omega) (by omega) hKn.2.1 hR.1 fun H1 kC hkC e1 z1 o1 => ?_
  exact kk p e R s m args below meth c H1 locs (cells + 1) (slots + N) KC KS Z ls C hL (hR.push ⟨_, hc.1, (u_born ty hts hc.2.1 hKn hkC e1 hc.2.2.1).to hfs⟩ z1 o1) hlo (by omega) (by omega) h3 h4 kr

theorem R_newarray_int {n : Int32} {N mc' ms' : Nat} (hd : decode k.2.1 pc = .ok (.newarray .int, 2)) (hw : Cond.arrayClass .int ∈ gw) (hn : ¬ n < 0) (hN : n.toNatClampNeg = N) (hN2 : N ≤ 100000) (hmc : mc = mc' + 1) (hms : ms = ms' + N) (kk : WP E k d mc' ms' (pc + 2) L (.ref h.1 :: st) (hpush h (.inl (E.2.2.1 0, N, .inl (fun _ => 0)))) Q) : WP E k d mc ms pc L (.int n :: st) h Q := by
  intro p e R s m args below meth c H locs cells slots KC KS Z ls C hL hR hlo h1 h2 h3 h4 kr
  have hts := C.2.2.2.2.2.1
  have hK := C.2.2.2.2.2.2.2.1.1
  refine va_newaK (atype := .int) C.1 C.2.1 (hts _ hw) rfl hd rfl hn hN (by simp [componentBytes, newarray.typeOf]; try omega) (by omega) (by omega) hR.1 fun H1 cA e1 z1 o1 hAr hNm => ?_
  have hcA : cA = E.2.2.1 0 := Option.some.inj (hNm.symm.trans (hK.2 0 _ rfl).2)
  subst hcA
  exact kk p e R s m args below meth c H1 locs (cells + 1) (slots + N) KC KS Z ls C hL (hR.push e1 z1 o1) hlo (by omega) (by omega) h3 h4 kr

theorem R_newarray_boolean {n : Int32} {N mc' ms' : Nat} (hd : decode k.2.1 pc = .ok (.newarray .boolean, 2)) (hw : Cond.arrayClass .boolean ∈ gw) (hn : ¬ n < 0) (hN : n.toNatClampNeg = N) (hN2 : N ≤ 100000) (hmc : mc = mc' + 1) (hms : ms = ms' + N) (kk : WP E k d mc' ms' (pc + 2) L (.ref h.1 :: st) (hpush h (.inl (E.2.2.1 1, N, .inl (fun _ => 0)))) Q) : WP E k d mc ms pc L (.int n :: st) h Q := by
  intro p e R s m args below meth c H locs cells slots KC KS Z ls C hL hR hlo h1 h2 h3 h4 kr
  have hts := C.2.2.2.2.2.1
  have hK := C.2.2.2.2.2.2.2.1.1
  refine va_newaK (atype := .boolean) C.1 C.2.1 (hts _ hw) rfl hd rfl hn hN (by simp [componentBytes, newarray.typeOf]; try omega) (by omega) (by omega) hR.1 fun H1 cA e1 z1 o1 hAr hNm => ?_
  have hcA : cA = E.2.2.1 1 := Option.some.inj (hNm.symm.trans (hK.2 1 _ rfl).2)
  subst hcA
  exact kk p e R s m args below meth c H1 locs (cells + 1) (slots + N) KC KS Z ls C hL (hR.push e1 z1 o1) hlo (by omega) (by omega) h3 h4 kr

theorem R_newarray_byte {n : Int32} {N mc' ms' : Nat} (hd : decode k.2.1 pc = .ok (.newarray .byte, 2)) (hw : Cond.arrayClass .byte ∈ gw) (hn : ¬ n < 0) (hN : n.toNatClampNeg = N) (hN2 : N ≤ 100000) (hmc : mc = mc' + 1) (hms : ms = ms' + N) (kk : WP E k d mc' ms' (pc + 2) L (.ref h.1 :: st) (hpush h (.inl (E.2.2.1 2, N, .inl (fun _ => 0)))) Q) : WP E k d mc ms pc L (.int n :: st) h Q := by
  intro p e R s m args below meth c H locs cells slots KC KS Z ls C hL hR hlo h1 h2 h3 h4 kr
  have hts := C.2.2.2.2.2.1
  have hK := C.2.2.2.2.2.2.2.1.1
  refine va_newaK (atype := .byte) C.1 C.2.1 (hts _ hw) rfl hd rfl hn hN (by simp [componentBytes, newarray.typeOf]; try omega) (by omega) (by omega) hR.1 fun H1 cA e1 z1 o1 hAr hNm => ?_
  have hcA : cA = E.2.2.1 2 := Option.some.inj (hNm.symm.trans (hK.2 2 _ rfl).2)
  subst hcA
  exact kk p e R s m args below meth c H1 locs (cells + 1) (slots + N) KC KS Z ls C hL (hR.push e1 z1 o1) hlo (by omega) (by omega) h3 h4 kr

theorem R_anewarrayRow {i : Nat} {n : Int32} {N mc' ms' : Nat} (hd : decode k.2.1 pc = .ok (.anewarray i, 3)) (hw : Cond.classLink k.1.cls i "PairPacker$Row" ∈ gw) (hn : ¬ n < 0) (hN : n.toNatClampNeg = N) (hN2 : N ≤ 100000) (hmc : mc = mc' + 1) (hms : ms = ms' + N) (kk : WP E k d mc' ms' (pc + 3) L (.ref h.1 :: st) (hpush h (.inl (E.2.2.1 3, N, .inr (.inr (.inr (.inr (fun _ => none))))))) Q) : WP E k d mc ms pc L (.int n :: st) h Q := by
  intro p e R s m args below meth c H locs cells slots KC KS Z ls C hL hR hlo h1 h2 h3 h4 kr
  have hts := C.2.2.2.2.2.1
  have hK := C.2.2.2.2.2.2.2.1.1
  subst hN
  refine W.anew C.1 C.2.1 C.2.2.2.2.1 (hts _ hw) (va_AO.use C.2.2.2.2.2.2.2.1.2.2.1) rfl hd rfl hn (by omega) (by omega) (by omega) fun cA kA comp f1 f2 f3 f4 => ?_
  obtain ⟨-, -, -, -, -, k4⟩ := (hK.2 3 _ rfl).2
  have hcA : cA = E.2.2.1 3 := Option.some.inj (f1.symm.trans k4)
  subst hcA
  generalize hH1 : H.push ({ cls := E.2.2.1 3, slots := Array.replicate n.toNatClampNeg .null, vm := .none } : Cell) = H1
  have z1 : H1.size = h.1 + 1 := by rw [← hH1, Array.size_push, hR.1]
  have e1 : H1[h.1]? = some (arrV (E.2.2.1 3) n.toNatClampNeg (fun _ => .null)) := by rw [← hH1, ← hR.1, Array.getElem?_push_size, ← arrV_new]
  have o1 : ∀ q : Nat, q < h.1 → H1[q]? = H[q]? := fun q hq => by rw [← hH1, Array.getElem?_push, if_neg (by rw [hR.1]; omega)]
  rw [hR.1]
  exact kk p e R s m args below meth c H1 locs (cells + 1) (slots + n.toNatClampNeg) KC KS Z ls C hL (hR.push e1 z1 o1) hlo (by omega) (by omega) h3 h4 kr

theorem R_anewarrayPacking {i : Nat} {n : Int32} {N mc' ms' : Nat} (hd : decode k.2.1 pc = .ok (.anewarray i, 3)) (hw : Cond.classLink k.1.cls i "PairPacker$Packing" ∈ gw) (hn : ¬ n < 0) (hN : n.toNatClampNeg = N) (hN2 : N ≤ 100000) (hmc : mc = mc' + 1) (hms : ms = ms' + N) (kk : WP E k d mc' ms' (pc + 3) L (.ref h.1 :: st) (hpush h (.inl (E.2.2.1 4, N, .inr (.inr (.inr (.inr (fun _ => none))))))) Q) : WP E k d mc ms pc L (.int n :: st) h Q := by
  intro p e R s m args below meth c H locs cells slots KC KS Z ls C hL hR hlo h1 h2 h3 h4 kr
  have hts := C.2.2.2.2.2.1
  have hK := C.2.2.2.2.2.2.2.1.1
  subst hN
  refine W.anew C.1 C.2.1 C.2.2.2.2.1 (hts _ hw) (va_AO.use C.2.2.2.2.2.2.2.1.2.2.2) rfl hd rfl hn (by omega) (by omega) (by omega) fun cA kA comp f1 f2 f3 f4 => ?_
  obtain ⟨-, -, -, -, -, k4⟩ := (hK.2 4 _ rfl).2
  have hcA : cA = E.2.2.1 4 := Option.some.inj (f1.symm.trans k4)
  subst hcA
  generalize hH1 : H.push ({ cls := E.2.2.1 4, slots := Array.replicate n.toNatClampNeg .null, vm := .none } : Cell) = H1
  have z1 : H1.size = h.1 + 1 := by rw [← hH1, Array.size_push, hR.1]
  have e1 : H1[h.1]? = some (arrV (E.2.2.1 4) n.toNatClampNeg (fun _ => .null)) := by rw [← hH1, ← hR.1, Array.getElem?_push_size, ← arrV_new]
  have o1 : ∀ q : Nat, q < h.1 → H1[q]? = H[q]? := fun q hq => by rw [← hH1, Array.getElem?_push, if_neg (by rw [hR.1]; omega)]
  rw [hR.1]
  exact kk p e R s m args below meth c H1 locs (cells + 1) (slots + n.toNatClampNeg) KC KS Z ls C hL (hR.push e1 z1 o1) hlo (by omega) (by omega) h3 h4 kr

end RULES
