/-! CALLS: from WP to a method's Spec, and a Spec used at a call -/
theorem wsE_good (k : MI) (hc : Cond.code k.1 k.2.1 k.2.2.1 k.2.2.2 ∈ gw) : GoodIn gw (wsE k) := by
  intro w hw
  rcases List.mem_cons.mp hw with rfl | hw
  · exact ⟨hc, gw_good hc⟩
  · exact ⟨hw, gw_good hw⟩
theorem args1 : ∀ (vs : List Value) (n i : Nat) (v : Value), (∀ v ∈ vs, v.category = 1) → vs[i]? = some v → (n + i, v) ∈ lv_args n vs
  | [], n, i, v, _, h => by simp at h
  | w :: vs, n, 0, v, hc, h => by
    simp at h; subst h
    simp [lv_args]
  | w :: vs, n, i + 1, v, hc, h => by
    have h1 : ¬ w.category = 2 := by rw [hc w List.mem_cons_self]; decide
    simp only [lv_args, if_neg h1]
    have := args1 vs (n + 1) i v (fun x hx => hc x (List.mem_cons_of_mem _ hx)) (by simpa using h)
    rw [show n + (i + 1) = n + 1 + i by omega]
    exact List.mem_cons_of_mem _ this
theorem sl1 : ∀ (vs : List Value), (∀ v ∈ vs, v.category = 1) → (lg_sl vs).length = vs.length
  | [], _ => rfl
  | w :: vs, hc => by
    have h1 : ¬ w.category = 2 := by rw [hc w List.mem_cons_self]; decide
    have h2 := sl1 vs (fun x hx => hc x (List.mem_cons_of_mem _ hx))
    simp only [lg_sl, List.flatMap_cons, if_neg h1] at h2 ⊢
    simp [h2]
/-- as the kit's Met.ofW, also for a method of java.lang.Math that no native row stands for -/
theorem Met.ofWF {l : Launch} {y : MethodName} {ws ws' : List Cond} {rm : Room} {Pc : Array Value → State → Prop} {Qc : Array Value → State → Outcome → State → Prop} {mc ms : Nat} {free : Addr → Prop} {cc : ByteArray} {maxL : Nat} {ret : Option FieldType}
    (hy : plainFor y = true) (hw : ws = Cond.code y cc maxL ret :: ws')
    (body : ∀ p e s m args below meth c s₁, BodyLoose p l y (headSpec ws rm) cc maxL ret e s m args below meth c s₁ → c.maxLocals = maxL → Pc args s →
      W p l e (headSpec ws rm).room s m args below meth c s.heap [] 0 0 (MQ below Qc args s mc ms free) (entryFrame m args maxL)) : Met l y ws rm Pc Qc mc ms free := by
  refine MetFree.of_bodySF (code := cc) (maxLocals := maxL) (ret := ret) hy ?_ ?_
  · intro args s m h hn
    obtain ⟨meth, c, h1, h2, h3, h4, h5, h6, -, -⟩ := Cond.code_spec hn (atoms_spec (ws := ws) h _ (by rw [hw]; exact List.mem_cons_self))
    exact ⟨meth, c, h1, h2, h3, h4, h5, h6⟩
  · intro p e s m args below meth c s₁ B hml hP _
    have hh0 : s₁.heap = s.heap := by rw [B.state]; rfl
    obtain ⟨t, a1, o, b1, b2, b3⟩ := body p e s m args below meth c s₁ B hml hP s₁ hh0 (Stand.of_body B)
    exact ⟨t, o, a1, b1, b2, ⟨b3.1, b3.2⟩⟩
set_option maxHeartbeats 4000000 in
theorem Spec.of {E : EnvT} {k : MI} {d mc ms : Nat} {av : List Value} {h : Hp} {Q : Option Value → Hp → Prop} (hp : plainFor k.1 = true) (hcat : ∀ v ∈ av, v.category = 1) (hlen : av.length ≤ k.2.2.1)
    (kk : WP E k d mc ms 0 (av.map some ++ List.replicate (k.2.2.1 - av.length) none) [] h Q) : Spec E k d mc ms av h Q := by
  refine Met.ofWF (cc := k.2.1) (maxL := k.2.2.1) (ret := k.2.2.2) hp rfl ?_
  intro p e s m args below meth c s₁ B hml hv
  obtain ⟨rfl, hR, hK⟩ := hv
  have hsl := sl1 av hcat
  have hl := lv_entry av (n := k.2.2.1) (by rw [hsl]; exact hlen)
  rw [lg_entry_eq]
  generalize (lg_sl av ++ List.replicate (k.2.2.1 - (lg_sl av).length) Slot.unset).toArray = ls at hl ⊢
  refine kk p e _ s m _ below meth c s.heap [] 0 0 mc ms _ ls ⟨B.exec, B.bytes, B.returns, hml, findClass_of_methodNamed B.named, fun w hw => atoms_spec (ws := wsE k) B.pre w (List.mem_cons_of_mem _ hw), B.notSynchronized, hK, (name_of_methodNamed B.named B.method).1, Nat.le_refl _, Nat.le_refl _⟩ ⟨hl.1, hl.2.1, fun i v hi => ?_⟩ hR (fun q hq => by cases hq) (Nat.zero_add _) (Nat.zero_add _) (Nat.le_refl _) (Nat.le_refl _) ?_
  · by_cases hi2 : i < av.length
    · rw [List.getElem?_append_left (by simpa using hi2), List.getElem?_map] at hi
      cases hx : av[i]? with
      | none => rw [hx] at hi; cases hi
      | some w =>
        rw [hx] at hi
        cases hi
        have := args1 av 0 i v hcat hx
        rw [Nat.zero_add] at this
        exact ⟨hl.2.2 _ this, hcat _ (List.mem_of_getElem? hx)⟩
    · rw [List.getElem?_append_right (by simpa using hi2)] at hi
      have := List.mem_of_getElem? hi
      have := (List.mem_replicate.mp this).2
      cases this
  · intro v h' H' locs' pc' ls' hq hR' hlo hret
    have post : ∀ t : State, t.heap = H' → s.WarmedH t.vm → QcE E Q av.toArray s (.returned v) t := fun t ht _ => ⟨v, h', rfl, by rw [ht]; exact hR', hq⟩
    have hlocks := B.notSynchronized
    cases v with
    | none => exact W.vret B.exec B.bytes (B.returns.trans hret.1) post hlo hret.2 hlocks
    | some v =>
      cases v with
      | int x =>
        obtain ⟨hd, ty, hr, hn⟩ := hret
        exact W.zret B.exec B.bytes (B.returns.trans hr) hn post hlo hd hlocks
      | float x => exact W.fret B.exec B.bytes (B.returns.trans hret.2) post hlo hret.1 hlocks
      | ref x =>
        obtain ⟨hd, n, hr⟩ := hret
        exact W.aret B.exec B.bytes (B.returns.trans hr) (Or.inl ⟨n, rfl⟩) (Or.inr ⟨x, rfl⟩) post hlo hd hlocks
      | _ => exact False.elim hret
section CALLS
variable {E : EnvT} {k k2 : MI} {d d2 mc ms mc2 ms2 mc' ms' pc n i : Nat} {L : List (Option Value)} {st stk As : List Value} {h : Hp} {Q Q2 : Option Value → Hp → Prop}
/-- behind any of the calls -/
theorem WP.back {p : Program} {e : Env} {R : Room} {s : State} {m : MethodId} {args : Array Value} {below : List Frame} {meth : Method} {c : Code} {H : Heap} {locs : List Loc} {cells slots KC KS : Nat} {Z : State → Prop} {ls : Array Slot} {a : Array Value}
    (C : Cx E k p R s m args meth c d) (hL : Lr ls k.2.2.1 L) (hlo : ∀ q ∈ locs, E.2.2.2.size ≤ q.base) (h1 : cells + mc = KC) (h2 : slots + ms = KS) (h3 : KC ≤ R.cells) (h4 : KS ≤ R.slots)
    (kr : ∀ (v : Option Value) (h' : Hp) (H' : Heap) (locs' : List Loc) (pc' : Nat) (ls' : Array Slot), Q v h' → RelH E h' H' → (∀ q ∈ locs', E.2.2.2.size ≤ q.base) → RetOk k v pc' → W p E.1 e R s m args below meth c H' locs' KC KS Z (F0 m pc' ls' v.toList))
    (hmc : mc = mc' + mc2) (hms : ms = ms' + ms2)
    (hr : va_Run p E.1 e R s m args below meth c H locs cells slots mc2 ms2 (F0 m pc ls stk) st (QcE E Q2 a) (fun q => E.2.2.2.size ≤ q))
    (kk : ∀ (v : Option Value) (h' : Hp), Q2 v h' → WP E k d mc' ms' (pc + 3) L (v.toList ++ st) h' Q) :
    W p E.1 e R s m args below meth c H locs cells slots Z (F0 m pc ls stk) := by
  intro T hT X
  obtain ⟨v, st₀, t, T', L2, h0, X', hL2, e1, e2, ⟨v', h', hv, hR', hq⟩, step⟩ := hr T hT X
  cases hv
  obtain ⟨t2, a1, b1⟩ := kk v h' hq p e R s m args below meth c T'.heap (locs ++ L2) (cells + mc2) (slots + ms2) KC KS Z ls C hL (by rw [e1]; exact hR') (fun q hq => by
      rcases List.mem_append.mp hq with z | z
      · exact hlo q z
      · exact hL2 q z) (by omega) (by omega) h3 h4 kr T' rfl X'
  exact ⟨t2, step t2 a1, b1⟩
theorem Cx.fix {p : Program} {R : Room} {s : State} {m : MethodId} {args : Array Value} {meth : Method} {c : Code} (C : Cx E k p R s m args meth c d) : CallFix p m c k.2.1 k.2.2.1 s args gw k.1.cls := ⟨C.1, C.2.1, C.2.2.2.1, C.2.2.2.2.1, C.2.2.2.2.2.1⟩
theorem Cx.room {p : Program} {R : Room} {s : State} {m : MethodId} {args : Array Value} {meth : Method} {c : Code} (C : Cx E k p R s m args meth c d) (hd2 : d2 + 1 ≤ d) (hm : k2.2.2.1 ≤ 40) : (rmE d2 mc2 ms2).frames + 1 ≤ R.frames ∧ 8 + (k2.2.2.1 + 11) + (rmE d2 mc2 ms2).locals ≤ R.locals := by
  have h1 := C.2.2.2.2.2.2.2.2.2.1
  have h2 := C.2.2.2.2.2.2.2.2.2.2
  refine ⟨?_, ?_⟩
  · show d2 + 1 ≤ R.frames
    omega
  · show 8 + (k2.2.2.1 + 11) + 64 * d2 ≤ R.locals
    omega
theorem Cx.callB {p : Program} {R : Room} {s : State} {m : MethodId} {args : Array Value} {meth : Method} {c : Code} (C : Cx E k p R s m args meth c d) (hm : mOk k2 n) (hw : Cond.methodLink k.1.cls i k2.1 ∈ gw) (hd2 : d2 + 1 ≤ d) :
    CallB R s args k.1.cls i k2.1 k2.2.1 k2.2.2.1 k2.2.2.2 (wsE k2) (rmE d2 mc2 ms2) mc2 ms2 n :=
  callB_of n C.2.2.2.2.2.1 (wsE_good k2 hm.1) rfl rfl rfl (C.2.2.2.2.2.1 _ hm.2.1) (C.2.2.2.2.2.1 _ hw) hm.2.2.1 (C.room hd2 hm.2.2.2)
theorem Cx.callN {p : Program} {R : Room} {s : State} {m : MethodId} {args : Array Value} {meth : Method} {c : Code} {host : String} (C : Cx E k p R s m args meth c d) (hm : mOk k2 n) (hw : Cond.methodLinkNest k.1.cls i k2.1 host ∈ nestW) (hd2 : d2 + 1 ≤ d) :
    va_CN R s args k.1.cls i k2.1 host k2.2.1 k2.2.2.1 k2.2.2.2 (wsE k2) (rmE d2 mc2 ms2) mc2 ms2 n :=
  va_cnB n C.2.2.2.2.2.1 (wsE_good k2 hm.1) rfl rfl rfl (C.2.2.2.2.2.2.2.1.2.1 _ hw) (C.2.2.2.2.2.1 _ hm.2.1) hm.2.2.1 (C.room hd2 hm.2.2.2)
theorem PcE.comes {p : Program} {R : Room} {s : State} {m : MethodId} {args : Array Value} {meth : Method} {c : Code} {H : Heap} {av : List Value} (C : Cx E k p R s m args meth c d) (hR : RelH E h H) : ∀ U : State, U.heap = H → s.WarmedH U.vm → PcE E av h av.toArray U :=
  fun U hU hW => ⟨rfl, by rw [hU]; exact hR, KE.warm hW C.2.2.2.2.2.2.2.1⟩
theorem PcE.recv {p : Program} {R : Room} {s : State} {m : MethodId} {args : Array Value} {meth : Method} {c : Code} {H : Heap} {a ci : Nat} {q : vw_C} {fs : List Value} (C : Cx E k p R s m args meth c d) (hR : RelH E h H) (hc : vwCl[ci]? = some q) (ha : h.2 a = some (.inr (ci, fs))) : ∃ cell : Cell, H[a]? = some cell ∧ cell.vm.isStatics = false ∧ s.vm.findClass q.1 = some cell.cls :=
  va_recv C.2.2.2.2.2.2.2.1.1 (hR.P1 ha) (q0 := 0) hc rfl
theorem R_callV {a ci : Nat} {fs : List Value} (hm : vOk k2 n ci) (hs : Spec E k2 d2 mc2 ms2 (.ref a :: As) h Q2) (hd : decode k.2.1 pc = .ok (.invokevirtual i, 3)) (hw : Cond.methodLink k.1.cls i k2.1 ∈ gw) (hstk : stk = As.reverse ++ .ref a :: st) (hn : As.length = n) (ha : h.2 a = some (.inr (ci, fs))) (hcat : (st.map fun v => v.category).sum ≤ 8) (hd2 : d2 + 1 ≤ d) (hmc : mc = mc' + mc2) (hms : ms = ms' + ms2)
    (kk : ∀ (v : Option Value) (h' : Hp), Q2 v h' → WP E k d mc' ms' (pc + 3) L (v.toList ++ st) h' Q) : WP E k d mc ms pc L stk h Q := by
  intro p e R s m args below meth c H locs cells slots KC KS Z ls C hL hR hlo h1 h2 h3 h4 kr
  obtain ⟨q, hq, hqc⟩ := hm.2.2.2
  refine WP.back C hL hlo h1 h2 h3 h4 kr hmc hms (va_runV (C := k2.1.cls) (As := As) (rest := st) C.fix hs ⟨C.callB hm.1 hw hd2, C.2.2.2.2.2.1 _ hm.2.1, C.2.2.2.2.2.1 _ hm.2.2.1⟩ ⟨PcE.blind, ?_, PcE.comes C hR⟩ rfl hn hL.1 hstk (lv_room hcat) hd ⟨by omega, by omega⟩) kk
  rw [← hqc]
  exact PcE.recv C hR hq ha
theorem R_callS (hm : sOk k2 n) (hs : Spec E k2 d2 mc2 ms2 As h Q2) (hd : decode k.2.1 pc = .ok (.invokestatic i, 3)) (hw : Cond.methodLink k.1.cls i k2.1 ∈ gw) (hstk : stk = As.reverse ++ st) (hn : As.length = n) (hcat : (st.map fun v => v.category).sum ≤ 8) (hd2 : d2 + 1 ≤ d) (hmc : mc = mc' + mc2) (hms : ms = ms' + ms2)
    (kk : ∀ (v : Option Value) (h' : Hp), Q2 v h' → WP E k d mc' ms' (pc + 3) L (v.toList ++ st) h' Q) : WP E k d mc ms pc L stk h Q := by
  intro p e R s m args below meth c H locs cells slots KC KS Z ls C hL hR hlo h1 h2 h3 h4 kr
  exact WP.back C hL hlo h1 h2 h3 h4 kr hmc hms (va_runS (As := As) (rest := st) C.fix hs ⟨C.callB hm.1 hw hd2, C.2.2.2.2.2.1 _ hm.2⟩ ⟨PcE.blind, PcE.comes C hR⟩ rfl hn hL.1 hstk (lv_room hcat) hd ⟨by omega, by omega⟩) kk
theorem R_callSN {host : String} (hm : sOk k2 n) (hs : Spec E k2 d2 mc2 ms2 As h Q2) (hd : decode k.2.1 pc = .ok (.invokestatic i, 3)) (hw : Cond.methodLinkNest k.1.cls i k2.1 host ∈ nestW) (hstk : stk = As.reverse ++ st) (hn : As.length = n) (hcat : (st.map fun v => v.category).sum ≤ 8) (hd2 : d2 + 1 ≤ d) (hmc : mc = mc' + mc2) (hms : ms = ms' + ms2)
    (kk : ∀ (v : Option Value) (h' : Hp), Q2 v h' → WP E k d mc' ms' (pc + 3) L (v.toList ++ st) h' Q) : WP E k d mc ms pc L stk h Q := by
  intro p e R s m args below meth c H locs cells slots KC KS Z ls C hL hR hlo h1 h2 h3 h4 kr
  exact WP.back C hL hlo h1 h2 h3 h4 kr hmc hms (va_runSN (As := As) (rest := st) C.fix hs ⟨C.callN hm.1 hw hd2, C.2.2.2.2.2.1 _ hm.2, trivial⟩ ⟨PcE.blind, PcE.comes C hR⟩ rfl hn hL.1 hstk (lv_room hcat) hd ⟨by omega, by omega⟩) kk
theorem R_callI {a : Nat} (hm : iOk k2 n) (hs : Spec E k2 d2 mc2 ms2 (.ref a :: As) h Q2) (hd : decode k.2.1 pc = .ok (.invokespecial i, 3)) (hw : Cond.methodLink k.1.cls i k2.1 ∈ gw) (hstk : stk = As.reverse ++ .ref a :: st) (hn : As.length = n) (hcat : (st.map fun v => v.category).sum ≤ 8) (hd2 : d2 + 1 ≤ d) (hmc : mc = mc' + mc2) (hms : ms = ms' + ms2)
    (kk : ∀ (v : Option Value) (h' : Hp), Q2 v h' → WP E k d mc' ms' (pc + 3) L (v.toList ++ st) h' Q) : WP E k d mc ms pc L stk h Q := by
  intro p e R s m args below meth c H locs cells slots KC KS Z ls C hL hR hlo h1 h2 h3 h4 kr
  have hB := C.callB (mc2 := mc2) (ms2 := ms2) hm.1 hw hd2
  rw [hm.2.2.2] at hB
  exact WP.back C hL hlo h1 h2 h3 h4 kr hmc hms (va_runI (b := a) (As := As) (rest := st) C.fix hs ⟨hB, hm.2.2.1, C.2.2.2.2.2.1 _ hm.2.1⟩ ⟨PcE.blind, PcE.comes C hR⟩ rfl hn hL.1 hstk (lv_room hcat) hd ⟨by omega, by omega⟩) kk
theorem R_callIN {a : Nat} {host : String} (hm : iOk k2 n) (hs : Spec E k2 d2 mc2 ms2 (.ref a :: As) h Q2) (hd : decode k.2.1 pc = .ok (.invokespecial i, 3)) (hw : Cond.methodLinkNest k.1.cls i k2.1 host ∈ nestW) (hstk : stk = As.reverse ++ .ref a :: st) (hn : As.length = n) (hcat : (st.map fun v => v.category).sum ≤ 8) (hd2 : d2 + 1 ≤ d) (hmc : mc = mc' + mc2) (hms : ms = ms' + ms2)
    (kk : ∀ (v : Option Value) (h' : Hp), Q2 v h' → WP E k d mc' ms' (pc + 3) L (v.toList ++ st) h' Q) : WP E k d mc ms pc L stk h Q := by
  intro p e R s m args below meth c H locs cells slots KC KS Z ls C hL hR hlo h1 h2 h3 h4 kr
  have hB := C.callN (mc2 := mc2) (ms2 := ms2) hm.1 hw hd2
  rw [hm.2.2.2] at hB
  exact WP.back C hL hlo h1 h2 h3 h4 kr hmc hms (va_runIN (b := a) (As := As) (rest := st) C.fix hs ⟨hB, hm.2.2.1, C.2.2.2.2.2.1 _ hm.2.1⟩ ⟨PcE.blind, PcE.comes C hR⟩ rfl hn hL.1 hstk (lv_room hcat) hd ⟨by omega, by omega⟩) kk
theorem gw_objI : Cond.instanceMethod Lib.objectInit ∈ gw := gw_in (List.mem_of_getElem? (i := 20) (by decide +kernel)) (by decide +kernel)
theorem gw_objC : Cond.code Lib.objectInit ⟨#[0xb1]⟩ 1 none ∈ gw := gw_in (List.mem_of_getElem? (i := 21) (by decide +kernel)) (by decide +kernel)
theorem R_objInit {a : Nat} (hd : decode k.2.1 pc = .ok (.invokespecial i, 3)) (hw : Cond.methodLink k.1.cls i Lib.objectInit ∈ gw) (hcat : (st.map fun v => v.category).sum ≤ 8) (hd1 : 1 ≤ d) (kk : WP E k d mc ms (pc + 3) L st h Q) : WP E k d mc ms pc L (.ref a :: st) h Q := by
  intro p e R s m args below meth c H locs cells slots KC KS Z ls C hL hR hlo h1 h2 h3 h4 kr
  have r1 := C.2.2.2.2.2.2.2.2.2.1
  have r2 := C.2.2.2.2.2.2.2.2.2.2
  have hts := C.2.2.2.2.2.1
  exact W.objInit C.1 C.2.1 C.2.2.2.2.1 (hts _ hw) (hts _ gw_objI) (hts _ gw_objC) rfl (hL.1.trans C.2.2.2.1.symm) rfl hd (by omega) (by have := lv_room (m := m) (pc := pc) (ls := ls) (rest := .ref a :: st) hcat; omega) (kk p e R s m args below meth c H locs cells slots KC KS Z ls C hL hR hlo h1 h2 h3 h4 kr)
theorem R_arraycopy {a b n0 n1 : Nat} {f g : Nat → Int32} {sp dp cnt : Int32} (hd : decode k.2.1 pc = .ok (.invokestatic i, 3)) (hw : Cond.methodLink k.1.cls i arraycopyName ∈ gw) (hnat : Cond.native arraycopyName ∈ gw) (hsta : Cond.static arraycopyName ∈ gw) (hini : Cond.initialized "java/lang/System" ∈ gw) (ha : h.2 a = some (.inl (E.2.2.1 0, n0, .inl f))) (hb : h.2 b = some (.inl (E.2.2.1 0, n1, .inl g)))
    (g1 : ¬ sp < 0) (g2 : ¬ dp < 0) (g3 : ¬ cnt < 0) (g4 : sp.toNatClampNeg + cnt.toNatClampNeg ≤ n0) (g5 : dp.toNatClampNeg + cnt.toNatClampNeg ≤ n1) (hcat : (st.map fun v => v.category).sum ≤ 8) (hd1 : 1 ≤ d)
    (kk : WP E k d mc ms (pc + 3) L st (hup h b (.inl (E.2.2.1 0, n1, .inl (va_cpy f g sp.toNatClampNeg dp.toNatClampNeg cnt.toNatClampNeg)))) Q) : WP E k d mc ms pc L (.int cnt :: .int dp :: .ref b :: .int sp :: .ref a :: st) h Q := by
  have nn : ∀ z : Int32, ¬ z < 0 → z.toInt = (z.toNatClampNeg : Int) := by
    intro z hz
    have hz0 : (0 : Int) ≤ z.toInt := by
      have := Int32.not_lt.mp hz
      simpa using Int32.le_iff_toInt_le.mp this
    show z.toInt = ((z.toInt.toNat : Nat) : Int)
    omega
  intro p e R s m args below meth c H locs cells slots KC KS Z ls C hL hR hlo h1 h2 h3 h4 kr
  have r1 := C.2.2.2.2.2.2.2.2.2.1
  have r2 := C.2.2.2.2.2.2.2.2.2.2
  have hts := C.2.2.2.2.2.1
  have hK := C.2.2.2.2.2.2.2.1.1
  have hlw : 2 * (F0 m pc ls (.int cnt :: .int dp :: .ref b :: .int sp :: .ref a :: st)).monitorRoom + (st.map fun v => v.category).sum + (nativeFrameWords "java/lang/System" "arraycopy" 5 + 11) ≤ R.locals := by
    show 2 * 0 + (st.map fun v => v.category).sum + (nativeFrameWords "java/lang/System" "arraycopy" 5 + 11) ≤ R.locals
    have : nativeFrameWords "java/lang/System" "arraycopy" 5 + 11 ≤ 56 := by decide +kernel
    omega
  intro T hT X
  have hc0 : H[a]? = some (vp_cell (E.2.2.1 0) (n0, .inl f)) := hR.cell ha
  have hc1 : H[b]? = some (vp_cell (E.2.2.1 0) (n1, .inl g)) := hR.cell hb
  obtain ⟨-, k0, hk0, cm0, hkk0⟩ := (hK.2 0 _ rfl).1 n0 (fun j => .int (f j))
  obtain ⟨-, k1, hk1, cm1, hkk1⟩ := (hK.2 0 _ rfl).1 n1 (fun j => .int (g j))
  obtain ⟨vm', X', step⟩ := X.arraycopy C.1 C.2.2.2.2.1 (hts _ hw) (hts _ hnat) (hts _ hsta) (hts _ hini) (src := a) (dst := b) (cs := vp_cell (E.2.2.1 0) (n0, .inl f)) (cd := vp_cell (E.2.2.1 0) (n1, .inl g)) (srcPos := sp) (destPos := dp) (n := cnt) (by rw [hT]; exact hc0) (by rw [hT]; exact hc1)
    (fun _ h => by cases h) (fun _ h => by cases h) (fun h => by cases h) (fun h => by cases h) hk0 hk1 hkk0 hkk1 rfl g1 g2 g3
    (by rw [nn sp g1, nn cnt g3]; show ¬ _ > ((arrV (E.2.2.1 0) n0 (fun j => .int (f j))).slots.size : Int); rw [arrV_size]; omega)
    (by rw [nn dp g2, nn cnt g3]; show ¬ _ > ((arrV (E.2.2.1 0) n1 (fun j => .int (g j))).slots.size : Int); rw [arrV_size]; omega)
    (fun vm₁ _ i hi => by
      have e : (vp_cell (E.2.2.1 0) (n0, .inl f)).slots.getD (sp.toNatClampNeg + i) .null = .int (f (sp.toNatClampNeg + i)) := by
        show (arrV (E.2.2.1 0) n0 (fun j => .int (f j))).slots.getD _ _ = _
        rw [Array.getD_eq_getD_getElem?, arrV_read _ _ (by omega)]
        rfl
      refine ⟨?_, ?_⟩
      · rw [e]
        rfl
      · rw [e]
        exact trivial)
    (g := F0 m pc ls (.int cnt :: .int dp :: .ref b :: .int sp :: .ref a :: st)) rfl (by rw [C.2.2.2.1, ← hL.1]) (rest := st) rfl (by rw [C.2.1]; exact hd) (by omega) hlw
  have e1 : copied (vp_cell (E.2.2.1 0) (n0, .inl f)) (vp_cell (E.2.2.1 0) (n1, .inl g)) sp dp cnt = vp_cell (E.2.2.1 0) (n1, .inl (va_cpy f g sp.toNatClampNeg dp.toNatClampNeg cnt.toNatClampNeg)) := va_copied (fun z => .int z) (E.2.2.1 0) (E.2.2.1 0) f g g4
  rw [e1] at X' step
  have hl : b < H.size := (Array.getElem?_eq_some_iff.mp hc1).1
  have hheap : ((T.setVm vm').setCell b (vp_cell (E.2.2.1 0) (n1, .inl (va_cpy f g sp.toNatClampNeg dp.toNatClampNeg cnt.toNatClampNeg)))).heap = H.setIfInBounds b (vp_cell (E.2.2.1 0) (n1, .inl (va_cpy f g sp.toNatClampNeg dp.toNatClampNeg cnt.toNatClampNeg))) := by rw [← hT]; rfl
  have oq : ∀ q : Nat, q ≠ b → (H.setIfInBounds b (vp_cell (E.2.2.1 0) (n1, .inl (va_cpy f g sp.toNatClampNeg dp.toNatClampNeg cnt.toNatClampNeg))))[q]? = H[q]? := fun q hq => by simp [Array.getElem?_setIfInBounds, Ne.symm hq]
  obtain ⟨t, a1, b1⟩ := kk p e R s m args below meth c _ _ cells slots KC KS Z ls C hL (hR.set hb (show (H.setIfInBounds b _)[b]? = some _ by simp [Array.getElem?_setIfInBounds, hl]) (by simp) oq) (fun q hq => by
      rcases List.mem_append.mp hq with h | h
      · exact hlo q h
      · obtain ⟨z, -, hz⟩ := List.mem_map.mp h
        rw [← hz]
        exact (hR.2.1 b _ hb).2) h1 h2 h3 h4 kr _ hheap X'
  exact ⟨t, step t a1, b1⟩
end CALLS
