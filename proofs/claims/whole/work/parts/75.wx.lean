/-! THE LAW: the same rules, with one thing more known of the start -/
def WX (XX : State → Prop) (E : EnvT) (k : MI) (d mc ms : Nat) (pc : Nat) (L : List (Option Value)) (st : List Value) (h : Hp) (Q : Option Value → Hp → Prop) : Prop :=
  ∀ (p : Program) (e : Env) (R : Room) (s : State) (m : MethodId) (args : Array Value) (below : List Frame) (meth : Method) (c : Code) (H : Heap) (locs : List Loc) (cells slots KC KS : Nat) (Z : State → Prop) (ls : Array Slot),
    Cx E k p R s m args meth c d → Lr ls k.2.2.1 L → RelH E h H → (∀ q ∈ locs, E.2.2.2.size ≤ q.base) → cells + mc = KC → slots + ms = KS → KC ≤ R.cells → KS ≤ R.slots →
    (∀ (v : Option Value) (h' : Hp) (H' : Heap) (locs' : List Loc) (pc' : Nat) (ls' : Array Slot), Q v h' → RelH E h' H' → (∀ q ∈ locs', E.2.2.2.size ≤ q.base) → RetOk k v pc' → W p E.1 e R s m args below meth c H' locs' KC KS Z (F0 m pc' ls' v.toList)) → XX s →
    W p E.1 e R s m args below meth c H locs cells slots Z (F0 m pc ls st)
section WX
variable {XX : State → Prop} {E : EnvT} {k k2 : MI} {d d2 mc ms mc2 ms2 mc' ms' pc n i : Nat} {L : List (Option Value)} {st stk As : List Value} {h : Hp} {Q Q2 : Option Value → Hp → Prop}
theorem RX_iconst {n : Int} {v : Int32} (hd : decode k.2.1 pc = .ok (.iconst n, 1)) (hv : Int32.ofInt n = v) (kk : WX XX E k d mc ms (pc + 1) L (.int v :: st) h Q) : WX XX E k d mc ms pc L st h Q := by
  intro p e R s m args below meth c H locs cells slots KC KS Z ls C hL hR hlo h1 h2 h3 h4 kr hXX
  exact lv_iconst C.1 C.2.1 hd hv (kk p e R s m args below meth c H locs cells slots KC KS Z ls C hL hR hlo h1 h2 h3 h4 kr hXX)
theorem RX_bipush {n : Int} {v : Int32} (hd : decode k.2.1 pc = .ok (.bipush n, 2)) (hv : (Int8.ofInt n).toInt32 = v) (kk : WX XX E k d mc ms (pc + 2) L (.int v :: st) h Q) : WX XX E k d mc ms pc L st h Q := by
  intro p e R s m args below meth c H locs cells slots KC KS Z ls C hL hR hlo h1 h2 h3 h4 kr hXX
  exact lv_bipush C.1 C.2.1 hd hv (kk p e R s m args below meth c H locs cells slots KC KS Z ls C hL hR hlo h1 h2 h3 h4 kr hXX)
theorem RX_iload_n {n : Fin 4} {x : Int32} (hd : decode k.2.1 pc = .ok (.iload_n n, 1)) (hl : L[(n : Nat)]? = some (some (.int x))) (kk : WX XX E k d mc ms (pc + 1) L (.int x :: st) h Q) : WX XX E k d mc ms pc L st h Q := by
  intro p e R s m args below meth c H locs cells slots KC KS Z ls C hL hR hlo h1 h2 h3 h4 kr hXX
  exact lv_iload_n C.1 C.2.1 hd rfl (hL.at hl) (kk p e R s m args below meth c H locs cells slots KC KS Z ls C hL hR hlo h1 h2 h3 h4 kr hXX)
theorem RX_aload_n {n : Fin 4} {x : Nat} (hd : decode k.2.1 pc = .ok (.aload_n n, 1)) (hl : L[(n : Nat)]? = some (some (.ref x))) (kk : WX XX E k d mc ms (pc + 1) L (.ref x :: st) h Q) : WX XX E k d mc ms pc L st h Q := by
  intro p e R s m args below meth c H locs cells slots KC KS Z ls C hL hR hlo h1 h2 h3 h4 kr hXX
  exact lv_aload_n C.1 C.2.1 hd rfl (hL.at hl) (kk p e R s m args below meth c H locs cells slots KC KS Z ls C hL hR hlo h1 h2 h3 h4 kr hXX)
theorem RX_istore_n {n : Fin 4} {x : Int32} {L' : List (Option Value)} (hd : decode k.2.1 pc = .ok (.istore_n n, 1)) (hn : (n : Nat) < k.2.2.1) (hl : L.set (n : Nat) (some (.int x)) = L') (kk : WX XX E k d mc ms (pc + 1) L' st h Q) : WX XX E k d mc ms pc L (.int x :: st) h Q := by
  subst hl
  intro p e R s m args below meth c H locs cells slots KC KS Z ls C hL hR hlo h1 h2 h3 h4 kr hXX
  exact lv_istore_n C.1 C.2.1 hd rfl hL.has hn rfl (fun ls' hl' => kk p e R s m args below meth c H locs cells slots KC KS Z ls' C (hL.stored rfl hl') hR hlo h1 h2 h3 h4 kr hXX)
theorem RX_astore_n {n : Fin 4} {x : Nat} {L' : List (Option Value)} (hd : decode k.2.1 pc = .ok (.astore_n n, 1)) (hn : (n : Nat) < k.2.2.1) (hl : L.set (n : Nat) (some (.ref x)) = L') (kk : WX XX E k d mc ms (pc + 1) L' st h Q) : WX XX E k d mc ms pc L (.ref x :: st) h Q := by
  subst hl
  intro p e R s m args below meth c H locs cells slots KC KS Z ls C hL hR hlo h1 h2 h3 h4 kr hXX
  exact lv_astore_n C.1 C.2.1 hd rfl hL.has hn rfl (fun ls' hl' => kk p e R s m args below meth c H locs cells slots KC KS Z ls' C (hL.stored rfl hl') hR hlo h1 h2 h3 h4 kr hXX)
theorem RX_istore3 {a0 a1 a2 a3 : Option Value} {t : List (Option Value)} {x : Int32} (hd : decode k.2.1 pc = .ok (.istore_n 3, 1)) (hn : 3 < k.2.2.1) (kk : WX XX E k d mc ms (pc + 1) (a0 :: a1 :: a2 :: some (.int x) :: t) st h Q) : WX XX E k d mc ms pc (a0 :: a1 :: a2 :: a3 :: t) (.int x :: st) h Q := RX_istore_n hd hn rfl kk
theorem RX_astore1 {a0 a1 : Option Value} {t : List (Option Value)} {x : Nat} (hd : decode k.2.1 pc = .ok (.astore_n 1, 1)) (hn : 1 < k.2.2.1) (kk : WX XX E k d mc ms (pc + 1) (a0 :: some (.ref x) :: t) st h Q) : WX XX E k d mc ms pc (a0 :: a1 :: t) (.ref x :: st) h Q := RX_astore_n hd hn rfl kk
theorem RX_astore2 {a0 a1 a2 : Option Value} {t : List (Option Value)} {x : Nat} (hd : decode k.2.1 pc = .ok (.astore_n 2, 1)) (hn : 2 < k.2.2.1) (kk : WX XX E k d mc ms (pc + 1) (a0 :: a1 :: some (.ref x) :: t) st h Q) : WX XX E k d mc ms pc (a0 :: a1 :: a2 :: t) (.ref x :: st) h Q := RX_astore_n hd hn rfl kk
theorem RX_dup {va : Value} (hd : decode k.2.1 pc = .ok (.dup, 1)) (hva : va.category = 1) (kk : WX XX E k d mc ms (pc + 1) L (va :: va :: st) h Q) : WX XX E k d mc ms pc L (va :: st) h Q := by
  intro p e R s m args below meth c H locs cells slots KC KS Z ls C hL hR hlo h1 h2 h3 h4 kr hXX
  exact lv_dup C.1 C.2.1 hd hva (kk p e R s m args below meth c H locs cells slots KC KS Z ls C hL hR hlo h1 h2 h3 h4 kr hXX)
theorem RX_iadd {x y : Int32} (hd : decode k.2.1 pc = .ok (.iadd, 1))  (kk : WX XX E k d mc ms (pc + 1) L (.int (x + y) :: st) h Q) : WX XX E k d mc ms pc L (.int y :: .int x :: st) h Q := by
  intro p e R s m args below meth c H locs cells slots KC KS Z ls C hL hR hlo h1 h2 h3 h4 kr hXX
  exact lv_iadd C.1 C.2.1 hd  (kk p e R s m args below meth c H locs cells slots KC KS Z ls C hL hR hlo h1 h2 h3 h4 kr hXX)
theorem RX_iadd_N {a b : Nat} (hd : decode k.2.1 pc = .ok (.iadd, 1)) (kk : WX XX E k d mc ms (pc + 1) L (.int (nI (a + b)) :: st) h Q) : WX XX E k d mc ms pc L (.int (nI b) :: .int (nI a) :: st) h Q := RX_iadd hd (by rw [nI_add]; exact kk)
theorem RX_isub {x y : Int32} (hd : decode k.2.1 pc = .ok (.isub, 1))  (kk : WX XX E k d mc ms (pc + 1) L (.int (x - y) :: st) h Q) : WX XX E k d mc ms pc L (.int y :: .int x :: st) h Q := by
  intro p e R s m args below meth c H locs cells slots KC KS Z ls C hL hR hlo h1 h2 h3 h4 kr hXX
  exact lv_isub C.1 C.2.1 hd  (kk p e R s m args below meth c H locs cells slots KC KS Z ls C hL hR hlo h1 h2 h3 h4 kr hXX)
theorem RX_iand {x y : Int32} (hd : decode k.2.1 pc = .ok (.iand, 1))  (kk : WX XX E k d mc ms (pc + 1) L (.int (x &&& y) :: st) h Q) : WX XX E k d mc ms pc L (.int y :: .int x :: st) h Q := by
  intro p e R s m args below meth c H locs cells slots KC KS Z ls C hL hR hlo h1 h2 h3 h4 kr hXX
  exact lv_iand C.1 C.2.1 hd  (kk p e R s m args below meth c H locs cells slots KC KS Z ls C hL hR hlo h1 h2 h3 h4 kr hXX)
theorem RX_icmp_eq {x y : Int32} {off : Int} {tgt : Nat} (hd : decode k.2.1 pc = .ok (.if_icmp .eq off, 3)) (ht : (pc : Int) + off = (tgt : Int)) (kt : x = y → WX XX E k d mc ms tgt L st h Q) (kf : ¬ x = y → WX XX E k d mc ms (pc + 3) L st h Q) : WX XX E k d mc ms pc L (.int y :: .int x :: st) h Q := by
  intro p e R s m args below meth c H locs cells slots KC KS Z ls C hL hR hlo h1 h2 h3 h4 kr hXX
  exact lv_icmp_eq C.1 C.2.1 hd ht (fun z => kt z p e R s m args below meth c H locs cells slots KC KS Z ls C hL hR hlo h1 h2 h3 h4 kr hXX) (fun z => kf z p e R s m args below meth c H locs cells slots KC KS Z ls C hL hR hlo h1 h2 h3 h4 kr hXX)
theorem RX_icmp_gt {x y : Int32} {off : Int} {tgt : Nat} (hd : decode k.2.1 pc = .ok (.if_icmp .gt off, 3)) (ht : (pc : Int) + off = (tgt : Int)) (kt : y < x → WX XX E k d mc ms tgt L st h Q) (kf : ¬ y < x → WX XX E k d mc ms (pc + 3) L st h Q) : WX XX E k d mc ms pc L (.int y :: .int x :: st) h Q := by
  intro p e R s m args below meth c H locs cells slots KC KS Z ls C hL hR hlo h1 h2 h3 h4 kr hXX
  exact lv_icmp_gt C.1 C.2.1 hd ht (fun z => kt z p e R s m args below meth c H locs cells slots KC KS Z ls C hL hR hlo h1 h2 h3 h4 kr hXX) (fun z => kf z p e R s m args below meth c H locs cells slots KC KS Z ls C hL hR hlo h1 h2 h3 h4 kr hXX)
theorem RX_iinc {i : Nat} {n : Int} {x v : Int32} {L' : List (Option Value)} (hd : decode k.2.1 pc = .ok (.iinc i n, 3)) (hx : L[i]? = some (some (.int x))) (hn : i < k.2.2.1) (hv : x + Int32.ofInt n = v) (hl : L.set i (some (.int v)) = L') (kk : WX XX E k d mc ms (pc + 3) L' st h Q) : WX XX E k d mc ms pc L st h Q := by
  subst hl
  intro p e R s m args below meth c H locs cells slots KC KS Z ls C hL hR hlo h1 h2 h3 h4 kr hXX
  obtain ⟨q, hq⟩ := List.getElem?_of_mem (Lpairs_in.mpr hx)
  exact lv_iinc C.1 C.2.1 hd hL.has hq hv hn rfl (fun ls' hl' => kk p e R s m args below meth c H locs cells slots KC KS Z ls' C (hL.stored rfl hl') hR hlo h1 h2 h3 h4 kr hXX)
theorem RX_iinc3 {a0 a1 a2 : Option Value} {t : List (Option Value)} {x v : Int32} {n : Int} (hd : decode k.2.1 pc = .ok (.iinc 3 n, 3)) (hn : 3 < k.2.2.1) (hv : x + Int32.ofInt n = v) (kk : WX XX E k d mc ms (pc + 3) (a0 :: a1 :: a2 :: some (.int v) :: t) st h Q) : WX XX E k d mc ms pc (a0 :: a1 :: a2 :: some (.int x) :: t) st h Q := RX_iinc hd rfl hn hv rfl kk
theorem RX_goto {off : Int} {tgt : Nat} (hd : decode k.2.1 pc = .ok (.goto off, 3)) (ht : (pc : Int) + off = (tgt : Int)) (kk : WX XX E k d mc ms tgt L st h Q) : WX XX E k d mc ms pc L st h Q := by
  intro p e R s m args below meth c H locs cells slots KC KS Z ls C hL hR hlo h1 h2 h3 h4 kr hXX
  exact lv_goto C.1 C.2.1 hd ht (kk p e R s m args below meth c H locs cells slots KC KS Z ls C hL hR hlo h1 h2 h3 h4 kr hXX)
theorem RX_ireturn {x : Int32} {ty : FieldType} (hd : decode k.2.1 pc = .ok (.ireturn, 1)) (hr : k.2.2.2 = some ty) (hn : narrow ty (.int x) = .int x) (hq : Q (some (.int x)) h) : WX XX E k d mc ms pc L [.int x] h Q := by
  intro p e R s m args below meth c H locs cells slots KC KS Z ls C hL hR hlo h1 h2 h3 h4 kr hXX
  exact W.widen (by omega) (by omega) (kr (some (.int x)) h H locs pc ls hq hR hlo ⟨hd, ty, hr, hn⟩)
theorem RX_tableIn {dflt lo hi : Int} {offs : Array Int} {len : Nat} {x : Int32} {off : Int} {tgt : Nat} (hd : decode k.2.1 pc = .ok (.tableswitch dflt lo hi offs, len)) (g1 : ¬ x.toInt < lo) (g2 : ¬ hi < x.toInt) (ho : offs[(x.toInt - lo).toNat]? = some off) (ht : (pc : Int) + off = (tgt : Int)) (kk : WX XX E k d mc ms tgt L st h Q) : WX XX E k d mc ms pc L (.int x :: st) h Q := by
  intro p e R s m args below meth c H locs cells slots KC KS Z ls C hL hR hlo h1 h2 h3 h4 kr hXX
  exact lv_tableIn C.1 C.2.1 hd g1 g2 ho ht (kk p e R s m args below meth c H locs cells slots KC KS Z ls C hL hR hlo h1 h2 h3 h4 kr hXX)
theorem RX_tableOut {dflt lo hi : Int} {offs : Array Int} {len : Nat} {x : Int32} {tgt : Nat} (hd : decode k.2.1 pc = .ok (.tableswitch dflt lo hi offs, len)) (hx : x.toInt < lo ∨ hi < x.toInt) (ht : (pc : Int) + dflt = (tgt : Int)) (kk : WX XX E k d mc ms tgt L st h Q) : WX XX E k d mc ms pc L (.int x :: st) h Q := by
  intro p e R s m args below meth c H locs cells slots KC KS Z ls C hL hR hlo h1 h2 h3 h4 kr hXX
  exact lv_tableOut C.1 C.2.1 hd hx ht (kk p e R s m args below meth c H locs cells slots KC KS Z ls C hL hR hlo h1 h2 h3 h4 kr hXX)
theorem RX_new {ci N i mc' ms' : Nat} {C0 : String} {T : u_T} {ty : Nat → FieldType} (hc : clsOk ci C0 T N ty) (hd : decode k.2.1 pc = .ok (.new i, 3)) (hw1 : Cond.classLink k.1.cls i C0 ∈ gw) (hw2 : Cond.instantiable C0 N ∈ gw) (hw3 : Cond.initialized C0 ∈ gw) {fs : List Value} (hfs : ∀ j, j < N → defaultValue (ty j) = vp_V fs j) (hmc : mc = mc' + 1) (hms : ms = ms' + N) (kk : WX XX E k d mc' ms' (pc + 3) L (.ref h.1 :: st) (hpush h (.inr (ci, fs))) Q) : WX XX E k d mc ms pc L st h Q := by
  intro p e R s m args below meth c H locs cells slots KC KS Z ls C hL hR hlo h1 h2 h3 h4 kr hXX
  have hts := C.2.2.2.2.2.1
  have hK := C.2.2.2.2.2.2.2.1.1
  have hKn := hK.1 ci _ hc.1
  refine W.newcK C.1 C.2.1 C.2.2.2.2.1 (hts _ hw1) (hts _ hw2) (hts _ hw3) rfl hd (by omega) (by omega) hKn.2.1 hR.1 fun H1 kC hkC e1 z1 o1 => ?_
  exact kk p e R s m args below meth c H1 locs (cells + 1) (slots + N) KC KS Z ls C hL (hR.push ⟨_, hc.1, (u_born ty hts hc.2.1 hKn hkC e1 hc.2.2.1).to hfs⟩ z1 o1) hlo (by omega) (by omega) h3 h4 kr hXX
theorem RX_new_A {ci N i mc' ms' a : Nat} {C0 : String} {T : u_T} {ty : Nat → FieldType} (hc : clsOk ci C0 T N ty) (hd : decode k.2.1 pc = .ok (.new i, 3)) (hw1 : Cond.classLink k.1.cls i C0 ∈ gw) (hw2 : Cond.instantiable C0 N ∈ gw) (hw3 : Cond.initialized C0 ∈ gw) {fs : List Value} (hfs : ∀ j, j < N → defaultValue (ty j) = vp_V fs j) (ha : h.1 = a) (hmc : mc = mc' + 1) (hms : ms = ms' + N) (kk : ∀ h1, Psh h h1 a (.inr (ci, fs)) → WX XX E k d mc' ms' (pc + 3) L (.ref a :: st) h1 Q) : WX XX E k d mc ms pc L st h Q := by
  subst ha
  exact RX_new hc hd hw1 hw2 hw3 hfs hmc hms (kk _ (Psh.of rfl))
theorem WX.back {p : Program} {e : Env} {R : Room} {s : State} {m : MethodId} {args : Array Value} {below : List Frame} {meth : Method} {c : Code} {H : Heap} {locs : List Loc} {cells slots KC KS : Nat} {Z : State → Prop} {ls : Array Slot} {a : Array Value}
    (C : Cx E k p R s m args meth c d) (hL : Lr ls k.2.2.1 L) (hlo : ∀ q ∈ locs, E.2.2.2.size ≤ q.base) (h1 : cells + mc = KC) (h2 : slots + ms = KS) (h3 : KC ≤ R.cells) (h4 : KS ≤ R.slots)
    (kr : ∀ (v : Option Value) (h' : Hp) (H' : Heap) (locs' : List Loc) (pc' : Nat) (ls' : Array Slot), Q v h' → RelH E h' H' → (∀ q ∈ locs', E.2.2.2.size ≤ q.base) → RetOk k v pc' → W p E.1 e R s m args below meth c H' locs' KC KS Z (F0 m pc' ls' v.toList))
    (hXX : XX s) (hmc : mc = mc' + mc2) (hms : ms = ms' + ms2)
    (hr : va_Run p E.1 e R s m args below meth c H locs cells slots mc2 ms2 (F0 m pc ls stk) st (QcE E Q2 a) (fun q => E.2.2.2.size ≤ q))
    (kk : ∀ (v : Option Value) (h' : Hp), Q2 v h' → WX XX E k d mc' ms' (pc + 3) L (v.toList ++ st) h' Q) :
    W p E.1 e R s m args below meth c H locs cells slots Z (F0 m pc ls stk) := by
  intro T hT X
  obtain ⟨v, st₀, t, T', L2, h0, X', hL2, e1, e2, ⟨v', h', hv, hR', hq⟩, step⟩ := hr T hT X
  cases hv
  obtain ⟨t2, a1, b1⟩ := kk v h' hq p e R s m args below meth c T'.heap (locs ++ L2) (cells + mc2) (slots + ms2) KC KS Z ls C hL (by rw [e1]; exact hR') (fun q hq => by
      rcases List.mem_append.mp hq with z | z
      · exact hlo q z
      · exact hL2 q z) (by omega) (by omega) h3 h4 kr hXX T' rfl X'
  exact ⟨t2, step t2 a1, b1⟩
theorem RX_callV {a ci : Nat} {fs : List Value} (hm : vOk k2 n ci) (hs : Spec E k2 d2 mc2 ms2 (.ref a :: As) h Q2) (hd : decode k.2.1 pc = .ok (.invokevirtual i, 3)) (hw : Cond.methodLink k.1.cls i k2.1 ∈ gw) (hstk : stk = As.reverse ++ .ref a :: st) (hn : As.length = n) (ha : h.2 a = some (.inr (ci, fs))) (hcat : (st.map fun v => v.category).sum ≤ 8) (hd2 : d2 + 1 ≤ d) (hmc : mc = mc' + mc2) (hms : ms = ms' + ms2)
    (kk : ∀ (v : Option Value) (h' : Hp), Q2 v h' → WX XX E k d mc' ms' (pc + 3) L (v.toList ++ st) h' Q) : WX XX E k d mc ms pc L stk h Q := by
  intro p e R s m args below meth c H locs cells slots KC KS Z ls C hL hR hlo h1 h2 h3 h4 kr hXX
  obtain ⟨q, hq, hqc⟩ := hm.2.2.2
  refine WX.back C hL hlo h1 h2 h3 h4 kr hXX hmc hms (va_runV (C := k2.1.cls) (As := As) (rest := st) C.fix hs ⟨C.callB hm.1 hw hd2, C.2.2.2.2.2.1 _ hm.2.1, C.2.2.2.2.2.1 _ hm.2.2.1⟩ ⟨PcE.blind, ?_, PcE.comes C hR⟩ rfl hn hL.1 hstk (lv_room hcat) hd ⟨by omega, by omega⟩) kk
  rw [← hqc]
  exact PcE.recv C hR hq ha
theorem RX_callI {a : Nat} (hm : iOk k2 n) (hs : Spec E k2 d2 mc2 ms2 (.ref a :: As) h Q2) (hd : decode k.2.1 pc = .ok (.invokespecial i, 3)) (hw : Cond.methodLink k.1.cls i k2.1 ∈ gw) (hstk : stk = As.reverse ++ .ref a :: st) (hn : As.length = n) (hcat : (st.map fun v => v.category).sum ≤ 8) (hd2 : d2 + 1 ≤ d) (hmc : mc = mc' + mc2) (hms : ms = ms' + ms2)
    (kk : ∀ (v : Option Value) (h' : Hp), Q2 v h' → WX XX E k d mc' ms' (pc + 3) L (v.toList ++ st) h' Q) : WX XX E k d mc ms pc L stk h Q := by
  intro p e R s m args below meth c H locs cells slots KC KS Z ls C hL hR hlo h1 h2 h3 h4 kr hXX
  have hB := C.callB (mc2 := mc2) (ms2 := ms2) hm.1 hw hd2
  rw [hm.2.2.2] at hB
  exact WX.back C hL hlo h1 h2 h3 h4 kr hXX hmc hms (va_runI (b := a) (As := As) (rest := st) C.fix hs ⟨hB, hm.2.2.1, C.2.2.2.2.2.1 _ hm.2.1⟩ ⟨PcE.blind, PcE.comes C hR⟩ rfl hn hL.1 hstk (lv_room hcat) hd ⟨by omega, by omega⟩) kk
/-- the script, below the heap that is ours -/
def XS (b N : Nat) (xs : Nat → Int32) (B : Heap) (s : State) : Prop := va_X b N xs s B ∧ b < B.size
theorem RX_slen {b N : Nat} {xs : Nat → Int32} (hd : decode k.2.1 pc = .ok (.arraylength, 1)) (kk : WX (XS b N xs E.2.2.2) E k d mc ms (pc + 1) L (.int (nI N) :: st) h Q) : WX (XS b N xs E.2.2.2) E k d mc ms pc L (.ref b :: st) h Q := by
  intro p e R s m args below meth c H locs cells slots KC KS Z ls C hL hR hlo h1 h2 h3 h4 kr hXX
  exact va_slen (A := fun q => E.2.2.2.size ≤ q) C.1 C.2.1 hXX.1 hXX.2 (by have := hXX.2; omega) ⟨hR.2.2.2, fun q hq _ => hR.2.2.1 q hq, hlo⟩ hd (kk p e R s m args below meth c H locs cells slots KC KS Z ls C hL hR hlo h1 h2 h3 h4 kr hXX)
theorem RX_sld {b N j : Nat} {xs : Nat → Int32} (hd : decode k.2.1 pc = .ok (.iaload, 1)) (hj : j < N) (hN : N < 2 ^ 31) (kk : WX (XS b N xs E.2.2.2) E k d mc ms (pc + 1) L (.int (xs j) :: st) h Q) : WX (XS b N xs E.2.2.2) E k d mc ms pc L (.int (nI j) :: .ref b :: st) h Q := by
  intro p e R s m args below meth c H locs cells slots KC KS Z ls C hL hR hlo h1 h2 h3 h4 kr hXX
  refine va_sld (A := fun q => E.2.2.2.size ≤ q) C.1 C.2.1 hXX.1 hXX.2 (by have := hXX.2; omega) ⟨hR.2.2.2, fun q hq _ => hR.2.2.1 q hq, hlo⟩ (vp_in_nI hj hN) hd ?_
  rw [nI_clamp (by omega)]
  exact kk p e R s m args below meth c H locs cells slots KC KS Z ls C hL hR hlo h1 h2 h3 h4 kr hXX
end WX
