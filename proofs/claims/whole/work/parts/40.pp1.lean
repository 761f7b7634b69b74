/-! PAIRPACKER: its reading kept fresh -/
/-- what a packing keeps -/
def PkOk (q : Pk) : Prop := WOk q.2 ∧ (∀ x ∈ q.1, isSg q.2 x) ∧ lsum (wlen q.2) q.1 ≤ 240 ∧ ∀ i, i < 60 → q.2 i = [] ∨ 2 ≤ (q.2 i).length
/-- as PPAt, but the reading kept may be of another packing -/
def PPC (E : EnvT) (h : Hp) (X rd : Nat) (q qc : Pk) (ds : List Pk) (im : Nat → Pk) (md : Nat → Nat) (tp ph : List Nat) (fk fp : Int32) : Prop := h.2 X = some (objV X rd fk fp) ∧ PackAt E h (X + 1) q.1 q.2 ∧ deedsAt E h (X + 127) ds ∧ imgAt E h X im md ∧ RowAt E h (X + 1391) 260 tp ∧ RowAt E h (X + 1393) 20 ph ∧ cachAt E h X rd qc ∧ scrAt E h X
section PPC
variable {E : EnvT} {h h1 : Hp} {X rd : Nat} {q qc : Pk} {ds : List Pk} {im : Nat → Pk} {md : Nat → Nat} {tp ph : List Nat} {fk fp : Int32}
theorem PPC.of (x : PPAt E h X rd q ds im md tp ph fk fp) : PPC E h X rd q q ds im md tp ph fk fp := x
theorem PPC.to (x : PPC E h X rd q q ds im md tp ph fk fp) : PPAt E h X rd q ds im md tp ph fk fp := x
theorem PPC.setObj {rd2 : Nat} {q2 : Pk} {fk2 fp2 : Int32} (x : PPC E h X rd q qc ds im md tp ph fk fp) (u : Upd h h1 X (objV X rd2 fk2 fp2)) (c : cachAt E h X rd2 q2) : PPC E h1 X rd2 q q2 ds im md tp ph fk2 fp2 := by
  obtain ⟨a1, a2, a3, a4, a5, a6, a7, a8⟩ := x
  exact ⟨u.2.1, a2.ag (u.ag (by omega)), a3.ag (u.ag (by omega)), a4.ag (u.ag (by omega)) (u.ag (by omega)), a5.ag (u.ag (by omega)), a6.ag (u.ag (by omega)), c.ag (u.ag (by omega)), a8.ag (u.ag (by omega)) (u.ag (by omega))⟩
theorem PPC.setPk {q2 : Pk} (x : PPC E h X rd q qc ds im md tp ph fk fp) (hp : PackAt E h1 (X + 1) q2.1 q2.2) (o : Out h h1 (X + 1) (X + 127)) : PPC E h1 X rd q2 qc ds im md tp ph fk fp := by
  obtain ⟨a1, a2, a3, a4, a5, a6, a7, a8⟩ := x
  exact ⟨(o.2 _ (by omega)).trans a1, hp, a3.ag (o.ag (by omega)), a4.ag (o.ag (by omega)) (o.ag (by omega)), a5.ag (o.ag (by omega)), a6.ag (o.ag (by omega)), a7.ag (o.ag (by omega)), a8.ag (o.ag (by omega)) (o.ag (by omega))⟩
theorem PPC.setDs {ds2 : List Pk} (x : PPC E h X rd q qc ds im md tp ph fk fp) (hp : deedsAt E h1 (X + 127) ds2) (o : Out h h1 (X + 127) (X + 1389)) : PPC E h1 X rd q qc ds2 im md tp ph fk fp := by
  obtain ⟨a1, a2, a3, a4, a5, a6, a7, a8⟩ := x
  exact ⟨(o.2 _ (by omega)).trans a1, a2.ag (o.ag (by omega)), hp, a4.ag (o.ag (by omega)) (o.ag (by omega)), a5.ag (o.ag (by omega)), a6.ag (o.ag (by omega)), a7.ag (o.ag (by omega)), a8.ag (o.ag (by omega)) (o.ag (by omega))⟩
theorem PPC.setTp {tp2 : List Nat} (x : PPC E h X rd q qc ds im md tp ph fk fp) (hp : RowAt E h1 (X + 1391) 260 tp2) (o : Out h h1 (X + 1391) (X + 1393)) : PPC E h1 X rd q qc ds im md tp2 ph fk fp := by
  obtain ⟨a1, a2, a3, a4, a5, a6, a7, a8⟩ := x
  exact ⟨(o.2 _ (by omega)).trans a1, a2.ag (o.ag (by omega)), a3.ag (o.ag (by omega)), a4.ag (o.ag (by omega)) (o.ag (by omega)), hp, a6.ag (o.ag (by omega)), a7.ag (o.ag (by omega)), a8.ag (o.ag (by omega)) (o.ag (by omega))⟩
theorem PPC.setPh {ph2 : List Nat} (x : PPC E h X rd q qc ds im md tp ph fk fp) (hp : RowAt E h1 (X + 1393) 20 ph2) (o : Out h h1 (X + 1393) (X + 1395)) : PPC E h1 X rd q qc ds im md tp ph2 fk fp := by
  obtain ⟨a1, a2, a3, a4, a5, a6, a7, a8⟩ := x
  exact ⟨(o.2 _ (by omega)).trans a1, a2.ag (o.ag (by omega)), a3.ag (o.ag (by omega)), a4.ag (o.ag (by omega)) (o.ag (by omega)), a5.ag (o.ag (by omega)), hp, a7.ag (o.ag (by omega)), a8.ag (o.ag (by omega)) (o.ag (by omega))⟩
theorem PPC.setCa {qc2 : Pk} (x : PPC E h X rd q qc ds im md tp ph fk fp) (hp : cachAt E h1 X rd qc2) (o : Out h h1 (X + 1525) (X + 1540)) : PPC E h1 X rd q qc2 ds im md tp ph fk fp := by
  obtain ⟨a1, a2, a3, a4, a5, a6, a7, a8⟩ := x
  exact ⟨(o.2 _ (by omega)).trans a1, a2.ag (o.ag (by omega)), a3.ag (o.ag (by omega)), a4.ag (o.ag (by omega)) (o.ag (by omega)), a5.ag (o.ag (by omega)), a6.ag (o.ag (by omega)), hp, a8.ag (o.ag (by omega)) (o.ag (by omega))⟩
theorem PPC.setIm {im2 : Nat → Pk} {md2 : Nat → Nat} (x : PPC E h X rd q qc ds im md tp ph fk fp) (hp : imgAt E h1 X im2 md2) (o : Out2 h h1 (X + 1389) (X + 1391) (X + 1578) (X + 1830)) : PPC E h1 X rd q qc ds im2 md2 tp ph fk fp := by
  obtain ⟨a1, a2, a3, a4, a5, a6, a7, a8⟩ := x
  exact ⟨(o.2 _ (by omega) (by omega)).trans a1, a2.ag (o.ag (by omega) (by omega)), a3.ag (o.ag (by omega) (by omega)), hp, a5.ag (o.ag (by omega) (by omega)), a6.ag (o.ag (by omega) (by omega)), a7.ag (o.ag (by omega) (by omega)), a8.ag (o.ag (by omega) (by omega)) (o.ag (by omega) (by omega))⟩
theorem PPC.setScr (x : PPC E h X rd q qc ds im md tp ph fk fp) (hp : scrAt E h1 X) (o : Out2 h h1 (X + 1395) (X + 1525) (X + 1540) (X + 1578)) : PPC E h1 X rd q qc ds im md tp ph fk fp := by
  obtain ⟨a1, a2, a3, a4, a5, a6, a7, a8⟩ := x
  exact ⟨(o.2 _ (by omega) (by omega)).trans a1, a2.ag (o.ag (by omega) (by omega)), a3.ag (o.ag (by omega) (by omega)), a4.ag (o.ag (by omega) (by omega)) (o.ag (by omega) (by omega)), a5.ag (o.ag (by omega) (by omega)), a6.ag (o.ag (by omega) (by omega)), a7.ag (o.ag (by omega) (by omega)), hp⟩
end PPC
section PP1
variable {E : EnvT} {h : Hp} {X rd : Nat} {q : Pk} {ds : List Pk} {im : Nat → Pk} {md : Nat → Nat} {tp ph : List Nat} {fk fp : Int32}
theorem PP_read (x : PPAt E h X rd q ds im md tp ph fk fp) (hq : PkOk q) : Spec E k_X9_read 5 0 0 [.ref X] h (fun v h' => v = none ∧ PPAt E h' X 1 q ds im md tp ph fk fp ∧ Out h h' X (X + 1830)) := by
  obtain ⟨hW, hsg, hl, -⟩ := hq
  refine Spec.of (by decide +kernel) (by simp [Value.category]) (Nat.le_of_ble_eq_true rfl) ?_
  show WP E k_X9_read 5 0 0 0 [some (.ref X)] [] h _
  obtain ⟨a1, a2, a3, a4, a5, a6, a7, a8⟩ := id x
  have hrd : rd < 2 := by rcases a7 with ⟨z, -⟩ | ⟨z, -⟩ <;> omega
  refine R_aload_n dX9_read_0 rfl ?_
  refine R_get K_9 (f := 11) (by decide) dX9_read_1 f_RX9_71 a1 rfl ?_
  refine R_if_eq_N (tgt := 8) dX9_read_4 (by decide) (by omega) (fun c4 => ?_) (fun c4 => ?_)
  -- X9_read: ('branch', 4, 8, 7)
  · obtain rfl : rd = 0 := c4
    obtain ⟨w, r⟩ : WordsAny E h (X + 1525) ∧ ReadAny E h (X + 1530) := by
      rcases a7 with ⟨-, w, r⟩ | ⟨z, -⟩
      · exact ⟨w, r⟩
      · exact absurd z (by decide)
    obtain ⟨b1, b2, b3, b4, b5, b6, r⟩ := r
    refine R_aload_n dX9_read_8 rfl ?_
    refine R_get K_9 (f := 9) (by decide) dX9_read_9 f_RX9_60 a1 rfl ?_
    refine R_aload_n dX9_read_12 rfl ?_
    refine R_get K_9 (f := 0) (by decide) dX9_read_13 f_RX9_12 a1 rfl ?_
    -- X9_read: ('call', 16, '.invokevirtual', 362)
    refine R_callV v_X8_learn (Words_learn hW w a2 (by omega)) dX9_read_16 l_RX9_362 rfl rfl w.choose_spec.choose_spec.choose_spec.choose_spec.choose_spec.1 (Nat.le_of_ble_eq_true rfl) (by omega) rfl rfl (fun v h2 hq => ?_)
    obtain ⟨rfl, ⟨re, le, w2⟩, o2⟩ := hq
    have k1 := (o2.2 X (by omega)).trans a1
    have k2 := a2.ag (o2.ag (by omega))
    have r2 := r.ag (o2.ag (by omega))
    refine R_aload_n dX9_read_19 rfl ?_
    refine R_get K_9 (f := 10) (by decide) dX9_read_20 f_RX9_67 k1 rfl ?_
    refine R_aload_n dX9_read_23 rfl ?_
    refine R_get K_9 (f := 0) (by decide) dX9_read_24 f_RX9_12 k1 rfl ?_
    -- X9_read: ('call', 27, '.invokevirtual', 135)
    refine R_callV v_X2_sequence (Pack_sequence k2) dX9_read_27 l_RX9_135 rfl rfl k2.1 (Nat.le_of_ble_eq_true rfl) (by omega) rfl rfl (fun v h3 hq => ?_)
    obtain ⟨rfl, e9⟩ := hq
    rw [e9]
    refine R_aload_n dX9_read_30 rfl ?_
    refine R_get K_9 (f := 0) (by decide) dX9_read_31 f_RX9_12 k1 rfl ?_
    refine R_aload_n dX9_read_34 rfl ?_
    refine R_get K_9 (f := 9) (by decide) dX9_read_35 f_RX9_60 k1 rfl ?_
    -- X9_read: ('call', 38, '.invokevirtual', 365)
    refine R_callV v_X5_readRow (Read_readRow hW r2 w2 k2 k2.2.1 hsg hl (by omega) (by omega) (by omega) (by omega) (by omega)) dX9_read_38 l_RX9_365 rfl rfl r2.1 (Nat.le_of_ble_eq_true rfl) (by omega) rfl rfl (fun v h4 hq => ?_)
    obtain ⟨rfl, r4, ⟨re4, le4, w4⟩, o4⟩ := hq
    have o24 : Out h h4 (X + 1525) (X + 1540) := (o2.mono (by omega) (by omega)).trans ⟨o4.1, fun z hz => o4.2 z (by omega) (by omega)⟩
    have x4 : PPC E h4 X 0 q q ds im md tp ph fk fp := PPC.setCa (PPC.of x) (Or.inl ⟨rfl, w4.any, _, _, _, _, _, _, r4⟩) o24
    refine R_aload_n dX9_read_41 rfl ?_
    refine R_iconst (v := nI 1) dX9_read_42 (by decide) ?_
    refine R_put_A K_9 (f := 11) (by decide) dX9_read_43 f_RX9_71 rfl x4.1 (by rfl) (by rfl) (Nat.le_of_ble_eq_true rfl) ?_
    -- X9_read: ('put', 46)
    intro h5 u5
    refine R_return dX9_read_46 rfl ?_
    -- X9_read: ('ret', 46)
    exact ⟨rfl, PPC.setObj (rd2 := 1) (q2 := q) x4 u5 (Or.inr ⟨rfl, ⟨_, _, w4⟩, _, _, r4⟩), (o24.mono (by omega) (by omega)).trans (Out.upd u5 (by omega) (by omega))⟩
  · obtain rfl : rd = 1 := by omega
    refine R_return dX9_read_7 rfl ?_
    -- X9_read: ('ret', 7)
    exact ⟨rfl, x, Out.refl⟩
/-- the words and the reading at hand once it is read -/
theorem PPAt.cach (x : PPAt E h X 1 q ds im md tp ph fk fp) : (∃ re le, WordsT E h (X + 1525) q.2 (ordS q.2) re le) ∧ ∃ lo la, ReadAt E h (X + 1530) (letL q.2 q.1) (homL q.2 0 q.1) (begL q.2 0 q.1) (dpL q.2 q.1) lo la := by
  rcases x.2.2.2.2.2.2.1 with ⟨z, -⟩ | ⟨-, z⟩
  · exact absurd z (by decide)
  · exact z
theorem PP_letterCount (x : PPAt E h X rd q ds im md tp ph fk fp) (hq : PkOk q) : Spec E k_X9_letterCount 6 0 0 [.ref X] h (fun v h' => v = some (.int (nI (letL q.2 q.1).length)) ∧ PPAt E h' X 1 q ds im md tp ph fk fp ∧ Out h h' X (X + 1830)) := by
  refine Spec.of (by decide +kernel) (by simp [Value.category]) (Nat.le_of_ble_eq_true rfl) ?_
  show WP E k_X9_letterCount 6 0 0 0 [some (.ref X)] [] h _
  refine R_aload_n dX9_letterCount_0 rfl ?_
  -- X9_letterCount: ('call', 1, '.invokevirtual', 144)
  refine R_callV v_X9_read (PP_read x hq) dX9_letterCount_1 l_RX9_144 rfl rfl x.1 (Nat.le_of_ble_eq_true rfl) (by omega) rfl rfl (fun v h2 hq => ?_)
  obtain ⟨rfl, x2, o2⟩ := hq
  obtain ⟨-, lo, la, r⟩ := x2.cach
  refine R_aload_n dX9_letterCount_4 rfl ?_
  refine R_get K_9 (f := 10) (by decide) dX9_letterCount_5 f_RX9_67 x2.1 rfl ?_
  -- X9_letterCount: ('call', 8, '.invokevirtual', 207)
  refine R_callV v_X5_size (Read_size r) dX9_letterCount_8 l_RX9_207 rfl rfl r.1 (Nat.le_of_ble_eq_true rfl) (by omega) rfl rfl (fun v h3 hq => ?_)
  obtain ⟨rfl, e9⟩ := hq
  rw [e9]
  refine R_ireturn dX9_letterCount_11 rfl rfl ?_
  -- X9_letterCount: ('ret', 11)
  exact ⟨rfl, x2, o2⟩
theorem PP_fault (x : PPAt E h X rd q ds im md tp ph fk fp) (w : Int32) : Spec E k_X9_fault 1 0 0 [.ref X, .int w] h (fun v h' => v = some (.int (if w = 0 then fk else if w = 1 then fp else -1)) ∧ h' = h) := by
  refine Spec.of (by decide +kernel) (by simp [Value.category]) (Nat.le_of_ble_eq_true rfl) ?_
  show WP E k_X9_fault 1 0 0 0 [some (.ref X), some (.int w)] [] h _
  refine R_iload_n dX9_fault_0 rfl ?_
  refine R_if_ne (tgt := 9) dX9_fault_1 (by decide) (fun c1 => ?_) (fun c1 => ?_)
  -- X9_fault: ('branch', 1, 9, 4)
  · refine R_iload_n dX9_fault_9 rfl ?_
    refine R_iconst (v := nI 1) dX9_fault_10 (by decide) ?_
    refine R_icmp_ne (tgt := 21) dX9_fault_11 (by decide) (fun c11 => ?_) (fun c11 => ?_)
    -- X9_fault: ('branch', 11, 21, 14)
    · refine R_iconst (v := (-1)) dX9_fault_21 (by decide) ?_
      refine R_ireturn dX9_fault_22 rfl rfl ?_
      -- X9_fault: ('ret', 22)
      rw [show nI 1 = 1 from by decide] at c11
      exact ⟨by rw [if_neg c1, if_neg c11], rfl⟩
    · refine R_aload_n dX9_fault_14 rfl ?_
      refine R_get K_9 (f := 8) (by decide) dX9_fault_15 f_RX9_54 x.1 rfl ?_
      refine R_goto (tgt := 22) dX9_fault_18 (by decide) ?_
      refine R_ireturn dX9_fault_22 rfl rfl ?_
      -- X9_fault: ('ret', 22)
      have c12 : w = 1 := by rw [← show nI 1 = 1 from by decide]; simpa using c11
      exact ⟨by rw [if_neg c1, if_pos c12], rfl⟩
  · refine R_aload_n dX9_fault_4 rfl ?_
    refine R_get K_9 (f := 7) (by decide) dX9_fault_5 f_RX9_50 x.1 rfl ?_
    refine R_ireturn dX9_fault_8 rfl rfl ?_
    -- X9_fault: ('ret', 8)
    exact ⟨by rw [if_pos (by simpa using c1)], rfl⟩
theorem PP_sign (x : PPAt E h X rd q ds im md tp ph fk fp) (i : Int32) : Spec E k_X9_sign 2 0 0 [.ref X, .int i] h (fun v h' => v = some (.int (if i < 0 then -3 else rget q.1 i)) ∧ h' = h) := by
  have hP := x.2.1
  refine Spec.of (by decide +kernel) (by simp [Value.category]) (Nat.le_of_ble_eq_true rfl) ?_
  show WP E k_X9_sign 2 0 0 0 [some (.ref X), some (.int i)] [] h _
  refine R_iload_n dX9_sign_0 rfl ?_
  refine R_if_ge (tgt := 9) dX9_sign_1 (by decide) (fun c1 => ?_) (fun c1 => ?_)
  -- X9_sign: ('branch', 1, 9, 4)
  · refine R_aload_n dX9_sign_9 rfl ?_
    refine R_get K_9 (f := 0) (by decide) dX9_sign_10 f_RX9_12 x.1 rfl ?_
    -- X9_sign: ('call', 13, '.invokevirtual', 135)
    refine R_callV v_X2_sequence (Pack_sequence hP) dX9_sign_13 l_RX9_135 rfl rfl hP.1 (Nat.le_of_ble_eq_true rfl) (by omega) rfl rfl (fun v h3 hq => ?_)
    obtain ⟨rfl, e9⟩ := hq
    rw [e9]
    refine R_iload_n dX9_sign_16 rfl ?_
    -- X9_sign: ('call', 17, '.invokevirtual', 237)
    refine R_callV v_X6_get (Row_get hP.2.1 i) dX9_sign_17 l_RX9_237 rfl rfl hP.2.1.2.2.1 (Nat.le_of_ble_eq_true rfl) (by omega) rfl rfl (fun v h4 hq => ?_)
    obtain ⟨rfl, e9⟩ := hq
    refine R_ireturn dX9_sign_20 rfl rfl ?_
    -- X9_sign: ('ret', 20)
    exact ⟨by rw [if_neg (Int32.not_lt.mpr c1)], e9⟩
  · refine R_bipush (v := (-3)) dX9_sign_4 (by decide) ?_
    refine R_goto (tgt := 20) dX9_sign_6 (by decide) ?_
    refine R_ireturn dX9_sign_20 rfl rfl ?_
    -- X9_sign: ('ret', 20)
    exact ⟨by rw [if_pos (Int32.not_le.mp c1)], rfl⟩
end PP1
