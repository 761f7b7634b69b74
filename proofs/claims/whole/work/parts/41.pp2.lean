/-! PAIRPACKER: the past, the images -/
def pushD (ds : List Pk) (q : Pk) : List Pk := (ds ++ [q]).drop (ds.length + 1 - 10)
theorem pushD_len {ds : List Pk} {q : Pk} (h : ds.length ≤ 10) : (pushD ds q).length = min (ds.length + 1) 10 := by
  rw [pushD, List.length_drop, List.length_append, List.length_singleton]; omega
theorem deedsAt.len {E : EnvT} {h : Hp} {Q : Nat} {ds : List Pk} (x : deedsAt E h Q ds) : ds.length ≤ 10 := by
  obtain ⟨nx, ks, a, b⟩ := x
  exact a.2.2.2.2
section PP2
variable {E : EnvT} {h : Hp} {X rd : Nat} {q qc : Pk} {ds : List Pk} {im : Nat → Pk} {md : Nat → Nat} {tp ph : List Nat} {fk fp : Int32}
theorem PPC.kept {h' : Hp} {nx : Nat} {ks : Nat → Pk} (x : PPC E h X rd q qc ds im md tp ph fk fp) (hQ : PastAt E h (X + 127) nx ds.length ks) (hk : ∀ j y, ds[j]? = some y → ks ((nx + 10 - ds.length + j) % 10) = y) (hQ2 : PastAt E h' (X + 127) ((nx + 1) % 10) (min (ds.length + 1) 10) (fun i => if i = nx then (q.1, q.2) else ks i)) (o2 : Out h h' (X + 127) (X + 127 + 1262)) : PPC E h' X rd q qc (pushD ds q) im md tp ph fk fp := by
  have hlen := hQ.2.2.2.2
  have hnx := hQ.2.2.2.1
  refine x.setDs ⟨_, _, by rw [pushD_len hlen]; exact hQ2, fun j y hy => ?_⟩ (o2.mono (by omega) (by omega))
  have hj : j < (pushD ds q).length := (List.getElem?_eq_some_iff.mp hy).1
  rw [pushD_len hlen] at hj ⊢
  rw [pushD, List.getElem?_drop] at hy
  by_cases hlast : ds.length + 1 - 10 + j < ds.length
  · rw [List.getElem?_append_left hlast] at hy
    have := hk _ _ hy
    have e : (nx + 10 - ds.length + (ds.length + 1 - 10 + j)) % 10 = ((nx + 1) % 10 + 10 - min (ds.length + 1) 10 + j) % 10 := by omega
    rw [e] at this
    simp only [show ¬ ((nx + 1) % 10 + 10 - min (ds.length + 1) 10 + j) % 10 = nx from by omega, if_false]
    exact this
  · have ej : ds.length + 1 - 10 + j = ds.length := by omega
    rw [ej, List.getElem?_append_right (Nat.le_refl _), Nat.sub_self] at hy
    simp at hy
    subst hy
    simp only [show ((nx + 1) % 10 + 10 - min (ds.length + 1) 10 + j) % 10 = nx from by omega, if_true]
theorem PPC.pop {h' : Hp} {nx n : Nat} {ks : Nat → Pk} {p : Pk} (x : PPC E h X rd q qc ds im md tp ph fk fp) (hn : 1 ≤ n) (hnl : n ≤ ds.length) (hp : ds[ds.length - n]? = some p) (hnx : nx < 10) (hk : ∀ j y, ds[j]? = some y → ks ((nx + 10 - ds.length + j) % 10) = y) (hl10 : ds.length ≤ 10) (hQ2 : PastAt E h' (X + 127) ((nx + 10 - n) % 10) (ds.length - n) ks) (hP2 : PackAt E h' (X + 1) (ks ((nx + 10 - n) % 10)).1 (ks ((nx + 10 - n) % 10)).2) (o2 : Out2 h h' (X + 127) (X + 127 + 1) (X + 1) (X + 1 + 126)) : PPC E h' X rd p qc (ds.take (ds.length - n)) im md tp ph fk fp := by
  have hkp := hk _ _ hp
  rw [show (nx + 10 - ds.length + (ds.length - n)) % 10 = (nx + 10 - n) % 10 from by omega] at hkp
  rw [hkp] at hP2
  have hlt : (ds.take (ds.length - n)).length = ds.length - n := by rw [List.length_take]; omega
  obtain ⟨a1, a2, a3, a4, a5, a6, a7, a8⟩ := x
  refine ⟨(o2.2 _ (by omega) (by omega)).trans a1, hP2, ⟨_, _, by rw [hlt]; exact hQ2, fun j y hy => ?_⟩, a4.ag (o2.ag (by omega) (by omega)) (o2.ag (by omega) (by omega)), a5.ag (o2.ag (by omega) (by omega)), a6.ag (o2.ag (by omega) (by omega)), a7.ag (o2.ag (by omega) (by omega)), a8.ag (o2.ag (by omega) (by omega)) (o2.ag (by omega) (by omega))⟩
  have hj := (List.getElem?_eq_some_iff.mp hy).1
  rw [hlt] at hj ⊢
  rw [List.getElem?_take_of_lt hj] at hy
  have := hk _ _ hy
  rw [show (nx + 10 - ds.length + j) % 10 = ((nx + 10 - n) % 10 + 10 - (ds.length - n) + j) % 10 from by omega] at this
  exact this
theorem PP_undo (x : PPAt E h X rd q ds im md tp ph fk fp) {n : Nat} (hn : 1 ≤ n) (hnl : n ≤ ds.length) {p : Pk} (hp : ds[ds.length - n]? = some p) : Spec E k_X9_undo 5 0 0 [.ref X, .int (nI n)] h (fun v h' => v = some (.int (nI (ds.length - n))) ∧ PPAt E h' X 0 p (ds.take (ds.length - n)) im md tp ph fk fp ∧ Out h h' X (X + 1830)) := by
  obtain ⟨nx, ks, hQ, hk⟩ := id x.2.2.1
  have hlen := hQ.2.2.2.2
  refine Spec.of (by decide +kernel) (by simp [Value.category]) (Nat.le_of_ble_eq_true rfl) ?_
  show WP E k_X9_undo 5 0 0 0 [some (.ref X), some (.int (nI n))] [] h _
  refine R_iload_n dX9_undo_0 rfl ?_
  refine R_iconst (v := nI 1) dX9_undo_1 (by decide) ?_
  refine R_icmp_lt_N (tgt := 16) dX9_undo_2 (by decide) (by omega) (by omega) (fun c2 => ?_) (fun c2 => ?_)
  -- X9_undo: ('branch', 2, 16, 5)
  · exact absurd c2 (by omega)
  · refine R_iload_n dX9_undo_5 rfl ?_
    refine R_aload_n dX9_undo_6 rfl ?_
    refine R_get K_9 (f := 1) (by decide) dX9_undo_7 f_RX9_19 x.1 rfl ?_
    -- X9_undo: ('call', 10, '.invokevirtual', 339)
    refine R_callV v_X4_size (Past_size hQ) dX9_undo_10 l_RX9_339 rfl rfl hQ.1 (Nat.le_of_ble_eq_true rfl) (by omega) rfl rfl (fun v h2 hq => ?_)
    obtain ⟨rfl, e9⟩ := hq
    rw [e9]
    refine R_icmp_le_N (tgt := 19) dX9_undo_13 (by decide) (by omega) (by omega) (fun c13 => ?_) (fun c13 => ?_)
    -- X9_undo: ('branch', 13, 19, 16)
    · refine R_aload_n dX9_undo_19 rfl ?_
      refine R_get K_9 (f := 1) (by decide) dX9_undo_20 f_RX9_19 x.1 rfl ?_
      refine R_iload_n dX9_undo_23 rfl ?_
      refine R_aload_n dX9_undo_24 rfl ?_
      refine R_get K_9 (f := 0) (by decide) dX9_undo_25 f_RX9_12 x.1 rfl ?_
      -- X9_undo: ('call', 28, '.invokevirtual', 340)
      refine R_callV v_X4_goBack (Past_goBack hQ x.2.1 (by omega) hnl) dX9_undo_28 l_RX9_340 rfl rfl hQ.1 (Nat.le_of_ble_eq_true rfl) (by omega) rfl rfl (fun v h3 hq => ?_)
      obtain ⟨rfl, hQ3, hP3, o3⟩ := hq
      have x3 := PPC.pop (PPC.of x) hn hnl hp hQ.2.2.2.1 hk hlen hQ3 hP3 o3
      refine R_aload_n dX9_undo_31 rfl ?_
      refine R_iconst (v := nI 0) dX9_undo_32 (by decide) ?_
      refine R_put_A K_9 (f := 11) (by decide) dX9_undo_33 f_RX9_71 rfl x3.1 (by rfl) (by rfl) (Nat.le_of_ble_eq_true rfl) ?_
      -- X9_undo: ('put', 36)
      intro h4 u4
      have x4 : PPC E h4 X 0 p p (ds.take (ds.length - n)) im md tp ph fk fp := x3.setObj (rd2 := 0) u4 x3.2.2.2.2.2.2.1.low
      obtain ⟨nx4, ks4, hQ4, -⟩ := id x4.2.2.1
      refine R_aload_n dX9_undo_36 rfl ?_
      refine R_get K_9 (f := 1) (by decide) dX9_undo_37 f_RX9_19 x4.1 rfl ?_
      -- X9_undo: ('call', 40, '.invokevirtual', 339)
      refine R_callV v_X4_size (Past_size hQ4) dX9_undo_40 l_RX9_339 rfl rfl hQ4.1 (Nat.le_of_ble_eq_true rfl) (by omega) rfl rfl (fun v h5 hq => ?_)
      obtain ⟨rfl, e9⟩ := hq
      rw [e9]
      refine R_ireturn dX9_undo_43 rfl rfl ?_
      -- X9_undo: ('ret', 43)
      have o3' : Out h h3 X (X + 1830) := ⟨o3.1, fun z hz => o3.2 z (by omega) (by omega)⟩
      exact ⟨by rw [List.length_take, Nat.min_eq_left (by omega)], x4, o3'.trans (Out.upd u4 (by omega) (by omega))⟩
    · exact absurd c13 (by omega)
theorem PP_undo_no (x : PPAt E h X rd q ds im md tp ph fk fp) {n : Int32} (hn : n < nI 1 ∨ nI ds.length < n) : Spec E k_X9_undo 5 0 0 [.ref X, .int n] h (fun v h' => v = some (.int (-3)) ∧ h' = h) := by
  obtain ⟨nx, ks, hQ, hk⟩ := id x.2.2.1
  refine Spec.of (by decide +kernel) (by simp [Value.category]) (Nat.le_of_ble_eq_true rfl) ?_
  show WP E k_X9_undo 5 0 0 0 [some (.ref X), some (.int n)] [] h _
  refine R_iload_n dX9_undo_0 rfl ?_
  refine R_iconst (v := nI 1) dX9_undo_1 (by decide) ?_
  refine R_icmp_lt (tgt := 16) dX9_undo_2 (by decide) (fun c2 => ?_) (fun c2 => ?_)
  -- X9_undo: ('branch', 2, 16, 5)
  · refine R_bipush (v := (-3)) dX9_undo_16 (by decide) ?_
    refine R_ireturn dX9_undo_18 rfl rfl ?_
    -- X9_undo: ('ret', 18)
    exact ⟨rfl, rfl⟩
  · refine R_iload_n dX9_undo_5 rfl ?_
    refine R_aload_n dX9_undo_6 rfl ?_
    refine R_get K_9 (f := 1) (by decide) dX9_undo_7 f_RX9_19 x.1 rfl ?_
    -- X9_undo: ('call', 10, '.invokevirtual', 339)
    refine R_callV v_X4_size (Past_size hQ) dX9_undo_10 l_RX9_339 rfl rfl hQ.1 (Nat.le_of_ble_eq_true rfl) (by omega) rfl rfl (fun v h2 hq => ?_)
    obtain ⟨rfl, e9⟩ := hq
    rw [e9]
    refine R_icmp_le (tgt := 19) dX9_undo_13 (by decide) (fun c13 => ?_) (fun c13 => ?_)
    -- X9_undo: ('branch', 13, 19, 16)
    · rcases hn with z | z
      · exact absurd z c2
      · exact absurd c13 (Int32.not_le.mpr z)
    · refine R_bipush (v := (-3)) dX9_undo_16 (by decide) ?_
      refine R_ireturn dX9_undo_18 rfl rfl ?_
      -- X9_undo: ('ret', 18)
      exact ⟨rfl, rfl⟩
theorem PP_image (x : PPAt E h X rd q ds im md tp ph fk fp) {i : Nat} (hi : i < 2) : Spec E k_X9_image 4 0 0 [.ref X, .int (nI i)] h (fun v h' => v = some (.int (nI 0)) ∧ PPAt E h' X rd q ds (fun j => if j = i then q else im j) (fun j => if j = i then 1 else md j) tp ph fk fp ∧ Out h h' X (X + 1830)) := by
  obtain ⟨⟨g, ha, hg⟩, ⟨f, hb, hf⟩, hp⟩ := id x.2.2.2.1
  refine Spec.of (by decide +kernel) (by simp [Value.category]) (Nat.le_of_ble_eq_true rfl) ?_
  show WP E k_X9_image 4 0 0 0 [some (.ref X), some (.int (nI i))] [] h _
  refine R_iload_n dX9_image_0 rfl ?_
  refine R_if_lt_N (tgt := 9) dX9_image_1 (by decide) (by omega) ?_
  refine R_iload_n dX9_image_4 rfl ?_
  refine R_iconst (v := nI 2) dX9_image_5 (by decide) ?_
  refine R_icmp_lt_N (tgt := 12) dX9_image_6 (by decide) (by omega) (by omega) (fun c6 => ?_) (fun c6 => ?_)
  -- X9_image: ('branch', 6, 12, 9)
  · refine R_aload_n dX9_image_12 rfl ?_
    refine R_get K_9 (f := 2) (by decide) dX9_image_13 f_RX9_23 x.1 rfl ?_
    refine R_iload_n dX9_image_16 rfl ?_
    refine R_aaloadPacking_N dX9_image_17 ha (by omega) (by omega) (hg i hi) ?_
    refine R_aload_n dX9_image_18 rfl ?_
    refine R_get K_9 (f := 0) (by decide) dX9_image_19 f_RX9_12 x.1 rfl ?_
    -- X9_image: ('call', 22, '.invokevirtual', 162)
    refine R_callV v_X2_take (Pack_take (hp i hi).1 x.2.1 (by omega)) dX9_image_22 l_RX9_162 rfl rfl (hp i hi).1.1 (Nat.le_of_ble_eq_true rfl) (by omega) rfl rfl (fun v h2 hq => ?_)
    obtain ⟨rfl, hP2, o2⟩ := hq
    have k1 := (o2.2 X (by omega)).trans x.1
    have kb := (o2.2 (X + 1390) (by omega)).trans hb
    refine R_aload_n dX9_image_25 rfl ?_
    refine R_get K_9 (f := 3) (by decide) dX9_image_26 f_RX9_27 k1 rfl ?_
    refine R_iload_n dX9_image_29 rfl ?_
    refine R_iconst (v := nI 1) dX9_image_30 (by decide) ?_
    refine R_zastore_N dX9_image_31 kb (by omega) (by omega) (by omega) ?_
    -- X9_image: ('put', 32)
    intro h3 u3
    refine R_iconst (v := nI 0) dX9_image_32 (by decide) ?_
    refine R_ireturn dX9_image_33 rfl rfl ?_
    -- X9_image: ('ret', 33)
    have o3 : Out2 h h3 (X + 1389) (X + 1391) (X + 1578) (X + 1830) := (o2.two (by omega)).trans ((Out.upd u3 (a := X + 1389) (b := X + 1391) (by omega) (by omega)).two (by omega))
    refine ⟨rfl, PPC.setIm (PPC.of x) ⟨⟨g, (u3.2.2 _ (by omega)).trans ((o2.2 _ (by omega)).trans ha), hg⟩, ⟨_, u3.2.1, fun j hj => ?_⟩, fun j hj => ?_⟩ o3, ⟨o3.1, fun z hz => o3.2 z (by omega) (by omega)⟩⟩
    · by_cases e : j = i
      · simp only [upd, if_pos e]
      · simp only [upd, if_neg e]; exact hf j hj
    · by_cases e : j = i
      · subst e
        simp only [if_true]
        exact ⟨hP2.ag (u3.ag (by omega)), Nat.one_lt_two⟩
      · simp only [if_neg e]
        exact ⟨((hp j hj).1.ag (o2.ag (by omega))).ag (u3.ag (by omega)), (hp j hj).2⟩
  · exact absurd c6 (by omega)
theorem PP_restore (x : PPAt E h X rd q ds im md tp ph fk fp) {i : Nat} (hi : i < 2) (hm : md i = 1) : Spec E k_X9_restore 4 0 0 [.ref X, .int (nI i)] h (fun v h' => v = some (.int (nI 0)) ∧ PPAt E h' X 0 (im i) [] im md tp ph fk fp ∧ Out h h' X (X + 1830)) := by
  obtain ⟨⟨g, ha, hg⟩, ⟨f, hb, hf⟩, hp⟩ := id x.2.2.2.1
  refine Spec.of (by decide +kernel) (by simp [Value.category]) (Nat.le_of_ble_eq_true rfl) ?_
  show WP E k_X9_restore 4 0 0 0 [some (.ref X), some (.int (nI i))] [] h _
  refine R_iload_n dX9_restore_0 rfl ?_
  refine R_if_lt_N (tgt := 9) dX9_restore_1 (by decide) (by omega) ?_
  refine R_iload_n dX9_restore_4 rfl ?_
  refine R_iconst (v := nI 2) dX9_restore_5 (by decide) ?_
  refine R_icmp_lt_N (tgt := 12) dX9_restore_6 (by decide) (by omega) (by omega) (fun c6 => ?_) (fun c6 => ?_)
  -- X9_restore: ('branch', 6, 12, 9)
  · refine R_aload_n dX9_restore_12 rfl ?_
    refine R_get K_9 (f := 3) (by decide) dX9_restore_13 f_RX9_27 x.1 rfl ?_
    refine R_iload_n dX9_restore_16 rfl ?_
    refine R_zaload_N dX9_restore_17 hb (by omega) (by omega) (by rw [hf i hi, hm]) ?_
    refine R_if_ne_N (tgt := 24) dX9_restore_18 (by decide) (by omega) (fun c18 => ?_) (fun c18 => ?_)
    -- X9_restore: ('branch', 18, 24, 21)
    · refine R_aload_n dX9_restore_24 rfl ?_
      refine R_get K_9 (f := 0) (by decide) dX9_restore_25 f_RX9_12 x.1 rfl ?_
      refine R_aload_n dX9_restore_28 rfl ?_
      refine R_get K_9 (f := 2) (by decide) dX9_restore_29 f_RX9_23 x.1 rfl ?_
      refine R_iload_n dX9_restore_32 rfl ?_
      refine R_aaloadPacking_N dX9_restore_33 ha (by omega) (by omega) (hg i hi) ?_
      -- X9_restore: ('call', 34, '.invokevirtual', 162)
      refine R_callV v_X2_take (Pack_take x.2.1 (hp i hi).1 (by omega)) dX9_restore_34 l_RX9_162 rfl rfl x.2.1.1 (Nat.le_of_ble_eq_true rfl) (by omega) rfl rfl (fun v h2 hq => ?_)
      obtain ⟨rfl, hP2, o2⟩ := hq
      have x2 := (PPC.of x).setPk (q2 := im i) hP2 (o2.mono (by omega) (by omega))
      obtain ⟨nx, ks, hQ, hk⟩ := id x2.2.2.1
      refine R_aload_n dX9_restore_37 rfl ?_
      refine R_get K_9 (f := 1) (by decide) dX9_restore_38 f_RX9_19 x2.1 rfl ?_
      -- X9_restore: ('call', 41, '.invokevirtual', 344)
      refine R_callV v_X4_forget (Past_forget hQ) dX9_restore_41 l_RX9_344 rfl rfl hQ.1 (Nat.le_of_ble_eq_true rfl) (by omega) rfl rfl (fun v h3 hq => ?_)
      obtain ⟨rfl, hQ3, o3⟩ := hq
      have x3 := x2.setDs (ds2 := []) ⟨nx, ks, hQ3, fun j y hy => by simp at hy⟩ (o3.mono (by omega) (by omega))
      refine R_aload_n dX9_restore_44 rfl ?_
      refine R_iconst (v := nI 0) dX9_restore_45 (by decide) ?_
      refine R_put_A K_9 (f := 11) (by decide) dX9_restore_46 f_RX9_71 rfl x3.1 (by rfl) (by rfl) (Nat.le_of_ble_eq_true rfl) ?_
      -- X9_restore: ('put', 49)
      intro h4 u4
      refine R_iconst (v := nI 0) dX9_restore_49 (by decide) ?_
      refine R_ireturn dX9_restore_50 rfl rfl ?_
      -- X9_restore: ('ret', 50)
      exact ⟨rfl, x3.setObj (rd2 := 0) (q2 := im i) u4 x3.2.2.2.2.2.2.1.low, ((o2.mono (by omega) (by omega)).trans (o3.mono (by omega) (by omega))).trans (Out.upd u4 (by omega) (by omega))⟩
    · exact absurd c18 (by decide)
  · exact absurd c6 (by omega)
theorem PP_restore_no (x : PPAt E h X rd q ds im md tp ph fk fp) {i : Nat} (hi : i < 2) (hm : md i = 0) : Spec E k_X9_restore 4 0 0 [.ref X, .int (nI i)] h (fun v h' => v = some (.int (-6)) ∧ h' = h) := by
  obtain ⟨⟨g, ha, hg⟩, ⟨f, hb, hf⟩, hp⟩ := id x.2.2.2.1
  refine Spec.of (by decide +kernel) (by simp [Value.category]) (Nat.le_of_ble_eq_true rfl) ?_
  show WP E k_X9_restore 4 0 0 0 [some (.ref X), some (.int (nI i))] [] h _
  refine R_iload_n dX9_restore_0 rfl ?_
  refine R_if_lt_N (tgt := 9) dX9_restore_1 (by decide) (by omega) ?_
  refine R_iload_n dX9_restore_4 rfl ?_
  refine R_iconst (v := nI 2) dX9_restore_5 (by decide) ?_
  refine R_icmp_lt_N (tgt := 12) dX9_restore_6 (by decide) (by omega) (by omega) (fun c6 => ?_) (fun c6 => ?_)
  -- X9_restore: ('branch', 6, 12, 9)
  · refine R_aload_n dX9_restore_12 rfl ?_
    refine R_get K_9 (f := 3) (by decide) dX9_restore_13 f_RX9_27 x.1 rfl ?_
    refine R_iload_n dX9_restore_16 rfl ?_
    refine R_zaload_N dX9_restore_17 hb (by omega) (by omega) (by rw [hf i hi, hm]) ?_
    refine R_if_ne_N (tgt := 24) dX9_restore_18 (by decide) (by omega) (fun c18 => ?_) (fun c18 => ?_)
    -- X9_restore: ('branch', 18, 24, 21)
    · exact absurd rfl c18
    · refine R_bipush (v := (-6)) dX9_restore_21 (by decide) ?_
      refine R_ireturn dX9_restore_23 rfl rfl ?_
      -- X9_restore: ('ret', 23)
      exact ⟨rfl, rfl⟩
  · exact absurd c6 (by omega)
end PP2
