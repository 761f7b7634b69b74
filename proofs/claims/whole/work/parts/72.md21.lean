/-! THE MODEL: counts; what was left of PairPacker -/
section MD21
variable {E : EnvT} {h h1 : Hp} {M X rd : Nat} {S : MSt} {q : Pk} {ds : List Pk} {im : Nat → Pk} {md : Nat → Nat} {tp ph : List Nat} {fk fp : Int32}
theorem MP_count (y : MMAt E h M q ds im md tp ph fk fp) (hq : PkOk q) (w : Int32) : Spec E k_X10_count 67 0 0 [.ref M, .int w] h (fun v h' => v = some (.int (countI q ds tp w)) ∧ MMAt E h' M q ds im md tp ph fk fp ∧ Out h h' M (M + 23)) := by
  obtain ⟨S, x, r⟩ := y
  refine Spec.of (by decide +kernel) (by simp [Value.category]) (Nat.le_of_ble_eq_true rfl) ?_
  show WP E k_X10_count 67 0 0 0 [some (.ref M), some (.int w)] [] h _
  refine R_aload_n dX10_count_0 rfl ?_
  refine R_iconst (v := nI 0) dX10_count_1 (by decide) ?_
  refine R_put_A K_10 (f := 0) (by decide) dX10_count_2 f_RX10_1 rfl x.1 (by rfl) (by rfl) (Nat.le_of_ble_eq_true rfl) ?_
  intro h0 u0
  have x0 := x.put u0 (by decide)
  have r0 := r.keep (S2 := (upd S.1 0 (nI 0), S.2)) (Ony.refl.put (by decide))
  have g0 : Out h h0 M (M + 23) := Out.upd u0 (by omega) (by omega)
  generalize (upd S.1 0 (nI 0), S.2) = S0 at x0 r0
  refine R_iload_n dX10_count_5 rfl ?_
  -- X10_count: ('op', 6, '.tableswitch 117 0 10 #[58, 63, 68, 73, 78, 83, 88, 93, 98, 103, 112]')
  have fin : MMAt E h0 M q ds im md tp ph fk fp ∧ Out h h0 M (M + 23) := ⟨⟨S0, x0, r0⟩, g0⟩
  by_cases hw : ¬ w.toInt < 0 ∧ ¬ ((10 : Nat) : Int) < w.toInt
  · obtain ⟨k, hk, rfl⟩ := I32_small hw.1 hw.2
    rcases (show k = 0 ∨ k = 1 ∨ k = 2 ∨ k = 3 ∨ k = 4 ∨ k = 5 ∨ k = 6 ∨ k = 7 ∨ k = 8 ∨ k = 9 ∨ k = 10 by omega) with rfl | rfl | rfl | rfl | rfl | rfl | rfl | rfl | rfl | rfl | rfl
    · refine R_tableIn (off := 58) (tgt := 64) dX10_count_6 (by decide) (by decide) rfl (by decide) ?_
      refine R_aload_n dX10_count_64 rfl ?_
      -- X10_count: ('call', 65, '.invokevirtual', 174)
      refine R_callV v_X10_lettersMany (Md_lettersMany hq x0 r0.1) dX10_count_65 l_RX10_174 rfl rfl x0.1 (Nat.le_of_ble_eq_true rfl) (by omega) rfl rfl (fun v h3 hq => ?_)
      obtain ⟨rfl, g3, S3, x3, o3, w3⟩ := hq
      refine R_ireturn dX10_count_68 rfl rfl ?_
      -- X10_count: ('ret', 68)
      exact ⟨rfl, ⟨S3, x3, r0.keep (o3.mono (by decide) (by decide))⟩, g0.trans g3⟩
    · refine R_tableIn (off := 63) (tgt := 69) dX10_count_6 (by decide) (by decide) rfl (by decide) ?_
      refine R_aload_n dX10_count_69 rfl ?_
      -- X10_count: ('call', 70, '.invokevirtual', 123)
      refine R_callV v_X10_many (Md_many x0 r0.1) dX10_count_70 l_RX10_123 rfl rfl x0.1 (Nat.le_of_ble_eq_true rfl) (by omega) rfl rfl (fun v h3 hq => ?_)
      obtain ⟨rfl, e9⟩ := hq
      rw [e9]
      refine R_ireturn dX10_count_73 rfl rfl ?_
      -- X10_count: ('ret', 73)
      exact ⟨rfl, fin⟩
    · refine R_tableIn (off := 68) (tgt := 74) dX10_count_6 (by decide) (by decide) rfl (by decide) ?_
      refine R_aload_n dX10_count_74 rfl ?_
      -- X10_count: ('call', 75, '.invokevirtual', 180)
      refine R_callV v_X10_rulesMany (Md_rulesMany x0 r0.1) dX10_count_75 l_RX10_180 rfl rfl x0.1 (Nat.le_of_ble_eq_true rfl) (by omega) rfl rfl (fun v h3 hq => ?_)
      obtain ⟨rfl, e9⟩ := hq
      rw [e9]
      refine R_ireturn dX10_count_78 rfl rfl ?_
      -- X10_count: ('ret', 78)
      exact ⟨rfl, fin⟩
    · refine R_tableIn (off := 73) (tgt := 79) dX10_count_6 (by decide) (by decide) rfl (by decide) ?_
      refine R_aload_n dX10_count_79 rfl ?_
      -- X10_count: ('call', 80, '.invokevirtual', 264)
      refine R_callV v_X10_sizeNow (Md_sizeNow x0 r0.1) dX10_count_80 l_RX10_264 rfl rfl x0.1 (Nat.le_of_ble_eq_true rfl) (by omega) rfl rfl (fun v h3 hq => ?_)
      obtain ⟨rfl, e9⟩ := hq
      rw [e9]
      refine R_ireturn dX10_count_83 rfl rfl ?_
      -- X10_count: ('ret', 83)
      exact ⟨rfl, fin⟩
    · refine R_tableIn (off := 78) (tgt := 84) dX10_count_6 (by decide) (by decide) rfl (by decide) ?_
      refine R_aload_n dX10_count_84 rfl ?_
      -- X10_count: ('call', 85, '.invokevirtual', 334)
      refine R_callV v_X10_deepest (Md_deepest hq x0 r0.1) dX10_count_85 l_RX10_334 rfl rfl x0.1 (Nat.le_of_ble_eq_true rfl) (by omega) rfl rfl (fun v h3 hq => ?_)
      obtain ⟨rfl, g3, S3, x3, o3⟩ := hq
      refine R_ireturn dX10_count_88 rfl rfl ?_
      -- X10_count: ('ret', 88)
      exact ⟨rfl, ⟨S3, x3, r0.keep (o3.mono (by decide) (by decide))⟩, g0.trans g3⟩
    · refine R_tableIn (off := 83) (tgt := 89) dX10_count_6 (by decide) (by decide) rfl (by decide) ?_
      refine R_aload_n dX10_count_89 rfl ?_
      refine R_get K_10 (f := 13) (by decide) dX10_count_90 f_RX10_137 x0.1 (fld_get (k := 13) (by decide) r0.2.2.2.1.1) ?_
      refine R_ireturn dX10_count_93 rfl rfl ?_
      -- X10_count: ('ret', 93)
      exact ⟨rfl, fin⟩
    · refine R_tableIn (off := 88) (tgt := 94) dX10_count_6 (by decide) (by decide) rfl (by decide) ?_
      refine R_aload_n dX10_count_94 rfl ?_
      refine R_get K_10 (f := 5) (by decide) dX10_count_95 f_RX10_85 x0.1 (fld_get (k := 5) (by decide) r0.2.1.1) ?_
      refine R_ireturn dX10_count_98 rfl rfl ?_
      -- X10_count: ('ret', 98)
      exact ⟨rfl, fin⟩
    · refine R_tableIn (off := 93) (tgt := 99) dX10_count_6 (by decide) (by decide) rfl (by decide) ?_
      refine R_aload_n dX10_count_99 rfl ?_
      -- X10_count: ('call', 100, '.invokevirtual', 236)
      refine R_callV v_X10_laysCounts (Md_laysCounts x0 r0.1 hq.h86) dX10_count_100 l_RX10_236 rfl rfl x0.1 (Nat.le_of_ble_eq_true rfl) (by omega) rfl rfl (fun v h3 hq => ?_)
      obtain ⟨rfl, g3, S3, x3, o3, -⟩ := hq
      refine R_ireturn dX10_count_103 rfl rfl ?_
      -- X10_count: ('ret', 103)
      exact ⟨rfl, ⟨S3, x3, r0.keep (o3.mono (by decide) (by decide))⟩, g0.trans g3⟩
    · refine R_tableIn (off := 98) (tgt := 104) dX10_count_6 (by decide) (by decide) rfl (by decide) ?_
      refine R_aload_n dX10_count_104 rfl ?_
      -- X10_count: ('call', 105, '.invokevirtual', 233)
      refine R_callV v_X10_freeSign (Md_freeSign x0 r0.1) dX10_count_105 l_RX10_233 rfl rfl x0.1 (Nat.le_of_ble_eq_true rfl) (by omega) rfl rfl (fun v h3 hq => ?_)
      obtain ⟨rfl, e9⟩ := hq
      rw [e9]
      refine R_ireturn dX10_count_108 rfl rfl ?_
      -- X10_count: ('ret', 108)
      exact ⟨rfl, fin⟩
    · refine R_tableIn (off := 103) (tgt := 109) dX10_count_6 (by decide) (by decide) rfl (by decide) ?_
      refine R_aload_n dX10_count_109 rfl ?_
      -- X10_count: ('call', 110, '.invokevirtual', 189)
      refine R_callV v_X10_laysForm (Md_laysForm hq x0 r0.1) dX10_count_110 l_RX10_189 rfl rfl x0.1 (Nat.le_of_ble_eq_true rfl) (by omega) rfl rfl (fun v h3 hq => ?_)
      obtain ⟨rfl, g3, S3, x3, o3, f3⟩ := hq
      refine R_aload_n dX10_count_113 rfl ?_
      refine R_get K_10 (f := 24) (by decide) dX10_count_114 f_RX10_177 x3.1 (fld_get (k := 24) (by decide) f3.1) ?_
      refine R_ireturn dX10_count_117 rfl rfl ?_
      -- X10_count: ('ret', 117)
      exact ⟨rfl, ⟨S3, x3, r0.keep (o3.mono (by decide) (by decide))⟩, g0.trans g3⟩
    · refine R_tableIn (off := 112) (tgt := 118) dX10_count_6 (by decide) (by decide) rfl (by decide) ?_
      refine R_aload_n dX10_count_118 rfl ?_
      -- X10_count: ('call', 119, '.invokevirtual', 337)
      refine R_callV v_X10_bitsAll (Md_bitsAll x0 r0.1 hq.h86) dX10_count_119 l_RX10_337 rfl rfl x0.1 (Nat.le_of_ble_eq_true rfl) (by omega) rfl rfl (fun v h3 hq => ?_)
      obtain ⟨rfl, g3, S3, x3, o3⟩ := hq
      refine R_ireturn dX10_count_122 rfl rfl ?_
      -- X10_count: ('ret', 122)
      exact ⟨rfl, ⟨S3, x3, r0.keep (o3.mono (by decide) (by decide))⟩, g0.trans g3⟩
  · have hw2 : w.toInt < 0 ∨ (10 : Int) < w.toInt := by
      by_cases z : w.toInt < 0
      · exact Or.inl z
      · exact Or.inr (by have := Classical.not_not.mp (fun y => hw ⟨z, y⟩); omega)
    have ne : ∀ k : Nat, k ≤ 10 → ¬ w = nI k := by
      rintro k hk rfl
      rw [nI_toInt (by omega)] at hw2; omega
    refine R_tableOut (tgt := 123) dX10_count_6 hw2 (by decide) ?_
    refine R_iconst (v := (-1)) dX10_count_123 (by decide) ?_
    refine R_ireturn dX10_count_124 rfl rfl ?_
    -- X10_count: ('ret', 124)
    exact ⟨by rw [countI, if_neg (ne 0 (by omega)), if_neg (ne 1 (by omega)), if_neg (ne 2 (by omega)), if_neg (ne 3 (by omega)), if_neg (ne 4 (by omega)), if_neg (ne 5 (by omega)), if_neg (ne 6 (by omega)), if_neg (ne 7 (by omega)), if_neg (ne 8 (by omega)), if_neg (ne 9 (by omega)), if_neg (ne 10 (by omega))], fin⟩
theorem in01' {i : Int32} (hn : ¬ (nI 0 ≤ i ∧ i ≤ nI 1)) : i < 0 ∨ nI 2 ≤ i := by
  by_cases c : i < 0
  · exact Or.inl c
  · obtain ⟨n, hn2, rfl⟩ := nI_of c
    rw [in_iff (by decide) (by decide) hn2] at hn
    exact Or.inr (by rw [nI_leI (by decide) hn2]; omega)
theorem PP_image_no {i : Int32} (hn : ¬ (nI 0 ≤ i ∧ i ≤ nI 1)) : Spec E k_X9_image 6 0 0 [.ref X, .int i] h (fun v h' => v = some (.int (-2)) ∧ h' = h) := by
  refine Spec.of (by decide +kernel) (by simp [Value.category]) (Nat.le_of_ble_eq_true rfl) ?_
  show WP E k_X9_image 6 0 0 0 [some (.ref X), some (.int i)] [] h _
  refine R_iload_n dX9_image_0 rfl ?_
  refine R_if_lt (tgt := 9) dX9_image_1 (by decide) (fun c1 => ?_) (fun c1 => ?_)
  -- X9_image: ('branch', 1, 9, 4)
  · refine R_bipush (v := (-2)) dX9_image_9 (by decide) ?_
    refine R_ireturn dX9_image_11 rfl rfl ?_
    -- X9_image: ('ret', 11)
    exact ⟨rfl, rfl⟩
  · refine R_iload_n dX9_image_4 rfl ?_
    refine R_iconst (v := nI 2) dX9_image_5 (by decide) ?_
    refine R_icmp_lt (tgt := 12) dX9_image_6 (by decide) (fun c6 => ?_) (fun c6 => ?_)
    -- X9_image: ('branch', 6, 12, 9)
    · rcases in01' hn with z | z
      · exact absurd z c1
      · exact absurd c6 (Int32.not_lt.mpr z)
    · refine R_bipush (v := (-2)) dX9_image_9 (by decide) ?_
      refine R_ireturn dX9_image_11 rfl rfl ?_
      -- X9_image: ('ret', 11)
      exact ⟨rfl, rfl⟩
theorem PP_restore_bad {i : Int32} (hn : ¬ (nI 0 ≤ i ∧ i ≤ nI 1)) : Spec E k_X9_restore 6 0 0 [.ref X, .int i] h (fun v h' => v = some (.int (-2)) ∧ h' = h) := by
  refine Spec.of (by decide +kernel) (by simp [Value.category]) (Nat.le_of_ble_eq_true rfl) ?_
  show WP E k_X9_restore 6 0 0 0 [some (.ref X), some (.int i)] [] h _
  refine R_iload_n dX9_restore_0 rfl ?_
  refine R_if_lt (tgt := 9) dX9_restore_1 (by decide) (fun c1 => ?_) (fun c1 => ?_)
  -- X9_restore: ('branch', 1, 9, 4)
  · refine R_bipush (v := (-2)) dX9_restore_9 (by decide) ?_
    refine R_ireturn dX9_restore_11 rfl rfl ?_
    -- X9_restore: ('ret', 11)
    exact ⟨rfl, rfl⟩
  · refine R_iload_n dX9_restore_4 rfl ?_
    refine R_iconst (v := nI 2) dX9_restore_5 (by decide) ?_
    refine R_icmp_lt (tgt := 12) dX9_restore_6 (by decide) (fun c6 => ?_) (fun c6 => ?_)
    -- X9_restore: ('branch', 6, 12, 9)
    · rcases in01' hn with z | z
      · exact absurd z c1
      · exact absurd c6 (Int32.not_lt.mpr z)
    · refine R_bipush (v := (-2)) dX9_restore_9 (by decide) ?_
      refine R_ireturn dX9_restore_11 rfl rfl ?_
      -- X9_restore: ('ret', 11)
      exact ⟨rfl, rfl⟩
theorem PP_hit_no {k : Int32} (hk : k < 0) : Spec E k_X9_hit 6 0 0 [.ref X, .int k] h (fun v h' => v = some (.int (-3)) ∧ h' = h) := by
  refine Spec.of (by decide +kernel) (by simp [Value.category]) (Nat.le_of_ble_eq_true rfl) ?_
  show WP E k_X9_hit 6 0 0 0 [some (.ref X), some (.int k)] [] h _
  refine R_iload_n dX9_hit_0 rfl ?_
  refine R_if_ge (tgt := 7) dX9_hit_1 (by decide) (fun c1 => ?_) (fun c1 => ?_)
  -- X9_hit: ('branch', 1, 7, 4)
  · exact absurd hk (Int32.not_lt.mpr c1)
  · refine R_bipush (v := (-3)) dX9_hit_4 (by decide) ?_
    refine R_ireturn dX9_hit_6 rfl rfl ?_
    -- X9_hit: ('ret', 6)
    exact ⟨rfl, rfl⟩
end MD21
