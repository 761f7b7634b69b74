/-! THE MODEL: what it stands for; its past, its images, its tape -/
def byI (x : Nat) : Int32 := (Int8.ofNat x).toInt32
def mDeed (S : MSt) (ds : List Pk) : Prop := S.1 5 = nI ds.length ∧ ds.length ≤ 10 ∧ ∀ j x, ds[j]? = some x → recF (S.2 2) (1021 * j) x
def mTape (S : MSt) (tp : List Nat) : Prop := S.1 13 = nI tp.length ∧ tp.length ≤ 260 ∧ ∀ i x, tp[i]? = some x → S.2 10 i = byI x ∧ x < 256
def mPhr (S : MSt) (ph : List Nat) : Prop := S.1 16 = nI ph.length ∧ ph.length ≤ 20 ∧ ∀ i x, ph[i]? = some x → S.2 11 i = nI x ∧ x < 26
def mImg (S : MSt) (im : Nat → Pk) (md : Nat → Nat) : Prop := ∀ i, i < 2 → S.2 5 i = nI (md i) ∧ md i < 2 ∧ (md i = 1 → recF (S.2 1) (1021 * (i + 1)) (im i))
def MRel (S : MSt) (q : Pk) (ds : List Pk) (im : Nat → Pk) (md : Nat → Nat) (tp ph : List Nat) (fk fp : Int32) : Prop := curF (S.2 1) q ∧ mDeed S ds ∧ mImg S im md ∧ mTape S tp ∧ mPhr S ph ∧ S.1 14 = fk ∧ S.1 15 = fp
def MMAt (E : EnvT) (h : Hp) (M : Nat) (q : Pk) (ds : List Pk) (im : Nat → Pk) (md : Nat → Nat) (tp ph : List Nat) (fk fp : Int32) : Prop := ∃ S, MdAt E h M S ∧ MRel S q ds im md tp ph fk fp
abbrev scrK : List Nat := [3, 4, 6, 7, 8, 9, 12, 13, 14, 15, 16, 17, 18, 19, 20, 21, 22]
abbrev scrJ : List Nat := [0, 11, 19, 20, 21, 24, 30, 34, 35, 36, 37]
theorem mDeed.keep {S S2 : MSt} {ds : List Pk} (x : mDeed S ds) (h1 : S2.1 5 = S.1 5) (h2 : S2.2 2 = S.2 2) : mDeed S2 ds := ⟨h1.trans x.1, x.2.1, fun j y hy => by rw [h2]; exact x.2.2 j y hy⟩
theorem mTape.keep {S S2 : MSt} {tp : List Nat} (x : mTape S tp) (h1 : S2.1 13 = S.1 13) (h2 : S2.2 10 = S.2 10) : mTape S2 tp := ⟨h1.trans x.1, x.2.1, fun j y hy => by rw [h2]; exact x.2.2 j y hy⟩
theorem mPhr.keep {S S2 : MSt} {ph : List Nat} (x : mPhr S ph) (h1 : S2.1 16 = S.1 16) (h2 : S2.2 11 = S.2 11) : mPhr S2 ph := ⟨h1.trans x.1, x.2.1, fun j y hy => by rw [h2]; exact x.2.2 j y hy⟩
theorem mImg.keep {S S2 : MSt} {im : Nat → Pk} {md : Nat → Nat} (x : mImg S im md) (h1 : S2.2 5 = S.2 5) (h2 : ∀ k, 1021 ≤ k → S2.2 1 k = S.2 1 k) : mImg S2 im md := fun i hi => ⟨by rw [h1]; exact (x i hi).1, (x i hi).2.1, fun hm => ((x i hi).2.2 hm).same (fun k _ => h2 _ (by omega))⟩
theorem MRel.keep {S S2 : MSt} {q : Pk} {ds : List Pk} {im : Nat → Pk} {md : Nat → Nat} {tp ph : List Nat} {fk fp : Int32} (x : MRel S q ds im md tp ph fk fp) (o : Ony scrK scrJ S S2) : MRel S2 q ds im md tp ph fk fp := by
  obtain ⟨a, b, c, d, e, f, g⟩ := x
  exact ⟨by rw [o.1 1 (by decide)]; exact a, b.keep (o.2 5 (by decide)) (o.1 2 (by decide)), c.keep (o.1 5 (by decide)) (fun k _ => by rw [o.1 1 (by decide)]), d.keep (o.2 13 (by decide)) (o.1 10 (by decide)), e.keep (o.2 16 (by decide)) (o.1 11 (by decide)), (o.2 14 (by decide)).trans f, (o.2 15 (by decide)).trans g⟩
theorem byI_and : ∀ x, x < 256 → byI x &&& 255 = nI x := by decide +kernel
theorem byI_low : ∀ x, x < 256 → ((nI 97 ≤ byI x ∧ byI x ≤ nI 122) ↔ isLow x) := by decide +kernel
theorem byI_pos : ∀ x, x < 128 → byI x = nI x := by decide +kernel
theorem byI_shr (a s : Int32) (k : Nat) (hs : (s.toBitVec.smod 32).toNat = k) (hk : k ≤ 24) : (a >>> s).toInt8.toInt32 = byI (byN a k) := by
  rw [byI]
  congr 1
  apply Int8.toBitVec_inj.mp
  apply BitVec.eq_of_getLsbD_eq
  intro i hi
  have e1 : (a >>> s).toInt8.toBitVec = (a >>> s).toBitVec.setWidth 8 := by
    rw [Int32.toBitVec_toInt8]; exact BitVec.signExtend_eq_setWidth_of_le _ (by decide)
  have e2 : (a >>> s).toBitVec = a.toBitVec.sshiftRight k := by
    rw [← hs]; rfl
  have e3 : (Int8.ofNat (byN a k)).toBitVec = BitVec.ofNat 8 (byN a k) := rfl
  rw [e1, e2, e3, BitVec.getLsbD_setWidth, BitVec.getLsbD_sshiftRight, BitVec.getLsbD_ofNat]
  have h8 : decide (i < 8) = true := decide_eq_true hi
  rw [if_pos (show k + i < 32 by omega), h8, Bool.true_and, Bool.true_and, byN, show (256 : Nat) = 2 ^ 8 from rfl, Nat.testBit_mod_two_pow, h8, Bool.true_and, Nat.testBit_div_two_pow]
  have h32 : ¬ (32 ≤ i) := by omega
  simp only [h32, decide_false, Bool.not_false, Bool.true_and]
  rw [BitVec.getLsbD, Nat.add_comm]
theorem fstB_n {p : Nat → Bool} {n : Nat} (h : ∀ j, j < n → p j = false) : fstB p n = none := by
  cases hx : fstB p n with
  | none => rfl
  | some i => have := fstB_some hx; rw [h i this.1] at this; cases this.2.1
section MD3
variable {E : EnvT} {h h1 : Hp} {M : Nat} {S : MSt} {q : Pk} {ds : List Pk} {im : Nat → Pk} {md : Nat → Nat} {tp ph : List Nat} {fk fp : Int32}
theorem Md_notes (x : MdAt E h M S) (c : curF (S.2 1) q) (dd : mDeed S ds) : Spec E k_X10_notes 2 0 0 [.ref M] h (fun v h' => v = none ∧ Out h h' M (M + 23) ∧ ∃ S', MdAt E h' M S' ∧ Ony [2] [5] S S' ∧ mDeed S' (pushD ds q)) := by
  obtain ⟨d1, d2, d3⟩ := dd
  refine Spec.of (by decide +kernel) (by simp [Value.category]) (Nat.le_of_ble_eq_true rfl) ?_
  show WP E k_X10_notes 2 0 0 0 [some (.ref M)] [] h _
  have half : ∀ h2 S2 (ds2 : List Pk), MdAt E h2 M S2 → Ony [2] [5] S S2 → S2.1 5 = nI ds2.length → ds2.length ≤ 9 → (∀ j y, ds2[j]? = some y → recF (S2.2 2) (1021 * j) y) → Out h h2 M (M + 23) → pushD ds q = ds2 ++ [q] → WP E k_X10_notes 2 0 0 37 [some (.ref M)] [] h2 (fun v h' => v = none ∧ Out h h' M (M + 23) ∧ ∃ S', MdAt E h' M S' ∧ Ony [2] [5] S S' ∧ mDeed S' (pushD ds q)) := by
    intro h2 S2 ds2 x2 o2 e1 e2 e3 g2 hpd
    have c2 : curF (S2.2 1) q := by rw [o2.a1 (by decide)]; exact c
    refine R_aload_n dX10_notes_37 rfl ?_
    refine R_get K_10 (f := 1) (by decide) dX10_notes_38 f_RX10_13 x2.1 rfl ?_
    refine R_iconst (v := nI 0) dX10_notes_41 (by decide) ?_
    refine R_aload_n dX10_notes_42 rfl ?_
    refine R_get K_10 (f := 2) (by decide) dX10_notes_43 f_RX10_17 x2.1 rfl ?_
    refine R_sipush (v := nI 1021) dX10_notes_46 (by decide) ?_
    refine R_aload_n dX10_notes_49 rfl ?_
    refine R_get K_10 (f := 5) (by decide) dX10_notes_50 f_RX10_85 x2.1 (fld_get (k := 5) (by decide) e1) ?_
    refine R_imul_N dX10_notes_53 ?_
    refine R_sipush (v := nI 1021) dX10_notes_54 (by decide) ?_
    -- X10_notes: ('call', 57, '.invokestatic', 88)
    refine R_callS s_X10_copies (Md_copies (sp := 0) (dp := 1021 * ds2.length) (n := 1021) x2.a1 x2.a2 (by omega) (by omega) (by omega) (by decide) (by decide)) dX10_notes_57 l_RX10_88 rfl rfl (Nat.le_of_ble_eq_true rfl) (by omega) rfl rfl (fun v h3 hq => ?_)
    obtain ⟨rfl, u3⟩ := hq
    have x3 := x2.s2 u3
    refine R_aload_n dX10_notes_60 rfl ?_
    refine R_dup dX10_notes_61 rfl ?_
    refine R_get K_10 (f := 5) (by decide) dX10_notes_62 f_RX10_85 x3.1 (fld_get (k := 5) (by decide) e1) ?_
    refine R_iconst (v := nI 1) dX10_notes_65 (by decide) ?_
    refine R_iadd_N dX10_notes_66 ?_
    refine R_put_A K_10 (f := 5) (by decide) dX10_notes_67 f_RX10_85 rfl x3.1 (by rfl) (by rfl) (Nat.le_of_ble_eq_true rfl) ?_
    -- X10_notes: ('put', 70)
    intro h4 u4
    have x4 := x3.put u4 (by decide)
    refine R_return dX10_notes_70 rfl ?_
    -- X10_notes: ('ret', 70)
    refine ⟨rfl, (g2.trans (Out.upd u3 (by omega) (by omega))).trans (Out.upd u4 (by omega) (by omega)), _, x4, (o2.st (by decide)).put (by decide), ?_⟩
    rw [hpd]
    refine ⟨?_, by rw [List.length_append, List.length_singleton]; omega, fun j y hy => ?_⟩
    · show nI (ds2.length + 1) = _
      rw [List.length_append]; rfl
    · show recF (va_cpy (S2.2 1) (S2.2 2) 0 (1021 * ds2.length) 1021) (1021 * j) y
      by_cases hj : j < ds2.length
      · rw [List.getElem?_append_left hj] at hy
        exact (e3 j y hy).same (fun k hk => pk_cpy_out (by omega))
      · have hl := (List.getElem?_eq_some_iff.mp hy).1
        rw [List.length_append, List.length_singleton] at hl
        obtain rfl : j = ds2.length := by omega
        rw [List.getElem?_append_right (Nat.le_refl _), Nat.sub_self] at hy
        obtain rfl : q = y := by simpa using hy
        refine c2.copy (fun k hk => ?_)
        rw [pk_cpy_in (by omega) (by omega)]
        exact congrArg (S2.2 1) (by omega)
  refine R_aload_n dX10_notes_0 rfl ?_
  refine R_get K_10 (f := 5) (by decide) dX10_notes_1 f_RX10_85 x.1 (fld_get (k := 5) (by decide) d1) ?_
  refine R_bipush (v := nI 10) dX10_notes_4 (by decide) ?_
  refine R_icmp_ne_N (tgt := 37) dX10_notes_6 (by decide) (by omega) (by omega) (fun c6 => ?_) (fun c6 => ?_)
  -- X10_notes: ('branch', 6, 37, 9)
  · refine half h S ds x Ony.refl d1 (by omega) d3 Out.refl ?_
    rw [pushD, show ds.length + 1 - 10 = 0 by omega, List.drop_zero]
  · refine R_aload_n dX10_notes_9 rfl ?_
    refine R_get K_10 (f := 2) (by decide) dX10_notes_10 f_RX10_17 x.1 rfl ?_
    refine R_sipush (v := nI 1021) dX10_notes_13 (by decide) ?_
    refine R_aload_n dX10_notes_16 rfl ?_
    refine R_get K_10 (f := 2) (by decide) dX10_notes_17 f_RX10_17 x.1 rfl ?_
    refine R_iconst (v := nI 0) dX10_notes_20 (by decide) ?_
    refine R_sipush (v := nI 9189) dX10_notes_21 (by decide) ?_
    -- X10_notes: ('call', 24, '.invokestatic', 88)
    refine R_callS s_X10_copies (Md_copiesIn (sp := 1021) (dp := 0) (n := 9189) x.a2 (by omega) (by omega) (by omega) (by decide)) dX10_notes_24 l_RX10_88 rfl rfl (Nat.le_of_ble_eq_true rfl) (by omega) rfl rfl (fun v h3 hq => ?_)
    obtain ⟨rfl, u3⟩ := hq
    have x3 := x.s2 u3
    refine R_aload_n dX10_notes_27 rfl ?_
    refine R_dup dX10_notes_28 rfl ?_
    refine R_get K_10 (f := 5) (by decide) dX10_notes_29 f_RX10_85 x3.1 (fld_get (k := 5) (by decide) d1) ?_
    refine R_iconst (v := nI 1) dX10_notes_32 (by decide) ?_
    refine R_isub_N dX10_notes_33 (by omega) ?_
    refine R_put_A K_10 (f := 5) (by decide) dX10_notes_34 f_RX10_85 rfl x3.1 (by rfl) (by rfl) (Nat.le_of_ble_eq_true rfl) ?_
    -- X10_notes: ('put', 37)
    intro h4 u4
    have x4 := x3.put u4 (by decide)
    obtain ⟨d0, t, hds⟩ : ∃ d0 t, ds = d0 :: t := by
      cases ds with
      | nil => cases c6
      | cons d0 t => exact ⟨d0, t, rfl⟩
    · have c6' := c6
      rw [hds, List.length_cons] at c6
      refine half h4 _ t x4 ((Ony.refl.st (by decide)).put (by decide)) ?_ (by omega) (fun j y hy => ?_) ((Out.upd u3 (by omega) (by omega)).trans (Out.upd u4 (by omega) (by omega))) ?_
      · show nI (ds.length - 1) = _
        rw [hds, List.length_cons]; rfl
      · have hj := (List.getElem?_eq_some_iff.mp hy).1
        have := d3 (j + 1) y (by rw [hds]; exact hy)
        show recF (va_cpy (S.2 2) (S.2 2) 1021 0 9189) (1021 * j) y
        refine this.copy (fun k hk => ?_)
        rw [pk_cpy_in (by omega) (by omega)]
        exact congrArg (S.2 2) (by omega)
      · rw [hds, pushD, show (d0 :: t).length + 1 - 10 = 1 by rw [List.length_cons]; omega]; rfl
theorem Md_isHit (x : MdAt E h M S) {ls dp : List Nat} (lo : LOut S ls dp) (hp : mPhr S ph) (hl : ls.length ≤ 240) {p : Nat} (hpl : p ≤ ls.length) (hlt : ∀ c ∈ ls, c < 26) : Spec E k_X10_isHit 0 0 0 [.ref M, .int (nI p)] h (fun v h' => v = some (.int (nI (if hitP ph ls p then 1 else 0))) ∧ h' = h) := by
  obtain ⟨p1, p2, p3⟩ := hp
  obtain ⟨l1, l2, l3, l4⟩ := lo
  refine Spec.of (by decide +kernel) (by simp [Value.category]) (Nat.le_of_ble_eq_true rfl) ?_
  show WP E k_X10_isHit 0 0 0 0 [some (.ref M), some (.int (nI p)), none] [] h _
  have V16 := fld_get (M := M) (k := 16) (by decide) p1
  have V11 := fld_get (M := M) (k := 11) (by decide) l2
  have no : ¬ hitP ph ls p → WP E k_X10_isHit 0 0 0 20 [some (.ref M), some (.int (nI p)), none] [] h (fun v h' => v = some (.int (nI (if hitP ph ls p then 1 else 0))) ∧ h' = h) := by
    intro z
    refine R_iconst (v := nI 0) dX10_isHit_20 (by decide) ?_
    refine R_ireturn dX10_isHit_21 rfl (by rfl) ?_
    -- X10_isHit: ('ret', 21)
    exact ⟨by rw [if_neg z], rfl⟩
  refine R_aload_n dX10_isHit_0 rfl ?_
  refine R_get K_10 (f := 16) (by decide) dX10_isHit_1 f_RX10_221 x.1 V16 ?_
  refine R_if_eq_N (tgt := 20) dX10_isHit_4 (by decide) (by omega) (fun c4 => ?_) (fun c4 => ?_)
  -- X10_isHit: ('branch', 4, 20, 7)
  · refine no (fun z => z.1 (List.eq_nil_of_length_eq_zero c4))
  · refine R_iload_n dX10_isHit_7 rfl ?_
    refine R_aload_n dX10_isHit_8 rfl ?_
    refine R_get K_10 (f := 16) (by decide) dX10_isHit_9 f_RX10_221 x.1 V16 ?_
    refine R_iadd_N dX10_isHit_12 ?_
    refine R_aload_n dX10_isHit_13 rfl ?_
    refine R_get K_10 (f := 11) (by decide) dX10_isHit_14 f_RX10_120 x.1 V11 ?_
    refine R_icmp_le_N (tgt := 22) dX10_isHit_17 (by decide) (by omega) (by omega) (fun c17 => ?_) (fun c17 => ?_)
    -- X10_isHit: ('branch', 17, 22, 20)
    · have loop : ∀ m t, t + m = ph.length → (∀ k, k < t → ls[p + k]? = ph[k]?) → WP E k_X10_isHit 0 0 0 24 [some (.ref M), some (.int (nI p)), some (.int (nI t))] [] h (fun v h' => v = some (.int (nI (if hitP ph ls p then 1 else 0))) ∧ h' = h) := by
        intro m
        induction m with
        | zero =>
          intro t ht hk
          refine R_iload_n dX10_isHit_24 rfl ?_
          refine R_aload_n dX10_isHit_25 rfl ?_
          refine R_get K_10 (f := 16) (by decide) dX10_isHit_26 f_RX10_221 x.1 V16 ?_
          refine R_icmp_ge_N (tgt := 57) dX10_isHit_29 (by decide) (by omega) (by omega) (fun c29 => ?_) (fun c29 => ?_)
          -- X10_isHit: ('branch', 29, 57, 32)
          · refine R_iconst (v := nI 1) dX10_isHit_57 (by decide) ?_
            refine R_ireturn dX10_isHit_58 rfl (by rfl) ?_
            -- X10_isHit: ('ret', 58)
            exact ⟨by rw [if_pos ⟨fun e => c4 (by rw [e]; rfl), (hitP_iff c17).mpr (fun k hk2 => hk k (by omega))⟩], rfl⟩
          · exact absurd c29 (by omega)
        | succ m ih =>
          intro t ht hk
          obtain ⟨a, ha⟩ := getE (l := ls) (i := p + t) (by omega)
          obtain ⟨b, hb⟩ := getE (l := ph) (i := t) (by omega)
          have hb26 := (p3 t b hb).2
          have ha26 := hlt a (List.mem_of_getElem? ha)
          refine R_iload_n dX10_isHit_24 rfl ?_
          refine R_aload_n dX10_isHit_25 rfl ?_
          refine R_get K_10 (f := 16) (by decide) dX10_isHit_26 f_RX10_221 x.1 V16 ?_
          refine R_icmp_ge_N (tgt := 57) dX10_isHit_29 (by decide) (by omega) (by omega) (fun c29 => ?_) (fun c29 => ?_)
          -- X10_isHit: ('branch', 29, 57, 32)
          · exact absurd c29 (by omega)
          · refine R_aload_n dX10_isHit_32 rfl ?_
            refine R_get K_10 (f := 9) (by decide) dX10_isHit_33 f_RX10_36 x.1 rfl ?_
            refine R_iload_n dX10_isHit_36 rfl ?_
            refine R_iload_n dX10_isHit_37 rfl ?_
            refine R_iadd_N dX10_isHit_38 ?_
            refine R_iaload_N dX10_isHit_39 x.a8 (by omega) (by omega) (l3 _ a ha) ?_
            refine R_aload_n dX10_isHit_40 rfl ?_
            refine R_get K_10 (f := 17) (by decide) dX10_isHit_41 f_RX10_49 x.1 rfl ?_
            refine R_iload_n dX10_isHit_44 rfl ?_
            refine R_iaload_N dX10_isHit_45 x.a11 (by omega) (by omega) (p3 t b hb).1 ?_
            refine R_icmp_eq_N (tgt := 51) dX10_isHit_46 (by decide) (by omega) (by omega) (fun c46 => ?_) (fun c46 => ?_)
            -- X10_isHit: ('branch', 46, 51, 49)
            · refine R_iinc2 dX10_isHit_51 (by decide) (nI_inc _ 1) ?_
              refine R_goto (tgt := 24) dX10_isHit_54 (by decide) ?_
              -- X10_isHit: ('stop', 24)
              refine ih (t + 1) (by omega) (fun k hk2 => ?_)
              by_cases e : k = t
              · rw [e, ha, hb, c46]
              · exact hk k (by omega)
            · refine R_iconst (v := nI 0) dX10_isHit_49 (by decide) ?_
              refine R_ireturn dX10_isHit_50 rfl (by rfl) ?_
              -- X10_isHit: ('ret', 50)
              have nh : ¬ hitP ph ls p := fun z => by
                have := (hitP_iff c17).mp z.2 t (by omega)
                rw [ha, hb] at this
                exact c46 (Option.some.inj this)
              exact ⟨by rw [if_neg nh], rfl⟩
      refine R_iconst (v := nI 0) dX10_isHit_22 (by decide) ?_
      refine R_istore2 dX10_isHit_23 (by decide) ?_
      -- X10_isHit: ('stop', 24)
      exact loop ph.length 0 (by omega) (fun k hk => absurd hk (by omega))
    · exact no (fun z => by have := (hitP_len z).1; omega)
theorem Md_hitsIn (x : MdAt E h M S) {ls dp : List Nat} (lo : LOut S ls dp) (hp : mPhr S ph) (hl : ls.length ≤ 240) (hlt : ∀ c ∈ ls, c < 26) : Spec E k_X10_hitsIn 1 0 0 [.ref M] h (fun v h' => v = some (.int (nI (hitsS ph ls))) ∧ h' = h) := by
  have V11 := fld_get (M := M) (k := 11) (by decide) lo.2.1
  refine Spec.of (by decide +kernel) (by simp [Value.category]) (Nat.le_of_ble_eq_true rfl) ?_
  show WP E k_X10_hitsIn 1 0 0 0 [some (.ref M), none, none] [] h _
  have loop : ∀ m t, t + m = ls.length → WP E k_X10_hitsIn 1 0 0 4 [some (.ref M), some (.int (nI (cntB (fun p => decide (hitP ph ls p)) t))), some (.int (nI t))] [] h (fun v h' => v = some (.int (nI (hitsS ph ls))) ∧ h' = h) := by
    intro m
    induction m with
    | zero =>
      intro t ht
      refine R_iload_n dX10_hitsIn_4 rfl ?_
      refine R_aload_n dX10_hitsIn_5 rfl ?_
      refine R_get K_10 (f := 11) (by decide) dX10_hitsIn_6 f_RX10_120 x.1 V11 ?_
      refine R_icmp_ge_N (tgt := 34) dX10_hitsIn_9 (by decide) (by omega) (by omega) (fun c9 => ?_) (fun c9 => ?_)
      -- X10_hitsIn: ('branch', 9, 34, 12)
      · refine R_iload_n dX10_hitsIn_34 rfl ?_
        refine R_ireturn dX10_hitsIn_35 rfl rfl ?_
        -- X10_hitsIn: ('ret', 35)
        exact ⟨by rw [hitsS, show t = ls.length by omega], rfl⟩
      · exact absurd c9 (by omega)
    | succ m ih =>
      intro t ht
      have ih := ih (t + 1) (by omega)
      rw [cntB_step] at ih
      refine R_iload_n dX10_hitsIn_4 rfl ?_
      refine R_aload_n dX10_hitsIn_5 rfl ?_
      refine R_get K_10 (f := 11) (by decide) dX10_hitsIn_6 f_RX10_120 x.1 V11 ?_
      refine R_icmp_ge_N (tgt := 34) dX10_hitsIn_9 (by decide) (by omega) (by omega) (fun c9 => ?_) (fun c9 => ?_)
      -- X10_hitsIn: ('branch', 9, 34, 12)
      · exact absurd c9 (by omega)
      · refine R_iload_n dX10_hitsIn_12 rfl ?_
        refine R_aload_n dX10_hitsIn_13 rfl ?_
        refine R_iload_n dX10_hitsIn_14 rfl ?_
        -- X10_hitsIn: ('call', 15, '.invokevirtual', 307)
        refine R_callV v_X10_isHit (Md_isHit x lo hp hl (p := t) (by omega) hlt) dX10_hitsIn_15 l_RX10_307 rfl rfl x.1 (Nat.le_of_ble_eq_true rfl) (by omega) rfl rfl (fun v h3 hq => ?_)
        obtain ⟨rfl, e9⟩ := hq
        rw [e9]
        by_cases c : hitP ph ls t
        · rw [if_pos c]
          rw [decide_eq_true c, if_pos rfl] at ih
          refine R_if_eq_N (tgt := 25) dX10_hitsIn_18 (by decide) (by omega) (fun c18 => ?_) (fun c18 => ?_)
          -- X10_hitsIn: ('branch', 18, 25, 21)
          · exact absurd c18 (by decide)
          · refine R_iconst (v := nI 1) dX10_hitsIn_21 (by decide) ?_
            refine R_goto (tgt := 26) dX10_hitsIn_22 (by decide) ?_
            refine R_iadd_N dX10_hitsIn_26 ?_
            refine R_istore1 dX10_hitsIn_27 (by decide) ?_
            refine R_iinc2 dX10_hitsIn_28 (by decide) (nI_inc _ 1) ?_
            refine R_goto (tgt := 4) dX10_hitsIn_31 (by decide) ?_
            -- X10_hitsIn: ('stop', 4)
            exact ih
        · rw [if_neg c]
          rw [decide_eq_false c, if_neg (by decide)] at ih
          refine R_if_eq_N (tgt := 25) dX10_hitsIn_18 (by decide) (by omega) (fun c18 => ?_) (fun c18 => ?_)
          -- X10_hitsIn: ('branch', 18, 25, 21)
          · refine R_iconst (v := nI 0) dX10_hitsIn_25 (by decide) ?_
            refine R_iadd_N dX10_hitsIn_26 ?_
            refine R_istore1 dX10_hitsIn_27 (by decide) ?_
            refine R_iinc2 dX10_hitsIn_28 (by decide) (nI_inc _ 1) ?_
            refine R_goto (tgt := 4) dX10_hitsIn_31 (by decide) ?_
            -- X10_hitsIn: ('stop', 4)
            exact ih
          · exact absurd rfl c18
  refine R_iconst (v := nI 0) dX10_hitsIn_0 (by decide) ?_
  refine R_istore1 dX10_hitsIn_1 (by decide) ?_
  refine R_iconst (v := nI 0) dX10_hitsIn_2 (by decide) ?_
  refine R_istore2 dX10_hitsIn_3 (by decide) ?_
  -- X10_hitsIn: ('stop', 4)
  exact loop ls.length 0 (by omega)
/-- the bytes taken from the tape: the code, and what it leaves -/
theorem Md_takes_no (x : MdAt E h M S) (t : mTape S tp) {n : Int32} (hn : ¬ stP tp.length n 0) (lo hi : Nat) : Spec E k_X10_takes 2 0 0 [.ref M, .int n, .int (nI lo), .int (nI hi)] h (fun v h' => v = some (.int (-3)) ∧ h' = h) := by
  obtain ⟨t1, t2, t3⟩ := t
  have V13 := fld_get (M := M) (k := 13) (by decide) t1
  refine Spec.of (by decide +kernel) (by simp [Value.category]) (Nat.le_of_ble_eq_true rfl) ?_
  show WP E k_X10_takes 2 0 0 0 [some (.ref M), some (.int n), some (.int (nI lo)), some (.int (nI hi)), none] [] h _
  refine R_iload_n dX10_takes_0 rfl ?_
  refine R_i2l dX10_takes_1 ?_
  refine R_lconst (v := 0) dX10_takes_2 rfl ?_
  refine R_aload_n dX10_takes_3 rfl ?_
  refine R_get K_10 (f := 13) (by decide) dX10_takes_4 f_RX10_137 x.1 V13 ?_
  refine R_i2l dX10_takes_7 ?_
  -- X10_takes: ('call', 8, '.invokestatic', 98)
  refine R_callS s_X10_isIn (Md_isIn n (nI 0) (nI tp.length) (by decide) rfl) dX10_takes_8 l_RX10_98 rfl rfl (Nat.le_of_ble_eq_true rfl) (by omega) rfl rfl (fun v h2 hq => ?_)
  obtain ⟨rfl, e9⟩ := hq
  have : ¬ (nI 0 ≤ n ∧ n ≤ nI tp.length) := by
    intro z
    have h0 : ¬ n < 0 := Int32.not_lt.mpr z.1
    obtain ⟨k, hk, rfl⟩ := nI_of h0
    rw [in_iff (by decide) (by omega) hk] at z
    exact hn ((stP_nI hk).mpr (by omega))
  rw [e9, if_neg this]
  refine R_if_ne_N (tgt := 17) dX10_takes_11 (by decide) (by omega) (fun c11 => ?_) (fun c11 => ?_)
  -- X10_takes: ('branch', 11, 17, 14)
  · exact absurd rfl c11
  · refine R_bipush (v := (-3)) dX10_takes_14 (by decide) ?_
    refine R_ireturn dX10_takes_16 rfl rfl ?_
    -- X10_takes: ('ret', 16)
    exact ⟨rfl, rfl⟩
theorem Md_takes (x : MdAt E h M S) (t : mTape S tp) {n lo hi : Nat} (hn : n ≤ tp.length) (hlo : lo ≤ 1000) (hhi : hi ≤ 1000) : Spec E k_X10_takes 2 0 0 [.ref M, .int (nI n), .int (nI lo), .int (nI hi)] h (fun v h' => Out h h' M (M + 23) ∧ ∃ S', MdAt E h' M S' ∧ Ony [] [13, 14, 15] S S' ∧ S'.1 13 = nI 0 ∧ ((¬ (lo ≤ n ∧ n ≤ hi) ∧ v = some (.int (-4)) ∧ S'.1 14 = nI 0 ∧ S'.1 15 = -1) ∨ (lo ≤ n ∧ n ≤ hi ∧ ∃ i, badS tp n = some i ∧ v = some (.int (-31)) ∧ S'.1 14 = nI 1 ∧ S'.1 15 = nI i) ∨ (lo ≤ n ∧ n ≤ hi ∧ badS tp n = none ∧ v = some (.int (nI 0)) ∧ S'.1 14 = nI 0 ∧ S'.1 15 = -1))) := by
  obtain ⟨t1, t2, t3⟩ := t
  have V13 := fld_get (M := M) (k := 13) (by decide) t1
  refine Spec.of (by decide +kernel) (by simp [Value.category]) (Nat.le_of_ble_eq_true rfl) ?_
  show WP E k_X10_takes 2 0 0 0 [some (.ref M), some (.int (nI n)), some (.int (nI lo)), some (.int (nI hi)), none] [] h _
  refine R_iload_n dX10_takes_0 rfl ?_
  refine R_i2l dX10_takes_1 ?_
  refine R_lconst (v := 0) dX10_takes_2 rfl ?_
  refine R_aload_n dX10_takes_3 rfl ?_
  refine R_get K_10 (f := 13) (by decide) dX10_takes_4 f_RX10_137 x.1 V13 ?_
  refine R_i2l dX10_takes_7 ?_
  -- X10_takes: ('call', 8, '.invokestatic', 98)
  refine R_callS s_X10_isIn (Md_isIn (nI n) (nI 0) (nI tp.length) (by decide) rfl) dX10_takes_8 l_RX10_98 rfl rfl (Nat.le_of_ble_eq_true rfl) (by omega) rfl rfl (fun v h2 hq => ?_)
  obtain ⟨rfl, e9⟩ := hq
  rw [e9, if_pos ((in_iff (by decide) (by omega) (by omega)).mpr ⟨by omega, hn⟩)]
  refine R_if_ne_N (tgt := 17) dX10_takes_11 (by decide) (by omega) (fun c11 => ?_) (fun c11 => ?_)
  -- X10_takes: ('branch', 11, 17, 14)
  · refine R_aload_n dX10_takes_17 rfl ?_
    refine R_iconst (v := nI 0) dX10_takes_18 (by decide) ?_
    refine R_put_A K_10 (f := 13) (by decide) dX10_takes_19 f_RX10_137 rfl x.1 (by rfl) (by rfl) (Nat.le_of_ble_eq_true rfl) ?_
    -- X10_takes: ('put', 22)
    intro h3 u3
    have x3 := x.put u3 (by decide)
    refine R_aload_n dX10_takes_22 rfl ?_
    refine R_iconst (v := nI 0) dX10_takes_23 (by decide) ?_
    refine R_put_A K_10 (f := 14) (by decide) dX10_takes_24 f_RX10_140 rfl x3.1 (by rfl) (by rfl) (Nat.le_of_ble_eq_true rfl) ?_
    -- X10_takes: ('put', 27)
    intro h4 u4
    have x4 := x3.put u4 (by decide)
    refine R_aload_n dX10_takes_27 rfl ?_
    refine R_iconst (v := (-1)) dX10_takes_28 (by decide) ?_
    refine R_put_A K_10 (f := 15) (by decide) dX10_takes_29 f_RX10_46 rfl x4.1 (by rfl) (by rfl) (Nat.le_of_ble_eq_true rfl) ?_
    -- X10_takes: ('put', 32)
    intro h5 u5
    have x5 := x4.put u5 (by decide)
    have o5 : Ony [] [13, 14, 15] S (upd (upd (upd S.1 13 (nI 0)) 14 (nI 0)) 15 (-1), S.2) := ((Ony.refl.put (by decide)).put (by decide)).put (by decide)
    have g5 : Out h h5 M (M + 23) := ((Out.upd u3 (by omega) (by omega)).trans (Out.upd u4 (by omega) (by omega))).trans (Out.upd u5 (by omega) (by omega))
    refine R_iload_n dX10_takes_32 rfl ?_
    refine R_i2l dX10_takes_33 ?_
    refine R_iload_n dX10_takes_34 rfl ?_
    refine R_i2l dX10_takes_35 ?_
    refine R_iload_n dX10_takes_36 rfl ?_
    refine R_i2l dX10_takes_37 ?_
    -- X10_takes: ('call', 38, '.invokestatic', 98)
    refine R_callS s_X10_isIn (Md_isIn (nI n) (nI lo) (nI hi) rfl rfl) dX10_takes_38 l_RX10_98 rfl rfl (Nat.le_of_ble_eq_true rfl) (by omega) rfl rfl (fun v h6 hq => ?_)
    obtain ⟨rfl, e9⟩ := hq
    rw [e9, if_iff (in_iff (by omega) (by omega) (by omega))]
    by_cases hr : lo ≤ n ∧ n ≤ hi
    · rw [if_pos hr]
      refine R_if_ne_N (tgt := 47) dX10_takes_41 (by decide) (by omega) (fun c41 => ?_) (fun c41 => ?_)
      -- X10_takes: ('branch', 41, 47, 44)
      · have bad : ∀ j, j < n → ∃ y, tp[j]? = some y ∧ S.2 10 j = byI y ∧ y < 256 ∧ (isLow (tp.getD j 0) ↔ isLow y) := by
          intro j hj
          obtain ⟨y, hy⟩ := getE (l := tp) (i := j) (by omega)
          exact ⟨y, hy, (t3 j y hy).1, (t3 j y hy).2, by rw [getD_of hy]⟩
        have loop : ∀ t h2 S2 (iv : Int32), t ≤ n → (t = 0 → iv = -1) → (∀ j, t = j + 1 → iv = nI j) → MdAt E h2 M S2 → Ony [] [13, 14, 15] S S2 → S2.1 13 = nI 0 → S2.1 14 = nI 0 → ((∀ j, t ≤ j → j < n → isLow (tp.getD j 0)) ∧ S2.1 15 = -1 ∨ ∃ i, t ≤ i ∧ i < n ∧ ¬ isLow (tp.getD i 0) ∧ (∀ j, t ≤ j → j < i → isLow (tp.getD j 0)) ∧ S2.1 15 = nI i) → Out h h2 M (M + 23) → WP E k_X10_takes 2 0 0 52 [some (.ref M), some (.int (nI n)), some (.int (nI lo)), some (.int (nI hi)), some (.int iv)] [] h2 (fun v h' => Out h h' M (M + 23) ∧ ∃ S', MdAt E h' M S' ∧ Ony [] [13, 14, 15] S S' ∧ S'.1 13 = nI 0 ∧ ((¬ (lo ≤ n ∧ n ≤ hi) ∧ v = some (.int (-4)) ∧ S'.1 14 = nI 0 ∧ S'.1 15 = -1) ∨ (lo ≤ n ∧ n ≤ hi ∧ ∃ i, badS tp n = some i ∧ v = some (.int (-31)) ∧ S'.1 14 = nI 1 ∧ S'.1 15 = nI i) ∨ (lo ≤ n ∧ n ≤ hi ∧ badS tp n = none ∧ v = some (.int (nI 0)) ∧ S'.1 14 = nI 0 ∧ S'.1 15 = -1))) := by
          intro t
          induction t with
          | zero =>
            intro h2 S2 iv ht i0 i1 x2 o2 e13 e14 hw g2
            rw [i0 rfl]
            refine R_iload dX10_takes_52 rfl ?_
            refine R_if_lt (tgt := 89) dX10_takes_54 (by decide) (fun c54 => ?_) (fun c54 => ?_)
            -- X10_takes: ('branch', 54, 89, 57)
            · rcases hw with ⟨w1, w2⟩ | ⟨i, -, w2, w3, w4, w5⟩
              · refine R_aload_n dX10_takes_89 rfl ?_
                refine R_get K_10 (f := 15) (by decide) dX10_takes_90 f_RX10_46 x2.1 (fld_get (k := 15) (by decide) w2) ?_
                refine R_iconst (v := (-1)) dX10_takes_93 (by decide) ?_
                refine R_icmp_ne (tgt := 99) dX10_takes_94 (by decide) (fun c94 => ?_) (fun c94 => ?_)
                -- X10_takes: ('branch', 94, 99, 97)
                · exact absurd rfl c94
                · refine R_iconst (v := nI 0) dX10_takes_97 (by decide) ?_
                  refine R_ireturn dX10_takes_98 rfl rfl ?_
                  -- X10_takes: ('ret', 98)
                  exact ⟨g2, S2, x2, o2, e13, Or.inr (Or.inr ⟨hr.1, hr.2, fstB_n (fun j hj => decide_eq_false (fun z => z (w1 j (by omega) hj))), rfl, e14, w2⟩)⟩
              · refine R_aload_n dX10_takes_89 rfl ?_
                refine R_get K_10 (f := 15) (by decide) dX10_takes_90 f_RX10_46 x2.1 (fld_get (k := 15) (by decide) w5) ?_
                refine R_iconst (v := (-1)) dX10_takes_93 (by decide) ?_
                refine R_icmp_ne (tgt := 99) dX10_takes_94 (by decide) (fun c94 => ?_) (fun c94 => ?_)
                -- X10_takes: ('branch', 94, 99, 97)
                · refine R_aload_n dX10_takes_99 rfl ?_
                  refine R_iconst (v := nI 1) dX10_takes_100 (by decide) ?_
                  refine R_put_A K_10 (f := 14) (by decide) dX10_takes_101 f_RX10_140 rfl x2.1 (by rfl) (by rfl) (Nat.le_of_ble_eq_true rfl) ?_
                  -- X10_takes: ('put', 104)
                  intro h3 u3
                  have x3 := x2.put u3 (by decide)
                  refine R_bipush (v := (-31)) dX10_takes_104 (by decide) ?_
                  refine R_ireturn dX10_takes_106 rfl rfl ?_
                  -- X10_takes: ('ret', 106)
                  refine ⟨g2.trans (Out.upd u3 (by omega) (by omega)), _, x3, o2.put (by decide), e13, Or.inr (Or.inl ⟨hr.1, hr.2, i, ?_, rfl, rfl, w5⟩)⟩
                  have hb0 : badS tp i = none := fstB_n (fun j hj => decide_eq_false (fun z => z (w4 j (by omega) hj)))
                  exact fstB_at hb0 (decide_eq_true w3) w2
                · exact absurd c94 (nI_ne_m1 (n := i) (by omega))
            · exact absurd (by decide) c54
          | succ t ih =>
            intro h2 S2 iv ht i0 i1 x2 o2 e13 e14 hw g2
            obtain ⟨y, hy, hv, hy256, hlow⟩ := bad t (by omega)
            rw [i1 t rfl]
            have hv2 : S2.2 10 t = byI y := by rw [o2.1 10 (by decide)]; exact hv
            have nxt : ∀ h3 S3, MdAt E h3 M S3 → Ony [] [13, 14, 15] S S3 → S3.1 13 = nI 0 → S3.1 14 = nI 0 → ((∀ j, t ≤ j → j < n → isLow (tp.getD j 0)) ∧ S3.1 15 = -1 ∨ ∃ i, t ≤ i ∧ i < n ∧ ¬ isLow (tp.getD i 0) ∧ (∀ j, t ≤ j → j < i → isLow (tp.getD j 0)) ∧ S3.1 15 = nI i) → Out h h3 M (M + 23) → WP E k_X10_takes 2 0 0 83 [some (.ref M), some (.int (nI n)), some (.int (nI lo)), some (.int (nI hi)), some (.int (nI t))] [] h3 (fun v h' => Out h h' M (M + 23) ∧ ∃ S', MdAt E h' M S' ∧ Ony [] [13, 14, 15] S S' ∧ S'.1 13 = nI 0 ∧ ((¬ (lo ≤ n ∧ n ≤ hi) ∧ v = some (.int (-4)) ∧ S'.1 14 = nI 0 ∧ S'.1 15 = -1) ∨ (lo ≤ n ∧ n ≤ hi ∧ ∃ i, badS tp n = some i ∧ v = some (.int (-31)) ∧ S'.1 14 = nI 1 ∧ S'.1 15 = nI i) ∨ (lo ≤ n ∧ n ≤ hi ∧ badS tp n = none ∧ v = some (.int (nI 0)) ∧ S'.1 14 = nI 0 ∧ S'.1 15 = -1))) := by
              intro h3 S3 x3 o3 e13 e14 hw g3
              refine R_iinc4 dX10_takes_83 (by decide) rfl ?_
              refine R_goto (tgt := 52) dX10_takes_86 (by decide) ?_
              -- X10_takes: ('stop', 52)
              exact ih h3 S3 _ (by omega) (fun e => by rw [e]; decide) (fun j e => by rw [e]; exact nI_sub1 (a := j + 1) (by omega)) x3 o3 e13 e14 hw g3
            refine R_iload dX10_takes_52 rfl ?_
            refine R_if_lt_N (tgt := 89) dX10_takes_54 (by decide) (by omega) ?_
            refine R_aload_n dX10_takes_57 rfl ?_
            refine R_get K_10 (f := 12) (by decide) dX10_takes_58 f_RX10_42 x2.1 rfl ?_
            refine R_iload dX10_takes_61 rfl ?_
            refine R_baload_N dX10_takes_63 x2.a10 (by omega) (by omega) hv2 ?_
            refine R_i2l dX10_takes_64 ?_
            refine R_ldc2 dX10_takes_65 cl_RX10_143 ?_
            refine R_ldc2 dX10_takes_68 cl_RX10_145 ?_
            -- X10_takes: ('call', 71, '.invokestatic', 98)
            refine R_callS s_X10_isIn (Md_isIn (byI y) (nI 97) (nI 122) (by decide) (by decide)) dX10_takes_71 l_RX10_98 rfl rfl (Nat.le_of_ble_eq_true rfl) (by omega) rfl rfl (fun v h3 hq => ?_)
            obtain ⟨rfl, e9⟩ := hq
            rw [e9, if_iff (byI_low y hy256)]
            by_cases c : isLow y
            · rw [if_pos c]
              refine R_if_ne_N (tgt := 83) dX10_takes_74 (by decide) (by omega) (fun c74 => ?_) (fun c74 => ?_)
              -- X10_takes: ('branch', 74, 83, 77)
              · refine nxt h2 S2 x2 o2 e13 e14 ?_ g2
                rcases hw with ⟨w1, w2⟩ | ⟨i, w1, w2, w3, w4, w5⟩
                · refine Or.inl ⟨fun j hj hjn => ?_, w2⟩
                  by_cases e : j = t
                  · rw [e]; exact hlow.mpr c
                  · exact w1 j (by omega) hjn
                · refine Or.inr ⟨i, by omega, w2, w3, fun j hj hji => ?_, w5⟩
                  by_cases e : j = t
                  · rw [e]; exact hlow.mpr c
                  · exact w4 j (by omega) hji
              · exact absurd c74 (by decide)
            · rw [if_neg c]
              refine R_if_ne_N (tgt := 83) dX10_takes_74 (by decide) (by omega) (fun c74 => ?_) (fun c74 => ?_)
              -- X10_takes: ('branch', 74, 83, 77)
              · exact absurd rfl c74
              · refine R_aload_n dX10_takes_77 rfl ?_
                refine R_iload dX10_takes_78 rfl ?_
                refine R_put_A K_10 (f := 15) (by decide) dX10_takes_80 f_RX10_46 rfl x2.1 (by rfl) (by rfl) (Nat.le_of_ble_eq_true rfl) ?_
                -- X10_takes: ('put', 83)
                intro h3 u3
                have x3 := x2.put u3 (by decide)
                exact nxt h3 _ x3 (o2.put (by decide)) e13 e14 (Or.inr ⟨t, Nat.le_refl _, by omega, fun z => c (hlow.mp z), fun j hj hjt => absurd hj (by omega), rfl⟩) (g2.trans (Out.upd u3 (by omega) (by omega)))
        by_cases hn0 : n = 0
        · subst hn0
          refine R_iload_n dX10_takes_47 rfl ?_
          refine R_iconst (v := nI 1) dX10_takes_48 (by decide) ?_
          refine R_isub dX10_takes_49 ?_
          refine R_istore4 dX10_takes_50 (by decide) ?_
          -- X10_takes: ('stop', 52)
          exact loop 0 h5 _ _ (Nat.le_refl _) (fun _ => by decide) (fun j e => absurd e (by omega)) x5 o5 rfl rfl (Or.inl ⟨fun j _ hj => absurd hj (by omega), rfl⟩) g5
        · refine R_iload_n dX10_takes_47 rfl ?_
          refine R_iconst (v := nI 1) dX10_takes_48 (by decide) ?_
          refine R_isub_N dX10_takes_49 (by omega) ?_
          refine R_istore4 dX10_takes_50 (by decide) ?_
          -- X10_takes: ('stop', 52)
          exact loop n h5 _ _ (Nat.le_refl _) (fun e => absurd e hn0) (fun j e => by rw [e]; rfl) x5 o5 rfl rfl (Or.inl ⟨fun j h1 hj => absurd hj (by omega), rfl⟩) g5
      · exact absurd c41 (by decide)
    · rw [if_neg hr]
      refine R_if_ne_N (tgt := 47) dX10_takes_41 (by decide) (by omega) (fun c41 => ?_) (fun c41 => ?_)
      -- X10_takes: ('branch', 41, 47, 44)
      · exact absurd rfl c41
      · refine R_bipush (v := (-4)) dX10_takes_44 (by decide) ?_
        refine R_ireturn dX10_takes_46 rfl rfl ?_
        -- X10_takes: ('ret', 46)
        exact ⟨g5, _, x5, o5, rfl, Or.inl ⟨hr, rfl, rfl, rfl⟩⟩
  · exact absurd c11 (by decide)
end MD3
