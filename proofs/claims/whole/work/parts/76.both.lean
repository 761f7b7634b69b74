/-! BOTH: the program and its model, asked the same, answer the same -/
theorem Spec.imp {E : EnvT} {k : MI} {d mc ms : Nat} {as : List Value} {h : Hp} {Q Q' : Option Value → Hp → Prop} (x : Spec E k d mc ms as h Q) (hq : ∀ v h', Q v h' → Q' v h') : Spec E k d mc ms as h Q' := by
  intro p e ha hc hk s m args below hf happ hp hK
  obtain ⟨n, o, h1, h2, h3, ⟨v, h', e1, e2, e3⟩, h4⟩ := x p e ha hc hk s m args below hf happ hp hK
  exact ⟨n, o, h1, h2, h3, ⟨v, h', e1, e2, hq v h' e3⟩, h4⟩
def SOk (q : Pk) (ds : List Pk) (im : Nat → Pk) (md : Nat → Nat) : Prop := PkOk q ∧ (∀ d ∈ ds, PkOk d) ∧ ∀ i, i < 2 → md i = 1 → PkOk (im i)
def LSt (E : EnvT) (h : Hp) (X : Nat) : Prop := ∃ rd q ds im md tp ph fk fp, PPAt E h X rd q ds im md tp ph fk fp ∧ MMAt E h (X + 1830) q ds im md tp ph fk fp ∧ SOk q ds im md
def Ans (E : EnvT) (X : Nat) (kP kM : MI) (as : List Value) (h : Hp) : Prop := ∃ d, d ≤ 66 ∧ Spec E kP d 0 0 (.ref X :: as) h (fun v h1 => ∃ r : Int32, v = some (.int r) ∧ (∃ fs, h1.2 (X + 1830) = some (.inr (10, fs))) ∧ ∃ d2, d2 ≤ 67 ∧ Spec E kM d2 0 0 (.ref (X + 1830) :: as) h1 (fun v2 h2 => v2 = some (.int r) ∧ LSt E h2 X))
theorem stP_get {len m : Nat} {p : Int32} (h : stP len p m) : ∃ n, n < 2 ^ 31 ∧ p = nI n ∧ n + m ≤ len := by
  obtain ⟨n, hn, rfl⟩ := nI_of h.1
  exact ⟨n, hn, rfl, (stP_nI hn).mp h⟩
theorem hasP_get {len : Nat} {p : Int32} (h : hasP len p) : ∃ n, n < 2 ^ 31 ∧ p = nI n ∧ n < len := by
  obtain ⟨n, hn, rfl⟩ := nI_of h.1
  have h2 := h.2
  rw [nI_clamp hn] at h2
  exact ⟨n, hn, rfl, h2⟩
theorem pushD_ok {ds : List Pk} {q : Pk} (h : ∀ d ∈ ds, PkOk d) (hq : PkOk q) : ∀ d ∈ pushD ds q, PkOk d := by
  intro d hd
  rw [pushD] at hd
  rcases List.mem_append.mp (List.mem_of_mem_drop hd) with z | z
  · exact h d z
  · rw [List.mem_singleton.mp z]; exact hq
section BOTH
variable {E : EnvT} {h h1 : Hp} {X rd : Nat} {kP kM : MI} {as : List Value} {d d2 : Nat} {r : Int32} {q q2 : Pk} {ds ds2 : List Pk} {im im2 : Nat → Pk} {md md2 : Nat → Nat} {tp ph tp2 ph2 : List Nat} {fk fp fk2 fp2 : Int32}
theorem MMAt.ag {M : Nat} (y : MMAt E h M q ds im md tp ph fk fp) (o : Ag h h1 M (M + 23)) : MMAt E h1 M q ds im md tp ph fk fp := by
  obtain ⟨S, x, r⟩ := y
  exact ⟨S, x.ag o, r⟩
theorem MMAt.obj {M : Nat} (y : MMAt E h M q ds im md tp ph fk fp) : ∃ fs, h.2 M = some (.inr (10, fs)) := by
  obtain ⟨S, x, r⟩ := y
  exact ⟨_, x.1⟩
theorem MMAt.bytes {M : Nat} (y : MMAt E h M q ds im md tp ph fk fp) : ∀ c ∈ tp, c < 256 := by
  intro c hc
  obtain ⟨S, x, r⟩ := y
  obtain ⟨i, hi⟩ := List.getElem?_of_mem hc
  exact (r.2.2.2.1.2.2 i c hi).2
theorem SOk.deed (ok : SOk q ds im md) (h : PkOk q2) : SOk q2 (pushD ds q) im md := ⟨h, pushD_ok ok.2.1 ok.1, ok.2.2⟩
theorem ans1 (y : MMAt E h (X + 1830) q ds im md tp ph fk fp) (ok : SOk q2 ds2 im2 md2) (hd : d ≤ 66) (hd2 : d2 ≤ 67) (hP : Spec E kP d 0 0 (.ref X :: as) h (fun v h' => v = some (.int r) ∧ (∃ rd, PPAt E h' X rd q2 ds2 im2 md2 tp2 ph2 fk2 fp2) ∧ Out h h' X (X + 1830))) (hM : ∀ h1, MMAt E h1 (X + 1830) q ds im md tp ph fk fp → Spec E kM d2 0 0 (.ref (X + 1830) :: as) h1 (fun v h' => v = some (.int r) ∧ MMAt E h' (X + 1830) q2 ds2 im2 md2 tp2 ph2 fk2 fp2 ∧ Out h1 h' (X + 1830) (X + 1830 + 23))) : Ans E X kP kM as h :=
  ⟨d, hd, hP.imp (fun v h1 z => ⟨r, z.1, (y.ag (z.2.2.ag (by omega))).obj, d2, hd2, (hM h1 (y.ag (z.2.2.ag (by omega)))).imp (fun v2 h2 w => by
    obtain ⟨e, ⟨rd, x1⟩, o⟩ := z
    obtain ⟨e2, y2, o2⟩ := w
    exact ⟨e2, rd, _, _, _, _, _, _, _, _, x1.ag (o2.ag (by omega)), y2, ok⟩)⟩)⟩
theorem ans0 (x : PPAt E h X rd q ds im md tp ph fk fp) (y : MMAt E h (X + 1830) q ds im md tp ph fk fp) (ok : SOk q ds im md) (hd : d ≤ 66) (hd2 : d2 ≤ 67) (hP : Spec E kP d 0 0 (.ref X :: as) h (fun v h' => v = some (.int r) ∧ h' = h)) (hM : ∀ h1, MMAt E h1 (X + 1830) q ds im md tp ph fk fp → Spec E kM d2 0 0 (.ref (X + 1830) :: as) h1 (fun v h' => v = some (.int r) ∧ MMAt E h' (X + 1830) q ds im md tp ph fk fp ∧ Out h1 h' (X + 1830) (X + 1830 + 23))) : Ans E X kP kM as h :=
  ans1 y ok hd hd2 (hP.imp (fun v h1 z => ⟨z.1, by rw [z.2]; exact ⟨⟨rd, x⟩, Out.refl⟩⟩)) hM
theorem ans2 {rd2 : Nat} (y : MMAt E h (X + 1830) q ds im md tp ph fk fp) (ok : SOk q2 ds2 im2 md2) (hd : d ≤ 66) (hd2 : d2 ≤ 67) (hP : Spec E kP d 0 0 (.ref X :: as) h (fun v h' => v = some (.int r) ∧ PPAt E h' X rd2 q2 ds2 im2 md2 tp2 ph2 fk2 fp2 ∧ Out h h' X (X + 1830))) (hM : ∀ h1, MMAt E h1 (X + 1830) q ds im md tp ph fk fp → Spec E kM d2 0 0 (.ref (X + 1830) :: as) h1 (fun v h' => v = some (.int r) ∧ MMAt E h' (X + 1830) q2 ds2 im2 md2 tp2 ph2 fk2 fp2 ∧ Out h1 h' (X + 1830) (X + 1830 + 23))) : Ans E X kP kM as h :=
  ans1 y ok hd hd2 (hP.imp (fun v h1 z => ⟨z.1, ⟨rd2, z.2.1⟩, z.2.2⟩)) hM
theorem jn_ok (ok : SOk q ds im md) {a b : Nat} (hc : 0 < cntG q.1 a b) : SOk (jnE q ds a b).1 (jnE q ds a b).2 im md := by
  rw [jnE]
  cases hs : signS q.2 a b with
  | none => exact ok
  | some i => exact ok.deed (ok.1.join hs hc)
theorem step_ok (ok : SOk q ds im md) : SOk (stepE q ds).1 (stepE q ds).2 im md := by
  rw [stepE]
  cases hp : pickS q.1 with
  | none => exact ok
  | some p => exact jn_ok ok (by have := (pickS_some hp).2; omega)
theorem repl_ok (ok : SOk q ds im md) {a b : Nat} : SOk (replE q ds a b).1 (replE q ds a b).2 im md := by
  rw [replE]
  split
  · exact ok
  · exact jn_ok ok (by omega)
theorem letq_ok (hq : PkOk q) : PkOk (letL q.2 q.1, fun _ => []) := PkOk.lets letL_lt hq.len
theorem both_fault (z : LSt E h X) (w : Int32) : Ans E X k_X9_fault k_X10_fault [.int w] h := by
  obtain ⟨rd, q, ds, im, md, tp, ph, fk, fp, x, y, ok⟩ := z
  exact ans0 x y ok (by decide) (by decide) (PP_fault x w) (fun h1 y1 => MP_fault y1 w)
theorem both_sign (z : LSt E h X) (i : Int32) : Ans E X k_X9_sign k_X10_sign [.int i] h := by
  obtain ⟨rd, q, ds, im, md, tp, ph, fk, fp, x, y, ok⟩ := z
  exact ans0 x y ok (by decide) (by decide) (PP_sign x i) (fun h1 y1 => MP_sign y1 i)
theorem both_at (z : LSt E h X) (i : Int32) : Ans E X k_X9_at k_X10_at [.int i] h := by
  obtain ⟨rd, q, ds, im, md, tp, ph, fk, fp, x, y, ok⟩ := z
  exact ans1 y ok (by decide) (by decide) (PP_at x ok.1 i) (fun h1 y1 => MP_at y1 ok.1 i)
theorem both_within (z : LSt E h X) (i w : Int32) : Ans E X k_X9_within k_X10_within [.int i, .int w] h := by
  obtain ⟨rd, q, ds, im, md, tp, ph, fk, fp, x, y, ok⟩ := z
  exact ans1 y ok (by decide) (by decide) (PP_within x ok.1 i w) (fun h1 y1 => MP_within y1 ok.1 i w)
theorem both_common (z : LSt E h X) (i j : Int32) : Ans E X k_X9_common k_X10_common [.int i, .int j] h := by
  obtain ⟨rd, q, ds, im, md, tp, ph, fk, fp, x, y, ok⟩ := z
  exact ans1 y ok (by decide) (by decide) (PP_common x ok.1 i j) (fun h1 y1 => MP_common y1 ok.1 i j)
theorem both_compare (z : LSt E h X) (i j : Int32) : Ans E X k_X9_compare k_X10_compare [.int i, .int j] h := by
  obtain ⟨rd, q, ds, im, md, tp, ph, fk, fp, x, y, ok⟩ := z
  exact ans1 y ok (by decide) (by decide) (PP_compare x ok.1 i j) (fun h1 y1 => MP_compare y1 ok.1 i j)
theorem both_repeat (z : LSt E h X) : Ans E X k_X9_repeat k_X10_repeat [] h := by
  obtain ⟨rd, q, ds, im, md, tp, ph, fk, fp, x, y, ok⟩ := z
  exact ans1 y ok (by decide) (by decide) (PP_repeat x ok.1 ) (fun h1 y1 => MP_repeat y1 ok.1 )
theorem both_repeatAt (z : LSt E h X) : Ans E X k_X9_repeatAt k_X10_repeatAt [] h := by
  obtain ⟨rd, q, ds, im, md, tp, ph, fk, fp, x, y, ok⟩ := z
  exact ans1 y ok (by decide) (by decide) (PP_repeatAt x ok.1 ) (fun h1 y1 => MP_repeatAt y1 ok.1 )
theorem both_hits (z : LSt E h X) (w : Int32) : Ans E X k_X9_hits k_X10_hits [.int w] h := by
  obtain ⟨rd, q, ds, im, md, tp, ph, fk, fp, x, y, ok⟩ := z
  exact ans1 y ok (by decide) (by decide) (PP_hits x ok.1 w) (fun h1 y1 => MP_hits y1 ok.1 w)
theorem both_count (z : LSt E h X) (w : Int32) : Ans E X k_X9_count k_X10_count [.int w] h := by
  obtain ⟨rd, q, ds, im, md, tp, ph, fk, fp, x, y, ok⟩ := z
  exact ans1 y ok (by decide) (by decide) (PP_count x ok.1 w) (fun h1 y1 => MP_count y1 ok.1 w)
theorem both_bits (z : LSt E h X) (w : Int32) : Ans E X k_X9_bits k_X10_bits [.int w] h := by
  obtain ⟨rd, q, ds, im, md, tp, ph, fk, fp, x, y, ok⟩ := z
  exact ans1 y ok (by decide) (by decide) (PP_bits x ok.1 w) (fun h1 y1 => MP_bits y1 ok.1 w)
theorem both_coded (z : LSt E h X) (i : Int32) : Ans E X k_X9_coded k_X10_coded [.int i] h := by
  obtain ⟨rd, q, ds, im, md, tp, ph, fk, fp, x, y, ok⟩ := z
  exact ans1 y ok (by decide) (by decide) (PP_coded x i) (fun h1 y1 => MP_coded y1 ok.1 i)
theorem both_step (z : LSt E h X) : Ans E X k_X9_step k_X10_step [] h := by
  obtain ⟨rd, q, ds, im, md, tp, ph, fk, fp, x, y, ok⟩ := z
  exact ans1 y (step_ok ok) (by decide) (by decide) (PP_step x ok.1 ) (fun h1 y1 => MP_step y1 ok.1 )
theorem both_pack (z : LSt E h X) : Ans E X k_X9_pack k_X10_pack [] h := by
  obtain ⟨rd, q, ds, im, md, tp, ph, fk, fp, x, y, ok⟩ := z
  exact ans1 y (ok.deed (packF_ok ok.1)) (by decide) (by decide) (PP_pack x ok.1 ) (fun h1 y1 => MP_pack y1 ok.1 )
theorem both_trim (z : LSt E h X) : Ans E X k_X9_trim k_X10_trim [] h := by
  obtain ⟨rd, q, ds, im, md, tp, ph, fk, fp, x, y, ok⟩ := z
  exact ans1 y (ok.deed (trimF_ok ok.1)) (by decide) (by decide) (PP_trim x ok.1 ) (fun h1 y1 => MP_trim y1 ok.1 )
theorem both_unpack (z : LSt E h X) : Ans E X k_X9_unpack k_X10_unpack [] h := by
  obtain ⟨rd, q, ds, im, md, tp, ph, fk, fp, x, y, ok⟩ := z
  exact ans1 y (ok.deed (letq_ok ok.1)) (by decide) (by decide) (PP_unpack x ok.1 ) (fun h1 y1 => MP_unpack y1 ok.1 )
theorem both_feed (z : LSt E h X) (a b c d e : Int32) : Ans E X k_X9_feed k_X10_feed [.int a, .int b, .int c, .int d, .int e] h := by
  obtain ⟨rd, q, ds, im, md, tp, ph, fk, fp, x, y, ok⟩ := z
  by_cases hl : tp.length + 20 ≤ 260
  · exact ans1 y ok (by decide) (by decide) (PP_feed x a b c d e hl) (fun h1 y1 => MP_feed y1 a b c d e hl)
  · exact ans0 x y ok (by decide) (by decide) (PP_feed_no x a b c d e (by omega)) (fun h1 y1 => MP_feed_no y1 a b c d e (by omega))
theorem both_text (z : LSt E h X) (n : Int32) : Ans E X k_X9_text k_X10_text [.int n] h := by
  obtain ⟨rd, q, ds, im, md, tp, ph, fk, fp, x, y, ok⟩ := z
  have hb := y.bytes
  by_cases hn : stP tp.length n 0
  · obtain ⟨k, hk, rfl, hl⟩ := stP_get hn
    by_cases h2 : 240 < k
    · exact ans1 y ok (by decide) (by decide) (PP_text_no2 x hl h2) (fun h1 y1 => MP_text_no2 y1 hl h2)
    · cases hw : badS tp k with
      | none => exact ans1 y (ok.deed (PkOk.lets (tlets_lt hw hl) (by have := tlets_len (tp := tp) (n := k) hl; omega))) (by decide) (by decide) (PP_text x hb hl (by omega) hw) (fun h1 y1 => MP_text y1 hl (by omega) hw)
      | some i => exact ans1 y ok (by decide) (by decide) (PP_text_no3 x hb hl (by omega) hw) (fun h1 y1 => MP_text_no3 y1 hl (by omega) hw)
  · exact ans0 x y ok (by decide) (by decide) (PP_text_no1 x hn) (fun h1 y1 => MP_text_no1 y1 hn)
theorem both_phrase (z : LSt E h X) (n : Int32) : Ans E X k_X9_phrase k_X10_phrase [.int n] h := by
  obtain ⟨rd, q, ds, im, md, tp, ph, fk, fp, x, y, ok⟩ := z
  have hb := y.bytes
  by_cases hn : stP tp.length n 0
  · obtain ⟨k, hk, rfl, hl⟩ := stP_get hn
    by_cases h2 : k = 0 ∨ 20 < k
    · exact ans1 y ok (by decide) (by decide) (PP_phrase_no2 x hl h2) (fun h1 y1 => MP_phrase_no2 y1 hl h2)
    · cases hw : badS tp k with
      | none => exact ans1 y ok (by decide) (by decide) (PP_phrase x ok.1 hb hl (by omega) (by omega) hw) (fun h1 y1 => MP_phrase y1 ok.1 hl (by omega) (by omega) hw)
      | some i => exact ans1 y ok (by decide) (by decide) (PP_phrase_no3 x hb hl (by omega) (by omega) hw) (fun h1 y1 => MP_phrase_no3 y1 hl (by omega) (by omega) hw)
  · exact ans0 x y ok (by decide) (by decide) (PP_phrase_no1 x hn) (fun h1 y1 => MP_phrase_no1 y1 hn)
theorem both_load (z : LSt E h X) (n : Int32) : Ans E X k_X9_load k_X10_load [.int n] h := by
  obtain ⟨rd, q, ds, im, md, tp, ph, fk, fp, x, y, ok⟩ := z
  by_cases hn : stP tp.length n 0
  · obtain ⟨k, hk, rfl, hl⟩ := stP_get hn
    cases hf : rdForm tp k with
    | error e =>
      obtain ⟨e1, e2⟩ := e
      exact ans1 y ok (by decide) (by decide) (PP_load_no2 x hl hf) (fun h1 y1 => (Md_load y1 ok.1 hl).imp (fun v h' w => by
        obtain ⟨⟨S', x', w1, -⟩, g⟩ := w
        obtain ⟨w2, w3⟩ := w1 e1 e2 hf
        exact ⟨w2, ⟨S', x', w3⟩, g⟩))
    | ok q2 =>
      exact ans1 y (ok.deed (rdForm_ok hf)) (by decide) (by decide) (PP_load x hl hf) (fun h1 y1 => (Md_load y1 ok.1 hl).imp (fun v h' w => by
        obtain ⟨⟨S', x', -, w1⟩, g⟩ := w
        obtain ⟨w2, w3⟩ := w1 q2 hf
        exact ⟨w2, ⟨S', x', w3⟩, g⟩))
  · exact ans0 x y ok (by decide) (by decide) (PP_load_no1 x hn) (fun h1 y1 => MP_load_no1 y1 hn)
theorem both_replace (z : LSt E h X) (a b : Int32) : Ans E X k_X9_replace k_X10_replace [.int a, .int b] h := by
  obtain ⟨rd, q, ds, im, md, tp, ph, fk, fp, x, y, ok⟩ := z
  by_cases hn : sgI q.2 a ∧ sgI q.2 b
  · obtain ⟨a, rfl, ha, -⟩ := sgI_get hn.1
    obtain ⟨b, rfl, hb, -⟩ := sgI_get hn.2
    exact ans1 y (repl_ok ok) (by decide) (by decide) (PP_replace x ok.1 ha hb) (fun h1 y1 => MP_replace y1 ok.1 ha hb)
  · exact ans0 x y ok (by decide) (by decide) (PP_replace_no x hn) (fun h1 y1 => MP_replace_no y1 hn)
theorem both_pairs (z : LSt E h X) (a b : Int32) : Ans E X k_X9_pairs k_X10_pairs [.int a, .int b] h := by
  obtain ⟨rd, q, ds, im, md, tp, ph, fk, fp, x, y, ok⟩ := z
  by_cases hn : sgI q.2 a ∧ sgI q.2 b
  · obtain ⟨a, rfl, ha, -⟩ := sgI_get hn.1
    obtain ⟨b, rfl, hb, -⟩ := sgI_get hn.2
    exact ans1 y (ok) (by decide) (by decide) (PP_pairs x ok.1 ha hb) (fun h1 y1 => MP_pairs y1 ok.1 ha hb)
  · exact ans0 x y ok (by decide) (by decide) (PP_pairs_no x hn) (fun h1 y1 => MP_pairs_no y1 hn)
theorem both_gain (z : LSt E h X) (a b : Int32) : Ans E X k_X9_gain k_X10_gain [.int a, .int b] h := by
  obtain ⟨rd, q, ds, im, md, tp, ph, fk, fp, x, y, ok⟩ := z
  by_cases hn : sgI q.2 a ∧ sgI q.2 b
  · obtain ⟨a, rfl, ha, -⟩ := sgI_get hn.1
    obtain ⟨b, rfl, hb, -⟩ := sgI_get hn.2
    exact ans1 y (ok) (by decide) (by decide) (PP_gain x ok.1 ha hb) (fun h1 y1 => MP_gain y1 ok.1 ha hb)
  · exact ans0 x y ok (by decide) (by decide) (PP_gain_no x hn) (fun h1 y1 => MP_gain_no y1 hn)
theorem both_drop (z : LSt E h X) (s : Int32) : Ans E X k_X9_drop k_X10_drop [.int s] h := by
  obtain ⟨rd, q, ds, im, md, tp, ph, fk, fp, x, y, ok⟩ := z
  by_cases hn : rlI q.2 s
  · obtain ⟨s, rfl, hs⟩ := rlI_get hn
    by_cases hg : canGo q.2 s
    · exact ans1 y (ok.deed (ok.1.drop hs)) (by decide) (by decide) (PP_drop x ok.1 hs hg) (fun h1 y1 => MP_drop y1 ok.1 hs hg)
    · exact ans0 x y ok (by decide) (by decide) (PP_drop_cant x hs hg) (fun h1 y1 => MP_drop_cant y1 ok.1 hs hg)
  · exact ans0 x y ok (by decide) (by decide) (PP_drop_no x hn) (fun h1 y1 => MP_drop_no y1 hn)
theorem both_rule (z : LSt E h X) (s w : Int32) : Ans E X k_X9_rule k_X10_rule [.int s, .int w] h := by
  obtain ⟨rd, q, ds, im, md, tp, ph, fk, fp, x, y, ok⟩ := z
  by_cases hn : sgI q.2 s
  · obtain ⟨s, rfl, hs, -⟩ := sgI_get hn
    exact ans1 y ok (by decide) (by decide) (PP_rule x ok.1 hs w) (fun h1 y1 => MP_rule y1 ok.1 hs w)
  · exact ans0 x y ok (by decide) (by decide) (PP_rule_no x hn) (fun h1 y1 => MP_rule_no y1 hn)
theorem both_code (z : LSt E h X) (s w : Int32) : Ans E X k_X9_code k_X10_code [.int s, .int w] h := by
  obtain ⟨rd, q, ds, im, md, tp, ph, fk, fp, x, y, ok⟩ := z
  by_cases hn : sgI q.2 s
  · obtain ⟨s, rfl, hs, -⟩ := sgI_get hn
    exact ans1 y ok (by decide) (by decide) (PP_code x ok.1 hs w) (fun h1 y1 => MP_code y1 ok.1 hs w)
  · exact ans0 x y ok (by decide) (by decide) (PP_code_no x hn) (fun h1 y1 => MP_code_no y1 hn)
theorem both_word (z : LSt E h X) (s i : Int32) : Ans E X k_X9_word k_X10_word [.int s, .int i] h := by
  obtain ⟨rd, q, ds, im, md, tp, ph, fk, fp, x, y, ok⟩ := z
  by_cases hn : sgI q.2 s
  · by_cases hi : i < 0
    · exact ans0 x y ok (by decide) (by decide) (PP_word_neg x hn hi) (fun h1 y1 => MP_word_neg y1 hn hi)
    · obtain ⟨s, rfl, hs, -⟩ := sgI_get hn
      obtain ⟨i, hi2, rfl⟩ := nI_of hi
      exact ans1 y ok (by decide) (by decide) (PP_word x ok.1 hs hi2) (fun h1 y1 => MP_word y1 ok.1 hs hi2)
  · exact ans0 x y ok (by decide) (by decide) (PP_word_no x hn) (fun h1 y1 => MP_word_no y1 hn)
theorem both_way (z : LSt E h X) (p k : Int32) : Ans E X k_X9_way k_X10_way [.int p, .int k] h := by
  obtain ⟨rd, q, ds, im, md, tp, ph, fk, fp, x, y, ok⟩ := z
  by_cases hn : p < 0 ∨ k < 0
  · exact ans0 x y ok (by decide) (by decide) (PP_way_no hn) (fun h1 y1 => MP_way_no y1 hn)
  · obtain ⟨p, hp, rfl⟩ := nI_of (fun z => hn (Or.inl z))
    obtain ⟨k, hk, rfl⟩ := nI_of (fun z => hn (Or.inr z))
    exact ans1 y ok (by decide) (by decide) (PP_way x ok.1 hp hk) (fun h1 y1 => MP_way y1 ok.1 hp hk)
theorem both_ahead (z : LSt E h X) (c p : Int32) : Ans E X k_X9_ahead k_X10_ahead [.int c, .int p] h := by
  obtain ⟨rd, q, ds, im, md, tp, ph, fk, fp, x, y, ok⟩ := z
  by_cases hc : ltI c
  · obtain ⟨c, rfl, hc2⟩ := ltI_get hc
    by_cases hp : stP (letL q.2 q.1).length p 0
    · obtain ⟨p, hp2, rfl, hl⟩ := stP_get hp
      exact ans1 y ok (by decide) (by decide) (PP_ahead x ok.1 hc2 hl) (fun h1 y1 => MP_ahead y1 ok.1 hc2 hl)
    · exact ans1 y ok (by decide) (by decide) (PP_ahead_no2 x ok.1 hc2 hp) (fun h1 y1 => MP_ahead_no2 y1 ok.1 hc2 hp)
  · exact ans0 x y ok (by decide) (by decide) (PP_ahead_no1 hc) (fun h1 y1 => MP_ahead_no1 y1 hc)
theorem both_where (z : LSt E h X) (c k : Int32) : Ans E X k_X9_where k_X10_where [.int c, .int k] h := by
  obtain ⟨rd, q, ds, im, md, tp, ph, fk, fp, x, y, ok⟩ := z
  by_cases hc : ltI c
  · by_cases hk : k < 0
    · exact ans0 x y ok (by decide) (by decide) (PP_where_no2 hc hk) (fun h1 y1 => MP_where_no2 y1 hc hk)
    · obtain ⟨c, rfl, hc2⟩ := ltI_get hc
      obtain ⟨k, hk2, rfl⟩ := nI_of hk
      exact ans1 y ok (by decide) (by decide) (PP_where x ok.1 hc2 hk2) (fun h1 y1 => MP_where y1 ok.1 hc2 hk2)
  · exact ans0 x y ok (by decide) (by decide) (PP_where_no1 hc) (fun h1 y1 => MP_where_no1 y1 hc)
theorem both_print (z : LSt E h X) (p n : Int32) : Ans E X k_X9_print k_X10_print [.int p, .int n] h := by
  obtain ⟨rd, q, ds, im, md, tp, ph, fk, fp, x, y, ok⟩ := z
  by_cases hn : n < 0
  · exact ans0 x y ok (by decide) (by decide) (PP_print_no1 hn) (fun h1 y1 => MP_print_no1 y1 hn)
  · obtain ⟨n, hn2, rfl⟩ := nI_of hn
    by_cases hs : stP (letL q.2 q.1).length p n
    · obtain ⟨p, hp2, rfl, hl⟩ := stP_get hs
      exact ans1 y ok (by decide) (by decide) (PP_print x ok.1 hl) (fun h1 y1 => MP_print y1 ok.1 hl)
    · exact ans1 y ok (by decide) (by decide) (PP_print_no2 x ok.1 hn2 hs) (fun h1 y1 => MP_print_no2 y1 ok.1 hn2 hs)
theorem both_hit (z : LSt E h X) (k : Int32) : Ans E X k_X9_hit k_X10_hit [.int k] h := by
  obtain ⟨rd, q, ds, im, md, tp, ph, fk, fp, x, y, ok⟩ := z
  by_cases hk : k < 0
  · exact ans0 x y ok (by decide) (by decide) (PP_hit_no hk) (fun h1 y1 => MP_hit_no y1 hk)
  · obtain ⟨k, hk2, rfl⟩ := nI_of hk
    exact ans1 y ok (by decide) (by decide) (PP_hit x ok.1 hk2) (fun h1 y1 => MP_hit y1 ok.1 hk2)
theorem both_form (z : LSt E h X) (i : Int32) : Ans E X k_X9_form k_X10_form [.int i] h := by
  obtain ⟨rd, q, ds, im, md, tp, ph, fk, fp, x, y, ok⟩ := z
  by_cases hi : i < 0
  · exact ans0 x y ok (by decide) (by decide) (PP_form_no hi) (fun h1 y1 => MP_form_no y1 hi)
  · obtain ⟨i, hi2, rfl⟩ := nI_of hi
    exact ans1 y ok (by decide) (by decide) (PP_form x ok.1 hi2) (fun h1 y1 => MP_form y1 ok.1 hi2)
theorem both_undo (z : LSt E h X) (n : Int32) : Ans E X k_X9_undo k_X10_undo [.int n] h := by
  obtain ⟨rd, q, ds, im, md, tp, ph, fk, fp, x, y, ok⟩ := z
  by_cases hn : n < nI 1 ∨ nI ds.length < n
  · exact ans0 x y ok (by decide) (by decide) (PP_undo_no x hn) (fun h1 y1 => MP_undo_no y1 hn)
  · have h0 : ¬ n < 0 := fun z => hn (Or.inl (Int32.lt_trans z (by decide)))
    obtain ⟨n, hn2, rfl⟩ := nI_of h0
    have hdl : ds.length ≤ 10 := by
      obtain ⟨S, x0, r⟩ := y
      exact r.2.1.2.1
    rw [nI_ltI hn2 (by decide), nI_ltI (by omega) hn2] at hn
    obtain ⟨p, hp⟩ : ∃ p, ds[ds.length - n]? = some p := ⟨_, List.getElem?_eq_getElem (by omega)⟩
    exact ans2 y ⟨ok.2.1 p (List.mem_of_getElem? hp), fun d hd => ok.2.1 d (List.mem_of_mem_take hd), ok.2.2⟩ (by decide) (by decide) (PP_undo x (by omega) (by omega) hp) (fun h1 y1 => MP_undo y1 (by omega) (by omega) hp)
theorem both_image (z : LSt E h X) (i : Int32) : Ans E X k_X9_image k_X10_image [.int i] h := by
  obtain ⟨rd, q, ds, im, md, tp, ph, fk, fp, x, y, ok⟩ := z
  by_cases hn : nI 0 ≤ i ∧ i ≤ nI 1
  · obtain ⟨i, hi2, rfl⟩ := nI_of (Int32.not_lt.mpr hn.1)
    have hi := (in_iff (by decide) (by decide) hi2).mp hn
    exact ans2 y ⟨ok.1, ok.2.1, fun j hj hm => by
      by_cases e : j = i
      · rw [if_pos e]; exact ok.1
      · rw [if_neg e] at hm ⊢; exact ok.2.2 j hj hm⟩ (by decide) (by decide) (PP_image x (by omega)) (fun h1 y1 => MP_image y1 (by omega))
  · exact ans0 x y ok (by decide) (by decide) (PP_image_no hn) (fun h1 y1 => MP_image_no y1 hn)
theorem both_restore (z : LSt E h X) (i : Int32) : Ans E X k_X9_restore k_X10_restore [.int i] h := by
  obtain ⟨rd, q, ds, im, md, tp, ph, fk, fp, x, y, ok⟩ := z
  by_cases hn : nI 0 ≤ i ∧ i ≤ nI 1
  · obtain ⟨i, hi2, rfl⟩ := nI_of (Int32.not_lt.mpr hn.1)
    have hi := (in_iff (by decide) (by decide) hi2).mp hn
    have hm2 : md i < 2 := by
      obtain ⟨S, x0, r⟩ := y
      exact (r.2.2.1 i (by omega)).2.1
    by_cases hm : md i = 0
    · exact ans0 x y ok (by decide) (by decide) (PP_restore_no x (by omega) hm) (fun h1 y1 => MP_restore_no2 y1 (by omega) hm)
    · exact ans2 y ⟨ok.2.2 i (by omega) (by omega), fun d hd => absurd hd List.not_mem_nil, ok.2.2⟩ (by decide) (by decide) (PP_restore x (by omega) (by omega)) (fun h1 y1 => MP_restore y1 (by omega) (by omega))
  · exact ans0 x y ok (by decide) (by decide) (PP_restore_bad hn) (fun h1 y1 => MP_restore_no1 y1 hn)
theorem both_best (z : LSt E h X) (k : Int32) : Ans E X k_X9_best k_X10_best [.int k] h := by
  obtain ⟨rd, q, ds, im, md, tp, ph, fk, fp, x, y, ok⟩ := z
  by_cases hk : k < 0 ∨ nI 2 < k
  · exact ans0 x y ok (by decide) (by decide) (PP_best_no hk) (fun h1 y1 => MP_best_no y1 hk)
  · obtain ⟨k, hk2, rfl⟩ := nI_of (fun z => hk (Or.inl z))
    have hk3 : k ≤ 2 := by
      have : ¬ nI 2 < nI k := fun z => hk (Or.inr z)
      rw [nI_ltI (by decide) hk2] at this
      omega
    refine ⟨6, by decide, (PP_best x ok.1 hk3).imp (fun v h1 w => ?_)⟩
    obtain ⟨⟨n, e, hb⟩, ⟨rd2, x1⟩, o1⟩ := w
    refine ⟨nI n, e, (y.ag (o1.ag (by omega))).obj, 8, by decide, (MP_best (y.ag (o1.ag (by omega))) ok.1 hk3).imp (fun v2 h2 w2 => ?_)⟩
    obtain ⟨⟨n2, e2, hb2⟩, y2, o2⟩ := w2
    rw [hb.uniq hb2]
    exact ⟨e2, rd2, _, _, _, _, _, _, _, _, x1.ag (o2.ag (by omega)), y2, ok⟩
theorem both_pick (z : LSt E h X) (i : Int32) : Ans E X k_X9_pick k_X10_pick [.int i] h := by
  obtain ⟨rd, q, ds, im, md, tp, ph, fk, fp, x, y, ok⟩ := z
  by_cases hi : i < 0
  · exact ans0 x y ok (by decide) (by decide) (PP_pick_no hi) (fun h1 y1 => MP_pick_no y1 hi)
  · obtain ⟨i, hi2, rfl⟩ := nI_of hi
    refine ⟨5, by decide, (PP_pick x ok.1 hi2).imp (fun v h1 w => ?_)⟩
    obtain ⟨⟨n, e, hb⟩, ⟨rd2, x1⟩, o1⟩ := w
    refine ⟨_, e, (y.ag (o1.ag (by omega))).obj, 3, by decide, (MP_pick (y.ag (o1.ag (by omega))) ok.1 hi2).imp (fun v2 h2 w2 => ?_)⟩
    obtain ⟨⟨n2, e2, hb2⟩, y2, o2⟩ := w2
    rw [hb.uniq hb2]
    exact ⟨e2, rd2, _, _, _, _, _, _, _, _, x1.ag (o2.ag (by omega)), y2, ok⟩
theorem both_put (z : LSt E h X) (p c : Int32) : Ans E X k_X9_put k_X10_put [.int p, .int c] h := by
  obtain ⟨rd, q, ds, im, md, tp, ph, fk, fp, x, y, ok⟩ := z
  have hll := letL_len (ru := q.2) (q := q.1)
  by_cases hc : ltI c
  · obtain ⟨c, rfl, hc2⟩ := ltI_get hc
    by_cases hp : hasP (letL q.2 q.1).length p
    · obtain ⟨p, hp2, rfl, hl⟩ := hasP_get hp
      obtain ⟨l0, hl0⟩ := getE hl
      refine ⟨6, by decide, (PP_put x ok.1 hc2 hl0).imp (fun v h1 w => ?_)⟩
      obtain ⟨e, ⟨sq, i, j, ho, rd2, x1⟩, o1⟩ := w
      refine ⟨_, e, (y.ag (o1.ag (by omega))).obj, 67, by decide, (MP_put (y.ag (o1.ag (by omega))) ok.1 hc2 hl0).imp (fun v2 h2 w2 => ?_)⟩
      obtain ⟨e2, ⟨sq2, i2, j2, ho2, y2⟩, o2⟩ := w2
      obtain ⟨rfl, rfl, rfl⟩ := ho.uniq ho2
      exact ⟨e2, rd2, _, _, _, _, _, _, _, _, x1.ag (o2.ag (by omega)), y2, ok.deed (put_ok ok.1 (by omega) ho hc2).2.2.2⟩
    · exact ans1 y ok (by decide) (by decide) (PP_put_no2 x ok.1 hc2 hp) (fun h1 y1 => MP_put_no2 y1 ok.1 hc2 hp)
  · exact ans0 x y ok (by decide) (by decide) (PP_put_no1 hc) (fun h1 y1 => MP_put_no1 y1 hc)
theorem both_cut (z : LSt E h X) (p n : Int32) : Ans E X k_X9_cut k_X10_cut [.int p, .int n] h := by
  obtain ⟨rd, q, ds, im, md, tp, ph, fk, fp, x, y, ok⟩ := z
  have hll := letL_len (ru := q.2) (q := q.1)
  by_cases hn : n < nI 1
  · exact ans0 x y ok (by decide) (by decide) (PP_cut_no1 hn) (fun h1 y1 => MP_cut_no1 y1 hn)
  · have h0 : ¬ n < 0 := fun z => hn (Int32.lt_trans z (by decide))
    obtain ⟨n, hn2, rfl⟩ := nI_of h0
    rw [nI_ltI hn2 (by decide)] at hn
    by_cases hs : stP (letL q.2 q.1).length p n
    · obtain ⟨p, hp2, rfl, hl⟩ := stP_get hs
      refine ⟨7, by decide, (PP_cut x ok.1 (by omega) hl).imp (fun v h1 w => ?_)⟩
      obtain ⟨e, ⟨sq, i, j, ho, rd2, x1⟩, o1⟩ := w
      refine ⟨_, e, (y.ag (o1.ag (by omega))).obj, 67, by decide, (MP_cut (y.ag (o1.ag (by omega))) ok.1 (by omega) hl).imp (fun v2 h2 w2 => ?_)⟩
      obtain ⟨e2, ⟨sq2, i2, j2, ho2, y2⟩, o2⟩ := w2
      obtain ⟨rfl, rfl, rfl⟩ := ho.uniq ho2
      exact ⟨e2, rd2, _, _, _, _, _, _, _, _, x1.ag (o2.ag (by omega)), y2, ok.deed (cut_ok ok.1 (by omega) ho).2.2.1⟩
    · exact ans1 y ok (by decide) (by decide) (PP_cut_no2 x ok.1 (by omega) hn2 hs) (fun h1 y1 => MP_cut_no2 y1 ok.1 (by omega) hn2 hs)
theorem both_insert (z : LSt E h X) (p c : Int32) : Ans E X k_X9_insert k_X10_insert [.int p, .int c] h := by
  obtain ⟨rd, q, ds, im, md, tp, ph, fk, fp, x, y, ok⟩ := z
  have hll := letL_len (ru := q.2) (q := q.1)
  have hlen := ok.1.len
  by_cases hc : ltI c
  · obtain ⟨c, rfl, hc2⟩ := ltI_get hc
    by_cases hp : stP (letL q.2 q.1).length p 0
    · obtain ⟨p, hp2, rfl, hl⟩ := stP_get hp
      by_cases h2 : (letL q.2 q.1).length = 240
      · exact ans1 y ok (by decide) (by decide) (PP_insert_no3 x ok.1 hc2 hl h2) (fun h1 y1 => MP_insert_no3 y1 ok.1 hc2 hl h2)
      · refine ⟨7, by decide, (PP_insert x ok.1 hc2 hl (by omega)).imp (fun v h1 w => ?_)⟩
        obtain ⟨e, ⟨n, sq, i, ho, rd2, x1⟩, o1⟩ := w
        refine ⟨_, e, (y.ag (o1.ag (by omega))).obj, 67, by decide, (MP_insert (y.ag (o1.ag (by omega))) ok.1 hc2 hl (by omega)).imp (fun v2 h2 w2 => ?_)⟩
        obtain ⟨e2, ⟨n2, sq2, i2, ho2, y2⟩, o2⟩ := w2
        cases opD_uniq ho ho2
        exact ⟨e2, rd2, _, _, _, _, _, _, _, _, x1.ag (o2.ag (by omega)), y2, ok.deed (ins_ok ok.1 (by omega) (by omega) ho hc2).2.2.1⟩
    · exact ans1 y ok (by decide) (by decide) (PP_insert_no2 x ok.1 hc2 hp) (fun h1 y1 => MP_insert_no2 y1 ok.1 hc2 hp)
  · exact ans0 x y ok (by decide) (by decide) (PP_insert_no1 hc) (fun h1 y1 => MP_insert_no1 y1 hc)
end BOTH
