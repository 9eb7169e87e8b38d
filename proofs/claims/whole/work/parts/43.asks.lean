/-! the reference: what shakes later -/
def mth (es es0 : ax_H) : Prop := (∀ j, j ≠ 159 → es0 j = es j) ∧ ∀ th tp sz at0 fl cd nm rm on fh un g, es 159 = .inr (11, mo_f th tp sz at0 fl cd nm rm on fh un g) → ∃ th' g', es0 159 = .inr (11, mo_f th' tp sz at0 fl cd nm rm on fh un g')
def mfq (st st' : Nat → Int32) : Prop := ∀ j, j < 1092 → st' j = st j
theorem mfq_rf (st : Nat → Int32) : mfq st st := fun _ _ => rfl
theorem mfq_trans {a b c : Nat → Int32} (h1 : mfq a b) (h2 : mfq b c) : mfq a c := fun j hj => (h2 j hj).trans (h1 j hj)
theorem mfs_q {a b : Nat → Int32} {x : Nat} (hx : 1092 ≤ x) (h : mfs x a b) : mfq a b := fun j hj => h j (by omega)
/-- what all have done is little -/
def zdn (p T : Nat) (dn : Nat → Int32) : Prop := ∀ i, i < p → ∃ v, v ≤ 200 * T ∧ dn i = nI v
def mZ (es : ax_H) (n : Nat) (st : Nat → Int32) (k p hc : Nat) (kd pm ht hs : Nat → Int32) (F1 F2 : Int32 → Int32 → Int32 → Int32 → Int32) (T C : Nat) (sh pl dn : Nat → Int32) : Prop := mE es n k p hc kd pm ht hs F1 F2 ∧ mS es st 0 k p T C sh pl dn ∧ T < 1000 ∧ zdn p T dn ∧ ∃ al, es 176 = .inl (0, 1200, .inl al)
/-- what an asking leaves as it is -/
def mq (es : ax_H) (st : Nat → Int32) (es' : ax_H) : Prop := (∀ j, j ≠ 159 ∧ j ≠ 171 ∧ j ≠ 172 ∧ j ≠ 173 ∧ j ≠ 175 ∧ j ≠ 176 → es' j = es j) ∧ (∀ th tp sz at0 fl cd nm rm on fh un g, es 159 = .inr (11, mo_f th tp sz at0 fl cd nm rm on fh un g) → ∃ th' g', es' 159 = .inr (11, mo_f th' tp sz at0 fl cd nm rm on fh un g')) ∧ ∃ st', mX es' st' ∧ mfq st st' ∧ ∃ al, es' 176 = .inl (0, 1200, .inl al)
theorem mq_of {es es0 es' : ax_H} {st st' : Nat → Int32} (h0 : mth es es0) (hf : mfr es0 es') (hX : mX es' st') (hq : mfq st st') (hA : ∃ al, es 176 = .inl (0, 1200, .inl al)) : mq es st es' := by
  refine ⟨fun j hj => (hf j ⟨hj.2.1, hj.2.2.1, hj.2.2.2.1, hj.2.2.2.2.1⟩).trans (h0.1 j hj.1), ?_, st', hX, hq, ?_⟩
  · intro th tp sz at0 fl cd nm rm on fh un g h
    obtain ⟨th', g', e⟩ := h0.2 th tp sz at0 fl cd nm rm on fh un g h
    exact ⟨th', g', (hf 159 (by decide)).trans e⟩
  · obtain ⟨al, h⟩ := hA
    exact ⟨al, ((hf 176 (by decide)).trans (h0.1 176 (by decide))).trans h⟩
theorem kx_in_nI {v : Int32} {a b : Nat} (ha : a < 2 ^ 31) (hb : b < 2 ^ 31) (h : kx_in v (nI a) (nI b) = true) : ∃ m, a ≤ m ∧ m ≤ b ∧ v = nI m := by
  unfold kx_in at h
  simp only [Bool.and_eq_true, decide_eq_true_eq] at h
  obtain ⟨h1, h2⟩ := h
  rw [Int32.le_iff_toInt_le, nI_toInt ha] at h1
  rw [Int32.le_iff_toInt_le, nI_toInt hb] at h2
  refine ⟨v.toInt.toNat, by omega, by omega, ?_⟩
  apply Int32.toInt_inj.mp
  rw [nI_toInt (by omega)]
  omega
theorem kx_op_nI {k C : Nat} {c : Int32} (hk : k ≤ 12) (h : kx_op k (nI C) c = true) : ∃ c', c' < k ∧ c = nI c' ∧ C.testBit c' = false := by
  unfold kx_op at h
  simp only [Bool.and_eq_true, Bool.not_eq_true'] at h
  obtain ⟨h1, h2⟩ := h
  obtain ⟨c', hc', rfl⟩ := kx_cell_in (by omega) h1
  rw [kc_ck (by omega)] at h2
  exact ⟨c', hc', rfl, h2⟩
def zq_later (F1 : Int32 → Int32 → Int32 → Int32 → Int32) (k : Nat) (cr : Int32) (hs : Nat → Int32) (hc T : Nat) (sh : Nat → Int32) (c b : Int32) : Int32 := if kx_op k cr c = true ∧ kx_in b 0 60 = true then kx_dr F1 k cr hs hc T sh b.toNatClampNeg c.toNatClampNeg else -1
def zq_peak (F1 : Int32 → Int32 → Int32 → Int32 → Int32) (k : Nat) (cr : Int32) (hs : Nat → Int32) (hc T : Nat) (sh : Nat → Int32) (c : Int32) : Int32 := if kx_op k cr c = true then (kx_peak (fun m => kx_dr F1 k cr hs hc T sh m c.toNatClampNeg) 60).2 else -1
def zq_rises (F1 : Int32 → Int32 → Int32 → Int32 → Int32) (k : Nat) (cr : Int32) (hs : Nat → Int32) (hc T : Nat) (sh : Nat → Int32) (c : Int32) : Int32 := if kx_op k cr c = true then kx_rises (fun m => kx_dr F1 k cr hs hc T sh m c.toNatClampNeg) 20 else -1
def zq_total (D : Nat → Nat → Int32) (p : Nat) (dn : Nat → Int32) (c b : Int32) : Int32 := if kx_cell p c = true ∧ kx_in b 1 60 = true then kx_pdn D p dn b.toNatClampNeg c.toNatClampNeg - dn c.toNatClampNeg else -1
def zq_calmest (F1 : Int32 → Int32 → Int32 → Int32 → Int32) (k : Nat) (cr : Int32) (hs : Nat → Int32) (hc T : Nat) (sh : Nat → Int32) (b : Int32) : Int32 := if kx_in b 0 60 = true then kx_quiet cr (kx_dr F1 k cr hs hc T sh b.toNatClampNeg) k else -1
section MM
variable {d n sl k p hc : Nat} {es : ax_H} {kd pm ht hs : Nat → Int32} {F1 F2 : Int32 → Int32 → Int32 → Int32 → Int32} {st : Nat → Int32} {b T C : Nat} {sh pl dn : Nat → Int32} {Q : Option Value → ax_H → Prop}
theorem mK_th {es0 : ax_H} (h : mK es k p hc kd pm ht hs F1 F2) (h0 : mth es es0) : mK es0 k p hc kd pm ht hs F1 F2 := by
  obtain ⟨⟨th, tp, sz, at0, fl, cd, nm, rm, on, fh, un, g, h9⟩, ct, op, ar, h1, h2, h3, h4⟩ := h
  obtain ⟨th', g', e⟩ := h0.2 _ _ _ _ _ _ _ _ _ _ _ _ h9
  exact ⟨⟨th', tp, sz, at0, fl, cd, nm, rm, on, fh, un, g', e⟩, ct, op, ar, by rw [h0.1 165 (by decide)]; exact h1, by rw [h0.1 166 (by decide)]; exact h2, by rw [h0.1 167 (by decide)]; exact h3, h4⟩
theorem mX_th {es0 : ax_H} (h : mX es st) (h0 : mth es es0) : mX es0 st := by
  obtain ⟨h1, ⟨fa, h2⟩, ⟨pi, h3⟩, wa, h4⟩ := h
  exact ⟨(h0.1 173 (by decide)).trans h1, ⟨fa, (h0.1 171 (by decide)).trans h2⟩, ⟨pi, (h0.1 172 (by decide)).trans h3⟩, wa, (h0.1 175 (by decide)).trans h4⟩
theorem mE_th {es0 : ax_H} (h : mE es n k p hc kd pm ht hs F1 F2) (h0 : mth es es0) : mE es0 n k p hc kd pm ht hs F1 F2 := by
  obtain ⟨h1, h2, h3, h4, h5, h6⟩ := h
  exact ⟨h1, h2, h3, h4, h5, mK_th h6 h0⟩
theorem mS_th {es0 : ax_H} (h : mS es st b k p T C sh pl dn) (h0 : mth es es0) : mS es0 st b k p T C sh pl dn := ⟨mX_th h.1 h0, h.2⟩
theorem mS_q {es' : ax_H} {st' : Nat → Int32} (E : mE es n k p hc kd pm ht hs F1 F2) (S : mS es st 0 k p T C sh pl dn) (hf : mfq st st') (hX : mX es' st') : mS es' st' 0 k p T C sh pl dn := by
  obtain ⟨-, ⟨h1, h2, h3, h4, h5⟩, hv⟩ := S
  have hk := E.2.1.2
  have hp := E.2.2.1
  exact ⟨hX, ⟨by rw [hf _ (by omega)]; exact h1, by rw [hf _ (by omega)]; exact h2, fun c hc => by rw [hf _ (by omega)]; exact h3 c hc, fun i hi => by rw [hf _ (by omega)]; exact h4 i hi, fun i hi => by rw [hf _ (by omega)]; exact h5 i hi⟩, hv⟩
/-- every public method of the reference begins so -/
theorem mk_thrown {nb sb M pc : Nat} {rest : List (Nat × Instr)} {ls : ax_L} {Q' : ax_Q} (hal : ax_al n = 178) (hO : mO es) (hl : ls[0]? = some (some (.ref 159))) (h : ∀ es0, mth es es0 → ax_W d nb sb M rest (pc + 1 + 1 + 3) ls [] n sl es0 Q') : ax_W d nb sb M ((1, .aload 0) :: (1, .iconst 0) :: (3, .putfield 2816) :: rest) pc ls [] n sl es Q' := by
  obtain ⟨th, tp, sz, at0, fl, cd, nm, rm, on, fh, un, g, h0⟩ := hO
  simp only [ax_W_cons, ax_I, ax_cmp, ax_ii, ax_ll, ax_li, ax_st1, ax_st2, ax_kl, ax_k2, ax_fit, ax_rtok, List.getElem?_cons_zero, List.getElem?_cons_succ, List.length_cons, List.length_nil, List.set_cons_zero, List.set_cons_succ, Nat.reduceAdd, Nat.reduceDiv, Nat.reduceMod, Nat.reduceMul, Nat.reduceLT, Nat.reduceLeDiff, Int32.reduceOfInt, Int64.reduceOfInt, true_and, and_true, and_self, true_or, or_true, false_implies, true_implies, not_false_eq_true, not_true_eq_false, Value.category, Nat.reduceEqDiff, Option.toList, List.cons_append, List.nil_append, List.drop_succ_cons, List.drop_zero, ax_qq_eq, ax_t_1408, hl, h0, mo_f, hal]
  refine h _ ⟨fun j hj => ax_up_ne _ _ hj, fun th1 tp1 sz1 at1 fl1 cd1 nm1 rm1 on1 fh1 un1 g1 h1 => ⟨0, g1, ?_⟩⟩
  rw [ax_up_same]
  rw [h0] at h1
  simp only [mo_f, Sum.inr.injEq, Prod.mk.injEq, true_and, List.cons.injEq, Value.int.injEq, Value.long.injEq, and_true] at h1
  obtain ⟨-, rfl, rfl, rfl, rfl, rfl, rfl, rfl, rfl, rfl, rfl, rfl⟩ := h1
  rfl
theorem mk_within (v a c : Int32) (hQ : Q (some (.int (kx_b (kx_in v a c)))) es) : ax_Mt d 1424 [.int v, .int a, .int c] n sl es Q := by
  refine ax_Mt_go (m := ax_m_11_16) (ls := [some (.int v), some (.int a), some (.int c)]) rfl ax_b_1424_0 (Nat.le_of_ble_eq_true rfl) rfl ?_
  simp only [ax_W_cons, ax_I, ax_cmp, ax_ii, ax_ll, ax_li, ax_st1, ax_st2, ax_kl, ax_k2, ax_fit, ax_rtok, List.getElem?_cons_zero, List.getElem?_cons_succ, List.length_cons, List.length_nil, List.set_cons_zero, List.set_cons_succ, Nat.reduceAdd, Nat.reduceDiv, Nat.reduceMod, Nat.reduceMul, Nat.reduceLT, Nat.reduceLeDiff, Int32.reduceOfInt, Int64.reduceOfInt, true_and, and_true, and_self, true_or, or_true, false_implies, true_implies, not_false_eq_true, not_true_eq_false, Value.category, Nat.reduceEqDiff, Option.toList, List.cons_append, List.nil_append, List.drop_succ_cons, List.drop_zero, ax_qq_eq, ax_t_1424, ax_j_1424_14, ax_n_1424_14, ax_j_1424_15, ax_n_1424_15]
  refine ⟨fun h => ?_, fun h => ⟨fun h2 => ?_, fun h2 => ?_⟩⟩
  · have h := kx_lt_nle h
    simp only [kx_in, h, decide_false, Bool.false_and] at hQ
    exact hQ
  · have h2 := kx_lt_nle h2
    simp only [kx_in, h2, decide_false, Bool.and_false] at hQ
    exact hQ
  · rw [kx_nlt] at h h2
    simp only [kx_in, h, h2, decide_true, Bool.and_self] at hQ
    exact hQ
theorem mk_whole (E : mE es n k p hc kd pm ht hs F1 F2) (S : mS es st b k p T C sh pl dn) (hb : b + 52 ≤ 1196) (c : Int32) (hQ : Q (some (.int (kx_b (kx_op k (nI C) c)))) es) : ax_Mt (d + 2) 1456 [.ref 159, .int (nI b), .int c] n sl es Q := by
  obtain ⟨hal, hk, hp, hhs, hF, hK⟩ := E
  exact mk_isWhole hal hk.2 hK S.1 hb S.2.1.2.1 (zv_C12 hk.2 S.2.2) c hQ
theorem mp_later (Z : mZ es n st k p hc kd pm ht hs F1 F2 T C sh pl dn) (c m : Int32) (hQ : ∀ es', mq es st es' → Q (some (.int (zq_later F1 k (nI C) hs hc T sh c m))) es') : ax_Mt (d + 10) 1485 [.ref 159, .int c, .int m] n sl es Q := by
  obtain ⟨E, S, hT, hdn, hA⟩ := Z
  obtain ⟨hal, hk, hp, hhs, hF, hK⟩ := id E
  unfold zq_later at hQ
  refine ax_Mt_go (m := ax_m_11_77) (ls := [some (.ref 159), some (.int c), some (.int m)]) rfl ax_b_1485_0 (Nat.le_of_ble_eq_true rfl) rfl ?_
  refine mk_thrown hal hK.1 rfl ?_
  intro es0 h0
  have E0 := mE_th E h0
  have S0 := mS_th S h0
  simp only [ax_W_cons, ax_I, ax_cmp, ax_ii, ax_ll, ax_li, ax_st1, ax_st2, ax_kl, ax_k2, ax_fit, ax_rtok, List.getElem?_cons_zero, List.getElem?_cons_succ, List.length_cons, List.length_nil, List.set_cons_zero, List.set_cons_succ, Nat.reduceAdd, Nat.reduceDiv, Nat.reduceMod, Nat.reduceMul, Nat.reduceLT, Nat.reduceLeDiff, Int32.reduceOfInt, Int64.reduceOfInt, true_and, and_true, and_self, true_or, or_true, false_implies, true_implies, not_false_eq_true, not_true_eq_false, Value.category, Nat.reduceEqDiff, Option.toList, List.cons_append, List.nil_append, List.drop_succ_cons, List.drop_zero, ax_qq_eq, ax_t_1485]
  refine ax_inv_of (Nat.le_of_ble_eq_true rfl) (Nat.le_of_ble_eq_true rfl) (fun _ => mE_rcv E0 _) (fun h => absurd h (by decide)) (Nat.le_refl _) (Nat.le_refl _) (mk_whole E0 S0 (b := 0) (by omega) c ?_)
  simp only [ax_W_cons, ax_I, ax_cmp, ax_ii, ax_ll, ax_li, ax_st1, ax_st2, ax_kl, ax_k2, ax_fit, ax_rtok, List.getElem?_cons_zero, List.getElem?_cons_succ, List.length_cons, List.length_nil, List.set_cons_zero, List.set_cons_succ, Nat.reduceAdd, Nat.reduceDiv, Nat.reduceMod, Nat.reduceMul, Nat.reduceLT, Nat.reduceLeDiff, Int32.reduceOfInt, Int64.reduceOfInt, true_and, and_true, and_self, true_or, or_true, false_implies, true_implies, not_false_eq_true, not_true_eq_false, Value.category, Nat.reduceEqDiff, Option.toList, List.cons_append, List.nil_append, List.drop_succ_cons, List.drop_zero, ax_qq_eq, ax_t_1485, ax_j_1485_24, ax_n_1485_24, kx_b0]
  refine ⟨fun h => ?_, fun h => ?_⟩
  · rw [if_neg (fun z => by rw [h] at z; exact absurd z.1 (by decide))] at hQ
    exact hQ _ (mq_of h0 (mfr_rf _) S0.1 (mfq_rf _) hA)
  · have h : kx_op k (nI C) c = true := by simpa using h
    refine ax_inv_of (Nat.le_of_ble_eq_true rfl) (Nat.le_of_ble_eq_true rfl) (fun _ => absurd ‹_› (by decide)) (fun h => absurd h (by decide)) (Nat.le_refl _) (Nat.le_refl _) (mk_within _ _ _ ?_)
    simp only [ax_W_cons, ax_I, ax_cmp, ax_ii, ax_ll, ax_li, ax_st1, ax_st2, ax_kl, ax_k2, ax_fit, ax_rtok, List.getElem?_cons_zero, List.getElem?_cons_succ, List.length_cons, List.length_nil, List.set_cons_zero, List.set_cons_succ, Nat.reduceAdd, Nat.reduceDiv, Nat.reduceMod, Nat.reduceMul, Nat.reduceLT, Nat.reduceLeDiff, Int32.reduceOfInt, Int64.reduceOfInt, true_and, and_true, and_self, true_or, or_true, false_implies, true_implies, not_false_eq_true, not_true_eq_false, Value.category, Nat.reduceEqDiff, Option.toList, List.cons_append, List.nil_append, List.drop_succ_cons, List.drop_zero, ax_qq_eq, ax_t_1485, ax_j_1485_24, ax_n_1485_24, ax_j_1485_26, ax_n_1485_26, kx_b0]
    refine ⟨fun h2 => ?_, fun h2 => ?_⟩
    · have h2 : kx_in m 0 60 = true := by simpa using h2
      rw [if_pos ⟨h, h2⟩] at hQ
      obtain ⟨c', hc', rfl, hB⟩ := kx_op_nI hk.2 h
      obtain ⟨m', -, hm', rfl⟩ := kx_in_nI (a := 0) (b := 60) (by decide) (by decide) h2
      rw [nI_clamp (by omega), nI_clamp (by omega)] at hQ
      refine ax_inv_of (Nat.le_of_ble_eq_true rfl) (Nat.le_of_ble_eq_true rfl) (fun _ => mE_rcv E0 _) (fun h => absurd h (by decide)) (Nat.le_refl _) (Nat.le_refl _) (mk_tries E0 S0 ?_)
      intro es1 st1 f1 f2 f3 f4
      have E1 := mE_fr E0 f1
      simp only [ax_W_cons, ax_I, ax_cmp, ax_ii, ax_ll, ax_li, ax_st1, ax_st2, ax_kl, ax_k2, ax_fit, ax_rtok, List.getElem?_cons_zero, List.getElem?_cons_succ, List.length_cons, List.length_nil, List.set_cons_zero, List.set_cons_succ, Nat.reduceAdd, Nat.reduceDiv, Nat.reduceMod, Nat.reduceMul, Nat.reduceLT, Nat.reduceLeDiff, Int32.reduceOfInt, Int64.reduceOfInt, true_and, and_true, and_self, true_or, or_true, false_implies, true_implies, not_false_eq_true, not_true_eq_false, Value.category, Nat.reduceEqDiff, Option.toList, List.cons_append, List.nil_append, List.drop_succ_cons, List.drop_zero, ax_qq_eq, ax_t_1485]
      refine ax_inv_of (Nat.le_of_ble_eq_true rfl) (Nat.le_of_ble_eq_true rfl) (fun _ => mE_rcv E1 _) (fun h => absurd h (by decide)) (Nat.le_refl _) (Nat.le_refl _) (mk_runs E1 f3 (m := m') (by omega) ?_)
      intro es2 st2 g1 g2 g3
      obtain ⟨th, tp, sz, at0, fl, cd, nm, rm, on, fh, un, g, w0⟩ := (mE_fr E1 g1).2.2.2.2.2.1
      have y1 := g3.1.1
      have e1 : (1094 : Int32) + nI c' = nI (1092 + 2 + c') := by
        show nI 1094 + nI c' = _
        rw [kn_add]
      have v1 : vp_in (nI (1092 + 2 + c')) 1196 := nI_in (by omega) (by decide)
      have e2 : (nI (1092 + 2 + c')).toNatClampNeg = 1092 + 2 + c' := nI_clamp (by omega)
      have e3 := g3.2.1.2.2.1 c' hc'
      simp only [ax_W_cons, ax_I, ax_cmp, ax_ii, ax_ll, ax_li, ax_st1, ax_st2, ax_kl, ax_k2, ax_fit, ax_rtok, List.getElem?_cons_zero, List.getElem?_cons_succ, List.length_cons, List.length_nil, List.set_cons_zero, List.set_cons_succ, Nat.reduceAdd, Nat.reduceDiv, Nat.reduceMod, Nat.reduceMul, Nat.reduceLT, Nat.reduceLeDiff, Int32.reduceOfInt, Int64.reduceOfInt, true_and, and_true, and_self, true_or, or_true, false_implies, true_implies, not_false_eq_true, not_true_eq_false, Value.category, Nat.reduceEqDiff, Option.toList, List.cons_append, List.nil_append, List.drop_succ_cons, List.drop_zero, ax_qq_eq, ax_t_1485, w0, y1, mo_f, hal, e1, v1, e2, e3]
      exact hQ _ (mq_of h0 (mfr_trans f1 g1) g3.1 (mfq_trans (mfs_q (by omega) f2) (mfs_q (by omega) g2)) hA)
    · have h2 : kx_in m 0 60 = false := by simpa using h2
      rw [if_neg (fun z => by rw [h2] at z; exact absurd z.2 (by decide))] at hQ
      exact hQ _ (mq_of h0 (mfr_rf _) S0.1 (mfq_rf _) hA)
theorem mq_fr {es0 es1 : ax_H} {st1 : Nat → Int32} (h0 : mth es es0) (h1 : mfr es0 es1) (hX : mX es1 st1) (hq : mfq st st1) (hA : ∃ al, es 176 = .inl (0, 1200, .inl al)) : mq es st es1 := mq_of h0 h1 hX hq hA
theorem mp_still (Z : mZ es n st k p hc kd pm ht hs F1 F2 T C sh pl dn) (hQ : ∀ es', mq es st es' → Q (some (.int (kx_fst (fun c => decide (kx_bits (kx_dr F1 k (nI C) hs hc T sh c) k = 0)) 61 0))) es') : ax_Mt (d + 10) 1486 [.ref 159] n sl es Q := by
  obtain ⟨E, S, hT, hdn, hA⟩ := Z
  obtain ⟨hal, hk, hp, hhs, hF, hK⟩ := id E
  refine ax_Mt_go (m := ax_m_11_78) (ls := [some (.ref 159), none]) rfl ax_b_1486_0 (Nat.le_of_ble_eq_true rfl) rfl ?_
  refine mk_thrown hal hK.1 rfl ?_
  intro es0 h0
  have E0 := mE_th E h0
  have S0 := mS_th S h0
  simp only [ax_W_cons, ax_I, ax_cmp, ax_ii, ax_ll, ax_li, ax_st1, ax_st2, ax_kl, ax_k2, ax_fit, ax_rtok, List.getElem?_cons_zero, List.getElem?_cons_succ, List.length_cons, List.length_nil, List.set_cons_zero, List.set_cons_succ, Nat.reduceAdd, Nat.reduceDiv, Nat.reduceMod, Nat.reduceMul, Nat.reduceLT, Nat.reduceLeDiff, Int32.reduceOfInt, Int64.reduceOfInt, true_and, and_true, and_self, true_or, or_true, false_implies, true_implies, not_false_eq_true, not_true_eq_false, Value.category, Nat.reduceEqDiff, Option.toList, List.cons_append, List.nil_append, List.drop_succ_cons, List.drop_zero, ax_qq_eq, ax_t_1486]
  refine ax_inv_of (Nat.le_of_ble_eq_true rfl) (Nat.le_of_ble_eq_true rfl) (fun _ => mE_rcv E0 _) (fun h => absurd h (by decide)) (Nat.le_refl _) (Nat.le_refl _) (mk_tries E0 S0 ?_)
  intro es1 st1 f1 f2 f3 f4
  simp only [ax_W_cons, ax_I, ax_cmp, ax_ii, ax_ll, ax_li, ax_st1, ax_st2, ax_kl, ax_k2, ax_fit, ax_rtok, List.getElem?_cons_zero, List.getElem?_cons_succ, List.length_cons, List.length_nil, List.set_cons_zero, List.set_cons_succ, Nat.reduceAdd, Nat.reduceDiv, Nat.reduceMod, Nat.reduceMul, Nat.reduceLT, Nat.reduceLeDiff, Int32.reduceOfInt, Int64.reduceOfInt, true_and, and_true, and_self, true_or, or_true, false_implies, true_implies, not_false_eq_true, not_true_eq_false, Value.category, Nat.reduceEqDiff, Option.toList, List.cons_append, List.nil_append, List.drop_succ_cons, List.drop_zero, ax_qq_eq, ax_t_1486]
  rw [ax_n_1486_11]
  have L := kx_down (k := 61) (I := fun f c => (∀ es', mq es st es' → Q (some (.int (kx_fst (fun c => decide (kx_bits (kx_dr F1 k (nI C) hs hc T sh c) k = 0)) f c))) es') → ∀ es1 st1 dn1, mfr es0 es1 → mfq st st1 → mS es1 st1 1092 k p (T + c) C (kx_dr F1 k (nI C) hs hc T sh c) pl dn1 → ax_W (d + 10) n sl 1486 [(1, .iload 1), (2, .iconst 60), (3, .if_icmp .gt 43), (1, .aload 0), (3, .iconst 1092), (3, .invokeinterface 1468 9), (3, .ifCond .ne 29), (1, .iload 1), (1, .ireturn)] 11 [some (.ref 159), some (.int (nI c))] [] n sl es1 (ax_qq n sl Q)) ?_ ?_ 61 0 rfl
  · exact L hQ es1 st1 dn f1 (mfs_q (by omega) f2) f3
  · intro hQ es1 st1 dn1 i1 i2 i3
    have e1 : (60 : Int32) < nI 61 := by decide
    simp only [ax_W_cons, ax_I, ax_cmp, ax_ii, ax_ll, ax_li, ax_st1, ax_st2, ax_kl, ax_k2, ax_fit, ax_rtok, List.getElem?_cons_zero, List.getElem?_cons_succ, List.length_cons, List.length_nil, List.set_cons_zero, List.set_cons_succ, Nat.reduceAdd, Nat.reduceDiv, Nat.reduceMod, Nat.reduceMul, Nat.reduceLT, Nat.reduceLeDiff, Int32.reduceOfInt, Int64.reduceOfInt, true_and, and_true, and_self, true_or, or_true, false_implies, true_implies, not_false_eq_true, not_true_eq_false, Value.category, Nat.reduceEqDiff, Option.toList, List.cons_append, List.nil_append, List.drop_succ_cons, List.drop_zero, ax_qq_eq, ax_t_1486, ax_j_1486_43, ax_n_1486_43, e1]
    exact hQ _ (mq_of h0 i1 i3.1 i2 hA)
  · intro f c hc2 ih hQ es1 st1 dn1 i1 i2 i3
    have e1 : ¬ (60 : Int32) < nI c := nI_nlt (a := 60) (by omega) (by decide)
    have e4 : nI c + 1 = nI (c + 1) := (nI_succ c).symm
    have E1 := mE_fr E0 i1
    rw [kx_fst] at hQ
    simp only [ax_W_cons, ax_I, ax_cmp, ax_ii, ax_ll, ax_li, ax_st1, ax_st2, ax_kl, ax_k2, ax_fit, ax_rtok, List.getElem?_cons_zero, List.getElem?_cons_succ, List.length_cons, List.length_nil, List.set_cons_zero, List.set_cons_succ, Nat.reduceAdd, Nat.reduceDiv, Nat.reduceMod, Nat.reduceMul, Nat.reduceLT, Nat.reduceLeDiff, Int32.reduceOfInt, Int64.reduceOfInt, true_and, and_true, and_self, true_or, or_true, false_implies, true_implies, not_false_eq_true, not_true_eq_false, Value.category, Nat.reduceEqDiff, Option.toList, List.cons_append, List.nil_append, List.drop_succ_cons, List.drop_zero, ax_qq_eq, ax_t_1486, e1]
    refine ax_inv_of (Nat.le_of_ble_eq_true rfl) (Nat.le_of_ble_eq_true rfl) (fun _ => mE_rcv E1 _) (fun h => absurd h (by decide)) (Nat.le_refl _) (Nat.le_refl _) (mk_shaking hal E1.2.2.2.2.2 i3.1 hk.2 (b := 1092) (by omega) i3.2.1 ?_)
    simp only [ax_W_cons, ax_I, ax_cmp, ax_ii, ax_ll, ax_li, ax_st1, ax_st2, ax_kl, ax_k2, ax_fit, ax_rtok, List.getElem?_cons_zero, List.getElem?_cons_succ, List.length_cons, List.length_nil, List.set_cons_zero, List.set_cons_succ, Nat.reduceAdd, Nat.reduceDiv, Nat.reduceMod, Nat.reduceMul, Nat.reduceLT, Nat.reduceLeDiff, Int32.reduceOfInt, Int64.reduceOfInt, true_and, and_true, and_self, true_or, or_true, false_implies, true_implies, not_false_eq_true, not_true_eq_false, Value.category, Nat.reduceEqDiff, Option.toList, List.cons_append, List.nil_append, List.drop_succ_cons, List.drop_zero, ax_qq_eq, ax_t_1486, ax_j_1486_29, ax_n_1486_29]
    refine ⟨fun hne => ?_, fun hz => ?_⟩
    · refine ax_inv_of (Nat.le_of_ble_eq_true rfl) (Nat.le_of_ble_eq_true rfl) (fun _ => mE_rcv E1 _) (fun h => absurd h (by decide)) (Nat.le_refl _) (Nat.le_refl _) (mk_passes E1 i3 (b := 1092) (by omega) (by omega) ?_)
      intro es2 st2 g1 g2 g3
      simp only [ax_W_cons, ax_I, ax_cmp, ax_ii, ax_ll, ax_li, ax_st1, ax_st2, ax_kl, ax_k2, ax_fit, ax_rtok, List.getElem?_cons_zero, List.getElem?_cons_succ, List.length_cons, List.length_nil, List.set_cons_zero, List.set_cons_succ, Nat.reduceAdd, Nat.reduceDiv, Nat.reduceMod, Nat.reduceMul, Nat.reduceLT, Nat.reduceLeDiff, Int32.reduceOfInt, Int64.reduceOfInt, true_and, and_true, and_self, true_or, or_true, false_implies, true_implies, not_false_eq_true, not_true_eq_false, Value.category, Nat.reduceEqDiff, Option.toList, List.cons_append, List.nil_append, List.drop_succ_cons, List.drop_zero, ax_qq_eq, ax_t_1486, e4]
      rw [ax_j_1486_11]
      rw [if_neg (by simpa using hne)] at hQ
      exact ih hQ es2 st2 _ (mfr_trans i1 g1) (mfq_trans i2 (mfs_q (by omega) g2)) g3
    · simp only [Classical.not_not] at hz
      rw [if_pos (by simpa using hz)] at hQ
      exact hQ _ (mq_of h0 i1 i3.1 i2 hA)
def mo_pk (f : Nat → Int32) : Nat → Int32 × Int32
  | 0 => (-1, 0)
  | m + 1 => if (mo_pk f m).1 < f m then (f m, nI m) else mo_pk f m
theorem mo_pk_eq {f : Nat → Int32} (h : -1 < f 0) : ∀ m, mo_pk f (m + 1) = kx_peak f m
  | 0 => by
    rw [mo_pk, mo_pk, if_pos h]
    rfl
  | m + 1 => by
    rw [mo_pk, mo_pk_eq h m]
    rfl
theorem ks_gt {f : Nat → Int32} {c : Nat} (h : ks f) (hc : c < 12) : -1 < f c := by
  obtain ⟨v, hv, e⟩ := h c hc
  rw [e, Int32.lt_iff_toInt_lt, nI_toInt (by omega)]
  have : (-1 : Int32).toInt = -1 := rfl
  omega
theorem mx_1094 {c : Nat} (hc : c < 12) : (1094 : Int32) + nI c = nI (1092 + 2 + c) ∧ vp_in (nI (1092 + 2 + c)) 1196 ∧ (nI (1092 + 2 + c)).toNatClampNeg = 1092 + 2 + c := ⟨kn_add 1094 c, nI_in (by omega) (by decide), nI_clamp (by omega)⟩
theorem mx_1112 {c : Nat} (hc : c < 12) : (1112 : Int32) + nI c = nI (1092 + 20 + c) ∧ vp_in (nI (1092 + 20 + c)) 1196 ∧ (nI (1092 + 20 + c)).toNatClampNeg = 1092 + 20 + c := ⟨kn_add 1112 c, nI_in (by omega) (by decide), nI_clamp (by omega)⟩
theorem mx_20 {c : Nat} (hc : c < 12) : (20 : Int32) + nI c = nI (0 + 20 + c) ∧ vp_in (nI (0 + 20 + c)) 1196 ∧ (nI (0 + 20 + c)).toNatClampNeg = 0 + 20 + c := ⟨(kn_add 20 c).trans (by rw [Nat.zero_add]), nI_in (by omega) (by decide), nI_clamp (by omega)⟩
theorem mx_2 {c : Nat} (hc : c < 12) : (2 : Int32) + nI c = nI (0 + 2 + c) ∧ vp_in (nI (0 + 2 + c)) 1196 ∧ (nI (0 + 2 + c)).toNatClampNeg = 0 + 2 + c := ⟨(kn_add 2 c).trans (by rw [Nat.zero_add]), nI_in (by omega) (by decide), nI_clamp (by omega)⟩
theorem mp_peak (Z : mZ es n st k p hc kd pm ht hs F1 F2 T C sh pl dn) (c : Int32) (hQ : ∀ es', mq es st es' → Q (some (.int (zq_peak F1 k (nI C) hs hc T sh c))) es') : ax_Mt (d + 10) 1487 [.ref 159, .int c] n sl es Q := by
  obtain ⟨E, S, hT, hdn, hA⟩ := Z
  obtain ⟨hal, hk, hp, hhs, hF, hK⟩ := id E
  unfold zq_peak at hQ
  refine ax_Mt_go (m := ax_m_11_79) (ls := [some (.ref 159), some (.int c), none, none, none, none]) rfl ax_b_1487_0 (Nat.le_of_ble_eq_true rfl) rfl ?_
  refine mk_thrown hal hK.1 rfl ?_
  intro es0 h0
  have E0 := mE_th E h0
  have S0 := mS_th S h0
  simp only [ax_W_cons, ax_I, ax_cmp, ax_ii, ax_ll, ax_li, ax_st1, ax_st2, ax_kl, ax_k2, ax_fit, ax_rtok, List.getElem?_cons_zero, List.getElem?_cons_succ, List.length_cons, List.length_nil, List.set_cons_zero, List.set_cons_succ, Nat.reduceAdd, Nat.reduceDiv, Nat.reduceMod, Nat.reduceMul, Nat.reduceLT, Nat.reduceLeDiff, Int32.reduceOfInt, Int64.reduceOfInt, true_and, and_true, and_self, true_or, or_true, false_implies, true_implies, not_false_eq_true, not_true_eq_false, Value.category, Nat.reduceEqDiff, Option.toList, List.cons_append, List.nil_append, List.drop_succ_cons, List.drop_zero, ax_qq_eq, ax_t_1487]
  refine ax_inv_of (Nat.le_of_ble_eq_true rfl) (Nat.le_of_ble_eq_true rfl) (fun _ => mE_rcv E0 _) (fun h => absurd h (by decide)) (Nat.le_refl _) (Nat.le_refl _) (mk_whole E0 S0 (b := 0) (by omega) c ?_)
  simp only [ax_W_cons, ax_I, ax_cmp, ax_ii, ax_ll, ax_li, ax_st1, ax_st2, ax_kl, ax_k2, ax_fit, ax_rtok, List.getElem?_cons_zero, List.getElem?_cons_succ, List.length_cons, List.length_nil, List.set_cons_zero, List.set_cons_succ, Nat.reduceAdd, Nat.reduceDiv, Nat.reduceMod, Nat.reduceMul, Nat.reduceLT, Nat.reduceLeDiff, Int32.reduceOfInt, Int64.reduceOfInt, true_and, and_true, and_self, true_or, or_true, false_implies, true_implies, not_false_eq_true, not_true_eq_false, Value.category, Nat.reduceEqDiff, Option.toList, List.cons_append, List.nil_append, List.drop_succ_cons, List.drop_zero, ax_qq_eq, ax_t_1487, ax_j_1487_16, ax_n_1487_16, kx_b0]
  refine ⟨fun h => ?_, fun h => ?_⟩
  · have h : kx_op k (nI C) c = true := by simpa using h
    rw [if_pos h] at hQ
    obtain ⟨c', hc', rfl, hB⟩ := kx_op_nI hk.2 h
    rw [nI_clamp (by omega)] at hQ
    rw [← mo_pk_eq (f := fun m => kx_dr F1 k (nI C) hs hc T sh m c') (ks_gt S.2.2.1 (by omega))] at hQ
    refine ax_inv_of (Nat.le_of_ble_eq_true rfl) (Nat.le_of_ble_eq_true rfl) (fun _ => mE_rcv E0 _) (fun h => absurd h (by decide)) (Nat.le_refl _) (Nat.le_refl _) (mk_tries E0 S0 ?_)
    intro es1 st1 f1 f2 f3 f4
    obtain ⟨e1, v1, e2⟩ := mx_1094 (c := c') (by omega)
    simp only [ax_W_cons, ax_I, ax_cmp, ax_ii, ax_ll, ax_li, ax_st1, ax_st2, ax_kl, ax_k2, ax_fit, ax_rtok, List.getElem?_cons_zero, List.getElem?_cons_succ, List.length_cons, List.length_nil, List.set_cons_zero, List.set_cons_succ, Nat.reduceAdd, Nat.reduceDiv, Nat.reduceMod, Nat.reduceMul, Nat.reduceLT, Nat.reduceLeDiff, Int32.reduceOfInt, Int64.reduceOfInt, true_and, and_true, and_self, true_or, or_true, false_implies, true_implies, not_false_eq_true, not_true_eq_false, Value.category, Nat.reduceEqDiff, Option.toList, List.cons_append, List.nil_append, List.drop_succ_cons, List.drop_zero, ax_qq_eq, ax_t_1487]
    rw [ax_n_1487_27]
    have L := kx_loop (k := 61) (I := fun m => ∀ v5 es1 st1 dn1, mfr es0 es1 → mfq st st1 → mS es1 st1 1092 k p (T + m) C (kx_dr F1 k (nI C) hs hc T sh m) pl dn1 → ax_W (d + 10) n sl 1487 [(2, .iload 4), (2, .iconst 60), (3, .if_icmp .gt 86), (1, .aload 0), (3, .getfield 2910), (3, .iconst 1094), (1, .iload 1), (1, .iadd), (1, .iaload), (2, .istore 5), (2, .iload 5), (1, .iload 3), (3, .if_icmp .le 57), (2, .iload 4), (3, .goto 58)] 27 [some (.ref 159), some (.int (nI c')), some (.int (mo_pk (fun m => kx_dr F1 k (nI C) hs hc T sh m c') m).2), some (.int (mo_pk (fun m => kx_dr F1 k (nI C) hs hc T sh m c') m).1), some (.int (nI m)), v5] [] n sl es1 (ax_qq n sl Q)) ?_ ?_
    · exact L none es1 st1 dn f1 (mfs_q (by omega) f2) f3
    · intro v5 es1 st1 dn1 i1 i2 i3
      have e9 : (60 : Int32) < nI 61 := by decide
      simp only [ax_W_cons, ax_I, ax_cmp, ax_ii, ax_ll, ax_li, ax_st1, ax_st2, ax_kl, ax_k2, ax_fit, ax_rtok, List.getElem?_cons_zero, List.getElem?_cons_succ, List.length_cons, List.length_nil, List.set_cons_zero, List.set_cons_succ, Nat.reduceAdd, Nat.reduceDiv, Nat.reduceMod, Nat.reduceMul, Nat.reduceLT, Nat.reduceLeDiff, Int32.reduceOfInt, Int64.reduceOfInt, true_and, and_true, and_self, true_or, or_true, false_implies, true_implies, not_false_eq_true, not_true_eq_false, Value.category, Nat.reduceEqDiff, Option.toList, List.cons_append, List.nil_append, List.drop_succ_cons, List.drop_zero, ax_qq_eq, ax_t_1487, ax_j_1487_86, ax_n_1487_86, e9]
      exact hQ _ (mq_of h0 i1 i3.1 i2 hA)
    · intro m hm ih v5 es1 st1 dn1 i1 i2 i3
      have e9 : ¬ (60 : Int32) < nI m := nI_nlt (a := 60) (by omega) (by decide)
      have e4 : nI m + 1 = nI (m + 1) := (nI_succ m).symm
      have E1 := mE_fr E0 i1
      obtain ⟨th, tp, sz, at0, fl, cd, nm, rm, on, fh, un, g, w0⟩ := E1.2.2.2.2.2.1
      have y1 := i3.1.1
      have e3 := i3.2.1.2.2.1 c' hc'
      rw [mo_pk] at ih
      by_cases hlt : (mo_pk (fun m => kx_dr F1 k (nI C) hs hc T sh m c') m).1 < kx_dr F1 k (nI C) hs hc T sh m c'
      · rw [if_pos hlt] at ih
        have hle : ¬ kx_dr F1 k (nI C) hs hc T sh m c' ≤ (mo_pk (fun m => kx_dr F1 k (nI C) hs hc T sh m c') m).1 := by rw [kx_nle]; exact hlt
        simp only [ax_W_cons, ax_I, ax_cmp, ax_ii, ax_ll, ax_li, ax_st1, ax_st2, ax_kl, ax_k2, ax_fit, ax_rtok, List.getElem?_cons_zero, List.getElem?_cons_succ, List.length_cons, List.length_nil, List.set_cons_zero, List.set_cons_succ, Nat.reduceAdd, Nat.reduceDiv, Nat.reduceMod, Nat.reduceMul, Nat.reduceLT, Nat.reduceLeDiff, Int32.reduceOfInt, Int64.reduceOfInt, true_and, and_true, and_self, true_or, or_true, false_implies, true_implies, not_false_eq_true, not_true_eq_false, Value.category, Nat.reduceEqDiff, Option.toList, List.cons_append, List.nil_append, List.drop_succ_cons, List.drop_zero, ax_qq_eq, ax_t_1487, ax_j_1487_58, ax_n_1487_58, ax_j_1487_71, ax_n_1487_71, w0, y1, mo_f, hal, e9, e1, v1, e2, e3, hle]
        refine ax_inv_of (Nat.le_of_ble_eq_true rfl) (Nat.le_of_ble_eq_true rfl) (fun _ => mE_rcv E1 _) (fun h => absurd h (by decide)) (Nat.le_refl _) (Nat.le_refl _) (mk_passes E1 i3 (b := 1092) (by omega) (by omega) ?_)
        intro es2 st2 g1 g2 g3
        simp only [ax_W_cons, ax_I, ax_cmp, ax_ii, ax_ll, ax_li, ax_st1, ax_st2, ax_kl, ax_k2, ax_fit, ax_rtok, List.getElem?_cons_zero, List.getElem?_cons_succ, List.length_cons, List.length_nil, List.set_cons_zero, List.set_cons_succ, Nat.reduceAdd, Nat.reduceDiv, Nat.reduceMod, Nat.reduceMul, Nat.reduceLT, Nat.reduceLeDiff, Int32.reduceOfInt, Int64.reduceOfInt, true_and, and_true, and_self, true_or, or_true, false_implies, true_implies, not_false_eq_true, not_true_eq_false, Value.category, Nat.reduceEqDiff, Option.toList, List.cons_append, List.nil_append, List.drop_succ_cons, List.drop_zero, ax_qq_eq, ax_t_1487, e4]
        rw [ax_j_1487_27]
        exact ih _ es2 st2 _ (mfr_trans i1 g1) (mfq_trans i2 (mfs_q (by omega) g2)) g3
      · rw [if_neg hlt] at ih
        have hle : kx_dr F1 k (nI C) hs hc T sh m c' ≤ (mo_pk (fun m => kx_dr F1 k (nI C) hs hc T sh m c') m).1 := by rw [← kx_nlt]; exact hlt
        simp only [ax_W_cons, ax_I, ax_cmp, ax_ii, ax_ll, ax_li, ax_st1, ax_st2, ax_kl, ax_k2, ax_fit, ax_rtok, List.getElem?_cons_zero, List.getElem?_cons_succ, List.length_cons, List.length_nil, List.set_cons_zero, List.set_cons_succ, Nat.reduceAdd, Nat.reduceDiv, Nat.reduceMod, Nat.reduceMul, Nat.reduceLT, Nat.reduceLeDiff, Int32.reduceOfInt, Int64.reduceOfInt, true_and, and_true, and_self, true_or, or_true, false_implies, true_implies, not_false_eq_true, not_true_eq_false, Value.category, Nat.reduceEqDiff, Option.toList, List.cons_append, List.nil_append, List.drop_succ_cons, List.drop_zero, ax_qq_eq, ax_t_1487, ax_j_1487_57, ax_n_1487_57, ax_j_1487_58, ax_n_1487_58, ax_j_1487_70, ax_n_1487_70, ax_j_1487_71, ax_n_1487_71, w0, y1, mo_f, hal, e9, e1, v1, e2, e3, hle]
        refine ax_inv_of (Nat.le_of_ble_eq_true rfl) (Nat.le_of_ble_eq_true rfl) (fun _ => mE_rcv E1 _) (fun h => absurd h (by decide)) (Nat.le_refl _) (Nat.le_refl _) (mk_passes E1 i3 (b := 1092) (by omega) (by omega) ?_)
        intro es2 st2 g1 g2 g3
        simp only [ax_W_cons, ax_I, ax_cmp, ax_ii, ax_ll, ax_li, ax_st1, ax_st2, ax_kl, ax_k2, ax_fit, ax_rtok, List.getElem?_cons_zero, List.getElem?_cons_succ, List.length_cons, List.length_nil, List.set_cons_zero, List.set_cons_succ, Nat.reduceAdd, Nat.reduceDiv, Nat.reduceMod, Nat.reduceMul, Nat.reduceLT, Nat.reduceLeDiff, Int32.reduceOfInt, Int64.reduceOfInt, true_and, and_true, and_self, true_or, or_true, false_implies, true_implies, not_false_eq_true, not_true_eq_false, Value.category, Nat.reduceEqDiff, Option.toList, List.cons_append, List.nil_append, List.drop_succ_cons, List.drop_zero, ax_qq_eq, ax_t_1487, e4]
        rw [ax_j_1487_27]
        exact ih _ es2 st2 _ (mfr_trans i1 g1) (mfq_trans i2 (mfs_q (by omega) g2)) g3
  · simp only [Classical.not_not] at h
    rw [if_neg (by rw [h]; decide)] at hQ
    exact hQ _ (mq_of h0 (mfr_rf _) S0.1 (mfq_rf _) hA)
theorem mp_rises (Z : mZ es n st k p hc kd pm ht hs F1 F2 T C sh pl dn) (c : Int32) (hQ : ∀ es', mq es st es' → Q (some (.int (zq_rises F1 k (nI C) hs hc T sh c))) es') : ax_Mt (d + 10) 1499 [.ref 159, .int c] n sl es Q := by
  obtain ⟨E, S, hT, hdn, hA⟩ := Z
  obtain ⟨hal, hk, hp, hhs, hF, hK⟩ := id E
  unfold zq_rises at hQ
  refine ax_Mt_go (m := ax_m_11_91) (ls := [some (.ref 159), some (.int c), none, none, none]) rfl ax_b_1499_0 (Nat.le_of_ble_eq_true rfl) rfl ?_
  refine mk_thrown hal hK.1 rfl ?_
  intro es0 h0
  have E0 := mE_th E h0
  have S0 := mS_th S h0
  simp only [ax_W_cons, ax_I, ax_cmp, ax_ii, ax_ll, ax_li, ax_st1, ax_st2, ax_kl, ax_k2, ax_fit, ax_rtok, List.getElem?_cons_zero, List.getElem?_cons_succ, List.length_cons, List.length_nil, List.set_cons_zero, List.set_cons_succ, Nat.reduceAdd, Nat.reduceDiv, Nat.reduceMod, Nat.reduceMul, Nat.reduceLT, Nat.reduceLeDiff, Int32.reduceOfInt, Int64.reduceOfInt, true_and, and_true, and_self, true_or, or_true, false_implies, true_implies, not_false_eq_true, not_true_eq_false, Value.category, Nat.reduceEqDiff, Option.toList, List.cons_append, List.nil_append, List.drop_succ_cons, List.drop_zero, ax_qq_eq, ax_t_1499]
  refine ax_inv_of (Nat.le_of_ble_eq_true rfl) (Nat.le_of_ble_eq_true rfl) (fun _ => mE_rcv E0 _) (fun h => absurd h (by decide)) (Nat.le_refl _) (Nat.le_refl _) (mk_whole E0 S0 (b := 0) (by omega) c ?_)
  simp only [ax_W_cons, ax_I, ax_cmp, ax_ii, ax_ll, ax_li, ax_st1, ax_st2, ax_kl, ax_k2, ax_fit, ax_rtok, List.getElem?_cons_zero, List.getElem?_cons_succ, List.length_cons, List.length_nil, List.set_cons_zero, List.set_cons_succ, Nat.reduceAdd, Nat.reduceDiv, Nat.reduceMod, Nat.reduceMul, Nat.reduceLT, Nat.reduceLeDiff, Int32.reduceOfInt, Int64.reduceOfInt, true_and, and_true, and_self, true_or, or_true, false_implies, true_implies, not_false_eq_true, not_true_eq_false, Value.category, Nat.reduceEqDiff, Option.toList, List.cons_append, List.nil_append, List.drop_succ_cons, List.drop_zero, ax_qq_eq, ax_t_1499, ax_j_1499_16, ax_n_1499_16, kx_b0]
  refine ⟨fun h => ?_, fun h => ?_⟩
  · have h : kx_op k (nI C) c = true := by simpa using h
    rw [if_pos h] at hQ
    obtain ⟨c', hc', rfl, hB⟩ := kx_op_nI hk.2 h
    rw [nI_clamp (by omega)] at hQ
    refine ax_inv_of (Nat.le_of_ble_eq_true rfl) (Nat.le_of_ble_eq_true rfl) (fun _ => mE_rcv E0 _) (fun h => absurd h (by decide)) (Nat.le_refl _) (Nat.le_refl _) (mk_tries E0 S0 ?_)
    intro es1 st1 f1 f2 f3 f4
    obtain ⟨e1, v1, e2⟩ := mx_1094 (c := c') (by omega)
    simp only [ax_W_cons, ax_I, ax_cmp, ax_ii, ax_ll, ax_li, ax_st1, ax_st2, ax_kl, ax_k2, ax_fit, ax_rtok, List.getElem?_cons_zero, List.getElem?_cons_succ, List.length_cons, List.length_nil, List.set_cons_zero, List.set_cons_succ, Nat.reduceAdd, Nat.reduceDiv, Nat.reduceMod, Nat.reduceMul, Nat.reduceLT, Nat.reduceLeDiff, Int32.reduceOfInt, Int64.reduceOfInt, true_and, and_true, and_self, true_or, or_true, false_implies, true_implies, not_false_eq_true, not_true_eq_false, Value.category, Nat.reduceEqDiff, Option.toList, List.cons_append, List.nil_append, List.drop_succ_cons, List.drop_zero, ax_qq_eq, ax_t_1499]
    rw [ax_n_1499_24]
    have L := kx_loop (k := 20) (I := fun m => ∀ v5 es1 st1 dn1, mfr es0 es1 → mfq st st1 → mS es1 st1 1092 k p (T + m) C (kx_dr F1 k (nI C) hs hc T sh m) pl dn1 → ax_W (d + 10) n sl 1499 [(1, .iload 3), (2, .iconst 20), (3, .if_icmp .ge 79), (1, .aload 0), (3, .getfield 2910), (3, .iconst 1094), (1, .iload 1), (1, .iadd), (1, .iaload), (2, .istore 4), (1, .aload 0), (3, .iconst 1092), (3, .invokeinterface 1467 9), (1, .pop), (1, .iload 2), (1, .aload 0), (3, .getfield 2910), (3, .iconst 1094), (1, .iload 1), (1, .iadd), (1, .iaload), (2, .iload 4), (3, .if_icmp .le 70), (1, .iconst 1), (3, .goto 71)] 24 [some (.ref 159), some (.int (nI c')), some (.int (kx_rises (fun m => kx_dr F1 k (nI C) hs hc T sh m c') m)), some (.int (nI m)), v5] [] n sl es1 (ax_qq n sl Q)) ?_ ?_
    · exact L none es1 st1 dn f1 (mfs_q (by omega) f2) f3
    · intro v5 es1 st1 dn1 i1 i2 i3
      have e9 : (20 : Int32) ≤ nI 20 := by decide
      simp only [ax_W_cons, ax_I, ax_cmp, ax_ii, ax_ll, ax_li, ax_st1, ax_st2, ax_kl, ax_k2, ax_fit, ax_rtok, List.getElem?_cons_zero, List.getElem?_cons_succ, List.length_cons, List.length_nil, List.set_cons_zero, List.set_cons_succ, Nat.reduceAdd, Nat.reduceDiv, Nat.reduceMod, Nat.reduceMul, Nat.reduceLT, Nat.reduceLeDiff, Int32.reduceOfInt, Int64.reduceOfInt, true_and, and_true, and_self, true_or, or_true, false_implies, true_implies, not_false_eq_true, not_true_eq_false, Value.category, Nat.reduceEqDiff, Option.toList, List.cons_append, List.nil_append, List.drop_succ_cons, List.drop_zero, ax_qq_eq, ax_t_1499, ax_j_1499_79, ax_n_1499_79, e9]
      exact hQ _ (mq_of h0 i1 i3.1 i2 hA)
    · intro m hm ih v5 es1 st1 dn1 i1 i2 i3
      have e9 : ¬ (20 : Int32) ≤ nI m := nI_ge (b := 20) hm (by decide)
      have e4 : nI m + 1 = nI (m + 1) := (nI_succ m).symm
      have E1 := mE_fr E0 i1
      obtain ⟨th, tp, sz, at0, fl, cd, nm, rm, on, fh, un, g, w0⟩ := id E1.2.2.2.2.2.1
      have y1 := i3.1.1
      have e3 := i3.2.1.2.2.1 c' hc'
      rw [kx_rises] at ih
      simp only [ax_W_cons, ax_I, ax_cmp, ax_ii, ax_ll, ax_li, ax_st1, ax_st2, ax_kl, ax_k2, ax_fit, ax_rtok, List.getElem?_cons_zero, List.getElem?_cons_succ, List.length_cons, List.length_nil, List.set_cons_zero, List.set_cons_succ, Nat.reduceAdd, Nat.reduceDiv, Nat.reduceMod, Nat.reduceMul, Nat.reduceLT, Nat.reduceLeDiff, Int32.reduceOfInt, Int64.reduceOfInt, true_and, and_true, and_self, true_or, or_true, false_implies, true_implies, not_false_eq_true, not_true_eq_false, Value.category, Nat.reduceEqDiff, Option.toList, List.cons_append, List.nil_append, List.drop_succ_cons, List.drop_zero, ax_qq_eq, ax_t_1499, w0, y1, mo_f, hal, e9, e1, v1, e2, e3]
      refine ax_inv_of (Nat.le_of_ble_eq_true rfl) (Nat.le_of_ble_eq_true rfl) (fun _ => mE_rcv E1 _) (fun h => absurd h (by decide)) (Nat.le_refl _) (Nat.le_refl _) (mk_passes E1 i3 (b := 1092) (by omega) (by omega) ?_)
      intro es2 st2 g1 g2 g3
      have w2 := (g1 159 (by decide)).trans w0
      have y2 := g3.1.1
      have e5 : st2 (1092 + 2 + c') = kx_dr F1 k (nI C) hs hc T sh (m + 1) c' := g3.2.1.2.2.1 c' hc'
      have ih := fun v5 => ih v5 es2 st2 _ (mfr_trans i1 g1) (mfq_trans i2 (mfs_q (by omega) g2)) g3
      by_cases hlt : kx_dr F1 k (nI C) hs hc T sh m c' < kx_dr F1 k (nI C) hs hc T sh (m + 1) c'
      · rw [if_pos hlt] at ih
        have hle : ¬ kx_dr F1 k (nI C) hs hc T sh (m + 1) c' ≤ kx_dr F1 k (nI C) hs hc T sh m c' := by rw [kx_nle]; exact hlt
        simp only [ax_W_cons, ax_I, ax_cmp, ax_ii, ax_ll, ax_li, ax_st1, ax_st2, ax_kl, ax_k2, ax_fit, ax_rtok, List.getElem?_cons_zero, List.getElem?_cons_succ, List.length_cons, List.length_nil, List.set_cons_zero, List.set_cons_succ, Nat.reduceAdd, Nat.reduceDiv, Nat.reduceMod, Nat.reduceMul, Nat.reduceLT, Nat.reduceLeDiff, Int32.reduceOfInt, Int64.reduceOfInt, true_and, and_true, and_self, true_or, or_true, false_implies, true_implies, not_false_eq_true, not_true_eq_false, Value.category, Nat.reduceEqDiff, Option.toList, List.cons_append, List.nil_append, List.drop_succ_cons, List.drop_zero, ax_qq_eq, ax_t_1499, ax_j_1499_71, ax_n_1499_71, w2, y2, mo_f, hal, e1, v1, e2, e5, e4, hle]
        rw [ax_j_1499_24]
        exact ih _
      · rw [if_neg hlt] at ih
        have hle : kx_dr F1 k (nI C) hs hc T sh (m + 1) c' ≤ kx_dr F1 k (nI C) hs hc T sh m c' := by rw [← kx_nlt]; exact hlt
        simp only [ax_W_cons, ax_I, ax_cmp, ax_ii, ax_ll, ax_li, ax_st1, ax_st2, ax_kl, ax_k2, ax_fit, ax_rtok, List.getElem?_cons_zero, List.getElem?_cons_succ, List.length_cons, List.length_nil, List.set_cons_zero, List.set_cons_succ, Nat.reduceAdd, Nat.reduceDiv, Nat.reduceMod, Nat.reduceMul, Nat.reduceLT, Nat.reduceLeDiff, Int32.reduceOfInt, Int64.reduceOfInt, true_and, and_true, and_self, true_or, or_true, false_implies, true_implies, not_false_eq_true, not_true_eq_false, Value.category, Nat.reduceEqDiff, Option.toList, List.cons_append, List.nil_append, List.drop_succ_cons, List.drop_zero, ax_qq_eq, ax_t_1499, ax_j_1499_70, ax_n_1499_70, ax_j_1499_71, ax_n_1499_71, w2, y2, mo_f, hal, e1, v1, e2, e5, e4, hle, Int32.add_zero]
        rw [ax_j_1499_24]
        exact ih _
  · simp only [Classical.not_not] at h
    rw [if_neg (by rw [h]; decide)] at hQ
    exact hQ _ (mq_of h0 (mfr_rf _) S0.1 (mfq_rf _) hA)
theorem mp_total (Z : mZ es n st k p hc kd pm ht hs F1 F2 T C sh pl dn) (c m : Int32) (hQ : ∀ es', mq es st es' → Q (some (.int (zq_total (kx_dd F1 F2 k kd ht (nI C) hs hc T sh pl) p dn c m))) es') : ax_Mt (d + 10) 1488 [.ref 159, .int c, .int m] n sl es Q := by
  obtain ⟨E, S, hT, hdn, hA⟩ := Z
  obtain ⟨hal, hk, hp, hhs, hF, hK⟩ := id E
  unfold zq_total at hQ
  refine ax_Mt_go (m := ax_m_11_80) (ls := [some (.ref 159), some (.int c), some (.int m)]) rfl ax_b_1488_0 (Nat.le_of_ble_eq_true rfl) rfl ?_
  refine mk_thrown hal hK.1 rfl ?_
  intro es0 h0
  have E0 := mE_th E h0
  have S0 := mS_th S h0
  simp only [ax_W_cons, ax_I, ax_cmp, ax_ii, ax_ll, ax_li, ax_st1, ax_st2, ax_kl, ax_k2, ax_fit, ax_rtok, List.getElem?_cons_zero, List.getElem?_cons_succ, List.length_cons, List.length_nil, List.set_cons_zero, List.set_cons_succ, Nat.reduceAdd, Nat.reduceDiv, Nat.reduceMod, Nat.reduceMul, Nat.reduceLT, Nat.reduceLeDiff, Int32.reduceOfInt, Int64.reduceOfInt, true_and, and_true, and_self, true_or, or_true, false_implies, true_implies, not_false_eq_true, not_true_eq_false, Value.category, Nat.reduceEqDiff, Option.toList, List.cons_append, List.nil_append, List.drop_succ_cons, List.drop_zero, ax_qq_eq, ax_t_1488]
  refine ax_inv_of (Nat.le_of_ble_eq_true rfl) (Nat.le_of_ble_eq_true rfl) (fun _ => mE_rcv E0 _) (fun h => absurd h (by decide)) (Nat.le_refl _) (Nat.le_refl _) (mk_isCourtier hal hp E0.2.2.2.2.2 c ?_)
  simp only [ax_W_cons, ax_I, ax_cmp, ax_ii, ax_ll, ax_li, ax_st1, ax_st2, ax_kl, ax_k2, ax_fit, ax_rtok, List.getElem?_cons_zero, List.getElem?_cons_succ, List.length_cons, List.length_nil, List.set_cons_zero, List.set_cons_succ, Nat.reduceAdd, Nat.reduceDiv, Nat.reduceMod, Nat.reduceMul, Nat.reduceLT, Nat.reduceLeDiff, Int32.reduceOfInt, Int64.reduceOfInt, true_and, and_true, and_self, true_or, or_true, false_implies, true_implies, not_false_eq_true, not_true_eq_false, Value.category, Nat.reduceEqDiff, Option.toList, List.cons_append, List.nil_append, List.drop_succ_cons, List.drop_zero, ax_qq_eq, ax_t_1488, ax_j_1488_23, ax_n_1488_23, kx_b0]
  refine ⟨fun h => ?_, fun h => ?_⟩
  · rw [if_neg (fun z => by rw [h] at z; exact absurd z.1 (by decide))] at hQ
    exact hQ _ (mq_of h0 (mfr_rf _) S0.1 (mfq_rf _) hA)
  · have h : kx_cell p c = true := by simpa using h
    refine ax_inv_of (Nat.le_of_ble_eq_true rfl) (Nat.le_of_ble_eq_true rfl) (fun _ => absurd ‹_› (by decide)) (fun h => absurd h (by decide)) (Nat.le_refl _) (Nat.le_refl _) (mk_within _ _ _ ?_)
    simp only [ax_W_cons, ax_I, ax_cmp, ax_ii, ax_ll, ax_li, ax_st1, ax_st2, ax_kl, ax_k2, ax_fit, ax_rtok, List.getElem?_cons_zero, List.getElem?_cons_succ, List.length_cons, List.length_nil, List.set_cons_zero, List.set_cons_succ, Nat.reduceAdd, Nat.reduceDiv, Nat.reduceMod, Nat.reduceMul, Nat.reduceLT, Nat.reduceLeDiff, Int32.reduceOfInt, Int64.reduceOfInt, true_and, and_true, and_self, true_or, or_true, false_implies, true_implies, not_false_eq_true, not_true_eq_false, Value.category, Nat.reduceEqDiff, Option.toList, List.cons_append, List.nil_append, List.drop_succ_cons, List.drop_zero, ax_qq_eq, ax_t_1488, ax_j_1488_23, ax_n_1488_23, ax_j_1488_25, ax_n_1488_25, kx_b0]
    refine ⟨fun h2 => ?_, fun h2 => ?_⟩
    · have h2 : kx_in m 1 60 = true := by simpa using h2
      rw [if_pos ⟨h, h2⟩] at hQ
      obtain ⟨c', hc', rfl⟩ := kx_cell_in (by omega) h
      obtain ⟨m', -, hm', rfl⟩ := kx_in_nI (a := 1) (b := 60) (by decide) (by decide) h2
      rw [nI_clamp (by omega), nI_clamp (by omega)] at hQ
      refine ax_inv_of (Nat.le_of_ble_eq_true rfl) (Nat.le_of_ble_eq_true rfl) (fun _ => mE_rcv E0 _) (fun h => absurd h (by decide)) (Nat.le_refl _) (Nat.le_refl _) (mk_tries E0 S0 ?_)
      intro es1 st1 f1 f2 f3 f4
      have E1 := mE_fr E0 f1
      simp only [ax_W_cons, ax_I, ax_cmp, ax_ii, ax_ll, ax_li, ax_st1, ax_st2, ax_kl, ax_k2, ax_fit, ax_rtok, List.getElem?_cons_zero, List.getElem?_cons_succ, List.length_cons, List.length_nil, List.set_cons_zero, List.set_cons_succ, Nat.reduceAdd, Nat.reduceDiv, Nat.reduceMod, Nat.reduceMul, Nat.reduceLT, Nat.reduceLeDiff, Int32.reduceOfInt, Int64.reduceOfInt, true_and, and_true, and_self, true_or, or_true, false_implies, true_implies, not_false_eq_true, not_true_eq_false, Value.category, Nat.reduceEqDiff, Option.toList, List.cons_append, List.nil_append, List.drop_succ_cons, List.drop_zero, ax_qq_eq, ax_t_1488]
      refine ax_inv_of (Nat.le_of_ble_eq_true rfl) (Nat.le_of_ble_eq_true rfl) (fun _ => mE_rcv E1 _) (fun h => absurd h (by decide)) (Nat.le_refl _) (Nat.le_refl _) (mk_runs E1 f3 (m := m') (by omega) ?_)
      intro es2 st2 g1 g2 g3
      have S2 := mS_q E S (mfq_trans (mfs_q (by omega) f2) (mfs_q (by omega) g2)) g3.1
      obtain ⟨th, tp, sz, at0, fl, cd, nm, rm, on, fh, un, g, w0⟩ := (mE_fr E1 g1).2.2.2.2.2.1
      have y1 := g3.1.1
      obtain ⟨e1, v1, e2⟩ := mx_1112 (c := c') (by omega)
      obtain ⟨a1, a2, a3⟩ := mx_20 (c := c') (by omega)
      have e3 := g3.2.1.2.2.2.2 c' hc'
      have a4 := S2.2.1.2.2.2.2 c' hc'
      simp only [ax_W_cons, ax_I, ax_cmp, ax_ii, ax_ll, ax_li, ax_st1, ax_st2, ax_kl, ax_k2, ax_fit, ax_rtok, List.getElem?_cons_zero, List.getElem?_cons_succ, List.length_cons, List.length_nil, List.set_cons_zero, List.set_cons_succ, Nat.reduceAdd, Nat.reduceDiv, Nat.reduceMod, Nat.reduceMul, Nat.reduceLT, Nat.reduceLeDiff, Int32.reduceOfInt, Int64.reduceOfInt, true_and, and_true, and_self, true_or, or_true, false_implies, true_implies, not_false_eq_true, not_true_eq_false, Value.category, Nat.reduceEqDiff, Option.toList, List.cons_append, List.nil_append, List.drop_succ_cons, List.drop_zero, ax_qq_eq, ax_t_1488, w0, y1, mo_f, hal, e1, v1, e2, e3, a1, a2, a3, a4]
      exact hQ _ (mq_of h0 (mfr_trans f1 g1) g3.1 (mfq_trans (mfs_q (by omega) f2) (mfs_q (by omega) g2)) hA)
    · have h2 : kx_in m 1 60 = false := by simpa using h2
      rw [if_neg (fun z => by rw [h2] at z; exact absurd z.2 (by decide))] at hQ
      exact hQ _ (mq_of h0 (mfr_rf _) S0.1 (mfq_rf _) hA)
theorem mp_lazy (Z : mZ es n st k p hc kd pm ht hs F1 F2 T C sh pl dn) (hQ : ∀ es', mq es st es' → Q (some (.int (kx_idle (kx_pdn (kx_dd F1 F2 k kd ht (nI C) hs hc T sh pl) p dn 1) dn p))) es') : ax_Mt (d + 10) 1496 [.ref 159] n sl es Q := by
  obtain ⟨E, S, hT, hdn, hA⟩ := Z
  obtain ⟨hal, hk, hp, hhs, hF, hK⟩ := id E
  refine ax_Mt_go (m := ax_m_11_88) (ls := [some (.ref 159), none, none]) rfl ax_b_1496_0 (Nat.le_of_ble_eq_true rfl) rfl ?_
  refine mk_thrown hal hK.1 rfl ?_
  intro es0 h0
  have E0 := mE_th E h0
  have S0 := mS_th S h0
  simp only [ax_W_cons, ax_I, ax_cmp, ax_ii, ax_ll, ax_li, ax_st1, ax_st2, ax_kl, ax_k2, ax_fit, ax_rtok, List.getElem?_cons_zero, List.getElem?_cons_succ, List.length_cons, List.length_nil, List.set_cons_zero, List.set_cons_succ, Nat.reduceAdd, Nat.reduceDiv, Nat.reduceMod, Nat.reduceMul, Nat.reduceLT, Nat.reduceLeDiff, Int32.reduceOfInt, Int64.reduceOfInt, true_and, and_true, and_self, true_or, or_true, false_implies, true_implies, not_false_eq_true, not_true_eq_false, Value.category, Nat.reduceEqDiff, Option.toList, List.cons_append, List.nil_append, List.drop_succ_cons, List.drop_zero, ax_qq_eq, ax_t_1496]
  refine ax_inv_of (Nat.le_of_ble_eq_true rfl) (Nat.le_of_ble_eq_true rfl) (fun _ => mE_rcv E0 _) (fun h => absurd h (by decide)) (Nat.le_refl _) (Nat.le_refl _) (mk_tries E0 S0 ?_)
  intro es1 st1 f1 f2 f3 f4
  have E1 := mE_fr E0 f1
  simp only [ax_W_cons, ax_I, ax_cmp, ax_ii, ax_ll, ax_li, ax_st1, ax_st2, ax_kl, ax_k2, ax_fit, ax_rtok, List.getElem?_cons_zero, List.getElem?_cons_succ, List.length_cons, List.length_nil, List.set_cons_zero, List.set_cons_succ, Nat.reduceAdd, Nat.reduceDiv, Nat.reduceMod, Nat.reduceMul, Nat.reduceLT, Nat.reduceLeDiff, Int32.reduceOfInt, Int64.reduceOfInt, true_and, and_true, and_self, true_or, or_true, false_implies, true_implies, not_false_eq_true, not_true_eq_false, Value.category, Nat.reduceEqDiff, Option.toList, List.cons_append, List.nil_append, List.drop_succ_cons, List.drop_zero, ax_qq_eq, ax_t_1496]
  refine ax_inv_of (Nat.le_of_ble_eq_true rfl) (Nat.le_of_ble_eq_true rfl) (fun _ => mE_rcv E1 _) (fun h => absurd h (by decide)) (Nat.le_refl _) (Nat.le_refl _) (mk_passes E1 f3 (b := 1092) (by omega) (by omega) ?_)
  intro es2 st2 g1 g2 g3
  have E2 := mE_fr E1 g1
  have hq2 := mfq_trans (mfs_q (by omega) f2) (mfs_q (by omega) g2)
  have S2 := mS_q E S hq2 g3.1
  have g4 : ∀ i, i < p → st2 (1092 + 20 + i) = kx_pdn (kx_dd F1 F2 k kd ht (nI C) hs hc T sh pl) p dn 1 i := g3.2.1.2.2.2.2
  obtain ⟨th, tp, sz, at0, fl, cd, nm, rm, on, fh, un, g, w0⟩ := id E2.2.2.2.2.2.1
  have y1 := g3.1.1
  simp only [ax_W_cons, ax_I, ax_cmp, ax_ii, ax_ll, ax_li, ax_st1, ax_st2, ax_kl, ax_k2, ax_fit, ax_rtok, List.getElem?_cons_zero, List.getElem?_cons_succ, List.length_cons, List.length_nil, List.set_cons_zero, List.set_cons_succ, Nat.reduceAdd, Nat.reduceDiv, Nat.reduceMod, Nat.reduceMul, Nat.reduceLT, Nat.reduceLeDiff, Int32.reduceOfInt, Int64.reduceOfInt, true_and, and_true, and_self, true_or, or_true, false_implies, true_implies, not_false_eq_true, not_true_eq_false, Value.category, Nat.reduceEqDiff, Option.toList, List.cons_append, List.nil_append, List.drop_succ_cons, List.drop_zero, ax_qq_eq, ax_t_1496]
  rw [ax_n_1496_21]
  refine kx_loop (k := p) (I := fun c => ax_W (d + 10) n sl 1496 [(1, .iload 2), (1, .aload 0), (3, .invokeinterface 1451 5), (3, .if_icmp .ge 67), (1, .iload 1), (1, .aload 0), (3, .getfield 2910), (3, .iconst 1112), (1, .iload 2), (1, .iadd), (1, .iaload), (1, .aload 0), (3, .getfield 2910), (2, .iconst 20), (1, .iload 2), (1, .iadd), (1, .iaload), (3, .if_icmp .ne 58), (1, .iconst 1), (1, .iload 2), (1, .ishl), (3, .goto 59)] 21 [some (.ref 159), some (.int (kx_idle (kx_pdn (kx_dd F1 F2 k kd ht (nI C) hs hc T sh pl) p dn 1) dn c)), some (.int (nI c))] [] n sl es2 (ax_qq n sl Q)) ?_ ?_
  · have e0 := kx_nn (k := p) (by omega)
    simp only [ax_W_cons, ax_I, ax_cmp, ax_ii, ax_ll, ax_li, ax_st1, ax_st2, ax_kl, ax_k2, ax_fit, ax_rtok, List.getElem?_cons_zero, List.getElem?_cons_succ, List.length_cons, List.length_nil, List.set_cons_zero, List.set_cons_succ, Nat.reduceAdd, Nat.reduceDiv, Nat.reduceMod, Nat.reduceMul, Nat.reduceLT, Nat.reduceLeDiff, Int32.reduceOfInt, Int64.reduceOfInt, true_and, and_true, and_self, true_or, or_true, false_implies, true_implies, not_false_eq_true, not_true_eq_false, Value.category, Nat.reduceEqDiff, Option.toList, List.cons_append, List.nil_append, List.drop_succ_cons, List.drop_zero, ax_qq_eq, ax_t_1496]
    refine ax_inv_of (Nat.le_of_ble_eq_true rfl) (Nat.le_of_ble_eq_true rfl) (fun _ => mE_rcv E2 _) (fun h => absurd h (by decide)) (Nat.le_refl _) (Nat.le_refl _) (mk_courtiers hal E2.2.2.2.2.2 ?_)
    simp only [ax_W_cons, ax_I, ax_cmp, ax_ii, ax_ll, ax_li, ax_st1, ax_st2, ax_kl, ax_k2, ax_fit, ax_rtok, List.getElem?_cons_zero, List.getElem?_cons_succ, List.length_cons, List.length_nil, List.set_cons_zero, List.set_cons_succ, Nat.reduceAdd, Nat.reduceDiv, Nat.reduceMod, Nat.reduceMul, Nat.reduceLT, Nat.reduceLeDiff, Int32.reduceOfInt, Int64.reduceOfInt, true_and, and_true, and_self, true_or, or_true, false_implies, true_implies, not_false_eq_true, not_true_eq_false, Value.category, Nat.reduceEqDiff, Option.toList, List.cons_append, List.nil_append, List.drop_succ_cons, List.drop_zero, ax_qq_eq, ax_t_1496, ax_j_1496_67, ax_n_1496_67, e0]
    exact hQ _ (mq_of h0 (mfr_trans f1 g1) g3.1 hq2 hA)
  · intro c hc2 ih
    obtain ⟨q1, -, -, q4⟩ := kx_ix hc2 hp (by decide)
    obtain ⟨e1, v1, e2⟩ := mx_1112 (c := c) (by omega)
    obtain ⟨a1, a2, a3⟩ := mx_20 (c := c) (by omega)
    have e3 := g4 c hc2
    have a4 := S2.2.1.2.2.2.2 c hc2
    rw [kx_idle] at ih
    simp only [ax_W_cons, ax_I, ax_cmp, ax_ii, ax_ll, ax_li, ax_st1, ax_st2, ax_kl, ax_k2, ax_fit, ax_rtok, List.getElem?_cons_zero, List.getElem?_cons_succ, List.length_cons, List.length_nil, List.set_cons_zero, List.set_cons_succ, Nat.reduceAdd, Nat.reduceDiv, Nat.reduceMod, Nat.reduceMul, Nat.reduceLT, Nat.reduceLeDiff, Int32.reduceOfInt, Int64.reduceOfInt, true_and, and_true, and_self, true_or, or_true, false_implies, true_implies, not_false_eq_true, not_true_eq_false, Value.category, Nat.reduceEqDiff, Option.toList, List.cons_append, List.nil_append, List.drop_succ_cons, List.drop_zero, ax_qq_eq, ax_t_1496]
    refine ax_inv_of (Nat.le_of_ble_eq_true rfl) (Nat.le_of_ble_eq_true rfl) (fun _ => mE_rcv E2 _) (fun h => absurd h (by decide)) (Nat.le_refl _) (Nat.le_refl _) (mk_courtiers hal E2.2.2.2.2.2 ?_)
    simp only [ax_W_cons, ax_I, ax_cmp, ax_ii, ax_ll, ax_li, ax_st1, ax_st2, ax_kl, ax_k2, ax_fit, ax_rtok, List.getElem?_cons_zero, List.getElem?_cons_succ, List.length_cons, List.length_nil, List.set_cons_zero, List.set_cons_succ, Nat.reduceAdd, Nat.reduceDiv, Nat.reduceMod, Nat.reduceMul, Nat.reduceLT, Nat.reduceLeDiff, Int32.reduceOfInt, Int64.reduceOfInt, true_and, and_true, and_self, true_or, or_true, false_implies, true_implies, not_false_eq_true, not_true_eq_false, Value.category, Nat.reduceEqDiff, Option.toList, List.cons_append, List.nil_append, List.drop_succ_cons, List.drop_zero, ax_qq_eq, ax_t_1496, ax_j_1496_58, ax_n_1496_58, ax_j_1496_59, ax_n_1496_59, w0, y1, mo_f, hal, q1, q4, e1, v1, e2, e3, a1, a2, a3, a4, Int32.or_zero]
    simp only [ax_j_1496_21]
    refine ⟨fun h => ?_, fun h => ?_⟩
    · rw [if_neg h] at ih
      exact ih
    · simp only [Classical.not_not] at h
      rw [if_pos h] at ih
      exact ih
def mo_lst (cr : Int32) (sh : Nat → Int32) (m : Nat) : Int32 := if kx_quiet cr sh m = -1 then 0 else sh (kx_quiet cr sh m).toNatClampNeg
theorem mp_calmest (Z : mZ es n st k p hc kd pm ht hs F1 F2 T C sh pl dn) (m : Int32) (hQ : ∀ es', mq es st es' → Q (some (.int (zq_calmest F1 k (nI C) hs hc T sh m))) es') : ax_Mt (d + 10) 1495 [.ref 159, .int m] n sl es Q := by
  obtain ⟨E, S, hT, hdn, hA⟩ := Z
  obtain ⟨hal, hk, hp, hhs, hF, hK⟩ := id E
  unfold zq_calmest at hQ
  refine ax_Mt_go (m := ax_m_11_87) (ls := [some (.ref 159), some (.int m), none, none, none, none, none]) rfl ax_b_1495_0 (Nat.le_of_ble_eq_true rfl) rfl ?_
  refine mk_thrown hal hK.1 rfl ?_
  intro es0 h0
  have E0 := mE_th E h0
  have S0 := mS_th S h0
  simp only [ax_W_cons, ax_I, ax_cmp, ax_ii, ax_ll, ax_li, ax_st1, ax_st2, ax_kl, ax_k2, ax_fit, ax_rtok, List.getElem?_cons_zero, List.getElem?_cons_succ, List.length_cons, List.length_nil, List.set_cons_zero, List.set_cons_succ, Nat.reduceAdd, Nat.reduceDiv, Nat.reduceMod, Nat.reduceMul, Nat.reduceLT, Nat.reduceLeDiff, Int32.reduceOfInt, Int64.reduceOfInt, true_and, and_true, and_self, true_or, or_true, false_implies, true_implies, not_false_eq_true, not_true_eq_false, Value.category, Nat.reduceEqDiff, Option.toList, List.cons_append, List.nil_append, List.drop_succ_cons, List.drop_zero, ax_qq_eq, ax_t_1495]
  refine ax_inv_of (Nat.le_of_ble_eq_true rfl) (Nat.le_of_ble_eq_true rfl) (fun _ => absurd ‹_› (by decide)) (fun h => absurd h (by decide)) (Nat.le_refl _) (Nat.le_refl _) (mk_within _ _ _ ?_)
  simp only [ax_W_cons, ax_I, ax_cmp, ax_ii, ax_ll, ax_li, ax_st1, ax_st2, ax_kl, ax_k2, ax_fit, ax_rtok, List.getElem?_cons_zero, List.getElem?_cons_succ, List.length_cons, List.length_nil, List.set_cons_zero, List.set_cons_succ, Nat.reduceAdd, Nat.reduceDiv, Nat.reduceMod, Nat.reduceMul, Nat.reduceLT, Nat.reduceLeDiff, Int32.reduceOfInt, Int64.reduceOfInt, true_and, and_true, and_self, true_or, or_true, false_implies, true_implies, not_false_eq_true, not_true_eq_false, Value.category, Nat.reduceEqDiff, Option.toList, List.cons_append, List.nil_append, List.drop_succ_cons, List.drop_zero, ax_qq_eq, ax_t_1495, ax_j_1495_17, ax_n_1495_17, kx_b0]
  refine ⟨fun h2 => ?_, fun h2 => ?_⟩
  · have h2 : kx_in m 0 60 = true := by simpa using h2
    rw [if_pos h2] at hQ
    obtain ⟨m', -, hm', rfl⟩ := kx_in_nI (a := 0) (b := 60) (by decide) (by decide) h2
    rw [nI_clamp (by omega)] at hQ
    refine ax_inv_of (Nat.le_of_ble_eq_true rfl) (Nat.le_of_ble_eq_true rfl) (fun _ => mE_rcv E0 _) (fun h => absurd h (by decide)) (Nat.le_refl _) (Nat.le_refl _) (mk_tries E0 S0 ?_)
    intro es1 st1 f1 f2 f3 f4
    have E1 := mE_fr E0 f1
    simp only [ax_W_cons, ax_I, ax_cmp, ax_ii, ax_ll, ax_li, ax_st1, ax_st2, ax_kl, ax_k2, ax_fit, ax_rtok, List.getElem?_cons_zero, List.getElem?_cons_succ, List.length_cons, List.length_nil, List.set_cons_zero, List.set_cons_succ, Nat.reduceAdd, Nat.reduceDiv, Nat.reduceMod, Nat.reduceMul, Nat.reduceLT, Nat.reduceLeDiff, Int32.reduceOfInt, Int64.reduceOfInt, true_and, and_true, and_self, true_or, or_true, false_implies, true_implies, not_false_eq_true, not_true_eq_false, Value.category, Nat.reduceEqDiff, Option.toList, List.cons_append, List.nil_append, List.drop_succ_cons, List.drop_zero, ax_qq_eq, ax_t_1495]
    refine ax_inv_of (Nat.le_of_ble_eq_true rfl) (Nat.le_of_ble_eq_true rfl) (fun _ => mE_rcv E1 _) (fun h => absurd h (by decide)) (Nat.le_refl _) (Nat.le_refl _) (mk_runs E1 f3 (m := m') (by omega) ?_)
    intro es2 st2 g1 g2 g3
    have E2 := mE_fr E1 g1
    have hq2 := mfq_trans (mfs_q (by omega) f2) (mfs_q (by omega) g2)
    have S2 := mS_q E S hq2 g3.1
    obtain ⟨th, tp, sz, at0, fl, cd, nm, rm, on, fh, un, g, w0⟩ := id E2.2.2.2.2.2.1
    have y1 := g3.1.1
    have g4 := g3.2.1.2.2.1
    generalize kx_dr F1 k (nI C) hs hc T sh m' = R at hQ g4
    simp only [ax_W_cons, ax_I, ax_cmp, ax_ii, ax_ll, ax_li, ax_st1, ax_st2, ax_kl, ax_k2, ax_fit, ax_rtok, List.getElem?_cons_zero, List.getElem?_cons_succ, List.length_cons, List.length_nil, List.set_cons_zero, List.set_cons_succ, Nat.reduceAdd, Nat.reduceDiv, Nat.reduceMod, Nat.reduceMul, Nat.reduceLT, Nat.reduceLeDiff, Int32.reduceOfInt, Int64.reduceOfInt, true_and, and_true, and_self, true_or, or_true, false_implies, true_implies, not_false_eq_true, not_true_eq_false, Value.category, Nat.reduceEqDiff, Option.toList, List.cons_append, List.nil_append, List.drop_succ_cons, List.drop_zero, ax_qq_eq, ax_t_1495]
    rw [ax_n_1495_33]
    refine kx_loop (k := k) (I := fun c => ∀ v5 v6, ax_W (d + 10) n sl 1495 [(2, .iload 4), (1, .aload 0), (3, .invokeinterface 1450 5), (3, .if_icmp .ge 112), (1, .aload 0), (3, .getfield 2910), (3, .iconst 1094), (2, .iload 4), (1, .iadd), (1, .iaload), (2, .istore 5), (1, .aload 0), (1, .iconst 0), (2, .iload 4), (3, .invokeinterface 1456 13), (3, .ifCond .eq 79), (1, .iload 2), (3, .ifCond .lt 75), (2, .iload 5), (1, .iload 3), (3, .if_icmp .ge 79)] 33 [some (.ref 159), some (.int (nI m')), some (.int (kx_quiet (nI C) R c)), some (.int (mo_lst (nI C) R c)), some (.int (nI c)), v5, v6] [] n sl es2 (ax_qq n sl Q)) ?_ ?_ none none
    · intro v5 v6
      have e0 := kx_nn (k := k) (by omega)
      simp only [ax_W_cons, ax_I, ax_cmp, ax_ii, ax_ll, ax_li, ax_st1, ax_st2, ax_kl, ax_k2, ax_fit, ax_rtok, List.getElem?_cons_zero, List.getElem?_cons_succ, List.length_cons, List.length_nil, List.set_cons_zero, List.set_cons_succ, Nat.reduceAdd, Nat.reduceDiv, Nat.reduceMod, Nat.reduceMul, Nat.reduceLT, Nat.reduceLeDiff, Int32.reduceOfInt, Int64.reduceOfInt, true_and, and_true, and_self, true_or, or_true, false_implies, true_implies, not_false_eq_true, not_true_eq_false, Value.category, Nat.reduceEqDiff, Option.toList, List.cons_append, List.nil_append, List.drop_succ_cons, List.drop_zero, ax_qq_eq, ax_t_1495]
      refine ax_inv_of (Nat.le_of_ble_eq_true rfl) (Nat.le_of_ble_eq_true rfl) (fun _ => mE_rcv E2 _) (fun h => absurd h (by decide)) (Nat.le_refl _) (Nat.le_refl _) (mk_cells hal E2.2.2.2.2.2 ?_)
      simp only [ax_W_cons, ax_I, ax_cmp, ax_ii, ax_ll, ax_li, ax_st1, ax_st2, ax_kl, ax_k2, ax_fit, ax_rtok, List.getElem?_cons_zero, List.getElem?_cons_succ, List.length_cons, List.length_nil, List.set_cons_zero, List.set_cons_succ, Nat.reduceAdd, Nat.reduceDiv, Nat.reduceMod, Nat.reduceMul, Nat.reduceLT, Nat.reduceLeDiff, Int32.reduceOfInt, Int64.reduceOfInt, true_and, and_true, and_self, true_or, or_true, false_implies, true_implies, not_false_eq_true, not_true_eq_false, Value.category, Nat.reduceEqDiff, Option.toList, List.cons_append, List.nil_append, List.drop_succ_cons, List.drop_zero, ax_qq_eq, ax_t_1495, ax_j_1495_112, ax_n_1495_112, e0]
      exact hQ _ (mq_of h0 (mfr_trans f1 g1) g3.1 hq2 hA)
    · intro c hc2 ih v5 v6
      obtain ⟨q1, -, q3, q4⟩ := kx_ix hc2 hk.2 (by decide)
      obtain ⟨e1, v1, e2⟩ := mx_1094 (c := c) (by omega)
      have e3 := g4 c hc2
      have hop : kx_op k (nI C) (nI c) = !kx_ck (nI C) (nI c) := by
        unfold kx_op
        rw [kx_cell_nI (by omega) hc2, Bool.true_and]
      simp only [ax_W_cons, ax_I, ax_cmp, ax_ii, ax_ll, ax_li, ax_st1, ax_st2, ax_kl, ax_k2, ax_fit, ax_rtok, List.getElem?_cons_zero, List.getElem?_cons_succ, List.length_cons, List.length_nil, List.set_cons_zero, List.set_cons_succ, Nat.reduceAdd, Nat.reduceDiv, Nat.reduceMod, Nat.reduceMul, Nat.reduceLT, Nat.reduceLeDiff, Int32.reduceOfInt, Int64.reduceOfInt, true_and, and_true, and_self, true_or, or_true, false_implies, true_implies, not_false_eq_true, not_true_eq_false, Value.category, Nat.reduceEqDiff, Option.toList, List.cons_append, List.nil_append, List.drop_succ_cons, List.drop_zero, ax_qq_eq, ax_t_1495]
      refine ax_inv_of (Nat.le_of_ble_eq_true rfl) (Nat.le_of_ble_eq_true rfl) (fun _ => mE_rcv E2 _) (fun h => absurd h (by decide)) (Nat.le_refl _) (Nat.le_refl _) (mk_cells hal E2.2.2.2.2.2 ?_)
      simp only [ax_W_cons, ax_I, ax_cmp, ax_ii, ax_ll, ax_li, ax_st1, ax_st2, ax_kl, ax_k2, ax_fit, ax_rtok, List.getElem?_cons_zero, List.getElem?_cons_succ, List.length_cons, List.length_nil, List.set_cons_zero, List.set_cons_succ, Nat.reduceAdd, Nat.reduceDiv, Nat.reduceMod, Nat.reduceMul, Nat.reduceLT, Nat.reduceLeDiff, Int32.reduceOfInt, Int64.reduceOfInt, true_and, and_true, and_self, true_or, or_true, false_implies, true_implies, not_false_eq_true, not_true_eq_false, Value.category, Nat.reduceEqDiff, Option.toList, List.cons_append, List.nil_append, List.drop_succ_cons, List.drop_zero, ax_qq_eq, ax_t_1495, w0, y1, mo_f, hal, q1, e1, v1, e2, e3]
      refine ax_inv_of (Nat.le_of_ble_eq_true rfl) (Nat.le_of_ble_eq_true rfl) (fun _ => mE_rcv E2 _) (fun h => absurd h (by decide)) (Nat.le_refl _) (Nat.le_refl _) (mk_whole E2 S2 (b := 0) (by omega) (nI c) ?_)
      rw [hop]
      have neg : ¬ (kx_ck (nI C) (nI c) = false ∧ (kx_quiet (nI C) R c = -1 ∨ R c < R (kx_quiet (nI C) R c).toNatClampNeg)) → ax_J ax_W (d + 10) n sl 1495 79 [some (.ref 159), some (.int (nI m')), some (.int (kx_quiet (nI C) R c)), some (.int (mo_lst (nI C) R c)), some (.int (nI c)), some (.int (R c)), v6] [] n sl es2 (ax_qq n sl Q) := by
        intro hno
        have ih := ih (some (.int (R c))) (some (.int 0))
        unfold mo_lst at ih
        rw [kx_quiet, if_neg hno] at ih
        simp only [ax_W_cons, ax_I, ax_cmp, ax_ii, ax_ll, ax_li, ax_st1, ax_st2, ax_kl, ax_k2, ax_fit, ax_rtok, List.getElem?_cons_zero, List.getElem?_cons_succ, List.length_cons, List.length_nil, List.set_cons_zero, List.set_cons_succ, Nat.reduceAdd, Nat.reduceDiv, Nat.reduceMod, Nat.reduceMul, Nat.reduceLT, Nat.reduceLeDiff, Int32.reduceOfInt, Int64.reduceOfInt, true_and, and_true, and_self, true_or, or_true, false_implies, true_implies, not_false_eq_true, not_true_eq_false, Value.category, Nat.reduceEqDiff, Option.toList, List.cons_append, List.nil_append, List.drop_succ_cons, List.drop_zero, ax_qq_eq, ax_t_1495, ax_j_1495_79, ax_n_1495_79, ax_j_1495_80, ax_n_1495_80, ax_j_1495_92, ax_n_1495_92, ax_j_1495_93, ax_n_1495_93, ax_j_1495_104, ax_n_1495_104, ax_j_1495_105, ax_n_1495_105, q4]
        rw [ax_j_1495_33]
        exact ih
      have pos : (kx_ck (nI C) (nI c) = false ∧ (kx_quiet (nI C) R c = -1 ∨ R c < R (kx_quiet (nI C) R c).toNatClampNeg)) → ax_J ax_W (d + 10) n sl 1495 75 [some (.ref 159), some (.int (nI m')), some (.int (kx_quiet (nI C) R c)), some (.int (mo_lst (nI C) R c)), some (.int (nI c)), some (.int (R c)), v6] [] n sl es2 (ax_qq n sl Q) := by
        intro hyes
        have ih := ih (some (.int (R c))) (some (.int 1))
        unfold mo_lst at ih
        have c9 : ¬ nI c = -1 := fun z => by
          have := congrArg Int32.toInt z
          rw [nI_toInt (by omega)] at this
          have e : (-1 : Int32).toInt = -1 := rfl
          omega
        rw [kx_quiet, if_pos hyes, if_neg c9, q3] at ih
        have c10 : ¬ (1 : Int32) = 0 := by decide
        simp only [ax_W_cons, ax_I, ax_cmp, ax_ii, ax_ll, ax_li, ax_st1, ax_st2, ax_kl, ax_k2, ax_fit, ax_rtok, List.getElem?_cons_zero, List.getElem?_cons_succ, List.length_cons, List.length_nil, List.set_cons_zero, List.set_cons_succ, Nat.reduceAdd, Nat.reduceDiv, Nat.reduceMod, Nat.reduceMul, Nat.reduceLT, Nat.reduceLeDiff, Int32.reduceOfInt, Int64.reduceOfInt, true_and, and_true, and_self, true_or, or_true, false_implies, true_implies, not_false_eq_true, not_true_eq_false, Value.category, Nat.reduceEqDiff, Option.toList, List.cons_append, List.nil_append, List.drop_succ_cons, List.drop_zero, ax_qq_eq, ax_t_1495, ax_j_1495_75, ax_n_1495_75, ax_j_1495_80, ax_n_1495_80, ax_j_1495_93, ax_n_1495_93, ax_j_1495_105, ax_n_1495_105, q4, c10]
        rw [ax_j_1495_33]
        exact ih
      simp only [ax_W_cons, ax_I, ax_cmp, ax_ii, ax_ll, ax_li, ax_st1, ax_st2, ax_kl, ax_k2, ax_fit, ax_rtok, List.getElem?_cons_zero, List.getElem?_cons_succ, List.length_cons, List.length_nil, List.set_cons_zero, List.set_cons_succ, Nat.reduceAdd, Nat.reduceDiv, Nat.reduceMod, Nat.reduceMul, Nat.reduceLT, Nat.reduceLeDiff, Int32.reduceOfInt, Int64.reduceOfInt, true_and, and_true, and_self, true_or, or_true, false_implies, true_implies, not_false_eq_true, not_true_eq_false, Value.category, Nat.reduceEqDiff, Option.toList, List.cons_append, List.nil_append, List.drop_succ_cons, List.drop_zero, ax_qq_eq, ax_t_1495, kx_b0]
      refine ⟨fun h => neg (fun z => by rw [z.1] at h; exact absurd h (by decide)), fun h => ?_⟩
      have h : kx_ck (nI C) (nI c) = false := by simpa using h
      rcases kx_quiet_in (nI C) R c (by omega) with h9 | ⟨c', hc', h9⟩
      · have hlt : kx_quiet (nI C) R c < 0 := by rw [h9]; decide
        refine ⟨fun _ => pos ⟨h, Or.inl h9⟩, fun z => absurd hlt z⟩
      · have hlt : ¬ kx_quiet (nI C) R c < 0 := by rw [h9]; exact nI_pos (by omega)
        have hne : ¬ kx_quiet (nI C) R c = -1 := fun z => by rw [z] at hlt; exact hlt (by decide)
        refine ⟨fun z => absurd z hlt, fun _ => ⟨fun h8 => ?_, fun h8 => ?_⟩⟩
        · refine neg (fun z => ?_)
          rcases z.2 with z | z
          · exact hne z
          · unfold mo_lst at h8
            rw [if_neg hne] at h8
            exact absurd z (by rw [kx_nlt]; exact h8)
        · rw [kx_nle] at h8
          unfold mo_lst at h8
          rw [if_neg hne] at h8
          have pos := pos ⟨h, Or.inr h8⟩
          rw [ax_n_1495_75, ← ax_j_1495_75]
          exact pos
  · simp only [Classical.not_not] at h2
    rw [if_neg (by rw [h2]; decide)] at hQ
    exact hQ _ (mq_of h0 (mfr_rf _) S0.1 (mfq_rf _) hA)
end MM
