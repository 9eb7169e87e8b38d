/-! the reference: deeds walked -/
section MM
variable {d n sl k p hc L N un : Nat} {es : ax_H} {kd pm ht hs pl0 la lb lc : Nat → Int32} {F1 F2 : Int32 → Int32 → Int32 → Int32 → Int32} {st : Nat → Int32} {B : zB} {Fe : zF} {U : Nat → zB} {mk : Nat → Bool} {M : Nat → zB × zF} {w : mW9} {Q : Option Value → ax_H → Prop}
theorem mD_th {es0 : ax_H} (D : mD es n st w k p hc kd pm ht hs F1 F2 B Fe un U mk M) (h0 : mth es es0) : mD es0 n st w k p hc kd pm ht hs F1 F2 B Fe un U mk M := by
  obtain ⟨E, hX, hO, hun, hR, ⟨mb, m1, m2⟩, al, hA⟩ := D
  exact ⟨mE_th E h0, mX_th hX h0, mOb_th hO h0.2, hun, hR, ⟨mb, (h0.1 174 (by decide)).trans m1, m2⟩, al, (h0.1 176 (by decide)).trans hA⟩
theorem mD_0 {es' : ax_H} {st' : Nat → Int32} {B' : zB} (hz : zFs Fe mk M) (D : mD es n st w k p hc kd pm ht hs F1 F2 B Fe un U mk M) (f1 : mfr es es') (f2 : mX es' st') (f3 : mfs 0 st st') (f4 : mVb st' 0 k p B') : mD es' n st' w k p hc kd pm ht hs F1 F2 B' Fe un U mk M := by
  obtain ⟨E, hX, hO, hun, hR, ⟨mb, m1, m2⟩, al, hA⟩ := D
  exact ⟨mE_fr E f1, f2, mOb_fr hO (f1 159 (by decide)), hun, mRow_0 E.2.1.2 E.2.2.1 hun hz hR f3 f4, ⟨mb, (f1 174 (by decide)).trans m1, m2⟩, al, (f1 176 (by decide)).trans hA⟩
theorem mk_keepsD (hz : zFs Fe mk M) (D : mD es n st w k p hc kd pm ht hs F1 F2 B Fe un U mk M) (hQ : ∀ es' st', mD es' n st' w k p hc kd pm ht hs F1 F2 B Fe (zun un) (zpush U un B) mk M → mfd es es' → Q none es') : ax_Mt (d + 1) 1449 [.ref 159] n sl es Q := by
  obtain ⟨E, hX, ⟨t, g, hO⟩, hun, hR, ⟨mb, m1, m2⟩, al, hA⟩ := D
  obtain ⟨hal, hk, hp, hhs, hF, ⟨th, tp, sz, at0, fl, cd, nm, rm, on, fh, un', g0, q0⟩, ct, op, ar, q1, q2, q3, q4⟩ := id E
  refine mk_keeps hal hO hX hk.2 hp hun hz hR ?_
  intro es' st' i1 i2 i3 i4
  refine hQ es' st' ⟨⟨hal, hk, hp, hhs, hF, ⟨_, _, _, _, _, _, _, _, _, _, _, _, i2⟩, ct, op, ar, by rw [i1 165 (by decide)]; exact q1, by rw [i1 166 (by decide)]; exact q2, by rw [i1 167 (by decide)]; exact q3, q4⟩, i3, ⟨t, g, i2⟩, ?_, i4, ⟨mb, (i1 174 (by decide)).trans m1, m2⟩, al, (i1 176 (by decide)).trans hA⟩ (fun j hj => i1 j ⟨hj.1, hj.2.1, hj.2.2.1, hj.2.2.2.1, hj.2.2.2.2.2.1⟩)
  unfold zun
  split <;> omega
theorem mp_touch_no (hz : zFs Fe mk M) (D : mD es n st w k p hc kd pm ht hs F1 F2 B Fe un U mk M) (hB : zB_ok k p N B) (c f : Int32) (h : ¬ (kx_op k (nI B.2.1) c = true ∧ kx_in f 1 20 = true)) (hQ : ∀ es' st', mD es' n st' w k p hc kd pm ht hs F1 F2 B Fe un U mk M → mfd es es' → Q (some (.int (-1))) es') : ax_Mt (d + 10) 1474 [.ref 159, .int c, .int f] n sl es Q := by
  obtain ⟨hal, hk, hp, hhs, hF, hK⟩ := id D.1
  refine ax_Mt_go (m := ax_m_11_66) (ls := [some (.ref 159), some (.int c), some (.int f)]) rfl ax_b_1474_0 (Nat.le_of_ble_eq_true rfl) rfl ?_
  refine mk_thrown hal hK.1 rfl ?_
  intro es0 h0
  have D0 := mD_th D h0
  have c10 : ¬ (1 : Int32) = 0 := by decide
  simp only [ax_W_cons, ax_I, ax_cmp, ax_ii, ax_ll, ax_li, ax_st1, ax_st2, ax_kl, ax_k2, ax_fit, ax_rtok, List.getElem?_cons_zero, List.getElem?_cons_succ, List.length_cons, List.length_nil, List.set_cons_zero, List.set_cons_succ, Nat.reduceAdd, Nat.reduceDiv, Nat.reduceMod, Nat.reduceMul, Nat.reduceLT, Nat.reduceLeDiff, Int32.reduceOfInt, Int64.reduceOfInt, true_and, and_true, and_self, true_or, or_true, false_implies, true_implies, not_false_eq_true, not_true_eq_false, Value.category, Nat.reduceEqDiff, Option.toList, List.cons_append, List.nil_append, List.drop_succ_cons, List.drop_zero, ax_qq_eq, ax_t_1474]
  refine ax_inv_of (Nat.le_of_ble_eq_true rfl) (Nat.le_of_ble_eq_true rfl) (fun _ => mE_rcv D0.1 _) (fun h => absurd h (by decide)) (Nat.le_refl _) (Nat.le_refl _) (mk_whole D0.1 ⟨D0.2.1, D0.2.2.2.2.1.1, hB.1⟩ (b := 0) (by omega) c ?_)
  cases h1 : kx_op k (nI B.2.1) c
  · simp only [ax_W_cons, ax_I, ax_cmp, ax_ii, ax_ll, ax_li, ax_st1, ax_st2, ax_kl, ax_k2, ax_fit, ax_rtok, List.getElem?_cons_zero, List.getElem?_cons_succ, List.length_cons, List.length_nil, List.set_cons_zero, List.set_cons_succ, Nat.reduceAdd, Nat.reduceDiv, Nat.reduceMod, Nat.reduceMul, Nat.reduceLT, Nat.reduceLeDiff, Int32.reduceOfInt, Int64.reduceOfInt, true_and, and_true, and_self, true_or, or_true, false_implies, true_implies, not_false_eq_true, not_true_eq_false, Value.category, Nat.reduceEqDiff, Option.toList, List.cons_append, List.nil_append, List.drop_succ_cons, List.drop_zero, ax_qq_eq, ax_t_1474, ax_j_1474_24, ax_n_1474_24, kx_bf]
    exact hQ es0 st D0 (mth_d h0)
  · simp only [ax_W_cons, ax_I, ax_cmp, ax_ii, ax_ll, ax_li, ax_st1, ax_st2, ax_kl, ax_k2, ax_fit, ax_rtok, List.getElem?_cons_zero, List.getElem?_cons_succ, List.length_cons, List.length_nil, List.set_cons_zero, List.set_cons_succ, Nat.reduceAdd, Nat.reduceDiv, Nat.reduceMod, Nat.reduceMul, Nat.reduceLT, Nat.reduceLeDiff, Int32.reduceOfInt, Int64.reduceOfInt, true_and, and_true, and_self, true_or, or_true, false_implies, true_implies, not_false_eq_true, not_true_eq_false, Value.category, Nat.reduceEqDiff, Option.toList, List.cons_append, List.nil_append, List.drop_succ_cons, List.drop_zero, ax_qq_eq, ax_t_1474, kx_bt, c10]
    refine ax_inv_of (Nat.le_of_ble_eq_true rfl) (Nat.le_of_ble_eq_true rfl) (fun _ => absurd ‹_› (by decide)) (fun h => absurd h (by decide)) (Nat.le_refl _) (Nat.le_refl _) (mk_within _ _ _ ?_)
    cases h2 : kx_in f 1 20
    · simp only [ax_W_cons, ax_I, ax_cmp, ax_ii, ax_ll, ax_li, ax_st1, ax_st2, ax_kl, ax_k2, ax_fit, ax_rtok, List.getElem?_cons_zero, List.getElem?_cons_succ, List.length_cons, List.length_nil, List.set_cons_zero, List.set_cons_succ, Nat.reduceAdd, Nat.reduceDiv, Nat.reduceMod, Nat.reduceMul, Nat.reduceLT, Nat.reduceLeDiff, Int32.reduceOfInt, Int64.reduceOfInt, true_and, and_true, and_self, true_or, or_true, false_implies, true_implies, not_false_eq_true, not_true_eq_false, Value.category, Nat.reduceEqDiff, Option.toList, List.cons_append, List.nil_append, List.drop_succ_cons, List.drop_zero, ax_qq_eq, ax_t_1474, ax_j_1474_24, ax_n_1474_24, kx_bf]
      exact hQ es0 st D0 (mth_d h0)
    · exact absurd ⟨h1, h2⟩ h
theorem mp_touch_ok (hz : zFs Fe mk M) (D : mD es n st w k p hc kd pm ht hs F1 F2 B Fe un U mk M) (hB : zB_ok k p N B) {c f : Nat} (hc2 : c < k) (hBit : B.2.1.testBit c = false) (hf1 : 1 ≤ f) (hf : f ≤ 20) (hQ : ∀ es' st', mD es' n st' w k p hc kd pm ht hs F1 F2 (B.1, B.2.1, kx_push B.2.2.1 (nI c) (nI f), B.2.2.2.1, B.2.2.2.2) Fe (zun un) (zpush U un B) mk M → mfd es es' → Q (some (.int (kx_push B.2.2.1 (nI c) (nI f) c))) es') : ax_Mt (d + 10) 1474 [.ref 159, .int (nI c), .int (nI f)] n sl es Q := by
  obtain ⟨hal, hk, hp, hhs, hF, hK⟩ := id D.1
  refine ax_Mt_go (m := ax_m_11_66) (ls := [some (.ref 159), some (.int (nI c)), some (.int (nI f))]) rfl ax_b_1474_0 (Nat.le_of_ble_eq_true rfl) rfl ?_
  refine mk_thrown hal hK.1 rfl ?_
  intro es0 h0
  have D0 := mD_th D h0
  have c10 : ¬ (1 : Int32) = 0 := by decide
  have h1 : kx_op k (nI B.2.1) (nI c) = true := by
    rw [mx_op hk.2 hc2, kc_ck (by omega), hBit]
    rfl
  have h2 : kx_in (nI f) 1 20 = true := by
    unfold kx_in
    rw [decide_eq_true (show (1 : Int32) ≤ nI f from nI_le (a := 1) hf1 (by omega)), decide_eq_true (show nI f ≤ 20 from nI_le (b := 20) hf (by omega))]
    rfl
  simp only [ax_W_cons, ax_I, ax_cmp, ax_ii, ax_ll, ax_li, ax_st1, ax_st2, ax_kl, ax_k2, ax_fit, ax_rtok, List.getElem?_cons_zero, List.getElem?_cons_succ, List.length_cons, List.length_nil, List.set_cons_zero, List.set_cons_succ, Nat.reduceAdd, Nat.reduceDiv, Nat.reduceMod, Nat.reduceMul, Nat.reduceLT, Nat.reduceLeDiff, Int32.reduceOfInt, Int64.reduceOfInt, true_and, and_true, and_self, true_or, or_true, false_implies, true_implies, not_false_eq_true, not_true_eq_false, Value.category, Nat.reduceEqDiff, Option.toList, List.cons_append, List.nil_append, List.drop_succ_cons, List.drop_zero, ax_qq_eq, ax_t_1474]
  refine ax_inv_of (Nat.le_of_ble_eq_true rfl) (Nat.le_of_ble_eq_true rfl) (fun _ => mE_rcv D0.1 _) (fun h => absurd h (by decide)) (Nat.le_refl _) (Nat.le_refl _) (mk_whole D0.1 ⟨D0.2.1, D0.2.2.2.2.1.1, hB.1⟩ (b := 0) (by omega) _ ?_)
  rw [h1]
  simp only [ax_W_cons, ax_I, ax_cmp, ax_ii, ax_ll, ax_li, ax_st1, ax_st2, ax_kl, ax_k2, ax_fit, ax_rtok, List.getElem?_cons_zero, List.getElem?_cons_succ, List.length_cons, List.length_nil, List.set_cons_zero, List.set_cons_succ, Nat.reduceAdd, Nat.reduceDiv, Nat.reduceMod, Nat.reduceMul, Nat.reduceLT, Nat.reduceLeDiff, Int32.reduceOfInt, Int64.reduceOfInt, true_and, and_true, and_self, true_or, or_true, false_implies, true_implies, not_false_eq_true, not_true_eq_false, Value.category, Nat.reduceEqDiff, Option.toList, List.cons_append, List.nil_append, List.drop_succ_cons, List.drop_zero, ax_qq_eq, ax_t_1474, kx_bt, c10]
  refine ax_inv_of (Nat.le_of_ble_eq_true rfl) (Nat.le_of_ble_eq_true rfl) (fun _ => absurd ‹_› (by decide)) (fun h => absurd h (by decide)) (Nat.le_refl _) (Nat.le_refl _) (mk_within _ _ _ ?_)
  rw [h2]
  simp only [ax_W_cons, ax_I, ax_cmp, ax_ii, ax_ll, ax_li, ax_st1, ax_st2, ax_kl, ax_k2, ax_fit, ax_rtok, List.getElem?_cons_zero, List.getElem?_cons_succ, List.length_cons, List.length_nil, List.set_cons_zero, List.set_cons_succ, Nat.reduceAdd, Nat.reduceDiv, Nat.reduceMod, Nat.reduceMul, Nat.reduceLT, Nat.reduceLeDiff, Int32.reduceOfInt, Int64.reduceOfInt, true_and, and_true, and_self, true_or, or_true, false_implies, true_implies, not_false_eq_true, not_true_eq_false, Value.category, Nat.reduceEqDiff, Option.toList, List.cons_append, List.nil_append, List.drop_succ_cons, List.drop_zero, ax_qq_eq, ax_t_1474, ax_j_1474_26, ax_n_1474_26, kx_bt, c10]
  refine ax_inv_of (Nat.le_of_ble_eq_true rfl) (Nat.le_of_ble_eq_true rfl) (fun _ => mE_rcv D0.1 _) (fun h => absurd h (by decide)) (Nat.le_refl _) (Nat.le_refl _) (mk_keepsD hz D0 ?_)
  intro es1 st1 D1 f1
  simp only [ax_W_cons, ax_I, ax_cmp, ax_ii, ax_ll, ax_li, ax_st1, ax_st2, ax_kl, ax_k2, ax_fit, ax_rtok, List.getElem?_cons_zero, List.getElem?_cons_succ, List.length_cons, List.length_nil, List.set_cons_zero, List.set_cons_succ, Nat.reduceAdd, Nat.reduceDiv, Nat.reduceMod, Nat.reduceMul, Nat.reduceLT, Nat.reduceLeDiff, Int32.reduceOfInt, Int64.reduceOfInt, true_and, and_true, and_self, true_or, or_true, false_implies, true_implies, not_false_eq_true, not_true_eq_false, Value.category, Nat.reduceEqDiff, Option.toList, List.cons_append, List.nil_append, List.drop_succ_cons, List.drop_zero, ax_qq_eq, ax_t_1474]
  refine ax_inv_of (Nat.le_of_ble_eq_true rfl) (Nat.le_of_ble_eq_true rfl) (fun _ => mE_rcv D1.1 _) (fun h => absurd h (by decide)) (Nat.le_refl _) (Nat.le_refl _) (mk_touches hal D1.1.2.2.2.2.2.1 D1.2.1 hk.2 hp (b := 0) (by omega) D1.2.2.2.2.1.1 hB.1.1 hc2 hf ?_)
  intro es2 st2 r1 r2 r3 r4
  have D2 := mD_0 (B' := (B.1, B.2.1, kx_push B.2.2.1 (nI c) (nI f), B.2.2.2.1, B.2.2.2.2)) hz D1 r1 r2 r3 r4
  obtain ⟨th, tp, sz, at0, fl, cd, nm, rm, on, fh, un, g, w0⟩ := id D2.1.2.2.2.2.2.1
  have y1 := r2.1
  obtain ⟨e1, v1, e2⟩ := mx_2 (c := c) (by omega)
  have e3 := r4.2.2.1 c hc2
  simp only [ax_W_cons, ax_I, ax_cmp, ax_ii, ax_ll, ax_li, ax_st1, ax_st2, ax_kl, ax_k2, ax_fit, ax_rtok, List.getElem?_cons_zero, List.getElem?_cons_succ, List.length_cons, List.length_nil, List.set_cons_zero, List.set_cons_succ, Nat.reduceAdd, Nat.reduceDiv, Nat.reduceMod, Nat.reduceMul, Nat.reduceLT, Nat.reduceLeDiff, Int32.reduceOfInt, Int64.reduceOfInt, true_and, and_true, and_self, true_or, or_true, false_implies, true_implies, not_false_eq_true, not_true_eq_false, Value.category, Nat.reduceEqDiff, Option.toList, List.cons_append, List.nil_append, List.drop_succ_cons, List.drop_zero, ax_qq_eq, ax_t_1474, w0, y1, mo_f, hal, e1, v1, e2, e3]
  exact hQ es2 st2 D2 (mfd_trans (mth_d h0) (mfd_trans f1 (mfr_d r1)))
theorem mp_breathe_no (D : mD es n st w k p hc kd pm ht hs F1 F2 B Fe un U mk M) (c : Int32) (h : kx_cell k c = false) (hQ : ∀ es' st', mD es' n st' w k p hc kd pm ht hs F1 F2 B Fe un U mk M → mfd es es' → Q (some (.int (-1))) es') : ax_Mt (d + 10) 1475 [.ref 159, .int c] n sl es Q := by
  obtain ⟨hal, hk, hp, hhs, hF, hK⟩ := id D.1
  refine ax_Mt_go (m := ax_m_11_67) (ls := [some (.ref 159), some (.int c)]) rfl ax_b_1475_0 (Nat.le_of_ble_eq_true rfl) rfl ?_
  refine mk_thrown hal hK.1 rfl ?_
  intro es0 h0
  have D0 := mD_th D h0
  simp only [ax_W_cons, ax_I, ax_cmp, ax_ii, ax_ll, ax_li, ax_st1, ax_st2, ax_kl, ax_k2, ax_fit, ax_rtok, List.getElem?_cons_zero, List.getElem?_cons_succ, List.length_cons, List.length_nil, List.set_cons_zero, List.set_cons_succ, Nat.reduceAdd, Nat.reduceDiv, Nat.reduceMod, Nat.reduceMul, Nat.reduceLT, Nat.reduceLeDiff, Int32.reduceOfInt, Int64.reduceOfInt, true_and, and_true, and_self, true_or, or_true, false_implies, true_implies, not_false_eq_true, not_true_eq_false, Value.category, Nat.reduceEqDiff, Option.toList, List.cons_append, List.nil_append, List.drop_succ_cons, List.drop_zero, ax_qq_eq, ax_t_1475]
  refine ax_inv_of (Nat.le_of_ble_eq_true rfl) (Nat.le_of_ble_eq_true rfl) (fun _ => mE_rcv D0.1 _) (fun h => absurd h (by decide)) (Nat.le_refl _) (Nat.le_refl _) (mk_isCell hal hk.2 D0.1.2.2.2.2.2 c ?_)
  rw [h]
  simp only [ax_W_cons, ax_I, ax_cmp, ax_ii, ax_ll, ax_li, ax_st1, ax_st2, ax_kl, ax_k2, ax_fit, ax_rtok, List.getElem?_cons_zero, List.getElem?_cons_succ, List.length_cons, List.length_nil, List.set_cons_zero, List.set_cons_succ, Nat.reduceAdd, Nat.reduceDiv, Nat.reduceMod, Nat.reduceMul, Nat.reduceLT, Nat.reduceLeDiff, Int32.reduceOfInt, Int64.reduceOfInt, true_and, and_true, and_self, true_or, or_true, false_implies, true_implies, not_false_eq_true, not_true_eq_false, Value.category, Nat.reduceEqDiff, Option.toList, List.cons_append, List.nil_append, List.drop_succ_cons, List.drop_zero, ax_qq_eq, ax_t_1475, kx_bf]
  exact hQ es0 st D0 (mth_d h0)
theorem mp_breathe_ok (hz : zFs Fe mk M) (D : mD es n st w k p hc kd pm ht hs F1 F2 B Fe un U mk M) (hB : zB_ok k p N B) {c : Nat} (hc2 : c < k) (hQ : ∀ es' st', mD es' n st' w k p hc kd pm ht hs F1 F2 (B.1, B.2.1, kx_soothe B.2.2.1 (nI c), B.2.2.2.1, B.2.2.2.2) Fe (zun un) (zpush U un B) mk M → mfd es es' → Q (some (.int (kx_soothe B.2.2.1 (nI c) c))) es') : ax_Mt (d + 10) 1475 [.ref 159, .int (nI c)] n sl es Q := by
  obtain ⟨hal, hk, hp, hhs, hF, hK⟩ := id D.1
  refine ax_Mt_go (m := ax_m_11_67) (ls := [some (.ref 159), some (.int (nI c))]) rfl ax_b_1475_0 (Nat.le_of_ble_eq_true rfl) rfl ?_
  refine mk_thrown hal hK.1 rfl ?_
  intro es0 h0
  have D0 := mD_th D h0
  have c10 : ¬ (1 : Int32) = 0 := by decide
  simp only [ax_W_cons, ax_I, ax_cmp, ax_ii, ax_ll, ax_li, ax_st1, ax_st2, ax_kl, ax_k2, ax_fit, ax_rtok, List.getElem?_cons_zero, List.getElem?_cons_succ, List.length_cons, List.length_nil, List.set_cons_zero, List.set_cons_succ, Nat.reduceAdd, Nat.reduceDiv, Nat.reduceMod, Nat.reduceMul, Nat.reduceLT, Nat.reduceLeDiff, Int32.reduceOfInt, Int64.reduceOfInt, true_and, and_true, and_self, true_or, or_true, false_implies, true_implies, not_false_eq_true, not_true_eq_false, Value.category, Nat.reduceEqDiff, Option.toList, List.cons_append, List.nil_append, List.drop_succ_cons, List.drop_zero, ax_qq_eq, ax_t_1475]
  refine ax_inv_of (Nat.le_of_ble_eq_true rfl) (Nat.le_of_ble_eq_true rfl) (fun _ => mE_rcv D0.1 _) (fun h => absurd h (by decide)) (Nat.le_refl _) (Nat.le_refl _) (mk_isCell hal hk.2 D0.1.2.2.2.2.2 _ ?_)
  rw [kx_cell_nI (by omega) hc2]
  simp only [ax_W_cons, ax_I, ax_cmp, ax_ii, ax_ll, ax_li, ax_st1, ax_st2, ax_kl, ax_k2, ax_fit, ax_rtok, List.getElem?_cons_zero, List.getElem?_cons_succ, List.length_cons, List.length_nil, List.set_cons_zero, List.set_cons_succ, Nat.reduceAdd, Nat.reduceDiv, Nat.reduceMod, Nat.reduceMul, Nat.reduceLT, Nat.reduceLeDiff, Int32.reduceOfInt, Int64.reduceOfInt, true_and, and_true, and_self, true_or, or_true, false_implies, true_implies, not_false_eq_true, not_true_eq_false, Value.category, Nat.reduceEqDiff, Option.toList, List.cons_append, List.nil_append, List.drop_succ_cons, List.drop_zero, ax_qq_eq, ax_t_1475, ax_j_1475_15, ax_n_1475_15, kx_bt, c10]
  refine ax_inv_of (Nat.le_of_ble_eq_true rfl) (Nat.le_of_ble_eq_true rfl) (fun _ => mE_rcv D0.1 _) (fun h => absurd h (by decide)) (Nat.le_refl _) (Nat.le_refl _) (mk_keepsD hz D0 ?_)
  intro es1 st1 D1 f1
  simp only [ax_W_cons, ax_I, ax_cmp, ax_ii, ax_ll, ax_li, ax_st1, ax_st2, ax_kl, ax_k2, ax_fit, ax_rtok, List.getElem?_cons_zero, List.getElem?_cons_succ, List.length_cons, List.length_nil, List.set_cons_zero, List.set_cons_succ, Nat.reduceAdd, Nat.reduceDiv, Nat.reduceMod, Nat.reduceMul, Nat.reduceLT, Nat.reduceLeDiff, Int32.reduceOfInt, Int64.reduceOfInt, true_and, and_true, and_self, true_or, or_true, false_implies, true_implies, not_false_eq_true, not_true_eq_false, Value.category, Nat.reduceEqDiff, Option.toList, List.cons_append, List.nil_append, List.drop_succ_cons, List.drop_zero, ax_qq_eq, ax_t_1475]
  refine ax_inv_of (Nat.le_of_ble_eq_true rfl) (Nat.le_of_ble_eq_true rfl) (fun _ => mE_rcv D1.1 _) (fun h => absurd h (by decide)) (Nat.le_refl _) (Nat.le_refl _) (mk_breathes hal D1.1.2.2.2.2.2.1 D1.2.1 hk.2 hp (b := 0) (by omega) D1.2.2.2.2.1.1 hB.1.1 hc2 ?_)
  intro es2 st2 r1 r2 r3 r4
  have D2 := mD_0 (B' := (B.1, B.2.1, kx_soothe B.2.2.1 (nI c), B.2.2.2.1, B.2.2.2.2)) hz D1 r1 r2 r3 r4
  obtain ⟨th, tp, sz, at0, fl, cd, nm, rm, on, fh, un, g, w0⟩ := id D2.1.2.2.2.2.2.1
  have y1 := r2.1
  obtain ⟨e1, v1, e2⟩ := mx_2 (c := c) (by omega)
  have e3 := r4.2.2.1 c hc2
  simp only [ax_W_cons, ax_I, ax_cmp, ax_ii, ax_ll, ax_li, ax_st1, ax_st2, ax_kl, ax_k2, ax_fit, ax_rtok, List.getElem?_cons_zero, List.getElem?_cons_succ, List.length_cons, List.length_nil, List.set_cons_zero, List.set_cons_succ, Nat.reduceAdd, Nat.reduceDiv, Nat.reduceMod, Nat.reduceMul, Nat.reduceLT, Nat.reduceLeDiff, Int32.reduceOfInt, Int64.reduceOfInt, true_and, and_true, and_self, true_or, or_true, false_implies, true_implies, not_false_eq_true, not_true_eq_false, Value.category, Nat.reduceEqDiff, Option.toList, List.cons_append, List.nil_append, List.drop_succ_cons, List.drop_zero, ax_qq_eq, ax_t_1475, w0, y1, mo_f, hal, e1, v1, e2, e3]
  exact hQ es2 st2 D2 (mfd_trans (mth_d h0) (mfd_trans f1 (mfr_d r1)))
theorem mp_fork_no (D : mD es n st w k p hc kd pm ht hs F1 F2 B Fe un U mk M) (hB : zB_ok k p N B) (c : Int32) (h : kx_op k (nI B.2.1) c = false) (hQ : ∀ es' st', mD es' n st' w k p hc kd pm ht hs F1 F2 B Fe un U mk M → mfd es es' → Q (some (.int 0)) es') : ax_Mt (d + 10) 1476 [.ref 159, .int c] n sl es Q := by
  obtain ⟨hal, hk, hp, hhs, hF, hK⟩ := id D.1
  refine ax_Mt_go (m := ax_m_11_68) (ls := [some (.ref 159), some (.int c)]) rfl ax_b_1476_0 (Nat.le_of_ble_eq_true rfl) rfl ?_
  refine mk_thrown hal hK.1 rfl ?_
  intro es0 h0
  have D0 := mD_th D h0
  simp only [ax_W_cons, ax_I, ax_cmp, ax_ii, ax_ll, ax_li, ax_st1, ax_st2, ax_kl, ax_k2, ax_fit, ax_rtok, List.getElem?_cons_zero, List.getElem?_cons_succ, List.length_cons, List.length_nil, List.set_cons_zero, List.set_cons_succ, Nat.reduceAdd, Nat.reduceDiv, Nat.reduceMod, Nat.reduceMul, Nat.reduceLT, Nat.reduceLeDiff, Int32.reduceOfInt, Int64.reduceOfInt, true_and, and_true, and_self, true_or, or_true, false_implies, true_implies, not_false_eq_true, not_true_eq_false, Value.category, Nat.reduceEqDiff, Option.toList, List.cons_append, List.nil_append, List.drop_succ_cons, List.drop_zero, ax_qq_eq, ax_t_1476]
  refine ax_inv_of (Nat.le_of_ble_eq_true rfl) (Nat.le_of_ble_eq_true rfl) (fun _ => mE_rcv D0.1 _) (fun h => absurd h (by decide)) (Nat.le_refl _) (Nat.le_refl _) (mk_whole D0.1 ⟨D0.2.1, D0.2.2.2.2.1.1, hB.1⟩ (b := 0) (by omega) c ?_)
  rw [h]
  simp only [ax_W_cons, ax_I, ax_cmp, ax_ii, ax_ll, ax_li, ax_st1, ax_st2, ax_kl, ax_k2, ax_fit, ax_rtok, List.getElem?_cons_zero, List.getElem?_cons_succ, List.length_cons, List.length_nil, List.set_cons_zero, List.set_cons_succ, Nat.reduceAdd, Nat.reduceDiv, Nat.reduceMod, Nat.reduceMul, Nat.reduceLT, Nat.reduceLeDiff, Int32.reduceOfInt, Int64.reduceOfInt, true_and, and_true, and_self, true_or, or_true, false_implies, true_implies, not_false_eq_true, not_true_eq_false, Value.category, Nat.reduceEqDiff, Option.toList, List.cons_append, List.nil_append, List.drop_succ_cons, List.drop_zero, ax_qq_eq, ax_t_1476, kx_bf]
  exact hQ es0 st D0 (mth_d h0)
theorem mp_fork_ok (hz : zFs Fe mk M) (D : mD es n st w k p hc kd pm ht hs F1 F2 B Fe un U mk M) (hB : zB_ok k p N B) {c : Nat} (hc2 : c < k) (hBit : B.2.1.testBit c = false) (hQ : ∀ es' st', mD es' n st' w k p hc kd pm ht hs F1 F2 (B.1, B.2.1 ||| 2 ^ c, upd B.2.2.1 c 0, B.2.2.2.1, B.2.2.2.2) Fe (zun un) (zpush U un B) mk M → mfd es es' → Q (some (.int 1)) es') : ax_Mt (d + 10) 1476 [.ref 159, .int (nI c)] n sl es Q := by
  obtain ⟨hal, hk, hp, hhs, hF, hK⟩ := id D.1
  refine ax_Mt_go (m := ax_m_11_68) (ls := [some (.ref 159), some (.int (nI c))]) rfl ax_b_1476_0 (Nat.le_of_ble_eq_true rfl) rfl ?_
  refine mk_thrown hal hK.1 rfl ?_
  intro es0 h0
  have D0 := mD_th D h0
  have c10 : ¬ (1 : Int32) = 0 := by decide
  have h1 : kx_op k (nI B.2.1) (nI c) = true := by
    rw [mx_op hk.2 hc2, kc_ck (by omega), hBit]
    rfl
  simp only [ax_W_cons, ax_I, ax_cmp, ax_ii, ax_ll, ax_li, ax_st1, ax_st2, ax_kl, ax_k2, ax_fit, ax_rtok, List.getElem?_cons_zero, List.getElem?_cons_succ, List.length_cons, List.length_nil, List.set_cons_zero, List.set_cons_succ, Nat.reduceAdd, Nat.reduceDiv, Nat.reduceMod, Nat.reduceMul, Nat.reduceLT, Nat.reduceLeDiff, Int32.reduceOfInt, Int64.reduceOfInt, true_and, and_true, and_self, true_or, or_true, false_implies, true_implies, not_false_eq_true, not_true_eq_false, Value.category, Nat.reduceEqDiff, Option.toList, List.cons_append, List.nil_append, List.drop_succ_cons, List.drop_zero, ax_qq_eq, ax_t_1476]
  refine ax_inv_of (Nat.le_of_ble_eq_true rfl) (Nat.le_of_ble_eq_true rfl) (fun _ => mE_rcv D0.1 _) (fun h => absurd h (by decide)) (Nat.le_refl _) (Nat.le_refl _) (mk_whole D0.1 ⟨D0.2.1, D0.2.2.2.2.1.1, hB.1⟩ (b := 0) (by omega) _ ?_)
  rw [h1]
  simp only [ax_W_cons, ax_I, ax_cmp, ax_ii, ax_ll, ax_li, ax_st1, ax_st2, ax_kl, ax_k2, ax_fit, ax_rtok, List.getElem?_cons_zero, List.getElem?_cons_succ, List.length_cons, List.length_nil, List.set_cons_zero, List.set_cons_succ, Nat.reduceAdd, Nat.reduceDiv, Nat.reduceMod, Nat.reduceMul, Nat.reduceLT, Nat.reduceLeDiff, Int32.reduceOfInt, Int64.reduceOfInt, true_and, and_true, and_self, true_or, or_true, false_implies, true_implies, not_false_eq_true, not_true_eq_false, Value.category, Nat.reduceEqDiff, Option.toList, List.cons_append, List.nil_append, List.drop_succ_cons, List.drop_zero, ax_qq_eq, ax_t_1476, ax_j_1476_16, ax_n_1476_16, kx_bt, c10]
  refine ax_inv_of (Nat.le_of_ble_eq_true rfl) (Nat.le_of_ble_eq_true rfl) (fun _ => mE_rcv D0.1 _) (fun h => absurd h (by decide)) (Nat.le_refl _) (Nat.le_refl _) (mk_keepsD hz D0 ?_)
  intro es1 st1 D1 f1
  simp only [ax_W_cons, ax_I, ax_cmp, ax_ii, ax_ll, ax_li, ax_st1, ax_st2, ax_kl, ax_k2, ax_fit, ax_rtok, List.getElem?_cons_zero, List.getElem?_cons_succ, List.length_cons, List.length_nil, List.set_cons_zero, List.set_cons_succ, Nat.reduceAdd, Nat.reduceDiv, Nat.reduceMod, Nat.reduceMul, Nat.reduceLT, Nat.reduceLeDiff, Int32.reduceOfInt, Int64.reduceOfInt, true_and, and_true, and_self, true_or, or_true, false_implies, true_implies, not_false_eq_true, not_true_eq_false, Value.category, Nat.reduceEqDiff, Option.toList, List.cons_append, List.nil_append, List.drop_succ_cons, List.drop_zero, ax_qq_eq, ax_t_1476]
  refine ax_inv_of (Nat.le_of_ble_eq_true rfl) (Nat.le_of_ble_eq_true rfl) (fun _ => mE_rcv D1.1 _) (fun h => absurd h (by decide)) (Nat.le_refl _) (Nat.le_refl _) (mk_forks hal D1.1.2.2.2.2.2.1 D1.2.1 hk.2 hp (b := 0) (by omega) D1.2.2.2.2.1.1 hc2 ?_)
  intro es2 st2 r1 r2 r3 r4
  have D2 := mD_0 (B' := (B.1, B.2.1 ||| 2 ^ c, upd B.2.2.1 c 0, B.2.2.2.1, B.2.2.2.2)) hz D1 r1 r2 r3 r4
  simp only [ax_W_cons, ax_I, ax_cmp, ax_ii, ax_ll, ax_li, ax_st1, ax_st2, ax_kl, ax_k2, ax_fit, ax_rtok, List.getElem?_cons_zero, List.getElem?_cons_succ, List.length_cons, List.length_nil, List.set_cons_zero, List.set_cons_succ, Nat.reduceAdd, Nat.reduceDiv, Nat.reduceMod, Nat.reduceMul, Nat.reduceLT, Nat.reduceLeDiff, Int32.reduceOfInt, Int64.reduceOfInt, true_and, and_true, and_self, true_or, or_true, false_implies, true_implies, not_false_eq_true, not_true_eq_false, Value.category, Nat.reduceEqDiff, Option.toList, List.cons_append, List.nil_append, List.drop_succ_cons, List.drop_zero, ax_qq_eq, ax_t_1476]
  exact hQ es2 st2 D2 (mfd_trans (mth_d h0) (mfd_trans f1 (mfr_d r1)))
theorem mp_turn (hz : zFs Fe mk M) (D : mD es n st w k p hc kd pm ht hs F1 F2 B Fe un U mk M) (hB : zB_ok k p N B) (hQ : ∀ es' st', mD es' n st' w k p hc kd pm ht hs F1 F2 (B.1, kt_then k B.2.1 k, kx_turn k B.2.2.1, B.2.2.2.1, B.2.2.2.2) Fe (zun un) (zpush U un B) mk M → mfd es es' → Q (some (.int (kx_b (!kx_even k (nI B.2.1) B.2.2.1 (k / 2))))) es') : ax_Mt (d + 10) 1477 [.ref 159] n sl es Q := by
  obtain ⟨hal, hk, hp, hhs, hF, hK⟩ := id D.1
  refine ax_Mt_go (m := ax_m_11_69) (ls := [some (.ref 159)]) rfl ax_b_1477_0 (Nat.le_of_ble_eq_true rfl) rfl ?_
  refine mk_thrown hal hK.1 rfl ?_
  intro es0 h0
  have D0 := mD_th D h0
  simp only [ax_W_cons, ax_I, ax_cmp, ax_ii, ax_ll, ax_li, ax_st1, ax_st2, ax_kl, ax_k2, ax_fit, ax_rtok, List.getElem?_cons_zero, List.getElem?_cons_succ, List.length_cons, List.length_nil, List.set_cons_zero, List.set_cons_succ, Nat.reduceAdd, Nat.reduceDiv, Nat.reduceMod, Nat.reduceMul, Nat.reduceLT, Nat.reduceLeDiff, Int32.reduceOfInt, Int64.reduceOfInt, true_and, and_true, and_self, true_or, or_true, false_implies, true_implies, not_false_eq_true, not_true_eq_false, Value.category, Nat.reduceEqDiff, Option.toList, List.cons_append, List.nil_append, List.drop_succ_cons, List.drop_zero, ax_qq_eq, ax_t_1477]
  refine ax_inv_of (Nat.le_of_ble_eq_true rfl) (Nat.le_of_ble_eq_true rfl) (fun _ => mE_rcv D0.1 _) (fun h => absurd h (by decide)) (Nat.le_refl _) (Nat.le_refl _) (mk_keepsD hz D0 ?_)
  intro es1 st1 D1 f1
  simp only [ax_W_cons, ax_I, ax_cmp, ax_ii, ax_ll, ax_li, ax_st1, ax_st2, ax_kl, ax_k2, ax_fit, ax_rtok, List.getElem?_cons_zero, List.getElem?_cons_succ, List.length_cons, List.length_nil, List.set_cons_zero, List.set_cons_succ, Nat.reduceAdd, Nat.reduceDiv, Nat.reduceMod, Nat.reduceMul, Nat.reduceLT, Nat.reduceLeDiff, Int32.reduceOfInt, Int64.reduceOfInt, true_and, and_true, and_self, true_or, or_true, false_implies, true_implies, not_false_eq_true, not_true_eq_false, Value.category, Nat.reduceEqDiff, Option.toList, List.cons_append, List.nil_append, List.drop_succ_cons, List.drop_zero, ax_qq_eq, ax_t_1477]
  refine ax_inv_of (Nat.le_of_ble_eq_true rfl) (Nat.le_of_ble_eq_true rfl) (fun _ => mE_rcv D1.1 _) (fun h => absurd h (by decide)) (Nat.le_refl _) (Nat.le_refl _) (mk_turns hal D1.1.2.2.2.2.2 D1.2.1 (by omega) hk.2 hp (b := 0) (by omega) D1.2.2.2.2.1.1 hB.1.2.2.1 ?_)
  intro es2 st2 r1 r2 r3 r4
  have D2 := mD_0 (B' := (B.1, kt_then k B.2.1 k, kx_turn k B.2.2.1, B.2.2.2.1, B.2.2.2.2)) hz D1 r1 r2 r3 r4
  simp only [ax_W_cons, ax_I, ax_cmp, ax_ii, ax_ll, ax_li, ax_st1, ax_st2, ax_kl, ax_k2, ax_fit, ax_rtok, List.getElem?_cons_zero, List.getElem?_cons_succ, List.length_cons, List.length_nil, List.set_cons_zero, List.set_cons_succ, Nat.reduceAdd, Nat.reduceDiv, Nat.reduceMod, Nat.reduceMul, Nat.reduceLT, Nat.reduceLeDiff, Int32.reduceOfInt, Int64.reduceOfInt, true_and, and_true, and_self, true_or, or_true, false_implies, true_implies, not_false_eq_true, not_true_eq_false, Value.category, Nat.reduceEqDiff, Option.toList, List.cons_append, List.nil_append, List.drop_succ_cons, List.drop_zero, ax_qq_eq, ax_t_1477, kx_b01]
  exact hQ es2 st2 D2 (mfd_trans (mth_d h0) (mfd_trans f1 (mfr_d r1)))
theorem mp_change_no (D : mD es n st w k p hc kd pm ht hs F1 F2 B Fe un U mk M) (i j : Int32) (h : ¬ (kx_cell p i = true ∧ kx_cell p j = true ∧ ¬ i = j)) (hQ : ∀ es' st', mD es' n st' w k p hc kd pm ht hs F1 F2 B Fe un U mk M → mfd es es' → Q (some (.int 0)) es') : ax_Mt (d + 10) 1478 [.ref 159, .int i, .int j] n sl es Q := by
  obtain ⟨hal, hk, hp, hhs, hF, hK⟩ := id D.1
  refine ax_Mt_go (m := ax_m_11_70) (ls := [some (.ref 159), some (.int i), some (.int j)]) rfl ax_b_1478_0 (Nat.le_of_ble_eq_true rfl) rfl ?_
  refine mk_thrown hal hK.1 rfl ?_
  intro es0 h0
  have D0 := mD_th D h0
  have c10 : ¬ (1 : Int32) = 0 := by decide
  simp only [ax_W_cons, ax_I, ax_cmp, ax_ii, ax_ll, ax_li, ax_st1, ax_st2, ax_kl, ax_k2, ax_fit, ax_rtok, List.getElem?_cons_zero, List.getElem?_cons_succ, List.length_cons, List.length_nil, List.set_cons_zero, List.set_cons_succ, Nat.reduceAdd, Nat.reduceDiv, Nat.reduceMod, Nat.reduceMul, Nat.reduceLT, Nat.reduceLeDiff, Int32.reduceOfInt, Int64.reduceOfInt, true_and, and_true, and_self, true_or, or_true, false_implies, true_implies, not_false_eq_true, not_true_eq_false, Value.category, Nat.reduceEqDiff, Option.toList, List.cons_append, List.nil_append, List.drop_succ_cons, List.drop_zero, ax_qq_eq, ax_t_1478]
  refine ax_inv_of (Nat.le_of_ble_eq_true rfl) (Nat.le_of_ble_eq_true rfl) (fun _ => mE_rcv D0.1 _) (fun h => absurd h (by decide)) (Nat.le_refl _) (Nat.le_refl _) (mk_isCourtier hal hp D0.1.2.2.2.2.2 i ?_)
  cases h1 : kx_cell p i
  · simp only [ax_W_cons, ax_I, ax_cmp, ax_ii, ax_ll, ax_li, ax_st1, ax_st2, ax_kl, ax_k2, ax_fit, ax_rtok, List.getElem?_cons_zero, List.getElem?_cons_succ, List.length_cons, List.length_nil, List.set_cons_zero, List.set_cons_succ, Nat.reduceAdd, Nat.reduceDiv, Nat.reduceMod, Nat.reduceMul, Nat.reduceLT, Nat.reduceLeDiff, Int32.reduceOfInt, Int64.reduceOfInt, true_and, and_true, and_self, true_or, or_true, false_implies, true_implies, not_false_eq_true, not_true_eq_false, Value.category, Nat.reduceEqDiff, Option.toList, List.cons_append, List.nil_append, List.drop_succ_cons, List.drop_zero, ax_qq_eq, ax_t_1478, ax_j_1478_26, ax_n_1478_26, kx_bf]
    exact hQ es0 st D0 (mth_d h0)
  · simp only [ax_W_cons, ax_I, ax_cmp, ax_ii, ax_ll, ax_li, ax_st1, ax_st2, ax_kl, ax_k2, ax_fit, ax_rtok, List.getElem?_cons_zero, List.getElem?_cons_succ, List.length_cons, List.length_nil, List.set_cons_zero, List.set_cons_succ, Nat.reduceAdd, Nat.reduceDiv, Nat.reduceMod, Nat.reduceMul, Nat.reduceLT, Nat.reduceLeDiff, Int32.reduceOfInt, Int64.reduceOfInt, true_and, and_true, and_self, true_or, or_true, false_implies, true_implies, not_false_eq_true, not_true_eq_false, Value.category, Nat.reduceEqDiff, Option.toList, List.cons_append, List.nil_append, List.drop_succ_cons, List.drop_zero, ax_qq_eq, ax_t_1478, kx_bt, c10]
    refine ax_inv_of (Nat.le_of_ble_eq_true rfl) (Nat.le_of_ble_eq_true rfl) (fun _ => mE_rcv D0.1 _) (fun h => absurd h (by decide)) (Nat.le_refl _) (Nat.le_refl _) (mk_isCourtier hal hp D0.1.2.2.2.2.2 j ?_)
    cases h2 : kx_cell p j
    · simp only [ax_W_cons, ax_I, ax_cmp, ax_ii, ax_ll, ax_li, ax_st1, ax_st2, ax_kl, ax_k2, ax_fit, ax_rtok, List.getElem?_cons_zero, List.getElem?_cons_succ, List.length_cons, List.length_nil, List.set_cons_zero, List.set_cons_succ, Nat.reduceAdd, Nat.reduceDiv, Nat.reduceMod, Nat.reduceMul, Nat.reduceLT, Nat.reduceLeDiff, Int32.reduceOfInt, Int64.reduceOfInt, true_and, and_true, and_self, true_or, or_true, false_implies, true_implies, not_false_eq_true, not_true_eq_false, Value.category, Nat.reduceEqDiff, Option.toList, List.cons_append, List.nil_append, List.drop_succ_cons, List.drop_zero, ax_qq_eq, ax_t_1478, ax_j_1478_26, ax_n_1478_26, kx_bf]
      exact hQ es0 st D0 (mth_d h0)
    · by_cases h3 : i = j
      · simp only [ax_W_cons, ax_I, ax_cmp, ax_ii, ax_ll, ax_li, ax_st1, ax_st2, ax_kl, ax_k2, ax_fit, ax_rtok, List.getElem?_cons_zero, List.getElem?_cons_succ, List.length_cons, List.length_nil, List.set_cons_zero, List.set_cons_succ, Nat.reduceAdd, Nat.reduceDiv, Nat.reduceMod, Nat.reduceMul, Nat.reduceLT, Nat.reduceLeDiff, Int32.reduceOfInt, Int64.reduceOfInt, true_and, and_true, and_self, true_or, or_true, false_implies, true_implies, not_false_eq_true, not_true_eq_false, Value.category, Nat.reduceEqDiff, Option.toList, List.cons_append, List.nil_append, List.drop_succ_cons, List.drop_zero, ax_qq_eq, ax_t_1478, ax_j_1478_26, ax_n_1478_26, kx_bt, c10, h3]
        exact hQ es0 st D0 (mth_d h0)
      · exact absurd ⟨h1, h2, h3⟩ h
theorem mp_change_ok (hz : zFs Fe mk M) (D : mD es n st w k p hc kd pm ht hs F1 F2 B Fe un U mk M) {i j : Nat} (hi : i < p) (hj : j < p) (hij : ¬ i = j) (hQ : ∀ es' st', mD es' n st' w k p hc kd pm ht hs F1 F2 (B.1, B.2.1, B.2.2.1, kx_exch B.2.2.2.1 (nI i) (nI j), B.2.2.2.2) Fe (zun un) (zpush U un B) mk M → mfd es es' → Q (some (.int 1)) es') : ax_Mt (d + 10) 1478 [.ref 159, .int (nI i), .int (nI j)] n sl es Q := by
  obtain ⟨hal, hk, hp, hhs, hF, hK⟩ := id D.1
  refine ax_Mt_go (m := ax_m_11_70) (ls := [some (.ref 159), some (.int (nI i)), some (.int (nI j))]) rfl ax_b_1478_0 (Nat.le_of_ble_eq_true rfl) rfl ?_
  refine mk_thrown hal hK.1 rfl ?_
  intro es0 h0
  have D0 := mD_th D h0
  have c10 : ¬ (1 : Int32) = 0 := by decide
  have hne : ¬ nI i = nI j := fun z => hij (kn_inj (by omega) (by omega) z)
  simp only [ax_W_cons, ax_I, ax_cmp, ax_ii, ax_ll, ax_li, ax_st1, ax_st2, ax_kl, ax_k2, ax_fit, ax_rtok, List.getElem?_cons_zero, List.getElem?_cons_succ, List.length_cons, List.length_nil, List.set_cons_zero, List.set_cons_succ, Nat.reduceAdd, Nat.reduceDiv, Nat.reduceMod, Nat.reduceMul, Nat.reduceLT, Nat.reduceLeDiff, Int32.reduceOfInt, Int64.reduceOfInt, true_and, and_true, and_self, true_or, or_true, false_implies, true_implies, not_false_eq_true, not_true_eq_false, Value.category, Nat.reduceEqDiff, Option.toList, List.cons_append, List.nil_append, List.drop_succ_cons, List.drop_zero, ax_qq_eq, ax_t_1478]
  refine ax_inv_of (Nat.le_of_ble_eq_true rfl) (Nat.le_of_ble_eq_true rfl) (fun _ => mE_rcv D0.1 _) (fun h => absurd h (by decide)) (Nat.le_refl _) (Nat.le_refl _) (mk_isCourtier hal hp D0.1.2.2.2.2.2 _ ?_)
  rw [kx_cell_nI (by omega) hi]
  simp only [ax_W_cons, ax_I, ax_cmp, ax_ii, ax_ll, ax_li, ax_st1, ax_st2, ax_kl, ax_k2, ax_fit, ax_rtok, List.getElem?_cons_zero, List.getElem?_cons_succ, List.length_cons, List.length_nil, List.set_cons_zero, List.set_cons_succ, Nat.reduceAdd, Nat.reduceDiv, Nat.reduceMod, Nat.reduceMul, Nat.reduceLT, Nat.reduceLeDiff, Int32.reduceOfInt, Int64.reduceOfInt, true_and, and_true, and_self, true_or, or_true, false_implies, true_implies, not_false_eq_true, not_true_eq_false, Value.category, Nat.reduceEqDiff, Option.toList, List.cons_append, List.nil_append, List.drop_succ_cons, List.drop_zero, ax_qq_eq, ax_t_1478, kx_bt, c10]
  refine ax_inv_of (Nat.le_of_ble_eq_true rfl) (Nat.le_of_ble_eq_true rfl) (fun _ => mE_rcv D0.1 _) (fun h => absurd h (by decide)) (Nat.le_refl _) (Nat.le_refl _) (mk_isCourtier hal hp D0.1.2.2.2.2.2 _ ?_)
  rw [kx_cell_nI (by omega) hj]
  simp only [ax_W_cons, ax_I, ax_cmp, ax_ii, ax_ll, ax_li, ax_st1, ax_st2, ax_kl, ax_k2, ax_fit, ax_rtok, List.getElem?_cons_zero, List.getElem?_cons_succ, List.length_cons, List.length_nil, List.set_cons_zero, List.set_cons_succ, Nat.reduceAdd, Nat.reduceDiv, Nat.reduceMod, Nat.reduceMul, Nat.reduceLT, Nat.reduceLeDiff, Int32.reduceOfInt, Int64.reduceOfInt, true_and, and_true, and_self, true_or, or_true, false_implies, true_implies, not_false_eq_true, not_true_eq_false, Value.category, Nat.reduceEqDiff, Option.toList, List.cons_append, List.nil_append, List.drop_succ_cons, List.drop_zero, ax_qq_eq, ax_t_1478, ax_j_1478_28, ax_n_1478_28, kx_bt, c10, hne]
  refine ax_inv_of (Nat.le_of_ble_eq_true rfl) (Nat.le_of_ble_eq_true rfl) (fun _ => mE_rcv D0.1 _) (fun h => absurd h (by decide)) (Nat.le_refl _) (Nat.le_refl _) (mk_keepsD hz D0 ?_)
  intro es1 st1 D1 f1
  simp only [ax_W_cons, ax_I, ax_cmp, ax_ii, ax_ll, ax_li, ax_st1, ax_st2, ax_kl, ax_k2, ax_fit, ax_rtok, List.getElem?_cons_zero, List.getElem?_cons_succ, List.length_cons, List.length_nil, List.set_cons_zero, List.set_cons_succ, Nat.reduceAdd, Nat.reduceDiv, Nat.reduceMod, Nat.reduceMul, Nat.reduceLT, Nat.reduceLeDiff, Int32.reduceOfInt, Int64.reduceOfInt, true_and, and_true, and_self, true_or, or_true, false_implies, true_implies, not_false_eq_true, not_true_eq_false, Value.category, Nat.reduceEqDiff, Option.toList, List.cons_append, List.nil_append, List.drop_succ_cons, List.drop_zero, ax_qq_eq, ax_t_1478]
  refine ax_inv_of (Nat.le_of_ble_eq_true rfl) (Nat.le_of_ble_eq_true rfl) (fun _ => mE_rcv D1.1 _) (fun h => absurd h (by decide)) (Nat.le_refl _) (Nat.le_refl _) (mk_changes hal D1.1.2.2.2.2.2.1 D1.2.1 hk.2 hp (b := 0) (by omega) D1.2.2.2.2.1.1 hi hj ?_)
  intro es2 st2 r1 r2 r3 r4
  have D2 := mD_0 (B' := (B.1, B.2.1, B.2.2.1, kx_exch B.2.2.2.1 (nI i) (nI j), B.2.2.2.2)) hz D1 r1 r2 r3 r4
  simp only [ax_W_cons, ax_I, ax_cmp, ax_ii, ax_ll, ax_li, ax_st1, ax_st2, ax_kl, ax_k2, ax_fit, ax_rtok, List.getElem?_cons_zero, List.getElem?_cons_succ, List.length_cons, List.length_nil, List.set_cons_zero, List.set_cons_succ, Nat.reduceAdd, Nat.reduceDiv, Nat.reduceMod, Nat.reduceMul, Nat.reduceLT, Nat.reduceLeDiff, Int32.reduceOfInt, Int64.reduceOfInt, true_and, and_true, and_self, true_or, or_true, false_implies, true_implies, not_false_eq_true, not_true_eq_false, Value.category, Nat.reduceEqDiff, Option.toList, List.cons_append, List.nil_append, List.drop_succ_cons, List.drop_zero, ax_qq_eq, ax_t_1478]
  exact hQ es2 st2 D2 (mfd_trans (mth_d h0) (mfd_trans f1 (mfr_d r1)))
/-- the bowl behind a beat -/
def zbeat (F1 F2 : Int32 → Int32 → Int32 → Int32 → Int32) (k p : Nat) (kd ht hs : Nat → Int32) (hc : Nat) (B : zB) : zB := (B.1 + 1, B.2.1, kx_dr F1 k (nI B.2.1) hs hc B.1 B.2.2.1 1, B.2.2.2.1, kx_pdn (kx_dd F1 F2 k kd ht (nI B.2.1) hs hc B.1 B.2.2.1 B.2.2.2.1) p B.2.2.2.2 1)
theorem mp_beat (hz : zFs Fe mk M) (D : mD es n st w k p hc kd pm ht hs F1 F2 B Fe un U mk M) (hB : zB_ok k p N B) (hN : N < 1000) (hQ : ∀ es' st', mD es' n st' w k p hc kd pm ht hs F1 F2 (zbeat F1 F2 k p kd ht hs hc B) Fe (zun un) (zpush U un B) mk M → mfd es es' → Q (some (.int (kx_all (kx_dd F1 F2 k kd ht (nI B.2.1) hs hc B.1 B.2.2.1 B.2.2.2.1) p 1))) es') : ax_Mt (d + 10) 1479 [.ref 159] n sl es Q := by
  obtain ⟨hal, hk, hp, hhs, hF, hK⟩ := id D.1
  have hB1 := hB.2.1
  have e7 : kx_all (kx_dd F1 F2 k kd ht (nI B.2.1) hs hc B.1 B.2.2.1 B.2.2.2.1) p 1 = kx_sum (kx_deed F2 k kd ht (hs (B.1 % hc)) (nI B.1) (kx_rip F1 k (nI B.2.1) (hs (B.1 % hc)) (nI B.1) B.2.2.1 k) B.2.2.2.1) p := by
    show (0 : Int32) + _ = _
    rw [Int32.zero_add]
    rfl
  rw [e7] at hQ
  refine ax_Mt_go (m := ax_m_11_71) (ls := [some (.ref 159)]) rfl ax_b_1479_0 (Nat.le_of_ble_eq_true rfl) rfl ?_
  refine mk_thrown hal hK.1 rfl ?_
  intro es0 h0
  have D0 := mD_th D h0
  simp only [ax_W_cons, ax_I, ax_cmp, ax_ii, ax_ll, ax_li, ax_st1, ax_st2, ax_kl, ax_k2, ax_fit, ax_rtok, List.getElem?_cons_zero, List.getElem?_cons_succ, List.length_cons, List.length_nil, List.set_cons_zero, List.set_cons_succ, Nat.reduceAdd, Nat.reduceDiv, Nat.reduceMod, Nat.reduceMul, Nat.reduceLT, Nat.reduceLeDiff, Int32.reduceOfInt, Int64.reduceOfInt, true_and, and_true, and_self, true_or, or_true, false_implies, true_implies, not_false_eq_true, not_true_eq_false, Value.category, Nat.reduceEqDiff, Option.toList, List.cons_append, List.nil_append, List.drop_succ_cons, List.drop_zero, ax_qq_eq, ax_t_1479]
  refine ax_inv_of (Nat.le_of_ble_eq_true rfl) (Nat.le_of_ble_eq_true rfl) (fun _ => mE_rcv D0.1 _) (fun h => absurd h (by decide)) (Nat.le_refl _) (Nat.le_refl _) (mk_keepsD hz D0 ?_)
  intro es1 st1 D1 f1
  simp only [ax_W_cons, ax_I, ax_cmp, ax_ii, ax_ll, ax_li, ax_st1, ax_st2, ax_kl, ax_k2, ax_fit, ax_rtok, List.getElem?_cons_zero, List.getElem?_cons_succ, List.length_cons, List.length_nil, List.set_cons_zero, List.set_cons_succ, Nat.reduceAdd, Nat.reduceDiv, Nat.reduceMod, Nat.reduceMul, Nat.reduceLT, Nat.reduceLeDiff, Int32.reduceOfInt, Int64.reduceOfInt, true_and, and_true, and_self, true_or, or_true, false_implies, true_implies, not_false_eq_true, not_true_eq_false, Value.category, Nat.reduceEqDiff, Option.toList, List.cons_append, List.nil_append, List.drop_succ_cons, List.drop_zero, ax_qq_eq, ax_t_1479]
  refine ax_inv_of (Nat.le_of_ble_eq_true rfl) (Nat.le_of_ble_eq_true rfl) (fun _ => mE_rcv D1.1 _) (fun h => absurd h (by decide)) (Nat.le_refl _) (Nat.le_refl _) (mk_passes D1.1 ⟨D1.2.1, D1.2.2.2.2.1.1, hB.1⟩ (b := 0) (by omega) (by omega) ?_)
  intro es2 st2 r1 r2 r3
  have D2 := mD_0 (B' := zbeat F1 F2 k p kd ht hs hc B) hz D1 r1 r3.1 r2 r3.2.1
  simp only [ax_W_cons, ax_I, ax_cmp, ax_ii, ax_ll, ax_li, ax_st1, ax_st2, ax_kl, ax_k2, ax_fit, ax_rtok, List.getElem?_cons_zero, List.getElem?_cons_succ, List.length_cons, List.length_nil, List.set_cons_zero, List.set_cons_succ, Nat.reduceAdd, Nat.reduceDiv, Nat.reduceMod, Nat.reduceMul, Nat.reduceLT, Nat.reduceLeDiff, Int32.reduceOfInt, Int64.reduceOfInt, true_and, and_true, and_self, true_or, or_true, false_implies, true_implies, not_false_eq_true, not_true_eq_false, Value.category, Nat.reduceEqDiff, Option.toList, List.cons_append, List.nil_append, List.drop_succ_cons, List.drop_zero, ax_qq_eq, ax_t_1479]
  exact hQ es2 st2 D2 (mfd_trans (mth_d h0) (mfd_trans f1 (mfr_d r1)))
theorem mp_undo_no (D : mD es n st w k p hc kd pm ht hs F1 F2 B Fe 0 U mk M) (hQ : ∀ es' st', mD es' n st' w k p hc kd pm ht hs F1 F2 B Fe 0 U mk M → mfd es es' → Q (some (.int 0)) es') : ax_Mt (d + 10) 1480 [.ref 159] n sl es Q := by
  obtain ⟨hal, hk, hp, hhs, hF, hK⟩ := id D.1
  refine ax_Mt_go (m := ax_m_11_72) (ls := [some (.ref 159)]) rfl ax_b_1480_0 (Nat.le_of_ble_eq_true rfl) rfl ?_
  refine mk_thrown hal hK.1 rfl ?_
  intro es0 h0
  have D0 := mD_th D h0
  obtain ⟨t, g, w0⟩ := id D0.2.2.1
  unfold mOb at w0
  have z0 : nI 0 = 0 := rfl
  simp only [ax_W_cons, ax_I, ax_cmp, ax_ii, ax_ll, ax_li, ax_st1, ax_st2, ax_kl, ax_k2, ax_fit, ax_rtok, List.getElem?_cons_zero, List.getElem?_cons_succ, List.length_cons, List.length_nil, List.set_cons_zero, List.set_cons_succ, Nat.reduceAdd, Nat.reduceDiv, Nat.reduceMod, Nat.reduceMul, Nat.reduceLT, Nat.reduceLeDiff, Int32.reduceOfInt, Int64.reduceOfInt, true_and, and_true, and_self, true_or, or_true, false_implies, true_implies, not_false_eq_true, not_true_eq_false, Value.category, Nat.reduceEqDiff, Option.toList, List.cons_append, List.nil_append, List.drop_succ_cons, List.drop_zero, ax_qq_eq, ax_t_1480, w0, mo_f, hal, z0]
  exact hQ es0 st D0 (mth_d h0)
theorem mp_undo_ok (hz : zFs Fe mk M) (D : mD es n st w k p hc kd pm ht hs F1 F2 B Fe (un + 1) U mk M) (hQ : ∀ es' st', mD es' n st' w k p hc kd pm ht hs F1 F2 (U un) Fe un U mk M → mfd es es' → Q (some (.int 1)) es') : ax_Mt (d + 10) 1480 [.ref 159] n sl es Q := by
  obtain ⟨hal, hk, hp, hhs, hF, hK⟩ := id D.1
  refine ax_Mt_go (m := ax_m_11_72) (ls := [some (.ref 159)]) rfl ax_b_1480_0 (Nat.le_of_ble_eq_true rfl) rfl ?_
  refine mk_thrown hal hK.1 rfl ?_
  intro es0 h0
  have D0 := mD_th D h0
  obtain ⟨E0, hX0, ⟨t, g, hO0⟩, hun, ⟨r1, r2, r3, r4⟩, ⟨mb, m1, m2⟩, al, hA⟩ := id D0
  have w0 : es0 159 = _ := hO0
  have z0 : ¬ nI (un + 1) = 0 := nI_ne0 (by omega) (by omega)
  have z1 : nI (un + 1) - 1 = nI un := nI_pred un
  have a1 : (52 : Int32) * (5 + nI un) = nI (52 * (5 + un)) := by
    show nI 52 * (nI 5 + nI un) = _
    rw [kn_add, kn_mul]
  simp only [ax_W_cons, ax_I, ax_cmp, ax_ii, ax_ll, ax_li, ax_st1, ax_st2, ax_kl, ax_k2, ax_fit, ax_rtok, List.getElem?_cons_zero, List.getElem?_cons_succ, List.length_cons, List.length_nil, List.set_cons_zero, List.set_cons_succ, Nat.reduceAdd, Nat.reduceDiv, Nat.reduceMod, Nat.reduceMul, Nat.reduceLT, Nat.reduceLeDiff, Int32.reduceOfInt, Int64.reduceOfInt, true_and, and_true, and_self, true_or, or_true, false_implies, true_implies, not_false_eq_true, not_true_eq_false, Value.category, Nat.reduceEqDiff, Option.toList, List.cons_append, List.nil_append, List.drop_succ_cons, List.drop_zero, ax_qq_eq, ax_t_1480, ax_j_1480_14, ax_n_1480_14, w0, mo_f, hal, z0, z1, ax_up_same, a1]
  have u1 := ax_up_same es0 159 (.inr (11, mo_f t w.1 w.2.1 w.2.2.1 w.2.2.2.1 w.2.2.2.2.1 w.2.2.2.2.2.1 w.2.2.2.2.2.2.1 w.2.2.2.2.2.2.2.1 w.2.2.2.2.2.2.2.2 (nI un) g))
  refine ax_inv_of (Nat.le_of_ble_eq_true rfl) (Nat.le_of_ble_eq_true rfl) (fun _ => mO_rcv hal ⟨_, _, _, _, _, _, _, _, _, _, _, _, u1⟩ _) (fun h => absurd h (by decide)) (Nat.le_refl _) (Nat.le_refl _) (mk_copies hal ⟨_, _, _, _, _, _, _, _, _, _, _, _, u1⟩ (mX_159 hX0) (x := 52 * (5 + un)) (y := 0) (m := 26) (by omega) (by omega) (by omega) ?_)
  intro es2 f1 f2
  simp only [ax_W_cons, ax_I, ax_cmp, ax_ii, ax_ll, ax_li, ax_st1, ax_st2, ax_kl, ax_k2, ax_fit, ax_rtok, List.getElem?_cons_zero, List.getElem?_cons_succ, List.length_cons, List.length_nil, List.set_cons_zero, List.set_cons_succ, Nat.reduceAdd, Nat.reduceDiv, Nat.reduceMod, Nat.reduceMul, Nat.reduceLT, Nat.reduceLeDiff, Int32.reduceOfInt, Int64.reduceOfInt, true_and, and_true, and_self, true_or, or_true, false_implies, true_implies, not_false_eq_true, not_true_eq_false, Value.category, Nat.reduceEqDiff, Option.toList, List.cons_append, List.nil_append, List.drop_succ_cons, List.drop_zero, ax_qq_eq, ax_t_1480]
  obtain ⟨hal, hk, hp, hhs, hF, -, ct, op, ar, q1, q2, q3, q4⟩ := id E0
  have fr : ∀ j, j ≠ 159 ∧ j ≠ 171 ∧ j ≠ 172 ∧ j ≠ 173 ∧ j ≠ 175 → es2 j = es0 j := fun j hj => (f1 j hj.2).trans (ax_up_ne _ _ hj.1)
  have w2 : mOb es2 t w (nI un) g := (f1 159 (by decide)).trans u1
  refine hQ es2 _ ⟨⟨hal, hk, hp, hhs, hF, ⟨_, _, _, _, _, _, _, _, _, _, _, _, w2⟩, ct, op, ar, by rw [fr 165 (by decide)]; exact q1, by rw [fr 166 (by decide)]; exact q2, by rw [fr 167 (by decide)]; exact q3, q4⟩, f2, ⟨t, g, w2⟩, by omega, ⟨mV_cp (Nat.le_refl _) (r3 un (by omega)) hk.2 hp, mF_mo hz.1 r2 (by omega), fun u hu => mV_mo hk.2 hp (r3 u (by omega)) (by omega), fun m hm hmk => ⟨mV_mo hk.2 hp (r4 m hm hmk).1 (by omega), mF_mo (hz.2 m hm hmk) (r4 m hm hmk).2 (by omega)⟩⟩, ⟨mb, (fr 174 (by decide)).trans m1, m2⟩, al, (fr 176 (by decide)).trans hA⟩ (mfd_trans (mth_d h0) (fun j hj => fr j ⟨hj.1, hj.2.1, hj.2.2.1, hj.2.2.2.1, hj.2.2.2.2.2.1⟩))
end MM
