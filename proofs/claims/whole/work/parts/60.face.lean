/-! the class: its askings -/
def zXo (es : ax_H) : Prop := es 0 = .inr (10, [.ref 1, .ref 20, .ref 3, .ref 16, .ref 38, .ref 42, .ref 46, .ref 146, .ref 149])
def xD (es : ax_H) (n k p hc : Nat) (kd pl0 ht hs : Nat → Int32) (F1 F2 : Int32 → Int32 → Int32 → Int32 → Int32) (B : zB) (Fe : zF) (un : Nat) (U : Nat → zB) (mk : Nat → Bool) (M : Nat → zB × zF) (L : Nat) (la lb lc : Nat → Int32) : Prop := zXo es ∧ ax_al n = 178 ∧ (3 ≤ k ∧ k ≤ 12) ∧ p ≤ 6 ∧ khs hc hs ∧ kC es k p hc kd pl0 ht hs F1 F2 ∧ kbB es n 38 k p B ∧ kSe es n F1 ∧ kfF es n 42 Fe ∧ kG es L la lb lc ∧ kP es n k p un U mk M
/-- what an asking or a deed leaves as it is -/
def xfd (es es' : ax_H) : Prop := ∀ j, j ≠ 11 ∧ j ≠ 12 ∧ j ≠ 14 ∧ j ≠ 15 ∧ (j < 38 ∨ j = 146 ∨ 158 < j) → es' j = es j
theorem xfd_rf (es : ax_H) : xfd es es := fun _ _ => rfl
theorem xfd_trans {a b c : ax_H} (h1 : xfd a b) (h2 : xfd b c) : xfd a c := fun j hj => (h2 j hj).trans (h1 j hj)
theorem xfd_sg {a b : ax_H} (h : ksg a b) : xfd a b := fun j hj => h j (by omega)
section XX
variable {d n sl k p hc L N un : Nat} {es : ax_H} {kd pl0 ht hs la lb lc : Nat → Int32} {F1 F2 : Int32 → Int32 → Int32 → Int32 → Int32} {B : zB} {Fe : zF} {U : Nat → zB} {mk : Nat → Bool} {M : Nat → zB × zF} {Q : Option Value → ax_H → Prop}
theorem xD_sg {es' : ax_H} (X : xD es n k p hc kd pl0 ht hs F1 F2 B Fe un U mk M L la lb lc) (hS : kSe es' n F1) (hf : ksg es es') : xD es' n k p hc kd pl0 ht hs F1 F2 B Fe un U mk M L la lb lc := by
  obtain ⟨h1, h2, h3, h4, h5, h6, h7, h8, h9, ⟨g1, g2, g3, g4⟩, h11⟩ := X
  exact ⟨(hf 0 (by decide)).trans h1, h2, h3, h4, h5, kC_sg h6 hf, kb_sg (by omega) h7 hf, hS, kf_sg (by omega) h9 hf, ⟨(hf 16 (by decide)).trans g1, (hf 17 (by decide)).trans g2, (hf 18 (by decide)).trans g3, (hf 19 (by decide)).trans g4⟩, kP_fr h11 (fun j hj => hf j (by omega))⟩
theorem xD_W (X : xD es n k p hc kd pl0 ht hs F1 F2 B Fe un U mk M L la lb lc) (hB : zB_ok k p N B) (hN : N < 1000) : kW es n k p hc kd pl0 ht hs F1 F2 B.1 (nI B.2.1) B.2.2.1 B.2.2.2.1 B.2.2.2.2 := by
  obtain ⟨h1, h2, h3, h4, h5, h6, h7, h8, h9, h10, h11⟩ := X
  exact ⟨h2, h3, h4, h5, hB.1.1, hB.1.2.1, Nat.lt_of_le_of_lt hB.2.1 hN, h6, h7⟩
theorem xb_rcv (X : xD es n k p hc kd pl0 ht hs F1 F2 B Fe un U mk M L la lb lc) (As : List Value) : ax_rcv n es 0 (.ref 38 :: As) := ax_rcv_ok (by have := X.2.1; omega) X.2.2.2.2.2.2.1.2.1
theorem xs_rcv (X : xD es n k p hc kd pl0 ht hs F1 F2 B Fe un U mk M L la lb lc) (As : List Value) : ax_rcv n es 8 (.ref 149 :: As) := by
  obtain ⟨dr, h⟩ := X.2.2.2.2.2.2.2.1.2.1.1
  exact ax_rcv_ok (by have := X.2.1; omega) h
theorem xc_rcv (X : xD es n k p hc kd pl0 ht hs F1 F2 B Fe un U mk M L la lb lc) (As : List Value) : ax_rcv n es 1 (.ref 3 :: As) := by
  obtain ⟨once, nm, code, a1, b1, a2, b2, c3, -⟩ := X.2.2.2.2.2.1
  exact ax_rcv_ok (by have := X.2.1; omega) c3
theorem x0_rcv (X : xD es n k p hc kd pl0 ht hs F1 F2 B Fe un U mk M L la lb lc) (As : List Value) : ax_rcv n es 10 (.ref 0 :: As) := ax_rcv_ok (by have := X.2.1; omega) X.1
theorem xk_open (X : xD es n k p hc kd pl0 ht hs F1 F2 B Fe un U mk M L la lb lc) (c : Int32) (hQ : Q (some (.int (kx_b (kx_op k (nI B.2.1) c)))) es) : ax_Mt (d + 2) 5 [.ref 38, .int c] n sl es Q := by
  refine ax_Mt_mono (ck_isOpen (by omega) X.2.2.2.2.2.2.1 c) ?_
  rintro r es' ⟨rfl, rfl⟩
  exact hQ
theorem xk_cell (X : xD es n k p hc kd pl0 ht hs F1 F2 B Fe un U mk M L la lb lc) (c : Int32) (hQ : Q (some (.int (kx_b (kx_cell k c)))) es) : ax_Mt (d + 2) 3 [.ref 38, .int c] n sl es Q := by
  refine ax_Mt_mono (ck_isCell (by omega) X.2.2.2.2.2.2.1 c) ?_
  rintro r es' ⟨rfl, rfl⟩
  exact hQ
theorem xk_court (X : xD es n k p hc kd pl0 ht hs F1 F2 B Fe un U mk M L la lb lc) (c : Int32) (hQ : Q (some (.int (kx_b (kx_cell p c)))) es) : ax_Mt (d + 2) 6 [.ref 38, .int c] n sl es Q := by
  refine ax_Mt_mono (ck_isCourtier (by omega) X.2.2.2.2.2.2.1 c) ?_
  rintro r es' ⟨rfl, rfl⟩
  exact hQ
theorem xk_within (v a b : Int32) (hQ : Q (some (.int (kx_b (kx_in v a b)))) es) : ax_Mt d 1322 [.int v, .int a, .int b] n sl es Q := by
  refine ax_Mt_mono (ck_isWithin d n sl es v a b) ?_
  rintro r es' ⟨rfl, rfl⟩
  exact hQ
theorem xp_later (X : xD es n k p hc kd pl0 ht hs F1 F2 B Fe un U mk M L la lb lc) (hB : zB_ok k p N B) (hN : N < 1000) (c m : Int32) (hQ : ∀ es', xD es' n k p hc kd pl0 ht hs F1 F2 B Fe un U mk M L la lb lc → xfd es es' → Q (some (.int (zq_later F1 k (nI B.2.1) hs hc B.1 B.2.2.1 c m))) es') : ax_Mt (d + 10) 1294 [.ref 0, .int c, .int m] n sl es Q := by
  obtain ⟨x0, hal, hk, hp, hhs, hC, hb, hS, hfe, hG, hP⟩ := id X
  have hW := xD_W X hB hN
  have hB1 := hB.2.1
  have c10 : ¬ (1 : Int32) = 0 := by decide
  unfold zXo at x0
  unfold zq_later at hQ
  refine ax_Mt_go (m := ax_m_10_14) (ls := [some (.ref 0), some (.int c), some (.int m)]) rfl ax_b_1294_0 (Nat.le_of_ble_eq_true rfl) rfl ?_
  simp only [ax_W_cons, ax_I, ax_cmp, ax_ii, ax_ll, ax_li, ax_st1, ax_st2, ax_kl, ax_k2, ax_fit, ax_rtok, List.getElem?_cons_zero, List.getElem?_cons_succ, List.length_cons, List.length_nil, List.set_cons_zero, List.set_cons_succ, Nat.reduceAdd, Nat.reduceDiv, Nat.reduceMod, Nat.reduceMul, Nat.reduceLT, Nat.reduceLeDiff, Int32.reduceOfInt, Int64.reduceOfInt, true_and, and_true, and_self, true_or, or_true, false_implies, true_implies, not_false_eq_true, not_true_eq_false, Value.category, Nat.reduceEqDiff, Option.toList, List.cons_append, List.nil_append, List.drop_succ_cons, List.drop_zero, ax_qq_eq, ax_t_1294, x0, hal]
  refine ax_inv_of (Nat.le_of_ble_eq_true rfl) (Nat.le_of_ble_eq_true rfl) (fun _ => xb_rcv X _) (fun h => absurd h (by decide)) (Nat.le_refl _) (Nat.le_refl _) (xk_open X c ?_)
  cases h1 : kx_op k (nI B.2.1) c
  · rw [if_neg (fun z => by rw [h1] at z; exact absurd z.1 (by decide))] at hQ
    simp only [ax_W_cons, ax_I, ax_cmp, ax_ii, ax_ll, ax_li, ax_st1, ax_st2, ax_kl, ax_k2, ax_fit, ax_rtok, List.getElem?_cons_zero, List.getElem?_cons_succ, List.length_cons, List.length_nil, List.set_cons_zero, List.set_cons_succ, Nat.reduceAdd, Nat.reduceDiv, Nat.reduceMod, Nat.reduceMul, Nat.reduceLT, Nat.reduceLeDiff, Int32.reduceOfInt, Int64.reduceOfInt, true_and, and_true, and_self, true_or, or_true, false_implies, true_implies, not_false_eq_true, not_true_eq_false, Value.category, Nat.reduceEqDiff, Option.toList, List.cons_append, List.nil_append, List.drop_succ_cons, List.drop_zero, ax_qq_eq, ax_t_1294, ax_j_1294_21, ax_n_1294_21, kx_bf]
    exact hQ es X (xfd_rf es)
  simp only [ax_W_cons, ax_I, ax_cmp, ax_ii, ax_ll, ax_li, ax_st1, ax_st2, ax_kl, ax_k2, ax_fit, ax_rtok, List.getElem?_cons_zero, List.getElem?_cons_succ, List.length_cons, List.length_nil, List.set_cons_zero, List.set_cons_succ, Nat.reduceAdd, Nat.reduceDiv, Nat.reduceMod, Nat.reduceMul, Nat.reduceLT, Nat.reduceLeDiff, Int32.reduceOfInt, Int64.reduceOfInt, true_and, and_true, and_self, true_or, or_true, false_implies, true_implies, not_false_eq_true, not_true_eq_false, Value.category, Nat.reduceEqDiff, Option.toList, List.cons_append, List.nil_append, List.drop_succ_cons, List.drop_zero, ax_qq_eq, ax_t_1294, kx_bt, c10, x0, hal]
  refine ax_inv_of (Nat.le_of_ble_eq_true rfl) (Nat.le_of_ble_eq_true rfl) (fun _ => absurd ‹_› (by decide)) (fun h => absurd h (by decide)) (Nat.le_refl _) (Nat.le_refl _) (xk_within _ _ _ ?_)
  cases h2 : kx_in m 0 60
  · rw [if_neg (fun z => by rw [h2] at z; exact absurd z.2 (by decide))] at hQ
    simp only [ax_W_cons, ax_I, ax_cmp, ax_ii, ax_ll, ax_li, ax_st1, ax_st2, ax_kl, ax_k2, ax_fit, ax_rtok, List.getElem?_cons_zero, List.getElem?_cons_succ, List.length_cons, List.length_nil, List.set_cons_zero, List.set_cons_succ, Nat.reduceAdd, Nat.reduceDiv, Nat.reduceMod, Nat.reduceMul, Nat.reduceLT, Nat.reduceLeDiff, Int32.reduceOfInt, Int64.reduceOfInt, true_and, and_true, and_self, true_or, or_true, false_implies, true_implies, not_false_eq_true, not_true_eq_false, Value.category, Nat.reduceEqDiff, Option.toList, List.cons_append, List.nil_append, List.drop_succ_cons, List.drop_zero, ax_qq_eq, ax_t_1294, ax_j_1294_21, ax_n_1294_21, kx_bf]
    exact hQ es X (xfd_rf es)
  rw [if_pos ⟨h1, h2⟩] at hQ
  obtain ⟨c', hc', rfl, bc'⟩ := kx_op_nI hk.2 h1
  obtain ⟨m', lm', hm', rfl⟩ := kx_in_nI (a := 0) (b := 60) (by decide) (by decide) h2
  rw [nI_clamp (by omega), nI_clamp (by omega)] at hQ
  simp only [ax_W_cons, ax_I, ax_cmp, ax_ii, ax_ll, ax_li, ax_st1, ax_st2, ax_kl, ax_k2, ax_fit, ax_rtok, List.getElem?_cons_zero, List.getElem?_cons_succ, List.length_cons, List.length_nil, List.set_cons_zero, List.set_cons_succ, Nat.reduceAdd, Nat.reduceDiv, Nat.reduceMod, Nat.reduceMul, Nat.reduceLT, Nat.reduceLeDiff, Int32.reduceOfInt, Int64.reduceOfInt, true_and, and_true, and_self, true_or, or_true, false_implies, true_implies, not_false_eq_true, not_true_eq_false, Value.category, Nat.reduceEqDiff, Option.toList, List.cons_append, List.nil_append, List.drop_succ_cons, List.drop_zero, ax_qq_eq, ax_t_1294, ax_j_1294_23, ax_n_1294_23, kx_bt, c10, x0, hal]
  refine ax_inv_of (Nat.le_of_ble_eq_true rfl) (Nat.le_of_ble_eq_true rfl) (fun _ => xs_rcv X _) (fun h => absurd h (by decide)) (Nat.le_refl _) (Nat.le_refl _) (ax_Mt_mono (ck_shakeBehind (by omega) hal hk.2 (c := c') (m := m') (by omega) (by omega) hhs hB.1.1 hC hS hb) ?_)
  rintro r es2 ⟨rfl, m1, m2⟩
  simp only [ax_W_cons, ax_I, ax_cmp, ax_ii, ax_ll, ax_li, ax_st1, ax_st2, ax_kl, ax_k2, ax_fit, ax_rtok, List.getElem?_cons_zero, List.getElem?_cons_succ, List.length_cons, List.length_nil, List.set_cons_zero, List.set_cons_succ, Nat.reduceAdd, Nat.reduceDiv, Nat.reduceMod, Nat.reduceMul, Nat.reduceLT, Nat.reduceLeDiff, Int32.reduceOfInt, Int64.reduceOfInt, true_and, and_true, and_self, true_or, or_true, false_implies, true_implies, not_false_eq_true, not_true_eq_false, Value.category, Nat.reduceEqDiff, Option.toList, List.cons_append, List.nil_append, List.drop_succ_cons, List.drop_zero, ax_qq_eq, ax_t_1294]
  exact hQ es2 (xD_sg X m1 (ksf_ksg m2)) (xfd_sg (ksf_ksg m2))
theorem xp_still (X : xD es n k p hc kd pl0 ht hs F1 F2 B Fe un U mk M L la lb lc) (hB : zB_ok k p N B) (hN : N < 1000) (hQ : ∀ es', xD es' n k p hc kd pl0 ht hs F1 F2 B Fe un U mk M L la lb lc → xfd es es' → Q (some (.int (kx_fst (fun c => decide (kx_bits (kx_dr F1 k (nI B.2.1) hs hc B.1 B.2.2.1 c) k = 0)) 61 0))) es') : ax_Mt (d + 10) 1295 [.ref 0] n sl es Q := by
  obtain ⟨x0, hal, hk, hp, hhs, hC, hb, hS, hfe, hG, hP⟩ := id X
  have hW := xD_W X hB hN
  have hB1 := hB.2.1
  have c10 : ¬ (1 : Int32) = 0 := by decide
  unfold zXo at x0
  refine ax_Mt_go (m := ax_m_10_15) (ls := [some (.ref 0)]) rfl ax_b_1295_0 (Nat.le_of_ble_eq_true rfl) rfl ?_
  simp only [ax_W_cons, ax_I, ax_cmp, ax_ii, ax_ll, ax_li, ax_st1, ax_st2, ax_kl, ax_k2, ax_fit, ax_rtok, List.getElem?_cons_zero, List.getElem?_cons_succ, List.length_cons, List.length_nil, List.set_cons_zero, List.set_cons_succ, Nat.reduceAdd, Nat.reduceDiv, Nat.reduceMod, Nat.reduceMul, Nat.reduceLT, Nat.reduceLeDiff, Int32.reduceOfInt, Int64.reduceOfInt, true_and, and_true, and_self, true_or, or_true, false_implies, true_implies, not_false_eq_true, not_true_eq_false, Value.category, Nat.reduceEqDiff, Option.toList, List.cons_append, List.nil_append, List.drop_succ_cons, List.drop_zero, ax_qq_eq, ax_t_1295, x0, hal]
  refine ax_inv_of (Nat.le_of_ble_eq_true rfl) (Nat.le_of_ble_eq_true rfl) (fun _ => xs_rcv X _) (fun h => absurd h (by decide)) (Nat.le_refl _) (Nat.le_refl _) (ax_Mt_mono (ck_firstStill (by omega) hS hW) ?_)
  rintro r es2 ⟨rfl, m1, m2⟩
  simp only [ax_W_cons, ax_I, ax_cmp, ax_ii, ax_ll, ax_li, ax_st1, ax_st2, ax_kl, ax_k2, ax_fit, ax_rtok, List.getElem?_cons_zero, List.getElem?_cons_succ, List.length_cons, List.length_nil, List.set_cons_zero, List.set_cons_succ, Nat.reduceAdd, Nat.reduceDiv, Nat.reduceMod, Nat.reduceMul, Nat.reduceLT, Nat.reduceLeDiff, Int32.reduceOfInt, Int64.reduceOfInt, true_and, and_true, and_self, true_or, or_true, false_implies, true_implies, not_false_eq_true, not_true_eq_false, Value.category, Nat.reduceEqDiff, Option.toList, List.cons_append, List.nil_append, List.drop_succ_cons, List.drop_zero, ax_qq_eq, ax_t_1295]
  exact hQ es2 (xD_sg X m1 (ksf_ksg m2)) (xfd_sg (ksf_ksg m2))
theorem xp_peak (X : xD es n k p hc kd pl0 ht hs F1 F2 B Fe un U mk M L la lb lc) (hB : zB_ok k p N B) (hN : N < 1000) (c : Int32) (hQ : ∀ es', xD es' n k p hc kd pl0 ht hs F1 F2 B Fe un U mk M L la lb lc → xfd es es' → Q (some (.int (zq_peak F1 k (nI B.2.1) hs hc B.1 B.2.2.1 c))) es') : ax_Mt (d + 10) 1296 [.ref 0, .int c] n sl es Q := by
  obtain ⟨x0, hal, hk, hp, hhs, hC, hb, hS, hfe, hG, hP⟩ := id X
  have hW := xD_W X hB hN
  have hB1 := hB.2.1
  have c10 : ¬ (1 : Int32) = 0 := by decide
  unfold zXo at x0
  unfold zq_peak at hQ
  refine ax_Mt_go (m := ax_m_10_16) (ls := [some (.ref 0), some (.int c)]) rfl ax_b_1296_0 (Nat.le_of_ble_eq_true rfl) rfl ?_
  simp only [ax_W_cons, ax_I, ax_cmp, ax_ii, ax_ll, ax_li, ax_st1, ax_st2, ax_kl, ax_k2, ax_fit, ax_rtok, List.getElem?_cons_zero, List.getElem?_cons_succ, List.length_cons, List.length_nil, List.set_cons_zero, List.set_cons_succ, Nat.reduceAdd, Nat.reduceDiv, Nat.reduceMod, Nat.reduceMul, Nat.reduceLT, Nat.reduceLeDiff, Int32.reduceOfInt, Int64.reduceOfInt, true_and, and_true, and_self, true_or, or_true, false_implies, true_implies, not_false_eq_true, not_true_eq_false, Value.category, Nat.reduceEqDiff, Option.toList, List.cons_append, List.nil_append, List.drop_succ_cons, List.drop_zero, ax_qq_eq, ax_t_1296, x0, hal]
  refine ax_inv_of (Nat.le_of_ble_eq_true rfl) (Nat.le_of_ble_eq_true rfl) (fun _ => xb_rcv X _) (fun h => absurd h (by decide)) (Nat.le_refl _) (Nat.le_refl _) (xk_open X c ?_)
  cases h1 : kx_op k (nI B.2.1) c
  · rw [if_neg (fun z => by rw [h1] at z; exact absurd z (by decide))] at hQ
    simp only [ax_W_cons, ax_I, ax_cmp, ax_ii, ax_ll, ax_li, ax_st1, ax_st2, ax_kl, ax_k2, ax_fit, ax_rtok, List.getElem?_cons_zero, List.getElem?_cons_succ, List.length_cons, List.length_nil, List.set_cons_zero, List.set_cons_succ, Nat.reduceAdd, Nat.reduceDiv, Nat.reduceMod, Nat.reduceMul, Nat.reduceLT, Nat.reduceLeDiff, Int32.reduceOfInt, Int64.reduceOfInt, true_and, and_true, and_self, true_or, or_true, false_implies, true_implies, not_false_eq_true, not_true_eq_false, Value.category, Nat.reduceEqDiff, Option.toList, List.cons_append, List.nil_append, List.drop_succ_cons, List.drop_zero, ax_qq_eq, ax_t_1296, ax_j_1296_22, ax_n_1296_22, ax_j_1296_23, ax_n_1296_23, kx_bf]
    exact hQ es X (xfd_rf es)
  rw [if_pos h1] at hQ
  obtain ⟨c', hc', rfl, bc'⟩ := kx_op_nI hk.2 h1
  rw [nI_clamp (by omega)] at hQ
  simp only [ax_W_cons, ax_I, ax_cmp, ax_ii, ax_ll, ax_li, ax_st1, ax_st2, ax_kl, ax_k2, ax_fit, ax_rtok, List.getElem?_cons_zero, List.getElem?_cons_succ, List.length_cons, List.length_nil, List.set_cons_zero, List.set_cons_succ, Nat.reduceAdd, Nat.reduceDiv, Nat.reduceMod, Nat.reduceMul, Nat.reduceLT, Nat.reduceLeDiff, Int32.reduceOfInt, Int64.reduceOfInt, true_and, and_true, and_self, true_or, or_true, false_implies, true_implies, not_false_eq_true, not_true_eq_false, Value.category, Nat.reduceEqDiff, Option.toList, List.cons_append, List.nil_append, List.drop_succ_cons, List.drop_zero, ax_qq_eq, ax_t_1296, kx_bt, c10, x0, hal]
  refine ax_inv_of (Nat.le_of_ble_eq_true rfl) (Nat.le_of_ble_eq_true rfl) (fun _ => xs_rcv X _) (fun h => absurd h (by decide)) (Nat.le_refl _) (Nat.le_refl _) (ax_Mt_mono (ck_firstPeak (by omega) hS hW (c := c') (by omega)) ?_)
  rintro r es2 ⟨rfl, m1, m2⟩
  simp only [ax_W_cons, ax_I, ax_cmp, ax_ii, ax_ll, ax_li, ax_st1, ax_st2, ax_kl, ax_k2, ax_fit, ax_rtok, List.getElem?_cons_zero, List.getElem?_cons_succ, List.length_cons, List.length_nil, List.set_cons_zero, List.set_cons_succ, Nat.reduceAdd, Nat.reduceDiv, Nat.reduceMod, Nat.reduceMul, Nat.reduceLT, Nat.reduceLeDiff, Int32.reduceOfInt, Int64.reduceOfInt, true_and, and_true, and_self, true_or, or_true, false_implies, true_implies, not_false_eq_true, not_true_eq_false, Value.category, Nat.reduceEqDiff, Option.toList, List.cons_append, List.nil_append, List.drop_succ_cons, List.drop_zero, ax_qq_eq, ax_t_1296, ax_j_1296_23, ax_n_1296_23]
  exact hQ es2 (xD_sg X m1 (ksf_ksg m2)) (xfd_sg (ksf_ksg m2))
theorem xp_total (X : xD es n k p hc kd pl0 ht hs F1 F2 B Fe un U mk M L la lb lc) (hB : zB_ok k p N B) (hN : N < 1000) (c m : Int32) (hQ : ∀ es', xD es' n k p hc kd pl0 ht hs F1 F2 B Fe un U mk M L la lb lc → xfd es es' → Q (some (.int (zq_total (kx_dd F1 F2 k kd ht (nI B.2.1) hs hc B.1 B.2.2.1 B.2.2.2.1) p B.2.2.2.2 c m))) es') : ax_Mt (d + 10) 1297 [.ref 0, .int c, .int m] n sl es Q := by
  obtain ⟨x0, hal, hk, hp, hhs, hC, hb, hS, hfe, hG, hP⟩ := id X
  have hW := xD_W X hB hN
  have hB1 := hB.2.1
  have c10 : ¬ (1 : Int32) = 0 := by decide
  unfold zXo at x0
  unfold zq_total at hQ
  refine ax_Mt_go (m := ax_m_10_17) (ls := [some (.ref 0), some (.int c), some (.int m)]) rfl ax_b_1297_0 (Nat.le_of_ble_eq_true rfl) rfl ?_
  simp only [ax_W_cons, ax_I, ax_cmp, ax_ii, ax_ll, ax_li, ax_st1, ax_st2, ax_kl, ax_k2, ax_fit, ax_rtok, List.getElem?_cons_zero, List.getElem?_cons_succ, List.length_cons, List.length_nil, List.set_cons_zero, List.set_cons_succ, Nat.reduceAdd, Nat.reduceDiv, Nat.reduceMod, Nat.reduceMul, Nat.reduceLT, Nat.reduceLeDiff, Int32.reduceOfInt, Int64.reduceOfInt, true_and, and_true, and_self, true_or, or_true, false_implies, true_implies, not_false_eq_true, not_true_eq_false, Value.category, Nat.reduceEqDiff, Option.toList, List.cons_append, List.nil_append, List.drop_succ_cons, List.drop_zero, ax_qq_eq, ax_t_1297, x0, hal]
  refine ax_inv_of (Nat.le_of_ble_eq_true rfl) (Nat.le_of_ble_eq_true rfl) (fun _ => xb_rcv X _) (fun h => absurd h (by decide)) (Nat.le_refl _) (Nat.le_refl _) (xk_court X c ?_)
  cases h1 : kx_cell p c
  · rw [if_neg (fun z => by rw [h1] at z; exact absurd z.1 (by decide))] at hQ
    simp only [ax_W_cons, ax_I, ax_cmp, ax_ii, ax_ll, ax_li, ax_st1, ax_st2, ax_kl, ax_k2, ax_fit, ax_rtok, List.getElem?_cons_zero, List.getElem?_cons_succ, List.length_cons, List.length_nil, List.set_cons_zero, List.set_cons_succ, Nat.reduceAdd, Nat.reduceDiv, Nat.reduceMod, Nat.reduceMul, Nat.reduceLT, Nat.reduceLeDiff, Int32.reduceOfInt, Int64.reduceOfInt, true_and, and_true, and_self, true_or, or_true, false_implies, true_implies, not_false_eq_true, not_true_eq_false, Value.category, Nat.reduceEqDiff, Option.toList, List.cons_append, List.nil_append, List.drop_succ_cons, List.drop_zero, ax_qq_eq, ax_t_1297, ax_j_1297_21, ax_n_1297_21, kx_bf]
    exact hQ es X (xfd_rf es)
  simp only [ax_W_cons, ax_I, ax_cmp, ax_ii, ax_ll, ax_li, ax_st1, ax_st2, ax_kl, ax_k2, ax_fit, ax_rtok, List.getElem?_cons_zero, List.getElem?_cons_succ, List.length_cons, List.length_nil, List.set_cons_zero, List.set_cons_succ, Nat.reduceAdd, Nat.reduceDiv, Nat.reduceMod, Nat.reduceMul, Nat.reduceLT, Nat.reduceLeDiff, Int32.reduceOfInt, Int64.reduceOfInt, true_and, and_true, and_self, true_or, or_true, false_implies, true_implies, not_false_eq_true, not_true_eq_false, Value.category, Nat.reduceEqDiff, Option.toList, List.cons_append, List.nil_append, List.drop_succ_cons, List.drop_zero, ax_qq_eq, ax_t_1297, kx_bt, c10, x0, hal]
  refine ax_inv_of (Nat.le_of_ble_eq_true rfl) (Nat.le_of_ble_eq_true rfl) (fun _ => absurd ‹_› (by decide)) (fun h => absurd h (by decide)) (Nat.le_refl _) (Nat.le_refl _) (xk_within _ _ _ ?_)
  cases h2 : kx_in m 1 60
  · rw [if_neg (fun z => by rw [h2] at z; exact absurd z.2 (by decide))] at hQ
    simp only [ax_W_cons, ax_I, ax_cmp, ax_ii, ax_ll, ax_li, ax_st1, ax_st2, ax_kl, ax_k2, ax_fit, ax_rtok, List.getElem?_cons_zero, List.getElem?_cons_succ, List.length_cons, List.length_nil, List.set_cons_zero, List.set_cons_succ, Nat.reduceAdd, Nat.reduceDiv, Nat.reduceMod, Nat.reduceMul, Nat.reduceLT, Nat.reduceLeDiff, Int32.reduceOfInt, Int64.reduceOfInt, true_and, and_true, and_self, true_or, or_true, false_implies, true_implies, not_false_eq_true, not_true_eq_false, Value.category, Nat.reduceEqDiff, Option.toList, List.cons_append, List.nil_append, List.drop_succ_cons, List.drop_zero, ax_qq_eq, ax_t_1297, ax_j_1297_21, ax_n_1297_21, kx_bf]
    exact hQ es X (xfd_rf es)
  rw [if_pos ⟨h1, h2⟩] at hQ
  obtain ⟨c', hc', rfl⟩ := kx_cell_in (by omega) h1
  obtain ⟨m', lm', hm', rfl⟩ := kx_in_nI (a := 1) (b := 60) (by decide) (by decide) h2
  rw [nI_clamp (by omega), nI_clamp (by omega)] at hQ
  simp only [ax_W_cons, ax_I, ax_cmp, ax_ii, ax_ll, ax_li, ax_st1, ax_st2, ax_kl, ax_k2, ax_fit, ax_rtok, List.getElem?_cons_zero, List.getElem?_cons_succ, List.length_cons, List.length_nil, List.set_cons_zero, List.set_cons_succ, Nat.reduceAdd, Nat.reduceDiv, Nat.reduceMod, Nat.reduceMul, Nat.reduceLT, Nat.reduceLeDiff, Int32.reduceOfInt, Int64.reduceOfInt, true_and, and_true, and_self, true_or, or_true, false_implies, true_implies, not_false_eq_true, not_true_eq_false, Value.category, Nat.reduceEqDiff, Option.toList, List.cons_append, List.nil_append, List.drop_succ_cons, List.drop_zero, ax_qq_eq, ax_t_1297, ax_j_1297_23, ax_n_1297_23, kx_bt, c10, x0, hal]
  refine ax_inv_of (Nat.le_of_ble_eq_true rfl) (Nat.le_of_ble_eq_true rfl) (fun _ => xs_rcv X _) (fun h => absurd h (by decide)) (Nat.le_refl _) (Nat.le_refl _) (ax_Mt_mono (ck_totalOf (by omega) hS hW (i := c') (m := m') (by omega) (by omega)) ?_)
  rintro r es2 ⟨rfl, m1, m2⟩
  simp only [ax_W_cons, ax_I, ax_cmp, ax_ii, ax_ll, ax_li, ax_st1, ax_st2, ax_kl, ax_k2, ax_fit, ax_rtok, List.getElem?_cons_zero, List.getElem?_cons_succ, List.length_cons, List.length_nil, List.set_cons_zero, List.set_cons_succ, Nat.reduceAdd, Nat.reduceDiv, Nat.reduceMod, Nat.reduceMul, Nat.reduceLT, Nat.reduceLeDiff, Int32.reduceOfInt, Int64.reduceOfInt, true_and, and_true, and_self, true_or, or_true, false_implies, true_implies, not_false_eq_true, not_true_eq_false, Value.category, Nat.reduceEqDiff, Option.toList, List.cons_append, List.nil_append, List.drop_succ_cons, List.drop_zero, ax_qq_eq, ax_t_1297]
  exact hQ es2 (xD_sg X m1 (ksf_ksg m2)) (xfd_sg (ksf_ksg m2))
theorem xp_nudge (X : xD es n k p hc kd pl0 ht hs F1 F2 B Fe un U mk M L la lb lc) (hB : zB_ok k p N B) (hN : N < 1000) (c m x w : Int32) (hQ : ∀ es', xD es' n k p hc kd pl0 ht hs F1 F2 B Fe un U mk M L la lb lc → xfd es es' → Q (some (.int (zq_nudge F1 k (nI B.2.1) hs hc B.1 B.2.2.1 c m x w))) es') : ax_Mt (d + 10) 1298 [.ref 0, .int c, .int m, .int x, .int w] n sl es Q := by
  obtain ⟨x0, hal, hk, hp, hhs, hC, hb, hS, hfe, hG, hP⟩ := id X
  have hW := xD_W X hB hN
  have hB1 := hB.2.1
  have c10 : ¬ (1 : Int32) = 0 := by decide
  unfold zXo at x0
  unfold zq_nudge at hQ
  refine ax_Mt_go (m := ax_m_10_18) (ls := [some (.ref 0), some (.int c), some (.int m), some (.int x), some (.int w)]) rfl ax_b_1298_0 (Nat.le_of_ble_eq_true rfl) rfl ?_
  simp only [ax_W_cons, ax_I, ax_cmp, ax_ii, ax_ll, ax_li, ax_st1, ax_st2, ax_kl, ax_k2, ax_fit, ax_rtok, List.getElem?_cons_zero, List.getElem?_cons_succ, List.length_cons, List.length_nil, List.set_cons_zero, List.set_cons_succ, Nat.reduceAdd, Nat.reduceDiv, Nat.reduceMod, Nat.reduceMul, Nat.reduceLT, Nat.reduceLeDiff, Int32.reduceOfInt, Int64.reduceOfInt, true_and, and_true, and_self, true_or, or_true, false_implies, true_implies, not_false_eq_true, not_true_eq_false, Value.category, Nat.reduceEqDiff, Option.toList, List.cons_append, List.nil_append, List.drop_succ_cons, List.drop_zero, ax_qq_eq, ax_t_1298, x0, hal]
  refine ax_inv_of (Nat.le_of_ble_eq_true rfl) (Nat.le_of_ble_eq_true rfl) (fun _ => xb_rcv X _) (fun h => absurd h (by decide)) (Nat.le_refl _) (Nat.le_refl _) (xk_open X c ?_)
  cases h1 : kx_op k (nI B.2.1) c
  · rw [if_neg (fun z => by rw [h1] at z; exact absurd z.1 (by decide))] at hQ
    simp only [ax_W_cons, ax_I, ax_cmp, ax_ii, ax_ll, ax_li, ax_st1, ax_st2, ax_kl, ax_k2, ax_fit, ax_rtok, List.getElem?_cons_zero, List.getElem?_cons_succ, List.length_cons, List.length_nil, List.set_cons_zero, List.set_cons_succ, Nat.reduceAdd, Nat.reduceDiv, Nat.reduceMod, Nat.reduceMul, Nat.reduceLT, Nat.reduceLeDiff, Int32.reduceOfInt, Int64.reduceOfInt, true_and, and_true, and_self, true_or, or_true, false_implies, true_implies, not_false_eq_true, not_true_eq_false, Value.category, Nat.reduceEqDiff, Option.toList, List.cons_append, List.nil_append, List.drop_succ_cons, List.drop_zero, ax_qq_eq, ax_t_1298, ax_j_1298_41, ax_n_1298_41, kx_bf]
    exact hQ es X (xfd_rf es)
  simp only [ax_W_cons, ax_I, ax_cmp, ax_ii, ax_ll, ax_li, ax_st1, ax_st2, ax_kl, ax_k2, ax_fit, ax_rtok, List.getElem?_cons_zero, List.getElem?_cons_succ, List.length_cons, List.length_nil, List.set_cons_zero, List.set_cons_succ, Nat.reduceAdd, Nat.reduceDiv, Nat.reduceMod, Nat.reduceMul, Nat.reduceLT, Nat.reduceLeDiff, Int32.reduceOfInt, Int64.reduceOfInt, true_and, and_true, and_self, true_or, or_true, false_implies, true_implies, not_false_eq_true, not_true_eq_false, Value.category, Nat.reduceEqDiff, Option.toList, List.cons_append, List.nil_append, List.drop_succ_cons, List.drop_zero, ax_qq_eq, ax_t_1298, kx_bt, c10, x0, hal]
  refine ax_inv_of (Nat.le_of_ble_eq_true rfl) (Nat.le_of_ble_eq_true rfl) (fun _ => absurd ‹_› (by decide)) (fun h => absurd h (by decide)) (Nat.le_refl _) (Nat.le_refl _) (xk_within _ _ _ ?_)
  cases h2 : kx_in m 0 12
  · rw [if_neg (fun z => by rw [h2] at z; exact absurd z.2.1 (by decide))] at hQ
    simp only [ax_W_cons, ax_I, ax_cmp, ax_ii, ax_ll, ax_li, ax_st1, ax_st2, ax_kl, ax_k2, ax_fit, ax_rtok, List.getElem?_cons_zero, List.getElem?_cons_succ, List.length_cons, List.length_nil, List.set_cons_zero, List.set_cons_succ, Nat.reduceAdd, Nat.reduceDiv, Nat.reduceMod, Nat.reduceMul, Nat.reduceLT, Nat.reduceLeDiff, Int32.reduceOfInt, Int64.reduceOfInt, true_and, and_true, and_self, true_or, or_true, false_implies, true_implies, not_false_eq_true, not_true_eq_false, Value.category, Nat.reduceEqDiff, Option.toList, List.cons_append, List.nil_append, List.drop_succ_cons, List.drop_zero, ax_qq_eq, ax_t_1298, ax_j_1298_41, ax_n_1298_41, kx_bf]
    exact hQ es X (xfd_rf es)
  simp only [ax_W_cons, ax_I, ax_cmp, ax_ii, ax_ll, ax_li, ax_st1, ax_st2, ax_kl, ax_k2, ax_fit, ax_rtok, List.getElem?_cons_zero, List.getElem?_cons_succ, List.length_cons, List.length_nil, List.set_cons_zero, List.set_cons_succ, Nat.reduceAdd, Nat.reduceDiv, Nat.reduceMod, Nat.reduceMul, Nat.reduceLT, Nat.reduceLeDiff, Int32.reduceOfInt, Int64.reduceOfInt, true_and, and_true, and_self, true_or, or_true, false_implies, true_implies, not_false_eq_true, not_true_eq_false, Value.category, Nat.reduceEqDiff, Option.toList, List.cons_append, List.nil_append, List.drop_succ_cons, List.drop_zero, ax_qq_eq, ax_t_1298, kx_bt, c10, x0, hal]
  refine ax_inv_of (Nat.le_of_ble_eq_true rfl) (Nat.le_of_ble_eq_true rfl) (fun _ => absurd ‹_› (by decide)) (fun h => absurd h (by decide)) (Nat.le_refl _) (Nat.le_refl _) (xk_within _ _ _ ?_)
  cases h3 : kx_in x 1 99
  · rw [if_neg (fun z => by rw [h3] at z; exact absurd z.2.2.1 (by decide))] at hQ
    simp only [ax_W_cons, ax_I, ax_cmp, ax_ii, ax_ll, ax_li, ax_st1, ax_st2, ax_kl, ax_k2, ax_fit, ax_rtok, List.getElem?_cons_zero, List.getElem?_cons_succ, List.length_cons, List.length_nil, List.set_cons_zero, List.set_cons_succ, Nat.reduceAdd, Nat.reduceDiv, Nat.reduceMod, Nat.reduceMul, Nat.reduceLT, Nat.reduceLeDiff, Int32.reduceOfInt, Int64.reduceOfInt, true_and, and_true, and_self, true_or, or_true, false_implies, true_implies, not_false_eq_true, not_true_eq_false, Value.category, Nat.reduceEqDiff, Option.toList, List.cons_append, List.nil_append, List.drop_succ_cons, List.drop_zero, ax_qq_eq, ax_t_1298, ax_j_1298_41, ax_n_1298_41, kx_bf]
    exact hQ es X (xfd_rf es)
  simp only [ax_W_cons, ax_I, ax_cmp, ax_ii, ax_ll, ax_li, ax_st1, ax_st2, ax_kl, ax_k2, ax_fit, ax_rtok, List.getElem?_cons_zero, List.getElem?_cons_succ, List.length_cons, List.length_nil, List.set_cons_zero, List.set_cons_succ, Nat.reduceAdd, Nat.reduceDiv, Nat.reduceMod, Nat.reduceMul, Nat.reduceLT, Nat.reduceLeDiff, Int32.reduceOfInt, Int64.reduceOfInt, true_and, and_true, and_self, true_or, or_true, false_implies, true_implies, not_false_eq_true, not_true_eq_false, Value.category, Nat.reduceEqDiff, Option.toList, List.cons_append, List.nil_append, List.drop_succ_cons, List.drop_zero, ax_qq_eq, ax_t_1298, kx_bt, c10, x0, hal]
  refine ax_inv_of (Nat.le_of_ble_eq_true rfl) (Nat.le_of_ble_eq_true rfl) (fun _ => absurd ‹_› (by decide)) (fun h => absurd h (by decide)) (Nat.le_refl _) (Nat.le_refl _) (xk_within _ _ _ ?_)
  cases h4 : kx_in w 0 1
  · rw [if_neg (fun z => by rw [h4] at z; exact absurd z.2.2.2 (by decide))] at hQ
    simp only [ax_W_cons, ax_I, ax_cmp, ax_ii, ax_ll, ax_li, ax_st1, ax_st2, ax_kl, ax_k2, ax_fit, ax_rtok, List.getElem?_cons_zero, List.getElem?_cons_succ, List.length_cons, List.length_nil, List.set_cons_zero, List.set_cons_succ, Nat.reduceAdd, Nat.reduceDiv, Nat.reduceMod, Nat.reduceMul, Nat.reduceLT, Nat.reduceLeDiff, Int32.reduceOfInt, Int64.reduceOfInt, true_and, and_true, and_self, true_or, or_true, false_implies, true_implies, not_false_eq_true, not_true_eq_false, Value.category, Nat.reduceEqDiff, Option.toList, List.cons_append, List.nil_append, List.drop_succ_cons, List.drop_zero, ax_qq_eq, ax_t_1298, ax_j_1298_41, ax_n_1298_41, kx_bf]
    exact hQ es X (xfd_rf es)
  rw [if_pos ⟨h1, h2, h3, h4⟩] at hQ
  obtain ⟨c', hc', rfl, bc'⟩ := kx_op_nI hk.2 h1
  obtain ⟨m', lm', hm', rfl⟩ := kx_in_nI (a := 0) (b := 12) (by decide) (by decide) h2
  obtain ⟨x', lx', hx', rfl⟩ := kx_in_nI (a := 1) (b := 99) (by decide) (by decide) h3
  obtain ⟨w', lw', hw', rfl⟩ := kx_in_nI (a := 0) (b := 1) (by decide) (by decide) h4
  rw [nI_clamp (by omega), nI_clamp (by omega)] at hQ
  simp only [ax_W_cons, ax_I, ax_cmp, ax_ii, ax_ll, ax_li, ax_st1, ax_st2, ax_kl, ax_k2, ax_fit, ax_rtok, List.getElem?_cons_zero, List.getElem?_cons_succ, List.length_cons, List.length_nil, List.set_cons_zero, List.set_cons_succ, Nat.reduceAdd, Nat.reduceDiv, Nat.reduceMod, Nat.reduceMul, Nat.reduceLT, Nat.reduceLeDiff, Int32.reduceOfInt, Int64.reduceOfInt, true_and, and_true, and_self, true_or, or_true, false_implies, true_implies, not_false_eq_true, not_true_eq_false, Value.category, Nat.reduceEqDiff, Option.toList, List.cons_append, List.nil_append, List.drop_succ_cons, List.drop_zero, ax_qq_eq, ax_t_1298, ax_j_1298_43, ax_n_1298_43, kx_bt, c10, x0, hal]
  refine ax_inv_of (Nat.le_of_ble_eq_true rfl) (Nat.le_of_ble_eq_true rfl) (fun _ => xs_rcv X _) (fun h => absurd h (by decide)) (Nat.le_refl _) (Nat.le_refl _) (ax_Mt_mono (ck_leastTouch (by omega) hS hW (c := c') (m := m') (by omega) (by omega) _ _) ?_)
  rintro r es2 ⟨rfl, m1, m2⟩
  simp only [ax_W_cons, ax_I, ax_cmp, ax_ii, ax_ll, ax_li, ax_st1, ax_st2, ax_kl, ax_k2, ax_fit, ax_rtok, List.getElem?_cons_zero, List.getElem?_cons_succ, List.length_cons, List.length_nil, List.set_cons_zero, List.set_cons_succ, Nat.reduceAdd, Nat.reduceDiv, Nat.reduceMod, Nat.reduceMul, Nat.reduceLT, Nat.reduceLeDiff, Int32.reduceOfInt, Int64.reduceOfInt, true_and, and_true, and_self, true_or, or_true, false_implies, true_implies, not_false_eq_true, not_true_eq_false, Value.category, Nat.reduceEqDiff, Option.toList, List.cons_append, List.nil_append, List.drop_succ_cons, List.drop_zero, ax_qq_eq, ax_t_1298]
  exact hQ es2 (xD_sg X m1 (ksf_ksg m2)) (xfd_sg (ksf_ksg m2))
theorem xp_guard (X : xD es n k p hc kd pl0 ht hs F1 F2 B Fe un U mk M L la lb lc) (hB : zB_ok k p N B) (hN : N < 1000) (c : Int32) (hQ : ∀ es', xD es' n k p hc kd pl0 ht hs F1 F2 B Fe un U mk M L la lb lc → xfd es es' → Q (some (.int (zq_guard F1 F2 k p kd ht (nI B.2.1) hs hc B.1 B.2.2.1 B.2.2.2.1 B.2.2.2.2 c))) es') : ax_Mt (d + 10) 1299 [.ref 0, .int c] n sl es Q := by
  obtain ⟨x0, hal, hk, hp, hhs, hC, hb, hS, hfe, hG, hP⟩ := id X
  have hW := xD_W X hB hN
  have hB1 := hB.2.1
  have c10 : ¬ (1 : Int32) = 0 := by decide
  unfold zXo at x0
  unfold zq_guard at hQ
  refine ax_Mt_go (m := ax_m_10_19) (ls := [some (.ref 0), some (.int c)]) rfl ax_b_1299_0 (Nat.le_of_ble_eq_true rfl) rfl ?_
  simp only [ax_W_cons, ax_I, ax_cmp, ax_ii, ax_ll, ax_li, ax_st1, ax_st2, ax_kl, ax_k2, ax_fit, ax_rtok, List.getElem?_cons_zero, List.getElem?_cons_succ, List.length_cons, List.length_nil, List.set_cons_zero, List.set_cons_succ, Nat.reduceAdd, Nat.reduceDiv, Nat.reduceMod, Nat.reduceMul, Nat.reduceLT, Nat.reduceLeDiff, Int32.reduceOfInt, Int64.reduceOfInt, true_and, and_true, and_self, true_or, or_true, false_implies, true_implies, not_false_eq_true, not_true_eq_false, Value.category, Nat.reduceEqDiff, Option.toList, List.cons_append, List.nil_append, List.drop_succ_cons, List.drop_zero, ax_qq_eq, ax_t_1299, x0, hal]
  refine ax_inv_of (Nat.le_of_ble_eq_true rfl) (Nat.le_of_ble_eq_true rfl) (fun _ => xb_rcv X _) (fun h => absurd h (by decide)) (Nat.le_refl _) (Nat.le_refl _) (xk_court X c ?_)
  cases h1 : kx_cell p c
  · rw [if_neg (fun z => by rw [h1] at z; exact absurd z (by decide))] at hQ
    simp only [ax_W_cons, ax_I, ax_cmp, ax_ii, ax_ll, ax_li, ax_st1, ax_st2, ax_kl, ax_k2, ax_fit, ax_rtok, List.getElem?_cons_zero, List.getElem?_cons_succ, List.length_cons, List.length_nil, List.set_cons_zero, List.set_cons_succ, Nat.reduceAdd, Nat.reduceDiv, Nat.reduceMod, Nat.reduceMul, Nat.reduceLT, Nat.reduceLeDiff, Int32.reduceOfInt, Int64.reduceOfInt, true_and, and_true, and_self, true_or, or_true, false_implies, true_implies, not_false_eq_true, not_true_eq_false, Value.category, Nat.reduceEqDiff, Option.toList, List.cons_append, List.nil_append, List.drop_succ_cons, List.drop_zero, ax_qq_eq, ax_t_1299, ax_j_1299_22, ax_n_1299_22, ax_j_1299_23, ax_n_1299_23, kx_bf]
    exact hQ es X (xfd_rf es)
  rw [if_pos h1] at hQ
  obtain ⟨c', hc', rfl⟩ := kx_cell_in (by omega) h1
  rw [nI_clamp (by omega)] at hQ
  simp only [ax_W_cons, ax_I, ax_cmp, ax_ii, ax_ll, ax_li, ax_st1, ax_st2, ax_kl, ax_k2, ax_fit, ax_rtok, List.getElem?_cons_zero, List.getElem?_cons_succ, List.length_cons, List.length_nil, List.set_cons_zero, List.set_cons_succ, Nat.reduceAdd, Nat.reduceDiv, Nat.reduceMod, Nat.reduceMul, Nat.reduceLT, Nat.reduceLeDiff, Int32.reduceOfInt, Int64.reduceOfInt, true_and, and_true, and_self, true_or, or_true, false_implies, true_implies, not_false_eq_true, not_true_eq_false, Value.category, Nat.reduceEqDiff, Option.toList, List.cons_append, List.nil_append, List.drop_succ_cons, List.drop_zero, ax_qq_eq, ax_t_1299, kx_bt, c10, x0, hal]
  refine ax_inv_of (Nat.le_of_ble_eq_true rfl) (Nat.le_of_ble_eq_true rfl) (fun _ => xs_rcv X _) (fun h => absurd h (by decide)) (Nat.le_refl _) (Nat.le_refl _) (ax_Mt_mono (ck_bestFork (by omega) hS hW (i := c') (by omega)) ?_)
  rintro r es2 ⟨rfl, m1, m2⟩
  simp only [ax_W_cons, ax_I, ax_cmp, ax_ii, ax_ll, ax_li, ax_st1, ax_st2, ax_kl, ax_k2, ax_fit, ax_rtok, List.getElem?_cons_zero, List.getElem?_cons_succ, List.length_cons, List.length_nil, List.set_cons_zero, List.set_cons_succ, Nat.reduceAdd, Nat.reduceDiv, Nat.reduceMod, Nat.reduceMul, Nat.reduceLT, Nat.reduceLeDiff, Int32.reduceOfInt, Int64.reduceOfInt, true_and, and_true, and_self, true_or, or_true, false_implies, true_implies, not_false_eq_true, not_true_eq_false, Value.category, Nat.reduceEqDiff, Option.toList, List.cons_append, List.nil_append, List.drop_succ_cons, List.drop_zero, ax_qq_eq, ax_t_1299, ax_j_1299_23, ax_n_1299_23]
  exact hQ es2 (xD_sg X m1 (ksf_ksg m2)) (xfd_sg (ksf_ksg m2))
theorem xp_swap (X : xD es n k p hc kd pl0 ht hs F1 F2 B Fe un U mk M L la lb lc) (hB : zB_ok k p N B) (hN : N < 1000) (hQ : ∀ es', xD es' n k p hc kd pl0 ht hs F1 F2 B Fe un U mk M L la lb lc → xfd es es' → Q (some (.int ((kx_bc (fun i j => kx_all (kx_dd F1 F2 k kd ht (nI B.2.1) hs hc B.1 B.2.2.1 (kx_exch B.2.2.2.1 (nI i) (nI j))) p 20) p (kx_all (kx_dd F1 F2 k kd ht (nI B.2.1) hs hc B.1 B.2.2.1 B.2.2.2.1) p 20) p).2))) es') : ax_Mt (d + 10) 1300 [.ref 0] n sl es Q := by
  obtain ⟨x0, hal, hk, hp, hhs, hC, hb, hS, hfe, hG, hP⟩ := id X
  have hW := xD_W X hB hN
  have hB1 := hB.2.1
  have c10 : ¬ (1 : Int32) = 0 := by decide
  unfold zXo at x0
  refine ax_Mt_go (m := ax_m_10_20) (ls := [some (.ref 0)]) rfl ax_b_1300_0 (Nat.le_of_ble_eq_true rfl) rfl ?_
  simp only [ax_W_cons, ax_I, ax_cmp, ax_ii, ax_ll, ax_li, ax_st1, ax_st2, ax_kl, ax_k2, ax_fit, ax_rtok, List.getElem?_cons_zero, List.getElem?_cons_succ, List.length_cons, List.length_nil, List.set_cons_zero, List.set_cons_succ, Nat.reduceAdd, Nat.reduceDiv, Nat.reduceMod, Nat.reduceMul, Nat.reduceLT, Nat.reduceLeDiff, Int32.reduceOfInt, Int64.reduceOfInt, true_and, and_true, and_self, true_or, or_true, false_implies, true_implies, not_false_eq_true, not_true_eq_false, Value.category, Nat.reduceEqDiff, Option.toList, List.cons_append, List.nil_append, List.drop_succ_cons, List.drop_zero, ax_qq_eq, ax_t_1300, x0, hal]
  refine ax_inv_of (Nat.le_of_ble_eq_true rfl) (Nat.le_of_ble_eq_true rfl) (fun _ => xs_rcv X _) (fun h => absurd h (by decide)) (Nat.le_refl _) (Nat.le_refl _) (ck_bestChange hS hW ?_)
  intro es2 m1 m2
  simp only [ax_W_cons, ax_I, ax_cmp, ax_ii, ax_ll, ax_li, ax_st1, ax_st2, ax_kl, ax_k2, ax_fit, ax_rtok, List.getElem?_cons_zero, List.getElem?_cons_succ, List.length_cons, List.length_nil, List.set_cons_zero, List.set_cons_succ, Nat.reduceAdd, Nat.reduceDiv, Nat.reduceMod, Nat.reduceMul, Nat.reduceLT, Nat.reduceLeDiff, Int32.reduceOfInt, Int64.reduceOfInt, true_and, and_true, and_self, true_or, or_true, false_implies, true_implies, not_false_eq_true, not_true_eq_false, Value.category, Nat.reduceEqDiff, Option.toList, List.cons_append, List.nil_append, List.drop_succ_cons, List.drop_zero, ax_qq_eq, ax_t_1300]
  exact hQ es2 (xD_sg X m1 (ksf_ksg m2)) (xfd_sg (ksf_ksg m2))
theorem xp_ways (X : xD es n k p hc kd pl0 ht hs F1 F2 B Fe un U mk M L la lb lc) (hB : zB_ok k p N B) (hN : N < 1000) (w : Int32) (hfi : zF_ok k Fe) (hQ : ∀ es', xD es' n k p hc kd pl0 ht hs F1 F2 B Fe un U mk M L la lb lc → xfd es es' → Q (some (.int (zq_ways F1 k (nI B.2.1) hs hc B.1 B.2.2.1 Fe.2.1 Fe.2.2.1 Fe.2.2.2 Fe.1 w))) es') : ax_Mt (d + 10) 1302 [.ref 0, .int w] n sl es Q := by
  obtain ⟨x0, hal, hk, hp, hhs, hC, hb, hS, hfe, hG, hP⟩ := id X
  have hW := xD_W X hB hN
  have hB1 := hB.2.1
  have c10 : ¬ (1 : Int32) = 0 := by decide
  unfold zXo at x0
  unfold zq_ways at hQ
  refine ax_Mt_go (m := ax_m_10_22) (ls := [some (.ref 0), some (.int w)]) rfl ax_b_1302_0 (Nat.le_of_ble_eq_true rfl) rfl ?_
  simp only [ax_W_cons, ax_I, ax_cmp, ax_ii, ax_ll, ax_li, ax_st1, ax_st2, ax_kl, ax_k2, ax_fit, ax_rtok, List.getElem?_cons_zero, List.getElem?_cons_succ, List.length_cons, List.length_nil, List.set_cons_zero, List.set_cons_succ, Nat.reduceAdd, Nat.reduceDiv, Nat.reduceMod, Nat.reduceMul, Nat.reduceLT, Nat.reduceLeDiff, Int32.reduceOfInt, Int64.reduceOfInt, true_and, and_true, and_self, true_or, or_true, false_implies, true_implies, not_false_eq_true, not_true_eq_false, Value.category, Nat.reduceEqDiff, Option.toList, List.cons_append, List.nil_append, List.drop_succ_cons, List.drop_zero, ax_qq_eq, ax_t_1302, x0, hal]
  refine ax_inv_of (Nat.le_of_ble_eq_true rfl) (Nat.le_of_ble_eq_true rfl) (fun _ => absurd ‹_› (by decide)) (fun h => absurd h (by decide)) (Nat.le_refl _) (Nat.le_refl _) (xk_within _ _ _ ?_)
  cases h1 : kx_in w 0 3
  · rw [if_neg (fun z => by rw [h1] at z; exact absurd z (by decide))] at hQ
    simp only [ax_W_cons, ax_I, ax_cmp, ax_ii, ax_ll, ax_li, ax_st1, ax_st2, ax_kl, ax_k2, ax_fit, ax_rtok, List.getElem?_cons_zero, List.getElem?_cons_succ, List.length_cons, List.length_nil, List.set_cons_zero, List.set_cons_succ, Nat.reduceAdd, Nat.reduceDiv, Nat.reduceMod, Nat.reduceMul, Nat.reduceLT, Nat.reduceLeDiff, Int32.reduceOfInt, Int64.reduceOfInt, true_and, and_true, and_self, true_or, or_true, false_implies, true_implies, not_false_eq_true, not_true_eq_false, Value.category, Nat.reduceEqDiff, Option.toList, List.cons_append, List.nil_append, List.drop_succ_cons, List.drop_zero, ax_qq_eq, ax_t_1302, ax_j_1302_20, ax_n_1302_20, ax_j_1302_21, ax_n_1302_21, kx_bf]
    exact hQ es X (xfd_rf es)
  rw [if_pos h1] at hQ
  obtain ⟨w', lw', hw', rfl⟩ := kx_in_nI (a := 0) (b := 3) (by decide) (by decide) h1
  have ew : ∀ x : Nat, x ≤ 3 → (nI w' = nI x) = (w' = x) := fun x hx => propext ⟨fun z => kn_inj (by omega) (by omega) z, fun z => by rw [z]⟩
  have e0 : (nI w' = 0) = (w' = 0) := ew 0 (by omega)
  have e1 : (nI w' = 1) = (w' = 1) := ew 1 (by omega)
  have e2 : (nI w' = 2) = (w' = 2) := ew 2 (by omega)
  simp only [e0, e1, e2] at hQ
  simp only [ax_W_cons, ax_I, ax_cmp, ax_ii, ax_ll, ax_li, ax_st1, ax_st2, ax_kl, ax_k2, ax_fit, ax_rtok, List.getElem?_cons_zero, List.getElem?_cons_succ, List.length_cons, List.length_nil, List.set_cons_zero, List.set_cons_succ, Nat.reduceAdd, Nat.reduceDiv, Nat.reduceMod, Nat.reduceMul, Nat.reduceLT, Nat.reduceLeDiff, Int32.reduceOfInt, Int64.reduceOfInt, true_and, and_true, and_self, true_or, or_true, false_implies, true_implies, not_false_eq_true, not_true_eq_false, Value.category, Nat.reduceEqDiff, Option.toList, List.cons_append, List.nil_append, List.drop_succ_cons, List.drop_zero, ax_qq_eq, ax_t_1302, kx_bt, c10, x0, hal]
  refine ax_inv_of (Nat.le_of_ble_eq_true rfl) (Nat.le_of_ble_eq_true rfl) (fun _ => xs_rcv X _) (fun h => absurd h (by decide)) (Nat.le_refl _) (Nat.le_refl _) (ax_Mt_mono (ck_allWays (by omega) hS hW (zfi_kfi hk.2 hfi) hfe (wh := w') hw') ?_)
  rintro r es2 ⟨rfl, m1, m2⟩
  simp only [ax_W_cons, ax_I, ax_cmp, ax_ii, ax_ll, ax_li, ax_st1, ax_st2, ax_kl, ax_k2, ax_fit, ax_rtok, List.getElem?_cons_zero, List.getElem?_cons_succ, List.length_cons, List.length_nil, List.set_cons_zero, List.set_cons_succ, Nat.reduceAdd, Nat.reduceDiv, Nat.reduceMod, Nat.reduceMul, Nat.reduceLT, Nat.reduceLeDiff, Int32.reduceOfInt, Int64.reduceOfInt, true_and, and_true, and_self, true_or, or_true, false_implies, true_implies, not_false_eq_true, not_true_eq_false, Value.category, Nat.reduceEqDiff, Option.toList, List.cons_append, List.nil_append, List.drop_succ_cons, List.drop_zero, ax_qq_eq, ax_t_1302, ax_j_1302_21, ax_n_1302_21]
  exact hQ es2 (xD_sg X m1 (ksf_ksg m2)) (xfd_sg (ksf_ksg m2))
theorem xp_look (X : xD es n k p hc kd pl0 ht hs F1 F2 B Fe un U mk M L la lb lc) (hB : zB_ok k p N B) (hN : N < 1000) (m : Int32) (hfi : zF_ok k Fe) (hQ : ∀ es', xD es' n k p hc kd pl0 ht hs F1 F2 B Fe un U mk M L la lb lc → xfd es es' → Q (some (.int (zq_look F1 k (nI B.2.1) hs hc B.1 B.2.2.1 Fe.2.1 Fe.2.2.1 Fe.2.2.2 Fe.1 m))) es') : ax_Mt (d + 10) 1303 [.ref 0, .int m] n sl es Q := by
  obtain ⟨x0, hal, hk, hp, hhs, hC, hb, hS, hfe, hG, hP⟩ := id X
  have hW := xD_W X hB hN
  have hB1 := hB.2.1
  have c10 : ¬ (1 : Int32) = 0 := by decide
  unfold zXo at x0
  unfold zq_look at hQ
  refine ax_Mt_go (m := ax_m_10_23) (ls := [some (.ref 0), some (.int m)]) rfl ax_b_1303_0 (Nat.le_of_ble_eq_true rfl) rfl ?_
  simp only [ax_W_cons, ax_I, ax_cmp, ax_ii, ax_ll, ax_li, ax_st1, ax_st2, ax_kl, ax_k2, ax_fit, ax_rtok, List.getElem?_cons_zero, List.getElem?_cons_succ, List.length_cons, List.length_nil, List.set_cons_zero, List.set_cons_succ, Nat.reduceAdd, Nat.reduceDiv, Nat.reduceMod, Nat.reduceMul, Nat.reduceLT, Nat.reduceLeDiff, Int32.reduceOfInt, Int64.reduceOfInt, true_and, and_true, and_self, true_or, or_true, false_implies, true_implies, not_false_eq_true, not_true_eq_false, Value.category, Nat.reduceEqDiff, Option.toList, List.cons_append, List.nil_append, List.drop_succ_cons, List.drop_zero, ax_qq_eq, ax_t_1303, x0, hal]
  refine ax_inv_of (Nat.le_of_ble_eq_true rfl) (Nat.le_of_ble_eq_true rfl) (fun _ => absurd ‹_› (by decide)) (fun h => absurd h (by decide)) (Nat.le_refl _) (Nat.le_refl _) (xk_within _ _ _ ?_)
  cases h1 : kx_in m 0 12
  · rw [if_neg (fun z => by rw [h1] at z; exact absurd z (by decide))] at hQ
    simp only [ax_W_cons, ax_I, ax_cmp, ax_ii, ax_ll, ax_li, ax_st1, ax_st2, ax_kl, ax_k2, ax_fit, ax_rtok, List.getElem?_cons_zero, List.getElem?_cons_succ, List.length_cons, List.length_nil, List.set_cons_zero, List.set_cons_succ, Nat.reduceAdd, Nat.reduceDiv, Nat.reduceMod, Nat.reduceMul, Nat.reduceLT, Nat.reduceLeDiff, Int32.reduceOfInt, Int64.reduceOfInt, true_and, and_true, and_self, true_or, or_true, false_implies, true_implies, not_false_eq_true, not_true_eq_false, Value.category, Nat.reduceEqDiff, Option.toList, List.cons_append, List.nil_append, List.drop_succ_cons, List.drop_zero, ax_qq_eq, ax_t_1303, ax_j_1303_21, ax_n_1303_21, ax_j_1303_22, ax_n_1303_22, kx_bf]
    exact hQ es X (xfd_rf es)
  rw [if_pos h1] at hQ
  obtain ⟨m', lm', hm', rfl⟩ := kx_in_nI (a := 0) (b := 12) (by decide) (by decide) h1
  rw [nI_clamp (by omega)] at hQ
  simp only [ax_W_cons, ax_I, ax_cmp, ax_ii, ax_ll, ax_li, ax_st1, ax_st2, ax_kl, ax_k2, ax_fit, ax_rtok, List.getElem?_cons_zero, List.getElem?_cons_succ, List.length_cons, List.length_nil, List.set_cons_zero, List.set_cons_succ, Nat.reduceAdd, Nat.reduceDiv, Nat.reduceMod, Nat.reduceMul, Nat.reduceLT, Nat.reduceLeDiff, Int32.reduceOfInt, Int64.reduceOfInt, true_and, and_true, and_self, true_or, or_true, false_implies, true_implies, not_false_eq_true, not_true_eq_false, Value.category, Nat.reduceEqDiff, Option.toList, List.cons_append, List.nil_append, List.drop_succ_cons, List.drop_zero, ax_qq_eq, ax_t_1303, kx_bt, c10, x0, hal]
  refine ax_inv_of (Nat.le_of_ble_eq_true rfl) (Nat.le_of_ble_eq_true rfl) (fun _ => xs_rcv X _) (fun h => absurd h (by decide)) (Nat.le_refl _) (Nat.le_refl _) (ck_bestFeel hS hW (zfi_kfi hk.2 hfi) hfe (m := m') (by omega) ?_)
  intro es2 m1 m2
  simp only [ax_W_cons, ax_I, ax_cmp, ax_ii, ax_ll, ax_li, ax_st1, ax_st2, ax_kl, ax_k2, ax_fit, ax_rtok, List.getElem?_cons_zero, List.getElem?_cons_succ, List.length_cons, List.length_nil, List.set_cons_zero, List.set_cons_succ, Nat.reduceAdd, Nat.reduceDiv, Nat.reduceMod, Nat.reduceMul, Nat.reduceLT, Nat.reduceLeDiff, Int32.reduceOfInt, Int64.reduceOfInt, true_and, and_true, and_self, true_or, or_true, false_implies, true_implies, not_false_eq_true, not_true_eq_false, Value.category, Nat.reduceEqDiff, Option.toList, List.cons_append, List.nil_append, List.drop_succ_cons, List.drop_zero, ax_qq_eq, ax_t_1303, ax_j_1303_22, ax_n_1303_22]
  exact hQ es2 (xD_sg X m1 m2) (xfd_sg m2)
theorem xp_share (X : xD es n k p hc kd pl0 ht hs F1 F2 B Fe un U mk M L la lb lc) (hB : zB_ok k p N B) (hN : N < 1000) (c m : Int32) (hQ : ∀ es', xD es' n k p hc kd pl0 ht hs F1 F2 B Fe un U mk M L la lb lc → xfd es es' → Q (some (.int (zq_share p ht c m))) es') : ax_Mt (d + 10) 1304 [.ref 0, .int c, .int m] n sl es Q := by
  obtain ⟨x0, hal, hk, hp, hhs, hC, hb, hS, hfe, hG, hP⟩ := id X
  have hW := xD_W X hB hN
  have hB1 := hB.2.1
  have c10 : ¬ (1 : Int32) = 0 := by decide
  unfold zXo at x0
  unfold zq_share at hQ
  refine ax_Mt_go (m := ax_m_10_24) (ls := [some (.ref 0), some (.int c), some (.int m)]) rfl ax_b_1304_0 (Nat.le_of_ble_eq_true rfl) rfl ?_
  simp only [ax_W_cons, ax_I, ax_cmp, ax_ii, ax_ll, ax_li, ax_st1, ax_st2, ax_kl, ax_k2, ax_fit, ax_rtok, List.getElem?_cons_zero, List.getElem?_cons_succ, List.length_cons, List.length_nil, List.set_cons_zero, List.set_cons_succ, Nat.reduceAdd, Nat.reduceDiv, Nat.reduceMod, Nat.reduceMul, Nat.reduceLT, Nat.reduceLeDiff, Int32.reduceOfInt, Int64.reduceOfInt, true_and, and_true, and_self, true_or, or_true, false_implies, true_implies, not_false_eq_true, not_true_eq_false, Value.category, Nat.reduceEqDiff, Option.toList, List.cons_append, List.nil_append, List.drop_succ_cons, List.drop_zero, ax_qq_eq, ax_t_1304, x0, hal]
  refine ax_inv_of (Nat.le_of_ble_eq_true rfl) (Nat.le_of_ble_eq_true rfl) (fun _ => xb_rcv X _) (fun h => absurd h (by decide)) (Nat.le_refl _) (Nat.le_refl _) (xk_court X c ?_)
  cases h1 : kx_cell p c
  · rw [if_neg (fun z => by rw [h1] at z; exact absurd z.1 (by decide))] at hQ
    simp only [ax_W_cons, ax_I, ax_cmp, ax_ii, ax_ll, ax_li, ax_st1, ax_st2, ax_kl, ax_k2, ax_fit, ax_rtok, List.getElem?_cons_zero, List.getElem?_cons_succ, List.length_cons, List.length_nil, List.set_cons_zero, List.set_cons_succ, Nat.reduceAdd, Nat.reduceDiv, Nat.reduceMod, Nat.reduceMul, Nat.reduceLT, Nat.reduceLeDiff, Int32.reduceOfInt, Int64.reduceOfInt, true_and, and_true, and_self, true_or, or_true, false_implies, true_implies, not_false_eq_true, not_true_eq_false, Value.category, Nat.reduceEqDiff, Option.toList, List.cons_append, List.nil_append, List.drop_succ_cons, List.drop_zero, ax_qq_eq, ax_t_1304, ax_j_1304_21, ax_n_1304_21, kx_bf]
    exact hQ es X (xfd_rf es)
  simp only [ax_W_cons, ax_I, ax_cmp, ax_ii, ax_ll, ax_li, ax_st1, ax_st2, ax_kl, ax_k2, ax_fit, ax_rtok, List.getElem?_cons_zero, List.getElem?_cons_succ, List.length_cons, List.length_nil, List.set_cons_zero, List.set_cons_succ, Nat.reduceAdd, Nat.reduceDiv, Nat.reduceMod, Nat.reduceMul, Nat.reduceLT, Nat.reduceLeDiff, Int32.reduceOfInt, Int64.reduceOfInt, true_and, and_true, and_self, true_or, or_true, false_implies, true_implies, not_false_eq_true, not_true_eq_false, Value.category, Nat.reduceEqDiff, Option.toList, List.cons_append, List.nil_append, List.drop_succ_cons, List.drop_zero, ax_qq_eq, ax_t_1304, kx_bt, c10, x0, hal]
  refine ax_inv_of (Nat.le_of_ble_eq_true rfl) (Nat.le_of_ble_eq_true rfl) (fun _ => absurd ‹_› (by decide)) (fun h => absurd h (by decide)) (Nat.le_refl _) (Nat.le_refl _) (xk_within _ _ _ ?_)
  cases h2 : kx_in m 1 99
  · rw [if_neg (fun z => by rw [h2] at z; exact absurd z.2 (by decide))] at hQ
    simp only [ax_W_cons, ax_I, ax_cmp, ax_ii, ax_ll, ax_li, ax_st1, ax_st2, ax_kl, ax_k2, ax_fit, ax_rtok, List.getElem?_cons_zero, List.getElem?_cons_succ, List.length_cons, List.length_nil, List.set_cons_zero, List.set_cons_succ, Nat.reduceAdd, Nat.reduceDiv, Nat.reduceMod, Nat.reduceMul, Nat.reduceLT, Nat.reduceLeDiff, Int32.reduceOfInt, Int64.reduceOfInt, true_and, and_true, and_self, true_or, or_true, false_implies, true_implies, not_false_eq_true, not_true_eq_false, Value.category, Nat.reduceEqDiff, Option.toList, List.cons_append, List.nil_append, List.drop_succ_cons, List.drop_zero, ax_qq_eq, ax_t_1304, ax_j_1304_21, ax_n_1304_21, kx_bf]
    exact hQ es X (xfd_rf es)
  rw [if_pos ⟨h1, h2⟩] at hQ
  obtain ⟨c', hc', rfl⟩ := kx_cell_in (by omega) h1
  obtain ⟨m', lm', hm', rfl⟩ := kx_in_nI (a := 1) (b := 99) (by decide) (by decide) h2
  rw [nI_clamp (n := c') (by omega)] at hQ
  simp only [ax_W_cons, ax_I, ax_cmp, ax_ii, ax_ll, ax_li, ax_st1, ax_st2, ax_kl, ax_k2, ax_fit, ax_rtok, List.getElem?_cons_zero, List.getElem?_cons_succ, List.length_cons, List.length_nil, List.set_cons_zero, List.set_cons_succ, Nat.reduceAdd, Nat.reduceDiv, Nat.reduceMod, Nat.reduceMul, Nat.reduceLT, Nat.reduceLeDiff, Int32.reduceOfInt, Int64.reduceOfInt, true_and, and_true, and_self, true_or, or_true, false_implies, true_implies, not_false_eq_true, not_true_eq_false, Value.category, Nat.reduceEqDiff, Option.toList, List.cons_append, List.nil_append, List.drop_succ_cons, List.drop_zero, ax_qq_eq, ax_t_1304, ax_j_1304_23, ax_n_1304_23, kx_bt, c10, x0, hal]
  refine ax_inv_of (Nat.le_of_ble_eq_true rfl) (Nat.le_of_ble_eq_true rfl) (fun _ => xc_rcv X _) (fun h => absurd h (by decide)) (Nat.le_refl _) (Nat.le_refl _) (ck_shareOf hal hp hC hc' _ ?_)
  simp only [ax_W_cons, ax_I, ax_cmp, ax_ii, ax_ll, ax_li, ax_st1, ax_st2, ax_kl, ax_k2, ax_fit, ax_rtok, List.getElem?_cons_zero, List.getElem?_cons_succ, List.length_cons, List.length_nil, List.set_cons_zero, List.set_cons_succ, Nat.reduceAdd, Nat.reduceDiv, Nat.reduceMod, Nat.reduceMul, Nat.reduceLT, Nat.reduceLeDiff, Int32.reduceOfInt, Int64.reduceOfInt, true_and, and_true, and_self, true_or, or_true, false_implies, true_implies, not_false_eq_true, not_true_eq_false, Value.category, Nat.reduceEqDiff, Option.toList, List.cons_append, List.nil_append, List.drop_succ_cons, List.drop_zero, ax_qq_eq, ax_t_1304]
  exact hQ _ X (xfd_rf _)
theorem xp_alike (X : xD es n k p hc kd pl0 ht hs F1 F2 B Fe un U mk M L la lb lc) (hB : zB_ok k p N B) (hN : N < 1000) (hQ : ∀ es', xD es' n k p hc kd pl0 ht hs F1 F2 B Fe un U mk M L la lb lc → xfd es es' → Q (some (.int (kx_pairs k B.2.2.1 k))) es') : ax_Mt (d + 10) 1305 [.ref 0] n sl es Q := by
  obtain ⟨x0, hal, hk, hp, hhs, hC, hb, hS, hfe, hG, hP⟩ := id X
  have hW := xD_W X hB hN
  have hB1 := hB.2.1
  have c10 : ¬ (1 : Int32) = 0 := by decide
  unfold zXo at x0
  refine ax_Mt_go (m := ax_m_10_25) (ls := [some (.ref 0)]) rfl ax_b_1305_0 (Nat.le_of_ble_eq_true rfl) rfl ?_
  simp only [ax_W_cons, ax_I, ax_cmp, ax_ii, ax_ll, ax_li, ax_st1, ax_st2, ax_kl, ax_k2, ax_fit, ax_rtok, List.getElem?_cons_zero, List.getElem?_cons_succ, List.length_cons, List.length_nil, List.set_cons_zero, List.set_cons_succ, Nat.reduceAdd, Nat.reduceDiv, Nat.reduceMod, Nat.reduceMul, Nat.reduceLT, Nat.reduceLeDiff, Int32.reduceOfInt, Int64.reduceOfInt, true_and, and_true, and_self, true_or, or_true, false_implies, true_implies, not_false_eq_true, not_true_eq_false, Value.category, Nat.reduceEqDiff, Option.toList, List.cons_append, List.nil_append, List.drop_succ_cons, List.drop_zero, ax_qq_eq, ax_t_1305, x0, hal]
  refine ax_inv_of (Nat.le_of_ble_eq_true rfl) (Nat.le_of_ble_eq_true rfl) (fun _ => xb_rcv X _) (fun h => absurd h (by decide)) (Nat.le_refl _) (Nat.le_refl _) (ax_Mt_mono (ck_pairsAlike hk.2 hb) ?_)
  rintro r es2 ⟨rfl, rfl⟩
  simp only [ax_W_cons, ax_I, ax_cmp, ax_ii, ax_ll, ax_li, ax_st1, ax_st2, ax_kl, ax_k2, ax_fit, ax_rtok, List.getElem?_cons_zero, List.getElem?_cons_succ, List.length_cons, List.length_nil, List.set_cons_zero, List.set_cons_succ, Nat.reduceAdd, Nat.reduceDiv, Nat.reduceMod, Nat.reduceMul, Nat.reduceLT, Nat.reduceLeDiff, Int32.reduceOfInt, Int64.reduceOfInt, true_and, and_true, and_self, true_or, or_true, false_implies, true_implies, not_false_eq_true, not_true_eq_false, Value.category, Nat.reduceEqDiff, Option.toList, List.cons_append, List.nil_append, List.drop_succ_cons, List.drop_zero, ax_qq_eq, ax_t_1305, kx_b01]
  exact hQ _ X (xfd_rf _)
theorem xp_even (X : xD es n k p hc kd pl0 ht hs F1 F2 B Fe un U mk M L la lb lc) (hB : zB_ok k p N B) (hN : N < 1000) (hQ : ∀ es', xD es' n k p hc kd pl0 ht hs F1 F2 B Fe un U mk M L la lb lc → xfd es es' → Q (some (.int (kx_b (kx_even k (nI B.2.1) B.2.2.1 (k / 2))))) es') : ax_Mt (d + 10) 1306 [.ref 0] n sl es Q := by
  obtain ⟨x0, hal, hk, hp, hhs, hC, hb, hS, hfe, hG, hP⟩ := id X
  have hW := xD_W X hB hN
  have hB1 := hB.2.1
  have c10 : ¬ (1 : Int32) = 0 := by decide
  unfold zXo at x0
  refine ax_Mt_go (m := ax_m_10_26) (ls := [some (.ref 0)]) rfl ax_b_1306_0 (Nat.le_of_ble_eq_true rfl) rfl ?_
  simp only [ax_W_cons, ax_I, ax_cmp, ax_ii, ax_ll, ax_li, ax_st1, ax_st2, ax_kl, ax_k2, ax_fit, ax_rtok, List.getElem?_cons_zero, List.getElem?_cons_succ, List.length_cons, List.length_nil, List.set_cons_zero, List.set_cons_succ, Nat.reduceAdd, Nat.reduceDiv, Nat.reduceMod, Nat.reduceMul, Nat.reduceLT, Nat.reduceLeDiff, Int32.reduceOfInt, Int64.reduceOfInt, true_and, and_true, and_self, true_or, or_true, false_implies, true_implies, not_false_eq_true, not_true_eq_false, Value.category, Nat.reduceEqDiff, Option.toList, List.cons_append, List.nil_append, List.drop_succ_cons, List.drop_zero, ax_qq_eq, ax_t_1306, x0, hal]
  refine ax_inv_of (Nat.le_of_ble_eq_true rfl) (Nat.le_of_ble_eq_true rfl) (fun _ => xb_rcv X _) (fun h => absurd h (by decide)) (Nat.le_refl _) (Nat.le_refl _) (ax_Mt_mono (ck_isEven (by omega) hk.2 (by omega) hb) ?_)
  rintro r es2 ⟨rfl, rfl⟩
  simp only [ax_W_cons, ax_I, ax_cmp, ax_ii, ax_ll, ax_li, ax_st1, ax_st2, ax_kl, ax_k2, ax_fit, ax_rtok, List.getElem?_cons_zero, List.getElem?_cons_succ, List.length_cons, List.length_nil, List.set_cons_zero, List.set_cons_succ, Nat.reduceAdd, Nat.reduceDiv, Nat.reduceMod, Nat.reduceMul, Nat.reduceLT, Nat.reduceLeDiff, Int32.reduceOfInt, Int64.reduceOfInt, true_and, and_true, and_self, true_or, or_true, false_implies, true_implies, not_false_eq_true, not_true_eq_false, Value.category, Nat.reduceEqDiff, Option.toList, List.cons_append, List.nil_append, List.drop_succ_cons, List.drop_zero, ax_qq_eq, ax_t_1306, kx_b01]
  exact hQ _ X (xfd_rf _)
theorem xp_calm (X : xD es n k p hc kd pl0 ht hs F1 F2 B Fe un U mk M L la lb lc) (hB : zB_ok k p N B) (hN : N < 1000) (hQ : ∀ es', xD es' n k p hc kd pl0 ht hs F1 F2 B Fe un U mk M L la lb lc → xfd es es' → Q (some (.int (kx_min (kx_calm k B.2.2.1 (2 * k)).1 (nI k)))) es') : ax_Mt (d + 10) 1307 [.ref 0] n sl es Q := by
  obtain ⟨x0, hal, hk, hp, hhs, hC, hb, hS, hfe, hG, hP⟩ := id X
  have hW := xD_W X hB hN
  have hB1 := hB.2.1
  have c10 : ¬ (1 : Int32) = 0 := by decide
  unfold zXo at x0
  refine ax_Mt_go (m := ax_m_10_27) (ls := [some (.ref 0)]) rfl ax_b_1307_0 (Nat.le_of_ble_eq_true rfl) rfl ?_
  simp only [ax_W_cons, ax_I, ax_cmp, ax_ii, ax_ll, ax_li, ax_st1, ax_st2, ax_kl, ax_k2, ax_fit, ax_rtok, List.getElem?_cons_zero, List.getElem?_cons_succ, List.length_cons, List.length_nil, List.set_cons_zero, List.set_cons_succ, Nat.reduceAdd, Nat.reduceDiv, Nat.reduceMod, Nat.reduceMul, Nat.reduceLT, Nat.reduceLeDiff, Int32.reduceOfInt, Int64.reduceOfInt, true_and, and_true, and_self, true_or, or_true, false_implies, true_implies, not_false_eq_true, not_true_eq_false, Value.category, Nat.reduceEqDiff, Option.toList, List.cons_append, List.nil_append, List.drop_succ_cons, List.drop_zero, ax_qq_eq, ax_t_1307, x0, hal]
  refine ax_inv_of (Nat.le_of_ble_eq_true rfl) (Nat.le_of_ble_eq_true rfl) (fun _ => xb_rcv X _) (fun h => absurd h (by decide)) (Nat.le_refl _) (Nat.le_refl _) (ax_Mt_mono (ck_widestCalm (by omega) hk.2 hb) ?_)
  rintro r es2 ⟨rfl, rfl⟩
  simp only [ax_W_cons, ax_I, ax_cmp, ax_ii, ax_ll, ax_li, ax_st1, ax_st2, ax_kl, ax_k2, ax_fit, ax_rtok, List.getElem?_cons_zero, List.getElem?_cons_succ, List.length_cons, List.length_nil, List.set_cons_zero, List.set_cons_succ, Nat.reduceAdd, Nat.reduceDiv, Nat.reduceMod, Nat.reduceMul, Nat.reduceLT, Nat.reduceLeDiff, Int32.reduceOfInt, Int64.reduceOfInt, true_and, and_true, and_self, true_or, or_true, false_implies, true_implies, not_false_eq_true, not_true_eq_false, Value.category, Nat.reduceEqDiff, Option.toList, List.cons_append, List.nil_append, List.drop_succ_cons, List.drop_zero, ax_qq_eq, ax_t_1307, kx_b01]
  exact hQ _ X (xfd_rf _)
theorem xp_loud (X : xD es n k p hc kd pl0 ht hs F1 F2 B Fe un U mk M L la lb lc) (hB : zB_ok k p N B) (hN : N < 1000) (hQ : ∀ es', xD es' n k p hc kd pl0 ht hs F1 F2 B Fe un U mk M L la lb lc → xfd es es' → Q (some (.int ((kx_loud B.2.2.1 k).2))) es') : ax_Mt (d + 10) 1308 [.ref 0] n sl es Q := by
  obtain ⟨x0, hal, hk, hp, hhs, hC, hb, hS, hfe, hG, hP⟩ := id X
  have hW := xD_W X hB hN
  have hB1 := hB.2.1
  have c10 : ¬ (1 : Int32) = 0 := by decide
  unfold zXo at x0
  refine ax_Mt_go (m := ax_m_10_28) (ls := [some (.ref 0)]) rfl ax_b_1308_0 (Nat.le_of_ble_eq_true rfl) rfl ?_
  simp only [ax_W_cons, ax_I, ax_cmp, ax_ii, ax_ll, ax_li, ax_st1, ax_st2, ax_kl, ax_k2, ax_fit, ax_rtok, List.getElem?_cons_zero, List.getElem?_cons_succ, List.length_cons, List.length_nil, List.set_cons_zero, List.set_cons_succ, Nat.reduceAdd, Nat.reduceDiv, Nat.reduceMod, Nat.reduceMul, Nat.reduceLT, Nat.reduceLeDiff, Int32.reduceOfInt, Int64.reduceOfInt, true_and, and_true, and_self, true_or, or_true, false_implies, true_implies, not_false_eq_true, not_true_eq_false, Value.category, Nat.reduceEqDiff, Option.toList, List.cons_append, List.nil_append, List.drop_succ_cons, List.drop_zero, ax_qq_eq, ax_t_1308, x0, hal]
  refine ax_inv_of (Nat.le_of_ble_eq_true rfl) (Nat.le_of_ble_eq_true rfl) (fun _ => xb_rcv X _) (fun h => absurd h (by decide)) (Nat.le_refl _) (Nat.le_refl _) (ax_Mt_mono (ck_loudest hk.2 hb) ?_)
  rintro r es2 ⟨rfl, rfl⟩
  simp only [ax_W_cons, ax_I, ax_cmp, ax_ii, ax_ll, ax_li, ax_st1, ax_st2, ax_kl, ax_k2, ax_fit, ax_rtok, List.getElem?_cons_zero, List.getElem?_cons_succ, List.length_cons, List.length_nil, List.set_cons_zero, List.set_cons_succ, Nat.reduceAdd, Nat.reduceDiv, Nat.reduceMod, Nat.reduceMul, Nat.reduceLT, Nat.reduceLeDiff, Int32.reduceOfInt, Int64.reduceOfInt, true_and, and_true, and_self, true_or, or_true, false_implies, true_implies, not_false_eq_true, not_true_eq_false, Value.category, Nat.reduceEqDiff, Option.toList, List.cons_append, List.nil_append, List.drop_succ_cons, List.drop_zero, ax_qq_eq, ax_t_1308, kx_b01]
  exact hQ _ X (xfd_rf _)
theorem xp_spread (X : xD es n k p hc kd pl0 ht hs F1 F2 B Fe un U mk M L la lb lc) (hB : zB_ok k p N B) (hN : N < 1000) (hQ : ∀ es', xD es' n k p hc kd pl0 ht hs F1 F2 B Fe un U mk M L la lb lc → xfd es es' → Q (some (.int (kx_range k (nI B.2.1) B.2.2.1))) es') : ax_Mt (d + 10) 1309 [.ref 0] n sl es Q := by
  obtain ⟨x0, hal, hk, hp, hhs, hC, hb, hS, hfe, hG, hP⟩ := id X
  have hW := xD_W X hB hN
  have hB1 := hB.2.1
  have c10 : ¬ (1 : Int32) = 0 := by decide
  unfold zXo at x0
  refine ax_Mt_go (m := ax_m_10_29) (ls := [some (.ref 0)]) rfl ax_b_1309_0 (Nat.le_of_ble_eq_true rfl) rfl ?_
  simp only [ax_W_cons, ax_I, ax_cmp, ax_ii, ax_ll, ax_li, ax_st1, ax_st2, ax_kl, ax_k2, ax_fit, ax_rtok, List.getElem?_cons_zero, List.getElem?_cons_succ, List.length_cons, List.length_nil, List.set_cons_zero, List.set_cons_succ, Nat.reduceAdd, Nat.reduceDiv, Nat.reduceMod, Nat.reduceMul, Nat.reduceLT, Nat.reduceLeDiff, Int32.reduceOfInt, Int64.reduceOfInt, true_and, and_true, and_self, true_or, or_true, false_implies, true_implies, not_false_eq_true, not_true_eq_false, Value.category, Nat.reduceEqDiff, Option.toList, List.cons_append, List.nil_append, List.drop_succ_cons, List.drop_zero, ax_qq_eq, ax_t_1309, x0, hal]
  refine ax_inv_of (Nat.le_of_ble_eq_true rfl) (Nat.le_of_ble_eq_true rfl) (fun _ => xb_rcv X _) (fun h => absurd h (by decide)) (Nat.le_refl _) (Nat.le_refl _) (ax_Mt_mono (ck_range (by omega) hk.2 hb) ?_)
  rintro r es2 ⟨rfl, rfl⟩
  simp only [ax_W_cons, ax_I, ax_cmp, ax_ii, ax_ll, ax_li, ax_st1, ax_st2, ax_kl, ax_k2, ax_fit, ax_rtok, List.getElem?_cons_zero, List.getElem?_cons_succ, List.length_cons, List.length_nil, List.set_cons_zero, List.set_cons_succ, Nat.reduceAdd, Nat.reduceDiv, Nat.reduceMod, Nat.reduceMul, Nat.reduceLT, Nat.reduceLeDiff, Int32.reduceOfInt, Int64.reduceOfInt, true_and, and_true, and_self, true_or, or_true, false_implies, true_implies, not_false_eq_true, not_true_eq_false, Value.category, Nat.reduceEqDiff, Option.toList, List.cons_append, List.nil_append, List.drop_succ_cons, List.drop_zero, ax_qq_eq, ax_t_1309, kx_b01]
  exact hQ _ X (xfd_rf _)
theorem xp_reach (X : xD es n k p hc kd pl0 ht hs F1 F2 B Fe un U mk M L la lb lc) (hB : zB_ok k p N B) (hN : N < 1000) (c o : Int32) (hQ : ∀ es', xD es' n k p hc kd pl0 ht hs F1 F2 B Fe un U mk M L la lb lc → xfd es es' → Q (some (.int (zq_reach F1 k (nI B.2.1) hs hc B.1 B.2.2.1 c o))) es') : ax_Mt (d + 10) 1310 [.ref 0, .int c, .int o] n sl es Q := by
  obtain ⟨x0, hal, hk, hp, hhs, hC, hb, hS, hfe, hG, hP⟩ := id X
  have hW := xD_W X hB hN
  have hB1 := hB.2.1
  have c10 : ¬ (1 : Int32) = 0 := by decide
  unfold zXo at x0
  unfold zq_reach at hQ
  refine ax_Mt_go (m := ax_m_10_30) (ls := [some (.ref 0), some (.int c), some (.int o)]) rfl ax_b_1310_0 (Nat.le_of_ble_eq_true rfl) rfl ?_
  simp only [ax_W_cons, ax_I, ax_cmp, ax_ii, ax_ll, ax_li, ax_st1, ax_st2, ax_kl, ax_k2, ax_fit, ax_rtok, List.getElem?_cons_zero, List.getElem?_cons_succ, List.length_cons, List.length_nil, List.set_cons_zero, List.set_cons_succ, Nat.reduceAdd, Nat.reduceDiv, Nat.reduceMod, Nat.reduceMul, Nat.reduceLT, Nat.reduceLeDiff, Int32.reduceOfInt, Int64.reduceOfInt, true_and, and_true, and_self, true_or, or_true, false_implies, true_implies, not_false_eq_true, not_true_eq_false, Value.category, Nat.reduceEqDiff, Option.toList, List.cons_append, List.nil_append, List.drop_succ_cons, List.drop_zero, ax_qq_eq, ax_t_1310, x0, hal]
  refine ax_inv_of (Nat.le_of_ble_eq_true rfl) (Nat.le_of_ble_eq_true rfl) (fun _ => xb_rcv X _) (fun h => absurd h (by decide)) (Nat.le_refl _) (Nat.le_refl _) (xk_open X c ?_)
  cases h1 : kx_op k (nI B.2.1) c
  · rw [if_neg (fun z => by rw [h1] at z; exact absurd z.1 (by decide))] at hQ
    simp only [ax_W_cons, ax_I, ax_cmp, ax_ii, ax_ll, ax_li, ax_st1, ax_st2, ax_kl, ax_k2, ax_fit, ax_rtok, List.getElem?_cons_zero, List.getElem?_cons_succ, List.length_cons, List.length_nil, List.set_cons_zero, List.set_cons_succ, Nat.reduceAdd, Nat.reduceDiv, Nat.reduceMod, Nat.reduceMul, Nat.reduceLT, Nat.reduceLeDiff, Int32.reduceOfInt, Int64.reduceOfInt, true_and, and_true, and_self, true_or, or_true, false_implies, true_implies, not_false_eq_true, not_true_eq_false, Value.category, Nat.reduceEqDiff, Option.toList, List.cons_append, List.nil_append, List.drop_succ_cons, List.drop_zero, ax_qq_eq, ax_t_1310, ax_j_1310_34, ax_n_1310_34, ax_j_1310_35, ax_n_1310_35, kx_bf]
    exact hQ es X (xfd_rf es)
  simp only [ax_W_cons, ax_I, ax_cmp, ax_ii, ax_ll, ax_li, ax_st1, ax_st2, ax_kl, ax_k2, ax_fit, ax_rtok, List.getElem?_cons_zero, List.getElem?_cons_succ, List.length_cons, List.length_nil, List.set_cons_zero, List.set_cons_succ, Nat.reduceAdd, Nat.reduceDiv, Nat.reduceMod, Nat.reduceMul, Nat.reduceLT, Nat.reduceLeDiff, Int32.reduceOfInt, Int64.reduceOfInt, true_and, and_true, and_self, true_or, or_true, false_implies, true_implies, not_false_eq_true, not_true_eq_false, Value.category, Nat.reduceEqDiff, Option.toList, List.cons_append, List.nil_append, List.drop_succ_cons, List.drop_zero, ax_qq_eq, ax_t_1310, kx_bt, c10, x0, hal]
  refine ax_inv_of (Nat.le_of_ble_eq_true rfl) (Nat.le_of_ble_eq_true rfl) (fun _ => xb_rcv X _) (fun h => absurd h (by decide)) (Nat.le_refl _) (Nat.le_refl _) (xk_open X o ?_)
  cases h2 : kx_op k (nI B.2.1) o
  · rw [if_neg (fun z => by rw [h2] at z; exact absurd z.2 (by decide))] at hQ
    simp only [ax_W_cons, ax_I, ax_cmp, ax_ii, ax_ll, ax_li, ax_st1, ax_st2, ax_kl, ax_k2, ax_fit, ax_rtok, List.getElem?_cons_zero, List.getElem?_cons_succ, List.length_cons, List.length_nil, List.set_cons_zero, List.set_cons_succ, Nat.reduceAdd, Nat.reduceDiv, Nat.reduceMod, Nat.reduceMul, Nat.reduceLT, Nat.reduceLeDiff, Int32.reduceOfInt, Int64.reduceOfInt, true_and, and_true, and_self, true_or, or_true, false_implies, true_implies, not_false_eq_true, not_true_eq_false, Value.category, Nat.reduceEqDiff, Option.toList, List.cons_append, List.nil_append, List.drop_succ_cons, List.drop_zero, ax_qq_eq, ax_t_1310, ax_j_1310_34, ax_n_1310_34, ax_j_1310_35, ax_n_1310_35, kx_bf]
    exact hQ es X (xfd_rf es)
  rw [if_pos ⟨h1, h2⟩] at hQ
  obtain ⟨c', hc', rfl, bc'⟩ := kx_op_nI hk.2 h1
  obtain ⟨o', ho', rfl, bo'⟩ := kx_op_nI hk.2 h2
  rw [nI_clamp (by omega)] at hQ
  simp only [ax_W_cons, ax_I, ax_cmp, ax_ii, ax_ll, ax_li, ax_st1, ax_st2, ax_kl, ax_k2, ax_fit, ax_rtok, List.getElem?_cons_zero, List.getElem?_cons_succ, List.length_cons, List.length_nil, List.set_cons_zero, List.set_cons_succ, Nat.reduceAdd, Nat.reduceDiv, Nat.reduceMod, Nat.reduceMul, Nat.reduceLT, Nat.reduceLeDiff, Int32.reduceOfInt, Int64.reduceOfInt, true_and, and_true, and_self, true_or, or_true, false_implies, true_implies, not_false_eq_true, not_true_eq_false, Value.category, Nat.reduceEqDiff, Option.toList, List.cons_append, List.nil_append, List.drop_succ_cons, List.drop_zero, ax_qq_eq, ax_t_1310, kx_bt, c10, x0, hal]
  refine ax_inv_of (Nat.le_of_ble_eq_true rfl) (Nat.le_of_ble_eq_true rfl) (fun _ => xs_rcv X _) (fun h => absurd h (by decide)) (Nat.le_refl _) (Nat.le_refl _) (ck_firstReach hS hW (c := c') (o := o') (by omega) (by omega) ?_)
  intro es2 m1 m2
  simp only [ax_W_cons, ax_I, ax_cmp, ax_ii, ax_ll, ax_li, ax_st1, ax_st2, ax_kl, ax_k2, ax_fit, ax_rtok, List.getElem?_cons_zero, List.getElem?_cons_succ, List.length_cons, List.length_nil, List.set_cons_zero, List.set_cons_succ, Nat.reduceAdd, Nat.reduceDiv, Nat.reduceMod, Nat.reduceMul, Nat.reduceLT, Nat.reduceLeDiff, Int32.reduceOfInt, Int64.reduceOfInt, true_and, and_true, and_self, true_or, or_true, false_implies, true_implies, not_false_eq_true, not_true_eq_false, Value.category, Nat.reduceEqDiff, Option.toList, List.cons_append, List.nil_append, List.drop_succ_cons, List.drop_zero, ax_qq_eq, ax_t_1310, ax_j_1310_35, ax_n_1310_35]
  exact hQ es2 (xD_sg X m1 (ksf_ksg m2)) (xfd_sg (ksf_ksg m2))
theorem xp_arc (X : xD es n k p hc kd pl0 ht hs F1 F2 B Fe un U mk M L la lb lc) (hB : zB_ok k p N B) (hN : N < 1000) (c m : Int32) (hQ : ∀ es', xD es' n k p hc kd pl0 ht hs F1 F2 B Fe un U mk M L la lb lc → xfd es es' → Q (some (.int (zq_arc k B.2.2.1 c m))) es') : ax_Mt (d + 10) 1311 [.ref 0, .int c, .int m] n sl es Q := by
  obtain ⟨x0, hal, hk, hp, hhs, hC, hb, hS, hfe, hG, hP⟩ := id X
  have hW := xD_W X hB hN
  have hB1 := hB.2.1
  have c10 : ¬ (1 : Int32) = 0 := by decide
  unfold zXo at x0
  have hb0 := hb.2.1
  unfold zq_arc at hQ
  refine ax_Mt_go (m := ax_m_10_31) (ls := [some (.ref 0), some (.int c), some (.int m)]) rfl ax_b_1311_0 (Nat.le_of_ble_eq_true rfl) rfl ?_
  simp only [ax_W_cons, ax_I, ax_cmp, ax_ii, ax_ll, ax_li, ax_st1, ax_st2, ax_kl, ax_k2, ax_fit, ax_rtok, List.getElem?_cons_zero, List.getElem?_cons_succ, List.length_cons, List.length_nil, List.set_cons_zero, List.set_cons_succ, Nat.reduceAdd, Nat.reduceDiv, Nat.reduceMod, Nat.reduceMul, Nat.reduceLT, Nat.reduceLeDiff, Int32.reduceOfInt, Int64.reduceOfInt, true_and, and_true, and_self, true_or, or_true, false_implies, true_implies, not_false_eq_true, not_true_eq_false, Value.category, Nat.reduceEqDiff, Option.toList, List.cons_append, List.nil_append, List.drop_succ_cons, List.drop_zero, ax_qq_eq, ax_t_1311, x0, hal]
  refine ax_inv_of (Nat.le_of_ble_eq_true rfl) (Nat.le_of_ble_eq_true rfl) (fun _ => xb_rcv X _) (fun h => absurd h (by decide)) (Nat.le_refl _) (Nat.le_refl _) (xk_cell X c ?_)
  cases h1 : kx_cell k c
  · rw [if_neg (fun z => by rw [h1] at z; exact absurd z.1 (by decide))] at hQ
    simp only [ax_W_cons, ax_I, ax_cmp, ax_ii, ax_ll, ax_li, ax_st1, ax_st2, ax_kl, ax_k2, ax_fit, ax_rtok, List.getElem?_cons_zero, List.getElem?_cons_succ, List.length_cons, List.length_nil, List.set_cons_zero, List.set_cons_succ, Nat.reduceAdd, Nat.reduceDiv, Nat.reduceMod, Nat.reduceMul, Nat.reduceLT, Nat.reduceLeDiff, Int32.reduceOfInt, Int64.reduceOfInt, true_and, and_true, and_self, true_or, or_true, false_implies, true_implies, not_false_eq_true, not_true_eq_false, Value.category, Nat.reduceEqDiff, Option.toList, List.cons_append, List.nil_append, List.drop_succ_cons, List.drop_zero, ax_qq_eq, ax_t_1311, ax_j_1311_26, ax_n_1311_26, kx_bf]
    exact hQ es X (xfd_rf es)
  simp only [ax_W_cons, ax_I, ax_cmp, ax_ii, ax_ll, ax_li, ax_st1, ax_st2, ax_kl, ax_k2, ax_fit, ax_rtok, List.getElem?_cons_zero, List.getElem?_cons_succ, List.length_cons, List.length_nil, List.set_cons_zero, List.set_cons_succ, Nat.reduceAdd, Nat.reduceDiv, Nat.reduceMod, Nat.reduceMul, Nat.reduceLT, Nat.reduceLeDiff, Int32.reduceOfInt, Int64.reduceOfInt, true_and, and_true, and_self, true_or, or_true, false_implies, true_implies, not_false_eq_true, not_true_eq_false, Value.category, Nat.reduceEqDiff, Option.toList, List.cons_append, List.nil_append, List.drop_succ_cons, List.drop_zero, ax_qq_eq, ax_t_1311, kx_bt, c10, x0, hal, hb0, kb_o]
  refine ax_inv_of (Nat.le_of_ble_eq_true rfl) (Nat.le_of_ble_eq_true rfl) (fun _ => absurd ‹_› (by decide)) (fun h => absurd h (by decide)) (Nat.le_refl _) (Nat.le_refl _) (xk_within _ _ _ ?_)
  cases h2 : kx_in m 1 (nI k)
  · rw [if_neg (fun z => by rw [h2] at z; exact absurd z.2 (by decide))] at hQ
    simp only [ax_W_cons, ax_I, ax_cmp, ax_ii, ax_ll, ax_li, ax_st1, ax_st2, ax_kl, ax_k2, ax_fit, ax_rtok, List.getElem?_cons_zero, List.getElem?_cons_succ, List.length_cons, List.length_nil, List.set_cons_zero, List.set_cons_succ, Nat.reduceAdd, Nat.reduceDiv, Nat.reduceMod, Nat.reduceMul, Nat.reduceLT, Nat.reduceLeDiff, Int32.reduceOfInt, Int64.reduceOfInt, true_and, and_true, and_self, true_or, or_true, false_implies, true_implies, not_false_eq_true, not_true_eq_false, Value.category, Nat.reduceEqDiff, Option.toList, List.cons_append, List.nil_append, List.drop_succ_cons, List.drop_zero, ax_qq_eq, ax_t_1311, ax_j_1311_26, ax_n_1311_26, kx_bf]
    exact hQ es X (xfd_rf es)
  rw [if_pos ⟨h1, h2⟩] at hQ
  obtain ⟨c', hc', rfl⟩ := kx_cell_in (by omega) h1
  obtain ⟨m', lm', hm', rfl⟩ := kx_in_nI (a := 1) (b := k) (by decide) (by omega) h2
  rw [nI_clamp (n := m') (by omega)] at hQ
  simp only [ax_W_cons, ax_I, ax_cmp, ax_ii, ax_ll, ax_li, ax_st1, ax_st2, ax_kl, ax_k2, ax_fit, ax_rtok, List.getElem?_cons_zero, List.getElem?_cons_succ, List.length_cons, List.length_nil, List.set_cons_zero, List.set_cons_succ, Nat.reduceAdd, Nat.reduceDiv, Nat.reduceMod, Nat.reduceMul, Nat.reduceLT, Nat.reduceLeDiff, Int32.reduceOfInt, Int64.reduceOfInt, true_and, and_true, and_self, true_or, or_true, false_implies, true_implies, not_false_eq_true, not_true_eq_false, Value.category, Nat.reduceEqDiff, Option.toList, List.cons_append, List.nil_append, List.drop_succ_cons, List.drop_zero, ax_qq_eq, ax_t_1311, ax_j_1311_28, ax_n_1311_28, kx_bt, c10, x0, hal, hb0, kb_o]
  refine ax_inv_of (Nat.le_of_ble_eq_true rfl) (Nat.le_of_ble_eq_true rfl) (fun _ => xb_rcv X _) (fun h => absurd h (by decide)) (Nat.le_refl _) (Nat.le_refl _) (ax_Mt_mono (ck_sumFrom (by omega) hk.2 (by omega) hb c' m' hc' (by omega)) ?_)
  rintro r es2 ⟨rfl, rfl⟩
  simp only [ax_W_cons, ax_I, ax_cmp, ax_ii, ax_ll, ax_li, ax_st1, ax_st2, ax_kl, ax_k2, ax_fit, ax_rtok, List.getElem?_cons_zero, List.getElem?_cons_succ, List.length_cons, List.length_nil, List.set_cons_zero, List.set_cons_succ, Nat.reduceAdd, Nat.reduceDiv, Nat.reduceMod, Nat.reduceMul, Nat.reduceLT, Nat.reduceLeDiff, Int32.reduceOfInt, Int64.reduceOfInt, true_and, and_true, and_self, true_or, or_true, false_implies, true_implies, not_false_eq_true, not_true_eq_false, Value.category, Nat.reduceEqDiff, Option.toList, List.cons_append, List.nil_append, List.drop_succ_cons, List.drop_zero, ax_qq_eq, ax_t_1311, kx_b01]
  exact hQ _ X (xfd_rf _)
theorem xp_calmest (X : xD es n k p hc kd pl0 ht hs F1 F2 B Fe un U mk M L la lb lc) (hB : zB_ok k p N B) (hN : N < 1000) (m : Int32) (hQ : ∀ es', xD es' n k p hc kd pl0 ht hs F1 F2 B Fe un U mk M L la lb lc → xfd es es' → Q (some (.int (zq_calmest F1 k (nI B.2.1) hs hc B.1 B.2.2.1 m))) es') : ax_Mt (d + 10) 1312 [.ref 0, .int m] n sl es Q := by
  obtain ⟨x0, hal, hk, hp, hhs, hC, hb, hS, hfe, hG, hP⟩ := id X
  have hW := xD_W X hB hN
  have hB1 := hB.2.1
  have c10 : ¬ (1 : Int32) = 0 := by decide
  unfold zXo at x0
  unfold zq_calmest at hQ
  refine ax_Mt_go (m := ax_m_10_32) (ls := [some (.ref 0), some (.int m)]) rfl ax_b_1312_0 (Nat.le_of_ble_eq_true rfl) rfl ?_
  simp only [ax_W_cons, ax_I, ax_cmp, ax_ii, ax_ll, ax_li, ax_st1, ax_st2, ax_kl, ax_k2, ax_fit, ax_rtok, List.getElem?_cons_zero, List.getElem?_cons_succ, List.length_cons, List.length_nil, List.set_cons_zero, List.set_cons_succ, Nat.reduceAdd, Nat.reduceDiv, Nat.reduceMod, Nat.reduceMul, Nat.reduceLT, Nat.reduceLeDiff, Int32.reduceOfInt, Int64.reduceOfInt, true_and, and_true, and_self, true_or, or_true, false_implies, true_implies, not_false_eq_true, not_true_eq_false, Value.category, Nat.reduceEqDiff, Option.toList, List.cons_append, List.nil_append, List.drop_succ_cons, List.drop_zero, ax_qq_eq, ax_t_1312, x0, hal]
  refine ax_inv_of (Nat.le_of_ble_eq_true rfl) (Nat.le_of_ble_eq_true rfl) (fun _ => absurd ‹_› (by decide)) (fun h => absurd h (by decide)) (Nat.le_refl _) (Nat.le_refl _) (xk_within _ _ _ ?_)
  cases h1 : kx_in m 0 60
  · rw [if_neg (fun z => by rw [h1] at z; exact absurd z (by decide))] at hQ
    simp only [ax_W_cons, ax_I, ax_cmp, ax_ii, ax_ll, ax_li, ax_st1, ax_st2, ax_kl, ax_k2, ax_fit, ax_rtok, List.getElem?_cons_zero, List.getElem?_cons_succ, List.length_cons, List.length_nil, List.set_cons_zero, List.set_cons_succ, Nat.reduceAdd, Nat.reduceDiv, Nat.reduceMod, Nat.reduceMul, Nat.reduceLT, Nat.reduceLeDiff, Int32.reduceOfInt, Int64.reduceOfInt, true_and, and_true, and_self, true_or, or_true, false_implies, true_implies, not_false_eq_true, not_true_eq_false, Value.category, Nat.reduceEqDiff, Option.toList, List.cons_append, List.nil_append, List.drop_succ_cons, List.drop_zero, ax_qq_eq, ax_t_1312, ax_j_1312_21, ax_n_1312_21, ax_j_1312_22, ax_n_1312_22, kx_bf]
    exact hQ es X (xfd_rf es)
  rw [if_pos h1] at hQ
  obtain ⟨m', lm', hm', rfl⟩ := kx_in_nI (a := 0) (b := 60) (by decide) (by decide) h1
  rw [nI_clamp (by omega)] at hQ
  simp only [ax_W_cons, ax_I, ax_cmp, ax_ii, ax_ll, ax_li, ax_st1, ax_st2, ax_kl, ax_k2, ax_fit, ax_rtok, List.getElem?_cons_zero, List.getElem?_cons_succ, List.length_cons, List.length_nil, List.set_cons_zero, List.set_cons_succ, Nat.reduceAdd, Nat.reduceDiv, Nat.reduceMod, Nat.reduceMul, Nat.reduceLT, Nat.reduceLeDiff, Int32.reduceOfInt, Int64.reduceOfInt, true_and, and_true, and_self, true_or, or_true, false_implies, true_implies, not_false_eq_true, not_true_eq_false, Value.category, Nat.reduceEqDiff, Option.toList, List.cons_append, List.nil_append, List.drop_succ_cons, List.drop_zero, ax_qq_eq, ax_t_1312, kx_bt, c10, x0, hal]
  refine ax_inv_of (Nat.le_of_ble_eq_true rfl) (Nat.le_of_ble_eq_true rfl) (fun _ => xs_rcv X _) (fun h => absurd h (by decide)) (Nat.le_refl _) (Nat.le_refl _) (ax_Mt_mono (ck_calmestCell (by omega) hS hW (m := m') (by omega)) ?_)
  rintro r es2 ⟨rfl, m1, m2⟩
  simp only [ax_W_cons, ax_I, ax_cmp, ax_ii, ax_ll, ax_li, ax_st1, ax_st2, ax_kl, ax_k2, ax_fit, ax_rtok, List.getElem?_cons_zero, List.getElem?_cons_succ, List.length_cons, List.length_nil, List.set_cons_zero, List.set_cons_succ, Nat.reduceAdd, Nat.reduceDiv, Nat.reduceMod, Nat.reduceMul, Nat.reduceLT, Nat.reduceLeDiff, Int32.reduceOfInt, Int64.reduceOfInt, true_and, and_true, and_self, true_or, or_true, false_implies, true_implies, not_false_eq_true, not_true_eq_false, Value.category, Nat.reduceEqDiff, Option.toList, List.cons_append, List.nil_append, List.drop_succ_cons, List.drop_zero, ax_qq_eq, ax_t_1312, ax_j_1312_22, ax_n_1312_22]
  exact hQ es2 (xD_sg X m1 (ksf_ksg m2)) (xfd_sg (ksf_ksg m2))
theorem xp_lazy (X : xD es n k p hc kd pl0 ht hs F1 F2 B Fe un U mk M L la lb lc) (hB : zB_ok k p N B) (hN : N < 1000) (hQ : ∀ es', xD es' n k p hc kd pl0 ht hs F1 F2 B Fe un U mk M L la lb lc → xfd es es' → Q (some (.int (kx_idle (kx_pdn (kx_dd F1 F2 k kd ht (nI B.2.1) hs hc B.1 B.2.2.1 B.2.2.2.1) p B.2.2.2.2 1) B.2.2.2.2 p))) es') : ax_Mt (d + 10) 1313 [.ref 0] n sl es Q := by
  obtain ⟨x0, hal, hk, hp, hhs, hC, hb, hS, hfe, hG, hP⟩ := id X
  have hW := xD_W X hB hN
  have hB1 := hB.2.1
  have c10 : ¬ (1 : Int32) = 0 := by decide
  unfold zXo at x0
  refine ax_Mt_go (m := ax_m_10_33) (ls := [some (.ref 0)]) rfl ax_b_1313_0 (Nat.le_of_ble_eq_true rfl) rfl ?_
  simp only [ax_W_cons, ax_I, ax_cmp, ax_ii, ax_ll, ax_li, ax_st1, ax_st2, ax_kl, ax_k2, ax_fit, ax_rtok, List.getElem?_cons_zero, List.getElem?_cons_succ, List.length_cons, List.length_nil, List.set_cons_zero, List.set_cons_succ, Nat.reduceAdd, Nat.reduceDiv, Nat.reduceMod, Nat.reduceMul, Nat.reduceLT, Nat.reduceLeDiff, Int32.reduceOfInt, Int64.reduceOfInt, true_and, and_true, and_self, true_or, or_true, false_implies, true_implies, not_false_eq_true, not_true_eq_false, Value.category, Nat.reduceEqDiff, Option.toList, List.cons_append, List.nil_append, List.drop_succ_cons, List.drop_zero, ax_qq_eq, ax_t_1313, x0, hal]
  refine ax_inv_of (Nat.le_of_ble_eq_true rfl) (Nat.le_of_ble_eq_true rfl) (fun _ => xs_rcv X _) (fun h => absurd h (by decide)) (Nat.le_refl _) (Nat.le_refl _) (ax_Mt_mono (ck_idleBits (by omega) hS hW) ?_)
  rintro r es2 ⟨rfl, m1, m2⟩
  simp only [ax_W_cons, ax_I, ax_cmp, ax_ii, ax_ll, ax_li, ax_st1, ax_st2, ax_kl, ax_k2, ax_fit, ax_rtok, List.getElem?_cons_zero, List.getElem?_cons_succ, List.length_cons, List.length_nil, List.set_cons_zero, List.set_cons_succ, Nat.reduceAdd, Nat.reduceDiv, Nat.reduceMod, Nat.reduceMul, Nat.reduceLT, Nat.reduceLeDiff, Int32.reduceOfInt, Int64.reduceOfInt, true_and, and_true, and_self, true_or, or_true, false_implies, true_implies, not_false_eq_true, not_true_eq_false, Value.category, Nat.reduceEqDiff, Option.toList, List.cons_append, List.nil_append, List.drop_succ_cons, List.drop_zero, ax_qq_eq, ax_t_1313]
  exact hQ es2 (xD_sg X m1 (ksf_ksg m2)) (xfd_sg (ksf_ksg m2))
theorem xp_post (X : xD es n k p hc kd pl0 ht hs F1 F2 B Fe un U mk M L la lb lc) (hB : zB_ok k p N B) (hN : N < 1000) (c : Int32) (hQ : ∀ es', xD es' n k p hc kd pl0 ht hs F1 F2 B Fe un U mk M L la lb lc → xfd es es' → Q (some (.int (zq_post F1 F2 k p kd ht (nI B.2.1) hs hc B.1 B.2.2.1 B.2.2.2.1 B.2.2.2.2 c))) es') : ax_Mt (d + 10) 1314 [.ref 0, .int c] n sl es Q := by
  obtain ⟨x0, hal, hk, hp, hhs, hC, hb, hS, hfe, hG, hP⟩ := id X
  have hW := xD_W X hB hN
  have hB1 := hB.2.1
  have c10 : ¬ (1 : Int32) = 0 := by decide
  unfold zXo at x0
  unfold zq_post at hQ
  refine ax_Mt_go (m := ax_m_10_34) (ls := [some (.ref 0), some (.int c)]) rfl ax_b_1314_0 (Nat.le_of_ble_eq_true rfl) rfl ?_
  simp only [ax_W_cons, ax_I, ax_cmp, ax_ii, ax_ll, ax_li, ax_st1, ax_st2, ax_kl, ax_k2, ax_fit, ax_rtok, List.getElem?_cons_zero, List.getElem?_cons_succ, List.length_cons, List.length_nil, List.set_cons_zero, List.set_cons_succ, Nat.reduceAdd, Nat.reduceDiv, Nat.reduceMod, Nat.reduceMul, Nat.reduceLT, Nat.reduceLeDiff, Int32.reduceOfInt, Int64.reduceOfInt, true_and, and_true, and_self, true_or, or_true, false_implies, true_implies, not_false_eq_true, not_true_eq_false, Value.category, Nat.reduceEqDiff, Option.toList, List.cons_append, List.nil_append, List.drop_succ_cons, List.drop_zero, ax_qq_eq, ax_t_1314, x0, hal]
  refine ax_inv_of (Nat.le_of_ble_eq_true rfl) (Nat.le_of_ble_eq_true rfl) (fun _ => xb_rcv X _) (fun h => absurd h (by decide)) (Nat.le_refl _) (Nat.le_refl _) (xk_court X c ?_)
  cases h1 : kx_cell p c
  · rw [if_neg (fun z => by rw [h1] at z; exact absurd z (by decide))] at hQ
    simp only [ax_W_cons, ax_I, ax_cmp, ax_ii, ax_ll, ax_li, ax_st1, ax_st2, ax_kl, ax_k2, ax_fit, ax_rtok, List.getElem?_cons_zero, List.getElem?_cons_succ, List.length_cons, List.length_nil, List.set_cons_zero, List.set_cons_succ, Nat.reduceAdd, Nat.reduceDiv, Nat.reduceMod, Nat.reduceMul, Nat.reduceLT, Nat.reduceLeDiff, Int32.reduceOfInt, Int64.reduceOfInt, true_and, and_true, and_self, true_or, or_true, false_implies, true_implies, not_false_eq_true, not_true_eq_false, Value.category, Nat.reduceEqDiff, Option.toList, List.cons_append, List.nil_append, List.drop_succ_cons, List.drop_zero, ax_qq_eq, ax_t_1314, ax_j_1314_22, ax_n_1314_22, ax_j_1314_23, ax_n_1314_23, kx_bf]
    exact hQ es X (xfd_rf es)
  rw [if_pos h1] at hQ
  obtain ⟨c', hc', rfl⟩ := kx_cell_in (by omega) h1
  rw [nI_clamp (by omega)] at hQ
  simp only [ax_W_cons, ax_I, ax_cmp, ax_ii, ax_ll, ax_li, ax_st1, ax_st2, ax_kl, ax_k2, ax_fit, ax_rtok, List.getElem?_cons_zero, List.getElem?_cons_succ, List.length_cons, List.length_nil, List.set_cons_zero, List.set_cons_succ, Nat.reduceAdd, Nat.reduceDiv, Nat.reduceMod, Nat.reduceMul, Nat.reduceLT, Nat.reduceLeDiff, Int32.reduceOfInt, Int64.reduceOfInt, true_and, and_true, and_self, true_or, or_true, false_implies, true_implies, not_false_eq_true, not_true_eq_false, Value.category, Nat.reduceEqDiff, Option.toList, List.cons_append, List.nil_append, List.drop_succ_cons, List.drop_zero, ax_qq_eq, ax_t_1314, kx_bt, c10, x0, hal]
  refine ax_inv_of (Nat.le_of_ble_eq_true rfl) (Nat.le_of_ble_eq_true rfl) (fun _ => xs_rcv X _) (fun h => absurd h (by decide)) (Nat.le_refl _) (Nat.le_refl _) (ax_Mt_mono (ck_bestPlace (by omega) hS hW (i := c') (by omega)) ?_)
  rintro r es2 ⟨rfl, m1, m2⟩
  simp only [ax_W_cons, ax_I, ax_cmp, ax_ii, ax_ll, ax_li, ax_st1, ax_st2, ax_kl, ax_k2, ax_fit, ax_rtok, List.getElem?_cons_zero, List.getElem?_cons_succ, List.length_cons, List.length_nil, List.set_cons_zero, List.set_cons_succ, Nat.reduceAdd, Nat.reduceDiv, Nat.reduceMod, Nat.reduceMul, Nat.reduceLT, Nat.reduceLeDiff, Int32.reduceOfInt, Int64.reduceOfInt, true_and, and_true, and_self, true_or, or_true, false_implies, true_implies, not_false_eq_true, not_true_eq_false, Value.category, Nat.reduceEqDiff, Option.toList, List.cons_append, List.nil_append, List.drop_succ_cons, List.drop_zero, ax_qq_eq, ax_t_1314, ax_j_1314_23, ax_n_1314_23]
  exact hQ es2 (xD_sg X m1 (ksf_ksg m2)) (xfd_sg (ksf_ksg m2))
theorem xp_hush (X : xD es n k p hc kd pl0 ht hs F1 F2 B Fe un U mk M L la lb lc) (hB : zB_ok k p N B) (hN : N < 1000) (hQ : ∀ es', xD es' n k p hc kd pl0 ht hs F1 F2 B Fe un U mk M L la lb lc → xfd es es' → Q (some (.int (kx_hush B.2.2.1 k))) es') : ax_Mt (d + 10) 1315 [.ref 0] n sl es Q := by
  obtain ⟨x0, hal, hk, hp, hhs, hC, hb, hS, hfe, hG, hP⟩ := id X
  have hW := xD_W X hB hN
  have hB1 := hB.2.1
  have c10 : ¬ (1 : Int32) = 0 := by decide
  unfold zXo at x0
  refine ax_Mt_go (m := ax_m_10_35) (ls := [some (.ref 0)]) rfl ax_b_1315_0 (Nat.le_of_ble_eq_true rfl) rfl ?_
  simp only [ax_W_cons, ax_I, ax_cmp, ax_ii, ax_ll, ax_li, ax_st1, ax_st2, ax_kl, ax_k2, ax_fit, ax_rtok, List.getElem?_cons_zero, List.getElem?_cons_succ, List.length_cons, List.length_nil, List.set_cons_zero, List.set_cons_succ, Nat.reduceAdd, Nat.reduceDiv, Nat.reduceMod, Nat.reduceMul, Nat.reduceLT, Nat.reduceLeDiff, Int32.reduceOfInt, Int64.reduceOfInt, true_and, and_true, and_self, true_or, or_true, false_implies, true_implies, not_false_eq_true, not_true_eq_false, Value.category, Nat.reduceEqDiff, Option.toList, List.cons_append, List.nil_append, List.drop_succ_cons, List.drop_zero, ax_qq_eq, ax_t_1315, x0, hal]
  refine ax_inv_of (Nat.le_of_ble_eq_true rfl) (Nat.le_of_ble_eq_true rfl) (fun _ => xb_rcv X _) (fun h => absurd h (by decide)) (Nat.le_refl _) (Nat.le_refl _) (ax_Mt_mono (ck_breathsToStill hk.2 hb) ?_)
  rintro r es2 ⟨rfl, rfl⟩
  simp only [ax_W_cons, ax_I, ax_cmp, ax_ii, ax_ll, ax_li, ax_st1, ax_st2, ax_kl, ax_k2, ax_fit, ax_rtok, List.getElem?_cons_zero, List.getElem?_cons_succ, List.length_cons, List.length_nil, List.set_cons_zero, List.set_cons_succ, Nat.reduceAdd, Nat.reduceDiv, Nat.reduceMod, Nat.reduceMul, Nat.reduceLT, Nat.reduceLeDiff, Int32.reduceOfInt, Int64.reduceOfInt, true_and, and_true, and_self, true_or, or_true, false_implies, true_implies, not_false_eq_true, not_true_eq_false, Value.category, Nat.reduceEqDiff, Option.toList, List.cons_append, List.nil_append, List.drop_succ_cons, List.drop_zero, ax_qq_eq, ax_t_1315, kx_b01]
  exact hQ _ X (xfd_rf _)
theorem xp_rises (X : xD es n k p hc kd pl0 ht hs F1 F2 B Fe un U mk M L la lb lc) (hB : zB_ok k p N B) (hN : N < 1000) (c : Int32) (hQ : ∀ es', xD es' n k p hc kd pl0 ht hs F1 F2 B Fe un U mk M L la lb lc → xfd es es' → Q (some (.int (zq_rises F1 k (nI B.2.1) hs hc B.1 B.2.2.1 c))) es') : ax_Mt (d + 10) 1316 [.ref 0, .int c] n sl es Q := by
  obtain ⟨x0, hal, hk, hp, hhs, hC, hb, hS, hfe, hG, hP⟩ := id X
  have hW := xD_W X hB hN
  have hB1 := hB.2.1
  have c10 : ¬ (1 : Int32) = 0 := by decide
  unfold zXo at x0
  unfold zq_rises at hQ
  refine ax_Mt_go (m := ax_m_10_36) (ls := [some (.ref 0), some (.int c)]) rfl ax_b_1316_0 (Nat.le_of_ble_eq_true rfl) rfl ?_
  simp only [ax_W_cons, ax_I, ax_cmp, ax_ii, ax_ll, ax_li, ax_st1, ax_st2, ax_kl, ax_k2, ax_fit, ax_rtok, List.getElem?_cons_zero, List.getElem?_cons_succ, List.length_cons, List.length_nil, List.set_cons_zero, List.set_cons_succ, Nat.reduceAdd, Nat.reduceDiv, Nat.reduceMod, Nat.reduceMul, Nat.reduceLT, Nat.reduceLeDiff, Int32.reduceOfInt, Int64.reduceOfInt, true_and, and_true, and_self, true_or, or_true, false_implies, true_implies, not_false_eq_true, not_true_eq_false, Value.category, Nat.reduceEqDiff, Option.toList, List.cons_append, List.nil_append, List.drop_succ_cons, List.drop_zero, ax_qq_eq, ax_t_1316, x0, hal]
  refine ax_inv_of (Nat.le_of_ble_eq_true rfl) (Nat.le_of_ble_eq_true rfl) (fun _ => xb_rcv X _) (fun h => absurd h (by decide)) (Nat.le_refl _) (Nat.le_refl _) (xk_open X c ?_)
  cases h1 : kx_op k (nI B.2.1) c
  · rw [if_neg (fun z => by rw [h1] at z; exact absurd z (by decide))] at hQ
    simp only [ax_W_cons, ax_I, ax_cmp, ax_ii, ax_ll, ax_li, ax_st1, ax_st2, ax_kl, ax_k2, ax_fit, ax_rtok, List.getElem?_cons_zero, List.getElem?_cons_succ, List.length_cons, List.length_nil, List.set_cons_zero, List.set_cons_succ, Nat.reduceAdd, Nat.reduceDiv, Nat.reduceMod, Nat.reduceMul, Nat.reduceLT, Nat.reduceLeDiff, Int32.reduceOfInt, Int64.reduceOfInt, true_and, and_true, and_self, true_or, or_true, false_implies, true_implies, not_false_eq_true, not_true_eq_false, Value.category, Nat.reduceEqDiff, Option.toList, List.cons_append, List.nil_append, List.drop_succ_cons, List.drop_zero, ax_qq_eq, ax_t_1316, ax_j_1316_22, ax_n_1316_22, ax_j_1316_23, ax_n_1316_23, kx_bf]
    exact hQ es X (xfd_rf es)
  rw [if_pos h1] at hQ
  obtain ⟨c', hc', rfl, bc'⟩ := kx_op_nI hk.2 h1
  rw [nI_clamp (by omega)] at hQ
  simp only [ax_W_cons, ax_I, ax_cmp, ax_ii, ax_ll, ax_li, ax_st1, ax_st2, ax_kl, ax_k2, ax_fit, ax_rtok, List.getElem?_cons_zero, List.getElem?_cons_succ, List.length_cons, List.length_nil, List.set_cons_zero, List.set_cons_succ, Nat.reduceAdd, Nat.reduceDiv, Nat.reduceMod, Nat.reduceMul, Nat.reduceLT, Nat.reduceLeDiff, Int32.reduceOfInt, Int64.reduceOfInt, true_and, and_true, and_self, true_or, or_true, false_implies, true_implies, not_false_eq_true, not_true_eq_false, Value.category, Nat.reduceEqDiff, Option.toList, List.cons_append, List.nil_append, List.drop_succ_cons, List.drop_zero, ax_qq_eq, ax_t_1316, kx_bt, c10, x0, hal]
  refine ax_inv_of (Nat.le_of_ble_eq_true rfl) (Nat.le_of_ble_eq_true rfl) (fun _ => xs_rcv X _) (fun h => absurd h (by decide)) (Nat.le_refl _) (Nat.le_refl _) (ax_Mt_mono (ck_risesOf (by omega) hS hW (c := c') (by omega)) ?_)
  rintro r es2 ⟨rfl, m1, m2⟩
  simp only [ax_W_cons, ax_I, ax_cmp, ax_ii, ax_ll, ax_li, ax_st1, ax_st2, ax_kl, ax_k2, ax_fit, ax_rtok, List.getElem?_cons_zero, List.getElem?_cons_succ, List.length_cons, List.length_nil, List.set_cons_zero, List.set_cons_succ, Nat.reduceAdd, Nat.reduceDiv, Nat.reduceMod, Nat.reduceMul, Nat.reduceLT, Nat.reduceLeDiff, Int32.reduceOfInt, Int64.reduceOfInt, true_and, and_true, and_self, true_or, or_true, false_implies, true_implies, not_false_eq_true, not_true_eq_false, Value.category, Nat.reduceEqDiff, Option.toList, List.cons_append, List.nil_append, List.drop_succ_cons, List.drop_zero, ax_qq_eq, ax_t_1316, ax_j_1316_23, ax_n_1316_23]
  exact hQ es2 (xD_sg X m1 (ksf_ksg m2)) (xfd_sg (ksf_ksg m2))
theorem xp_chance (X : xD es n k p hc kd pl0 ht hs F1 F2 B Fe un U mk M L la lb lc) (hB : zB_ok k p N B) (hN : N < 1000) (c m o : Int32) (hQ : ∀ es', xD es' n k p hc kd pl0 ht hs F1 F2 B Fe un U mk M L la lb lc → xfd es es' → Q (some (.int (zq_chance F1 k (nI B.2.1) B.1 B.2.2.1 c m o))) es') : ax_Mt (d + 10) 1317 [.ref 0, .int c, .int m, .int o] n sl es Q := by
  obtain ⟨x0, hal, hk, hp, hhs, hC, hb, hS, hfe, hG, hP⟩ := id X
  have hW := xD_W X hB hN
  have hB1 := hB.2.1
  have c10 : ¬ (1 : Int32) = 0 := by decide
  unfold zXo at x0
  unfold zq_chance at hQ
  refine ax_Mt_go (m := ax_m_10_37) (ls := [some (.ref 0), some (.int c), some (.int m), some (.int o)]) rfl ax_b_1317_0 (Nat.le_of_ble_eq_true rfl) rfl ?_
  simp only [ax_W_cons, ax_I, ax_cmp, ax_ii, ax_ll, ax_li, ax_st1, ax_st2, ax_kl, ax_k2, ax_fit, ax_rtok, List.getElem?_cons_zero, List.getElem?_cons_succ, List.length_cons, List.length_nil, List.set_cons_zero, List.set_cons_succ, Nat.reduceAdd, Nat.reduceDiv, Nat.reduceMod, Nat.reduceMul, Nat.reduceLT, Nat.reduceLeDiff, Int32.reduceOfInt, Int64.reduceOfInt, true_and, and_true, and_self, true_or, or_true, false_implies, true_implies, not_false_eq_true, not_true_eq_false, Value.category, Nat.reduceEqDiff, Option.toList, List.cons_append, List.nil_append, List.drop_succ_cons, List.drop_zero, ax_qq_eq, ax_t_1317, x0, hal]
  refine ax_inv_of (Nat.le_of_ble_eq_true rfl) (Nat.le_of_ble_eq_true rfl) (fun _ => xb_rcv X _) (fun h => absurd h (by decide)) (Nat.le_refl _) (Nat.le_refl _) (xk_open X c ?_)
  cases h1 : kx_op k (nI B.2.1) c
  · rw [if_neg (fun z => by rw [h1] at z; exact absurd z.1 (by decide))] at hQ
    simp only [ax_W_cons, ax_I, ax_cmp, ax_ii, ax_ll, ax_li, ax_st1, ax_st2, ax_kl, ax_k2, ax_fit, ax_rtok, List.getElem?_cons_zero, List.getElem?_cons_succ, List.length_cons, List.length_nil, List.set_cons_zero, List.set_cons_succ, Nat.reduceAdd, Nat.reduceDiv, Nat.reduceMod, Nat.reduceMul, Nat.reduceLT, Nat.reduceLeDiff, Int32.reduceOfInt, Int64.reduceOfInt, true_and, and_true, and_self, true_or, or_true, false_implies, true_implies, not_false_eq_true, not_true_eq_false, Value.category, Nat.reduceEqDiff, Option.toList, List.cons_append, List.nil_append, List.drop_succ_cons, List.drop_zero, ax_qq_eq, ax_t_1317, ax_j_1317_31, ax_n_1317_31, kx_bf]
    exact hQ es X (xfd_rf es)
  simp only [ax_W_cons, ax_I, ax_cmp, ax_ii, ax_ll, ax_li, ax_st1, ax_st2, ax_kl, ax_k2, ax_fit, ax_rtok, List.getElem?_cons_zero, List.getElem?_cons_succ, List.length_cons, List.length_nil, List.set_cons_zero, List.set_cons_succ, Nat.reduceAdd, Nat.reduceDiv, Nat.reduceMod, Nat.reduceMul, Nat.reduceLT, Nat.reduceLeDiff, Int32.reduceOfInt, Int64.reduceOfInt, true_and, and_true, and_self, true_or, or_true, false_implies, true_implies, not_false_eq_true, not_true_eq_false, Value.category, Nat.reduceEqDiff, Option.toList, List.cons_append, List.nil_append, List.drop_succ_cons, List.drop_zero, ax_qq_eq, ax_t_1317, kx_bt, c10, x0, hal]
  refine ax_inv_of (Nat.le_of_ble_eq_true rfl) (Nat.le_of_ble_eq_true rfl) (fun _ => absurd ‹_› (by decide)) (fun h => absurd h (by decide)) (Nat.le_refl _) (Nat.le_refl _) (xk_within _ _ _ ?_)
  cases h2 : kx_in m 1 6
  · rw [if_neg (fun z => by rw [h2] at z; exact absurd z.2.1 (by decide))] at hQ
    simp only [ax_W_cons, ax_I, ax_cmp, ax_ii, ax_ll, ax_li, ax_st1, ax_st2, ax_kl, ax_k2, ax_fit, ax_rtok, List.getElem?_cons_zero, List.getElem?_cons_succ, List.length_cons, List.length_nil, List.set_cons_zero, List.set_cons_succ, Nat.reduceAdd, Nat.reduceDiv, Nat.reduceMod, Nat.reduceMul, Nat.reduceLT, Nat.reduceLeDiff, Int32.reduceOfInt, Int64.reduceOfInt, true_and, and_true, and_self, true_or, or_true, false_implies, true_implies, not_false_eq_true, not_true_eq_false, Value.category, Nat.reduceEqDiff, Option.toList, List.cons_append, List.nil_append, List.drop_succ_cons, List.drop_zero, ax_qq_eq, ax_t_1317, ax_j_1317_31, ax_n_1317_31, kx_bf]
    exact hQ es X (xfd_rf es)
  simp only [ax_W_cons, ax_I, ax_cmp, ax_ii, ax_ll, ax_li, ax_st1, ax_st2, ax_kl, ax_k2, ax_fit, ax_rtok, List.getElem?_cons_zero, List.getElem?_cons_succ, List.length_cons, List.length_nil, List.set_cons_zero, List.set_cons_succ, Nat.reduceAdd, Nat.reduceDiv, Nat.reduceMod, Nat.reduceMul, Nat.reduceLT, Nat.reduceLeDiff, Int32.reduceOfInt, Int64.reduceOfInt, true_and, and_true, and_self, true_or, or_true, false_implies, true_implies, not_false_eq_true, not_true_eq_false, Value.category, Nat.reduceEqDiff, Option.toList, List.cons_append, List.nil_append, List.drop_succ_cons, List.drop_zero, ax_qq_eq, ax_t_1317, kx_bt, c10, x0, hal]
  refine ax_inv_of (Nat.le_of_ble_eq_true rfl) (Nat.le_of_ble_eq_true rfl) (fun _ => absurd ‹_› (by decide)) (fun h => absurd h (by decide)) (Nat.le_refl _) (Nat.le_refl _) (xk_within _ _ _ ?_)
  cases h3 : kx_in o 0 10
  · rw [if_neg (fun z => by rw [h3] at z; exact absurd z.2.2 (by decide))] at hQ
    simp only [ax_W_cons, ax_I, ax_cmp, ax_ii, ax_ll, ax_li, ax_st1, ax_st2, ax_kl, ax_k2, ax_fit, ax_rtok, List.getElem?_cons_zero, List.getElem?_cons_succ, List.length_cons, List.length_nil, List.set_cons_zero, List.set_cons_succ, Nat.reduceAdd, Nat.reduceDiv, Nat.reduceMod, Nat.reduceMul, Nat.reduceLT, Nat.reduceLeDiff, Int32.reduceOfInt, Int64.reduceOfInt, true_and, and_true, and_self, true_or, or_true, false_implies, true_implies, not_false_eq_true, not_true_eq_false, Value.category, Nat.reduceEqDiff, Option.toList, List.cons_append, List.nil_append, List.drop_succ_cons, List.drop_zero, ax_qq_eq, ax_t_1317, ax_j_1317_31, ax_n_1317_31, kx_bf]
    exact hQ es X (xfd_rf es)
  rw [if_pos ⟨h1, h2, h3⟩] at hQ
  obtain ⟨c', hc', rfl, bc'⟩ := kx_op_nI hk.2 h1
  obtain ⟨m', lm', hm', rfl⟩ := kx_in_nI (a := 1) (b := 6) (by decide) (by decide) h2
  obtain ⟨o', lo', ho', rfl⟩ := kx_in_nI (a := 0) (b := 10) (by decide) (by decide) h3
  rw [nI_clamp (by omega), nI_clamp (by omega)] at hQ
  simp only [ax_W_cons, ax_I, ax_cmp, ax_ii, ax_ll, ax_li, ax_st1, ax_st2, ax_kl, ax_k2, ax_fit, ax_rtok, List.getElem?_cons_zero, List.getElem?_cons_succ, List.length_cons, List.length_nil, List.set_cons_zero, List.set_cons_succ, Nat.reduceAdd, Nat.reduceDiv, Nat.reduceMod, Nat.reduceMul, Nat.reduceLT, Nat.reduceLeDiff, Int32.reduceOfInt, Int64.reduceOfInt, true_and, and_true, and_self, true_or, or_true, false_implies, true_implies, not_false_eq_true, not_true_eq_false, Value.category, Nat.reduceEqDiff, Option.toList, List.cons_append, List.nil_append, List.drop_succ_cons, List.drop_zero, ax_qq_eq, ax_t_1317, ax_j_1317_33, ax_n_1317_33, kx_bt, c10, x0, hal]
  refine ax_inv_of (Nat.le_of_ble_eq_true rfl) (Nat.le_of_ble_eq_true rfl) (fun _ => xs_rcv X _) (fun h => absurd h (by decide)) (Nat.le_refl _) (Nat.le_refl _) (ck_millionths hS hW (c := c') (b := m') (by omega) hm' _ ?_)
  intro es2 m1 m2
  simp only [ax_W_cons, ax_I, ax_cmp, ax_ii, ax_ll, ax_li, ax_st1, ax_st2, ax_kl, ax_k2, ax_fit, ax_rtok, List.getElem?_cons_zero, List.getElem?_cons_succ, List.length_cons, List.length_nil, List.set_cons_zero, List.set_cons_succ, Nat.reduceAdd, Nat.reduceDiv, Nat.reduceMod, Nat.reduceMul, Nat.reduceLT, Nat.reduceLeDiff, Int32.reduceOfInt, Int64.reduceOfInt, true_and, and_true, and_self, true_or, or_true, false_implies, true_implies, not_false_eq_true, not_true_eq_false, Value.category, Nat.reduceEqDiff, Option.toList, List.cons_append, List.nil_append, List.drop_succ_cons, List.drop_zero, ax_qq_eq, ax_t_1317]
  exact hQ es2 (xD_sg X m1 (ksf_ksg m2)) (xfd_sg (ksf_ksg m2))
theorem xp_years (X : xD es n k p hc kd pl0 ht hs F1 F2 B Fe un U mk M L la lb lc) (hB : zB_ok k p N B) (hN : N < 1000) (x m w : Int32) (hQ : ∀ es', xD es' n k p hc kd pl0 ht hs F1 F2 B Fe un U mk M L la lb lc → xfd es es' → Q (some (.int (zq_years F1 F2 k p kd ht hs hc (B.1, nI B.2.1, B.2.2.1, B.2.2.2.1, B.2.2.2.2) x m w))) es') : ax_Mt (d + 10) 1318 [.ref 0, .int x, .int m, .int w] n sl es Q := by
  obtain ⟨x0, hal, hk, hp, hhs, hC, hb, hS, hfe, hG, hP⟩ := id X
  have hW := xD_W X hB hN
  have hB1 := hB.2.1
  have c10 : ¬ (1 : Int32) = 0 := by decide
  unfold zXo at x0
  unfold zq_years at hQ
  refine ax_Mt_go (m := ax_m_10_38) (ls := [some (.ref 0), some (.int x), some (.int m), some (.int w)]) rfl ax_b_1318_0 (Nat.le_of_ble_eq_true rfl) rfl ?_
  simp only [ax_W_cons, ax_I, ax_cmp, ax_ii, ax_ll, ax_li, ax_st1, ax_st2, ax_kl, ax_k2, ax_fit, ax_rtok, List.getElem?_cons_zero, List.getElem?_cons_succ, List.length_cons, List.length_nil, List.set_cons_zero, List.set_cons_succ, Nat.reduceAdd, Nat.reduceDiv, Nat.reduceMod, Nat.reduceMul, Nat.reduceLT, Nat.reduceLeDiff, Int32.reduceOfInt, Int64.reduceOfInt, true_and, and_true, and_self, true_or, or_true, false_implies, true_implies, not_false_eq_true, not_true_eq_false, Value.category, Nat.reduceEqDiff, Option.toList, List.cons_append, List.nil_append, List.drop_succ_cons, List.drop_zero, ax_qq_eq, ax_t_1318, x0, hal]
  refine ax_inv_of (Nat.le_of_ble_eq_true rfl) (Nat.le_of_ble_eq_true rfl) (fun _ => absurd ‹_› (by decide)) (fun h => absurd h (by decide)) (Nat.le_refl _) (Nat.le_refl _) (xk_within _ _ _ ?_)
  cases h1 : kx_in x 0 9999
  · rw [if_neg (fun z => by rw [h1] at z; exact absurd z.1 (by decide))] at hQ
    simp only [ax_W_cons, ax_I, ax_cmp, ax_ii, ax_ll, ax_li, ax_st1, ax_st2, ax_kl, ax_k2, ax_fit, ax_rtok, List.getElem?_cons_zero, List.getElem?_cons_succ, List.length_cons, List.length_nil, List.set_cons_zero, List.set_cons_succ, Nat.reduceAdd, Nat.reduceDiv, Nat.reduceMod, Nat.reduceMul, Nat.reduceLT, Nat.reduceLeDiff, Int32.reduceOfInt, Int64.reduceOfInt, true_and, and_true, and_self, true_or, or_true, false_implies, true_implies, not_false_eq_true, not_true_eq_false, Value.category, Nat.reduceEqDiff, Option.toList, List.cons_append, List.nil_append, List.drop_succ_cons, List.drop_zero, ax_qq_eq, ax_t_1318, ax_j_1318_30, ax_n_1318_30, kx_bf]
    exact hQ es X (xfd_rf es)
  simp only [ax_W_cons, ax_I, ax_cmp, ax_ii, ax_ll, ax_li, ax_st1, ax_st2, ax_kl, ax_k2, ax_fit, ax_rtok, List.getElem?_cons_zero, List.getElem?_cons_succ, List.length_cons, List.length_nil, List.set_cons_zero, List.set_cons_succ, Nat.reduceAdd, Nat.reduceDiv, Nat.reduceMod, Nat.reduceMul, Nat.reduceLT, Nat.reduceLeDiff, Int32.reduceOfInt, Int64.reduceOfInt, true_and, and_true, and_self, true_or, or_true, false_implies, true_implies, not_false_eq_true, not_true_eq_false, Value.category, Nat.reduceEqDiff, Option.toList, List.cons_append, List.nil_append, List.drop_succ_cons, List.drop_zero, ax_qq_eq, ax_t_1318, kx_bt, c10, x0, hal]
  refine ax_inv_of (Nat.le_of_ble_eq_true rfl) (Nat.le_of_ble_eq_true rfl) (fun _ => absurd ‹_› (by decide)) (fun h => absurd h (by decide)) (Nat.le_refl _) (Nat.le_refl _) (xk_within _ _ _ ?_)
  cases h2 : kx_in m 1 99
  · rw [if_neg (fun z => by rw [h2] at z; exact absurd z.2.1 (by decide))] at hQ
    simp only [ax_W_cons, ax_I, ax_cmp, ax_ii, ax_ll, ax_li, ax_st1, ax_st2, ax_kl, ax_k2, ax_fit, ax_rtok, List.getElem?_cons_zero, List.getElem?_cons_succ, List.length_cons, List.length_nil, List.set_cons_zero, List.set_cons_succ, Nat.reduceAdd, Nat.reduceDiv, Nat.reduceMod, Nat.reduceMul, Nat.reduceLT, Nat.reduceLeDiff, Int32.reduceOfInt, Int64.reduceOfInt, true_and, and_true, and_self, true_or, or_true, false_implies, true_implies, not_false_eq_true, not_true_eq_false, Value.category, Nat.reduceEqDiff, Option.toList, List.cons_append, List.nil_append, List.drop_succ_cons, List.drop_zero, ax_qq_eq, ax_t_1318, ax_j_1318_30, ax_n_1318_30, kx_bf]
    exact hQ es X (xfd_rf es)
  simp only [ax_W_cons, ax_I, ax_cmp, ax_ii, ax_ll, ax_li, ax_st1, ax_st2, ax_kl, ax_k2, ax_fit, ax_rtok, List.getElem?_cons_zero, List.getElem?_cons_succ, List.length_cons, List.length_nil, List.set_cons_zero, List.set_cons_succ, Nat.reduceAdd, Nat.reduceDiv, Nat.reduceMod, Nat.reduceMul, Nat.reduceLT, Nat.reduceLeDiff, Int32.reduceOfInt, Int64.reduceOfInt, true_and, and_true, and_self, true_or, or_true, false_implies, true_implies, not_false_eq_true, not_true_eq_false, Value.category, Nat.reduceEqDiff, Option.toList, List.cons_append, List.nil_append, List.drop_succ_cons, List.drop_zero, ax_qq_eq, ax_t_1318, kx_bt, c10, x0, hal]
  refine ax_inv_of (Nat.le_of_ble_eq_true rfl) (Nat.le_of_ble_eq_true rfl) (fun _ => absurd ‹_› (by decide)) (fun h => absurd h (by decide)) (Nat.le_refl _) (Nat.le_refl _) (xk_within _ _ _ ?_)
  cases h3 : kx_in w 0 2
  · rw [if_neg (fun z => by rw [h3] at z; exact absurd z.2.2 (by decide))] at hQ
    simp only [ax_W_cons, ax_I, ax_cmp, ax_ii, ax_ll, ax_li, ax_st1, ax_st2, ax_kl, ax_k2, ax_fit, ax_rtok, List.getElem?_cons_zero, List.getElem?_cons_succ, List.length_cons, List.length_nil, List.set_cons_zero, List.set_cons_succ, Nat.reduceAdd, Nat.reduceDiv, Nat.reduceMod, Nat.reduceMul, Nat.reduceLT, Nat.reduceLeDiff, Int32.reduceOfInt, Int64.reduceOfInt, true_and, and_true, and_self, true_or, or_true, false_implies, true_implies, not_false_eq_true, not_true_eq_false, Value.category, Nat.reduceEqDiff, Option.toList, List.cons_append, List.nil_append, List.drop_succ_cons, List.drop_zero, ax_qq_eq, ax_t_1318, ax_j_1318_30, ax_n_1318_30, kx_bf]
    exact hQ es X (xfd_rf es)
  rw [if_pos ⟨h1, h2, h3⟩] at hQ
  obtain ⟨x', lx', hx', rfl⟩ := kx_in_nI (a := 0) (b := 9999) (by decide) (by decide) h1
  obtain ⟨m', lm', hm', rfl⟩ := kx_in_nI (a := 1) (b := 99) (by decide) (by decide) h2
  obtain ⟨w', lw', hw', rfl⟩ := kx_in_nI (a := 0) (b := 2) (by decide) (by decide) h3
  rw [nI_clamp (by omega), nI_clamp (by omega)] at hQ
  simp only [ax_W_cons, ax_I, ax_cmp, ax_ii, ax_ll, ax_li, ax_st1, ax_st2, ax_kl, ax_k2, ax_fit, ax_rtok, List.getElem?_cons_zero, List.getElem?_cons_succ, List.length_cons, List.length_nil, List.set_cons_zero, List.set_cons_succ, Nat.reduceAdd, Nat.reduceDiv, Nat.reduceMod, Nat.reduceMul, Nat.reduceLT, Nat.reduceLeDiff, Int32.reduceOfInt, Int64.reduceOfInt, true_and, and_true, and_self, true_or, or_true, false_implies, true_implies, not_false_eq_true, not_true_eq_false, Value.category, Nat.reduceEqDiff, Option.toList, List.cons_append, List.nil_append, List.drop_succ_cons, List.drop_zero, ax_qq_eq, ax_t_1318, ax_j_1318_32, ax_n_1318_32, kx_bt, c10, x0, hal]
  refine ax_inv_of (Nat.le_of_ble_eq_true rfl) (Nat.le_of_ble_eq_true rfl) (fun _ => xs_rcv X _) (fun h => absurd h (by decide)) (Nat.le_refl _) (Nat.le_refl _) (ck_drawYears hS hW (sd := x') (b := m') hx' hm' _ ?_)
  intro es2 m1 m2
  simp only [ax_W_cons, ax_I, ax_cmp, ax_ii, ax_ll, ax_li, ax_st1, ax_st2, ax_kl, ax_k2, ax_fit, ax_rtok, List.getElem?_cons_zero, List.getElem?_cons_succ, List.length_cons, List.length_nil, List.set_cons_zero, List.set_cons_succ, Nat.reduceAdd, Nat.reduceDiv, Nat.reduceMod, Nat.reduceMul, Nat.reduceLT, Nat.reduceLeDiff, Int32.reduceOfInt, Int64.reduceOfInt, true_and, and_true, and_self, true_or, or_true, false_implies, true_implies, not_false_eq_true, not_true_eq_false, Value.category, Nat.reduceEqDiff, Option.toList, List.cons_append, List.nil_append, List.drop_succ_cons, List.drop_zero, ax_qq_eq, ax_t_1318]
  exact hQ es2 (xD_sg X m1 (ksf_ksg m2)) (xfd_sg (ksf_ksg m2))
theorem xp_judged (X : xD es n k p hc kd pl0 ht hs F1 F2 B Fe un U mk M L la lb lc) (hB : zB_ok k p N B) (hN : N < 1000) (w : Int32) (hz0 : kz 6 pl0) (hp0 : kpl k p pl0) (hLn : zLn p L la lb lc) (hQ : ∀ es', xD es' n k p hc kd pl0 ht hs F1 F2 B Fe un U mk M L la lb lc → xfd es es' → Q (some (.int (zq_judged F1 F2 k p kd ht hs hc pl0 la lb lc L w))) es') : ax_Mt (d + 10) 1293 [.ref 0, .int w] n sl es Q := by
  obtain ⟨x0, hal, hk, hp, hhs, hC, hb, hS, hfe, hG, hP⟩ := id X
  have hW := xD_W X hB hN
  have hB1 := hB.2.1
  have c10 : ¬ (1 : Int32) = 0 := by decide
  unfold zXo at x0
  unfold zq_judged at hQ
  refine ax_Mt_go (m := ax_m_10_13) (ls := [some (.ref 0), some (.int w)]) rfl ax_b_1293_0 (Nat.le_of_ble_eq_true rfl) rfl ?_
  simp only [ax_W_cons, ax_I, ax_cmp, ax_ii, ax_ll, ax_li, ax_st1, ax_st2, ax_kl, ax_k2, ax_fit, ax_rtok, List.getElem?_cons_zero, List.getElem?_cons_succ, List.length_cons, List.length_nil, List.set_cons_zero, List.set_cons_succ, Nat.reduceAdd, Nat.reduceDiv, Nat.reduceMod, Nat.reduceMul, Nat.reduceLT, Nat.reduceLeDiff, Int32.reduceOfInt, Int64.reduceOfInt, true_and, and_true, and_self, true_or, or_true, false_implies, true_implies, not_false_eq_true, not_true_eq_false, Value.category, Nat.reduceEqDiff, Option.toList, List.cons_append, List.nil_append, List.drop_succ_cons, List.drop_zero, ax_qq_eq, ax_t_1293, x0, hal]
  refine ax_inv_of (Nat.le_of_ble_eq_true rfl) (Nat.le_of_ble_eq_true rfl) (fun _ => absurd ‹_› (by decide)) (fun h => absurd h (by decide)) (Nat.le_refl _) (Nat.le_refl _) (xk_within _ _ _ ?_)
  cases h1 : kx_in w 0 2
  · rw [if_neg (fun z => by rw [h1] at z; exact absurd z (by decide))] at hQ
    simp only [ax_W_cons, ax_I, ax_cmp, ax_ii, ax_ll, ax_li, ax_st1, ax_st2, ax_kl, ax_k2, ax_fit, ax_rtok, List.getElem?_cons_zero, List.getElem?_cons_succ, List.length_cons, List.length_nil, List.set_cons_zero, List.set_cons_succ, Nat.reduceAdd, Nat.reduceDiv, Nat.reduceMod, Nat.reduceMul, Nat.reduceLT, Nat.reduceLeDiff, Int32.reduceOfInt, Int64.reduceOfInt, true_and, and_true, and_self, true_or, or_true, false_implies, true_implies, not_false_eq_true, not_true_eq_false, Value.category, Nat.reduceEqDiff, Option.toList, List.cons_append, List.nil_append, List.drop_succ_cons, List.drop_zero, ax_qq_eq, ax_t_1293, ax_j_1293_28, ax_n_1293_28, ax_j_1293_30, ax_n_1293_30, kx_bf]
    exact hQ es X (xfd_rf es)
  rw [if_pos h1] at hQ
  obtain ⟨w', lw', hw', rfl⟩ := kx_in_nI (a := 0) (b := 2) (by decide) (by decide) h1
  have hLn2 : kLn L la lc := ⟨hLn.1, fun i hi _ => by
    obtain ⟨act, a, b, -, -, -, -, e, -, hb2, -⟩ := hLn.2 i hi
    exact ⟨b, hb2, e⟩⟩
  simp only [ax_W_cons, ax_I, ax_cmp, ax_ii, ax_ll, ax_li, ax_st1, ax_st2, ax_kl, ax_k2, ax_fit, ax_rtok, List.getElem?_cons_zero, List.getElem?_cons_succ, List.length_cons, List.length_nil, List.set_cons_zero, List.set_cons_succ, Nat.reduceAdd, Nat.reduceDiv, Nat.reduceMod, Nat.reduceMul, Nat.reduceLT, Nat.reduceLeDiff, Int32.reduceOfInt, Int64.reduceOfInt, true_and, and_true, and_self, true_or, or_true, false_implies, true_implies, not_false_eq_true, not_true_eq_false, Value.category, Nat.reduceEqDiff, Option.toList, List.cons_append, List.nil_append, List.drop_succ_cons, List.drop_zero, ax_qq_eq, ax_t_1293, kx_bt, c10, x0, hal]
  refine ax_inv_of (Nat.le_of_ble_eq_true rfl) (Nat.le_of_ble_eq_true rfl) (fun _ => xs_rcv X _) (fun h => absurd h (by decide)) (Nat.le_refl _) (Nat.le_refl _) (ck_judge hS hW hz0 hp0 hG hLn2 ?_)
  intro es2 m1 m2
  simp only [ax_W_cons, ax_I, ax_cmp, ax_ii, ax_ll, ax_li, ax_st1, ax_st2, ax_kl, ax_k2, ax_fit, ax_rtok, List.getElem?_cons_zero, List.getElem?_cons_succ, List.length_cons, List.length_nil, List.set_cons_zero, List.set_cons_succ, Nat.reduceAdd, Nat.reduceDiv, Nat.reduceMod, Nat.reduceMul, Nat.reduceLT, Nat.reduceLeDiff, Int32.reduceOfInt, Int64.reduceOfInt, true_and, and_true, and_self, true_or, or_true, false_implies, true_implies, not_false_eq_true, not_true_eq_false, Value.category, Nat.reduceEqDiff, Option.toList, List.cons_append, List.nil_append, List.drop_succ_cons, List.drop_zero, ax_qq_eq, ax_t_1293, ax_j_1293_30, ax_n_1293_30]
  exact hQ es2 (xD_sg X m1 (ksf_ksg m2)) (xfd_sg (ksf_ksg m2))
end XX
