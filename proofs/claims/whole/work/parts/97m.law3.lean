/-! the law: deeds -/
section LL
variable {j n sl k p hc L un N : Nat} {es : ax_H} {kd pm pl0 ht hs' la lb lc xs : Nat → Int32} {F1 F2 : Int32 → Int32 → Int32 → Int32 → Int32} {B : zB} {Fe : zF} {U : Nat → zB} {mk : Nat → Bool} {M : Nat → zB × zF} {t : zTp} {cs : List zCr} {st : Nat → Int32} {w : mW9} {R : ax_Q} {l5 l6 : Option Value}
theorem qP_F {c m x : Nat} (P : qP j k p pm pl0 ht B Fe un U mk M L la lb lc t) (hc : c < k) (hm : m ≤ 12) (hx : x ≤ 99) (hz : Fe.1 < 8) : qP (j + 1) k p pm pl0 ht B (Fe.1 + 1, upd Fe.2.1 Fe.1 (nI c), upd Fe.2.2.1 Fe.1 (nI m), upd Fe.2.2.2 Fe.1 (nI x)) un U mk M L la lb lc t := by
  obtain ⟨p1, p2, p3, p4⟩ := qP_s P
  refine ⟨p1, p2, ⟨by show Fe.1 + 1 ≤ 8; omega, fun i hi => ?_⟩, p4⟩
  have hi : i < Fe.1 + 1 := hi
  dsimp only
  by_cases e : i = Fe.1
  · rw [e, upd_same, upd_same, upd_same]
    exact ⟨⟨c, hc, rfl⟩, ⟨m, hm, rfl⟩, x, hx, rfl⟩
  · rw [upd_ne _ _ e, upd_ne _ _ e, upd_ne _ _ e]
    exact p3.2 i (by omega)
theorem qP_L {m : Nat} (P : qP j k p pm pl0 ht B Fe un U mk M L la lb lc t) : qP (j + 1) k p pm pl0 ht B Fe un U (fun i => if i = m then true else mk i) (fun i => if i = m then (B, Fe) else M i) L la lb lc t := by
  obtain ⟨p1, p2, p3, p4, p5, p6⟩ := qP_s P
  refine ⟨p1, p2, p3, p4, fun i hi hmk => ?_, p6⟩
  dsimp only at hmk ⊢
  by_cases e : i = m
  · rw [if_pos e]
    exact ⟨p2, p3⟩
  · rw [if_neg e] at hmk ⊢
    exact p5 i hi hmk
theorem qP_G {m : Nat} (P : qP j k p pm pl0 ht B Fe un U mk M L la lb lc t) (hm : m ≤ 3) (hmk : mk m = true) : qP (j + 1) k p pm pl0 ht (M m).1 (M m).2 0 U mk M L la lb lc t := by
  obtain ⟨p1, p2, p3, p4, p5, p6⟩ := qP_s P
  exact ⟨p1, (p5 m (by omega) hmk).1, (p5 m (by omega) hmk).2, fun u hu => absurd hu (Nat.not_lt_zero u), p5, p6⟩
theorem lw_touch (hal : ax_al n = 178) (hn : n ≤ 601024) (hs : sl ≤ 7293034) (hi : 7 * j + 7 ≤ N) (hN : N ≤ 3584) (S : qS es N xs) (X : qX es n k p hc kd pl0 ht hs' F1 F2 B Fe un U mk M L la lb lc t cs) (Mh : qM es n st w k p hc kd pm ht hs' F1 F2 B Fe un U mk M L la lb lc t cs) (P : qP j k p pm pl0 ht B Fe un U mk M L la lb lc t) (fin : ∀ es', qS es' N xs → qI es' n (j + 1) → ax_J ax_W 1300 601024 7293034 1536 1498 [some (.float 0), some (.ref 0), some (.ref 159), some (.ref 177), some (.int (nI (7 * j))), l5, l6] [] n sl es' R) : ax_J ax_W 1300 601024 7293034 1536 455 [some (.float 0), some (.ref 0), some (.ref 159), some (.ref 177), some (.int (nI (7 * j))), l5, l6] [] n sl es R := by
  obtain ⟨S1, fo, S2⟩ := id S
  have hB := P.2.1
  have hj : j < 1000 := by omega
  have hk := X.1.2.2.1.2
  have hp := X.1.2.2.2.1
  have hun := Mh.1.2.2.2.1
  have hzf := qP_fs P
  have i1 : nI (7 * j) + 1 = nI (7 * j + 1) := kn_add _ 1
  have v1 : vp_in (nI (7 * j + 1)) N := nI_in (by omega) (by omega)
  have c1 : (nI (7 * j + 1)).toNatClampNeg = 7 * j + 1 := nI_clamp (by omega)
  have i2 : nI (7 * j) + 2 = nI (7 * j + 2) := kn_add _ 2
  have v2 : vp_in (nI (7 * j + 2)) N := nI_in (by omega) (by omega)
  have c2 : (nI (7 * j + 2)).toNatClampNeg = 7 * j + 2 := nI_clamp (by omega)
  by_cases hy : kx_op k (nI B.2.1) (xs (7 * j + 1)) = true ∧ kx_in (xs (7 * j + 2)) 1 20 = true
  · obtain ⟨c, hc1, e1, hBit⟩ := kx_op_nI hk hy.1
    obtain ⟨g, hg1, hg2, e2⟩ := kx_in_nI (a := 1) (b := 20) (by decide) (by decide) hy.2
    simp only [ax_W_cons, ax_I, ax_cmp, ax_ii, ax_ll, ax_li, ax_st1, ax_st2, ax_kl, ax_k2, ax_fit, ax_rtok, List.getElem?_cons_zero, List.getElem?_cons_succ, List.length_cons, List.length_nil, List.set_cons_zero, List.set_cons_succ, Nat.reduceAdd, Nat.reduceDiv, Nat.reduceMod, Nat.reduceMul, Nat.reduceLT, Nat.reduceLeDiff, Int32.reduceOfInt, Int64.reduceOfInt, true_and, and_true, and_self, true_or, or_true, false_implies, true_implies, not_false_eq_true, not_true_eq_false, Value.category, Nat.reduceEqDiff, Option.toList, List.cons_append, List.nil_append, List.drop_succ_cons, List.drop_zero, ax_qq_eq, ax_t_1536, ax_j_1536_455, ax_n_1536_455, S1, i1, v1, c1, i2, v2, c2, e1, e2]
    refine ax_inv_of (Nat.le_of_ble_eq_true rfl) (Nat.le_of_ble_eq_true rfl) (fun _ => x0_rcv X.1 _) (fun h => absurd h (by decide)) hn hs (xp_touch_ok (d := 1289) X.1 hc1 hBit hg1 hg2 ?_)
    intro es1 X1 f1
    have M1 := qM_x Mh f1
    have XX1 := qX_x X X1 f1
    have SS := qS_x S f1
    have T1 := SS.1
    simp only [ax_W_cons, ax_I, ax_cmp, ax_ii, ax_ll, ax_li, ax_st1, ax_st2, ax_kl, ax_k2, ax_fit, ax_rtok, List.getElem?_cons_zero, List.getElem?_cons_succ, List.length_cons, List.length_nil, List.set_cons_zero, List.set_cons_succ, Nat.reduceAdd, Nat.reduceDiv, Nat.reduceMod, Nat.reduceMul, Nat.reduceLT, Nat.reduceLeDiff, Int32.reduceOfInt, Int64.reduceOfInt, true_and, and_true, and_self, true_or, or_true, false_implies, true_implies, not_false_eq_true, not_true_eq_false, Value.category, Nat.reduceEqDiff, Option.toList, List.cons_append, List.nil_append, List.drop_succ_cons, List.drop_zero, ax_qq_eq, ax_t_1536, T1, i1, v1, c1, i2, v2, c2, e1, e2]
    refine ax_inv_of (Nat.le_of_ble_eq_true rfl) (Nat.le_of_ble_eq_true rfl) (fun _ => mE_rcv M1.1.1 _) (fun h => absurd h (by decide)) hn hs (mp_touch_ok (d := 1289) hzf M1.1 hB hc1 hBit hg1 hg2 ?_)
    intro es2 st2 D2 f2
    have fin := fin es2 (qS_m SS f2) (qI_mk (qX_m XX1 f2) (qM_m M1 D2 f2) (qP_B P hun ⟨zv_push hk hB.1 hc1 hBit hg2, Nat.le_succ_of_le hB.2.1, hB.2.2⟩))
    simp only [ax_W_cons, ax_I, ax_cmp, ax_ii, ax_ll, ax_li, ax_st1, ax_st2, ax_kl, ax_k2, ax_fit, ax_rtok, List.getElem?_cons_zero, List.getElem?_cons_succ, List.length_cons, List.length_nil, List.set_cons_zero, List.set_cons_succ, Nat.reduceAdd, Nat.reduceDiv, Nat.reduceMod, Nat.reduceMul, Nat.reduceLT, Nat.reduceLeDiff, Int32.reduceOfInt, Int64.reduceOfInt, true_and, and_true, and_self, true_or, or_true, false_implies, true_implies, not_false_eq_true, not_true_eq_false, Value.category, Nat.reduceEqDiff, Option.toList, List.cons_append, List.nil_append, List.drop_succ_cons, List.drop_zero, ax_qq_eq, ax_t_1536]
    exact fin
  · simp only [ax_W_cons, ax_I, ax_cmp, ax_ii, ax_ll, ax_li, ax_st1, ax_st2, ax_kl, ax_k2, ax_fit, ax_rtok, List.getElem?_cons_zero, List.getElem?_cons_succ, List.length_cons, List.length_nil, List.set_cons_zero, List.set_cons_succ, Nat.reduceAdd, Nat.reduceDiv, Nat.reduceMod, Nat.reduceMul, Nat.reduceLT, Nat.reduceLeDiff, Int32.reduceOfInt, Int64.reduceOfInt, true_and, and_true, and_self, true_or, or_true, false_implies, true_implies, not_false_eq_true, not_true_eq_false, Value.category, Nat.reduceEqDiff, Option.toList, List.cons_append, List.nil_append, List.drop_succ_cons, List.drop_zero, ax_qq_eq, ax_t_1536, ax_j_1536_455, ax_n_1536_455, S1, i1, v1, c1, i2, v2, c2]
    refine ax_inv_of (Nat.le_of_ble_eq_true rfl) (Nat.le_of_ble_eq_true rfl) (fun _ => x0_rcv X.1 _) (fun h => absurd h (by decide)) hn hs (xp_touch_no (d := 1289) X.1 _ _ hy ?_)
    have f1 := xfd_rf es
    have X1 := X.1
    have M1 := qM_x Mh f1
    have XX1 := qX_x X X1 f1
    have SS := qS_x S f1
    have T1 := SS.1
    simp only [ax_W_cons, ax_I, ax_cmp, ax_ii, ax_ll, ax_li, ax_st1, ax_st2, ax_kl, ax_k2, ax_fit, ax_rtok, List.getElem?_cons_zero, List.getElem?_cons_succ, List.length_cons, List.length_nil, List.set_cons_zero, List.set_cons_succ, Nat.reduceAdd, Nat.reduceDiv, Nat.reduceMod, Nat.reduceMul, Nat.reduceLT, Nat.reduceLeDiff, Int32.reduceOfInt, Int64.reduceOfInt, true_and, and_true, and_self, true_or, or_true, false_implies, true_implies, not_false_eq_true, not_true_eq_false, Value.category, Nat.reduceEqDiff, Option.toList, List.cons_append, List.nil_append, List.drop_succ_cons, List.drop_zero, ax_qq_eq, ax_t_1536, T1, i1, v1, c1, i2, v2, c2]
    refine ax_inv_of (Nat.le_of_ble_eq_true rfl) (Nat.le_of_ble_eq_true rfl) (fun _ => mE_rcv M1.1.1 _) (fun h => absurd h (by decide)) hn hs (mp_touch_no (d := 1289) hzf M1.1 hB _ _ hy ?_)
    intro es2 st2 D2 f2
    have fin := fin es2 (qS_m SS f2) (qI_mk (qX_m XX1 f2) (qM_m M1 D2 f2) (qP_s P))
    simp only [ax_W_cons, ax_I, ax_cmp, ax_ii, ax_ll, ax_li, ax_st1, ax_st2, ax_kl, ax_k2, ax_fit, ax_rtok, List.getElem?_cons_zero, List.getElem?_cons_succ, List.length_cons, List.length_nil, List.set_cons_zero, List.set_cons_succ, Nat.reduceAdd, Nat.reduceDiv, Nat.reduceMod, Nat.reduceMul, Nat.reduceLT, Nat.reduceLeDiff, Int32.reduceOfInt, Int64.reduceOfInt, true_and, and_true, and_self, true_or, or_true, false_implies, true_implies, not_false_eq_true, not_true_eq_false, Value.category, Nat.reduceEqDiff, Option.toList, List.cons_append, List.nil_append, List.drop_succ_cons, List.drop_zero, ax_qq_eq, ax_t_1536]
    exact fin
theorem lw_breathe (hal : ax_al n = 178) (hn : n ≤ 601024) (hs : sl ≤ 7293034) (hi : 7 * j + 7 ≤ N) (hN : N ≤ 3584) (S : qS es N xs) (X : qX es n k p hc kd pl0 ht hs' F1 F2 B Fe un U mk M L la lb lc t cs) (Mh : qM es n st w k p hc kd pm ht hs' F1 F2 B Fe un U mk M L la lb lc t cs) (P : qP j k p pm pl0 ht B Fe un U mk M L la lb lc t) (fin : ∀ es', qS es' N xs → qI es' n (j + 1) → ax_J ax_W 1300 601024 7293034 1536 1498 [some (.float 0), some (.ref 0), some (.ref 159), some (.ref 177), some (.int (nI (7 * j))), l5, l6] [] n sl es' R) : ax_J ax_W 1300 601024 7293034 1536 492 [some (.float 0), some (.ref 0), some (.ref 159), some (.ref 177), some (.int (nI (7 * j))), l5, l6] [] n sl es R := by
  obtain ⟨S1, fo, S2⟩ := id S
  have hB := P.2.1
  have hj : j < 1000 := by omega
  have hk := X.1.2.2.1.2
  have hp := X.1.2.2.2.1
  have hun := Mh.1.2.2.2.1
  have hzf := qP_fs P
  have i1 : nI (7 * j) + 1 = nI (7 * j + 1) := kn_add _ 1
  have v1 : vp_in (nI (7 * j + 1)) N := nI_in (by omega) (by omega)
  have c1 : (nI (7 * j + 1)).toNatClampNeg = 7 * j + 1 := nI_clamp (by omega)
  cases hy : kx_cell k (xs (7 * j + 1))
  · simp only [ax_W_cons, ax_I, ax_cmp, ax_ii, ax_ll, ax_li, ax_st1, ax_st2, ax_kl, ax_k2, ax_fit, ax_rtok, List.getElem?_cons_zero, List.getElem?_cons_succ, List.length_cons, List.length_nil, List.set_cons_zero, List.set_cons_succ, Nat.reduceAdd, Nat.reduceDiv, Nat.reduceMod, Nat.reduceMul, Nat.reduceLT, Nat.reduceLeDiff, Int32.reduceOfInt, Int64.reduceOfInt, true_and, and_true, and_self, true_or, or_true, false_implies, true_implies, not_false_eq_true, not_true_eq_false, Value.category, Nat.reduceEqDiff, Option.toList, List.cons_append, List.nil_append, List.drop_succ_cons, List.drop_zero, ax_qq_eq, ax_t_1536, ax_j_1536_492, ax_n_1536_492, S1, i1, v1, c1]
    refine ax_inv_of (Nat.le_of_ble_eq_true rfl) (Nat.le_of_ble_eq_true rfl) (fun _ => x0_rcv X.1 _) (fun h => absurd h (by decide)) hn hs (xp_breathe_no (d := 1289) X.1 _ hy ?_)
    have f1 := xfd_rf es
    have X1 := X.1
    have M1 := qM_x Mh f1
    have XX1 := qX_x X X1 f1
    have SS := qS_x S f1
    have T1 := SS.1
    simp only [ax_W_cons, ax_I, ax_cmp, ax_ii, ax_ll, ax_li, ax_st1, ax_st2, ax_kl, ax_k2, ax_fit, ax_rtok, List.getElem?_cons_zero, List.getElem?_cons_succ, List.length_cons, List.length_nil, List.set_cons_zero, List.set_cons_succ, Nat.reduceAdd, Nat.reduceDiv, Nat.reduceMod, Nat.reduceMul, Nat.reduceLT, Nat.reduceLeDiff, Int32.reduceOfInt, Int64.reduceOfInt, true_and, and_true, and_self, true_or, or_true, false_implies, true_implies, not_false_eq_true, not_true_eq_false, Value.category, Nat.reduceEqDiff, Option.toList, List.cons_append, List.nil_append, List.drop_succ_cons, List.drop_zero, ax_qq_eq, ax_t_1536, T1, i1, v1, c1]
    refine ax_inv_of (Nat.le_of_ble_eq_true rfl) (Nat.le_of_ble_eq_true rfl) (fun _ => mE_rcv M1.1.1 _) (fun h => absurd h (by decide)) hn hs (mp_breathe_no (d := 1289) M1.1 _ hy ?_)
    intro es2 st2 D2 f2
    have fin := fin es2 (qS_m SS f2) (qI_mk (qX_m XX1 f2) (qM_m M1 D2 f2) (qP_s P))
    simp only [ax_W_cons, ax_I, ax_cmp, ax_ii, ax_ll, ax_li, ax_st1, ax_st2, ax_kl, ax_k2, ax_fit, ax_rtok, List.getElem?_cons_zero, List.getElem?_cons_succ, List.length_cons, List.length_nil, List.set_cons_zero, List.set_cons_succ, Nat.reduceAdd, Nat.reduceDiv, Nat.reduceMod, Nat.reduceMul, Nat.reduceLT, Nat.reduceLeDiff, Int32.reduceOfInt, Int64.reduceOfInt, true_and, and_true, and_self, true_or, or_true, false_implies, true_implies, not_false_eq_true, not_true_eq_false, Value.category, Nat.reduceEqDiff, Option.toList, List.cons_append, List.nil_append, List.drop_succ_cons, List.drop_zero, ax_qq_eq, ax_t_1536]
    exact fin
  · obtain ⟨c, hc1, e1⟩ := kx_cell_in (by omega) hy
    simp only [ax_W_cons, ax_I, ax_cmp, ax_ii, ax_ll, ax_li, ax_st1, ax_st2, ax_kl, ax_k2, ax_fit, ax_rtok, List.getElem?_cons_zero, List.getElem?_cons_succ, List.length_cons, List.length_nil, List.set_cons_zero, List.set_cons_succ, Nat.reduceAdd, Nat.reduceDiv, Nat.reduceMod, Nat.reduceMul, Nat.reduceLT, Nat.reduceLeDiff, Int32.reduceOfInt, Int64.reduceOfInt, true_and, and_true, and_self, true_or, or_true, false_implies, true_implies, not_false_eq_true, not_true_eq_false, Value.category, Nat.reduceEqDiff, Option.toList, List.cons_append, List.nil_append, List.drop_succ_cons, List.drop_zero, ax_qq_eq, ax_t_1536, ax_j_1536_492, ax_n_1536_492, S1, i1, v1, c1, e1]
    refine ax_inv_of (Nat.le_of_ble_eq_true rfl) (Nat.le_of_ble_eq_true rfl) (fun _ => x0_rcv X.1 _) (fun h => absurd h (by decide)) hn hs (xp_breathe_ok (d := 1289) X.1 hc1 ?_)
    intro es1 X1 f1
    have M1 := qM_x Mh f1
    have XX1 := qX_x X X1 f1
    have SS := qS_x S f1
    have T1 := SS.1
    simp only [ax_W_cons, ax_I, ax_cmp, ax_ii, ax_ll, ax_li, ax_st1, ax_st2, ax_kl, ax_k2, ax_fit, ax_rtok, List.getElem?_cons_zero, List.getElem?_cons_succ, List.length_cons, List.length_nil, List.set_cons_zero, List.set_cons_succ, Nat.reduceAdd, Nat.reduceDiv, Nat.reduceMod, Nat.reduceMul, Nat.reduceLT, Nat.reduceLeDiff, Int32.reduceOfInt, Int64.reduceOfInt, true_and, and_true, and_self, true_or, or_true, false_implies, true_implies, not_false_eq_true, not_true_eq_false, Value.category, Nat.reduceEqDiff, Option.toList, List.cons_append, List.nil_append, List.drop_succ_cons, List.drop_zero, ax_qq_eq, ax_t_1536, T1, i1, v1, c1, e1]
    refine ax_inv_of (Nat.le_of_ble_eq_true rfl) (Nat.le_of_ble_eq_true rfl) (fun _ => mE_rcv M1.1.1 _) (fun h => absurd h (by decide)) hn hs (mp_breathe_ok (d := 1289) hzf M1.1 hB hc1 ?_)
    intro es2 st2 D2 f2
    have fin := fin es2 (qS_m SS f2) (qI_mk (qX_m XX1 f2) (qM_m M1 D2 f2) (qP_B P hun ⟨zv_soothe hk hB.1 hc1, Nat.le_succ_of_le hB.2.1, hB.2.2⟩))
    simp only [ax_W_cons, ax_I, ax_cmp, ax_ii, ax_ll, ax_li, ax_st1, ax_st2, ax_kl, ax_k2, ax_fit, ax_rtok, List.getElem?_cons_zero, List.getElem?_cons_succ, List.length_cons, List.length_nil, List.set_cons_zero, List.set_cons_succ, Nat.reduceAdd, Nat.reduceDiv, Nat.reduceMod, Nat.reduceMul, Nat.reduceLT, Nat.reduceLeDiff, Int32.reduceOfInt, Int64.reduceOfInt, true_and, and_true, and_self, true_or, or_true, false_implies, true_implies, not_false_eq_true, not_true_eq_false, Value.category, Nat.reduceEqDiff, Option.toList, List.cons_append, List.nil_append, List.drop_succ_cons, List.drop_zero, ax_qq_eq, ax_t_1536]
    exact fin
theorem lw_fork (hal : ax_al n = 178) (hn : n ≤ 601024) (hs : sl ≤ 7293034) (hi : 7 * j + 7 ≤ N) (hN : N ≤ 3584) (S : qS es N xs) (X : qX es n k p hc kd pl0 ht hs' F1 F2 B Fe un U mk M L la lb lc t cs) (Mh : qM es n st w k p hc kd pm ht hs' F1 F2 B Fe un U mk M L la lb lc t cs) (P : qP j k p pm pl0 ht B Fe un U mk M L la lb lc t) (fin : ∀ es', qS es' N xs → qI es' n (j + 1) → ax_J ax_W 1300 601024 7293034 1536 1498 [some (.float 0), some (.ref 0), some (.ref 159), some (.ref 177), some (.int (nI (7 * j))), l5, l6] [] n sl es' R) : ax_J ax_W 1300 601024 7293034 1536 517 [some (.float 0), some (.ref 0), some (.ref 159), some (.ref 177), some (.int (nI (7 * j))), l5, l6] [] n sl es R := by
  obtain ⟨S1, fo, S2⟩ := id S
  have hB := P.2.1
  have hj : j < 1000 := by omega
  have hk := X.1.2.2.1.2
  have hp := X.1.2.2.2.1
  have hun := Mh.1.2.2.2.1
  have hzf := qP_fs P
  have i1 : nI (7 * j) + 1 = nI (7 * j + 1) := kn_add _ 1
  have v1 : vp_in (nI (7 * j + 1)) N := nI_in (by omega) (by omega)
  have c1 : (nI (7 * j + 1)).toNatClampNeg = 7 * j + 1 := nI_clamp (by omega)
  cases hy : kx_op k (nI B.2.1) (xs (7 * j + 1))
  · simp only [ax_W_cons, ax_I, ax_cmp, ax_ii, ax_ll, ax_li, ax_st1, ax_st2, ax_kl, ax_k2, ax_fit, ax_rtok, List.getElem?_cons_zero, List.getElem?_cons_succ, List.length_cons, List.length_nil, List.set_cons_zero, List.set_cons_succ, Nat.reduceAdd, Nat.reduceDiv, Nat.reduceMod, Nat.reduceMul, Nat.reduceLT, Nat.reduceLeDiff, Int32.reduceOfInt, Int64.reduceOfInt, true_and, and_true, and_self, true_or, or_true, false_implies, true_implies, not_false_eq_true, not_true_eq_false, Value.category, Nat.reduceEqDiff, Option.toList, List.cons_append, List.nil_append, List.drop_succ_cons, List.drop_zero, ax_qq_eq, ax_t_1536, ax_j_1536_517, ax_n_1536_517, S1, i1, v1, c1]
    refine ax_inv_of (Nat.le_of_ble_eq_true rfl) (Nat.le_of_ble_eq_true rfl) (fun _ => x0_rcv X.1 _) (fun h => absurd h (by decide)) hn hs (xp_fork_no (d := 1289) X.1 _ hy ?_)
    have f1 := xfd_rf es
    have X1 := X.1
    have M1 := qM_x Mh f1
    have XX1 := qX_x X X1 f1
    have SS := qS_x S f1
    have T1 := SS.1
    simp only [ax_W_cons, ax_I, ax_cmp, ax_ii, ax_ll, ax_li, ax_st1, ax_st2, ax_kl, ax_k2, ax_fit, ax_rtok, List.getElem?_cons_zero, List.getElem?_cons_succ, List.length_cons, List.length_nil, List.set_cons_zero, List.set_cons_succ, Nat.reduceAdd, Nat.reduceDiv, Nat.reduceMod, Nat.reduceMul, Nat.reduceLT, Nat.reduceLeDiff, Int32.reduceOfInt, Int64.reduceOfInt, true_and, and_true, and_self, true_or, or_true, false_implies, true_implies, not_false_eq_true, not_true_eq_false, Value.category, Nat.reduceEqDiff, Option.toList, List.cons_append, List.nil_append, List.drop_succ_cons, List.drop_zero, ax_qq_eq, ax_t_1536, T1, i1, v1, c1]
    refine ax_inv_of (Nat.le_of_ble_eq_true rfl) (Nat.le_of_ble_eq_true rfl) (fun _ => mE_rcv M1.1.1 _) (fun h => absurd h (by decide)) hn hs (mp_fork_no (d := 1289) M1.1 hB _ hy ?_)
    intro es2 st2 D2 f2
    have fin := fin es2 (qS_m SS f2) (qI_mk (qX_m XX1 f2) (qM_m M1 D2 f2) (qP_s P))
    simp only [ax_W_cons, ax_I, ax_cmp, ax_ii, ax_ll, ax_li, ax_st1, ax_st2, ax_kl, ax_k2, ax_fit, ax_rtok, List.getElem?_cons_zero, List.getElem?_cons_succ, List.length_cons, List.length_nil, List.set_cons_zero, List.set_cons_succ, Nat.reduceAdd, Nat.reduceDiv, Nat.reduceMod, Nat.reduceMul, Nat.reduceLT, Nat.reduceLeDiff, Int32.reduceOfInt, Int64.reduceOfInt, true_and, and_true, and_self, true_or, or_true, false_implies, true_implies, not_false_eq_true, not_true_eq_false, Value.category, Nat.reduceEqDiff, Option.toList, List.cons_append, List.nil_append, List.drop_succ_cons, List.drop_zero, ax_qq_eq, ax_t_1536]
    exact fin
  · obtain ⟨c, hc1, e1, hBit⟩ := kx_op_nI hk hy
    simp only [ax_W_cons, ax_I, ax_cmp, ax_ii, ax_ll, ax_li, ax_st1, ax_st2, ax_kl, ax_k2, ax_fit, ax_rtok, List.getElem?_cons_zero, List.getElem?_cons_succ, List.length_cons, List.length_nil, List.set_cons_zero, List.set_cons_succ, Nat.reduceAdd, Nat.reduceDiv, Nat.reduceMod, Nat.reduceMul, Nat.reduceLT, Nat.reduceLeDiff, Int32.reduceOfInt, Int64.reduceOfInt, true_and, and_true, and_self, true_or, or_true, false_implies, true_implies, not_false_eq_true, not_true_eq_false, Value.category, Nat.reduceEqDiff, Option.toList, List.cons_append, List.nil_append, List.drop_succ_cons, List.drop_zero, ax_qq_eq, ax_t_1536, ax_j_1536_517, ax_n_1536_517, S1, i1, v1, c1, e1]
    refine ax_inv_of (Nat.le_of_ble_eq_true rfl) (Nat.le_of_ble_eq_true rfl) (fun _ => x0_rcv X.1 _) (fun h => absurd h (by decide)) hn hs (xp_fork_ok (d := 1289) X.1 hc1 hBit ?_)
    intro es1 X1 f1
    have M1 := qM_x Mh f1
    have XX1 := qX_x X X1 f1
    have SS := qS_x S f1
    have T1 := SS.1
    simp only [ax_W_cons, ax_I, ax_cmp, ax_ii, ax_ll, ax_li, ax_st1, ax_st2, ax_kl, ax_k2, ax_fit, ax_rtok, List.getElem?_cons_zero, List.getElem?_cons_succ, List.length_cons, List.length_nil, List.set_cons_zero, List.set_cons_succ, Nat.reduceAdd, Nat.reduceDiv, Nat.reduceMod, Nat.reduceMul, Nat.reduceLT, Nat.reduceLeDiff, Int32.reduceOfInt, Int64.reduceOfInt, true_and, and_true, and_self, true_or, or_true, false_implies, true_implies, not_false_eq_true, not_true_eq_false, Value.category, Nat.reduceEqDiff, Option.toList, List.cons_append, List.nil_append, List.drop_succ_cons, List.drop_zero, ax_qq_eq, ax_t_1536, T1, i1, v1, c1, e1]
    refine ax_inv_of (Nat.le_of_ble_eq_true rfl) (Nat.le_of_ble_eq_true rfl) (fun _ => mE_rcv M1.1.1 _) (fun h => absurd h (by decide)) hn hs (mp_fork_ok (d := 1289) hzf M1.1 hB hc1 hBit ?_)
    intro es2 st2 D2 f2
    have fin := fin es2 (qS_m SS f2) (qI_mk (qX_m XX1 f2) (qM_m M1 D2 f2) (qP_B P hun ⟨zv_crack hB.1 hc1, Nat.le_succ_of_le hB.2.1, hB.2.2⟩))
    simp only [ax_W_cons, ax_I, ax_cmp, ax_ii, ax_ll, ax_li, ax_st1, ax_st2, ax_kl, ax_k2, ax_fit, ax_rtok, List.getElem?_cons_zero, List.getElem?_cons_succ, List.length_cons, List.length_nil, List.set_cons_zero, List.set_cons_succ, Nat.reduceAdd, Nat.reduceDiv, Nat.reduceMod, Nat.reduceMul, Nat.reduceLT, Nat.reduceLeDiff, Int32.reduceOfInt, Int64.reduceOfInt, true_and, and_true, and_self, true_or, or_true, false_implies, true_implies, not_false_eq_true, not_true_eq_false, Value.category, Nat.reduceEqDiff, Option.toList, List.cons_append, List.nil_append, List.drop_succ_cons, List.drop_zero, ax_qq_eq, ax_t_1536]
    exact fin
theorem lw_turn (hal : ax_al n = 178) (hn : n ≤ 601024) (hs : sl ≤ 7293034) (hi : 7 * j + 7 ≤ N) (hN : N ≤ 3584) (S : qS es N xs) (X : qX es n k p hc kd pl0 ht hs' F1 F2 B Fe un U mk M L la lb lc t cs) (Mh : qM es n st w k p hc kd pm ht hs' F1 F2 B Fe un U mk M L la lb lc t cs) (P : qP j k p pm pl0 ht B Fe un U mk M L la lb lc t) (fin : ∀ es', qS es' N xs → qI es' n (j + 1) → ax_J ax_W 1300 601024 7293034 1536 1498 [some (.float 0), some (.ref 0), some (.ref 159), some (.ref 177), some (.int (nI (7 * j))), l5, l6] [] n sl es' R) : ax_J ax_W 1300 601024 7293034 1536 542 [some (.float 0), some (.ref 0), some (.ref 159), some (.ref 177), some (.int (nI (7 * j))), l5, l6] [] n sl es R := by
  obtain ⟨S1, fo, S2⟩ := id S
  have hB := P.2.1
  have hj : j < 1000 := by omega
  have hk := X.1.2.2.1.2
  have hp := X.1.2.2.2.1
  have hun := Mh.1.2.2.2.1
  have hzf := qP_fs P
  simp only [ax_W_cons, ax_I, ax_cmp, ax_ii, ax_ll, ax_li, ax_st1, ax_st2, ax_kl, ax_k2, ax_fit, ax_rtok, List.getElem?_cons_zero, List.getElem?_cons_succ, List.length_cons, List.length_nil, List.set_cons_zero, List.set_cons_succ, Nat.reduceAdd, Nat.reduceDiv, Nat.reduceMod, Nat.reduceMul, Nat.reduceLT, Nat.reduceLeDiff, Int32.reduceOfInt, Int64.reduceOfInt, true_and, and_true, and_self, true_or, or_true, false_implies, true_implies, not_false_eq_true, not_true_eq_false, Value.category, Nat.reduceEqDiff, Option.toList, List.cons_append, List.nil_append, List.drop_succ_cons, List.drop_zero, ax_qq_eq, ax_t_1536, ax_j_1536_542, ax_n_1536_542, S1]
  refine ax_inv_of (Nat.le_of_ble_eq_true rfl) (Nat.le_of_ble_eq_true rfl) (fun _ => x0_rcv X.1 _) (fun h => absurd h (by decide)) hn hs (xp_turn (d := 1289) X.1 ?_)
  intro es1 X1 f1
  have M1 := qM_x Mh f1
  have XX1 := qX_x X X1 f1
  have SS := qS_x S f1
  have T1 := SS.1
  simp only [ax_W_cons, ax_I, ax_cmp, ax_ii, ax_ll, ax_li, ax_st1, ax_st2, ax_kl, ax_k2, ax_fit, ax_rtok, List.getElem?_cons_zero, List.getElem?_cons_succ, List.length_cons, List.length_nil, List.set_cons_zero, List.set_cons_succ, Nat.reduceAdd, Nat.reduceDiv, Nat.reduceMod, Nat.reduceMul, Nat.reduceLT, Nat.reduceLeDiff, Int32.reduceOfInt, Int64.reduceOfInt, true_and, and_true, and_self, true_or, or_true, false_implies, true_implies, not_false_eq_true, not_true_eq_false, Value.category, Nat.reduceEqDiff, Option.toList, List.cons_append, List.nil_append, List.drop_succ_cons, List.drop_zero, ax_qq_eq, ax_t_1536, T1]
  refine ax_inv_of (Nat.le_of_ble_eq_true rfl) (Nat.le_of_ble_eq_true rfl) (fun _ => mE_rcv M1.1.1 _) (fun h => absurd h (by decide)) hn hs (mp_turn (d := 1289) hzf M1.1 hB ?_)
  intro es2 st2 D2 f2
  have fin := fin es2 (qS_m SS f2) (qI_mk (qX_m XX1 f2) (qM_m M1 D2 f2) (qP_B P hun ⟨zv_turn hk hB.1, Nat.le_succ_of_le hB.2.1, hB.2.2⟩))
  simp only [ax_W_cons, ax_I, ax_cmp, ax_ii, ax_ll, ax_li, ax_st1, ax_st2, ax_kl, ax_k2, ax_fit, ax_rtok, List.getElem?_cons_zero, List.getElem?_cons_succ, List.length_cons, List.length_nil, List.set_cons_zero, List.set_cons_succ, Nat.reduceAdd, Nat.reduceDiv, Nat.reduceMod, Nat.reduceMul, Nat.reduceLT, Nat.reduceLeDiff, Int32.reduceOfInt, Int64.reduceOfInt, true_and, and_true, and_self, true_or, or_true, false_implies, true_implies, not_false_eq_true, not_true_eq_false, Value.category, Nat.reduceEqDiff, Option.toList, List.cons_append, List.nil_append, List.drop_succ_cons, List.drop_zero, ax_qq_eq, ax_t_1536]
  exact fin
theorem lw_change (hal : ax_al n = 178) (hn : n ≤ 601024) (hs : sl ≤ 7293034) (hi : 7 * j + 7 ≤ N) (hN : N ≤ 3584) (S : qS es N xs) (X : qX es n k p hc kd pl0 ht hs' F1 F2 B Fe un U mk M L la lb lc t cs) (Mh : qM es n st w k p hc kd pm ht hs' F1 F2 B Fe un U mk M L la lb lc t cs) (P : qP j k p pm pl0 ht B Fe un U mk M L la lb lc t) (fin : ∀ es', qS es' N xs → qI es' n (j + 1) → ax_J ax_W 1300 601024 7293034 1536 1498 [some (.float 0), some (.ref 0), some (.ref 159), some (.ref 177), some (.int (nI (7 * j))), l5, l6] [] n sl es' R) : ax_J ax_W 1300 601024 7293034 1536 555 [some (.float 0), some (.ref 0), some (.ref 159), some (.ref 177), some (.int (nI (7 * j))), l5, l6] [] n sl es R := by
  obtain ⟨S1, fo, S2⟩ := id S
  have hB := P.2.1
  have hj : j < 1000 := by omega
  have hk := X.1.2.2.1.2
  have hp := X.1.2.2.2.1
  have hun := Mh.1.2.2.2.1
  have hzf := qP_fs P
  have i1 : nI (7 * j) + 1 = nI (7 * j + 1) := kn_add _ 1
  have v1 : vp_in (nI (7 * j + 1)) N := nI_in (by omega) (by omega)
  have c1 : (nI (7 * j + 1)).toNatClampNeg = 7 * j + 1 := nI_clamp (by omega)
  have i2 : nI (7 * j) + 2 = nI (7 * j + 2) := kn_add _ 2
  have v2 : vp_in (nI (7 * j + 2)) N := nI_in (by omega) (by omega)
  have c2 : (nI (7 * j + 2)).toNatClampNeg = 7 * j + 2 := nI_clamp (by omega)
  by_cases hy : kx_cell p (xs (7 * j + 1)) = true ∧ kx_cell p (xs (7 * j + 2)) = true ∧ ¬ xs (7 * j + 1) = xs (7 * j + 2)
  · obtain ⟨a, ha, e1⟩ := kx_cell_in (by omega) hy.1
    obtain ⟨b, hb, e2⟩ := kx_cell_in (by omega) hy.2.1
    have hab : ¬ a = b := fun z => hy.2.2 (by rw [e1, e2, z])
    simp only [ax_W_cons, ax_I, ax_cmp, ax_ii, ax_ll, ax_li, ax_st1, ax_st2, ax_kl, ax_k2, ax_fit, ax_rtok, List.getElem?_cons_zero, List.getElem?_cons_succ, List.length_cons, List.length_nil, List.set_cons_zero, List.set_cons_succ, Nat.reduceAdd, Nat.reduceDiv, Nat.reduceMod, Nat.reduceMul, Nat.reduceLT, Nat.reduceLeDiff, Int32.reduceOfInt, Int64.reduceOfInt, true_and, and_true, and_self, true_or, or_true, false_implies, true_implies, not_false_eq_true, not_true_eq_false, Value.category, Nat.reduceEqDiff, Option.toList, List.cons_append, List.nil_append, List.drop_succ_cons, List.drop_zero, ax_qq_eq, ax_t_1536, ax_j_1536_555, ax_n_1536_555, S1, i1, v1, c1, i2, v2, c2, e1, e2]
    refine ax_inv_of (Nat.le_of_ble_eq_true rfl) (Nat.le_of_ble_eq_true rfl) (fun _ => x0_rcv X.1 _) (fun h => absurd h (by decide)) hn hs (xp_change_ok (d := 1289) X.1 ha hb hab ?_)
    intro es1 X1 f1
    have M1 := qM_x Mh f1
    have XX1 := qX_x X X1 f1
    have SS := qS_x S f1
    have T1 := SS.1
    simp only [ax_W_cons, ax_I, ax_cmp, ax_ii, ax_ll, ax_li, ax_st1, ax_st2, ax_kl, ax_k2, ax_fit, ax_rtok, List.getElem?_cons_zero, List.getElem?_cons_succ, List.length_cons, List.length_nil, List.set_cons_zero, List.set_cons_succ, Nat.reduceAdd, Nat.reduceDiv, Nat.reduceMod, Nat.reduceMul, Nat.reduceLT, Nat.reduceLeDiff, Int32.reduceOfInt, Int64.reduceOfInt, true_and, and_true, and_self, true_or, or_true, false_implies, true_implies, not_false_eq_true, not_true_eq_false, Value.category, Nat.reduceEqDiff, Option.toList, List.cons_append, List.nil_append, List.drop_succ_cons, List.drop_zero, ax_qq_eq, ax_t_1536, T1, i1, v1, c1, i2, v2, c2, e1, e2]
    refine ax_inv_of (Nat.le_of_ble_eq_true rfl) (Nat.le_of_ble_eq_true rfl) (fun _ => mE_rcv M1.1.1 _) (fun h => absurd h (by decide)) hn hs (mp_change_ok (d := 1289) hzf M1.1 ha hb hab ?_)
    intro es2 st2 D2 f2
    have fin := fin es2 (qS_m SS f2) (qI_mk (qX_m XX1 f2) (qM_m M1 D2 f2) (qP_B P hun ⟨zv_exch hp hB.1 ha hb, Nat.le_succ_of_le hB.2.1, hB.2.2⟩))
    simp only [ax_W_cons, ax_I, ax_cmp, ax_ii, ax_ll, ax_li, ax_st1, ax_st2, ax_kl, ax_k2, ax_fit, ax_rtok, List.getElem?_cons_zero, List.getElem?_cons_succ, List.length_cons, List.length_nil, List.set_cons_zero, List.set_cons_succ, Nat.reduceAdd, Nat.reduceDiv, Nat.reduceMod, Nat.reduceMul, Nat.reduceLT, Nat.reduceLeDiff, Int32.reduceOfInt, Int64.reduceOfInt, true_and, and_true, and_self, true_or, or_true, false_implies, true_implies, not_false_eq_true, not_true_eq_false, Value.category, Nat.reduceEqDiff, Option.toList, List.cons_append, List.nil_append, List.drop_succ_cons, List.drop_zero, ax_qq_eq, ax_t_1536]
    exact fin
  · simp only [ax_W_cons, ax_I, ax_cmp, ax_ii, ax_ll, ax_li, ax_st1, ax_st2, ax_kl, ax_k2, ax_fit, ax_rtok, List.getElem?_cons_zero, List.getElem?_cons_succ, List.length_cons, List.length_nil, List.set_cons_zero, List.set_cons_succ, Nat.reduceAdd, Nat.reduceDiv, Nat.reduceMod, Nat.reduceMul, Nat.reduceLT, Nat.reduceLeDiff, Int32.reduceOfInt, Int64.reduceOfInt, true_and, and_true, and_self, true_or, or_true, false_implies, true_implies, not_false_eq_true, not_true_eq_false, Value.category, Nat.reduceEqDiff, Option.toList, List.cons_append, List.nil_append, List.drop_succ_cons, List.drop_zero, ax_qq_eq, ax_t_1536, ax_j_1536_555, ax_n_1536_555, S1, i1, v1, c1, i2, v2, c2]
    refine ax_inv_of (Nat.le_of_ble_eq_true rfl) (Nat.le_of_ble_eq_true rfl) (fun _ => x0_rcv X.1 _) (fun h => absurd h (by decide)) hn hs (xp_change_no (d := 1289) X.1 _ _ hy ?_)
    have f1 := xfd_rf es
    have X1 := X.1
    have M1 := qM_x Mh f1
    have XX1 := qX_x X X1 f1
    have SS := qS_x S f1
    have T1 := SS.1
    simp only [ax_W_cons, ax_I, ax_cmp, ax_ii, ax_ll, ax_li, ax_st1, ax_st2, ax_kl, ax_k2, ax_fit, ax_rtok, List.getElem?_cons_zero, List.getElem?_cons_succ, List.length_cons, List.length_nil, List.set_cons_zero, List.set_cons_succ, Nat.reduceAdd, Nat.reduceDiv, Nat.reduceMod, Nat.reduceMul, Nat.reduceLT, Nat.reduceLeDiff, Int32.reduceOfInt, Int64.reduceOfInt, true_and, and_true, and_self, true_or, or_true, false_implies, true_implies, not_false_eq_true, not_true_eq_false, Value.category, Nat.reduceEqDiff, Option.toList, List.cons_append, List.nil_append, List.drop_succ_cons, List.drop_zero, ax_qq_eq, ax_t_1536, T1, i1, v1, c1, i2, v2, c2]
    refine ax_inv_of (Nat.le_of_ble_eq_true rfl) (Nat.le_of_ble_eq_true rfl) (fun _ => mE_rcv M1.1.1 _) (fun h => absurd h (by decide)) hn hs (mp_change_no (d := 1289) M1.1 _ _ hy ?_)
    intro es2 st2 D2 f2
    have fin := fin es2 (qS_m SS f2) (qI_mk (qX_m XX1 f2) (qM_m M1 D2 f2) (qP_s P))
    simp only [ax_W_cons, ax_I, ax_cmp, ax_ii, ax_ll, ax_li, ax_st1, ax_st2, ax_kl, ax_k2, ax_fit, ax_rtok, List.getElem?_cons_zero, List.getElem?_cons_succ, List.length_cons, List.length_nil, List.set_cons_zero, List.set_cons_succ, Nat.reduceAdd, Nat.reduceDiv, Nat.reduceMod, Nat.reduceMul, Nat.reduceLT, Nat.reduceLeDiff, Int32.reduceOfInt, Int64.reduceOfInt, true_and, and_true, and_self, true_or, or_true, false_implies, true_implies, not_false_eq_true, not_true_eq_false, Value.category, Nat.reduceEqDiff, Option.toList, List.cons_append, List.nil_append, List.drop_succ_cons, List.drop_zero, ax_qq_eq, ax_t_1536]
    exact fin
theorem lw_beat (hal : ax_al n = 178) (hn : n ≤ 601024) (hs : sl ≤ 7293034) (hi : 7 * j + 7 ≤ N) (hN : N ≤ 3584) (S : qS es N xs) (X : qX es n k p hc kd pl0 ht hs' F1 F2 B Fe un U mk M L la lb lc t cs) (Mh : qM es n st w k p hc kd pm ht hs' F1 F2 B Fe un U mk M L la lb lc t cs) (P : qP j k p pm pl0 ht B Fe un U mk M L la lb lc t) (fin : ∀ es', qS es' N xs → qI es' n (j + 1) → ax_J ax_W 1300 601024 7293034 1536 1498 [some (.float 0), some (.ref 0), some (.ref 159), some (.ref 177), some (.int (nI (7 * j))), l5, l6] [] n sl es' R) : ax_J ax_W 1300 601024 7293034 1536 592 [some (.float 0), some (.ref 0), some (.ref 159), some (.ref 177), some (.int (nI (7 * j))), l5, l6] [] n sl es R := by
  obtain ⟨S1, fo, S2⟩ := id S
  have hB := P.2.1
  have hj : j < 1000 := by omega
  have hk := X.1.2.2.1.2
  have hp := X.1.2.2.2.1
  have hun := Mh.1.2.2.2.1
  have hzf := qP_fs P
  have hF1 := Mh.1.1.2.2.2.2.1
  have hF2 := mK_F2 Mh.1.1.2.2.2.2.2
  simp only [ax_W_cons, ax_I, ax_cmp, ax_ii, ax_ll, ax_li, ax_st1, ax_st2, ax_kl, ax_k2, ax_fit, ax_rtok, List.getElem?_cons_zero, List.getElem?_cons_succ, List.length_cons, List.length_nil, List.set_cons_zero, List.set_cons_succ, Nat.reduceAdd, Nat.reduceDiv, Nat.reduceMod, Nat.reduceMul, Nat.reduceLT, Nat.reduceLeDiff, Int32.reduceOfInt, Int64.reduceOfInt, true_and, and_true, and_self, true_or, or_true, false_implies, true_implies, not_false_eq_true, not_true_eq_false, Value.category, Nat.reduceEqDiff, Option.toList, List.cons_append, List.nil_append, List.drop_succ_cons, List.drop_zero, ax_qq_eq, ax_t_1536, ax_j_1536_592, ax_n_1536_592, S1]
  refine ax_inv_of (Nat.le_of_ble_eq_true rfl) (Nat.le_of_ble_eq_true rfl) (fun _ => x0_rcv X.1 _) (fun h => absurd h (by decide)) hn hs (xp_beat (d := 1289) X.1 hB hj ?_)
  intro es1 X1 f1
  have M1 := qM_x Mh f1
  have XX1 := qX_x X X1 f1
  have SS := qS_x S f1
  have T1 := SS.1
  simp only [ax_W_cons, ax_I, ax_cmp, ax_ii, ax_ll, ax_li, ax_st1, ax_st2, ax_kl, ax_k2, ax_fit, ax_rtok, List.getElem?_cons_zero, List.getElem?_cons_succ, List.length_cons, List.length_nil, List.set_cons_zero, List.set_cons_succ, Nat.reduceAdd, Nat.reduceDiv, Nat.reduceMod, Nat.reduceMul, Nat.reduceLT, Nat.reduceLeDiff, Int32.reduceOfInt, Int64.reduceOfInt, true_and, and_true, and_self, true_or, or_true, false_implies, true_implies, not_false_eq_true, not_true_eq_false, Value.category, Nat.reduceEqDiff, Option.toList, List.cons_append, List.nil_append, List.drop_succ_cons, List.drop_zero, ax_qq_eq, ax_t_1536, T1]
  refine ax_inv_of (Nat.le_of_ble_eq_true rfl) (Nat.le_of_ble_eq_true rfl) (fun _ => mE_rcv M1.1.1 _) (fun h => absurd h (by decide)) hn hs (mp_beat (d := 1289) hzf M1.1 hB hj ?_)
  intro es2 st2 D2 f2
  have fin := fin es2 (qS_m SS f2) (qI_mk (qX_m XX1 f2) (qM_m M1 D2 f2) (qP_B P hun ⟨zv_dr hk hF1 hB.1 1, Nat.succ_le_succ hB.2.1, zdn_pdn hF2 hB.2.2 1⟩))
  simp only [ax_W_cons, ax_I, ax_cmp, ax_ii, ax_ll, ax_li, ax_st1, ax_st2, ax_kl, ax_k2, ax_fit, ax_rtok, List.getElem?_cons_zero, List.getElem?_cons_succ, List.length_cons, List.length_nil, List.set_cons_zero, List.set_cons_succ, Nat.reduceAdd, Nat.reduceDiv, Nat.reduceMod, Nat.reduceMul, Nat.reduceLT, Nat.reduceLeDiff, Int32.reduceOfInt, Int64.reduceOfInt, true_and, and_true, and_self, true_or, or_true, false_implies, true_implies, not_false_eq_true, not_true_eq_false, Value.category, Nat.reduceEqDiff, Option.toList, List.cons_append, List.nil_append, List.drop_succ_cons, List.drop_zero, ax_qq_eq, ax_t_1536]
  exact fin
theorem lw_undo (hal : ax_al n = 178) (hn : n ≤ 601024) (hs : sl ≤ 7293034) (hi : 7 * j + 7 ≤ N) (hN : N ≤ 3584) (S : qS es N xs) (X : qX es n k p hc kd pl0 ht hs' F1 F2 B Fe un U mk M L la lb lc t cs) (Mh : qM es n st w k p hc kd pm ht hs' F1 F2 B Fe un U mk M L la lb lc t cs) (P : qP j k p pm pl0 ht B Fe un U mk M L la lb lc t) (fin : ∀ es', qS es' N xs → qI es' n (j + 1) → ax_J ax_W 1300 601024 7293034 1536 1498 [some (.float 0), some (.ref 0), some (.ref 159), some (.ref 177), some (.int (nI (7 * j))), l5, l6] [] n sl es' R) : ax_J ax_W 1300 601024 7293034 1536 605 [some (.float 0), some (.ref 0), some (.ref 159), some (.ref 177), some (.int (nI (7 * j))), l5, l6] [] n sl es R := by
  obtain ⟨S1, fo, S2⟩ := id S
  have hB := P.2.1
  have hj : j < 1000 := by omega
  have hk := X.1.2.2.1.2
  have hp := X.1.2.2.2.1
  have hun := Mh.1.2.2.2.1
  have hzf := qP_fs P
  cases un with
  | zero =>
    simp only [ax_W_cons, ax_I, ax_cmp, ax_ii, ax_ll, ax_li, ax_st1, ax_st2, ax_kl, ax_k2, ax_fit, ax_rtok, List.getElem?_cons_zero, List.getElem?_cons_succ, List.length_cons, List.length_nil, List.set_cons_zero, List.set_cons_succ, Nat.reduceAdd, Nat.reduceDiv, Nat.reduceMod, Nat.reduceMul, Nat.reduceLT, Nat.reduceLeDiff, Int32.reduceOfInt, Int64.reduceOfInt, true_and, and_true, and_self, true_or, or_true, false_implies, true_implies, not_false_eq_true, not_true_eq_false, Value.category, Nat.reduceEqDiff, Option.toList, List.cons_append, List.nil_append, List.drop_succ_cons, List.drop_zero, ax_qq_eq, ax_t_1536, ax_j_1536_605, ax_n_1536_605, S1]
    refine ax_inv_of (Nat.le_of_ble_eq_true rfl) (Nat.le_of_ble_eq_true rfl) (fun _ => x0_rcv X.1 _) (fun h => absurd h (by decide)) hn hs (xp_undo_no (d := 1289) X.1 ?_)
    have f1 := xfd_rf es
    have X1 := X.1
    have M1 := qM_x Mh f1
    have XX1 := qX_x X X1 f1
    have SS := qS_x S f1
    have T1 := SS.1
    simp only [ax_W_cons, ax_I, ax_cmp, ax_ii, ax_ll, ax_li, ax_st1, ax_st2, ax_kl, ax_k2, ax_fit, ax_rtok, List.getElem?_cons_zero, List.getElem?_cons_succ, List.length_cons, List.length_nil, List.set_cons_zero, List.set_cons_succ, Nat.reduceAdd, Nat.reduceDiv, Nat.reduceMod, Nat.reduceMul, Nat.reduceLT, Nat.reduceLeDiff, Int32.reduceOfInt, Int64.reduceOfInt, true_and, and_true, and_self, true_or, or_true, false_implies, true_implies, not_false_eq_true, not_true_eq_false, Value.category, Nat.reduceEqDiff, Option.toList, List.cons_append, List.nil_append, List.drop_succ_cons, List.drop_zero, ax_qq_eq, ax_t_1536, T1]
    refine ax_inv_of (Nat.le_of_ble_eq_true rfl) (Nat.le_of_ble_eq_true rfl) (fun _ => mE_rcv M1.1.1 _) (fun h => absurd h (by decide)) hn hs (mp_undo_no (d := 1289) M1.1 ?_)
    intro es2 st2 D2 f2
    have fin := fin es2 (qS_m SS f2) (qI_mk (qX_m XX1 f2) (qM_m M1 D2 f2) (qP_s P))
    simp only [ax_W_cons, ax_I, ax_cmp, ax_ii, ax_ll, ax_li, ax_st1, ax_st2, ax_kl, ax_k2, ax_fit, ax_rtok, List.getElem?_cons_zero, List.getElem?_cons_succ, List.length_cons, List.length_nil, List.set_cons_zero, List.set_cons_succ, Nat.reduceAdd, Nat.reduceDiv, Nat.reduceMod, Nat.reduceMul, Nat.reduceLT, Nat.reduceLeDiff, Int32.reduceOfInt, Int64.reduceOfInt, true_and, and_true, and_self, true_or, or_true, false_implies, true_implies, not_false_eq_true, not_true_eq_false, Value.category, Nat.reduceEqDiff, Option.toList, List.cons_append, List.nil_append, List.drop_succ_cons, List.drop_zero, ax_qq_eq, ax_t_1536]
    exact fin
  | succ un =>
    obtain ⟨p1, p2, p3, p4, p5⟩ := qP_s P
    simp only [ax_W_cons, ax_I, ax_cmp, ax_ii, ax_ll, ax_li, ax_st1, ax_st2, ax_kl, ax_k2, ax_fit, ax_rtok, List.getElem?_cons_zero, List.getElem?_cons_succ, List.length_cons, List.length_nil, List.set_cons_zero, List.set_cons_succ, Nat.reduceAdd, Nat.reduceDiv, Nat.reduceMod, Nat.reduceMul, Nat.reduceLT, Nat.reduceLeDiff, Int32.reduceOfInt, Int64.reduceOfInt, true_and, and_true, and_self, true_or, or_true, false_implies, true_implies, not_false_eq_true, not_true_eq_false, Value.category, Nat.reduceEqDiff, Option.toList, List.cons_append, List.nil_append, List.drop_succ_cons, List.drop_zero, ax_qq_eq, ax_t_1536, ax_j_1536_605, ax_n_1536_605, S1]
    refine ax_inv_of (Nat.le_of_ble_eq_true rfl) (Nat.le_of_ble_eq_true rfl) (fun _ => x0_rcv X.1 _) (fun h => absurd h (by decide)) hn hs (xp_undo_ok (d := 1289) X.1 ?_)
    intro es1 X1 f1
    have M1 := qM_x Mh f1
    have XX1 := qX_x X X1 f1
    have SS := qS_x S f1
    have T1 := SS.1
    simp only [ax_W_cons, ax_I, ax_cmp, ax_ii, ax_ll, ax_li, ax_st1, ax_st2, ax_kl, ax_k2, ax_fit, ax_rtok, List.getElem?_cons_zero, List.getElem?_cons_succ, List.length_cons, List.length_nil, List.set_cons_zero, List.set_cons_succ, Nat.reduceAdd, Nat.reduceDiv, Nat.reduceMod, Nat.reduceMul, Nat.reduceLT, Nat.reduceLeDiff, Int32.reduceOfInt, Int64.reduceOfInt, true_and, and_true, and_self, true_or, or_true, false_implies, true_implies, not_false_eq_true, not_true_eq_false, Value.category, Nat.reduceEqDiff, Option.toList, List.cons_append, List.nil_append, List.drop_succ_cons, List.drop_zero, ax_qq_eq, ax_t_1536, T1]
    refine ax_inv_of (Nat.le_of_ble_eq_true rfl) (Nat.le_of_ble_eq_true rfl) (fun _ => mE_rcv M1.1.1 _) (fun h => absurd h (by decide)) hn hs (mp_undo_ok (d := 1289) hzf M1.1 ?_)
    intro es2 st2 D2 f2
    have fin := fin es2 (qS_m SS f2) (qI_mk (qX_m XX1 f2) (qM_m M1 D2 f2) (⟨p1, p4 un (by omega), p3, fun u hu => p4 u (by omega), p5⟩))
    simp only [ax_W_cons, ax_I, ax_cmp, ax_ii, ax_ll, ax_li, ax_st1, ax_st2, ax_kl, ax_k2, ax_fit, ax_rtok, List.getElem?_cons_zero, List.getElem?_cons_succ, List.length_cons, List.length_nil, List.set_cons_zero, List.set_cons_succ, Nat.reduceAdd, Nat.reduceDiv, Nat.reduceMod, Nat.reduceMul, Nat.reduceLT, Nat.reduceLeDiff, Int32.reduceOfInt, Int64.reduceOfInt, true_and, and_true, and_self, true_or, or_true, false_implies, true_implies, not_false_eq_true, not_true_eq_false, Value.category, Nat.reduceEqDiff, Option.toList, List.cons_append, List.nil_append, List.drop_succ_cons, List.drop_zero, ax_qq_eq, ax_t_1536]
    exact fin
theorem lw_feel (hal : ax_al n = 178) (hn : n ≤ 601024) (hs : sl ≤ 7293034) (hi : 7 * j + 7 ≤ N) (hN : N ≤ 3584) (S : qS es N xs) (X : qX es n k p hc kd pl0 ht hs' F1 F2 B Fe un U mk M L la lb lc t cs) (Mh : qM es n st w k p hc kd pm ht hs' F1 F2 B Fe un U mk M L la lb lc t cs) (P : qP j k p pm pl0 ht B Fe un U mk M L la lb lc t) (fin : ∀ es', qS es' N xs → qI es' n (j + 1) → ax_J ax_W 1300 601024 7293034 1536 1498 [some (.float 0), some (.ref 0), some (.ref 159), some (.ref 177), some (.int (nI (7 * j))), l5, l6] [] n sl es' R) : ax_J ax_W 1300 601024 7293034 1536 854 [some (.float 0), some (.ref 0), some (.ref 159), some (.ref 177), some (.int (nI (7 * j))), l5, l6] [] n sl es R := by
  obtain ⟨S1, fo, S2⟩ := id S
  have hB := P.2.1
  have hj : j < 1000 := by omega
  have hk := X.1.2.2.1.2
  have hp := X.1.2.2.2.1
  have hun := Mh.1.2.2.2.1
  have hzf := qP_fs P
  have i1 : nI (7 * j) + 1 = nI (7 * j + 1) := kn_add _ 1
  have v1 : vp_in (nI (7 * j + 1)) N := nI_in (by omega) (by omega)
  have c1 : (nI (7 * j + 1)).toNatClampNeg = 7 * j + 1 := nI_clamp (by omega)
  have i2 : nI (7 * j) + 2 = nI (7 * j + 2) := kn_add _ 2
  have v2 : vp_in (nI (7 * j + 2)) N := nI_in (by omega) (by omega)
  have c2 : (nI (7 * j + 2)).toNatClampNeg = 7 * j + 2 := nI_clamp (by omega)
  have i3 : nI (7 * j) + 3 = nI (7 * j + 3) := kn_add _ 3
  have v3 : vp_in (nI (7 * j + 3)) N := nI_in (by omega) (by omega)
  have c3 : (nI (7 * j + 3)).toNatClampNeg = 7 * j + 3 := nI_clamp (by omega)
  have hz8 : Fe.1 ≤ 8 := P.2.2.1.1
  by_cases hy : kx_op k (nI B.2.1) (xs (7 * j + 1)) = true ∧ kx_in (xs (7 * j + 2)) 0 12 = true ∧ kx_in (xs (7 * j + 3)) 0 99 = true ∧ Fe.1 < 8
  · obtain ⟨c, hc1, e1, hBit⟩ := kx_op_nI hk hy.1
    obtain ⟨m, -, hm, e2⟩ := kx_in_nI (a := 0) (b := 12) (by decide) (by decide) hy.2.1
    obtain ⟨x, -, hx, e3⟩ := kx_in_nI (a := 0) (b := 99) (by decide) (by decide) hy.2.2.1
    simp only [ax_W_cons, ax_I, ax_cmp, ax_ii, ax_ll, ax_li, ax_st1, ax_st2, ax_kl, ax_k2, ax_fit, ax_rtok, List.getElem?_cons_zero, List.getElem?_cons_succ, List.length_cons, List.length_nil, List.set_cons_zero, List.set_cons_succ, Nat.reduceAdd, Nat.reduceDiv, Nat.reduceMod, Nat.reduceMul, Nat.reduceLT, Nat.reduceLeDiff, Int32.reduceOfInt, Int64.reduceOfInt, true_and, and_true, and_self, true_or, or_true, false_implies, true_implies, not_false_eq_true, not_true_eq_false, Value.category, Nat.reduceEqDiff, Option.toList, List.cons_append, List.nil_append, List.drop_succ_cons, List.drop_zero, ax_qq_eq, ax_t_1536, ax_j_1536_854, ax_n_1536_854, S1, i1, v1, c1, i2, v2, c2, i3, v3, c3, e1, e2, e3]
    refine ax_inv_of (Nat.le_of_ble_eq_true rfl) (Nat.le_of_ble_eq_true rfl) (fun _ => x0_rcv X.1 _) (fun h => absurd h (by decide)) hn hs (xp_feel_ok (d := 1289) X.1 hc1 hBit hm hx hy.2.2.2 ?_)
    intro es1 X1 f1
    have M1 := qM_x Mh f1
    have XX1 := qX_x X X1 f1
    have SS := qS_x S f1
    have T1 := SS.1
    simp only [ax_W_cons, ax_I, ax_cmp, ax_ii, ax_ll, ax_li, ax_st1, ax_st2, ax_kl, ax_k2, ax_fit, ax_rtok, List.getElem?_cons_zero, List.getElem?_cons_succ, List.length_cons, List.length_nil, List.set_cons_zero, List.set_cons_succ, Nat.reduceAdd, Nat.reduceDiv, Nat.reduceMod, Nat.reduceMul, Nat.reduceLT, Nat.reduceLeDiff, Int32.reduceOfInt, Int64.reduceOfInt, true_and, and_true, and_self, true_or, or_true, false_implies, true_implies, not_false_eq_true, not_true_eq_false, Value.category, Nat.reduceEqDiff, Option.toList, List.cons_append, List.nil_append, List.drop_succ_cons, List.drop_zero, ax_qq_eq, ax_t_1536, T1, i1, v1, c1, i2, v2, c2, i3, v3, c3, e1, e2, e3]
    refine ax_inv_of (Nat.le_of_ble_eq_true rfl) (Nat.le_of_ble_eq_true rfl) (fun _ => mE_rcv M1.1.1 _) (fun h => absurd h (by decide)) hn hs (mp_feel_ok (d := 1289) hzf M1.1 hB hc1 hBit hm hx hy.2.2.2 ?_)
    intro es2 st2 D2 f2
    have fin := fin es2 (qS_m SS f2) (qI_mk (qX_m XX1 f2) (qM_m M1 D2 f2) (qP_F P hc1 hm hx hy.2.2.2))
    simp only [ax_W_cons, ax_I, ax_cmp, ax_ii, ax_ll, ax_li, ax_st1, ax_st2, ax_kl, ax_k2, ax_fit, ax_rtok, List.getElem?_cons_zero, List.getElem?_cons_succ, List.length_cons, List.length_nil, List.set_cons_zero, List.set_cons_succ, Nat.reduceAdd, Nat.reduceDiv, Nat.reduceMod, Nat.reduceMul, Nat.reduceLT, Nat.reduceLeDiff, Int32.reduceOfInt, Int64.reduceOfInt, true_and, and_true, and_self, true_or, or_true, false_implies, true_implies, not_false_eq_true, not_true_eq_false, Value.category, Nat.reduceEqDiff, Option.toList, List.cons_append, List.nil_append, List.drop_succ_cons, List.drop_zero, ax_qq_eq, ax_t_1536]
    exact fin
  · simp only [ax_W_cons, ax_I, ax_cmp, ax_ii, ax_ll, ax_li, ax_st1, ax_st2, ax_kl, ax_k2, ax_fit, ax_rtok, List.getElem?_cons_zero, List.getElem?_cons_succ, List.length_cons, List.length_nil, List.set_cons_zero, List.set_cons_succ, Nat.reduceAdd, Nat.reduceDiv, Nat.reduceMod, Nat.reduceMul, Nat.reduceLT, Nat.reduceLeDiff, Int32.reduceOfInt, Int64.reduceOfInt, true_and, and_true, and_self, true_or, or_true, false_implies, true_implies, not_false_eq_true, not_true_eq_false, Value.category, Nat.reduceEqDiff, Option.toList, List.cons_append, List.nil_append, List.drop_succ_cons, List.drop_zero, ax_qq_eq, ax_t_1536, ax_j_1536_854, ax_n_1536_854, S1, i1, v1, c1, i2, v2, c2, i3, v3, c3]
    refine ax_inv_of (Nat.le_of_ble_eq_true rfl) (Nat.le_of_ble_eq_true rfl) (fun _ => x0_rcv X.1 _) (fun h => absurd h (by decide)) hn hs (xp_feel_no (d := 1289) X.1 hz8 _ _ _ hy ?_)
    have f1 := xfd_rf es
    have X1 := X.1
    have M1 := qM_x Mh f1
    have XX1 := qX_x X X1 f1
    have SS := qS_x S f1
    have T1 := SS.1
    simp only [ax_W_cons, ax_I, ax_cmp, ax_ii, ax_ll, ax_li, ax_st1, ax_st2, ax_kl, ax_k2, ax_fit, ax_rtok, List.getElem?_cons_zero, List.getElem?_cons_succ, List.length_cons, List.length_nil, List.set_cons_zero, List.set_cons_succ, Nat.reduceAdd, Nat.reduceDiv, Nat.reduceMod, Nat.reduceMul, Nat.reduceLT, Nat.reduceLeDiff, Int32.reduceOfInt, Int64.reduceOfInt, true_and, and_true, and_self, true_or, or_true, false_implies, true_implies, not_false_eq_true, not_true_eq_false, Value.category, Nat.reduceEqDiff, Option.toList, List.cons_append, List.nil_append, List.drop_succ_cons, List.drop_zero, ax_qq_eq, ax_t_1536, T1, i1, v1, c1, i2, v2, c2, i3, v3, c3]
    refine ax_inv_of (Nat.le_of_ble_eq_true rfl) (Nat.le_of_ble_eq_true rfl) (fun _ => mE_rcv M1.1.1 _) (fun h => absurd h (by decide)) hn hs (mp_feel_no (d := 1289) M1.1 hB hz8 _ _ _ hy ?_)
    intro es2 st2 D2 f2
    have fin := fin es2 (qS_m SS f2) (qI_mk (qX_m XX1 f2) (qM_m M1 D2 f2) (qP_s P))
    simp only [ax_W_cons, ax_I, ax_cmp, ax_ii, ax_ll, ax_li, ax_st1, ax_st2, ax_kl, ax_k2, ax_fit, ax_rtok, List.getElem?_cons_zero, List.getElem?_cons_succ, List.length_cons, List.length_nil, List.set_cons_zero, List.set_cons_succ, Nat.reduceAdd, Nat.reduceDiv, Nat.reduceMod, Nat.reduceMul, Nat.reduceLT, Nat.reduceLeDiff, Int32.reduceOfInt, Int64.reduceOfInt, true_and, and_true, and_self, true_or, or_true, false_implies, true_implies, not_false_eq_true, not_true_eq_false, Value.category, Nat.reduceEqDiff, Option.toList, List.cons_append, List.nil_append, List.drop_succ_cons, List.drop_zero, ax_qq_eq, ax_t_1536]
    exact fin
theorem lw_count (hal : ax_al n = 178) (hn : n ≤ 601024) (hs : sl ≤ 7293034) (hi : 7 * j + 7 ≤ N) (hN : N ≤ 3584) (S : qS es N xs) (X : qX es n k p hc kd pl0 ht hs' F1 F2 B Fe un U mk M L la lb lc t cs) (Mh : qM es n st w k p hc kd pm ht hs' F1 F2 B Fe un U mk M L la lb lc t cs) (P : qP j k p pm pl0 ht B Fe un U mk M L la lb lc t) (fin : ∀ es', qS es' N xs → qI es' n (j + 1) → ax_J ax_W 1300 601024 7293034 1536 1498 [some (.float 0), some (.ref 0), some (.ref 159), some (.ref 177), some (.int (nI (7 * j))), l5, l6] [] n sl es' R) : ax_J ax_W 1300 601024 7293034 1536 1473 [some (.float 0), some (.ref 0), some (.ref 159), some (.ref 177), some (.int (nI (7 * j))), l5, l6] [] n sl es R := by
  obtain ⟨S1, fo, S2⟩ := id S
  have hB := P.2.1
  have hj : j < 1000 := by omega
  have hk := X.1.2.2.1.2
  have hp := X.1.2.2.2.1
  have hun := Mh.1.2.2.2.1
  have hzf := qP_fs P
  have i1 : nI (7 * j) + 1 = nI (7 * j + 1) := kn_add _ 1
  have v1 : vp_in (nI (7 * j + 1)) N := nI_in (by omega) (by omega)
  have c1 : (nI (7 * j + 1)).toNatClampNeg = 7 * j + 1 := nI_clamp (by omega)
  simp only [ax_W_cons, ax_I, ax_cmp, ax_ii, ax_ll, ax_li, ax_st1, ax_st2, ax_kl, ax_k2, ax_fit, ax_rtok, List.getElem?_cons_zero, List.getElem?_cons_succ, List.length_cons, List.length_nil, List.set_cons_zero, List.set_cons_succ, Nat.reduceAdd, Nat.reduceDiv, Nat.reduceMod, Nat.reduceMul, Nat.reduceLT, Nat.reduceLeDiff, Int32.reduceOfInt, Int64.reduceOfInt, true_and, and_true, and_self, true_or, or_true, false_implies, true_implies, not_false_eq_true, not_true_eq_false, Value.category, Nat.reduceEqDiff, Option.toList, List.cons_append, List.nil_append, List.drop_succ_cons, List.drop_zero, ax_qq_eq, ax_t_1536, ax_j_1536_1473, ax_n_1536_1473, S1, i1, v1, c1]
  refine ax_inv_of (Nat.le_of_ble_eq_true rfl) (Nat.le_of_ble_eq_true rfl) (fun _ => x0_rcv X.1 _) (fun h => absurd h (by decide)) hn hs (xp_count (d := 1289) X.1 (Nat.lt_of_le_of_lt hB.2.1 (by omega)) X.2.1 _ ?_)
  have f1 := xfd_rf es
  have X1 := X.1
  have M1 := qM_x Mh f1
  have XX1 := qX_x X X1 f1
  have SS := qS_x S f1
  have T1 := SS.1
  simp only [ax_W_cons, ax_I, ax_cmp, ax_ii, ax_ll, ax_li, ax_st1, ax_st2, ax_kl, ax_k2, ax_fit, ax_rtok, List.getElem?_cons_zero, List.getElem?_cons_succ, List.length_cons, List.length_nil, List.set_cons_zero, List.set_cons_succ, Nat.reduceAdd, Nat.reduceDiv, Nat.reduceMod, Nat.reduceMul, Nat.reduceLT, Nat.reduceLeDiff, Int32.reduceOfInt, Int64.reduceOfInt, true_and, and_true, and_self, true_or, or_true, false_implies, true_implies, not_false_eq_true, not_true_eq_false, Value.category, Nat.reduceEqDiff, Option.toList, List.cons_append, List.nil_append, List.drop_succ_cons, List.drop_zero, ax_qq_eq, ax_t_1536, T1, i1, v1, c1]
  refine ax_inv_of (Nat.le_of_ble_eq_true rfl) (Nat.le_of_ble_eq_true rfl) (fun _ => mE_rcv M1.1.1 _) (fun h => absurd h (by decide)) hn hs (mp_count (d := 1289) M1.1 hB hj M1.2.2 M1.2.1.1 _ ?_)
  intro es2 st2 D2 f2
  have fin := fin es2 (qS_m SS f2) (qI_mk (qX_m XX1 f2) (qM_m M1 D2 f2) (qP_s P))
  simp only [ax_W_cons, ax_I, ax_cmp, ax_ii, ax_ll, ax_li, ax_st1, ax_st2, ax_kl, ax_k2, ax_fit, ax_rtok, List.getElem?_cons_zero, List.getElem?_cons_succ, List.length_cons, List.length_nil, List.set_cons_zero, List.set_cons_succ, Nat.reduceAdd, Nat.reduceDiv, Nat.reduceMod, Nat.reduceMul, Nat.reduceLT, Nat.reduceLeDiff, Int32.reduceOfInt, Int64.reduceOfInt, true_and, and_true, and_self, true_or, or_true, false_implies, true_implies, not_false_eq_true, not_true_eq_false, Value.category, Nat.reduceEqDiff, Option.toList, List.cons_append, List.nil_append, List.drop_succ_cons, List.drop_zero, ax_qq_eq, ax_t_1536]
  exact fin
theorem lw_mark (hal : ax_al n = 178) (hn : n ≤ 601024) (hs : sl ≤ 7293034) (hi : 7 * j + 7 ≤ N) (hN : N ≤ 3584) (S : qS es N xs) (X : qX es n k p hc kd pl0 ht hs' F1 F2 B Fe un U mk M L la lb lc t cs) (Mh : qM es n st w k p hc kd pm ht hs' F1 F2 B Fe un U mk M L la lb lc t cs) (P : qP j k p pm pl0 ht B Fe un U mk M L la lb lc t) (fin : ∀ es', qS es' N xs → qI es' n (j + 1) → ax_J ax_W 1300 601024 7293034 1536 1498 [some (.float 0), some (.ref 0), some (.ref 159), some (.ref 177), some (.int (nI (7 * j))), l5, l6] [] n sl es' R) : ax_J ax_W 1300 601024 7293034 1536 1420 [some (.float 0), some (.ref 0), some (.ref 159), some (.ref 177), some (.int (nI (7 * j))), l5, l6] [] n sl es R := by
  obtain ⟨S1, fo, S2⟩ := id S
  have hB := P.2.1
  have hj : j < 1000 := by omega
  have hk := X.1.2.2.1.2
  have hp := X.1.2.2.2.1
  have hun := Mh.1.2.2.2.1
  have hzf := qP_fs P
  have i1 : nI (7 * j) + 1 = nI (7 * j + 1) := kn_add _ 1
  have v1 : vp_in (nI (7 * j + 1)) N := nI_in (by omega) (by omega)
  have c1 : (nI (7 * j + 1)).toNatClampNeg = 7 * j + 1 := nI_clamp (by omega)
  have i2 : nI (7 * j) + 2 = nI (7 * j + 2) := kn_add _ 2
  have v2 : vp_in (nI (7 * j + 2)) N := nI_in (by omega) (by omega)
  have c2 : (nI (7 * j + 2)).toNatClampNeg = 7 * j + 2 := nI_clamp (by omega)
  have c10 : ¬ (1 : Int32) = 0 := by decide
  by_cases hb : xs (7 * j + 2) = 0
  · cases hy : kx_in (xs (7 * j + 1)) 0 3
    · have hno : ¬ (kx_in (xs (7 * j + 1)) 0 3 = true ∧ (¬ (0 : Int32) = 0 → mk (xs (7 * j + 1)).toNatClampNeg = true)) := fun z => by rw [hy] at z; exact absurd z.1 (by decide)
      simp only [ax_W_cons, ax_I, ax_cmp, ax_ii, ax_ll, ax_li, ax_st1, ax_st2, ax_kl, ax_k2, ax_fit, ax_rtok, List.getElem?_cons_zero, List.getElem?_cons_succ, List.length_cons, List.length_nil, List.set_cons_zero, List.set_cons_succ, Nat.reduceAdd, Nat.reduceDiv, Nat.reduceMod, Nat.reduceMul, Nat.reduceLT, Nat.reduceLeDiff, Int32.reduceOfInt, Int64.reduceOfInt, true_and, and_true, and_self, true_or, or_true, false_implies, true_implies, not_false_eq_true, not_true_eq_false, Value.category, Nat.reduceEqDiff, Option.toList, List.cons_append, List.nil_append, List.drop_succ_cons, List.drop_zero, ax_qq_eq, ax_t_1536, ax_j_1536_1420, ax_n_1536_1420, ax_j_1536_1440, ax_n_1536_1440, ax_j_1536_1441, ax_n_1536_1441, S1, i1, v1, c1, i2, v2, c2, hb]
      refine ax_inv_of (Nat.le_of_ble_eq_true rfl) (Nat.le_of_ble_eq_true rfl) (fun _ => x0_rcv X.1 _) (fun h => absurd h (by decide)) hn hs (xp_mark_no (d := 1289) X.1 _ _ hno ?_)
      have f1 := xfd_rf es
      have X1 := X.1
      have M1 := qM_x Mh f1
      have XX1 := qX_x X X1 f1
      have SS := qS_x S f1
      have T1 := SS.1
      simp only [ax_W_cons, ax_I, ax_cmp, ax_ii, ax_ll, ax_li, ax_st1, ax_st2, ax_kl, ax_k2, ax_fit, ax_rtok, List.getElem?_cons_zero, List.getElem?_cons_succ, List.length_cons, List.length_nil, List.set_cons_zero, List.set_cons_succ, Nat.reduceAdd, Nat.reduceDiv, Nat.reduceMod, Nat.reduceMul, Nat.reduceLT, Nat.reduceLeDiff, Int32.reduceOfInt, Int64.reduceOfInt, true_and, and_true, and_self, true_or, or_true, false_implies, true_implies, not_false_eq_true, not_true_eq_false, Value.category, Nat.reduceEqDiff, Option.toList, List.cons_append, List.nil_append, List.drop_succ_cons, List.drop_zero, ax_qq_eq, ax_t_1536, ax_j_1536_1464, ax_n_1536_1464, ax_j_1536_1465, ax_n_1536_1465, T1, i1, v1, c1, i2, v2, c2, hb]
      refine ax_inv_of (Nat.le_of_ble_eq_true rfl) (Nat.le_of_ble_eq_true rfl) (fun _ => mE_rcv M1.1.1 _) (fun h => absurd h (by decide)) hn hs (mp_mark_no (d := 1289) M1.1 _ _ hno ?_)
      intro es2 st2 D2 f2
      have fin := fin es2 (qS_m SS f2) (qI_mk (qX_m XX1 f2) (qM_m M1 D2 f2) (qP_s P))
      simp only [ax_W_cons, ax_I, ax_cmp, ax_ii, ax_ll, ax_li, ax_st1, ax_st2, ax_kl, ax_k2, ax_fit, ax_rtok, List.getElem?_cons_zero, List.getElem?_cons_succ, List.length_cons, List.length_nil, List.set_cons_zero, List.set_cons_succ, Nat.reduceAdd, Nat.reduceDiv, Nat.reduceMod, Nat.reduceMul, Nat.reduceLT, Nat.reduceLeDiff, Int32.reduceOfInt, Int64.reduceOfInt, true_and, and_true, and_self, true_or, or_true, false_implies, true_implies, not_false_eq_true, not_true_eq_false, Value.category, Nat.reduceEqDiff, Option.toList, List.cons_append, List.nil_append, List.drop_succ_cons, List.drop_zero, ax_qq_eq, ax_t_1536]
      exact fin
    · obtain ⟨m, -, hm, e1⟩ := kx_in_nI (a := 0) (b := 3) (by decide) (by decide) hy
      simp only [ax_W_cons, ax_I, ax_cmp, ax_ii, ax_ll, ax_li, ax_st1, ax_st2, ax_kl, ax_k2, ax_fit, ax_rtok, List.getElem?_cons_zero, List.getElem?_cons_succ, List.length_cons, List.length_nil, List.set_cons_zero, List.set_cons_succ, Nat.reduceAdd, Nat.reduceDiv, Nat.reduceMod, Nat.reduceMul, Nat.reduceLT, Nat.reduceLeDiff, Int32.reduceOfInt, Int64.reduceOfInt, true_and, and_true, and_self, true_or, or_true, false_implies, true_implies, not_false_eq_true, not_true_eq_false, Value.category, Nat.reduceEqDiff, Option.toList, List.cons_append, List.nil_append, List.drop_succ_cons, List.drop_zero, ax_qq_eq, ax_t_1536, ax_j_1536_1420, ax_n_1536_1420, ax_j_1536_1440, ax_n_1536_1440, ax_j_1536_1441, ax_n_1536_1441, S1, i1, v1, c1, i2, v2, c2, hb, e1]
      refine ax_inv_of (Nat.le_of_ble_eq_true rfl) (Nat.le_of_ble_eq_true rfl) (fun _ => x0_rcv X.1 _) (fun h => absurd h (by decide)) hn hs (xp_mark_lay (d := 1289) X.1 hm ?_)
      intro es1 X1 f1
      have M1 := qM_x Mh f1
      have XX1 := qX_x X X1 f1
      have SS := qS_x S f1
      have T1 := SS.1
      simp only [ax_W_cons, ax_I, ax_cmp, ax_ii, ax_ll, ax_li, ax_st1, ax_st2, ax_kl, ax_k2, ax_fit, ax_rtok, List.getElem?_cons_zero, List.getElem?_cons_succ, List.length_cons, List.length_nil, List.set_cons_zero, List.set_cons_succ, Nat.reduceAdd, Nat.reduceDiv, Nat.reduceMod, Nat.reduceMul, Nat.reduceLT, Nat.reduceLeDiff, Int32.reduceOfInt, Int64.reduceOfInt, true_and, and_true, and_self, true_or, or_true, false_implies, true_implies, not_false_eq_true, not_true_eq_false, Value.category, Nat.reduceEqDiff, Option.toList, List.cons_append, List.nil_append, List.drop_succ_cons, List.drop_zero, ax_qq_eq, ax_t_1536, ax_j_1536_1464, ax_n_1536_1464, ax_j_1536_1465, ax_n_1536_1465, T1, i1, v1, c1, i2, v2, c2, hb, e1]
      refine ax_inv_of (Nat.le_of_ble_eq_true rfl) (Nat.le_of_ble_eq_true rfl) (fun _ => mE_rcv M1.1.1 _) (fun h => absurd h (by decide)) hn hs (mp_mark_lay (d := 1289) hzf M1.1 hm ?_)
      intro es2 st2 D2 f2
      have fin := fin es2 (qS_m SS f2) (qI_mk (qX_m XX1 f2) (qM_m M1 D2 f2) (qP_L P))
      simp only [ax_W_cons, ax_I, ax_cmp, ax_ii, ax_ll, ax_li, ax_st1, ax_st2, ax_kl, ax_k2, ax_fit, ax_rtok, List.getElem?_cons_zero, List.getElem?_cons_succ, List.length_cons, List.length_nil, List.set_cons_zero, List.set_cons_succ, Nat.reduceAdd, Nat.reduceDiv, Nat.reduceMod, Nat.reduceMul, Nat.reduceLT, Nat.reduceLeDiff, Int32.reduceOfInt, Int64.reduceOfInt, true_and, and_true, and_self, true_or, or_true, false_implies, true_implies, not_false_eq_true, not_true_eq_false, Value.category, Nat.reduceEqDiff, Option.toList, List.cons_append, List.nil_append, List.drop_succ_cons, List.drop_zero, ax_qq_eq, ax_t_1536]
      exact fin
  · by_cases hy : kx_in (xs (7 * j + 1)) 0 3 = true ∧ mk (xs (7 * j + 1)).toNatClampNeg = true
    · obtain ⟨m, -, hm, e1⟩ := kx_in_nI (a := 0) (b := 3) (by decide) (by decide) hy.1
      have hmk : mk m = true := by
        have := hy.2
        rw [e1, nI_clamp (by omega)] at this
        exact this
      simp only [ax_W_cons, ax_I, ax_cmp, ax_ii, ax_ll, ax_li, ax_st1, ax_st2, ax_kl, ax_k2, ax_fit, ax_rtok, List.getElem?_cons_zero, List.getElem?_cons_succ, List.length_cons, List.length_nil, List.set_cons_zero, List.set_cons_succ, Nat.reduceAdd, Nat.reduceDiv, Nat.reduceMod, Nat.reduceMul, Nat.reduceLT, Nat.reduceLeDiff, Int32.reduceOfInt, Int64.reduceOfInt, true_and, and_true, and_self, true_or, or_true, false_implies, true_implies, not_false_eq_true, not_true_eq_false, Value.category, Nat.reduceEqDiff, Option.toList, List.cons_append, List.nil_append, List.drop_succ_cons, List.drop_zero, ax_qq_eq, ax_t_1536, ax_j_1536_1420, ax_n_1536_1420, ax_j_1536_1441, ax_n_1536_1441, S1, i1, v1, c1, i2, v2, c2, hb, e1, c10]
      refine ax_inv_of (Nat.le_of_ble_eq_true rfl) (Nat.le_of_ble_eq_true rfl) (fun _ => x0_rcv X.1 _) (fun h => absurd h (by decide)) hn hs (xp_mark_go (d := 1289) X.1 c10 hm hmk ?_)
      intro es1 X1 f1
      have M1 := qM_x Mh f1
      have XX1 := qX_x X X1 f1
      have SS := qS_x S f1
      have T1 := SS.1
      simp only [ax_W_cons, ax_I, ax_cmp, ax_ii, ax_ll, ax_li, ax_st1, ax_st2, ax_kl, ax_k2, ax_fit, ax_rtok, List.getElem?_cons_zero, List.getElem?_cons_succ, List.length_cons, List.length_nil, List.set_cons_zero, List.set_cons_succ, Nat.reduceAdd, Nat.reduceDiv, Nat.reduceMod, Nat.reduceMul, Nat.reduceLT, Nat.reduceLeDiff, Int32.reduceOfInt, Int64.reduceOfInt, true_and, and_true, and_self, true_or, or_true, false_implies, true_implies, not_false_eq_true, not_true_eq_false, Value.category, Nat.reduceEqDiff, Option.toList, List.cons_append, List.nil_append, List.drop_succ_cons, List.drop_zero, ax_qq_eq, ax_t_1536, ax_j_1536_1465, ax_n_1536_1465, T1, i1, v1, c1, i2, v2, c2, hb, e1, c10]
      refine ax_inv_of (Nat.le_of_ble_eq_true rfl) (Nat.le_of_ble_eq_true rfl) (fun _ => mE_rcv M1.1.1 _) (fun h => absurd h (by decide)) hn hs (mp_mark_go (d := 1289) hzf M1.1 c10 hm hmk ?_)
      intro es2 st2 D2 f2
      have fin := fin es2 (qS_m SS f2) (qI_mk (qX_m XX1 f2) (qM_m M1 D2 f2) (qP_G P hm hmk))
      simp only [ax_W_cons, ax_I, ax_cmp, ax_ii, ax_ll, ax_li, ax_st1, ax_st2, ax_kl, ax_k2, ax_fit, ax_rtok, List.getElem?_cons_zero, List.getElem?_cons_succ, List.length_cons, List.length_nil, List.set_cons_zero, List.set_cons_succ, Nat.reduceAdd, Nat.reduceDiv, Nat.reduceMod, Nat.reduceMul, Nat.reduceLT, Nat.reduceLeDiff, Int32.reduceOfInt, Int64.reduceOfInt, true_and, and_true, and_self, true_or, or_true, false_implies, true_implies, not_false_eq_true, not_true_eq_false, Value.category, Nat.reduceEqDiff, Option.toList, List.cons_append, List.nil_append, List.drop_succ_cons, List.drop_zero, ax_qq_eq, ax_t_1536]
      exact fin
    · have hno : ¬ (kx_in (xs (7 * j + 1)) 0 3 = true ∧ (¬ (1 : Int32) = 0 → mk (xs (7 * j + 1)).toNatClampNeg = true)) := fun z => hy ⟨z.1, z.2 c10⟩
      simp only [ax_W_cons, ax_I, ax_cmp, ax_ii, ax_ll, ax_li, ax_st1, ax_st2, ax_kl, ax_k2, ax_fit, ax_rtok, List.getElem?_cons_zero, List.getElem?_cons_succ, List.length_cons, List.length_nil, List.set_cons_zero, List.set_cons_succ, Nat.reduceAdd, Nat.reduceDiv, Nat.reduceMod, Nat.reduceMul, Nat.reduceLT, Nat.reduceLeDiff, Int32.reduceOfInt, Int64.reduceOfInt, true_and, and_true, and_self, true_or, or_true, false_implies, true_implies, not_false_eq_true, not_true_eq_false, Value.category, Nat.reduceEqDiff, Option.toList, List.cons_append, List.nil_append, List.drop_succ_cons, List.drop_zero, ax_qq_eq, ax_t_1536, ax_j_1536_1420, ax_n_1536_1420, ax_j_1536_1441, ax_n_1536_1441, S1, i1, v1, c1, i2, v2, c2, hb, c10]
      refine ax_inv_of (Nat.le_of_ble_eq_true rfl) (Nat.le_of_ble_eq_true rfl) (fun _ => x0_rcv X.1 _) (fun h => absurd h (by decide)) hn hs (xp_mark_no (d := 1289) X.1 _ _ hno ?_)
      have f1 := xfd_rf es
      have X1 := X.1
      have M1 := qM_x Mh f1
      have XX1 := qX_x X X1 f1
      have SS := qS_x S f1
      have T1 := SS.1
      simp only [ax_W_cons, ax_I, ax_cmp, ax_ii, ax_ll, ax_li, ax_st1, ax_st2, ax_kl, ax_k2, ax_fit, ax_rtok, List.getElem?_cons_zero, List.getElem?_cons_succ, List.length_cons, List.length_nil, List.set_cons_zero, List.set_cons_succ, Nat.reduceAdd, Nat.reduceDiv, Nat.reduceMod, Nat.reduceMul, Nat.reduceLT, Nat.reduceLeDiff, Int32.reduceOfInt, Int64.reduceOfInt, true_and, and_true, and_self, true_or, or_true, false_implies, true_implies, not_false_eq_true, not_true_eq_false, Value.category, Nat.reduceEqDiff, Option.toList, List.cons_append, List.nil_append, List.drop_succ_cons, List.drop_zero, ax_qq_eq, ax_t_1536, ax_j_1536_1465, ax_n_1536_1465, T1, i1, v1, c1, i2, v2, c2, hb, c10]
      refine ax_inv_of (Nat.le_of_ble_eq_true rfl) (Nat.le_of_ble_eq_true rfl) (fun _ => mE_rcv M1.1.1 _) (fun h => absurd h (by decide)) hn hs (mp_mark_no (d := 1289) M1.1 _ _ hno ?_)
      intro es2 st2 D2 f2
      have fin := fin es2 (qS_m SS f2) (qI_mk (qX_m XX1 f2) (qM_m M1 D2 f2) (qP_s P))
      simp only [ax_W_cons, ax_I, ax_cmp, ax_ii, ax_ll, ax_li, ax_st1, ax_st2, ax_kl, ax_k2, ax_fit, ax_rtok, List.getElem?_cons_zero, List.getElem?_cons_succ, List.length_cons, List.length_nil, List.set_cons_zero, List.set_cons_succ, Nat.reduceAdd, Nat.reduceDiv, Nat.reduceMod, Nat.reduceMul, Nat.reduceLT, Nat.reduceLeDiff, Int32.reduceOfInt, Int64.reduceOfInt, true_and, and_true, and_self, true_or, or_true, false_implies, true_implies, not_false_eq_true, not_true_eq_false, Value.category, Nat.reduceEqDiff, Option.toList, List.cons_append, List.nil_append, List.drop_succ_cons, List.drop_zero, ax_qq_eq, ax_t_1536]
      exact fin
end LL
