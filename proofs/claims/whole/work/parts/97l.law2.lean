/-! the law: askings -/
section LL
variable {j n sl k p hc L un N : Nat} {es : ax_H} {kd pm pl0 ht hs' la lb lc xs : Nat → Int32} {F1 F2 : Int32 → Int32 → Int32 → Int32 → Int32} {B : zB} {Fe : zF} {U : Nat → zB} {mk : Nat → Bool} {M : Nat → zB × zF} {t : zTp} {cs : List zCr} {st : Nat → Int32} {w : mW9} {R : ax_Q} {l5 l6 : Option Value}
theorem lw_shake (hal : ax_al n = 178) (hn : n ≤ 601024) (hs : sl ≤ 7293034) (hi : 7 * j + 7 ≤ N) (hN : N ≤ 3584) (S : qS es N xs) (X : qX es n k p hc kd pl0 ht hs' F1 F2 B Fe un U mk M L la lb lc t cs) (Mh : qM es n st w k p hc kd pm ht hs' F1 F2 B Fe un U mk M L la lb lc t cs) (P : qP j k p pm pl0 ht B Fe un U mk M L la lb lc t) (fin : ∀ es', qS es' N xs → qI es' n (j + 1) → ax_J ax_W 1300 601024 7293034 1536 1498 [some (.float 0), some (.ref 0), some (.ref 159), some (.ref 177), some (.int (nI (7 * j))), l5, l6] [] n sl es' R) : ax_J ax_W 1300 601024 7293034 1536 393 [some (.float 0), some (.ref 0), some (.ref 159), some (.ref 177), some (.int (nI (7 * j))), l5, l6] [] n sl es R := by
  obtain ⟨S1, fo, S2⟩ := id S
  have hB := P.2.1
  have hj : j < 1000 := by omega
  have i1 : nI (7 * j) + 1 = nI (7 * j + 1) := kn_add _ 1
  have v1 : vp_in (nI (7 * j + 1)) N := nI_in (by omega) (by omega)
  have c1 : (nI (7 * j + 1)).toNatClampNeg = 7 * j + 1 := nI_clamp (by omega)
  simp only [ax_W_cons, ax_I, ax_cmp, ax_ii, ax_ll, ax_li, ax_st1, ax_st2, ax_kl, ax_k2, ax_fit, ax_rtok, List.getElem?_cons_zero, List.getElem?_cons_succ, List.length_cons, List.length_nil, List.set_cons_zero, List.set_cons_succ, Nat.reduceAdd, Nat.reduceDiv, Nat.reduceMod, Nat.reduceMul, Nat.reduceLT, Nat.reduceLeDiff, Int32.reduceOfInt, Int64.reduceOfInt, true_and, and_true, and_self, true_or, or_true, false_implies, true_implies, not_false_eq_true, not_true_eq_false, Value.category, Nat.reduceEqDiff, Option.toList, List.cons_append, List.nil_append, List.drop_succ_cons, List.drop_zero, ax_qq_eq, ax_t_1536, ax_j_1536_393, ax_n_1536_393, S1, i1, v1, c1]
  refine ax_inv_of (Nat.le_of_ble_eq_true rfl) (Nat.le_of_ble_eq_true rfl) (fun _ => x0_rcv X.1 _) (fun h => absurd h (by decide)) hn hs (xp_shake (d := 1289) X.1 _ ?_)
  have f1 := xfd_rf es
  have X1 := X.1
  have M1 := qM_x Mh f1
  have XX1 := qX_x X X1 f1
  have SS := qS_x S f1
  have T1 := SS.1
  have Z1 := mD_Z M1.1 hB hj
  simp only [ax_W_cons, ax_I, ax_cmp, ax_ii, ax_ll, ax_li, ax_st1, ax_st2, ax_kl, ax_k2, ax_fit, ax_rtok, List.getElem?_cons_zero, List.getElem?_cons_succ, List.length_cons, List.length_nil, List.set_cons_zero, List.set_cons_succ, Nat.reduceAdd, Nat.reduceDiv, Nat.reduceMod, Nat.reduceMul, Nat.reduceLT, Nat.reduceLeDiff, Int32.reduceOfInt, Int64.reduceOfInt, true_and, and_true, and_self, true_or, or_true, false_implies, true_implies, not_false_eq_true, not_true_eq_false, Value.category, Nat.reduceEqDiff, Option.toList, List.cons_append, List.nil_append, List.drop_succ_cons, List.drop_zero, ax_qq_eq, ax_t_1536, T1, i1, v1, c1]
  refine ax_inv_of (Nat.le_of_ble_eq_true rfl) (Nat.le_of_ble_eq_true rfl) (fun _ => mE_rcv M1.1.1 _) (fun h => absurd h (by decide)) hn hs (mp_shake (d := 1289) Z1 _ ?_)
  intro es2 q2
  have fin := fin es2 (qS_m SS (mq_d q2)) (qI_q XX1 M1 P q2)
  simp only [ax_W_cons, ax_I, ax_cmp, ax_ii, ax_ll, ax_li, ax_st1, ax_st2, ax_kl, ax_k2, ax_fit, ax_rtok, List.getElem?_cons_zero, List.getElem?_cons_succ, List.length_cons, List.length_nil, List.set_cons_zero, List.set_cons_succ, Nat.reduceAdd, Nat.reduceDiv, Nat.reduceMod, Nat.reduceMul, Nat.reduceLT, Nat.reduceLeDiff, Int32.reduceOfInt, Int64.reduceOfInt, true_and, and_true, and_self, true_or, or_true, false_implies, true_implies, not_false_eq_true, not_true_eq_false, Value.category, Nat.reduceEqDiff, Option.toList, List.cons_append, List.nil_append, List.drop_succ_cons, List.drop_zero, ax_qq_eq, ax_t_1536]
  exact fin
theorem lw_courtier (hal : ax_al n = 178) (hn : n ≤ 601024) (hs : sl ≤ 7293034) (hi : 7 * j + 7 ≤ N) (hN : N ≤ 3584) (S : qS es N xs) (X : qX es n k p hc kd pl0 ht hs' F1 F2 B Fe un U mk M L la lb lc t cs) (Mh : qM es n st w k p hc kd pm ht hs' F1 F2 B Fe un U mk M L la lb lc t cs) (P : qP j k p pm pl0 ht B Fe un U mk M L la lb lc t) (fin : ∀ es', qS es' N xs → qI es' n (j + 1) → ax_J ax_W 1300 601024 7293034 1536 1498 [some (.float 0), some (.ref 0), some (.ref 159), some (.ref 177), some (.int (nI (7 * j))), l5, l6] [] n sl es' R) : ax_J ax_W 1300 601024 7293034 1536 418 [some (.float 0), some (.ref 0), some (.ref 159), some (.ref 177), some (.int (nI (7 * j))), l5, l6] [] n sl es R := by
  obtain ⟨S1, fo, S2⟩ := id S
  have hB := P.2.1
  have hj : j < 1000 := by omega
  have i1 : nI (7 * j) + 1 = nI (7 * j + 1) := kn_add _ 1
  have v1 : vp_in (nI (7 * j + 1)) N := nI_in (by omega) (by omega)
  have c1 : (nI (7 * j + 1)).toNatClampNeg = 7 * j + 1 := nI_clamp (by omega)
  have i2 : nI (7 * j) + 2 = nI (7 * j + 2) := kn_add _ 2
  have v2 : vp_in (nI (7 * j + 2)) N := nI_in (by omega) (by omega)
  have c2 : (nI (7 * j + 2)).toNatClampNeg = 7 * j + 2 := nI_clamp (by omega)
  simp only [ax_W_cons, ax_I, ax_cmp, ax_ii, ax_ll, ax_li, ax_st1, ax_st2, ax_kl, ax_k2, ax_fit, ax_rtok, List.getElem?_cons_zero, List.getElem?_cons_succ, List.length_cons, List.length_nil, List.set_cons_zero, List.set_cons_succ, Nat.reduceAdd, Nat.reduceDiv, Nat.reduceMod, Nat.reduceMul, Nat.reduceLT, Nat.reduceLeDiff, Int32.reduceOfInt, Int64.reduceOfInt, true_and, and_true, and_self, true_or, or_true, false_implies, true_implies, not_false_eq_true, not_true_eq_false, Value.category, Nat.reduceEqDiff, Option.toList, List.cons_append, List.nil_append, List.drop_succ_cons, List.drop_zero, ax_qq_eq, ax_t_1536, ax_j_1536_418, ax_n_1536_418, S1, i1, v1, c1, i2, v2, c2]
  refine ax_inv_of (Nat.le_of_ble_eq_true rfl) (Nat.le_of_ble_eq_true rfl) (fun _ => x0_rcv X.1 _) (fun h => absurd h (by decide)) hn hs (xp_courtier (d := 1289) X.1 _ _ ?_)
  have f1 := xfd_rf es
  have X1 := X.1
  have M1 := qM_x Mh f1
  have XX1 := qX_x X X1 f1
  have SS := qS_x S f1
  have T1 := SS.1
  have Z1 := mD_Z M1.1 hB hj
  simp only [ax_W_cons, ax_I, ax_cmp, ax_ii, ax_ll, ax_li, ax_st1, ax_st2, ax_kl, ax_k2, ax_fit, ax_rtok, List.getElem?_cons_zero, List.getElem?_cons_succ, List.length_cons, List.length_nil, List.set_cons_zero, List.set_cons_succ, Nat.reduceAdd, Nat.reduceDiv, Nat.reduceMod, Nat.reduceMul, Nat.reduceLT, Nat.reduceLeDiff, Int32.reduceOfInt, Int64.reduceOfInt, true_and, and_true, and_self, true_or, or_true, false_implies, true_implies, not_false_eq_true, not_true_eq_false, Value.category, Nat.reduceEqDiff, Option.toList, List.cons_append, List.nil_append, List.drop_succ_cons, List.drop_zero, ax_qq_eq, ax_t_1536, T1, i1, v1, c1, i2, v2, c2]
  refine ax_inv_of (Nat.le_of_ble_eq_true rfl) (Nat.le_of_ble_eq_true rfl) (fun _ => mE_rcv M1.1.1 _) (fun h => absurd h (by decide)) hn hs (mp_courtier (d := 1289) Z1 _ _ ?_)
  intro es2 q2
  have fin := fin es2 (qS_m SS (mq_d q2)) (qI_q XX1 M1 P q2)
  simp only [ax_W_cons, ax_I, ax_cmp, ax_ii, ax_ll, ax_li, ax_st1, ax_st2, ax_kl, ax_k2, ax_fit, ax_rtok, List.getElem?_cons_zero, List.getElem?_cons_succ, List.length_cons, List.length_nil, List.set_cons_zero, List.set_cons_succ, Nat.reduceAdd, Nat.reduceDiv, Nat.reduceMod, Nat.reduceMul, Nat.reduceLT, Nat.reduceLeDiff, Int32.reduceOfInt, Int64.reduceOfInt, true_and, and_true, and_self, true_or, or_true, false_implies, true_implies, not_false_eq_true, not_true_eq_false, Value.category, Nat.reduceEqDiff, Option.toList, List.cons_append, List.nil_append, List.drop_succ_cons, List.drop_zero, ax_qq_eq, ax_t_1536]
  exact fin
theorem lw_judged (hal : ax_al n = 178) (hn : n ≤ 601024) (hs : sl ≤ 7293034) (hi : 7 * j + 7 ≤ N) (hN : N ≤ 3584) (S : qS es N xs) (X : qX es n k p hc kd pl0 ht hs' F1 F2 B Fe un U mk M L la lb lc t cs) (Mh : qM es n st w k p hc kd pm ht hs' F1 F2 B Fe un U mk M L la lb lc t cs) (P : qP j k p pm pl0 ht B Fe un U mk M L la lb lc t) (fin : ∀ es', qS es' N xs → qI es' n (j + 1) → ax_J ax_W 1300 601024 7293034 1536 1498 [some (.float 0), some (.ref 0), some (.ref 159), some (.ref 177), some (.int (nI (7 * j))), l5, l6] [] n sl es' R) : ax_J ax_W 1300 601024 7293034 1536 618 [some (.float 0), some (.ref 0), some (.ref 159), some (.ref 177), some (.int (nI (7 * j))), l5, l6] [] n sl es R := by
  obtain ⟨S1, fo, S2⟩ := id S
  have hB := P.2.1
  have hj : j < 1000 := by omega
  have i1 : nI (7 * j) + 1 = nI (7 * j + 1) := kn_add _ 1
  have v1 : vp_in (nI (7 * j + 1)) N := nI_in (by omega) (by omega)
  have c1 : (nI (7 * j + 1)).toNatClampNeg = 7 * j + 1 := nI_clamp (by omega)
  have hpl := kpl_of X.1.2.2.1.1 P.2.2.2.2.2.2.1
  simp only [ax_W_cons, ax_I, ax_cmp, ax_ii, ax_ll, ax_li, ax_st1, ax_st2, ax_kl, ax_k2, ax_fit, ax_rtok, List.getElem?_cons_zero, List.getElem?_cons_succ, List.length_cons, List.length_nil, List.set_cons_zero, List.set_cons_succ, Nat.reduceAdd, Nat.reduceDiv, Nat.reduceMod, Nat.reduceMul, Nat.reduceLT, Nat.reduceLeDiff, Int32.reduceOfInt, Int64.reduceOfInt, true_and, and_true, and_self, true_or, or_true, false_implies, true_implies, not_false_eq_true, not_true_eq_false, Value.category, Nat.reduceEqDiff, Option.toList, List.cons_append, List.nil_append, List.drop_succ_cons, List.drop_zero, ax_qq_eq, ax_t_1536, ax_j_1536_618, ax_n_1536_618, S1, i1, v1, c1]
  refine ax_inv_of (Nat.le_of_ble_eq_true rfl) (Nat.le_of_ble_eq_true rfl) (fun _ => x0_rcv X.1 _) (fun h => absurd h (by decide)) hn hs (xp_judged (d := 1289) X.1 hB hj _ P.2.2.2.2.2.2.2.1 hpl P.2.2.2.2.2.1 ?_)
  intro es1 X1 f1
  have M1 := qM_x Mh f1
  have XX1 := qX_x X X1 f1
  have SS := qS_x S f1
  have T1 := SS.1
  have Z1 := mD_Z M1.1 hB hj
  simp only [ax_W_cons, ax_I, ax_cmp, ax_ii, ax_ll, ax_li, ax_st1, ax_st2, ax_kl, ax_k2, ax_fit, ax_rtok, List.getElem?_cons_zero, List.getElem?_cons_succ, List.length_cons, List.length_nil, List.set_cons_zero, List.set_cons_succ, Nat.reduceAdd, Nat.reduceDiv, Nat.reduceMod, Nat.reduceMul, Nat.reduceLT, Nat.reduceLeDiff, Int32.reduceOfInt, Int64.reduceOfInt, true_and, and_true, and_self, true_or, or_true, false_implies, true_implies, not_false_eq_true, not_true_eq_false, Value.category, Nat.reduceEqDiff, Option.toList, List.cons_append, List.nil_append, List.drop_succ_cons, List.drop_zero, ax_qq_eq, ax_t_1536, T1, i1, v1, c1]
  refine ax_inv_of (Nat.le_of_ble_eq_true rfl) (Nat.le_of_ble_eq_true rfl) (fun _ => mE_rcv M1.1.1 _) (fun h => absurd h (by decide)) hn hs (mp_judged (d := 1289) Z1 P.2.2.2.2.2.2.1 hpl M1.2.2 P.2.2.2.2.2.1 _ ?_)
  intro es2 q2
  have fin := fin es2 (qS_m SS (mq_d q2)) (qI_q XX1 M1 P q2)
  simp only [ax_W_cons, ax_I, ax_cmp, ax_ii, ax_ll, ax_li, ax_st1, ax_st2, ax_kl, ax_k2, ax_fit, ax_rtok, List.getElem?_cons_zero, List.getElem?_cons_succ, List.length_cons, List.length_nil, List.set_cons_zero, List.set_cons_succ, Nat.reduceAdd, Nat.reduceDiv, Nat.reduceMod, Nat.reduceMul, Nat.reduceLT, Nat.reduceLeDiff, Int32.reduceOfInt, Int64.reduceOfInt, true_and, and_true, and_self, true_or, or_true, false_implies, true_implies, not_false_eq_true, not_true_eq_false, Value.category, Nat.reduceEqDiff, Option.toList, List.cons_append, List.nil_append, List.drop_succ_cons, List.drop_zero, ax_qq_eq, ax_t_1536]
  exact fin
theorem lw_later (hal : ax_al n = 178) (hn : n ≤ 601024) (hs : sl ≤ 7293034) (hi : 7 * j + 7 ≤ N) (hN : N ≤ 3584) (S : qS es N xs) (X : qX es n k p hc kd pl0 ht hs' F1 F2 B Fe un U mk M L la lb lc t cs) (Mh : qM es n st w k p hc kd pm ht hs' F1 F2 B Fe un U mk M L la lb lc t cs) (P : qP j k p pm pl0 ht B Fe un U mk M L la lb lc t) (fin : ∀ es', qS es' N xs → qI es' n (j + 1) → ax_J ax_W 1300 601024 7293034 1536 1498 [some (.float 0), some (.ref 0), some (.ref 159), some (.ref 177), some (.int (nI (7 * j))), l5, l6] [] n sl es' R) : ax_J ax_W 1300 601024 7293034 1536 643 [some (.float 0), some (.ref 0), some (.ref 159), some (.ref 177), some (.int (nI (7 * j))), l5, l6] [] n sl es R := by
  obtain ⟨S1, fo, S2⟩ := id S
  have hB := P.2.1
  have hj : j < 1000 := by omega
  have i1 : nI (7 * j) + 1 = nI (7 * j + 1) := kn_add _ 1
  have v1 : vp_in (nI (7 * j + 1)) N := nI_in (by omega) (by omega)
  have c1 : (nI (7 * j + 1)).toNatClampNeg = 7 * j + 1 := nI_clamp (by omega)
  have i2 : nI (7 * j) + 2 = nI (7 * j + 2) := kn_add _ 2
  have v2 : vp_in (nI (7 * j + 2)) N := nI_in (by omega) (by omega)
  have c2 : (nI (7 * j + 2)).toNatClampNeg = 7 * j + 2 := nI_clamp (by omega)
  simp only [ax_W_cons, ax_I, ax_cmp, ax_ii, ax_ll, ax_li, ax_st1, ax_st2, ax_kl, ax_k2, ax_fit, ax_rtok, List.getElem?_cons_zero, List.getElem?_cons_succ, List.length_cons, List.length_nil, List.set_cons_zero, List.set_cons_succ, Nat.reduceAdd, Nat.reduceDiv, Nat.reduceMod, Nat.reduceMul, Nat.reduceLT, Nat.reduceLeDiff, Int32.reduceOfInt, Int64.reduceOfInt, true_and, and_true, and_self, true_or, or_true, false_implies, true_implies, not_false_eq_true, not_true_eq_false, Value.category, Nat.reduceEqDiff, Option.toList, List.cons_append, List.nil_append, List.drop_succ_cons, List.drop_zero, ax_qq_eq, ax_t_1536, ax_j_1536_643, ax_n_1536_643, S1, i1, v1, c1, i2, v2, c2]
  refine ax_inv_of (Nat.le_of_ble_eq_true rfl) (Nat.le_of_ble_eq_true rfl) (fun _ => x0_rcv X.1 _) (fun h => absurd h (by decide)) hn hs (xp_later (d := 1289) X.1 hB hj _ _  ?_)
  intro es1 X1 f1
  have M1 := qM_x Mh f1
  have XX1 := qX_x X X1 f1
  have SS := qS_x S f1
  have T1 := SS.1
  have Z1 := mD_Z M1.1 hB hj
  simp only [ax_W_cons, ax_I, ax_cmp, ax_ii, ax_ll, ax_li, ax_st1, ax_st2, ax_kl, ax_k2, ax_fit, ax_rtok, List.getElem?_cons_zero, List.getElem?_cons_succ, List.length_cons, List.length_nil, List.set_cons_zero, List.set_cons_succ, Nat.reduceAdd, Nat.reduceDiv, Nat.reduceMod, Nat.reduceMul, Nat.reduceLT, Nat.reduceLeDiff, Int32.reduceOfInt, Int64.reduceOfInt, true_and, and_true, and_self, true_or, or_true, false_implies, true_implies, not_false_eq_true, not_true_eq_false, Value.category, Nat.reduceEqDiff, Option.toList, List.cons_append, List.nil_append, List.drop_succ_cons, List.drop_zero, ax_qq_eq, ax_t_1536, T1, i1, v1, c1, i2, v2, c2]
  refine ax_inv_of (Nat.le_of_ble_eq_true rfl) (Nat.le_of_ble_eq_true rfl) (fun _ => mE_rcv M1.1.1 _) (fun h => absurd h (by decide)) hn hs (mp_later (d := 1289) Z1 _ _ ?_)
  intro es2 q2
  have fin := fin es2 (qS_m SS (mq_d q2)) (qI_q XX1 M1 P q2)
  simp only [ax_W_cons, ax_I, ax_cmp, ax_ii, ax_ll, ax_li, ax_st1, ax_st2, ax_kl, ax_k2, ax_fit, ax_rtok, List.getElem?_cons_zero, List.getElem?_cons_succ, List.length_cons, List.length_nil, List.set_cons_zero, List.set_cons_succ, Nat.reduceAdd, Nat.reduceDiv, Nat.reduceMod, Nat.reduceMul, Nat.reduceLT, Nat.reduceLeDiff, Int32.reduceOfInt, Int64.reduceOfInt, true_and, and_true, and_self, true_or, or_true, false_implies, true_implies, not_false_eq_true, not_true_eq_false, Value.category, Nat.reduceEqDiff, Option.toList, List.cons_append, List.nil_append, List.drop_succ_cons, List.drop_zero, ax_qq_eq, ax_t_1536]
  exact fin
theorem lw_still (hal : ax_al n = 178) (hn : n ≤ 601024) (hs : sl ≤ 7293034) (hi : 7 * j + 7 ≤ N) (hN : N ≤ 3584) (S : qS es N xs) (X : qX es n k p hc kd pl0 ht hs' F1 F2 B Fe un U mk M L la lb lc t cs) (Mh : qM es n st w k p hc kd pm ht hs' F1 F2 B Fe un U mk M L la lb lc t cs) (P : qP j k p pm pl0 ht B Fe un U mk M L la lb lc t) (fin : ∀ es', qS es' N xs → qI es' n (j + 1) → ax_J ax_W 1300 601024 7293034 1536 1498 [some (.float 0), some (.ref 0), some (.ref 159), some (.ref 177), some (.int (nI (7 * j))), l5, l6] [] n sl es' R) : ax_J ax_W 1300 601024 7293034 1536 680 [some (.float 0), some (.ref 0), some (.ref 159), some (.ref 177), some (.int (nI (7 * j))), l5, l6] [] n sl es R := by
  obtain ⟨S1, fo, S2⟩ := id S
  have hB := P.2.1
  have hj : j < 1000 := by omega
  simp only [ax_W_cons, ax_I, ax_cmp, ax_ii, ax_ll, ax_li, ax_st1, ax_st2, ax_kl, ax_k2, ax_fit, ax_rtok, List.getElem?_cons_zero, List.getElem?_cons_succ, List.length_cons, List.length_nil, List.set_cons_zero, List.set_cons_succ, Nat.reduceAdd, Nat.reduceDiv, Nat.reduceMod, Nat.reduceMul, Nat.reduceLT, Nat.reduceLeDiff, Int32.reduceOfInt, Int64.reduceOfInt, true_and, and_true, and_self, true_or, or_true, false_implies, true_implies, not_false_eq_true, not_true_eq_false, Value.category, Nat.reduceEqDiff, Option.toList, List.cons_append, List.nil_append, List.drop_succ_cons, List.drop_zero, ax_qq_eq, ax_t_1536, ax_j_1536_680, ax_n_1536_680, S1]
  refine ax_inv_of (Nat.le_of_ble_eq_true rfl) (Nat.le_of_ble_eq_true rfl) (fun _ => x0_rcv X.1 _) (fun h => absurd h (by decide)) hn hs (xp_still (d := 1289) X.1 hB hj  ?_)
  intro es1 X1 f1
  have M1 := qM_x Mh f1
  have XX1 := qX_x X X1 f1
  have SS := qS_x S f1
  have T1 := SS.1
  have Z1 := mD_Z M1.1 hB hj
  simp only [ax_W_cons, ax_I, ax_cmp, ax_ii, ax_ll, ax_li, ax_st1, ax_st2, ax_kl, ax_k2, ax_fit, ax_rtok, List.getElem?_cons_zero, List.getElem?_cons_succ, List.length_cons, List.length_nil, List.set_cons_zero, List.set_cons_succ, Nat.reduceAdd, Nat.reduceDiv, Nat.reduceMod, Nat.reduceMul, Nat.reduceLT, Nat.reduceLeDiff, Int32.reduceOfInt, Int64.reduceOfInt, true_and, and_true, and_self, true_or, or_true, false_implies, true_implies, not_false_eq_true, not_true_eq_false, Value.category, Nat.reduceEqDiff, Option.toList, List.cons_append, List.nil_append, List.drop_succ_cons, List.drop_zero, ax_qq_eq, ax_t_1536, T1]
  refine ax_inv_of (Nat.le_of_ble_eq_true rfl) (Nat.le_of_ble_eq_true rfl) (fun _ => mE_rcv M1.1.1 _) (fun h => absurd h (by decide)) hn hs (mp_still (d := 1289) Z1 ?_)
  intro es2 q2
  have fin := fin es2 (qS_m SS (mq_d q2)) (qI_q XX1 M1 P q2)
  simp only [ax_W_cons, ax_I, ax_cmp, ax_ii, ax_ll, ax_li, ax_st1, ax_st2, ax_kl, ax_k2, ax_fit, ax_rtok, List.getElem?_cons_zero, List.getElem?_cons_succ, List.length_cons, List.length_nil, List.set_cons_zero, List.set_cons_succ, Nat.reduceAdd, Nat.reduceDiv, Nat.reduceMod, Nat.reduceMul, Nat.reduceLT, Nat.reduceLeDiff, Int32.reduceOfInt, Int64.reduceOfInt, true_and, and_true, and_self, true_or, or_true, false_implies, true_implies, not_false_eq_true, not_true_eq_false, Value.category, Nat.reduceEqDiff, Option.toList, List.cons_append, List.nil_append, List.drop_succ_cons, List.drop_zero, ax_qq_eq, ax_t_1536]
  exact fin
theorem lw_peak (hal : ax_al n = 178) (hn : n ≤ 601024) (hs : sl ≤ 7293034) (hi : 7 * j + 7 ≤ N) (hN : N ≤ 3584) (S : qS es N xs) (X : qX es n k p hc kd pl0 ht hs' F1 F2 B Fe un U mk M L la lb lc t cs) (Mh : qM es n st w k p hc kd pm ht hs' F1 F2 B Fe un U mk M L la lb lc t cs) (P : qP j k p pm pl0 ht B Fe un U mk M L la lb lc t) (fin : ∀ es', qS es' N xs → qI es' n (j + 1) → ax_J ax_W 1300 601024 7293034 1536 1498 [some (.float 0), some (.ref 0), some (.ref 159), some (.ref 177), some (.int (nI (7 * j))), l5, l6] [] n sl es' R) : ax_J ax_W 1300 601024 7293034 1536 693 [some (.float 0), some (.ref 0), some (.ref 159), some (.ref 177), some (.int (nI (7 * j))), l5, l6] [] n sl es R := by
  obtain ⟨S1, fo, S2⟩ := id S
  have hB := P.2.1
  have hj : j < 1000 := by omega
  have i1 : nI (7 * j) + 1 = nI (7 * j + 1) := kn_add _ 1
  have v1 : vp_in (nI (7 * j + 1)) N := nI_in (by omega) (by omega)
  have c1 : (nI (7 * j + 1)).toNatClampNeg = 7 * j + 1 := nI_clamp (by omega)
  simp only [ax_W_cons, ax_I, ax_cmp, ax_ii, ax_ll, ax_li, ax_st1, ax_st2, ax_kl, ax_k2, ax_fit, ax_rtok, List.getElem?_cons_zero, List.getElem?_cons_succ, List.length_cons, List.length_nil, List.set_cons_zero, List.set_cons_succ, Nat.reduceAdd, Nat.reduceDiv, Nat.reduceMod, Nat.reduceMul, Nat.reduceLT, Nat.reduceLeDiff, Int32.reduceOfInt, Int64.reduceOfInt, true_and, and_true, and_self, true_or, or_true, false_implies, true_implies, not_false_eq_true, not_true_eq_false, Value.category, Nat.reduceEqDiff, Option.toList, List.cons_append, List.nil_append, List.drop_succ_cons, List.drop_zero, ax_qq_eq, ax_t_1536, ax_j_1536_693, ax_n_1536_693, S1, i1, v1, c1]
  refine ax_inv_of (Nat.le_of_ble_eq_true rfl) (Nat.le_of_ble_eq_true rfl) (fun _ => x0_rcv X.1 _) (fun h => absurd h (by decide)) hn hs (xp_peak (d := 1289) X.1 hB hj _  ?_)
  intro es1 X1 f1
  have M1 := qM_x Mh f1
  have XX1 := qX_x X X1 f1
  have SS := qS_x S f1
  have T1 := SS.1
  have Z1 := mD_Z M1.1 hB hj
  simp only [ax_W_cons, ax_I, ax_cmp, ax_ii, ax_ll, ax_li, ax_st1, ax_st2, ax_kl, ax_k2, ax_fit, ax_rtok, List.getElem?_cons_zero, List.getElem?_cons_succ, List.length_cons, List.length_nil, List.set_cons_zero, List.set_cons_succ, Nat.reduceAdd, Nat.reduceDiv, Nat.reduceMod, Nat.reduceMul, Nat.reduceLT, Nat.reduceLeDiff, Int32.reduceOfInt, Int64.reduceOfInt, true_and, and_true, and_self, true_or, or_true, false_implies, true_implies, not_false_eq_true, not_true_eq_false, Value.category, Nat.reduceEqDiff, Option.toList, List.cons_append, List.nil_append, List.drop_succ_cons, List.drop_zero, ax_qq_eq, ax_t_1536, T1, i1, v1, c1]
  refine ax_inv_of (Nat.le_of_ble_eq_true rfl) (Nat.le_of_ble_eq_true rfl) (fun _ => mE_rcv M1.1.1 _) (fun h => absurd h (by decide)) hn hs (mp_peak (d := 1289) Z1 _ ?_)
  intro es2 q2
  have fin := fin es2 (qS_m SS (mq_d q2)) (qI_q XX1 M1 P q2)
  simp only [ax_W_cons, ax_I, ax_cmp, ax_ii, ax_ll, ax_li, ax_st1, ax_st2, ax_kl, ax_k2, ax_fit, ax_rtok, List.getElem?_cons_zero, List.getElem?_cons_succ, List.length_cons, List.length_nil, List.set_cons_zero, List.set_cons_succ, Nat.reduceAdd, Nat.reduceDiv, Nat.reduceMod, Nat.reduceMul, Nat.reduceLT, Nat.reduceLeDiff, Int32.reduceOfInt, Int64.reduceOfInt, true_and, and_true, and_self, true_or, or_true, false_implies, true_implies, not_false_eq_true, not_true_eq_false, Value.category, Nat.reduceEqDiff, Option.toList, List.cons_append, List.nil_append, List.drop_succ_cons, List.drop_zero, ax_qq_eq, ax_t_1536]
  exact fin
theorem lw_total (hal : ax_al n = 178) (hn : n ≤ 601024) (hs : sl ≤ 7293034) (hi : 7 * j + 7 ≤ N) (hN : N ≤ 3584) (S : qS es N xs) (X : qX es n k p hc kd pl0 ht hs' F1 F2 B Fe un U mk M L la lb lc t cs) (Mh : qM es n st w k p hc kd pm ht hs' F1 F2 B Fe un U mk M L la lb lc t cs) (P : qP j k p pm pl0 ht B Fe un U mk M L la lb lc t) (fin : ∀ es', qS es' N xs → qI es' n (j + 1) → ax_J ax_W 1300 601024 7293034 1536 1498 [some (.float 0), some (.ref 0), some (.ref 159), some (.ref 177), some (.int (nI (7 * j))), l5, l6] [] n sl es' R) : ax_J ax_W 1300 601024 7293034 1536 718 [some (.float 0), some (.ref 0), some (.ref 159), some (.ref 177), some (.int (nI (7 * j))), l5, l6] [] n sl es R := by
  obtain ⟨S1, fo, S2⟩ := id S
  have hB := P.2.1
  have hj : j < 1000 := by omega
  have i1 : nI (7 * j) + 1 = nI (7 * j + 1) := kn_add _ 1
  have v1 : vp_in (nI (7 * j + 1)) N := nI_in (by omega) (by omega)
  have c1 : (nI (7 * j + 1)).toNatClampNeg = 7 * j + 1 := nI_clamp (by omega)
  have i2 : nI (7 * j) + 2 = nI (7 * j + 2) := kn_add _ 2
  have v2 : vp_in (nI (7 * j + 2)) N := nI_in (by omega) (by omega)
  have c2 : (nI (7 * j + 2)).toNatClampNeg = 7 * j + 2 := nI_clamp (by omega)
  simp only [ax_W_cons, ax_I, ax_cmp, ax_ii, ax_ll, ax_li, ax_st1, ax_st2, ax_kl, ax_k2, ax_fit, ax_rtok, List.getElem?_cons_zero, List.getElem?_cons_succ, List.length_cons, List.length_nil, List.set_cons_zero, List.set_cons_succ, Nat.reduceAdd, Nat.reduceDiv, Nat.reduceMod, Nat.reduceMul, Nat.reduceLT, Nat.reduceLeDiff, Int32.reduceOfInt, Int64.reduceOfInt, true_and, and_true, and_self, true_or, or_true, false_implies, true_implies, not_false_eq_true, not_true_eq_false, Value.category, Nat.reduceEqDiff, Option.toList, List.cons_append, List.nil_append, List.drop_succ_cons, List.drop_zero, ax_qq_eq, ax_t_1536, ax_j_1536_718, ax_n_1536_718, S1, i1, v1, c1, i2, v2, c2]
  refine ax_inv_of (Nat.le_of_ble_eq_true rfl) (Nat.le_of_ble_eq_true rfl) (fun _ => x0_rcv X.1 _) (fun h => absurd h (by decide)) hn hs (xp_total (d := 1289) X.1 hB hj _ _  ?_)
  intro es1 X1 f1
  have M1 := qM_x Mh f1
  have XX1 := qX_x X X1 f1
  have SS := qS_x S f1
  have T1 := SS.1
  have Z1 := mD_Z M1.1 hB hj
  simp only [ax_W_cons, ax_I, ax_cmp, ax_ii, ax_ll, ax_li, ax_st1, ax_st2, ax_kl, ax_k2, ax_fit, ax_rtok, List.getElem?_cons_zero, List.getElem?_cons_succ, List.length_cons, List.length_nil, List.set_cons_zero, List.set_cons_succ, Nat.reduceAdd, Nat.reduceDiv, Nat.reduceMod, Nat.reduceMul, Nat.reduceLT, Nat.reduceLeDiff, Int32.reduceOfInt, Int64.reduceOfInt, true_and, and_true, and_self, true_or, or_true, false_implies, true_implies, not_false_eq_true, not_true_eq_false, Value.category, Nat.reduceEqDiff, Option.toList, List.cons_append, List.nil_append, List.drop_succ_cons, List.drop_zero, ax_qq_eq, ax_t_1536, T1, i1, v1, c1, i2, v2, c2]
  refine ax_inv_of (Nat.le_of_ble_eq_true rfl) (Nat.le_of_ble_eq_true rfl) (fun _ => mE_rcv M1.1.1 _) (fun h => absurd h (by decide)) hn hs (mp_total (d := 1289) Z1 _ _ ?_)
  intro es2 q2
  have fin := fin es2 (qS_m SS (mq_d q2)) (qI_q XX1 M1 P q2)
  simp only [ax_W_cons, ax_I, ax_cmp, ax_ii, ax_ll, ax_li, ax_st1, ax_st2, ax_kl, ax_k2, ax_fit, ax_rtok, List.getElem?_cons_zero, List.getElem?_cons_succ, List.length_cons, List.length_nil, List.set_cons_zero, List.set_cons_succ, Nat.reduceAdd, Nat.reduceDiv, Nat.reduceMod, Nat.reduceMul, Nat.reduceLT, Nat.reduceLeDiff, Int32.reduceOfInt, Int64.reduceOfInt, true_and, and_true, and_self, true_or, or_true, false_implies, true_implies, not_false_eq_true, not_true_eq_false, Value.category, Nat.reduceEqDiff, Option.toList, List.cons_append, List.nil_append, List.drop_succ_cons, List.drop_zero, ax_qq_eq, ax_t_1536]
  exact fin
theorem lw_nudge (hal : ax_al n = 178) (hn : n ≤ 601024) (hs : sl ≤ 7293034) (hi : 7 * j + 7 ≤ N) (hN : N ≤ 3584) (S : qS es N xs) (X : qX es n k p hc kd pl0 ht hs' F1 F2 B Fe un U mk M L la lb lc t cs) (Mh : qM es n st w k p hc kd pm ht hs' F1 F2 B Fe un U mk M L la lb lc t cs) (P : qP j k p pm pl0 ht B Fe un U mk M L la lb lc t) (fin : ∀ es', qS es' N xs → qI es' n (j + 1) → ax_J ax_W 1300 601024 7293034 1536 1498 [some (.float 0), some (.ref 0), some (.ref 159), some (.ref 177), some (.int (nI (7 * j))), l5, l6] [] n sl es' R) : ax_J ax_W 1300 601024 7293034 1536 755 [some (.float 0), some (.ref 0), some (.ref 159), some (.ref 177), some (.int (nI (7 * j))), l5, l6] [] n sl es R := by
  obtain ⟨S1, fo, S2⟩ := id S
  have hB := P.2.1
  have hj : j < 1000 := by omega
  have i1 : nI (7 * j) + 1 = nI (7 * j + 1) := kn_add _ 1
  have v1 : vp_in (nI (7 * j + 1)) N := nI_in (by omega) (by omega)
  have c1 : (nI (7 * j + 1)).toNatClampNeg = 7 * j + 1 := nI_clamp (by omega)
  have i2 : nI (7 * j) + 2 = nI (7 * j + 2) := kn_add _ 2
  have v2 : vp_in (nI (7 * j + 2)) N := nI_in (by omega) (by omega)
  have c2 : (nI (7 * j + 2)).toNatClampNeg = 7 * j + 2 := nI_clamp (by omega)
  have i3 : nI (7 * j) + 3 = nI (7 * j + 3) := kn_add _ 3
  have v3 : vp_in (nI (7 * j + 3)) N := nI_in (by omega) (by omega)
  have c3 : (nI (7 * j + 3)).toNatClampNeg = 7 * j + 3 := nI_clamp (by omega)
  have i4 : nI (7 * j) + 4 = nI (7 * j + 4) := kn_add _ 4
  have v4 : vp_in (nI (7 * j + 4)) N := nI_in (by omega) (by omega)
  have c4 : (nI (7 * j + 4)).toNatClampNeg = 7 * j + 4 := nI_clamp (by omega)
  simp only [ax_W_cons, ax_I, ax_cmp, ax_ii, ax_ll, ax_li, ax_st1, ax_st2, ax_kl, ax_k2, ax_fit, ax_rtok, List.getElem?_cons_zero, List.getElem?_cons_succ, List.length_cons, List.length_nil, List.set_cons_zero, List.set_cons_succ, Nat.reduceAdd, Nat.reduceDiv, Nat.reduceMod, Nat.reduceMul, Nat.reduceLT, Nat.reduceLeDiff, Int32.reduceOfInt, Int64.reduceOfInt, true_and, and_true, and_self, true_or, or_true, false_implies, true_implies, not_false_eq_true, not_true_eq_false, Value.category, Nat.reduceEqDiff, Option.toList, List.cons_append, List.nil_append, List.drop_succ_cons, List.drop_zero, ax_qq_eq, ax_t_1536, ax_j_1536_755, ax_n_1536_755, S1, i1, v1, c1, i2, v2, c2, i3, v3, c3, i4, v4, c4]
  refine ax_inv_of (Nat.le_of_ble_eq_true rfl) (Nat.le_of_ble_eq_true rfl) (fun _ => x0_rcv X.1 _) (fun h => absurd h (by decide)) hn hs (xp_nudge (d := 1289) X.1 hB hj _ _ _ _  ?_)
  intro es1 X1 f1
  have M1 := qM_x Mh f1
  have XX1 := qX_x X X1 f1
  have SS := qS_x S f1
  have T1 := SS.1
  have Z1 := mD_Z M1.1 hB hj
  simp only [ax_W_cons, ax_I, ax_cmp, ax_ii, ax_ll, ax_li, ax_st1, ax_st2, ax_kl, ax_k2, ax_fit, ax_rtok, List.getElem?_cons_zero, List.getElem?_cons_succ, List.length_cons, List.length_nil, List.set_cons_zero, List.set_cons_succ, Nat.reduceAdd, Nat.reduceDiv, Nat.reduceMod, Nat.reduceMul, Nat.reduceLT, Nat.reduceLeDiff, Int32.reduceOfInt, Int64.reduceOfInt, true_and, and_true, and_self, true_or, or_true, false_implies, true_implies, not_false_eq_true, not_true_eq_false, Value.category, Nat.reduceEqDiff, Option.toList, List.cons_append, List.nil_append, List.drop_succ_cons, List.drop_zero, ax_qq_eq, ax_t_1536, T1, i1, v1, c1, i2, v2, c2, i3, v3, c3, i4, v4, c4]
  refine ax_inv_of (Nat.le_of_ble_eq_true rfl) (Nat.le_of_ble_eq_true rfl) (fun _ => mE_rcv M1.1.1 _) (fun h => absurd h (by decide)) hn hs (mp_nudge (d := 1289) Z1 _ _ _ _ ?_)
  intro es2 q2
  have fin := fin es2 (qS_m SS (mq_d q2)) (qI_q XX1 M1 P q2)
  simp only [ax_W_cons, ax_I, ax_cmp, ax_ii, ax_ll, ax_li, ax_st1, ax_st2, ax_kl, ax_k2, ax_fit, ax_rtok, List.getElem?_cons_zero, List.getElem?_cons_succ, List.length_cons, List.length_nil, List.set_cons_zero, List.set_cons_succ, Nat.reduceAdd, Nat.reduceDiv, Nat.reduceMod, Nat.reduceMul, Nat.reduceLT, Nat.reduceLeDiff, Int32.reduceOfInt, Int64.reduceOfInt, true_and, and_true, and_self, true_or, or_true, false_implies, true_implies, not_false_eq_true, not_true_eq_false, Value.category, Nat.reduceEqDiff, Option.toList, List.cons_append, List.nil_append, List.drop_succ_cons, List.drop_zero, ax_qq_eq, ax_t_1536]
  exact fin
theorem lw_guard (hal : ax_al n = 178) (hn : n ≤ 601024) (hs : sl ≤ 7293034) (hi : 7 * j + 7 ≤ N) (hN : N ≤ 3584) (S : qS es N xs) (X : qX es n k p hc kd pl0 ht hs' F1 F2 B Fe un U mk M L la lb lc t cs) (Mh : qM es n st w k p hc kd pm ht hs' F1 F2 B Fe un U mk M L la lb lc t cs) (P : qP j k p pm pl0 ht B Fe un U mk M L la lb lc t) (fin : ∀ es', qS es' N xs → qI es' n (j + 1) → ax_J ax_W 1300 601024 7293034 1536 1498 [some (.float 0), some (.ref 0), some (.ref 159), some (.ref 177), some (.int (nI (7 * j))), l5, l6] [] n sl es' R) : ax_J ax_W 1300 601024 7293034 1536 816 [some (.float 0), some (.ref 0), some (.ref 159), some (.ref 177), some (.int (nI (7 * j))), l5, l6] [] n sl es R := by
  obtain ⟨S1, fo, S2⟩ := id S
  have hB := P.2.1
  have hj : j < 1000 := by omega
  have i1 : nI (7 * j) + 1 = nI (7 * j + 1) := kn_add _ 1
  have v1 : vp_in (nI (7 * j + 1)) N := nI_in (by omega) (by omega)
  have c1 : (nI (7 * j + 1)).toNatClampNeg = 7 * j + 1 := nI_clamp (by omega)
  simp only [ax_W_cons, ax_I, ax_cmp, ax_ii, ax_ll, ax_li, ax_st1, ax_st2, ax_kl, ax_k2, ax_fit, ax_rtok, List.getElem?_cons_zero, List.getElem?_cons_succ, List.length_cons, List.length_nil, List.set_cons_zero, List.set_cons_succ, Nat.reduceAdd, Nat.reduceDiv, Nat.reduceMod, Nat.reduceMul, Nat.reduceLT, Nat.reduceLeDiff, Int32.reduceOfInt, Int64.reduceOfInt, true_and, and_true, and_self, true_or, or_true, false_implies, true_implies, not_false_eq_true, not_true_eq_false, Value.category, Nat.reduceEqDiff, Option.toList, List.cons_append, List.nil_append, List.drop_succ_cons, List.drop_zero, ax_qq_eq, ax_t_1536, ax_j_1536_816, ax_n_1536_816, S1, i1, v1, c1]
  refine ax_inv_of (Nat.le_of_ble_eq_true rfl) (Nat.le_of_ble_eq_true rfl) (fun _ => x0_rcv X.1 _) (fun h => absurd h (by decide)) hn hs (xp_guard (d := 1289) X.1 hB hj _  ?_)
  intro es1 X1 f1
  have M1 := qM_x Mh f1
  have XX1 := qX_x X X1 f1
  have SS := qS_x S f1
  have T1 := SS.1
  have Z1 := mD_Z M1.1 hB hj
  simp only [ax_W_cons, ax_I, ax_cmp, ax_ii, ax_ll, ax_li, ax_st1, ax_st2, ax_kl, ax_k2, ax_fit, ax_rtok, List.getElem?_cons_zero, List.getElem?_cons_succ, List.length_cons, List.length_nil, List.set_cons_zero, List.set_cons_succ, Nat.reduceAdd, Nat.reduceDiv, Nat.reduceMod, Nat.reduceMul, Nat.reduceLT, Nat.reduceLeDiff, Int32.reduceOfInt, Int64.reduceOfInt, true_and, and_true, and_self, true_or, or_true, false_implies, true_implies, not_false_eq_true, not_true_eq_false, Value.category, Nat.reduceEqDiff, Option.toList, List.cons_append, List.nil_append, List.drop_succ_cons, List.drop_zero, ax_qq_eq, ax_t_1536, T1, i1, v1, c1]
  refine ax_inv_of (Nat.le_of_ble_eq_true rfl) (Nat.le_of_ble_eq_true rfl) (fun _ => mE_rcv M1.1.1 _) (fun h => absurd h (by decide)) hn hs (mp_guard (d := 1289) Z1 _ ?_)
  intro es2 q2
  have fin := fin es2 (qS_m SS (mq_d q2)) (qI_q XX1 M1 P q2)
  simp only [ax_W_cons, ax_I, ax_cmp, ax_ii, ax_ll, ax_li, ax_st1, ax_st2, ax_kl, ax_k2, ax_fit, ax_rtok, List.getElem?_cons_zero, List.getElem?_cons_succ, List.length_cons, List.length_nil, List.set_cons_zero, List.set_cons_succ, Nat.reduceAdd, Nat.reduceDiv, Nat.reduceMod, Nat.reduceMul, Nat.reduceLT, Nat.reduceLeDiff, Int32.reduceOfInt, Int64.reduceOfInt, true_and, and_true, and_self, true_or, or_true, false_implies, true_implies, not_false_eq_true, not_true_eq_false, Value.category, Nat.reduceEqDiff, Option.toList, List.cons_append, List.nil_append, List.drop_succ_cons, List.drop_zero, ax_qq_eq, ax_t_1536]
  exact fin
theorem lw_swap (hal : ax_al n = 178) (hn : n ≤ 601024) (hs : sl ≤ 7293034) (hi : 7 * j + 7 ≤ N) (hN : N ≤ 3584) (S : qS es N xs) (X : qX es n k p hc kd pl0 ht hs' F1 F2 B Fe un U mk M L la lb lc t cs) (Mh : qM es n st w k p hc kd pm ht hs' F1 F2 B Fe un U mk M L la lb lc t cs) (P : qP j k p pm pl0 ht B Fe un U mk M L la lb lc t) (fin : ∀ es', qS es' N xs → qI es' n (j + 1) → ax_J ax_W 1300 601024 7293034 1536 1498 [some (.float 0), some (.ref 0), some (.ref 159), some (.ref 177), some (.int (nI (7 * j))), l5, l6] [] n sl es' R) : ax_J ax_W 1300 601024 7293034 1536 841 [some (.float 0), some (.ref 0), some (.ref 159), some (.ref 177), some (.int (nI (7 * j))), l5, l6] [] n sl es R := by
  obtain ⟨S1, fo, S2⟩ := id S
  have hB := P.2.1
  have hj : j < 1000 := by omega
  simp only [ax_W_cons, ax_I, ax_cmp, ax_ii, ax_ll, ax_li, ax_st1, ax_st2, ax_kl, ax_k2, ax_fit, ax_rtok, List.getElem?_cons_zero, List.getElem?_cons_succ, List.length_cons, List.length_nil, List.set_cons_zero, List.set_cons_succ, Nat.reduceAdd, Nat.reduceDiv, Nat.reduceMod, Nat.reduceMul, Nat.reduceLT, Nat.reduceLeDiff, Int32.reduceOfInt, Int64.reduceOfInt, true_and, and_true, and_self, true_or, or_true, false_implies, true_implies, not_false_eq_true, not_true_eq_false, Value.category, Nat.reduceEqDiff, Option.toList, List.cons_append, List.nil_append, List.drop_succ_cons, List.drop_zero, ax_qq_eq, ax_t_1536, ax_j_1536_841, ax_n_1536_841, S1]
  refine ax_inv_of (Nat.le_of_ble_eq_true rfl) (Nat.le_of_ble_eq_true rfl) (fun _ => x0_rcv X.1 _) (fun h => absurd h (by decide)) hn hs (xp_swap (d := 1289) X.1 hB hj  ?_)
  intro es1 X1 f1
  have M1 := qM_x Mh f1
  have XX1 := qX_x X X1 f1
  have SS := qS_x S f1
  have T1 := SS.1
  have Z1 := mD_Z M1.1 hB hj
  simp only [ax_W_cons, ax_I, ax_cmp, ax_ii, ax_ll, ax_li, ax_st1, ax_st2, ax_kl, ax_k2, ax_fit, ax_rtok, List.getElem?_cons_zero, List.getElem?_cons_succ, List.length_cons, List.length_nil, List.set_cons_zero, List.set_cons_succ, Nat.reduceAdd, Nat.reduceDiv, Nat.reduceMod, Nat.reduceMul, Nat.reduceLT, Nat.reduceLeDiff, Int32.reduceOfInt, Int64.reduceOfInt, true_and, and_true, and_self, true_or, or_true, false_implies, true_implies, not_false_eq_true, not_true_eq_false, Value.category, Nat.reduceEqDiff, Option.toList, List.cons_append, List.nil_append, List.drop_succ_cons, List.drop_zero, ax_qq_eq, ax_t_1536, T1]
  refine ax_inv_of (Nat.le_of_ble_eq_true rfl) (Nat.le_of_ble_eq_true rfl) (fun _ => mE_rcv M1.1.1 _) (fun h => absurd h (by decide)) hn hs (mp_swap (d := 1289) Z1 ?_)
  intro es2 q2
  have fin := fin es2 (qS_m SS (mq_d q2)) (qI_q XX1 M1 P q2)
  simp only [ax_W_cons, ax_I, ax_cmp, ax_ii, ax_ll, ax_li, ax_st1, ax_st2, ax_kl, ax_k2, ax_fit, ax_rtok, List.getElem?_cons_zero, List.getElem?_cons_succ, List.length_cons, List.length_nil, List.set_cons_zero, List.set_cons_succ, Nat.reduceAdd, Nat.reduceDiv, Nat.reduceMod, Nat.reduceMul, Nat.reduceLT, Nat.reduceLeDiff, Int32.reduceOfInt, Int64.reduceOfInt, true_and, and_true, and_self, true_or, or_true, false_implies, true_implies, not_false_eq_true, not_true_eq_false, Value.category, Nat.reduceEqDiff, Option.toList, List.cons_append, List.nil_append, List.drop_succ_cons, List.drop_zero, ax_qq_eq, ax_t_1536]
  exact fin
theorem lw_ways (hal : ax_al n = 178) (hn : n ≤ 601024) (hs : sl ≤ 7293034) (hi : 7 * j + 7 ≤ N) (hN : N ≤ 3584) (S : qS es N xs) (X : qX es n k p hc kd pl0 ht hs' F1 F2 B Fe un U mk M L la lb lc t cs) (Mh : qM es n st w k p hc kd pm ht hs' F1 F2 B Fe un U mk M L la lb lc t cs) (P : qP j k p pm pl0 ht B Fe un U mk M L la lb lc t) (fin : ∀ es', qS es' N xs → qI es' n (j + 1) → ax_J ax_W 1300 601024 7293034 1536 1498 [some (.float 0), some (.ref 0), some (.ref 159), some (.ref 177), some (.int (nI (7 * j))), l5, l6] [] n sl es' R) : ax_J ax_W 1300 601024 7293034 1536 903 [some (.float 0), some (.ref 0), some (.ref 159), some (.ref 177), some (.int (nI (7 * j))), l5, l6] [] n sl es R := by
  obtain ⟨S1, fo, S2⟩ := id S
  have hB := P.2.1
  have hj : j < 1000 := by omega
  have i1 : nI (7 * j) + 1 = nI (7 * j + 1) := kn_add _ 1
  have v1 : vp_in (nI (7 * j + 1)) N := nI_in (by omega) (by omega)
  have c1 : (nI (7 * j + 1)).toNatClampNeg = 7 * j + 1 := nI_clamp (by omega)
  simp only [ax_W_cons, ax_I, ax_cmp, ax_ii, ax_ll, ax_li, ax_st1, ax_st2, ax_kl, ax_k2, ax_fit, ax_rtok, List.getElem?_cons_zero, List.getElem?_cons_succ, List.length_cons, List.length_nil, List.set_cons_zero, List.set_cons_succ, Nat.reduceAdd, Nat.reduceDiv, Nat.reduceMod, Nat.reduceMul, Nat.reduceLT, Nat.reduceLeDiff, Int32.reduceOfInt, Int64.reduceOfInt, true_and, and_true, and_self, true_or, or_true, false_implies, true_implies, not_false_eq_true, not_true_eq_false, Value.category, Nat.reduceEqDiff, Option.toList, List.cons_append, List.nil_append, List.drop_succ_cons, List.drop_zero, ax_qq_eq, ax_t_1536, ax_j_1536_903, ax_n_1536_903, S1, i1, v1, c1]
  refine ax_inv_of (Nat.le_of_ble_eq_true rfl) (Nat.le_of_ble_eq_true rfl) (fun _ => x0_rcv X.1 _) (fun h => absurd h (by decide)) hn hs (xp_ways (d := 1289) X.1 hB hj _ P.2.2.1 ?_)
  intro es1 X1 f1
  have M1 := qM_x Mh f1
  have XX1 := qX_x X X1 f1
  have SS := qS_x S f1
  have T1 := SS.1
  have Z1 := mD_Z M1.1 hB hj
  simp only [ax_W_cons, ax_I, ax_cmp, ax_ii, ax_ll, ax_li, ax_st1, ax_st2, ax_kl, ax_k2, ax_fit, ax_rtok, List.getElem?_cons_zero, List.getElem?_cons_succ, List.length_cons, List.length_nil, List.set_cons_zero, List.set_cons_succ, Nat.reduceAdd, Nat.reduceDiv, Nat.reduceMod, Nat.reduceMul, Nat.reduceLT, Nat.reduceLeDiff, Int32.reduceOfInt, Int64.reduceOfInt, true_and, and_true, and_self, true_or, or_true, false_implies, true_implies, not_false_eq_true, not_true_eq_false, Value.category, Nat.reduceEqDiff, Option.toList, List.cons_append, List.nil_append, List.drop_succ_cons, List.drop_zero, ax_qq_eq, ax_t_1536, T1, i1, v1, c1]
  refine ax_inv_of (Nat.le_of_ble_eq_true rfl) (Nat.le_of_ble_eq_true rfl) (fun _ => mE_rcv M1.1.1 _) (fun h => absurd h (by decide)) hn hs (mp_ways (d := 1289) Z1 P.2.2.1 (mD_Fl M1.1) _ ?_)
  intro es2 q2
  have fin := fin es2 (qS_m SS (mq_d q2)) (qI_q XX1 M1 P q2)
  simp only [ax_W_cons, ax_I, ax_cmp, ax_ii, ax_ll, ax_li, ax_st1, ax_st2, ax_kl, ax_k2, ax_fit, ax_rtok, List.getElem?_cons_zero, List.getElem?_cons_succ, List.length_cons, List.length_nil, List.set_cons_zero, List.set_cons_succ, Nat.reduceAdd, Nat.reduceDiv, Nat.reduceMod, Nat.reduceMul, Nat.reduceLT, Nat.reduceLeDiff, Int32.reduceOfInt, Int64.reduceOfInt, true_and, and_true, and_self, true_or, or_true, false_implies, true_implies, not_false_eq_true, not_true_eq_false, Value.category, Nat.reduceEqDiff, Option.toList, List.cons_append, List.nil_append, List.drop_succ_cons, List.drop_zero, ax_qq_eq, ax_t_1536]
  exact fin
theorem lw_look (hal : ax_al n = 178) (hn : n ≤ 601024) (hs : sl ≤ 7293034) (hi : 7 * j + 7 ≤ N) (hN : N ≤ 3584) (S : qS es N xs) (X : qX es n k p hc kd pl0 ht hs' F1 F2 B Fe un U mk M L la lb lc t cs) (Mh : qM es n st w k p hc kd pm ht hs' F1 F2 B Fe un U mk M L la lb lc t cs) (P : qP j k p pm pl0 ht B Fe un U mk M L la lb lc t) (fin : ∀ es', qS es' N xs → qI es' n (j + 1) → ax_J ax_W 1300 601024 7293034 1536 1498 [some (.float 0), some (.ref 0), some (.ref 159), some (.ref 177), some (.int (nI (7 * j))), l5, l6] [] n sl es' R) : ax_J ax_W 1300 601024 7293034 1536 928 [some (.float 0), some (.ref 0), some (.ref 159), some (.ref 177), some (.int (nI (7 * j))), l5, l6] [] n sl es R := by
  obtain ⟨S1, fo, S2⟩ := id S
  have hB := P.2.1
  have hj : j < 1000 := by omega
  have i1 : nI (7 * j) + 1 = nI (7 * j + 1) := kn_add _ 1
  have v1 : vp_in (nI (7 * j + 1)) N := nI_in (by omega) (by omega)
  have c1 : (nI (7 * j + 1)).toNatClampNeg = 7 * j + 1 := nI_clamp (by omega)
  simp only [ax_W_cons, ax_I, ax_cmp, ax_ii, ax_ll, ax_li, ax_st1, ax_st2, ax_kl, ax_k2, ax_fit, ax_rtok, List.getElem?_cons_zero, List.getElem?_cons_succ, List.length_cons, List.length_nil, List.set_cons_zero, List.set_cons_succ, Nat.reduceAdd, Nat.reduceDiv, Nat.reduceMod, Nat.reduceMul, Nat.reduceLT, Nat.reduceLeDiff, Int32.reduceOfInt, Int64.reduceOfInt, true_and, and_true, and_self, true_or, or_true, false_implies, true_implies, not_false_eq_true, not_true_eq_false, Value.category, Nat.reduceEqDiff, Option.toList, List.cons_append, List.nil_append, List.drop_succ_cons, List.drop_zero, ax_qq_eq, ax_t_1536, ax_j_1536_928, ax_n_1536_928, S1, i1, v1, c1]
  refine ax_inv_of (Nat.le_of_ble_eq_true rfl) (Nat.le_of_ble_eq_true rfl) (fun _ => x0_rcv X.1 _) (fun h => absurd h (by decide)) hn hs (xp_look (d := 1289) X.1 hB hj _ P.2.2.1 ?_)
  intro es1 X1 f1
  have M1 := qM_x Mh f1
  have XX1 := qX_x X X1 f1
  have SS := qS_x S f1
  have T1 := SS.1
  have Z1 := mD_Z M1.1 hB hj
  simp only [ax_W_cons, ax_I, ax_cmp, ax_ii, ax_ll, ax_li, ax_st1, ax_st2, ax_kl, ax_k2, ax_fit, ax_rtok, List.getElem?_cons_zero, List.getElem?_cons_succ, List.length_cons, List.length_nil, List.set_cons_zero, List.set_cons_succ, Nat.reduceAdd, Nat.reduceDiv, Nat.reduceMod, Nat.reduceMul, Nat.reduceLT, Nat.reduceLeDiff, Int32.reduceOfInt, Int64.reduceOfInt, true_and, and_true, and_self, true_or, or_true, false_implies, true_implies, not_false_eq_true, not_true_eq_false, Value.category, Nat.reduceEqDiff, Option.toList, List.cons_append, List.nil_append, List.drop_succ_cons, List.drop_zero, ax_qq_eq, ax_t_1536, T1, i1, v1, c1]
  refine ax_inv_of (Nat.le_of_ble_eq_true rfl) (Nat.le_of_ble_eq_true rfl) (fun _ => mE_rcv M1.1.1 _) (fun h => absurd h (by decide)) hn hs (mp_look (d := 1289) Z1 P.2.2.1 (mD_Fl M1.1) _ ?_)
  intro es2 q2
  have fin := fin es2 (qS_m SS (mq_d q2)) (qI_q XX1 M1 P q2)
  simp only [ax_W_cons, ax_I, ax_cmp, ax_ii, ax_ll, ax_li, ax_st1, ax_st2, ax_kl, ax_k2, ax_fit, ax_rtok, List.getElem?_cons_zero, List.getElem?_cons_succ, List.length_cons, List.length_nil, List.set_cons_zero, List.set_cons_succ, Nat.reduceAdd, Nat.reduceDiv, Nat.reduceMod, Nat.reduceMul, Nat.reduceLT, Nat.reduceLeDiff, Int32.reduceOfInt, Int64.reduceOfInt, true_and, and_true, and_self, true_or, or_true, false_implies, true_implies, not_false_eq_true, not_true_eq_false, Value.category, Nat.reduceEqDiff, Option.toList, List.cons_append, List.nil_append, List.drop_succ_cons, List.drop_zero, ax_qq_eq, ax_t_1536]
  exact fin
theorem lw_share (hal : ax_al n = 178) (hn : n ≤ 601024) (hs : sl ≤ 7293034) (hi : 7 * j + 7 ≤ N) (hN : N ≤ 3584) (S : qS es N xs) (X : qX es n k p hc kd pl0 ht hs' F1 F2 B Fe un U mk M L la lb lc t cs) (Mh : qM es n st w k p hc kd pm ht hs' F1 F2 B Fe un U mk M L la lb lc t cs) (P : qP j k p pm pl0 ht B Fe un U mk M L la lb lc t) (fin : ∀ es', qS es' N xs → qI es' n (j + 1) → ax_J ax_W 1300 601024 7293034 1536 1498 [some (.float 0), some (.ref 0), some (.ref 159), some (.ref 177), some (.int (nI (7 * j))), l5, l6] [] n sl es' R) : ax_J ax_W 1300 601024 7293034 1536 953 [some (.float 0), some (.ref 0), some (.ref 159), some (.ref 177), some (.int (nI (7 * j))), l5, l6] [] n sl es R := by
  obtain ⟨S1, fo, S2⟩ := id S
  have hB := P.2.1
  have hj : j < 1000 := by omega
  have i1 : nI (7 * j) + 1 = nI (7 * j + 1) := kn_add _ 1
  have v1 : vp_in (nI (7 * j + 1)) N := nI_in (by omega) (by omega)
  have c1 : (nI (7 * j + 1)).toNatClampNeg = 7 * j + 1 := nI_clamp (by omega)
  have i2 : nI (7 * j) + 2 = nI (7 * j + 2) := kn_add _ 2
  have v2 : vp_in (nI (7 * j + 2)) N := nI_in (by omega) (by omega)
  have c2 : (nI (7 * j + 2)).toNatClampNeg = 7 * j + 2 := nI_clamp (by omega)
  simp only [ax_W_cons, ax_I, ax_cmp, ax_ii, ax_ll, ax_li, ax_st1, ax_st2, ax_kl, ax_k2, ax_fit, ax_rtok, List.getElem?_cons_zero, List.getElem?_cons_succ, List.length_cons, List.length_nil, List.set_cons_zero, List.set_cons_succ, Nat.reduceAdd, Nat.reduceDiv, Nat.reduceMod, Nat.reduceMul, Nat.reduceLT, Nat.reduceLeDiff, Int32.reduceOfInt, Int64.reduceOfInt, true_and, and_true, and_self, true_or, or_true, false_implies, true_implies, not_false_eq_true, not_true_eq_false, Value.category, Nat.reduceEqDiff, Option.toList, List.cons_append, List.nil_append, List.drop_succ_cons, List.drop_zero, ax_qq_eq, ax_t_1536, ax_j_1536_953, ax_n_1536_953, S1, i1, v1, c1, i2, v2, c2]
  refine ax_inv_of (Nat.le_of_ble_eq_true rfl) (Nat.le_of_ble_eq_true rfl) (fun _ => x0_rcv X.1 _) (fun h => absurd h (by decide)) hn hs (xp_share (d := 1289) X.1 hB hj _ _  ?_)
  intro es1 X1 f1
  have M1 := qM_x Mh f1
  have XX1 := qX_x X X1 f1
  have SS := qS_x S f1
  have T1 := SS.1
  have Z1 := mD_Z M1.1 hB hj
  simp only [ax_W_cons, ax_I, ax_cmp, ax_ii, ax_ll, ax_li, ax_st1, ax_st2, ax_kl, ax_k2, ax_fit, ax_rtok, List.getElem?_cons_zero, List.getElem?_cons_succ, List.length_cons, List.length_nil, List.set_cons_zero, List.set_cons_succ, Nat.reduceAdd, Nat.reduceDiv, Nat.reduceMod, Nat.reduceMul, Nat.reduceLT, Nat.reduceLeDiff, Int32.reduceOfInt, Int64.reduceOfInt, true_and, and_true, and_self, true_or, or_true, false_implies, true_implies, not_false_eq_true, not_true_eq_false, Value.category, Nat.reduceEqDiff, Option.toList, List.cons_append, List.nil_append, List.drop_succ_cons, List.drop_zero, ax_qq_eq, ax_t_1536, T1, i1, v1, c1, i2, v2, c2]
  refine ax_inv_of (Nat.le_of_ble_eq_true rfl) (Nat.le_of_ble_eq_true rfl) (fun _ => mE_rcv M1.1.1 _) (fun h => absurd h (by decide)) hn hs (mp_share (d := 1289) Z1 P.2.2.2.2.2.2.2.2 _ _ ?_)
  intro es2 q2
  have fin := fin es2 (qS_m SS (mq_d q2)) (qI_q XX1 M1 P q2)
  simp only [ax_W_cons, ax_I, ax_cmp, ax_ii, ax_ll, ax_li, ax_st1, ax_st2, ax_kl, ax_k2, ax_fit, ax_rtok, List.getElem?_cons_zero, List.getElem?_cons_succ, List.length_cons, List.length_nil, List.set_cons_zero, List.set_cons_succ, Nat.reduceAdd, Nat.reduceDiv, Nat.reduceMod, Nat.reduceMul, Nat.reduceLT, Nat.reduceLeDiff, Int32.reduceOfInt, Int64.reduceOfInt, true_and, and_true, and_self, true_or, or_true, false_implies, true_implies, not_false_eq_true, not_true_eq_false, Value.category, Nat.reduceEqDiff, Option.toList, List.cons_append, List.nil_append, List.drop_succ_cons, List.drop_zero, ax_qq_eq, ax_t_1536]
  exact fin
theorem lw_alike (hal : ax_al n = 178) (hn : n ≤ 601024) (hs : sl ≤ 7293034) (hi : 7 * j + 7 ≤ N) (hN : N ≤ 3584) (S : qS es N xs) (X : qX es n k p hc kd pl0 ht hs' F1 F2 B Fe un U mk M L la lb lc t cs) (Mh : qM es n st w k p hc kd pm ht hs' F1 F2 B Fe un U mk M L la lb lc t cs) (P : qP j k p pm pl0 ht B Fe un U mk M L la lb lc t) (fin : ∀ es', qS es' N xs → qI es' n (j + 1) → ax_J ax_W 1300 601024 7293034 1536 1498 [some (.float 0), some (.ref 0), some (.ref 159), some (.ref 177), some (.int (nI (7 * j))), l5, l6] [] n sl es' R) : ax_J ax_W 1300 601024 7293034 1536 990 [some (.float 0), some (.ref 0), some (.ref 159), some (.ref 177), some (.int (nI (7 * j))), l5, l6] [] n sl es R := by
  obtain ⟨S1, fo, S2⟩ := id S
  have hB := P.2.1
  have hj : j < 1000 := by omega
  simp only [ax_W_cons, ax_I, ax_cmp, ax_ii, ax_ll, ax_li, ax_st1, ax_st2, ax_kl, ax_k2, ax_fit, ax_rtok, List.getElem?_cons_zero, List.getElem?_cons_succ, List.length_cons, List.length_nil, List.set_cons_zero, List.set_cons_succ, Nat.reduceAdd, Nat.reduceDiv, Nat.reduceMod, Nat.reduceMul, Nat.reduceLT, Nat.reduceLeDiff, Int32.reduceOfInt, Int64.reduceOfInt, true_and, and_true, and_self, true_or, or_true, false_implies, true_implies, not_false_eq_true, not_true_eq_false, Value.category, Nat.reduceEqDiff, Option.toList, List.cons_append, List.nil_append, List.drop_succ_cons, List.drop_zero, ax_qq_eq, ax_t_1536, ax_j_1536_990, ax_n_1536_990, S1]
  refine ax_inv_of (Nat.le_of_ble_eq_true rfl) (Nat.le_of_ble_eq_true rfl) (fun _ => x0_rcv X.1 _) (fun h => absurd h (by decide)) hn hs (xp_alike (d := 1289) X.1 hB hj  ?_)
  intro es1 X1 f1
  have M1 := qM_x Mh f1
  have XX1 := qX_x X X1 f1
  have SS := qS_x S f1
  have T1 := SS.1
  have Z1 := mD_Z M1.1 hB hj
  simp only [ax_W_cons, ax_I, ax_cmp, ax_ii, ax_ll, ax_li, ax_st1, ax_st2, ax_kl, ax_k2, ax_fit, ax_rtok, List.getElem?_cons_zero, List.getElem?_cons_succ, List.length_cons, List.length_nil, List.set_cons_zero, List.set_cons_succ, Nat.reduceAdd, Nat.reduceDiv, Nat.reduceMod, Nat.reduceMul, Nat.reduceLT, Nat.reduceLeDiff, Int32.reduceOfInt, Int64.reduceOfInt, true_and, and_true, and_self, true_or, or_true, false_implies, true_implies, not_false_eq_true, not_true_eq_false, Value.category, Nat.reduceEqDiff, Option.toList, List.cons_append, List.nil_append, List.drop_succ_cons, List.drop_zero, ax_qq_eq, ax_t_1536, T1]
  refine ax_inv_of (Nat.le_of_ble_eq_true rfl) (Nat.le_of_ble_eq_true rfl) (fun _ => mE_rcv M1.1.1 _) (fun h => absurd h (by decide)) hn hs (mp_alike (d := 1289) Z1 ?_)
  intro es2 q2
  have fin := fin es2 (qS_m SS (mq_d q2)) (qI_q XX1 M1 P q2)
  simp only [ax_W_cons, ax_I, ax_cmp, ax_ii, ax_ll, ax_li, ax_st1, ax_st2, ax_kl, ax_k2, ax_fit, ax_rtok, List.getElem?_cons_zero, List.getElem?_cons_succ, List.length_cons, List.length_nil, List.set_cons_zero, List.set_cons_succ, Nat.reduceAdd, Nat.reduceDiv, Nat.reduceMod, Nat.reduceMul, Nat.reduceLT, Nat.reduceLeDiff, Int32.reduceOfInt, Int64.reduceOfInt, true_and, and_true, and_self, true_or, or_true, false_implies, true_implies, not_false_eq_true, not_true_eq_false, Value.category, Nat.reduceEqDiff, Option.toList, List.cons_append, List.nil_append, List.drop_succ_cons, List.drop_zero, ax_qq_eq, ax_t_1536]
  exact fin
theorem lw_even (hal : ax_al n = 178) (hn : n ≤ 601024) (hs : sl ≤ 7293034) (hi : 7 * j + 7 ≤ N) (hN : N ≤ 3584) (S : qS es N xs) (X : qX es n k p hc kd pl0 ht hs' F1 F2 B Fe un U mk M L la lb lc t cs) (Mh : qM es n st w k p hc kd pm ht hs' F1 F2 B Fe un U mk M L la lb lc t cs) (P : qP j k p pm pl0 ht B Fe un U mk M L la lb lc t) (fin : ∀ es', qS es' N xs → qI es' n (j + 1) → ax_J ax_W 1300 601024 7293034 1536 1498 [some (.float 0), some (.ref 0), some (.ref 159), some (.ref 177), some (.int (nI (7 * j))), l5, l6] [] n sl es' R) : ax_J ax_W 1300 601024 7293034 1536 1003 [some (.float 0), some (.ref 0), some (.ref 159), some (.ref 177), some (.int (nI (7 * j))), l5, l6] [] n sl es R := by
  obtain ⟨S1, fo, S2⟩ := id S
  have hB := P.2.1
  have hj : j < 1000 := by omega
  simp only [ax_W_cons, ax_I, ax_cmp, ax_ii, ax_ll, ax_li, ax_st1, ax_st2, ax_kl, ax_k2, ax_fit, ax_rtok, List.getElem?_cons_zero, List.getElem?_cons_succ, List.length_cons, List.length_nil, List.set_cons_zero, List.set_cons_succ, Nat.reduceAdd, Nat.reduceDiv, Nat.reduceMod, Nat.reduceMul, Nat.reduceLT, Nat.reduceLeDiff, Int32.reduceOfInt, Int64.reduceOfInt, true_and, and_true, and_self, true_or, or_true, false_implies, true_implies, not_false_eq_true, not_true_eq_false, Value.category, Nat.reduceEqDiff, Option.toList, List.cons_append, List.nil_append, List.drop_succ_cons, List.drop_zero, ax_qq_eq, ax_t_1536, ax_j_1536_1003, ax_n_1536_1003, S1]
  refine ax_inv_of (Nat.le_of_ble_eq_true rfl) (Nat.le_of_ble_eq_true rfl) (fun _ => x0_rcv X.1 _) (fun h => absurd h (by decide)) hn hs (xp_even (d := 1289) X.1 hB hj  ?_)
  intro es1 X1 f1
  have M1 := qM_x Mh f1
  have XX1 := qX_x X X1 f1
  have SS := qS_x S f1
  have T1 := SS.1
  have Z1 := mD_Z M1.1 hB hj
  simp only [ax_W_cons, ax_I, ax_cmp, ax_ii, ax_ll, ax_li, ax_st1, ax_st2, ax_kl, ax_k2, ax_fit, ax_rtok, List.getElem?_cons_zero, List.getElem?_cons_succ, List.length_cons, List.length_nil, List.set_cons_zero, List.set_cons_succ, Nat.reduceAdd, Nat.reduceDiv, Nat.reduceMod, Nat.reduceMul, Nat.reduceLT, Nat.reduceLeDiff, Int32.reduceOfInt, Int64.reduceOfInt, true_and, and_true, and_self, true_or, or_true, false_implies, true_implies, not_false_eq_true, not_true_eq_false, Value.category, Nat.reduceEqDiff, Option.toList, List.cons_append, List.nil_append, List.drop_succ_cons, List.drop_zero, ax_qq_eq, ax_t_1536, T1]
  refine ax_inv_of (Nat.le_of_ble_eq_true rfl) (Nat.le_of_ble_eq_true rfl) (fun _ => mE_rcv M1.1.1 _) (fun h => absurd h (by decide)) hn hs (mp_even (d := 1289) Z1 ?_)
  intro es2 q2
  have fin := fin es2 (qS_m SS (mq_d q2)) (qI_q XX1 M1 P q2)
  simp only [ax_W_cons, ax_I, ax_cmp, ax_ii, ax_ll, ax_li, ax_st1, ax_st2, ax_kl, ax_k2, ax_fit, ax_rtok, List.getElem?_cons_zero, List.getElem?_cons_succ, List.length_cons, List.length_nil, List.set_cons_zero, List.set_cons_succ, Nat.reduceAdd, Nat.reduceDiv, Nat.reduceMod, Nat.reduceMul, Nat.reduceLT, Nat.reduceLeDiff, Int32.reduceOfInt, Int64.reduceOfInt, true_and, and_true, and_self, true_or, or_true, false_implies, true_implies, not_false_eq_true, not_true_eq_false, Value.category, Nat.reduceEqDiff, Option.toList, List.cons_append, List.nil_append, List.drop_succ_cons, List.drop_zero, ax_qq_eq, ax_t_1536]
  exact fin
theorem lw_calm (hal : ax_al n = 178) (hn : n ≤ 601024) (hs : sl ≤ 7293034) (hi : 7 * j + 7 ≤ N) (hN : N ≤ 3584) (S : qS es N xs) (X : qX es n k p hc kd pl0 ht hs' F1 F2 B Fe un U mk M L la lb lc t cs) (Mh : qM es n st w k p hc kd pm ht hs' F1 F2 B Fe un U mk M L la lb lc t cs) (P : qP j k p pm pl0 ht B Fe un U mk M L la lb lc t) (fin : ∀ es', qS es' N xs → qI es' n (j + 1) → ax_J ax_W 1300 601024 7293034 1536 1498 [some (.float 0), some (.ref 0), some (.ref 159), some (.ref 177), some (.int (nI (7 * j))), l5, l6] [] n sl es' R) : ax_J ax_W 1300 601024 7293034 1536 1016 [some (.float 0), some (.ref 0), some (.ref 159), some (.ref 177), some (.int (nI (7 * j))), l5, l6] [] n sl es R := by
  obtain ⟨S1, fo, S2⟩ := id S
  have hB := P.2.1
  have hj : j < 1000 := by omega
  simp only [ax_W_cons, ax_I, ax_cmp, ax_ii, ax_ll, ax_li, ax_st1, ax_st2, ax_kl, ax_k2, ax_fit, ax_rtok, List.getElem?_cons_zero, List.getElem?_cons_succ, List.length_cons, List.length_nil, List.set_cons_zero, List.set_cons_succ, Nat.reduceAdd, Nat.reduceDiv, Nat.reduceMod, Nat.reduceMul, Nat.reduceLT, Nat.reduceLeDiff, Int32.reduceOfInt, Int64.reduceOfInt, true_and, and_true, and_self, true_or, or_true, false_implies, true_implies, not_false_eq_true, not_true_eq_false, Value.category, Nat.reduceEqDiff, Option.toList, List.cons_append, List.nil_append, List.drop_succ_cons, List.drop_zero, ax_qq_eq, ax_t_1536, ax_j_1536_1016, ax_n_1536_1016, S1]
  refine ax_inv_of (Nat.le_of_ble_eq_true rfl) (Nat.le_of_ble_eq_true rfl) (fun _ => x0_rcv X.1 _) (fun h => absurd h (by decide)) hn hs (xp_calm (d := 1289) X.1 hB hj  ?_)
  intro es1 X1 f1
  have M1 := qM_x Mh f1
  have XX1 := qX_x X X1 f1
  have SS := qS_x S f1
  have T1 := SS.1
  have Z1 := mD_Z M1.1 hB hj
  simp only [ax_W_cons, ax_I, ax_cmp, ax_ii, ax_ll, ax_li, ax_st1, ax_st2, ax_kl, ax_k2, ax_fit, ax_rtok, List.getElem?_cons_zero, List.getElem?_cons_succ, List.length_cons, List.length_nil, List.set_cons_zero, List.set_cons_succ, Nat.reduceAdd, Nat.reduceDiv, Nat.reduceMod, Nat.reduceMul, Nat.reduceLT, Nat.reduceLeDiff, Int32.reduceOfInt, Int64.reduceOfInt, true_and, and_true, and_self, true_or, or_true, false_implies, true_implies, not_false_eq_true, not_true_eq_false, Value.category, Nat.reduceEqDiff, Option.toList, List.cons_append, List.nil_append, List.drop_succ_cons, List.drop_zero, ax_qq_eq, ax_t_1536, T1]
  refine ax_inv_of (Nat.le_of_ble_eq_true rfl) (Nat.le_of_ble_eq_true rfl) (fun _ => mE_rcv M1.1.1 _) (fun h => absurd h (by decide)) hn hs (mp_calm (d := 1289) Z1 ?_)
  intro es2 q2
  have fin := fin es2 (qS_m SS (mq_d q2)) (qI_q XX1 M1 P q2)
  simp only [ax_W_cons, ax_I, ax_cmp, ax_ii, ax_ll, ax_li, ax_st1, ax_st2, ax_kl, ax_k2, ax_fit, ax_rtok, List.getElem?_cons_zero, List.getElem?_cons_succ, List.length_cons, List.length_nil, List.set_cons_zero, List.set_cons_succ, Nat.reduceAdd, Nat.reduceDiv, Nat.reduceMod, Nat.reduceMul, Nat.reduceLT, Nat.reduceLeDiff, Int32.reduceOfInt, Int64.reduceOfInt, true_and, and_true, and_self, true_or, or_true, false_implies, true_implies, not_false_eq_true, not_true_eq_false, Value.category, Nat.reduceEqDiff, Option.toList, List.cons_append, List.nil_append, List.drop_succ_cons, List.drop_zero, ax_qq_eq, ax_t_1536]
  exact fin
theorem lw_loud (hal : ax_al n = 178) (hn : n ≤ 601024) (hs : sl ≤ 7293034) (hi : 7 * j + 7 ≤ N) (hN : N ≤ 3584) (S : qS es N xs) (X : qX es n k p hc kd pl0 ht hs' F1 F2 B Fe un U mk M L la lb lc t cs) (Mh : qM es n st w k p hc kd pm ht hs' F1 F2 B Fe un U mk M L la lb lc t cs) (P : qP j k p pm pl0 ht B Fe un U mk M L la lb lc t) (fin : ∀ es', qS es' N xs → qI es' n (j + 1) → ax_J ax_W 1300 601024 7293034 1536 1498 [some (.float 0), some (.ref 0), some (.ref 159), some (.ref 177), some (.int (nI (7 * j))), l5, l6] [] n sl es' R) : ax_J ax_W 1300 601024 7293034 1536 1029 [some (.float 0), some (.ref 0), some (.ref 159), some (.ref 177), some (.int (nI (7 * j))), l5, l6] [] n sl es R := by
  obtain ⟨S1, fo, S2⟩ := id S
  have hB := P.2.1
  have hj : j < 1000 := by omega
  simp only [ax_W_cons, ax_I, ax_cmp, ax_ii, ax_ll, ax_li, ax_st1, ax_st2, ax_kl, ax_k2, ax_fit, ax_rtok, List.getElem?_cons_zero, List.getElem?_cons_succ, List.length_cons, List.length_nil, List.set_cons_zero, List.set_cons_succ, Nat.reduceAdd, Nat.reduceDiv, Nat.reduceMod, Nat.reduceMul, Nat.reduceLT, Nat.reduceLeDiff, Int32.reduceOfInt, Int64.reduceOfInt, true_and, and_true, and_self, true_or, or_true, false_implies, true_implies, not_false_eq_true, not_true_eq_false, Value.category, Nat.reduceEqDiff, Option.toList, List.cons_append, List.nil_append, List.drop_succ_cons, List.drop_zero, ax_qq_eq, ax_t_1536, ax_j_1536_1029, ax_n_1536_1029, S1]
  refine ax_inv_of (Nat.le_of_ble_eq_true rfl) (Nat.le_of_ble_eq_true rfl) (fun _ => x0_rcv X.1 _) (fun h => absurd h (by decide)) hn hs (xp_loud (d := 1289) X.1 hB hj  ?_)
  intro es1 X1 f1
  have M1 := qM_x Mh f1
  have XX1 := qX_x X X1 f1
  have SS := qS_x S f1
  have T1 := SS.1
  have Z1 := mD_Z M1.1 hB hj
  simp only [ax_W_cons, ax_I, ax_cmp, ax_ii, ax_ll, ax_li, ax_st1, ax_st2, ax_kl, ax_k2, ax_fit, ax_rtok, List.getElem?_cons_zero, List.getElem?_cons_succ, List.length_cons, List.length_nil, List.set_cons_zero, List.set_cons_succ, Nat.reduceAdd, Nat.reduceDiv, Nat.reduceMod, Nat.reduceMul, Nat.reduceLT, Nat.reduceLeDiff, Int32.reduceOfInt, Int64.reduceOfInt, true_and, and_true, and_self, true_or, or_true, false_implies, true_implies, not_false_eq_true, not_true_eq_false, Value.category, Nat.reduceEqDiff, Option.toList, List.cons_append, List.nil_append, List.drop_succ_cons, List.drop_zero, ax_qq_eq, ax_t_1536, T1]
  refine ax_inv_of (Nat.le_of_ble_eq_true rfl) (Nat.le_of_ble_eq_true rfl) (fun _ => mE_rcv M1.1.1 _) (fun h => absurd h (by decide)) hn hs (mp_loud (d := 1289) Z1 ?_)
  intro es2 q2
  have fin := fin es2 (qS_m SS (mq_d q2)) (qI_q XX1 M1 P q2)
  simp only [ax_W_cons, ax_I, ax_cmp, ax_ii, ax_ll, ax_li, ax_st1, ax_st2, ax_kl, ax_k2, ax_fit, ax_rtok, List.getElem?_cons_zero, List.getElem?_cons_succ, List.length_cons, List.length_nil, List.set_cons_zero, List.set_cons_succ, Nat.reduceAdd, Nat.reduceDiv, Nat.reduceMod, Nat.reduceMul, Nat.reduceLT, Nat.reduceLeDiff, Int32.reduceOfInt, Int64.reduceOfInt, true_and, and_true, and_self, true_or, or_true, false_implies, true_implies, not_false_eq_true, not_true_eq_false, Value.category, Nat.reduceEqDiff, Option.toList, List.cons_append, List.nil_append, List.drop_succ_cons, List.drop_zero, ax_qq_eq, ax_t_1536]
  exact fin
theorem lw_spread (hal : ax_al n = 178) (hn : n ≤ 601024) (hs : sl ≤ 7293034) (hi : 7 * j + 7 ≤ N) (hN : N ≤ 3584) (S : qS es N xs) (X : qX es n k p hc kd pl0 ht hs' F1 F2 B Fe un U mk M L la lb lc t cs) (Mh : qM es n st w k p hc kd pm ht hs' F1 F2 B Fe un U mk M L la lb lc t cs) (P : qP j k p pm pl0 ht B Fe un U mk M L la lb lc t) (fin : ∀ es', qS es' N xs → qI es' n (j + 1) → ax_J ax_W 1300 601024 7293034 1536 1498 [some (.float 0), some (.ref 0), some (.ref 159), some (.ref 177), some (.int (nI (7 * j))), l5, l6] [] n sl es' R) : ax_J ax_W 1300 601024 7293034 1536 1042 [some (.float 0), some (.ref 0), some (.ref 159), some (.ref 177), some (.int (nI (7 * j))), l5, l6] [] n sl es R := by
  obtain ⟨S1, fo, S2⟩ := id S
  have hB := P.2.1
  have hj : j < 1000 := by omega
  simp only [ax_W_cons, ax_I, ax_cmp, ax_ii, ax_ll, ax_li, ax_st1, ax_st2, ax_kl, ax_k2, ax_fit, ax_rtok, List.getElem?_cons_zero, List.getElem?_cons_succ, List.length_cons, List.length_nil, List.set_cons_zero, List.set_cons_succ, Nat.reduceAdd, Nat.reduceDiv, Nat.reduceMod, Nat.reduceMul, Nat.reduceLT, Nat.reduceLeDiff, Int32.reduceOfInt, Int64.reduceOfInt, true_and, and_true, and_self, true_or, or_true, false_implies, true_implies, not_false_eq_true, not_true_eq_false, Value.category, Nat.reduceEqDiff, Option.toList, List.cons_append, List.nil_append, List.drop_succ_cons, List.drop_zero, ax_qq_eq, ax_t_1536, ax_j_1536_1042, ax_n_1536_1042, S1]
  refine ax_inv_of (Nat.le_of_ble_eq_true rfl) (Nat.le_of_ble_eq_true rfl) (fun _ => x0_rcv X.1 _) (fun h => absurd h (by decide)) hn hs (xp_spread (d := 1289) X.1 hB hj  ?_)
  intro es1 X1 f1
  have M1 := qM_x Mh f1
  have XX1 := qX_x X X1 f1
  have SS := qS_x S f1
  have T1 := SS.1
  have Z1 := mD_Z M1.1 hB hj
  simp only [ax_W_cons, ax_I, ax_cmp, ax_ii, ax_ll, ax_li, ax_st1, ax_st2, ax_kl, ax_k2, ax_fit, ax_rtok, List.getElem?_cons_zero, List.getElem?_cons_succ, List.length_cons, List.length_nil, List.set_cons_zero, List.set_cons_succ, Nat.reduceAdd, Nat.reduceDiv, Nat.reduceMod, Nat.reduceMul, Nat.reduceLT, Nat.reduceLeDiff, Int32.reduceOfInt, Int64.reduceOfInt, true_and, and_true, and_self, true_or, or_true, false_implies, true_implies, not_false_eq_true, not_true_eq_false, Value.category, Nat.reduceEqDiff, Option.toList, List.cons_append, List.nil_append, List.drop_succ_cons, List.drop_zero, ax_qq_eq, ax_t_1536, T1]
  refine ax_inv_of (Nat.le_of_ble_eq_true rfl) (Nat.le_of_ble_eq_true rfl) (fun _ => mE_rcv M1.1.1 _) (fun h => absurd h (by decide)) hn hs (mp_spread (d := 1289) Z1 ?_)
  intro es2 q2
  have fin := fin es2 (qS_m SS (mq_d q2)) (qI_q XX1 M1 P q2)
  simp only [ax_W_cons, ax_I, ax_cmp, ax_ii, ax_ll, ax_li, ax_st1, ax_st2, ax_kl, ax_k2, ax_fit, ax_rtok, List.getElem?_cons_zero, List.getElem?_cons_succ, List.length_cons, List.length_nil, List.set_cons_zero, List.set_cons_succ, Nat.reduceAdd, Nat.reduceDiv, Nat.reduceMod, Nat.reduceMul, Nat.reduceLT, Nat.reduceLeDiff, Int32.reduceOfInt, Int64.reduceOfInt, true_and, and_true, and_self, true_or, or_true, false_implies, true_implies, not_false_eq_true, not_true_eq_false, Value.category, Nat.reduceEqDiff, Option.toList, List.cons_append, List.nil_append, List.drop_succ_cons, List.drop_zero, ax_qq_eq, ax_t_1536]
  exact fin
theorem lw_reach (hal : ax_al n = 178) (hn : n ≤ 601024) (hs : sl ≤ 7293034) (hi : 7 * j + 7 ≤ N) (hN : N ≤ 3584) (S : qS es N xs) (X : qX es n k p hc kd pl0 ht hs' F1 F2 B Fe un U mk M L la lb lc t cs) (Mh : qM es n st w k p hc kd pm ht hs' F1 F2 B Fe un U mk M L la lb lc t cs) (P : qP j k p pm pl0 ht B Fe un U mk M L la lb lc t) (fin : ∀ es', qS es' N xs → qI es' n (j + 1) → ax_J ax_W 1300 601024 7293034 1536 1498 [some (.float 0), some (.ref 0), some (.ref 159), some (.ref 177), some (.int (nI (7 * j))), l5, l6] [] n sl es' R) : ax_J ax_W 1300 601024 7293034 1536 1055 [some (.float 0), some (.ref 0), some (.ref 159), some (.ref 177), some (.int (nI (7 * j))), l5, l6] [] n sl es R := by
  obtain ⟨S1, fo, S2⟩ := id S
  have hB := P.2.1
  have hj : j < 1000 := by omega
  have i1 : nI (7 * j) + 1 = nI (7 * j + 1) := kn_add _ 1
  have v1 : vp_in (nI (7 * j + 1)) N := nI_in (by omega) (by omega)
  have c1 : (nI (7 * j + 1)).toNatClampNeg = 7 * j + 1 := nI_clamp (by omega)
  have i2 : nI (7 * j) + 2 = nI (7 * j + 2) := kn_add _ 2
  have v2 : vp_in (nI (7 * j + 2)) N := nI_in (by omega) (by omega)
  have c2 : (nI (7 * j + 2)).toNatClampNeg = 7 * j + 2 := nI_clamp (by omega)
  simp only [ax_W_cons, ax_I, ax_cmp, ax_ii, ax_ll, ax_li, ax_st1, ax_st2, ax_kl, ax_k2, ax_fit, ax_rtok, List.getElem?_cons_zero, List.getElem?_cons_succ, List.length_cons, List.length_nil, List.set_cons_zero, List.set_cons_succ, Nat.reduceAdd, Nat.reduceDiv, Nat.reduceMod, Nat.reduceMul, Nat.reduceLT, Nat.reduceLeDiff, Int32.reduceOfInt, Int64.reduceOfInt, true_and, and_true, and_self, true_or, or_true, false_implies, true_implies, not_false_eq_true, not_true_eq_false, Value.category, Nat.reduceEqDiff, Option.toList, List.cons_append, List.nil_append, List.drop_succ_cons, List.drop_zero, ax_qq_eq, ax_t_1536, ax_j_1536_1055, ax_n_1536_1055, S1, i1, v1, c1, i2, v2, c2]
  refine ax_inv_of (Nat.le_of_ble_eq_true rfl) (Nat.le_of_ble_eq_true rfl) (fun _ => x0_rcv X.1 _) (fun h => absurd h (by decide)) hn hs (xp_reach (d := 1289) X.1 hB hj _ _  ?_)
  intro es1 X1 f1
  have M1 := qM_x Mh f1
  have XX1 := qX_x X X1 f1
  have SS := qS_x S f1
  have T1 := SS.1
  have Z1 := mD_Z M1.1 hB hj
  simp only [ax_W_cons, ax_I, ax_cmp, ax_ii, ax_ll, ax_li, ax_st1, ax_st2, ax_kl, ax_k2, ax_fit, ax_rtok, List.getElem?_cons_zero, List.getElem?_cons_succ, List.length_cons, List.length_nil, List.set_cons_zero, List.set_cons_succ, Nat.reduceAdd, Nat.reduceDiv, Nat.reduceMod, Nat.reduceMul, Nat.reduceLT, Nat.reduceLeDiff, Int32.reduceOfInt, Int64.reduceOfInt, true_and, and_true, and_self, true_or, or_true, false_implies, true_implies, not_false_eq_true, not_true_eq_false, Value.category, Nat.reduceEqDiff, Option.toList, List.cons_append, List.nil_append, List.drop_succ_cons, List.drop_zero, ax_qq_eq, ax_t_1536, T1, i1, v1, c1, i2, v2, c2]
  refine ax_inv_of (Nat.le_of_ble_eq_true rfl) (Nat.le_of_ble_eq_true rfl) (fun _ => mE_rcv M1.1.1 _) (fun h => absurd h (by decide)) hn hs (mp_reach (d := 1289) Z1 _ _ ?_)
  intro es2 q2
  have fin := fin es2 (qS_m SS (mq_d q2)) (qI_q XX1 M1 P q2)
  simp only [ax_W_cons, ax_I, ax_cmp, ax_ii, ax_ll, ax_li, ax_st1, ax_st2, ax_kl, ax_k2, ax_fit, ax_rtok, List.getElem?_cons_zero, List.getElem?_cons_succ, List.length_cons, List.length_nil, List.set_cons_zero, List.set_cons_succ, Nat.reduceAdd, Nat.reduceDiv, Nat.reduceMod, Nat.reduceMul, Nat.reduceLT, Nat.reduceLeDiff, Int32.reduceOfInt, Int64.reduceOfInt, true_and, and_true, and_self, true_or, or_true, false_implies, true_implies, not_false_eq_true, not_true_eq_false, Value.category, Nat.reduceEqDiff, Option.toList, List.cons_append, List.nil_append, List.drop_succ_cons, List.drop_zero, ax_qq_eq, ax_t_1536]
  exact fin
theorem lw_arc (hal : ax_al n = 178) (hn : n ≤ 601024) (hs : sl ≤ 7293034) (hi : 7 * j + 7 ≤ N) (hN : N ≤ 3584) (S : qS es N xs) (X : qX es n k p hc kd pl0 ht hs' F1 F2 B Fe un U mk M L la lb lc t cs) (Mh : qM es n st w k p hc kd pm ht hs' F1 F2 B Fe un U mk M L la lb lc t cs) (P : qP j k p pm pl0 ht B Fe un U mk M L la lb lc t) (fin : ∀ es', qS es' N xs → qI es' n (j + 1) → ax_J ax_W 1300 601024 7293034 1536 1498 [some (.float 0), some (.ref 0), some (.ref 159), some (.ref 177), some (.int (nI (7 * j))), l5, l6] [] n sl es' R) : ax_J ax_W 1300 601024 7293034 1536 1092 [some (.float 0), some (.ref 0), some (.ref 159), some (.ref 177), some (.int (nI (7 * j))), l5, l6] [] n sl es R := by
  obtain ⟨S1, fo, S2⟩ := id S
  have hB := P.2.1
  have hj : j < 1000 := by omega
  have i1 : nI (7 * j) + 1 = nI (7 * j + 1) := kn_add _ 1
  have v1 : vp_in (nI (7 * j + 1)) N := nI_in (by omega) (by omega)
  have c1 : (nI (7 * j + 1)).toNatClampNeg = 7 * j + 1 := nI_clamp (by omega)
  have i2 : nI (7 * j) + 2 = nI (7 * j + 2) := kn_add _ 2
  have v2 : vp_in (nI (7 * j + 2)) N := nI_in (by omega) (by omega)
  have c2 : (nI (7 * j + 2)).toNatClampNeg = 7 * j + 2 := nI_clamp (by omega)
  simp only [ax_W_cons, ax_I, ax_cmp, ax_ii, ax_ll, ax_li, ax_st1, ax_st2, ax_kl, ax_k2, ax_fit, ax_rtok, List.getElem?_cons_zero, List.getElem?_cons_succ, List.length_cons, List.length_nil, List.set_cons_zero, List.set_cons_succ, Nat.reduceAdd, Nat.reduceDiv, Nat.reduceMod, Nat.reduceMul, Nat.reduceLT, Nat.reduceLeDiff, Int32.reduceOfInt, Int64.reduceOfInt, true_and, and_true, and_self, true_or, or_true, false_implies, true_implies, not_false_eq_true, not_true_eq_false, Value.category, Nat.reduceEqDiff, Option.toList, List.cons_append, List.nil_append, List.drop_succ_cons, List.drop_zero, ax_qq_eq, ax_t_1536, ax_j_1536_1092, ax_n_1536_1092, S1, i1, v1, c1, i2, v2, c2]
  refine ax_inv_of (Nat.le_of_ble_eq_true rfl) (Nat.le_of_ble_eq_true rfl) (fun _ => x0_rcv X.1 _) (fun h => absurd h (by decide)) hn hs (xp_arc (d := 1289) X.1 hB hj _ _  ?_)
  intro es1 X1 f1
  have M1 := qM_x Mh f1
  have XX1 := qX_x X X1 f1
  have SS := qS_x S f1
  have T1 := SS.1
  have Z1 := mD_Z M1.1 hB hj
  simp only [ax_W_cons, ax_I, ax_cmp, ax_ii, ax_ll, ax_li, ax_st1, ax_st2, ax_kl, ax_k2, ax_fit, ax_rtok, List.getElem?_cons_zero, List.getElem?_cons_succ, List.length_cons, List.length_nil, List.set_cons_zero, List.set_cons_succ, Nat.reduceAdd, Nat.reduceDiv, Nat.reduceMod, Nat.reduceMul, Nat.reduceLT, Nat.reduceLeDiff, Int32.reduceOfInt, Int64.reduceOfInt, true_and, and_true, and_self, true_or, or_true, false_implies, true_implies, not_false_eq_true, not_true_eq_false, Value.category, Nat.reduceEqDiff, Option.toList, List.cons_append, List.nil_append, List.drop_succ_cons, List.drop_zero, ax_qq_eq, ax_t_1536, T1, i1, v1, c1, i2, v2, c2]
  refine ax_inv_of (Nat.le_of_ble_eq_true rfl) (Nat.le_of_ble_eq_true rfl) (fun _ => mE_rcv M1.1.1 _) (fun h => absurd h (by decide)) hn hs (mp_arc (d := 1289) Z1 _ _ ?_)
  intro es2 q2
  have fin := fin es2 (qS_m SS (mq_d q2)) (qI_q XX1 M1 P q2)
  simp only [ax_W_cons, ax_I, ax_cmp, ax_ii, ax_ll, ax_li, ax_st1, ax_st2, ax_kl, ax_k2, ax_fit, ax_rtok, List.getElem?_cons_zero, List.getElem?_cons_succ, List.length_cons, List.length_nil, List.set_cons_zero, List.set_cons_succ, Nat.reduceAdd, Nat.reduceDiv, Nat.reduceMod, Nat.reduceMul, Nat.reduceLT, Nat.reduceLeDiff, Int32.reduceOfInt, Int64.reduceOfInt, true_and, and_true, and_self, true_or, or_true, false_implies, true_implies, not_false_eq_true, not_true_eq_false, Value.category, Nat.reduceEqDiff, Option.toList, List.cons_append, List.nil_append, List.drop_succ_cons, List.drop_zero, ax_qq_eq, ax_t_1536]
  exact fin
theorem lw_calmest (hal : ax_al n = 178) (hn : n ≤ 601024) (hs : sl ≤ 7293034) (hi : 7 * j + 7 ≤ N) (hN : N ≤ 3584) (S : qS es N xs) (X : qX es n k p hc kd pl0 ht hs' F1 F2 B Fe un U mk M L la lb lc t cs) (Mh : qM es n st w k p hc kd pm ht hs' F1 F2 B Fe un U mk M L la lb lc t cs) (P : qP j k p pm pl0 ht B Fe un U mk M L la lb lc t) (fin : ∀ es', qS es' N xs → qI es' n (j + 1) → ax_J ax_W 1300 601024 7293034 1536 1498 [some (.float 0), some (.ref 0), some (.ref 159), some (.ref 177), some (.int (nI (7 * j))), l5, l6] [] n sl es' R) : ax_J ax_W 1300 601024 7293034 1536 1129 [some (.float 0), some (.ref 0), some (.ref 159), some (.ref 177), some (.int (nI (7 * j))), l5, l6] [] n sl es R := by
  obtain ⟨S1, fo, S2⟩ := id S
  have hB := P.2.1
  have hj : j < 1000 := by omega
  have i1 : nI (7 * j) + 1 = nI (7 * j + 1) := kn_add _ 1
  have v1 : vp_in (nI (7 * j + 1)) N := nI_in (by omega) (by omega)
  have c1 : (nI (7 * j + 1)).toNatClampNeg = 7 * j + 1 := nI_clamp (by omega)
  simp only [ax_W_cons, ax_I, ax_cmp, ax_ii, ax_ll, ax_li, ax_st1, ax_st2, ax_kl, ax_k2, ax_fit, ax_rtok, List.getElem?_cons_zero, List.getElem?_cons_succ, List.length_cons, List.length_nil, List.set_cons_zero, List.set_cons_succ, Nat.reduceAdd, Nat.reduceDiv, Nat.reduceMod, Nat.reduceMul, Nat.reduceLT, Nat.reduceLeDiff, Int32.reduceOfInt, Int64.reduceOfInt, true_and, and_true, and_self, true_or, or_true, false_implies, true_implies, not_false_eq_true, not_true_eq_false, Value.category, Nat.reduceEqDiff, Option.toList, List.cons_append, List.nil_append, List.drop_succ_cons, List.drop_zero, ax_qq_eq, ax_t_1536, ax_j_1536_1129, ax_n_1536_1129, S1, i1, v1, c1]
  refine ax_inv_of (Nat.le_of_ble_eq_true rfl) (Nat.le_of_ble_eq_true rfl) (fun _ => x0_rcv X.1 _) (fun h => absurd h (by decide)) hn hs (xp_calmest (d := 1289) X.1 hB hj _  ?_)
  intro es1 X1 f1
  have M1 := qM_x Mh f1
  have XX1 := qX_x X X1 f1
  have SS := qS_x S f1
  have T1 := SS.1
  have Z1 := mD_Z M1.1 hB hj
  simp only [ax_W_cons, ax_I, ax_cmp, ax_ii, ax_ll, ax_li, ax_st1, ax_st2, ax_kl, ax_k2, ax_fit, ax_rtok, List.getElem?_cons_zero, List.getElem?_cons_succ, List.length_cons, List.length_nil, List.set_cons_zero, List.set_cons_succ, Nat.reduceAdd, Nat.reduceDiv, Nat.reduceMod, Nat.reduceMul, Nat.reduceLT, Nat.reduceLeDiff, Int32.reduceOfInt, Int64.reduceOfInt, true_and, and_true, and_self, true_or, or_true, false_implies, true_implies, not_false_eq_true, not_true_eq_false, Value.category, Nat.reduceEqDiff, Option.toList, List.cons_append, List.nil_append, List.drop_succ_cons, List.drop_zero, ax_qq_eq, ax_t_1536, T1, i1, v1, c1]
  refine ax_inv_of (Nat.le_of_ble_eq_true rfl) (Nat.le_of_ble_eq_true rfl) (fun _ => mE_rcv M1.1.1 _) (fun h => absurd h (by decide)) hn hs (mp_calmest (d := 1289) Z1 _ ?_)
  intro es2 q2
  have fin := fin es2 (qS_m SS (mq_d q2)) (qI_q XX1 M1 P q2)
  simp only [ax_W_cons, ax_I, ax_cmp, ax_ii, ax_ll, ax_li, ax_st1, ax_st2, ax_kl, ax_k2, ax_fit, ax_rtok, List.getElem?_cons_zero, List.getElem?_cons_succ, List.length_cons, List.length_nil, List.set_cons_zero, List.set_cons_succ, Nat.reduceAdd, Nat.reduceDiv, Nat.reduceMod, Nat.reduceMul, Nat.reduceLT, Nat.reduceLeDiff, Int32.reduceOfInt, Int64.reduceOfInt, true_and, and_true, and_self, true_or, or_true, false_implies, true_implies, not_false_eq_true, not_true_eq_false, Value.category, Nat.reduceEqDiff, Option.toList, List.cons_append, List.nil_append, List.drop_succ_cons, List.drop_zero, ax_qq_eq, ax_t_1536]
  exact fin
theorem lw_lazy (hal : ax_al n = 178) (hn : n ≤ 601024) (hs : sl ≤ 7293034) (hi : 7 * j + 7 ≤ N) (hN : N ≤ 3584) (S : qS es N xs) (X : qX es n k p hc kd pl0 ht hs' F1 F2 B Fe un U mk M L la lb lc t cs) (Mh : qM es n st w k p hc kd pm ht hs' F1 F2 B Fe un U mk M L la lb lc t cs) (P : qP j k p pm pl0 ht B Fe un U mk M L la lb lc t) (fin : ∀ es', qS es' N xs → qI es' n (j + 1) → ax_J ax_W 1300 601024 7293034 1536 1498 [some (.float 0), some (.ref 0), some (.ref 159), some (.ref 177), some (.int (nI (7 * j))), l5, l6] [] n sl es' R) : ax_J ax_W 1300 601024 7293034 1536 1154 [some (.float 0), some (.ref 0), some (.ref 159), some (.ref 177), some (.int (nI (7 * j))), l5, l6] [] n sl es R := by
  obtain ⟨S1, fo, S2⟩ := id S
  have hB := P.2.1
  have hj : j < 1000 := by omega
  simp only [ax_W_cons, ax_I, ax_cmp, ax_ii, ax_ll, ax_li, ax_st1, ax_st2, ax_kl, ax_k2, ax_fit, ax_rtok, List.getElem?_cons_zero, List.getElem?_cons_succ, List.length_cons, List.length_nil, List.set_cons_zero, List.set_cons_succ, Nat.reduceAdd, Nat.reduceDiv, Nat.reduceMod, Nat.reduceMul, Nat.reduceLT, Nat.reduceLeDiff, Int32.reduceOfInt, Int64.reduceOfInt, true_and, and_true, and_self, true_or, or_true, false_implies, true_implies, not_false_eq_true, not_true_eq_false, Value.category, Nat.reduceEqDiff, Option.toList, List.cons_append, List.nil_append, List.drop_succ_cons, List.drop_zero, ax_qq_eq, ax_t_1536, ax_j_1536_1154, ax_n_1536_1154, S1]
  refine ax_inv_of (Nat.le_of_ble_eq_true rfl) (Nat.le_of_ble_eq_true rfl) (fun _ => x0_rcv X.1 _) (fun h => absurd h (by decide)) hn hs (xp_lazy (d := 1289) X.1 hB hj  ?_)
  intro es1 X1 f1
  have M1 := qM_x Mh f1
  have XX1 := qX_x X X1 f1
  have SS := qS_x S f1
  have T1 := SS.1
  have Z1 := mD_Z M1.1 hB hj
  simp only [ax_W_cons, ax_I, ax_cmp, ax_ii, ax_ll, ax_li, ax_st1, ax_st2, ax_kl, ax_k2, ax_fit, ax_rtok, List.getElem?_cons_zero, List.getElem?_cons_succ, List.length_cons, List.length_nil, List.set_cons_zero, List.set_cons_succ, Nat.reduceAdd, Nat.reduceDiv, Nat.reduceMod, Nat.reduceMul, Nat.reduceLT, Nat.reduceLeDiff, Int32.reduceOfInt, Int64.reduceOfInt, true_and, and_true, and_self, true_or, or_true, false_implies, true_implies, not_false_eq_true, not_true_eq_false, Value.category, Nat.reduceEqDiff, Option.toList, List.cons_append, List.nil_append, List.drop_succ_cons, List.drop_zero, ax_qq_eq, ax_t_1536, T1]
  refine ax_inv_of (Nat.le_of_ble_eq_true rfl) (Nat.le_of_ble_eq_true rfl) (fun _ => mE_rcv M1.1.1 _) (fun h => absurd h (by decide)) hn hs (mp_lazy (d := 1289) Z1 ?_)
  intro es2 q2
  have fin := fin es2 (qS_m SS (mq_d q2)) (qI_q XX1 M1 P q2)
  simp only [ax_W_cons, ax_I, ax_cmp, ax_ii, ax_ll, ax_li, ax_st1, ax_st2, ax_kl, ax_k2, ax_fit, ax_rtok, List.getElem?_cons_zero, List.getElem?_cons_succ, List.length_cons, List.length_nil, List.set_cons_zero, List.set_cons_succ, Nat.reduceAdd, Nat.reduceDiv, Nat.reduceMod, Nat.reduceMul, Nat.reduceLT, Nat.reduceLeDiff, Int32.reduceOfInt, Int64.reduceOfInt, true_and, and_true, and_self, true_or, or_true, false_implies, true_implies, not_false_eq_true, not_true_eq_false, Value.category, Nat.reduceEqDiff, Option.toList, List.cons_append, List.nil_append, List.drop_succ_cons, List.drop_zero, ax_qq_eq, ax_t_1536]
  exact fin
theorem lw_post (hal : ax_al n = 178) (hn : n ≤ 601024) (hs : sl ≤ 7293034) (hi : 7 * j + 7 ≤ N) (hN : N ≤ 3584) (S : qS es N xs) (X : qX es n k p hc kd pl0 ht hs' F1 F2 B Fe un U mk M L la lb lc t cs) (Mh : qM es n st w k p hc kd pm ht hs' F1 F2 B Fe un U mk M L la lb lc t cs) (P : qP j k p pm pl0 ht B Fe un U mk M L la lb lc t) (fin : ∀ es', qS es' N xs → qI es' n (j + 1) → ax_J ax_W 1300 601024 7293034 1536 1498 [some (.float 0), some (.ref 0), some (.ref 159), some (.ref 177), some (.int (nI (7 * j))), l5, l6] [] n sl es' R) : ax_J ax_W 1300 601024 7293034 1536 1167 [some (.float 0), some (.ref 0), some (.ref 159), some (.ref 177), some (.int (nI (7 * j))), l5, l6] [] n sl es R := by
  obtain ⟨S1, fo, S2⟩ := id S
  have hB := P.2.1
  have hj : j < 1000 := by omega
  have i1 : nI (7 * j) + 1 = nI (7 * j + 1) := kn_add _ 1
  have v1 : vp_in (nI (7 * j + 1)) N := nI_in (by omega) (by omega)
  have c1 : (nI (7 * j + 1)).toNatClampNeg = 7 * j + 1 := nI_clamp (by omega)
  simp only [ax_W_cons, ax_I, ax_cmp, ax_ii, ax_ll, ax_li, ax_st1, ax_st2, ax_kl, ax_k2, ax_fit, ax_rtok, List.getElem?_cons_zero, List.getElem?_cons_succ, List.length_cons, List.length_nil, List.set_cons_zero, List.set_cons_succ, Nat.reduceAdd, Nat.reduceDiv, Nat.reduceMod, Nat.reduceMul, Nat.reduceLT, Nat.reduceLeDiff, Int32.reduceOfInt, Int64.reduceOfInt, true_and, and_true, and_self, true_or, or_true, false_implies, true_implies, not_false_eq_true, not_true_eq_false, Value.category, Nat.reduceEqDiff, Option.toList, List.cons_append, List.nil_append, List.drop_succ_cons, List.drop_zero, ax_qq_eq, ax_t_1536, ax_j_1536_1167, ax_n_1536_1167, S1, i1, v1, c1]
  refine ax_inv_of (Nat.le_of_ble_eq_true rfl) (Nat.le_of_ble_eq_true rfl) (fun _ => x0_rcv X.1 _) (fun h => absurd h (by decide)) hn hs (xp_post (d := 1289) X.1 hB hj _  ?_)
  intro es1 X1 f1
  have M1 := qM_x Mh f1
  have XX1 := qX_x X X1 f1
  have SS := qS_x S f1
  have T1 := SS.1
  have Z1 := mD_Z M1.1 hB hj
  simp only [ax_W_cons, ax_I, ax_cmp, ax_ii, ax_ll, ax_li, ax_st1, ax_st2, ax_kl, ax_k2, ax_fit, ax_rtok, List.getElem?_cons_zero, List.getElem?_cons_succ, List.length_cons, List.length_nil, List.set_cons_zero, List.set_cons_succ, Nat.reduceAdd, Nat.reduceDiv, Nat.reduceMod, Nat.reduceMul, Nat.reduceLT, Nat.reduceLeDiff, Int32.reduceOfInt, Int64.reduceOfInt, true_and, and_true, and_self, true_or, or_true, false_implies, true_implies, not_false_eq_true, not_true_eq_false, Value.category, Nat.reduceEqDiff, Option.toList, List.cons_append, List.nil_append, List.drop_succ_cons, List.drop_zero, ax_qq_eq, ax_t_1536, T1, i1, v1, c1]
  refine ax_inv_of (Nat.le_of_ble_eq_true rfl) (Nat.le_of_ble_eq_true rfl) (fun _ => mE_rcv M1.1.1 _) (fun h => absurd h (by decide)) hn hs (mp_post (d := 1289) Z1 _ ?_)
  intro es2 q2
  have fin := fin es2 (qS_m SS (mq_d q2)) (qI_q XX1 M1 P q2)
  simp only [ax_W_cons, ax_I, ax_cmp, ax_ii, ax_ll, ax_li, ax_st1, ax_st2, ax_kl, ax_k2, ax_fit, ax_rtok, List.getElem?_cons_zero, List.getElem?_cons_succ, List.length_cons, List.length_nil, List.set_cons_zero, List.set_cons_succ, Nat.reduceAdd, Nat.reduceDiv, Nat.reduceMod, Nat.reduceMul, Nat.reduceLT, Nat.reduceLeDiff, Int32.reduceOfInt, Int64.reduceOfInt, true_and, and_true, and_self, true_or, or_true, false_implies, true_implies, not_false_eq_true, not_true_eq_false, Value.category, Nat.reduceEqDiff, Option.toList, List.cons_append, List.nil_append, List.drop_succ_cons, List.drop_zero, ax_qq_eq, ax_t_1536]
  exact fin
theorem lw_hush (hal : ax_al n = 178) (hn : n ≤ 601024) (hs : sl ≤ 7293034) (hi : 7 * j + 7 ≤ N) (hN : N ≤ 3584) (S : qS es N xs) (X : qX es n k p hc kd pl0 ht hs' F1 F2 B Fe un U mk M L la lb lc t cs) (Mh : qM es n st w k p hc kd pm ht hs' F1 F2 B Fe un U mk M L la lb lc t cs) (P : qP j k p pm pl0 ht B Fe un U mk M L la lb lc t) (fin : ∀ es', qS es' N xs → qI es' n (j + 1) → ax_J ax_W 1300 601024 7293034 1536 1498 [some (.float 0), some (.ref 0), some (.ref 159), some (.ref 177), some (.int (nI (7 * j))), l5, l6] [] n sl es' R) : ax_J ax_W 1300 601024 7293034 1536 1192 [some (.float 0), some (.ref 0), some (.ref 159), some (.ref 177), some (.int (nI (7 * j))), l5, l6] [] n sl es R := by
  obtain ⟨S1, fo, S2⟩ := id S
  have hB := P.2.1
  have hj : j < 1000 := by omega
  simp only [ax_W_cons, ax_I, ax_cmp, ax_ii, ax_ll, ax_li, ax_st1, ax_st2, ax_kl, ax_k2, ax_fit, ax_rtok, List.getElem?_cons_zero, List.getElem?_cons_succ, List.length_cons, List.length_nil, List.set_cons_zero, List.set_cons_succ, Nat.reduceAdd, Nat.reduceDiv, Nat.reduceMod, Nat.reduceMul, Nat.reduceLT, Nat.reduceLeDiff, Int32.reduceOfInt, Int64.reduceOfInt, true_and, and_true, and_self, true_or, or_true, false_implies, true_implies, not_false_eq_true, not_true_eq_false, Value.category, Nat.reduceEqDiff, Option.toList, List.cons_append, List.nil_append, List.drop_succ_cons, List.drop_zero, ax_qq_eq, ax_t_1536, ax_j_1536_1192, ax_n_1536_1192, S1]
  refine ax_inv_of (Nat.le_of_ble_eq_true rfl) (Nat.le_of_ble_eq_true rfl) (fun _ => x0_rcv X.1 _) (fun h => absurd h (by decide)) hn hs (xp_hush (d := 1289) X.1 hB hj  ?_)
  intro es1 X1 f1
  have M1 := qM_x Mh f1
  have XX1 := qX_x X X1 f1
  have SS := qS_x S f1
  have T1 := SS.1
  have Z1 := mD_Z M1.1 hB hj
  simp only [ax_W_cons, ax_I, ax_cmp, ax_ii, ax_ll, ax_li, ax_st1, ax_st2, ax_kl, ax_k2, ax_fit, ax_rtok, List.getElem?_cons_zero, List.getElem?_cons_succ, List.length_cons, List.length_nil, List.set_cons_zero, List.set_cons_succ, Nat.reduceAdd, Nat.reduceDiv, Nat.reduceMod, Nat.reduceMul, Nat.reduceLT, Nat.reduceLeDiff, Int32.reduceOfInt, Int64.reduceOfInt, true_and, and_true, and_self, true_or, or_true, false_implies, true_implies, not_false_eq_true, not_true_eq_false, Value.category, Nat.reduceEqDiff, Option.toList, List.cons_append, List.nil_append, List.drop_succ_cons, List.drop_zero, ax_qq_eq, ax_t_1536, T1]
  refine ax_inv_of (Nat.le_of_ble_eq_true rfl) (Nat.le_of_ble_eq_true rfl) (fun _ => mE_rcv M1.1.1 _) (fun h => absurd h (by decide)) hn hs (mp_hush (d := 1289) Z1 ?_)
  intro es2 q2
  have fin := fin es2 (qS_m SS (mq_d q2)) (qI_q XX1 M1 P q2)
  simp only [ax_W_cons, ax_I, ax_cmp, ax_ii, ax_ll, ax_li, ax_st1, ax_st2, ax_kl, ax_k2, ax_fit, ax_rtok, List.getElem?_cons_zero, List.getElem?_cons_succ, List.length_cons, List.length_nil, List.set_cons_zero, List.set_cons_succ, Nat.reduceAdd, Nat.reduceDiv, Nat.reduceMod, Nat.reduceMul, Nat.reduceLT, Nat.reduceLeDiff, Int32.reduceOfInt, Int64.reduceOfInt, true_and, and_true, and_self, true_or, or_true, false_implies, true_implies, not_false_eq_true, not_true_eq_false, Value.category, Nat.reduceEqDiff, Option.toList, List.cons_append, List.nil_append, List.drop_succ_cons, List.drop_zero, ax_qq_eq, ax_t_1536]
  exact fin
theorem lw_rises (hal : ax_al n = 178) (hn : n ≤ 601024) (hs : sl ≤ 7293034) (hi : 7 * j + 7 ≤ N) (hN : N ≤ 3584) (S : qS es N xs) (X : qX es n k p hc kd pl0 ht hs' F1 F2 B Fe un U mk M L la lb lc t cs) (Mh : qM es n st w k p hc kd pm ht hs' F1 F2 B Fe un U mk M L la lb lc t cs) (P : qP j k p pm pl0 ht B Fe un U mk M L la lb lc t) (fin : ∀ es', qS es' N xs → qI es' n (j + 1) → ax_J ax_W 1300 601024 7293034 1536 1498 [some (.float 0), some (.ref 0), some (.ref 159), some (.ref 177), some (.int (nI (7 * j))), l5, l6] [] n sl es' R) : ax_J ax_W 1300 601024 7293034 1536 1205 [some (.float 0), some (.ref 0), some (.ref 159), some (.ref 177), some (.int (nI (7 * j))), l5, l6] [] n sl es R := by
  obtain ⟨S1, fo, S2⟩ := id S
  have hB := P.2.1
  have hj : j < 1000 := by omega
  have i1 : nI (7 * j) + 1 = nI (7 * j + 1) := kn_add _ 1
  have v1 : vp_in (nI (7 * j + 1)) N := nI_in (by omega) (by omega)
  have c1 : (nI (7 * j + 1)).toNatClampNeg = 7 * j + 1 := nI_clamp (by omega)
  simp only [ax_W_cons, ax_I, ax_cmp, ax_ii, ax_ll, ax_li, ax_st1, ax_st2, ax_kl, ax_k2, ax_fit, ax_rtok, List.getElem?_cons_zero, List.getElem?_cons_succ, List.length_cons, List.length_nil, List.set_cons_zero, List.set_cons_succ, Nat.reduceAdd, Nat.reduceDiv, Nat.reduceMod, Nat.reduceMul, Nat.reduceLT, Nat.reduceLeDiff, Int32.reduceOfInt, Int64.reduceOfInt, true_and, and_true, and_self, true_or, or_true, false_implies, true_implies, not_false_eq_true, not_true_eq_false, Value.category, Nat.reduceEqDiff, Option.toList, List.cons_append, List.nil_append, List.drop_succ_cons, List.drop_zero, ax_qq_eq, ax_t_1536, ax_j_1536_1205, ax_n_1536_1205, S1, i1, v1, c1]
  refine ax_inv_of (Nat.le_of_ble_eq_true rfl) (Nat.le_of_ble_eq_true rfl) (fun _ => x0_rcv X.1 _) (fun h => absurd h (by decide)) hn hs (xp_rises (d := 1289) X.1 hB hj _  ?_)
  intro es1 X1 f1
  have M1 := qM_x Mh f1
  have XX1 := qX_x X X1 f1
  have SS := qS_x S f1
  have T1 := SS.1
  have Z1 := mD_Z M1.1 hB hj
  simp only [ax_W_cons, ax_I, ax_cmp, ax_ii, ax_ll, ax_li, ax_st1, ax_st2, ax_kl, ax_k2, ax_fit, ax_rtok, List.getElem?_cons_zero, List.getElem?_cons_succ, List.length_cons, List.length_nil, List.set_cons_zero, List.set_cons_succ, Nat.reduceAdd, Nat.reduceDiv, Nat.reduceMod, Nat.reduceMul, Nat.reduceLT, Nat.reduceLeDiff, Int32.reduceOfInt, Int64.reduceOfInt, true_and, and_true, and_self, true_or, or_true, false_implies, true_implies, not_false_eq_true, not_true_eq_false, Value.category, Nat.reduceEqDiff, Option.toList, List.cons_append, List.nil_append, List.drop_succ_cons, List.drop_zero, ax_qq_eq, ax_t_1536, T1, i1, v1, c1]
  refine ax_inv_of (Nat.le_of_ble_eq_true rfl) (Nat.le_of_ble_eq_true rfl) (fun _ => mE_rcv M1.1.1 _) (fun h => absurd h (by decide)) hn hs (mp_rises (d := 1289) Z1 _ ?_)
  intro es2 q2
  have fin := fin es2 (qS_m SS (mq_d q2)) (qI_q XX1 M1 P q2)
  simp only [ax_W_cons, ax_I, ax_cmp, ax_ii, ax_ll, ax_li, ax_st1, ax_st2, ax_kl, ax_k2, ax_fit, ax_rtok, List.getElem?_cons_zero, List.getElem?_cons_succ, List.length_cons, List.length_nil, List.set_cons_zero, List.set_cons_succ, Nat.reduceAdd, Nat.reduceDiv, Nat.reduceMod, Nat.reduceMul, Nat.reduceLT, Nat.reduceLeDiff, Int32.reduceOfInt, Int64.reduceOfInt, true_and, and_true, and_self, true_or, or_true, false_implies, true_implies, not_false_eq_true, not_true_eq_false, Value.category, Nat.reduceEqDiff, Option.toList, List.cons_append, List.nil_append, List.drop_succ_cons, List.drop_zero, ax_qq_eq, ax_t_1536]
  exact fin
theorem lw_chance (hal : ax_al n = 178) (hn : n ≤ 601024) (hs : sl ≤ 7293034) (hi : 7 * j + 7 ≤ N) (hN : N ≤ 3584) (S : qS es N xs) (X : qX es n k p hc kd pl0 ht hs' F1 F2 B Fe un U mk M L la lb lc t cs) (Mh : qM es n st w k p hc kd pm ht hs' F1 F2 B Fe un U mk M L la lb lc t cs) (P : qP j k p pm pl0 ht B Fe un U mk M L la lb lc t) (fin : ∀ es', qS es' N xs → qI es' n (j + 1) → ax_J ax_W 1300 601024 7293034 1536 1498 [some (.float 0), some (.ref 0), some (.ref 159), some (.ref 177), some (.int (nI (7 * j))), l5, l6] [] n sl es' R) : ax_J ax_W 1300 601024 7293034 1536 1230 [some (.float 0), some (.ref 0), some (.ref 159), some (.ref 177), some (.int (nI (7 * j))), l5, l6] [] n sl es R := by
  obtain ⟨S1, fo, S2⟩ := id S
  have hB := P.2.1
  have hj : j < 1000 := by omega
  have i1 : nI (7 * j) + 1 = nI (7 * j + 1) := kn_add _ 1
  have v1 : vp_in (nI (7 * j + 1)) N := nI_in (by omega) (by omega)
  have c1 : (nI (7 * j + 1)).toNatClampNeg = 7 * j + 1 := nI_clamp (by omega)
  have i2 : nI (7 * j) + 2 = nI (7 * j + 2) := kn_add _ 2
  have v2 : vp_in (nI (7 * j + 2)) N := nI_in (by omega) (by omega)
  have c2 : (nI (7 * j + 2)).toNatClampNeg = 7 * j + 2 := nI_clamp (by omega)
  have i3 : nI (7 * j) + 3 = nI (7 * j + 3) := kn_add _ 3
  have v3 : vp_in (nI (7 * j + 3)) N := nI_in (by omega) (by omega)
  have c3 : (nI (7 * j + 3)).toNatClampNeg = 7 * j + 3 := nI_clamp (by omega)
  simp only [ax_W_cons, ax_I, ax_cmp, ax_ii, ax_ll, ax_li, ax_st1, ax_st2, ax_kl, ax_k2, ax_fit, ax_rtok, List.getElem?_cons_zero, List.getElem?_cons_succ, List.length_cons, List.length_nil, List.set_cons_zero, List.set_cons_succ, Nat.reduceAdd, Nat.reduceDiv, Nat.reduceMod, Nat.reduceMul, Nat.reduceLT, Nat.reduceLeDiff, Int32.reduceOfInt, Int64.reduceOfInt, true_and, and_true, and_self, true_or, or_true, false_implies, true_implies, not_false_eq_true, not_true_eq_false, Value.category, Nat.reduceEqDiff, Option.toList, List.cons_append, List.nil_append, List.drop_succ_cons, List.drop_zero, ax_qq_eq, ax_t_1536, ax_j_1536_1230, ax_n_1536_1230, S1, i1, v1, c1, i2, v2, c2, i3, v3, c3]
  refine ax_inv_of (Nat.le_of_ble_eq_true rfl) (Nat.le_of_ble_eq_true rfl) (fun _ => x0_rcv X.1 _) (fun h => absurd h (by decide)) hn hs (xp_chance (d := 1289) X.1 hB hj _ _ _  ?_)
  intro es1 X1 f1
  have M1 := qM_x Mh f1
  have XX1 := qX_x X X1 f1
  have SS := qS_x S f1
  have T1 := SS.1
  have Z1 := mD_Z M1.1 hB hj
  simp only [ax_W_cons, ax_I, ax_cmp, ax_ii, ax_ll, ax_li, ax_st1, ax_st2, ax_kl, ax_k2, ax_fit, ax_rtok, List.getElem?_cons_zero, List.getElem?_cons_succ, List.length_cons, List.length_nil, List.set_cons_zero, List.set_cons_succ, Nat.reduceAdd, Nat.reduceDiv, Nat.reduceMod, Nat.reduceMul, Nat.reduceLT, Nat.reduceLeDiff, Int32.reduceOfInt, Int64.reduceOfInt, true_and, and_true, and_self, true_or, or_true, false_implies, true_implies, not_false_eq_true, not_true_eq_false, Value.category, Nat.reduceEqDiff, Option.toList, List.cons_append, List.nil_append, List.drop_succ_cons, List.drop_zero, ax_qq_eq, ax_t_1536, T1, i1, v1, c1, i2, v2, c2, i3, v3, c3]
  refine ax_inv_of (Nat.le_of_ble_eq_true rfl) (Nat.le_of_ble_eq_true rfl) (fun _ => mE_rcv M1.1.1 _) (fun h => absurd h (by decide)) hn hs (mp_chance (d := 1289) Z1 _ _ _ ?_)
  intro es2 q2
  have fin := fin es2 (qS_m SS (mq_d q2)) (qI_q XX1 M1 P q2)
  simp only [ax_W_cons, ax_I, ax_cmp, ax_ii, ax_ll, ax_li, ax_st1, ax_st2, ax_kl, ax_k2, ax_fit, ax_rtok, List.getElem?_cons_zero, List.getElem?_cons_succ, List.length_cons, List.length_nil, List.set_cons_zero, List.set_cons_succ, Nat.reduceAdd, Nat.reduceDiv, Nat.reduceMod, Nat.reduceMul, Nat.reduceLT, Nat.reduceLeDiff, Int32.reduceOfInt, Int64.reduceOfInt, true_and, and_true, and_self, true_or, or_true, false_implies, true_implies, not_false_eq_true, not_true_eq_false, Value.category, Nat.reduceEqDiff, Option.toList, List.cons_append, List.nil_append, List.drop_succ_cons, List.drop_zero, ax_qq_eq, ax_t_1536]
  exact fin
theorem lw_years (hal : ax_al n = 178) (hn : n ≤ 601024) (hs : sl ≤ 7293034) (hi : 7 * j + 7 ≤ N) (hN : N ≤ 3584) (S : qS es N xs) (X : qX es n k p hc kd pl0 ht hs' F1 F2 B Fe un U mk M L la lb lc t cs) (Mh : qM es n st w k p hc kd pm ht hs' F1 F2 B Fe un U mk M L la lb lc t cs) (P : qP j k p pm pl0 ht B Fe un U mk M L la lb lc t) (fin : ∀ es', qS es' N xs → qI es' n (j + 1) → ax_J ax_W 1300 601024 7293034 1536 1498 [some (.float 0), some (.ref 0), some (.ref 159), some (.ref 177), some (.int (nI (7 * j))), l5, l6] [] n sl es' R) : ax_J ax_W 1300 601024 7293034 1536 1371 [some (.float 0), some (.ref 0), some (.ref 159), some (.ref 177), some (.int (nI (7 * j))), l5, l6] [] n sl es R := by
  obtain ⟨S1, fo, S2⟩ := id S
  have hB := P.2.1
  have hj : j < 1000 := by omega
  have i1 : nI (7 * j) + 1 = nI (7 * j + 1) := kn_add _ 1
  have v1 : vp_in (nI (7 * j + 1)) N := nI_in (by omega) (by omega)
  have c1 : (nI (7 * j + 1)).toNatClampNeg = 7 * j + 1 := nI_clamp (by omega)
  have i2 : nI (7 * j) + 2 = nI (7 * j + 2) := kn_add _ 2
  have v2 : vp_in (nI (7 * j + 2)) N := nI_in (by omega) (by omega)
  have c2 : (nI (7 * j + 2)).toNatClampNeg = 7 * j + 2 := nI_clamp (by omega)
  have i3 : nI (7 * j) + 3 = nI (7 * j + 3) := kn_add _ 3
  have v3 : vp_in (nI (7 * j + 3)) N := nI_in (by omega) (by omega)
  have c3 : (nI (7 * j + 3)).toNatClampNeg = 7 * j + 3 := nI_clamp (by omega)
  simp only [ax_W_cons, ax_I, ax_cmp, ax_ii, ax_ll, ax_li, ax_st1, ax_st2, ax_kl, ax_k2, ax_fit, ax_rtok, List.getElem?_cons_zero, List.getElem?_cons_succ, List.length_cons, List.length_nil, List.set_cons_zero, List.set_cons_succ, Nat.reduceAdd, Nat.reduceDiv, Nat.reduceMod, Nat.reduceMul, Nat.reduceLT, Nat.reduceLeDiff, Int32.reduceOfInt, Int64.reduceOfInt, true_and, and_true, and_self, true_or, or_true, false_implies, true_implies, not_false_eq_true, not_true_eq_false, Value.category, Nat.reduceEqDiff, Option.toList, List.cons_append, List.nil_append, List.drop_succ_cons, List.drop_zero, ax_qq_eq, ax_t_1536, ax_j_1536_1371, ax_n_1536_1371, S1, i1, v1, c1, i2, v2, c2, i3, v3, c3]
  refine ax_inv_of (Nat.le_of_ble_eq_true rfl) (Nat.le_of_ble_eq_true rfl) (fun _ => x0_rcv X.1 _) (fun h => absurd h (by decide)) hn hs (xp_years (d := 1289) X.1 hB hj _ _ _  ?_)
  intro es1 X1 f1
  have M1 := qM_x Mh f1
  have XX1 := qX_x X X1 f1
  have SS := qS_x S f1
  have T1 := SS.1
  have Z1 := mD_Z M1.1 hB hj
  simp only [ax_W_cons, ax_I, ax_cmp, ax_ii, ax_ll, ax_li, ax_st1, ax_st2, ax_kl, ax_k2, ax_fit, ax_rtok, List.getElem?_cons_zero, List.getElem?_cons_succ, List.length_cons, List.length_nil, List.set_cons_zero, List.set_cons_succ, Nat.reduceAdd, Nat.reduceDiv, Nat.reduceMod, Nat.reduceMul, Nat.reduceLT, Nat.reduceLeDiff, Int32.reduceOfInt, Int64.reduceOfInt, true_and, and_true, and_self, true_or, or_true, false_implies, true_implies, not_false_eq_true, not_true_eq_false, Value.category, Nat.reduceEqDiff, Option.toList, List.cons_append, List.nil_append, List.drop_succ_cons, List.drop_zero, ax_qq_eq, ax_t_1536, T1, i1, v1, c1, i2, v2, c2, i3, v3, c3]
  refine ax_inv_of (Nat.le_of_ble_eq_true rfl) (Nat.le_of_ble_eq_true rfl) (fun _ => mE_rcv M1.1.1 _) (fun h => absurd h (by decide)) hn hs (mp_years (d := 1289) Z1 _ _ _ ?_)
  intro es2 q2
  have fin := fin es2 (qS_m SS (mq_d q2)) (qI_q XX1 M1 P q2)
  simp only [ax_W_cons, ax_I, ax_cmp, ax_ii, ax_ll, ax_li, ax_st1, ax_st2, ax_kl, ax_k2, ax_fit, ax_rtok, List.getElem?_cons_zero, List.getElem?_cons_succ, List.length_cons, List.length_nil, List.set_cons_zero, List.set_cons_succ, Nat.reduceAdd, Nat.reduceDiv, Nat.reduceMod, Nat.reduceMul, Nat.reduceLT, Nat.reduceLeDiff, Int32.reduceOfInt, Int64.reduceOfInt, true_and, and_true, and_self, true_or, or_true, false_implies, true_implies, not_false_eq_true, not_true_eq_false, Value.category, Nat.reduceEqDiff, Option.toList, List.cons_append, List.nil_append, List.drop_succ_cons, List.drop_zero, ax_qq_eq, ax_t_1536]
  exact fin
end LL
