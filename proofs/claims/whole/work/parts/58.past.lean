/-! the reference's count; the class: felt, shares -/
section MM
variable {d n sl k p hc L N un tl : Nat} {es : ax_H} {kd pm ht hs pl0 la lb lc : Nat → Int32} {F1 F2 : Int32 → Int32 → Int32 → Int32 → Int32} {st : Nat → Int32} {B : zB} {Fe : zF} {U : Nat → zB} {mk : Nat → Bool} {M : Nat → zB × zF} {w : mW9} {Q : Option Value → ax_H → Prop}
theorem mp_count (D : mD es n st w k p hc kd pm ht hs F1 F2 B Fe un U mk M) (hB : zB_ok k p N B) (hN : N < 1000) (hLi : mLi es L la lb lc) (hw : w.1 = nI tl) (x : Int32) (hQ : ∀ es' st', mD es' n st' w k p hc kd pm ht hs F1 F2 B Fe un U mk M → mfd es es' → Q (some (.int (zq_count k p hc hs B L Fe.1 un tl x))) es') : ax_Mt (d + 10) 1517 [.ref 159, .int x] n sl es Q := by
  obtain ⟨hal, hk, hp, hhs, hF, hK⟩ := id D.1
  have hB1 := hB.2.1
  refine ax_Mt_go (m := ax_m_11_109) (ls := [some (.ref 159), some (.int x)]) rfl ax_b_1517_0 (Nat.le_of_ble_eq_true rfl) rfl ?_
  refine mk_thrown hal hK.1 rfl ?_
  intro es0 h0
  have D0 := mD_th D h0
  have hQ := hQ es0 st D0 (mth_d h0)
  obtain ⟨E0, hX0, ⟨t, g, hO0⟩, hun, ⟨r1, r2, r3, r4⟩, -⟩ := id D0
  obtain ⟨hal, hk, hp, hhs, hF, hK0⟩ := id E0
  obtain ⟨-, ct, op, ar, q1, q2, q3, ⟨k1, k2, k3, -⟩, q5⟩ := id hK0
  have w0 : es0 159 = _ := hO0
  have y1 := hX0.1
  have rc : ∀ As, ax_rcv n es0 11 (.ref 159 :: As) := mE_rcv E0
  simp only [ax_W_cons, ax_I, ax_cmp, ax_ii, ax_ll, ax_li, ax_st1, ax_st2, ax_kl, ax_k2, ax_fit, ax_rtok, List.getElem?_cons_zero, List.getElem?_cons_succ, List.length_cons, List.length_nil, List.set_cons_zero, List.set_cons_succ, Nat.reduceAdd, Nat.reduceDiv, Nat.reduceMod, Nat.reduceMul, Nat.reduceLT, Nat.reduceLeDiff, Int32.reduceOfInt, Int64.reduceOfInt, true_and, and_true, and_self, true_or, or_true, false_implies, true_implies, not_false_eq_true, not_true_eq_false, Value.category, Nat.reduceEqDiff, Option.toList, List.cons_append, List.nil_append, List.drop_succ_cons, List.drop_zero, ax_qq_eq, ax_t_1517]
  rcases mx_in12 x with ⟨v, hv, rfl⟩ | h
  · have h12 : v = 0 ∨ v = 1 ∨ v = 2 ∨ v = 3 ∨ v = 4 ∨ v = 5 ∨ v = 6 ∨ v = 7 ∨ v = 8 ∨ v = 9 ∨ v = 10 ∨ v = 11 := by omega
    rcases h12 with rfl | rfl | rfl | rfl | rfl | rfl | rfl | rfl | rfl | rfl | rfl | rfl
    · refine ⟨fun h => absurd h (by decide), fun _ => ?_⟩
      show ax_J ax_W _ _ _ _ 68 _ _ _ _ _ _
      have v0 : vp_in (nI 0) 80 := nI_in (by decide) (by decide)
      have m0 : (nI 0).toNatClampNeg = 0 := by decide
      simp only [ax_W_cons, ax_I, ax_cmp, ax_ii, ax_ll, ax_li, ax_st1, ax_st2, ax_kl, ax_k2, ax_fit, ax_rtok, List.getElem?_cons_zero, List.getElem?_cons_succ, List.length_cons, List.length_nil, List.set_cons_zero, List.set_cons_succ, Nat.reduceAdd, Nat.reduceDiv, Nat.reduceMod, Nat.reduceMul, Nat.reduceLT, Nat.reduceLeDiff, Int32.reduceOfInt, Int64.reduceOfInt, true_and, and_true, and_self, true_or, or_true, false_implies, true_implies, not_false_eq_true, not_true_eq_false, Value.category, Nat.reduceEqDiff, Option.toList, List.cons_append, List.nil_append, List.drop_succ_cons, List.drop_zero, ax_qq_eq, ax_t_1517, ax_j_1517_68, ax_n_1517_68, w0, q1, mo_f, hal, v0, m0, k1]
      exact hQ
    · refine ⟨fun h => absurd h (by decide), fun _ => ?_⟩
      show ax_J ax_W _ _ _ _ 68 _ _ _ _ _ _
      have v0 : vp_in (nI 1) 80 := nI_in (by decide) (by decide)
      have m0 : (nI 1).toNatClampNeg = 1 := by decide
      simp only [ax_W_cons, ax_I, ax_cmp, ax_ii, ax_ll, ax_li, ax_st1, ax_st2, ax_kl, ax_k2, ax_fit, ax_rtok, List.getElem?_cons_zero, List.getElem?_cons_succ, List.length_cons, List.length_nil, List.set_cons_zero, List.set_cons_succ, Nat.reduceAdd, Nat.reduceDiv, Nat.reduceMod, Nat.reduceMul, Nat.reduceLT, Nat.reduceLeDiff, Int32.reduceOfInt, Int64.reduceOfInt, true_and, and_true, and_self, true_or, or_true, false_implies, true_implies, not_false_eq_true, not_true_eq_false, Value.category, Nat.reduceEqDiff, Option.toList, List.cons_append, List.nil_append, List.drop_succ_cons, List.drop_zero, ax_qq_eq, ax_t_1517, ax_j_1517_68, ax_n_1517_68, w0, q1, mo_f, hal, v0, m0, k2]
      exact hQ
    · refine ⟨fun h => absurd h (by decide), fun _ => ?_⟩
      show ax_J ax_W _ _ _ _ 75 _ _ _ _ _ _
      have v0 : vp_in 0 1196 := nI_in (c := 0) (by decide) (by decide)
      have e1 : st 0 = nI B.1 := r1.1
      simp only [ax_W_cons, ax_I, ax_cmp, ax_ii, ax_ll, ax_li, ax_st1, ax_st2, ax_kl, ax_k2, ax_fit, ax_rtok, List.getElem?_cons_zero, List.getElem?_cons_succ, List.length_cons, List.length_nil, List.set_cons_zero, List.set_cons_succ, Nat.reduceAdd, Nat.reduceDiv, Nat.reduceMod, Nat.reduceMul, Nat.reduceLT, Nat.reduceLeDiff, Int32.reduceOfInt, Int64.reduceOfInt, true_and, and_true, and_self, true_or, or_true, false_implies, true_implies, not_false_eq_true, not_true_eq_false, Value.category, Nat.reduceEqDiff, Option.toList, List.cons_append, List.nil_append, List.drop_succ_cons, List.drop_zero, ax_qq_eq, ax_t_1517, ax_j_1517_75, ax_n_1517_75, w0, y1, mo_f, hal, v0, kx_n0, e1]
      exact hQ
    · refine ⟨fun h => absurd h (by decide), fun _ => ?_⟩
      show ax_J ax_W _ _ _ _ 82 _ _ _ _ _ _
      simp only [ax_W_cons, ax_I, ax_cmp, ax_ii, ax_ll, ax_li, ax_st1, ax_st2, ax_kl, ax_k2, ax_fit, ax_rtok, List.getElem?_cons_zero, List.getElem?_cons_succ, List.length_cons, List.length_nil, List.set_cons_zero, List.set_cons_succ, Nat.reduceAdd, Nat.reduceDiv, Nat.reduceMod, Nat.reduceMul, Nat.reduceLT, Nat.reduceLeDiff, Int32.reduceOfInt, Int64.reduceOfInt, true_and, and_true, and_self, true_or, or_true, false_implies, true_implies, not_false_eq_true, not_true_eq_false, Value.category, Nat.reduceEqDiff, Option.toList, List.cons_append, List.nil_append, List.drop_succ_cons, List.drop_zero, ax_qq_eq, ax_t_1517, ax_j_1517_82, ax_n_1517_82]
      refine ax_inv_of (Nat.le_of_ble_eq_true rfl) (Nat.le_of_ble_eq_true rfl) (fun _ => rc _) (fun h => absurd h (by decide)) (Nat.le_refl _) (Nat.le_refl _) (mk_heatOf hal hK0 hX0 (b := 0) (by omega) ⟨hhs.1, hhs.2.1⟩ r1.1 (by omega) ?_)
      simp only [ax_W_cons, ax_I, ax_cmp, ax_ii, ax_ll, ax_li, ax_st1, ax_st2, ax_kl, ax_k2, ax_fit, ax_rtok, List.getElem?_cons_zero, List.getElem?_cons_succ, List.length_cons, List.length_nil, List.set_cons_zero, List.set_cons_succ, Nat.reduceAdd, Nat.reduceDiv, Nat.reduceMod, Nat.reduceMul, Nat.reduceLT, Nat.reduceLeDiff, Int32.reduceOfInt, Int64.reduceOfInt, true_and, and_true, and_self, true_or, or_true, false_implies, true_implies, not_false_eq_true, not_true_eq_false, Value.category, Nat.reduceEqDiff, Option.toList, List.cons_append, List.nil_append, List.drop_succ_cons, List.drop_zero, ax_qq_eq, ax_t_1517]
      exact hQ
    · refine ⟨fun h => absurd h (by decide), fun _ => ?_⟩
      show ax_J ax_W _ _ _ _ 88 _ _ _ _ _ _
      have e7 : kx_sum (fun j => st (2 + j)) k = kx_sum B.2.2.1 k := kx_sum_congr k (fun i hi => by
        have := r1.2.2.1 i hi
        rw [Nat.zero_add] at this
        exact this)
      simp only [ax_W_cons, ax_I, ax_cmp, ax_ii, ax_ll, ax_li, ax_st1, ax_st2, ax_kl, ax_k2, ax_fit, ax_rtok, List.getElem?_cons_zero, List.getElem?_cons_succ, List.length_cons, List.length_nil, List.set_cons_zero, List.set_cons_succ, Nat.reduceAdd, Nat.reduceDiv, Nat.reduceMod, Nat.reduceMul, Nat.reduceLT, Nat.reduceLeDiff, Int32.reduceOfInt, Int64.reduceOfInt, true_and, and_true, and_self, true_or, or_true, false_implies, true_implies, not_false_eq_true, not_true_eq_false, Value.category, Nat.reduceEqDiff, Option.toList, List.cons_append, List.nil_append, List.drop_succ_cons, List.drop_zero, ax_qq_eq, ax_t_1517, ax_j_1517_88, ax_n_1517_88]
      refine ax_inv_of (Nat.le_of_ble_eq_true rfl) (Nat.le_of_ble_eq_true rfl) (fun _ => rc _) (fun h => absurd h (by decide)) (Nat.le_refl _) (Nat.le_refl _) (mk_cells hal hK0 ?_)
      simp only [ax_W_cons, ax_I, ax_cmp, ax_ii, ax_ll, ax_li, ax_st1, ax_st2, ax_kl, ax_k2, ax_fit, ax_rtok, List.getElem?_cons_zero, List.getElem?_cons_succ, List.length_cons, List.length_nil, List.set_cons_zero, List.set_cons_succ, Nat.reduceAdd, Nat.reduceDiv, Nat.reduceMod, Nat.reduceMul, Nat.reduceLT, Nat.reduceLeDiff, Int32.reduceOfInt, Int64.reduceOfInt, true_and, and_true, and_self, true_or, or_true, false_implies, true_implies, not_false_eq_true, not_true_eq_false, Value.category, Nat.reduceEqDiff, Option.toList, List.cons_append, List.nil_append, List.drop_succ_cons, List.drop_zero, ax_qq_eq, ax_t_1517]
      refine ax_inv_of (Nat.le_of_ble_eq_true rfl) (Nat.le_of_ble_eq_true rfl) (fun _ => rc _) (fun h => absurd h (by decide)) (Nat.le_refl _) (Nat.le_refl _) (mk_sumOf hal hK0.1 hX0 (w := 2) (m := k) (by omega) ?_)
      rw [e7]
      simp only [ax_W_cons, ax_I, ax_cmp, ax_ii, ax_ll, ax_li, ax_st1, ax_st2, ax_kl, ax_k2, ax_fit, ax_rtok, List.getElem?_cons_zero, List.getElem?_cons_succ, List.length_cons, List.length_nil, List.set_cons_zero, List.set_cons_succ, Nat.reduceAdd, Nat.reduceDiv, Nat.reduceMod, Nat.reduceMul, Nat.reduceLT, Nat.reduceLeDiff, Int32.reduceOfInt, Int64.reduceOfInt, true_and, and_true, and_self, true_or, or_true, false_implies, true_implies, not_false_eq_true, not_true_eq_false, Value.category, Nat.reduceEqDiff, Option.toList, List.cons_append, List.nil_append, List.drop_succ_cons, List.drop_zero, ax_qq_eq, ax_t_1517]
      exact hQ
    · refine ⟨fun h => absurd h (by decide), fun _ => ?_⟩
      show ax_J ax_W _ _ _ _ 98 _ _ _ _ _ _
      have v0 : vp_in 1 1196 := nI_in (c := 1) (by decide) (by decide)
      have e1 : st 1 = nI B.2.1 := r1.2.1
      simp only [ax_W_cons, ax_I, ax_cmp, ax_ii, ax_ll, ax_li, ax_st1, ax_st2, ax_kl, ax_k2, ax_fit, ax_rtok, List.getElem?_cons_zero, List.getElem?_cons_succ, List.length_cons, List.length_nil, List.set_cons_zero, List.set_cons_succ, Nat.reduceAdd, Nat.reduceDiv, Nat.reduceMod, Nat.reduceMul, Nat.reduceLT, Nat.reduceLeDiff, Int32.reduceOfInt, Int64.reduceOfInt, true_and, and_true, and_self, true_or, or_true, false_implies, true_implies, not_false_eq_true, not_true_eq_false, Value.category, Nat.reduceEqDiff, Option.toList, List.cons_append, List.nil_append, List.drop_succ_cons, List.drop_zero, ax_qq_eq, ax_t_1517, ax_j_1517_98, ax_n_1517_98, w0, y1, mo_f, hal, v0, kx_m1, e1]
      exact hQ
    · refine ⟨fun h => absurd h (by decide), fun _ => ?_⟩
      show ax_J ax_W _ _ _ _ 105 _ _ _ _ _ _
      simp only [ax_W_cons, ax_I, ax_cmp, ax_ii, ax_ll, ax_li, ax_st1, ax_st2, ax_kl, ax_k2, ax_fit, ax_rtok, List.getElem?_cons_zero, List.getElem?_cons_succ, List.length_cons, List.length_nil, List.set_cons_zero, List.set_cons_succ, Nat.reduceAdd, Nat.reduceDiv, Nat.reduceMod, Nat.reduceMul, Nat.reduceLT, Nat.reduceLeDiff, Int32.reduceOfInt, Int64.reduceOfInt, true_and, and_true, and_self, true_or, or_true, false_implies, true_implies, not_false_eq_true, not_true_eq_false, Value.category, Nat.reduceEqDiff, Option.toList, List.cons_append, List.nil_append, List.drop_succ_cons, List.drop_zero, ax_qq_eq, ax_t_1517, ax_j_1517_105, ax_n_1517_105]
      refine ax_inv_of (Nat.le_of_ble_eq_true rfl) (Nat.le_of_ble_eq_true rfl) (fun _ => rc _) (fun h => absurd h (by decide)) (Nat.le_refl _) (Nat.le_refl _) (mk_shaking hal hK0 hX0 hk.2 (b := 0) (by omega) r1 ?_)
      simp only [ax_W_cons, ax_I, ax_cmp, ax_ii, ax_ll, ax_li, ax_st1, ax_st2, ax_kl, ax_k2, ax_fit, ax_rtok, List.getElem?_cons_zero, List.getElem?_cons_succ, List.length_cons, List.length_nil, List.set_cons_zero, List.set_cons_succ, Nat.reduceAdd, Nat.reduceDiv, Nat.reduceMod, Nat.reduceMul, Nat.reduceLT, Nat.reduceLeDiff, Int32.reduceOfInt, Int64.reduceOfInt, true_and, and_true, and_self, true_or, or_true, false_implies, true_implies, not_false_eq_true, not_true_eq_false, Value.category, Nat.reduceEqDiff, Option.toList, List.cons_append, List.nil_append, List.drop_succ_cons, List.drop_zero, ax_qq_eq, ax_t_1517]
      exact hQ
    · refine ⟨fun h => absurd h (by decide), fun _ => ?_⟩
      show ax_J ax_W _ _ _ _ 111 _ _ _ _ _ _
      simp only [ax_W_cons, ax_I, ax_cmp, ax_ii, ax_ll, ax_li, ax_st1, ax_st2, ax_kl, ax_k2, ax_fit, ax_rtok, List.getElem?_cons_zero, List.getElem?_cons_succ, List.length_cons, List.length_nil, List.set_cons_zero, List.set_cons_succ, Nat.reduceAdd, Nat.reduceDiv, Nat.reduceMod, Nat.reduceMul, Nat.reduceLT, Nat.reduceLeDiff, Int32.reduceOfInt, Int64.reduceOfInt, true_and, and_true, and_self, true_or, or_true, false_implies, true_implies, not_false_eq_true, not_true_eq_false, Value.category, Nat.reduceEqDiff, Option.toList, List.cons_append, List.nil_append, List.drop_succ_cons, List.drop_zero, ax_qq_eq, ax_t_1517, ax_j_1517_111, ax_n_1517_111]
      refine ax_inv_of (Nat.le_of_ble_eq_true rfl) (Nat.le_of_ble_eq_true rfl) (fun _ => rc _) (fun h => absurd h (by decide)) (Nat.le_refl _) (Nat.le_refl _) (mk_doneOf hal hK0 hX0 hp (b := 0) (by omega) r1 ?_)
      simp only [ax_W_cons, ax_I, ax_cmp, ax_ii, ax_ll, ax_li, ax_st1, ax_st2, ax_kl, ax_k2, ax_fit, ax_rtok, List.getElem?_cons_zero, List.getElem?_cons_succ, List.length_cons, List.length_nil, List.set_cons_zero, List.set_cons_succ, Nat.reduceAdd, Nat.reduceDiv, Nat.reduceMod, Nat.reduceMul, Nat.reduceLT, Nat.reduceLeDiff, Int32.reduceOfInt, Int64.reduceOfInt, true_and, and_true, and_self, true_or, or_true, false_implies, true_implies, not_false_eq_true, not_true_eq_false, Value.category, Nat.reduceEqDiff, Option.toList, List.cons_append, List.nil_append, List.drop_succ_cons, List.drop_zero, ax_qq_eq, ax_t_1517]
      exact hQ
    · refine ⟨fun h => absurd h (by decide), fun _ => ?_⟩
      show ax_J ax_W _ _ _ _ 117 _ _ _ _ _ _
      obtain ⟨ln, l0, l1, -⟩ := hLi
      have l0 := (h0.1 170 (by decide)).trans l0
      have v0 : vp_in 0 250 := nI_in (c := 0) (by decide) (by decide)
      simp only [ax_W_cons, ax_I, ax_cmp, ax_ii, ax_ll, ax_li, ax_st1, ax_st2, ax_kl, ax_k2, ax_fit, ax_rtok, List.getElem?_cons_zero, List.getElem?_cons_succ, List.length_cons, List.length_nil, List.set_cons_zero, List.set_cons_succ, Nat.reduceAdd, Nat.reduceDiv, Nat.reduceMod, Nat.reduceMul, Nat.reduceLT, Nat.reduceLeDiff, Int32.reduceOfInt, Int64.reduceOfInt, true_and, and_true, and_self, true_or, or_true, false_implies, true_implies, not_false_eq_true, not_true_eq_false, Value.category, Nat.reduceEqDiff, Option.toList, List.cons_append, List.nil_append, List.drop_succ_cons, List.drop_zero, ax_qq_eq, ax_t_1517, ax_j_1517_117, ax_n_1517_117, w0, l0, mo_f, hal, v0, kx_n0, l1]
      exact hQ
    · refine ⟨fun h => absurd h (by decide), fun _ => ?_⟩
      show ax_J ax_W _ _ _ _ 124 _ _ _ _ _ _
      have v26 : vp_in 26 1196 := nI_in (c := 26) (by decide) (by decide)
      have m26 : (26 : Int32).toNatClampNeg = 26 := by decide
      have e1 := (mD_Fl D0).1
      simp only [ax_W_cons, ax_I, ax_cmp, ax_ii, ax_ll, ax_li, ax_st1, ax_st2, ax_kl, ax_k2, ax_fit, ax_rtok, List.getElem?_cons_zero, List.getElem?_cons_succ, List.length_cons, List.length_nil, List.set_cons_zero, List.set_cons_succ, Nat.reduceAdd, Nat.reduceDiv, Nat.reduceMod, Nat.reduceMul, Nat.reduceLT, Nat.reduceLeDiff, Int32.reduceOfInt, Int64.reduceOfInt, true_and, and_true, and_self, true_or, or_true, false_implies, true_implies, not_false_eq_true, not_true_eq_false, Value.category, Nat.reduceEqDiff, Option.toList, List.cons_append, List.nil_append, List.drop_succ_cons, List.drop_zero, ax_qq_eq, ax_t_1517, ax_j_1517_124, ax_n_1517_124, w0, y1, mo_f, hal, v26, m26, e1]
      exact hQ
    · refine ⟨fun h => absurd h (by decide), fun _ => ?_⟩
      show ax_J ax_W _ _ _ _ 132 _ _ _ _ _ _
      simp only [ax_W_cons, ax_I, ax_cmp, ax_ii, ax_ll, ax_li, ax_st1, ax_st2, ax_kl, ax_k2, ax_fit, ax_rtok, List.getElem?_cons_zero, List.getElem?_cons_succ, List.length_cons, List.length_nil, List.set_cons_zero, List.set_cons_succ, Nat.reduceAdd, Nat.reduceDiv, Nat.reduceMod, Nat.reduceMul, Nat.reduceLT, Nat.reduceLeDiff, Int32.reduceOfInt, Int64.reduceOfInt, true_and, and_true, and_self, true_or, or_true, false_implies, true_implies, not_false_eq_true, not_true_eq_false, Value.category, Nat.reduceEqDiff, Option.toList, List.cons_append, List.nil_append, List.drop_succ_cons, List.drop_zero, ax_qq_eq, ax_t_1517, ax_j_1517_132, ax_n_1517_132, w0, mo_f, hal]
      exact hQ
    · refine ⟨fun h => absurd h (by decide), fun _ => ?_⟩
      show ax_J ax_W _ _ _ _ 137 _ _ _ _ _ _
      simp only [ax_W_cons, ax_I, ax_cmp, ax_ii, ax_ll, ax_li, ax_st1, ax_st2, ax_kl, ax_k2, ax_fit, ax_rtok, List.getElem?_cons_zero, List.getElem?_cons_succ, List.length_cons, List.length_nil, List.set_cons_zero, List.set_cons_succ, Nat.reduceAdd, Nat.reduceDiv, Nat.reduceMod, Nat.reduceMul, Nat.reduceLT, Nat.reduceLeDiff, Int32.reduceOfInt, Int64.reduceOfInt, true_and, and_true, and_self, true_or, or_true, false_implies, true_implies, not_false_eq_true, not_true_eq_false, Value.category, Nat.reduceEqDiff, Option.toList, List.cons_append, List.nil_append, List.drop_succ_cons, List.drop_zero, ax_qq_eq, ax_t_1517, ax_j_1517_137, ax_n_1517_137, w0, mo_f, hal, hw]
      exact hQ
  · refine ⟨fun _ => ?_, fun h2 => absurd h h2⟩
    rw [zq_count_no h] at hQ
    simp only [ax_W_cons, ax_I, ax_cmp, ax_ii, ax_ll, ax_li, ax_st1, ax_st2, ax_kl, ax_k2, ax_fit, ax_rtok, List.getElem?_cons_zero, List.getElem?_cons_succ, List.length_cons, List.length_nil, List.set_cons_zero, List.set_cons_succ, Nat.reduceAdd, Nat.reduceDiv, Nat.reduceMod, Nat.reduceMul, Nat.reduceLT, Nat.reduceLeDiff, Int32.reduceOfInt, Int64.reduceOfInt, true_and, and_true, and_self, true_or, or_true, false_implies, true_implies, not_false_eq_true, not_true_eq_false, Value.category, Nat.reduceEqDiff, Option.toList, List.cons_append, List.nil_append, List.drop_succ_cons, List.drop_zero, ax_qq_eq, ax_t_1517, ax_j_1517_142, ax_n_1517_142]
    exact hQ
end MM
/-! the class: felt -/
def kfw (es : ax_H) (u : Nat) (f : zF) : ax_H := fun j => if j = u then .inr (2, [.int (nI f.1), .ref (u + 1), .ref (u + 2), .ref (u + 3)]) else if j = u + 1 then .inl (0, 8, .inl f.2.1) else if j = u + 2 then .inl (0, 8, .inl f.2.2.1) else if j = u + 3 then .inl (0, 8, .inl f.2.2.2) else es j
def kfF (es : ax_H) (n u : Nat) (f : zF) : Prop := kf es n u f.1 f.2.1 f.2.2.1 f.2.2.2
section KF
variable (es : ax_H) (u : Nat) (f : zF)
theorem kfw_0 : kfw es u f u = .inr (2, [.int (nI f.1), .ref (u + 1), .ref (u + 2), .ref (u + 3)]) := by simp [kfw]
theorem kfw_1 : kfw es u f (u + 1) = .inl (0, 8, .inl f.2.1) := by simp [kfw]
theorem kfw_2 : kfw es u f (u + 2) = .inl (0, 8, .inl f.2.2.1) := by simp [kfw]
theorem kfw_3 : kfw es u f (u + 3) = .inl (0, 8, .inl f.2.2.2) := by simp [kfw]
theorem kfw_ne {j : Nat} (h : j < u ∨ u + 3 < j) : kfw es u f j = es j := by
  unfold kfw
  rw [if_neg (by omega), if_neg (by omega), if_neg (by omega), if_neg (by omega)]
theorem kfw_u0 (z : Nat) : ax_up (kfw es u f) u (.inr (2, [.int (nI z), .ref (u + 1), .ref (u + 2), .ref (u + 3)])) = kfw es u (z, f.2.1, f.2.2.1, f.2.2.2) := by
  funext j
  by_cases h0 : j = u <;> by_cases h1 : j = u + 1 <;> by_cases h2 : j = u + 2 <;> by_cases h3 : j = u + 3 <;> first | (exfalso; omega) | simp [kfw, ax_up, h0, h1, h2, h3]
theorem kfw_u1 (g : Nat → Int32) : ax_up (kfw es u f) (u + 1) (.inl (0, 8, .inl g)) = kfw es u (f.1, g, f.2.2.1, f.2.2.2) := by
  funext j
  by_cases h0 : j = u <;> by_cases h1 : j = u + 1 <;> by_cases h2 : j = u + 2 <;> by_cases h3 : j = u + 3 <;> first | (exfalso; omega) | simp [kfw, ax_up, h0, h1, h2, h3]
theorem kfw_u2 (g : Nat → Int32) : ax_up (kfw es u f) (u + 2) (.inl (0, 8, .inl g)) = kfw es u (f.1, f.2.1, g, f.2.2.2) := by
  funext j
  by_cases h0 : j = u <;> by_cases h1 : j = u + 1 <;> by_cases h2 : j = u + 2 <;> by_cases h3 : j = u + 3 <;> first | (exfalso; omega) | simp [kfw, ax_up, h0, h1, h2, h3]
theorem kfw_u3 (g : Nat → Int32) : ax_up (kfw es u f) (u + 3) (.inl (0, 8, .inl g)) = kfw es u (f.1, f.2.1, f.2.2.1, g) := by
  funext j
  by_cases h0 : j = u <;> by_cases h1 : j = u + 1 <;> by_cases h2 : j = u + 2 <;> by_cases h3 : j = u + 3 <;> first | (exfalso; omega) | simp [kfw, ax_up, h0, h1, h2, h3]
theorem kfw_same {n : Nat} {es : ax_H} {u : Nat} {f : zF} (h : kfF es n u f) : kfw es u f = es := by
  obtain ⟨-, h0, h1, h2, h3, -⟩ := h
  funext j
  unfold kfw
  repeat' split
  all_goals first | rfl | (next h => rw [h]; first | exact h0.symm | exact h1.symm | exact h2.symm | exact h3.symm)
theorem kfw_kf {n : Nat} {es : ax_H} {u : Nat} {f : zF} (h : u + 3 < ax_al n) (z1 : kz 8 f.2.1) (z2 : kz 8 f.2.2.1) (z3 : kz 8 f.2.2.2) : kfF (kfw es u f) n u f := ⟨h, kfw_0 .., kfw_1 .., kfw_2 .., kfw_3 .., z1, z2, z3⟩
theorem kfw_kfw (f' : zF) : kfw (kfw es u f) u f' = kfw es u f' := by
  funext j
  unfold kfw
  repeat' split
  all_goals rfl
end KF
theorem kx_c8 : ¬ (8 : Int32) < 0 := by decide
theorem kx_n8 : (8 : Int32).toNatClampNeg = 8 := by decide
section KX
variable {d n sl : Nat} {es : ax_H} {u : Nat} {f : zF} {Q : Option Value → ax_H → Prop}
theorem ck_fadd_no (h : kfF es n u f) (h8 : f.1 = 8) (c b s : Int32) (hQ : Q (some (.int 0)) es) : ax_Mt d 257 [.ref u, .int c, .int b, .int s] n sl es Q := by
  obtain ⟨hn, h0, -⟩ := h
  have hq : u < ax_al n := by omega
  rw [h8] at h0
  have e1 : ¬ nI 8 < 8 := by decide
  refine ax_Mt_go (m := ax_m_2_1) (ls := [some (.ref u), some (.int c), some (.int b), some (.int s)]) rfl ax_b_257_0 (Nat.le_of_ble_eq_true rfl) rfl ?_
  simp only [ax_W_cons, ax_I, ax_cmp, ax_ii, ax_ll, ax_li, ax_st1, ax_st2, ax_kl, ax_k2, ax_fit, ax_rtok, List.getElem?_cons_zero, List.getElem?_cons_succ, List.length_cons, List.length_nil, List.set_cons_zero, List.set_cons_succ, Nat.reduceAdd, Nat.reduceDiv, Nat.reduceMod, Nat.reduceMul, Nat.reduceLT, Nat.reduceLeDiff, Int32.reduceOfInt, Int64.reduceOfInt, true_and, and_true, and_self, true_or, or_true, false_implies, true_implies, not_false_eq_true, not_true_eq_false, Value.category, Nat.reduceEqDiff, Option.toList, List.cons_append, List.nil_append, List.drop_succ_cons, List.drop_zero, ax_qq_eq, ax_t_257, h0, hq, e1]
  exact hQ
theorem ck_fadd_ok (h : kfF es n u f) (h8 : f.1 < 8) (c b s : Int32) (hQ : Q (some (.int 1)) (kfw es u (f.1 + 1, upd f.2.1 f.1 c, upd f.2.2.1 f.1 b, upd f.2.2.2 f.1 s))) : ax_Mt d 257 [.ref u, .int c, .int b, .int s] n sl es Q := by
  obtain ⟨es, rfl⟩ : ∃ es0, es = kfw es0 u f := ⟨es, (kfw_same h).symm⟩
  obtain ⟨hn, -⟩ := h
  have hq : u < ax_al n := by omega
  have hq1 : u + 1 < ax_al n := by omega
  have hq2 : u + 2 < ax_al n := by omega
  have hq3 : u + 3 < ax_al n := by omega
  obtain ⟨z, fc, fb, fs⟩ := f
  dsimp only at h8 hQ
  have e1 : nI z < 8 := nI_lt (b := 8) h8 (by decide)
  have e2 : vp_in (nI z) 8 := nI_in h8 (by decide)
  have e3 : (nI z).toNatClampNeg = z := nI_clamp (by omega)
  have e4 : nI z + 1 = nI (z + 1) := (nI_succ z).symm
  rw [kfw_kfw] at hQ
  refine ax_Mt_go (m := ax_m_2_1) (ls := [some (.ref u), some (.int c), some (.int b), some (.int s)]) rfl ax_b_257_0 (Nat.le_of_ble_eq_true rfl) rfl ?_
  simp only [ax_W_cons, ax_I, ax_cmp, ax_ii, ax_ll, ax_li, ax_st1, ax_st2, ax_kl, ax_k2, ax_fit, ax_rtok, List.getElem?_cons_zero, List.getElem?_cons_succ, List.length_cons, List.length_nil, List.set_cons_zero, List.set_cons_succ, Nat.reduceAdd, Nat.reduceDiv, Nat.reduceMod, Nat.reduceMul, Nat.reduceLT, Nat.reduceLeDiff, Int32.reduceOfInt, Int64.reduceOfInt, true_and, and_true, and_self, true_or, or_true, false_implies, true_implies, not_false_eq_true, not_true_eq_false, Value.category, Nat.reduceEqDiff, Option.toList, List.cons_append, List.nil_append, List.drop_succ_cons, List.drop_zero, ax_qq_eq, ax_t_257, ax_j_257_11, ax_n_257_11, kfw_0, kfw_1, kfw_2, kfw_3, kfw_u0, kfw_u1, kfw_u2, kfw_u3, hq, hq1, hq2, hq3, e1, e2, e3, e4]
  exact hQ
theorem ck_fcopy {u2 : Nat} {f2 : zF} (h : kfF es n u f) (h2 : kfF es n u2 f2) (ha : u + 3 < u2 ∨ u2 + 3 < u) (hQ : Q none (kfw es u f2)) : ax_Mt (d + 1) 258 [.ref u, .ref u2] n sl es Q := by
  obtain ⟨es, rfl⟩ : ∃ es0, es = kfw es0 u f := ⟨es, (kfw_same h).symm⟩
  obtain ⟨hn, -, -, -, -, y1, y2, y3⟩ := h
  obtain ⟨hn2, s0, s1, s2, s3, x1, x2, x3⟩ := h2
  have g0 : ∀ f', kfw es u f' u2 = .inr (2, [.int (nI f2.1), .ref (u2 + 1), .ref (u2 + 2), .ref (u2 + 3)]) := fun f' => by
    rw [kfw_ne es u f' (by omega)]
    rw [kfw_ne es u f (by omega)] at s0
    exact s0
  have g1 : ∀ f', kfw es u f' (u2 + 1) = .inl (0, 8, .inl f2.2.1) := fun f' => by
    rw [kfw_ne es u f' (by omega)]
    rw [kfw_ne es u f (by omega)] at s1
    exact s1
  have g2 : ∀ f', kfw es u f' (u2 + 2) = .inl (0, 8, .inl f2.2.2.1) := fun f' => by
    rw [kfw_ne es u f' (by omega)]
    rw [kfw_ne es u f (by omega)] at s2
    exact s2
  have g3 : ∀ f', kfw es u f' (u2 + 3) = .inl (0, 8, .inl f2.2.2.2) := fun f' => by
    rw [kfw_ne es u f' (by omega)]
    rw [kfw_ne es u f (by omega)] at s3
    exact s3
  have hq : u < ax_al n := by omega
  have hq1 : u + 1 < ax_al n := by omega
  have hq2 : u + 2 < ax_al n := by omega
  have hq3 : u + 3 < ax_al n := by omega
  have hp : u2 < ax_al n := by omega
  have hp1 : u2 + 1 < ax_al n := by omega
  have hp2 : u2 + 2 < ax_al n := by omega
  have hp3 : u2 + 3 < ax_al n := by omega
  rw [kfw_kfw] at hQ
  refine ax_Mt_go (m := ax_m_2_2) (ls := [some (.ref u), some (.ref u2)]) rfl ax_b_258_0 (Nat.le_of_ble_eq_true rfl) rfl ?_
  simp only [ax_W_cons, ax_I, ax_cmp, ax_ii, ax_ll, ax_li, ax_st1, ax_st2, ax_kl, ax_k2, ax_fit, ax_rtok, List.getElem?_cons_zero, List.getElem?_cons_succ, List.length_cons, List.length_nil, List.set_cons_zero, List.set_cons_succ, Nat.reduceAdd, Nat.reduceDiv, Nat.reduceMod, Nat.reduceMul, Nat.reduceLT, Nat.reduceLeDiff, Int32.reduceOfInt, Int64.reduceOfInt, true_and, and_true, and_self, true_or, or_true, false_implies, true_implies, not_false_eq_true, not_true_eq_false, Value.category, Nat.reduceEqDiff, Option.toList, List.cons_append, List.nil_append, List.drop_succ_cons, List.drop_zero, ax_qq_eq, ax_t_258, ax_bi, g0, g1, g2, g3, kfw_0, kfw_1, kfw_2, kfw_3, kfw_u0, kfw_u1, kfw_u2, kfw_u3, hq, hq1, hq2, hq3, hp, hp1, hp2, hp3, kx_c0, kx_c8, kx_n0, kx_n8, kx_cat0, Nat.le_refl, kz_cpy x1 y1, kz_cpy x2 y2, kz_cpy x3 y3, Nat.le_add_left]
  exact hQ
end KX
section KP
variable {d n sl k p hc : Nat} {es : ax_H} {kd pl ht hs : Nat → Int32} {F1 F2 : Int32 → Int32 → Int32 → Int32 → Int32} {Q : Option Value → ax_H → Prop}
theorem ck_partOf (hal : ax_al n = 178) (hC : kC es k p hc kd pl ht hs F1 F2) {i : Nat} (hi : i < 6) (m a : Int32) (hQ : Q (some (.int (kx_part ht m a i))) es) : ax_Mt d 138 [.ref 3, .int (nI i), .int m, .int a] n sl es Q := by
  obtain ⟨once, nm, code, a1, b1, a2, b2, c3, c4, c5, c6, c7, c8, c9, c10, c13, -⟩ := hC
  have e2 : vp_in (nI i) 6 := nI_in hi (by decide)
  have e3 : (nI i).toNatClampNeg = i := nI_clamp (by omega)
  unfold kx_part at hQ
  refine ax_Mt_go (m := ax_m_1_10) (ls := [some (.ref 3), some (.int (nI i)), some (.int m), some (.int a)]) rfl ax_b_138_0 (Nat.le_of_ble_eq_true rfl) rfl ?_
  by_cases h : 0 < a
  · rw [if_pos h] at hQ
    have h1 : ¬ a ≤ 0 := kx_lt_nle h
    have h2 : ¬ a = 0 := fun z => by rw [z] at h; exact absurd h (by decide)
    simp only [ax_W_cons, ax_I, ax_cmp, ax_ii, ax_ll, ax_li, ax_st1, ax_st2, ax_kl, ax_k2, ax_fit, ax_rtok, List.getElem?_cons_zero, List.getElem?_cons_succ, List.length_cons, List.length_nil, List.set_cons_zero, List.set_cons_succ, Nat.reduceAdd, Nat.reduceDiv, Nat.reduceMod, Nat.reduceMul, Nat.reduceLT, Nat.reduceLeDiff, Int32.reduceOfInt, Int64.reduceOfInt, true_and, and_true, and_self, true_or, or_true, false_implies, true_implies, not_false_eq_true, not_true_eq_false, Value.category, Nat.reduceEqDiff, Option.toList, List.cons_append, List.nil_append, List.drop_succ_cons, List.drop_zero, ax_qq_eq, ax_t_138, ax_j_138_18, ax_n_138_18, c3, c6, hal, e2, e3, h1, h2]
    exact hQ
  · rw [if_neg h] at hQ
    have h1 : a ≤ 0 := by rw [← kx_nlt]; exact h
    simp only [ax_W_cons, ax_I, ax_cmp, ax_ii, ax_ll, ax_li, ax_st1, ax_st2, ax_kl, ax_k2, ax_fit, ax_rtok, List.getElem?_cons_zero, List.getElem?_cons_succ, List.length_cons, List.length_nil, List.set_cons_zero, List.set_cons_succ, Nat.reduceAdd, Nat.reduceDiv, Nat.reduceMod, Nat.reduceMul, Nat.reduceLT, Nat.reduceLeDiff, Int32.reduceOfInt, Int64.reduceOfInt, true_and, and_true, and_self, true_or, or_true, false_implies, true_implies, not_false_eq_true, not_true_eq_false, Value.category, Nat.reduceEqDiff, Option.toList, List.cons_append, List.nil_append, List.drop_succ_cons, List.drop_zero, ax_qq_eq, ax_t_138, ax_j_138_17, ax_n_138_17, ax_j_138_18, ax_n_138_18, h1]
    exact hQ
theorem ck_shareOf (hal : ax_al n = 178) (hp : p ≤ 6) (hC : kC es k p hc kd pl ht hs F1 F2) {c : Nat} (hc2 : c < p) (m : Int32) (hQ : Q (some (.int (kx_part ht m (kx_sum ht p) c + kx_left ht m (kx_sum ht p) p / nI p + (if nI c < kx_left ht m (kx_sum ht p) p - kx_left ht m (kx_sum ht p) p / nI p * nI p then 1 else 0)))) es) : ax_Mt (d + 1) 137 [.ref 3, .int (nI c), .int m] n sl es Q := by
  obtain ⟨once, nm, code, a1, b1, a2, b2, c3, c4, c5, c6, c7, c8, c9, c10, c13, -⟩ := id hC
  have hp0 : ¬ nI p ≤ 0 := nI_nle (by omega) (by omega)
  have hp1 : ¬ nI p = 0 := nI_ne0 (by omega) (by omega)
  refine ax_Mt_go (m := ax_m_1_9) (ls := [some (.ref 3), some (.int (nI c)), some (.int m), none, none, none, none]) rfl ax_b_137_0 (Nat.le_of_ble_eq_true rfl) rfl ?_
  simp only [ax_W_cons, ax_I, ax_cmp, ax_ii, ax_ll, ax_li, ax_st1, ax_st2, ax_kl, ax_k2, ax_fit, ax_rtok, List.getElem?_cons_zero, List.getElem?_cons_succ, List.length_cons, List.length_nil, List.set_cons_zero, List.set_cons_succ, Nat.reduceAdd, Nat.reduceDiv, Nat.reduceMod, Nat.reduceMul, Nat.reduceLT, Nat.reduceLeDiff, Int32.reduceOfInt, Int64.reduceOfInt, true_and, and_true, and_self, true_or, or_true, false_implies, true_implies, not_false_eq_true, not_true_eq_false, Value.category, Nat.reduceEqDiff, Option.toList, List.cons_append, List.nil_append, List.drop_succ_cons, List.drop_zero, ax_qq_eq, ax_t_137]
  rw [ax_n_137_5]
  refine kx_loop (k := p) (I := fun x => ax_W (d + 1) n sl 137 [(2, .iload 4), (1, .aload 0), (3, .getfield 260), (3, .if_icmp .ge 30), (1, .iload 3), (1, .aload 0), (3, .getfield 274), (2, .iload 4), (1, .iaload), (1, .iadd), (1, .istore 3), (3, .iinc 4 1), (3, .goto 5)] 5 [some (.ref 3), some (.int (nI c)), some (.int m), some (.int (kx_sum ht x)), some (.int (nI x)), none, none] [] n sl es (ax_qq n sl Q)) ?_ ?_
  · have e0 := kx_nn (k := p) (by omega)
    generalize kx_sum ht p = A at hQ ⊢
    simp only [ax_W_cons, ax_I, ax_cmp, ax_ii, ax_ll, ax_li, ax_st1, ax_st2, ax_kl, ax_k2, ax_fit, ax_rtok, List.getElem?_cons_zero, List.getElem?_cons_succ, List.length_cons, List.length_nil, List.set_cons_zero, List.set_cons_succ, Nat.reduceAdd, Nat.reduceDiv, Nat.reduceMod, Nat.reduceMul, Nat.reduceLT, Nat.reduceLeDiff, Int32.reduceOfInt, Int64.reduceOfInt, true_and, and_true, and_self, true_or, or_true, false_implies, true_implies, not_false_eq_true, not_true_eq_false, Value.category, Nat.reduceEqDiff, Option.toList, List.cons_append, List.nil_append, List.drop_succ_cons, List.drop_zero, ax_qq_eq, ax_t_137, ax_j_137_30, ax_n_137_30, c3, hal, e0]
    rw [ax_n_137_36]
    refine kx_loop (k := p) (I := fun x => ax_W (d + 1) n sl 137 [(2, .iload 5), (1, .aload 0), (3, .getfield 260), (3, .if_icmp .ge 64), (2, .iload 4), (1, .aload 0), (2, .iload 5), (1, .iload 2), (1, .iload 3), (3, .invokeinterface 138 17), (1, .isub), (2, .istore 4), (3, .iinc 5 1), (3, .goto 36)] 36 [some (.ref 3), some (.int (nI c)), some (.int m), some (.int A), some (.int (kx_left ht m A x)), some (.int (nI x)), none] [] n sl es (ax_qq n sl Q)) ?_ ?_
    · generalize kx_left ht m A p = Lf at hQ ⊢
      simp only [ax_W_cons, ax_I, ax_cmp, ax_ii, ax_ll, ax_li, ax_st1, ax_st2, ax_kl, ax_k2, ax_fit, ax_rtok, List.getElem?_cons_zero, List.getElem?_cons_succ, List.length_cons, List.length_nil, List.set_cons_zero, List.set_cons_succ, Nat.reduceAdd, Nat.reduceDiv, Nat.reduceMod, Nat.reduceMul, Nat.reduceLT, Nat.reduceLeDiff, Int32.reduceOfInt, Int64.reduceOfInt, true_and, and_true, and_self, true_or, or_true, false_implies, true_implies, not_false_eq_true, not_true_eq_false, Value.category, Nat.reduceEqDiff, Option.toList, List.cons_append, List.nil_append, List.drop_succ_cons, List.drop_zero, ax_qq_eq, ax_t_137, ax_j_137_64, ax_n_137_64, ax_j_137_82, ax_n_137_82, c3, hal, e0, hp0, hp1]
      refine ⟨fun h8 => ?_, fun h8 => ?_⟩
      · rw [if_neg (by rw [kx_nlt]; exact h8)] at hQ
        simp only [ax_W_cons, ax_I, ax_cmp, ax_ii, ax_ll, ax_li, ax_st1, ax_st2, ax_kl, ax_k2, ax_fit, ax_rtok, List.getElem?_cons_zero, List.getElem?_cons_succ, List.length_cons, List.length_nil, List.set_cons_zero, List.set_cons_succ, Nat.reduceAdd, Nat.reduceDiv, Nat.reduceMod, Nat.reduceMul, Nat.reduceLT, Nat.reduceLeDiff, Int32.reduceOfInt, Int64.reduceOfInt, true_and, and_true, and_self, true_or, or_true, false_implies, true_implies, not_false_eq_true, not_true_eq_false, Value.category, Nat.reduceEqDiff, Option.toList, List.cons_append, List.nil_append, List.drop_succ_cons, List.drop_zero, ax_qq_eq, ax_t_137, ax_j_137_102, ax_n_137_102, ax_j_137_103, ax_n_137_103]
        refine ax_inv_of (Nat.le_of_ble_eq_true rfl) (Nat.le_of_ble_eq_true rfl) (fun _ => ax_rcv_ok (by omega) c3) (fun h => absurd h (by decide)) (Nat.le_refl _) (Nat.le_refl _) (ck_partOf hal hC (by omega) m A ?_)
        simp only [ax_W_cons, ax_I, ax_cmp, ax_ii, ax_ll, ax_li, ax_st1, ax_st2, ax_kl, ax_k2, ax_fit, ax_rtok, List.getElem?_cons_zero, List.getElem?_cons_succ, List.length_cons, List.length_nil, List.set_cons_zero, List.set_cons_succ, Nat.reduceAdd, Nat.reduceDiv, Nat.reduceMod, Nat.reduceMul, Nat.reduceLT, Nat.reduceLeDiff, Int32.reduceOfInt, Int64.reduceOfInt, true_and, and_true, and_self, true_or, or_true, false_implies, true_implies, not_false_eq_true, not_true_eq_false, Value.category, Nat.reduceEqDiff, Option.toList, List.cons_append, List.nil_append, List.drop_succ_cons, List.drop_zero, ax_qq_eq, ax_t_137]
        exact hQ
      · rw [kx_nle] at h8
        rw [if_pos h8] at hQ
        simp only [ax_W_cons, ax_I, ax_cmp, ax_ii, ax_ll, ax_li, ax_st1, ax_st2, ax_kl, ax_k2, ax_fit, ax_rtok, List.getElem?_cons_zero, List.getElem?_cons_succ, List.length_cons, List.length_nil, List.set_cons_zero, List.set_cons_succ, Nat.reduceAdd, Nat.reduceDiv, Nat.reduceMod, Nat.reduceMul, Nat.reduceLT, Nat.reduceLeDiff, Int32.reduceOfInt, Int64.reduceOfInt, true_and, and_true, and_self, true_or, or_true, false_implies, true_implies, not_false_eq_true, not_true_eq_false, Value.category, Nat.reduceEqDiff, Option.toList, List.cons_append, List.nil_append, List.drop_succ_cons, List.drop_zero, ax_qq_eq, ax_t_137, ax_j_137_103, ax_n_137_103]
        refine ax_inv_of (Nat.le_of_ble_eq_true rfl) (Nat.le_of_ble_eq_true rfl) (fun _ => ax_rcv_ok (by omega) c3) (fun h => absurd h (by decide)) (Nat.le_refl _) (Nat.le_refl _) (ck_partOf hal hC (by omega) m A ?_)
        simp only [ax_W_cons, ax_I, ax_cmp, ax_ii, ax_ll, ax_li, ax_st1, ax_st2, ax_kl, ax_k2, ax_fit, ax_rtok, List.getElem?_cons_zero, List.getElem?_cons_succ, List.length_cons, List.length_nil, List.set_cons_zero, List.set_cons_succ, Nat.reduceAdd, Nat.reduceDiv, Nat.reduceMod, Nat.reduceMul, Nat.reduceLT, Nat.reduceLeDiff, Int32.reduceOfInt, Int64.reduceOfInt, true_and, and_true, and_self, true_or, or_true, false_implies, true_implies, not_false_eq_true, not_true_eq_false, Value.category, Nat.reduceEqDiff, Option.toList, List.cons_append, List.nil_append, List.drop_succ_cons, List.drop_zero, ax_qq_eq, ax_t_137]
        exact hQ
    · intro x hx ih
      obtain ⟨q1, -, -, q4⟩ := kx_ix hx hp (by decide)
      rw [kx_left] at ih
      simp only [ax_W_cons, ax_I, ax_cmp, ax_ii, ax_ll, ax_li, ax_st1, ax_st2, ax_kl, ax_k2, ax_fit, ax_rtok, List.getElem?_cons_zero, List.getElem?_cons_succ, List.length_cons, List.length_nil, List.set_cons_zero, List.set_cons_succ, Nat.reduceAdd, Nat.reduceDiv, Nat.reduceMod, Nat.reduceMul, Nat.reduceLT, Nat.reduceLeDiff, Int32.reduceOfInt, Int64.reduceOfInt, true_and, and_true, and_self, true_or, or_true, false_implies, true_implies, not_false_eq_true, not_true_eq_false, Value.category, Nat.reduceEqDiff, Option.toList, List.cons_append, List.nil_append, List.drop_succ_cons, List.drop_zero, ax_qq_eq, ax_t_137, c3, hal, q1]
      refine ax_inv_of (Nat.le_of_ble_eq_true rfl) (Nat.le_of_ble_eq_true rfl) (fun _ => ax_rcv_ok (by omega) c3) (fun h => absurd h (by decide)) (Nat.le_refl _) (Nat.le_refl _) (ck_partOf hal hC (by omega) m A ?_)
      simp only [ax_W_cons, ax_I, ax_cmp, ax_ii, ax_ll, ax_li, ax_st1, ax_st2, ax_kl, ax_k2, ax_fit, ax_rtok, List.getElem?_cons_zero, List.getElem?_cons_succ, List.length_cons, List.length_nil, List.set_cons_zero, List.set_cons_succ, Nat.reduceAdd, Nat.reduceDiv, Nat.reduceMod, Nat.reduceMul, Nat.reduceLT, Nat.reduceLeDiff, Int32.reduceOfInt, Int64.reduceOfInt, true_and, and_true, and_self, true_or, or_true, false_implies, true_implies, not_false_eq_true, not_true_eq_false, Value.category, Nat.reduceEqDiff, Option.toList, List.cons_append, List.nil_append, List.drop_succ_cons, List.drop_zero, ax_qq_eq, ax_t_137, q4]
      rw [ax_j_137_36]
      exact ih
  · intro x hx ih
    obtain ⟨q1, q2, q3, q4⟩ := kx_ix hx hp (by decide)
    simp only [ax_W_cons, ax_I, ax_cmp, ax_ii, ax_ll, ax_li, ax_st1, ax_st2, ax_kl, ax_k2, ax_fit, ax_rtok, List.getElem?_cons_zero, List.getElem?_cons_succ, List.length_cons, List.length_nil, List.set_cons_zero, List.set_cons_succ, Nat.reduceAdd, Nat.reduceDiv, Nat.reduceMod, Nat.reduceMul, Nat.reduceLT, Nat.reduceLeDiff, Int32.reduceOfInt, Int64.reduceOfInt, true_and, and_true, and_self, true_or, or_true, false_implies, true_implies, not_false_eq_true, not_true_eq_false, Value.category, Nat.reduceEqDiff, Option.toList, List.cons_append, List.nil_append, List.drop_succ_cons, List.drop_zero, ax_qq_eq, ax_t_137, c3, c6, hal, q1, q2, q3, q4]
    rw [ax_j_137_5]
    exact ih
end KP
