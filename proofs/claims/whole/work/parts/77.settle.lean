/-! the class: a reading begun, ended, settled -/
theorem zgetD_map {α β : Type} (f : α → β) (l : List α) (x : α) (y : β) {i : Nat} (h : i < l.length) : (l.map f).getD i y = f (l.getD i x) := by
  rw [List.getD_eq_getElem?_getD, List.getD_eq_getElem?_getD, List.getElem?_map, List.getElem?_eq_getElem h]
  rfl
theorem zmin_n {x y : Nat} (hx : x < 2 ^ 31) (hy : y < 2 ^ 31) : kx_min (nI x) (nI y) = nI (min x y) := by
  unfold kx_min
  by_cases h : y < x
  · rw [if_pos (nI_lt h hx), Nat.min_eq_right (by omega)]
  · rw [if_neg (by rw [kx_nlt]; exact nI_le (by omega) hy), Nat.min_eq_left (by omega)]
section TT
variable {d n sl : Nat} {es : ax_H} {t : zTp} {dr : zDf} {Q : Option Value → ax_H → Prop}
theorem ck_drClear (hal : ax_al n = 178) (X : xDs es) (hQ : ∀ es', xDr es' zD0 0 → (∀ j, (j < 21 ∨ 31 < j) → es' j = es j) → Q none es') : ax_Mt d 129 [.ref 21] n sl es Q := by
  obtain ⟨k, p, hc, on, kd, pl, ht, nm, hs, code, f5, e5, f6, e6, D1, D2, D3, D4, D5, D6, D7, D8, D9⟩ := X
  have v0 : vp_in 0 12 := nI_in (c := 0) (by decide) (by decide)
  have z0 : (0 : Int32).toNatClampNeg = 0 := rfl
  have a1 : ∀ es e, ax_up es 26 e 21 = es 21 := fun es e => ax_up_ne es e (by decide)
  have a2 : ∀ es e, ax_up es 28 e 21 = es 21 := fun es e => ax_up_ne es e (by decide)
  have a3 : ∀ es e, ax_up es 31 e 21 = es 21 := fun es e => ax_up_ne es e (by decide)
  have a4 : ∀ es e, ax_up es 21 e 26 = es 26 := fun es e => ax_up_ne es e (by decide)
  have a5 : ∀ es e, ax_up es 21 e 28 = es 28 := fun es e => ax_up_ne es e (by decide)
  have a6 : ∀ es e, ax_up es 26 e 28 = es 28 := fun es e => ax_up_ne es e (by decide)
  have a7 : ∀ es e, ax_up es 21 e 31 = es 31 := fun es e => ax_up_ne es e (by decide)
  have a8 : ∀ es e, ax_up es 26 e 31 = es 31 := fun es e => ax_up_ne es e (by decide)
  have a9 : ∀ es e, ax_up es 28 e 31 = es 31 := fun es e => ax_up_ne es e (by decide)
  refine ax_Mt_go (m := ax_m_1_1) (ls := [some (.ref 21)]) rfl ax_b_129_0 (Nat.le_of_ble_eq_true rfl) rfl ?_
  simp only [ax_W_cons, ax_I, ax_cmp, ax_ii, ax_ll, ax_li, ax_st1, ax_st2, ax_kl, ax_k2, ax_fit, ax_rtok, List.getElem?_cons_zero, List.getElem?_cons_succ, List.length_cons, List.length_nil, List.set_cons_zero, List.set_cons_succ, Nat.reduceAdd, Nat.reduceDiv, Nat.reduceMod, Nat.reduceMul, Nat.reduceLT, Nat.reduceLeDiff, Int32.reduceOfInt, Int64.reduceOfInt, true_and, and_true, and_self, true_or, or_true, false_implies, true_implies, not_false_eq_true, not_true_eq_false, Value.category, Nat.reduceEqDiff, Option.toList, List.cons_append, List.nil_append, List.drop_succ_cons, List.drop_zero, ax_qq_eq, ax_t_129, D1, D6, D8, D9, hal, v0, z0, a1, a2, a3, a4, a5, a6, a7, a8, a9, ax_up_same, ax_up_up]
  refine hQ _ ⟨kd, pl, ht, nm, upd hs 0 2, code, 0, 0, ⟨?_, ?_, ?_, ?_, ?_, ?_, ?_, ?_, ?_⟩, ⟨Nat.zero_le _, by decide⟩, fun i hi => absurd hi (Nat.not_lt_zero i), fun i hi => ?_, fun i hi => absurd hi (Nat.not_lt_zero i), fun i hi => absurd hi (Nat.not_lt_zero i), Nat.le_refl _, Nat.le_refl _⟩ (fun j hj => ?_)
  · rw [a3, a2]
    exact ax_up_same ..
  · rw [ax_up_ne _ _ (by decide), ax_up_ne _ _ (by decide), ax_up_ne _ _ (by decide), ax_up_ne _ _ (by decide), ax_up_ne _ _ (by decide)]
    exact D2
  · rw [ax_up_ne _ _ (by decide), ax_up_ne _ _ (by decide), ax_up_ne _ _ (by decide), ax_up_ne _ _ (by decide), ax_up_ne _ _ (by decide)]
    exact D3
  · rw [ax_up_ne _ _ (by decide), ax_up_ne _ _ (by decide), ax_up_ne _ _ (by decide), ax_up_ne _ _ (by decide), ax_up_ne _ _ (by decide)]
    exact D4
  · rw [ax_up_ne _ _ (by decide), ax_up_ne _ _ (by decide), ax_up_ne _ _ (by decide), ax_up_ne _ _ (by decide), ax_up_ne _ _ (by decide)]
    exact D5
  · rw [ax_up_ne _ _ (by decide), ax_up_ne _ _ (by decide), ax_up_ne _ _ (by decide)]
    exact ax_up_same ..
  · rw [ax_up_ne _ _ (by decide), ax_up_ne _ _ (by decide), ax_up_ne _ _ (by decide), ax_up_ne _ _ (by decide), ax_up_ne _ _ (by decide)]
    exact D7
  · rw [ax_up_ne _ _ (by decide)]
    exact ax_up_same ..
  · exact ax_up_same ..
  · have hi : i < 1 := hi
    have : i = 0 := by omega
    subst this
    exact upd_same ..
  · rw [ax_up_ne _ _ (by omega), ax_up_ne _ _ (by omega), ax_up_ne _ _ (by omega), ax_up_ne _ _ (by omega), ax_up_ne _ _ (by omega)]
theorem ck_tkBegin (hal : ax_al n = 178) (hT : zT_ok t) (X : xTp es t) (hQ : ∀ es' tk, xTk es' t 0 tk 0 → (∀ j, j ≠ 1 → es' j = es j) → Q none es') : ax_Mt (d + 11) 1154 [.ref 1] n sl es Q := by
  obtain ⟨⟨kd, nb, nm, tk, ft, pl, nx, w1⟩, hS⟩ := X
  have w1 : es 1 = _ := w1
  refine ax_Mt_go (m := ax_m_9_2) (ls := [some (.ref 1)]) rfl ax_b_1154_0 (Nat.le_of_ble_eq_true rfl) rfl ?_
  simp only [ax_W_cons, ax_I, ax_cmp, ax_ii, ax_ll, ax_li, ax_st1, ax_st2, ax_kl, ax_k2, ax_fit, ax_rtok, List.getElem?_cons_zero, List.getElem?_cons_succ, List.length_cons, List.length_nil, List.set_cons_zero, List.set_cons_succ, Nat.reduceAdd, Nat.reduceDiv, Nat.reduceMod, Nat.reduceMul, Nat.reduceLT, Nat.reduceLeDiff, Int32.reduceOfInt, Int64.reduceOfInt, true_and, and_true, and_self, true_or, or_true, false_implies, true_implies, not_false_eq_true, not_true_eq_false, Value.category, Nat.reduceEqDiff, Option.toList, List.cons_append, List.nil_append, List.drop_succ_cons, List.drop_zero, ax_qq_eq, ax_t_1154, w1, hal, ax_up_same, ax_up_up]
  have N : xTn (ax_up es 1 (.inr (9, [.ref 2, .int (nI t.1), .int kd, .int nb, .long nm, .int tk, .int 0, .int pl, .int 0]))) t 0 tk 0 := ⟨⟨kd, nb, nm, pl, ax_up_same ..⟩, xSg_fr hS (ax_up_ne _ _ (by decide))⟩
  refine ax_inv_of (Nat.le_of_ble_eq_true rfl) (Nat.le_of_ble_eq_true rfl) (fun _ => ax_rcv_ok (by omega) (ax_up_same ..)) (fun h => absurd h (by decide)) (Nat.le_refl _) (Nat.le_refl _) (ck_advance hal hT N ?_)
  intro es1 T1 f1
  simp only [ax_W_cons, ax_I, ax_cmp, ax_ii, ax_ll, ax_li, ax_st1, ax_st2, ax_kl, ax_k2, ax_fit, ax_rtok, List.getElem?_cons_zero, List.getElem?_cons_succ, List.length_cons, List.length_nil, List.set_cons_zero, List.set_cons_succ, Nat.reduceAdd, Nat.reduceDiv, Nat.reduceMod, Nat.reduceMul, Nat.reduceLT, Nat.reduceLeDiff, Int32.reduceOfInt, Int64.reduceOfInt, true_and, and_true, and_self, true_or, or_true, false_implies, true_implies, not_false_eq_true, not_true_eq_false, Value.category, Nat.reduceEqDiff, Option.toList, List.cons_append, List.nil_append, List.drop_succ_cons, List.drop_zero, ax_qq_eq, ax_t_1154]
  exact hQ es1 tk T1 (fun j hj => (f1 j hj).trans (ax_up_ne _ _ hj))
theorem ck_tkFinish (hal : ax_al n = 178) {ft : Int32} (X : xTf es t ft) (hQ : ∀ es', xTp es' (0, t.2) → (∀ j, j ≠ 1 → es' j = es j) → Q (some (.int ft)) es') : ax_Mt d 1155 [.ref 1] n sl es Q := by
  obtain ⟨⟨kd, nb, nm, tk, pl, nx, w1⟩, sg, hS, -⟩ := X
  have w1 : es 1 = _ := w1
  refine ax_Mt_go (m := ax_m_9_3) (ls := [some (.ref 1)]) rfl ax_b_1155_0 (Nat.le_of_ble_eq_true rfl) rfl ?_
  simp only [ax_W_cons, ax_I, ax_cmp, ax_ii, ax_ll, ax_li, ax_st1, ax_st2, ax_kl, ax_k2, ax_fit, ax_rtok, List.getElem?_cons_zero, List.getElem?_cons_succ, List.length_cons, List.length_nil, List.set_cons_zero, List.set_cons_succ, Nat.reduceAdd, Nat.reduceDiv, Nat.reduceMod, Nat.reduceMul, Nat.reduceLT, Nat.reduceLeDiff, Int32.reduceOfInt, Int64.reduceOfInt, true_and, and_true, and_self, true_or, or_true, false_implies, true_implies, not_false_eq_true, not_true_eq_false, Value.category, Nat.reduceEqDiff, Option.toList, List.cons_append, List.nil_append, List.drop_succ_cons, List.drop_zero, ax_qq_eq, ax_t_1155, w1, hal, ax_up_same]
  exact hQ _ ⟨⟨kd, nb, nm, tk, ft, pl, nx, ax_up_same ..⟩, sg, (ax_up_ne _ _ (by decide)).trans hS, fun j hj => absurd hj (Nat.not_lt_zero j)⟩ (fun j hj => ax_up_ne _ _ hj)
theorem ck_settle (hal : ax_al n = 178) (hd : zdok t dr) (X : xDr es dr 998) (hQ : ∀ es', xDr es' (zSet dr) 1000 → (∀ j, (j < 21 ∨ 31 < j) → es' j = es j) → Q none es') : ax_Mt (d + 12) 133 [.ref 21] n sl es Q := by
  obtain ⟨kd, pl, hh, nms, hs, code, f5, f6, Dh, R⟩ := X
  obtain ⟨R1, R2, R3, R4, R5, R6, R7⟩ := id R
  obtain ⟨D1, D2, D3, D4, D5, D6, D7, D8, D9⟩ := id Dh
  have c10 : ¬ (1 : Int32) = 0 := by decide
  have hk := hd.1
  have hp := R1.1
  -- the second law
  have fin6 : ∀ es2 pl2 code2 g5 c5 v1, (∀ i, i < dr.2.1.length → pl2 i = nI (min (dr.2.1.getD i zC0).2.1 (dr.1 - 1))) → (∀ i, i < c5.length → code2 (g5 + i) = c5.getD i 0) → (∀ i, i < dr.2.2.2.2.2.length → code2 (f6 + i) = dr.2.2.2.2.2.getD i 0) → g5 + c5.length ≤ 999 → c5 = (if dr.2.2.2.1.2.2.1 = true then dr.2.2.2.2.1 else [1]) → xDh es2 (nI dr.1) (nI dr.2.1.length) (nI dr.2.2.1.length) (zoI dr.2.2.2.1) kd pl2 hh nms hs code2 (nI g5) (nI (g5 + c5.length)) (nI f6) (nI (f6 + dr.2.2.2.2.2.length)) → (∀ j, (j < 21 ∨ 31 < j) → es2 j = es j) → ax_W (d + 12) n sl 133 [(1, .aload 0), (2, .iconst 6), (3, .invokeinterface 130 9), (3, .ifCond .ne 74), (1, .aload 0), (2, .iconst 6), (3, .invokeinterface 132 9), (2, .iconst (-21)), (3, .invokeinterface 386 9)] 54 [some (.ref 21), some (.int v1)] [] n sl es2 (ax_qq n sl Q) := by
    intro es2 pl2 code2 g5 c5 v1 P1 P2 P3 P4 P5 H fr
    obtain ⟨G1, G2, G3, G4, G5, G6, G7, G8, G9⟩ := id H
    have hpl : ∀ i, i < (zSet dr).2.1.length → kd i = nI ((zSet dr).2.1.getD i zC0).1 ∧ pl2 i = nI ((zSet dr).2.1.getD i zC0).2.1 ∧ hh i = nI ((zSet dr).2.1.getD i zC0).2.2.1 ∧ nms i = nL (zv256 ((zSet dr).2.1.getD i zC0).2.2.2) ∧ zWd ((zSet dr).2.1.getD i zC0).2.2.2 := by
      intro i hi
      have hi : i < (dr.2.1.map (fun c => (c.1, min c.2.1 (dr.1 - 1), c.2.2))).length := hi
      rw [List.length_map] at hi
      have e : (zSet dr).2.1.getD i zC0 = ((dr.2.1.getD i zC0).1, min (dr.2.1.getD i zC0).2.1 (dr.1 - 1), (dr.2.1.getD i zC0).2.2) := zgetD_map (fun c : zCr => (c.1, min c.2.1 (dr.1 - 1), c.2.2)) dr.2.1 zC0 zC0 hi
      rw [e]
      obtain ⟨q1, q2, q3, q4, q5⟩ := R2 i hi
      exact ⟨q1, P1 i hi, q3, q4, q5⟩
    have hln : (zSet dr).2.1.length = dr.2.1.length := List.length_map ..
    simp only [ax_W_cons, ax_I, ax_cmp, ax_ii, ax_ll, ax_li, ax_st1, ax_st2, ax_kl, ax_k2, ax_fit, ax_rtok, List.getElem?_cons_zero, List.getElem?_cons_succ, List.length_cons, List.length_nil, List.set_cons_zero, List.set_cons_succ, Nat.reduceAdd, Nat.reduceDiv, Nat.reduceMod, Nat.reduceMul, Nat.reduceLT, Nat.reduceLeDiff, Int32.reduceOfInt, Int64.reduceOfInt, true_and, and_true, and_self, true_or, or_true, false_implies, true_implies, not_false_eq_true, not_true_eq_false, Value.category, Nat.reduceEqDiff, Option.toList, List.cons_append, List.nil_append, List.drop_succ_cons, List.drop_zero, ax_qq_eq, ax_t_133]
    refine ax_inv_of (Nat.le_of_ble_eq_true rfl) (Nat.le_of_ble_eq_true rfl) (fun _ => ax_rcv_ok (by omega) G1) (fun h => absurd h (by decide)) (Nat.le_refl _) (Nat.le_refl _) (ck_isToldOnce (k := 6) hal (Or.inr (Or.inr (Or.inr rfl))) G1 ?_)
    have ez : zon dr.2.2.2.1 6 = dr.2.2.2.1.2.2.2 := rfl
    rw [ez]
    by_cases h6 : dr.2.2.2.1.2.2.2 = true
    · rw [h6]
      simp only [ax_W_cons, ax_I, ax_cmp, ax_ii, ax_ll, ax_li, ax_st1, ax_st2, ax_kl, ax_k2, ax_fit, ax_rtok, List.getElem?_cons_zero, List.getElem?_cons_succ, List.length_cons, List.length_nil, List.set_cons_zero, List.set_cons_succ, Nat.reduceAdd, Nat.reduceDiv, Nat.reduceMod, Nat.reduceMul, Nat.reduceLT, Nat.reduceLeDiff, Int32.reduceOfInt, Int64.reduceOfInt, true_and, and_true, and_self, true_or, or_true, false_implies, true_implies, not_false_eq_true, not_true_eq_false, Value.category, Nat.reduceEqDiff, Option.toList, List.cons_append, List.nil_append, List.drop_succ_cons, List.drop_zero, ax_qq_eq, ax_t_133, ax_j_133_74, ax_n_133_74, kx_bt, c10]
      refine hQ es2 ⟨kd, pl2, hh, nms, hs, code2, g5, f6, ?_, ⟨by rw [hln]; exact hp, R1.2⟩, hpl, R3, ?_, ?_, ?_, ?_⟩ fr
      · show xDh es2 (nI dr.1) (nI (zSet dr).2.1.length) (nI dr.2.2.1.length) (zoI dr.2.2.2.1) kd pl2 hh nms hs code2 (nI g5) (nI (g5 + (if dr.2.2.2.1.2.2.1 = true then dr.2.2.2.2.1 else [1]).length)) (nI f6) (nI (f6 + (if dr.2.2.2.1.2.2.2 = true then dr.2.2.2.2.2 else [zneg 20]).length))
        rw [hln, ← P5, if_pos h6]
        exact H
      · show ∀ i, i < (if dr.2.2.2.1.2.2.1 = true then dr.2.2.2.2.1 else [1]).length → code2 (g5 + i) = (if dr.2.2.2.1.2.2.1 = true then dr.2.2.2.2.1 else [1]).getD i 0
        rw [← P5]
        exact P2
      · show ∀ i, i < (if dr.2.2.2.1.2.2.2 = true then dr.2.2.2.2.2 else [zneg 20]).length → code2 (f6 + i) = (if dr.2.2.2.1.2.2.2 = true then dr.2.2.2.2.2 else [zneg 20]).getD i 0
        rw [if_pos h6]
        exact P3
      · show g5 + (if dr.2.2.2.1.2.2.1 = true then dr.2.2.2.2.1 else [1]).length ≤ 1000
        rw [← P5]
        omega
      · show f6 + (if dr.2.2.2.1.2.2.2 = true then dr.2.2.2.2.2 else [zneg 20]).length ≤ 1000
        rw [if_pos h6]
        omega
    · have h6' : dr.2.2.2.1.2.2.2 = false := by
        cases hb : dr.2.2.2.1.2.2.2
        · rfl
        · exact absurd hb h6
      rw [h6']
      simp only [ax_W_cons, ax_I, ax_cmp, ax_ii, ax_ll, ax_li, ax_st1, ax_st2, ax_kl, ax_k2, ax_fit, ax_rtok, List.getElem?_cons_zero, List.getElem?_cons_succ, List.length_cons, List.length_nil, List.set_cons_zero, List.set_cons_succ, Nat.reduceAdd, Nat.reduceDiv, Nat.reduceMod, Nat.reduceMul, Nat.reduceLT, Nat.reduceLeDiff, Int32.reduceOfInt, Int64.reduceOfInt, true_and, and_true, and_self, true_or, or_true, false_implies, true_implies, not_false_eq_true, not_true_eq_false, Value.category, Nat.reduceEqDiff, Option.toList, List.cons_append, List.nil_append, List.drop_succ_cons, List.drop_zero, ax_qq_eq, ax_t_133, ax_j_133_74, ax_n_133_74, kx_bf]
      refine ax_inv_of (Nat.le_of_ble_eq_true rfl) (Nat.le_of_ble_eq_true rfl) (fun _ => ax_rcv_ok (by omega) G1) (fun h => absurd h (by decide)) (Nat.le_refl _) (Nat.le_refl _) (ck_openLaw (w := 6) hal (Or.inr rfl) (by show g5 + c5.length ≤ 1000; omega) (by show f6 + dr.2.2.2.2.2.length ≤ 1000; omega) H ?_)
      have hm : max (g5 + c5.length) (f6 + dr.2.2.2.2.2.length) ≤ 999 := by omega
      have hm5 : g5 + c5.length ≤ max (g5 + c5.length) (f6 + dr.2.2.2.2.2.length) := by omega
      generalize max (g5 + c5.length) (f6 + dr.2.2.2.2.2.length) = m at hm hm5 ⊢
      have hlw : zlw 6 = 31 := rfl
      rw [hlw]
      have fe : ∀ e j, j ≠ 31 → ax_up es2 31 e j = es2 j := fun e j h => ax_up_ne _ _ h
      simp only [ax_W_cons, ax_I, ax_cmp, ax_ii, ax_ll, ax_li, ax_st1, ax_st2, ax_kl, ax_k2, ax_fit, ax_rtok, List.getElem?_cons_zero, List.getElem?_cons_succ, List.length_cons, List.length_nil, List.set_cons_zero, List.set_cons_succ, Nat.reduceAdd, Nat.reduceDiv, Nat.reduceMod, Nat.reduceMul, Nat.reduceLT, Nat.reduceLeDiff, Int32.reduceOfInt, Int64.reduceOfInt, true_and, and_true, and_self, true_or, or_true, false_implies, true_implies, not_false_eq_true, not_true_eq_false, Value.category, Nat.reduceEqDiff, Option.toList, List.cons_append, List.nil_append, List.drop_succ_cons, List.drop_zero, ax_qq_eq, ax_t_133]
      refine ax_inv_of (Nat.le_of_ble_eq_true rfl) (Nat.le_of_ble_eq_true rfl) (fun _ => ax_rcv_ok (by omega) (ax_up_same ..)) (fun h => absurd h (by decide)) (Nat.le_refl _) (Nat.le_refl _) (ck_add (lw := 31) hal (Or.inr rfl) (ax_up_same ..) ((fe _ 27 (by decide)).trans G7) (by omega) (-21) ?_)
      intro es3 A1 A2 A3
      have ge : ∀ j, j ≠ 31 → j ≠ 27 → es3 j = es2 j := fun j h1 h2 => (A3 j ⟨h1, h2⟩).trans (fe _ j h1)
      simp only [ax_W_cons, ax_I, ax_cmp, ax_ii, ax_ll, ax_li, ax_st1, ax_st2, ax_kl, ax_k2, ax_fit, ax_rtok, List.getElem?_cons_zero, List.getElem?_cons_succ, List.length_cons, List.length_nil, List.set_cons_zero, List.set_cons_succ, Nat.reduceAdd, Nat.reduceDiv, Nat.reduceMod, Nat.reduceMul, Nat.reduceLT, Nat.reduceLeDiff, Int32.reduceOfInt, Int64.reduceOfInt, true_and, and_true, and_self, true_or, or_true, false_implies, true_implies, not_false_eq_true, not_true_eq_false, Value.category, Nat.reduceEqDiff, Option.toList, List.cons_append, List.nil_append, List.drop_succ_cons, List.drop_zero, ax_qq_eq, ax_t_133, ax_j_133_74, ax_n_133_74]
      refine hQ es3 ⟨kd, pl2, hh, nms, hs, upd code2 m (-21), g5, m, ?_, ⟨by rw [hln]; exact hp, R1.2⟩, hpl, R3, ?_, ?_, ?_, ?_⟩ (fun j hj => (ge j (by omega) (by omega)).trans (fr j hj))
      · show xDh es3 (nI dr.1) (nI (zSet dr).2.1.length) (nI dr.2.2.1.length) (zoI dr.2.2.2.1) kd pl2 hh nms hs (upd code2 m (-21)) (nI g5) (nI (g5 + (if dr.2.2.2.1.2.2.1 = true then dr.2.2.2.2.1 else [1]).length)) (nI m) (nI (m + (if dr.2.2.2.1.2.2.2 = true then dr.2.2.2.2.2 else [zneg 20]).length))
        rw [hln, ← P5, if_neg h6]
        exact ⟨(ge 21 (by decide) (by decide)).trans G1, (ge 22 (by decide) (by decide)).trans G2, (ge 23 (by decide) (by decide)).trans G3, (ge 24 (by decide) (by decide)).trans G4, (ge 25 (by decide) (by decide)).trans G5, (ge 26 (by decide) (by decide)).trans G6, A2, (ge 28 (by decide) (by decide)).trans G8, A1⟩
      · show ∀ i, i < (if dr.2.2.2.1.2.2.1 = true then dr.2.2.2.2.1 else [1]).length → upd code2 m (-21) (g5 + i) = (if dr.2.2.2.1.2.2.1 = true then dr.2.2.2.2.1 else [1]).getD i 0
        rw [← P5]
        intro i hi
        rw [upd_ne _ _ (by omega)]
        exact P2 i hi
      · show ∀ i, i < (if dr.2.2.2.1.2.2.2 = true then dr.2.2.2.2.2 else [zneg 20]).length → upd code2 m (-21) (m + i) = (if dr.2.2.2.1.2.2.2 = true then dr.2.2.2.2.2 else [zneg 20]).getD i 0
        rw [if_neg h6]
        intro i hi
        have hi : i < 1 := hi
        have : i = 0 := by omega
        subst this
        rw [Nat.add_zero, upd_same]
        decide
      · show g5 + (if dr.2.2.2.1.2.2.1 = true then dr.2.2.2.2.1 else [1]).length ≤ 1000
        rw [← P5]
        omega
      · show m + (if dr.2.2.2.1.2.2.2 = true then dr.2.2.2.2.2 else [zneg 20]).length ≤ 1000
        rw [if_neg h6]
        show m + 1 ≤ 1000
        omega
  have fin5 : ∀ es1 pl1 v1, (∀ i, i < dr.2.1.length → pl1 i = nI (min (dr.2.1.getD i zC0).2.1 (dr.1 - 1))) → es1 23 = .inl (0, 6, .inl pl1) → (∀ j, j ≠ 23 → es1 j = es j) → ax_W (d + 12) n sl 133 [(1, .aload 0), (1, .iconst 5), (3, .invokeinterface 130 9), (3, .ifCond .ne 54), (1, .aload 0), (1, .iconst 5), (3, .invokeinterface 132 9), (1, .iconst 1), (3, .invokeinterface 386 9)] 37 [some (.ref 21), some (.int v1)] [] n sl es1 (ax_qq n sl Q) := by
    intro es1 pl1 v1 P1 h23 fr
    have H : xDh es1 (nI dr.1) (nI dr.2.1.length) (nI dr.2.2.1.length) (zoI dr.2.2.2.1) kd pl1 hh nms hs code (nI f5) (nI (f5 + dr.2.2.2.2.1.length)) (nI f6) (nI (f6 + dr.2.2.2.2.2.length)) := ⟨(fr 21 (by decide)).trans D1, (fr 22 (by decide)).trans D2, h23, (fr 24 (by decide)).trans D4, (fr 25 (by decide)).trans D5, (fr 26 (by decide)).trans D6, (fr 27 (by decide)).trans D7, (fr 28 (by decide)).trans D8, (fr 31 (by decide)).trans D9⟩
    obtain ⟨G1, G2, G3, G4, G5, G6, G7, G8, G9⟩ := id H
    simp only [ax_W_cons, ax_I, ax_cmp, ax_ii, ax_ll, ax_li, ax_st1, ax_st2, ax_kl, ax_k2, ax_fit, ax_rtok, List.getElem?_cons_zero, List.getElem?_cons_succ, List.length_cons, List.length_nil, List.set_cons_zero, List.set_cons_succ, Nat.reduceAdd, Nat.reduceDiv, Nat.reduceMod, Nat.reduceMul, Nat.reduceLT, Nat.reduceLeDiff, Int32.reduceOfInt, Int64.reduceOfInt, true_and, and_true, and_self, true_or, or_true, false_implies, true_implies, not_false_eq_true, not_true_eq_false, Value.category, Nat.reduceEqDiff, Option.toList, List.cons_append, List.nil_append, List.drop_succ_cons, List.drop_zero, ax_qq_eq, ax_t_133]
    refine ax_inv_of (Nat.le_of_ble_eq_true rfl) (Nat.le_of_ble_eq_true rfl) (fun _ => ax_rcv_ok (by omega) G1) (fun h => absurd h (by decide)) (Nat.le_refl _) (Nat.le_refl _) (ck_isToldOnce (k := 5) hal (Or.inr (Or.inr (Or.inl rfl))) G1 ?_)
    have ez : zon dr.2.2.2.1 5 = dr.2.2.2.1.2.2.1 := rfl
    rw [ez]
    by_cases h5 : dr.2.2.2.1.2.2.1 = true
    · rw [h5]
      have F := fin6 es1 pl1 code f5 dr.2.2.2.2.1 v1 P1 R4 R5 (by omega) (by rw [if_pos h5]) H (fun j hj => fr j (by omega))
      rw [← ax_j_133_54] at F
      simp only [ax_W_cons, ax_I, ax_cmp, ax_ii, ax_ll, ax_li, ax_st1, ax_st2, ax_kl, ax_k2, ax_fit, ax_rtok, List.getElem?_cons_zero, List.getElem?_cons_succ, List.length_cons, List.length_nil, List.set_cons_zero, List.set_cons_succ, Nat.reduceAdd, Nat.reduceDiv, Nat.reduceMod, Nat.reduceMul, Nat.reduceLT, Nat.reduceLeDiff, Int32.reduceOfInt, Int64.reduceOfInt, true_and, and_true, and_self, true_or, or_true, false_implies, true_implies, not_false_eq_true, not_true_eq_false, Value.category, Nat.reduceEqDiff, Option.toList, List.cons_append, List.nil_append, List.drop_succ_cons, List.drop_zero, ax_qq_eq, ax_t_133, kx_bt, c10]
      exact F
    · have h5' : dr.2.2.2.1.2.2.1 = false := by
        cases hb : dr.2.2.2.1.2.2.1
        · rfl
        · exact absurd hb h5
      rw [h5']
      simp only [ax_W_cons, ax_I, ax_cmp, ax_ii, ax_ll, ax_li, ax_st1, ax_st2, ax_kl, ax_k2, ax_fit, ax_rtok, List.getElem?_cons_zero, List.getElem?_cons_succ, List.length_cons, List.length_nil, List.set_cons_zero, List.set_cons_succ, Nat.reduceAdd, Nat.reduceDiv, Nat.reduceMod, Nat.reduceMul, Nat.reduceLT, Nat.reduceLeDiff, Int32.reduceOfInt, Int64.reduceOfInt, true_and, and_true, and_self, true_or, or_true, false_implies, true_implies, not_false_eq_true, not_true_eq_false, Value.category, Nat.reduceEqDiff, Option.toList, List.cons_append, List.nil_append, List.drop_succ_cons, List.drop_zero, ax_qq_eq, ax_t_133, kx_bf]
      refine ax_inv_of (Nat.le_of_ble_eq_true rfl) (Nat.le_of_ble_eq_true rfl) (fun _ => ax_rcv_ok (by omega) G1) (fun h => absurd h (by decide)) (Nat.le_refl _) (Nat.le_refl _) (ck_openLaw (w := 5) hal (Or.inl rfl) (by show f5 + dr.2.2.2.2.1.length ≤ 1000; omega) (by show f6 + dr.2.2.2.2.2.length ≤ 1000; omega) H ?_)
      have hm : max (f5 + dr.2.2.2.2.1.length) (f6 + dr.2.2.2.2.2.length) ≤ 998 := by omega
      have hm6 : f6 + dr.2.2.2.2.2.length ≤ max (f5 + dr.2.2.2.2.1.length) (f6 + dr.2.2.2.2.2.length) := by omega
      generalize max (f5 + dr.2.2.2.2.1.length) (f6 + dr.2.2.2.2.2.length) = m at hm hm6 ⊢
      have hlw : zlw 5 = 28 := rfl
      rw [hlw]
      have fe : ∀ e j, j ≠ 28 → ax_up es1 28 e j = es1 j := fun e j h => ax_up_ne _ _ h
      simp only [ax_W_cons, ax_I, ax_cmp, ax_ii, ax_ll, ax_li, ax_st1, ax_st2, ax_kl, ax_k2, ax_fit, ax_rtok, List.getElem?_cons_zero, List.getElem?_cons_succ, List.length_cons, List.length_nil, List.set_cons_zero, List.set_cons_succ, Nat.reduceAdd, Nat.reduceDiv, Nat.reduceMod, Nat.reduceMul, Nat.reduceLT, Nat.reduceLeDiff, Int32.reduceOfInt, Int64.reduceOfInt, true_and, and_true, and_self, true_or, or_true, false_implies, true_implies, not_false_eq_true, not_true_eq_false, Value.category, Nat.reduceEqDiff, Option.toList, List.cons_append, List.nil_append, List.drop_succ_cons, List.drop_zero, ax_qq_eq, ax_t_133]
      refine ax_inv_of (Nat.le_of_ble_eq_true rfl) (Nat.le_of_ble_eq_true rfl) (fun _ => ax_rcv_ok (by omega) (ax_up_same ..)) (fun h => absurd h (by decide)) (Nat.le_refl _) (Nat.le_refl _) (ck_add (lw := 28) hal (Or.inl rfl) (ax_up_same ..) ((fe _ 27 (by decide)).trans G7) (by omega) 1 ?_)
      intro es3 A1 A2 A3
      have ge : ∀ j, j ≠ 28 → j ≠ 27 → es3 j = es1 j := fun j h1 h2 => (A3 j ⟨h1, h2⟩).trans (fe _ j h1)
      have F := fin6 es3 pl1 (upd code m 1) m [1] v1 P1 (fun i hi => by
        have hi : i < 1 := hi
        have : i = 0 := by omega
        subst this
        rw [Nat.add_zero, upd_same]
        rfl) (fun i hi => by
        rw [upd_ne _ _ (by omega)]
        exact R5 i hi) (by show m + 1 ≤ 999; omega) (by rw [if_neg h5]) ⟨(ge 21 (by decide) (by decide)).trans G1, (ge 22 (by decide) (by decide)).trans G2, (ge 23 (by decide) (by decide)).trans G3, (ge 24 (by decide) (by decide)).trans G4, (ge 25 (by decide) (by decide)).trans G5, (ge 26 (by decide) (by decide)).trans G6, A2, A1, (ge 31 (by decide) (by decide)).trans G9⟩ (fun j hj => (ge j (by omega) (by omega)).trans (fr j (by omega)))
      rw [← ax_n_133_54] at F
      simp only [ax_W_cons, ax_I, ax_cmp, ax_ii, ax_ll, ax_li, ax_st1, ax_st2, ax_kl, ax_k2, ax_fit, ax_rtok, List.getElem?_cons_zero, List.getElem?_cons_succ, List.length_cons, List.length_nil, List.set_cons_zero, List.set_cons_succ, Nat.reduceAdd, Nat.reduceDiv, Nat.reduceMod, Nat.reduceMul, Nat.reduceLT, Nat.reduceLeDiff, Int32.reduceOfInt, Int64.reduceOfInt, true_and, and_true, and_self, true_or, or_true, false_implies, true_implies, not_false_eq_true, not_true_eq_false, Value.category, Nat.reduceEqDiff, Option.toList, List.cons_append, List.nil_append, List.drop_succ_cons, List.drop_zero, ax_qq_eq, ax_t_133]
      exact F
  refine ax_Mt_go (m := ax_m_1_5) (ls := [some (.ref 21), none]) rfl ax_b_133_0 (Nat.le_of_ble_eq_true rfl) rfl ?_
  simp only [ax_W_cons, ax_I, ax_cmp, ax_ii, ax_ll, ax_li, ax_st1, ax_st2, ax_kl, ax_k2, ax_fit, ax_rtok, List.getElem?_cons_zero, List.getElem?_cons_succ, List.length_cons, List.length_nil, List.set_cons_zero, List.set_cons_succ, Nat.reduceAdd, Nat.reduceDiv, Nat.reduceMod, Nat.reduceMul, Nat.reduceLT, Nat.reduceLeDiff, Int32.reduceOfInt, Int64.reduceOfInt, true_and, and_true, and_self, true_or, or_true, false_implies, true_implies, not_false_eq_true, not_true_eq_false, Value.category, Nat.reduceEqDiff, Option.toList, List.cons_append, List.nil_append, List.drop_succ_cons, List.drop_zero, ax_qq_eq, ax_t_133]
  rw [ax_n_133_2]
  have L := kx_down (k := dr.2.1.length) (I := fun f i => ∀ es1 pl1, (∀ j, j < dr.2.1.length → pl1 j = if j < i then nI (min (dr.2.1.getD j zC0).2.1 (dr.1 - 1)) else pl j) → es1 23 = .inl (0, 6, .inl pl1) → (∀ j, j ≠ 23 → es1 j = es j) → ax_W (d + 12) n sl 133 [(1, .iload 1), (1, .aload 0), (3, .getfield 260), (3, .if_icmp .ge 37), (1, .aload 0), (3, .getfield 270), (1, .iload 1), (1, .aload 0), (3, .getfield 270), (1, .iload 1), (1, .iaload), (1, .aload 0), (3, .getfield 256), (1, .iconst 1), (1, .isub), (3, .invokeinterface 1666 8), (1, .iastore), (3, .iinc 1 1), (3, .goto 2)] 2 [some (.ref 21), some (.int (nI i))] [] n sl es1 (ax_qq n sl Q)) ?_ ?_ dr.2.1.length 0 (by omega)
  · exact L es pl (fun j hj => by rw [if_neg (by omega)]) D3 (fun j hj => rfl)
  · intro es1 pl1 hz h23 fr
    have e0 := kx_nn (k := dr.2.1.length) (by omega)
    have F := fin5 es1 pl1 (nI dr.2.1.length) (fun i hi => by rw [hz i hi, if_pos hi]) h23 fr
    rw [← ax_j_133_37] at F
    have G1 := (fr 21 (by decide)).trans D1
    simp only [ax_W_cons, ax_I, ax_cmp, ax_ii, ax_ll, ax_li, ax_st1, ax_st2, ax_kl, ax_k2, ax_fit, ax_rtok, List.getElem?_cons_zero, List.getElem?_cons_succ, List.length_cons, List.length_nil, List.set_cons_zero, List.set_cons_succ, Nat.reduceAdd, Nat.reduceDiv, Nat.reduceMod, Nat.reduceMul, Nat.reduceLT, Nat.reduceLeDiff, Int32.reduceOfInt, Int64.reduceOfInt, true_and, and_true, and_self, true_or, or_true, false_implies, true_implies, not_false_eq_true, not_true_eq_false, Value.category, Nat.reduceEqDiff, Option.toList, List.cons_append, List.nil_append, List.drop_succ_cons, List.drop_zero, ax_qq_eq, ax_t_133, G1, hal, e0]
    exact F
  · intro f i hi ih es1 pl1 hz h23 fr
    have e0 : ¬ nI dr.2.1.length ≤ nI i := nI_ge (by omega) (by omega)
    have i4 : nI i + 1 = nI (i + 1) := (nI_succ i).symm
    have i1 : vp_in (nI i) 6 := nI_in (by omega) (by decide)
    have i2 : (nI i).toNatClampNeg = i := nI_clamp (by omega)
    have hil : i < dr.2.1.length := by omega
    have G1 := (fr 21 (by decide)).trans D1
    have hpi : pl1 i = nI (dr.2.1.getD i zC0).2.1 := by
      rw [hz i hil, if_neg (by omega)]
      exact (R2 i hil).2.1
    have hm : (dr.2.1.getD i zC0).2.1 ≤ 11 := by
      have hg : dr.2.1.getD i zC0 = dr.2.1[i] := by
        rw [List.getD_eq_getElem?_getD, List.getElem?_eq_getElem hil]
        rfl
      rw [hg]
      exact (hd.2.2.1 _ (List.getElem_mem hil)).2.1
    have k1 : nI dr.1 - 1 = nI (dr.1 - 1) := by
      obtain ⟨x, hx⟩ : ∃ x, dr.1 = x + 1 := ⟨dr.1 - 1, by omega⟩
      rw [hx, nI_succ, Nat.add_sub_cancel]
      exact Int32.add_sub_cancel _ _
    simp only [ax_W_cons, ax_I, ax_cmp, ax_ii, ax_ll, ax_li, ax_st1, ax_st2, ax_kl, ax_k2, ax_fit, ax_rtok, List.getElem?_cons_zero, List.getElem?_cons_succ, List.length_cons, List.length_nil, List.set_cons_zero, List.set_cons_succ, Nat.reduceAdd, Nat.reduceDiv, Nat.reduceMod, Nat.reduceMul, Nat.reduceLT, Nat.reduceLeDiff, Int32.reduceOfInt, Int64.reduceOfInt, true_and, and_true, and_self, true_or, or_true, false_implies, true_implies, not_false_eq_true, not_true_eq_false, Value.category, Nat.reduceEqDiff, Option.toList, List.cons_append, List.nil_append, List.drop_succ_cons, List.drop_zero, ax_qq_eq, ax_t_133, G1, h23, hal, e0, i1, i2, k1]
    refine ax_inv_of (Nat.le_of_ble_eq_true rfl) (Nat.le_of_ble_eq_true rfl) (fun _ => absurd ‹_› (by decide)) (fun h => absurd h (by decide)) (Nat.le_refl _) (Nat.le_refl _) (ax_Mt_mono (ck_min _ _ _ _ _ _) ?_)
    rintro _ _ ⟨rfl, rfl⟩
    rw [hpi, zmin_n (by omega) (by omega)]
    simp only [ax_W_cons, ax_I, ax_cmp, ax_ii, ax_ll, ax_li, ax_st1, ax_st2, ax_kl, ax_k2, ax_fit, ax_rtok, List.getElem?_cons_zero, List.getElem?_cons_succ, List.length_cons, List.length_nil, List.set_cons_zero, List.set_cons_succ, Nat.reduceAdd, Nat.reduceDiv, Nat.reduceMod, Nat.reduceMul, Nat.reduceLT, Nat.reduceLeDiff, Int32.reduceOfInt, Int64.reduceOfInt, true_and, and_true, and_self, true_or, or_true, false_implies, true_implies, not_false_eq_true, not_true_eq_false, Value.category, Nat.reduceEqDiff, Option.toList, List.cons_append, List.nil_append, List.drop_succ_cons, List.drop_zero, ax_qq_eq, ax_t_133, h23, hal, i1, i2, i4]
    rw [ax_j_133_2]
    refine ih _ (upd pl1 i (nI (min (dr.2.1.getD i zC0).2.1 (dr.1 - 1)))) (fun j hj => ?_) (ax_up_same ..) (fun j hj => (ax_up_ne _ _ hj).trans (fr j hj))
    by_cases e : j = i
    · subst e
      rw [upd_same, if_pos (by omega)]
    · rw [upd_ne _ _ e, hz j hj]
      by_cases e2 : j < i
      · rw [if_pos e2, if_pos (by omega)]
      · rw [if_neg e2, if_neg (by omega)]
end TT
