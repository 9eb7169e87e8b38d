/-! the class: the line of a courtier -/
theorem updL_same (f : Nat → Int64) (i : Nat) (x : Int64) : vp_updL f i x i = x := by simp [vp_updL]
theorem updL_ne (f : Nat → Int64) {i j : Nat} (x : Int64) (h : j ≠ i) : vp_updL f i x j = f j := by simp [vp_updL, h]
theorem zgetD_l {α : Type} (l : List α) (c x : α) {i : Nat} (h : i < l.length) : (l ++ [c]).getD i x = l.getD i x := by
  rw [List.getD_eq_getElem?_getD, List.getD_eq_getElem?_getD, List.getElem?_append_left h]
theorem zgetD_r {α : Type} (l : List α) (c x : α) : (l ++ [c]).getD l.length x = c := by
  rw [List.getD_eq_getElem?_getD, List.getElem?_append_right (Nat.le_refl _), Nat.sub_self]
  rfl
theorem zDr_push {dr : zDf} {kd pl ht : Nat → Int32} {nm : Nat → Int64} {hs code : Nat → Int32} {f5 f6 lim : Nat} (h : zDr dr kd pl ht nm hs code f5 f6 lim) (hl : dr.2.1.length < 6) {x y z : Nat} {w : List Nat} (hw : zWd w) : zDr (dr.1, dr.2.1 ++ [(x, y, z, w)], dr.2.2) (upd kd dr.2.1.length (nI x)) (upd pl dr.2.1.length (nI y)) (upd ht dr.2.1.length (nI z)) (vp_updL nm dr.2.1.length (nL (zv256 w))) hs code f5 f6 lim := by
  obtain ⟨⟨h1, h2⟩, h3, h4⟩ := h
  refine ⟨⟨?_, h2⟩, fun i hi => ?_, h4⟩
  · show (dr.2.1 ++ [(x, y, z, w)]).length ≤ 6
    rw [List.length_append, List.length_singleton]
    omega
  · have hi : i < (dr.2.1 ++ [(x, y, z, w)]).length := hi
    rw [List.length_append, List.length_singleton] at hi
    show _ = nI ((dr.2.1 ++ [(x, y, z, w)]).getD i zC0).1 ∧ _ = nI ((dr.2.1 ++ [(x, y, z, w)]).getD i zC0).2.1 ∧ _ = nI ((dr.2.1 ++ [(x, y, z, w)]).getD i zC0).2.2.1 ∧ _ = nL (zv256 ((dr.2.1 ++ [(x, y, z, w)]).getD i zC0).2.2.2) ∧ zWd ((dr.2.1 ++ [(x, y, z, w)]).getD i zC0).2.2.2
    by_cases e : i = dr.2.1.length
    · subst e
      rw [zgetD_r, upd_same, upd_same, upd_same, updL_same]
      exact ⟨rfl, rfl, rfl, rfl, hw⟩
    · rw [zgetD_l _ _ _ (by omega), upd_ne _ _ e, upd_ne _ _ e, upd_ne _ _ e, updL_ne _ _ e]
      exact h3 i (by omega)
section TT
variable {n sl : Nat} {t : zTp} {a : Nat}
theorem ck_readCourtier (hal : ax_al n = 178) (ht : zT_ok t) (hk : zkd t a = 1) : xLc n sl t 773 (zL1 t) a := by
  intro d es dr tk Q X hpre hok hfail
  have c10 : ¬ (1 : Int32) = 0 := by decide
  have n0 : ((0 : Int32) = 0 ∨ (0 : Int32) = 1) := Or.inl rfl
  have n1 : ((1 : Int32) = 0 ∨ (1 : Int32) = 1) := Or.inr rfl
  obtain ⟨T0, ⟨rv, rb, w20⟩, ⟨kd, pl, hh, nms, hs, code, f5, f6, D, R⟩⟩ := id X
  obtain ⟨D1, -⟩ := id D
  have hp6 := R.1.1
  unfold zL1 at hok hfail
  refine ax_Mt_go (m := ax_m_6_5) (ls := [some (.ref 20), none]) rfl ax_b_773_0 (Nat.le_of_ble_eq_true rfl) rfl ?_
  by_cases h6 : 6 ≤ dr.2.1.length
  · rw [if_pos h6] at hfail
    have e6 : ¬ nI dr.2.1.length < 6 := by
      rw [kx_nlt]
      exact nI_le (a := 6) h6 (by omega)
    simp only [ax_W_cons, ax_I, ax_cmp, ax_ii, ax_ll, ax_li, ax_st1, ax_st2, ax_kl, ax_k2, ax_fit, ax_rtok, List.getElem?_cons_zero, List.getElem?_cons_succ, List.length_cons, List.length_nil, List.set_cons_zero, List.set_cons_succ, Nat.reduceAdd, Nat.reduceDiv, Nat.reduceMod, Nat.reduceMul, Nat.reduceLT, Nat.reduceLeDiff, Int32.reduceOfInt, Int64.reduceOfInt, true_and, and_true, and_self, true_or, or_true, false_implies, true_implies, not_false_eq_true, not_true_eq_false, Value.category, Nat.reduceEqDiff, Option.toList, List.cons_append, List.nil_append, List.drop_succ_cons, List.drop_zero, ax_qq_eq, ax_t_773, ax_j_773_23, ax_n_773_23, w20, D1, hal, e6]
    refine ax_inv_of (Nat.le_of_ble_eq_true rfl) (Nat.le_of_ble_eq_true rfl) (fun _ => xTk_rcv hal T0 _) (fun h => absurd h (by decide)) (Nat.le_refl _) (Nat.le_refl _) (ck_fail (k := 5) hal T0 ?_)
    intro es1 T1 f1
    simp only [ax_W_cons, ax_I, ax_cmp, ax_ii, ax_ll, ax_li, ax_st1, ax_st2, ax_kl, ax_k2, ax_fit, ax_rtok, List.getElem?_cons_zero, List.getElem?_cons_succ, List.length_cons, List.length_nil, List.set_cons_zero, List.set_cons_succ, Nat.reduceAdd, Nat.reduceDiv, Nat.reduceMod, Nat.reduceMul, Nat.reduceLT, Nat.reduceLeDiff, Int32.reduceOfInt, Int64.reduceOfInt, true_and, and_true, and_self, true_or, or_true, false_implies, true_implies, not_false_eq_true, not_true_eq_false, Value.category, Nat.reduceEqDiff, Option.toList, List.cons_append, List.nil_append, List.drop_succ_cons, List.drop_zero, ax_qq_eq, ax_t_773, n0]
    exact hfail _ es1 rfl (xLf_1 (x := (5, a)) X T1 f1) (xfR_1 f1)
  rw [if_neg h6] at hok hfail
  have hl : dr.2.1.length < 6 := by omega
  have e6 : nI dr.2.1.length < 6 := nI_lt (b := 6) hl (by decide)
  have i1 : vp_in (nI dr.2.1.length) 6 := nI_in hl (by decide)
  have i2 : (nI dr.2.1.length).toNatClampNeg = dr.2.1.length := nI_clamp (by omega)
  simp only [ax_W_cons, ax_I, ax_cmp, ax_ii, ax_ll, ax_li, ax_st1, ax_st2, ax_kl, ax_k2, ax_fit, ax_rtok, List.getElem?_cons_zero, List.getElem?_cons_succ, List.length_cons, List.length_nil, List.set_cons_zero, List.set_cons_succ, Nat.reduceAdd, Nat.reduceDiv, Nat.reduceMod, Nat.reduceMul, Nat.reduceLT, Nat.reduceLeDiff, Int32.reduceOfInt, Int64.reduceOfInt, true_and, and_true, and_self, true_or, or_true, false_implies, true_implies, not_false_eq_true, not_true_eq_false, Value.category, Nat.reduceEqDiff, Option.toList, List.cons_append, List.nil_append, List.drop_succ_cons, List.drop_zero, ax_qq_eq, ax_t_773, ax_j_773_23, ax_n_773_23, w20, D1, hal, e6]
  refine ax_inv_of (Nat.le_of_ble_eq_true rfl) (Nat.le_of_ble_eq_true rfl) (fun _ => xTk_rcv hal T0 _) (fun h => absurd h (by decide)) (Nat.le_refl _) (Nat.le_refl _) (ck_adv hal ht T0 ?_)
  intro es1 T1 f1
  have X1 : xLx es1 t (a + 1) tk dr kd pl hh nms hs code f5 f6 := xLx_1 ⟨T0, ⟨rv, rb, w20⟩, D⟩ T1 f1
  simp only [ax_W_cons, ax_I, ax_cmp, ax_ii, ax_ll, ax_li, ax_st1, ax_st2, ax_kl, ax_k2, ax_fit, ax_rtok, List.getElem?_cons_zero, List.getElem?_cons_succ, List.length_cons, List.length_nil, List.set_cons_zero, List.set_cons_succ, Nat.reduceAdd, Nat.reduceDiv, Nat.reduceMod, Nat.reduceMul, Nat.reduceLT, Nat.reduceLeDiff, Int32.reduceOfInt, Int64.reduceOfInt, true_and, and_true, and_self, true_or, or_true, false_implies, true_implies, not_false_eq_true, not_true_eq_false, Value.category, Nat.reduceEqDiff, Option.toList, List.cons_append, List.nil_append, List.drop_succ_cons, List.drop_zero, ax_qq_eq, ax_t_773, hal]
  refine ax_inv_of (Nat.le_of_ble_eq_true rfl) (Nat.le_of_ble_eq_true rfl) (fun _ => xLx_rd hal X1 _) (fun h => absurd h (by decide)) (Nat.le_refl _) (Nat.le_refl _) (ck_takeNewName hal ht hl (fun i hi => (R.2.1 i hi).2.2.2) X1 ?_ ?_)
  rotate_left
  · intro es2 k hN F2 f2
    simp only [ax_W_cons, ax_I, ax_cmp, ax_ii, ax_ll, ax_li, ax_st1, ax_st2, ax_kl, ax_k2, ax_fit, ax_rtok, List.getElem?_cons_zero, List.getElem?_cons_succ, List.length_cons, List.length_nil, List.set_cons_zero, List.set_cons_succ, Nat.reduceAdd, Nat.reduceDiv, Nat.reduceMod, Nat.reduceMul, Nat.reduceLT, Nat.reduceLeDiff, Int32.reduceOfInt, Int64.reduceOfInt, true_and, and_true, and_self, true_or, or_true, false_implies, true_implies, not_false_eq_true, not_true_eq_false, Value.category, Nat.reduceEqDiff, Option.toList, List.cons_append, List.nil_append, List.drop_succ_cons, List.drop_zero, ax_qq_eq, ax_t_773, ax_j_773_46, ax_n_773_46, n0]
    refine hfail (k, a + 1) es2 ?_ F2 (xfR_trans (xfR_1 f1) f2)
    rcases hN with ⟨h, rfl⟩ | ⟨h, h', rfl⟩
    · rw [if_neg h]
    · rw [if_pos h, if_neg h']
  intro es2 hN hF hw X2 f2
  rw [if_pos hN, if_pos hF] at hok hfail
  simp only [ax_W_cons, ax_I, ax_cmp, ax_ii, ax_ll, ax_li, ax_st1, ax_st2, ax_kl, ax_k2, ax_fit, ax_rtok, List.getElem?_cons_zero, List.getElem?_cons_succ, List.length_cons, List.length_nil, List.set_cons_zero, List.set_cons_succ, Nat.reduceAdd, Nat.reduceDiv, Nat.reduceMod, Nat.reduceMul, Nat.reduceLT, Nat.reduceLeDiff, Int32.reduceOfInt, Int64.reduceOfInt, true_and, and_true, and_self, true_or, or_true, false_implies, true_implies, not_false_eq_true, not_true_eq_false, Value.category, Nat.reduceEqDiff, Option.toList, List.cons_append, List.nil_append, List.drop_succ_cons, List.drop_zero, ax_qq_eq, ax_t_773, c10, hal]
  refine ax_inv_of (Nat.le_of_ble_eq_true rfl) (Nat.le_of_ble_eq_true rfl) (fun _ => xLx_rd hal X2 _) (fun h => absurd h (by decide)) (Nat.le_refl _) (Nat.le_refl _) (ck_takeKind hal ht hl X2 ?_ ?_)
  rotate_left
  · intro es3 hN3 F3 f3
    rw [if_neg hN3] at hfail
    simp only [ax_W_cons, ax_I, ax_cmp, ax_ii, ax_ll, ax_li, ax_st1, ax_st2, ax_kl, ax_k2, ax_fit, ax_rtok, List.getElem?_cons_zero, List.getElem?_cons_succ, List.length_cons, List.length_nil, List.set_cons_zero, List.set_cons_succ, Nat.reduceAdd, Nat.reduceDiv, Nat.reduceMod, Nat.reduceMul, Nat.reduceLT, Nat.reduceLeDiff, Int32.reduceOfInt, Int64.reduceOfInt, true_and, and_true, and_self, true_or, or_true, false_implies, true_implies, not_false_eq_true, not_true_eq_false, Value.category, Nat.reduceEqDiff, Option.toList, List.cons_append, List.nil_append, List.drop_succ_cons, List.drop_zero, ax_qq_eq, ax_t_773, ax_j_773_46, ax_n_773_46, n0]
    exact hfail _ es3 rfl F3 (xfR_trans (xfR_1 f1) (xfR_trans f2 f3))
  intro es3 hN3 X3 f3
  rw [if_pos hN3] at hok hfail
  have ff3 := xfR_trans (xfR_1 f1) (xfR_trans f2 f3)
  obtain ⟨rv3, rb3, w3⟩ := id X3.2.1
  simp only [ax_W_cons, ax_I, ax_cmp, ax_ii, ax_ll, ax_li, ax_st1, ax_st2, ax_kl, ax_k2, ax_fit, ax_rtok, List.getElem?_cons_zero, List.getElem?_cons_succ, List.length_cons, List.length_nil, List.set_cons_zero, List.set_cons_succ, Nat.reduceAdd, Nat.reduceDiv, Nat.reduceMod, Nat.reduceMul, Nat.reduceLT, Nat.reduceLeDiff, Int32.reduceOfInt, Int64.reduceOfInt, true_and, and_true, and_self, true_or, or_true, false_implies, true_implies, not_false_eq_true, not_true_eq_false, Value.category, Nat.reduceEqDiff, Option.toList, List.cons_append, List.nil_append, List.drop_succ_cons, List.drop_zero, ax_qq_eq, ax_t_773, ax_j_773_48, ax_n_773_48, c10, w3, hal]
  refine ax_inv_of (Nat.le_of_ble_eq_true rfl) (Nat.le_of_ble_eq_true rfl) (fun _ => xTk_rcv hal X3.1 _) (fun h => absurd h (by decide)) (Nat.le_refl _) (Nat.le_refl _) (ck_take (k := 2) hal ht (by decide) X3.1 ?_ ?_)
  rotate_left
  · intro es4 h4 F4 f4
    rw [zSgn, if_neg h4] at hfail
    simp only [ax_W_cons, ax_I, ax_cmp, ax_ii, ax_ll, ax_li, ax_st1, ax_st2, ax_kl, ax_k2, ax_fit, ax_rtok, List.getElem?_cons_zero, List.getElem?_cons_succ, List.length_cons, List.length_nil, List.set_cons_zero, List.set_cons_succ, Nat.reduceAdd, Nat.reduceDiv, Nat.reduceMod, Nat.reduceMul, Nat.reduceLT, Nat.reduceLeDiff, Int32.reduceOfInt, Int64.reduceOfInt, true_and, and_true, and_self, true_or, or_true, false_implies, true_implies, not_false_eq_true, not_true_eq_false, Value.category, Nat.reduceEqDiff, Option.toList, List.cons_append, List.nil_append, List.drop_succ_cons, List.drop_zero, ax_qq_eq, ax_t_773, ax_j_773_72, ax_n_773_72, n0]
    exact hfail _ es4 rfl (xLx_f (x := (1, a + 3)) X3 F4 f4) (xfR_trans ff3 (xfR_1 f4))
  intro es4 h4 T4 f4
  rw [zSgn, if_pos h4] at hok hfail
  have X4 := xLx_1 X3 T4 f4
  have ff4 := xfR_trans ff3 (xfR_1 f4)
  obtain ⟨rv4, rb4, w4⟩ := id X4.2.1
  simp only [ax_W_cons, ax_I, ax_cmp, ax_ii, ax_ll, ax_li, ax_st1, ax_st2, ax_kl, ax_k2, ax_fit, ax_rtok, List.getElem?_cons_zero, List.getElem?_cons_succ, List.length_cons, List.length_nil, List.set_cons_zero, List.set_cons_succ, Nat.reduceAdd, Nat.reduceDiv, Nat.reduceMod, Nat.reduceMul, Nat.reduceLT, Nat.reduceLeDiff, Int32.reduceOfInt, Int64.reduceOfInt, true_and, and_true, and_self, true_or, or_true, false_implies, true_implies, not_false_eq_true, not_true_eq_false, Value.category, Nat.reduceEqDiff, Option.toList, List.cons_append, List.nil_append, List.drop_succ_cons, List.drop_zero, ax_qq_eq, ax_t_773, c10, w4, hal]
  refine ax_inv_of (Nat.le_of_ble_eq_true rfl) (Nat.le_of_ble_eq_true rfl) (fun _ => xTk_rcv hal X4.1 _) (fun h => absurd h (by decide)) (Nat.le_refl _) (Nat.le_refl _) (ck_takeNumber (lo := 0) (hi := 11) hal ht (by decide) (by decide) X4.1 ?_ ?_)
  rotate_left
  · intro es5 k hN5 F5 f5'
    rw [hN5] at hfail
    simp only [ax_W_cons, ax_I, ax_cmp, ax_ii, ax_ll, ax_li, ax_st1, ax_st2, ax_kl, ax_k2, ax_fit, ax_rtok, List.getElem?_cons_zero, List.getElem?_cons_succ, List.length_cons, List.length_nil, List.set_cons_zero, List.set_cons_succ, Nat.reduceAdd, Nat.reduceDiv, Nat.reduceMod, Nat.reduceMul, Nat.reduceLT, Nat.reduceLeDiff, Int32.reduceOfInt, Int64.reduceOfInt, true_and, and_true, and_self, true_or, or_true, false_implies, true_implies, not_false_eq_true, not_true_eq_false, Value.category, Nat.reduceEqDiff, Option.toList, List.cons_append, List.nil_append, List.drop_succ_cons, List.drop_zero, ax_qq_eq, ax_t_773, ax_j_773_72, ax_n_773_72, n0]
    exact hfail _ es5 rfl (xLx_f (x := (k, a + 4)) X4 F5 f5') (xfR_trans ff4 (xfR_1 f5'))
  intro es5 h25 hN5 T5 f5'
  rw [zNum, if_pos h25, if_pos hN5] at hok hfail
  have X5 := xLx_1 X4 T5 f5'
  have ff5 := xfR_trans ff4 (xfR_1 f5')
  obtain ⟨⟨⟨nb5, nm5, w5, -⟩, -⟩, ⟨rv5, rb5, u5⟩, D5⟩ := id X5
  have w5 : es5 1 = _ := w5
  obtain ⟨E1, E2, E3, E4, E5, E6, E7, E8, E9⟩ := id D5
  have g20 : ∀ e, ax_up es5 23 e 20 = _ := fun e => (ax_up_ne es5 e (by decide)).trans u5
  simp only [ax_W_cons, ax_I, ax_cmp, ax_ii, ax_ll, ax_li, ax_st1, ax_st2, ax_kl, ax_k2, ax_fit, ax_rtok, List.getElem?_cons_zero, List.getElem?_cons_succ, List.length_cons, List.length_nil, List.set_cons_zero, List.set_cons_succ, Nat.reduceAdd, Nat.reduceDiv, Nat.reduceMod, Nat.reduceMul, Nat.reduceLT, Nat.reduceLeDiff, Int32.reduceOfInt, Int64.reduceOfInt, true_and, and_true, and_self, true_or, or_true, false_implies, true_implies, not_false_eq_true, not_true_eq_false, Value.category, Nat.reduceEqDiff, Option.toList, List.cons_append, List.nil_append, List.drop_succ_cons, List.drop_zero, ax_qq_eq, ax_t_773, ax_j_773_74, ax_n_773_74, c10, u5, w5, E1, E3, hal, i1, i2, g20]
  have fe : ∀ e j, j ≠ 23 → ax_up es5 23 e j = es5 j := fun e j h2 => ax_up_ne _ _ h2
  have T6 : xTk (ax_up es5 23 (.inl (0, 6, .inl (upd pl dr.2.1.length (nI (znb t (a + 4))))))) t (a + 5) (nI (znb t (a + 4))) 0 := xTk_fr X5.1 (fe _ 1 (by decide)) (fe _ 2 (by decide))
  have X6 : xLx _ t (a + 5) (nI (znb t (a + 4))) dr (upd kd dr.2.1.length (nI (zkd t (a + 2)))) (upd pl dr.2.1.length (nI (znb t (a + 4)))) hh (vp_updL nms dr.2.1.length (nL (zv256 (zwd t (a + 1))))) hs code f5 f6 := ⟨T6, ⟨rv5, rb5, g20 _⟩, (fe _ 21 (by decide)).trans E1, (fe _ 22 (by decide)).trans E2, ax_up_same .., (fe _ 24 (by decide)).trans E4, (fe _ 25 (by decide)).trans E5, (fe _ 26 (by decide)).trans E6, (fe _ 27 (by decide)).trans E7, (fe _ 28 (by decide)).trans E8, (fe _ 31 (by decide)).trans E9⟩
  have f6' : xfR es5 (ax_up es5 23 (.inl (0, 6, .inl (upd pl dr.2.1.length (nI (znb t (a + 4))))))) := fun j h1 h2 => fe _ j (by omega)
  have ff6 := xfR_trans ff5 f6'
  refine ax_inv_of (Nat.le_of_ble_eq_true rfl) (Nat.le_of_ble_eq_true rfl) (fun _ => xTk_rcv hal T6 _) (fun h => absurd h (by decide)) (Nat.le_refl _) (Nat.le_refl _) (ck_take (k := 3) hal ht (by decide) T6 ?_ ?_)
  rotate_left
  · intro es7 h7 F7 f7
    rw [zSgn, if_neg h7] at hfail
    simp only [ax_W_cons, ax_I, ax_cmp, ax_ii, ax_ll, ax_li, ax_st1, ax_st2, ax_kl, ax_k2, ax_fit, ax_rtok, List.getElem?_cons_zero, List.getElem?_cons_succ, List.length_cons, List.length_nil, List.set_cons_zero, List.set_cons_succ, Nat.reduceAdd, Nat.reduceDiv, Nat.reduceMod, Nat.reduceMul, Nat.reduceLT, Nat.reduceLeDiff, Int32.reduceOfInt, Int64.reduceOfInt, true_and, and_true, and_self, true_or, or_true, false_implies, true_implies, not_false_eq_true, not_true_eq_false, Value.category, Nat.reduceEqDiff, Option.toList, List.cons_append, List.nil_append, List.drop_succ_cons, List.drop_zero, ax_qq_eq, ax_t_773, ax_j_773_114, ax_n_773_114, n0]
    exact hfail _ es7 rfl (xLx_f (x := (1, a + 5)) X6 F7 f7) (xfR_trans ff6 (xfR_1 f7))
  intro es7 h7 T7 f7
  rw [zSgn, if_pos h7] at hok hfail
  have X7 := xLx_1 X6 T7 f7
  have ff7 := xfR_trans ff6 (xfR_1 f7)
  obtain ⟨rv7, rb7, w7⟩ := id X7.2.1
  simp only [ax_W_cons, ax_I, ax_cmp, ax_ii, ax_ll, ax_li, ax_st1, ax_st2, ax_kl, ax_k2, ax_fit, ax_rtok, List.getElem?_cons_zero, List.getElem?_cons_succ, List.length_cons, List.length_nil, List.set_cons_zero, List.set_cons_succ, Nat.reduceAdd, Nat.reduceDiv, Nat.reduceMod, Nat.reduceMul, Nat.reduceLT, Nat.reduceLeDiff, Int32.reduceOfInt, Int64.reduceOfInt, true_and, and_true, and_self, true_or, or_true, false_implies, true_implies, not_false_eq_true, not_true_eq_false, Value.category, Nat.reduceEqDiff, Option.toList, List.cons_append, List.nil_append, List.drop_succ_cons, List.drop_zero, ax_qq_eq, ax_t_773, c10, w7, hal]
  refine ax_inv_of (Nat.le_of_ble_eq_true rfl) (Nat.le_of_ble_eq_true rfl) (fun _ => xTk_rcv hal X7.1 _) (fun h => absurd h (by decide)) (Nat.le_refl _) (Nat.le_refl _) (ck_takeNumber (lo := 0) (hi := 9) hal ht (by decide) (by decide) X7.1 ?_ ?_)
  rotate_left
  · intro es8 k hN8 F8 f8
    rw [hN8] at hfail
    simp only [ax_W_cons, ax_I, ax_cmp, ax_ii, ax_ll, ax_li, ax_st1, ax_st2, ax_kl, ax_k2, ax_fit, ax_rtok, List.getElem?_cons_zero, List.getElem?_cons_succ, List.length_cons, List.length_nil, List.set_cons_zero, List.set_cons_succ, Nat.reduceAdd, Nat.reduceDiv, Nat.reduceMod, Nat.reduceMul, Nat.reduceLT, Nat.reduceLeDiff, Int32.reduceOfInt, Int64.reduceOfInt, true_and, and_true, and_self, true_or, or_true, false_implies, true_implies, not_false_eq_true, not_true_eq_false, Value.category, Nat.reduceEqDiff, Option.toList, List.cons_append, List.nil_append, List.drop_succ_cons, List.drop_zero, ax_qq_eq, ax_t_773, ax_j_773_114, ax_n_773_114, n0]
    exact hfail _ es8 rfl (xLx_f (x := (k, a + 6)) X7 F8 f8) (xfR_trans ff7 (xfR_1 f8))
  intro es8 h25' hN8 T8 f8
  rw [zNum, if_pos h25', if_pos hN8] at hok hfail
  have X8 := xLx_1 X7 T8 f8
  have ff8 := xfR_trans ff7 (xfR_1 f8)
  obtain ⟨⟨⟨nb8, nm8, w8, -⟩, -⟩, ⟨rv8, rb8, u8⟩, D8⟩ := id X8
  have w8 : es8 1 = _ := w8
  obtain ⟨G1, G2, G3, G4, G5, G6, G7, G8, G9⟩ := id D8
  have e9 : nI dr.2.1.length + 1 = nI (dr.2.1 ++ [(zkd t (a + 2), znb t (a + 4), znb t (a + 6), zwd t (a + 1))]).length := by
    rw [List.length_append, List.length_singleton, ← nI_succ]
  have k20 : ∀ e, ax_up es8 24 e 20 = _ := fun e => (ax_up_ne es8 e (by decide)).trans u8
  have k21 : ∀ e, ax_up es8 24 e 21 = _ := fun e => (ax_up_ne es8 e (by decide)).trans G1
  have k20' : ∀ e e', ax_up (ax_up es8 24 e) 21 e' 20 = _ := fun e e' => (ax_up_ne _ e' (by decide)).trans (k20 e)
  simp only [ax_W_cons, ax_I, ax_cmp, ax_ii, ax_ll, ax_li, ax_st1, ax_st2, ax_kl, ax_k2, ax_fit, ax_rtok, List.getElem?_cons_zero, List.getElem?_cons_succ, List.length_cons, List.length_nil, List.set_cons_zero, List.set_cons_succ, Nat.reduceAdd, Nat.reduceDiv, Nat.reduceMod, Nat.reduceMul, Nat.reduceLT, Nat.reduceLeDiff, Int32.reduceOfInt, Int64.reduceOfInt, true_and, and_true, and_self, true_or, or_true, false_implies, true_implies, not_false_eq_true, not_true_eq_false, Value.category, Nat.reduceEqDiff, Option.toList, List.cons_append, List.nil_append, List.drop_succ_cons, List.drop_zero, ax_qq_eq, ax_t_773, ax_j_773_116, ax_n_773_116, c10, u8, w8, G1, G4, hal, i1, i2, k20, k21, k20', e9]
  have X9 : ∀ es9, es9 = ax_up (ax_up es8 24 (.inl (0, 6, .inl (upd hh dr.2.1.length (nI (znb t (a + 6))))))) 21 (.inr (1, [.int (nI dr.1), .int (nI (dr.2.1 ++ [(zkd t (a + 2), znb t (a + 4), znb t (a + 6), zwd t (a + 1))]).length), .ref 22, .ref 23, .ref 24, .ref 25, .ref 26, .int (nI dr.2.2.1.length), .ref 27, .ref 28, .ref 31, .int (zoI dr.2.2.2.1)])) → xLn es9 t (a + 7) (dr.1, dr.2.1 ++ [(zkd t (a + 2), znb t (a + 4), znb t (a + 6), zwd t (a + 1))], dr.2.2) (a - 2) (nI (znb t (a + 6))) ∧ xfR es8 es9 := by
    intro es9 h9
    have fe : ∀ j, j ≠ 24 → j ≠ 21 → es9 j = es8 j := fun j h1 h2 => by
      rw [h9, ax_up_ne _ _ h2, ax_up_ne _ _ h1]
    refine ⟨⟨xTk_fr T8 (fe 1 (by decide) (by decide)) (fe 2 (by decide) (by decide)), ⟨rv8, rb8, (fe 20 (by decide) (by decide)).trans u8⟩, _, _, _, _, _, _, f5, f6, ⟨?_, (fe 22 (by decide) (by decide)).trans G2, (fe 23 (by decide) (by decide)).trans G3, ?_, (fe 25 (by decide) (by decide)).trans G5, (fe 26 (by decide) (by decide)).trans G6, (fe 27 (by decide) (by decide)).trans G7, (fe 28 (by decide) (by decide)).trans G8, (fe 31 (by decide) (by decide)).trans G9⟩, zDr_push R hl hw⟩, fun j h1 h2 => fe j (by omega) (by omega)⟩
    · rw [h9]
      exact ax_up_same ..
    · rw [h9, ax_up_ne _ _ (by decide)]
      exact ax_up_same ..
  obtain ⟨X9, f9⟩ := X9 _ rfl
  have ff9 := xfR_trans ff8 f9
  refine ax_inv_of (Nat.le_of_ble_eq_true rfl) (Nat.le_of_ble_eq_true rfl) (fun _ => xTk_rcv hal X9.1 _) (fun h => absurd h (by decide)) (Nat.le_refl _) (Nat.le_refl _) (ck_take (k := 59) hal ht (by decide) X9.1 ?_ ?_)
  · intro es10 h59 T10 f10
    rw [zSgn, if_pos h59] at hok
    have Y := xLn_1 X9 T10 f10
    simp only [ax_W_cons, ax_I, ax_cmp, ax_ii, ax_ll, ax_li, ax_st1, ax_st2, ax_kl, ax_k2, ax_fit, ax_rtok, List.getElem?_cons_zero, List.getElem?_cons_succ, List.length_cons, List.length_nil, List.set_cons_zero, List.set_cons_succ, Nat.reduceAdd, Nat.reduceDiv, Nat.reduceMod, Nat.reduceMul, Nat.reduceLT, Nat.reduceLeDiff, Int32.reduceOfInt, Int64.reduceOfInt, true_and, and_true, and_self, true_or, or_true, false_implies, true_implies, not_false_eq_true, not_true_eq_false, Value.category, Nat.reduceEqDiff, Option.toList, List.cons_append, List.nil_append, List.drop_succ_cons, List.drop_zero, ax_qq_eq, ax_t_773, n1]
    exact hok _ es10 _ rfl ⟨Y.1, Y.2.1, xDr_lim Y.2.2 (by show a - 2 ≤ a + 8 - 2; omega)⟩ (xfR_trans ff9 (xfR_1 f10))
  · intro es10 h59 T10 f10
    rw [zSgn, if_neg h59] at hfail
    simp only [ax_W_cons, ax_I, ax_cmp, ax_ii, ax_ll, ax_li, ax_st1, ax_st2, ax_kl, ax_k2, ax_fit, ax_rtok, List.getElem?_cons_zero, List.getElem?_cons_succ, List.length_cons, List.length_nil, List.set_cons_zero, List.set_cons_succ, Nat.reduceAdd, Nat.reduceDiv, Nat.reduceMod, Nat.reduceMul, Nat.reduceLT, Nat.reduceLeDiff, Int32.reduceOfInt, Int64.reduceOfInt, true_and, and_true, and_self, true_or, or_true, false_implies, true_implies, not_false_eq_true, not_true_eq_false, Value.category, Nat.reduceEqDiff, Option.toList, List.cons_append, List.nil_append, List.drop_succ_cons, List.drop_zero, ax_qq_eq, ax_t_773, n0]
    exact hfail _ es10 rfl (xLf_1 (x := (1, a + 7)) X9 T10 f10) (xfR_trans ff9 (xfR_1 f10))
end TT
