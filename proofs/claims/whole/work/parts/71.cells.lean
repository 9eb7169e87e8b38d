/-! the class: cells and courtiers are read -/
def xLn (es : ax_H) (t : zTp) (a : Nat) (d : zDf) (lim : Nat) (tk : Int32) : Prop := xTk es t a tk 0 ∧ xRd es ∧ xDr es d lim
def xLf (es : ax_H) (t : zTp) (x : Nat × Nat) : Prop := xTf es t (nI (x.1 + 16 * zpl t x.2)) ∧ xRd es ∧ xDs es
def xfR (es es' : ax_H) : Prop := ∀ j, j ≠ 1 → (j < 20 ∨ 33 < j) → es' j = es j
theorem xfR_trans {a b c : ax_H} (h1 : xfR a b) (h2 : xfR b c) : xfR a c := fun j hj hk => (h2 j hj hk).trans (h1 j hj hk)
theorem xfR_1 {a b : ax_H} (h : ∀ j, j ≠ 1 → b j = a j) : xfR a b := fun j hj _ => h j hj
theorem xRd_fr {es es' : ax_H} (h : xRd es) (hf : es' 20 = es 20) : xRd es' := by
  obtain ⟨v, b, h⟩ := h
  exact ⟨v, b, hf.trans h⟩
theorem xDs_fr {es es' : ax_H} (h : xDs es) (hf : ∀ j, 21 ≤ j → j ≤ 31 → es' j = es j) : xDs es' := by
  obtain ⟨_, _, _, _, _, _, _, _, _, _, _, _, _, _, h⟩ := h
  exact ⟨_, _, _, _, _, _, _, _, _, _, _, _, _, _, xDh_fr h hf⟩
theorem xLn_1 {es es' : ax_H} {t : zTp} {a a' : Nat} {d : zDf} {lim : Nat} {tk tk' : Int32} (X : xLn es t a d lim tk) (h : xTk es' t a' tk' 0) (hf : ∀ j, j ≠ 1 → es' j = es j) : xLn es' t a' d lim tk' := ⟨h, xRd_fr X.2.1 (hf 20 (by decide)), xDr_fr X.2.2 (fun j h1 h2 => hf j (by omega))⟩
theorem xLf_1 {es es' : ax_H} {t : zTp} {a : Nat} {x : Nat × Nat} {d : zDf} {lim : Nat} {tk : Int32} (X : xLn es t a d lim tk) (h : xTf es' t (nI (x.1 + 16 * zpl t x.2))) (hf : ∀ j, j ≠ 1 → es' j = es j) : xLf es' t x := ⟨h, xRd_fr X.2.1 (hf 20 (by decide)), xDs_fr (xDr_s X.2.2) (fun j h1 h2 => hf j (by omega))⟩
theorem xTk_fr {es es' : ax_H} {t : zTp} {a : Nat} {tk ft : Int32} (h : xTk es t a tk ft) (h1 : es' 1 = es 1) (h2 : es' 2 = es 2) : xTk es' t a tk ft := by
  obtain ⟨⟨nb, nm, w1, v1, v2⟩, hS⟩ := h
  exact ⟨⟨nb, nm, h1.trans w1, v1, v2⟩, xSg_fr hS h2⟩
section TT
variable {d n sl : Nat} {es : ax_H} {t : zTp} {a lim : Nat} {dr : zDf} {tk : Int32} {Q : Option Value → ax_H → Prop}
theorem xRd_rcv (hal : ax_al n = 178) (h : xRd es) (As : List Value) : ax_rcv n es 6 (.ref 20 :: As) := by
  obtain ⟨v, b, h⟩ := h
  exact ax_rcv_ok (by omega) h
theorem xDs_rcv (hal : ax_al n = 178) (h : xDs es) (As : List Value) : ax_rcv n es 1 (.ref 21 :: As) := by
  obtain ⟨_, _, _, _, _, _, _, _, _, _, _, _, _, _, h⟩ := h
  exact ax_rcv_ok (by omega) h.1
theorem ck_takeOnce (hal : ax_al n = 178) (ht : zT_ok t) (hk : zok (zkd t a)) (X : xLn es t a dr lim tk) (h0 : ∀ es', zon dr.2.2.2.1 (zkd t a) = true → xLf es' t (3, a) → xfR es es' → Q (some (.int 0)) es') (h1 : ∀ es', zon dr.2.2.2.1 (zkd t a) = false → xLn es' t (a + 1) (dr.1, dr.2.1, dr.2.2.1, zos dr.2.2.2.1 (zkd t a), dr.2.2.2.2) lim tk → xfR es es' → Q (some (.int 1)) es') : ax_Mt (d + 12) 771 [.ref 20] n sl es Q := by
  obtain ⟨⟨⟨nb, nm, w1, v1, v2⟩, hS⟩, ⟨rv, rb, w20⟩, ⟨kd, pl, hh, nms, hs, code, f5, f6, D, R⟩⟩ := id X
  have w1 : es 1 = _ := w1
  have c10 : ¬ (1 : Int32) = 0 := by decide
  have n0 : ((0 : Int32) = 0 ∨ (0 : Int32) = 1) := Or.inl rfl
  have n1 : ((1 : Int32) = 0 ∨ (1 : Int32) = 1) := Or.inr rfl
  have rc := xDs_rcv (n := n) hal (xDr_s X.2.2)
  refine ax_Mt_go (m := ax_m_6_3) (ls := [some (.ref 20)]) rfl ax_b_771_0 (Nat.le_of_ble_eq_true rfl) rfl ?_
  simp only [ax_W_cons, ax_I, ax_cmp, ax_ii, ax_ll, ax_li, ax_st1, ax_st2, ax_kl, ax_k2, ax_fit, ax_rtok, List.getElem?_cons_zero, List.getElem?_cons_succ, List.length_cons, List.length_nil, List.set_cons_zero, List.set_cons_succ, Nat.reduceAdd, Nat.reduceDiv, Nat.reduceMod, Nat.reduceMul, Nat.reduceLT, Nat.reduceLeDiff, Int32.reduceOfInt, Int64.reduceOfInt, true_and, and_true, and_self, true_or, or_true, false_implies, true_implies, not_false_eq_true, not_true_eq_false, Value.category, Nat.reduceEqDiff, Option.toList, List.cons_append, List.nil_append, List.drop_succ_cons, List.drop_zero, ax_qq_eq, ax_t_771, w20, w1, hal]
  refine ax_inv_of (Nat.le_of_ble_eq_true rfl) (Nat.le_of_ble_eq_true rfl) (fun _ => rc _) (fun h => absurd h (by decide)) (Nat.le_refl _) (Nat.le_refl _) (ck_isToldOnce hal hk D.1 ?_)
  cases hz : zon dr.2.2.2.1 (zkd t a)
  · simp only [ax_W_cons, ax_I, ax_cmp, ax_ii, ax_ll, ax_li, ax_st1, ax_st2, ax_kl, ax_k2, ax_fit, ax_rtok, List.getElem?_cons_zero, List.getElem?_cons_succ, List.length_cons, List.length_nil, List.set_cons_zero, List.set_cons_succ, Nat.reduceAdd, Nat.reduceDiv, Nat.reduceMod, Nat.reduceMul, Nat.reduceLT, Nat.reduceLeDiff, Int32.reduceOfInt, Int64.reduceOfInt, true_and, and_true, and_self, true_or, or_true, false_implies, true_implies, not_false_eq_true, not_true_eq_false, Value.category, Nat.reduceEqDiff, Option.toList, List.cons_append, List.nil_append, List.drop_succ_cons, List.drop_zero, ax_qq_eq, ax_t_771, ax_j_771_26, ax_n_771_26, kx_bf, w20, w1, hal]
    refine ax_inv_of (Nat.le_of_ble_eq_true rfl) (Nat.le_of_ble_eq_true rfl) (fun _ => rc _) (fun h => absurd h (by decide)) (Nat.le_refl _) (Nat.le_refl _) (ck_tellOnce hal hk D.1 ?_)
    have T2 : xTk (ax_up es 21 (.inr (1, [.int (nI dr.1), .int (nI dr.2.1.length), .ref 22, .ref 23, .ref 24, .ref 25, .ref 26, .int (nI dr.2.2.1.length), .ref 27, .ref 28, .ref 31, .int (zoI (zos dr.2.2.2.1 (zkd t a)))]))) t a tk 0 := xTk_fr X.1 (ax_up_ne _ _ (by decide)) (ax_up_ne _ _ (by decide))
    have g20 : ∀ e, ax_up es 21 e 20 = _ := fun e => (ax_up_ne es e (by decide)).trans w20
    simp only [ax_W_cons, ax_I, ax_cmp, ax_ii, ax_ll, ax_li, ax_st1, ax_st2, ax_kl, ax_k2, ax_fit, ax_rtok, List.getElem?_cons_zero, List.getElem?_cons_succ, List.length_cons, List.length_nil, List.set_cons_zero, List.set_cons_succ, Nat.reduceAdd, Nat.reduceDiv, Nat.reduceMod, Nat.reduceMul, Nat.reduceLT, Nat.reduceLeDiff, Int32.reduceOfInt, Int64.reduceOfInt, true_and, and_true, and_self, true_or, or_true, false_implies, true_implies, not_false_eq_true, not_true_eq_false, Value.category, Nat.reduceEqDiff, Option.toList, List.cons_append, List.nil_append, List.drop_succ_cons, List.drop_zero, ax_qq_eq, ax_t_771, g20, hal]
    refine ax_inv_of (Nat.le_of_ble_eq_true rfl) (Nat.le_of_ble_eq_true rfl) (fun _ => xTk_rcv hal T2 _) (fun h => absurd h (by decide)) (Nat.le_refl _) (Nat.le_refl _) (ck_adv hal ht T2 ?_)
    intro es1 T1 f1
    simp only [ax_W_cons, ax_I, ax_cmp, ax_ii, ax_ll, ax_li, ax_st1, ax_st2, ax_kl, ax_k2, ax_fit, ax_rtok, List.getElem?_cons_zero, List.getElem?_cons_succ, List.length_cons, List.length_nil, List.set_cons_zero, List.set_cons_succ, Nat.reduceAdd, Nat.reduceDiv, Nat.reduceMod, Nat.reduceMul, Nat.reduceLT, Nat.reduceLeDiff, Int32.reduceOfInt, Int64.reduceOfInt, true_and, and_true, and_self, true_or, or_true, false_implies, true_implies, not_false_eq_true, not_true_eq_false, Value.category, Nat.reduceEqDiff, Option.toList, List.cons_append, List.nil_append, List.drop_succ_cons, List.drop_zero, ax_qq_eq, ax_t_771, n1]
    obtain ⟨D1, D2, D3, D4, D5, D6, D7, D8, D9⟩ := D
    have fe : ∀ j, j ≠ 1 → j ≠ 21 → es1 j = es j := fun j h1 h2 => (f1 j h1).trans (ax_up_ne _ _ h2)
    refine h1 es1 hz ⟨T1, ⟨rv, rb, (fe 20 (by decide) (by decide)).trans w20⟩, kd, pl, hh, nms, hs, code, f5, f6, ⟨(f1 21 (by decide)).trans (ax_up_same ..), (fe 22 (by decide) (by decide)).trans D2, (fe 23 (by decide) (by decide)).trans D3, (fe 24 (by decide) (by decide)).trans D4, (fe 25 (by decide) (by decide)).trans D5, (fe 26 (by decide) (by decide)).trans D6, (fe 27 (by decide) (by decide)).trans D7, (fe 28 (by decide) (by decide)).trans D8, (fe 31 (by decide) (by decide)).trans D9⟩, R⟩ (fun j h1 h2 => fe j h1 (by omega))
  · simp only [ax_W_cons, ax_I, ax_cmp, ax_ii, ax_ll, ax_li, ax_st1, ax_st2, ax_kl, ax_k2, ax_fit, ax_rtok, List.getElem?_cons_zero, List.getElem?_cons_succ, List.length_cons, List.length_nil, List.set_cons_zero, List.set_cons_succ, Nat.reduceAdd, Nat.reduceDiv, Nat.reduceMod, Nat.reduceMul, Nat.reduceLT, Nat.reduceLeDiff, Int32.reduceOfInt, Int64.reduceOfInt, true_and, and_true, and_self, true_or, or_true, false_implies, true_implies, not_false_eq_true, not_true_eq_false, Value.category, Nat.reduceEqDiff, Option.toList, List.cons_append, List.nil_append, List.drop_succ_cons, List.drop_zero, ax_qq_eq, ax_t_771, ax_j_771_26, ax_n_771_26, kx_bt, c10, w20, hal]
    refine ax_inv_of (Nat.le_of_ble_eq_true rfl) (Nat.le_of_ble_eq_true rfl) (fun _ => xTk_rcv hal X.1 _) (fun h => absurd h (by decide)) (Nat.le_refl _) (Nat.le_refl _) (ck_fail (k := 3) hal X.1 ?_)
    intro es1 T1 f1
    simp only [ax_W_cons, ax_I, ax_cmp, ax_ii, ax_ll, ax_li, ax_st1, ax_st2, ax_kl, ax_k2, ax_fit, ax_rtok, List.getElem?_cons_zero, List.getElem?_cons_succ, List.length_cons, List.length_nil, List.set_cons_zero, List.set_cons_succ, Nat.reduceAdd, Nat.reduceDiv, Nat.reduceMod, Nat.reduceMul, Nat.reduceLT, Nat.reduceLeDiff, Int32.reduceOfInt, Int64.reduceOfInt, true_and, and_true, and_self, true_or, or_true, false_implies, true_implies, not_false_eq_true, not_true_eq_false, Value.category, Nat.reduceEqDiff, Option.toList, List.cons_append, List.nil_append, List.drop_succ_cons, List.drop_zero, ax_qq_eq, ax_t_771, n0]
    exact h0 es1 hz (xLf_1 (x := (3, a)) X T1 f1) (xfR_1 f1)
/-- a line of the class -/
def xLc (n sl : Nat) (t : zTp) (M : Nat) (P : zDf → Nat → zS) (a : Nat) : Prop := ∀ (d : Nat) (es : ax_H) (dr : zDf) (tk : Int32) (Q : Option Value → ax_H → Prop), xLn es t a dr (a - 2) tk → zpre t a → (∀ r es' tk', P dr a = .inr r → xLn es' t r.1 r.2 (r.1 - 2) tk' → xfR es es' → Q (some (.int 1)) es') → (∀ x es', P dr a = .inl x → xLf es' t x → xfR es es' → Q (some (.int 0)) es') → ax_Mt (d + 70) M [.ref 20] n sl es Q
theorem xDr_lim {l' : Nat} (h : xDr es dr lim) (hl : lim ≤ l') : xDr es dr l' := by
  obtain ⟨kd, pl, ht, nm, hs, code, f5, f6, h1, h2, h3, h4, h5, h6, h7, h8⟩ := h
  exact ⟨kd, pl, ht, nm, hs, code, f5, f6, h1, h2, h3, h4, h5, h6, by omega, by omega⟩
theorem ck_readCells (hal : ax_al n = 178) (ht : zT_ok t) (hk : zkd t a = 0) : xLc n sl t 772 (zL0 t) a := by
  intro d es dr tk Q X hpre hok hfail
  have c10 : ¬ (1 : Int32) = 0 := by decide
  have n0 : ((0 : Int32) = 0 ∨ (0 : Int32) = 1) := Or.inl rfl
  have n1 : ((1 : Int32) = 0 ∨ (1 : Int32) = 1) := Or.inr rfl
  unfold zL0 at hok hfail
  refine ax_Mt_go (m := ax_m_6_4) (ls := [some (.ref 20)]) rfl ax_b_772_0 (Nat.le_of_ble_eq_true rfl) rfl ?_
  simp only [ax_W_cons, ax_I, ax_cmp, ax_ii, ax_ll, ax_li, ax_st1, ax_st2, ax_kl, ax_k2, ax_fit, ax_rtok, List.getElem?_cons_zero, List.getElem?_cons_succ, List.length_cons, List.length_nil, List.set_cons_zero, List.set_cons_succ, Nat.reduceAdd, Nat.reduceDiv, Nat.reduceMod, Nat.reduceMul, Nat.reduceLT, Nat.reduceLeDiff, Int32.reduceOfInt, Int64.reduceOfInt, true_and, and_true, and_self, true_or, or_true, false_implies, true_implies, not_false_eq_true, not_true_eq_false, Value.category, Nat.reduceEqDiff, Option.toList, List.cons_append, List.nil_append, List.drop_succ_cons, List.drop_zero, ax_qq_eq, ax_t_772, hal]
  refine ax_inv_of (Nat.le_of_ble_eq_true rfl) (Nat.le_of_ble_eq_true rfl) (fun _ => xRd_rcv hal X.2.1 _) (fun h => absurd h (by decide)) (Nat.le_refl _) (Nat.le_refl _) (ck_takeOnce hal ht (Or.inl hk) X ?_ ?_)
  · intro es1 hz F f
    rw [hk] at hz
    rw [if_pos hz] at hfail
    simp only [ax_W_cons, ax_I, ax_cmp, ax_ii, ax_ll, ax_li, ax_st1, ax_st2, ax_kl, ax_k2, ax_fit, ax_rtok, List.getElem?_cons_zero, List.getElem?_cons_succ, List.length_cons, List.length_nil, List.set_cons_zero, List.set_cons_succ, Nat.reduceAdd, Nat.reduceDiv, Nat.reduceMod, Nat.reduceMul, Nat.reduceLT, Nat.reduceLeDiff, Int32.reduceOfInt, Int64.reduceOfInt, true_and, and_true, and_self, true_or, or_true, false_implies, true_implies, not_false_eq_true, not_true_eq_false, Value.category, Nat.reduceEqDiff, Option.toList, List.cons_append, List.nil_append, List.drop_succ_cons, List.drop_zero, ax_qq_eq, ax_t_772, ax_j_772_20, ax_n_772_20, n0]
    exact hfail _ es1 rfl F f
  · intro es1 hz X1 f1
    rw [hk] at hz X1
    rw [if_neg (by rw [hz]; decide)] at hok hfail
    obtain ⟨rv, rb, w20⟩ := id X1.2.1
    simp only [ax_W_cons, ax_I, ax_cmp, ax_ii, ax_ll, ax_li, ax_st1, ax_st2, ax_kl, ax_k2, ax_fit, ax_rtok, List.getElem?_cons_zero, List.getElem?_cons_succ, List.length_cons, List.length_nil, List.set_cons_zero, List.set_cons_succ, Nat.reduceAdd, Nat.reduceDiv, Nat.reduceMod, Nat.reduceMul, Nat.reduceLT, Nat.reduceLeDiff, Int32.reduceOfInt, Int64.reduceOfInt, true_and, and_true, and_self, true_or, or_true, false_implies, true_implies, not_false_eq_true, not_true_eq_false, Value.category, Nat.reduceEqDiff, Option.toList, List.cons_append, List.nil_append, List.drop_succ_cons, List.drop_zero, ax_qq_eq, ax_t_772, c10, w20, hal]
    refine ax_inv_of (Nat.le_of_ble_eq_true rfl) (Nat.le_of_ble_eq_true rfl) (fun _ => xTk_rcv hal X1.1 _) (fun h => absurd h (by decide)) (Nat.le_refl _) (Nat.le_refl _) (ck_takeNumber (lo := 3) (hi := 12) hal ht (by decide) (by decide) X1.1 ?_ ?_)
    · intro es2 h25 hN T2 f2
      have X2 := xLn_1 X1 T2 f2
      rw [zNum, if_pos h25, if_pos hN] at hok hfail
      obtain ⟨⟨⟨nb, nm, w1, v1, v2⟩, hS⟩, ⟨rv2, rb2, u20⟩, ⟨kd, pl, hh, nms, hs, code, f5, f6, D, R⟩⟩ := id X2
      have w1 : es2 1 = _ := w1
      obtain ⟨D1, D2, D3, D4, D5, D6, D7, D8, D9⟩ := D
      have g20 : ∀ e, ax_up es2 21 e 20 = _ := fun e => (ax_up_ne es2 e (by decide)).trans u20
      simp only [ax_W_cons, ax_I, ax_cmp, ax_ii, ax_ll, ax_li, ax_st1, ax_st2, ax_kl, ax_k2, ax_fit, ax_rtok, List.getElem?_cons_zero, List.getElem?_cons_succ, List.length_cons, List.length_nil, List.set_cons_zero, List.set_cons_succ, Nat.reduceAdd, Nat.reduceDiv, Nat.reduceMod, Nat.reduceMul, Nat.reduceLT, Nat.reduceLeDiff, Int32.reduceOfInt, Int64.reduceOfInt, true_and, and_true, and_self, true_or, or_true, false_implies, true_implies, not_false_eq_true, not_true_eq_false, Value.category, Nat.reduceEqDiff, Option.toList, List.cons_append, List.nil_append, List.drop_succ_cons, List.drop_zero, ax_qq_eq, ax_t_772, ax_j_772_22, ax_n_772_22, c10, u20, w1, D1, g20, hal]
      have T3 : xTk (ax_up es2 21 (.inr (1, [.int (nI (znb t (a + 1))), .int (nI dr.2.1.length), .ref 22, .ref 23, .ref 24, .ref 25, .ref 26, .int (nI dr.2.2.1.length), .ref 27, .ref 28, .ref 31, .int (zoI (zos dr.2.2.2.1 0))]))) t (a + 2) (nI (znb t (a + 1))) 0 := xTk_fr T2 (ax_up_ne _ _ (by decide)) (ax_up_ne _ _ (by decide))
      have fe : ∀ e j, j ≠ 21 → ax_up es2 21 e j = es2 j := fun e j h2 => ax_up_ne _ _ h2
      have X3 : xLn _ t (a + 2) (znb t (a + 1), dr.2.1, dr.2.2.1, zos dr.2.2.2.1 0, dr.2.2.2.2) (a - 2) (nI (znb t (a + 1))) := ⟨T3, ⟨rv2, rb2, g20 _⟩, kd, pl, hh, nms, hs, code, f5, f6, ⟨ax_up_same .., (fe _ 22 (by decide)).trans D2, (fe _ 23 (by decide)).trans D3, (fe _ 24 (by decide)).trans D4, (fe _ 25 (by decide)).trans D5, (fe _ 26 (by decide)).trans D6, (fe _ 27 (by decide)).trans D7, (fe _ 28 (by decide)).trans D8, (fe _ 31 (by decide)).trans D9⟩, R⟩
      have f3 : xfR es2 _ := fun j h1 h2 => fe (.inr (1, [.int (nI (znb t (a + 1))), .int (nI dr.2.1.length), .ref 22, .ref 23, .ref 24, .ref 25, .ref 26, .int (nI dr.2.2.1.length), .ref 27, .ref 28, .ref 31, .int (zoI (zos dr.2.2.2.1 0))])) j (by omega)
      have ff := xfR_trans f1 (xfR_trans (xfR_1 f2) f3)
      refine ax_inv_of (Nat.le_of_ble_eq_true rfl) (Nat.le_of_ble_eq_true rfl) (fun _ => xTk_rcv hal T3 _) (fun h => absurd h (by decide)) (Nat.le_refl _) (Nat.le_refl _) (ck_take (k := 59) hal ht (by decide) T3 ?_ ?_)
      · intro es4 h59 T4 f4
        rw [zSgn, if_pos h59] at hok
        have X4 := xLn_1 X3 T4 f4
        simp only [ax_W_cons, ax_I, ax_cmp, ax_ii, ax_ll, ax_li, ax_st1, ax_st2, ax_kl, ax_k2, ax_fit, ax_rtok, List.getElem?_cons_zero, List.getElem?_cons_succ, List.length_cons, List.length_nil, List.set_cons_zero, List.set_cons_succ, Nat.reduceAdd, Nat.reduceDiv, Nat.reduceMod, Nat.reduceMul, Nat.reduceLT, Nat.reduceLeDiff, Int32.reduceOfInt, Int64.reduceOfInt, true_and, and_true, and_self, true_or, or_true, false_implies, true_implies, not_false_eq_true, not_true_eq_false, Value.category, Nat.reduceEqDiff, Option.toList, List.cons_append, List.nil_append, List.drop_succ_cons, List.drop_zero, ax_qq_eq, ax_t_772, n1]
        exact hok _ es4 _ rfl ⟨X4.1, X4.2.1, xDr_lim X4.2.2 (by show a - 2 ≤ a + 3 - 2; omega)⟩ (xfR_trans ff (xfR_1 f4))
      · intro es4 h59 T4 f4
        rw [zSgn, if_neg h59] at hfail
        simp only [ax_W_cons, ax_I, ax_cmp, ax_ii, ax_ll, ax_li, ax_st1, ax_st2, ax_kl, ax_k2, ax_fit, ax_rtok, List.getElem?_cons_zero, List.getElem?_cons_succ, List.length_cons, List.length_nil, List.set_cons_zero, List.set_cons_succ, Nat.reduceAdd, Nat.reduceDiv, Nat.reduceMod, Nat.reduceMul, Nat.reduceLT, Nat.reduceLeDiff, Int32.reduceOfInt, Int64.reduceOfInt, true_and, and_true, and_self, true_or, or_true, false_implies, true_implies, not_false_eq_true, not_true_eq_false, Value.category, Nat.reduceEqDiff, Option.toList, List.cons_append, List.nil_append, List.drop_succ_cons, List.drop_zero, ax_qq_eq, ax_t_772, n0]
        exact hfail _ es4 rfl (xLf_1 (x := (1, a + 2)) X3 T4 f4) (xfR_trans ff (xfR_1 f4))
    · intro es2 k hN F2 f2
      rw [hN] at hfail
      simp only [ax_W_cons, ax_I, ax_cmp, ax_ii, ax_ll, ax_li, ax_st1, ax_st2, ax_kl, ax_k2, ax_fit, ax_rtok, List.getElem?_cons_zero, List.getElem?_cons_succ, List.length_cons, List.length_nil, List.set_cons_zero, List.set_cons_succ, Nat.reduceAdd, Nat.reduceDiv, Nat.reduceMod, Nat.reduceMul, Nat.reduceLT, Nat.reduceLeDiff, Int32.reduceOfInt, Int64.reduceOfInt, true_and, and_true, and_self, true_or, or_true, false_implies, true_implies, not_false_eq_true, not_true_eq_false, Value.category, Nat.reduceEqDiff, Option.toList, List.cons_append, List.nil_append, List.drop_succ_cons, List.drop_zero, ax_qq_eq, ax_t_772, ax_j_772_20, ax_n_772_20, n0]
      exact hfail _ es2 rfl (xLf_1 (x := (k, a + 1)) X1 F2 f2) (xfR_trans f1 (xfR_1 f2))
end TT
