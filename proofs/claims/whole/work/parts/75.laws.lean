/-! the class: the lines of laws -/
section TT
variable {n sl : Nat} {t : zTp} {a : Nat}
theorem ck_readLaw5 (hal : ax_al n = 178) (ht : zT_ok t) (hk : zkd t a = 5) : xLc n sl t 777 (zL5 t) a := by
  intro d es dr tk Q X hpre hok hfail
  have c10 : ¬ (1 : Int32) = 0 := by decide
  have n0 : ((0 : Int32) = 0 ∨ (0 : Int32) = 1) := Or.inl rfl
  have n1 : ((1 : Int32) = 0 ∨ (1 : Int32) = 1) := Or.inr rfl
  have hL := ht.1
  have hp1 : zpre t (a + 1) := zpre_r hpre (fun b h1 h2 => by rw [show b = a by omega, hk]; decide)
  have hle := zpre_le hp1
  have k6 : ¬ nI 5 = (6 : Int32) := by decide
  unfold zL5 at hok hfail
  obtain ⟨⟨⟨nb0, nm0, w1, -⟩, -⟩, ⟨rv0, rb0, w20⟩, -⟩ := id X
  have w1 : es 1 = _ := w1
  refine ax_Mt_go (m := ax_m_6_9) (ls := [some (.ref 20), none]) rfl ax_b_777_0 (Nat.le_of_ble_eq_true rfl) rfl ?_
  simp only [ax_W_cons, ax_I, ax_cmp, ax_ii, ax_ll, ax_li, ax_st1, ax_st2, ax_kl, ax_k2, ax_fit, ax_rtok, List.getElem?_cons_zero, List.getElem?_cons_succ, List.length_cons, List.length_nil, List.set_cons_zero, List.set_cons_succ, Nat.reduceAdd, Nat.reduceDiv, Nat.reduceMod, Nat.reduceMul, Nat.reduceLT, Nat.reduceLeDiff, Int32.reduceOfInt, Int64.reduceOfInt, true_and, and_true, and_self, true_or, or_true, false_implies, true_implies, not_false_eq_true, not_true_eq_false, Value.category, Nat.reduceEqDiff, Option.toList, List.cons_append, List.nil_append, List.drop_succ_cons, List.drop_zero, ax_qq_eq, ax_t_777, w20, w1, hal]
  refine ax_inv_of (Nat.le_of_ble_eq_true rfl) (Nat.le_of_ble_eq_true rfl) (fun _ => xRd_rcv hal X.2.1 _) (fun h => absurd h (by decide)) (Nat.le_refl _) (Nat.le_refl _) (ck_takeOnce hal ht (Or.inr (Or.inr (Or.inl hk))) X ?_ ?_)
  · intro es1 hz F f
    rw [hk] at hz
    rw [if_pos hz] at hfail
    simp only [ax_W_cons, ax_I, ax_cmp, ax_ii, ax_ll, ax_li, ax_st1, ax_st2, ax_kl, ax_k2, ax_fit, ax_rtok, List.getElem?_cons_zero, List.getElem?_cons_succ, List.length_cons, List.length_nil, List.set_cons_zero, List.set_cons_succ, Nat.reduceAdd, Nat.reduceDiv, Nat.reduceMod, Nat.reduceMul, Nat.reduceLT, Nat.reduceLeDiff, Int32.reduceOfInt, Int64.reduceOfInt, true_and, and_true, and_self, true_or, or_true, false_implies, true_implies, not_false_eq_true, not_true_eq_false, Value.category, Nat.reduceEqDiff, Option.toList, List.cons_append, List.nil_append, List.drop_succ_cons, List.drop_zero, ax_qq_eq, ax_t_777, ax_j_777_17, ax_n_777_17, n0]
    exact hfail _ es1 rfl F f
  intro es1 hz X1 f1
  rw [hk] at hz X1
  rw [if_neg (by rw [hz]; decide)] at hok hfail
  obtain ⟨T1, ⟨rv, rb, u20⟩, ⟨kd, pl, hh, nms, hs, code, f5, f6, Dh, R⟩⟩ := id X1
  obtain ⟨R1, R2, R3, R4, R5, R6, R7⟩ := id R
  have R6 : f5 + dr.2.2.2.2.1.length ≤ a - 2 := R6
  have R7 : f6 + dr.2.2.2.2.2.length ≤ a - 2 := R7
  obtain ⟨D1, D2, D3, D4, D5, D6, D7, D8, D9⟩ := id Dh
  rw [hk]
  simp only [ax_W_cons, ax_I, ax_cmp, ax_ii, ax_ll, ax_li, ax_st1, ax_st2, ax_kl, ax_k2, ax_fit, ax_rtok, List.getElem?_cons_zero, List.getElem?_cons_succ, List.length_cons, List.length_nil, List.set_cons_zero, List.set_cons_succ, Nat.reduceAdd, Nat.reduceDiv, Nat.reduceMod, Nat.reduceMul, Nat.reduceLT, Nat.reduceLeDiff, Int32.reduceOfInt, Int64.reduceOfInt, true_and, and_true, and_self, true_or, or_true, false_implies, true_implies, not_false_eq_true, not_true_eq_false, Value.category, Nat.reduceEqDiff, Option.toList, List.cons_append, List.nil_append, List.drop_succ_cons, List.drop_zero, ax_qq_eq, ax_t_777, ax_j_777_17, ax_n_777_17, c10, u20, hal]
  refine ax_inv_of (Nat.le_of_ble_eq_true rfl) (Nat.le_of_ble_eq_true rfl) (fun _ => ax_rcv_ok (by omega) D1) (fun h => absurd h (by decide)) (Nat.le_refl _) (Nat.le_refl _) (ck_openLaw hal (Or.inl rfl) (by show f5 + dr.2.2.2.2.1.length ≤ 1000; omega) (by show f6 + dr.2.2.2.2.2.length ≤ 1000; omega) Dh ?_)
  have hm : max (f5 + dr.2.2.2.2.1.length) (f6 + dr.2.2.2.2.2.length) ≤ a - 2 := by omega
  have hm6 : f6 + dr.2.2.2.2.2.length ≤ max (f5 + dr.2.2.2.2.1.length) (f6 + dr.2.2.2.2.2.length) := by omega
  generalize max (f5 + dr.2.2.2.2.1.length) (f6 + dr.2.2.2.2.2.length) = m at hm hm6 ⊢
  have hlw : zlw 5 = 28 := rfl
  rw [hlw]
  have g20 : ∀ e, ax_up es1 28 e 20 = _ := fun e => (ax_up_ne es1 e (by decide)).trans u20
  simp only [ax_W_cons, ax_I, ax_cmp, ax_ii, ax_ll, ax_li, ax_st1, ax_st2, ax_kl, ax_k2, ax_fit, ax_rtok, List.getElem?_cons_zero, List.getElem?_cons_succ, List.length_cons, List.length_nil, List.set_cons_zero, List.set_cons_succ, Nat.reduceAdd, Nat.reduceDiv, Nat.reduceMod, Nat.reduceMul, Nat.reduceLT, Nat.reduceLeDiff, Int32.reduceOfInt, Int64.reduceOfInt, true_and, and_true, and_self, true_or, or_true, false_implies, true_implies, not_false_eq_true, not_true_eq_false, Value.category, Nat.reduceEqDiff, Option.toList, List.cons_append, List.nil_append, List.drop_succ_cons, List.drop_zero, ax_qq_eq, ax_t_777, ax_j_777_40, ax_n_777_40, ax_j_777_41, ax_n_777_41, g20, hal, k6, ax_up_same, ax_up_up]
  have E : ∀ es9, es9 = ax_up (ax_up es1 28 (.inr (3, [.ref 27, .ref (28 + 1), .ref (28 + 2), .int (nI m), .int (nI m)]))) 20 (.inr (6, [.ref 1, .ref 3, .ref 21, .ref 34, .ref 28, .int (kx_b false)])) → xEs es9 t (a + 1) tk 28 m m code false ∧ (∀ j, j ≠ 20 → j ≠ 28 → es9 j = es1 j) := by
    intro es9 h9
    have fe : ∀ j, j ≠ 20 → j ≠ 28 → es9 j = es1 j := fun j h1 h2 => by
      rw [h9, ax_up_ne _ _ h1, ax_up_ne _ _ h2]
    refine ⟨⟨xTk_fr T1 (fe 1 (by decide) (by decide)) (fe 2 (by decide) (by decide)), ?_, (fe 27 (by decide) (by decide)).trans D7, ?_, Or.inl rfl⟩, fe⟩
    · rw [h9, ax_up_ne _ _ (by decide)]
      exact ax_up_same ..
    · rw [h9]
      exact ax_up_same ..
  obtain ⟨E9, f9⟩ := E _ rfl
  refine ax_inv_of (Nat.le_of_ble_eq_true rfl) (Nat.le_of_ble_eq_true rfl) (fun _ => xEs_rcv hal E9 _) (fun h => absurd h (by decide)) (Nat.le_refl _) (Nat.le_refl _) (xCt_all hal ht (by decide) (zP_go t false 5) (xCt_part hal ht 5 (by decide)) 4 (by decide) _ _ (a + 1) m code _ (by omega) E9 hp1 (by omega) ?_ ?_)
  · intro r es2 hr E2 f2
    rw [hr] at hok hfail
    dsimp only at hok hfail
    obtain ⟨q1, q2, q3⟩ := (zLv_go (zP_go t false 5) 4 (a + 1)).1 _ hr
    have q4 := zpre_le (zpre_r hp1 q3)
    obtain ⟨T2, L1, L2, L3, -⟩ := id E2
    have fe : ∀ j, j ≠ 1 → j ≠ 20 → j ≠ 27 → j ≠ 28 → es2 j = es1 j := fun j h1 h2 h3 h4 => (f2 j ⟨h1, h4, h3⟩).trans (f9 j h2 h4)
    have X2 : xLn es2 t r.1 (dr.1, dr.2.1, dr.2.2.1, zos dr.2.2.2.1 5, r.2, dr.2.2.2.2.2) (r.1 - 1) tk := by
      refine ⟨T2, ⟨_, _, L3⟩, kd, pl, hh, nms, hs, zapp code m r.2, m, f6, ⟨(fe 21 (by decide) (by decide) (by decide) (by decide)).trans D1, (fe 22 (by decide) (by decide) (by decide) (by decide)).trans D2, (fe 23 (by decide) (by decide) (by decide) (by decide)).trans D3, (fe 24 (by decide) (by decide) (by decide) (by decide)).trans D4, (fe 25 (by decide) (by decide) (by decide) (by decide)).trans D5, (fe 26 (by decide) (by decide) (by decide) (by decide)).trans D6, L2, L1, (fe 31 (by decide) (by decide) (by decide) (by decide)).trans D9⟩, R1, R2, R3, ?_, ?_, ?_, ?_⟩
      · intro i hi
        have hi : i < r.2.length := hi
        show zapp code m r.2 (m + i) = r.2.getD i 0
        unfold zapp
        rw [if_pos (by omega), Nat.add_sub_cancel_left]
      · intro i hi
        have hi : i < dr.2.2.2.2.2.length := hi
        show zapp code m r.2 (f6 + i) = dr.2.2.2.2.2.getD i 0
        unfold zapp
        rw [if_neg (by omega)]
        exact R5 i hi
      · show m + r.2.length ≤ r.1 - 1
        omega
      · show f6 + dr.2.2.2.2.2.length ≤ r.1 - 1
        omega
    have ff : xfR es es2 := xfR_trans f1 (fun j h1 h2 => fe j h1 (by omega) (by omega) (by omega))
    simp only [ax_W_cons, ax_I, ax_cmp, ax_ii, ax_ll, ax_li, ax_st1, ax_st2, ax_kl, ax_k2, ax_fit, ax_rtok, List.getElem?_cons_zero, List.getElem?_cons_succ, List.length_cons, List.length_nil, List.set_cons_zero, List.set_cons_succ, Nat.reduceAdd, Nat.reduceDiv, Nat.reduceMod, Nat.reduceMul, Nat.reduceLT, Nat.reduceLeDiff, Int32.reduceOfInt, Int64.reduceOfInt, true_and, and_true, and_self, true_or, or_true, false_implies, true_implies, not_false_eq_true, not_true_eq_false, Value.category, Nat.reduceEqDiff, Option.toList, List.cons_append, List.nil_append, List.drop_succ_cons, List.drop_zero, ax_qq_eq, ax_t_777, c10, L3, hal]
    refine ax_inv_of (Nat.le_of_ble_eq_true rfl) (Nat.le_of_ble_eq_true rfl) (fun _ => xTk_rcv hal T2 _) (fun h => absurd h (by decide)) (Nat.le_refl _) (Nat.le_refl _) (ck_take (k := 59) hal ht (by decide) T2 ?_ ?_)
    · intro es3 h59 T3 f3
      rw [zSgn, if_pos h59] at hok
      have Y := xLn_1 X2 T3 f3
      simp only [ax_W_cons, ax_I, ax_cmp, ax_ii, ax_ll, ax_li, ax_st1, ax_st2, ax_kl, ax_k2, ax_fit, ax_rtok, List.getElem?_cons_zero, List.getElem?_cons_succ, List.length_cons, List.length_nil, List.set_cons_zero, List.set_cons_succ, Nat.reduceAdd, Nat.reduceDiv, Nat.reduceMod, Nat.reduceMul, Nat.reduceLT, Nat.reduceLeDiff, Int32.reduceOfInt, Int64.reduceOfInt, true_and, and_true, and_self, true_or, or_true, false_implies, true_implies, not_false_eq_true, not_true_eq_false, Value.category, Nat.reduceEqDiff, Option.toList, List.cons_append, List.nil_append, List.drop_succ_cons, List.drop_zero, ax_qq_eq, ax_t_777, ax_j_777_69, ax_n_777_69, ax_j_777_70, ax_n_777_70, c10]
      exact hok _ es3 _ rfl ⟨Y.1, Y.2.1, xDr_lim Y.2.2 (by show r.1 - 1 ≤ r.1 + 1 - 2; omega)⟩ (xfR_trans ff (xfR_1 f3))
    · intro es3 h59 T3 f3
      rw [zSgn, if_neg h59] at hfail
      simp only [ax_W_cons, ax_I, ax_cmp, ax_ii, ax_ll, ax_li, ax_st1, ax_st2, ax_kl, ax_k2, ax_fit, ax_rtok, List.getElem?_cons_zero, List.getElem?_cons_succ, List.length_cons, List.length_nil, List.set_cons_zero, List.set_cons_succ, Nat.reduceAdd, Nat.reduceDiv, Nat.reduceMod, Nat.reduceMul, Nat.reduceLT, Nat.reduceLeDiff, Int32.reduceOfInt, Int64.reduceOfInt, true_and, and_true, and_self, true_or, or_true, false_implies, true_implies, not_false_eq_true, not_true_eq_false, Value.category, Nat.reduceEqDiff, Option.toList, List.cons_append, List.nil_append, List.drop_succ_cons, List.drop_zero, ax_qq_eq, ax_t_777, ax_j_777_69, ax_n_777_69, ax_j_777_70, ax_n_777_70]
      exact hfail _ es3 rfl (xLf_1 (x := (1, r.1)) X2 T3 f3) (xfR_trans ff (xfR_1 f3))
  · intro x es2 hx F2 f2
    rw [hx] at hfail
    obtain ⟨F2, fr2, en2, co2, L1, L2⟩ := F2
    have fe : ∀ j, j ≠ 1 → j ≠ 20 → j ≠ 27 → j ≠ 28 → es2 j = es1 j := fun j h1 h2 h3 h4 => (f2 j ⟨h1, h4, h3⟩).trans (f9 j h2 h4)
    have ff : xfR es es2 := xfR_trans f1 (fun j h1 h2 => fe j h1 (by omega) (by omega) (by omega))
    simp only [ax_W_cons, ax_I, ax_cmp, ax_ii, ax_ll, ax_li, ax_st1, ax_st2, ax_kl, ax_k2, ax_fit, ax_rtok, List.getElem?_cons_zero, List.getElem?_cons_succ, List.length_cons, List.length_nil, List.set_cons_zero, List.set_cons_succ, Nat.reduceAdd, Nat.reduceDiv, Nat.reduceMod, Nat.reduceMul, Nat.reduceLT, Nat.reduceLeDiff, Int32.reduceOfInt, Int64.reduceOfInt, true_and, and_true, and_self, true_or, or_true, false_implies, true_implies, not_false_eq_true, not_true_eq_false, Value.category, Nat.reduceEqDiff, Option.toList, List.cons_append, List.nil_append, List.drop_succ_cons, List.drop_zero, ax_qq_eq, ax_t_777, ax_j_777_69, ax_n_777_69, ax_j_777_70, ax_n_777_70]
    exact hfail x es2 rfl ⟨F2, ⟨_, _, (f2 20 (by decide)).trans E9.2.2.2.1⟩, ⟨_, _, _, _, _, _, _, _, _, _, _, _, _, _, (fe 21 (by decide) (by decide) (by decide) (by decide)).trans D1, (fe 22 (by decide) (by decide) (by decide) (by decide)).trans D2, (fe 23 (by decide) (by decide) (by decide) (by decide)).trans D3, (fe 24 (by decide) (by decide) (by decide) (by decide)).trans D4, (fe 25 (by decide) (by decide) (by decide) (by decide)).trans D5, (fe 26 (by decide) (by decide) (by decide) (by decide)).trans D6, L2, L1, (fe 31 (by decide) (by decide) (by decide) (by decide)).trans D9⟩⟩ ff
theorem ck_readLaw6 (hal : ax_al n = 178) (ht : zT_ok t) (hk : zkd t a = 6) : xLc n sl t 777 (zL6 t) a := by
  intro d es dr tk Q X hpre hok hfail
  have c10 : ¬ (1 : Int32) = 0 := by decide
  have n0 : ((0 : Int32) = 0 ∨ (0 : Int32) = 1) := Or.inl rfl
  have n1 : ((1 : Int32) = 0 ∨ (1 : Int32) = 1) := Or.inr rfl
  have hL := ht.1
  have hp1 : zpre t (a + 1) := zpre_r hpre (fun b h1 h2 => by rw [show b = a by omega, hk]; decide)
  have hle := zpre_le hp1
  have k6 : nI 6 = (6 : Int32) := by decide
  unfold zL6 at hok hfail
  obtain ⟨⟨⟨nb0, nm0, w1, -⟩, -⟩, ⟨rv0, rb0, w20⟩, -⟩ := id X
  have w1 : es 1 = _ := w1
  refine ax_Mt_go (m := ax_m_6_9) (ls := [some (.ref 20), none]) rfl ax_b_777_0 (Nat.le_of_ble_eq_true rfl) rfl ?_
  simp only [ax_W_cons, ax_I, ax_cmp, ax_ii, ax_ll, ax_li, ax_st1, ax_st2, ax_kl, ax_k2, ax_fit, ax_rtok, List.getElem?_cons_zero, List.getElem?_cons_succ, List.length_cons, List.length_nil, List.set_cons_zero, List.set_cons_succ, Nat.reduceAdd, Nat.reduceDiv, Nat.reduceMod, Nat.reduceMul, Nat.reduceLT, Nat.reduceLeDiff, Int32.reduceOfInt, Int64.reduceOfInt, true_and, and_true, and_self, true_or, or_true, false_implies, true_implies, not_false_eq_true, not_true_eq_false, Value.category, Nat.reduceEqDiff, Option.toList, List.cons_append, List.nil_append, List.drop_succ_cons, List.drop_zero, ax_qq_eq, ax_t_777, w20, w1, hal]
  refine ax_inv_of (Nat.le_of_ble_eq_true rfl) (Nat.le_of_ble_eq_true rfl) (fun _ => xRd_rcv hal X.2.1 _) (fun h => absurd h (by decide)) (Nat.le_refl _) (Nat.le_refl _) (ck_takeOnce hal ht (Or.inr (Or.inr (Or.inr hk))) X ?_ ?_)
  · intro es1 hz F f
    rw [hk] at hz
    rw [if_pos hz] at hfail
    simp only [ax_W_cons, ax_I, ax_cmp, ax_ii, ax_ll, ax_li, ax_st1, ax_st2, ax_kl, ax_k2, ax_fit, ax_rtok, List.getElem?_cons_zero, List.getElem?_cons_succ, List.length_cons, List.length_nil, List.set_cons_zero, List.set_cons_succ, Nat.reduceAdd, Nat.reduceDiv, Nat.reduceMod, Nat.reduceMul, Nat.reduceLT, Nat.reduceLeDiff, Int32.reduceOfInt, Int64.reduceOfInt, true_and, and_true, and_self, true_or, or_true, false_implies, true_implies, not_false_eq_true, not_true_eq_false, Value.category, Nat.reduceEqDiff, Option.toList, List.cons_append, List.nil_append, List.drop_succ_cons, List.drop_zero, ax_qq_eq, ax_t_777, ax_j_777_17, ax_n_777_17, n0]
    exact hfail _ es1 rfl F f
  intro es1 hz X1 f1
  rw [hk] at hz X1
  rw [if_neg (by rw [hz]; decide)] at hok hfail
  obtain ⟨T1, ⟨rv, rb, u20⟩, ⟨kd, pl, hh, nms, hs, code, f5, f6, Dh, R⟩⟩ := id X1
  obtain ⟨R1, R2, R3, R4, R5, R6, R7⟩ := id R
  have R6 : f5 + dr.2.2.2.2.1.length ≤ a - 2 := R6
  have R7 : f6 + dr.2.2.2.2.2.length ≤ a - 2 := R7
  obtain ⟨D1, D2, D3, D4, D5, D6, D7, D8, D9⟩ := id Dh
  rw [hk]
  simp only [ax_W_cons, ax_I, ax_cmp, ax_ii, ax_ll, ax_li, ax_st1, ax_st2, ax_kl, ax_k2, ax_fit, ax_rtok, List.getElem?_cons_zero, List.getElem?_cons_succ, List.length_cons, List.length_nil, List.set_cons_zero, List.set_cons_succ, Nat.reduceAdd, Nat.reduceDiv, Nat.reduceMod, Nat.reduceMul, Nat.reduceLT, Nat.reduceLeDiff, Int32.reduceOfInt, Int64.reduceOfInt, true_and, and_true, and_self, true_or, or_true, false_implies, true_implies, not_false_eq_true, not_true_eq_false, Value.category, Nat.reduceEqDiff, Option.toList, List.cons_append, List.nil_append, List.drop_succ_cons, List.drop_zero, ax_qq_eq, ax_t_777, ax_j_777_17, ax_n_777_17, c10, u20, hal]
  refine ax_inv_of (Nat.le_of_ble_eq_true rfl) (Nat.le_of_ble_eq_true rfl) (fun _ => ax_rcv_ok (by omega) D1) (fun h => absurd h (by decide)) (Nat.le_refl _) (Nat.le_refl _) (ck_openLaw hal (Or.inr rfl) (by show f5 + dr.2.2.2.2.1.length ≤ 1000; omega) (by show f6 + dr.2.2.2.2.2.length ≤ 1000; omega) Dh ?_)
  have hm : max (f5 + dr.2.2.2.2.1.length) (f6 + dr.2.2.2.2.2.length) ≤ a - 2 := by omega
  have hm5 : f5 + dr.2.2.2.2.1.length ≤ max (f5 + dr.2.2.2.2.1.length) (f6 + dr.2.2.2.2.2.length) := by omega
  generalize max (f5 + dr.2.2.2.2.1.length) (f6 + dr.2.2.2.2.2.length) = m at hm hm5 ⊢
  have hlw : zlw 6 = 31 := rfl
  rw [hlw]
  have g20 : ∀ e, ax_up es1 31 e 20 = _ := fun e => (ax_up_ne es1 e (by decide)).trans u20
  simp only [ax_W_cons, ax_I, ax_cmp, ax_ii, ax_ll, ax_li, ax_st1, ax_st2, ax_kl, ax_k2, ax_fit, ax_rtok, List.getElem?_cons_zero, List.getElem?_cons_succ, List.length_cons, List.length_nil, List.set_cons_zero, List.set_cons_succ, Nat.reduceAdd, Nat.reduceDiv, Nat.reduceMod, Nat.reduceMul, Nat.reduceLT, Nat.reduceLeDiff, Int32.reduceOfInt, Int64.reduceOfInt, true_and, and_true, and_self, true_or, or_true, false_implies, true_implies, not_false_eq_true, not_true_eq_false, Value.category, Nat.reduceEqDiff, Option.toList, List.cons_append, List.nil_append, List.drop_succ_cons, List.drop_zero, ax_qq_eq, ax_t_777, ax_j_777_40, ax_n_777_40, ax_j_777_41, ax_n_777_41, g20, hal, k6, ax_up_same, ax_up_up]
  have E : ∀ es9, es9 = ax_up (ax_up es1 31 (.inr (3, [.ref 27, .ref (31 + 1), .ref (31 + 2), .int (nI m), .int (nI m)]))) 20 (.inr (6, [.ref 1, .ref 3, .ref 21, .ref 34, .ref 31, .int (kx_b true)])) → xEs es9 t (a + 1) tk 31 m m code true ∧ (∀ j, j ≠ 20 → j ≠ 31 → es9 j = es1 j) := by
    intro es9 h9
    have fe : ∀ j, j ≠ 20 → j ≠ 31 → es9 j = es1 j := fun j h1 h2 => by
      rw [h9, ax_up_ne _ _ h1, ax_up_ne _ _ h2]
    refine ⟨⟨xTk_fr T1 (fe 1 (by decide) (by decide)) (fe 2 (by decide) (by decide)), ?_, (fe 27 (by decide) (by decide)).trans D7, ?_, Or.inr rfl⟩, fe⟩
    · rw [h9, ax_up_ne _ _ (by decide)]
      exact ax_up_same ..
    · rw [h9]
      exact ax_up_same ..
  obtain ⟨E9, f9⟩ := E _ rfl
  refine ax_inv_of (Nat.le_of_ble_eq_true rfl) (Nat.le_of_ble_eq_true rfl) (fun _ => xEs_rcv hal E9 _) (fun h => absurd h (by decide)) (Nat.le_refl _) (Nat.le_refl _) (xCt_all hal ht (by decide) (zP_go t true 5) (xCt_part hal ht 5 (by decide)) 4 (by decide) _ _ (a + 1) m code _ (by omega) E9 hp1 (by omega) ?_ ?_)
  · intro r es2 hr E2 f2
    rw [hr] at hok hfail
    dsimp only at hok hfail
    obtain ⟨q1, q2, q3⟩ := (zLv_go (zP_go t true 5) 4 (a + 1)).1 _ hr
    have q4 := zpre_le (zpre_r hp1 q3)
    obtain ⟨T2, L1, L2, L3, -⟩ := id E2
    have fe : ∀ j, j ≠ 1 → j ≠ 20 → j ≠ 27 → j ≠ 31 → es2 j = es1 j := fun j h1 h2 h3 h4 => (f2 j ⟨h1, h4, h3⟩).trans (f9 j h2 h4)
    have X2 : xLn es2 t r.1 (dr.1, dr.2.1, dr.2.2.1, zos dr.2.2.2.1 6, dr.2.2.2.2.1, r.2) (r.1 - 1) tk := by
      refine ⟨T2, ⟨_, _, L3⟩, kd, pl, hh, nms, hs, zapp code m r.2, f5, m, ⟨(fe 21 (by decide) (by decide) (by decide) (by decide)).trans D1, (fe 22 (by decide) (by decide) (by decide) (by decide)).trans D2, (fe 23 (by decide) (by decide) (by decide) (by decide)).trans D3, (fe 24 (by decide) (by decide) (by decide) (by decide)).trans D4, (fe 25 (by decide) (by decide) (by decide) (by decide)).trans D5, (fe 26 (by decide) (by decide) (by decide) (by decide)).trans D6, L2, (fe 28 (by decide) (by decide) (by decide) (by decide)).trans D8, L1⟩, R1, R2, R3, ?_, ?_, ?_, ?_⟩
      · intro i hi
        have hi : i < dr.2.2.2.2.1.length := hi
        show zapp code m r.2 (f5 + i) = dr.2.2.2.2.1.getD i 0
        unfold zapp
        rw [if_neg (by omega)]
        exact R4 i hi
      · intro i hi
        have hi : i < r.2.length := hi
        show zapp code m r.2 (m + i) = r.2.getD i 0
        unfold zapp
        rw [if_pos (by omega), Nat.add_sub_cancel_left]
      · show f5 + dr.2.2.2.2.1.length ≤ r.1 - 1
        omega
      · show m + r.2.length ≤ r.1 - 1
        omega
    have ff : xfR es es2 := xfR_trans f1 (fun j h1 h2 => fe j h1 (by omega) (by omega) (by omega))
    simp only [ax_W_cons, ax_I, ax_cmp, ax_ii, ax_ll, ax_li, ax_st1, ax_st2, ax_kl, ax_k2, ax_fit, ax_rtok, List.getElem?_cons_zero, List.getElem?_cons_succ, List.length_cons, List.length_nil, List.set_cons_zero, List.set_cons_succ, Nat.reduceAdd, Nat.reduceDiv, Nat.reduceMod, Nat.reduceMul, Nat.reduceLT, Nat.reduceLeDiff, Int32.reduceOfInt, Int64.reduceOfInt, true_and, and_true, and_self, true_or, or_true, false_implies, true_implies, not_false_eq_true, not_true_eq_false, Value.category, Nat.reduceEqDiff, Option.toList, List.cons_append, List.nil_append, List.drop_succ_cons, List.drop_zero, ax_qq_eq, ax_t_777, c10, L3, hal]
    refine ax_inv_of (Nat.le_of_ble_eq_true rfl) (Nat.le_of_ble_eq_true rfl) (fun _ => xTk_rcv hal T2 _) (fun h => absurd h (by decide)) (Nat.le_refl _) (Nat.le_refl _) (ck_take (k := 59) hal ht (by decide) T2 ?_ ?_)
    · intro es3 h59 T3 f3
      rw [zSgn, if_pos h59] at hok
      have Y := xLn_1 X2 T3 f3
      simp only [ax_W_cons, ax_I, ax_cmp, ax_ii, ax_ll, ax_li, ax_st1, ax_st2, ax_kl, ax_k2, ax_fit, ax_rtok, List.getElem?_cons_zero, List.getElem?_cons_succ, List.length_cons, List.length_nil, List.set_cons_zero, List.set_cons_succ, Nat.reduceAdd, Nat.reduceDiv, Nat.reduceMod, Nat.reduceMul, Nat.reduceLT, Nat.reduceLeDiff, Int32.reduceOfInt, Int64.reduceOfInt, true_and, and_true, and_self, true_or, or_true, false_implies, true_implies, not_false_eq_true, not_true_eq_false, Value.category, Nat.reduceEqDiff, Option.toList, List.cons_append, List.nil_append, List.drop_succ_cons, List.drop_zero, ax_qq_eq, ax_t_777, ax_j_777_69, ax_n_777_69, ax_j_777_70, ax_n_777_70, c10]
      exact hok _ es3 _ rfl ⟨Y.1, Y.2.1, xDr_lim Y.2.2 (by show r.1 - 1 ≤ r.1 + 1 - 2; omega)⟩ (xfR_trans ff (xfR_1 f3))
    · intro es3 h59 T3 f3
      rw [zSgn, if_neg h59] at hfail
      simp only [ax_W_cons, ax_I, ax_cmp, ax_ii, ax_ll, ax_li, ax_st1, ax_st2, ax_kl, ax_k2, ax_fit, ax_rtok, List.getElem?_cons_zero, List.getElem?_cons_succ, List.length_cons, List.length_nil, List.set_cons_zero, List.set_cons_succ, Nat.reduceAdd, Nat.reduceDiv, Nat.reduceMod, Nat.reduceMul, Nat.reduceLT, Nat.reduceLeDiff, Int32.reduceOfInt, Int64.reduceOfInt, true_and, and_true, and_self, true_or, or_true, false_implies, true_implies, not_false_eq_true, not_true_eq_false, Value.category, Nat.reduceEqDiff, Option.toList, List.cons_append, List.nil_append, List.drop_succ_cons, List.drop_zero, ax_qq_eq, ax_t_777, ax_j_777_69, ax_n_777_69, ax_j_777_70, ax_n_777_70]
      exact hfail _ es3 rfl (xLf_1 (x := (1, r.1)) X2 T3 f3) (xfR_trans ff (xfR_1 f3))
  · intro x es2 hx F2 f2
    rw [hx] at hfail
    obtain ⟨F2, fr2, en2, co2, L1, L2⟩ := F2
    have fe : ∀ j, j ≠ 1 → j ≠ 20 → j ≠ 27 → j ≠ 31 → es2 j = es1 j := fun j h1 h2 h3 h4 => (f2 j ⟨h1, h4, h3⟩).trans (f9 j h2 h4)
    have ff : xfR es es2 := xfR_trans f1 (fun j h1 h2 => fe j h1 (by omega) (by omega) (by omega))
    simp only [ax_W_cons, ax_I, ax_cmp, ax_ii, ax_ll, ax_li, ax_st1, ax_st2, ax_kl, ax_k2, ax_fit, ax_rtok, List.getElem?_cons_zero, List.getElem?_cons_succ, List.length_cons, List.length_nil, List.set_cons_zero, List.set_cons_succ, Nat.reduceAdd, Nat.reduceDiv, Nat.reduceMod, Nat.reduceMul, Nat.reduceLT, Nat.reduceLeDiff, Int32.reduceOfInt, Int64.reduceOfInt, true_and, and_true, and_self, true_or, or_true, false_implies, true_implies, not_false_eq_true, not_true_eq_false, Value.category, Nat.reduceEqDiff, Option.toList, List.cons_append, List.nil_append, List.drop_succ_cons, List.drop_zero, ax_qq_eq, ax_t_777, ax_j_777_69, ax_n_777_69, ax_j_777_70, ax_n_777_70]
    exact hfail x es2 rfl ⟨F2, ⟨_, _, (f2 20 (by decide)).trans E9.2.2.2.1⟩, ⟨_, _, _, _, _, _, _, _, _, _, _, _, _, _, (fe 21 (by decide) (by decide) (by decide) (by decide)).trans D1, (fe 22 (by decide) (by decide) (by decide) (by decide)).trans D2, (fe 23 (by decide) (by decide) (by decide) (by decide)).trans D3, (fe 24 (by decide) (by decide) (by decide) (by decide)).trans D4, (fe 25 (by decide) (by decide) (by decide) (by decide)).trans D5, (fe 26 (by decide) (by decide) (by decide) (by decide)).trans D6, L2, (fe 28 (by decide) (by decide) (by decide) (by decide)).trans D8, L1⟩⟩ ff
end TT
