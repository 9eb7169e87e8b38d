/-! the class: the line of heats -/
theorem zDr_heat {dr : zDf} {kd pl ht : Nat → Int32} {nm : Nat → Int64} {hs code : Nat → Int32} {f5 f6 lim : Nat} {h : List Nat} (R : zDr (dr.1, dr.2.1, h, dr.2.2.2) kd pl ht nm hs code f5 f6 lim) (hl : h.length < 12) (x : Nat) : zDr (dr.1, dr.2.1, h ++ [x], dr.2.2.2) kd pl ht nm (upd hs h.length (nI x)) code f5 f6 lim := by
  obtain ⟨⟨h1, h2⟩, h3, h4, h5⟩ := R
  refine ⟨⟨h1, ?_⟩, h3, fun i hi => ?_, h5⟩
  · show (h ++ [x]).length ≤ 12
    rw [List.length_append, List.length_singleton]
    omega
  · have hi : i < (h ++ [x]).length := hi
    rw [List.length_append, List.length_singleton] at hi
    show _ = nI ((h ++ [x]).getD i 0)
    by_cases e : i = h.length
    · subst e
      rw [zgetD_r, upd_same]
    · rw [zgetD_l _ _ _ (by omega), upd_ne _ _ e]
      exact h4 i (by show i < h.length; omega)
section TT
variable {n sl : Nat} {t : zTp} {a : Nat}
theorem ck_readHeat (hal : ax_al n = 178) (ht : zT_ok t) (hk : zkd t a = 4) : xLc n sl t 776 (zL4 t) a := by
  intro d es dr tk Q X hpre hok hfail
  have c10 : ¬ (1 : Int32) = 0 := by decide
  have n0 : ((0 : Int32) = 0 ∨ (0 : Int32) = 1) := Or.inl rfl
  have n1 : ((1 : Int32) = 0 ∨ (1 : Int32) = 1) := Or.inr rfl
  unfold zL4 at hok hfail
  refine ax_Mt_go (m := ax_m_6_8) (ls := [some (.ref 20), none]) rfl ax_b_776_0 (Nat.le_of_ble_eq_true rfl) rfl ?_
  simp only [ax_W_cons, ax_I, ax_cmp, ax_ii, ax_ll, ax_li, ax_st1, ax_st2, ax_kl, ax_k2, ax_fit, ax_rtok, List.getElem?_cons_zero, List.getElem?_cons_succ, List.length_cons, List.length_nil, List.set_cons_zero, List.set_cons_succ, Nat.reduceAdd, Nat.reduceDiv, Nat.reduceMod, Nat.reduceMul, Nat.reduceLT, Nat.reduceLeDiff, Int32.reduceOfInt, Int64.reduceOfInt, true_and, and_true, and_self, true_or, or_true, false_implies, true_implies, not_false_eq_true, not_true_eq_false, Value.category, Nat.reduceEqDiff, Option.toList, List.cons_append, List.nil_append, List.drop_succ_cons, List.drop_zero, ax_qq_eq, ax_t_776, hal]
  refine ax_inv_of (Nat.le_of_ble_eq_true rfl) (Nat.le_of_ble_eq_true rfl) (fun _ => xRd_rcv hal X.2.1 _) (fun h => absurd h (by decide)) (Nat.le_refl _) (Nat.le_refl _) (ck_takeOnce hal ht (Or.inr (Or.inl hk)) X ?_ ?_)
  · intro es1 hz F f
    rw [hk] at hz
    rw [if_pos hz] at hfail
    simp only [ax_W_cons, ax_I, ax_cmp, ax_ii, ax_ll, ax_li, ax_st1, ax_st2, ax_kl, ax_k2, ax_fit, ax_rtok, List.getElem?_cons_zero, List.getElem?_cons_succ, List.length_cons, List.length_nil, List.set_cons_zero, List.set_cons_succ, Nat.reduceAdd, Nat.reduceDiv, Nat.reduceMod, Nat.reduceMul, Nat.reduceLT, Nat.reduceLeDiff, Int32.reduceOfInt, Int64.reduceOfInt, true_and, and_true, and_self, true_or, or_true, false_implies, true_implies, not_false_eq_true, not_true_eq_false, Value.category, Nat.reduceEqDiff, Option.toList, List.cons_append, List.nil_append, List.drop_succ_cons, List.drop_zero, ax_qq_eq, ax_t_776, ax_j_776_9, ax_n_776_9, n0]
    exact hfail _ es1 rfl F f
  intro es1 hz X1 f1
  rw [hk] at hz X1
  rw [if_neg (by rw [hz]; decide)] at hok hfail
  generalize hD : (dr.1, dr.2.1, dr.2.2.1, zos dr.2.2.2.1 4, dr.2.2.2.2) = D at X1 hok hfail
  have fin : ∀ es' a' h tk' i, (if zkd t a' = 25 then .inl (if znb t a' ≤ 5 then 5 else 4, a') else zSgn t a' 59 (.inr (a' + 1, (D.1, D.2.1, h, D.2.2.2)))) = zHl t D 12 (a + 1) [] → a + 1 ≤ a' → xLn es' t a' (D.1, D.2.1, h, D.2.2.2) (a - 2) tk' → xfR es es' → ax_J ax_W (d + 70) n sl 776 90 [some (.ref 20), some (.int (nI i))] [] n sl es' (ax_qq n sl Q) := by
    intro es' a' h tk' i hz ha Y f
    obtain ⟨⟨⟨nb, nm, w1, v1, v2⟩, hS⟩, ⟨rv, rb, w20⟩, -⟩ := id Y
    have w1 : es' 1 = _ := w1
    have e1 : (nI (zkd t a') = 25) = (zkd t a' = 25) := zk_eq (x := 25) (zkd_lt t a') (by omega)
    rw [← hz] at hok hfail
    by_cases h25 : zkd t a' = 25
    · rw [if_pos h25] at hfail
      have e1 : nI (zkd t a') = 25 := by rw [e1]; exact h25
      have hnb := v1 h25
      have hlt := znb_lt h25
      have e2 : kx_in (nI (znb t a')) 0 5 = decide (0 ≤ znb t a' ∧ znb t a' ≤ 5) := kx_in_n (a := 0) (b := 5) (by omega) (by decide) (by decide)
      simp only [ax_W_cons, ax_I, ax_cmp, ax_ii, ax_ll, ax_li, ax_st1, ax_st2, ax_kl, ax_k2, ax_fit, ax_rtok, List.getElem?_cons_zero, List.getElem?_cons_succ, List.length_cons, List.length_nil, List.set_cons_zero, List.set_cons_succ, Nat.reduceAdd, Nat.reduceDiv, Nat.reduceMod, Nat.reduceMul, Nat.reduceLT, Nat.reduceLeDiff, Int32.reduceOfInt, Int64.reduceOfInt, true_and, and_true, and_self, true_or, or_true, false_implies, true_implies, not_false_eq_true, not_true_eq_false, Value.category, Nat.reduceEqDiff, Option.toList, List.cons_append, List.nil_append, List.drop_succ_cons, List.drop_zero, ax_qq_eq, ax_t_776, ax_j_776_90, ax_n_776_90, ax_j_776_130, ax_n_776_130, w20, w1, hal, e1, hnb]
      refine ax_inv_of (Nat.le_of_ble_eq_true rfl) (Nat.le_of_ble_eq_true rfl) (fun _ => absurd ‹_› (by decide)) (fun h => absurd h (by decide)) (Nat.le_refl _) (Nat.le_refl _) (xk_within _ _ _ ?_)
      rw [e2]
      by_cases h5 : znb t a' ≤ 5
      · rw [decide_eq_true (⟨Nat.zero_le _, h5⟩ : 0 ≤ znb t a' ∧ znb t a' ≤ 5)]
        rw [if_pos h5] at hfail
        simp only [ax_W_cons, ax_I, ax_cmp, ax_ii, ax_ll, ax_li, ax_st1, ax_st2, ax_kl, ax_k2, ax_fit, ax_rtok, List.getElem?_cons_zero, List.getElem?_cons_succ, List.length_cons, List.length_nil, List.set_cons_zero, List.set_cons_succ, Nat.reduceAdd, Nat.reduceDiv, Nat.reduceMod, Nat.reduceMul, Nat.reduceLT, Nat.reduceLeDiff, Int32.reduceOfInt, Int64.reduceOfInt, true_and, and_true, and_self, true_or, or_true, false_implies, true_implies, not_false_eq_true, not_true_eq_false, Value.category, Nat.reduceEqDiff, Option.toList, List.cons_append, List.nil_append, List.drop_succ_cons, List.drop_zero, ax_qq_eq, ax_t_776, ax_j_776_125, ax_n_776_125, ax_j_776_126, ax_n_776_126, kx_bt, c10]
        refine ax_inv_of (Nat.le_of_ble_eq_true rfl) (Nat.le_of_ble_eq_true rfl) (fun _ => xTk_rcv hal Y.1 _) (fun h => absurd h (by decide)) (Nat.le_refl _) (Nat.le_refl _) (ck_fail (k := 5) hal Y.1 ?_)
        intro es2 T2 f2
        simp only [ax_W_cons, ax_I, ax_cmp, ax_ii, ax_ll, ax_li, ax_st1, ax_st2, ax_kl, ax_k2, ax_fit, ax_rtok, List.getElem?_cons_zero, List.getElem?_cons_succ, List.length_cons, List.length_nil, List.set_cons_zero, List.set_cons_succ, Nat.reduceAdd, Nat.reduceDiv, Nat.reduceMod, Nat.reduceMul, Nat.reduceLT, Nat.reduceLeDiff, Int32.reduceOfInt, Int64.reduceOfInt, true_and, and_true, and_self, true_or, or_true, false_implies, true_implies, not_false_eq_true, not_true_eq_false, Value.category, Nat.reduceEqDiff, Option.toList, List.cons_append, List.nil_append, List.drop_succ_cons, List.drop_zero, ax_qq_eq, ax_t_776, n0]
        exact hfail _ es2 rfl (xLf_1 (x := (5, a')) Y T2 f2) (xfR_trans f (xfR_1 f2))
      · rw [decide_eq_false (fun z : 0 ≤ znb t a' ∧ znb t a' ≤ 5 => h5 z.2)]
        rw [if_neg h5] at hfail
        simp only [ax_W_cons, ax_I, ax_cmp, ax_ii, ax_ll, ax_li, ax_st1, ax_st2, ax_kl, ax_k2, ax_fit, ax_rtok, List.getElem?_cons_zero, List.getElem?_cons_succ, List.length_cons, List.length_nil, List.set_cons_zero, List.set_cons_succ, Nat.reduceAdd, Nat.reduceDiv, Nat.reduceMod, Nat.reduceMul, Nat.reduceLT, Nat.reduceLeDiff, Int32.reduceOfInt, Int64.reduceOfInt, true_and, and_true, and_self, true_or, or_true, false_implies, true_implies, not_false_eq_true, not_true_eq_false, Value.category, Nat.reduceEqDiff, Option.toList, List.cons_append, List.nil_append, List.drop_succ_cons, List.drop_zero, ax_qq_eq, ax_t_776, ax_j_776_125, ax_n_776_125, ax_j_776_126, ax_n_776_126, kx_bf]
        refine ax_inv_of (Nat.le_of_ble_eq_true rfl) (Nat.le_of_ble_eq_true rfl) (fun _ => xTk_rcv hal Y.1 _) (fun h => absurd h (by decide)) (Nat.le_refl _) (Nat.le_refl _) (ck_fail (k := 4) hal Y.1 ?_)
        intro es2 T2 f2
        simp only [ax_W_cons, ax_I, ax_cmp, ax_ii, ax_ll, ax_li, ax_st1, ax_st2, ax_kl, ax_k2, ax_fit, ax_rtok, List.getElem?_cons_zero, List.getElem?_cons_succ, List.length_cons, List.length_nil, List.set_cons_zero, List.set_cons_succ, Nat.reduceAdd, Nat.reduceDiv, Nat.reduceMod, Nat.reduceMul, Nat.reduceLT, Nat.reduceLeDiff, Int32.reduceOfInt, Int64.reduceOfInt, true_and, and_true, and_self, true_or, or_true, false_implies, true_implies, not_false_eq_true, not_true_eq_false, Value.category, Nat.reduceEqDiff, Option.toList, List.cons_append, List.nil_append, List.drop_succ_cons, List.drop_zero, ax_qq_eq, ax_t_776, n0]
        exact hfail _ es2 rfl (xLf_1 (x := (4, a')) Y T2 f2) (xfR_trans f (xfR_1 f2))
    · rw [if_neg h25] at hok hfail
      have e1 : ¬ nI (zkd t a') = 25 := by rw [e1]; exact h25
      simp only [ax_W_cons, ax_I, ax_cmp, ax_ii, ax_ll, ax_li, ax_st1, ax_st2, ax_kl, ax_k2, ax_fit, ax_rtok, List.getElem?_cons_zero, List.getElem?_cons_succ, List.length_cons, List.length_nil, List.set_cons_zero, List.set_cons_succ, Nat.reduceAdd, Nat.reduceDiv, Nat.reduceMod, Nat.reduceMul, Nat.reduceLT, Nat.reduceLeDiff, Int32.reduceOfInt, Int64.reduceOfInt, true_and, and_true, and_self, true_or, or_true, false_implies, true_implies, not_false_eq_true, not_true_eq_false, Value.category, Nat.reduceEqDiff, Option.toList, List.cons_append, List.nil_append, List.drop_succ_cons, List.drop_zero, ax_qq_eq, ax_t_776, ax_j_776_90, ax_n_776_90, ax_j_776_130, ax_n_776_130, w20, w1, hal, e1]
      refine ax_inv_of (Nat.le_of_ble_eq_true rfl) (Nat.le_of_ble_eq_true rfl) (fun _ => xTk_rcv hal Y.1 _) (fun h => absurd h (by decide)) (Nat.le_refl _) (Nat.le_refl _) (ck_take (k := 59) hal ht (by decide) Y.1 ?_ ?_)
      · intro es2 h59 T2 f2
        rw [zSgn, if_pos h59] at hok
        have Y2 := xLn_1 Y T2 f2
        simp only [ax_W_cons, ax_I, ax_cmp, ax_ii, ax_ll, ax_li, ax_st1, ax_st2, ax_kl, ax_k2, ax_fit, ax_rtok, List.getElem?_cons_zero, List.getElem?_cons_succ, List.length_cons, List.length_nil, List.set_cons_zero, List.set_cons_succ, Nat.reduceAdd, Nat.reduceDiv, Nat.reduceMod, Nat.reduceMul, Nat.reduceLT, Nat.reduceLeDiff, Int32.reduceOfInt, Int64.reduceOfInt, true_and, and_true, and_self, true_or, or_true, false_implies, true_implies, not_false_eq_true, not_true_eq_false, Value.category, Nat.reduceEqDiff, Option.toList, List.cons_append, List.nil_append, List.drop_succ_cons, List.drop_zero, ax_qq_eq, ax_t_776, n1]
        exact hok _ es2 _ rfl ⟨Y2.1, Y2.2.1, xDr_lim Y2.2.2 (by show a - 2 ≤ a' + 1 - 2; omega)⟩ (xfR_trans f (xfR_1 f2))
      · intro es2 h59 T2 f2
        rw [zSgn, if_neg h59] at hfail
        simp only [ax_W_cons, ax_I, ax_cmp, ax_ii, ax_ll, ax_li, ax_st1, ax_st2, ax_kl, ax_k2, ax_fit, ax_rtok, List.getElem?_cons_zero, List.getElem?_cons_succ, List.length_cons, List.length_nil, List.set_cons_zero, List.set_cons_succ, Nat.reduceAdd, Nat.reduceDiv, Nat.reduceMod, Nat.reduceMul, Nat.reduceLT, Nat.reduceLeDiff, Int32.reduceOfInt, Int64.reduceOfInt, true_and, and_true, and_self, true_or, or_true, false_implies, true_implies, not_false_eq_true, not_true_eq_false, Value.category, Nat.reduceEqDiff, Option.toList, List.cons_append, List.nil_append, List.drop_succ_cons, List.drop_zero, ax_qq_eq, ax_t_776, n0]
        exact hfail _ es2 rfl (xLf_1 (x := (1, a')) Y T2 f2) (xfR_trans f (xfR_1 f2))
  have LL := kx_down (k := 12) (I := fun f i => ∀ es' h a' tk', h.length = i → zHl t D f a' h = zHl t D 12 (a + 1) [] → a + 1 ≤ a' → xLn es' t a' (D.1, D.2.1, h, D.2.2.2) (a - 2) tk' → xfR es es' → ax_W (d + 70) n sl 776 [(1, .iload 1), (2, .iconst 12), (3, .if_icmp .ge 90), (1, .iload 1), (3, .ifCond .eq 41), (1, .aload 0), (3, .getfield 1538), (3, .getfield 2312), (2, .iconst 25), (3, .if_icmp .ne 90)] 19 [some (.ref 20), some (.int (nI i))] [] n sl es' (ax_qq n sl Q)) ?_ ?_ 12 0 (by omega)
  · obtain ⟨-, ⟨rv, rb, w20⟩, ⟨kd, pl, hh, nms, hs, code, f5, f6, Dh, R⟩⟩ := id X1
    obtain ⟨D1, D2, D3, D4, D5, D6, D7, D8, D9⟩ := Dh
    simp only [ax_W_cons, ax_I, ax_cmp, ax_ii, ax_ll, ax_li, ax_st1, ax_st2, ax_kl, ax_k2, ax_fit, ax_rtok, List.getElem?_cons_zero, List.getElem?_cons_succ, List.length_cons, List.length_nil, List.set_cons_zero, List.set_cons_succ, Nat.reduceAdd, Nat.reduceDiv, Nat.reduceMod, Nat.reduceMul, Nat.reduceLT, Nat.reduceLeDiff, Int32.reduceOfInt, Int64.reduceOfInt, true_and, and_true, and_self, true_or, or_true, false_implies, true_implies, not_false_eq_true, not_true_eq_false, Value.category, Nat.reduceEqDiff, Option.toList, List.cons_append, List.nil_append, List.drop_succ_cons, List.drop_zero, ax_qq_eq, ax_t_776, ax_j_776_9, ax_n_776_9, c10, w20, D1, hal]
    rw [ax_n_776_19]
    have fe : ∀ e j, j ≠ 21 → ax_up es1 21 e j = es1 j := fun e j h2 => ax_up_ne _ _ h2
    refine LL _ [] (a + 1) tk rfl rfl (Nat.le_refl _) ⟨xTk_fr X1.1 (fe _ 1 (by decide)) (fe _ 2 (by decide)), ⟨rv, rb, (fe _ 20 (by decide)).trans w20⟩, kd, pl, hh, nms, hs, code, f5, f6, ⟨ax_up_same .., (fe _ 22 (by decide)).trans D2, (fe _ 23 (by decide)).trans D3, (fe _ 24 (by decide)).trans D4, (fe _ 25 (by decide)).trans D5, (fe _ 26 (by decide)).trans D6, (fe _ 27 (by decide)).trans D7, (fe _ 28 (by decide)).trans D8, (fe _ 31 (by decide)).trans D9⟩, ⟨R.1.1, Nat.zero_le _⟩, R.2.1, fun i hi => absurd hi (Nat.not_lt_zero i), R.2.2.2⟩ (xfR_trans f1 (fun j h1 h2 => fe _ j (by omega)))
  · intro es' h a' tk' hl hz ha Y f
    rw [zHl] at hz
    have e0 : (12 : Int32) ≤ nI 12 := by decide
    have F := fin es' a' h tk' 12 hz ha Y f
    simp only [ax_W_cons, ax_I, ax_cmp, ax_ii, ax_ll, ax_li, ax_st1, ax_st2, ax_kl, ax_k2, ax_fit, ax_rtok, List.getElem?_cons_zero, List.getElem?_cons_succ, List.length_cons, List.length_nil, List.set_cons_zero, List.set_cons_succ, Nat.reduceAdd, Nat.reduceDiv, Nat.reduceMod, Nat.reduceMul, Nat.reduceLT, Nat.reduceLeDiff, Int32.reduceOfInt, Int64.reduceOfInt, true_and, and_true, and_self, true_or, or_true, false_implies, true_implies, not_false_eq_true, not_true_eq_false, Value.category, Nat.reduceEqDiff, Option.toList, List.cons_append, List.nil_append, List.drop_succ_cons, List.drop_zero, ax_qq_eq, ax_t_776, e0]
    exact F
  · intro f i hi ih es' h a' tk' hl hz ha Y fr
    have e0 : ¬ (12 : Int32) ≤ nI i := nI_ge (b := 12) (by omega) (by decide)
    have i4 : nI i + 1 = nI (i + 1) := (nI_succ i).symm
    have i1 : vp_in (nI i) 12 := nI_in (by omega) (by decide)
    have i2 : (nI i).toNatClampNeg = i := nI_clamp (by omega)
    obtain ⟨⟨⟨nb, nm, w1, v1, v2⟩, hS⟩, ⟨rv, rb, w20⟩, -⟩ := id Y
    have w1 : es' 1 = _ := w1
    have e1 : (nI (zkd t a') = 25) = (zkd t a' = 25) := zk_eq (x := 25) (zkd_lt t a') (by omega)
    rw [zHl] at hz
    have body : (h = [] ∨ zkd t a' = 25) → ax_W (d + 70) n sl 776 [(1, .aload 0), (3, .getfield 1538), (1, .iconst 0), (1, .iconst 5), (3, .invokeinterface 1158 13), (3, .ifCond .ne 55), (1, .iconst 0), (1, .ireturn)] 41 [some (.ref 20), some (.int (nI i))] [] n sl es' (ax_qq n sl Q) := by
      intro hc
      rw [if_pos hc] at hz
      simp only [ax_W_cons, ax_I, ax_cmp, ax_ii, ax_ll, ax_li, ax_st1, ax_st2, ax_kl, ax_k2, ax_fit, ax_rtok, List.getElem?_cons_zero, List.getElem?_cons_succ, List.length_cons, List.length_nil, List.set_cons_zero, List.set_cons_succ, Nat.reduceAdd, Nat.reduceDiv, Nat.reduceMod, Nat.reduceMul, Nat.reduceLT, Nat.reduceLeDiff, Int32.reduceOfInt, Int64.reduceOfInt, true_and, and_true, and_self, true_or, or_true, false_implies, true_implies, not_false_eq_true, not_true_eq_false, Value.category, Nat.reduceEqDiff, Option.toList, List.cons_append, List.nil_append, List.drop_succ_cons, List.drop_zero, ax_qq_eq, ax_t_776, w20, hal]
      refine ax_inv_of (Nat.le_of_ble_eq_true rfl) (Nat.le_of_ble_eq_true rfl) (fun _ => xTk_rcv hal Y.1 _) (fun h => absurd h (by decide)) (Nat.le_refl _) (Nat.le_refl _) (ck_takeNumber (lo := 0) (hi := 5) hal ht (by decide) (by decide) Y.1 ?_ ?_)
      rotate_left
      · intro es2 k hN F2 f2
        rw [hN] at hz
        simp only [ax_W_cons, ax_I, ax_cmp, ax_ii, ax_ll, ax_li, ax_st1, ax_st2, ax_kl, ax_k2, ax_fit, ax_rtok, List.getElem?_cons_zero, List.getElem?_cons_succ, List.length_cons, List.length_nil, List.set_cons_zero, List.set_cons_succ, Nat.reduceAdd, Nat.reduceDiv, Nat.reduceMod, Nat.reduceMul, Nat.reduceLT, Nat.reduceLeDiff, Int32.reduceOfInt, Int64.reduceOfInt, true_and, and_true, and_self, true_or, or_true, false_implies, true_implies, not_false_eq_true, not_true_eq_false, Value.category, Nat.reduceEqDiff, Option.toList, List.cons_append, List.nil_append, List.drop_succ_cons, List.drop_zero, ax_qq_eq, ax_t_776, ax_j_776_55, ax_n_776_55, n0]
        exact hfail _ es2 hz.symm (xLf_1 (x := (k, a')) Y F2 f2) (xfR_trans fr (xfR_1 f2))
      intro es2 h25 hN T2 f2
      have X2 := xLn_1 Y T2 f2
      rw [zNum, if_pos h25, if_pos hN] at hz
      obtain ⟨⟨⟨nb2, nm2, u1, -⟩, -⟩, ⟨rv2, rb2, u20⟩, ⟨kd, pl, hh, nms, hs, code, f5, f6, Dh, R⟩⟩ := id X2
      have u1 : es2 1 = _ := u1
      obtain ⟨D1, D2, D3, D4, D5, D6, D7, D8, D9⟩ := Dh
      have e9 : nI h.length + 1 = nI (h ++ [znb t a']).length := by
        rw [List.length_append, List.length_singleton, ← nI_succ]
      have k20 : ∀ e, ax_up es2 26 e 20 = _ := fun e => (ax_up_ne es2 e (by decide)).trans u20
      have k21 : ∀ e, ax_up es2 26 e 21 = _ := fun e => (ax_up_ne es2 e (by decide)).trans D1
      simp only [ax_W_cons, ax_I, ax_cmp, ax_ii, ax_ll, ax_li, ax_st1, ax_st2, ax_kl, ax_k2, ax_fit, ax_rtok, List.getElem?_cons_zero, List.getElem?_cons_succ, List.length_cons, List.length_nil, List.set_cons_zero, List.set_cons_succ, Nat.reduceAdd, Nat.reduceDiv, Nat.reduceMod, Nat.reduceMul, Nat.reduceLT, Nat.reduceLeDiff, Int32.reduceOfInt, Int64.reduceOfInt, true_and, and_true, and_self, true_or, or_true, false_implies, true_implies, not_false_eq_true, not_true_eq_false, Value.category, Nat.reduceEqDiff, Option.toList, List.cons_append, List.nil_append, List.drop_succ_cons, List.drop_zero, ax_qq_eq, ax_t_776, ax_j_776_55, ax_n_776_55, c10, u20, u1, D1, D6, hal, i1, i2, k20, k21, e9, i4]
      rw [ax_j_776_19]
      have Z : ∀ es9, es9 = ax_up (ax_up es2 26 (.inl (0, 12, .inl (upd hs i (nI (znb t a')))))) 21 (.inr (1, [.int (nI D.1), .int (nI D.2.1.length), .ref 22, .ref 23, .ref 24, .ref 25, .ref 26, .int (nI (h ++ [znb t a']).length), .ref 27, .ref 28, .ref 31, .int (zoI D.2.2.2.1)])) → xLn es9 t (a' + 1) (D.1, D.2.1, h ++ [znb t a'], D.2.2.2) (a - 2) (nI (znb t a')) ∧ xfR es2 es9 := by
        intro es9 h9
        have fe : ∀ j, j ≠ 26 → j ≠ 21 → es9 j = es2 j := fun j h1 h2 => by
          rw [h9, ax_up_ne _ _ h2, ax_up_ne _ _ h1]
        have R2 := zDr_heat (dr := D) R (by omega) (znb t a')
        rw [hl] at R2
        refine ⟨⟨xTk_fr T2 (fe 1 (by decide) (by decide)) (fe 2 (by decide) (by decide)), ⟨rv2, rb2, (fe 20 (by decide) (by decide)).trans u20⟩, _, _, _, _, _, _, f5, f6, ⟨?_, (fe 22 (by decide) (by decide)).trans D2, (fe 23 (by decide) (by decide)).trans D3, (fe 24 (by decide) (by decide)).trans D4, (fe 25 (by decide) (by decide)).trans D5, ?_, (fe 27 (by decide) (by decide)).trans D7, (fe 28 (by decide) (by decide)).trans D8, (fe 31 (by decide) (by decide)).trans D9⟩, R2⟩, fun j h1 h2 => fe j (by omega) (by omega)⟩
        · rw [h9]
          exact ax_up_same ..
        · rw [h9, ax_up_ne _ _ (by decide)]
          exact ax_up_same ..
      obtain ⟨Z1, Z2⟩ := Z _ rfl
      refine ih _ (h ++ [znb t a']) (a' + 1) _ ?_ hz (by omega) Z1 (xfR_trans fr (xfR_trans (xfR_1 f2) Z2))
      rw [List.length_append, List.length_singleton]
      omega
    by_cases h0 : h = []
    · have hi0 : nI i = 0 := by
        rw [← hl, h0]
        rfl
      have B := body (Or.inl h0)
      rw [← ax_j_776_41] at B
      rw [hi0] at B e0 ⊢
      simp only [ax_W_cons, ax_I, ax_cmp, ax_ii, ax_ll, ax_li, ax_st1, ax_st2, ax_kl, ax_k2, ax_fit, ax_rtok, List.getElem?_cons_zero, List.getElem?_cons_succ, List.length_cons, List.length_nil, List.set_cons_zero, List.set_cons_succ, Nat.reduceAdd, Nat.reduceDiv, Nat.reduceMod, Nat.reduceMul, Nat.reduceLT, Nat.reduceLeDiff, Int32.reduceOfInt, Int64.reduceOfInt, true_and, and_true, and_self, true_or, or_true, false_implies, true_implies, not_false_eq_true, not_true_eq_false, Value.category, Nat.reduceEqDiff, Option.toList, List.cons_append, List.nil_append, List.drop_succ_cons, List.drop_zero, ax_qq_eq, ax_t_776, e0]
      exact B
    · have hi0 : ¬ nI i = 0 := nI_ne0 (by
        have := List.length_pos_iff.mpr h0
        omega) (by omega)
      by_cases h25 : zkd t a' = 25
      · have e1 : nI (zkd t a') = 25 := by rw [e1]; exact h25
        have B := body (Or.inr h25)
        rw [← ax_n_776_41] at B
        simp only [ax_W_cons, ax_I, ax_cmp, ax_ii, ax_ll, ax_li, ax_st1, ax_st2, ax_kl, ax_k2, ax_fit, ax_rtok, List.getElem?_cons_zero, List.getElem?_cons_succ, List.length_cons, List.length_nil, List.set_cons_zero, List.set_cons_succ, Nat.reduceAdd, Nat.reduceDiv, Nat.reduceMod, Nat.reduceMul, Nat.reduceLT, Nat.reduceLeDiff, Int32.reduceOfInt, Int64.reduceOfInt, true_and, and_true, and_self, true_or, or_true, false_implies, true_implies, not_false_eq_true, not_true_eq_false, Value.category, Nat.reduceEqDiff, Option.toList, List.cons_append, List.nil_append, List.drop_succ_cons, List.drop_zero, ax_qq_eq, ax_t_776, e0, hi0, w20, w1, hal, e1]
        exact B
      · have e1 : ¬ nI (zkd t a') = 25 := by rw [e1]; exact h25
        rw [if_neg (fun z => z.elim h0 h25)] at hz
        have F := fin es' a' h tk' i (by rw [if_neg h25]; exact hz) ha Y fr
        simp only [ax_W_cons, ax_I, ax_cmp, ax_ii, ax_ll, ax_li, ax_st1, ax_st2, ax_kl, ax_k2, ax_fit, ax_rtok, List.getElem?_cons_zero, List.getElem?_cons_succ, List.length_cons, List.length_nil, List.set_cons_zero, List.set_cons_succ, Nat.reduceAdd, Nat.reduceDiv, Nat.reduceMod, Nat.reduceMul, Nat.reduceLT, Nat.reduceLeDiff, Int32.reduceOfInt, Int64.reduceOfInt, true_and, and_true, and_self, true_or, or_true, false_implies, true_implies, not_false_eq_true, not_true_eq_false, Value.category, Nat.reduceEqDiff, Option.toList, List.cons_append, List.nil_append, List.drop_succ_cons, List.drop_zero, ax_qq_eq, ax_t_776, e0, hi0, w20, w1, hal, e1]
        exact F
end TT
