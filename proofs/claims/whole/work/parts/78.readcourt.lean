/-! the class: a court is read -/
section TT
variable {d n sl : Nat} {es : ax_H} {t : zTp} {Q : Option Value → ax_H → Prop}
theorem xTk_f {es : ax_H} {a : Nat} {tk ft : Int32} (h : xTk es t a tk ft) : xTf es t ft := by
  obtain ⟨⟨nb, nm, w1, -⟩, hS⟩ := h
  exact ⟨⟨_, _, _, _, _, _, w1⟩, hS⟩
theorem xTf_rcv (hal : ax_al n = 178) {ft : Int32} (h : xTf es t ft) (As : List Value) : ax_rcv n es 9 (.ref 1 :: As) := by
  obtain ⟨⟨kd, nb, nm, tk, pl, nx, w1⟩, -⟩ := h
  exact ax_rcv_ok (by omega) w1
theorem ck_readCourt (hal : ax_al n = 178) (hT : zT_ok t) (X : xTp es t) (hR : xRd es) (hD : xDs es) (h1 : ∀ es' dr, zCourt t = .inr dr → xTp es' (0, t.2) → xRd es' → xDr es' dr 1000 → xfR es es' → Q (some (.int 0)) es') (h0 : ∀ es' x, zCourt t = .inl x → xTp es' (0, t.2) → xRd es' → xDs es' → xfR es es' → Q (some (.int (nI (x.1 + 16 * zpl t x.2)))) es') : ax_Mt (d + 72) 769 [.ref 20] n sl es Q := by
  have hL := hT.1
  have c10 : ¬ (1 : Int32) = 0 := by decide
  have finF : ∀ es1 x v, zLines t 1001 0 zD0 = .inl x → xLf es1 t x → xfR es es1 → ax_J ax_W (d + 72) n sl 769 139 [some (.ref 20), some (.int 0), some (.int v)] [] n sl es1 (ax_qq n sl Q) := by
    intro es1 x v hx F fr
    obtain ⟨F1, ⟨rv, rb, w20⟩, F3⟩ := id F
    simp only [ax_W_cons, ax_I, ax_cmp, ax_ii, ax_ll, ax_li, ax_st1, ax_st2, ax_kl, ax_k2, ax_fit, ax_rtok, List.getElem?_cons_zero, List.getElem?_cons_succ, List.length_cons, List.length_nil, List.set_cons_zero, List.set_cons_succ, Nat.reduceAdd, Nat.reduceDiv, Nat.reduceMod, Nat.reduceMul, Nat.reduceLT, Nat.reduceLeDiff, Int32.reduceOfInt, Int64.reduceOfInt, true_and, and_true, and_self, true_or, or_true, false_implies, true_implies, not_false_eq_true, not_true_eq_false, Value.category, Nat.reduceEqDiff, Option.toList, List.cons_append, List.nil_append, List.drop_succ_cons, List.drop_zero, ax_qq_eq, ax_t_769, ax_j_769_139, ax_n_769_139, ax_j_769_150, ax_n_769_150, w20, hal]
    refine ax_inv_of (Nat.le_of_ble_eq_true rfl) (Nat.le_of_ble_eq_true rfl) (fun _ => xTf_rcv hal F1 _) (fun h => absurd h (by decide)) (Nat.le_refl _) (Nat.le_refl _) (ck_tkFinish hal F1 ?_)
    intro es2 T2 f2
    simp only [ax_W_cons, ax_I, ax_cmp, ax_ii, ax_ll, ax_li, ax_st1, ax_st2, ax_kl, ax_k2, ax_fit, ax_rtok, List.getElem?_cons_zero, List.getElem?_cons_succ, List.length_cons, List.length_nil, List.set_cons_zero, List.set_cons_succ, Nat.reduceAdd, Nat.reduceDiv, Nat.reduceMod, Nat.reduceMul, Nat.reduceLT, Nat.reduceLeDiff, Int32.reduceOfInt, Int64.reduceOfInt, true_and, and_true, and_self, true_or, or_true, false_implies, true_implies, not_false_eq_true, not_true_eq_false, Value.category, Nat.reduceEqDiff, Option.toList, List.cons_append, List.nil_append, List.drop_succ_cons, List.drop_zero, ax_qq_eq, ax_t_769]
    refine h0 es2 x ?_ T2 (xRd_fr F.2.1 (f2 20 (by decide))) (xDs_fr F3 (fun j h1 h2 => f2 j (by omega))) (xfR_trans fr (xfR_1 f2))
    unfold zCourt
    rw [hx]
  have finG : ∀ es1 dr a tk v, zLines t 1001 0 zD0 = .inr dr → zdok t dr → a ≤ 1000 → xLn es1 t a dr (a - 2) tk → xfR es es1 → ax_J ax_W (d + 72) n sl 769 139 [some (.ref 20), some (.int 1), some (.int v)] [] n sl es1 (ax_qq n sl Q) := by
    intro es1 dr a tk v hx hd ha Y fr
    obtain ⟨T1, ⟨rv, rb, w20⟩, Y3⟩ := id Y
    simp only [ax_W_cons, ax_I, ax_cmp, ax_ii, ax_ll, ax_li, ax_st1, ax_st2, ax_kl, ax_k2, ax_fit, ax_rtok, List.getElem?_cons_zero, List.getElem?_cons_succ, List.length_cons, List.length_nil, List.set_cons_zero, List.set_cons_succ, Nat.reduceAdd, Nat.reduceDiv, Nat.reduceMod, Nat.reduceMul, Nat.reduceLT, Nat.reduceLeDiff, Int32.reduceOfInt, Int64.reduceOfInt, true_and, and_true, and_self, true_or, or_true, false_implies, true_implies, not_false_eq_true, not_true_eq_false, Value.category, Nat.reduceEqDiff, Option.toList, List.cons_append, List.nil_append, List.drop_succ_cons, List.drop_zero, ax_qq_eq, ax_t_769, ax_j_769_139, ax_n_769_139, c10, w20, hal]
    refine ax_inv_of (Nat.le_of_ble_eq_true rfl) (Nat.le_of_ble_eq_true rfl) (fun _ => xDs_rcv hal (xDr_s Y3) _) (fun h => absurd h (by decide)) (Nat.le_refl _) (Nat.le_refl _) (ck_settle hal hd (xDr_lim Y3 (by omega)) ?_)
    intro es2 X2 f2
    have u20 := (f2 20 (by decide)).trans w20
    have T2 : xTf es2 t 0 := xTk_f (xTk_fr T1 (f2 1 (by decide)) (f2 2 (by decide)))
    simp only [ax_W_cons, ax_I, ax_cmp, ax_ii, ax_ll, ax_li, ax_st1, ax_st2, ax_kl, ax_k2, ax_fit, ax_rtok, List.getElem?_cons_zero, List.getElem?_cons_succ, List.length_cons, List.length_nil, List.set_cons_zero, List.set_cons_succ, Nat.reduceAdd, Nat.reduceDiv, Nat.reduceMod, Nat.reduceMul, Nat.reduceLT, Nat.reduceLeDiff, Int32.reduceOfInt, Int64.reduceOfInt, true_and, and_true, and_self, true_or, or_true, false_implies, true_implies, not_false_eq_true, not_true_eq_false, Value.category, Nat.reduceEqDiff, Option.toList, List.cons_append, List.nil_append, List.drop_succ_cons, List.drop_zero, ax_qq_eq, ax_t_769, ax_j_769_150, ax_n_769_150, u20, hal]
    refine ax_inv_of (Nat.le_of_ble_eq_true rfl) (Nat.le_of_ble_eq_true rfl) (fun _ => xTf_rcv hal T2 _) (fun h => absurd h (by decide)) (Nat.le_refl _) (Nat.le_refl _) (ck_tkFinish hal T2 ?_)
    intro es3 T3 f3
    simp only [ax_W_cons, ax_I, ax_cmp, ax_ii, ax_ll, ax_li, ax_st1, ax_st2, ax_kl, ax_k2, ax_fit, ax_rtok, List.getElem?_cons_zero, List.getElem?_cons_succ, List.length_cons, List.length_nil, List.set_cons_zero, List.set_cons_succ, Nat.reduceAdd, Nat.reduceDiv, Nat.reduceMod, Nat.reduceMul, Nat.reduceLT, Nat.reduceLeDiff, Int32.reduceOfInt, Int64.reduceOfInt, true_and, and_true, and_self, true_or, or_true, false_implies, true_implies, not_false_eq_true, not_true_eq_false, Value.category, Nat.reduceEqDiff, Option.toList, List.cons_append, List.nil_append, List.drop_succ_cons, List.drop_zero, ax_qq_eq, ax_t_769]
    refine h1 es3 (zSet dr) ?_ T3 ⟨rv, rb, (f3 20 (by decide)).trans u20⟩ (xDr_fr X2 (fun j h1 h2 => f3 j (by omega))) (xfR_trans fr (fun j h1 h2 => (f3 j h1).trans (f2 j (by omega))))
    unfold zCourt
    rw [hx]
  obtain ⟨rv, rb, w20⟩ := id hR
  refine ax_Mt_go (m := ax_m_6_1) (ls := [some (.ref 20), none, none]) rfl ax_b_769_0 (Nat.le_of_ble_eq_true rfl) rfl ?_
  simp only [ax_W_cons, ax_I, ax_cmp, ax_ii, ax_ll, ax_li, ax_st1, ax_st2, ax_kl, ax_k2, ax_fit, ax_rtok, List.getElem?_cons_zero, List.getElem?_cons_succ, List.length_cons, List.length_nil, List.set_cons_zero, List.set_cons_succ, Nat.reduceAdd, Nat.reduceDiv, Nat.reduceMod, Nat.reduceMul, Nat.reduceLT, Nat.reduceLeDiff, Int32.reduceOfInt, Int64.reduceOfInt, true_and, and_true, and_self, true_or, or_true, false_implies, true_implies, not_false_eq_true, not_true_eq_false, Value.category, Nat.reduceEqDiff, Option.toList, List.cons_append, List.nil_append, List.drop_succ_cons, List.drop_zero, ax_qq_eq, ax_t_769, w20, hal]
  refine ax_inv_of (Nat.le_of_ble_eq_true rfl) (Nat.le_of_ble_eq_true rfl) (fun _ => xDs_rcv hal hD _) (fun h => absurd h (by decide)) (Nat.le_refl _) (Nat.le_refl _) (ck_drClear hal hD ?_)
  intro es1 X1 f1
  have u20 := (f1 20 (by decide)).trans w20
  have T1 : xTp es1 t := by
    obtain ⟨⟨kd, nb, nm, tk, ft, pl, nx, w1⟩, sg, hS, hj⟩ := X
    exact ⟨⟨kd, nb, nm, tk, ft, pl, nx, (f1 1 (by decide)).trans w1⟩, sg, (f1 2 (by decide)).trans hS, hj⟩
  have rc : ∀ As, ax_rcv n es1 9 (.ref 1 :: As) := fun As => by
    obtain ⟨⟨kd, nb, nm, tk, ft, pl, nx, w1⟩, -⟩ := T1
    exact ax_rcv_ok (by omega) w1
  simp only [ax_W_cons, ax_I, ax_cmp, ax_ii, ax_ll, ax_li, ax_st1, ax_st2, ax_kl, ax_k2, ax_fit, ax_rtok, List.getElem?_cons_zero, List.getElem?_cons_succ, List.length_cons, List.length_nil, List.set_cons_zero, List.set_cons_succ, Nat.reduceAdd, Nat.reduceDiv, Nat.reduceMod, Nat.reduceMul, Nat.reduceLT, Nat.reduceLeDiff, Int32.reduceOfInt, Int64.reduceOfInt, true_and, and_true, and_self, true_or, or_true, false_implies, true_implies, not_false_eq_true, not_true_eq_false, Value.category, Nat.reduceEqDiff, Option.toList, List.cons_append, List.nil_append, List.drop_succ_cons, List.drop_zero, ax_qq_eq, ax_t_769, u20, hal]
  refine ax_inv_of (Nat.le_of_ble_eq_true rfl) (Nat.le_of_ble_eq_true rfl) (fun _ => rc _) (fun h => absurd h (by decide)) (Nat.le_refl _) (Nat.le_refl _) (ck_tkBegin hal hT T1 ?_)
  intro es2 tk2 T2 f2
  simp only [ax_W_cons, ax_I, ax_cmp, ax_ii, ax_ll, ax_li, ax_st1, ax_st2, ax_kl, ax_k2, ax_fit, ax_rtok, List.getElem?_cons_zero, List.getElem?_cons_succ, List.length_cons, List.length_nil, List.set_cons_zero, List.set_cons_succ, Nat.reduceAdd, Nat.reduceDiv, Nat.reduceMod, Nat.reduceMul, Nat.reduceLT, Nat.reduceLeDiff, Int32.reduceOfInt, Int64.reduceOfInt, true_and, and_true, and_self, true_or, or_true, false_implies, true_implies, not_false_eq_true, not_true_eq_false, Value.category, Nat.reduceEqDiff, Option.toList, List.cons_append, List.nil_append, List.drop_succ_cons, List.drop_zero, ax_qq_eq, ax_t_769]
  rw [ax_n_769_18]
  have L := kx_down (k := 1001) (I := fun f i => ∀ es' dr a tk, zLines t f a dr = zLines t 1001 0 zD0 → zdok t dr → i ≤ a → zpre t a → xLn es' t a dr (a - 2) tk → xfR es es' → ax_W (d + 72) n sl 769 [(1, .iload 2), (3, .iconst 1000), (3, .if_icmp .gt 139), (1, .iload 1), (3, .ifCond .eq 139), (1, .aload 0), (3, .getfield 1538), (3, .getfield 2312), (2, .iconst 26), (3, .if_icmp .eq 139), (1, .aload 0), (3, .getfield 1538), (3, .getfield 2312), (44, .tableswitch 124 0 6 #[92, 100, 124, 124, 108, 116, 116])] 18 [some (.ref 20), some (.int 1), some (.int (nI i))] [] n sl es' (ax_qq n sl Q)) ?_ ?_ 1001 0 (by omega)
  · exact L es2 zD0 0 tk2 rfl (zD0_ok t) (Nat.le_refl _) (fun b hb => absurd hb (Nat.not_lt_zero b)) ⟨T2, ⟨rv, rb, (f2 20 (by decide)).trans u20⟩, xDr_fr X1 (fun j h1 h2 => f2 j (by omega))⟩ (fun j h1 h2 => (f2 j h1).trans (f1 j (by omega)))
  · intro es' dr a tk hz hd hi hp Y fr
    have := zpre_le hp
    omega
  · intro f i hi ih es' dr a tk hz hd hia hp Y fr
    have e0 : ¬ (1000 : Int32) < nI i := by
      rw [kx_nlt]
      exact nI_le (b := 1000) (by omega) (by decide)
    have i4 : nI i + 1 = nI (i + 1) := (nI_succ i).symm
    have hpa := zpre_le hp
    obtain ⟨⟨⟨nb, nm, w1, v1, v2⟩, hS⟩, ⟨rv', rb', z20⟩, Y3⟩ := id Y
    have w1 : es' 1 = _ := w1
    have hk := zkd_lt t a
    have e26 : (nI (zkd t a) = 26) = (zkd t a = 26) := zk_eq (x := 26) hk (by decide)
    rw [zLines] at hz
    by_cases h26 : zkd t a = 26
    · rw [if_pos h26] at hz
      have e26 : nI (zkd t a) = 26 := by rw [e26]; exact h26
      have F := finG es' dr a tk (nI i) hz.symm hd (by omega) Y fr
      simp only [ax_W_cons, ax_I, ax_cmp, ax_ii, ax_ll, ax_li, ax_st1, ax_st2, ax_kl, ax_k2, ax_fit, ax_rtok, List.getElem?_cons_zero, List.getElem?_cons_succ, List.length_cons, List.length_nil, List.set_cons_zero, List.set_cons_succ, Nat.reduceAdd, Nat.reduceDiv, Nat.reduceMod, Nat.reduceMul, Nat.reduceLT, Nat.reduceLeDiff, Int32.reduceOfInt, Int64.reduceOfInt, true_and, and_true, and_self, true_or, or_true, false_implies, true_implies, not_false_eq_true, not_true_eq_false, Value.category, Nat.reduceEqDiff, Option.toList, List.cons_append, List.nil_append, List.drop_succ_cons, List.drop_zero, ax_qq_eq, ax_t_769, e0, c10, z20, w1, hal, e26]
      exact F
    rw [if_neg h26] at hz
    have e26 : ¬ nI (zkd t a) = 26 := by rw [e26]; exact h26
    -- behind a line that stands
    have good : ∀ r es3 tk3, zLine t dr a = .inr r → xLn es3 t r.1 r.2 (r.1 - 2) tk3 → xfR es' es3 → ax_J ax_W (d + 72) n sl 769 133 [some (.ref 20), some (.int 1), some (.int (nI i))] [] n sl es3 (ax_qq n sl Q) := by
      intro r es3 tk3 hr Y3 f3
      rw [hr] at hz
      obtain ⟨k1, k2, k3⟩ := zLine_ok hd hr
      simp only [ax_W_cons, ax_I, ax_cmp, ax_ii, ax_ll, ax_li, ax_st1, ax_st2, ax_kl, ax_k2, ax_fit, ax_rtok, List.getElem?_cons_zero, List.getElem?_cons_succ, List.length_cons, List.length_nil, List.set_cons_zero, List.set_cons_succ, Nat.reduceAdd, Nat.reduceDiv, Nat.reduceMod, Nat.reduceMul, Nat.reduceLT, Nat.reduceLeDiff, Int32.reduceOfInt, Int64.reduceOfInt, true_and, and_true, and_self, true_or, or_true, false_implies, true_implies, not_false_eq_true, not_true_eq_false, Value.category, Nat.reduceEqDiff, Option.toList, List.cons_append, List.nil_append, List.drop_succ_cons, List.drop_zero, ax_qq_eq, ax_t_769, ax_j_769_133, ax_n_769_133, i4]
      rw [ax_j_769_18]
      exact ih es3 r.2 r.1 tk3 hz k1 (by omega) (zpre_r hp k3) Y3 (xfR_trans fr f3)
    have bad : ∀ x es3, zLine t dr a = .inl x → xLf es3 t x → xfR es' es3 → ax_J ax_W (d + 72) n sl 769 133 [some (.ref 20), some (.int 0), some (.int (nI i))] [] n sl es3 (ax_qq n sl Q) := by
      intro x es3 hr F3 f3
      rw [hr] at hz
      have F := finF es3 x (nI (i + 1)) hz.symm F3 (xfR_trans fr f3)
      by_cases hg : (1000 : Int32) < nI (i + 1)
      · simp only [ax_W_cons, ax_I, ax_cmp, ax_ii, ax_ll, ax_li, ax_st1, ax_st2, ax_kl, ax_k2, ax_fit, ax_rtok, List.getElem?_cons_zero, List.getElem?_cons_succ, List.length_cons, List.length_nil, List.set_cons_zero, List.set_cons_succ, Nat.reduceAdd, Nat.reduceDiv, Nat.reduceMod, Nat.reduceMul, Nat.reduceLT, Nat.reduceLeDiff, Int32.reduceOfInt, Int64.reduceOfInt, true_and, and_true, and_self, true_or, or_true, false_implies, true_implies, not_false_eq_true, not_true_eq_false, Value.category, Nat.reduceEqDiff, Option.toList, List.cons_append, List.nil_append, List.drop_succ_cons, List.drop_zero, ax_qq_eq, ax_t_769, ax_j_769_133, ax_n_769_133, ax_j_769_18, ax_n_769_18, i4, hg]
        exact F
      · simp only [ax_W_cons, ax_I, ax_cmp, ax_ii, ax_ll, ax_li, ax_st1, ax_st2, ax_kl, ax_k2, ax_fit, ax_rtok, List.getElem?_cons_zero, List.getElem?_cons_succ, List.length_cons, List.length_nil, List.set_cons_zero, List.set_cons_succ, Nat.reduceAdd, Nat.reduceDiv, Nat.reduceMod, Nat.reduceMul, Nat.reduceLT, Nat.reduceLeDiff, Int32.reduceOfInt, Int64.reduceOfInt, true_and, and_true, and_self, true_or, or_true, false_implies, true_implies, not_false_eq_true, not_true_eq_false, Value.category, Nat.reduceEqDiff, Option.toList, List.cons_append, List.nil_append, List.drop_succ_cons, List.drop_zero, ax_qq_eq, ax_t_769, ax_j_769_133, ax_n_769_133, ax_j_769_18, ax_n_769_18, i4, hg]
        exact F
    unfold zLine at good bad
    have dflt : zLine t dr a = .inl (1, a) → ax_J ax_W (d + 72) n sl 769 124 [some (.ref 20), some (.int 1), some (.int (nI i))] [] n sl es' (ax_qq n sl Q) := by
      intro hz2
      unfold zLine at hz2
      simp only [ax_W_cons, ax_I, ax_cmp, ax_ii, ax_ll, ax_li, ax_st1, ax_st2, ax_kl, ax_k2, ax_fit, ax_rtok, List.getElem?_cons_zero, List.getElem?_cons_succ, List.length_cons, List.length_nil, List.set_cons_zero, List.set_cons_succ, Nat.reduceAdd, Nat.reduceDiv, Nat.reduceMod, Nat.reduceMul, Nat.reduceLT, Nat.reduceLeDiff, Int32.reduceOfInt, Int64.reduceOfInt, true_and, and_true, and_self, true_or, or_true, false_implies, true_implies, not_false_eq_true, not_true_eq_false, Value.category, Nat.reduceEqDiff, Option.toList, List.cons_append, List.nil_append, List.drop_succ_cons, List.drop_zero, ax_qq_eq, ax_t_769, ax_j_769_124, ax_n_769_124, z20, hal]
      refine ax_inv_of (Nat.le_of_ble_eq_true rfl) (Nat.le_of_ble_eq_true rfl) (fun _ => xTk_rcv hal Y.1 _) (fun h => absurd h (by decide)) (Nat.le_refl _) (Nat.le_refl _) (ck_fail (k := 1) hal Y.1 ?_)
      intro es3 T3 f3
      simp only [ax_W_cons, ax_I, ax_cmp, ax_ii, ax_ll, ax_li, ax_st1, ax_st2, ax_kl, ax_k2, ax_fit, ax_rtok, List.getElem?_cons_zero, List.getElem?_cons_succ, List.length_cons, List.length_nil, List.set_cons_zero, List.set_cons_succ, Nat.reduceAdd, Nat.reduceDiv, Nat.reduceMod, Nat.reduceMul, Nat.reduceLT, Nat.reduceLeDiff, Int32.reduceOfInt, Int64.reduceOfInt, true_and, and_true, and_self, true_or, or_true, false_implies, true_implies, not_false_eq_true, not_true_eq_false, Value.category, Nat.reduceEqDiff, Option.toList, List.cons_append, List.nil_append, List.drop_succ_cons, List.drop_zero, ax_qq_eq, ax_t_769]
      rw [ax_n_769_133, ← ax_j_769_133]
      exact bad (1, a) es3 hz2 (xLf_1 (x := (1, a)) Y T3 f3) (xfR_1 f3)
    unfold zLine at dflt
    by_cases k0 : zkd t a = 0
    · rw [if_pos k0] at good bad
      rw [k0] at w1
      have n26 : ¬ (nI 0 : Int32) = 26 := by decide
      have t0 : (nI 0).toInt = ((0 : Nat) : Int) := nI_toInt (by decide)
      simp only [ax_W_cons, ax_I, ax_cmp, ax_ii, ax_ll, ax_li, ax_st1, ax_st2, ax_kl, ax_k2, ax_fit, ax_rtok, List.getElem?_cons_zero, List.getElem?_cons_succ, List.length_cons, List.length_nil, List.set_cons_zero, List.set_cons_succ, Nat.reduceAdd, Nat.reduceDiv, Nat.reduceMod, Nat.reduceMul, Nat.reduceLT, Nat.reduceLeDiff, Int32.reduceOfInt, Int64.reduceOfInt, true_and, and_true, and_self, true_or, or_true, false_implies, true_implies, not_false_eq_true, not_true_eq_false, Value.category, Nat.reduceEqDiff, Option.toList, List.cons_append, List.nil_append, List.drop_succ_cons, List.drop_zero, ax_qq_eq, ax_t_769, e0, c10, z20, w1, hal, n26]
      rw [t0]
      refine ⟨fun h => absurd h (by decide), fun _ => ?_⟩
      show ax_J ax_W _ _ _ _ 92 _ _ _ _ _ _
      simp only [ax_W_cons, ax_I, ax_cmp, ax_ii, ax_ll, ax_li, ax_st1, ax_st2, ax_kl, ax_k2, ax_fit, ax_rtok, List.getElem?_cons_zero, List.getElem?_cons_succ, List.length_cons, List.length_nil, List.set_cons_zero, List.set_cons_succ, Nat.reduceAdd, Nat.reduceDiv, Nat.reduceMod, Nat.reduceMul, Nat.reduceLT, Nat.reduceLeDiff, Int32.reduceOfInt, Int64.reduceOfInt, true_and, and_true, and_self, true_or, or_true, false_implies, true_implies, not_false_eq_true, not_true_eq_false, Value.category, Nat.reduceEqDiff, Option.toList, List.cons_append, List.nil_append, List.drop_succ_cons, List.drop_zero, ax_qq_eq, ax_t_769, ax_j_769_92, ax_n_769_92, hal]
      refine ax_inv_of (Nat.le_of_ble_eq_true rfl) (Nat.le_of_ble_eq_true rfl) (fun _ => xRd_rcv hal Y.2.1 _) (fun h => absurd h (by decide)) (Nat.le_refl _) (Nat.le_refl _) (ck_readCells hal hT k0 (d + 1) es' dr tk _ Y hp ?_ ?_)
      · intro r es3 tk3 hr Y3 f3
        simp only [ax_W_cons, ax_I, ax_cmp, ax_ii, ax_ll, ax_li, ax_st1, ax_st2, ax_kl, ax_k2, ax_fit, ax_rtok, List.getElem?_cons_zero, List.getElem?_cons_succ, List.length_cons, List.length_nil, List.set_cons_zero, List.set_cons_succ, Nat.reduceAdd, Nat.reduceDiv, Nat.reduceMod, Nat.reduceMul, Nat.reduceLT, Nat.reduceLeDiff, Int32.reduceOfInt, Int64.reduceOfInt, true_and, and_true, and_self, true_or, or_true, false_implies, true_implies, not_false_eq_true, not_true_eq_false, Value.category, Nat.reduceEqDiff, Option.toList, List.cons_append, List.nil_append, List.drop_succ_cons, List.drop_zero, ax_qq_eq, ax_t_769]
        exact good r es3 tk3 hr Y3 f3
      · intro x es3 hr F3 f3
        simp only [ax_W_cons, ax_I, ax_cmp, ax_ii, ax_ll, ax_li, ax_st1, ax_st2, ax_kl, ax_k2, ax_fit, ax_rtok, List.getElem?_cons_zero, List.getElem?_cons_succ, List.length_cons, List.length_nil, List.set_cons_zero, List.set_cons_succ, Nat.reduceAdd, Nat.reduceDiv, Nat.reduceMod, Nat.reduceMul, Nat.reduceLT, Nat.reduceLeDiff, Int32.reduceOfInt, Int64.reduceOfInt, true_and, and_true, and_self, true_or, or_true, false_implies, true_implies, not_false_eq_true, not_true_eq_false, Value.category, Nat.reduceEqDiff, Option.toList, List.cons_append, List.nil_append, List.drop_succ_cons, List.drop_zero, ax_qq_eq, ax_t_769]
        exact bad x es3 hr F3 f3
    rw [if_neg k0] at good bad dflt
    by_cases k1 : zkd t a = 1
    · rw [if_pos k1] at good bad
      rw [k1] at w1
      have n26 : ¬ (nI 1 : Int32) = 26 := by decide
      have t0 : (nI 1).toInt = ((1 : Nat) : Int) := nI_toInt (by decide)
      simp only [ax_W_cons, ax_I, ax_cmp, ax_ii, ax_ll, ax_li, ax_st1, ax_st2, ax_kl, ax_k2, ax_fit, ax_rtok, List.getElem?_cons_zero, List.getElem?_cons_succ, List.length_cons, List.length_nil, List.set_cons_zero, List.set_cons_succ, Nat.reduceAdd, Nat.reduceDiv, Nat.reduceMod, Nat.reduceMul, Nat.reduceLT, Nat.reduceLeDiff, Int32.reduceOfInt, Int64.reduceOfInt, true_and, and_true, and_self, true_or, or_true, false_implies, true_implies, not_false_eq_true, not_true_eq_false, Value.category, Nat.reduceEqDiff, Option.toList, List.cons_append, List.nil_append, List.drop_succ_cons, List.drop_zero, ax_qq_eq, ax_t_769, e0, c10, z20, w1, hal, n26]
      rw [t0]
      refine ⟨fun h => absurd h (by decide), fun _ => ?_⟩
      show ax_J ax_W _ _ _ _ 100 _ _ _ _ _ _
      simp only [ax_W_cons, ax_I, ax_cmp, ax_ii, ax_ll, ax_li, ax_st1, ax_st2, ax_kl, ax_k2, ax_fit, ax_rtok, List.getElem?_cons_zero, List.getElem?_cons_succ, List.length_cons, List.length_nil, List.set_cons_zero, List.set_cons_succ, Nat.reduceAdd, Nat.reduceDiv, Nat.reduceMod, Nat.reduceMul, Nat.reduceLT, Nat.reduceLeDiff, Int32.reduceOfInt, Int64.reduceOfInt, true_and, and_true, and_self, true_or, or_true, false_implies, true_implies, not_false_eq_true, not_true_eq_false, Value.category, Nat.reduceEqDiff, Option.toList, List.cons_append, List.nil_append, List.drop_succ_cons, List.drop_zero, ax_qq_eq, ax_t_769, ax_j_769_100, ax_n_769_100, hal]
      refine ax_inv_of (Nat.le_of_ble_eq_true rfl) (Nat.le_of_ble_eq_true rfl) (fun _ => xRd_rcv hal Y.2.1 _) (fun h => absurd h (by decide)) (Nat.le_refl _) (Nat.le_refl _) (ck_readCourtier hal hT k1 (d + 1) es' dr tk _ Y hp ?_ ?_)
      · intro r es3 tk3 hr Y3 f3
        simp only [ax_W_cons, ax_I, ax_cmp, ax_ii, ax_ll, ax_li, ax_st1, ax_st2, ax_kl, ax_k2, ax_fit, ax_rtok, List.getElem?_cons_zero, List.getElem?_cons_succ, List.length_cons, List.length_nil, List.set_cons_zero, List.set_cons_succ, Nat.reduceAdd, Nat.reduceDiv, Nat.reduceMod, Nat.reduceMul, Nat.reduceLT, Nat.reduceLeDiff, Int32.reduceOfInt, Int64.reduceOfInt, true_and, and_true, and_self, true_or, or_true, false_implies, true_implies, not_false_eq_true, not_true_eq_false, Value.category, Nat.reduceEqDiff, Option.toList, List.cons_append, List.nil_append, List.drop_succ_cons, List.drop_zero, ax_qq_eq, ax_t_769]
        exact good r es3 tk3 hr Y3 f3
      · intro x es3 hr F3 f3
        simp only [ax_W_cons, ax_I, ax_cmp, ax_ii, ax_ll, ax_li, ax_st1, ax_st2, ax_kl, ax_k2, ax_fit, ax_rtok, List.getElem?_cons_zero, List.getElem?_cons_succ, List.length_cons, List.length_nil, List.set_cons_zero, List.set_cons_succ, Nat.reduceAdd, Nat.reduceDiv, Nat.reduceMod, Nat.reduceMul, Nat.reduceLT, Nat.reduceLeDiff, Int32.reduceOfInt, Int64.reduceOfInt, true_and, and_true, and_self, true_or, or_true, false_implies, true_implies, not_false_eq_true, not_true_eq_false, Value.category, Nat.reduceEqDiff, Option.toList, List.cons_append, List.nil_append, List.drop_succ_cons, List.drop_zero, ax_qq_eq, ax_t_769]
        exact bad x es3 hr F3 f3
    rw [if_neg k1] at good bad dflt
    by_cases k4 : zkd t a = 4
    · rw [if_pos k4] at good bad
      rw [k4] at w1
      have n26 : ¬ (nI 4 : Int32) = 26 := by decide
      have t0 : (nI 4).toInt = ((4 : Nat) : Int) := nI_toInt (by decide)
      simp only [ax_W_cons, ax_I, ax_cmp, ax_ii, ax_ll, ax_li, ax_st1, ax_st2, ax_kl, ax_k2, ax_fit, ax_rtok, List.getElem?_cons_zero, List.getElem?_cons_succ, List.length_cons, List.length_nil, List.set_cons_zero, List.set_cons_succ, Nat.reduceAdd, Nat.reduceDiv, Nat.reduceMod, Nat.reduceMul, Nat.reduceLT, Nat.reduceLeDiff, Int32.reduceOfInt, Int64.reduceOfInt, true_and, and_true, and_self, true_or, or_true, false_implies, true_implies, not_false_eq_true, not_true_eq_false, Value.category, Nat.reduceEqDiff, Option.toList, List.cons_append, List.nil_append, List.drop_succ_cons, List.drop_zero, ax_qq_eq, ax_t_769, e0, c10, z20, w1, hal, n26]
      rw [t0]
      refine ⟨fun h => absurd h (by decide), fun _ => ?_⟩
      show ax_J ax_W _ _ _ _ 108 _ _ _ _ _ _
      simp only [ax_W_cons, ax_I, ax_cmp, ax_ii, ax_ll, ax_li, ax_st1, ax_st2, ax_kl, ax_k2, ax_fit, ax_rtok, List.getElem?_cons_zero, List.getElem?_cons_succ, List.length_cons, List.length_nil, List.set_cons_zero, List.set_cons_succ, Nat.reduceAdd, Nat.reduceDiv, Nat.reduceMod, Nat.reduceMul, Nat.reduceLT, Nat.reduceLeDiff, Int32.reduceOfInt, Int64.reduceOfInt, true_and, and_true, and_self, true_or, or_true, false_implies, true_implies, not_false_eq_true, not_true_eq_false, Value.category, Nat.reduceEqDiff, Option.toList, List.cons_append, List.nil_append, List.drop_succ_cons, List.drop_zero, ax_qq_eq, ax_t_769, ax_j_769_108, ax_n_769_108, hal]
      refine ax_inv_of (Nat.le_of_ble_eq_true rfl) (Nat.le_of_ble_eq_true rfl) (fun _ => xRd_rcv hal Y.2.1 _) (fun h => absurd h (by decide)) (Nat.le_refl _) (Nat.le_refl _) (ck_readHeat hal hT k4 (d + 1) es' dr tk _ Y hp ?_ ?_)
      · intro r es3 tk3 hr Y3 f3
        simp only [ax_W_cons, ax_I, ax_cmp, ax_ii, ax_ll, ax_li, ax_st1, ax_st2, ax_kl, ax_k2, ax_fit, ax_rtok, List.getElem?_cons_zero, List.getElem?_cons_succ, List.length_cons, List.length_nil, List.set_cons_zero, List.set_cons_succ, Nat.reduceAdd, Nat.reduceDiv, Nat.reduceMod, Nat.reduceMul, Nat.reduceLT, Nat.reduceLeDiff, Int32.reduceOfInt, Int64.reduceOfInt, true_and, and_true, and_self, true_or, or_true, false_implies, true_implies, not_false_eq_true, not_true_eq_false, Value.category, Nat.reduceEqDiff, Option.toList, List.cons_append, List.nil_append, List.drop_succ_cons, List.drop_zero, ax_qq_eq, ax_t_769]
        exact good r es3 tk3 hr Y3 f3
      · intro x es3 hr F3 f3
        simp only [ax_W_cons, ax_I, ax_cmp, ax_ii, ax_ll, ax_li, ax_st1, ax_st2, ax_kl, ax_k2, ax_fit, ax_rtok, List.getElem?_cons_zero, List.getElem?_cons_succ, List.length_cons, List.length_nil, List.set_cons_zero, List.set_cons_succ, Nat.reduceAdd, Nat.reduceDiv, Nat.reduceMod, Nat.reduceMul, Nat.reduceLT, Nat.reduceLeDiff, Int32.reduceOfInt, Int64.reduceOfInt, true_and, and_true, and_self, true_or, or_true, false_implies, true_implies, not_false_eq_true, not_true_eq_false, Value.category, Nat.reduceEqDiff, Option.toList, List.cons_append, List.nil_append, List.drop_succ_cons, List.drop_zero, ax_qq_eq, ax_t_769]
        exact bad x es3 hr F3 f3
    rw [if_neg k4] at good bad dflt
    by_cases k5 : zkd t a = 5
    · rw [if_pos k5] at good bad
      rw [k5] at w1
      have n26 : ¬ (nI 5 : Int32) = 26 := by decide
      have t0 : (nI 5).toInt = ((5 : Nat) : Int) := nI_toInt (by decide)
      simp only [ax_W_cons, ax_I, ax_cmp, ax_ii, ax_ll, ax_li, ax_st1, ax_st2, ax_kl, ax_k2, ax_fit, ax_rtok, List.getElem?_cons_zero, List.getElem?_cons_succ, List.length_cons, List.length_nil, List.set_cons_zero, List.set_cons_succ, Nat.reduceAdd, Nat.reduceDiv, Nat.reduceMod, Nat.reduceMul, Nat.reduceLT, Nat.reduceLeDiff, Int32.reduceOfInt, Int64.reduceOfInt, true_and, and_true, and_self, true_or, or_true, false_implies, true_implies, not_false_eq_true, not_true_eq_false, Value.category, Nat.reduceEqDiff, Option.toList, List.cons_append, List.nil_append, List.drop_succ_cons, List.drop_zero, ax_qq_eq, ax_t_769, e0, c10, z20, w1, hal, n26]
      rw [t0]
      refine ⟨fun h => absurd h (by decide), fun _ => ?_⟩
      show ax_J ax_W _ _ _ _ 116 _ _ _ _ _ _
      simp only [ax_W_cons, ax_I, ax_cmp, ax_ii, ax_ll, ax_li, ax_st1, ax_st2, ax_kl, ax_k2, ax_fit, ax_rtok, List.getElem?_cons_zero, List.getElem?_cons_succ, List.length_cons, List.length_nil, List.set_cons_zero, List.set_cons_succ, Nat.reduceAdd, Nat.reduceDiv, Nat.reduceMod, Nat.reduceMul, Nat.reduceLT, Nat.reduceLeDiff, Int32.reduceOfInt, Int64.reduceOfInt, true_and, and_true, and_self, true_or, or_true, false_implies, true_implies, not_false_eq_true, not_true_eq_false, Value.category, Nat.reduceEqDiff, Option.toList, List.cons_append, List.nil_append, List.drop_succ_cons, List.drop_zero, ax_qq_eq, ax_t_769, ax_j_769_116, ax_n_769_116, hal]
      refine ax_inv_of (Nat.le_of_ble_eq_true rfl) (Nat.le_of_ble_eq_true rfl) (fun _ => xRd_rcv hal Y.2.1 _) (fun h => absurd h (by decide)) (Nat.le_refl _) (Nat.le_refl _) (ck_readLaw5 hal hT k5 (d + 1) es' dr tk _ Y hp ?_ ?_)
      · intro r es3 tk3 hr Y3 f3
        simp only [ax_W_cons, ax_I, ax_cmp, ax_ii, ax_ll, ax_li, ax_st1, ax_st2, ax_kl, ax_k2, ax_fit, ax_rtok, List.getElem?_cons_zero, List.getElem?_cons_succ, List.length_cons, List.length_nil, List.set_cons_zero, List.set_cons_succ, Nat.reduceAdd, Nat.reduceDiv, Nat.reduceMod, Nat.reduceMul, Nat.reduceLT, Nat.reduceLeDiff, Int32.reduceOfInt, Int64.reduceOfInt, true_and, and_true, and_self, true_or, or_true, false_implies, true_implies, not_false_eq_true, not_true_eq_false, Value.category, Nat.reduceEqDiff, Option.toList, List.cons_append, List.nil_append, List.drop_succ_cons, List.drop_zero, ax_qq_eq, ax_t_769]
        exact good r es3 tk3 hr Y3 f3
      · intro x es3 hr F3 f3
        simp only [ax_W_cons, ax_I, ax_cmp, ax_ii, ax_ll, ax_li, ax_st1, ax_st2, ax_kl, ax_k2, ax_fit, ax_rtok, List.getElem?_cons_zero, List.getElem?_cons_succ, List.length_cons, List.length_nil, List.set_cons_zero, List.set_cons_succ, Nat.reduceAdd, Nat.reduceDiv, Nat.reduceMod, Nat.reduceMul, Nat.reduceLT, Nat.reduceLeDiff, Int32.reduceOfInt, Int64.reduceOfInt, true_and, and_true, and_self, true_or, or_true, false_implies, true_implies, not_false_eq_true, not_true_eq_false, Value.category, Nat.reduceEqDiff, Option.toList, List.cons_append, List.nil_append, List.drop_succ_cons, List.drop_zero, ax_qq_eq, ax_t_769]
        exact bad x es3 hr F3 f3
    rw [if_neg k5] at good bad dflt
    by_cases k6 : zkd t a = 6
    · rw [if_pos k6] at good bad
      rw [k6] at w1
      have n26 : ¬ (nI 6 : Int32) = 26 := by decide
      have t0 : (nI 6).toInt = ((6 : Nat) : Int) := nI_toInt (by decide)
      simp only [ax_W_cons, ax_I, ax_cmp, ax_ii, ax_ll, ax_li, ax_st1, ax_st2, ax_kl, ax_k2, ax_fit, ax_rtok, List.getElem?_cons_zero, List.getElem?_cons_succ, List.length_cons, List.length_nil, List.set_cons_zero, List.set_cons_succ, Nat.reduceAdd, Nat.reduceDiv, Nat.reduceMod, Nat.reduceMul, Nat.reduceLT, Nat.reduceLeDiff, Int32.reduceOfInt, Int64.reduceOfInt, true_and, and_true, and_self, true_or, or_true, false_implies, true_implies, not_false_eq_true, not_true_eq_false, Value.category, Nat.reduceEqDiff, Option.toList, List.cons_append, List.nil_append, List.drop_succ_cons, List.drop_zero, ax_qq_eq, ax_t_769, e0, c10, z20, w1, hal, n26]
      rw [t0]
      refine ⟨fun h => absurd h (by decide), fun _ => ?_⟩
      show ax_J ax_W _ _ _ _ 116 _ _ _ _ _ _
      simp only [ax_W_cons, ax_I, ax_cmp, ax_ii, ax_ll, ax_li, ax_st1, ax_st2, ax_kl, ax_k2, ax_fit, ax_rtok, List.getElem?_cons_zero, List.getElem?_cons_succ, List.length_cons, List.length_nil, List.set_cons_zero, List.set_cons_succ, Nat.reduceAdd, Nat.reduceDiv, Nat.reduceMod, Nat.reduceMul, Nat.reduceLT, Nat.reduceLeDiff, Int32.reduceOfInt, Int64.reduceOfInt, true_and, and_true, and_self, true_or, or_true, false_implies, true_implies, not_false_eq_true, not_true_eq_false, Value.category, Nat.reduceEqDiff, Option.toList, List.cons_append, List.nil_append, List.drop_succ_cons, List.drop_zero, ax_qq_eq, ax_t_769, ax_j_769_116, ax_n_769_116, hal]
      refine ax_inv_of (Nat.le_of_ble_eq_true rfl) (Nat.le_of_ble_eq_true rfl) (fun _ => xRd_rcv hal Y.2.1 _) (fun h => absurd h (by decide)) (Nat.le_refl _) (Nat.le_refl _) (ck_readLaw6 hal hT k6 (d + 1) es' dr tk _ Y hp ?_ ?_)
      · intro r es3 tk3 hr Y3 f3
        simp only [ax_W_cons, ax_I, ax_cmp, ax_ii, ax_ll, ax_li, ax_st1, ax_st2, ax_kl, ax_k2, ax_fit, ax_rtok, List.getElem?_cons_zero, List.getElem?_cons_succ, List.length_cons, List.length_nil, List.set_cons_zero, List.set_cons_succ, Nat.reduceAdd, Nat.reduceDiv, Nat.reduceMod, Nat.reduceMul, Nat.reduceLT, Nat.reduceLeDiff, Int32.reduceOfInt, Int64.reduceOfInt, true_and, and_true, and_self, true_or, or_true, false_implies, true_implies, not_false_eq_true, not_true_eq_false, Value.category, Nat.reduceEqDiff, Option.toList, List.cons_append, List.nil_append, List.drop_succ_cons, List.drop_zero, ax_qq_eq, ax_t_769]
        exact good r es3 tk3 hr Y3 f3
      · intro x es3 hr F3 f3
        simp only [ax_W_cons, ax_I, ax_cmp, ax_ii, ax_ll, ax_li, ax_st1, ax_st2, ax_kl, ax_k2, ax_fit, ax_rtok, List.getElem?_cons_zero, List.getElem?_cons_succ, List.length_cons, List.length_nil, List.set_cons_zero, List.set_cons_succ, Nat.reduceAdd, Nat.reduceDiv, Nat.reduceMod, Nat.reduceMul, Nat.reduceLT, Nat.reduceLeDiff, Int32.reduceOfInt, Int64.reduceOfInt, true_and, and_true, and_self, true_or, or_true, false_implies, true_implies, not_false_eq_true, not_true_eq_false, Value.category, Nat.reduceEqDiff, Option.toList, List.cons_append, List.nil_append, List.drop_succ_cons, List.drop_zero, ax_qq_eq, ax_t_769]
        exact bad x es3 hr F3 f3
    rw [if_neg k6] at good bad dflt
    have D := dflt rfl
    have t0 : (nI (zkd t a)).toInt = (zkd t a : Int) := nI_toInt (by omega)
    simp only [ax_W_cons, ax_I, ax_cmp, ax_ii, ax_ll, ax_li, ax_st1, ax_st2, ax_kl, ax_k2, ax_fit, ax_rtok, List.getElem?_cons_zero, List.getElem?_cons_succ, List.length_cons, List.length_nil, List.set_cons_zero, List.set_cons_succ, Nat.reduceAdd, Nat.reduceDiv, Nat.reduceMod, Nat.reduceMul, Nat.reduceLT, Nat.reduceLeDiff, Int32.reduceOfInt, Int64.reduceOfInt, true_and, and_true, and_self, true_or, or_true, false_implies, true_implies, not_false_eq_true, not_true_eq_false, Value.category, Nat.reduceEqDiff, Option.toList, List.cons_append, List.nil_append, List.drop_succ_cons, List.drop_zero, ax_qq_eq, ax_t_769, e0, c10, z20, w1, hal, e26]
    rw [t0]
    refine ⟨fun _ => D, fun h => ?_⟩
    have h23 : zkd t a = 2 ∨ zkd t a = 3 := by omega
    rcases h23 with h2 | h2
    · rw [h2]
      show ax_J ax_W _ _ _ _ 124 _ _ _ _ _ _
      exact D
    · rw [h2]
      show ax_J ax_W _ _ _ _ 124 _ _ _ _ _ _
      exact D
end TT
