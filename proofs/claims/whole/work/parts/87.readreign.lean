/-! the class: a reign is read -/
section TT
variable {d n sl : Nat} {es : ax_H} {t : zTp} {cs : List zCr} {Q : Option Value → ax_H → Prop}
theorem ck_readReign (hal : ax_al n = 178) (hT : zT_ok t) (X : xTp es t) (hR : xRd es) (hS : xRs es) (hC : xTd es cs) (h1 : ∀ es' ls, zReign t cs = .inr ls → xTp es' (0, t.2) → xRd es' → xRr es' ls → xfQ es es' → Q (some (.int 0)) es') (h0 : ∀ es' x, zReign t cs = .inl x → xTp es' (0, t.2) → xRd es' → xRs es' → xfQ es es' → Q (some (.int (nI (x.1 + 16 * zpl t x.2)))) es') : ax_Mt (d + 17) 770 [.ref 20] n sl es Q := by
  have hL := hT.1
  have c10 : ¬ (1 : Int32) = 0 := by decide
  have hc6 := hC.2.1
  have finF : ∀ es1 x v, zReign t cs = .inl x → xQf es1 t x → xfQ es es1 → ax_J ax_W (d + 17) n sl 770 53 [some (.ref 20), some (.int 0), some (.int v)] [] n sl es1 (ax_qq n sl Q) := by
    intro es1 x v hx F fr
    obtain ⟨F1, ⟨rv, rb, w20⟩, L, la, lb, lc, F3⟩ := id F
    simp only [ax_W_cons, ax_I, ax_cmp, ax_ii, ax_ll, ax_li, ax_st1, ax_st2, ax_kl, ax_k2, ax_fit, ax_rtok, List.getElem?_cons_zero, List.getElem?_cons_succ, List.length_cons, List.length_nil, List.set_cons_zero, List.set_cons_succ, Nat.reduceAdd, Nat.reduceDiv, Nat.reduceMod, Nat.reduceMul, Nat.reduceLT, Nat.reduceLeDiff, Int32.reduceOfInt, Int64.reduceOfInt, true_and, and_true, and_self, true_or, or_true, false_implies, true_implies, not_false_eq_true, not_true_eq_false, Value.category, Nat.reduceEqDiff, Option.toList, List.cons_append, List.nil_append, List.drop_succ_cons, List.drop_zero, ax_qq_eq, ax_t_770, ax_j_770_53, ax_n_770_53, w20, hal]
    refine ax_inv_of (Nat.le_of_ble_eq_true rfl) (Nat.le_of_ble_eq_true rfl) (fun _ => xTf_rcv hal F1 _) (fun h => absurd h (by decide)) (Nat.le_refl _) (Nat.le_refl _) (ck_tkFinish hal F1 ?_)
    intro es2 T2 f2
    simp only [ax_W_cons, ax_I, ax_cmp, ax_ii, ax_ll, ax_li, ax_st1, ax_st2, ax_kl, ax_k2, ax_fit, ax_rtok, List.getElem?_cons_zero, List.getElem?_cons_succ, List.length_cons, List.length_nil, List.set_cons_zero, List.set_cons_succ, Nat.reduceAdd, Nat.reduceDiv, Nat.reduceMod, Nat.reduceMul, Nat.reduceLT, Nat.reduceLeDiff, Int32.reduceOfInt, Int64.reduceOfInt, true_and, and_true, and_self, true_or, or_true, false_implies, true_implies, not_false_eq_true, not_true_eq_false, Value.category, Nat.reduceEqDiff, Option.toList, List.cons_append, List.nil_append, List.drop_succ_cons, List.drop_zero, ax_qq_eq, ax_t_770]
    exact h0 es2 x hx T2 (xRd_fr F.2.1 (f2 20 (by decide))) ⟨L, la, lb, lc, xRh_fr F3 (fun j h1 h2 => f2 j (by omega))⟩ (xfQ_trans fr (xfQ_1 f2))
  have finG : ∀ es1 ls a tk v, zReign t cs = .inr ls → xQn es1 t a ls cs tk → xfQ es es1 → ax_J ax_W (d + 17) n sl 770 53 [some (.ref 20), some (.int 1), some (.int v)] [] n sl es1 (ax_qq n sl Q) := by
    intro es1 ls a tk v hx Y fr
    obtain ⟨T1, ⟨rv, rb, w20⟩, ⟨y1, la, lb, lc, y2, y3⟩, -⟩ := id Y
    have T2 : xTf es1 t 0 := xTk_f T1
    simp only [ax_W_cons, ax_I, ax_cmp, ax_ii, ax_ll, ax_li, ax_st1, ax_st2, ax_kl, ax_k2, ax_fit, ax_rtok, List.getElem?_cons_zero, List.getElem?_cons_succ, List.length_cons, List.length_nil, List.set_cons_zero, List.set_cons_succ, Nat.reduceAdd, Nat.reduceDiv, Nat.reduceMod, Nat.reduceMul, Nat.reduceLT, Nat.reduceLeDiff, Int32.reduceOfInt, Int64.reduceOfInt, true_and, and_true, and_self, true_or, or_true, false_implies, true_implies, not_false_eq_true, not_true_eq_false, Value.category, Nat.reduceEqDiff, Option.toList, List.cons_append, List.nil_append, List.drop_succ_cons, List.drop_zero, ax_qq_eq, ax_t_770, ax_j_770_53, ax_n_770_53, w20, hal]
    refine ax_inv_of (Nat.le_of_ble_eq_true rfl) (Nat.le_of_ble_eq_true rfl) (fun _ => xTf_rcv hal T2 _) (fun h => absurd h (by decide)) (Nat.le_refl _) (Nat.le_refl _) (ck_tkFinish hal T2 ?_)
    intro es3 T3 f3
    simp only [ax_W_cons, ax_I, ax_cmp, ax_ii, ax_ll, ax_li, ax_st1, ax_st2, ax_kl, ax_k2, ax_fit, ax_rtok, List.getElem?_cons_zero, List.getElem?_cons_succ, List.length_cons, List.length_nil, List.set_cons_zero, List.set_cons_succ, Nat.reduceAdd, Nat.reduceDiv, Nat.reduceMod, Nat.reduceMul, Nat.reduceLT, Nat.reduceLeDiff, Int32.reduceOfInt, Int64.reduceOfInt, true_and, and_true, and_self, true_or, or_true, false_implies, true_implies, not_false_eq_true, not_true_eq_false, Value.category, Nat.reduceEqDiff, Option.toList, List.cons_append, List.nil_append, List.drop_succ_cons, List.drop_zero, ax_qq_eq, ax_t_770]
    exact h1 es3 ls hx T3 ⟨rv, rb, (f3 20 (by decide)).trans w20⟩ ⟨y1, la, lb, lc, xRh_fr y2 (fun j h1 h2 => f3 j (by omega)), y3⟩ (xfQ_trans fr (xfQ_1 f3))
  obtain ⟨rv, rb, w20⟩ := id hR
  obtain ⟨L, la, lb, lc, g1, g2, g3, g4⟩ := hS
  have m20 : ∀ e, ax_up es 34 e 20 = _ := fun e => (ax_up_ne es e (by decide)).trans w20
  refine ax_Mt_go (m := ax_m_6_2) (ls := [some (.ref 20), none, none]) rfl ax_b_770_0 (Nat.le_of_ble_eq_true rfl) rfl ?_
  simp only [ax_W_cons, ax_I, ax_cmp, ax_ii, ax_ll, ax_li, ax_st1, ax_st2, ax_kl, ax_k2, ax_fit, ax_rtok, List.getElem?_cons_zero, List.getElem?_cons_succ, List.length_cons, List.length_nil, List.set_cons_zero, List.set_cons_succ, Nat.reduceAdd, Nat.reduceDiv, Nat.reduceMod, Nat.reduceMul, Nat.reduceLT, Nat.reduceLeDiff, Int32.reduceOfInt, Int64.reduceOfInt, true_and, and_true, and_self, true_or, or_true, false_implies, true_implies, not_false_eq_true, not_true_eq_false, Value.category, Nat.reduceEqDiff, Option.toList, List.cons_append, List.nil_append, List.drop_succ_cons, List.drop_zero, ax_qq_eq, ax_t_770, w20, g1, m20, hal]
  obtain ⟨es1, he1⟩ : ∃ x, x = ax_up es 34 (.inr (7, [.int 0, .ref 35, .ref 36, .ref 37])) := ⟨_, rfl⟩
  rw [← he1]
  have w34 : es1 34 = .inr (7, [.int 0, .ref 35, .ref 36, .ref 37]) := by rw [he1]; exact ax_up_same ..
  have f1 : ∀ j, j ≠ 34 → es1 j = es j := fun j hj => by rw [he1]; exact ax_up_ne _ _ hj
  have T1 : xTp es1 t := by
    obtain ⟨⟨kd, nb, nm, tk, ft, pl, nx, w1⟩, sg, hS, hj⟩ := X
    exact ⟨⟨kd, nb, nm, tk, ft, pl, nx, (f1 1 (by decide)).trans w1⟩, sg, (f1 2 (by decide)).trans hS, hj⟩
  have rc : ∀ As, ax_rcv n es1 9 (.ref 1 :: As) := fun As => by
    obtain ⟨⟨kd, nb, nm, tk, ft, pl, nx, w1⟩, -⟩ := T1
    exact ax_rcv_ok (by omega) w1
  refine ax_inv_of (Nat.le_of_ble_eq_true rfl) (Nat.le_of_ble_eq_true rfl) (fun _ => rc _) (fun h => absurd h (by decide)) (Nat.le_refl _) (Nat.le_refl _) (ck_tkBegin hal hT T1 ?_)
  intro es2 tk2 T2 f2
  simp only [ax_W_cons, ax_I, ax_cmp, ax_ii, ax_ll, ax_li, ax_st1, ax_st2, ax_kl, ax_k2, ax_fit, ax_rtok, List.getElem?_cons_zero, List.getElem?_cons_succ, List.length_cons, List.length_nil, List.set_cons_zero, List.set_cons_succ, Nat.reduceAdd, Nat.reduceDiv, Nat.reduceMod, Nat.reduceMul, Nat.reduceLT, Nat.reduceLeDiff, Int32.reduceOfInt, Int64.reduceOfInt, true_and, and_true, and_self, true_or, or_true, false_implies, true_implies, not_false_eq_true, not_true_eq_false, Value.category, Nat.reduceEqDiff, Option.toList, List.cons_append, List.nil_append, List.drop_succ_cons, List.drop_zero, ax_qq_eq, ax_t_770]
  rw [ax_n_770_19]
  have LL := kx_down (k := 1001) (I := fun f i => ∀ es' ls a tk, zRlines t cs f a ls = zReign t cs → zrok cs.length ls → i ≤ a → zpre t a → xQn es' t a ls cs tk → xfQ es es' → ax_W (d + 17) n sl 770 [(1, .iload 2), (3, .iconst 1000), (3, .if_icmp .gt 53), (1, .iload 1), (3, .ifCond .eq 53), (1, .aload 0), (3, .getfield 1538), (3, .getfield 2312), (2, .iconst 26), (3, .if_icmp .eq 53), (1, .aload 0), (3, .invokeinterface 782 5), (1, .istore 1), (3, .iinc 2 1), (3, .goto 19)] 19 [some (.ref 20), some (.int 1), some (.int (nI i))] [] n sl es' (ax_qq n sl Q)) ?_ ?_ 1001 0 (by omega)
  · exact LL es2 [] 0 tk2 rfl ⟨Nat.zero_le _, fun x hx => by cases hx⟩ (Nat.le_refl _) (fun b hb => absurd hb (Nat.not_lt_zero b)) ⟨T2, ⟨rv, rb, (f2 20 (by decide)).trans ((f1 20 (by decide)).trans w20)⟩, ⟨Nat.zero_le _, la, lb, lc, ⟨(f2 34 (by decide)).trans w34, (f2 35 (by decide)).trans ((f1 35 (by decide)).trans g2), (f2 36 (by decide)).trans ((f1 36 (by decide)).trans g3), (f2 37 (by decide)).trans ((f1 37 (by decide)).trans g4)⟩, fun i hi => absurd hi (Nat.not_lt_zero i)⟩, xTd_fr hC ((f2 3 (by decide)).trans (f1 3 (by decide))) ((f2 7 (by decide)).trans (f1 7 (by decide)))⟩ (fun j h1 h2 => (f2 j h1).trans (f1 j (by omega)))
  · intro es' ls a tk hz hs hi hp Y fr
    have := zpre_le hp
    omega
  · intro f i hi ih es' ls a tk hz hs hia hp Y fr
    have e0 : ¬ (1000 : Int32) < nI i := by
      rw [kx_nlt]
      exact nI_le (b := 1000) (by omega) (by decide)
    have i4 : nI i + 1 = nI (i + 1) := (nI_succ i).symm
    obtain ⟨⟨⟨nb, nm, w1, v1, v2⟩, hS⟩, ⟨rv', rb', z20⟩, -⟩ := id Y
    have w1 : es' 1 = _ := w1
    have hk := zkd_lt t a
    have e26 : (nI (zkd t a) = 26) = (zkd t a = 26) := zk_eq (x := 26) hk (by decide)
    rw [zRlines] at hz
    by_cases h26 : zkd t a = 26
    · rw [if_pos h26] at hz
      have e26 : nI (zkd t a) = 26 := by rw [e26]; exact h26
      have F := finG es' ls a tk (nI i) hz.symm Y fr
      simp only [ax_W_cons, ax_I, ax_cmp, ax_ii, ax_ll, ax_li, ax_st1, ax_st2, ax_kl, ax_k2, ax_fit, ax_rtok, List.getElem?_cons_zero, List.getElem?_cons_succ, List.length_cons, List.length_nil, List.set_cons_zero, List.set_cons_succ, Nat.reduceAdd, Nat.reduceDiv, Nat.reduceMod, Nat.reduceMul, Nat.reduceLT, Nat.reduceLeDiff, Int32.reduceOfInt, Int64.reduceOfInt, true_and, and_true, and_self, true_or, or_true, false_implies, true_implies, not_false_eq_true, not_true_eq_false, Value.category, Nat.reduceEqDiff, Option.toList, List.cons_append, List.nil_append, List.drop_succ_cons, List.drop_zero, ax_qq_eq, ax_t_770, e0, c10, z20, w1, hal, e26]
      exact F
    rw [if_neg h26] at hz
    have e26 : ¬ nI (zkd t a) = 26 := by rw [e26]; exact h26
    simp only [ax_W_cons, ax_I, ax_cmp, ax_ii, ax_ll, ax_li, ax_st1, ax_st2, ax_kl, ax_k2, ax_fit, ax_rtok, List.getElem?_cons_zero, List.getElem?_cons_succ, List.length_cons, List.length_nil, List.set_cons_zero, List.set_cons_succ, Nat.reduceAdd, Nat.reduceDiv, Nat.reduceMod, Nat.reduceMul, Nat.reduceLT, Nat.reduceLeDiff, Int32.reduceOfInt, Int64.reduceOfInt, true_and, and_true, and_self, true_or, or_true, false_implies, true_implies, not_false_eq_true, not_true_eq_false, Value.category, Nat.reduceEqDiff, Option.toList, List.cons_append, List.nil_append, List.drop_succ_cons, List.drop_zero, ax_qq_eq, ax_t_770, e0, c10, z20, w1, hal, e26]
    refine ax_inv_of (Nat.le_of_ble_eq_true rfl) (Nat.le_of_ble_eq_true rfl) (fun _ => xRd_rcv hal Y.2.1 _) (fun h => absurd h (by decide)) (Nat.le_refl _) (Nat.le_refl _) (ck_readReignLine hal hT (d + 1) es' tk _ Y ?_ ?_)
    · intro r es3 tk3 hr Y3 f3
      rw [hr] at hz
      obtain ⟨k1, k2, k3⟩ := zRline_ok hc6 hs hr
      simp only [ax_W_cons, ax_I, ax_cmp, ax_ii, ax_ll, ax_li, ax_st1, ax_st2, ax_kl, ax_k2, ax_fit, ax_rtok, List.getElem?_cons_zero, List.getElem?_cons_succ, List.length_cons, List.length_nil, List.set_cons_zero, List.set_cons_succ, Nat.reduceAdd, Nat.reduceDiv, Nat.reduceMod, Nat.reduceMul, Nat.reduceLT, Nat.reduceLeDiff, Int32.reduceOfInt, Int64.reduceOfInt, true_and, and_true, and_self, true_or, or_true, false_implies, true_implies, not_false_eq_true, not_true_eq_false, Value.category, Nat.reduceEqDiff, Option.toList, List.cons_append, List.nil_append, List.drop_succ_cons, List.drop_zero, ax_qq_eq, ax_t_770, i4]
      rw [ax_j_770_19]
      exact ih es3 r.2 r.1 tk3 hz k1 (by omega) (zpre_r hp k3) Y3 (xfQ_trans fr f3)
    · intro x es3 hr F3 f3
      rw [hr] at hz
      have F := finF es3 x (nI (i + 1)) hz.symm F3 (xfQ_trans fr f3)
      by_cases hg : (1000 : Int32) < nI (i + 1)
      · simp only [ax_W_cons, ax_I, ax_cmp, ax_ii, ax_ll, ax_li, ax_st1, ax_st2, ax_kl, ax_k2, ax_fit, ax_rtok, List.getElem?_cons_zero, List.getElem?_cons_succ, List.length_cons, List.length_nil, List.set_cons_zero, List.set_cons_succ, Nat.reduceAdd, Nat.reduceDiv, Nat.reduceMod, Nat.reduceMul, Nat.reduceLT, Nat.reduceLeDiff, Int32.reduceOfInt, Int64.reduceOfInt, true_and, and_true, and_self, true_or, or_true, false_implies, true_implies, not_false_eq_true, not_true_eq_false, Value.category, Nat.reduceEqDiff, Option.toList, List.cons_append, List.nil_append, List.drop_succ_cons, List.drop_zero, ax_qq_eq, ax_t_770, i4]
        rw [ax_j_770_19]
        simp only [ax_W_cons, ax_I, ax_cmp, ax_ii, ax_ll, ax_li, ax_st1, ax_st2, ax_kl, ax_k2, ax_fit, ax_rtok, List.getElem?_cons_zero, List.getElem?_cons_succ, List.length_cons, List.length_nil, List.set_cons_zero, List.set_cons_succ, Nat.reduceAdd, Nat.reduceDiv, Nat.reduceMod, Nat.reduceMul, Nat.reduceLT, Nat.reduceLeDiff, Int32.reduceOfInt, Int64.reduceOfInt, true_and, and_true, and_self, true_or, or_true, false_implies, true_implies, not_false_eq_true, not_true_eq_false, Value.category, Nat.reduceEqDiff, Option.toList, List.cons_append, List.nil_append, List.drop_succ_cons, List.drop_zero, ax_qq_eq, ax_t_770, hg]
        exact F
      · simp only [ax_W_cons, ax_I, ax_cmp, ax_ii, ax_ll, ax_li, ax_st1, ax_st2, ax_kl, ax_k2, ax_fit, ax_rtok, List.getElem?_cons_zero, List.getElem?_cons_succ, List.length_cons, List.length_nil, List.set_cons_zero, List.set_cons_succ, Nat.reduceAdd, Nat.reduceDiv, Nat.reduceMod, Nat.reduceMul, Nat.reduceLT, Nat.reduceLeDiff, Int32.reduceOfInt, Int64.reduceOfInt, true_and, and_true, and_self, true_or, or_true, false_implies, true_implies, not_false_eq_true, not_true_eq_false, Value.category, Nat.reduceEqDiff, Option.toList, List.cons_append, List.nil_append, List.drop_succ_cons, List.drop_zero, ax_qq_eq, ax_t_770, i4]
        rw [ax_j_770_19]
        simp only [ax_W_cons, ax_I, ax_cmp, ax_ii, ax_ll, ax_li, ax_st1, ax_st2, ax_kl, ax_k2, ax_fit, ax_rtok, List.getElem?_cons_zero, List.getElem?_cons_succ, List.length_cons, List.length_nil, List.set_cons_zero, List.set_cons_succ, Nat.reduceAdd, Nat.reduceDiv, Nat.reduceMod, Nat.reduceMul, Nat.reduceLT, Nat.reduceLeDiff, Int32.reduceOfInt, Int64.reduceOfInt, true_and, and_true, and_self, true_or, or_true, false_implies, true_implies, not_false_eq_true, not_true_eq_false, Value.category, Nat.reduceEqDiff, Option.toList, List.cons_append, List.nil_append, List.drop_succ_cons, List.drop_zero, ax_qq_eq, ax_t_770, hg]
        exact F
end TT
