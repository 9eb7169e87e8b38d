/-! the reference: the levels above the sums, and a part -/
section TT
variable {n sl : Nat} {t : zTp} {c : rC} {fh : Int32}
/-- and, or -/
theorem rCt_0 {D dp : Nat} {P : Nat → zR} (hal : ax_al n = 178) (ht : zT_ok t) (hD : 3 ≤ D) (hP : zgo t P) (hC : rCt n sl t c fh D 1440 [.ref 159, .int (nI dp)] P) : rCt n sl t c fh (D + 1) 1439 [.ref 159, .int (nI dp)] (zlv t P 0 (zfu 0)) := by
  intro d es a v op ar Q hd E hcd hfh hok hfail
  obtain ⟨d, rfl⟩ : ∃ z, d = z + 4 := ⟨d - 4, by omega⟩
  have hL := ht.1
  have c10 : ¬ (1 : Int32) = 0 := by decide
  have stop : ∀ v2' es2 a2 fl2 v2 op2 ar2, rE es2 t c a2 fl2 v2 op2 ar2 → rFl fl2 → Q none es2 → ax_W (d + 4) n sl 1439 [(1, .aload 0), (2, .iconst 18), (3, .invokeinterface 1419 9), (3, .ifCond .ne 23), (1, .aload 0), (2, .iconst 19), (3, .invokeinterface 1419 9), (3, .ifCond .eq 64)] 5 [some (.ref 159), some (.int (nI dp)), v2'] [] n sl es2 (ax_qq n sl Q) := by
    intro v2' es2 a2 fl2 v2 op2 ar2 E2 f2 hq
    simp only [ax_W_cons, ax_I, ax_cmp, ax_ii, ax_ll, ax_li, ax_st1, ax_st2, ax_kl, ax_k2, ax_fit, ax_rtok, List.getElem?_cons_zero, List.getElem?_cons_succ, List.length_cons, List.length_nil, List.set_cons_zero, List.set_cons_succ, Nat.reduceAdd, Nat.reduceDiv, Nat.reduceMod, Nat.reduceMul, Nat.reduceLT, Nat.reduceLeDiff, Int32.reduceOfInt, Int64.reduceOfInt, true_and, and_true, and_self, true_or, or_true, false_implies, true_implies, not_false_eq_true, not_true_eq_false, Value.category, Nat.reduceEqDiff, Option.toList, List.cons_append, List.nil_append, List.drop_succ_cons, List.drop_zero, ax_qq_eq, ax_t_1439]
    refine ax_inv_of (Nat.le_of_ble_eq_true rfl) (Nat.le_of_ble_eq_true rfl) (fun _ => rS_rcv hal E2.1 _) (fun h => absurd h (by decide)) (Nat.le_refl _) (Nat.le_refl _) (mk_isWord (x := 18) hal ht E2.1 (by decide) ?_)
    rw [decide_eq_false (fun z => f2.1 z.1)]
    simp only [ax_W_cons, ax_I, ax_cmp, ax_ii, ax_ll, ax_li, ax_st1, ax_st2, ax_kl, ax_k2, ax_fit, ax_rtok, List.getElem?_cons_zero, List.getElem?_cons_succ, List.length_cons, List.length_nil, List.set_cons_zero, List.set_cons_succ, Nat.reduceAdd, Nat.reduceDiv, Nat.reduceMod, Nat.reduceMul, Nat.reduceLT, Nat.reduceLeDiff, Int32.reduceOfInt, Int64.reduceOfInt, true_and, and_true, and_self, true_or, or_true, false_implies, true_implies, not_false_eq_true, not_true_eq_false, Value.category, Nat.reduceEqDiff, Option.toList, List.cons_append, List.nil_append, List.drop_succ_cons, List.drop_zero, ax_qq_eq, ax_t_1439, kx_bf]
    refine ax_inv_of (Nat.le_of_ble_eq_true rfl) (Nat.le_of_ble_eq_true rfl) (fun _ => rS_rcv hal E2.1 _) (fun h => absurd h (by decide)) (Nat.le_refl _) (Nat.le_refl _) (mk_isWord (x := 19) hal ht E2.1 (by decide) ?_)
    rw [decide_eq_false (fun z => f2.1 z.1)]
    simp only [ax_W_cons, ax_I, ax_cmp, ax_ii, ax_ll, ax_li, ax_st1, ax_st2, ax_kl, ax_k2, ax_fit, ax_rtok, List.getElem?_cons_zero, List.getElem?_cons_succ, List.length_cons, List.length_nil, List.set_cons_zero, List.set_cons_succ, Nat.reduceAdd, Nat.reduceDiv, Nat.reduceMod, Nat.reduceMul, Nat.reduceLT, Nat.reduceLeDiff, Int32.reduceOfInt, Int64.reduceOfInt, true_and, and_true, and_self, true_or, or_true, false_implies, true_implies, not_false_eq_true, not_true_eq_false, Value.category, Nat.reduceEqDiff, Option.toList, List.cons_append, List.nil_append, List.drop_succ_cons, List.drop_zero, ax_qq_eq, ax_t_1439, ax_j_1439_64, ax_n_1439_64, kx_bf]
    exact hq
  refine ax_Mt_go (m := ax_m_11_31) (ls := [some (.ref 159), some (.int (nI dp)), none]) rfl ax_b_1439_0 (Nat.le_of_ble_eq_true rfl) rfl ?_
  simp only [ax_W_cons, ax_I, ax_cmp, ax_ii, ax_ll, ax_li, ax_st1, ax_st2, ax_kl, ax_k2, ax_fit, ax_rtok, List.getElem?_cons_zero, List.getElem?_cons_succ, List.length_cons, List.length_nil, List.set_cons_zero, List.set_cons_succ, Nat.reduceAdd, Nat.reduceDiv, Nat.reduceMod, Nat.reduceMul, Nat.reduceLT, Nat.reduceLeDiff, Int32.reduceOfInt, Int64.reduceOfInt, true_and, and_true, and_self, true_or, or_true, false_implies, true_implies, not_false_eq_true, not_true_eq_false, Value.category, Nat.reduceEqDiff, Option.toList, List.cons_append, List.nil_append, List.drop_succ_cons, List.drop_zero, ax_qq_eq, ax_t_1439]
  refine ax_inv_of (Nat.le_of_ble_eq_true rfl) (Nat.le_of_ble_eq_true rfl) (fun _ => rS_rcv hal E.1 _) (fun h => absurd h (by decide)) (Nat.le_refl _) (Nat.le_refl _) (hC _ es a v op ar _ (by omega) E hcd hfh ?_ ?_)
  rotate_left
  · intro x es1 cd op' ar' hx E1 f1 hc1 hl1 g1
    simp only [ax_W_cons, ax_I, ax_cmp, ax_ii, ax_ll, ax_li, ax_st1, ax_st2, ax_kl, ax_k2, ax_fit, ax_rtok, List.getElem?_cons_zero, List.getElem?_cons_succ, List.length_cons, List.length_nil, List.set_cons_zero, List.set_cons_succ, Nat.reduceAdd, Nat.reduceDiv, Nat.reduceMod, Nat.reduceMul, Nat.reduceLT, Nat.reduceLeDiff, Int32.reduceOfInt, Int64.reduceOfInt, true_and, and_true, and_self, true_or, or_true, false_implies, true_implies, not_false_eq_true, not_true_eq_false, Value.category, Nat.reduceEqDiff, Option.toList, List.cons_append, List.nil_append, List.drop_succ_cons, List.drop_zero, ax_qq_eq, ax_t_1439]
    rw [ax_n_1439_5]
    refine stop _ es1 _ _ _ _ _ E1 f1 (hfail x es1 cd op' ar' ?_ E1 f1 hc1 hl1 g1)
    unfold zlv
    rw [hx]
  intro r0 es1 hr0 E1 f1
  have hzl : zlv t P 0 (zfu 0) a = zlp t P 0 1000 r0.1 r0.2 := by
    unfold zlv
    rw [hr0]
    rfl
  obtain ⟨g1, g2, g3⟩ := (hP a).1 _ hr0
  rw [hzl] at hok hfail
  have LL : ∀ f es2 a2 c2 v2', 1001 ≤ f + a2 → a ≤ a2 → c2.length ≤ a2 - a → zlp t P 0 f a2 c2 = zlp t P 0 1000 r0.1 r0.2 → rE es2 t c a2 0 (v.1 + c2.length, v.2) (zapp op (1100 + v.1) (c2.map zop)) (zapp ar (1100 + v.1) (c2.map zar)) → rfE es es2 → ax_W (d + 4) n sl 1439 [(1, .aload 0), (2, .iconst 18), (3, .invokeinterface 1419 9), (3, .ifCond .ne 23), (1, .aload 0), (2, .iconst 19), (3, .invokeinterface 1419 9), (3, .ifCond .eq 64)] 5 [some (.ref 159), some (.int (nI dp)), v2'] [] n sl es2 (ax_qq n sl Q) := by
    intro f
    induction f with
    | zero =>
      intro es2 a2 c2 v2' h1 h2 h3 hz E2
      have := zpre_le E2.1.2.2.2
      omega
    | succ f ih =>
      intro es2 a2 c2 v2' h1 h2 h3 hz E2 f2
      rw [zlp] at hz
      have w0 : es2 159 = _ := E2.1.1
      have a4 : nI a2 + 1 = nI (a2 + 1) := (nI_succ a2).symm
      -- a sign of this kind
      have more : (zkd t a2 = 18 ∨ zkd t a2 = 19) → ax_J ax_W (d + 4) n sl 1439 23 [some (.ref 159), some (.int (nI dp)), v2'] [] n sl es2 (ax_qq n sl Q) := by
        intro hk
        rw [if_pos (zlev_0.mpr hk)] at hz
        simp only [ax_W_cons, ax_I, ax_cmp, ax_ii, ax_ll, ax_li, ax_st1, ax_st2, ax_kl, ax_k2, ax_fit, ax_rtok, List.getElem?_cons_zero, List.getElem?_cons_succ, List.length_cons, List.length_nil, List.set_cons_zero, List.set_cons_succ, Nat.reduceAdd, Nat.reduceDiv, Nat.reduceMod, Nat.reduceMul, Nat.reduceLT, Nat.reduceLeDiff, Int32.reduceOfInt, Int64.reduceOfInt, true_and, and_true, and_self, true_or, or_true, false_implies, true_implies, not_false_eq_true, not_true_eq_false, Value.category, Nat.reduceEqDiff, Option.toList, List.cons_append, List.nil_append, List.drop_succ_cons, List.drop_zero, ax_qq_eq, ax_t_1439, ax_j_1439_23, ax_n_1439_23]
        refine ax_inv_of (Nat.le_of_ble_eq_true rfl) (Nat.le_of_ble_eq_true rfl) (fun _ => rS_rcv hal E2.1 _) (fun h => absurd h (by decide)) (Nat.le_refl _) (Nat.le_refl _) (mk_isWord (x := 18) hal ht E2.1 (by decide) ?_)
        generalize hB : decide ((0 : Int32) = 0 ∧ zkd t a2 = 18) = b
        simp only [ax_W_cons, ax_I, ax_cmp, ax_ii, ax_ll, ax_li, ax_st1, ax_st2, ax_kl, ax_k2, ax_fit, ax_rtok, List.getElem?_cons_zero, List.getElem?_cons_succ, List.length_cons, List.length_nil, List.set_cons_zero, List.set_cons_succ, Nat.reduceAdd, Nat.reduceDiv, Nat.reduceMod, Nat.reduceMul, Nat.reduceLT, Nat.reduceLeDiff, Int32.reduceOfInt, Int64.reduceOfInt, true_and, and_true, and_self, true_or, or_true, false_implies, true_implies, not_false_eq_true, not_true_eq_false, Value.category, Nat.reduceEqDiff, Option.toList, List.cons_append, List.nil_append, List.drop_succ_cons, List.drop_zero, ax_qq_eq, ax_t_1439, w0, mo_f, hal, a4]
        obtain ⟨es3, he3⟩ : ∃ x, x = ax_up es2 159 (.inr (11, mo_f 0 0 c.1 (nI (a2 + 1)) 0 (nI (v.1 + c2.length)) c.2.1 (nI v.2.1) v.2.2.1 v.2.2.2 c.2.2.1 c.2.2.2)) := ⟨_, rfl⟩
        have f3 : ∀ j, j ≠ 159 → es3 j = es2 j := fun j hj => by rw [he3]; exact ax_up_ne _ _ hj
        have E3 : rE es3 t c (a2 + 1) 0 (v.1 + c2.length, v.2) (zapp op (1100 + v.1) (c2.map zop)) (zapp ar (1100 + v.1) (c2.map zar)) := rE_1 E2 (rS_up E2.1 (by rw [he3]; exact ax_up_same ..) (fun j hj _ => f3 j hj) (zpre_s E2.1.2.2.2 (by omega))) f3
        unfold mo_f at he3
        rw [← he3]
        refine ax_inv_of (Nat.le_of_ble_eq_true rfl) (Nat.le_of_ble_eq_true rfl) (fun _ => rS_rcv hal E3.1 _) (fun h => absurd h (by decide)) (Nat.le_refl _) (Nat.le_refl _) (hC _ es3 (a2 + 1) _ _ _ _ (by omega) E3 (by dsimp only; omega) hfh ?_ ?_)
        · intro r3 es4 hr3 E4 f4
          rw [hr3] at hz
          obtain ⟨q1, q2, q3⟩ := (hP (a2 + 1)).1 _ hr3
          have hb := zpre_le E4.1.2.2.2
          have elen : (c2 ++ (r3.2 ++ [zneg (zkd t a2)])).length = c2.length + r3.2.length + 1 := by
            rw [List.length_append, List.length_append, List.length_singleton]
            omega
          have fin : ∀ (x y : Int32), zop (zneg (zkd t a2)) = x → zar (zneg (zkd t a2)) = y → ∀ es5 v3', rE es5 t c r3.1 0 (v.1 + c2.length + r3.2.length + 1, v.2) (zapp (zapp (zapp op (1100 + v.1) (c2.map zop)) (1100 + (v.1 + c2.length)) (r3.2.map zop)) (1100 + (v.1 + c2.length + r3.2.length)) [x]) (zapp (zapp (zapp ar (1100 + v.1) (c2.map zar)) (1100 + (v.1 + c2.length)) (r3.2.map zar)) (1100 + (v.1 + c2.length + r3.2.length)) [y]) → rfE es4 es5 → ax_W (d + 4) n sl 1439 [(1, .aload 0), (2, .iconst 18), (3, .invokeinterface 1419 9), (3, .ifCond .ne 23), (1, .aload 0), (2, .iconst 19), (3, .invokeinterface 1419 9), (3, .ifCond .eq 64)] 5 [some (.ref 159), some (.int (nI dp)), v3'] [] n sl es5 (ax_qq n sl Q) := by
            intro x y hx hy es5 v3' E5 f5
            refine ih es5 r3.1 (c2 ++ (r3.2 ++ [zneg (zkd t a2)])) v3' (by omega) (by omega) (by rw [elen]; omega) hz ?_ (rfE_trans f2 (rfE_trans (rfE_1 f3) (rfE_trans f4 f5)))
            rw [rapp3 (z := zneg (zkd t a2)) op hx, rapp3 (z := zneg (zkd t a2)) ar hy] at E5
            rw [elen, show v.1 + (c2.length + r3.2.length + 1) = v.1 + c2.length + r3.2.length + 1 by omega]
            exact E5
          cases b
          · have hk' : zkd t a2 = 19 := by
              rcases hk with z | z
              · exact absurd ⟨rfl, z⟩ (of_decide_eq_false hB)
              · exact z
            simp only [ax_W_cons, ax_I, ax_cmp, ax_ii, ax_ll, ax_li, ax_st1, ax_st2, ax_kl, ax_k2, ax_fit, ax_rtok, List.getElem?_cons_zero, List.getElem?_cons_succ, List.length_cons, List.length_nil, List.set_cons_zero, List.set_cons_succ, Nat.reduceAdd, Nat.reduceDiv, Nat.reduceMod, Nat.reduceMul, Nat.reduceLT, Nat.reduceLeDiff, Int32.reduceOfInt, Int64.reduceOfInt, true_and, and_true, and_self, true_or, or_true, false_implies, true_implies, not_false_eq_true, not_true_eq_false, Value.category, Nat.reduceEqDiff, Option.toList, List.cons_append, List.nil_append, List.drop_succ_cons, List.drop_zero, ax_qq_eq, ax_t_1439, ax_j_1439_55, ax_n_1439_55, ax_j_1439_57, ax_n_1439_57, kx_bf]
            refine ax_inv_of (Nat.le_of_ble_eq_true rfl) (Nat.le_of_ble_eq_true rfl) (fun _ => rS_rcv hal E4.1 _) (fun h => absurd h (by decide)) (Nat.le_refl _) (Nat.le_refl _) (mk_emit hal E4 (by dsimp only; omega) _ _ ?_)
            intro es5 E5 f5
            simp only [ax_W_cons, ax_I, ax_cmp, ax_ii, ax_ll, ax_li, ax_st1, ax_st2, ax_kl, ax_k2, ax_fit, ax_rtok, List.getElem?_cons_zero, List.getElem?_cons_succ, List.length_cons, List.length_nil, List.set_cons_zero, List.set_cons_succ, Nat.reduceAdd, Nat.reduceDiv, Nat.reduceMod, Nat.reduceMul, Nat.reduceLT, Nat.reduceLeDiff, Int32.reduceOfInt, Int64.reduceOfInt, true_and, and_true, and_self, true_or, or_true, false_implies, true_implies, not_false_eq_true, not_true_eq_false, Value.category, Nat.reduceEqDiff, Option.toList, List.cons_append, List.nil_append, List.drop_succ_cons, List.drop_zero, ax_qq_eq, ax_t_1439]
            rw [ax_j_1439_5]
            exact fin _ _ (by rw [hk']; decide) (by rw [hk']; decide) es5 _ E5 f5
          · have hk' : zkd t a2 = 18 := (of_decide_eq_true hB).2
            simp only [ax_W_cons, ax_I, ax_cmp, ax_ii, ax_ll, ax_li, ax_st1, ax_st2, ax_kl, ax_k2, ax_fit, ax_rtok, List.getElem?_cons_zero, List.getElem?_cons_succ, List.length_cons, List.length_nil, List.set_cons_zero, List.set_cons_succ, Nat.reduceAdd, Nat.reduceDiv, Nat.reduceMod, Nat.reduceMul, Nat.reduceLT, Nat.reduceLeDiff, Int32.reduceOfInt, Int64.reduceOfInt, true_and, and_true, and_self, true_or, or_true, false_implies, true_implies, not_false_eq_true, not_true_eq_false, Value.category, Nat.reduceEqDiff, Option.toList, List.cons_append, List.nil_append, List.drop_succ_cons, List.drop_zero, ax_qq_eq, ax_t_1439, ax_j_1439_57, ax_n_1439_57, kx_bt, c10]
            refine ax_inv_of (Nat.le_of_ble_eq_true rfl) (Nat.le_of_ble_eq_true rfl) (fun _ => rS_rcv hal E4.1 _) (fun h => absurd h (by decide)) (Nat.le_refl _) (Nat.le_refl _) (mk_emit hal E4 (by dsimp only; omega) _ _ ?_)
            intro es5 E5 f5
            simp only [ax_W_cons, ax_I, ax_cmp, ax_ii, ax_ll, ax_li, ax_st1, ax_st2, ax_kl, ax_k2, ax_fit, ax_rtok, List.getElem?_cons_zero, List.getElem?_cons_succ, List.length_cons, List.length_nil, List.set_cons_zero, List.set_cons_succ, Nat.reduceAdd, Nat.reduceDiv, Nat.reduceMod, Nat.reduceMul, Nat.reduceLT, Nat.reduceLeDiff, Int32.reduceOfInt, Int64.reduceOfInt, true_and, and_true, and_self, true_or, or_true, false_implies, true_implies, not_false_eq_true, not_true_eq_false, Value.category, Nat.reduceEqDiff, Option.toList, List.cons_append, List.nil_append, List.drop_succ_cons, List.drop_zero, ax_qq_eq, ax_t_1439]
            rw [ax_j_1439_5]
            exact fin _ _ (by rw [hk']; decide) (by rw [hk']; decide) es5 _ E5 f5
        · intro x es4 cd op' ar' hx E4 f4 hc4 hl4 g4
          rw [hx] at hz
          dsimp only at hc4
          have hx2 := ((hP (a2 + 1)).2 _ hx).2.1
          have hb := zpre_le E4.1.2.2.2
          have fin : ∀ (x1 x2 : Int32) es5 v3', rE es5 t c x.2 (nI (x.1 + 16 * zpl t x.2)) (cd + 1, v.2) (zapp op' (1100 + cd) [x1]) (zapp ar' (1100 + cd) [x2]) → rfE es4 es5 → ax_W (d + 4) n sl 1439 [(1, .aload 0), (2, .iconst 18), (3, .invokeinterface 1419 9), (3, .ifCond .ne 23), (1, .aload 0), (2, .iconst 19), (3, .invokeinterface 1419 9), (3, .ifCond .eq 64)] 5 [some (.ref 159), some (.int (nI dp)), v3'] [] n sl es5 (ax_qq n sl Q) := by
            intro x1 x2 es5 v3' E5 f5
            exact stop _ es5 _ _ _ _ _ E5 f4 (hfail x es5 _ _ _ hz.symm E5 f4 (by omega) (rlow_trans (rlow_app _ _ _ _ _) (rlow_trans hl4 (rlow_app _ _ _ _ _))) (rfE_trans f2 (rfE_trans (rfE_1 f3) (rfE_trans g4 f5))))
          cases b
          · simp only [ax_W_cons, ax_I, ax_cmp, ax_ii, ax_ll, ax_li, ax_st1, ax_st2, ax_kl, ax_k2, ax_fit, ax_rtok, List.getElem?_cons_zero, List.getElem?_cons_succ, List.length_cons, List.length_nil, List.set_cons_zero, List.set_cons_succ, Nat.reduceAdd, Nat.reduceDiv, Nat.reduceMod, Nat.reduceMul, Nat.reduceLT, Nat.reduceLeDiff, Int32.reduceOfInt, Int64.reduceOfInt, true_and, and_true, and_self, true_or, or_true, false_implies, true_implies, not_false_eq_true, not_true_eq_false, Value.category, Nat.reduceEqDiff, Option.toList, List.cons_append, List.nil_append, List.drop_succ_cons, List.drop_zero, ax_qq_eq, ax_t_1439, ax_j_1439_55, ax_n_1439_55, ax_j_1439_57, ax_n_1439_57, kx_bf]
            refine ax_inv_of (Nat.le_of_ble_eq_true rfl) (Nat.le_of_ble_eq_true rfl) (fun _ => rS_rcv hal E4.1 _) (fun h => absurd h (by decide)) (Nat.le_refl _) (Nat.le_refl _) (mk_emit hal E4 (by dsimp only; omega) _ _ ?_)
            intro es5 E5 f5
            simp only [ax_W_cons, ax_I, ax_cmp, ax_ii, ax_ll, ax_li, ax_st1, ax_st2, ax_kl, ax_k2, ax_fit, ax_rtok, List.getElem?_cons_zero, List.getElem?_cons_succ, List.length_cons, List.length_nil, List.set_cons_zero, List.set_cons_succ, Nat.reduceAdd, Nat.reduceDiv, Nat.reduceMod, Nat.reduceMul, Nat.reduceLT, Nat.reduceLeDiff, Int32.reduceOfInt, Int64.reduceOfInt, true_and, and_true, and_self, true_or, or_true, false_implies, true_implies, not_false_eq_true, not_true_eq_false, Value.category, Nat.reduceEqDiff, Option.toList, List.cons_append, List.nil_append, List.drop_succ_cons, List.drop_zero, ax_qq_eq, ax_t_1439]
            rw [ax_j_1439_5]
            exact fin _ _ es5 _ E5 f5
          · simp only [ax_W_cons, ax_I, ax_cmp, ax_ii, ax_ll, ax_li, ax_st1, ax_st2, ax_kl, ax_k2, ax_fit, ax_rtok, List.getElem?_cons_zero, List.getElem?_cons_succ, List.length_cons, List.length_nil, List.set_cons_zero, List.set_cons_succ, Nat.reduceAdd, Nat.reduceDiv, Nat.reduceMod, Nat.reduceMul, Nat.reduceLT, Nat.reduceLeDiff, Int32.reduceOfInt, Int64.reduceOfInt, true_and, and_true, and_self, true_or, or_true, false_implies, true_implies, not_false_eq_true, not_true_eq_false, Value.category, Nat.reduceEqDiff, Option.toList, List.cons_append, List.nil_append, List.drop_succ_cons, List.drop_zero, ax_qq_eq, ax_t_1439, ax_j_1439_57, ax_n_1439_57, kx_bt, c10]
            refine ax_inv_of (Nat.le_of_ble_eq_true rfl) (Nat.le_of_ble_eq_true rfl) (fun _ => rS_rcv hal E4.1 _) (fun h => absurd h (by decide)) (Nat.le_refl _) (Nat.le_refl _) (mk_emit hal E4 (by dsimp only; omega) _ _ ?_)
            intro es5 E5 f5
            simp only [ax_W_cons, ax_I, ax_cmp, ax_ii, ax_ll, ax_li, ax_st1, ax_st2, ax_kl, ax_k2, ax_fit, ax_rtok, List.getElem?_cons_zero, List.getElem?_cons_succ, List.length_cons, List.length_nil, List.set_cons_zero, List.set_cons_succ, Nat.reduceAdd, Nat.reduceDiv, Nat.reduceMod, Nat.reduceMul, Nat.reduceLT, Nat.reduceLeDiff, Int32.reduceOfInt, Int64.reduceOfInt, true_and, and_true, and_self, true_or, or_true, false_implies, true_implies, not_false_eq_true, not_true_eq_false, Value.category, Nat.reduceEqDiff, Option.toList, List.cons_append, List.nil_append, List.drop_succ_cons, List.drop_zero, ax_qq_eq, ax_t_1439]
            rw [ax_j_1439_5]
            exact fin _ _ es5 _ E5 f5
      simp only [ax_W_cons, ax_I, ax_cmp, ax_ii, ax_ll, ax_li, ax_st1, ax_st2, ax_kl, ax_k2, ax_fit, ax_rtok, List.getElem?_cons_zero, List.getElem?_cons_succ, List.length_cons, List.length_nil, List.set_cons_zero, List.set_cons_succ, Nat.reduceAdd, Nat.reduceDiv, Nat.reduceMod, Nat.reduceMul, Nat.reduceLT, Nat.reduceLeDiff, Int32.reduceOfInt, Int64.reduceOfInt, true_and, and_true, and_self, true_or, or_true, false_implies, true_implies, not_false_eq_true, not_true_eq_false, Value.category, Nat.reduceEqDiff, Option.toList, List.cons_append, List.nil_append, List.drop_succ_cons, List.drop_zero, ax_qq_eq, ax_t_1439]
      refine ax_inv_of (Nat.le_of_ble_eq_true rfl) (Nat.le_of_ble_eq_true rfl) (fun _ => rS_rcv hal E2.1 _) (fun h => absurd h (by decide)) (Nat.le_refl _) (Nat.le_refl _) (mk_isWord (x := 18) hal ht E2.1 (by decide) ?_)
      by_cases h18 : zkd t a2 = 18
      · rw [decide_eq_true ⟨rfl, h18⟩]
        have more := more (Or.inl h18)
        simp only [ax_W_cons, ax_I, ax_cmp, ax_ii, ax_ll, ax_li, ax_st1, ax_st2, ax_kl, ax_k2, ax_fit, ax_rtok, List.getElem?_cons_zero, List.getElem?_cons_succ, List.length_cons, List.length_nil, List.set_cons_zero, List.set_cons_succ, Nat.reduceAdd, Nat.reduceDiv, Nat.reduceMod, Nat.reduceMul, Nat.reduceLT, Nat.reduceLeDiff, Int32.reduceOfInt, Int64.reduceOfInt, true_and, and_true, and_self, true_or, or_true, false_implies, true_implies, not_false_eq_true, not_true_eq_false, Value.category, Nat.reduceEqDiff, Option.toList, List.cons_append, List.nil_append, List.drop_succ_cons, List.drop_zero, ax_qq_eq, ax_t_1439, kx_bt, c10]
        exact more
      · rw [decide_eq_false (fun z => h18 z.2)]
        simp only [ax_W_cons, ax_I, ax_cmp, ax_ii, ax_ll, ax_li, ax_st1, ax_st2, ax_kl, ax_k2, ax_fit, ax_rtok, List.getElem?_cons_zero, List.getElem?_cons_succ, List.length_cons, List.length_nil, List.set_cons_zero, List.set_cons_succ, Nat.reduceAdd, Nat.reduceDiv, Nat.reduceMod, Nat.reduceMul, Nat.reduceLT, Nat.reduceLeDiff, Int32.reduceOfInt, Int64.reduceOfInt, true_and, and_true, and_self, true_or, or_true, false_implies, true_implies, not_false_eq_true, not_true_eq_false, Value.category, Nat.reduceEqDiff, Option.toList, List.cons_append, List.nil_append, List.drop_succ_cons, List.drop_zero, ax_qq_eq, ax_t_1439, kx_bf]
        refine ax_inv_of (Nat.le_of_ble_eq_true rfl) (Nat.le_of_ble_eq_true rfl) (fun _ => rS_rcv hal E2.1 _) (fun h => absurd h (by decide)) (Nat.le_refl _) (Nat.le_refl _) (mk_isWord (x := 19) hal ht E2.1 (by decide) ?_)
        by_cases h19 : zkd t a2 = 19
        · rw [decide_eq_true ⟨rfl, h19⟩]
          have more := more (Or.inr h19)
          rw [ax_j_1439_23, ← ax_n_1439_23] at more
          simp only [ax_W_cons, ax_I, ax_cmp, ax_ii, ax_ll, ax_li, ax_st1, ax_st2, ax_kl, ax_k2, ax_fit, ax_rtok, List.getElem?_cons_zero, List.getElem?_cons_succ, List.length_cons, List.length_nil, List.set_cons_zero, List.set_cons_succ, Nat.reduceAdd, Nat.reduceDiv, Nat.reduceMod, Nat.reduceMul, Nat.reduceLT, Nat.reduceLeDiff, Int32.reduceOfInt, Int64.reduceOfInt, true_and, and_true, and_self, true_or, or_true, false_implies, true_implies, not_false_eq_true, not_true_eq_false, Value.category, Nat.reduceEqDiff, Option.toList, List.cons_append, List.nil_append, List.drop_succ_cons, List.drop_zero, ax_qq_eq, ax_t_1439, kx_bt, c10]
          exact more
        · rw [decide_eq_false (fun z => h19 z.2)]
          rw [if_neg (fun z => (zlev_0.mp z).elim h18 h19)] at hz
          simp only [ax_W_cons, ax_I, ax_cmp, ax_ii, ax_ll, ax_li, ax_st1, ax_st2, ax_kl, ax_k2, ax_fit, ax_rtok, List.getElem?_cons_zero, List.getElem?_cons_succ, List.length_cons, List.length_nil, List.set_cons_zero, List.set_cons_succ, Nat.reduceAdd, Nat.reduceDiv, Nat.reduceMod, Nat.reduceMul, Nat.reduceLT, Nat.reduceLeDiff, Int32.reduceOfInt, Int64.reduceOfInt, true_and, and_true, and_self, true_or, or_true, false_implies, true_implies, not_false_eq_true, not_true_eq_false, Value.category, Nat.reduceEqDiff, Option.toList, List.cons_append, List.nil_append, List.drop_succ_cons, List.drop_zero, ax_qq_eq, ax_t_1439, ax_j_1439_64, ax_n_1439_64, kx_bf]
          exact hok (a2, c2) es2 hz.symm E2 f2
  simp only [ax_W_cons, ax_I, ax_cmp, ax_ii, ax_ll, ax_li, ax_st1, ax_st2, ax_kl, ax_k2, ax_fit, ax_rtok, List.getElem?_cons_zero, List.getElem?_cons_succ, List.length_cons, List.length_nil, List.set_cons_zero, List.set_cons_succ, Nat.reduceAdd, Nat.reduceDiv, Nat.reduceMod, Nat.reduceMul, Nat.reduceLT, Nat.reduceLeDiff, Int32.reduceOfInt, Int64.reduceOfInt, true_and, and_true, and_self, true_or, or_true, false_implies, true_implies, not_false_eq_true, not_true_eq_false, Value.category, Nat.reduceEqDiff, Option.toList, List.cons_append, List.nil_append, List.drop_succ_cons, List.drop_zero, ax_qq_eq, ax_t_1439]
  rw [ax_n_1439_5]
  exact LL 1000 es1 r0.1 r0.2 _ (by omega) (by omega) g2 rfl E1 f1
/-- tests -/
theorem rCt_1 {D dp : Nat} {P : Nat → zR} (hal : ax_al n = 178) (ht : zT_ok t) (hD : 3 ≤ D) (hP : zgo t P) (hC : rCt n sl t c fh D 1441 [.ref 159, .int (nI dp)] P) : rCt n sl t c fh (D + 1) 1440 [.ref 159, .int (nI dp)] (zlv t P 1 (zfu 1)) := by
  intro d es a v op ar Q hd E hcd hfh hok hfail
  obtain ⟨d, rfl⟩ : ∃ z, d = z + 4 := ⟨d - 4, by omega⟩
  have hL := ht.1
  have c10 : ¬ (1 : Int32) = 0 := by decide
  refine ax_Mt_go (m := ax_m_11_32) (ls := [some (.ref 159), some (.int (nI dp)), none]) rfl ax_b_1440_0 (Nat.le_of_ble_eq_true rfl) rfl ?_
  simp only [ax_W_cons, ax_I, ax_cmp, ax_ii, ax_ll, ax_li, ax_st1, ax_st2, ax_kl, ax_k2, ax_fit, ax_rtok, List.getElem?_cons_zero, List.getElem?_cons_succ, List.length_cons, List.length_nil, List.set_cons_zero, List.set_cons_succ, Nat.reduceAdd, Nat.reduceDiv, Nat.reduceMod, Nat.reduceMul, Nat.reduceLT, Nat.reduceLeDiff, Int32.reduceOfInt, Int64.reduceOfInt, true_and, and_true, and_self, true_or, or_true, false_implies, true_implies, not_false_eq_true, not_true_eq_false, Value.category, Nat.reduceEqDiff, Option.toList, List.cons_append, List.nil_append, List.drop_succ_cons, List.drop_zero, ax_qq_eq, ax_t_1440]
  refine ax_inv_of (Nat.le_of_ble_eq_true rfl) (Nat.le_of_ble_eq_true rfl) (fun _ => rS_rcv hal E.1 _) (fun h => absurd h (by decide)) (Nat.le_refl _) (Nat.le_refl _) (hC _ es a v op ar _ (by omega) E hcd hfh ?_ ?_)
  rotate_left
  · intro x es1 cd op' ar' hx E1 f1 hc1 hl1 g1
    have hq := hfail x es1 cd op' ar' (by unfold zlv; rw [hx]) E1 f1 hc1 hl1 g1
    simp only [ax_W_cons, ax_I, ax_cmp, ax_ii, ax_ll, ax_li, ax_st1, ax_st2, ax_kl, ax_k2, ax_fit, ax_rtok, List.getElem?_cons_zero, List.getElem?_cons_succ, List.length_cons, List.length_nil, List.set_cons_zero, List.set_cons_succ, Nat.reduceAdd, Nat.reduceDiv, Nat.reduceMod, Nat.reduceMul, Nat.reduceLT, Nat.reduceLeDiff, Int32.reduceOfInt, Int64.reduceOfInt, true_and, and_true, and_self, true_or, or_true, false_implies, true_implies, not_false_eq_true, not_true_eq_false, Value.category, Nat.reduceEqDiff, Option.toList, List.cons_append, List.nil_append, List.drop_succ_cons, List.drop_zero, ax_qq_eq, ax_t_1440]
    refine ax_inv_of (Nat.le_of_ble_eq_true rfl) (Nat.le_of_ble_eq_true rfl) (fun _ => rS_rcv hal E1.1 _) (fun h => absurd h (by decide)) (Nat.le_refl _) (Nat.le_refl _) (mk_isSign (x := 60) hal ht E1.1 (by decide) (by decide) ?_)
    rw [decide_eq_false (fun z => f1.1 z.1)]
    simp only [ax_W_cons, ax_I, ax_cmp, ax_ii, ax_ll, ax_li, ax_st1, ax_st2, ax_kl, ax_k2, ax_fit, ax_rtok, List.getElem?_cons_zero, List.getElem?_cons_succ, List.length_cons, List.length_nil, List.set_cons_zero, List.set_cons_succ, Nat.reduceAdd, Nat.reduceDiv, Nat.reduceMod, Nat.reduceMul, Nat.reduceLT, Nat.reduceLeDiff, Int32.reduceOfInt, Int64.reduceOfInt, true_and, and_true, and_self, true_or, or_true, false_implies, true_implies, not_false_eq_true, not_true_eq_false, Value.category, Nat.reduceEqDiff, Option.toList, List.cons_append, List.nil_append, List.drop_succ_cons, List.drop_zero, ax_qq_eq, ax_t_1440]
    refine ax_inv_of (Nat.le_of_ble_eq_true rfl) (Nat.le_of_ble_eq_true rfl) (fun _ => rS_rcv hal E1.1 _) (fun h => absurd h (by decide)) (Nat.le_refl _) (Nat.le_refl _) (mk_hasSign (x := 60) hal ht E1.1 (by decide) (by decide) ?_ ?_)
    · intro es3 z
      exact absurd z f1.1
    intro _
    simp only [ax_W_cons, ax_I, ax_cmp, ax_ii, ax_ll, ax_li, ax_st1, ax_st2, ax_kl, ax_k2, ax_fit, ax_rtok, List.getElem?_cons_zero, List.getElem?_cons_succ, List.length_cons, List.length_nil, List.set_cons_zero, List.set_cons_succ, Nat.reduceAdd, Nat.reduceDiv, Nat.reduceMod, Nat.reduceMul, Nat.reduceLT, Nat.reduceLeDiff, Int32.reduceOfInt, Int64.reduceOfInt, true_and, and_true, and_self, true_or, or_true, false_implies, true_implies, not_false_eq_true, not_true_eq_false, Value.category, Nat.reduceEqDiff, Option.toList, List.cons_append, List.nil_append, List.drop_succ_cons, List.drop_zero, ax_qq_eq, ax_t_1440]
    refine ax_inv_of (Nat.le_of_ble_eq_true rfl) (Nat.le_of_ble_eq_true rfl) (fun _ => rS_rcv hal E1.1 _) (fun h => absurd h (by decide)) (Nat.le_refl _) (Nat.le_refl _) (mk_hasSign (x := 61) hal ht E1.1 (by decide) (by decide) ?_ ?_)
    · intro es3 z
      exact absurd z f1.1
    intro _
    simp only [ax_W_cons, ax_I, ax_cmp, ax_ii, ax_ll, ax_li, ax_st1, ax_st2, ax_kl, ax_k2, ax_fit, ax_rtok, List.getElem?_cons_zero, List.getElem?_cons_succ, List.length_cons, List.length_nil, List.set_cons_zero, List.set_cons_succ, Nat.reduceAdd, Nat.reduceDiv, Nat.reduceMod, Nat.reduceMul, Nat.reduceLT, Nat.reduceLeDiff, Int32.reduceOfInt, Int64.reduceOfInt, true_and, and_true, and_self, true_or, or_true, false_implies, true_implies, not_false_eq_true, not_true_eq_false, Value.category, Nat.reduceEqDiff, Option.toList, List.cons_append, List.nil_append, List.drop_succ_cons, List.drop_zero, ax_qq_eq, ax_t_1440, ax_j_1440_51, ax_n_1440_51]
    exact hq
  intro r0 es1 hr0 E1 f1
  obtain ⟨g1, g2, g3⟩ := (hP a).1 _ hr0
  have hzl : zlv t P 1 (zfu 1) a = zlp t P 1 1 r0.1 r0.2 := by
    unfold zlv
    rw [hr0]
    rfl
  rw [hzl, zlp] at hok hfail
  -- one more
  have more : ∀ b : Bool, (if b = true then zkd t r0.1 = 60 else zkd t r0.1 = 61) → ∀ es3, rS es3 t c (r0.1 + 1) 0 (v.1 + r0.2.length, v.2) → (∀ j, j ≠ 159 → es3 j = es1 j) → ax_J ax_W (d + 4) n sl 1440 30 [some (.ref 159), some (.int (nI dp)), some (.int (kx_b b))] [] n sl es3 (ax_qq n sl Q) := by
    intro b hk es3 S3 f3
    have hk2 : zkd t r0.1 = 60 ∨ zkd t r0.1 = 61 := by
      cases b
      · exact Or.inr hk
      · exact Or.inl hk
    rw [if_pos (zlev_1.mpr hk2)] at hok hfail
    have E3 := rE_1 E1 S3 f3
    simp only [ax_W_cons, ax_I, ax_cmp, ax_ii, ax_ll, ax_li, ax_st1, ax_st2, ax_kl, ax_k2, ax_fit, ax_rtok, List.getElem?_cons_zero, List.getElem?_cons_succ, List.length_cons, List.length_nil, List.set_cons_zero, List.set_cons_succ, Nat.reduceAdd, Nat.reduceDiv, Nat.reduceMod, Nat.reduceMul, Nat.reduceLT, Nat.reduceLeDiff, Int32.reduceOfInt, Int64.reduceOfInt, true_and, and_true, and_self, true_or, or_true, false_implies, true_implies, not_false_eq_true, not_true_eq_false, Value.category, Nat.reduceEqDiff, Option.toList, List.cons_append, List.nil_append, List.drop_succ_cons, List.drop_zero, ax_qq_eq, ax_t_1440, ax_j_1440_30, ax_n_1440_30]
    refine ax_inv_of (Nat.le_of_ble_eq_true rfl) (Nat.le_of_ble_eq_true rfl) (fun _ => rS_rcv hal E3.1 _) (fun h => absurd h (by decide)) (Nat.le_refl _) (Nat.le_refl _) (hC _ es3 (r0.1 + 1) _ _ _ _ (by omega) E3 (by dsimp only; omega) hfh ?_ ?_)
    · intro r3 es4 hr3 E4 f4
      rw [hr3] at hok
      dsimp only at hok
      rw [zlp] at hok
      obtain ⟨q1, q2, q3⟩ := (hP (r0.1 + 1)).1 _ hr3
      have hb := zpre_le E4.1.2.2.2
      have elen : (r0.2 ++ (r3.2 ++ [zneg (zkd t r0.1)])).length = r0.2.length + r3.2.length + 1 := by
        rw [List.length_append, List.length_append, List.length_singleton]
        omega
      have fin : ∀ (x y : Int32), zop (zneg (zkd t r0.1)) = x → zar (zneg (zkd t r0.1)) = y → ∀ es5, rE es5 t c r3.1 0 (v.1 + r0.2.length + r3.2.length + 1, v.2) (zapp (zapp (zapp op (1100 + v.1) (r0.2.map zop)) (1100 + (v.1 + r0.2.length)) (r3.2.map zop)) (1100 + (v.1 + r0.2.length + r3.2.length)) [x]) (zapp (zapp (zapp ar (1100 + v.1) (r0.2.map zar)) (1100 + (v.1 + r0.2.length)) (r3.2.map zar)) (1100 + (v.1 + r0.2.length + r3.2.length)) [y]) → rfE es4 es5 → Q none es5 := by
        intro x y hx hy es5 E5 f5
        refine hok (r3.1, r0.2 ++ (r3.2 ++ [zneg (zkd t r0.1)])) es5 rfl ?_ (rfE_trans f1 (rfE_trans (rfE_1 f3) (rfE_trans f4 f5)))
        rw [rapp3 (z := zneg (zkd t r0.1)) op hx, rapp3 (z := zneg (zkd t r0.1)) ar hy] at E5
        dsimp only
        rw [elen, show v.1 + (r0.2.length + r3.2.length + 1) = v.1 + r0.2.length + r3.2.length + 1 by omega]
        exact E5
      cases b
      · have hk' : zkd t r0.1 = 61 := hk
        simp only [ax_W_cons, ax_I, ax_cmp, ax_ii, ax_ll, ax_li, ax_st1, ax_st2, ax_kl, ax_k2, ax_fit, ax_rtok, List.getElem?_cons_zero, List.getElem?_cons_succ, List.length_cons, List.length_nil, List.set_cons_zero, List.set_cons_succ, Nat.reduceAdd, Nat.reduceDiv, Nat.reduceMod, Nat.reduceMul, Nat.reduceLT, Nat.reduceLeDiff, Int32.reduceOfInt, Int64.reduceOfInt, true_and, and_true, and_self, true_or, or_true, false_implies, true_implies, not_false_eq_true, not_true_eq_false, Value.category, Nat.reduceEqDiff, Option.toList, List.cons_append, List.nil_append, List.drop_succ_cons, List.drop_zero, ax_qq_eq, ax_t_1440, ax_j_1440_45, ax_n_1440_45, ax_j_1440_47, ax_n_1440_47, kx_bf]
        refine ax_inv_of (Nat.le_of_ble_eq_true rfl) (Nat.le_of_ble_eq_true rfl) (fun _ => rS_rcv hal E4.1 _) (fun h => absurd h (by decide)) (Nat.le_refl _) (Nat.le_refl _) (mk_emit hal E4 (by dsimp only; omega) _ _ ?_)
        intro es5 E5 f5
        simp only [ax_W_cons, ax_I, ax_cmp, ax_ii, ax_ll, ax_li, ax_st1, ax_st2, ax_kl, ax_k2, ax_fit, ax_rtok, List.getElem?_cons_zero, List.getElem?_cons_succ, List.length_cons, List.length_nil, List.set_cons_zero, List.set_cons_succ, Nat.reduceAdd, Nat.reduceDiv, Nat.reduceMod, Nat.reduceMul, Nat.reduceLT, Nat.reduceLeDiff, Int32.reduceOfInt, Int64.reduceOfInt, true_and, and_true, and_self, true_or, or_true, false_implies, true_implies, not_false_eq_true, not_true_eq_false, Value.category, Nat.reduceEqDiff, Option.toList, List.cons_append, List.nil_append, List.drop_succ_cons, List.drop_zero, ax_qq_eq, ax_t_1440, ax_j_1440_51, ax_n_1440_51]
        exact fin _ _ (by rw [hk']; decide) (by rw [hk']; decide) es5 E5 f5
      · have hk' : zkd t r0.1 = 60 := hk
        simp only [ax_W_cons, ax_I, ax_cmp, ax_ii, ax_ll, ax_li, ax_st1, ax_st2, ax_kl, ax_k2, ax_fit, ax_rtok, List.getElem?_cons_zero, List.getElem?_cons_succ, List.length_cons, List.length_nil, List.set_cons_zero, List.set_cons_succ, Nat.reduceAdd, Nat.reduceDiv, Nat.reduceMod, Nat.reduceMul, Nat.reduceLT, Nat.reduceLeDiff, Int32.reduceOfInt, Int64.reduceOfInt, true_and, and_true, and_self, true_or, or_true, false_implies, true_implies, not_false_eq_true, not_true_eq_false, Value.category, Nat.reduceEqDiff, Option.toList, List.cons_append, List.nil_append, List.drop_succ_cons, List.drop_zero, ax_qq_eq, ax_t_1440, ax_j_1440_47, ax_n_1440_47, kx_bt, c10]
        refine ax_inv_of (Nat.le_of_ble_eq_true rfl) (Nat.le_of_ble_eq_true rfl) (fun _ => rS_rcv hal E4.1 _) (fun h => absurd h (by decide)) (Nat.le_refl _) (Nat.le_refl _) (mk_emit hal E4 (by dsimp only; omega) _ _ ?_)
        intro es5 E5 f5
        simp only [ax_W_cons, ax_I, ax_cmp, ax_ii, ax_ll, ax_li, ax_st1, ax_st2, ax_kl, ax_k2, ax_fit, ax_rtok, List.getElem?_cons_zero, List.getElem?_cons_succ, List.length_cons, List.length_nil, List.set_cons_zero, List.set_cons_succ, Nat.reduceAdd, Nat.reduceDiv, Nat.reduceMod, Nat.reduceMul, Nat.reduceLT, Nat.reduceLeDiff, Int32.reduceOfInt, Int64.reduceOfInt, true_and, and_true, and_self, true_or, or_true, false_implies, true_implies, not_false_eq_true, not_true_eq_false, Value.category, Nat.reduceEqDiff, Option.toList, List.cons_append, List.nil_append, List.drop_succ_cons, List.drop_zero, ax_qq_eq, ax_t_1440, ax_j_1440_51, ax_n_1440_51]
        exact fin _ _ (by rw [hk']; decide) (by rw [hk']; decide) es5 E5 f5
    · intro x es4 cd op' ar' hx E4 f4 hc4 hl4 g4
      rw [hx] at hfail
      dsimp only at hc4
      have hx2 := ((hP (r0.1 + 1)).2 _ hx).2.1
      have hb := zpre_le E4.1.2.2.2
      have fin : ∀ (x1 x2 : Int32) es5, rE es5 t c x.2 (nI (x.1 + 16 * zpl t x.2)) (cd + 1, v.2) (zapp op' (1100 + cd) [x1]) (zapp ar' (1100 + cd) [x2]) → rfE es4 es5 → Q none es5 := by
        intro x1 x2 es5 E5 f5
        exact hfail x es5 _ _ _ rfl E5 f4 (by omega) (rlow_trans (rlow_app _ _ _ _ _) (rlow_trans hl4 (rlow_app _ _ _ _ _))) (rfE_trans f1 (rfE_trans (rfE_1 f3) (rfE_trans g4 f5)))
      cases b
      · simp only [ax_W_cons, ax_I, ax_cmp, ax_ii, ax_ll, ax_li, ax_st1, ax_st2, ax_kl, ax_k2, ax_fit, ax_rtok, List.getElem?_cons_zero, List.getElem?_cons_succ, List.length_cons, List.length_nil, List.set_cons_zero, List.set_cons_succ, Nat.reduceAdd, Nat.reduceDiv, Nat.reduceMod, Nat.reduceMul, Nat.reduceLT, Nat.reduceLeDiff, Int32.reduceOfInt, Int64.reduceOfInt, true_and, and_true, and_self, true_or, or_true, false_implies, true_implies, not_false_eq_true, not_true_eq_false, Value.category, Nat.reduceEqDiff, Option.toList, List.cons_append, List.nil_append, List.drop_succ_cons, List.drop_zero, ax_qq_eq, ax_t_1440, ax_j_1440_45, ax_n_1440_45, ax_j_1440_47, ax_n_1440_47, kx_bf]
        refine ax_inv_of (Nat.le_of_ble_eq_true rfl) (Nat.le_of_ble_eq_true rfl) (fun _ => rS_rcv hal E4.1 _) (fun h => absurd h (by decide)) (Nat.le_refl _) (Nat.le_refl _) (mk_emit hal E4 (by dsimp only; omega) _ _ ?_)
        intro es5 E5 f5
        simp only [ax_W_cons, ax_I, ax_cmp, ax_ii, ax_ll, ax_li, ax_st1, ax_st2, ax_kl, ax_k2, ax_fit, ax_rtok, List.getElem?_cons_zero, List.getElem?_cons_succ, List.length_cons, List.length_nil, List.set_cons_zero, List.set_cons_succ, Nat.reduceAdd, Nat.reduceDiv, Nat.reduceMod, Nat.reduceMul, Nat.reduceLT, Nat.reduceLeDiff, Int32.reduceOfInt, Int64.reduceOfInt, true_and, and_true, and_self, true_or, or_true, false_implies, true_implies, not_false_eq_true, not_true_eq_false, Value.category, Nat.reduceEqDiff, Option.toList, List.cons_append, List.nil_append, List.drop_succ_cons, List.drop_zero, ax_qq_eq, ax_t_1440, ax_j_1440_51, ax_n_1440_51]
        exact fin _ _ es5 E5 f5
      · simp only [ax_W_cons, ax_I, ax_cmp, ax_ii, ax_ll, ax_li, ax_st1, ax_st2, ax_kl, ax_k2, ax_fit, ax_rtok, List.getElem?_cons_zero, List.getElem?_cons_succ, List.length_cons, List.length_nil, List.set_cons_zero, List.set_cons_succ, Nat.reduceAdd, Nat.reduceDiv, Nat.reduceMod, Nat.reduceMul, Nat.reduceLT, Nat.reduceLeDiff, Int32.reduceOfInt, Int64.reduceOfInt, true_and, and_true, and_self, true_or, or_true, false_implies, true_implies, not_false_eq_true, not_true_eq_false, Value.category, Nat.reduceEqDiff, Option.toList, List.cons_append, List.nil_append, List.drop_succ_cons, List.drop_zero, ax_qq_eq, ax_t_1440, ax_j_1440_47, ax_n_1440_47, kx_bt, c10]
        refine ax_inv_of (Nat.le_of_ble_eq_true rfl) (Nat.le_of_ble_eq_true rfl) (fun _ => rS_rcv hal E4.1 _) (fun h => absurd h (by decide)) (Nat.le_refl _) (Nat.le_refl _) (mk_emit hal E4 (by dsimp only; omega) _ _ ?_)
        intro es5 E5 f5
        simp only [ax_W_cons, ax_I, ax_cmp, ax_ii, ax_ll, ax_li, ax_st1, ax_st2, ax_kl, ax_k2, ax_fit, ax_rtok, List.getElem?_cons_zero, List.getElem?_cons_succ, List.length_cons, List.length_nil, List.set_cons_zero, List.set_cons_succ, Nat.reduceAdd, Nat.reduceDiv, Nat.reduceMod, Nat.reduceMul, Nat.reduceLT, Nat.reduceLeDiff, Int32.reduceOfInt, Int64.reduceOfInt, true_and, and_true, and_self, true_or, or_true, false_implies, true_implies, not_false_eq_true, not_true_eq_false, Value.category, Nat.reduceEqDiff, Option.toList, List.cons_append, List.nil_append, List.drop_succ_cons, List.drop_zero, ax_qq_eq, ax_t_1440, ax_j_1440_51, ax_n_1440_51]
        exact fin _ _ es5 E5 f5
  simp only [ax_W_cons, ax_I, ax_cmp, ax_ii, ax_ll, ax_li, ax_st1, ax_st2, ax_kl, ax_k2, ax_fit, ax_rtok, List.getElem?_cons_zero, List.getElem?_cons_succ, List.length_cons, List.length_nil, List.set_cons_zero, List.set_cons_succ, Nat.reduceAdd, Nat.reduceDiv, Nat.reduceMod, Nat.reduceMul, Nat.reduceLT, Nat.reduceLeDiff, Int32.reduceOfInt, Int64.reduceOfInt, true_and, and_true, and_self, true_or, or_true, false_implies, true_implies, not_false_eq_true, not_true_eq_false, Value.category, Nat.reduceEqDiff, Option.toList, List.cons_append, List.nil_append, List.drop_succ_cons, List.drop_zero, ax_qq_eq, ax_t_1440]
  refine ax_inv_of (Nat.le_of_ble_eq_true rfl) (Nat.le_of_ble_eq_true rfl) (fun _ => rS_rcv hal E1.1 _) (fun h => absurd h (by decide)) (Nat.le_refl _) (Nat.le_refl _) (mk_isSign (x := 60) hal ht E1.1 (by decide) (by decide) ?_)
  by_cases h60 : zkd t r0.1 = 60
  · rw [decide_eq_true ⟨rfl, h60⟩]
    simp only [ax_W_cons, ax_I, ax_cmp, ax_ii, ax_ll, ax_li, ax_st1, ax_st2, ax_kl, ax_k2, ax_fit, ax_rtok, List.getElem?_cons_zero, List.getElem?_cons_succ, List.length_cons, List.length_nil, List.set_cons_zero, List.set_cons_succ, Nat.reduceAdd, Nat.reduceDiv, Nat.reduceMod, Nat.reduceMul, Nat.reduceLT, Nat.reduceLeDiff, Int32.reduceOfInt, Int64.reduceOfInt, true_and, and_true, and_self, true_or, or_true, false_implies, true_implies, not_false_eq_true, not_true_eq_false, Value.category, Nat.reduceEqDiff, Option.toList, List.cons_append, List.nil_append, List.drop_succ_cons, List.drop_zero, ax_qq_eq, ax_t_1440]
    refine ax_inv_of (Nat.le_of_ble_eq_true rfl) (Nat.le_of_ble_eq_true rfl) (fun _ => rS_rcv hal E1.1 _) (fun h => absurd h (by decide)) (Nat.le_refl _) (Nat.le_refl _) (mk_hasSign (x := 60) hal ht E1.1 (by decide) (by decide) ?_ ?_)
    · intro es3 _ _ S3 f3
      have more := more true h60 es3 S3 f3
      simp only [ax_W_cons, ax_I, ax_cmp, ax_ii, ax_ll, ax_li, ax_st1, ax_st2, ax_kl, ax_k2, ax_fit, ax_rtok, List.getElem?_cons_zero, List.getElem?_cons_succ, List.length_cons, List.length_nil, List.set_cons_zero, List.set_cons_succ, Nat.reduceAdd, Nat.reduceDiv, Nat.reduceMod, Nat.reduceMul, Nat.reduceLT, Nat.reduceLeDiff, Int32.reduceOfInt, Int64.reduceOfInt, true_and, and_true, and_self, true_or, or_true, false_implies, true_implies, not_false_eq_true, not_true_eq_false, Value.category, Nat.reduceEqDiff, Option.toList, List.cons_append, List.nil_append, List.drop_succ_cons, List.drop_zero, ax_qq_eq, ax_t_1440, c10]
      exact more
    · intro z
      exact absurd ⟨rfl, h60⟩ z
  · rw [decide_eq_false (fun z => h60 z.2)]
    simp only [ax_W_cons, ax_I, ax_cmp, ax_ii, ax_ll, ax_li, ax_st1, ax_st2, ax_kl, ax_k2, ax_fit, ax_rtok, List.getElem?_cons_zero, List.getElem?_cons_succ, List.length_cons, List.length_nil, List.set_cons_zero, List.set_cons_succ, Nat.reduceAdd, Nat.reduceDiv, Nat.reduceMod, Nat.reduceMul, Nat.reduceLT, Nat.reduceLeDiff, Int32.reduceOfInt, Int64.reduceOfInt, true_and, and_true, and_self, true_or, or_true, false_implies, true_implies, not_false_eq_true, not_true_eq_false, Value.category, Nat.reduceEqDiff, Option.toList, List.cons_append, List.nil_append, List.drop_succ_cons, List.drop_zero, ax_qq_eq, ax_t_1440]
    refine ax_inv_of (Nat.le_of_ble_eq_true rfl) (Nat.le_of_ble_eq_true rfl) (fun _ => rS_rcv hal E1.1 _) (fun h => absurd h (by decide)) (Nat.le_refl _) (Nat.le_refl _) (mk_hasSign (x := 60) hal ht E1.1 (by decide) (by decide) ?_ ?_)
    · intro es3 _ z
      exact absurd z h60
    intro _
    simp only [ax_W_cons, ax_I, ax_cmp, ax_ii, ax_ll, ax_li, ax_st1, ax_st2, ax_kl, ax_k2, ax_fit, ax_rtok, List.getElem?_cons_zero, List.getElem?_cons_succ, List.length_cons, List.length_nil, List.set_cons_zero, List.set_cons_succ, Nat.reduceAdd, Nat.reduceDiv, Nat.reduceMod, Nat.reduceMul, Nat.reduceLT, Nat.reduceLeDiff, Int32.reduceOfInt, Int64.reduceOfInt, true_and, and_true, and_self, true_or, or_true, false_implies, true_implies, not_false_eq_true, not_true_eq_false, Value.category, Nat.reduceEqDiff, Option.toList, List.cons_append, List.nil_append, List.drop_succ_cons, List.drop_zero, ax_qq_eq, ax_t_1440]
    refine ax_inv_of (Nat.le_of_ble_eq_true rfl) (Nat.le_of_ble_eq_true rfl) (fun _ => rS_rcv hal E1.1 _) (fun h => absurd h (by decide)) (Nat.le_refl _) (Nat.le_refl _) (mk_hasSign (x := 61) hal ht E1.1 (by decide) (by decide) ?_ ?_)
    · intro es3 _ h61 S3 f3
      have more := more false h61 es3 S3 f3
      rw [ax_j_1440_30, ← ax_n_1440_30] at more
      simp only [ax_W_cons, ax_I, ax_cmp, ax_ii, ax_ll, ax_li, ax_st1, ax_st2, ax_kl, ax_k2, ax_fit, ax_rtok, List.getElem?_cons_zero, List.getElem?_cons_succ, List.length_cons, List.length_nil, List.set_cons_zero, List.set_cons_succ, Nat.reduceAdd, Nat.reduceDiv, Nat.reduceMod, Nat.reduceMul, Nat.reduceLT, Nat.reduceLeDiff, Int32.reduceOfInt, Int64.reduceOfInt, true_and, and_true, and_self, true_or, or_true, false_implies, true_implies, not_false_eq_true, not_true_eq_false, Value.category, Nat.reduceEqDiff, Option.toList, List.cons_append, List.nil_append, List.drop_succ_cons, List.drop_zero, ax_qq_eq, ax_t_1440, c10]
      exact more
    · intro h61
      rw [if_neg (fun z => (zlev_1.mp z).elim h60 (fun z => h61 ⟨rfl, z⟩))] at hok
      simp only [ax_W_cons, ax_I, ax_cmp, ax_ii, ax_ll, ax_li, ax_st1, ax_st2, ax_kl, ax_k2, ax_fit, ax_rtok, List.getElem?_cons_zero, List.getElem?_cons_succ, List.length_cons, List.length_nil, List.set_cons_zero, List.set_cons_succ, Nat.reduceAdd, Nat.reduceDiv, Nat.reduceMod, Nat.reduceMul, Nat.reduceLT, Nat.reduceLeDiff, Int32.reduceOfInt, Int64.reduceOfInt, true_and, and_true, and_self, true_or, or_true, false_implies, true_implies, not_false_eq_true, not_true_eq_false, Value.category, Nat.reduceEqDiff, Option.toList, List.cons_append, List.nil_append, List.drop_succ_cons, List.drop_zero, ax_qq_eq, ax_t_1440, ax_j_1440_51, ax_n_1440_51]
      exact hok r0 es1 rfl E1 f1
theorem rCt_all {D dp : Nat} {P : Nat → zR} (hal : ax_al n = 178) (ht : zT_ok t) (hD : 3 ≤ D) (hP : zgo t P) (hC : rCt n sl t c fh D 1443 [.ref 159, .int (nI dp)] P) : rCt n sl t c fh (D + 4) 1439 [.ref 159, .int (nI dp)] (zLv t P 4) :=
  rCt_0 hal ht (by omega) (zLv_go hP 3) (rCt_1 hal ht (by omega) (zLv_go hP 2) (rCt_2 hal ht (by omega) (zLv_go hP 1) (rCt_3 hal ht hD hP hC)))
theorem zop_num {v : Nat} (hv : v < 10000) : zop (nI v) = 1 ∧ zar (nI v) = nI v := by
  have h0 : (0 : Int32) ≤ nI v := nI_le (a := 0) (Nat.zero_le _) (by omega)
  refine ⟨?_, ?_⟩
  · unfold zop
    rw [if_pos h0]
  · unfold zar
    rw [if_pos h0]
theorem zop_fact {k : Nat} (h1 : 20 ≤ k) (h2 : k ≤ 23) : zop (zneg k) = 2 ∧ zar (zneg k) = nI (k - 20) := by
  have : k = 20 ∨ k = 21 ∨ k = 22 ∨ k = 23 := by omega
  rcases this with rfl | rfl | rfl | rfl <;> decide
end TT
section TT
variable {d n sl : Nat} {es : ax_H} {t : zTp} {c : rC} {a : Nat} {v : rV} {op ar : Nat → Int32} {Q : Option Value → ax_H → Prop}
/-- what a part begins with -/
theorem mk_part (hal : ax_al n = 178) (ht : zT_ok t) {h : Bool} {m : Nat} (hm : m = if h = true then 4 else 3) {dp : Int32} (E : rE es t c a 0 v op ar) (hfh : v.2.2.2 = nI m) (hno : zstart h (zkd t a) = false → ∀ es', rE es' t c a (nI (1 + 16 * zpl t a)) v op ar → rFl (nI (1 + 16 * zpl t a)) → rfE es es' → Q none es') (hyes : zstart h (zkd t a) = true → ax_J ax_W (d + 3) n sl 1443 72 [some (.ref 159), some (.int dp), some (.int (kx_b (decide (zkd t a = 25)))), some (.int (zWh 0 (zkd t a) 20 m))] [] n sl es (ax_qq n sl Q)) : ax_Mt (d + 3) 1443 [.ref 159, .int dp] n sl es Q := by
  obtain ⟨so, pl, va, w1, w2, w3, ⟨b1, b2, b3, b4, b5⟩, a1, a2, ha⟩ := rS_get ht E.1
  have w0 : es 159 = _ := E.1.1
  have c00 : (0 : Int32) ≤ 0 := by decide
  have c10 : ¬ (1 : Int32) = 0 := by decide
  have hk62 := zkd_lt t a
  have hst : zstart h (zkd t a) = true ↔ (zkd t a = 25 ∨ zkd t a = 17 ∨ (20 ≤ zkd t a ∧ zkd t a < 20 + m) ∨ zkd t a = 40) := by
    unfold zstart
    subst hm
    cases h
    · simp
      omega
    · simp
      omega
  have hm4 : m ≤ 4 := by
    rw [hm]
    split <;> omega
  have rest : ax_J ax_W (d + 3) n sl 1443 26 [some (.ref 159), some (.int dp), none, none] [.int (kx_b (decide (zkd t a = 25)))] n sl es (ax_qq n sl Q) := by
    simp only [ax_W_cons, ax_I, ax_cmp, ax_ii, ax_ll, ax_li, ax_st1, ax_st2, ax_kl, ax_k2, ax_fit, ax_rtok, List.getElem?_cons_zero, List.getElem?_cons_succ, List.length_cons, List.length_nil, List.set_cons_zero, List.set_cons_succ, Nat.reduceAdd, Nat.reduceDiv, Nat.reduceMod, Nat.reduceMul, Nat.reduceLT, Nat.reduceLeDiff, Int32.reduceOfInt, Int64.reduceOfInt, true_and, and_true, and_self, true_or, or_true, false_implies, true_implies, not_false_eq_true, not_true_eq_false, Value.category, Nat.reduceEqDiff, Option.toList, List.cons_append, List.nil_append, List.drop_succ_cons, List.drop_zero, ax_qq_eq, ax_t_1443, ax_j_1443_26, ax_n_1443_26, w0, mo_f, hal, hfh]
    refine ax_inv_of (Nat.le_of_ble_eq_true rfl) (Nat.le_of_ble_eq_true rfl) (fun _ => rS_rcv hal E.1 _) (fun h => absurd h (by decide)) (Nat.le_refl _) (Nat.le_refl _) (mk_wordHere (fr := 20) (m := m) hal ht E.1 (by omega) ?_)
    by_cases hA : 20 ≤ zkd t a ∧ zkd t a < 20 + m
    · have hyes := hyes (hst.mpr (Or.inr (Or.inr (Or.inl hA))))
      rw [zWh_in hA.1 hA.2] at hyes ⊢
      have e1 : (0 : Int32) ≤ nI (zkd t a - 20) := nI_le (a := 0) (Nat.zero_le _) (by omega)
      simp only [ax_W_cons, ax_I, ax_cmp, ax_ii, ax_ll, ax_li, ax_st1, ax_st2, ax_kl, ax_k2, ax_fit, ax_rtok, List.getElem?_cons_zero, List.getElem?_cons_succ, List.length_cons, List.length_nil, List.set_cons_zero, List.set_cons_succ, Nat.reduceAdd, Nat.reduceDiv, Nat.reduceMod, Nat.reduceMul, Nat.reduceLT, Nat.reduceLeDiff, Int32.reduceOfInt, Int64.reduceOfInt, true_and, and_true, and_self, true_or, or_true, false_implies, true_implies, not_false_eq_true, not_true_eq_false, Value.category, Nat.reduceEqDiff, Option.toList, List.cons_append, List.nil_append, List.drop_succ_cons, List.drop_zero, ax_qq_eq, ax_t_1443, e1]
      exact hyes
    · rw [zWh_out (fun z => hA z.2)] at hyes ⊢
      have e1 : ¬ (0 : Int32) ≤ -1 := by decide
      by_cases h25 : zkd t a = 25
      · have hyes := hyes (hst.mpr (Or.inl h25))
        rw [decide_eq_true h25, kx_bt] at hyes ⊢
        simp only [ax_W_cons, ax_I, ax_cmp, ax_ii, ax_ll, ax_li, ax_st1, ax_st2, ax_kl, ax_k2, ax_fit, ax_rtok, List.getElem?_cons_zero, List.getElem?_cons_succ, List.length_cons, List.length_nil, List.set_cons_zero, List.set_cons_succ, Nat.reduceAdd, Nat.reduceDiv, Nat.reduceMod, Nat.reduceMul, Nat.reduceLT, Nat.reduceLeDiff, Int32.reduceOfInt, Int64.reduceOfInt, true_and, and_true, and_self, true_or, or_true, false_implies, true_implies, not_false_eq_true, not_true_eq_false, Value.category, Nat.reduceEqDiff, Option.toList, List.cons_append, List.nil_append, List.drop_succ_cons, List.drop_zero, ax_qq_eq, ax_t_1443, e1, c10]
        exact hyes
      · rw [decide_eq_false h25, kx_bf] at hyes ⊢
        simp only [ax_W_cons, ax_I, ax_cmp, ax_ii, ax_ll, ax_li, ax_st1, ax_st2, ax_kl, ax_k2, ax_fit, ax_rtok, List.getElem?_cons_zero, List.getElem?_cons_succ, List.length_cons, List.length_nil, List.set_cons_zero, List.set_cons_succ, Nat.reduceAdd, Nat.reduceDiv, Nat.reduceMod, Nat.reduceMul, Nat.reduceLT, Nat.reduceLeDiff, Int32.reduceOfInt, Int64.reduceOfInt, true_and, and_true, and_self, true_or, or_true, false_implies, true_implies, not_false_eq_true, not_true_eq_false, Value.category, Nat.reduceEqDiff, Option.toList, List.cons_append, List.nil_append, List.drop_succ_cons, List.drop_zero, ax_qq_eq, ax_t_1443, e1]
        refine ax_inv_of (Nat.le_of_ble_eq_true rfl) (Nat.le_of_ble_eq_true rfl) (fun _ => rS_rcv hal E.1 _) (fun h => absurd h (by decide)) (Nat.le_refl _) (Nat.le_refl _) (mk_isSign (x := 40) hal ht E.1 (by decide) (by decide) ?_)
        by_cases h40 : zkd t a = 40
        · have hyes := hyes (hst.mpr (Or.inr (Or.inr (Or.inr h40))))
          rw [decide_eq_true ⟨rfl, h40⟩]
          simp only [ax_W_cons, ax_I, ax_cmp, ax_ii, ax_ll, ax_li, ax_st1, ax_st2, ax_kl, ax_k2, ax_fit, ax_rtok, List.getElem?_cons_zero, List.getElem?_cons_succ, List.length_cons, List.length_nil, List.set_cons_zero, List.set_cons_succ, Nat.reduceAdd, Nat.reduceDiv, Nat.reduceMod, Nat.reduceMul, Nat.reduceLT, Nat.reduceLeDiff, Int32.reduceOfInt, Int64.reduceOfInt, true_and, and_true, and_self, true_or, or_true, false_implies, true_implies, not_false_eq_true, not_true_eq_false, Value.category, Nat.reduceEqDiff, Option.toList, List.cons_append, List.nil_append, List.drop_succ_cons, List.drop_zero, ax_qq_eq, ax_t_1443, kx_bt, c10]
          exact hyes
        · rw [decide_eq_false (fun z => h40 z.2)]
          simp only [ax_W_cons, ax_I, ax_cmp, ax_ii, ax_ll, ax_li, ax_st1, ax_st2, ax_kl, ax_k2, ax_fit, ax_rtok, List.getElem?_cons_zero, List.getElem?_cons_succ, List.length_cons, List.length_nil, List.set_cons_zero, List.set_cons_succ, Nat.reduceAdd, Nat.reduceDiv, Nat.reduceMod, Nat.reduceMul, Nat.reduceLT, Nat.reduceLeDiff, Int32.reduceOfInt, Int64.reduceOfInt, true_and, and_true, and_self, true_or, or_true, false_implies, true_implies, not_false_eq_true, not_true_eq_false, Value.category, Nat.reduceEqDiff, Option.toList, List.cons_append, List.nil_append, List.drop_succ_cons, List.drop_zero, ax_qq_eq, ax_t_1443, kx_bf]
          refine ax_inv_of (Nat.le_of_ble_eq_true rfl) (Nat.le_of_ble_eq_true rfl) (fun _ => rS_rcv hal E.1 _) (fun h => absurd h (by decide)) (Nat.le_refl _) (Nat.le_refl _) (mk_isWord (x := 17) hal ht E.1 (by decide) ?_)
          by_cases h17 : zkd t a = 17
          · have hyes := hyes (hst.mpr (Or.inr (Or.inl h17)))
            rw [decide_eq_true ⟨rfl, h17⟩]
            simp only [ax_W_cons, ax_I, ax_cmp, ax_ii, ax_ll, ax_li, ax_st1, ax_st2, ax_kl, ax_k2, ax_fit, ax_rtok, List.getElem?_cons_zero, List.getElem?_cons_succ, List.length_cons, List.length_nil, List.set_cons_zero, List.set_cons_succ, Nat.reduceAdd, Nat.reduceDiv, Nat.reduceMod, Nat.reduceMul, Nat.reduceLT, Nat.reduceLeDiff, Int32.reduceOfInt, Int64.reduceOfInt, true_and, and_true, and_self, true_or, or_true, false_implies, true_implies, not_false_eq_true, not_true_eq_false, Value.category, Nat.reduceEqDiff, Option.toList, List.cons_append, List.nil_append, List.drop_succ_cons, List.drop_zero, ax_qq_eq, ax_t_1443, kx_bt, c10]
            exact hyes
          · rw [decide_eq_false (fun z => h17 z.2)]
            simp only [ax_W_cons, ax_I, ax_cmp, ax_ii, ax_ll, ax_li, ax_st1, ax_st2, ax_kl, ax_k2, ax_fit, ax_rtok, List.getElem?_cons_zero, List.getElem?_cons_succ, List.length_cons, List.length_nil, List.set_cons_zero, List.set_cons_succ, Nat.reduceAdd, Nat.reduceDiv, Nat.reduceMod, Nat.reduceMul, Nat.reduceLT, Nat.reduceLeDiff, Int32.reduceOfInt, Int64.reduceOfInt, true_and, and_true, and_self, true_or, or_true, false_implies, true_implies, not_false_eq_true, not_true_eq_false, Value.category, Nat.reduceEqDiff, Option.toList, List.cons_append, List.nil_append, List.drop_succ_cons, List.drop_zero, ax_qq_eq, ax_t_1443, kx_bf]
            refine ax_inv_of (Nat.le_of_ble_eq_true rfl) (Nat.le_of_ble_eq_true rfl) (fun _ => rS_rcv hal E.1 _) (fun h => absurd h (by decide)) (Nat.le_refl _) (Nat.le_refl _) (mk_wrong0 (k := 1) hal ht E.1 (by decide) (by decide) ?_)
            intro es1 S1 f1 g1
            have v0 : es1 159 = _ := S1.1
            have f2 := f1.2
            have hz : zstart h (zkd t a) = false := by
              cases hb : zstart h (zkd t a)
              · rfl
              · have := hst.mp hb
                omega
            simp only [ax_W_cons, ax_I, ax_cmp, ax_ii, ax_ll, ax_li, ax_st1, ax_st2, ax_kl, ax_k2, ax_fit, ax_rtok, List.getElem?_cons_zero, List.getElem?_cons_succ, List.length_cons, List.length_nil, List.set_cons_zero, List.set_cons_succ, Nat.reduceAdd, Nat.reduceDiv, Nat.reduceMod, Nat.reduceMul, Nat.reduceLT, Nat.reduceLeDiff, Int32.reduceOfInt, Int64.reduceOfInt, true_and, and_true, and_self, true_or, or_true, false_implies, true_implies, not_false_eq_true, not_true_eq_false, Value.category, Nat.reduceEqDiff, Option.toList, List.cons_append, List.nil_append, List.drop_succ_cons, List.drop_zero, ax_qq_eq, ax_t_1443, ax_j_1443_82, ax_n_1443_82, v0, mo_f, hal, f2]
            exact hno hz es1 (rE_1 E S1 g1) f1 (rfE_1 g1)
  refine ax_Mt_go (m := ax_m_11_35) (ls := [some (.ref 159), some (.int dp), none, none]) rfl ax_b_1443_0 (Nat.le_of_ble_eq_true rfl) rfl ?_
  by_cases h25 : zkd t a = 25
  · have z2 : so a = 2 := b1.trans (by rw [zsrt_2]; exact h25)
    rw [decide_eq_true h25, kx_bt] at rest
    simp only [ax_W_cons, ax_I, ax_cmp, ax_ii, ax_ll, ax_li, ax_st1, ax_st2, ax_kl, ax_k2, ax_fit, ax_rtok, List.getElem?_cons_zero, List.getElem?_cons_succ, List.length_cons, List.length_nil, List.set_cons_zero, List.set_cons_succ, Nat.reduceAdd, Nat.reduceDiv, Nat.reduceMod, Nat.reduceMul, Nat.reduceLT, Nat.reduceLeDiff, Int32.reduceOfInt, Int64.reduceOfInt, true_and, and_true, and_self, true_or, or_true, false_implies, true_implies, not_false_eq_true, not_true_eq_false, Value.category, Nat.reduceEqDiff, Option.toList, List.cons_append, List.nil_append, List.drop_succ_cons, List.drop_zero, ax_qq_eq, ax_t_1443, ax_j_1443_8, ax_n_1443_8, w0, w1, mo_f, hal, a1, a2, z2, c00]
    exact rest
  · have z2 : ¬ so a = 2 := by rw [b1, zsrt_2]; exact h25
    rw [decide_eq_false h25, kx_bf, ax_j_1443_26, ← ax_n_1443_26] at rest
    simp only [ax_W_cons, ax_I, ax_cmp, ax_ii, ax_ll, ax_li, ax_st1, ax_st2, ax_kl, ax_k2, ax_fit, ax_rtok, List.getElem?_cons_zero, List.getElem?_cons_succ, List.length_cons, List.length_nil, List.set_cons_zero, List.set_cons_succ, Nat.reduceAdd, Nat.reduceDiv, Nat.reduceMod, Nat.reduceMul, Nat.reduceLT, Nat.reduceLeDiff, Int32.reduceOfInt, Int64.reduceOfInt, true_and, and_true, and_self, true_or, or_true, false_implies, true_implies, not_false_eq_true, not_true_eq_false, Value.category, Nat.reduceEqDiff, Option.toList, List.cons_append, List.nil_append, List.drop_succ_cons, List.drop_zero, ax_qq_eq, ax_t_1443, ax_j_1443_8, ax_n_1443_8, ax_j_1443_25, ax_n_1443_25, w0, w1, mo_f, hal, a1, a2, z2, c00]
    exact rest
end TT
section TT
variable {n sl : Nat} {t : zTp} {c : rC}
theorem rCt_part {h : Bool} {m : Nat} (hm : m = if h = true then 4 else 3) (hal : ax_al n = 178) (ht : zT_ok t) : ∀ e, e ≤ 5 → rCt n sl t c (nI m) (3 + 5 * e) 1443 [.ref 159, .int (nI (5 - e))] (zP t h e) := by
  intro e
  induction e with
  | zero =>
    intro _ d es a v op ar Q hd E hcd hfh hok hfail
    obtain ⟨d, rfl⟩ : ∃ z, d = z + 3 := ⟨d - 3, by omega⟩
    rw [zP] at hok hfail
    refine mk_part hal ht hm E hfh (fun hs es1 E1 f1 g1 => ?_) (fun hs => ?_)
    · rw [if_neg (by rw [hs]; decide)] at hfail
      exact hfail (1, a) es1 v.1 op ar rfl E1 f1 (by omega) (fun j _ => ⟨rfl, rfl⟩) g1
    · rw [if_pos hs] at hfail
      have c5 : nI (5 - 0) = 5 := rfl
      simp only [ax_W_cons, ax_I, ax_cmp, ax_ii, ax_ll, ax_li, ax_st1, ax_st2, ax_kl, ax_k2, ax_fit, ax_rtok, List.getElem?_cons_zero, List.getElem?_cons_succ, List.length_cons, List.length_nil, List.set_cons_zero, List.set_cons_succ, Nat.reduceAdd, Nat.reduceDiv, Nat.reduceMod, Nat.reduceMul, Nat.reduceLT, Nat.reduceLeDiff, Int32.reduceOfInt, Int64.reduceOfInt, true_and, and_true, and_self, true_or, or_true, false_implies, true_implies, not_false_eq_true, not_true_eq_false, Value.category, Nat.reduceEqDiff, Option.toList, List.cons_append, List.nil_append, List.drop_succ_cons, List.drop_zero, ax_qq_eq, ax_t_1443, ax_j_1443_72, ax_n_1443_72, c5]
      refine ax_inv_of (Nat.le_of_ble_eq_true rfl) (Nat.le_of_ble_eq_true rfl) (fun _ => rS_rcv hal E.1 _) (fun h => absurd h (by decide)) (Nat.le_refl _) (Nat.le_refl _) (mk_wrong0 (k := 5) hal ht E.1 (by decide) (by decide) ?_)
      intro es1 S1 f1 g1
      have v0 : es1 159 = _ := S1.1
      have f2 := f1.2
      simp only [ax_W_cons, ax_I, ax_cmp, ax_ii, ax_ll, ax_li, ax_st1, ax_st2, ax_kl, ax_k2, ax_fit, ax_rtok, List.getElem?_cons_zero, List.getElem?_cons_succ, List.length_cons, List.length_nil, List.set_cons_zero, List.set_cons_succ, Nat.reduceAdd, Nat.reduceDiv, Nat.reduceMod, Nat.reduceMul, Nat.reduceLT, Nat.reduceLeDiff, Int32.reduceOfInt, Int64.reduceOfInt, true_and, and_true, and_self, true_or, or_true, false_implies, true_implies, not_false_eq_true, not_true_eq_false, Value.category, Nat.reduceEqDiff, Option.toList, List.cons_append, List.nil_append, List.drop_succ_cons, List.drop_zero, ax_qq_eq, ax_t_1443, ax_j_1443_82, ax_n_1443_82, v0, mo_f, hal, f2]
      exact hfail (5, a) es1 v.1 op ar rfl (rE_1 E S1 g1) f1 (by omega) (fun j _ => ⟨rfl, rfl⟩) (rfE_1 g1)
  | succ e ih =>
    intro he
    have ihp := ih (by omega)
    have ihl := rCt_all hal ht (by omega) (zP_go t h e) ihp
    intro d es a v op ar Q hd E hcd hfh hok hfail
    obtain ⟨d, rfl⟩ : ∃ z, d = z + 3 := ⟨d - 3, by omega⟩
    have hL := ht.1
    rw [zP] at hok hfail
    refine mk_part hal ht hm E hfh (fun hs es1 E1 f1 g1 => ?_) (fun hs => ?_)
    · rw [if_neg (by rw [hs]; decide)] at hfail
      exact hfail (1, a) es1 v.1 op ar rfl E1 f1 (by omega) (fun j _ => ⟨rfl, rfl⟩) g1
    · rw [if_pos hs] at hok hfail
      have h26 := zstart_26 hs
      have c10 : ¬ (1 : Int32) = 0 := by decide
      have c00 : (0 : Int32) ≤ 0 := by decide
      have c5 : ¬ nI (5 - (e + 1)) = 5 := fun z => by
        have := kn_inj (b := 5) (by omega) (by decide) z
        omega
      have dp1 : nI (5 - (e + 1)) + 1 = nI (5 - e) := by
        rw [← nI_succ]
        congr 1
        omega
      have w0 : es 159 = _ := E.1.1
      have hp1 := zpre_s E.1.2.2.2 h26
      have hpb := zpre_le hp1
      simp only [ax_W_cons, ax_I, ax_cmp, ax_ii, ax_ll, ax_li, ax_st1, ax_st2, ax_kl, ax_k2, ax_fit, ax_rtok, List.getElem?_cons_zero, List.getElem?_cons_succ, List.length_cons, List.length_nil, List.set_cons_zero, List.set_cons_succ, Nat.reduceAdd, Nat.reduceDiv, Nat.reduceMod, Nat.reduceMul, Nat.reduceLT, Nat.reduceLeDiff, Int32.reduceOfInt, Int64.reduceOfInt, true_and, and_true, and_self, true_or, or_true, false_implies, true_implies, not_false_eq_true, not_true_eq_false, Value.category, Nat.reduceEqDiff, Option.toList, List.cons_append, List.nil_append, List.drop_succ_cons, List.drop_zero, ax_qq_eq, ax_t_1443, ax_j_1443_72, ax_n_1443_72, ax_j_1443_82, ax_n_1443_82, ax_j_1443_90, ax_n_1443_90, c5, w0, mo_f, hal, c00]
      refine ax_inv_of (Nat.le_of_ble_eq_true rfl) (Nat.le_of_ble_eq_true rfl) (fun _ => rS_rcv hal E.1 _) (fun h => absurd h (by decide)) (Nat.le_refl _) (Nat.le_refl _) (mk_hasWord (x := 17) hal ht E.1 (by decide) ?_ ?_)
      · intro es1 _ h17 S1 f1
        rw [if_neg (by omega), if_pos h17] at hok hfail
        have E1 := rE_1 E S1 f1
        simp only [ax_W_cons, ax_I, ax_cmp, ax_ii, ax_ll, ax_li, ax_st1, ax_st2, ax_kl, ax_k2, ax_fit, ax_rtok, List.getElem?_cons_zero, List.getElem?_cons_succ, List.length_cons, List.length_nil, List.set_cons_zero, List.set_cons_succ, Nat.reduceAdd, Nat.reduceDiv, Nat.reduceMod, Nat.reduceMul, Nat.reduceLT, Nat.reduceLeDiff, Int32.reduceOfInt, Int64.reduceOfInt, true_and, and_true, and_self, true_or, or_true, false_implies, true_implies, not_false_eq_true, not_true_eq_false, Value.category, Nat.reduceEqDiff, Option.toList, List.cons_append, List.nil_append, List.drop_succ_cons, List.drop_zero, ax_qq_eq, ax_t_1443, c10, dp1]
        refine ax_inv_of (Nat.le_of_ble_eq_true rfl) (Nat.le_of_ble_eq_true rfl) (fun _ => rS_rcv hal E1.1 _) (fun h => absurd h (by decide)) (Nat.le_refl _) (Nat.le_refl _) (ihp _ es1 (a + 1) _ _ _ _ (by omega) E1 (by omega) hfh ?_ ?_)
        · intro r es2 hr E2 f2
          rw [hr] at hok
          dsimp only at hok
          obtain ⟨q1, q2, q3⟩ := (zP_go t h e (a + 1)).1 _ hr
          have hb := zpre_le E2.1.2.2.2
          simp only [ax_W_cons, ax_I, ax_cmp, ax_ii, ax_ll, ax_li, ax_st1, ax_st2, ax_kl, ax_k2, ax_fit, ax_rtok, List.getElem?_cons_zero, List.getElem?_cons_succ, List.length_cons, List.length_nil, List.set_cons_zero, List.set_cons_succ, Nat.reduceAdd, Nat.reduceDiv, Nat.reduceMod, Nat.reduceMul, Nat.reduceLT, Nat.reduceLeDiff, Int32.reduceOfInt, Int64.reduceOfInt, true_and, and_true, and_self, true_or, or_true, false_implies, true_implies, not_false_eq_true, not_true_eq_false, Value.category, Nat.reduceEqDiff, Option.toList, List.cons_append, List.nil_append, List.drop_succ_cons, List.drop_zero, ax_qq_eq, ax_t_1443]
          refine ax_inv_of (Nat.le_of_ble_eq_true rfl) (Nat.le_of_ble_eq_true rfl) (fun _ => rS_rcv hal E2.1 _) (fun h => absurd h (by decide)) (Nat.le_refl _) (Nat.le_refl _) (mk_emit hal E2 (by dsimp only; omega) _ _ ?_)
          intro es3 E3 f3
          simp only [ax_W_cons, ax_I, ax_cmp, ax_ii, ax_ll, ax_li, ax_st1, ax_st2, ax_kl, ax_k2, ax_fit, ax_rtok, List.getElem?_cons_zero, List.getElem?_cons_succ, List.length_cons, List.length_nil, List.set_cons_zero, List.set_cons_succ, Nat.reduceAdd, Nat.reduceDiv, Nat.reduceMod, Nat.reduceMul, Nat.reduceLT, Nat.reduceLeDiff, Int32.reduceOfInt, Int64.reduceOfInt, true_and, and_true, and_self, true_or, or_true, false_implies, true_implies, not_false_eq_true, not_true_eq_false, Value.category, Nat.reduceEqDiff, Option.toList, List.cons_append, List.nil_append, List.drop_succ_cons, List.drop_zero, ax_qq_eq, ax_t_1443, ax_j_1443_181, ax_n_1443_181]
          refine hok (r.1, r.2 ++ [zneg 17]) es3 rfl ?_ (rfE_trans (rfE_1 f1) (rfE_trans f2 f3))
          dsimp only at E3
          rw [rapp2 (z := zneg 17) op (by decide), rapp2 (z := zneg 17) ar (by decide)] at E3
          rw [List.length_append, List.length_singleton, ← Nat.add_assoc]
          exact E3
        · intro x es2 cd op' ar' hx E2 f2 hc2 hl2 g2
          rw [hx] at hfail
          have hx2 := ((zP_go t h e (a + 1)).2 _ hx).2.1
          have hb := zpre_le E2.1.2.2.2
          simp only [ax_W_cons, ax_I, ax_cmp, ax_ii, ax_ll, ax_li, ax_st1, ax_st2, ax_kl, ax_k2, ax_fit, ax_rtok, List.getElem?_cons_zero, List.getElem?_cons_succ, List.length_cons, List.length_nil, List.set_cons_zero, List.set_cons_succ, Nat.reduceAdd, Nat.reduceDiv, Nat.reduceMod, Nat.reduceMul, Nat.reduceLT, Nat.reduceLeDiff, Int32.reduceOfInt, Int64.reduceOfInt, true_and, and_true, and_self, true_or, or_true, false_implies, true_implies, not_false_eq_true, not_true_eq_false, Value.category, Nat.reduceEqDiff, Option.toList, List.cons_append, List.nil_append, List.drop_succ_cons, List.drop_zero, ax_qq_eq, ax_t_1443]
          refine ax_inv_of (Nat.le_of_ble_eq_true rfl) (Nat.le_of_ble_eq_true rfl) (fun _ => rS_rcv hal E2.1 _) (fun h => absurd h (by decide)) (Nat.le_refl _) (Nat.le_refl _) (mk_emit hal E2 (by dsimp only; omega) _ _ ?_)
          intro es3 E3 f3
          simp only [ax_W_cons, ax_I, ax_cmp, ax_ii, ax_ll, ax_li, ax_st1, ax_st2, ax_kl, ax_k2, ax_fit, ax_rtok, List.getElem?_cons_zero, List.getElem?_cons_succ, List.length_cons, List.length_nil, List.set_cons_zero, List.set_cons_succ, Nat.reduceAdd, Nat.reduceDiv, Nat.reduceMod, Nat.reduceMul, Nat.reduceLT, Nat.reduceLeDiff, Int32.reduceOfInt, Int64.reduceOfInt, true_and, and_true, and_self, true_or, or_true, false_implies, true_implies, not_false_eq_true, not_true_eq_false, Value.category, Nat.reduceEqDiff, Option.toList, List.cons_append, List.nil_append, List.drop_succ_cons, List.drop_zero, ax_qq_eq, ax_t_1443, ax_j_1443_181, ax_n_1443_181]
          exact hfail x es3 _ _ _ rfl E3 f2 (by omega) (rlow_trans hl2 (rlow_app _ _ _ _ _)) (rfE_trans (rfE_1 f1) (rfE_trans g2 f3))
      intro h17
      have h17 : ¬ zkd t a = 17 := fun z => h17 ⟨rfl, z⟩
      simp only [ax_W_cons, ax_I, ax_cmp, ax_ii, ax_ll, ax_li, ax_st1, ax_st2, ax_kl, ax_k2, ax_fit, ax_rtok, List.getElem?_cons_zero, List.getElem?_cons_succ, List.length_cons, List.length_nil, List.set_cons_zero, List.set_cons_succ, Nat.reduceAdd, Nat.reduceDiv, Nat.reduceMod, Nat.reduceMul, Nat.reduceLT, Nat.reduceLeDiff, Int32.reduceOfInt, Int64.reduceOfInt, true_and, and_true, and_self, true_or, or_true, false_implies, true_implies, not_false_eq_true, not_true_eq_false, Value.category, Nat.reduceEqDiff, Option.toList, List.cons_append, List.nil_append, List.drop_succ_cons, List.drop_zero, ax_qq_eq, ax_t_1443, ax_j_1443_115, ax_n_1443_115]
      refine ax_inv_of (Nat.le_of_ble_eq_true rfl) (Nat.le_of_ble_eq_true rfl) (fun _ => rS_rcv hal E.1 _) (fun h => absurd h (by decide)) (Nat.le_refl _) (Nat.le_refl _) (mk_hasSign (x := 40) hal ht E.1 (by decide) (by decide) ?_ ?_)
      · intro es1 _ h40 S1 f1
        rw [if_pos h40] at hok hfail
        have E1 := rE_1 E S1 f1
        simp only [ax_W_cons, ax_I, ax_cmp, ax_ii, ax_ll, ax_li, ax_st1, ax_st2, ax_kl, ax_k2, ax_fit, ax_rtok, List.getElem?_cons_zero, List.getElem?_cons_succ, List.length_cons, List.length_nil, List.set_cons_zero, List.set_cons_succ, Nat.reduceAdd, Nat.reduceDiv, Nat.reduceMod, Nat.reduceMul, Nat.reduceLT, Nat.reduceLeDiff, Int32.reduceOfInt, Int64.reduceOfInt, true_and, and_true, and_self, true_or, or_true, false_implies, true_implies, not_false_eq_true, not_true_eq_false, Value.category, Nat.reduceEqDiff, Option.toList, List.cons_append, List.nil_append, List.drop_succ_cons, List.drop_zero, ax_qq_eq, ax_t_1443, c10, dp1]
        refine ax_inv_of (Nat.le_of_ble_eq_true rfl) (Nat.le_of_ble_eq_true rfl) (fun _ => rS_rcv hal E1.1 _) (fun h => absurd h (by decide)) (Nat.le_refl _) (Nat.le_refl _) (ihl _ es1 (a + 1) _ _ _ _ (by omega) E1 (by omega) hfh ?_ ?_)
        · intro r es2 hr E2 f2
          rw [hr] at hok hfail
          dsimp only at hok hfail
          obtain ⟨q1, q2, q3⟩ := (zLv_go (zP_go t h e) 4 (a + 1)).1 _ hr
          simp only [ax_W_cons, ax_I, ax_cmp, ax_ii, ax_ll, ax_li, ax_st1, ax_st2, ax_kl, ax_k2, ax_fit, ax_rtok, List.getElem?_cons_zero, List.getElem?_cons_succ, List.length_cons, List.length_nil, List.set_cons_zero, List.set_cons_succ, Nat.reduceAdd, Nat.reduceDiv, Nat.reduceMod, Nat.reduceMul, Nat.reduceLT, Nat.reduceLeDiff, Int32.reduceOfInt, Int64.reduceOfInt, true_and, and_true, and_self, true_or, or_true, false_implies, true_implies, not_false_eq_true, not_true_eq_false, Value.category, Nat.reduceEqDiff, Option.toList, List.cons_append, List.nil_append, List.drop_succ_cons, List.drop_zero, ax_qq_eq, ax_t_1443]
          refine ax_inv_of (Nat.le_of_ble_eq_true rfl) (Nat.le_of_ble_eq_true rfl) (fun _ => rS_rcv hal E2.1 _) (fun h => absurd h (by decide)) (Nat.le_refl _) (Nat.le_refl _) (mk_takeSign0 (x := 41) hal ht E2.1 (by decide) (by decide) ?_ ?_)
          · intro es3 h41 S3 f3
            rw [if_pos h41] at hok
            simp only [ax_W_cons, ax_I, ax_cmp, ax_ii, ax_ll, ax_li, ax_st1, ax_st2, ax_kl, ax_k2, ax_fit, ax_rtok, List.getElem?_cons_zero, List.getElem?_cons_succ, List.length_cons, List.length_nil, List.set_cons_zero, List.set_cons_succ, Nat.reduceAdd, Nat.reduceDiv, Nat.reduceMod, Nat.reduceMul, Nat.reduceLT, Nat.reduceLeDiff, Int32.reduceOfInt, Int64.reduceOfInt, true_and, and_true, and_self, true_or, or_true, false_implies, true_implies, not_false_eq_true, not_true_eq_false, Value.category, Nat.reduceEqDiff, Option.toList, List.cons_append, List.nil_append, List.drop_succ_cons, List.drop_zero, ax_qq_eq, ax_t_1443, ax_j_1443_181, ax_n_1443_181]
            exact hok (r.1 + 1, r.2) es3 rfl (rE_1 E2 S3 f3) (rfE_trans (rfE_1 f1) (rfE_trans f2 (rfE_1 f3)))
          · intro es3 h41 S3 g3 f3
            rw [if_neg h41] at hfail
            simp only [ax_W_cons, ax_I, ax_cmp, ax_ii, ax_ll, ax_li, ax_st1, ax_st2, ax_kl, ax_k2, ax_fit, ax_rtok, List.getElem?_cons_zero, List.getElem?_cons_succ, List.length_cons, List.length_nil, List.set_cons_zero, List.set_cons_succ, Nat.reduceAdd, Nat.reduceDiv, Nat.reduceMod, Nat.reduceMul, Nat.reduceLT, Nat.reduceLeDiff, Int32.reduceOfInt, Int64.reduceOfInt, true_and, and_true, and_self, true_or, or_true, false_implies, true_implies, not_false_eq_true, not_true_eq_false, Value.category, Nat.reduceEqDiff, Option.toList, List.cons_append, List.nil_append, List.drop_succ_cons, List.drop_zero, ax_qq_eq, ax_t_1443, ax_j_1443_181, ax_n_1443_181]
            exact hfail (1, r.1) es3 _ _ _ rfl (rE_1 E2 S3 f3) g3 (by dsimp only; omega) (rlow_app _ _ _ _ _) (rfE_trans (rfE_1 f1) (rfE_trans f2 (rfE_1 f3)))
        · intro x es2 cd op' ar' hx E2 f2 hc2 hl2 g2
          rw [hx] at hfail
          have hx2 := ((zLv_go (zP_go t h e) 4 (a + 1)).2 _ hx).2.1
          simp only [ax_W_cons, ax_I, ax_cmp, ax_ii, ax_ll, ax_li, ax_st1, ax_st2, ax_kl, ax_k2, ax_fit, ax_rtok, List.getElem?_cons_zero, List.getElem?_cons_succ, List.length_cons, List.length_nil, List.set_cons_zero, List.set_cons_succ, Nat.reduceAdd, Nat.reduceDiv, Nat.reduceMod, Nat.reduceMul, Nat.reduceLT, Nat.reduceLeDiff, Int32.reduceOfInt, Int64.reduceOfInt, true_and, and_true, and_self, true_or, or_true, false_implies, true_implies, not_false_eq_true, not_true_eq_false, Value.category, Nat.reduceEqDiff, Option.toList, List.cons_append, List.nil_append, List.drop_succ_cons, List.drop_zero, ax_qq_eq, ax_t_1443]
          refine ax_inv_of (Nat.le_of_ble_eq_true rfl) (Nat.le_of_ble_eq_true rfl) (fun _ => rS_rcv hal E2.1 _) (fun h => absurd h (by decide)) (Nat.le_refl _) (Nat.le_refl _) (mk_takeSign1 (x := 41) hal ht E2.1 f2 (by decide) (by decide) ?_)
          simp only [ax_W_cons, ax_I, ax_cmp, ax_ii, ax_ll, ax_li, ax_st1, ax_st2, ax_kl, ax_k2, ax_fit, ax_rtok, List.getElem?_cons_zero, List.getElem?_cons_succ, List.length_cons, List.length_nil, List.set_cons_zero, List.set_cons_succ, Nat.reduceAdd, Nat.reduceDiv, Nat.reduceMod, Nat.reduceMul, Nat.reduceLT, Nat.reduceLeDiff, Int32.reduceOfInt, Int64.reduceOfInt, true_and, and_true, and_self, true_or, or_true, false_implies, true_implies, not_false_eq_true, not_true_eq_false, Value.category, Nat.reduceEqDiff, Option.toList, List.cons_append, List.nil_append, List.drop_succ_cons, List.drop_zero, ax_qq_eq, ax_t_1443, ax_j_1443_181, ax_n_1443_181]
          exact hfail x es2 cd op' ar' rfl E2 f2 (by omega) hl2 (rfE_trans (rfE_1 f1) g2)
      intro h40
      have h40 : ¬ zkd t a = 40 := fun z => h40 ⟨rfl, z⟩
      rw [if_neg h40, if_neg h17] at hok
      obtain ⟨so, pl, va, w1, w2, w3, ⟨b1, b2, b3, b4, b5⟩, a1, a2, ha⟩ := rS_get ht E.1
      have a4 : nI a + 1 = nI (a + 1) := (nI_succ a).symm
      -- one sign
      have last : ∀ (z x y : Int32), zop z = x → zar z = y → (∀ es', rE es' t c (a + 1) 0 (v.1 + 1, v.2) (zapp op (1100 + v.1) ([z].map zop)) (zapp ar (1100 + v.1) ([z].map zar)) → rfE es es' → Q none es') → ax_J ax_W (d + 3) n sl 1443 168 [some (.ref 159), some (.int (nI (5 - (e + 1)))), some (.int (kx_b (decide (zkd t a = 25)))), some (.int (zWh 0 (zkd t a) 20 m))] [.int y, .int x, .ref 159] n sl es (ax_qq n sl Q) := by
        intro z x y hx hy hq
        simp only [ax_W_cons, ax_I, ax_cmp, ax_ii, ax_ll, ax_li, ax_st1, ax_st2, ax_kl, ax_k2, ax_fit, ax_rtok, List.getElem?_cons_zero, List.getElem?_cons_succ, List.length_cons, List.length_nil, List.set_cons_zero, List.set_cons_succ, Nat.reduceAdd, Nat.reduceDiv, Nat.reduceMod, Nat.reduceMul, Nat.reduceLT, Nat.reduceLeDiff, Int32.reduceOfInt, Int64.reduceOfInt, true_and, and_true, and_self, true_or, or_true, false_implies, true_implies, not_false_eq_true, not_true_eq_false, Value.category, Nat.reduceEqDiff, Option.toList, List.cons_append, List.nil_append, List.drop_succ_cons, List.drop_zero, ax_qq_eq, ax_t_1443, ax_j_1443_168, ax_n_1443_168]
        refine ax_inv_of (Nat.le_of_ble_eq_true rfl) (Nat.le_of_ble_eq_true rfl) (fun _ => rS_rcv hal E.1 _) (fun h => absurd h (by decide)) (Nat.le_refl _) (Nat.le_refl _) (mk_emit hal E (by omega) _ _ ?_)
        intro es1 E1 f1
        have v0 : es1 159 = _ := E1.1.1
        simp only [ax_W_cons, ax_I, ax_cmp, ax_ii, ax_ll, ax_li, ax_st1, ax_st2, ax_kl, ax_k2, ax_fit, ax_rtok, List.getElem?_cons_zero, List.getElem?_cons_succ, List.length_cons, List.length_nil, List.set_cons_zero, List.set_cons_succ, Nat.reduceAdd, Nat.reduceDiv, Nat.reduceMod, Nat.reduceMul, Nat.reduceLT, Nat.reduceLeDiff, Int32.reduceOfInt, Int64.reduceOfInt, true_and, and_true, and_self, true_or, or_true, false_implies, true_implies, not_false_eq_true, not_true_eq_false, Value.category, Nat.reduceEqDiff, Option.toList, List.cons_append, List.nil_append, List.drop_succ_cons, List.drop_zero, ax_qq_eq, ax_t_1443, ax_j_1443_181, ax_n_1443_181, v0, mo_f, hal, a4]
        have g1 : ∀ (e : ax_E), ∀ j, j ≠ 159 → ax_up es1 159 e j = es1 j := fun e j hj => ax_up_ne _ _ hj
        subst hx
        subst hy
        exact hq _ (rE_1 E1 (rS_up E1.1 (ax_up_same ..) (fun j hj _ => g1 _ j hj) hp1) (g1 _)) (rfE_trans f1 (rfE_1 (g1 _)))
      by_cases h25 : zkd t a = 25
      · rw [if_pos h25] at hok
        have hlt := znb_lt h25
        have hv := b4 h25
        have e32 : (nL (znb t a)).toInt32 = nI (znb t a) := nL_32 (by omega)
        have lst := last (nI (znb t a)) _ _ (zop_num hlt).1 (zop_num hlt).2 (fun es1 E1 f1 => hok (a + 1, [nI (znb t a)]) es1 rfl E1 f1)
        rw [decide_eq_true h25, kx_bt] at lst ⊢
        simp only [ax_W_cons, ax_I, ax_cmp, ax_ii, ax_ll, ax_li, ax_st1, ax_st2, ax_kl, ax_k2, ax_fit, ax_rtok, List.getElem?_cons_zero, List.getElem?_cons_succ, List.length_cons, List.length_nil, List.set_cons_zero, List.set_cons_succ, Nat.reduceAdd, Nat.reduceDiv, Nat.reduceMod, Nat.reduceMul, Nat.reduceLT, Nat.reduceLeDiff, Int32.reduceOfInt, Int64.reduceOfInt, true_and, and_true, and_self, true_or, or_true, false_implies, true_implies, not_false_eq_true, not_true_eq_false, Value.category, Nat.reduceEqDiff, Option.toList, List.cons_append, List.nil_append, List.drop_succ_cons, List.drop_zero, ax_qq_eq, ax_t_1443, ax_j_1443_140, ax_n_1443_140, ax_j_1443_150, ax_n_1443_150, c10, w0, w3, mo_f, hal, a1, a2, hv, e32]
        exact lst
      · rw [if_neg h25] at hok
        have hf : 20 ≤ zkd t a ∧ zkd t a < 20 + m := by
          have hs := hs
          unfold zstart at hs
          subst hm
          cases h
          · simp at hs ⊢
            omega
          · simp at hs ⊢
            omega
        have hm4 : m ≤ 4 := by
          rw [hm]
          split <;> omega
        have hz := zop_fact (k := zkd t a) hf.1 (by omega)
        have lst := last (zneg (zkd t a)) _ _ hz.1 hz.2 (fun es1 E1 f1 => hok (a + 1, [zneg (zkd t a)]) es1 rfl E1 f1)
        rw [decide_eq_false h25, kx_bf, zWh_in hf.1 hf.2] at lst ⊢
        rw [ax_j_1443_168, ← ax_n_1443_168] at lst
        simp only [ax_W_cons, ax_I, ax_cmp, ax_ii, ax_ll, ax_li, ax_st1, ax_st2, ax_kl, ax_k2, ax_fit, ax_rtok, List.getElem?_cons_zero, List.getElem?_cons_succ, List.length_cons, List.length_nil, List.set_cons_zero, List.set_cons_succ, Nat.reduceAdd, Nat.reduceDiv, Nat.reduceMod, Nat.reduceMul, Nat.reduceLT, Nat.reduceLeDiff, Int32.reduceOfInt, Int64.reduceOfInt, true_and, and_true, and_self, true_or, or_true, false_implies, true_implies, not_false_eq_true, not_true_eq_false, Value.category, Nat.reduceEqDiff, Option.toList, List.cons_append, List.nil_append, List.drop_succ_cons, List.drop_zero, ax_qq_eq, ax_t_1443, ax_j_1443_140, ax_n_1443_140, ax_j_1443_149, ax_n_1443_149, ax_j_1443_150, ax_n_1443_150, ax_j_1443_167, ax_n_1443_167]
        exact lst
end TT
