/-! the class: levels and parts -/
section TT
variable {n sl : Nat} {t : zTp} {h : Bool} {tk : Int32} {lw fr : Nat}
theorem xEs_rcv {es : ax_H} {a en : Nat} {code : Nat → Int32} (hal : ax_al n = 178) (X : xEs es t a tk lw fr en code h) (As : List Value) : ax_rcv n es 6 (.ref 20 :: As) := ax_rcv_ok (by omega) X.2.2.2.1
theorem xCt_lv {D l dp : Nat} {P : Nat → zR} (hal : ax_al n = 178) (ht : zT_ok t) (hD : 11 ≤ D) (hl : l ≤ 3) (hP : zgo t P) (hC : xCt n sl t h tk lw fr D 778 [.ref 20, .int (nI (l + 1)), .int (nI dp)] P) : xCt n sl t h tk lw fr (D + 1) 778 [.ref 20, .int (nI l), .int (nI dp)] (zlv t P l (zfu l)) := by
  intro d es a en code Q hd X hpre hen hok hfail
  obtain ⟨d, rfl⟩ : ∃ z, d = z + 12 := ⟨d - 12, by omega⟩
  have hL := ht.1
  have c10 : ¬ (1 : Int32) = 0 := by decide
  have l4 : nI l < 4 := nI_lt (b := 4) (by omega) (by decide)
  have l1 : nI l + 1 = nI (l + 1) := (nI_succ l).symm
  have n0 : ((0 : Int32) = 0 ∨ (0 : Int32) = 1) := Or.inl rfl
  have n1 : ((1 : Int32) = 0 ∨ (1 : Int32) = 1) := Or.inr rfl
  refine ax_Mt_go (m := ax_m_6_10) (ls := [some (.ref 20), some (.int (nI l)), some (.int (nI dp)), none, none, none]) rfl ax_b_778_0 (Nat.le_of_ble_eq_true rfl) rfl ?_
  simp only [ax_W_cons, ax_I, ax_cmp, ax_ii, ax_ll, ax_li, ax_st1, ax_st2, ax_kl, ax_k2, ax_fit, ax_rtok, List.getElem?_cons_zero, List.getElem?_cons_succ, List.length_cons, List.length_nil, List.set_cons_zero, List.set_cons_succ, Nat.reduceAdd, Nat.reduceDiv, Nat.reduceMod, Nat.reduceMul, Nat.reduceLT, Nat.reduceLeDiff, Int32.reduceOfInt, Int64.reduceOfInt, true_and, and_true, and_self, true_or, or_true, false_implies, true_implies, not_false_eq_true, not_true_eq_false, Value.category, Nat.reduceEqDiff, Option.toList, List.cons_append, List.nil_append, List.drop_succ_cons, List.drop_zero, ax_qq_eq, ax_t_778, ax_j_778_11, ax_n_778_11, l4, l1]
  refine ax_inv_of (Nat.le_of_ble_eq_true rfl) (Nat.le_of_ble_eq_true rfl) (fun _ => xEs_rcv hal X _) (fun h => absurd h (by decide)) (Nat.le_refl _) (Nat.le_refl _) (hC _ es a en code _ (by omega) X hpre hen ?_ ?_)
  · intro r0 es1 hr0 X1 f1
    have hzl : zlv t P l (zfu l) a = zlp t P l (zfu l) r0.1 r0.2 := by
      unfold zlv
      rw [hr0]
    obtain ⟨g1, g2, g3⟩ := (hP a).1 _ hr0
    rw [hzl] at hok hfail
    -- the loop
    have loop : ax_W (d + 12) n sl 778 [(2, .iload 4), (1, .iload 3), (3, .if_icmp .ge 106), (1, .aload 0), (3, .getfield 1538), (3, .getfield 2312), (3, .invokeinterface 779 4), (1, .iload 1), (3, .if_icmp .ne 106), (1, .aload 0), (3, .getfield 1538), (3, .getfield 2312), (2, .istore 5), (1, .aload 0), (3, .getfield 1538), (3, .invokeinterface 1160 5), (1, .aload 0), (1, .iload 1), (1, .iconst 1), (1, .iadd), (1, .iload 2), (3, .invokeinterface 778 13), (3, .ifCond .ne 89), (1, .iconst 0), (1, .ireturn)] 40 [some (.ref 20), some (.int (nI l)), some (.int (nI dp)), some (.int (nI (zfu l))), some (.int (nI 0)), none] [] n sl es1 (ax_qq n sl Q) := by
      have hfu : zfu l ≤ 1000 := by
        unfold zfu
        split <;> omega
      have LL := kx_down (k := zfu l) (I := fun f i => ∀ es2 a2 c2, zlp t P l f a2 c2 = zlp t P l (zfu l) r0.1 r0.2 → xEs es2 t a2 tk lw fr (en + c2.length) (zapp code en c2) h → zpre t a2 → en + c2.length ≤ a2 → xfE lw es es2 → ∀ v5, ax_W (d + 12) n sl 778 [(2, .iload 4), (1, .iload 3), (3, .if_icmp .ge 106), (1, .aload 0), (3, .getfield 1538), (3, .getfield 2312), (3, .invokeinterface 779 4), (1, .iload 1), (3, .if_icmp .ne 106), (1, .aload 0), (3, .getfield 1538), (3, .getfield 2312), (2, .istore 5), (1, .aload 0), (3, .getfield 1538), (3, .invokeinterface 1160 5), (1, .aload 0), (1, .iload 1), (1, .iconst 1), (1, .iadd), (1, .iload 2), (3, .invokeinterface 778 13), (3, .ifCond .ne 89), (1, .iconst 0), (1, .ireturn)] 40 [some (.ref 20), some (.int (nI l)), some (.int (nI dp)), some (.int (nI (zfu l))), some (.int (nI i)), v5] [] n sl es2 (ax_qq n sl Q)) ?_ ?_ (zfu l) 0 (by omega)
      · exact LL es1 r0.1 r0.2 rfl X1 (zpre_r hpre g3) (by omega) f1 none
      · intro es2 a2 c2 hz X2 hp2 hle f2 v5
        have e0 := kx_nn (k := zfu l) (by omega)
        rw [zlp] at hz
        simp only [ax_W_cons, ax_I, ax_cmp, ax_ii, ax_ll, ax_li, ax_st1, ax_st2, ax_kl, ax_k2, ax_fit, ax_rtok, List.getElem?_cons_zero, List.getElem?_cons_succ, List.length_cons, List.length_nil, List.set_cons_zero, List.set_cons_succ, Nat.reduceAdd, Nat.reduceDiv, Nat.reduceMod, Nat.reduceMul, Nat.reduceLT, Nat.reduceLeDiff, Int32.reduceOfInt, Int64.reduceOfInt, true_and, and_true, and_self, true_or, or_true, false_implies, true_implies, not_false_eq_true, not_true_eq_false, Value.category, Nat.reduceEqDiff, Option.toList, List.cons_append, List.nil_append, List.drop_succ_cons, List.drop_zero, ax_qq_eq, ax_t_778, ax_j_778_106, ax_n_778_106, e0]
        exact hok (a2, c2) es2 hz.symm X2 f2
      · intro f i hi ih es2 a2 c2 hz X2 hp2 hle f2 v5
        have e0 : ¬ nI (zfu l) ≤ nI i := nI_ge (by omega) (by omega)
        have i4 : nI i + 1 = nI (i + 1) := (nI_succ i).symm
        have hk := zkd_lt t a2
        obtain ⟨⟨⟨nb, nm, k1, k2⟩, k3⟩, x2, x3, x4, x5⟩ := id X2
        have w1 : es2 1 = _ := k1
        rw [zlp] at hz
        simp only [ax_W_cons, ax_I, ax_cmp, ax_ii, ax_ll, ax_li, ax_st1, ax_st2, ax_kl, ax_k2, ax_fit, ax_rtok, List.getElem?_cons_zero, List.getElem?_cons_succ, List.length_cons, List.length_nil, List.set_cons_zero, List.set_cons_succ, Nat.reduceAdd, Nat.reduceDiv, Nat.reduceMod, Nat.reduceMul, Nat.reduceLT, Nat.reduceLeDiff, Int32.reduceOfInt, Int64.reduceOfInt, true_and, and_true, and_self, true_or, or_true, false_implies, true_implies, not_false_eq_true, not_true_eq_false, Value.category, Nat.reduceEqDiff, Option.toList, List.cons_append, List.nil_append, List.drop_succ_cons, List.drop_zero, ax_qq_eq, ax_t_778, e0, x4, w1, hal]
        refine ax_inv_of (Nat.le_of_ble_eq_true rfl) (Nat.le_of_ble_eq_true rfl) (fun _ => absurd ‹_› (by decide)) (fun h => absurd h (by decide)) (Nat.le_refl _) (Nat.le_refl _) (ck_levelOf hk ?_)
        by_cases hlv : zlev (zkd t a2) = l
        · rw [if_pos hlv] at hz
          have hne : ¬ zlev (zkd t a2) = 9 := by omega
          have h26 := zlev_26 (by omega) hlv
          rw [if_neg hne, hlv]
          simp only [ax_W_cons, ax_I, ax_cmp, ax_ii, ax_ll, ax_li, ax_st1, ax_st2, ax_kl, ax_k2, ax_fit, ax_rtok, List.getElem?_cons_zero, List.getElem?_cons_succ, List.length_cons, List.length_nil, List.set_cons_zero, List.set_cons_succ, Nat.reduceAdd, Nat.reduceDiv, Nat.reduceMod, Nat.reduceMul, Nat.reduceLT, Nat.reduceLeDiff, Int32.reduceOfInt, Int64.reduceOfInt, true_and, and_true, and_self, true_or, or_true, false_implies, true_implies, not_false_eq_true, not_true_eq_false, Value.category, Nat.reduceEqDiff, Option.toList, List.cons_append, List.nil_append, List.drop_succ_cons, List.drop_zero, ax_qq_eq, ax_t_778, x4, w1, hal]
          refine ax_inv_of (Nat.le_of_ble_eq_true rfl) (Nat.le_of_ble_eq_true rfl) (fun _ => xTk_rcv hal X2.1 _) (fun h => absurd h (by decide)) (Nat.le_refl _) (Nat.le_refl _) (ck_adv hal ht X2.1 ?_)
          intro es3 T3 f3
          have X3 := xEs_1 X2 T3 f3
          have hp3 : zpre t (a2 + 1) := zpre_r hp2 (fun b h1 h2 => by rw [show b = a2 by omega]; exact h26)
          simp only [ax_W_cons, ax_I, ax_cmp, ax_ii, ax_ll, ax_li, ax_st1, ax_st2, ax_kl, ax_k2, ax_fit, ax_rtok, List.getElem?_cons_zero, List.getElem?_cons_succ, List.length_cons, List.length_nil, List.set_cons_zero, List.set_cons_succ, Nat.reduceAdd, Nat.reduceDiv, Nat.reduceMod, Nat.reduceMul, Nat.reduceLT, Nat.reduceLeDiff, Int32.reduceOfInt, Int64.reduceOfInt, true_and, and_true, and_self, true_or, or_true, false_implies, true_implies, not_false_eq_true, not_true_eq_false, Value.category, Nat.reduceEqDiff, Option.toList, List.cons_append, List.nil_append, List.drop_succ_cons, List.drop_zero, ax_qq_eq, ax_t_778, l1]
          refine ax_inv_of (Nat.le_of_ble_eq_true rfl) (Nat.le_of_ble_eq_true rfl) (fun _ => xEs_rcv hal X3 _) (fun h => absurd h (by decide)) (Nat.le_refl _) (Nat.le_refl _) (hC _ es3 (a2 + 1) (en + c2.length) _ _ (by omega) X3 hp3 (by omega) ?_ ?_)
          · intro r3 es4 hr3 X4 f4
            rw [hr3] at hz
            obtain ⟨q1, q2, q3⟩ := (hP (a2 + 1)).1 _ hr3
            have hp4 := zpre_r hp3 q3
            have hb4 := zpre_le hp4
            obtain ⟨T4, y2, y3, y4, y5⟩ := id X4
            simp only [ax_W_cons, ax_I, ax_cmp, ax_ii, ax_ll, ax_li, ax_st1, ax_st2, ax_kl, ax_k2, ax_fit, ax_rtok, List.getElem?_cons_zero, List.getElem?_cons_succ, List.length_cons, List.length_nil, List.set_cons_zero, List.set_cons_succ, Nat.reduceAdd, Nat.reduceDiv, Nat.reduceMod, Nat.reduceMul, Nat.reduceLT, Nat.reduceLeDiff, Int32.reduceOfInt, Int64.reduceOfInt, true_and, and_true, and_self, true_or, or_true, false_implies, true_implies, not_false_eq_true, not_true_eq_false, Value.category, Nat.reduceEqDiff, Option.toList, List.cons_append, List.nil_append, List.drop_succ_cons, List.drop_zero, ax_qq_eq, ax_t_778, ax_j_778_89, ax_n_778_89, c10, y4, hal]
            refine ax_inv_of (Nat.le_of_ble_eq_true rfl) (Nat.le_of_ble_eq_true rfl) (fun _ => ax_rcv_ok (by omega) y2) (fun h => absurd h (by decide)) (Nat.le_refl _) (Nat.le_refl _) (ck_add hal y5 y2 y3 (by omega) _ ?_)
            intro es5 z1 z2 z3
            have X5 := xEs_add X4 z1 z2 z3
            simp only [ax_W_cons, ax_I, ax_cmp, ax_ii, ax_ll, ax_li, ax_st1, ax_st2, ax_kl, ax_k2, ax_fit, ax_rtok, List.getElem?_cons_zero, List.getElem?_cons_succ, List.length_cons, List.length_nil, List.set_cons_zero, List.set_cons_succ, Nat.reduceAdd, Nat.reduceDiv, Nat.reduceMod, Nat.reduceMul, Nat.reduceLT, Nat.reduceLeDiff, Int32.reduceOfInt, Int64.reduceOfInt, true_and, and_true, and_self, true_or, or_true, false_implies, true_implies, not_false_eq_true, not_true_eq_false, Value.category, Nat.reduceEqDiff, Option.toList, List.cons_append, List.nil_append, List.drop_succ_cons, List.drop_zero, ax_qq_eq, ax_t_778, i4]
            rw [ax_j_778_40]
            have eapp : zapp (zapp (zapp code en c2) (en + c2.length) r3.2) (en + c2.length + r3.2.length) [zneg (zkd t a2)] = zapp code en (c2 ++ (r3.2 ++ [zneg (zkd t a2)])) := by
              rw [zapp_app, zapp_app]
            have elen : (c2 ++ (r3.2 ++ [zneg (zkd t a2)])).length = c2.length + r3.2.length + 1 := by
              rw [List.length_append, List.length_append, List.length_singleton]
              omega
            refine ih es5 r3.1 (c2 ++ (r3.2 ++ [zneg (zkd t a2)])) hz ?_ hp4 (by rw [elen]; omega) (xfE_trans f2 (xfE_trans (fun j hj => f3 j hj.1) (xfE_trans f4 (fun j hj => z3 j hj.2)))) _
            rw [elen, ← eapp]
            have X5 : xEs es5 t r3.1 tk lw fr (en + c2.length + r3.2.length + 1) (zapp (zapp (zapp code en c2) (en + c2.length) r3.2) (en + c2.length + r3.2.length) [zneg (zkd t a2)]) h := X5
            rw [show en + (c2.length + r3.2.length + 1) = en + c2.length + r3.2.length + 1 by omega]
            exact X5
          · intro x es4 hx hTf f4
            rw [hx] at hz
            simp only [ax_W_cons, ax_I, ax_cmp, ax_ii, ax_ll, ax_li, ax_st1, ax_st2, ax_kl, ax_k2, ax_fit, ax_rtok, List.getElem?_cons_zero, List.getElem?_cons_succ, List.length_cons, List.length_nil, List.set_cons_zero, List.set_cons_succ, Nat.reduceAdd, Nat.reduceDiv, Nat.reduceMod, Nat.reduceMul, Nat.reduceLT, Nat.reduceLeDiff, Int32.reduceOfInt, Int64.reduceOfInt, true_and, and_true, and_self, true_or, or_true, false_implies, true_implies, not_false_eq_true, not_true_eq_false, Value.category, Nat.reduceEqDiff, Option.toList, List.cons_append, List.nil_append, List.drop_succ_cons, List.drop_zero, ax_qq_eq, ax_t_778, n0]
            exact hfail x es4 hz.symm hTf (xfE_trans f2 (xfE_trans (fun j hj => f3 j hj.1) f4))
        · rw [if_neg hlv] at hz
          have hne : ¬ (if zlev (zkd t a2) = 9 then -1 else nI (zlev (zkd t a2))) = nI l := by
            split
            · exact fun z => mx_n1 (c := l) (by omega) z.symm
            · intro z
              have hz9 : zlev (zkd t a2) < 2 ^ 31 := by
                unfold zlev
                split
                · omega
                · split
                  · omega
                  · split
                    · omega
                    · split <;> omega
              exact hlv (kn_inj hz9 (by omega) z)
          simp only [ax_W_cons, ax_I, ax_cmp, ax_ii, ax_ll, ax_li, ax_st1, ax_st2, ax_kl, ax_k2, ax_fit, ax_rtok, List.getElem?_cons_zero, List.getElem?_cons_succ, List.length_cons, List.length_nil, List.set_cons_zero, List.set_cons_succ, Nat.reduceAdd, Nat.reduceDiv, Nat.reduceMod, Nat.reduceMul, Nat.reduceLT, Nat.reduceLeDiff, Int32.reduceOfInt, Int64.reduceOfInt, true_and, and_true, and_self, true_or, or_true, false_implies, true_implies, not_false_eq_true, not_true_eq_false, Value.category, Nat.reduceEqDiff, Option.toList, List.cons_append, List.nil_append, List.drop_succ_cons, List.drop_zero, ax_qq_eq, ax_t_778, ax_j_778_106, ax_n_778_106, hne, n1]
          exact hok (a2, c2) es2 hz.symm X2 f2
    by_cases hl1 : l = 1
    · have e1 : nI l = 1 := by rw [hl1]; rfl
      have e2 : zfu l = 1 := by rw [hl1]; rfl
      rw [e2, e1] at loop
      rw [e1]
      simp only [ax_W_cons, ax_I, ax_cmp, ax_ii, ax_ll, ax_li, ax_st1, ax_st2, ax_kl, ax_k2, ax_fit, ax_rtok, List.getElem?_cons_zero, List.getElem?_cons_succ, List.length_cons, List.length_nil, List.set_cons_zero, List.set_cons_succ, Nat.reduceAdd, Nat.reduceDiv, Nat.reduceMod, Nat.reduceMul, Nat.reduceLT, Nat.reduceLeDiff, Int32.reduceOfInt, Int64.reduceOfInt, true_and, and_true, and_self, true_or, or_true, false_implies, true_implies, not_false_eq_true, not_true_eq_false, Value.category, Nat.reduceEqDiff, Option.toList, List.cons_append, List.nil_append, List.drop_succ_cons, List.drop_zero, ax_qq_eq, ax_t_778, ax_j_778_24, ax_n_778_24, ax_j_778_36, ax_n_778_36, c10]
      rw [ax_n_778_40]
      exact loop
    · have e1 : ¬ nI l = 1 := fun z => hl1 (kn_inj (b := 1) (by omega) (by decide) z)
      have e2 : zfu l = 1000 := by unfold zfu; rw [if_neg hl1]
      rw [e2] at loop
      simp only [ax_W_cons, ax_I, ax_cmp, ax_ii, ax_ll, ax_li, ax_st1, ax_st2, ax_kl, ax_k2, ax_fit, ax_rtok, List.getElem?_cons_zero, List.getElem?_cons_succ, List.length_cons, List.length_nil, List.set_cons_zero, List.set_cons_succ, Nat.reduceAdd, Nat.reduceDiv, Nat.reduceMod, Nat.reduceMul, Nat.reduceLT, Nat.reduceLeDiff, Int32.reduceOfInt, Int64.reduceOfInt, true_and, and_true, and_self, true_or, or_true, false_implies, true_implies, not_false_eq_true, not_true_eq_false, Value.category, Nat.reduceEqDiff, Option.toList, List.cons_append, List.nil_append, List.drop_succ_cons, List.drop_zero, ax_qq_eq, ax_t_778, ax_j_778_24, ax_n_778_24, ax_j_778_33, ax_n_778_33, ax_j_778_36, ax_n_778_36, c10, e1]
      rw [ax_n_778_40]
      exact loop
  · intro x es1 hx hTf f1
    simp only [ax_W_cons, ax_I, ax_cmp, ax_ii, ax_ll, ax_li, ax_st1, ax_st2, ax_kl, ax_k2, ax_fit, ax_rtok, List.getElem?_cons_zero, List.getElem?_cons_succ, List.length_cons, List.length_nil, List.set_cons_zero, List.set_cons_succ, Nat.reduceAdd, Nat.reduceDiv, Nat.reduceMod, Nat.reduceMul, Nat.reduceLT, Nat.reduceLeDiff, Int32.reduceOfInt, Int64.reduceOfInt, true_and, and_true, and_self, true_or, or_true, false_implies, true_implies, not_false_eq_true, not_true_eq_false, Value.category, Nat.reduceEqDiff, Option.toList, List.cons_append, List.nil_append, List.drop_succ_cons, List.drop_zero, ax_qq_eq, ax_t_778, n0]
    refine hfail x es1 ?_ hTf f1
    unfold zlv
    rw [hx]
theorem xCt_l4 {D dp : Nat} {P : Nat → zR} (hal : ax_al n = 178) (hC : xCt n sl t h tk lw fr D 780 [.ref 20, .int (nI dp)] P) : xCt n sl t h tk lw fr (D + 1) 778 [.ref 20, .int (nI 4), .int (nI dp)] P := by
  intro d es a en code Q hd X hpre hen hok hfail
  obtain ⟨d, rfl⟩ : ∃ z, d = z + 1 := ⟨d - 1, by omega⟩
  have l4 : ¬ nI 4 < 4 := by decide
  have n0 : ((0 : Int32) = 0 ∨ (0 : Int32) = 1) := Or.inl rfl
  have n1 : ((1 : Int32) = 0 ∨ (1 : Int32) = 1) := Or.inr rfl
  refine ax_Mt_go (m := ax_m_6_10) (ls := [some (.ref 20), some (.int (nI 4)), some (.int (nI dp)), none, none, none]) rfl ax_b_778_0 (Nat.le_of_ble_eq_true rfl) rfl ?_
  simp only [ax_W_cons, ax_I, ax_cmp, ax_ii, ax_ll, ax_li, ax_st1, ax_st2, ax_kl, ax_k2, ax_fit, ax_rtok, List.getElem?_cons_zero, List.getElem?_cons_succ, List.length_cons, List.length_nil, List.set_cons_zero, List.set_cons_succ, Nat.reduceAdd, Nat.reduceDiv, Nat.reduceMod, Nat.reduceMul, Nat.reduceLT, Nat.reduceLeDiff, Int32.reduceOfInt, Int64.reduceOfInt, true_and, and_true, and_self, true_or, or_true, false_implies, true_implies, not_false_eq_true, not_true_eq_false, Value.category, Nat.reduceEqDiff, Option.toList, List.cons_append, List.nil_append, List.drop_succ_cons, List.drop_zero, ax_qq_eq, ax_t_778, l4]
  refine ax_inv_of (Nat.le_of_ble_eq_true rfl) (Nat.le_of_ble_eq_true rfl) (fun _ => xEs_rcv hal X _) (fun h => absurd h (by decide)) (Nat.le_refl _) (Nat.le_refl _) (hC _ es a en code _ (by omega) X hpre hen ?_ ?_)
  · intro r es1 hr X1 f1
    simp only [ax_W_cons, ax_I, ax_cmp, ax_ii, ax_ll, ax_li, ax_st1, ax_st2, ax_kl, ax_k2, ax_fit, ax_rtok, List.getElem?_cons_zero, List.getElem?_cons_succ, List.length_cons, List.length_nil, List.set_cons_zero, List.set_cons_succ, Nat.reduceAdd, Nat.reduceDiv, Nat.reduceMod, Nat.reduceMul, Nat.reduceLT, Nat.reduceLeDiff, Int32.reduceOfInt, Int64.reduceOfInt, true_and, and_true, and_self, true_or, or_true, false_implies, true_implies, not_false_eq_true, not_true_eq_false, Value.category, Nat.reduceEqDiff, Option.toList, List.cons_append, List.nil_append, List.drop_succ_cons, List.drop_zero, ax_qq_eq, ax_t_778, n1]
    exact hok r es1 hr X1 f1
  · intro x es1 hx hTf f1
    simp only [ax_W_cons, ax_I, ax_cmp, ax_ii, ax_ll, ax_li, ax_st1, ax_st2, ax_kl, ax_k2, ax_fit, ax_rtok, List.getElem?_cons_zero, List.getElem?_cons_succ, List.length_cons, List.length_nil, List.set_cons_zero, List.set_cons_succ, Nat.reduceAdd, Nat.reduceDiv, Nat.reduceMod, Nat.reduceMul, Nat.reduceLT, Nat.reduceLeDiff, Int32.reduceOfInt, Int64.reduceOfInt, true_and, and_true, and_self, true_or, or_true, false_implies, true_implies, not_false_eq_true, not_true_eq_false, Value.category, Nat.reduceEqDiff, Option.toList, List.cons_append, List.nil_append, List.drop_succ_cons, List.drop_zero, ax_qq_eq, ax_t_778, n0]
    exact hfail x es1 hx hTf f1
/-- all levels -/
theorem xCt_all {D dp : Nat} {P : Nat → zR} (hal : ax_al n = 178) (ht : zT_ok t) (hD : 11 ≤ D) (hP : zgo t P) (hC : xCt n sl t h tk lw fr D 780 [.ref 20, .int (nI dp)] P) : ∀ m, m ≤ 4 → xCt n sl t h tk lw fr (D + 1 + m) 778 [.ref 20, .int (nI (4 - m)), .int (nI dp)] (zLv t P m)
  | 0, _ => xCt_l4 hal hC
  | m + 1, hm => by
    have ih := xCt_all hal ht hD hP hC m (by omega)
    rw [show 4 - m = (3 - m) + 1 by omega] at ih
    rw [show 4 - (m + 1) = 3 - m by omega]
    exact xCt_lv (D := D + 1 + m) hal ht (by omega) (by omega) (zLv_go hP m) ih
theorem xCt_part (hal : ax_al n = 178) (ht : zT_ok t) : ∀ e, e ≤ 5 → xCt n sl t h tk lw fr (13 + 7 * e) 780 [.ref 20, .int (nI (5 - e))] (zP t h e)
  | 0, _ => by
    intro d es a en code Q hd X hpre hen hok hfail
    obtain ⟨d, rfl⟩ : ∃ z, d = z + 12 := ⟨d - 12, by omega⟩
    have c10 : ¬ (1 : Int32) = 0 := by decide
    have n0 : ((0 : Int32) = 0 ∨ (0 : Int32) = 1) := Or.inl rfl
    have hk := zkd_lt t a
    obtain ⟨⟨⟨nb, nm, k1, k2⟩, k3⟩, x2, x3, x4, x5⟩ := id X
    have w1 : es 1 = _ := k1
    rw [zP] at hok hfail
    refine ax_Mt_go (m := ax_m_6_12) (ls := [some (.ref 20), some (.int (nI (5 - 0))), none, none]) rfl ax_b_780_0 (Nat.le_of_ble_eq_true rfl) rfl ?_
    simp only [ax_W_cons, ax_I, ax_cmp, ax_ii, ax_ll, ax_li, ax_st1, ax_st2, ax_kl, ax_k2, ax_fit, ax_rtok, List.getElem?_cons_zero, List.getElem?_cons_succ, List.length_cons, List.length_nil, List.set_cons_zero, List.set_cons_succ, Nat.reduceAdd, Nat.reduceDiv, Nat.reduceMod, Nat.reduceMul, Nat.reduceLT, Nat.reduceLeDiff, Int32.reduceOfInt, Int64.reduceOfInt, true_and, and_true, and_self, true_or, or_true, false_implies, true_implies, not_false_eq_true, not_true_eq_false, Value.category, Nat.reduceEqDiff, Option.toList, List.cons_append, List.nil_append, List.drop_succ_cons, List.drop_zero, ax_qq_eq, ax_t_780, x4, w1, hal]
    refine ax_inv_of (Nat.le_of_ble_eq_true rfl) (Nat.le_of_ble_eq_true rfl) (fun _ => xEs_rcv hal X _) (fun h => absurd h (by decide)) (Nat.le_refl _) (Nat.le_refl _) (ck_startsPart hal hk x4 ?_)
    cases hs : zstart h (zkd t a)
    · rw [if_neg (by rw [hs]; decide)] at hfail
      simp only [ax_W_cons, ax_I, ax_cmp, ax_ii, ax_ll, ax_li, ax_st1, ax_st2, ax_kl, ax_k2, ax_fit, ax_rtok, List.getElem?_cons_zero, List.getElem?_cons_succ, List.length_cons, List.length_nil, List.set_cons_zero, List.set_cons_succ, Nat.reduceAdd, Nat.reduceDiv, Nat.reduceMod, Nat.reduceMul, Nat.reduceLT, Nat.reduceLeDiff, Int32.reduceOfInt, Int64.reduceOfInt, true_and, and_true, and_self, true_or, or_true, false_implies, true_implies, not_false_eq_true, not_true_eq_false, Value.category, Nat.reduceEqDiff, Option.toList, List.cons_append, List.nil_append, List.drop_succ_cons, List.drop_zero, ax_qq_eq, ax_t_780, kx_bf, x4, hal]
      refine ax_inv_of (Nat.le_of_ble_eq_true rfl) (Nat.le_of_ble_eq_true rfl) (fun _ => xTk_rcv hal X.1 _) (fun h => absurd h (by decide)) (Nat.le_refl _) (Nat.le_refl _) (ck_fail (k := 1) hal X.1 ?_)
      intro es1 hTf f1
      simp only [ax_W_cons, ax_I, ax_cmp, ax_ii, ax_ll, ax_li, ax_st1, ax_st2, ax_kl, ax_k2, ax_fit, ax_rtok, List.getElem?_cons_zero, List.getElem?_cons_succ, List.length_cons, List.length_nil, List.set_cons_zero, List.set_cons_succ, Nat.reduceAdd, Nat.reduceDiv, Nat.reduceMod, Nat.reduceMul, Nat.reduceLT, Nat.reduceLeDiff, Int32.reduceOfInt, Int64.reduceOfInt, true_and, and_true, and_self, true_or, or_true, false_implies, true_implies, not_false_eq_true, not_true_eq_false, Value.category, Nat.reduceEqDiff, Option.toList, List.cons_append, List.nil_append, List.drop_succ_cons, List.drop_zero, ax_qq_eq, ax_t_780, n0]
      exact hfail (1, a) es1 rfl ⟨hTf, xEs_ls X f1⟩ (fun j hj => f1 j hj.1)
    · rw [if_pos hs] at hfail
      have c5 : ¬ nI (5 - 0) < 5 := by decide
      simp only [ax_W_cons, ax_I, ax_cmp, ax_ii, ax_ll, ax_li, ax_st1, ax_st2, ax_kl, ax_k2, ax_fit, ax_rtok, List.getElem?_cons_zero, List.getElem?_cons_succ, List.length_cons, List.length_nil, List.set_cons_zero, List.set_cons_succ, Nat.reduceAdd, Nat.reduceDiv, Nat.reduceMod, Nat.reduceMul, Nat.reduceLT, Nat.reduceLeDiff, Int32.reduceOfInt, Int64.reduceOfInt, true_and, and_true, and_self, true_or, or_true, false_implies, true_implies, not_false_eq_true, not_true_eq_false, Value.category, Nat.reduceEqDiff, Option.toList, List.cons_append, List.nil_append, List.drop_succ_cons, List.drop_zero, ax_qq_eq, ax_t_780, ax_j_780_25, ax_n_780_25, kx_bt, c10, c5, x4, hal]
      refine ax_inv_of (Nat.le_of_ble_eq_true rfl) (Nat.le_of_ble_eq_true rfl) (fun _ => xTk_rcv hal X.1 _) (fun h => absurd h (by decide)) (Nat.le_refl _) (Nat.le_refl _) (ck_fail (k := 5) hal X.1 ?_)
      intro es1 hTf f1
      simp only [ax_W_cons, ax_I, ax_cmp, ax_ii, ax_ll, ax_li, ax_st1, ax_st2, ax_kl, ax_k2, ax_fit, ax_rtok, List.getElem?_cons_zero, List.getElem?_cons_succ, List.length_cons, List.length_nil, List.set_cons_zero, List.set_cons_succ, Nat.reduceAdd, Nat.reduceDiv, Nat.reduceMod, Nat.reduceMul, Nat.reduceLT, Nat.reduceLeDiff, Int32.reduceOfInt, Int64.reduceOfInt, true_and, and_true, and_self, true_or, or_true, false_implies, true_implies, not_false_eq_true, not_true_eq_false, Value.category, Nat.reduceEqDiff, Option.toList, List.cons_append, List.nil_append, List.drop_succ_cons, List.drop_zero, ax_qq_eq, ax_t_780, n0]
      exact hfail (5, a) es1 rfl ⟨hTf, xEs_ls X f1⟩ (fun j hj => f1 j hj.1)
  | e + 1, he => by
    have ihp := xCt_part hal ht e (by omega)
    have ihl := xCt_all hal ht (by omega) (zP_go t h e) ihp 4 (Nat.le_refl _)
    intro d es a en code Q hd X hpre hen hok hfail
    obtain ⟨d, rfl⟩ : ∃ z, d = z + 12 := ⟨d - 12, by omega⟩
    have c10 : ¬ (1 : Int32) = 0 := by decide
    have n0 : ((0 : Int32) = 0 ∨ (0 : Int32) = 1) := Or.inl rfl
    have n1 : ((1 : Int32) = 0 ∨ (1 : Int32) = 1) := Or.inr rfl
    have hk := zkd_lt t a
    have hL := ht.1
    have dp1 : nI (5 - (e + 1)) + 1 = nI (5 - e) := by
      rw [← nI_succ]
      congr 1
      omega
    have c5 : nI (5 - (e + 1)) < 5 := nI_lt (b := 5) (by omega) (by decide)
    obtain ⟨⟨⟨nb, nm, k1, k2, k2'⟩, k3⟩, x2, x3, x4, x5⟩ := id X
    have w1 : es 1 = _ := k1
    rw [zP] at hok hfail
    refine ax_Mt_go (m := ax_m_6_12) (ls := [some (.ref 20), some (.int (nI (5 - (e + 1)))), none, none]) rfl ax_b_780_0 (Nat.le_of_ble_eq_true rfl) rfl ?_
    simp only [ax_W_cons, ax_I, ax_cmp, ax_ii, ax_ll, ax_li, ax_st1, ax_st2, ax_kl, ax_k2, ax_fit, ax_rtok, List.getElem?_cons_zero, List.getElem?_cons_succ, List.length_cons, List.length_nil, List.set_cons_zero, List.set_cons_succ, Nat.reduceAdd, Nat.reduceDiv, Nat.reduceMod, Nat.reduceMul, Nat.reduceLT, Nat.reduceLeDiff, Int32.reduceOfInt, Int64.reduceOfInt, true_and, and_true, and_self, true_or, or_true, false_implies, true_implies, not_false_eq_true, not_true_eq_false, Value.category, Nat.reduceEqDiff, Option.toList, List.cons_append, List.nil_append, List.drop_succ_cons, List.drop_zero, ax_qq_eq, ax_t_780, x4, w1, hal]
    refine ax_inv_of (Nat.le_of_ble_eq_true rfl) (Nat.le_of_ble_eq_true rfl) (fun _ => xEs_rcv hal X _) (fun h => absurd h (by decide)) (Nat.le_refl _) (Nat.le_refl _) (ck_startsPart hal hk x4 ?_)
    cases hs : zstart h (zkd t a)
    · rw [if_neg (by rw [hs]; decide)] at hfail
      simp only [ax_W_cons, ax_I, ax_cmp, ax_ii, ax_ll, ax_li, ax_st1, ax_st2, ax_kl, ax_k2, ax_fit, ax_rtok, List.getElem?_cons_zero, List.getElem?_cons_succ, List.length_cons, List.length_nil, List.set_cons_zero, List.set_cons_succ, Nat.reduceAdd, Nat.reduceDiv, Nat.reduceMod, Nat.reduceMul, Nat.reduceLT, Nat.reduceLeDiff, Int32.reduceOfInt, Int64.reduceOfInt, true_and, and_true, and_self, true_or, or_true, false_implies, true_implies, not_false_eq_true, not_true_eq_false, Value.category, Nat.reduceEqDiff, Option.toList, List.cons_append, List.nil_append, List.drop_succ_cons, List.drop_zero, ax_qq_eq, ax_t_780, kx_bf, x4, hal]
      refine ax_inv_of (Nat.le_of_ble_eq_true rfl) (Nat.le_of_ble_eq_true rfl) (fun _ => xTk_rcv hal X.1 _) (fun h => absurd h (by decide)) (Nat.le_refl _) (Nat.le_refl _) (ck_fail (k := 1) hal X.1 ?_)
      intro es1 hTf f1
      simp only [ax_W_cons, ax_I, ax_cmp, ax_ii, ax_ll, ax_li, ax_st1, ax_st2, ax_kl, ax_k2, ax_fit, ax_rtok, List.getElem?_cons_zero, List.getElem?_cons_succ, List.length_cons, List.length_nil, List.set_cons_zero, List.set_cons_succ, Nat.reduceAdd, Nat.reduceDiv, Nat.reduceMod, Nat.reduceMul, Nat.reduceLT, Nat.reduceLeDiff, Int32.reduceOfInt, Int64.reduceOfInt, true_and, and_true, and_self, true_or, or_true, false_implies, true_implies, not_false_eq_true, not_true_eq_false, Value.category, Nat.reduceEqDiff, Option.toList, List.cons_append, List.nil_append, List.drop_succ_cons, List.drop_zero, ax_qq_eq, ax_t_780, n0]
      exact hfail (1, a) es1 rfl ⟨hTf, xEs_ls X f1⟩ (fun j hj => f1 j hj.1)
    · rw [if_pos hs] at hok hfail
      have h26 := zstart_26 hs
      have hp1 : zpre t (a + 1) := zpre_r hpre (fun b h1 h2 => by rw [show b = a by omega]; exact h26)
      have hpb := zpre_le hp1
      simp only [ax_W_cons, ax_I, ax_cmp, ax_ii, ax_ll, ax_li, ax_st1, ax_st2, ax_kl, ax_k2, ax_fit, ax_rtok, List.getElem?_cons_zero, List.getElem?_cons_succ, List.length_cons, List.length_nil, List.set_cons_zero, List.set_cons_succ, Nat.reduceAdd, Nat.reduceDiv, Nat.reduceMod, Nat.reduceMul, Nat.reduceLT, Nat.reduceLeDiff, Int32.reduceOfInt, Int64.reduceOfInt, true_and, and_true, and_self, true_or, or_true, false_implies, true_implies, not_false_eq_true, not_true_eq_false, Value.category, Nat.reduceEqDiff, Option.toList, List.cons_append, List.nil_append, List.drop_succ_cons, List.drop_zero, ax_qq_eq, ax_t_780, ax_j_780_25, ax_n_780_25, ax_j_780_39, ax_n_780_39, kx_bt, c10, c5, x4, w1, hal]
      refine ax_inv_of (Nat.le_of_ble_eq_true rfl) (Nat.le_of_ble_eq_true rfl) (fun _ => xTk_rcv hal X.1 _) (fun h => absurd h (by decide)) (Nat.le_refl _) (Nat.le_refl _) (ck_adv hal ht X.1 ?_)
      intro es1 T1 f1
      have X1 := xEs_1 X T1 f1
      have y4 := X1.2.2.2.1
      have f1' : xfE lw es es1 := fun j hj => f1 j hj.1
      have k40 : (nI (zkd t a) = 40) = (zkd t a = 40) := zk_eq (x := 40) hk (by decide)
      have k17 : (nI (zkd t a) = 17) = (zkd t a = 17) := zk_eq (x := 17) hk (by decide)
      have k25 : (nI (zkd t a) = 25) = (zkd t a = 25) := zk_eq (x := 25) hk (by decide)
      by_cases h40 : zkd t a = 40
      · rw [if_pos h40] at hok hfail
        have k40' : nI (zkd t a) = 40 := by rw [k40]; exact h40
        rw [k40']
        simp only [ax_W_cons, ax_I, ax_cmp, ax_ii, ax_ll, ax_li, ax_st1, ax_st2, ax_kl, ax_k2, ax_fit, ax_rtok, List.getElem?_cons_zero, List.getElem?_cons_succ, List.length_cons, List.length_nil, List.set_cons_zero, List.set_cons_succ, Nat.reduceAdd, Nat.reduceDiv, Nat.reduceMod, Nat.reduceMul, Nat.reduceLT, Nat.reduceLeDiff, Int32.reduceOfInt, Int64.reduceOfInt, true_and, and_true, and_self, true_or, or_true, false_implies, true_implies, not_false_eq_true, not_true_eq_false, Value.category, Nat.reduceEqDiff, Option.toList, List.cons_append, List.nil_append, List.drop_succ_cons, List.drop_zero, ax_qq_eq, ax_t_780, dp1]
        refine ax_inv_of (Nat.le_of_ble_eq_true rfl) (Nat.le_of_ble_eq_true rfl) (fun _ => xEs_rcv hal X1 _) (fun h => absurd h (by decide)) (Nat.le_refl _) (Nat.le_refl _) (ihl _ es1 (a + 1) en code _ (by omega) X1 hp1 (by omega) ?_ ?_)
        · intro r es2 hr X2 f2
          rw [hr] at hok hfail
          dsimp only at hok hfail
          obtain ⟨q1, q2, q3⟩ := (zLv_go (zP_go t h e) 4 (a + 1)).1 _ hr
          have z4 := X2.2.2.2.1
          obtain ⟨⟨nb2, nm2, v1, -⟩, -⟩ := id X2.1
          have v1 : es2 1 = _ := v1
          have hk2 := zkd_lt t r.1
          have k41 : (nI (zkd t r.1) = 41) = (zkd t r.1 = 41) := zk_eq (x := 41) hk2 (by decide)
          by_cases h41 : zkd t r.1 = 41
          · rw [if_pos h41] at hok
            have k41' : nI (zkd t r.1) = 41 := by rw [k41]; exact h41
            simp only [ax_W_cons, ax_I, ax_cmp, ax_ii, ax_ll, ax_li, ax_st1, ax_st2, ax_kl, ax_k2, ax_fit, ax_rtok, List.getElem?_cons_zero, List.getElem?_cons_succ, List.length_cons, List.length_nil, List.set_cons_zero, List.set_cons_succ, Nat.reduceAdd, Nat.reduceDiv, Nat.reduceMod, Nat.reduceMul, Nat.reduceLT, Nat.reduceLeDiff, Int32.reduceOfInt, Int64.reduceOfInt, true_and, and_true, and_self, true_or, or_true, false_implies, true_implies, not_false_eq_true, not_true_eq_false, Value.category, Nat.reduceEqDiff, Option.toList, List.cons_append, List.nil_append, List.drop_succ_cons, List.drop_zero, ax_qq_eq, ax_t_780, ax_j_780_73, ax_n_780_73, ax_j_780_94, ax_n_780_94, c10, z4, v1, hal, k41']
            refine ax_inv_of (Nat.le_of_ble_eq_true rfl) (Nat.le_of_ble_eq_true rfl) (fun _ => xTk_rcv hal X2.1 _) (fun h => absurd h (by decide)) (Nat.le_refl _) (Nat.le_refl _) (ck_adv hal ht X2.1 ?_)
            intro es3 T3 f3
            simp only [ax_W_cons, ax_I, ax_cmp, ax_ii, ax_ll, ax_li, ax_st1, ax_st2, ax_kl, ax_k2, ax_fit, ax_rtok, List.getElem?_cons_zero, List.getElem?_cons_succ, List.length_cons, List.length_nil, List.set_cons_zero, List.set_cons_succ, Nat.reduceAdd, Nat.reduceDiv, Nat.reduceMod, Nat.reduceMul, Nat.reduceLT, Nat.reduceLeDiff, Int32.reduceOfInt, Int64.reduceOfInt, true_and, and_true, and_self, true_or, or_true, false_implies, true_implies, not_false_eq_true, not_true_eq_false, Value.category, Nat.reduceEqDiff, Option.toList, List.cons_append, List.nil_append, List.drop_succ_cons, List.drop_zero, ax_qq_eq, ax_t_780, n1]
            exact hok (r.1 + 1, r.2) es3 rfl (xEs_1 X2 T3 f3) (xfE_trans f1' (xfE_trans f2 (fun j hj => f3 j hj.1)))
          · rw [if_neg h41] at hfail
            have k41' : ¬ nI (zkd t r.1) = 41 := by rw [k41]; exact h41
            simp only [ax_W_cons, ax_I, ax_cmp, ax_ii, ax_ll, ax_li, ax_st1, ax_st2, ax_kl, ax_k2, ax_fit, ax_rtok, List.getElem?_cons_zero, List.getElem?_cons_succ, List.length_cons, List.length_nil, List.set_cons_zero, List.set_cons_succ, Nat.reduceAdd, Nat.reduceDiv, Nat.reduceMod, Nat.reduceMul, Nat.reduceLT, Nat.reduceLeDiff, Int32.reduceOfInt, Int64.reduceOfInt, true_and, and_true, and_self, true_or, or_true, false_implies, true_implies, not_false_eq_true, not_true_eq_false, Value.category, Nat.reduceEqDiff, Option.toList, List.cons_append, List.nil_append, List.drop_succ_cons, List.drop_zero, ax_qq_eq, ax_t_780, ax_j_780_73, ax_n_780_73, c10, z4, v1, hal, k41']
            refine ax_inv_of (Nat.le_of_ble_eq_true rfl) (Nat.le_of_ble_eq_true rfl) (fun _ => xTk_rcv hal X2.1 _) (fun h => absurd h (by decide)) (Nat.le_refl _) (Nat.le_refl _) (ck_fail (k := 1) hal X2.1 ?_)
            intro es3 hTf f3
            simp only [ax_W_cons, ax_I, ax_cmp, ax_ii, ax_ll, ax_li, ax_st1, ax_st2, ax_kl, ax_k2, ax_fit, ax_rtok, List.getElem?_cons_zero, List.getElem?_cons_succ, List.length_cons, List.length_nil, List.set_cons_zero, List.set_cons_succ, Nat.reduceAdd, Nat.reduceDiv, Nat.reduceMod, Nat.reduceMul, Nat.reduceLT, Nat.reduceLeDiff, Int32.reduceOfInt, Int64.reduceOfInt, true_and, and_true, and_self, true_or, or_true, false_implies, true_implies, not_false_eq_true, not_true_eq_false, Value.category, Nat.reduceEqDiff, Option.toList, List.cons_append, List.nil_append, List.drop_succ_cons, List.drop_zero, ax_qq_eq, ax_t_780, n0]
            exact hfail (1, r.1) es3 rfl ⟨hTf, xEs_ls X2 f3⟩ (xfE_trans f1' (xfE_trans f2 (fun j hj => f3 j hj.1)))
        · intro x es2 hx hTf f2
          rw [hx] at hfail
          simp only [ax_W_cons, ax_I, ax_cmp, ax_ii, ax_ll, ax_li, ax_st1, ax_st2, ax_kl, ax_k2, ax_fit, ax_rtok, List.getElem?_cons_zero, List.getElem?_cons_succ, List.length_cons, List.length_nil, List.set_cons_zero, List.set_cons_succ, Nat.reduceAdd, Nat.reduceDiv, Nat.reduceMod, Nat.reduceMul, Nat.reduceLT, Nat.reduceLeDiff, Int32.reduceOfInt, Int64.reduceOfInt, true_and, and_true, and_self, true_or, or_true, false_implies, true_implies, not_false_eq_true, not_true_eq_false, Value.category, Nat.reduceEqDiff, Option.toList, List.cons_append, List.nil_append, List.drop_succ_cons, List.drop_zero, ax_qq_eq, ax_t_780, n0]
          exact hfail x es2 rfl hTf (xfE_trans f1' f2)
      · rw [if_neg h40] at hok hfail
        have k40' : ¬ nI (zkd t a) = 40 := by rw [k40]; exact h40
        -- the sign itself
        have last : ∀ es2 a2 en2 code2 (x : Int32) (Q2 : Prop), xEs es2 t a2 tk lw fr en2 code2 h → en2 < 1000 → (∀ es3, xEs es3 t a2 tk lw fr (en2 + 1) (zapp code2 en2 [x]) h → xfE lw es2 es3 → Q (some (.int 1)) es3) → ax_W (d + 12) n sl 780 [(3, .invokeinterface 386 9), (1, .iconst 1), (1, .ireturn)] 138 [some (.ref 20), some (.int (nI (5 - (e + 1)))), some (.int (nI (zkd t a))), some (.int nb)] [.int x, .ref lw] n sl es2 (ax_qq n sl Q) := by
          intro es2 a2 en2 code2 x Q2 X2 hlt hq
          obtain ⟨T2, y2, y3, y4, y5⟩ := id X2
          simp only [ax_W_cons, ax_I, ax_cmp, ax_ii, ax_ll, ax_li, ax_st1, ax_st2, ax_kl, ax_k2, ax_fit, ax_rtok, List.getElem?_cons_zero, List.getElem?_cons_succ, List.length_cons, List.length_nil, List.set_cons_zero, List.set_cons_succ, Nat.reduceAdd, Nat.reduceDiv, Nat.reduceMod, Nat.reduceMul, Nat.reduceLT, Nat.reduceLeDiff, Int32.reduceOfInt, Int64.reduceOfInt, true_and, and_true, and_self, true_or, or_true, false_implies, true_implies, not_false_eq_true, not_true_eq_false, Value.category, Nat.reduceEqDiff, Option.toList, List.cons_append, List.nil_append, List.drop_succ_cons, List.drop_zero, ax_qq_eq, ax_t_780]
          refine ax_inv_of (Nat.le_of_ble_eq_true rfl) (Nat.le_of_ble_eq_true rfl) (fun _ => ax_rcv_ok (by omega) y2) (fun h => absurd h (by decide)) (Nat.le_refl _) (Nat.le_refl _) (ck_add hal y5 y2 y3 hlt x ?_)
          intro es3 z1 z2 z3
          simp only [ax_W_cons, ax_I, ax_cmp, ax_ii, ax_ll, ax_li, ax_st1, ax_st2, ax_kl, ax_k2, ax_fit, ax_rtok, List.getElem?_cons_zero, List.getElem?_cons_succ, List.length_cons, List.length_nil, List.set_cons_zero, List.set_cons_succ, Nat.reduceAdd, Nat.reduceDiv, Nat.reduceMod, Nat.reduceMul, Nat.reduceLT, Nat.reduceLeDiff, Int32.reduceOfInt, Int64.reduceOfInt, true_and, and_true, and_self, true_or, or_true, false_implies, true_implies, not_false_eq_true, not_true_eq_false, Value.category, Nat.reduceEqDiff, Option.toList, List.cons_append, List.nil_append, List.drop_succ_cons, List.drop_zero, ax_qq_eq, ax_t_780, n1]
          exact hq es3 (xEs_add X2 z1 z2 z3) (fun j hj => z3 j hj.2)
        by_cases h17 : zkd t a = 17
        · rw [if_pos h17] at hok hfail
          have k17' : nI (zkd t a) = 17 := by rw [k17]; exact h17
          have k40'' : ¬ (17 : Int32) = 40 := by decide
          have k25'' : ¬ (17 : Int32) = 25 := by decide
          rw [k17'] at last ⊢
          simp only [ax_W_cons, ax_I, ax_cmp, ax_ii, ax_ll, ax_li, ax_st1, ax_st2, ax_kl, ax_k2, ax_fit, ax_rtok, List.getElem?_cons_zero, List.getElem?_cons_succ, List.length_cons, List.length_nil, List.set_cons_zero, List.set_cons_succ, Nat.reduceAdd, Nat.reduceDiv, Nat.reduceMod, Nat.reduceMul, Nat.reduceLT, Nat.reduceLeDiff, Int32.reduceOfInt, Int64.reduceOfInt, true_and, and_true, and_self, true_or, or_true, false_implies, true_implies, not_false_eq_true, not_true_eq_false, Value.category, Nat.reduceEqDiff, Option.toList, List.cons_append, List.nil_append, List.drop_succ_cons, List.drop_zero, ax_qq_eq, ax_t_780, ax_j_780_103, ax_n_780_103, dp1, k40'']
          refine ax_inv_of (Nat.le_of_ble_eq_true rfl) (Nat.le_of_ble_eq_true rfl) (fun _ => xEs_rcv hal X1 _) (fun h => absurd h (by decide)) (Nat.le_refl _) (Nat.le_refl _) (ihp _ es1 (a + 1) en code _ (by omega) X1 hp1 (by omega) ?_ ?_)
          · intro r es2 hr X2 f2
            rw [hr] at hok
            dsimp only at hok
            obtain ⟨q1, q2, q3⟩ := (zP_go t h e (a + 1)).1 _ hr
            have hb2 := zpre_le (zpre_r hp1 q3)
            have z4 := X2.2.2.2.1
            have lst := last es2 r.1 (en + r.2.length) _ (17 ^^^ -1) True X2 (by omega) (fun es3 X3 f3 => by
              refine hok (r.1, r.2 ++ [zneg 17]) es3 rfl ?_ (xfE_trans f1' (xfE_trans f2 f3))
              rw [zapp_app] at X3
              rw [List.length_append, List.length_singleton, ← Nat.add_assoc]
              exact X3)
            rw [← ax_n_780_138] at lst
            simp only [ax_W_cons, ax_I, ax_cmp, ax_ii, ax_ll, ax_li, ax_st1, ax_st2, ax_kl, ax_k2, ax_fit, ax_rtok, List.getElem?_cons_zero, List.getElem?_cons_succ, List.length_cons, List.length_nil, List.set_cons_zero, List.set_cons_succ, Nat.reduceAdd, Nat.reduceDiv, Nat.reduceMod, Nat.reduceMul, Nat.reduceLT, Nat.reduceLeDiff, Int32.reduceOfInt, Int64.reduceOfInt, true_and, and_true, and_self, true_or, or_true, false_implies, true_implies, not_false_eq_true, not_true_eq_false, Value.category, Nat.reduceEqDiff, Option.toList, List.cons_append, List.nil_append, List.drop_succ_cons, List.drop_zero, ax_qq_eq, ax_t_780, ax_j_780_121, ax_n_780_121, ax_j_780_135, ax_n_780_135, c10, z4, hal, k25'']
            exact lst
          · intro x es2 hx hTf f2
            rw [hx] at hfail
            simp only [ax_W_cons, ax_I, ax_cmp, ax_ii, ax_ll, ax_li, ax_st1, ax_st2, ax_kl, ax_k2, ax_fit, ax_rtok, List.getElem?_cons_zero, List.getElem?_cons_succ, List.length_cons, List.length_nil, List.set_cons_zero, List.set_cons_succ, Nat.reduceAdd, Nat.reduceDiv, Nat.reduceMod, Nat.reduceMul, Nat.reduceLT, Nat.reduceLeDiff, Int32.reduceOfInt, Int64.reduceOfInt, true_and, and_true, and_self, true_or, or_true, false_implies, true_implies, not_false_eq_true, not_true_eq_false, Value.category, Nat.reduceEqDiff, Option.toList, List.cons_append, List.nil_append, List.drop_succ_cons, List.drop_zero, ax_qq_eq, ax_t_780, n0]
            exact hfail x es2 rfl hTf (xfE_trans f1' f2)
        · rw [if_neg h17] at hok hfail
          have k17' : ¬ nI (zkd t a) = 17 := by rw [k17]; exact h17
          by_cases h25 : zkd t a = 25
          · rw [if_pos h25] at hok
            have k25' : nI (zkd t a) = 25 := by rw [k25]; exact h25
            have hnb := k2 h25
            have lst := last es1 (a + 1) en code nb True X1 (by omega) (fun es3 X3 f3 => by
              refine hok (a + 1, [nI (znb t a)]) es3 rfl ?_ (xfE_trans f1' f3)
              rw [← hnb]
              exact X3)
            rw [← ax_j_780_138] at lst
            rw [k25'] at lst ⊢
            have k40'' : ¬ (25 : Int32) = 40 := by decide
            have k17'' : ¬ (25 : Int32) = 17 := by decide
            simp only [ax_W_cons, ax_I, ax_cmp, ax_ii, ax_ll, ax_li, ax_st1, ax_st2, ax_kl, ax_k2, ax_fit, ax_rtok, List.getElem?_cons_zero, List.getElem?_cons_succ, List.length_cons, List.length_nil, List.set_cons_zero, List.set_cons_succ, Nat.reduceAdd, Nat.reduceDiv, Nat.reduceMod, Nat.reduceMul, Nat.reduceLT, Nat.reduceLeDiff, Int32.reduceOfInt, Int64.reduceOfInt, true_and, and_true, and_self, true_or, or_true, false_implies, true_implies, not_false_eq_true, not_true_eq_false, Value.category, Nat.reduceEqDiff, Option.toList, List.cons_append, List.nil_append, List.drop_succ_cons, List.drop_zero, ax_qq_eq, ax_t_780, ax_j_780_103, ax_n_780_103, ax_j_780_121, ax_n_780_121, k40'', k17'', y4, hal]
            exact lst
          · rw [if_neg h25] at hok
            have k25' : ¬ nI (zkd t a) = 25 := by rw [k25]; exact h25
            have lst := last es1 (a + 1) en code (zneg (zkd t a)) True X1 (by omega) (fun es3 X3 f3 => hok (a + 1, [zneg (zkd t a)]) es3 rfl X3 (xfE_trans f1' f3))
            rw [← ax_n_780_138] at lst
            simp only [ax_W_cons, ax_I, ax_cmp, ax_ii, ax_ll, ax_li, ax_st1, ax_st2, ax_kl, ax_k2, ax_fit, ax_rtok, List.getElem?_cons_zero, List.getElem?_cons_succ, List.length_cons, List.length_nil, List.set_cons_zero, List.set_cons_succ, Nat.reduceAdd, Nat.reduceDiv, Nat.reduceMod, Nat.reduceMul, Nat.reduceLT, Nat.reduceLeDiff, Int32.reduceOfInt, Int64.reduceOfInt, true_and, and_true, and_self, true_or, or_true, false_implies, true_implies, not_false_eq_true, not_true_eq_false, Value.category, Nat.reduceEqDiff, Option.toList, List.cons_append, List.nil_append, List.drop_succ_cons, List.drop_zero, ax_qq_eq, ax_t_780, ax_j_780_103, ax_n_780_103, ax_j_780_121, ax_n_780_121, ax_j_780_135, ax_n_780_135, k40', k17', k25', y4, hal]
            exact lst
end TT
