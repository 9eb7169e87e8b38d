/-! the reference: look, chance -/
section MM
variable {d n sl k p hc : Nat} {es : ax_H} {kd pm ht hs : Nat → Int32} {F1 F2 : Int32 → Int32 → Int32 → Int32 → Int32} {st : Nat → Int32} {b T C z : Nat} {sh pl dn fc fb fs : Nat → Int32} {Q : Option Value → ax_H → Prop}
theorem mX_176 {al : Nat → Int32} (h : mX es st) : mX (ax_up es 176 (.inl (0, 1200, .inl al))) st := by
  obtain ⟨h1, ⟨fa, h2⟩, ⟨pi, h3⟩, wa, h4⟩ := h
  exact ⟨(ax_up_ne _ _ (by decide)).trans h1, ⟨fa, (ax_up_ne _ _ (by decide)).trans h2⟩, ⟨pi, (ax_up_ne _ _ (by decide)).trans h3⟩, wa, (ax_up_ne _ _ (by decide)).trans h4⟩
theorem mf2_176 (es : ax_H) (e : ax_E) : mf2 es (ax_up es 176 e) := fun j hj => ax_up_ne _ _ hj.2.2.2.2
set_option maxRecDepth 20000 in
theorem mp_look (Z : mZ es n st k p hc kd pm ht hs F1 F2 T C sh pl dn) (hi : zfi k z fc fb fs) (hL : mFl st z fc fb fs) (m : Int32) (hQ : ∀ es', mq es st es' → Q (some (.int (zq_look F1 k (nI C) hs hc T sh fc fb fs z m))) es') : ax_Mt (d + 10) 1503 [.ref 159, .int m] n sl es Q := by
  obtain ⟨E, S, hT, hdn, al0, hA⟩ := Z
  obtain ⟨hal, hk, hp, hhs, hF, hK⟩ := id E
  unfold zq_look at hQ
  refine ax_Mt_go (m := ax_m_11_95) (ls := [some (.ref 159), some (.int m), none, none, none, none, none, none]) rfl ax_b_1503_0 (Nat.le_of_ble_eq_true rfl) rfl ?_
  refine mk_thrown hal hK.1 rfl ?_
  intro es0 h0
  have E0 := mE_th E h0
  have S0 := mS_th S h0
  have hA0 := (h0.1 176 (by decide)).trans hA
  simp only [ax_W_cons, ax_I, ax_cmp, ax_ii, ax_ll, ax_li, ax_st1, ax_st2, ax_kl, ax_k2, ax_fit, ax_rtok, List.getElem?_cons_zero, List.getElem?_cons_succ, List.length_cons, List.length_nil, List.set_cons_zero, List.set_cons_succ, Nat.reduceAdd, Nat.reduceDiv, Nat.reduceMod, Nat.reduceMul, Nat.reduceLT, Nat.reduceLeDiff, Int32.reduceOfInt, Int64.reduceOfInt, true_and, and_true, and_self, true_or, or_true, false_implies, true_implies, not_false_eq_true, not_true_eq_false, Value.category, Nat.reduceEqDiff, Option.toList, List.cons_append, List.nil_append, List.drop_succ_cons, List.drop_zero, ax_qq_eq, ax_t_1503]
  refine ax_inv_of (Nat.le_of_ble_eq_true rfl) (Nat.le_of_ble_eq_true rfl) (fun _ => absurd ‹_› (by decide)) (fun h => absurd h (by decide)) (Nat.le_refl _) (Nat.le_refl _) (mk_within _ _ _ ?_)
  simp only [ax_W_cons, ax_I, ax_cmp, ax_ii, ax_ll, ax_li, ax_st1, ax_st2, ax_kl, ax_k2, ax_fit, ax_rtok, List.getElem?_cons_zero, List.getElem?_cons_succ, List.length_cons, List.length_nil, List.set_cons_zero, List.set_cons_succ, Nat.reduceAdd, Nat.reduceDiv, Nat.reduceMod, Nat.reduceMul, Nat.reduceLT, Nat.reduceLeDiff, Int32.reduceOfInt, Int64.reduceOfInt, true_and, and_true, and_self, true_or, or_true, false_implies, true_implies, not_false_eq_true, not_true_eq_false, Value.category, Nat.reduceEqDiff, Option.toList, List.cons_append, List.nil_append, List.drop_succ_cons, List.drop_zero, ax_qq_eq, ax_t_1503, ax_j_1503_17, ax_n_1503_17, kx_b0]
  refine ⟨fun h2 => ?_, fun h2 => ?_⟩
  · have h2 : kx_in m 0 12 = true := by simpa using h2
    rw [if_pos h2] at hQ
    obtain ⟨m', -, hm', rfl⟩ := kx_in_nI (a := 0) (b := 12) (by decide) (by decide) h2
    rw [nI_clamp (by omega)] at hQ
    generalize hPw : kx_way F1 k (nI C) hs hc T sh fc fb fs z = P at hQ
    generalize hSw : (fun w f => kx_dr F1 k (nI C) hs hc T (kx_push sh (nI w) (nI f)) m') = SS at hQ
    have hSw : ∀ w f, SS w f = kx_dr F1 k (nI C) hs hc T (kx_push sh (nI w) (nI f)) m' := fun w f => by rw [← hSw]
    rw [ax_n_1503_19]
    -- all are 0 at first
    have L := kx_loop (k := 1200) (I := fun c => ∀ es1 al, mf2 es0 es1 → mX es1 st → es1 176 = .inl (0, 1200, .inl al) → (∀ j, j < c → al j = 0) → ax_W (d + 10) n sl 1503 [(1, .iload 2), (3, .iconst 1200), (3, .if_icmp .ge 39), (1, .aload 0), (3, .getfield 2926), (1, .iload 2), (1, .iconst 0), (1, .iastore), (3, .iinc 2 1), (3, .goto 19)] 19 [some (.ref 159), some (.int (nI m')), some (.int (nI c)), none, none, none, none, none] [] n sl es1 (ax_qq n sl Q)) ?_ ?_
    · exact L es0 al0 (mf2_rf _) S0.1 hA0 (fun j hj => by omega)
    · intro es1 al i1 i2 i3 i4
      have e9 : (1200 : Int32) ≤ nI 1200 := by decide
      simp only [ax_W_cons, ax_I, ax_cmp, ax_ii, ax_ll, ax_li, ax_st1, ax_st2, ax_kl, ax_k2, ax_fit, ax_rtok, List.getElem?_cons_zero, List.getElem?_cons_succ, List.length_cons, List.length_nil, List.set_cons_zero, List.set_cons_succ, Nat.reduceAdd, Nat.reduceDiv, Nat.reduceMod, Nat.reduceMul, Nat.reduceLT, Nat.reduceLeDiff, Int32.reduceOfInt, Int64.reduceOfInt, true_and, and_true, and_self, true_or, or_true, false_implies, true_implies, not_false_eq_true, not_true_eq_false, Value.category, Nat.reduceEqDiff, Option.toList, List.cons_append, List.nil_append, List.drop_succ_cons, List.drop_zero, ax_qq_eq, ax_t_1503, ax_j_1503_39, ax_n_1503_39, e9]
      rw [ax_n_1503_43]
      have L2 := kx_loop (k := 20 * k) (I := fun j => ∀ v4 es1 st1 al, mf2 es0 es1 → mfq st st1 → mX es1 st1 → es1 176 = .inl (0, 1200, .inl al) → (∀ x, x < 1200 → al x = (mo_lk P SS k j).2 x) → ax_W (d + 10) n sl 1503 [(1, .iload 3), (2, .iconst 20), (1, .aload 0), (3, .invokeinterface 1450 5), (1, .imul), (3, .if_icmp .ge 141), (1, .aload 0), (1, .iload 3), (2, .iconst 20), (1, .idiv), (1, .iconst 1), (1, .iload 3), (2, .iconst 20), (1, .irem), (1, .iadd), (3, .invokeinterface 1501 13), (3, .ifCond .eq 135), (3, .iinc 2 1), (1, .aload 0), (1, .iload 3), (2, .iconst 20), (1, .idiv), (1, .iconst 1), (1, .iload 3), (2, .iconst 20), (1, .irem), (1, .iadd), (1, .iconst 0), (1, .iload 1), (3, .invokeinterface 1489 21), (1, .pop), (1, .iconst 0), (2, .istore 4)] 43 [some (.ref 159), some (.int (nI m')), some (.int (mo_lk P SS k j).1), some (.int (nI j)), v4, none, none, none] [] n sl es1 (ax_qq n sl Q)) ?_ ?_
      · exact L2 none es1 st al i1 (mfq_rf _) i2 i3 (fun x hx => i4 x hx)
      · intro v4 es1 st1 al i1 i2 i3 i4 i5
        have e20 : (20 : Int32) * nI k = nI (20 * k) := kn_mul 20 k
        have e0 := kx_nn (k := 20 * k) (by omega)
        have E1 := mE_f2 E0 i1
        obtain ⟨th, tp, sz, at0, fl, cd, nm, rm, on, fh, un, g, w0⟩ := id E1.2.2.2.2.2.1
        rw [mo_lk_end] at i5
        generalize hR : kx_l2 P SS k k = R at hQ i5
        simp only [ax_W_cons, ax_I, ax_cmp, ax_ii, ax_ll, ax_li, ax_st1, ax_st2, ax_kl, ax_k2, ax_fit, ax_rtok, List.getElem?_cons_zero, List.getElem?_cons_succ, List.length_cons, List.length_nil, List.set_cons_zero, List.set_cons_succ, Nat.reduceAdd, Nat.reduceDiv, Nat.reduceMod, Nat.reduceMul, Nat.reduceLT, Nat.reduceLeDiff, Int32.reduceOfInt, Int64.reduceOfInt, true_and, and_true, and_self, true_or, or_true, false_implies, true_implies, not_false_eq_true, not_true_eq_false, Value.category, Nat.reduceEqDiff, Option.toList, List.cons_append, List.nil_append, List.drop_succ_cons, List.drop_zero, ax_qq_eq, ax_t_1503]
        refine ax_inv_of (Nat.le_of_ble_eq_true rfl) (Nat.le_of_ble_eq_true rfl) (fun _ => mE_rcv E1 _) (fun h => absurd h (by decide)) (Nat.le_refl _) (Nat.le_refl _) (mk_cells hal E1.2.2.2.2.2 ?_)
        have hR' : mo_lk P SS k (20 * k) = R := by rw [mo_lk_end]; exact hR
        rw [hR']
        simp only [ax_W_cons, ax_I, ax_cmp, ax_ii, ax_ll, ax_li, ax_st1, ax_st2, ax_kl, ax_k2, ax_fit, ax_rtok, List.getElem?_cons_zero, List.getElem?_cons_succ, List.length_cons, List.length_nil, List.set_cons_zero, List.set_cons_succ, Nat.reduceAdd, Nat.reduceDiv, Nat.reduceMod, Nat.reduceMul, Nat.reduceLT, Nat.reduceLeDiff, Int32.reduceOfInt, Int64.reduceOfInt, true_and, and_true, and_self, true_or, or_true, false_implies, true_implies, not_false_eq_true, not_true_eq_false, Value.category, Nat.reduceEqDiff, Option.toList, List.cons_append, List.nil_append, List.drop_succ_cons, List.drop_zero, ax_qq_eq, ax_t_1503, ax_j_1503_141, ax_n_1503_141, e20, e0]
        rw [ax_n_1503_149]
        have hQ := hQ es1 (mq_of2 h0 i1 i3 i2 ⟨al, i4⟩)
        refine kx_loop (k := k) (I := fun c => ∀ v6 v7, ax_W (d + 10) n sl 1503 [(2, .iload 5), (1, .aload 0), (3, .invokeinterface 1450 5), (3, .if_icmp .ge 251), (1, .iconst 0), (2, .istore 6), (1, .iconst 0), (2, .istore 7)] 149 [some (.ref 159), some (.int (nI m')), some (.int R.1), some (.int (kx_l3 (fun w => kx_gt R.2 w 100) R.1 c).2), some (.int (kx_l3 (fun w => kx_gt R.2 w 100) R.1 c).1), some (.int (nI c)), v6, v7] [] n sl es1 (ax_qq n sl Q)) ?_ ?_ none none
        · intro v6 v7
          have e0 := kx_nn (k := k) (by omega)
          simp only [ax_W_cons, ax_I, ax_cmp, ax_ii, ax_ll, ax_li, ax_st1, ax_st2, ax_kl, ax_k2, ax_fit, ax_rtok, List.getElem?_cons_zero, List.getElem?_cons_succ, List.length_cons, List.length_nil, List.set_cons_zero, List.set_cons_succ, Nat.reduceAdd, Nat.reduceDiv, Nat.reduceMod, Nat.reduceMul, Nat.reduceLT, Nat.reduceLeDiff, Int32.reduceOfInt, Int64.reduceOfInt, true_and, and_true, and_self, true_or, or_true, false_implies, true_implies, not_false_eq_true, not_true_eq_false, Value.category, Nat.reduceEqDiff, Option.toList, List.cons_append, List.nil_append, List.drop_succ_cons, List.drop_zero, ax_qq_eq, ax_t_1503]
          refine ax_inv_of (Nat.le_of_ble_eq_true rfl) (Nat.le_of_ble_eq_true rfl) (fun _ => mE_rcv E1 _) (fun h => absurd h (by decide)) (Nat.le_refl _) (Nat.le_refl _) (mk_cells hal E1.2.2.2.2.2 ?_)
          simp only [ax_W_cons, ax_I, ax_cmp, ax_ii, ax_ll, ax_li, ax_st1, ax_st2, ax_kl, ax_k2, ax_fit, ax_rtok, List.getElem?_cons_zero, List.getElem?_cons_succ, List.length_cons, List.length_nil, List.set_cons_zero, List.set_cons_succ, Nat.reduceAdd, Nat.reduceDiv, Nat.reduceMod, Nat.reduceMul, Nat.reduceLT, Nat.reduceLeDiff, Int32.reduceOfInt, Int64.reduceOfInt, true_and, and_true, and_self, true_or, or_true, false_implies, true_implies, not_false_eq_true, not_true_eq_false, Value.category, Nat.reduceEqDiff, Option.toList, List.cons_append, List.nil_append, List.drop_succ_cons, List.drop_zero, ax_qq_eq, ax_t_1503, ax_j_1503_251, ax_n_1503_251, e0]
          exact hQ
        · intro c hc2 ih v6 v7
          obtain ⟨q1, -, -, q4⟩ := kx_ix hc2 hk.2 (by decide)
          rw [kx_l3] at ih
          generalize kx_l3 (fun w => kx_gt R.2 w 100) R.1 c = B at ih ⊢
          simp only [ax_W_cons, ax_I, ax_cmp, ax_ii, ax_ll, ax_li, ax_st1, ax_st2, ax_kl, ax_k2, ax_fit, ax_rtok, List.getElem?_cons_zero, List.getElem?_cons_succ, List.length_cons, List.length_nil, List.set_cons_zero, List.set_cons_succ, Nat.reduceAdd, Nat.reduceDiv, Nat.reduceMod, Nat.reduceMul, Nat.reduceLT, Nat.reduceLeDiff, Int32.reduceOfInt, Int64.reduceOfInt, true_and, and_true, and_self, true_or, or_true, false_implies, true_implies, not_false_eq_true, not_true_eq_false, Value.category, Nat.reduceEqDiff, Option.toList, List.cons_append, List.nil_append, List.drop_succ_cons, List.drop_zero, ax_qq_eq, ax_t_1503]
          refine ax_inv_of (Nat.le_of_ble_eq_true rfl) (Nat.le_of_ble_eq_true rfl) (fun _ => mE_rcv E1 _) (fun h => absurd h (by decide)) (Nat.le_refl _) (Nat.le_refl _) (mk_cells hal E1.2.2.2.2.2 ?_)
          simp only [ax_W_cons, ax_I, ax_cmp, ax_ii, ax_ll, ax_li, ax_st1, ax_st2, ax_kl, ax_k2, ax_fit, ax_rtok, List.getElem?_cons_zero, List.getElem?_cons_succ, List.length_cons, List.length_nil, List.set_cons_zero, List.set_cons_succ, Nat.reduceAdd, Nat.reduceDiv, Nat.reduceMod, Nat.reduceMul, Nat.reduceLT, Nat.reduceLeDiff, Int32.reduceOfInt, Int64.reduceOfInt, true_and, and_true, and_self, true_or, or_true, false_implies, true_implies, not_false_eq_true, not_true_eq_false, Value.category, Nat.reduceEqDiff, Option.toList, List.cons_append, List.nil_append, List.drop_succ_cons, List.drop_zero, ax_qq_eq, ax_t_1503, q1]
          rw [ax_n_1503_164]
          refine kx_loop (k := 100) (I := fun v => ax_W (d + 10) n sl 1503 [(2, .iload 7), (2, .iconst 99), (3, .if_icmp .gt 215), (1, .aload 0), (3, .getfield 2926), (2, .iconst 100), (2, .iload 5), (1, .imul), (2, .iload 7), (1, .iadd), (1, .iaload), (2, .iload 6), (3, .if_icmp .le 205), (1, .aload 0), (3, .getfield 2926), (2, .iconst 100), (2, .iload 5), (1, .imul), (2, .iload 7), (1, .iadd), (1, .iaload), (3, .goto 207)] 164 [some (.ref 159), some (.int (nI m')), some (.int R.1), some (.int B.2), some (.int B.1), some (.int (nI c)), some (.int (kx_gt R.2 c v)), some (.int (nI v))] [] n sl es1 (ax_qq n sl Q)) ?_ ?_
          · have e8 : (99 : Int32) < nI 100 := by decide
            by_cases h8 : kx_gt R.2 c 100 < B.1
            · have h7 : ¬ B.1 ≤ kx_gt R.2 c 100 := kx_lt_nle h8
              rw [if_pos h8] at ih
              simp only [ax_W_cons, ax_I, ax_cmp, ax_ii, ax_ll, ax_li, ax_st1, ax_st2, ax_kl, ax_k2, ax_fit, ax_rtok, List.getElem?_cons_zero, List.getElem?_cons_succ, List.length_cons, List.length_nil, List.set_cons_zero, List.set_cons_succ, Nat.reduceAdd, Nat.reduceDiv, Nat.reduceMod, Nat.reduceMul, Nat.reduceLT, Nat.reduceLeDiff, Int32.reduceOfInt, Int64.reduceOfInt, true_and, and_true, and_self, true_or, or_true, false_implies, true_implies, not_false_eq_true, not_true_eq_false, Value.category, Nat.reduceEqDiff, Option.toList, List.cons_append, List.nil_append, List.drop_succ_cons, List.drop_zero, ax_qq_eq, ax_t_1503, ax_j_1503_215, ax_n_1503_215, ax_j_1503_228, ax_n_1503_228, ax_j_1503_243, ax_n_1503_243, e8, h7, q4]
              rw [ax_j_1503_149]
              exact ih _ _
            · have h7 : B.1 ≤ kx_gt R.2 c 100 := by rw [← kx_nlt]; exact h8
              rw [if_neg h8] at ih
              simp only [ax_W_cons, ax_I, ax_cmp, ax_ii, ax_ll, ax_li, ax_st1, ax_st2, ax_kl, ax_k2, ax_fit, ax_rtok, List.getElem?_cons_zero, List.getElem?_cons_succ, List.length_cons, List.length_nil, List.set_cons_zero, List.set_cons_succ, Nat.reduceAdd, Nat.reduceDiv, Nat.reduceMod, Nat.reduceMul, Nat.reduceLT, Nat.reduceLeDiff, Int32.reduceOfInt, Int64.reduceOfInt, true_and, and_true, and_self, true_or, or_true, false_implies, true_implies, not_false_eq_true, not_true_eq_false, Value.category, Nat.reduceEqDiff, Option.toList, List.cons_append, List.nil_append, List.drop_succ_cons, List.drop_zero, ax_qq_eq, ax_t_1503, ax_j_1503_215, ax_n_1503_215, ax_j_1503_227, ax_n_1503_227, ax_j_1503_228, ax_n_1503_228, ax_j_1503_241, ax_n_1503_241, ax_j_1503_243, ax_n_1503_243, e8, h7, q4]
              rw [ax_j_1503_149]
              exact ih _ _
          · intro v hv ih2
            have e8 : ¬ (99 : Int32) < nI v := nI_nlt (a := 99) (by omega) (by decide)
            have v4 : nI v + 1 = nI (v + 1) := (nI_succ v).symm
            have a1 : (100 : Int32) * nI c + nI v = nI (c * 100 + v) := by
              show nI 100 * nI c + nI v = _
              rw [kn_mul, kn_add, Nat.mul_comm]
            have a2 : vp_in (nI (c * 100 + v)) 1200 := nI_in (by omega) (by decide)
            have a3 : (nI (c * 100 + v)).toNatClampNeg = c * 100 + v := nI_clamp (by omega)
            have a4 := i5 (c * 100 + v) (by omega)
            rw [kx_gt] at ih2
            unfold kx_max at ih2
            by_cases h8 : kx_gt R.2 c v < R.2 (c * 100 + v)
            · have h7 : ¬ R.2 (c * 100 + v) ≤ kx_gt R.2 c v := kx_lt_nle h8
              rw [if_pos h8] at ih2
              simp only [ax_W_cons, ax_I, ax_cmp, ax_ii, ax_ll, ax_li, ax_st1, ax_st2, ax_kl, ax_k2, ax_fit, ax_rtok, List.getElem?_cons_zero, List.getElem?_cons_succ, List.length_cons, List.length_nil, List.set_cons_zero, List.set_cons_succ, Nat.reduceAdd, Nat.reduceDiv, Nat.reduceMod, Nat.reduceMul, Nat.reduceLT, Nat.reduceLeDiff, Int32.reduceOfInt, Int64.reduceOfInt, true_and, and_true, and_self, true_or, or_true, false_implies, true_implies, not_false_eq_true, not_true_eq_false, Value.category, Nat.reduceEqDiff, Option.toList, List.cons_append, List.nil_append, List.drop_succ_cons, List.drop_zero, ax_qq_eq, ax_t_1503, ax_j_1503_207, ax_n_1503_207, w0, i4, mo_f, hal, e8, a1, a2, a3, a4, h7, v4]
              rw [ax_j_1503_164]
              exact ih2
            · have h7 : R.2 (c * 100 + v) ≤ kx_gt R.2 c v := by rw [← kx_nlt]; exact h8
              rw [if_neg h8] at ih2
              simp only [ax_W_cons, ax_I, ax_cmp, ax_ii, ax_ll, ax_li, ax_st1, ax_st2, ax_kl, ax_k2, ax_fit, ax_rtok, List.getElem?_cons_zero, List.getElem?_cons_succ, List.length_cons, List.length_nil, List.set_cons_zero, List.set_cons_succ, Nat.reduceAdd, Nat.reduceDiv, Nat.reduceMod, Nat.reduceMul, Nat.reduceLT, Nat.reduceLeDiff, Int32.reduceOfInt, Int64.reduceOfInt, true_and, and_true, and_self, true_or, or_true, false_implies, true_implies, not_false_eq_true, not_true_eq_false, Value.category, Nat.reduceEqDiff, Option.toList, List.cons_append, List.nil_append, List.drop_succ_cons, List.drop_zero, ax_qq_eq, ax_t_1503, ax_j_1503_205, ax_n_1503_205, ax_j_1503_207, ax_n_1503_207, w0, i4, mo_f, hal, e8, a1, a2, a3, a4, h7, v4]
              rw [ax_j_1503_164]
              exact ih2
      · intro j hj ih v4 es1 st1 al i1 i2 i3 i4 i5
        have e20 : (20 : Int32) * nI k = nI (20 * k) := kn_mul 20 k
        have e0 : ¬ nI (20 * k) ≤ nI j := nI_ge hj (by omega)
        have j4 : nI j + 1 = nI (j + 1) := (nI_succ j).symm
        have c20 : ¬ (20 : Int32) = 0 := by decide
        have d1 : nI j / 20 = nI (j / 20) := pk_div (d := 20) (by omega) (by decide) (by decide)
        have d2 : nI j - nI (j / 20) * 20 = nI (j % 20) := by
          have := pk_rem (a := j) (d := 20) (by omega) (by decide) (by decide)
          rw [← this, ← d1]
          rfl
        have d3 : (1 : Int32) + nI (j % 20) = nI (j % 20 + 1) := by
          rw [Int32.add_comm]
          exact (nI_succ _).symm
        have hw : j / 20 < k := by omega
        have hf : j % 20 + 1 ≤ 20 := by omega
        have E1 := mE_f2 E0 i1
        have S1 := mS_q E S i2 i3
        rw [mo_lk_s] at ih
        generalize mo_lk P SS k j = A at ih i5 ⊢
        simp only [ax_W_cons, ax_I, ax_cmp, ax_ii, ax_ll, ax_li, ax_st1, ax_st2, ax_kl, ax_k2, ax_fit, ax_rtok, List.getElem?_cons_zero, List.getElem?_cons_succ, List.length_cons, List.length_nil, List.set_cons_zero, List.set_cons_succ, Nat.reduceAdd, Nat.reduceDiv, Nat.reduceMod, Nat.reduceMul, Nat.reduceLT, Nat.reduceLeDiff, Int32.reduceOfInt, Int64.reduceOfInt, true_and, and_true, and_self, true_or, or_true, false_implies, true_implies, not_false_eq_true, not_true_eq_false, Value.category, Nat.reduceEqDiff, Option.toList, List.cons_append, List.nil_append, List.drop_succ_cons, List.drop_zero, ax_qq_eq, ax_t_1503]
        refine ax_inv_of (Nat.le_of_ble_eq_true rfl) (Nat.le_of_ble_eq_true rfl) (fun _ => mE_rcv E1 _) (fun h => absurd h (by decide)) (Nat.le_refl _) (Nat.le_refl _) (mk_cells hal E1.2.2.2.2.2 ?_)
        simp only [ax_W_cons, ax_I, ax_cmp, ax_ii, ax_ll, ax_li, ax_st1, ax_st2, ax_kl, ax_k2, ax_fit, ax_rtok, List.getElem?_cons_zero, List.getElem?_cons_succ, List.length_cons, List.length_nil, List.set_cons_zero, List.set_cons_succ, Nat.reduceAdd, Nat.reduceDiv, Nat.reduceMod, Nat.reduceMul, Nat.reduceLT, Nat.reduceLeDiff, Int32.reduceOfInt, Int64.reduceOfInt, true_and, and_true, and_self, true_or, or_true, false_implies, true_implies, not_false_eq_true, not_true_eq_false, Value.category, Nat.reduceEqDiff, Option.toList, List.cons_append, List.nil_append, List.drop_succ_cons, List.drop_zero, ax_qq_eq, ax_t_1503, e20, e0, c20, d1, d2, d3]
        refine ax_inv_of (Nat.le_of_ble_eq_true rfl) (Nat.le_of_ble_eq_true rfl) (fun _ => mE_rcv E1 _) (fun h => absurd h (by decide)) (Nat.le_refl _) (Nat.le_refl _) (mk_isFelt E1 S1 hT hi (mFl_q hi.1 hL i2) hw hf ?_)
        rw [hPw]
        intro es2 st2 r1 r2 r3
        have E2 := mE_fr E1 r1
        have i1' := mf2_trans i1 (mfr_2 r1)
        have i2' := mfq_trans i2 r2
        have i4' := (r1 176 (by decide)).trans i4
        have S2 := mS_q E S i2' r3
        simp only [ax_W_cons, ax_I, ax_cmp, ax_ii, ax_ll, ax_li, ax_st1, ax_st2, ax_kl, ax_k2, ax_fit, ax_rtok, List.getElem?_cons_zero, List.getElem?_cons_succ, List.length_cons, List.length_nil, List.set_cons_zero, List.set_cons_succ, Nat.reduceAdd, Nat.reduceDiv, Nat.reduceMod, Nat.reduceMul, Nat.reduceLT, Nat.reduceLeDiff, Int32.reduceOfInt, Int64.reduceOfInt, true_and, and_true, and_self, true_or, or_true, false_implies, true_implies, not_false_eq_true, not_true_eq_false, Value.category, Nat.reduceEqDiff, Option.toList, List.cons_append, List.nil_append, List.drop_succ_cons, List.drop_zero, ax_qq_eq, ax_t_1503, ax_j_1503_135, ax_n_1503_135, kx_b0, j4, c20, d1, d2, d3]
        simp only [ax_j_1503_43]
        refine ⟨fun h5 => ?_, fun h5 => ?_⟩
        · rw [if_neg (by rw [h5]; decide)] at ih
          exact ih _ es2 st2 al i1' i2' r3 i4' i5
        · have h5 : P (j / 20) (j % 20 + 1) = true := by simpa using h5
          rw [if_pos h5] at ih
          have hB : C.testBit (j / 20) = false := by
            rw [← hPw] at h5
            unfold kx_way at h5
            rw [kc_ck (by omega)] at h5
            simp at h5
            exact h5.1
          refine ax_inv_of (Nat.le_of_ble_eq_true rfl) (Nat.le_of_ble_eq_true rfl) (fun _ => mE_rcv E2 _) (fun h => absurd h (by decide)) (Nat.le_refl _) (Nat.le_refl _) (mk_shakesBy E2 S2 hT hw hB hf (c := 0) (by omega) (m := m') (by omega) ?_)
          intro es3 st3 t1 t2 t3
          have i1'' := mf2_trans i1' (mfr_2 t1)
          have i2'' := mfq_trans i2' t2
          have i4'' := (t1 176 (by decide)).trans i4'
          have t4 := t3.2.1.2.2.1
          have t5 := t3.2.2.1
          rw [← hSw] at t4 t5
          generalize SS (j / 20) (j % 20 + 1) = D at t4 t5 ih
          simp only [ax_W_cons, ax_I, ax_cmp, ax_ii, ax_ll, ax_li, ax_st1, ax_st2, ax_kl, ax_k2, ax_fit, ax_rtok, List.getElem?_cons_zero, List.getElem?_cons_succ, List.length_cons, List.length_nil, List.set_cons_zero, List.set_cons_succ, Nat.reduceAdd, Nat.reduceDiv, Nat.reduceMod, Nat.reduceMul, Nat.reduceLT, Nat.reduceLeDiff, Int32.reduceOfInt, Int64.reduceOfInt, true_and, and_true, and_self, true_or, or_true, false_implies, true_implies, not_false_eq_true, not_true_eq_false, Value.category, Nat.reduceEqDiff, Option.toList, List.cons_append, List.nil_append, List.drop_succ_cons, List.drop_zero, ax_qq_eq, ax_t_1503]
          rw [ax_n_1503_94]
          have L3 := kx_loop (k := k) (I := fun c => ∀ es4 al, mf2 es0 es4 → mX es4 st3 → es4 176 = .inl (0, 1200, .inl al) → (∀ x, x < 1200 → al x = kx_tal D A.2 c x) → ax_W (d + 10) n sl 1503 [(2, .iload 4), (1, .aload 0), (3, .invokeinterface 1450 5), (3, .if_icmp .ge 135), (1, .aload 0), (3, .getfield 2926), (2, .iconst 100), (2, .iload 4), (1, .imul), (1, .aload 0), (3, .getfield 2910), (3, .iconst 1094), (2, .iload 4), (1, .iadd), (1, .iaload), (1, .iadd), (1, .dup2), (1, .iaload), (1, .iconst 1), (1, .iadd), (1, .iastore), (3, .iinc 4 1), (3, .goto 94)] 94 [some (.ref 159), some (.int (nI m')), some (.int (A.1 + 1)), some (.int (nI j)), some (.int (nI c)), none, none, none] [] n sl es4 (ax_qq n sl Q)) ?_ ?_
          · exact L3 es3 al i1'' t3.1 i4'' i5
          · intro es4 al q1 q2 q3 q4
            have e0 := kx_nn (k := k) (by omega)
            have E4 := mE_f2 E0 q1
            simp only [ax_W_cons, ax_I, ax_cmp, ax_ii, ax_ll, ax_li, ax_st1, ax_st2, ax_kl, ax_k2, ax_fit, ax_rtok, List.getElem?_cons_zero, List.getElem?_cons_succ, List.length_cons, List.length_nil, List.set_cons_zero, List.set_cons_succ, Nat.reduceAdd, Nat.reduceDiv, Nat.reduceMod, Nat.reduceMul, Nat.reduceLT, Nat.reduceLeDiff, Int32.reduceOfInt, Int64.reduceOfInt, true_and, and_true, and_self, true_or, or_true, false_implies, true_implies, not_false_eq_true, not_true_eq_false, Value.category, Nat.reduceEqDiff, Option.toList, List.cons_append, List.nil_append, List.drop_succ_cons, List.drop_zero, ax_qq_eq, ax_t_1503]
            refine ax_inv_of (Nat.le_of_ble_eq_true rfl) (Nat.le_of_ble_eq_true rfl) (fun _ => mE_rcv E4 _) (fun h => absurd h (by decide)) (Nat.le_refl _) (Nat.le_refl _) (mk_cells hal E4.2.2.2.2.2 ?_)
            simp only [ax_W_cons, ax_I, ax_cmp, ax_ii, ax_ll, ax_li, ax_st1, ax_st2, ax_kl, ax_k2, ax_fit, ax_rtok, List.getElem?_cons_zero, List.getElem?_cons_succ, List.length_cons, List.length_nil, List.set_cons_zero, List.set_cons_succ, Nat.reduceAdd, Nat.reduceDiv, Nat.reduceMod, Nat.reduceMul, Nat.reduceLT, Nat.reduceLeDiff, Int32.reduceOfInt, Int64.reduceOfInt, true_and, and_true, and_self, true_or, or_true, false_implies, true_implies, not_false_eq_true, not_true_eq_false, Value.category, Nat.reduceEqDiff, Option.toList, List.cons_append, List.nil_append, List.drop_succ_cons, List.drop_zero, ax_qq_eq, ax_t_1503, ax_j_1503_135, ax_n_1503_135, e0, j4]
            rw [ax_j_1503_43]
            exact ih _ es4 st3 al q1 i2'' q2 q3 q4
          · intro c hc2 ih3 es4 al q1 q2 q3 q4
            obtain ⟨g1, -, -, g4⟩ := kx_ix hc2 hk.2 (by decide)
            have E4 := mE_f2 E0 q1
            obtain ⟨th, tp, sz, at0, fl, cd, nm, rm, on, fh, un, g, w0⟩ := id E4.2.2.2.2.2.1
            have y1 := q2.1
            obtain ⟨e1, v1, e2⟩ := mx_1094 (c := c) (by omega)
            have e3 := t4 c hc2
            obtain ⟨v, hv, ev⟩ := t5 c (by omega)
            rw [ev] at e3
            have a1 : (100 : Int32) * nI c + nI v = nI (c * 100 + v) := by
              show nI 100 * nI c + nI v = _
              rw [kn_mul, kn_add, Nat.mul_comm]
            have a2 : vp_in (nI (c * 100 + v)) 1200 := nI_in (by omega) (by decide)
            have a3 : (nI (c * 100 + v)).toNatClampNeg = c * 100 + v := nI_clamp (by omega)
            simp only [ax_W_cons, ax_I, ax_cmp, ax_ii, ax_ll, ax_li, ax_st1, ax_st2, ax_kl, ax_k2, ax_fit, ax_rtok, List.getElem?_cons_zero, List.getElem?_cons_succ, List.length_cons, List.length_nil, List.set_cons_zero, List.set_cons_succ, Nat.reduceAdd, Nat.reduceDiv, Nat.reduceMod, Nat.reduceMul, Nat.reduceLT, Nat.reduceLeDiff, Int32.reduceOfInt, Int64.reduceOfInt, true_and, and_true, and_self, true_or, or_true, false_implies, true_implies, not_false_eq_true, not_true_eq_false, Value.category, Nat.reduceEqDiff, Option.toList, List.cons_append, List.nil_append, List.drop_succ_cons, List.drop_zero, ax_qq_eq, ax_t_1503]
            refine ax_inv_of (Nat.le_of_ble_eq_true rfl) (Nat.le_of_ble_eq_true rfl) (fun _ => mE_rcv E4 _) (fun h => absurd h (by decide)) (Nat.le_refl _) (Nat.le_refl _) (mk_cells hal E4.2.2.2.2.2 ?_)
            simp only [ax_W_cons, ax_I, ax_cmp, ax_ii, ax_ll, ax_li, ax_st1, ax_st2, ax_kl, ax_k2, ax_fit, ax_rtok, List.getElem?_cons_zero, List.getElem?_cons_succ, List.length_cons, List.length_nil, List.set_cons_zero, List.set_cons_succ, Nat.reduceAdd, Nat.reduceDiv, Nat.reduceMod, Nat.reduceMul, Nat.reduceLT, Nat.reduceLeDiff, Int32.reduceOfInt, Int64.reduceOfInt, true_and, and_true, and_self, true_or, or_true, false_implies, true_implies, not_false_eq_true, not_true_eq_false, Value.category, Nat.reduceEqDiff, Option.toList, List.cons_append, List.nil_append, List.drop_succ_cons, List.drop_zero, ax_qq_eq, ax_t_1503, w0, y1, q3, mo_f, hal, g1, g4, e1, v1, e2, e3, a1, a2, a3]
            rw [ax_j_1503_94]
            refine ih3 _ _ (mf2_trans q1 (mf2_176 _ _)) (mX_176 q2) (ax_up_same ..) (fun x hx => ?_)
            rw [kx_tal, ev, nI_clamp (by omega)]
            unfold upd
            by_cases ex : x = c * 100 + v
            · rw [if_pos ex, if_pos ex, q4 _ (by omega)]
            · rw [if_neg ex, if_neg ex, q4 _ hx]
    · intro c hc2 ih es1 al i1 i2 i3 i4
      have e9 : ¬ (1200 : Int32) ≤ nI c := nI_ge (b := 1200) hc2 (by decide)
      have c4 : nI c + 1 = nI (c + 1) := (nI_succ c).symm
      have a2 : vp_in (nI c) 1200 := nI_in (by omega) (by decide)
      have a3 : (nI c).toNatClampNeg = c := nI_clamp (by omega)
      have E1 := mE_f2 E0 i1
      obtain ⟨th, tp, sz, at0, fl, cd, nm, rm, on, fh, un, g, w0⟩ := id E1.2.2.2.2.2.1
      simp only [ax_W_cons, ax_I, ax_cmp, ax_ii, ax_ll, ax_li, ax_st1, ax_st2, ax_kl, ax_k2, ax_fit, ax_rtok, List.getElem?_cons_zero, List.getElem?_cons_succ, List.length_cons, List.length_nil, List.set_cons_zero, List.set_cons_succ, Nat.reduceAdd, Nat.reduceDiv, Nat.reduceMod, Nat.reduceMul, Nat.reduceLT, Nat.reduceLeDiff, Int32.reduceOfInt, Int64.reduceOfInt, true_and, and_true, and_self, true_or, or_true, false_implies, true_implies, not_false_eq_true, not_true_eq_false, Value.category, Nat.reduceEqDiff, Option.toList, List.cons_append, List.nil_append, List.drop_succ_cons, List.drop_zero, ax_qq_eq, ax_t_1503, w0, i3, mo_f, hal, e9, c4, a2, a3]
      rw [ax_j_1503_19]
      refine ih _ _ (mf2_trans i1 (mf2_176 _ _)) (mX_176 i2) (ax_up_same ..) (fun x hx => ?_)
      unfold upd
      by_cases ex : x = c
      · rw [if_pos ex]
      · rw [if_neg ex]
        exact i4 x (by omega)
  · simp only [Classical.not_not] at h2
    rw [if_neg (by rw [h2]; decide)] at hQ
    exact hQ _ (mq_of h0 (mfr_rf _) S0.1 (mfq_rf _) ⟨al0, hA⟩)
end MM
