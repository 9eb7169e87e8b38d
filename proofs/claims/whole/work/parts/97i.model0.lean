/-! the reference, made: what it does while it has 177 cells -/
section MM
variable {d n sl k p hc b : Nat} {es : ax_H} {kd pm ht hs pl0 ct : Nat → Int32} {F1 F2 : Int32 → Int32 → Int32 → Int32 → Int32} {st : Nat → Int32} {w : mW9} {Q : Option Value → ax_H → Prop}
theorem nO_rcv (hal : ax_al n = 177) (h : mO es) (As : List Value) : ax_rcv n es 11 (.ref 159 :: As) := by
  obtain ⟨th, tp, sz, at0, fl, cd, nm, rm, on, fh, un, g, h0⟩ := h
  exact ax_rcv_ok (by omega) h0
theorem nk_cells (hal : ax_al n = 177) (hK : mK es k p hc kd pm ht hs F1 F2) (hQ : Q (some (.int (nI k))) es) : ax_Mt d 1450 [.ref 159] n sl es Q := by
  obtain ⟨⟨th, tp, sz, at0, fl, cd, nm, rm, on, fh, un, g, h0⟩, ct, op, ar, h1, h2, h3, ⟨c0, c1, c2, c3, c4⟩, h4⟩ := hK
  have v0 : vp_in 0 80 := nI_in (c := 0) (by decide) (by decide)
  refine ax_Mt_go (m := ax_m_11_42) (ls := [some (.ref 159)]) rfl ax_b_1450_0 (Nat.le_of_ble_eq_true rfl) rfl ?_
  simp only [ax_W_cons, ax_I, ax_cmp, ax_ii, ax_ll, ax_li, ax_st1, ax_st2, ax_kl, ax_k2, ax_fit, ax_rtok, List.getElem?_cons_zero, List.getElem?_cons_succ, List.length_cons, List.length_nil, List.set_cons_zero, List.set_cons_succ, Nat.reduceAdd, Nat.reduceDiv, Nat.reduceMod, Nat.reduceMul, Nat.reduceLT, Nat.reduceLeDiff, Int32.reduceOfInt, Int64.reduceOfInt, true_and, and_true, and_self, true_or, or_true, false_implies, true_implies, not_false_eq_true, not_true_eq_false, Value.category, Nat.reduceEqDiff, Option.toList, List.cons_append, List.nil_append, List.drop_succ_cons, List.drop_zero, ax_qq_eq, ax_t_1450, h0, h1, mo_f, hal, v0, kx_n0, c0]
  exact hQ
theorem nk_courtiers (hal : ax_al n = 177) (hK : mK es k p hc kd pm ht hs F1 F2) (hQ : Q (some (.int (nI p))) es) : ax_Mt d 1451 [.ref 159] n sl es Q := by
  obtain ⟨⟨th, tp, sz, at0, fl, cd, nm, rm, on, fh, un, g, h0⟩, ct, op, ar, h1, h2, h3, ⟨c0, c1, c2, c3, c4⟩, h4⟩ := hK
  have v0 : vp_in 1 80 := nI_in (c := 1) (by decide) (by decide)
  refine ax_Mt_go (m := ax_m_11_43) (ls := [some (.ref 159)]) rfl ax_b_1451_0 (Nat.le_of_ble_eq_true rfl) rfl ?_
  simp only [ax_W_cons, ax_I, ax_cmp, ax_ii, ax_ll, ax_li, ax_st1, ax_st2, ax_kl, ax_k2, ax_fit, ax_rtok, List.getElem?_cons_zero, List.getElem?_cons_succ, List.length_cons, List.length_nil, List.set_cons_zero, List.set_cons_succ, Nat.reduceAdd, Nat.reduceDiv, Nat.reduceMod, Nat.reduceMul, Nat.reduceLT, Nat.reduceLeDiff, Int32.reduceOfInt, Int64.reduceOfInt, true_and, and_true, and_self, true_or, or_true, false_implies, true_implies, not_false_eq_true, not_true_eq_false, Value.category, Nat.reduceEqDiff, Option.toList, List.cons_append, List.nil_append, List.drop_succ_cons, List.drop_zero, ax_qq_eq, ax_t_1451, h0, h1, mo_f, hal, v0, kx_m1, c1]
  exact hQ
theorem nk_courtierOf (hal : ax_al n = 177) (hK : mK es k p hc kd pm ht hs F1 F2) (hp : p ≤ 6) {i w : Nat} (hi : i < p) (hw : w < 3) (hQ : Q (some (.int (if w = 0 then kd i - 13 else if w = 1 then pm i else ht i))) es) : ax_Mt d 1452 [.ref 159, .int (nI i), .int (nI w)] n sl es Q := by
  obtain ⟨⟨th, tp, sz, at0, fl, cd, nm, rm, on, fh, un, g, h0⟩, ct, op, ar, h1, h2, h3, ⟨c0, c1, c2, c3, c4⟩, h4⟩ := hK
  have e1 : (5 : Int32) + 3 * nI i + nI w = nI (5 + 3 * i + w) := by
    show nI 5 + nI 3 * nI i + nI w = _
    rw [kn_mul, kn_add, kn_add]
  have v0 : vp_in (nI (5 + 3 * i + w)) 80 := nI_in (by omega) (by decide)
  have e2 : (nI (5 + 3 * i + w)).toNatClampNeg = 5 + 3 * i + w := nI_clamp (by omega)
  obtain ⟨q1, q2, q3⟩ := c3 i hi
  refine ax_Mt_go (m := ax_m_11_44) (ls := [some (.ref 159), some (.int (nI i)), some (.int (nI w))]) rfl ax_b_1452_0 (Nat.le_of_ble_eq_true rfl) rfl ?_
  simp only [ax_W_cons, ax_I, ax_cmp, ax_ii, ax_ll, ax_li, ax_st1, ax_st2, ax_kl, ax_k2, ax_fit, ax_rtok, List.getElem?_cons_zero, List.getElem?_cons_succ, List.length_cons, List.length_nil, List.set_cons_zero, List.set_cons_succ, Nat.reduceAdd, Nat.reduceDiv, Nat.reduceMod, Nat.reduceMul, Nat.reduceLT, Nat.reduceLeDiff, Int32.reduceOfInt, Int64.reduceOfInt, true_and, and_true, and_self, true_or, or_true, false_implies, true_implies, not_false_eq_true, not_true_eq_false, Value.category, Nat.reduceEqDiff, Option.toList, List.cons_append, List.nil_append, List.drop_succ_cons, List.drop_zero, ax_qq_eq, ax_t_1452, h0, h1, mo_f, hal, e1, v0, e2]
  have h5 : w = 0 ∨ w = 1 ∨ w = 2 := by omega
  rcases h5 with rfl | rfl | rfl
  · rw [q1.symm] at hQ
    exact hQ
  · have hQ : Q (some (.int (pm i))) es := hQ
    rw [q2]
    exact hQ
  · have hQ : Q (some (.int (ht i))) es := hQ
    rw [q3]
    exact hQ
theorem nk_starts (hal : ax_al n = 177) (hK : mK es k p hc kd pm ht hs F1 F2) (hX : mX es st) (hk0 : 0 < k) (hk : k ≤ 12) (hp : p ≤ 6) (hb : b + 52 ≤ 1196) (hP : zPm k p pm pl0) (hQ : ∀ es' st', mfr es es' → mX es' st' → mfs b st st' → mV st' b k p 0 0 (fun _ => 0) pl0 (fun _ => 0) → Q none es') : ax_Mt (d + 1) 1447 [.ref 159, .int (nI b)] n sl es Q := by
  refine ax_Mt_go (m := ax_m_11_39) (ls := [some (.ref 159), some (.int (nI b)), none, none]) rfl ax_b_1447_0 (Nat.le_of_ble_eq_true rfl) rfl ?_
  simp only [ax_W_cons, ax_I, ax_cmp, ax_ii, ax_ll, ax_li, ax_st1, ax_st2, ax_kl, ax_k2, ax_fit, ax_rtok, List.getElem?_cons_zero, List.getElem?_cons_succ, List.length_cons, List.length_nil, List.set_cons_zero, List.set_cons_succ, Nat.reduceAdd, Nat.reduceDiv, Nat.reduceMod, Nat.reduceMul, Nat.reduceLT, Nat.reduceLeDiff, Int32.reduceOfInt, Int64.reduceOfInt, true_and, and_true, and_self, true_or, or_true, false_implies, true_implies, not_false_eq_true, not_true_eq_false, Value.category, Nat.reduceEqDiff, Option.toList, List.cons_append, List.nil_append, List.drop_succ_cons, List.drop_zero, ax_qq_eq, ax_t_1447]
  rw [ax_n_1447_2]
  have L := kx_loop (k := 26) (I := fun x => ∀ es1 st1, mfr es es1 → mX es1 st1 → mfs b st st1 → (∀ j, j < x → st1 (b + j) = 0) → ax_W (d + 1) n sl 1447 [(1, .iload 2), (2, .iconst 26), (3, .if_icmp .ge 23), (1, .aload 0), (3, .getfield 2910), (1, .iload 1), (1, .iload 2), (1, .iadd), (1, .iconst 0), (1, .iastore), (3, .iinc 2 1), (3, .goto 2)] 2 [some (.ref 159), some (.int (nI b)), some (.int (nI x)), none] [] n sl es1 (ax_qq n sl Q)) ?_ ?_
  · exact L es st (mfr_rf _) hX (mfs_rf _ _) (fun j hj => by omega)
  · intro es1 st1 i1 i2 i3 i4
    have e9 : (26 : Int32) ≤ nI 26 := by decide
    simp only [ax_W_cons, ax_I, ax_cmp, ax_ii, ax_ll, ax_li, ax_st1, ax_st2, ax_kl, ax_k2, ax_fit, ax_rtok, List.getElem?_cons_zero, List.getElem?_cons_succ, List.length_cons, List.length_nil, List.set_cons_zero, List.set_cons_succ, Nat.reduceAdd, Nat.reduceDiv, Nat.reduceMod, Nat.reduceMul, Nat.reduceLT, Nat.reduceLeDiff, Int32.reduceOfInt, Int64.reduceOfInt, true_and, and_true, and_self, true_or, or_true, false_implies, true_implies, not_false_eq_true, not_true_eq_false, Value.category, Nat.reduceEqDiff, Option.toList, List.cons_append, List.nil_append, List.drop_succ_cons, List.drop_zero, ax_qq_eq, ax_t_1447, ax_j_1447_23, ax_n_1447_23, e9]
    rw [ax_n_1447_25]
    have L2 := kx_loop (k := p) (I := fun x => ∀ v3 es1 st1, mfr es es1 → mX es1 st1 → mfs b st st1 → (∀ j, j < 26 → (j < 14 ∨ 14 + x ≤ j) → st1 (b + j) = 0) → (∀ i, i < x → st1 (b + 14 + i) = pl0 i) → ax_W (d + 1) n sl 1447 [(1, .iload 2), (1, .aload 0), (3, .invokeinterface 1451 5), (3, .if_icmp .ge 75), (1, .aload 0), (1, .iload 2), (1, .iconst 1), (3, .invokeinterface 1452 13), (1, .istore 3), (1, .aload 0), (3, .getfield 2910), (1, .iload 1), (2, .iconst 14), (1, .iadd), (1, .iload 2), (1, .iadd), (1, .iload 3), (1, .aload 0), (3, .invokeinterface 1450 5), (3, .if_icmp .ge 62), (1, .iload 3), (3, .goto 68)] 25 [some (.ref 159), some (.int (nI b)), some (.int (nI x)), v3] [] n sl es1 (ax_qq n sl Q)) ?_ ?_
    · exact L2 none es1 st1 i1 i2 i3 (fun j hj _ => i4 j hj) (fun i hi => by omega)
    · intro v3 es1 st1 i1 i2 i3 i4 i5
      have hK1 := mK_fr hK i1
      have e0 := kx_nn (k := p) (by omega)
      simp only [ax_W_cons, ax_I, ax_cmp, ax_ii, ax_ll, ax_li, ax_st1, ax_st2, ax_kl, ax_k2, ax_fit, ax_rtok, List.getElem?_cons_zero, List.getElem?_cons_succ, List.length_cons, List.length_nil, List.set_cons_zero, List.set_cons_succ, Nat.reduceAdd, Nat.reduceDiv, Nat.reduceMod, Nat.reduceMul, Nat.reduceLT, Nat.reduceLeDiff, Int32.reduceOfInt, Int64.reduceOfInt, true_and, and_true, and_self, true_or, or_true, false_implies, true_implies, not_false_eq_true, not_true_eq_false, Value.category, Nat.reduceEqDiff, Option.toList, List.cons_append, List.nil_append, List.drop_succ_cons, List.drop_zero, ax_qq_eq, ax_t_1447]
      refine ax_inv_of (Nat.le_of_ble_eq_true rfl) (Nat.le_of_ble_eq_true rfl) (fun _ => nO_rcv hal hK1.1 _) (fun h => absurd h (by decide)) (Nat.le_refl _) (Nat.le_refl _) (nk_courtiers hal hK1 ?_)
      simp only [ax_W_cons, ax_I, ax_cmp, ax_ii, ax_ll, ax_li, ax_st1, ax_st2, ax_kl, ax_k2, ax_fit, ax_rtok, List.getElem?_cons_zero, List.getElem?_cons_succ, List.length_cons, List.length_nil, List.set_cons_zero, List.set_cons_succ, Nat.reduceAdd, Nat.reduceDiv, Nat.reduceMod, Nat.reduceMul, Nat.reduceLT, Nat.reduceLeDiff, Int32.reduceOfInt, Int64.reduceOfInt, true_and, and_true, and_self, true_or, or_true, false_implies, true_implies, not_false_eq_true, not_true_eq_false, Value.category, Nat.reduceEqDiff, Option.toList, List.cons_append, List.nil_append, List.drop_succ_cons, List.drop_zero, ax_qq_eq, ax_t_1447, ax_j_1447_75, ax_n_1447_75, e0]
      refine hQ es1 st1 i1 i2 i3 ⟨i4 0 (by omega) (by omega), i4 1 (by omega) (by omega), fun c hc => ?_, i5, fun i hi => ?_⟩
      · rw [Nat.add_assoc]
        exact i4 (2 + c) (by omega) (by omega)
      · rw [Nat.add_assoc]
        exact i4 (20 + i) (by omega) (by omega)
    · intro x hx ih v3 es1 st1 i1 i2 i3 i4 i5
      have hK1 := mK_fr hK i1
      obtain ⟨th, tp, sz, at0, fl, cd, nm, rm, on, fh, un, g, w0⟩ := id hK1.1
      have y1 := i2.1
      obtain ⟨q1, -, -, q4⟩ := kx_ix hx hp (by decide)
      obtain ⟨v, hv, e1, e2⟩ := hP x hx
      have a1 : nI b + 14 + nI x = nI (b + 14 + x) := by
        show nI b + nI 14 + nI x = _
        rw [kn_add, kn_add]
      have a2 : vp_in (nI (b + 14 + x)) 1196 := nI_in (by omega) (by decide)
      have a3 : (nI (b + 14 + x)).toNatClampNeg = b + 14 + x := nI_clamp (by omega)
      have ek : nI k - 1 = nI (k - 1) := by
        obtain ⟨k', rfl⟩ : ∃ z, k = z + 1 := ⟨k - 1, by omega⟩
        exact nI_pred k'
      -- the end of it
      have fin : ∀ y, y = pl0 x → ax_W (d + 1) n sl 1447 [(1, .iastore), (3, .iinc 2 1), (3, .goto 25)] 68 [some (.ref 159), some (.int (nI b)), some (.int (nI x)), some (.int (pm x))] [.int y, .int (nI (b + 14 + x)), .ref 173] n sl es1 (ax_qq n sl Q) := by
        intro y hy
        simp only [ax_W_cons, ax_I, ax_cmp, ax_ii, ax_ll, ax_li, ax_st1, ax_st2, ax_kl, ax_k2, ax_fit, ax_rtok, List.getElem?_cons_zero, List.getElem?_cons_succ, List.length_cons, List.length_nil, List.set_cons_zero, List.set_cons_succ, Nat.reduceAdd, Nat.reduceDiv, Nat.reduceMod, Nat.reduceMul, Nat.reduceLT, Nat.reduceLeDiff, Int32.reduceOfInt, Int64.reduceOfInt, true_and, and_true, and_self, true_or, or_true, false_implies, true_implies, not_false_eq_true, not_true_eq_false, Value.category, Nat.reduceEqDiff, Option.toList, List.cons_append, List.nil_append, List.drop_succ_cons, List.drop_zero, ax_qq_eq, ax_t_1447, y1, hal, a2, a3, q4]
        rw [ax_j_1447_25]
        refine ih _ _ _ (mfr_trans i1 (mfr_up es1 _)) (mX_up i2) (mfs_trans i3 (mfs_up st1 y (j := b + 14 + x) (by omega))) (fun j hj h2 => ?_) (fun i hi => ?_)
        · rw [upd_ne _ _ (by omega)]
          exact i4 j hj (by omega)
        · by_cases e : i = x
          · subst e
            rw [upd_same]
            exact hy
          · rw [upd_ne _ _ (by omega)]
            exact i5 i (by omega)
      simp only [ax_W_cons, ax_I, ax_cmp, ax_ii, ax_ll, ax_li, ax_st1, ax_st2, ax_kl, ax_k2, ax_fit, ax_rtok, List.getElem?_cons_zero, List.getElem?_cons_succ, List.length_cons, List.length_nil, List.set_cons_zero, List.set_cons_succ, Nat.reduceAdd, Nat.reduceDiv, Nat.reduceMod, Nat.reduceMul, Nat.reduceLT, Nat.reduceLeDiff, Int32.reduceOfInt, Int64.reduceOfInt, true_and, and_true, and_self, true_or, or_true, false_implies, true_implies, not_false_eq_true, not_true_eq_false, Value.category, Nat.reduceEqDiff, Option.toList, List.cons_append, List.nil_append, List.drop_succ_cons, List.drop_zero, ax_qq_eq, ax_t_1447]
      refine ax_inv_of (Nat.le_of_ble_eq_true rfl) (Nat.le_of_ble_eq_true rfl) (fun _ => nO_rcv hal hK1.1 _) (fun h => absurd h (by decide)) (Nat.le_refl _) (Nat.le_refl _) (nk_courtiers hal hK1 ?_)
      simp only [ax_W_cons, ax_I, ax_cmp, ax_ii, ax_ll, ax_li, ax_st1, ax_st2, ax_kl, ax_k2, ax_fit, ax_rtok, List.getElem?_cons_zero, List.getElem?_cons_succ, List.length_cons, List.length_nil, List.set_cons_zero, List.set_cons_succ, Nat.reduceAdd, Nat.reduceDiv, Nat.reduceMod, Nat.reduceMul, Nat.reduceLT, Nat.reduceLeDiff, Int32.reduceOfInt, Int64.reduceOfInt, true_and, and_true, and_self, true_or, or_true, false_implies, true_implies, not_false_eq_true, not_true_eq_false, Value.category, Nat.reduceEqDiff, Option.toList, List.cons_append, List.nil_append, List.drop_succ_cons, List.drop_zero, ax_qq_eq, ax_t_1447, q1]
      refine ax_inv_of (Nat.le_of_ble_eq_true rfl) (Nat.le_of_ble_eq_true rfl) (fun _ => nO_rcv hal hK1.1 _) (fun h => absurd h (by decide)) (Nat.le_refl _) (Nat.le_refl _) (nk_courtierOf hal hK1 hp hx (w := 1) (by decide) ?_)
      rw [if_neg (by decide), if_pos rfl]
      simp only [ax_W_cons, ax_I, ax_cmp, ax_ii, ax_ll, ax_li, ax_st1, ax_st2, ax_kl, ax_k2, ax_fit, ax_rtok, List.getElem?_cons_zero, List.getElem?_cons_succ, List.length_cons, List.length_nil, List.set_cons_zero, List.set_cons_succ, Nat.reduceAdd, Nat.reduceDiv, Nat.reduceMod, Nat.reduceMul, Nat.reduceLT, Nat.reduceLeDiff, Int32.reduceOfInt, Int64.reduceOfInt, true_and, and_true, and_self, true_or, or_true, false_implies, true_implies, not_false_eq_true, not_true_eq_false, Value.category, Nat.reduceEqDiff, Option.toList, List.cons_append, List.nil_append, List.drop_succ_cons, List.drop_zero, ax_qq_eq, ax_t_1447, w0, mo_f, hal, a1]
      refine ax_inv_of (Nat.le_of_ble_eq_true rfl) (Nat.le_of_ble_eq_true rfl) (fun _ => nO_rcv hal hK1.1 _) (fun h => absurd h (by decide)) (Nat.le_refl _) (Nat.le_refl _) (nk_cells hal hK1 ?_)
      by_cases hlt : v < k
      · have c1 : ¬ nI k ≤ pm x := by rw [e1]; exact nI_ge hlt (by omega)
        have fin := fin (pm x) (by rw [e1, e2, Nat.min_eq_left (by omega)])
        rw [← ax_j_1447_68] at fin
        simp only [ax_W_cons, ax_I, ax_cmp, ax_ii, ax_ll, ax_li, ax_st1, ax_st2, ax_kl, ax_k2, ax_fit, ax_rtok, List.getElem?_cons_zero, List.getElem?_cons_succ, List.length_cons, List.length_nil, List.set_cons_zero, List.set_cons_succ, Nat.reduceAdd, Nat.reduceDiv, Nat.reduceMod, Nat.reduceMul, Nat.reduceLT, Nat.reduceLeDiff, Int32.reduceOfInt, Int64.reduceOfInt, true_and, and_true, and_self, true_or, or_true, false_implies, true_implies, not_false_eq_true, not_true_eq_false, Value.category, Nat.reduceEqDiff, Option.toList, List.cons_append, List.nil_append, List.drop_succ_cons, List.drop_zero, ax_qq_eq, ax_t_1447, c1]
        exact fin
      · have c1 : nI k ≤ pm x := by rw [e1]; exact nI_le (by omega) (by omega)
        have fin := fin (nI (k - 1)) (by rw [e2, Nat.min_eq_right (by omega)])
        rw [← ax_n_1447_68] at fin
        simp only [ax_W_cons, ax_I, ax_cmp, ax_ii, ax_ll, ax_li, ax_st1, ax_st2, ax_kl, ax_k2, ax_fit, ax_rtok, List.getElem?_cons_zero, List.getElem?_cons_succ, List.length_cons, List.length_nil, List.set_cons_zero, List.set_cons_succ, Nat.reduceAdd, Nat.reduceDiv, Nat.reduceMod, Nat.reduceMul, Nat.reduceLT, Nat.reduceLeDiff, Int32.reduceOfInt, Int64.reduceOfInt, true_and, and_true, and_self, true_or, or_true, false_implies, true_implies, not_false_eq_true, not_true_eq_false, Value.category, Nat.reduceEqDiff, Option.toList, List.cons_append, List.nil_append, List.drop_succ_cons, List.drop_zero, ax_qq_eq, ax_t_1447, ax_j_1447_62, ax_n_1447_62, c1]
        refine ax_inv_of (Nat.le_of_ble_eq_true rfl) (Nat.le_of_ble_eq_true rfl) (fun _ => nO_rcv hal hK1.1 _) (fun h => absurd h (by decide)) (Nat.le_refl _) (Nat.le_refl _) (nk_cells hal hK1 ?_)
        simp only [ax_W_cons, ax_I, ax_cmp, ax_ii, ax_ll, ax_li, ax_st1, ax_st2, ax_kl, ax_k2, ax_fit, ax_rtok, List.getElem?_cons_zero, List.getElem?_cons_succ, List.length_cons, List.length_nil, List.set_cons_zero, List.set_cons_succ, Nat.reduceAdd, Nat.reduceDiv, Nat.reduceMod, Nat.reduceMul, Nat.reduceLT, Nat.reduceLeDiff, Int32.reduceOfInt, Int64.reduceOfInt, true_and, and_true, and_self, true_or, or_true, false_implies, true_implies, not_false_eq_true, not_true_eq_false, Value.category, Nat.reduceEqDiff, Option.toList, List.cons_append, List.nil_append, List.drop_succ_cons, List.drop_zero, ax_qq_eq, ax_t_1447, ek]
        exact fin
  · intro x hx ih es1 st1 i1 i2 i3 i4
    have hK1 := mK_fr hK i1
    obtain ⟨th, tp, sz, at0, fl, cd, nm, rm, on, fh, un, g, w0⟩ := id hK1.1
    have y1 := i2.1
    have e9 : ¬ (26 : Int32) ≤ nI x := nI_ge (b := 26) hx (by decide)
    have x4 : nI x + 1 = nI (x + 1) := (nI_succ x).symm
    have a1 : nI b + nI x = nI (b + x) := kn_add _ _
    have a2 : vp_in (nI (b + x)) 1196 := nI_in (by omega) (by decide)
    have a3 : (nI (b + x)).toNatClampNeg = b + x := nI_clamp (by omega)
    simp only [ax_W_cons, ax_I, ax_cmp, ax_ii, ax_ll, ax_li, ax_st1, ax_st2, ax_kl, ax_k2, ax_fit, ax_rtok, List.getElem?_cons_zero, List.getElem?_cons_succ, List.length_cons, List.length_nil, List.set_cons_zero, List.set_cons_succ, Nat.reduceAdd, Nat.reduceDiv, Nat.reduceMod, Nat.reduceMul, Nat.reduceLT, Nat.reduceLeDiff, Int32.reduceOfInt, Int64.reduceOfInt, true_and, and_true, and_self, true_or, or_true, false_implies, true_implies, not_false_eq_true, not_true_eq_false, Value.category, Nat.reduceEqDiff, Option.toList, List.cons_append, List.nil_append, List.drop_succ_cons, List.drop_zero, ax_qq_eq, ax_t_1447, w0, y1, mo_f, hal, e9, a1, a2, a3, x4]
    rw [ax_j_1447_2]
    refine ih _ _ (mfr_trans i1 (mfr_up es1 _)) (mX_up i2) (mfs_trans i3 (mfs_up st1 0 (j := b + x) (by omega))) (fun j hj => ?_)
    by_cases e : j = x
    · subst e
      exact upd_same ..
    · rw [upd_ne _ _ (by omega)]
      exact i4 j (by omega)
theorem nk_always (hal : ax_al n = 177) {th tp sz at0 f0 cd nm rm on fh un : Int32} {g : Int64} (hO : es 159 = .inr (11, mo_f th tp sz at0 f0 cd nm rm on fh un g)) (hct : es 165 = .inl (0, 80, .inl ct)) {b : Nat} (hb : b ≤ 40) (hQ : ∀ ct', ct' (b + 0) = 8 → ct' (b + 1) = 0 → ct' (b + 2) = 1 → ct' (b + 3) = -1 → ct' (b + 4) = -1 → ct' (b + 23) = 2 → (∀ j, (j < b ∨ b + 40 ≤ j) → ct' j = ct j) → Q none (ax_up es 165 (.inl (0, 80, .inl ct')))) : ax_Mt d 1425 [.ref 159, .int (nI b)] n sl es Q := by
  refine ax_Mt_go (m := ax_m_11_17) (ls := [some (.ref 159), some (.int (nI b)), none]) rfl ax_b_1425_0 (Nat.le_of_ble_eq_true rfl) rfl ?_
  simp only [ax_W_cons, ax_I, ax_cmp, ax_ii, ax_ll, ax_li, ax_st1, ax_st2, ax_kl, ax_k2, ax_fit, ax_rtok, List.getElem?_cons_zero, List.getElem?_cons_succ, List.length_cons, List.length_nil, List.set_cons_zero, List.set_cons_succ, Nat.reduceAdd, Nat.reduceDiv, Nat.reduceMod, Nat.reduceMul, Nat.reduceLT, Nat.reduceLeDiff, Int32.reduceOfInt, Int64.reduceOfInt, true_and, and_true, and_self, true_or, or_true, false_implies, true_implies, not_false_eq_true, not_true_eq_false, Value.category, Nat.reduceEqDiff, Option.toList, List.cons_append, List.nil_append, List.drop_succ_cons, List.drop_zero, ax_qq_eq, ax_t_1425]
  rw [ax_n_1425_2]
  have L := kx_down (k := 40) (I := fun f i => ∀ ct1 : Nat → Int32, (∀ j, b ≤ j → j < b + i → ct1 j = 0) → (∀ j, (j < b ∨ b + 40 ≤ j) → ct1 j = ct j) → ax_W (d) n sl 1425 [(1, .iload 2), (2, .iconst 40), (3, .if_icmp .ge 23), (1, .aload 0), (3, .getfield 2858), (1, .iload 1), (1, .iload 2), (1, .iadd), (1, .iconst 0), (1, .iastore), (3, .iinc 2 1), (3, .goto 2)] 2 [some (.ref 159), some (.int (nI b)), some (.int (nI i))] [] n sl (ax_up es 165 (.inl (0, 80, .inl ct1))) (ax_qq n sl Q)) ?_ ?_ 40 0 (by omega)
  · have L := L ct (fun j h1 h2 => by omega) (fun j _ => rfl)
    rw [rup_id hct] at L
    exact L
  · intro ct1 h1 h2
    have e0 : (40 : Int32) ≤ nI 40 := by decide
    have w0 : ∀ e, ax_up es 165 e 159 = _ := fun e => (ax_up_ne es e (by decide)).trans hO
    have w1 : ∀ e, ax_up es 165 e 165 = e := fun e => ax_up_same ..
    have x0 : nI b + 0 = nI (b + 0) := kn_add b 0
    have x2 : nI b + 2 = nI (b + 2) := kn_add b 2
    have x3 : nI b + 3 = nI (b + 3) := kn_add b 3
    have x4 : nI b + 4 = nI (b + 4) := kn_add b 4
    have x23 : nI b + 23 = nI (b + 23) := kn_add b 23
    have y : ∀ k, k < 40 → vp_in (nI (b + k)) 80 ∧ (nI (b + k)).toNatClampNeg = b + k := fun k hk => ⟨nI_in (by omega) (by decide), nI_clamp (by omega)⟩
    have y0 := y 0 (by decide)
    have y2 := y 2 (by decide)
    have y3 := y 3 (by decide)
    have y4 := y 4 (by decide)
    have y23 := y 23 (by decide)
    have uu : ∀ e e', ax_up (ax_up es 165 e) 165 e' = ax_up es 165 e' := fun e e' => by
      funext j
      by_cases hj : j = 165
      · rw [hj, ax_up_same, ax_up_same]
      · rw [ax_up_ne _ _ hj, ax_up_ne _ _ hj, ax_up_ne _ _ hj]
    simp only [ax_W_cons, ax_I, ax_cmp, ax_ii, ax_ll, ax_li, ax_st1, ax_st2, ax_kl, ax_k2, ax_fit, ax_rtok, List.getElem?_cons_zero, List.getElem?_cons_succ, List.length_cons, List.length_nil, List.set_cons_zero, List.set_cons_succ, Nat.reduceAdd, Nat.reduceDiv, Nat.reduceMod, Nat.reduceMul, Nat.reduceLT, Nat.reduceLeDiff, Int32.reduceOfInt, Int64.reduceOfInt, true_and, and_true, and_self, true_or, or_true, false_implies, true_implies, not_false_eq_true, not_true_eq_false, Value.category, Nat.reduceEqDiff, Option.toList, List.cons_append, List.nil_append, List.drop_succ_cons, List.drop_zero, ax_qq_eq, ax_t_1425, ax_j_1425_23, ax_n_1425_23, e0, w0, w1, uu, mo_f, hal, x0, x2, x3, x4, x23, y0.1, y0.2, y2.1, y2.2, y3.1, y3.2, y4.1, y4.2, y23.1, y23.2]
    refine hQ _ ?_ ?_ ?_ ?_ ?_ ?_ (fun j hj => ?_)
    · rw [upd_ne _ _ (by omega), upd_ne _ _ (by omega), upd_ne _ _ (by omega), upd_ne _ _ (by omega), upd_same]
    · rw [upd_ne _ _ (by omega), upd_ne _ _ (by omega), upd_ne _ _ (by omega), upd_ne _ _ (by omega), upd_ne _ _ (by omega)]
      exact h1 _ (by omega) (by omega)
    · rw [upd_ne _ _ (by omega), upd_ne _ _ (by omega), upd_ne _ _ (by omega), upd_same]
    · rw [upd_ne _ _ (by omega), upd_same]
    · rw [upd_same]
    · rw [upd_ne _ _ (by omega), upd_ne _ _ (by omega), upd_same]
    · rw [upd_ne _ _ (by omega), upd_ne _ _ (by omega), upd_ne _ _ (by omega), upd_ne _ _ (by omega), upd_ne _ _ (by omega)]
      exact h2 j hj
  · intro f i hi ih ct1 h1 h2
    have e0 : ¬ (40 : Int32) ≤ nI i := nI_ge (b := 40) (by omega) (by decide)
    have i4 : nI i + 1 = nI (i + 1) := (nI_succ i).symm
    have i5 : nI b + nI i = nI (b + i) := kn_add _ _
    have i1 : vp_in (nI (b + i)) 80 := nI_in (by omega) (by decide)
    have i2 : (nI (b + i)).toNatClampNeg = b + i := nI_clamp (by omega)
    have w0 : ∀ e, ax_up es 165 e 159 = _ := fun e => (ax_up_ne es e (by decide)).trans hO
    have w1 : ∀ e, ax_up es 165 e 165 = e := fun e => ax_up_same ..
    have uu : ∀ e e', ax_up (ax_up es 165 e) 165 e' = ax_up es 165 e' := fun e e' => by
      funext j
      by_cases hj : j = 165
      · rw [hj, ax_up_same, ax_up_same]
      · rw [ax_up_ne _ _ hj, ax_up_ne _ _ hj, ax_up_ne _ _ hj]
    simp only [ax_W_cons, ax_I, ax_cmp, ax_ii, ax_ll, ax_li, ax_st1, ax_st2, ax_kl, ax_k2, ax_fit, ax_rtok, List.getElem?_cons_zero, List.getElem?_cons_succ, List.length_cons, List.length_nil, List.set_cons_zero, List.set_cons_succ, Nat.reduceAdd, Nat.reduceDiv, Nat.reduceMod, Nat.reduceMul, Nat.reduceLT, Nat.reduceLeDiff, Int32.reduceOfInt, Int64.reduceOfInt, true_and, and_true, and_self, true_or, or_true, false_implies, true_implies, not_false_eq_true, not_true_eq_false, Value.category, Nat.reduceEqDiff, Option.toList, List.cons_append, List.nil_append, List.drop_succ_cons, List.drop_zero, ax_qq_eq, ax_t_1425, e0, w0, w1, uu, mo_f, hal, i1, i2, i4, i5]
    rw [ax_j_1425_2]
    refine ih _ (fun j h3 h4 => ?_) (fun j hj => ?_)
    · by_cases e : j = b + i
      · rw [e, upd_same]
      · rw [upd_ne _ _ e]
        exact h1 j h3 (by omega)
    · rw [upd_ne _ _ (by omega)]
      exact h2 j hj
theorem nk_begins (hal : ax_al n = 177) (hK : mK es k p hc kd pm ht hs F1 F2) (hX : mX es st) (hk0 : 0 < k) (hk : k ≤ 12) (hp : p ≤ 6) (hP : zPm k p pm pl0) {th un : Int32} {g : Int64} (hO : mOb es th w un g) {mb ln : Nat → Int32} (hM : es 174 = .inl (2, 4, .inl mb)) (hL : es 170 = .inl (0, 250, .inl ln)) (hQ : ∀ es' st' mb' ln', mOb es' th w 0 g → mX es' st' → mV st' 0 k p 0 0 (fun _ => 0) pl0 (fun _ => 0) → st' 26 = 0 → es' 174 = .inl (2, 4, .inl mb') → (∀ m, m < 4 → mb' m = 0) → es' 170 = .inl (0, 250, .inl ln') → ln' 0 = 0 → (∀ j, j ≠ 159 ∧ j ≠ 170 ∧ j ≠ 171 ∧ j ≠ 172 ∧ j ≠ 173 ∧ j ≠ 174 ∧ j ≠ 175 → es' j = es j) → Q none es') : ax_Mt (d + 2) 1448 [.ref 159] n sl es Q := by
  have hO : es 159 = _ := hO
  refine ax_Mt_go (m := ax_m_11_40) (ls := [some (.ref 159), none]) rfl ax_b_1448_0 (Nat.le_of_ble_eq_true rfl) rfl ?_
  simp only [ax_W_cons, ax_I, ax_cmp, ax_ii, ax_ll, ax_li, ax_st1, ax_st2, ax_kl, ax_k2, ax_fit, ax_rtok, List.getElem?_cons_zero, List.getElem?_cons_succ, List.length_cons, List.length_nil, List.set_cons_zero, List.set_cons_succ, Nat.reduceAdd, Nat.reduceDiv, Nat.reduceMod, Nat.reduceMul, Nat.reduceLT, Nat.reduceLeDiff, Int32.reduceOfInt, Int64.reduceOfInt, true_and, and_true, and_self, true_or, or_true, false_implies, true_implies, not_false_eq_true, not_true_eq_false, Value.category, Nat.reduceEqDiff, Option.toList, List.cons_append, List.nil_append, List.drop_succ_cons, List.drop_zero, ax_qq_eq, ax_t_1448]
  refine ax_inv_of (Nat.le_of_ble_eq_true rfl) (Nat.le_of_ble_eq_true rfl) (fun _ => ax_rcv_ok (by omega) hO) (fun h => absurd h (by decide)) (Nat.le_refl _) (Nat.le_refl _) (nk_starts (b := 0) hal hK hX hk0 hk hp (by decide) hP ?_)
  intro es1 st1 f1 X1 g1 V1
  obtain ⟨x1, ⟨fa, x2⟩, ⟨pi, x3⟩, wa, x4⟩ := id X1
  have w0 := (f1 159 (by decide)).trans hO
  have w7 := (f1 170 (by decide)).trans hL
  have w4 := (f1 174 (by decide)).trans hM
  have e26 : vp_in 26 1196 := nI_in (show 26 < 1196 by decide) (by decide)
  have e26' : (26 : Int32).toNatClampNeg = 26 := by decide
  have e00 : vp_in 0 250 := nI_in (show 0 < 250 by decide) (by decide)
  have e00' : (0 : Int32).toNatClampNeg = 0 := by decide
  simp only [ax_W_cons, ax_I, ax_cmp, ax_ii, ax_ll, ax_li, ax_st1, ax_st2, ax_kl, ax_k2, ax_fit, ax_rtok, List.getElem?_cons_zero, List.getElem?_cons_succ, List.length_cons, List.length_nil, List.set_cons_zero, List.set_cons_succ, Nat.reduceAdd, Nat.reduceDiv, Nat.reduceMod, Nat.reduceMul, Nat.reduceLT, Nat.reduceLeDiff, Int32.reduceOfInt, Int64.reduceOfInt, true_and, and_true, and_self, true_or, or_true, false_implies, true_implies, not_false_eq_true, not_true_eq_false, Value.category, Nat.reduceEqDiff, Option.toList, List.cons_append, List.nil_append, List.drop_succ_cons, List.drop_zero, ax_qq_eq, ax_t_1448, w0, w7, x1, mo_f, hal, e26, e26', e00, e00', ax_up_same, ax_up_ne, ne_eq]
  obtain ⟨es2, he2⟩ : ∃ x, x = ax_up (ax_up (ax_up es1 173 (.inl (0, 1196, .inl (upd st1 26 0)))) 170 (.inl (0, 250, .inl (upd ln 0 0)))) 159 (.inr (11, mo_f th w.1 w.2.1 w.2.2.1 w.2.2.2.1 w.2.2.2.2.1 w.2.2.2.2.2.1 w.2.2.2.2.2.2.1 w.2.2.2.2.2.2.2.1 w.2.2.2.2.2.2.2.2 0 g)) := ⟨_, rfl⟩
  have f2 : ∀ j, j ≠ 173 → j ≠ 170 → j ≠ 159 → es2 j = es1 j := fun j z1 z2 z3 => by rw [he2, ax_up_ne _ _ z3, ax_up_ne _ _ z2, ax_up_ne _ _ z1]
  have y0 : mOb es2 th w 0 g := by rw [he2]; exact ax_up_same ..
  have y3 : es2 173 = .inl (0, 1196, .inl (upd st1 26 0)) := by rw [he2, ax_up_ne _ _ (by decide), ax_up_ne _ _ (by decide), ax_up_same]
  have y7 : es2 170 = .inl (0, 250, .inl (upd ln 0 0)) := by rw [he2, ax_up_ne _ _ (by decide), ax_up_same]
  have y4 := (f2 174 (by decide) (by decide) (by decide)).trans w4
  have X2 : mX es2 (upd st1 26 0) := ⟨y3, ⟨fa, (f2 171 (by decide) (by decide) (by decide)).trans x2⟩, ⟨pi, (f2 172 (by decide) (by decide) (by decide)).trans x3⟩, wa, (f2 175 (by decide) (by decide) (by decide)).trans x4⟩
  have V2 : mV (upd st1 26 0) 0 k p 0 0 (fun _ => 0) pl0 (fun _ => 0) := by
    obtain ⟨v1, v2, v3, v4, v5⟩ := V1
    exact ⟨by rw [upd_ne _ _ (by decide)]; exact v1, by rw [upd_ne _ _ (by decide)]; exact v2, fun i hi => by rw [upd_ne _ _ (by omega)]; exact v3 i hi, fun i hi => by rw [upd_ne _ _ (by omega)]; exact v4 i hi, fun i hi => by rw [upd_ne _ _ (by omega)]; exact v5 i hi⟩
  unfold mo_f at he2
  rw [← he2, ax_n_1448_27]
  clear he2
  have n0 : vp_nar .boolean 0 = 0 := by decide
  have y0' : es2 159 = _ := y0
  have L := kx_down (k := 4) (I := fun f i => ∀ mb1 es3, es3 174 = .inl (2, 4, .inl mb1) → (∀ m, m < i → mb1 m = 0) → (∀ j, j ≠ 174 → es3 j = es2 j) → ax_W (d + 2) n sl 1448 [(1, .iload 1), (1, .iconst 4), (3, .if_icmp .ge 45), (1, .aload 0), (3, .getfield 2918), (1, .iload 1), (1, .iconst 0), (1, .bastore), (3, .iinc 1 1), (3, .goto 27)] 27 [some (.ref 159), some (.int (nI i))] [] n sl es3 (ax_qq n sl Q)) ?_ ?_ 4 0 (by omega)
  · exact L mb es2 y4 (fun m hm => by omega) (fun j _ => rfl)
  · intro mb1 es3 h1 h2 h3
    have e0 : (4 : Int32) ≤ nI 4 := by decide
    simp only [ax_W_cons, ax_I, ax_cmp, ax_ii, ax_ll, ax_li, ax_st1, ax_st2, ax_kl, ax_k2, ax_fit, ax_rtok, List.getElem?_cons_zero, List.getElem?_cons_succ, List.length_cons, List.length_nil, List.set_cons_zero, List.set_cons_succ, Nat.reduceAdd, Nat.reduceDiv, Nat.reduceMod, Nat.reduceMul, Nat.reduceLT, Nat.reduceLeDiff, Int32.reduceOfInt, Int64.reduceOfInt, true_and, and_true, and_self, true_or, or_true, false_implies, true_implies, not_false_eq_true, not_true_eq_false, Value.category, Nat.reduceEqDiff, Option.toList, List.cons_append, List.nil_append, List.drop_succ_cons, List.drop_zero, ax_qq_eq, ax_t_1448, ax_j_1448_45, ax_n_1448_45, e0]
    refine hQ es3 _ mb1 _ ((h3 159 (by decide)).trans y0) ?_ V2 (upd_same ..) h1 h2 ((h3 170 (by decide)).trans y7) (upd_same ..) (fun j hj => ?_)
    · obtain ⟨q1, ⟨fa, q2⟩, ⟨pi, q3⟩, wa, q4⟩ := X2
      exact ⟨(h3 173 (by decide)).trans q1, ⟨fa, (h3 171 (by decide)).trans q2⟩, ⟨pi, (h3 172 (by decide)).trans q3⟩, wa, (h3 175 (by decide)).trans q4⟩
    · rw [h3 j hj.2.2.2.2.2.1, f2 j hj.2.2.2.2.1 hj.2.1 hj.1]
      exact f1 j ⟨hj.2.2.1, hj.2.2.2.1, hj.2.2.2.2.1, hj.2.2.2.2.2.2⟩
  · intro f i hi ih mb1 es3 h1 h2 h3
    have e0 : ¬ (4 : Int32) ≤ nI i := nI_ge (b := 4) (by omega) (by decide)
    have i4 : nI i + 1 = nI (i + 1) := (nI_succ i).symm
    have i1 : vp_in (nI i) 4 := nI_in (by omega) (by decide)
    have i2 : (nI i).toNatClampNeg = i := nI_clamp (by omega)
    have z0 := (h3 159 (by decide)).trans y0'
    simp only [ax_W_cons, ax_I, ax_cmp, ax_ii, ax_ll, ax_li, ax_st1, ax_st2, ax_kl, ax_k2, ax_fit, ax_rtok, List.getElem?_cons_zero, List.getElem?_cons_succ, List.length_cons, List.length_nil, List.set_cons_zero, List.set_cons_succ, Nat.reduceAdd, Nat.reduceDiv, Nat.reduceMod, Nat.reduceMul, Nat.reduceLT, Nat.reduceLeDiff, Int32.reduceOfInt, Int64.reduceOfInt, true_and, and_true, and_self, true_or, or_true, false_implies, true_implies, not_false_eq_true, not_true_eq_false, Value.category, Nat.reduceEqDiff, Option.toList, List.cons_append, List.nil_append, List.drop_succ_cons, List.drop_zero, ax_qq_eq, ax_t_1448, e0, z0, h1, mo_f, hal, i1, i2, i4, n0]
    rw [ax_j_1448_27]
    refine ih _ _ (ax_up_same ..) (fun m hm => ?_) (fun j hj => by rw [ax_up_ne _ _ hj]; exact h3 j hj)
    by_cases e : m = i
    · rw [e, upd_same]
    · rw [upd_ne _ _ e]
      exact h2 m (by omega)
end MM
