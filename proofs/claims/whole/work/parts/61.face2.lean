/-! the class: its deeds -/
theorem kTo_frr {es es' : ax_H} {n : Nat} (h : kTo es n) (hf : ∀ j, 149 ≤ j ∧ j ≤ 158 → es' j = es j) : kTo es' n := kTo_fr h (fun j hj => hf j (by omega))
theorem kR_fr {es es' : ax_H} {F1 : Int32 → Int32 → Int32 → Int32 → Int32} (h : kR es F1) (hf : ∀ j, (j = 11 ∨ j = 12 ∨ j = 14 ∨ j = 15 ∨ (146 ≤ j ∧ j ≤ 148)) → es' j = es j) : kR es' F1 := by
  obtain ⟨p0, ⟨ps1, pg1, p1, p2⟩, ⟨ps2, pg2, p3, p4⟩, ⟨pah, p5, p6⟩, pfd, p7, p8⟩ := h
  exact ⟨(hf 146 (by omega)).trans p0, ⟨ps1, pg1, (hf 11 (by omega)).trans p1, (hf 12 (by omega)).trans p2⟩, ⟨ps2, pg2, (hf 14 (by omega)).trans p3, (hf 15 (by omega)).trans p4⟩, ⟨pah, (hf 147 (by omega)).trans p5, p6⟩, pfd, (hf 148 (by omega)).trans p7, p8⟩
theorem kSe_fr {es es' : ax_H} {n : Nat} {F1 : Int32 → Int32 → Int32 → Int32 → Int32} (h : kSe es n F1) (hf : ∀ j, (j = 11 ∨ j = 12 ∨ j = 14 ∨ j = 15 ∨ (146 ≤ j ∧ j ≤ 158)) → es' j = es j) : kSe es' n F1 := by
  obtain ⟨h1, h2, h3⟩ := h
  exact ⟨kR_fr h1 (fun j hj => hf j (by omega)), kTo_frr h2 (fun j hj => hf j (by omega)), kbA_fr h3 (fun j hj => hf j (by omega))⟩
theorem kC_frr {es es' : ax_H} {k p hc : Nat} {kd pl ht hs : Nat → Int32} {F1 F2 : Int32 → Int32 → Int32 → Int32 → Int32} (h : kC es k p hc kd pl ht hs F1 F2) (hf : ∀ j, (3 ≤ j ∧ j ≤ 10 ∨ j = 13) → es' j = es j) : kC es' k p hc kd pl ht hs F1 F2 := by
  obtain ⟨once, nm, code, a1, b1, a2, b2, c3, c4, c5, c6, c7, c8, c9, c10, c13, L⟩ := h
  exact ⟨once, nm, code, a1, b1, a2, b2, (hf 3 (by decide)).trans c3, (hf 4 (by decide)).trans c4, (hf 5 (by decide)).trans c5, (hf 6 (by decide)).trans c6, (hf 7 (by decide)).trans c7, (hf 8 (by decide)).trans c8, (hf 9 (by decide)).trans c9, (hf 10 (by decide)).trans c10, (hf 13 (by decide)).trans c13, L⟩
section XX
variable {d n sl k p hc L N un tl : Nat} {es : ax_H} {kd pl0 ht hs la lb lc : Nat → Int32} {F1 F2 : Int32 → Int32 → Int32 → Int32 → Int32} {B : zB} {Fe : zF} {U : Nat → zB} {mk : Nat → Bool} {M : Nat → zB × zF} {Q : Option Value → ax_H → Prop}
theorem xD_fr {es' : ax_H} {B' : zB} {Fe' : zF} {un' : Nat} {U' : Nat → zB} {mk' : Nat → Bool} {M' : Nat → zB × zF} (X : xD es n k p hc kd pl0 ht hs F1 F2 B Fe un U mk M L la lb lc) (hf : ∀ j, (j < 38 ∨ 145 < j) → es' j = es j) (hb : kbB es' n 38 k p B') (hf' : kfF es' n 42 Fe') (hP : kP es' n k p un' U' mk' M') : xD es' n k p hc kd pl0 ht hs F1 F2 B' Fe' un' U' mk' M' L la lb lc := by
  obtain ⟨h1, h2, h3, h4, h5, h6, h7, h8, h9, ⟨g1, g2, g3, g4⟩, h11⟩ := X
  exact ⟨(hf 0 (by decide)).trans h1, h2, h3, h4, h5, kC_frr h6 (fun j hj => hf j (by omega)), hb, kSe_fr h8 (fun j hj => hf j (by omega)), hf', ⟨(hf 16 (by decide)).trans g1, (hf 17 (by decide)).trans g2, (hf 18 (by decide)).trans g3, (hf 19 (by decide)).trans g4⟩, hP⟩
theorem xfd_of {es es' : ax_H} (hf : ∀ j, (j < 38 ∨ 145 < j) → es' j = es j) : xfd es es' := fun j hj => hf j (by omega)
theorem xp_shake (X : xD es n k p hc kd pl0 ht hs F1 F2 B Fe un U mk M L la lb lc) (c : Int32) (hQ : Q (some (.int (zq_shake k (nI B.2.1) B.2.2.1 c))) es) : ax_Mt (d + 10) 1284 [.ref 0, .int c] n sl es Q := by
  obtain ⟨x0, hal, hk, hp, hhs, hC, hb, hS, hfe, hG, hP⟩ := id X
  have c10 : ¬ (1 : Int32) = 0 := by decide
  unfold zXo at x0
  unfold zq_shake at hQ
  have b0 := hb.2.1
  have b1 := hb.2.2.1
  refine ax_Mt_go (m := ax_m_10_4) (ls := [some (.ref 0), some (.int c)]) rfl ax_b_1284_0 (Nat.le_of_ble_eq_true rfl) rfl ?_
  simp only [ax_W_cons, ax_I, ax_cmp, ax_ii, ax_ll, ax_li, ax_st1, ax_st2, ax_kl, ax_k2, ax_fit, ax_rtok, List.getElem?_cons_zero, List.getElem?_cons_succ, List.length_cons, List.length_nil, List.set_cons_zero, List.set_cons_succ, Nat.reduceAdd, Nat.reduceDiv, Nat.reduceMod, Nat.reduceMul, Nat.reduceLT, Nat.reduceLeDiff, Int32.reduceOfInt, Int64.reduceOfInt, true_and, and_true, and_self, true_or, or_true, false_implies, true_implies, not_false_eq_true, not_true_eq_false, Value.category, Nat.reduceEqDiff, Option.toList, List.cons_append, List.nil_append, List.drop_succ_cons, List.drop_zero, ax_qq_eq, ax_t_1284, x0, hal]
  refine ax_inv_of (Nat.le_of_ble_eq_true rfl) (Nat.le_of_ble_eq_true rfl) (fun _ => xb_rcv X _) (fun h => absurd h (by decide)) (Nat.le_refl _) (Nat.le_refl _) (xk_open X c ?_)
  cases h1 : kx_op k (nI B.2.1) c
  · rw [if_neg (by rw [h1]; decide)] at hQ
    simp only [ax_W_cons, ax_I, ax_cmp, ax_ii, ax_ll, ax_li, ax_st1, ax_st2, ax_kl, ax_k2, ax_fit, ax_rtok, List.getElem?_cons_zero, List.getElem?_cons_succ, List.length_cons, List.length_nil, List.set_cons_zero, List.set_cons_succ, Nat.reduceAdd, Nat.reduceDiv, Nat.reduceMod, Nat.reduceMul, Nat.reduceLT, Nat.reduceLeDiff, Int32.reduceOfInt, Int64.reduceOfInt, true_and, and_true, and_self, true_or, or_true, false_implies, true_implies, not_false_eq_true, not_true_eq_false, Value.category, Nat.reduceEqDiff, Option.toList, List.cons_append, List.nil_append, List.drop_succ_cons, List.drop_zero, ax_qq_eq, ax_t_1284, ax_j_1284_23, ax_n_1284_23, ax_j_1284_24, ax_n_1284_24, kx_bf]
    exact hQ
  · rw [if_pos h1] at hQ
    obtain ⟨c', hc', rfl, hB'⟩ := kx_op_nI hk.2 h1
    have e2 : vp_in (nI c') 12 := nI_in (by omega) (by decide)
    simp only [ax_W_cons, ax_I, ax_cmp, ax_ii, ax_ll, ax_li, ax_st1, ax_st2, ax_kl, ax_k2, ax_fit, ax_rtok, List.getElem?_cons_zero, List.getElem?_cons_succ, List.length_cons, List.length_nil, List.set_cons_zero, List.set_cons_succ, Nat.reduceAdd, Nat.reduceDiv, Nat.reduceMod, Nat.reduceMul, Nat.reduceLT, Nat.reduceLeDiff, Int32.reduceOfInt, Int64.reduceOfInt, true_and, and_true, and_self, true_or, or_true, false_implies, true_implies, not_false_eq_true, not_true_eq_false, Value.category, Nat.reduceEqDiff, Option.toList, List.cons_append, List.nil_append, List.drop_succ_cons, List.drop_zero, ax_qq_eq, ax_t_1284, ax_j_1284_24, ax_n_1284_24, kx_bt, c10, x0, b0, b1, kb_o, kb_a, hal, e2]
    exact hQ
theorem xp_courtier (X : xD es n k p hc kd pl0 ht hs F1 F2 B Fe un U mk M L la lb lc) (c w : Int32) (hQ : Q (some (.int (zq_court p kd ht B.2.2.2.1 B.2.2.2.2 c w))) es) : ax_Mt (d + 10) 1285 [.ref 0, .int c, .int w] n sl es Q := by
  obtain ⟨x0, hal, hk, hp, hhs, hC, hb, hS, hfe, hG, hP⟩ := id X
  obtain ⟨once, nm, code, a1, b1, a2, b2, c3, c4, c5, c6, c7, c8, c9, cc10, c13, -⟩ := id hC
  have c10 : ¬ (1 : Int32) = 0 := by decide
  unfold zXo at x0
  unfold zq_court at hQ
  obtain ⟨-, q0, q1, q2, q3, -⟩ := id hb
  refine ax_Mt_go (m := ax_m_10_5) (ls := [some (.ref 0), some (.int c), some (.int w)]) rfl ax_b_1285_0 (Nat.le_of_ble_eq_true rfl) rfl ?_
  simp only [ax_W_cons, ax_I, ax_cmp, ax_ii, ax_ll, ax_li, ax_st1, ax_st2, ax_kl, ax_k2, ax_fit, ax_rtok, List.getElem?_cons_zero, List.getElem?_cons_succ, List.length_cons, List.length_nil, List.set_cons_zero, List.set_cons_succ, Nat.reduceAdd, Nat.reduceDiv, Nat.reduceMod, Nat.reduceMul, Nat.reduceLT, Nat.reduceLeDiff, Int32.reduceOfInt, Int64.reduceOfInt, true_and, and_true, and_self, true_or, or_true, false_implies, true_implies, not_false_eq_true, not_true_eq_false, Value.category, Nat.reduceEqDiff, Option.toList, List.cons_append, List.nil_append, List.drop_succ_cons, List.drop_zero, ax_qq_eq, ax_t_1285, x0, hal]
  refine ax_inv_of (Nat.le_of_ble_eq_true rfl) (Nat.le_of_ble_eq_true rfl) (fun _ => xb_rcv X _) (fun h => absurd h (by decide)) (Nat.le_refl _) (Nat.le_refl _) (xk_court X c ?_)
  cases h1 : kx_cell p c
  · rw [if_neg (fun z => by rw [h1] at z; exact absurd z.1 (by decide))] at hQ
    simp only [ax_W_cons, ax_I, ax_cmp, ax_ii, ax_ll, ax_li, ax_st1, ax_st2, ax_kl, ax_k2, ax_fit, ax_rtok, List.getElem?_cons_zero, List.getElem?_cons_succ, List.length_cons, List.length_nil, List.set_cons_zero, List.set_cons_succ, Nat.reduceAdd, Nat.reduceDiv, Nat.reduceMod, Nat.reduceMul, Nat.reduceLT, Nat.reduceLeDiff, Int32.reduceOfInt, Int64.reduceOfInt, true_and, and_true, and_self, true_or, or_true, false_implies, true_implies, not_false_eq_true, not_true_eq_false, Value.category, Nat.reduceEqDiff, Option.toList, List.cons_append, List.nil_append, List.drop_succ_cons, List.drop_zero, ax_qq_eq, ax_t_1285, kx_bf]
    exact hQ
  · obtain ⟨c', hc', rfl⟩ := kx_cell_in (by omega) h1
    have e2 : vp_in (nI c') 6 := nI_in (by omega) (by decide)
    simp only [ax_W_cons, ax_I, ax_cmp, ax_ii, ax_ll, ax_li, ax_st1, ax_st2, ax_kl, ax_k2, ax_fit, ax_rtok, List.getElem?_cons_zero, List.getElem?_cons_succ, List.length_cons, List.length_nil, List.set_cons_zero, List.set_cons_succ, Nat.reduceAdd, Nat.reduceDiv, Nat.reduceMod, Nat.reduceMul, Nat.reduceLT, Nat.reduceLeDiff, Int32.reduceOfInt, Int64.reduceOfInt, true_and, and_true, and_self, true_or, or_true, false_implies, true_implies, not_false_eq_true, not_true_eq_false, Value.category, Nat.reduceEqDiff, Option.toList, List.cons_append, List.nil_append, List.drop_succ_cons, List.drop_zero, ax_qq_eq, ax_t_1285, ax_j_1285_14, ax_n_1285_14, kx_bt, c10]
    by_cases h : w.toInt < 0 ∨ 3 < w.toInt
    · have hno : ¬ kx_in w 0 3 = true := fun z => by
        obtain ⟨w', -, hw', rfl⟩ := kx_in_nI (a := 0) (b := 3) (by decide) (by decide) z
        rw [nI_toInt (by omega)] at h
        omega
      rw [if_neg (fun z => hno z.2)] at hQ
      refine ⟨fun _ => ?_, fun h2 => absurd h h2⟩
      simp only [ax_W_cons, ax_I, ax_cmp, ax_ii, ax_ll, ax_li, ax_st1, ax_st2, ax_kl, ax_k2, ax_fit, ax_rtok, List.getElem?_cons_zero, List.getElem?_cons_succ, List.length_cons, List.length_nil, List.set_cons_zero, List.set_cons_succ, Nat.reduceAdd, Nat.reduceDiv, Nat.reduceMod, Nat.reduceMul, Nat.reduceLT, Nat.reduceLeDiff, Int32.reduceOfInt, Int64.reduceOfInt, true_and, and_true, and_self, true_or, or_true, false_implies, true_implies, not_false_eq_true, not_true_eq_false, Value.category, Nat.reduceEqDiff, Option.toList, List.cons_append, List.nil_append, List.drop_succ_cons, List.drop_zero, ax_qq_eq, ax_t_1285, ax_j_1285_87, ax_n_1285_87]
      exact hQ
    · obtain ⟨w', hw', rfl⟩ : ∃ w', w' ≤ 3 ∧ w = nI w' := ⟨w.toInt.toNat, by omega, by
        apply Int32.toInt_inj.mp
        rw [nI_toInt (by omega)]
        omega⟩
      have h2 : kx_in (nI w') 0 3 = true := by
        unfold kx_in
        rw [decide_eq_true (show (0 : Int32) ≤ nI w' from nI_pos' (by omega)), decide_eq_true (show nI w' ≤ 3 from nI_le (b := 3) hw' (by omega))]
        rfl
      rw [if_pos ⟨h1, h2⟩] at hQ
      have h4 : w' = 0 ∨ w' = 1 ∨ w' = 2 ∨ w' = 3 := by omega
      rcases h4 with rfl | rfl | rfl | rfl
      · rw [if_pos (show nI 0 = 0 from rfl)] at hQ
        refine ⟨fun h => absurd h (by decide), fun _ => ?_⟩
        show ax_J ax_W _ _ _ _ 44 _ _ _ _ _ _
        simp only [ax_W_cons, ax_I, ax_cmp, ax_ii, ax_ll, ax_li, ax_st1, ax_st2, ax_kl, ax_k2, ax_fit, ax_rtok, List.getElem?_cons_zero, List.getElem?_cons_succ, List.length_cons, List.length_nil, List.set_cons_zero, List.set_cons_succ, Nat.reduceAdd, Nat.reduceDiv, Nat.reduceMod, Nat.reduceMul, Nat.reduceLT, Nat.reduceLeDiff, Int32.reduceOfInt, Int64.reduceOfInt, true_and, and_true, and_self, true_or, or_true, false_implies, true_implies, not_false_eq_true, not_true_eq_false, Value.category, Nat.reduceEqDiff, Option.toList, List.cons_append, List.nil_append, List.drop_succ_cons, List.drop_zero, ax_qq_eq, ax_t_1285, ax_j_1285_44, ax_n_1285_44, x0, c3, c4, hal, e2]
        exact hQ
      · rw [if_neg (show ¬ nI 1 = 0 by decide), if_pos (show nI 1 = 1 from rfl)] at hQ
        refine ⟨fun h => absurd h (by decide), fun _ => ?_⟩
        show ax_J ax_W _ _ _ _ 57 _ _ _ _ _ _
        simp only [ax_W_cons, ax_I, ax_cmp, ax_ii, ax_ll, ax_li, ax_st1, ax_st2, ax_kl, ax_k2, ax_fit, ax_rtok, List.getElem?_cons_zero, List.getElem?_cons_succ, List.length_cons, List.length_nil, List.set_cons_zero, List.set_cons_succ, Nat.reduceAdd, Nat.reduceDiv, Nat.reduceMod, Nat.reduceMul, Nat.reduceLT, Nat.reduceLeDiff, Int32.reduceOfInt, Int64.reduceOfInt, true_and, and_true, and_self, true_or, or_true, false_implies, true_implies, not_false_eq_true, not_true_eq_false, Value.category, Nat.reduceEqDiff, Option.toList, List.cons_append, List.nil_append, List.drop_succ_cons, List.drop_zero, ax_qq_eq, ax_t_1285, ax_j_1285_57, ax_n_1285_57, x0, q0, q2, kb_o, kb_a, hal, e2]
        exact hQ
      · rw [if_neg (show ¬ nI 2 = 0 by decide), if_neg (show ¬ nI 2 = 1 by decide), if_pos (show nI 2 = 2 from rfl)] at hQ
        refine ⟨fun h => absurd h (by decide), fun _ => ?_⟩
        show ax_J ax_W _ _ _ _ 67 _ _ _ _ _ _
        simp only [ax_W_cons, ax_I, ax_cmp, ax_ii, ax_ll, ax_li, ax_st1, ax_st2, ax_kl, ax_k2, ax_fit, ax_rtok, List.getElem?_cons_zero, List.getElem?_cons_succ, List.length_cons, List.length_nil, List.set_cons_zero, List.set_cons_succ, Nat.reduceAdd, Nat.reduceDiv, Nat.reduceMod, Nat.reduceMul, Nat.reduceLT, Nat.reduceLeDiff, Int32.reduceOfInt, Int64.reduceOfInt, true_and, and_true, and_self, true_or, or_true, false_implies, true_implies, not_false_eq_true, not_true_eq_false, Value.category, Nat.reduceEqDiff, Option.toList, List.cons_append, List.nil_append, List.drop_succ_cons, List.drop_zero, ax_qq_eq, ax_t_1285, ax_j_1285_67, ax_n_1285_67, x0, c3, c6, hal, e2]
        exact hQ
      · rw [if_neg (show ¬ nI 3 = 0 by decide), if_neg (show ¬ nI 3 = 1 by decide), if_neg (show ¬ nI 3 = 2 by decide)] at hQ
        refine ⟨fun h => absurd h (by decide), fun _ => ?_⟩
        show ax_J ax_W _ _ _ _ 77 _ _ _ _ _ _
        simp only [ax_W_cons, ax_I, ax_cmp, ax_ii, ax_ll, ax_li, ax_st1, ax_st2, ax_kl, ax_k2, ax_fit, ax_rtok, List.getElem?_cons_zero, List.getElem?_cons_succ, List.length_cons, List.length_nil, List.set_cons_zero, List.set_cons_succ, Nat.reduceAdd, Nat.reduceDiv, Nat.reduceMod, Nat.reduceMul, Nat.reduceLT, Nat.reduceLeDiff, Int32.reduceOfInt, Int64.reduceOfInt, true_and, and_true, and_self, true_or, or_true, false_implies, true_implies, not_false_eq_true, not_true_eq_false, Value.category, Nat.reduceEqDiff, Option.toList, List.cons_append, List.nil_append, List.drop_succ_cons, List.drop_zero, ax_qq_eq, ax_t_1285, ax_j_1285_77, ax_n_1285_77, x0, q0, q3, kb_o, kb_a, hal, e2]
        exact hQ
theorem xk_act_no (X : xD es n k p hc kd pl0 ht hs F1 F2 B Fe un U mk M L la lb lc) (act a b : Int32) (h : kx_can k p (nI B.2.1) act a b = false) (hQ : Q (some (.int 0)) es) : ax_Mt (d + 5) 1321 [.ref 0, .int act, .int a, .int b] n sl es Q := by
  obtain ⟨x0, hal, hk, hp, hhs, hC, hb, hS, hfe, hG, hP⟩ := id X
  unfold zXo at x0
  refine ax_Mt_go (m := ax_m_10_41) (ls := [some (.ref 0), some (.int act), some (.int a), some (.int b)]) rfl ax_b_1321_0 (Nat.le_of_ble_eq_true rfl) rfl ?_
  simp only [ax_W_cons, ax_I, ax_cmp, ax_ii, ax_ll, ax_li, ax_st1, ax_st2, ax_kl, ax_k2, ax_fit, ax_rtok, List.getElem?_cons_zero, List.getElem?_cons_succ, List.length_cons, List.length_nil, List.set_cons_zero, List.set_cons_succ, Nat.reduceAdd, Nat.reduceDiv, Nat.reduceMod, Nat.reduceMul, Nat.reduceLT, Nat.reduceLeDiff, Int32.reduceOfInt, Int64.reduceOfInt, true_and, and_true, and_self, true_or, or_true, false_implies, true_implies, not_false_eq_true, not_true_eq_false, Value.category, Nat.reduceEqDiff, Option.toList, List.cons_append, List.nil_append, List.drop_succ_cons, List.drop_zero, ax_qq_eq, ax_t_1321, x0, hal]
  refine ax_inv_of (Nat.le_of_ble_eq_true rfl) (Nat.le_of_ble_eq_true rfl) (fun _ => xb_rcv X _) (fun h => absurd h (by decide)) (Nat.le_refl _) (Nat.le_refl _) (ax_Mt_mono (ck_canBe (by omega) hb act a b) ?_)
  rintro r es' ⟨rfl, rfl⟩
  rw [h]
  simp only [ax_W_cons, ax_I, ax_cmp, ax_ii, ax_ll, ax_li, ax_st1, ax_st2, ax_kl, ax_k2, ax_fit, ax_rtok, List.getElem?_cons_zero, List.getElem?_cons_succ, List.length_cons, List.length_nil, List.set_cons_zero, List.set_cons_succ, Nat.reduceAdd, Nat.reduceDiv, Nat.reduceMod, Nat.reduceMul, Nat.reduceLT, Nat.reduceLeDiff, Int32.reduceOfInt, Int64.reduceOfInt, true_and, and_true, and_self, true_or, or_true, false_implies, true_implies, not_false_eq_true, not_true_eq_false, Value.category, Nat.reduceEqDiff, Option.toList, List.cons_append, List.nil_append, List.drop_succ_cons, List.drop_zero, ax_qq_eq, ax_t_1321, kx_bf]
  exact hQ
theorem xk_act_ok (X : xD es n k p hc kd pl0 ht hs F1 F2 B Fe un U mk M L la lb lc) (act a b : Int32) (h : kx_can k p (nI B.2.1) act a b = true) {C' : Nat} {sh' pl' : Nat → Int32} (hpf : kx_perf k act a b (nI B.2.1) B.2.2.1 B.2.2.2.1 = (nI C', sh', pl')) (hQ : ∀ es', xD es' n k p hc kd pl0 ht hs F1 F2 (B.1, C', sh', pl', B.2.2.2.2) Fe (zun un) (zpush U un B) mk M L la lb lc → xfd es es' → Q (some (.int 1)) es') : ax_Mt (d + 5) 1321 [.ref 0, .int act, .int a, .int b] n sl es Q := by
  obtain ⟨x0, hal, hk, hp, hhs, hC, hb, hS, hfe, hG, hP⟩ := id X
  unfold zXo at x0
  have c10 : ¬ (1 : Int32) = 0 := by decide
  refine ax_Mt_go (m := ax_m_10_41) (ls := [some (.ref 0), some (.int act), some (.int a), some (.int b)]) rfl ax_b_1321_0 (Nat.le_of_ble_eq_true rfl) rfl ?_
  simp only [ax_W_cons, ax_I, ax_cmp, ax_ii, ax_ll, ax_li, ax_st1, ax_st2, ax_kl, ax_k2, ax_fit, ax_rtok, List.getElem?_cons_zero, List.getElem?_cons_succ, List.length_cons, List.length_nil, List.set_cons_zero, List.set_cons_succ, Nat.reduceAdd, Nat.reduceDiv, Nat.reduceMod, Nat.reduceMul, Nat.reduceLT, Nat.reduceLeDiff, Int32.reduceOfInt, Int64.reduceOfInt, true_and, and_true, and_self, true_or, or_true, false_implies, true_implies, not_false_eq_true, not_true_eq_false, Value.category, Nat.reduceEqDiff, Option.toList, List.cons_append, List.nil_append, List.drop_succ_cons, List.drop_zero, ax_qq_eq, ax_t_1321, x0, hal]
  refine ax_inv_of (Nat.le_of_ble_eq_true rfl) (Nat.le_of_ble_eq_true rfl) (fun _ => xb_rcv X _) (fun h => absurd h (by decide)) (Nat.le_refl _) (Nat.le_refl _) (ax_Mt_mono (ck_canBe (by omega) hb act a b) ?_)
  rintro r es' ⟨rfl, rfl⟩
  rw [h]
  simp only [ax_W_cons, ax_I, ax_cmp, ax_ii, ax_ll, ax_li, ax_st1, ax_st2, ax_kl, ax_k2, ax_fit, ax_rtok, List.getElem?_cons_zero, List.getElem?_cons_succ, List.length_cons, List.length_nil, List.set_cons_zero, List.set_cons_succ, Nat.reduceAdd, Nat.reduceDiv, Nat.reduceMod, Nat.reduceMul, Nat.reduceLT, Nat.reduceLeDiff, Int32.reduceOfInt, Int64.reduceOfInt, true_and, and_true, and_self, true_or, or_true, false_implies, true_implies, not_false_eq_true, not_true_eq_false, Value.category, Nat.reduceEqDiff, Option.toList, List.cons_append, List.nil_append, List.drop_succ_cons, List.drop_zero, ax_qq_eq, ax_t_1321, ax_j_1321_15, ax_n_1321_15, kx_bt, c10, x0, hal]
  refine ax_inv_of (Nat.le_of_ble_eq_true rfl) (Nat.le_of_ble_eq_true rfl) (fun _ => kP_rcv hal hP _) (fun h => absurd h (by decide)) (Nat.le_refl _) (Nat.le_refl _) (ck_keep hal hP hb ?_)
  intro es1 P1 f1
  have y0 : es1 0 = _ := (f1 0 (by omega)).trans x0
  have hb1 : kbB es1 n 38 k p B := kb_fr hb (fun j hj => f1 j (by omega))
  simp only [ax_W_cons, ax_I, ax_cmp, ax_ii, ax_ll, ax_li, ax_st1, ax_st2, ax_kl, ax_k2, ax_fit, ax_rtok, List.getElem?_cons_zero, List.getElem?_cons_succ, List.length_cons, List.length_nil, List.set_cons_zero, List.set_cons_succ, Nat.reduceAdd, Nat.reduceDiv, Nat.reduceMod, Nat.reduceMul, Nat.reduceLT, Nat.reduceLeDiff, Int32.reduceOfInt, Int64.reduceOfInt, true_and, and_true, and_self, true_or, or_true, false_implies, true_implies, not_false_eq_true, not_true_eq_false, Value.category, Nat.reduceEqDiff, Option.toList, List.cons_append, List.nil_append, List.drop_succ_cons, List.drop_zero, ax_qq_eq, ax_t_1321, y0, hal]
  refine ax_inv_of (Nat.le_of_ble_eq_true rfl) (Nat.le_of_ble_eq_true rfl) (fun _ => ax_rcv_ok (by omega) hb1.2.1) (fun h => absurd h (by decide)) (Nat.le_refl _) (Nat.le_refl _) (ax_Mt_mono (ck_perform (by omega) hk.2 (by omega) hp hb1 act a b h) ?_)
  rintro r es2 ⟨rfl, rfl⟩
  have hz := kz_perf hk.2 hp hb.2.2.2.2.2.1 hb.2.2.2.2.2.2.1 h
  rw [hpf] at hz ⊢
  simp only [ax_W_cons, ax_I, ax_cmp, ax_ii, ax_ll, ax_li, ax_st1, ax_st2, ax_kl, ax_k2, ax_fit, ax_rtok, List.getElem?_cons_zero, List.getElem?_cons_succ, List.length_cons, List.length_nil, List.set_cons_zero, List.set_cons_succ, Nat.reduceAdd, Nat.reduceDiv, Nat.reduceMod, Nat.reduceMul, Nat.reduceLT, Nat.reduceLeDiff, Int32.reduceOfInt, Int64.reduceOfInt, true_and, and_true, and_self, true_or, or_true, false_implies, true_implies, not_false_eq_true, not_true_eq_false, Value.category, Nat.reduceEqDiff, Option.toList, List.cons_append, List.nil_append, List.drop_succ_cons, List.drop_zero, ax_qq_eq, ax_t_1321]
  have fr : ∀ j, (j < 38 ∨ 41 < j) → kw es1 38 k p (nI B.1) (nI C') sh' pl' B.2.2.2.2 j = es1 j := fun j hj => kw_ne _ _ _ _ _ _ _ _ (by omega)
  have fr2 : ∀ j, (j < 38 ∨ 145 < j) → kw es1 38 k p (nI B.1) (nI C') sh' pl' B.2.2.2.2 j = es' j := fun j hj => (fr j (by omega)).trans (f1 j (by omega))
  exact hQ _ (xD_fr X fr2 (kw_kb (by omega) hz.1 hz.2 hb.2.2.2.2.2.2.2) (kfF_fr hfe (fun j hj => (fr j (by omega)).trans (f1 j (by omega)))) (kP_fr P1 (fun j hj => fr j (by omega)))) (xfd_of fr2)
theorem xp_touch_no (X : xD es n k p hc kd pl0 ht hs F1 F2 B Fe un U mk M L la lb lc) (c f : Int32) (h : ¬ (kx_op k (nI B.2.1) c = true ∧ kx_in f 1 20 = true)) (hQ : Q (some (.int (-1))) es) : ax_Mt (d + 10) 1286 [.ref 0, .int c, .int f] n sl es Q := by
  have c10 : ¬ (1 : Int32) = 0 := by decide
  refine ax_Mt_go (m := ax_m_10_6) (ls := [some (.ref 0), some (.int c), some (.int f)]) rfl ax_b_1286_0 (Nat.le_of_ble_eq_true rfl) rfl ?_
  simp only [ax_W_cons, ax_I, ax_cmp, ax_ii, ax_ll, ax_li, ax_st1, ax_st2, ax_kl, ax_k2, ax_fit, ax_rtok, List.getElem?_cons_zero, List.getElem?_cons_succ, List.length_cons, List.length_nil, List.set_cons_zero, List.set_cons_succ, Nat.reduceAdd, Nat.reduceDiv, Nat.reduceMod, Nat.reduceMul, Nat.reduceLT, Nat.reduceLeDiff, Int32.reduceOfInt, Int64.reduceOfInt, true_and, and_true, and_self, true_or, or_true, false_implies, true_implies, not_false_eq_true, not_true_eq_false, Value.category, Nat.reduceEqDiff, Option.toList, List.cons_append, List.nil_append, List.drop_succ_cons, List.drop_zero, ax_qq_eq, ax_t_1286]
  refine ax_inv_of (Nat.le_of_ble_eq_true rfl) (Nat.le_of_ble_eq_true rfl) (fun _ => absurd ‹_› (by decide)) (fun h => absurd h (by decide)) (Nat.le_refl _) (Nat.le_refl _) (xk_within _ _ _ ?_)
  cases h2 : kx_in f 1 20
  · simp only [ax_W_cons, ax_I, ax_cmp, ax_ii, ax_ll, ax_li, ax_st1, ax_st2, ax_kl, ax_k2, ax_fit, ax_rtok, List.getElem?_cons_zero, List.getElem?_cons_succ, List.length_cons, List.length_nil, List.set_cons_zero, List.set_cons_succ, Nat.reduceAdd, Nat.reduceDiv, Nat.reduceMod, Nat.reduceMul, Nat.reduceLT, Nat.reduceLeDiff, Int32.reduceOfInt, Int64.reduceOfInt, true_and, and_true, and_self, true_or, or_true, false_implies, true_implies, not_false_eq_true, not_true_eq_false, Value.category, Nat.reduceEqDiff, Option.toList, List.cons_append, List.nil_append, List.drop_succ_cons, List.drop_zero, ax_qq_eq, ax_t_1286, ax_j_1286_21, ax_n_1286_21, kx_bf]
    exact hQ
  · have h1 : kx_op k (nI B.2.1) c = false := by
      cases e : kx_op k (nI B.2.1) c
      · rfl
      · exact absurd ⟨e, h2⟩ h
    simp only [ax_W_cons, ax_I, ax_cmp, ax_ii, ax_ll, ax_li, ax_st1, ax_st2, ax_kl, ax_k2, ax_fit, ax_rtok, List.getElem?_cons_zero, List.getElem?_cons_succ, List.length_cons, List.length_nil, List.set_cons_zero, List.set_cons_succ, Nat.reduceAdd, Nat.reduceDiv, Nat.reduceMod, Nat.reduceMul, Nat.reduceLT, Nat.reduceLeDiff, Int32.reduceOfInt, Int64.reduceOfInt, true_and, and_true, and_self, true_or, or_true, false_implies, true_implies, not_false_eq_true, not_true_eq_false, Value.category, Nat.reduceEqDiff, Option.toList, List.cons_append, List.nil_append, List.drop_succ_cons, List.drop_zero, ax_qq_eq, ax_t_1286, kx_bt, c10]
    refine ax_inv_of (Nat.le_of_ble_eq_true rfl) (Nat.le_of_ble_eq_true rfl) (fun _ => x0_rcv X _) (fun h => absurd h (by decide)) (Nat.le_refl _) (Nat.le_refl _) (xk_act_no X 7 c f (by rw [kx_can7]; exact h1) ?_)
    simp only [ax_W_cons, ax_I, ax_cmp, ax_ii, ax_ll, ax_li, ax_st1, ax_st2, ax_kl, ax_k2, ax_fit, ax_rtok, List.getElem?_cons_zero, List.getElem?_cons_succ, List.length_cons, List.length_nil, List.set_cons_zero, List.set_cons_succ, Nat.reduceAdd, Nat.reduceDiv, Nat.reduceMod, Nat.reduceMul, Nat.reduceLT, Nat.reduceLeDiff, Int32.reduceOfInt, Int64.reduceOfInt, true_and, and_true, and_self, true_or, or_true, false_implies, true_implies, not_false_eq_true, not_true_eq_false, Value.category, Nat.reduceEqDiff, Option.toList, List.cons_append, List.nil_append, List.drop_succ_cons, List.drop_zero, ax_qq_eq, ax_t_1286, ax_j_1286_21, ax_n_1286_21]
    exact hQ
theorem xp_touch_ok (X : xD es n k p hc kd pl0 ht hs F1 F2 B Fe un U mk M L la lb lc) {c f : Nat} (hc2 : c < k) (hBit : B.2.1.testBit c = false) (hf1 : 1 ≤ f) (hf : f ≤ 20) (hQ : ∀ es', xD es' n k p hc kd pl0 ht hs F1 F2 (B.1, B.2.1, kx_push B.2.2.1 (nI c) (nI f), B.2.2.2.1, B.2.2.2.2) Fe (zun un) (zpush U un B) mk M L la lb lc → xfd es es' → Q (some (.int (kx_push B.2.2.1 (nI c) (nI f) c))) es') : ax_Mt (d + 10) 1286 [.ref 0, .int (nI c), .int (nI f)] n sl es Q := by
  have c10 : ¬ (1 : Int32) = 0 := by decide
  have hk := X.2.2.1
  have hal := X.2.1
  have h1 : kx_op k (nI B.2.1) (nI c) = true := by
    rw [mx_op hk.2 hc2, kc_ck (by omega), hBit]
    rfl
  have h2 : kx_in (nI f) 1 20 = true := by
    unfold kx_in
    rw [decide_eq_true (show (1 : Int32) ≤ nI f from nI_le (a := 1) hf1 (by omega)), decide_eq_true (show nI f ≤ 20 from nI_le (b := 20) hf (by omega))]
    rfl
  have e2 : vp_in (nI c) 12 := nI_in (by omega) (by decide)
  have e3 : (nI c).toNatClampNeg = c := nI_clamp (by omega)
  refine ax_Mt_go (m := ax_m_10_6) (ls := [some (.ref 0), some (.int (nI c)), some (.int (nI f))]) rfl ax_b_1286_0 (Nat.le_of_ble_eq_true rfl) rfl ?_
  simp only [ax_W_cons, ax_I, ax_cmp, ax_ii, ax_ll, ax_li, ax_st1, ax_st2, ax_kl, ax_k2, ax_fit, ax_rtok, List.getElem?_cons_zero, List.getElem?_cons_succ, List.length_cons, List.length_nil, List.set_cons_zero, List.set_cons_succ, Nat.reduceAdd, Nat.reduceDiv, Nat.reduceMod, Nat.reduceMul, Nat.reduceLT, Nat.reduceLeDiff, Int32.reduceOfInt, Int64.reduceOfInt, true_and, and_true, and_self, true_or, or_true, false_implies, true_implies, not_false_eq_true, not_true_eq_false, Value.category, Nat.reduceEqDiff, Option.toList, List.cons_append, List.nil_append, List.drop_succ_cons, List.drop_zero, ax_qq_eq, ax_t_1286]
  refine ax_inv_of (Nat.le_of_ble_eq_true rfl) (Nat.le_of_ble_eq_true rfl) (fun _ => absurd ‹_› (by decide)) (fun h => absurd h (by decide)) (Nat.le_refl _) (Nat.le_refl _) (xk_within _ _ _ ?_)
  rw [h2]
  simp only [ax_W_cons, ax_I, ax_cmp, ax_ii, ax_ll, ax_li, ax_st1, ax_st2, ax_kl, ax_k2, ax_fit, ax_rtok, List.getElem?_cons_zero, List.getElem?_cons_succ, List.length_cons, List.length_nil, List.set_cons_zero, List.set_cons_succ, Nat.reduceAdd, Nat.reduceDiv, Nat.reduceMod, Nat.reduceMul, Nat.reduceLT, Nat.reduceLeDiff, Int32.reduceOfInt, Int64.reduceOfInt, true_and, and_true, and_self, true_or, or_true, false_implies, true_implies, not_false_eq_true, not_true_eq_false, Value.category, Nat.reduceEqDiff, Option.toList, List.cons_append, List.nil_append, List.drop_succ_cons, List.drop_zero, ax_qq_eq, ax_t_1286, kx_bt, c10]
  refine ax_inv_of (Nat.le_of_ble_eq_true rfl) (Nat.le_of_ble_eq_true rfl) (fun _ => x0_rcv X _) (fun h => absurd h (by decide)) (Nat.le_refl _) (Nat.le_refl _) (xk_act_ok X 7 (nI c) (nI f) (by rw [kx_can7]; exact h1) (C' := B.2.1) (sh' := kx_push B.2.2.1 (nI c) (nI f)) (pl' := B.2.2.2.1) (by unfold kx_perf; rw [if_pos rfl]) ?_)
  intro es1 X1 f1
  have x0 := X1.1
  unfold zXo at x0
  obtain ⟨-, q0, q1, -⟩ := id X1.2.2.2.2.2.2.1
  simp only [ax_W_cons, ax_I, ax_cmp, ax_ii, ax_ll, ax_li, ax_st1, ax_st2, ax_kl, ax_k2, ax_fit, ax_rtok, List.getElem?_cons_zero, List.getElem?_cons_succ, List.length_cons, List.length_nil, List.set_cons_zero, List.set_cons_succ, Nat.reduceAdd, Nat.reduceDiv, Nat.reduceMod, Nat.reduceMul, Nat.reduceLT, Nat.reduceLeDiff, Int32.reduceOfInt, Int64.reduceOfInt, true_and, and_true, and_self, true_or, or_true, false_implies, true_implies, not_false_eq_true, not_true_eq_false, Value.category, Nat.reduceEqDiff, Option.toList, List.cons_append, List.nil_append, List.drop_succ_cons, List.drop_zero, ax_qq_eq, ax_t_1286, ax_j_1286_23, ax_n_1286_23, x0, q0, q1, kb_o, kb_a, hal, e2, e3, c10]
  exact hQ es1 X1 f1
theorem xp_breathe_no (X : xD es n k p hc kd pl0 ht hs F1 F2 B Fe un U mk M L la lb lc) (c : Int32) (h : kx_cell k c = false) (hQ : Q (some (.int (-1))) es) : ax_Mt (d + 10) 1287 [.ref 0, .int c] n sl es Q := by
  refine ax_Mt_go (m := ax_m_10_7) (ls := [some (.ref 0), some (.int c)]) rfl ax_b_1287_0 (Nat.le_of_ble_eq_true rfl) rfl ?_
  simp only [ax_W_cons, ax_I, ax_cmp, ax_ii, ax_ll, ax_li, ax_st1, ax_st2, ax_kl, ax_k2, ax_fit, ax_rtok, List.getElem?_cons_zero, List.getElem?_cons_succ, List.length_cons, List.length_nil, List.set_cons_zero, List.set_cons_succ, Nat.reduceAdd, Nat.reduceDiv, Nat.reduceMod, Nat.reduceMul, Nat.reduceLT, Nat.reduceLeDiff, Int32.reduceOfInt, Int64.reduceOfInt, true_and, and_true, and_self, true_or, or_true, false_implies, true_implies, not_false_eq_true, not_true_eq_false, Value.category, Nat.reduceEqDiff, Option.toList, List.cons_append, List.nil_append, List.drop_succ_cons, List.drop_zero, ax_qq_eq, ax_t_1287]
  refine ax_inv_of (Nat.le_of_ble_eq_true rfl) (Nat.le_of_ble_eq_true rfl) (fun _ => x0_rcv X _) (fun h => absurd h (by decide)) (Nat.le_refl _) (Nat.le_refl _) (xk_act_no X 8 c 0 (by rw [kx_can8]; exact h) ?_)
  simp only [ax_W_cons, ax_I, ax_cmp, ax_ii, ax_ll, ax_li, ax_st1, ax_st2, ax_kl, ax_k2, ax_fit, ax_rtok, List.getElem?_cons_zero, List.getElem?_cons_succ, List.length_cons, List.length_nil, List.set_cons_zero, List.set_cons_succ, Nat.reduceAdd, Nat.reduceDiv, Nat.reduceMod, Nat.reduceMul, Nat.reduceLT, Nat.reduceLeDiff, Int32.reduceOfInt, Int64.reduceOfInt, true_and, and_true, and_self, true_or, or_true, false_implies, true_implies, not_false_eq_true, not_true_eq_false, Value.category, Nat.reduceEqDiff, Option.toList, List.cons_append, List.nil_append, List.drop_succ_cons, List.drop_zero, ax_qq_eq, ax_t_1287, ax_j_1287_23, ax_n_1287_23, ax_j_1287_24, ax_n_1287_24]
  exact hQ
theorem xp_breathe_ok (X : xD es n k p hc kd pl0 ht hs F1 F2 B Fe un U mk M L la lb lc) {c : Nat} (hc2 : c < k) (hQ : ∀ es', xD es' n k p hc kd pl0 ht hs F1 F2 (B.1, B.2.1, kx_soothe B.2.2.1 (nI c), B.2.2.2.1, B.2.2.2.2) Fe (zun un) (zpush U un B) mk M L la lb lc → xfd es es' → Q (some (.int (kx_soothe B.2.2.1 (nI c) c))) es') : ax_Mt (d + 10) 1287 [.ref 0, .int (nI c)] n sl es Q := by
  have c10 : ¬ (1 : Int32) = 0 := by decide
  have hk := X.2.2.1
  have hal := X.2.1
  have e2 : vp_in (nI c) 12 := nI_in (by omega) (by decide)
  have e3 : (nI c).toNatClampNeg = c := nI_clamp (by omega)
  refine ax_Mt_go (m := ax_m_10_7) (ls := [some (.ref 0), some (.int (nI c))]) rfl ax_b_1287_0 (Nat.le_of_ble_eq_true rfl) rfl ?_
  simp only [ax_W_cons, ax_I, ax_cmp, ax_ii, ax_ll, ax_li, ax_st1, ax_st2, ax_kl, ax_k2, ax_fit, ax_rtok, List.getElem?_cons_zero, List.getElem?_cons_succ, List.length_cons, List.length_nil, List.set_cons_zero, List.set_cons_succ, Nat.reduceAdd, Nat.reduceDiv, Nat.reduceMod, Nat.reduceMul, Nat.reduceLT, Nat.reduceLeDiff, Int32.reduceOfInt, Int64.reduceOfInt, true_and, and_true, and_self, true_or, or_true, false_implies, true_implies, not_false_eq_true, not_true_eq_false, Value.category, Nat.reduceEqDiff, Option.toList, List.cons_append, List.nil_append, List.drop_succ_cons, List.drop_zero, ax_qq_eq, ax_t_1287]
  refine ax_inv_of (Nat.le_of_ble_eq_true rfl) (Nat.le_of_ble_eq_true rfl) (fun _ => x0_rcv X _) (fun h => absurd h (by decide)) (Nat.le_refl _) (Nat.le_refl _) (xk_act_ok X 8 (nI c) 0 (by rw [kx_can8]; exact kx_cell_nI (by omega) hc2) (C' := B.2.1) (sh' := kx_soothe B.2.2.1 (nI c)) (pl' := B.2.2.2.1) (by unfold kx_perf; rw [if_neg (by decide), if_pos rfl]) ?_)
  intro es1 X1 f1
  have x0 := X1.1
  unfold zXo at x0
  obtain ⟨-, q0, q1, -⟩ := id X1.2.2.2.2.2.2.1
  simp only [ax_W_cons, ax_I, ax_cmp, ax_ii, ax_ll, ax_li, ax_st1, ax_st2, ax_kl, ax_k2, ax_fit, ax_rtok, List.getElem?_cons_zero, List.getElem?_cons_succ, List.length_cons, List.length_nil, List.set_cons_zero, List.set_cons_succ, Nat.reduceAdd, Nat.reduceDiv, Nat.reduceMod, Nat.reduceMul, Nat.reduceLT, Nat.reduceLeDiff, Int32.reduceOfInt, Int64.reduceOfInt, true_and, and_true, and_self, true_or, or_true, false_implies, true_implies, not_false_eq_true, not_true_eq_false, Value.category, Nat.reduceEqDiff, Option.toList, List.cons_append, List.nil_append, List.drop_succ_cons, List.drop_zero, ax_qq_eq, ax_t_1287, ax_j_1287_24, ax_n_1287_24, x0, q0, q1, kb_o, kb_a, hal, e2, e3, c10]
  exact hQ es1 X1 f1
theorem xp_fork_no (X : xD es n k p hc kd pl0 ht hs F1 F2 B Fe un U mk M L la lb lc) (c : Int32) (h : kx_op k (nI B.2.1) c = false) (hQ : Q (some (.int 0)) es) : ax_Mt (d + 10) 1288 [.ref 0, .int c] n sl es Q := by
  have n1 : ((0 : Int32) = 0 ∨ (0 : Int32) = 1) := Or.inl rfl
  refine ax_Mt_go (m := ax_m_10_8) (ls := [some (.ref 0), some (.int c)]) rfl ax_b_1288_0 (Nat.le_of_ble_eq_true rfl) rfl ?_
  simp only [ax_W_cons, ax_I, ax_cmp, ax_ii, ax_ll, ax_li, ax_st1, ax_st2, ax_kl, ax_k2, ax_fit, ax_rtok, List.getElem?_cons_zero, List.getElem?_cons_succ, List.length_cons, List.length_nil, List.set_cons_zero, List.set_cons_succ, Nat.reduceAdd, Nat.reduceDiv, Nat.reduceMod, Nat.reduceMul, Nat.reduceLT, Nat.reduceLeDiff, Int32.reduceOfInt, Int64.reduceOfInt, true_and, and_true, and_self, true_or, or_true, false_implies, true_implies, not_false_eq_true, not_true_eq_false, Value.category, Nat.reduceEqDiff, Option.toList, List.cons_append, List.nil_append, List.drop_succ_cons, List.drop_zero, ax_qq_eq, ax_t_1288]
  refine ax_inv_of (Nat.le_of_ble_eq_true rfl) (Nat.le_of_ble_eq_true rfl) (fun _ => x0_rcv X _) (fun h => absurd h (by decide)) (Nat.le_refl _) (Nat.le_refl _) (xk_act_no X 9 c 0 (by rw [kx_can9]; exact h) ?_)
  simp only [ax_W_cons, ax_I, ax_cmp, ax_ii, ax_ll, ax_li, ax_st1, ax_st2, ax_kl, ax_k2, ax_fit, ax_rtok, List.getElem?_cons_zero, List.getElem?_cons_succ, List.length_cons, List.length_nil, List.set_cons_zero, List.set_cons_succ, Nat.reduceAdd, Nat.reduceDiv, Nat.reduceMod, Nat.reduceMul, Nat.reduceLT, Nat.reduceLeDiff, Int32.reduceOfInt, Int64.reduceOfInt, true_and, and_true, and_self, true_or, or_true, false_implies, true_implies, not_false_eq_true, not_true_eq_false, Value.category, Nat.reduceEqDiff, Option.toList, List.cons_append, List.nil_append, List.drop_succ_cons, List.drop_zero, ax_qq_eq, ax_t_1288, n1]
  exact hQ
theorem xp_fork_ok (X : xD es n k p hc kd pl0 ht hs F1 F2 B Fe un U mk M L la lb lc) {c : Nat} (hc2 : c < k) (hBit : B.2.1.testBit c = false) (hQ : ∀ es', xD es' n k p hc kd pl0 ht hs F1 F2 (B.1, B.2.1 ||| 2 ^ c, upd B.2.2.1 c 0, B.2.2.2.1, B.2.2.2.2) Fe (zun un) (zpush U un B) mk M L la lb lc → xfd es es' → Q (some (.int 1)) es') : ax_Mt (d + 10) 1288 [.ref 0, .int (nI c)] n sl es Q := by
  have hk := X.2.2.1
  have n1 : ((1 : Int32) = 0 ∨ (1 : Int32) = 1) := Or.inr rfl
  have h1 : kx_op k (nI B.2.1) (nI c) = true := by
    rw [mx_op hk.2 hc2, kc_ck (by omega), hBit]
    rfl
  have hpf : kx_perf k 9 (nI c) 0 (nI B.2.1) B.2.2.1 B.2.2.2.1 = (nI (B.2.1 ||| 2 ^ c), upd B.2.2.1 c 0, B.2.2.2.1) := by
    unfold kx_perf
    rw [if_neg (by decide), if_neg (by decide), if_pos rfl, kc_crack (by omega), nI_clamp (by omega)]
  refine ax_Mt_go (m := ax_m_10_8) (ls := [some (.ref 0), some (.int (nI c))]) rfl ax_b_1288_0 (Nat.le_of_ble_eq_true rfl) rfl ?_
  simp only [ax_W_cons, ax_I, ax_cmp, ax_ii, ax_ll, ax_li, ax_st1, ax_st2, ax_kl, ax_k2, ax_fit, ax_rtok, List.getElem?_cons_zero, List.getElem?_cons_succ, List.length_cons, List.length_nil, List.set_cons_zero, List.set_cons_succ, Nat.reduceAdd, Nat.reduceDiv, Nat.reduceMod, Nat.reduceMul, Nat.reduceLT, Nat.reduceLeDiff, Int32.reduceOfInt, Int64.reduceOfInt, true_and, and_true, and_self, true_or, or_true, false_implies, true_implies, not_false_eq_true, not_true_eq_false, Value.category, Nat.reduceEqDiff, Option.toList, List.cons_append, List.nil_append, List.drop_succ_cons, List.drop_zero, ax_qq_eq, ax_t_1288]
  refine ax_inv_of (Nat.le_of_ble_eq_true rfl) (Nat.le_of_ble_eq_true rfl) (fun _ => x0_rcv X _) (fun h => absurd h (by decide)) (Nat.le_refl _) (Nat.le_refl _) (xk_act_ok X 9 (nI c) 0 (by rw [kx_can9]; exact h1) hpf ?_)
  intro es1 X1 f1
  simp only [ax_W_cons, ax_I, ax_cmp, ax_ii, ax_ll, ax_li, ax_st1, ax_st2, ax_kl, ax_k2, ax_fit, ax_rtok, List.getElem?_cons_zero, List.getElem?_cons_succ, List.length_cons, List.length_nil, List.set_cons_zero, List.set_cons_succ, Nat.reduceAdd, Nat.reduceDiv, Nat.reduceMod, Nat.reduceMul, Nat.reduceLT, Nat.reduceLeDiff, Int32.reduceOfInt, Int64.reduceOfInt, true_and, and_true, and_self, true_or, or_true, false_implies, true_implies, not_false_eq_true, not_true_eq_false, Value.category, Nat.reduceEqDiff, Option.toList, List.cons_append, List.nil_append, List.drop_succ_cons, List.drop_zero, ax_qq_eq, ax_t_1288, n1]
  exact hQ es1 X1 f1
theorem xp_turn (X : xD es n k p hc kd pl0 ht hs F1 F2 B Fe un U mk M L la lb lc) (hQ : ∀ es', xD es' n k p hc kd pl0 ht hs F1 F2 (B.1, kt_then k B.2.1 k, kx_turn k B.2.2.1, B.2.2.2.1, B.2.2.2.2) Fe (zun un) (zpush U un B) mk M L la lb lc → xfd es es' → Q (some (.int (kx_b (!kx_even k (nI B.2.1) B.2.2.1 (k / 2))))) es') : ax_Mt (d + 10) 1289 [.ref 0] n sl es Q := by
  obtain ⟨x0, hal, hk, hp, hhs, hC, hb, hS, hfe, hG, hP⟩ := id X
  unfold zXo at x0
  have c10 : ¬ (1 : Int32) = 0 := by decide
  refine ax_Mt_go (m := ax_m_10_9) (ls := [some (.ref 0), none]) rfl ax_b_1289_0 (Nat.le_of_ble_eq_true rfl) rfl ?_
  simp only [ax_W_cons, ax_I, ax_cmp, ax_ii, ax_ll, ax_li, ax_st1, ax_st2, ax_kl, ax_k2, ax_fit, ax_rtok, List.getElem?_cons_zero, List.getElem?_cons_succ, List.length_cons, List.length_nil, List.set_cons_zero, List.set_cons_succ, Nat.reduceAdd, Nat.reduceDiv, Nat.reduceMod, Nat.reduceMul, Nat.reduceLT, Nat.reduceLeDiff, Int32.reduceOfInt, Int64.reduceOfInt, true_and, and_true, and_self, true_or, or_true, false_implies, true_implies, not_false_eq_true, not_true_eq_false, Value.category, Nat.reduceEqDiff, Option.toList, List.cons_append, List.nil_append, List.drop_succ_cons, List.drop_zero, ax_qq_eq, ax_t_1289, x0, hal]
  refine ax_inv_of (Nat.le_of_ble_eq_true rfl) (Nat.le_of_ble_eq_true rfl) (fun _ => xb_rcv X _) (fun h => absurd h (by decide)) (Nat.le_refl _) (Nat.le_refl _) (ax_Mt_mono (ck_isEven (by omega) hk.2 (by omega) hb) ?_)
  rintro r es' ⟨rfl, rfl⟩
  simp only [ax_W_cons, ax_I, ax_cmp, ax_ii, ax_ll, ax_li, ax_st1, ax_st2, ax_kl, ax_k2, ax_fit, ax_rtok, List.getElem?_cons_zero, List.getElem?_cons_succ, List.length_cons, List.length_nil, List.set_cons_zero, List.set_cons_succ, Nat.reduceAdd, Nat.reduceDiv, Nat.reduceMod, Nat.reduceMul, Nat.reduceLT, Nat.reduceLeDiff, Int32.reduceOfInt, Int64.reduceOfInt, true_and, and_true, and_self, true_or, or_true, false_implies, true_implies, not_false_eq_true, not_true_eq_false, Value.category, Nat.reduceEqDiff, Option.toList, List.cons_append, List.nil_append, List.drop_succ_cons, List.drop_zero, ax_qq_eq, ax_t_1289]
  refine ax_inv_of (Nat.le_of_ble_eq_true rfl) (Nat.le_of_ble_eq_true rfl) (fun _ => x0_rcv X _) (fun h => absurd h (by decide)) (Nat.le_refl _) (Nat.le_refl _) (xk_act_ok X 10 0 0 (kx_can10 k p (nI B.2.1) 0 0) (C' := kt_then k B.2.1 k) (sh' := kx_turn k B.2.2.1) (pl' := B.2.2.2.1) (by unfold kx_perf; rw [if_neg (by decide), if_neg (by decide), if_neg (by decide), if_pos rfl, kt_tcr hk.2 k (Nat.le_refl _), kt_same]) ?_)
  intro es1 X1 f1
  have hQ := hQ es1 X1 f1
  generalize kx_even k (nI B.2.1) B.2.2.1 (k / 2) = E at hQ ⊢
  cases E
  · simp only [ax_W_cons, ax_I, ax_cmp, ax_ii, ax_ll, ax_li, ax_st1, ax_st2, ax_kl, ax_k2, ax_fit, ax_rtok, List.getElem?_cons_zero, List.getElem?_cons_succ, List.length_cons, List.length_nil, List.set_cons_zero, List.set_cons_succ, Nat.reduceAdd, Nat.reduceDiv, Nat.reduceMod, Nat.reduceMul, Nat.reduceLT, Nat.reduceLeDiff, Int32.reduceOfInt, Int64.reduceOfInt, true_and, and_true, and_self, true_or, or_true, false_implies, true_implies, not_false_eq_true, not_true_eq_false, Value.category, Nat.reduceEqDiff, Option.toList, List.cons_append, List.nil_append, List.drop_succ_cons, List.drop_zero, ax_qq_eq, ax_t_1289, ax_j_1289_26, ax_n_1289_26, kx_bf]
    exact hQ
  · simp only [ax_W_cons, ax_I, ax_cmp, ax_ii, ax_ll, ax_li, ax_st1, ax_st2, ax_kl, ax_k2, ax_fit, ax_rtok, List.getElem?_cons_zero, List.getElem?_cons_succ, List.length_cons, List.length_nil, List.set_cons_zero, List.set_cons_succ, Nat.reduceAdd, Nat.reduceDiv, Nat.reduceMod, Nat.reduceMul, Nat.reduceLT, Nat.reduceLeDiff, Int32.reduceOfInt, Int64.reduceOfInt, true_and, and_true, and_self, true_or, or_true, false_implies, true_implies, not_false_eq_true, not_true_eq_false, Value.category, Nat.reduceEqDiff, Option.toList, List.cons_append, List.nil_append, List.drop_succ_cons, List.drop_zero, ax_qq_eq, ax_t_1289, ax_j_1289_25, ax_n_1289_25, ax_j_1289_26, ax_n_1289_26, kx_bt, c10]
    exact hQ
theorem xp_change_no (X : xD es n k p hc kd pl0 ht hs F1 F2 B Fe un U mk M L la lb lc) (i j : Int32) (h : ¬ (kx_cell p i = true ∧ kx_cell p j = true ∧ ¬ i = j)) (hQ : Q (some (.int 0)) es) : ax_Mt (d + 10) 1290 [.ref 0, .int i, .int j] n sl es Q := by
  have n1 : ((0 : Int32) = 0 ∨ (0 : Int32) = 1) := Or.inl rfl
  have hc : kx_can k p (nI B.2.1) 11 i j = false := by
    unfold kx_can
    rw [if_neg (by decide), if_neg (by decide), if_pos rfl]
    cases h1 : kx_cell p i
    · rfl
    · cases h2 : kx_cell p j
      · rfl
      · by_cases h3 : i = j
        · simp [h3]
        · exact absurd ⟨h1, h2, h3⟩ h
  refine ax_Mt_go (m := ax_m_10_10) (ls := [some (.ref 0), some (.int i), some (.int j)]) rfl ax_b_1290_0 (Nat.le_of_ble_eq_true rfl) rfl ?_
  simp only [ax_W_cons, ax_I, ax_cmp, ax_ii, ax_ll, ax_li, ax_st1, ax_st2, ax_kl, ax_k2, ax_fit, ax_rtok, List.getElem?_cons_zero, List.getElem?_cons_succ, List.length_cons, List.length_nil, List.set_cons_zero, List.set_cons_succ, Nat.reduceAdd, Nat.reduceDiv, Nat.reduceMod, Nat.reduceMul, Nat.reduceLT, Nat.reduceLeDiff, Int32.reduceOfInt, Int64.reduceOfInt, true_and, and_true, and_self, true_or, or_true, false_implies, true_implies, not_false_eq_true, not_true_eq_false, Value.category, Nat.reduceEqDiff, Option.toList, List.cons_append, List.nil_append, List.drop_succ_cons, List.drop_zero, ax_qq_eq, ax_t_1290]
  refine ax_inv_of (Nat.le_of_ble_eq_true rfl) (Nat.le_of_ble_eq_true rfl) (fun _ => x0_rcv X _) (fun h => absurd h (by decide)) (Nat.le_refl _) (Nat.le_refl _) (xk_act_no X 11 i j hc ?_)
  simp only [ax_W_cons, ax_I, ax_cmp, ax_ii, ax_ll, ax_li, ax_st1, ax_st2, ax_kl, ax_k2, ax_fit, ax_rtok, List.getElem?_cons_zero, List.getElem?_cons_succ, List.length_cons, List.length_nil, List.set_cons_zero, List.set_cons_succ, Nat.reduceAdd, Nat.reduceDiv, Nat.reduceMod, Nat.reduceMul, Nat.reduceLT, Nat.reduceLeDiff, Int32.reduceOfInt, Int64.reduceOfInt, true_and, and_true, and_self, true_or, or_true, false_implies, true_implies, not_false_eq_true, not_true_eq_false, Value.category, Nat.reduceEqDiff, Option.toList, List.cons_append, List.nil_append, List.drop_succ_cons, List.drop_zero, ax_qq_eq, ax_t_1290, n1]
  exact hQ
theorem xp_change_ok (X : xD es n k p hc kd pl0 ht hs F1 F2 B Fe un U mk M L la lb lc) {i j : Nat} (hi : i < p) (hj : j < p) (hij : ¬ i = j) (hQ : ∀ es', xD es' n k p hc kd pl0 ht hs F1 F2 (B.1, B.2.1, B.2.2.1, kx_exch B.2.2.2.1 (nI i) (nI j), B.2.2.2.2) Fe (zun un) (zpush U un B) mk M L la lb lc → xfd es es' → Q (some (.int 1)) es') : ax_Mt (d + 10) 1290 [.ref 0, .int (nI i), .int (nI j)] n sl es Q := by
  have n1 : ((1 : Int32) = 0 ∨ (1 : Int32) = 1) := Or.inr rfl
  have hp := X.2.2.2.1
  refine ax_Mt_go (m := ax_m_10_10) (ls := [some (.ref 0), some (.int (nI i)), some (.int (nI j))]) rfl ax_b_1290_0 (Nat.le_of_ble_eq_true rfl) rfl ?_
  simp only [ax_W_cons, ax_I, ax_cmp, ax_ii, ax_ll, ax_li, ax_st1, ax_st2, ax_kl, ax_k2, ax_fit, ax_rtok, List.getElem?_cons_zero, List.getElem?_cons_succ, List.length_cons, List.length_nil, List.set_cons_zero, List.set_cons_succ, Nat.reduceAdd, Nat.reduceDiv, Nat.reduceMod, Nat.reduceMul, Nat.reduceLT, Nat.reduceLeDiff, Int32.reduceOfInt, Int64.reduceOfInt, true_and, and_true, and_self, true_or, or_true, false_implies, true_implies, not_false_eq_true, not_true_eq_false, Value.category, Nat.reduceEqDiff, Option.toList, List.cons_append, List.nil_append, List.drop_succ_cons, List.drop_zero, ax_qq_eq, ax_t_1290]
  refine ax_inv_of (Nat.le_of_ble_eq_true rfl) (Nat.le_of_ble_eq_true rfl) (fun _ => x0_rcv X _) (fun h => absurd h (by decide)) (Nat.le_refl _) (Nat.le_refl _) (xk_act_ok X 11 (nI i) (nI j) (by rw [kx_can11 hp hi hj]; simp [hij]) (C' := B.2.1) (sh' := B.2.2.1) (pl' := kx_exch B.2.2.2.1 (nI i) (nI j)) (by unfold kx_perf; rw [if_neg (by decide), if_neg (by decide), if_neg (by decide), if_neg (by decide), if_pos rfl]) ?_)
  intro es1 X1 f1
  simp only [ax_W_cons, ax_I, ax_cmp, ax_ii, ax_ll, ax_li, ax_st1, ax_st2, ax_kl, ax_k2, ax_fit, ax_rtok, List.getElem?_cons_zero, List.getElem?_cons_succ, List.length_cons, List.length_nil, List.set_cons_zero, List.set_cons_succ, Nat.reduceAdd, Nat.reduceDiv, Nat.reduceMod, Nat.reduceMul, Nat.reduceLT, Nat.reduceLeDiff, Int32.reduceOfInt, Int64.reduceOfInt, true_and, and_true, and_self, true_or, or_true, false_implies, true_implies, not_false_eq_true, not_true_eq_false, Value.category, Nat.reduceEqDiff, Option.toList, List.cons_append, List.nil_append, List.drop_succ_cons, List.drop_zero, ax_qq_eq, ax_t_1290, n1]
  exact hQ es1 X1 f1
theorem xp_beat (X : xD es n k p hc kd pl0 ht hs F1 F2 B Fe un U mk M L la lb lc) (hB : zB_ok k p N B) (hN : N < 1000) (hQ : ∀ es', xD es' n k p hc kd pl0 ht hs F1 F2 (zbeat F1 F2 k p kd ht hs hc B) Fe (zun un) (zpush U un B) mk M L la lb lc → xfd es es' → Q (some (.int (kx_all (kx_dd F1 F2 k kd ht (nI B.2.1) hs hc B.1 B.2.2.1 B.2.2.2.1) p 1))) es') : ax_Mt (d + 10) 1291 [.ref 0] n sl es Q := by
  obtain ⟨x0, hal, hk, hp, hhs, hC, hb, hS, hfe, ⟨g1, g2, g3, g4⟩, hP⟩ := id X
  unfold zXo at x0
  have hB1 := hB.2.1
  have hap : kap 38 := ⟨by decide, Or.inl (by decide)⟩
  refine ax_Mt_go (m := ax_m_10_11) (ls := [some (.ref 0)]) rfl ax_b_1291_0 (Nat.le_of_ble_eq_true rfl) rfl ?_
  simp only [ax_W_cons, ax_I, ax_cmp, ax_ii, ax_ll, ax_li, ax_st1, ax_st2, ax_kl, ax_k2, ax_fit, ax_rtok, List.getElem?_cons_zero, List.getElem?_cons_succ, List.length_cons, List.length_nil, List.set_cons_zero, List.set_cons_succ, Nat.reduceAdd, Nat.reduceDiv, Nat.reduceMod, Nat.reduceMul, Nat.reduceLT, Nat.reduceLeDiff, Int32.reduceOfInt, Int64.reduceOfInt, true_and, and_true, and_self, true_or, or_true, false_implies, true_implies, not_false_eq_true, not_true_eq_false, Value.category, Nat.reduceEqDiff, Option.toList, List.cons_append, List.nil_append, List.drop_succ_cons, List.drop_zero, ax_qq_eq, ax_t_1291, x0, hal]
  refine ax_inv_of (Nat.le_of_ble_eq_true rfl) (Nat.le_of_ble_eq_true rfl) (fun _ => kP_rcv hal hP _) (fun h => absurd h (by decide)) (Nat.le_refl _) (Nat.le_refl _) (ck_keep hal hP hb ?_)
  intro es1 P1 f1
  have y0 : es1 0 = _ := (f1 0 (by omega)).trans x0
  have hb1 : kbB es1 n 38 k p B := kb_fr hb (fun j hj => f1 j (by omega))
  have hC1 := kC_frr hC (fun j hj => f1 j (by omega))
  have hS1 := kSe_fr hS (fun j hj => f1 j (by omega))
  simp only [ax_W_cons, ax_I, ax_cmp, ax_ii, ax_ll, ax_li, ax_st1, ax_st2, ax_kl, ax_k2, ax_fit, ax_rtok, List.getElem?_cons_zero, List.getElem?_cons_succ, List.length_cons, List.length_nil, List.set_cons_zero, List.set_cons_succ, Nat.reduceAdd, Nat.reduceDiv, Nat.reduceMod, Nat.reduceMul, Nat.reduceLT, Nat.reduceLeDiff, Int32.reduceOfInt, Int64.reduceOfInt, true_and, and_true, and_self, true_or, or_true, false_implies, true_implies, not_false_eq_true, not_true_eq_false, Value.category, Nat.reduceEqDiff, Option.toList, List.cons_append, List.nil_append, List.drop_succ_cons, List.drop_zero, ax_qq_eq, ax_t_1291, y0, hal]
  refine ax_inv_of (Nat.le_of_ble_eq_true rfl) (Nat.le_of_ble_eq_true rfl) (fun _ => ax_rcv_ok (by omega) hS1.1.1) (fun h => absurd h (by decide)) (Nat.le_refl _) (Nat.le_refl _) (ax_Mt_mono (ck_pass (m := 1) (by omega) hal hk.2 hp hap hB.1.2.1 (by omega) hhs hB.1.1 hC1 hS1.1 hb1) ?_)
  rintro r es2 ⟨rfl, m1, m2, m3⟩
  simp only [ax_W_cons, ax_I, ax_cmp, ax_ii, ax_ll, ax_li, ax_st1, ax_st2, ax_kl, ax_k2, ax_fit, ax_rtok, List.getElem?_cons_zero, List.getElem?_cons_succ, List.length_cons, List.length_nil, List.set_cons_zero, List.set_cons_succ, Nat.reduceAdd, Nat.reduceDiv, Nat.reduceMod, Nat.reduceMul, Nat.reduceLT, Nat.reduceLeDiff, Int32.reduceOfInt, Int64.reduceOfInt, true_and, and_true, and_self, true_or, or_true, false_implies, true_implies, not_false_eq_true, not_true_eq_false, Value.category, Nat.reduceEqDiff, Option.toList, List.cons_append, List.nil_append, List.drop_succ_cons, List.drop_zero, ax_qq_eq, ax_t_1291]
  have fr : ∀ j, (j < 11 ∨ j = 13 ∨ (15 < j ∧ j < 38) ∨ (41 < j ∧ j < 147) ∨ 148 < j) → es2 j = es1 j := fun j hj => m3 j (by omega)
  refine hQ es2 ⟨(fr 0 (by omega)).trans y0, hal, hk, hp, hhs, kC_fr hap hC1 m3, m2, ⟨m1, kTo_frr hS1.2.1 (fun j hj => fr j (by omega)), kbA_fr hS1.2.2 (fun j hj => fr j (by omega))⟩, kfF_fr hfe (fun j hj => (fr j (by omega)).trans (f1 j (by omega))), ⟨((fr 16 (by omega)).trans (f1 16 (by omega))).trans g1, ((fr 17 (by omega)).trans (f1 17 (by omega))).trans g2, ((fr 18 (by omega)).trans (f1 18 (by omega))).trans g3, ((fr 19 (by omega)).trans (f1 19 (by omega))).trans g4⟩, kP_fr P1 (fun j hj => fr j (by omega))⟩ (fun j hj => (fr j (by omega)).trans (f1 j (by omega)))
theorem xp_undo_no (X : xD es n k p hc kd pl0 ht hs F1 F2 B Fe 0 U mk M L la lb lc) (hQ : Q (some (.int 0)) es) : ax_Mt (d + 10) 1292 [.ref 0] n sl es Q := by
  obtain ⟨x0, hal, hk, hp, hhs, hC, hb, hS, hfe, hG, hP⟩ := id X
  unfold zXo at x0
  have n1 : ((0 : Int32) = 0 ∨ (0 : Int32) = 1) := Or.inl rfl
  refine ax_Mt_go (m := ax_m_10_12) (ls := [some (.ref 0)]) rfl ax_b_1292_0 (Nat.le_of_ble_eq_true rfl) rfl ?_
  simp only [ax_W_cons, ax_I, ax_cmp, ax_ii, ax_ll, ax_li, ax_st1, ax_st2, ax_kl, ax_k2, ax_fit, ax_rtok, List.getElem?_cons_zero, List.getElem?_cons_succ, List.length_cons, List.length_nil, List.set_cons_zero, List.set_cons_succ, Nat.reduceAdd, Nat.reduceDiv, Nat.reduceMod, Nat.reduceMul, Nat.reduceLT, Nat.reduceLeDiff, Int32.reduceOfInt, Int64.reduceOfInt, true_and, and_true, and_self, true_or, or_true, false_implies, true_implies, not_false_eq_true, not_true_eq_false, Value.category, Nat.reduceEqDiff, Option.toList, List.cons_append, List.nil_append, List.drop_succ_cons, List.drop_zero, ax_qq_eq, ax_t_1292, x0, hal]
  refine ax_inv_of (Nat.le_of_ble_eq_true rfl) (Nat.le_of_ble_eq_true rfl) (fun _ => kP_rcv hal hP _) (fun h => absurd h (by decide)) (Nat.le_refl _) (Nat.le_refl _) (ck_stepBack_no hal hP ?_)
  simp only [ax_W_cons, ax_I, ax_cmp, ax_ii, ax_ll, ax_li, ax_st1, ax_st2, ax_kl, ax_k2, ax_fit, ax_rtok, List.getElem?_cons_zero, List.getElem?_cons_succ, List.length_cons, List.length_nil, List.set_cons_zero, List.set_cons_succ, Nat.reduceAdd, Nat.reduceDiv, Nat.reduceMod, Nat.reduceMul, Nat.reduceLT, Nat.reduceLeDiff, Int32.reduceOfInt, Int64.reduceOfInt, true_and, and_true, and_self, true_or, or_true, false_implies, true_implies, not_false_eq_true, not_true_eq_false, Value.category, Nat.reduceEqDiff, Option.toList, List.cons_append, List.nil_append, List.drop_succ_cons, List.drop_zero, ax_qq_eq, ax_t_1292, n1]
  exact hQ
theorem xp_undo_ok (X : xD es n k p hc kd pl0 ht hs F1 F2 B Fe (un + 1) U mk M L la lb lc) (hQ : ∀ es', xD es' n k p hc kd pl0 ht hs F1 F2 (U un) Fe un U mk M L la lb lc → xfd es es' → Q (some (.int 1)) es') : ax_Mt (d + 10) 1292 [.ref 0] n sl es Q := by
  obtain ⟨x0, hal, hk, hp, hhs, hC, hb, hS, hfe, hG, hP⟩ := id X
  unfold zXo at x0
  have n1 : ((1 : Int32) = 0 ∨ (1 : Int32) = 1) := Or.inr rfl
  refine ax_Mt_go (m := ax_m_10_12) (ls := [some (.ref 0)]) rfl ax_b_1292_0 (Nat.le_of_ble_eq_true rfl) rfl ?_
  simp only [ax_W_cons, ax_I, ax_cmp, ax_ii, ax_ll, ax_li, ax_st1, ax_st2, ax_kl, ax_k2, ax_fit, ax_rtok, List.getElem?_cons_zero, List.getElem?_cons_succ, List.length_cons, List.length_nil, List.set_cons_zero, List.set_cons_succ, Nat.reduceAdd, Nat.reduceDiv, Nat.reduceMod, Nat.reduceMul, Nat.reduceLT, Nat.reduceLeDiff, Int32.reduceOfInt, Int64.reduceOfInt, true_and, and_true, and_self, true_or, or_true, false_implies, true_implies, not_false_eq_true, not_true_eq_false, Value.category, Nat.reduceEqDiff, Option.toList, List.cons_append, List.nil_append, List.drop_succ_cons, List.drop_zero, ax_qq_eq, ax_t_1292, x0, hal]
  refine ax_inv_of (Nat.le_of_ble_eq_true rfl) (Nat.le_of_ble_eq_true rfl) (fun _ => kP_rcv hal hP _) (fun h => absurd h (by decide)) (Nat.le_refl _) (Nat.le_refl _) (ck_stepBack_ok hal hP ⟨_, _, _, _, _, _, _, hb⟩ ?_)
  intro es1 P1 b1 f1
  simp only [ax_W_cons, ax_I, ax_cmp, ax_ii, ax_ll, ax_li, ax_st1, ax_st2, ax_kl, ax_k2, ax_fit, ax_rtok, List.getElem?_cons_zero, List.getElem?_cons_succ, List.length_cons, List.length_nil, List.set_cons_zero, List.set_cons_succ, Nat.reduceAdd, Nat.reduceDiv, Nat.reduceMod, Nat.reduceMul, Nat.reduceLT, Nat.reduceLeDiff, Int32.reduceOfInt, Int64.reduceOfInt, true_and, and_true, and_self, true_or, or_true, false_implies, true_implies, not_false_eq_true, not_true_eq_false, Value.category, Nat.reduceEqDiff, Option.toList, List.cons_append, List.nil_append, List.drop_succ_cons, List.drop_zero, ax_qq_eq, ax_t_1292, n1]
  exact hQ es1 (xD_fr X (fun j hj => f1 j (by omega)) b1 (kfF_fr hfe (fun j hj => f1 j (by omega))) P1) (xfd_of (fun j hj => f1 j (by omega)))
theorem xp_feel_no (X : xD es n k p hc kd pl0 ht hs F1 F2 B Fe un U mk M L la lb lc) (hz8 : Fe.1 ≤ 8) (c m x : Int32) (h : ¬ (kx_op k (nI B.2.1) c = true ∧ kx_in m 0 12 = true ∧ kx_in x 0 99 = true ∧ Fe.1 < 8)) (hQ : Q (some (.int 0)) es) : ax_Mt (d + 10) 1301 [.ref 0, .int c, .int m, .int x] n sl es Q := by
  obtain ⟨x0, hal, hk, hp, hhs, hC, hb, hS, hfe, hG, hP⟩ := id X
  unfold zXo at x0
  have c10 : ¬ (1 : Int32) = 0 := by decide
  have n1 : ((0 : Int32) = 0 ∨ (0 : Int32) = 1) := Or.inl rfl
  refine ax_Mt_go (m := ax_m_10_21) (ls := [some (.ref 0), some (.int c), some (.int m), some (.int x)]) rfl ax_b_1301_0 (Nat.le_of_ble_eq_true rfl) rfl ?_
  simp only [ax_W_cons, ax_I, ax_cmp, ax_ii, ax_ll, ax_li, ax_st1, ax_st2, ax_kl, ax_k2, ax_fit, ax_rtok, List.getElem?_cons_zero, List.getElem?_cons_succ, List.length_cons, List.length_nil, List.set_cons_zero, List.set_cons_succ, Nat.reduceAdd, Nat.reduceDiv, Nat.reduceMod, Nat.reduceMul, Nat.reduceLT, Nat.reduceLeDiff, Int32.reduceOfInt, Int64.reduceOfInt, true_and, and_true, and_self, true_or, or_true, false_implies, true_implies, not_false_eq_true, not_true_eq_false, Value.category, Nat.reduceEqDiff, Option.toList, List.cons_append, List.nil_append, List.drop_succ_cons, List.drop_zero, ax_qq_eq, ax_t_1301, x0, hal]
  refine ax_inv_of (Nat.le_of_ble_eq_true rfl) (Nat.le_of_ble_eq_true rfl) (fun _ => xb_rcv X _) (fun h => absurd h (by decide)) (Nat.le_refl _) (Nat.le_refl _) (xk_open X c ?_)
  cases h1 : kx_op k (nI B.2.1) c
  · simp only [ax_W_cons, ax_I, ax_cmp, ax_ii, ax_ll, ax_li, ax_st1, ax_st2, ax_kl, ax_k2, ax_fit, ax_rtok, List.getElem?_cons_zero, List.getElem?_cons_succ, List.length_cons, List.length_nil, List.set_cons_zero, List.set_cons_succ, Nat.reduceAdd, Nat.reduceDiv, Nat.reduceMod, Nat.reduceMul, Nat.reduceLT, Nat.reduceLeDiff, Int32.reduceOfInt, Int64.reduceOfInt, true_and, and_true, and_self, true_or, or_true, false_implies, true_implies, not_false_eq_true, not_true_eq_false, Value.category, Nat.reduceEqDiff, Option.toList, List.cons_append, List.nil_append, List.drop_succ_cons, List.drop_zero, ax_qq_eq, ax_t_1301, ax_j_1301_31, ax_n_1301_31, kx_bf]
    exact hQ
  simp only [ax_W_cons, ax_I, ax_cmp, ax_ii, ax_ll, ax_li, ax_st1, ax_st2, ax_kl, ax_k2, ax_fit, ax_rtok, List.getElem?_cons_zero, List.getElem?_cons_succ, List.length_cons, List.length_nil, List.set_cons_zero, List.set_cons_succ, Nat.reduceAdd, Nat.reduceDiv, Nat.reduceMod, Nat.reduceMul, Nat.reduceLT, Nat.reduceLeDiff, Int32.reduceOfInt, Int64.reduceOfInt, true_and, and_true, and_self, true_or, or_true, false_implies, true_implies, not_false_eq_true, not_true_eq_false, Value.category, Nat.reduceEqDiff, Option.toList, List.cons_append, List.nil_append, List.drop_succ_cons, List.drop_zero, ax_qq_eq, ax_t_1301, kx_bt, c10]
  refine ax_inv_of (Nat.le_of_ble_eq_true rfl) (Nat.le_of_ble_eq_true rfl) (fun _ => absurd ‹_› (by decide)) (fun h => absurd h (by decide)) (Nat.le_refl _) (Nat.le_refl _) (xk_within _ _ _ ?_)
  cases h2 : kx_in m 0 12
  · simp only [ax_W_cons, ax_I, ax_cmp, ax_ii, ax_ll, ax_li, ax_st1, ax_st2, ax_kl, ax_k2, ax_fit, ax_rtok, List.getElem?_cons_zero, List.getElem?_cons_succ, List.length_cons, List.length_nil, List.set_cons_zero, List.set_cons_succ, Nat.reduceAdd, Nat.reduceDiv, Nat.reduceMod, Nat.reduceMul, Nat.reduceLT, Nat.reduceLeDiff, Int32.reduceOfInt, Int64.reduceOfInt, true_and, and_true, and_self, true_or, or_true, false_implies, true_implies, not_false_eq_true, not_true_eq_false, Value.category, Nat.reduceEqDiff, Option.toList, List.cons_append, List.nil_append, List.drop_succ_cons, List.drop_zero, ax_qq_eq, ax_t_1301, ax_j_1301_31, ax_n_1301_31, kx_bf]
    exact hQ
  simp only [ax_W_cons, ax_I, ax_cmp, ax_ii, ax_ll, ax_li, ax_st1, ax_st2, ax_kl, ax_k2, ax_fit, ax_rtok, List.getElem?_cons_zero, List.getElem?_cons_succ, List.length_cons, List.length_nil, List.set_cons_zero, List.set_cons_succ, Nat.reduceAdd, Nat.reduceDiv, Nat.reduceMod, Nat.reduceMul, Nat.reduceLT, Nat.reduceLeDiff, Int32.reduceOfInt, Int64.reduceOfInt, true_and, and_true, and_self, true_or, or_true, false_implies, true_implies, not_false_eq_true, not_true_eq_false, Value.category, Nat.reduceEqDiff, Option.toList, List.cons_append, List.nil_append, List.drop_succ_cons, List.drop_zero, ax_qq_eq, ax_t_1301, kx_bt, c10]
  refine ax_inv_of (Nat.le_of_ble_eq_true rfl) (Nat.le_of_ble_eq_true rfl) (fun _ => absurd ‹_› (by decide)) (fun h => absurd h (by decide)) (Nat.le_refl _) (Nat.le_refl _) (xk_within _ _ _ ?_)
  cases h3 : kx_in x 0 99
  · simp only [ax_W_cons, ax_I, ax_cmp, ax_ii, ax_ll, ax_li, ax_st1, ax_st2, ax_kl, ax_k2, ax_fit, ax_rtok, List.getElem?_cons_zero, List.getElem?_cons_succ, List.length_cons, List.length_nil, List.set_cons_zero, List.set_cons_succ, Nat.reduceAdd, Nat.reduceDiv, Nat.reduceMod, Nat.reduceMul, Nat.reduceLT, Nat.reduceLeDiff, Int32.reduceOfInt, Int64.reduceOfInt, true_and, and_true, and_self, true_or, or_true, false_implies, true_implies, not_false_eq_true, not_true_eq_false, Value.category, Nat.reduceEqDiff, Option.toList, List.cons_append, List.nil_append, List.drop_succ_cons, List.drop_zero, ax_qq_eq, ax_t_1301, ax_j_1301_31, ax_n_1301_31, kx_bf]
    exact hQ
  have hz : Fe.1 = 8 := by
    by_cases e : Fe.1 < 8
    · exact absurd ⟨h1, h2, h3, e⟩ h
    · omega
  simp only [ax_W_cons, ax_I, ax_cmp, ax_ii, ax_ll, ax_li, ax_st1, ax_st2, ax_kl, ax_k2, ax_fit, ax_rtok, List.getElem?_cons_zero, List.getElem?_cons_succ, List.length_cons, List.length_nil, List.set_cons_zero, List.set_cons_succ, Nat.reduceAdd, Nat.reduceDiv, Nat.reduceMod, Nat.reduceMul, Nat.reduceLT, Nat.reduceLeDiff, Int32.reduceOfInt, Int64.reduceOfInt, true_and, and_true, and_self, true_or, or_true, false_implies, true_implies, not_false_eq_true, not_true_eq_false, Value.category, Nat.reduceEqDiff, Option.toList, List.cons_append, List.nil_append, List.drop_succ_cons, List.drop_zero, ax_qq_eq, ax_t_1301, ax_j_1301_33, ax_n_1301_33, kx_bt, c10, x0, hal]
  refine ax_inv_of (Nat.le_of_ble_eq_true rfl) (Nat.le_of_ble_eq_true rfl) (fun _ => ax_rcv_ok (by omega) hfe.2.1) (fun h => absurd h (by decide)) (Nat.le_refl _) (Nat.le_refl _) (ck_fadd_no hfe hz _ _ _ ?_)
  simp only [ax_W_cons, ax_I, ax_cmp, ax_ii, ax_ll, ax_li, ax_st1, ax_st2, ax_kl, ax_k2, ax_fit, ax_rtok, List.getElem?_cons_zero, List.getElem?_cons_succ, List.length_cons, List.length_nil, List.set_cons_zero, List.set_cons_succ, Nat.reduceAdd, Nat.reduceDiv, Nat.reduceMod, Nat.reduceMul, Nat.reduceLT, Nat.reduceLeDiff, Int32.reduceOfInt, Int64.reduceOfInt, true_and, and_true, and_self, true_or, or_true, false_implies, true_implies, not_false_eq_true, not_true_eq_false, Value.category, Nat.reduceEqDiff, Option.toList, List.cons_append, List.nil_append, List.drop_succ_cons, List.drop_zero, ax_qq_eq, ax_t_1301, n1]
  exact hQ
theorem xp_feel_ok (X : xD es n k p hc kd pl0 ht hs F1 F2 B Fe un U mk M L la lb lc) {c m x : Nat} (hc2 : c < k) (hBit : B.2.1.testBit c = false) (hm : m ≤ 12) (hx : x ≤ 99) (hz8 : Fe.1 < 8) (hQ : ∀ es', xD es' n k p hc kd pl0 ht hs F1 F2 B (Fe.1 + 1, upd Fe.2.1 Fe.1 (nI c), upd Fe.2.2.1 Fe.1 (nI m), upd Fe.2.2.2 Fe.1 (nI x)) un U mk M L la lb lc → xfd es es' → Q (some (.int 1)) es') : ax_Mt (d + 10) 1301 [.ref 0, .int (nI c), .int (nI m), .int (nI x)] n sl es Q := by
  obtain ⟨x0, hal, hk, hp, hhs, hC, hb, hS, hfe, hG, hP⟩ := id X
  unfold zXo at x0
  have c10 : ¬ (1 : Int32) = 0 := by decide
  have n1 : ((1 : Int32) = 0 ∨ (1 : Int32) = 1) := Or.inr rfl
  have h1 : kx_op k (nI B.2.1) (nI c) = true := by
    rw [mx_op hk.2 hc2, kc_ck (by omega), hBit]
    rfl
  have h2 : kx_in (nI m) 0 12 = true := by
    unfold kx_in
    rw [decide_eq_true (show (0 : Int32) ≤ nI m from nI_pos' (by omega)), decide_eq_true (show nI m ≤ 12 from nI_le (b := 12) hm (by omega))]
    rfl
  have h3 : kx_in (nI x) 0 99 = true := by
    unfold kx_in
    rw [decide_eq_true (show (0 : Int32) ≤ nI x from nI_pos' (by omega)), decide_eq_true (show nI x ≤ 99 from nI_le (b := 99) hx (by omega))]
    rfl
  refine ax_Mt_go (m := ax_m_10_21) (ls := [some (.ref 0), some (.int (nI c)), some (.int (nI m)), some (.int (nI x))]) rfl ax_b_1301_0 (Nat.le_of_ble_eq_true rfl) rfl ?_
  simp only [ax_W_cons, ax_I, ax_cmp, ax_ii, ax_ll, ax_li, ax_st1, ax_st2, ax_kl, ax_k2, ax_fit, ax_rtok, List.getElem?_cons_zero, List.getElem?_cons_succ, List.length_cons, List.length_nil, List.set_cons_zero, List.set_cons_succ, Nat.reduceAdd, Nat.reduceDiv, Nat.reduceMod, Nat.reduceMul, Nat.reduceLT, Nat.reduceLeDiff, Int32.reduceOfInt, Int64.reduceOfInt, true_and, and_true, and_self, true_or, or_true, false_implies, true_implies, not_false_eq_true, not_true_eq_false, Value.category, Nat.reduceEqDiff, Option.toList, List.cons_append, List.nil_append, List.drop_succ_cons, List.drop_zero, ax_qq_eq, ax_t_1301, x0, hal]
  refine ax_inv_of (Nat.le_of_ble_eq_true rfl) (Nat.le_of_ble_eq_true rfl) (fun _ => xb_rcv X _) (fun h => absurd h (by decide)) (Nat.le_refl _) (Nat.le_refl _) (xk_open X _ ?_)
  rw [h1]
  simp only [ax_W_cons, ax_I, ax_cmp, ax_ii, ax_ll, ax_li, ax_st1, ax_st2, ax_kl, ax_k2, ax_fit, ax_rtok, List.getElem?_cons_zero, List.getElem?_cons_succ, List.length_cons, List.length_nil, List.set_cons_zero, List.set_cons_succ, Nat.reduceAdd, Nat.reduceDiv, Nat.reduceMod, Nat.reduceMul, Nat.reduceLT, Nat.reduceLeDiff, Int32.reduceOfInt, Int64.reduceOfInt, true_and, and_true, and_self, true_or, or_true, false_implies, true_implies, not_false_eq_true, not_true_eq_false, Value.category, Nat.reduceEqDiff, Option.toList, List.cons_append, List.nil_append, List.drop_succ_cons, List.drop_zero, ax_qq_eq, ax_t_1301, kx_bt, c10]
  refine ax_inv_of (Nat.le_of_ble_eq_true rfl) (Nat.le_of_ble_eq_true rfl) (fun _ => absurd ‹_› (by decide)) (fun h => absurd h (by decide)) (Nat.le_refl _) (Nat.le_refl _) (xk_within _ _ _ ?_)
  rw [h2]
  simp only [ax_W_cons, ax_I, ax_cmp, ax_ii, ax_ll, ax_li, ax_st1, ax_st2, ax_kl, ax_k2, ax_fit, ax_rtok, List.getElem?_cons_zero, List.getElem?_cons_succ, List.length_cons, List.length_nil, List.set_cons_zero, List.set_cons_succ, Nat.reduceAdd, Nat.reduceDiv, Nat.reduceMod, Nat.reduceMul, Nat.reduceLT, Nat.reduceLeDiff, Int32.reduceOfInt, Int64.reduceOfInt, true_and, and_true, and_self, true_or, or_true, false_implies, true_implies, not_false_eq_true, not_true_eq_false, Value.category, Nat.reduceEqDiff, Option.toList, List.cons_append, List.nil_append, List.drop_succ_cons, List.drop_zero, ax_qq_eq, ax_t_1301, kx_bt, c10]
  refine ax_inv_of (Nat.le_of_ble_eq_true rfl) (Nat.le_of_ble_eq_true rfl) (fun _ => absurd ‹_› (by decide)) (fun h => absurd h (by decide)) (Nat.le_refl _) (Nat.le_refl _) (xk_within _ _ _ ?_)
  rw [h3]
  simp only [ax_W_cons, ax_I, ax_cmp, ax_ii, ax_ll, ax_li, ax_st1, ax_st2, ax_kl, ax_k2, ax_fit, ax_rtok, List.getElem?_cons_zero, List.getElem?_cons_succ, List.length_cons, List.length_nil, List.set_cons_zero, List.set_cons_succ, Nat.reduceAdd, Nat.reduceDiv, Nat.reduceMod, Nat.reduceMul, Nat.reduceLT, Nat.reduceLeDiff, Int32.reduceOfInt, Int64.reduceOfInt, true_and, and_true, and_self, true_or, or_true, false_implies, true_implies, not_false_eq_true, not_true_eq_false, Value.category, Nat.reduceEqDiff, Option.toList, List.cons_append, List.nil_append, List.drop_succ_cons, List.drop_zero, ax_qq_eq, ax_t_1301, ax_j_1301_33, ax_n_1301_33, kx_bt, c10, x0, hal]
  refine ax_inv_of (Nat.le_of_ble_eq_true rfl) (Nat.le_of_ble_eq_true rfl) (fun _ => ax_rcv_ok (by omega) hfe.2.1) (fun h => absurd h (by decide)) (Nat.le_refl _) (Nat.le_refl _) (ck_fadd_ok hfe hz8 _ _ _ ?_)
  simp only [ax_W_cons, ax_I, ax_cmp, ax_ii, ax_ll, ax_li, ax_st1, ax_st2, ax_kl, ax_k2, ax_fit, ax_rtok, List.getElem?_cons_zero, List.getElem?_cons_succ, List.length_cons, List.length_nil, List.set_cons_zero, List.set_cons_succ, Nat.reduceAdd, Nat.reduceDiv, Nat.reduceMod, Nat.reduceMul, Nat.reduceLT, Nat.reduceLeDiff, Int32.reduceOfInt, Int64.reduceOfInt, true_and, and_true, and_self, true_or, or_true, false_implies, true_implies, not_false_eq_true, not_true_eq_false, Value.category, Nat.reduceEqDiff, Option.toList, List.cons_append, List.nil_append, List.drop_succ_cons, List.drop_zero, ax_qq_eq, ax_t_1301, n1]
  obtain ⟨-, -, -, -, -, z1, z2, z3⟩ := hfe
  have fr : ∀ (f : zF) j, (j < 42 ∨ 45 < j) → kfw es 42 f j = es j := fun f j hj => kfw_ne _ _ _ (by omega)
  exact hQ _ (xD_fr X (fun j hj => fr _ j (by omega)) (kb_fr hb (fun j hj => fr _ j (by omega))) (kfw_kf (by omega) (kz_upd z1 (by omega)) (kz_upd z2 (by omega)) (kz_upd z3 (by omega))) (kP_fr hP (fun j hj => fr _ j (by omega)))) (xfd_of (fun j hj => fr _ j (by omega)))
theorem xp_mark_no (X : xD es n k p hc kd pl0 ht hs F1 F2 B Fe un U mk M L la lb lc) (m b : Int32) (h : ¬ (kx_in m 0 3 = true ∧ (¬ b = 0 → mk m.toNatClampNeg = true))) (hQ : Q (some (.int 0)) es) : ax_Mt (d + 10) 1319 [.ref 0, .int m, .int b] n sl es Q := by
  obtain ⟨x0, hal, hk, hp, hhs, hC, hb, hS, hfe, hG, hP⟩ := id X
  unfold zXo at x0
  have c10 : ¬ (1 : Int32) = 0 := by decide
  have n1 : ((0 : Int32) = 0 ∨ (0 : Int32) = 1) := Or.inl rfl
  refine ax_Mt_go (m := ax_m_10_39) (ls := [some (.ref 0), some (.int m), some (.int b)]) rfl ax_b_1319_0 (Nat.le_of_ble_eq_true rfl) rfl ?_
  simp only [ax_W_cons, ax_I, ax_cmp, ax_ii, ax_ll, ax_li, ax_st1, ax_st2, ax_kl, ax_k2, ax_fit, ax_rtok, List.getElem?_cons_zero, List.getElem?_cons_succ, List.length_cons, List.length_nil, List.set_cons_zero, List.set_cons_succ, Nat.reduceAdd, Nat.reduceDiv, Nat.reduceMod, Nat.reduceMul, Nat.reduceLT, Nat.reduceLeDiff, Int32.reduceOfInt, Int64.reduceOfInt, true_and, and_true, and_self, true_or, or_true, false_implies, true_implies, not_false_eq_true, not_true_eq_false, Value.category, Nat.reduceEqDiff, Option.toList, List.cons_append, List.nil_append, List.drop_succ_cons, List.drop_zero, ax_qq_eq, ax_t_1319]
  refine ax_inv_of (Nat.le_of_ble_eq_true rfl) (Nat.le_of_ble_eq_true rfl) (fun _ => absurd ‹_› (by decide)) (fun h => absurd h (by decide)) (Nat.le_refl _) (Nat.le_refl _) (xk_within _ _ _ ?_)
  cases h2 : kx_in m 0 3
  · simp only [ax_W_cons, ax_I, ax_cmp, ax_ii, ax_ll, ax_li, ax_st1, ax_st2, ax_kl, ax_k2, ax_fit, ax_rtok, List.getElem?_cons_zero, List.getElem?_cons_succ, List.length_cons, List.length_nil, List.set_cons_zero, List.set_cons_succ, Nat.reduceAdd, Nat.reduceDiv, Nat.reduceMod, Nat.reduceMul, Nat.reduceLT, Nat.reduceLeDiff, Int32.reduceOfInt, Int64.reduceOfInt, true_and, and_true, and_self, true_or, or_true, false_implies, true_implies, not_false_eq_true, not_true_eq_false, Value.category, Nat.reduceEqDiff, Option.toList, List.cons_append, List.nil_append, List.drop_succ_cons, List.drop_zero, ax_qq_eq, ax_t_1319, kx_bf]
    exact hQ
  obtain ⟨m', -, hm', rfl⟩ := kx_in_nI (a := 0) (b := 3) (by decide) (by decide) h2
  rw [nI_clamp (by omega)] at h
  have hb0 : ¬ b = 0 := fun z => h ⟨h2, fun y => absurd z y⟩
  have hmk : mk m' = false := by
    cases e : mk m'
    · rfl
    · exact absurd ⟨h2, fun _ => e⟩ h
  simp only [ax_W_cons, ax_I, ax_cmp, ax_ii, ax_ll, ax_li, ax_st1, ax_st2, ax_kl, ax_k2, ax_fit, ax_rtok, List.getElem?_cons_zero, List.getElem?_cons_succ, List.length_cons, List.length_nil, List.set_cons_zero, List.set_cons_succ, Nat.reduceAdd, Nat.reduceDiv, Nat.reduceMod, Nat.reduceMul, Nat.reduceLT, Nat.reduceLeDiff, Int32.reduceOfInt, Int64.reduceOfInt, true_and, and_true, and_self, true_or, or_true, false_implies, true_implies, not_false_eq_true, not_true_eq_false, Value.category, Nat.reduceEqDiff, Option.toList, List.cons_append, List.nil_append, List.drop_succ_cons, List.drop_zero, ax_qq_eq, ax_t_1319, ax_j_1319_11, ax_n_1319_11, kx_bt, c10, hb0, x0, hal]
  refine ax_inv_of (Nat.le_of_ble_eq_true rfl) (Nat.le_of_ble_eq_true rfl) (fun _ => kP_rcv hal hP _) (fun h => absurd h (by decide)) (Nat.le_refl _) (Nat.le_refl _) (ck_goBack_no hal hP hm' hmk ?_)
  simp only [ax_W_cons, ax_I, ax_cmp, ax_ii, ax_ll, ax_li, ax_st1, ax_st2, ax_kl, ax_k2, ax_fit, ax_rtok, List.getElem?_cons_zero, List.getElem?_cons_succ, List.length_cons, List.length_nil, List.set_cons_zero, List.set_cons_succ, Nat.reduceAdd, Nat.reduceDiv, Nat.reduceMod, Nat.reduceMul, Nat.reduceLT, Nat.reduceLeDiff, Int32.reduceOfInt, Int64.reduceOfInt, true_and, and_true, and_self, true_or, or_true, false_implies, true_implies, not_false_eq_true, not_true_eq_false, Value.category, Nat.reduceEqDiff, Option.toList, List.cons_append, List.nil_append, List.drop_succ_cons, List.drop_zero, ax_qq_eq, ax_t_1319, n1]
  exact hQ
theorem xp_mark_lay (X : xD es n k p hc kd pl0 ht hs F1 F2 B Fe un U mk M L la lb lc) {m : Nat} (hm : m ≤ 3) (hQ : ∀ es', xD es' n k p hc kd pl0 ht hs F1 F2 B Fe un U (fun j => if j = m then true else mk j) (fun j => if j = m then (B, Fe) else M j) L la lb lc → xfd es es' → Q (some (.int 1)) es') : ax_Mt (d + 10) 1319 [.ref 0, .int (nI m), .int 0] n sl es Q := by
  obtain ⟨x0, hal, hk, hp, hhs, hC, hb, hS, hfe, hG, hP⟩ := id X
  unfold zXo at x0
  have c10 : ¬ (1 : Int32) = 0 := by decide
  have n1 : ((1 : Int32) = 0 ∨ (1 : Int32) = 1) := Or.inr rfl
  have h2 : kx_in (nI m) 0 3 = true := by
    unfold kx_in
    rw [decide_eq_true (show (0 : Int32) ≤ nI m from nI_pos' (by omega)), decide_eq_true (show nI m ≤ 3 from nI_le (b := 3) hm (by omega))]
    rfl
  refine ax_Mt_go (m := ax_m_10_39) (ls := [some (.ref 0), some (.int (nI m)), some (.int 0)]) rfl ax_b_1319_0 (Nat.le_of_ble_eq_true rfl) rfl ?_
  simp only [ax_W_cons, ax_I, ax_cmp, ax_ii, ax_ll, ax_li, ax_st1, ax_st2, ax_kl, ax_k2, ax_fit, ax_rtok, List.getElem?_cons_zero, List.getElem?_cons_succ, List.length_cons, List.length_nil, List.set_cons_zero, List.set_cons_succ, Nat.reduceAdd, Nat.reduceDiv, Nat.reduceMod, Nat.reduceMul, Nat.reduceLT, Nat.reduceLeDiff, Int32.reduceOfInt, Int64.reduceOfInt, true_and, and_true, and_self, true_or, or_true, false_implies, true_implies, not_false_eq_true, not_true_eq_false, Value.category, Nat.reduceEqDiff, Option.toList, List.cons_append, List.nil_append, List.drop_succ_cons, List.drop_zero, ax_qq_eq, ax_t_1319]
  refine ax_inv_of (Nat.le_of_ble_eq_true rfl) (Nat.le_of_ble_eq_true rfl) (fun _ => absurd ‹_› (by decide)) (fun h => absurd h (by decide)) (Nat.le_refl _) (Nat.le_refl _) (xk_within _ _ _ ?_)
  rw [h2]
  simp only [ax_W_cons, ax_I, ax_cmp, ax_ii, ax_ll, ax_li, ax_st1, ax_st2, ax_kl, ax_k2, ax_fit, ax_rtok, List.getElem?_cons_zero, List.getElem?_cons_succ, List.length_cons, List.length_nil, List.set_cons_zero, List.set_cons_succ, Nat.reduceAdd, Nat.reduceDiv, Nat.reduceMod, Nat.reduceMul, Nat.reduceLT, Nat.reduceLeDiff, Int32.reduceOfInt, Int64.reduceOfInt, true_and, and_true, and_self, true_or, or_true, false_implies, true_implies, not_false_eq_true, not_true_eq_false, Value.category, Nat.reduceEqDiff, Option.toList, List.cons_append, List.nil_append, List.drop_succ_cons, List.drop_zero, ax_qq_eq, ax_t_1319, ax_j_1319_11, ax_n_1319_11, ax_j_1319_32, ax_n_1319_32, kx_bt, c10, x0, hal]
  refine ax_inv_of (Nat.le_of_ble_eq_true rfl) (Nat.le_of_ble_eq_true rfl) (fun _ => kP_rcv hal hP _) (fun h => absurd h (by decide)) (Nat.le_refl _) (Nat.le_refl _) (ck_lay hal hP hb hfe hm ?_)
  intro es1 P1 f1
  simp only [ax_W_cons, ax_I, ax_cmp, ax_ii, ax_ll, ax_li, ax_st1, ax_st2, ax_kl, ax_k2, ax_fit, ax_rtok, List.getElem?_cons_zero, List.getElem?_cons_succ, List.length_cons, List.length_nil, List.set_cons_zero, List.set_cons_succ, Nat.reduceAdd, Nat.reduceDiv, Nat.reduceMod, Nat.reduceMul, Nat.reduceLT, Nat.reduceLeDiff, Int32.reduceOfInt, Int64.reduceOfInt, true_and, and_true, and_self, true_or, or_true, false_implies, true_implies, not_false_eq_true, not_true_eq_false, Value.category, Nat.reduceEqDiff, Option.toList, List.cons_append, List.nil_append, List.drop_succ_cons, List.drop_zero, ax_qq_eq, ax_t_1319, n1]
  exact hQ es1 (xD_fr X (fun j hj => f1 j (by omega)) (kb_fr hb (fun j hj => f1 j (by omega))) (kfF_fr hfe (fun j hj => f1 j (by omega))) P1) (xfd_of (fun j hj => f1 j (by omega)))
theorem xp_mark_go (X : xD es n k p hc kd pl0 ht hs F1 F2 B Fe un U mk M L la lb lc) {m : Nat} {b : Int32} (hb0 : ¬ b = 0) (hm : m ≤ 3) (hmk : mk m = true) (hQ : ∀ es', xD es' n k p hc kd pl0 ht hs F1 F2 (M m).1 (M m).2 0 U mk M L la lb lc → xfd es es' → Q (some (.int 1)) es') : ax_Mt (d + 10) 1319 [.ref 0, .int (nI m), .int b] n sl es Q := by
  obtain ⟨x0, hal, hk, hp, hhs, hC, hb, hS, hfe, hG, hP⟩ := id X
  unfold zXo at x0
  have c10 : ¬ (1 : Int32) = 0 := by decide
  have n1 : ((1 : Int32) = 0 ∨ (1 : Int32) = 1) := Or.inr rfl
  have h2 : kx_in (nI m) 0 3 = true := by
    unfold kx_in
    rw [decide_eq_true (show (0 : Int32) ≤ nI m from nI_pos' (by omega)), decide_eq_true (show nI m ≤ 3 from nI_le (b := 3) hm (by omega))]
    rfl
  refine ax_Mt_go (m := ax_m_10_39) (ls := [some (.ref 0), some (.int (nI m)), some (.int b)]) rfl ax_b_1319_0 (Nat.le_of_ble_eq_true rfl) rfl ?_
  simp only [ax_W_cons, ax_I, ax_cmp, ax_ii, ax_ll, ax_li, ax_st1, ax_st2, ax_kl, ax_k2, ax_fit, ax_rtok, List.getElem?_cons_zero, List.getElem?_cons_succ, List.length_cons, List.length_nil, List.set_cons_zero, List.set_cons_succ, Nat.reduceAdd, Nat.reduceDiv, Nat.reduceMod, Nat.reduceMul, Nat.reduceLT, Nat.reduceLeDiff, Int32.reduceOfInt, Int64.reduceOfInt, true_and, and_true, and_self, true_or, or_true, false_implies, true_implies, not_false_eq_true, not_true_eq_false, Value.category, Nat.reduceEqDiff, Option.toList, List.cons_append, List.nil_append, List.drop_succ_cons, List.drop_zero, ax_qq_eq, ax_t_1319]
  refine ax_inv_of (Nat.le_of_ble_eq_true rfl) (Nat.le_of_ble_eq_true rfl) (fun _ => absurd ‹_› (by decide)) (fun h => absurd h (by decide)) (Nat.le_refl _) (Nat.le_refl _) (xk_within _ _ _ ?_)
  rw [h2]
  simp only [ax_W_cons, ax_I, ax_cmp, ax_ii, ax_ll, ax_li, ax_st1, ax_st2, ax_kl, ax_k2, ax_fit, ax_rtok, List.getElem?_cons_zero, List.getElem?_cons_succ, List.length_cons, List.length_nil, List.set_cons_zero, List.set_cons_succ, Nat.reduceAdd, Nat.reduceDiv, Nat.reduceMod, Nat.reduceMul, Nat.reduceLT, Nat.reduceLeDiff, Int32.reduceOfInt, Int64.reduceOfInt, true_and, and_true, and_self, true_or, or_true, false_implies, true_implies, not_false_eq_true, not_true_eq_false, Value.category, Nat.reduceEqDiff, Option.toList, List.cons_append, List.nil_append, List.drop_succ_cons, List.drop_zero, ax_qq_eq, ax_t_1319, ax_j_1319_11, ax_n_1319_11, kx_bt, c10, hb0, x0, hal]
  refine ax_inv_of (Nat.le_of_ble_eq_true rfl) (Nat.le_of_ble_eq_true rfl) (fun _ => kP_rcv hal hP _) (fun h => absurd h (by decide)) (Nat.le_refl _) (Nat.le_refl _) (ck_goBack_ok hal hP ⟨_, _, _, _, _, _, _, hb⟩ ⟨_, hfe⟩ hm hmk ?_)
  intro es1 P1 b1 g1 f1
  simp only [ax_W_cons, ax_I, ax_cmp, ax_ii, ax_ll, ax_li, ax_st1, ax_st2, ax_kl, ax_k2, ax_fit, ax_rtok, List.getElem?_cons_zero, List.getElem?_cons_succ, List.length_cons, List.length_nil, List.set_cons_zero, List.set_cons_succ, Nat.reduceAdd, Nat.reduceDiv, Nat.reduceMod, Nat.reduceMul, Nat.reduceLT, Nat.reduceLeDiff, Int32.reduceOfInt, Int64.reduceOfInt, true_and, and_true, and_self, true_or, or_true, false_implies, true_implies, not_false_eq_true, not_true_eq_false, Value.category, Nat.reduceEqDiff, Option.toList, List.cons_append, List.nil_append, List.drop_succ_cons, List.drop_zero, ax_qq_eq, ax_t_1319, n1]
  exact hQ es1 (xD_fr X (fun j hj => f1 j (by omega)) b1 g1 P1) (xfd_of (fun j hj => f1 j (by omega)))
end XX
