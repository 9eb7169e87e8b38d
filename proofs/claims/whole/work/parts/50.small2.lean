/-! the reference: small askings, walked -/
section MM
variable {d n sl k p hc : Nat} {es : ax_H} {kd pm ht hs : Nat → Int32} {F1 F2 : Int32 → Int32 → Int32 → Int32 → Int32} {st : Nat → Int32} {b T C z : Nat} {sh pl dn fc fb fs : Nat → Int32} {Q : Option Value → ax_H → Prop}
theorem mp_arc (Z : mZ es n st k p hc kd pm ht hs F1 F2 T C sh pl dn) (c m : Int32) (hQ : ∀ es', mq es st es' → Q (some (.int (zq_arc k sh c m))) es') : ax_Mt (d + 10) 1494 [.ref 159, .int c, .int m] n sl es Q := by
  obtain ⟨E, S, hT, hdn, hA⟩ := Z
  obtain ⟨hal, hk, hp, hhs, hF, hK⟩ := id E
  unfold zq_arc at hQ
  refine ax_Mt_go (m := ax_m_11_86) (ls := [some (.ref 159), some (.int c), some (.int m), none, none]) rfl ax_b_1494_0 (Nat.le_of_ble_eq_true rfl) rfl ?_
  refine mk_thrown hal hK.1 rfl ?_
  intro es0 h0
  have E0 := mE_th E h0
  have S0 := mS_th S h0
  have hQ := hQ es0 (mq_of h0 (mfr_rf _) S0.1 (mfq_rf _) hA)
  simp only [ax_W_cons, ax_I, ax_cmp, ax_ii, ax_ll, ax_li, ax_st1, ax_st2, ax_kl, ax_k2, ax_fit, ax_rtok, List.getElem?_cons_zero, List.getElem?_cons_succ, List.length_cons, List.length_nil, List.set_cons_zero, List.set_cons_succ, Nat.reduceAdd, Nat.reduceDiv, Nat.reduceMod, Nat.reduceMul, Nat.reduceLT, Nat.reduceLeDiff, Int32.reduceOfInt, Int64.reduceOfInt, true_and, and_true, and_self, true_or, or_true, false_implies, true_implies, not_false_eq_true, not_true_eq_false, Value.category, Nat.reduceEqDiff, Option.toList, List.cons_append, List.nil_append, List.drop_succ_cons, List.drop_zero, ax_qq_eq, ax_t_1494]
  refine ax_inv_of (Nat.le_of_ble_eq_true rfl) (Nat.le_of_ble_eq_true rfl) (fun _ => mE_rcv E0 _) (fun h => absurd h (by decide)) (Nat.le_refl _) (Nat.le_refl _) (mk_isCell hal hk.2 E0.2.2.2.2.2 c ?_)
  simp only [ax_W_cons, ax_I, ax_cmp, ax_ii, ax_ll, ax_li, ax_st1, ax_st2, ax_kl, ax_k2, ax_fit, ax_rtok, List.getElem?_cons_zero, List.getElem?_cons_succ, List.length_cons, List.length_nil, List.set_cons_zero, List.set_cons_succ, Nat.reduceAdd, Nat.reduceDiv, Nat.reduceMod, Nat.reduceMul, Nat.reduceLT, Nat.reduceLeDiff, Int32.reduceOfInt, Int64.reduceOfInt, true_and, and_true, and_self, true_or, or_true, false_implies, true_implies, not_false_eq_true, not_true_eq_false, Value.category, Nat.reduceEqDiff, Option.toList, List.cons_append, List.nil_append, List.drop_succ_cons, List.drop_zero, ax_qq_eq, ax_t_1494, ax_j_1494_25, ax_n_1494_25, kx_b0]
  refine ⟨fun h => ?_, fun h => ?_⟩
  · rw [if_neg (fun z => by rw [h] at z; exact absurd z.1 (by decide))] at hQ
    exact hQ
  · have h : kx_cell k c = true := by simpa using h
    refine ax_inv_of (Nat.le_of_ble_eq_true rfl) (Nat.le_of_ble_eq_true rfl) (fun _ => mE_rcv E0 _) (fun h => absurd h (by decide)) (Nat.le_refl _) (Nat.le_refl _) (mk_cells hal E0.2.2.2.2.2 ?_)
    simp only [ax_W_cons, ax_I, ax_cmp, ax_ii, ax_ll, ax_li, ax_st1, ax_st2, ax_kl, ax_k2, ax_fit, ax_rtok, List.getElem?_cons_zero, List.getElem?_cons_succ, List.length_cons, List.length_nil, List.set_cons_zero, List.set_cons_succ, Nat.reduceAdd, Nat.reduceDiv, Nat.reduceMod, Nat.reduceMul, Nat.reduceLT, Nat.reduceLeDiff, Int32.reduceOfInt, Int64.reduceOfInt, true_and, and_true, and_self, true_or, or_true, false_implies, true_implies, not_false_eq_true, not_true_eq_false, Value.category, Nat.reduceEqDiff, Option.toList, List.cons_append, List.nil_append, List.drop_succ_cons, List.drop_zero, ax_qq_eq, ax_t_1494]
    refine ax_inv_of (Nat.le_of_ble_eq_true rfl) (Nat.le_of_ble_eq_true rfl) (fun _ => absurd ‹_› (by decide)) (fun h => absurd h (by decide)) (Nat.le_refl _) (Nat.le_refl _) (mk_within _ _ _ ?_)
    simp only [ax_W_cons, ax_I, ax_cmp, ax_ii, ax_ll, ax_li, ax_st1, ax_st2, ax_kl, ax_k2, ax_fit, ax_rtok, List.getElem?_cons_zero, List.getElem?_cons_succ, List.length_cons, List.length_nil, List.set_cons_zero, List.set_cons_succ, Nat.reduceAdd, Nat.reduceDiv, Nat.reduceMod, Nat.reduceMul, Nat.reduceLT, Nat.reduceLeDiff, Int32.reduceOfInt, Int64.reduceOfInt, true_and, and_true, and_self, true_or, or_true, false_implies, true_implies, not_false_eq_true, not_true_eq_false, Value.category, Nat.reduceEqDiff, Option.toList, List.cons_append, List.nil_append, List.drop_succ_cons, List.drop_zero, ax_qq_eq, ax_t_1494, ax_j_1494_25, ax_n_1494_25, ax_j_1494_27, ax_n_1494_27, kx_b0]
    refine ⟨fun h2 => ?_, fun h2 => ?_⟩
    · have h2 : kx_in m 1 (nI k) = true := by simpa using h2
      rw [if_pos ⟨h, h2⟩] at hQ
      obtain ⟨c', hc', rfl⟩ := kx_cell_in (by omega) h
      obtain ⟨m', hm1, hm', rfl⟩ := kx_in_nI (a := 1) (b := k) (by decide) (by omega) h2
      rw [nI_clamp (n := m') (by omega)] at hQ
      obtain ⟨th, tp, sz, at0, fl, cd, nm, rm, on, fh, un, g, w0⟩ := id E0.2.2.2.2.2.1
      have y1 := S0.1.1
      rw [ax_n_1494_32]
      refine kx_loop (k := m') (I := fun x => ax_W (d + 10) n sl 1494 [(2, .iload 4), (1, .iload 2), (3, .if_icmp .ge 63), (1, .iload 3), (1, .aload 0), (3, .getfield 2910), (1, .iconst 2), (1, .iload 1), (2, .iload 4), (1, .iadd), (1, .aload 0), (3, .invokeinterface 1450 5), (1, .irem), (1, .iadd), (1, .iaload), (1, .iadd), (1, .istore 3), (3, .iinc 4 1), (3, .goto 32)] 32 [some (.ref 159), some (.int (nI c')), some (.int (nI m')), some (.int (kx_arc k sh (nI c') x)), some (.int (nI x))] [] n sl es0 (ax_qq n sl Q)) ?_ ?_
      · have e0 := kx_nn (k := m') (by omega)
        simp only [ax_W_cons, ax_I, ax_cmp, ax_ii, ax_ll, ax_li, ax_st1, ax_st2, ax_kl, ax_k2, ax_fit, ax_rtok, List.getElem?_cons_zero, List.getElem?_cons_succ, List.length_cons, List.length_nil, List.set_cons_zero, List.set_cons_succ, Nat.reduceAdd, Nat.reduceDiv, Nat.reduceMod, Nat.reduceMul, Nat.reduceLT, Nat.reduceLeDiff, Int32.reduceOfInt, Int64.reduceOfInt, true_and, and_true, and_self, true_or, or_true, false_implies, true_implies, not_false_eq_true, not_true_eq_false, Value.category, Nat.reduceEqDiff, Option.toList, List.cons_append, List.nil_append, List.drop_succ_cons, List.drop_zero, ax_qq_eq, ax_t_1494, ax_j_1494_63, ax_n_1494_63, e0]
        exact hQ
      · intro x hx ih
        obtain ⟨q1, -, -, q4⟩ := kx_ix hx (N := 12) (by omega) (by decide)
        have hlt : (c' + x) % k < k := Nat.mod_lt _ (by omega)
        have k0 : ¬ nI k = 0 := nI_ne0 (by omega) (by omega)
        have a0 : nI c' + nI x = nI (c' + x) := kn_add _ _
        have a1 := pk_rem (a := c' + x) (d := k) (by omega) (by omega) (by omega)
        obtain ⟨e1, v1, e2⟩ := mx_2 (c := (c' + x) % k) (by omega)
        have e3 := S0.2.1.2.2.1 _ hlt
        rw [kx_arc, kx_ring_mod hk.2 hc' x, nI_clamp (by omega)] at ih
        simp only [ax_W_cons, ax_I, ax_cmp, ax_ii, ax_ll, ax_li, ax_st1, ax_st2, ax_kl, ax_k2, ax_fit, ax_rtok, List.getElem?_cons_zero, List.getElem?_cons_succ, List.length_cons, List.length_nil, List.set_cons_zero, List.set_cons_succ, Nat.reduceAdd, Nat.reduceDiv, Nat.reduceMod, Nat.reduceMul, Nat.reduceLT, Nat.reduceLeDiff, Int32.reduceOfInt, Int64.reduceOfInt, true_and, and_true, and_self, true_or, or_true, false_implies, true_implies, not_false_eq_true, not_true_eq_false, Value.category, Nat.reduceEqDiff, Option.toList, List.cons_append, List.nil_append, List.drop_succ_cons, List.drop_zero, ax_qq_eq, ax_t_1494, w0, mo_f, hal, q1]
        refine ax_inv_of (Nat.le_of_ble_eq_true rfl) (Nat.le_of_ble_eq_true rfl) (fun _ => mE_rcv E0 _) (fun h => absurd h (by decide)) (Nat.le_refl _) (Nat.le_refl _) (mk_cells hal E0.2.2.2.2.2 ?_)
        simp only [ax_W_cons, ax_I, ax_cmp, ax_ii, ax_ll, ax_li, ax_st1, ax_st2, ax_kl, ax_k2, ax_fit, ax_rtok, List.getElem?_cons_zero, List.getElem?_cons_succ, List.length_cons, List.length_nil, List.set_cons_zero, List.set_cons_succ, Nat.reduceAdd, Nat.reduceDiv, Nat.reduceMod, Nat.reduceMul, Nat.reduceLT, Nat.reduceLeDiff, Int32.reduceOfInt, Int64.reduceOfInt, true_and, and_true, and_self, true_or, or_true, false_implies, true_implies, not_false_eq_true, not_true_eq_false, Value.category, Nat.reduceEqDiff, Option.toList, List.cons_append, List.nil_append, List.drop_succ_cons, List.drop_zero, ax_qq_eq, ax_t_1494, y1, hal, k0, a0, a1, e1, v1, e2, e3, q4]
        rw [ax_j_1494_32]
        exact ih
    · have h2 : kx_in m 1 (nI k) = false := by simpa using h2
      rw [if_neg (fun z => by rw [h2] at z; exact absurd z.2 (by decide))] at hQ
      exact hQ
theorem mp_hush (Z : mZ es n st k p hc kd pm ht hs F1 F2 T C sh pl dn) (hQ : ∀ es', mq es st es' → Q (some (.int (kx_hush sh k))) es') : ax_Mt (d + 10) 1498 [.ref 159] n sl es Q := by
  obtain ⟨E, S, hT, hdn, hA⟩ := Z
  obtain ⟨hal, hk, hp, hhs, hF, hK⟩ := id E
  refine ax_Mt_go (m := ax_m_11_90) (ls := [some (.ref 159), none, none]) rfl ax_b_1498_0 (Nat.le_of_ble_eq_true rfl) rfl ?_
  refine mk_thrown hal hK.1 rfl ?_
  intro es0 h0
  have E0 := mE_th E h0
  have S0 := mS_th S h0
  have hQ := hQ es0 (mq_of h0 (mfr_rf _) S0.1 (mfq_rf _) hA)
  obtain ⟨th, tp, sz, at0, fl, cd, nm, rm, on, fh, un, g, w0⟩ := id E0.2.2.2.2.2.1
  have y1 := S0.1.1
  have c30 : ¬ (3 : Int32) = 0 := by decide
  simp only [ax_W_cons, ax_I, ax_cmp, ax_ii, ax_ll, ax_li, ax_st1, ax_st2, ax_kl, ax_k2, ax_fit, ax_rtok, List.getElem?_cons_zero, List.getElem?_cons_succ, List.length_cons, List.length_nil, List.set_cons_zero, List.set_cons_succ, Nat.reduceAdd, Nat.reduceDiv, Nat.reduceMod, Nat.reduceMul, Nat.reduceLT, Nat.reduceLeDiff, Int32.reduceOfInt, Int64.reduceOfInt, true_and, and_true, and_self, true_or, or_true, false_implies, true_implies, not_false_eq_true, not_true_eq_false, Value.category, Nat.reduceEqDiff, Option.toList, List.cons_append, List.nil_append, List.drop_succ_cons, List.drop_zero, ax_qq_eq, ax_t_1498]
  rw [ax_n_1498_9]
  refine kx_loop (k := k) (I := fun x => ax_W (d + 10) n sl 1498 [(1, .iload 2), (1, .aload 0), (3, .invokeinterface 1450 5), (3, .if_icmp .ge 38), (1, .iload 1), (1, .aload 0), (3, .getfield 2910), (1, .iconst 2), (1, .iload 2), (1, .iadd), (1, .iaload), (1, .iconst 2), (1, .iadd), (1, .iconst 3), (1, .idiv), (1, .iadd), (1, .istore 1), (3, .iinc 2 1), (3, .goto 9)] 9 [some (.ref 159), some (.int (kx_hush sh x)), some (.int (nI x))] [] n sl es0 (ax_qq n sl Q)) ?_ ?_
  · have e0 := kx_nn (k := k) (by omega)
    simp only [ax_W_cons, ax_I, ax_cmp, ax_ii, ax_ll, ax_li, ax_st1, ax_st2, ax_kl, ax_k2, ax_fit, ax_rtok, List.getElem?_cons_zero, List.getElem?_cons_succ, List.length_cons, List.length_nil, List.set_cons_zero, List.set_cons_succ, Nat.reduceAdd, Nat.reduceDiv, Nat.reduceMod, Nat.reduceMul, Nat.reduceLT, Nat.reduceLeDiff, Int32.reduceOfInt, Int64.reduceOfInt, true_and, and_true, and_self, true_or, or_true, false_implies, true_implies, not_false_eq_true, not_true_eq_false, Value.category, Nat.reduceEqDiff, Option.toList, List.cons_append, List.nil_append, List.drop_succ_cons, List.drop_zero, ax_qq_eq, ax_t_1498]
    refine ax_inv_of (Nat.le_of_ble_eq_true rfl) (Nat.le_of_ble_eq_true rfl) (fun _ => mE_rcv E0 _) (fun h => absurd h (by decide)) (Nat.le_refl _) (Nat.le_refl _) (mk_cells hal E0.2.2.2.2.2 ?_)
    simp only [ax_W_cons, ax_I, ax_cmp, ax_ii, ax_ll, ax_li, ax_st1, ax_st2, ax_kl, ax_k2, ax_fit, ax_rtok, List.getElem?_cons_zero, List.getElem?_cons_succ, List.length_cons, List.length_nil, List.set_cons_zero, List.set_cons_succ, Nat.reduceAdd, Nat.reduceDiv, Nat.reduceMod, Nat.reduceMul, Nat.reduceLT, Nat.reduceLeDiff, Int32.reduceOfInt, Int64.reduceOfInt, true_and, and_true, and_self, true_or, or_true, false_implies, true_implies, not_false_eq_true, not_true_eq_false, Value.category, Nat.reduceEqDiff, Option.toList, List.cons_append, List.nil_append, List.drop_succ_cons, List.drop_zero, ax_qq_eq, ax_t_1498, ax_j_1498_38, ax_n_1498_38, e0]
    exact hQ
  · intro x hx ih
    obtain ⟨q1, -, -, q4⟩ := kx_ix hx hk.2 (by decide)
    obtain ⟨e1, v1, e2⟩ := mx_2 (c := x) (by omega)
    have e3 := S0.2.1.2.2.1 x hx
    obtain ⟨v, hv, ev⟩ := S.2.2.1 x (by omega)
    have e5 : sh x + 3 - 1 = sh x + 2 := by
      rw [ev]
      have : ∀ v : Fin 100, nI v.val + 3 - 1 = nI v.val + 2 := by decide +kernel
      exact this ⟨v, by omega⟩
    rw [kx_hush, e5] at ih
    simp only [ax_W_cons, ax_I, ax_cmp, ax_ii, ax_ll, ax_li, ax_st1, ax_st2, ax_kl, ax_k2, ax_fit, ax_rtok, List.getElem?_cons_zero, List.getElem?_cons_succ, List.length_cons, List.length_nil, List.set_cons_zero, List.set_cons_succ, Nat.reduceAdd, Nat.reduceDiv, Nat.reduceMod, Nat.reduceMul, Nat.reduceLT, Nat.reduceLeDiff, Int32.reduceOfInt, Int64.reduceOfInt, true_and, and_true, and_self, true_or, or_true, false_implies, true_implies, not_false_eq_true, not_true_eq_false, Value.category, Nat.reduceEqDiff, Option.toList, List.cons_append, List.nil_append, List.drop_succ_cons, List.drop_zero, ax_qq_eq, ax_t_1498]
    refine ax_inv_of (Nat.le_of_ble_eq_true rfl) (Nat.le_of_ble_eq_true rfl) (fun _ => mE_rcv E0 _) (fun h => absurd h (by decide)) (Nat.le_refl _) (Nat.le_refl _) (mk_cells hal E0.2.2.2.2.2 ?_)
    simp only [ax_W_cons, ax_I, ax_cmp, ax_ii, ax_ll, ax_li, ax_st1, ax_st2, ax_kl, ax_k2, ax_fit, ax_rtok, List.getElem?_cons_zero, List.getElem?_cons_succ, List.length_cons, List.length_nil, List.set_cons_zero, List.set_cons_succ, Nat.reduceAdd, Nat.reduceDiv, Nat.reduceMod, Nat.reduceMul, Nat.reduceLT, Nat.reduceLeDiff, Int32.reduceOfInt, Int64.reduceOfInt, true_and, and_true, and_self, true_or, or_true, false_implies, true_implies, not_false_eq_true, not_true_eq_false, Value.category, Nat.reduceEqDiff, Option.toList, List.cons_append, List.nil_append, List.drop_succ_cons, List.drop_zero, ax_qq_eq, ax_t_1498, w0, y1, mo_f, hal, c30, e1, v1, e2, e3, q1, q4]
    rw [ax_j_1498_9]
    exact ih
theorem mp_alike (Z : mZ es n st k p hc kd pm ht hs F1 F2 T C sh pl dn) (hQ : ∀ es', mq es st es' → Q (some (.int (kx_pairs k sh k))) es') : ax_Mt (d + 10) 1505 [.ref 159] n sl es Q := by
  obtain ⟨E, S, hT, hdn, hA⟩ := Z
  obtain ⟨hal, hk, hp, hhs, hF, hK⟩ := id E
  refine ax_Mt_go (m := ax_m_11_97) (ls := [some (.ref 159), none, none, none]) rfl ax_b_1505_0 (Nat.le_of_ble_eq_true rfl) rfl ?_
  refine mk_thrown hal hK.1 rfl ?_
  intro es0 h0
  have E0 := mE_th E h0
  have S0 := mS_th S h0
  have hQ := hQ es0 (mq_of h0 (mfr_rf _) S0.1 (mfq_rf _) hA)
  obtain ⟨th, tp, sz, at0, fl, cd, nm, rm, on, fh, un, g, w0⟩ := id E0.2.2.2.2.2.1
  have y1 := S0.1.1
  simp only [ax_W_cons, ax_I, ax_cmp, ax_ii, ax_ll, ax_li, ax_st1, ax_st2, ax_kl, ax_k2, ax_fit, ax_rtok, List.getElem?_cons_zero, List.getElem?_cons_succ, List.length_cons, List.length_nil, List.set_cons_zero, List.set_cons_succ, Nat.reduceAdd, Nat.reduceDiv, Nat.reduceMod, Nat.reduceMul, Nat.reduceLT, Nat.reduceLeDiff, Int32.reduceOfInt, Int64.reduceOfInt, true_and, and_true, and_self, true_or, or_true, false_implies, true_implies, not_false_eq_true, not_true_eq_false, Value.category, Nat.reduceEqDiff, Option.toList, List.cons_append, List.nil_append, List.drop_succ_cons, List.drop_zero, ax_qq_eq, ax_t_1505]
  rw [ax_n_1505_9]
  refine kx_loop (k := k) (I := fun x => ∀ v3, ax_W (d + 10) n sl 1505 [(1, .iload 2), (1, .aload 0), (3, .invokeinterface 1450 5), (3, .if_icmp .ge 68), (1, .iload 2), (1, .iconst 1), (1, .iadd), (1, .istore 3)] 9 [some (.ref 159), some (.int (kx_pairs k sh x)), some (.int (nI x)), v3] [] n sl es0 (ax_qq n sl Q)) ?_ ?_ none
  · intro v3
    have e0 := kx_nn (k := k) (by omega)
    simp only [ax_W_cons, ax_I, ax_cmp, ax_ii, ax_ll, ax_li, ax_st1, ax_st2, ax_kl, ax_k2, ax_fit, ax_rtok, List.getElem?_cons_zero, List.getElem?_cons_succ, List.length_cons, List.length_nil, List.set_cons_zero, List.set_cons_succ, Nat.reduceAdd, Nat.reduceDiv, Nat.reduceMod, Nat.reduceMul, Nat.reduceLT, Nat.reduceLeDiff, Int32.reduceOfInt, Int64.reduceOfInt, true_and, and_true, and_self, true_or, or_true, false_implies, true_implies, not_false_eq_true, not_true_eq_false, Value.category, Nat.reduceEqDiff, Option.toList, List.cons_append, List.nil_append, List.drop_succ_cons, List.drop_zero, ax_qq_eq, ax_t_1505]
    refine ax_inv_of (Nat.le_of_ble_eq_true rfl) (Nat.le_of_ble_eq_true rfl) (fun _ => mE_rcv E0 _) (fun h => absurd h (by decide)) (Nat.le_refl _) (Nat.le_refl _) (mk_cells hal E0.2.2.2.2.2 ?_)
    simp only [ax_W_cons, ax_I, ax_cmp, ax_ii, ax_ll, ax_li, ax_st1, ax_st2, ax_kl, ax_k2, ax_fit, ax_rtok, List.getElem?_cons_zero, List.getElem?_cons_succ, List.length_cons, List.length_nil, List.set_cons_zero, List.set_cons_succ, Nat.reduceAdd, Nat.reduceDiv, Nat.reduceMod, Nat.reduceMul, Nat.reduceLT, Nat.reduceLeDiff, Int32.reduceOfInt, Int64.reduceOfInt, true_and, and_true, and_self, true_or, or_true, false_implies, true_implies, not_false_eq_true, not_true_eq_false, Value.category, Nat.reduceEqDiff, Option.toList, List.cons_append, List.nil_append, List.drop_succ_cons, List.drop_zero, ax_qq_eq, ax_t_1505, ax_j_1505_68, ax_n_1505_68, e0]
    exact hQ
  · intro x hx ih v3
    obtain ⟨q1, -, -, q4⟩ := kx_ix hx hk.2 (by decide)
    obtain ⟨e1, v1, e2⟩ := mx_2 (c := x) (by omega)
    have e3 := S0.2.1.2.2.1 x hx
    rw [kx_pairs] at ih
    generalize kx_pairs k sh x = A at ih ⊢
    simp only [ax_W_cons, ax_I, ax_cmp, ax_ii, ax_ll, ax_li, ax_st1, ax_st2, ax_kl, ax_k2, ax_fit, ax_rtok, List.getElem?_cons_zero, List.getElem?_cons_succ, List.length_cons, List.length_nil, List.set_cons_zero, List.set_cons_succ, Nat.reduceAdd, Nat.reduceDiv, Nat.reduceMod, Nat.reduceMul, Nat.reduceLT, Nat.reduceLeDiff, Int32.reduceOfInt, Int64.reduceOfInt, true_and, and_true, and_self, true_or, or_true, false_implies, true_implies, not_false_eq_true, not_true_eq_false, Value.category, Nat.reduceEqDiff, Option.toList, List.cons_append, List.nil_append, List.drop_succ_cons, List.drop_zero, ax_qq_eq, ax_t_1505]
    refine ax_inv_of (Nat.le_of_ble_eq_true rfl) (Nat.le_of_ble_eq_true rfl) (fun _ => mE_rcv E0 _) (fun h => absurd h (by decide)) (Nat.le_refl _) (Nat.le_refl _) (mk_cells hal E0.2.2.2.2.2 ?_)
    simp only [ax_W_cons, ax_I, ax_cmp, ax_ii, ax_ll, ax_li, ax_st1, ax_st2, ax_kl, ax_k2, ax_fit, ax_rtok, List.getElem?_cons_zero, List.getElem?_cons_succ, List.length_cons, List.length_nil, List.set_cons_zero, List.set_cons_succ, Nat.reduceAdd, Nat.reduceDiv, Nat.reduceMod, Nat.reduceMul, Nat.reduceLT, Nat.reduceLeDiff, Int32.reduceOfInt, Int64.reduceOfInt, true_and, and_true, and_self, true_or, or_true, false_implies, true_implies, not_false_eq_true, not_true_eq_false, Value.category, Nat.reduceEqDiff, Option.toList, List.cons_append, List.nil_append, List.drop_succ_cons, List.drop_zero, ax_qq_eq, ax_t_1505, q1, q4]
    rw [ax_n_1505_21]
    refine kx_loop (k := k - (x + 1)) (I := fun j => ax_W (d + 10) n sl 1505 [(1, .iload 3), (1, .aload 0), (3, .invokeinterface 1450 5), (3, .if_icmp .ge 62), (1, .iload 1), (1, .aload 0), (3, .getfield 2910), (1, .iconst 2), (1, .iload 2), (1, .iadd), (1, .iaload), (1, .aload 0), (3, .getfield 2910), (1, .iconst 2), (1, .iload 3), (1, .iadd), (1, .iaload), (3, .if_icmp .ne 53), (1, .iconst 1), (3, .goto 54)] 21 [some (.ref 159), some (.int (kx_pin sh x A j)), some (.int (nI x)), some (.int (nI (x + 1 + j)))] [] n sl es0 (ax_qq n sl Q)) ?_ ?_
    · rw [show x + 1 + (k - (x + 1)) = k by omega]
      have e0 := kx_nn (k := k) (by omega)
      simp only [ax_W_cons, ax_I, ax_cmp, ax_ii, ax_ll, ax_li, ax_st1, ax_st2, ax_kl, ax_k2, ax_fit, ax_rtok, List.getElem?_cons_zero, List.getElem?_cons_succ, List.length_cons, List.length_nil, List.set_cons_zero, List.set_cons_succ, Nat.reduceAdd, Nat.reduceDiv, Nat.reduceMod, Nat.reduceMul, Nat.reduceLT, Nat.reduceLeDiff, Int32.reduceOfInt, Int64.reduceOfInt, true_and, and_true, and_self, true_or, or_true, false_implies, true_implies, not_false_eq_true, not_true_eq_false, Value.category, Nat.reduceEqDiff, Option.toList, List.cons_append, List.nil_append, List.drop_succ_cons, List.drop_zero, ax_qq_eq, ax_t_1505]
      refine ax_inv_of (Nat.le_of_ble_eq_true rfl) (Nat.le_of_ble_eq_true rfl) (fun _ => mE_rcv E0 _) (fun h => absurd h (by decide)) (Nat.le_refl _) (Nat.le_refl _) (mk_cells hal E0.2.2.2.2.2 ?_)
      simp only [ax_W_cons, ax_I, ax_cmp, ax_ii, ax_ll, ax_li, ax_st1, ax_st2, ax_kl, ax_k2, ax_fit, ax_rtok, List.getElem?_cons_zero, List.getElem?_cons_succ, List.length_cons, List.length_nil, List.set_cons_zero, List.set_cons_succ, Nat.reduceAdd, Nat.reduceDiv, Nat.reduceMod, Nat.reduceMul, Nat.reduceLT, Nat.reduceLeDiff, Int32.reduceOfInt, Int64.reduceOfInt, true_and, and_true, and_self, true_or, or_true, false_implies, true_implies, not_false_eq_true, not_true_eq_false, Value.category, Nat.reduceEqDiff, Option.toList, List.cons_append, List.nil_append, List.drop_succ_cons, List.drop_zero, ax_qq_eq, ax_t_1505, ax_j_1505_62, ax_n_1505_62, e0, q4]
      rw [ax_j_1505_9]
      exact ih _
    · intro j hj ih2
      obtain ⟨r1, -, -, r4⟩ := kx_ix (c := x + 1 + j) (k := k) (by omega) hk.2 (by decide)
      obtain ⟨a1, a2, a3⟩ := mx_2 (c := x + 1 + j) (by omega)
      have a4 := S0.2.1.2.2.1 (x + 1 + j) (by omega)
      rw [kx_pin] at ih2
      simp only [ax_W_cons, ax_I, ax_cmp, ax_ii, ax_ll, ax_li, ax_st1, ax_st2, ax_kl, ax_k2, ax_fit, ax_rtok, List.getElem?_cons_zero, List.getElem?_cons_succ, List.length_cons, List.length_nil, List.set_cons_zero, List.set_cons_succ, Nat.reduceAdd, Nat.reduceDiv, Nat.reduceMod, Nat.reduceMul, Nat.reduceLT, Nat.reduceLeDiff, Int32.reduceOfInt, Int64.reduceOfInt, true_and, and_true, and_self, true_or, or_true, false_implies, true_implies, not_false_eq_true, not_true_eq_false, Value.category, Nat.reduceEqDiff, Option.toList, List.cons_append, List.nil_append, List.drop_succ_cons, List.drop_zero, ax_qq_eq, ax_t_1505]
      refine ax_inv_of (Nat.le_of_ble_eq_true rfl) (Nat.le_of_ble_eq_true rfl) (fun _ => mE_rcv E0 _) (fun h => absurd h (by decide)) (Nat.le_refl _) (Nat.le_refl _) (mk_cells hal E0.2.2.2.2.2 ?_)
      simp only [ax_W_cons, ax_I, ax_cmp, ax_ii, ax_ll, ax_li, ax_st1, ax_st2, ax_kl, ax_k2, ax_fit, ax_rtok, List.getElem?_cons_zero, List.getElem?_cons_succ, List.length_cons, List.length_nil, List.set_cons_zero, List.set_cons_succ, Nat.reduceAdd, Nat.reduceDiv, Nat.reduceMod, Nat.reduceMul, Nat.reduceLT, Nat.reduceLeDiff, Int32.reduceOfInt, Int64.reduceOfInt, true_and, and_true, and_self, true_or, or_true, false_implies, true_implies, not_false_eq_true, not_true_eq_false, Value.category, Nat.reduceEqDiff, Option.toList, List.cons_append, List.nil_append, List.drop_succ_cons, List.drop_zero, ax_qq_eq, ax_t_1505, ax_j_1505_53, ax_n_1505_53, ax_j_1505_54, ax_n_1505_54, w0, y1, mo_f, hal, r1, e1, v1, e2, e3, a1, a2, a3, a4, r4, Int32.add_zero]
      simp only [ax_j_1505_21]
      refine ⟨fun h => ?_, fun h => ?_⟩
      · rw [if_neg h] at ih2
        exact ih2
      · simp only [Classical.not_not] at h
        rw [if_pos h] at ih2
        exact ih2
theorem mp_even (Z : mZ es n st k p hc kd pm ht hs F1 F2 T C sh pl dn) (hQ : ∀ es', mq es st es' → Q (some (.int (kx_b (kx_even k (nI C) sh (k / 2))))) es') : ax_Mt (d + 10) 1506 [.ref 159] n sl es Q := by
  obtain ⟨E, S, hT, hdn, hA⟩ := Z
  obtain ⟨hal, hk, hp, hhs, hF, hK⟩ := id E
  refine ax_Mt_go (m := ax_m_11_98) (ls := [some (.ref 159)]) rfl ax_b_1506_0 (Nat.le_of_ble_eq_true rfl) rfl ?_
  refine mk_thrown hal hK.1 rfl ?_
  intro es0 h0
  have E0 := mE_th E h0
  have S0 := mS_th S h0
  simp only [ax_W_cons, ax_I, ax_cmp, ax_ii, ax_ll, ax_li, ax_st1, ax_st2, ax_kl, ax_k2, ax_fit, ax_rtok, List.getElem?_cons_zero, List.getElem?_cons_succ, List.length_cons, List.length_nil, List.set_cons_zero, List.set_cons_succ, Nat.reduceAdd, Nat.reduceDiv, Nat.reduceMod, Nat.reduceMul, Nat.reduceLT, Nat.reduceLeDiff, Int32.reduceOfInt, Int64.reduceOfInt, true_and, and_true, and_self, true_or, or_true, false_implies, true_implies, not_false_eq_true, not_true_eq_false, Value.category, Nat.reduceEqDiff, Option.toList, List.cons_append, List.nil_append, List.drop_succ_cons, List.drop_zero, ax_qq_eq, ax_t_1506]
  refine ax_inv_of (Nat.le_of_ble_eq_true rfl) (Nat.le_of_ble_eq_true rfl) (fun _ => mE_rcv E0 _) (fun h => absurd h (by decide)) (Nat.le_refl _) (Nat.le_refl _) (mk_tries E0 S0 ?_)
  intro es1 st1 f1 f2 f3 f4
  have E1 := mE_fr E0 f1
  simp only [ax_W_cons, ax_I, ax_cmp, ax_ii, ax_ll, ax_li, ax_st1, ax_st2, ax_kl, ax_k2, ax_fit, ax_rtok, List.getElem?_cons_zero, List.getElem?_cons_succ, List.length_cons, List.length_nil, List.set_cons_zero, List.set_cons_succ, Nat.reduceAdd, Nat.reduceDiv, Nat.reduceMod, Nat.reduceMul, Nat.reduceLT, Nat.reduceLeDiff, Int32.reduceOfInt, Int64.reduceOfInt, true_and, and_true, and_self, true_or, or_true, false_implies, true_implies, not_false_eq_true, not_true_eq_false, Value.category, Nat.reduceEqDiff, Option.toList, List.cons_append, List.nil_append, List.drop_succ_cons, List.drop_zero, ax_qq_eq, ax_t_1506]
  refine ax_inv_of (Nat.le_of_ble_eq_true rfl) (Nat.le_of_ble_eq_true rfl) (fun _ => mE_rcv E1 _) (fun h => absurd h (by decide)) (Nat.le_refl _) (Nat.le_refl _) (mk_turns hal E1.2.2.2.2.2 f3.1 (by omega) hk.2 hp (b := 1092) (by omega) f3.2.1 S.2.2.2.2.1 ?_)
  intro es2 st2 g1 g2 g3 g4
  have hQ := hQ es2 (mq_of h0 (mfr_trans f1 g1) g2 (mfq_trans (mfs_q (by omega) f2) (mfs_q (by omega) g3)) hA)
  simp only [ax_W_cons, ax_I, ax_cmp, ax_ii, ax_ll, ax_li, ax_st1, ax_st2, ax_kl, ax_k2, ax_fit, ax_rtok, List.getElem?_cons_zero, List.getElem?_cons_succ, List.length_cons, List.length_nil, List.set_cons_zero, List.set_cons_succ, Nat.reduceAdd, Nat.reduceDiv, Nat.reduceMod, Nat.reduceMul, Nat.reduceLT, Nat.reduceLeDiff, Int32.reduceOfInt, Int64.reduceOfInt, true_and, and_true, and_self, true_or, or_true, false_implies, true_implies, not_false_eq_true, not_true_eq_false, Value.category, Nat.reduceEqDiff, Option.toList, List.cons_append, List.nil_append, List.drop_succ_cons, List.drop_zero, ax_qq_eq, ax_t_1506, ax_j_1506_23, ax_n_1506_23, ax_j_1506_24, ax_n_1506_24, kx_b0]
  generalize kx_even k (nI C) sh (k / 2) = B at hQ
  cases B
  · exact ⟨fun _ => hQ, fun h => absurd (show ¬ (!false) = false by decide) h⟩
  · exact ⟨fun h => absurd (show (!true) = false by decide) h, fun _ => hQ⟩
theorem mp_calm (Z : mZ es n st k p hc kd pm ht hs F1 F2 T C sh pl dn) (hQ : ∀ es', mq es st es' → Q (some (.int (kx_min (kx_calm k sh (2 * k)).1 (nI k)))) es') : ax_Mt (d + 10) 1507 [.ref 159] n sl es Q := by
  obtain ⟨E, S, hT, hdn, hA⟩ := Z
  obtain ⟨hal, hk, hp, hhs, hF, hK⟩ := id E
  rw [mx_calm hk.2 (by omega) S.2.2.1] at hQ
  refine ax_Mt_go (m := ax_m_11_99) (ls := [some (.ref 159), none, none, none]) rfl ax_b_1507_0 (Nat.le_of_ble_eq_true rfl) rfl ?_
  refine mk_thrown hal hK.1 rfl ?_
  intro es0 h0
  have E0 := mE_th E h0
  have S0 := mS_th S h0
  have hQ := hQ es0 (mq_of h0 (mfr_rf _) S0.1 (mfq_rf _) hA)
  obtain ⟨th, tp, sz, at0, fl, cd, nm, rm, on, fh, un, g, w0⟩ := id E0.2.2.2.2.2.1
  have y1 := S0.1.1
  have k0 : ¬ nI k = 0 := nI_ne0 (by omega) (by omega)
  have hmx : ∀ c, kq_mx (kq_Z k sh) k c ≤ k := fun c => by
    by_cases h : kq_mx (kq_Z k sh) k c ≤ k
    · exact h
    · exfalso
      rcases (kq_mx_sp (Z := kq_Z k sh) (k := k) (r := k + 1) c).mp (by omega) with h2 | ⟨c2, h2, h3⟩
      · omega
      · have := ((kq_lg_sp k 0 (fun j hj => by omega)).mp h3).1
        omega
  simp only [ax_W_cons, ax_I, ax_cmp, ax_ii, ax_ll, ax_li, ax_st1, ax_st2, ax_kl, ax_k2, ax_fit, ax_rtok, List.getElem?_cons_zero, List.getElem?_cons_succ, List.length_cons, List.length_nil, List.set_cons_zero, List.set_cons_succ, Nat.reduceAdd, Nat.reduceDiv, Nat.reduceMod, Nat.reduceMul, Nat.reduceLT, Nat.reduceLeDiff, Int32.reduceOfInt, Int64.reduceOfInt, true_and, and_true, and_self, true_or, or_true, false_implies, true_implies, not_false_eq_true, not_true_eq_false, Value.category, Nat.reduceEqDiff, Option.toList, List.cons_append, List.nil_append, List.drop_succ_cons, List.drop_zero, ax_qq_eq, ax_t_1507]
  rw [ax_n_1507_9]
  refine kx_loop (k := k) (I := fun c => ∀ v3, ax_W (d + 10) n sl 1507 [(1, .iload 2), (1, .aload 0), (3, .invokeinterface 1450 5), (3, .if_icmp .ge 68), (1, .iconst 0), (1, .istore 3)] 9 [some (.ref 159), some (.int (nI (kq_mx (kq_Z k sh) k c))), some (.int (nI c)), v3] [] n sl es0 (ax_qq n sl Q)) ?_ ?_ none
  · intro v3
    have e0 := kx_nn (k := k) (by omega)
    simp only [ax_W_cons, ax_I, ax_cmp, ax_ii, ax_ll, ax_li, ax_st1, ax_st2, ax_kl, ax_k2, ax_fit, ax_rtok, List.getElem?_cons_zero, List.getElem?_cons_succ, List.length_cons, List.length_nil, List.set_cons_zero, List.set_cons_succ, Nat.reduceAdd, Nat.reduceDiv, Nat.reduceMod, Nat.reduceMul, Nat.reduceLT, Nat.reduceLeDiff, Int32.reduceOfInt, Int64.reduceOfInt, true_and, and_true, and_self, true_or, or_true, false_implies, true_implies, not_false_eq_true, not_true_eq_false, Value.category, Nat.reduceEqDiff, Option.toList, List.cons_append, List.nil_append, List.drop_succ_cons, List.drop_zero, ax_qq_eq, ax_t_1507]
    refine ax_inv_of (Nat.le_of_ble_eq_true rfl) (Nat.le_of_ble_eq_true rfl) (fun _ => mE_rcv E0 _) (fun h => absurd h (by decide)) (Nat.le_refl _) (Nat.le_refl _) (mk_cells hal E0.2.2.2.2.2 ?_)
    simp only [ax_W_cons, ax_I, ax_cmp, ax_ii, ax_ll, ax_li, ax_st1, ax_st2, ax_kl, ax_k2, ax_fit, ax_rtok, List.getElem?_cons_zero, List.getElem?_cons_succ, List.length_cons, List.length_nil, List.set_cons_zero, List.set_cons_succ, Nat.reduceAdd, Nat.reduceDiv, Nat.reduceMod, Nat.reduceMul, Nat.reduceLT, Nat.reduceLeDiff, Int32.reduceOfInt, Int64.reduceOfInt, true_and, and_true, and_self, true_or, or_true, false_implies, true_implies, not_false_eq_true, not_true_eq_false, Value.category, Nat.reduceEqDiff, Option.toList, List.cons_append, List.nil_append, List.drop_succ_cons, List.drop_zero, ax_qq_eq, ax_t_1507, ax_j_1507_68, ax_n_1507_68, e0]
    exact hQ
  · intro c hc2 ih v3
    obtain ⟨q1, -, -, q4⟩ := kx_ix hc2 hk.2 (by decide)
    have hm := hmx c
    rw [kq_mx] at ih
    generalize kq_mx (kq_Z k sh) k c = M at ih hm ⊢
    -- behind the inner loop
    have fin : ∀ u, u ≤ k → kq_lg (kq_Z k sh) c k 0 = u → ax_J ax_W (d + 10) n sl 1507 51 [some (.ref 159), some (.int (nI M)), some (.int (nI c)), some (.int (nI u))] [] n sl es0 (ax_qq n sl Q) := by
      intro u hu eu
      rw [eu] at ih
      by_cases h8 : u ≤ M
      · have h7 : nI u ≤ nI M := nI_le h8 (by omega)
        rw [Nat.max_eq_left h8] at ih
        simp only [ax_W_cons, ax_I, ax_cmp, ax_ii, ax_ll, ax_li, ax_st1, ax_st2, ax_kl, ax_k2, ax_fit, ax_rtok, List.getElem?_cons_zero, List.getElem?_cons_succ, List.length_cons, List.length_nil, List.set_cons_zero, List.set_cons_succ, Nat.reduceAdd, Nat.reduceDiv, Nat.reduceMod, Nat.reduceMul, Nat.reduceLT, Nat.reduceLeDiff, Int32.reduceOfInt, Int64.reduceOfInt, true_and, and_true, and_self, true_or, or_true, false_implies, true_implies, not_false_eq_true, not_true_eq_false, Value.category, Nat.reduceEqDiff, Option.toList, List.cons_append, List.nil_append, List.drop_succ_cons, List.drop_zero, ax_qq_eq, ax_t_1507, ax_j_1507_51, ax_n_1507_51, ax_j_1507_60, ax_n_1507_60, ax_j_1507_61, ax_n_1507_61, h7, q4]
        rw [ax_j_1507_9]
        exact ih _
      · have h7 : ¬ nI u ≤ nI M := nI_ge (by omega) (by omega)
        rw [Nat.max_eq_right (by omega)] at ih
        simp only [ax_W_cons, ax_I, ax_cmp, ax_ii, ax_ll, ax_li, ax_st1, ax_st2, ax_kl, ax_k2, ax_fit, ax_rtok, List.getElem?_cons_zero, List.getElem?_cons_succ, List.length_cons, List.length_nil, List.set_cons_zero, List.set_cons_succ, Nat.reduceAdd, Nat.reduceDiv, Nat.reduceMod, Nat.reduceMul, Nat.reduceLT, Nat.reduceLeDiff, Int32.reduceOfInt, Int64.reduceOfInt, true_and, and_true, and_self, true_or, or_true, false_implies, true_implies, not_false_eq_true, not_true_eq_false, Value.category, Nat.reduceEqDiff, Option.toList, List.cons_append, List.nil_append, List.drop_succ_cons, List.drop_zero, ax_qq_eq, ax_t_1507, ax_j_1507_51, ax_n_1507_51, ax_j_1507_61, ax_n_1507_61, h7, q4]
        rw [ax_j_1507_9]
        exact ih _
    simp only [ax_W_cons, ax_I, ax_cmp, ax_ii, ax_ll, ax_li, ax_st1, ax_st2, ax_kl, ax_k2, ax_fit, ax_rtok, List.getElem?_cons_zero, List.getElem?_cons_succ, List.length_cons, List.length_nil, List.set_cons_zero, List.set_cons_succ, Nat.reduceAdd, Nat.reduceDiv, Nat.reduceMod, Nat.reduceMul, Nat.reduceLT, Nat.reduceLeDiff, Int32.reduceOfInt, Int64.reduceOfInt, true_and, and_true, and_self, true_or, or_true, false_implies, true_implies, not_false_eq_true, not_true_eq_false, Value.category, Nat.reduceEqDiff, Option.toList, List.cons_append, List.nil_append, List.drop_succ_cons, List.drop_zero, ax_qq_eq, ax_t_1507]
    refine ax_inv_of (Nat.le_of_ble_eq_true rfl) (Nat.le_of_ble_eq_true rfl) (fun _ => mE_rcv E0 _) (fun h => absurd h (by decide)) (Nat.le_refl _) (Nat.le_refl _) (mk_cells hal E0.2.2.2.2.2 ?_)
    simp only [ax_W_cons, ax_I, ax_cmp, ax_ii, ax_ll, ax_li, ax_st1, ax_st2, ax_kl, ax_k2, ax_fit, ax_rtok, List.getElem?_cons_zero, List.getElem?_cons_succ, List.length_cons, List.length_nil, List.set_cons_zero, List.set_cons_succ, Nat.reduceAdd, Nat.reduceDiv, Nat.reduceMod, Nat.reduceMul, Nat.reduceLT, Nat.reduceLeDiff, Int32.reduceOfInt, Int64.reduceOfInt, true_and, and_true, and_self, true_or, or_true, false_implies, true_implies, not_false_eq_true, not_true_eq_false, Value.category, Nat.reduceEqDiff, Option.toList, List.cons_append, List.nil_append, List.drop_succ_cons, List.drop_zero, ax_qq_eq, ax_t_1507, q1]
    rw [ax_n_1507_19]
    refine kx_down (k := k) (I := fun f u => kq_lg (kq_Z k sh) c k 0 = kq_lg (kq_Z k sh) c f u → ax_W (d + 10) n sl 1507 [(1, .iload 3), (1, .aload 0), (3, .invokeinterface 1450 5), (3, .if_icmp .ge 51), (1, .aload 0), (3, .getfield 2910), (1, .iconst 2), (1, .iload 2), (1, .iload 3), (1, .iadd), (1, .aload 0), (3, .invokeinterface 1450 5), (1, .irem), (1, .iadd), (1, .iaload), (3, .ifCond .ne 51), (3, .iinc 3 1), (3, .goto 19)] 19 [some (.ref 159), some (.int (nI M)), some (.int (nI c)), some (.int (nI u))] [] n sl es0 (ax_qq n sl Q)) ?_ ?_ k 0 (by omega) rfl
    · intro eu
      have e0 := kx_nn (k := k) (by omega)
      simp only [ax_W_cons, ax_I, ax_cmp, ax_ii, ax_ll, ax_li, ax_st1, ax_st2, ax_kl, ax_k2, ax_fit, ax_rtok, List.getElem?_cons_zero, List.getElem?_cons_succ, List.length_cons, List.length_nil, List.set_cons_zero, List.set_cons_succ, Nat.reduceAdd, Nat.reduceDiv, Nat.reduceMod, Nat.reduceMul, Nat.reduceLT, Nat.reduceLeDiff, Int32.reduceOfInt, Int64.reduceOfInt, true_and, and_true, and_self, true_or, or_true, false_implies, true_implies, not_false_eq_true, not_true_eq_false, Value.category, Nat.reduceEqDiff, Option.toList, List.cons_append, List.nil_append, List.drop_succ_cons, List.drop_zero, ax_qq_eq, ax_t_1507]
      refine ax_inv_of (Nat.le_of_ble_eq_true rfl) (Nat.le_of_ble_eq_true rfl) (fun _ => mE_rcv E0 _) (fun h => absurd h (by decide)) (Nat.le_refl _) (Nat.le_refl _) (mk_cells hal E0.2.2.2.2.2 ?_)
      simp only [ax_W_cons, ax_I, ax_cmp, ax_ii, ax_ll, ax_li, ax_st1, ax_st2, ax_kl, ax_k2, ax_fit, ax_rtok, List.getElem?_cons_zero, List.getElem?_cons_succ, List.length_cons, List.length_nil, List.set_cons_zero, List.set_cons_succ, Nat.reduceAdd, Nat.reduceDiv, Nat.reduceMod, Nat.reduceMul, Nat.reduceLT, Nat.reduceLeDiff, Int32.reduceOfInt, Int64.reduceOfInt, true_and, and_true, and_self, true_or, or_true, false_implies, true_implies, not_false_eq_true, not_true_eq_false, Value.category, Nat.reduceEqDiff, Option.toList, List.cons_append, List.nil_append, List.drop_succ_cons, List.drop_zero, ax_qq_eq, ax_t_1507, e0]
      exact fin k (Nat.le_refl _) eu
    · intro f u hu ih2 eu
      obtain ⟨r1, -, -, r4⟩ := kx_ix (c := u) (k := k) (by omega) hk.2 (by decide)
      have hlt : (c + u) % k < k := Nat.mod_lt _ (by omega)
      have a0 : nI c + nI u = nI (c + u) := kn_add _ _
      have a1 := pk_rem (a := c + u) (d := k) (by omega) (by omega) (by omega)
      obtain ⟨e1, v1, e2⟩ := mx_2 (c := (c + u) % k) (by omega)
      have e3 := S0.2.1.2.2.1 _ hlt
      rw [kq_lg] at eu
      have hZe : kq_Z k sh (c + u) = decide (sh ((c + u) % k) = 0) := rfl
      rw [hZe] at eu
      simp only [ax_W_cons, ax_I, ax_cmp, ax_ii, ax_ll, ax_li, ax_st1, ax_st2, ax_kl, ax_k2, ax_fit, ax_rtok, List.getElem?_cons_zero, List.getElem?_cons_succ, List.length_cons, List.length_nil, List.set_cons_zero, List.set_cons_succ, Nat.reduceAdd, Nat.reduceDiv, Nat.reduceMod, Nat.reduceMul, Nat.reduceLT, Nat.reduceLeDiff, Int32.reduceOfInt, Int64.reduceOfInt, true_and, and_true, and_self, true_or, or_true, false_implies, true_implies, not_false_eq_true, not_true_eq_false, Value.category, Nat.reduceEqDiff, Option.toList, List.cons_append, List.nil_append, List.drop_succ_cons, List.drop_zero, ax_qq_eq, ax_t_1507]
      refine ax_inv_of (Nat.le_of_ble_eq_true rfl) (Nat.le_of_ble_eq_true rfl) (fun _ => mE_rcv E0 _) (fun h => absurd h (by decide)) (Nat.le_refl _) (Nat.le_refl _) (mk_cells hal E0.2.2.2.2.2 ?_)
      simp only [ax_W_cons, ax_I, ax_cmp, ax_ii, ax_ll, ax_li, ax_st1, ax_st2, ax_kl, ax_k2, ax_fit, ax_rtok, List.getElem?_cons_zero, List.getElem?_cons_succ, List.length_cons, List.length_nil, List.set_cons_zero, List.set_cons_succ, Nat.reduceAdd, Nat.reduceDiv, Nat.reduceMod, Nat.reduceMul, Nat.reduceLT, Nat.reduceLeDiff, Int32.reduceOfInt, Int64.reduceOfInt, true_and, and_true, and_self, true_or, or_true, false_implies, true_implies, not_false_eq_true, not_true_eq_false, Value.category, Nat.reduceEqDiff, Option.toList, List.cons_append, List.nil_append, List.drop_succ_cons, List.drop_zero, ax_qq_eq, ax_t_1507, w0, mo_f, hal, r1]
      refine ax_inv_of (Nat.le_of_ble_eq_true rfl) (Nat.le_of_ble_eq_true rfl) (fun _ => mE_rcv E0 _) (fun h => absurd h (by decide)) (Nat.le_refl _) (Nat.le_refl _) (mk_cells hal E0.2.2.2.2.2 ?_)
      simp only [ax_W_cons, ax_I, ax_cmp, ax_ii, ax_ll, ax_li, ax_st1, ax_st2, ax_kl, ax_k2, ax_fit, ax_rtok, List.getElem?_cons_zero, List.getElem?_cons_succ, List.length_cons, List.length_nil, List.set_cons_zero, List.set_cons_succ, Nat.reduceAdd, Nat.reduceDiv, Nat.reduceMod, Nat.reduceMul, Nat.reduceLT, Nat.reduceLeDiff, Int32.reduceOfInt, Int64.reduceOfInt, true_and, and_true, and_self, true_or, or_true, false_implies, true_implies, not_false_eq_true, not_true_eq_false, Value.category, Nat.reduceEqDiff, Option.toList, List.cons_append, List.nil_append, List.drop_succ_cons, List.drop_zero, ax_qq_eq, ax_t_1507, y1, hal, k0, a0, a1, e1, v1, e2, e3, r4]
      refine ⟨fun h => ?_, fun h => ?_⟩
      · rw [if_neg (by simpa using h)] at eu
        exact fin u (by omega) eu
      · simp only [Classical.not_not] at h
        rw [if_pos (by simpa using h)] at eu
        rw [ax_j_1507_19]
        exact ih2 eu
theorem mp_loud (Z : mZ es n st k p hc kd pm ht hs F1 F2 T C sh pl dn) (hQ : ∀ es', mq es st es' → Q (some (.int (kx_loud sh k).2)) es') : ax_Mt (d + 10) 1508 [.ref 159] n sl es Q := by
  obtain ⟨E, S, hT, hdn, hA⟩ := Z
  obtain ⟨hal, hk, hp, hhs, hF, hK⟩ := id E
  refine ax_Mt_go (m := ax_m_11_100) (ls := [some (.ref 159), none, none, none, none]) rfl ax_b_1508_0 (Nat.le_of_ble_eq_true rfl) rfl ?_
  refine mk_thrown hal hK.1 rfl ?_
  intro es0 h0
  have E0 := mE_th E h0
  have S0 := mS_th S h0
  have hQ := hQ es0 (mq_of h0 (mfr_rf _) S0.1 (mfq_rf _) hA)
  obtain ⟨th, tp, sz, at0, fl, cd, nm, rm, on, fh, un, g, w0⟩ := id E0.2.2.2.2.2.1
  have y1 := S0.1.1
  simp only [ax_W_cons, ax_I, ax_cmp, ax_ii, ax_ll, ax_li, ax_st1, ax_st2, ax_kl, ax_k2, ax_fit, ax_rtok, List.getElem?_cons_zero, List.getElem?_cons_succ, List.length_cons, List.length_nil, List.set_cons_zero, List.set_cons_succ, Nat.reduceAdd, Nat.reduceDiv, Nat.reduceMod, Nat.reduceMul, Nat.reduceLT, Nat.reduceLeDiff, Int32.reduceOfInt, Int64.reduceOfInt, true_and, and_true, and_self, true_or, or_true, false_implies, true_implies, not_false_eq_true, not_true_eq_false, Value.category, Nat.reduceEqDiff, Option.toList, List.cons_append, List.nil_append, List.drop_succ_cons, List.drop_zero, ax_qq_eq, ax_t_1508]
  rw [ax_n_1508_11]
  refine kx_loop (k := k) (I := fun c => ∀ v4, ax_W (d + 10) n sl 1508 [(1, .iload 3), (1, .aload 0), (3, .invokeinterface 1450 5), (3, .if_icmp .ge 60), (1, .aload 0), (3, .getfield 2910), (1, .iconst 2), (1, .iload 3), (1, .iadd), (1, .iaload), (2, .istore 4), (2, .iload 4), (1, .iload 2), (3, .if_icmp .le 39), (1, .iload 3), (3, .goto 40)] 11 [some (.ref 159), some (.int (kx_loud sh c).2), some (.int (kx_loud sh c).1), some (.int (nI c)), v4] [] n sl es0 (ax_qq n sl Q)) ?_ ?_ none
  · intro v4
    have e0 := kx_nn (k := k) (by omega)
    simp only [ax_W_cons, ax_I, ax_cmp, ax_ii, ax_ll, ax_li, ax_st1, ax_st2, ax_kl, ax_k2, ax_fit, ax_rtok, List.getElem?_cons_zero, List.getElem?_cons_succ, List.length_cons, List.length_nil, List.set_cons_zero, List.set_cons_succ, Nat.reduceAdd, Nat.reduceDiv, Nat.reduceMod, Nat.reduceMul, Nat.reduceLT, Nat.reduceLeDiff, Int32.reduceOfInt, Int64.reduceOfInt, true_and, and_true, and_self, true_or, or_true, false_implies, true_implies, not_false_eq_true, not_true_eq_false, Value.category, Nat.reduceEqDiff, Option.toList, List.cons_append, List.nil_append, List.drop_succ_cons, List.drop_zero, ax_qq_eq, ax_t_1508]
    refine ax_inv_of (Nat.le_of_ble_eq_true rfl) (Nat.le_of_ble_eq_true rfl) (fun _ => mE_rcv E0 _) (fun h => absurd h (by decide)) (Nat.le_refl _) (Nat.le_refl _) (mk_cells hal E0.2.2.2.2.2 ?_)
    simp only [ax_W_cons, ax_I, ax_cmp, ax_ii, ax_ll, ax_li, ax_st1, ax_st2, ax_kl, ax_k2, ax_fit, ax_rtok, List.getElem?_cons_zero, List.getElem?_cons_succ, List.length_cons, List.length_nil, List.set_cons_zero, List.set_cons_succ, Nat.reduceAdd, Nat.reduceDiv, Nat.reduceMod, Nat.reduceMul, Nat.reduceLT, Nat.reduceLeDiff, Int32.reduceOfInt, Int64.reduceOfInt, true_and, and_true, and_self, true_or, or_true, false_implies, true_implies, not_false_eq_true, not_true_eq_false, Value.category, Nat.reduceEqDiff, Option.toList, List.cons_append, List.nil_append, List.drop_succ_cons, List.drop_zero, ax_qq_eq, ax_t_1508, ax_j_1508_60, ax_n_1508_60, e0]
    exact hQ
  · intro c hc2 ih v4
    obtain ⟨q1, -, -, q4⟩ := kx_ix hc2 hk.2 (by decide)
    obtain ⟨e1, v1, e2⟩ := mx_2 (c := c) (by omega)
    have e3 := S0.2.1.2.2.1 c hc2
    rw [kx_loud] at ih
    generalize kx_loud sh c = B at ih ⊢
    by_cases h8 : B.1 < sh c
    · have h7 : ¬ sh c ≤ B.1 := kx_lt_nle h8
      rw [if_pos h8] at ih
      simp only [ax_W_cons, ax_I, ax_cmp, ax_ii, ax_ll, ax_li, ax_st1, ax_st2, ax_kl, ax_k2, ax_fit, ax_rtok, List.getElem?_cons_zero, List.getElem?_cons_succ, List.length_cons, List.length_nil, List.set_cons_zero, List.set_cons_succ, Nat.reduceAdd, Nat.reduceDiv, Nat.reduceMod, Nat.reduceMul, Nat.reduceLT, Nat.reduceLeDiff, Int32.reduceOfInt, Int64.reduceOfInt, true_and, and_true, and_self, true_or, or_true, false_implies, true_implies, not_false_eq_true, not_true_eq_false, Value.category, Nat.reduceEqDiff, Option.toList, List.cons_append, List.nil_append, List.drop_succ_cons, List.drop_zero, ax_qq_eq, ax_t_1508]
      refine ax_inv_of (Nat.le_of_ble_eq_true rfl) (Nat.le_of_ble_eq_true rfl) (fun _ => mE_rcv E0 _) (fun h => absurd h (by decide)) (Nat.le_refl _) (Nat.le_refl _) (mk_cells hal E0.2.2.2.2.2 ?_)
      simp only [ax_W_cons, ax_I, ax_cmp, ax_ii, ax_ll, ax_li, ax_st1, ax_st2, ax_kl, ax_k2, ax_fit, ax_rtok, List.getElem?_cons_zero, List.getElem?_cons_succ, List.length_cons, List.length_nil, List.set_cons_zero, List.set_cons_succ, Nat.reduceAdd, Nat.reduceDiv, Nat.reduceMod, Nat.reduceMul, Nat.reduceLT, Nat.reduceLeDiff, Int32.reduceOfInt, Int64.reduceOfInt, true_and, and_true, and_self, true_or, or_true, false_implies, true_implies, not_false_eq_true, not_true_eq_false, Value.category, Nat.reduceEqDiff, Option.toList, List.cons_append, List.nil_append, List.drop_succ_cons, List.drop_zero, ax_qq_eq, ax_t_1508, ax_j_1508_40, ax_n_1508_40, ax_j_1508_53, ax_n_1508_53, w0, y1, mo_f, hal, q1, e1, v1, e2, e3, h7, q4]
      rw [ax_j_1508_11]
      exact ih _
    · have h7 : sh c ≤ B.1 := by rw [← kx_nlt]; exact h8
      rw [if_neg h8] at ih
      simp only [ax_W_cons, ax_I, ax_cmp, ax_ii, ax_ll, ax_li, ax_st1, ax_st2, ax_kl, ax_k2, ax_fit, ax_rtok, List.getElem?_cons_zero, List.getElem?_cons_succ, List.length_cons, List.length_nil, List.set_cons_zero, List.set_cons_succ, Nat.reduceAdd, Nat.reduceDiv, Nat.reduceMod, Nat.reduceMul, Nat.reduceLT, Nat.reduceLeDiff, Int32.reduceOfInt, Int64.reduceOfInt, true_and, and_true, and_self, true_or, or_true, false_implies, true_implies, not_false_eq_true, not_true_eq_false, Value.category, Nat.reduceEqDiff, Option.toList, List.cons_append, List.nil_append, List.drop_succ_cons, List.drop_zero, ax_qq_eq, ax_t_1508]
      refine ax_inv_of (Nat.le_of_ble_eq_true rfl) (Nat.le_of_ble_eq_true rfl) (fun _ => mE_rcv E0 _) (fun h => absurd h (by decide)) (Nat.le_refl _) (Nat.le_refl _) (mk_cells hal E0.2.2.2.2.2 ?_)
      simp only [ax_W_cons, ax_I, ax_cmp, ax_ii, ax_ll, ax_li, ax_st1, ax_st2, ax_kl, ax_k2, ax_fit, ax_rtok, List.getElem?_cons_zero, List.getElem?_cons_succ, List.length_cons, List.length_nil, List.set_cons_zero, List.set_cons_succ, Nat.reduceAdd, Nat.reduceDiv, Nat.reduceMod, Nat.reduceMul, Nat.reduceLT, Nat.reduceLeDiff, Int32.reduceOfInt, Int64.reduceOfInt, true_and, and_true, and_self, true_or, or_true, false_implies, true_implies, not_false_eq_true, not_true_eq_false, Value.category, Nat.reduceEqDiff, Option.toList, List.cons_append, List.nil_append, List.drop_succ_cons, List.drop_zero, ax_qq_eq, ax_t_1508, ax_j_1508_39, ax_n_1508_39, ax_j_1508_40, ax_n_1508_40, ax_j_1508_52, ax_n_1508_52, ax_j_1508_53, ax_n_1508_53, w0, y1, mo_f, hal, q1, e1, v1, e2, e3, h7, q4]
      rw [ax_j_1508_11]
      exact ih _
theorem mp_spread (Z : mZ es n st k p hc kd pm ht hs F1 F2 T C sh pl dn) (hQ : ∀ es', mq es st es' → Q (some (.int (kx_range k (nI C) sh))) es') : ax_Mt (d + 10) 1509 [.ref 159] n sl es Q := by
  obtain ⟨E, S, hT, hdn, hA⟩ := Z
  obtain ⟨hal, hk, hp, hhs, hF, hK⟩ := id E
  rw [← mx_range hk.2 S.2.2] at hQ
  refine ax_Mt_go (m := ax_m_11_101) (ls := [some (.ref 159), none, none, none, none]) rfl ax_b_1509_0 (Nat.le_of_ble_eq_true rfl) rfl ?_
  refine mk_thrown hal hK.1 rfl ?_
  intro es0 h0
  have E0 := mE_th E h0
  have S0 := mS_th S h0
  have hQ := hQ es0 (mq_of h0 (mfr_rf _) S0.1 (mfq_rf _) hA)
  obtain ⟨th, tp, sz, at0, fl, cd, nm, rm, on, fh, un, g, w0⟩ := id E0.2.2.2.2.2.1
  have y1 := S0.1.1
  simp only [ax_W_cons, ax_I, ax_cmp, ax_ii, ax_ll, ax_li, ax_st1, ax_st2, ax_kl, ax_k2, ax_fit, ax_rtok, List.getElem?_cons_zero, List.getElem?_cons_succ, List.length_cons, List.length_nil, List.set_cons_zero, List.set_cons_succ, Nat.reduceAdd, Nat.reduceDiv, Nat.reduceMod, Nat.reduceMul, Nat.reduceLT, Nat.reduceLeDiff, Int32.reduceOfInt, Int64.reduceOfInt, true_and, and_true, and_self, true_or, or_true, false_implies, true_implies, not_false_eq_true, not_true_eq_false, Value.category, Nat.reduceEqDiff, Option.toList, List.cons_append, List.nil_append, List.drop_succ_cons, List.drop_zero, ax_qq_eq, ax_t_1509]
  rw [ax_n_1509_12]
  refine kx_loop (k := k) (I := fun c => ∀ v4, ax_W (d + 10) n sl 1509 [(1, .iload 3), (1, .aload 0), (3, .invokeinterface 1450 5), (3, .if_icmp .ge 71), (1, .aload 0), (3, .getfield 2910), (1, .iconst 2), (1, .iload 3), (1, .iadd), (1, .iaload), (2, .istore 4), (2, .iload 4), (1, .iload 1), (3, .if_icmp .le 41), (2, .iload 4), (3, .goto 42)] 12 [some (.ref 159), some (.int (kx_loud sh c).1), some (.int (mo_ls (nI C) sh c)), some (.int (nI c)), v4] [] n sl es0 (ax_qq n sl Q)) ?_ ?_ none
  · intro v4
    have e0 := kx_nn (k := k) (by omega)
    simp only [ax_W_cons, ax_I, ax_cmp, ax_ii, ax_ll, ax_li, ax_st1, ax_st2, ax_kl, ax_k2, ax_fit, ax_rtok, List.getElem?_cons_zero, List.getElem?_cons_succ, List.length_cons, List.length_nil, List.set_cons_zero, List.set_cons_succ, Nat.reduceAdd, Nat.reduceDiv, Nat.reduceMod, Nat.reduceMul, Nat.reduceLT, Nat.reduceLeDiff, Int32.reduceOfInt, Int64.reduceOfInt, true_and, and_true, and_self, true_or, or_true, false_implies, true_implies, not_false_eq_true, not_true_eq_false, Value.category, Nat.reduceEqDiff, Option.toList, List.cons_append, List.nil_append, List.drop_succ_cons, List.drop_zero, ax_qq_eq, ax_t_1509]
    refine ax_inv_of (Nat.le_of_ble_eq_true rfl) (Nat.le_of_ble_eq_true rfl) (fun _ => mE_rcv E0 _) (fun h => absurd h (by decide)) (Nat.le_refl _) (Nat.le_refl _) (mk_cells hal E0.2.2.2.2.2 ?_)
    simp only [ax_W_cons, ax_I, ax_cmp, ax_ii, ax_ll, ax_li, ax_st1, ax_st2, ax_kl, ax_k2, ax_fit, ax_rtok, List.getElem?_cons_zero, List.getElem?_cons_succ, List.length_cons, List.length_nil, List.set_cons_zero, List.set_cons_succ, Nat.reduceAdd, Nat.reduceDiv, Nat.reduceMod, Nat.reduceMul, Nat.reduceLT, Nat.reduceLeDiff, Int32.reduceOfInt, Int64.reduceOfInt, true_and, and_true, and_self, true_or, or_true, false_implies, true_implies, not_false_eq_true, not_true_eq_false, Value.category, Nat.reduceEqDiff, Option.toList, List.cons_append, List.nil_append, List.drop_succ_cons, List.drop_zero, ax_qq_eq, ax_t_1509, ax_j_1509_71, ax_n_1509_71, ax_j_1509_80, ax_n_1509_80, ax_j_1509_83, ax_n_1509_83, e0]
    refine ⟨fun h => ?_, fun h => ?_⟩
    · rw [if_neg (by rw [kx_nlt]; exact h)] at hQ
      exact hQ
    · rw [kx_nle] at h
      rw [if_pos h] at hQ
      exact hQ
  · intro c hc2 ih v4
    obtain ⟨q1, -, q3, q4⟩ := kx_ix hc2 hk.2 (by decide)
    obtain ⟨e1, v1, e2⟩ := mx_2 (c := c) (by omega)
    have e3 := S0.2.1.2.2.1 c hc2
    obtain ⟨v, hv, ev⟩ := S.2.2.1 c (by omega)
    -- the second half
    have half : ∀ A, (∀ v4, ax_W (d + 10) n sl 1509 [(1, .iload 3), (1, .aload 0), (3, .invokeinterface 1450 5), (3, .if_icmp .ge 71), (1, .aload 0), (3, .getfield 2910), (1, .iconst 2), (1, .iload 3), (1, .iadd), (1, .iaload), (2, .istore 4), (2, .iload 4), (1, .iload 1), (3, .if_icmp .le 41), (2, .iload 4), (3, .goto 42)] 12 [some (.ref 159), some (.int A), some (.int (mo_ls (nI C) sh (c + 1))), some (.int (nI (c + 1))), v4] [] n sl es0 (ax_qq n sl Q)) → ax_W (d + 10) n sl 1509 [(1, .istore 1), (1, .aload 0), (1, .iconst 0), (1, .iload 3), (3, .invokeinterface 1456 13), (3, .ifCond .eq 63), (2, .iload 4), (1, .iload 2), (3, .if_icmp .ge 63), (2, .iload 4), (3, .goto 64)] 42 [some (.ref 159), some (.int (kx_loud sh c).1), some (.int (mo_ls (nI C) sh c)), some (.int (nI c)), some (.int (sh c))] [.int A] n sl es0 (ax_qq n sl Q) := by
      intro A ih
      have hneg : ¬ (kx_ck (nI C) (nI c) = false ∧ (kx_quiet (nI C) sh c = -1 ∨ sh c < sh (kx_quiet (nI C) sh c).toNatClampNeg)) → mo_ls (nI C) sh (c + 1) = mo_ls (nI C) sh c := by
        intro h
        unfold mo_ls
        rw [kx_quiet, if_neg h]
      have hpos : (kx_ck (nI C) (nI c) = false ∧ (kx_quiet (nI C) sh c = -1 ∨ sh c < sh (kx_quiet (nI C) sh c).toNatClampNeg)) → mo_ls (nI C) sh (c + 1) = sh c := by
        intro h
        unfold mo_ls
        rw [kx_quiet, if_pos h, if_neg (mx_n1 (c := c) (by omega)), q3]
      have keep : mo_ls (nI C) sh (c + 1) = mo_ls (nI C) sh c → ax_J ax_W (d + 10) n sl 1509 63 [some (.ref 159), some (.int A), some (.int (mo_ls (nI C) sh c)), some (.int (nI c)), some (.int (sh c))] [] n sl es0 (ax_qq n sl Q) := by
        intro hno
        rw [hno] at ih
        simp only [ax_W_cons, ax_I, ax_cmp, ax_ii, ax_ll, ax_li, ax_st1, ax_st2, ax_kl, ax_k2, ax_fit, ax_rtok, List.getElem?_cons_zero, List.getElem?_cons_succ, List.length_cons, List.length_nil, List.set_cons_zero, List.set_cons_succ, Nat.reduceAdd, Nat.reduceDiv, Nat.reduceMod, Nat.reduceMul, Nat.reduceLT, Nat.reduceLeDiff, Int32.reduceOfInt, Int64.reduceOfInt, true_and, and_true, and_self, true_or, or_true, false_implies, true_implies, not_false_eq_true, not_true_eq_false, Value.category, Nat.reduceEqDiff, Option.toList, List.cons_append, List.nil_append, List.drop_succ_cons, List.drop_zero, ax_qq_eq, ax_t_1509, ax_j_1509_63, ax_n_1509_63, ax_j_1509_64, ax_n_1509_64, q4]
        rw [ax_j_1509_12]
        exact ih _
      simp only [ax_W_cons, ax_I, ax_cmp, ax_ii, ax_ll, ax_li, ax_st1, ax_st2, ax_kl, ax_k2, ax_fit, ax_rtok, List.getElem?_cons_zero, List.getElem?_cons_succ, List.length_cons, List.length_nil, List.set_cons_zero, List.set_cons_succ, Nat.reduceAdd, Nat.reduceDiv, Nat.reduceMod, Nat.reduceMul, Nat.reduceLT, Nat.reduceLeDiff, Int32.reduceOfInt, Int64.reduceOfInt, true_and, and_true, and_self, true_or, or_true, false_implies, true_implies, not_false_eq_true, not_true_eq_false, Value.category, Nat.reduceEqDiff, Option.toList, List.cons_append, List.nil_append, List.drop_succ_cons, List.drop_zero, ax_qq_eq, ax_t_1509]
      refine ax_inv_of (Nat.le_of_ble_eq_true rfl) (Nat.le_of_ble_eq_true rfl) (fun _ => mE_rcv E0 _) (fun h => absurd h (by decide)) (Nat.le_refl _) (Nat.le_refl _) (mk_whole E0 S0 (b := 0) (by omega) (nI c) ?_)
      rw [mx_op hk.2 hc2]
      simp only [ax_W_cons, ax_I, ax_cmp, ax_ii, ax_ll, ax_li, ax_st1, ax_st2, ax_kl, ax_k2, ax_fit, ax_rtok, List.getElem?_cons_zero, List.getElem?_cons_succ, List.length_cons, List.length_nil, List.set_cons_zero, List.set_cons_succ, Nat.reduceAdd, Nat.reduceDiv, Nat.reduceMod, Nat.reduceMul, Nat.reduceLT, Nat.reduceLeDiff, Int32.reduceOfInt, Int64.reduceOfInt, true_and, and_true, and_self, true_or, or_true, false_implies, true_implies, not_false_eq_true, not_true_eq_false, Value.category, Nat.reduceEqDiff, Option.toList, List.cons_append, List.nil_append, List.drop_succ_cons, List.drop_zero, ax_qq_eq, ax_t_1509, kx_b0]
      refine ⟨fun h => keep (hneg (fun z => by rw [z.1] at h; exact absurd h (by decide))), fun h => ?_⟩
      have h : kx_ck (nI C) (nI c) = false := by simpa using h
      have take : (kx_quiet (nI C) sh c = -1 ∨ sh c < sh (kx_quiet (nI C) sh c).toNatClampNeg) → ax_J ax_W (d + 10) n sl 1509 64 [some (.ref 159), some (.int A), some (.int (mo_ls (nI C) sh c)), some (.int (nI c)), some (.int (sh c))] [.int (sh c)] n sl es0 (ax_qq n sl Q) := by
        intro hyes
        rw [hpos ⟨h, hyes⟩] at ih
        simp only [ax_W_cons, ax_I, ax_cmp, ax_ii, ax_ll, ax_li, ax_st1, ax_st2, ax_kl, ax_k2, ax_fit, ax_rtok, List.getElem?_cons_zero, List.getElem?_cons_succ, List.length_cons, List.length_nil, List.set_cons_zero, List.set_cons_succ, Nat.reduceAdd, Nat.reduceDiv, Nat.reduceMod, Nat.reduceMul, Nat.reduceLT, Nat.reduceLeDiff, Int32.reduceOfInt, Int64.reduceOfInt, true_and, and_true, and_self, true_or, or_true, false_implies, true_implies, not_false_eq_true, not_true_eq_false, Value.category, Nat.reduceEqDiff, Option.toList, List.cons_append, List.nil_append, List.drop_succ_cons, List.drop_zero, ax_qq_eq, ax_t_1509, ax_j_1509_64, ax_n_1509_64, q4]
        rw [ax_j_1509_12]
        exact ih _
      refine ⟨fun h8 => keep ?_, fun h8 => take ?_⟩
      · by_cases hq : kx_quiet (nI C) sh c = -1
        · rw [hpos ⟨h, Or.inl hq⟩]
          unfold mo_ls at h8 ⊢
          rw [if_pos hq] at h8 ⊢
          rw [ev] at h8 ⊢
          have e99 : (99 : Int32) = nI 99 := rfl
          rw [e99, Int32.le_iff_toInt_le, nI_toInt (by omega), nI_toInt (by omega)] at h8
          rw [e99, show v = 99 by omega]
        · refine hneg (fun z => ?_)
          unfold mo_ls at h8
          rw [if_neg hq] at h8
          rcases z.2 with z | z
          · exact hq z
          · exact absurd z (by rw [kx_nlt]; exact h8)
      · rw [kx_nle] at h8
        unfold mo_ls at h8
        by_cases hq : kx_quiet (nI C) sh c = -1
        · exact Or.inl hq
        · rw [if_neg hq] at h8
          exact Or.inr h8
    rw [kx_loud] at ih
    by_cases h8 : (kx_loud sh c).1 < sh c
    · have h7 : ¬ sh c ≤ (kx_loud sh c).1 := kx_lt_nle h8
      rw [if_pos h8] at ih
      have half := half (sh c) ih
      rw [← ax_j_1509_42] at half
      simp only [ax_W_cons, ax_I, ax_cmp, ax_ii, ax_ll, ax_li, ax_st1, ax_st2, ax_kl, ax_k2, ax_fit, ax_rtok, List.getElem?_cons_zero, List.getElem?_cons_succ, List.length_cons, List.length_nil, List.set_cons_zero, List.set_cons_succ, Nat.reduceAdd, Nat.reduceDiv, Nat.reduceMod, Nat.reduceMul, Nat.reduceLT, Nat.reduceLeDiff, Int32.reduceOfInt, Int64.reduceOfInt, true_and, and_true, and_self, true_or, or_true, false_implies, true_implies, not_false_eq_true, not_true_eq_false, Value.category, Nat.reduceEqDiff, Option.toList, List.cons_append, List.nil_append, List.drop_succ_cons, List.drop_zero, ax_qq_eq, ax_t_1509]
      refine ax_inv_of (Nat.le_of_ble_eq_true rfl) (Nat.le_of_ble_eq_true rfl) (fun _ => mE_rcv E0 _) (fun h => absurd h (by decide)) (Nat.le_refl _) (Nat.le_refl _) (mk_cells hal E0.2.2.2.2.2 ?_)
      simp only [ax_W_cons, ax_I, ax_cmp, ax_ii, ax_ll, ax_li, ax_st1, ax_st2, ax_kl, ax_k2, ax_fit, ax_rtok, List.getElem?_cons_zero, List.getElem?_cons_succ, List.length_cons, List.length_nil, List.set_cons_zero, List.set_cons_succ, Nat.reduceAdd, Nat.reduceDiv, Nat.reduceMod, Nat.reduceMul, Nat.reduceLT, Nat.reduceLeDiff, Int32.reduceOfInt, Int64.reduceOfInt, true_and, and_true, and_self, true_or, or_true, false_implies, true_implies, not_false_eq_true, not_true_eq_false, Value.category, Nat.reduceEqDiff, Option.toList, List.cons_append, List.nil_append, List.drop_succ_cons, List.drop_zero, ax_qq_eq, ax_t_1509, w0, y1, mo_f, hal, q1, e1, v1, e2, e3, h7]
      exact half
    · have h7 : sh c ≤ (kx_loud sh c).1 := by rw [← kx_nlt]; exact h8
      rw [if_neg h8] at ih
      have half := half (kx_loud sh c).1 ih
      rw [← ax_n_1509_42] at half
      simp only [ax_W_cons, ax_I, ax_cmp, ax_ii, ax_ll, ax_li, ax_st1, ax_st2, ax_kl, ax_k2, ax_fit, ax_rtok, List.getElem?_cons_zero, List.getElem?_cons_succ, List.length_cons, List.length_nil, List.set_cons_zero, List.set_cons_succ, Nat.reduceAdd, Nat.reduceDiv, Nat.reduceMod, Nat.reduceMul, Nat.reduceLT, Nat.reduceLeDiff, Int32.reduceOfInt, Int64.reduceOfInt, true_and, and_true, and_self, true_or, or_true, false_implies, true_implies, not_false_eq_true, not_true_eq_false, Value.category, Nat.reduceEqDiff, Option.toList, List.cons_append, List.nil_append, List.drop_succ_cons, List.drop_zero, ax_qq_eq, ax_t_1509]
      refine ax_inv_of (Nat.le_of_ble_eq_true rfl) (Nat.le_of_ble_eq_true rfl) (fun _ => mE_rcv E0 _) (fun h => absurd h (by decide)) (Nat.le_refl _) (Nat.le_refl _) (mk_cells hal E0.2.2.2.2.2 ?_)
      simp only [ax_W_cons, ax_I, ax_cmp, ax_ii, ax_ll, ax_li, ax_st1, ax_st2, ax_kl, ax_k2, ax_fit, ax_rtok, List.getElem?_cons_zero, List.getElem?_cons_succ, List.length_cons, List.length_nil, List.set_cons_zero, List.set_cons_succ, Nat.reduceAdd, Nat.reduceDiv, Nat.reduceMod, Nat.reduceMul, Nat.reduceLT, Nat.reduceLeDiff, Int32.reduceOfInt, Int64.reduceOfInt, true_and, and_true, and_self, true_or, or_true, false_implies, true_implies, not_false_eq_true, not_true_eq_false, Value.category, Nat.reduceEqDiff, Option.toList, List.cons_append, List.nil_append, List.drop_succ_cons, List.drop_zero, ax_qq_eq, ax_t_1509, ax_j_1509_41, ax_n_1509_41, w0, y1, mo_f, hal, q1, e1, v1, e2, e3, h7]
      exact half
end MM
