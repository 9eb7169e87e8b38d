/-! the reference: post, swap, reach -/
def mo_bp (V : Nat → Int32) : Nat → Int32 × Int32
  | 0 => (-1, -1)
  | m + 1 => if (mo_bp V m).2 < V m then (nI m, V m) else mo_bp V m
theorem mo_bp_eq {V : Nat → Int32} (hV : ∀ m, -1 < V m) : ∀ m, m ≤ 12 → (mo_bp V m).1 = (kx_bp V m).1 ∧ (m = 0 ∨ ((mo_bp V m).2 = (kx_bp V m).2 ∧ ¬ (kx_bp V m).1 = -1))
  | 0, _ => ⟨rfl, Or.inl rfl⟩
  | m + 1, hm => by
    obtain ⟨h1, h2⟩ := mo_bp_eq hV m (by omega)
    rw [mo_bp, kx_bp]
    rcases h2 with rfl | ⟨h2, h3⟩
    · rw [if_pos (show (mo_bp V 0).2 < V 0 from hV 0), if_pos (show (kx_bp V 0).1 = -1 ∨ (kx_bp V 0).2 < V 0 from Or.inl rfl)]
      exact ⟨rfl, Or.inr ⟨rfl, mx_n1 (by omega)⟩⟩
    · rw [h2]
      by_cases h4 : (kx_bp V m).2 < V m
      · rw [if_pos h4, if_pos (Or.inr h4)]
        exact ⟨rfl, Or.inr ⟨rfl, mx_n1 (by omega)⟩⟩
      · rw [if_neg h4, if_neg (fun z => z.elim h3 h4)]
        exact ⟨h1, Or.inr ⟨h2, h3⟩⟩
theorem kx_bc1_add {V W : Nat → Nat → Int32} {i : Nat} {a : Int32 × Int32} {S : Int32} {a' : Int32 × Int32} (hV : ∀ j, ∃ v, v < 2 ^ 30 ∧ V i j = nI v) (hS : ∃ s, s < 2 ^ 30 ∧ S = nI s) (hW : ∀ j, W i j = S + V i j) (ha : ∃ v, v < 2 ^ 30 ∧ a.1 = nI v) (ha1 : a'.1 = S + a.1) (ha2 : a'.2 = a.2) : ∀ m, (kx_bc1 W i a' m).1 = S + (kx_bc1 V i a m).1 ∧ (kx_bc1 W i a' m).2 = (kx_bc1 V i a m).2 ∧ ∃ v, v < 2 ^ 30 ∧ (kx_bc1 V i a m).1 = nI v
  | 0 => ⟨ha1, ha2, ha⟩
  | m + 1 => by
    obtain ⟨h1, h2, v, hv, ev⟩ := kx_bc1_add hV hS hW ha ha1 ha2 m
    obtain ⟨u, hu, eu⟩ := hV (i + 1 + m)
    obtain ⟨s, hs, es⟩ := hS
    rw [kx_bc1, kx_bc1, h1, hW, ev, eu, es, kn_add, kn_add]
    by_cases hlt : v < u
    · rw [if_pos (nI_lt (by omega) (by omega)), if_pos (nI_lt (by omega) (by omega))]
      exact ⟨(kn_add _ _).symm, rfl, u, hu, rfl⟩
    · rw [if_neg (nI_nlt (by omega) (by omega)), if_neg (nI_nlt (by omega) (by omega))]
      rw [es] at h1
      rw [ev]
      exact ⟨by rw [h1, ev], h2, v, hv, rfl⟩
theorem kx_bc_add {V W : Nat → Nat → Int32} {p : Nat} {a S : Int32} (hV : ∀ i j, ∃ v, v < 2 ^ 30 ∧ V i j = nI v) (hS : ∃ s, s < 2 ^ 30 ∧ S = nI s) (hW : ∀ i j, W i j = S + V i j) (ha : ∃ v, v < 2 ^ 30 ∧ a = nI v) : ∀ m, (kx_bc W p (S + a) m).1 = S + (kx_bc V p a m).1 ∧ (kx_bc W p (S + a) m).2 = (kx_bc V p a m).2 ∧ ∃ v, v < 2 ^ 30 ∧ (kx_bc V p a m).1 = nI v
  | 0 => ⟨rfl, rfl, ha⟩
  | m + 1 => by
    obtain ⟨h1, h2, h3⟩ := kx_bc_add hV hS hW ha m
    rw [kx_bc, kx_bc]
    exact kx_bc1_add (hV m) hS (hW m) h3 h1 h2 _
section MM
variable {d n sl k p hc : Nat} {es : ax_H} {kd pm ht hs : Nat → Int32} {F1 F2 : Int32 → Int32 → Int32 → Int32 → Int32} {st : Nat → Int32} {b T C : Nat} {sh pl dn : Nat → Int32} {Q : Option Value → ax_H → Prop}
theorem kpl_upd {i w : Nat} (h : kpl k p pl) (hw : w < k) : kpl k p (upd pl i (nI w)) := by
  intro j hj
  by_cases e : j = i
  · subst e
    rw [upd_same]
    exact ⟨w, hw, rfl⟩
  · rw [upd_ne _ _ e]
    exact h j hj
theorem mp_post (Z : mZ es n st k p hc kd pm ht hs F1 F2 T C sh pl dn) (i : Int32) (hQ : ∀ es', mq es st es' → Q (some (.int (zq_post F1 F2 k p kd ht (nI C) hs hc T sh pl dn i))) es') : ax_Mt (d + 10) 1497 [.ref 159, .int i] n sl es Q := by
  obtain ⟨E, S, hT, hdn, hA⟩ := Z
  obtain ⟨hal, hk, hp, hhs, hF, hK⟩ := id E
  unfold zq_post at hQ
  refine ax_Mt_go (m := ax_m_11_89) (ls := [some (.ref 159), some (.int i), none, none, none, none]) rfl ax_b_1497_0 (Nat.le_of_ble_eq_true rfl) rfl ?_
  refine mk_thrown hal hK.1 rfl ?_
  intro es0 h0
  have E0 := mE_th E h0
  have S0 := mS_th S h0
  simp only [ax_W_cons, ax_I, ax_cmp, ax_ii, ax_ll, ax_li, ax_st1, ax_st2, ax_kl, ax_k2, ax_fit, ax_rtok, List.getElem?_cons_zero, List.getElem?_cons_succ, List.length_cons, List.length_nil, List.set_cons_zero, List.set_cons_succ, Nat.reduceAdd, Nat.reduceDiv, Nat.reduceMod, Nat.reduceMul, Nat.reduceLT, Nat.reduceLeDiff, Int32.reduceOfInt, Int64.reduceOfInt, true_and, and_true, and_self, true_or, or_true, false_implies, true_implies, not_false_eq_true, not_true_eq_false, Value.category, Nat.reduceEqDiff, Option.toList, List.cons_append, List.nil_append, List.drop_succ_cons, List.drop_zero, ax_qq_eq, ax_t_1497]
  rw [ax_n_1497_12]
  by_cases hi : kx_cell p i = true
  · rw [if_pos hi] at hQ
    obtain ⟨i', hi', rfl⟩ := kx_cell_in (by omega) hi
    rw [nI_clamp (by omega)] at hQ
    generalize hV : (fun w => kx_pdn (kx_dd F1 F2 k kd ht (nI C) hs hc T sh (upd pl i' (nI w))) p dn 20 i') = V at hQ
    have hV : ∀ w, V w = kx_pdn (kx_dd F1 F2 k kd ht (nI C) hs hc T sh (upd pl i' (nI w))) p dn 20 i' := fun w => by rw [← hV]
    have hpos : ∀ w, -1 < V w := fun w => by
      obtain ⟨v, hv, e⟩ := zdn_pdn (F1 := F1) (k := k) (kd := kd) (ht := ht) (cr := nI C) (hs := hs) (hc := hc) (b := T) (sh := sh) (pl := upd pl i' (nI w)) (mK_F2 hK) hdn 20 i' hi'
      rw [hV, e]
      exact mx_n1lt (by omega)
    rw [← (mo_bp_eq hpos k hk.2).1] at hQ
    have L := kx_loop (k := k) (I := fun c => ∀ v5 es1 st1, mfr es0 es1 → mfq st st1 → mX es1 st1 → ax_W (d + 10) n sl 1497 [(2, .iload 4), (1, .aload 0), (3, .invokeinterface 1450 5), (3, .if_icmp .ge 95), (1, .aload 0), (1, .iload 1), (3, .invokeinterface 1454 9), (3, .ifCond .eq 95), (1, .aload 0), (3, .invokeinterface 1483 5), (1, .aload 0), (3, .getfield 2910), (3, .iconst 1106), (1, .iload 1), (1, .iadd), (2, .iload 4), (1, .iastore), (1, .aload 0), (2, .iconst 20), (3, .invokeinterface 1484 9), (1, .aload 0), (3, .getfield 2910), (3, .iconst 1112), (1, .iload 1), (1, .iadd), (1, .iaload), (2, .istore 5), (2, .iload 5), (1, .iload 3), (3, .if_icmp .le 74), (2, .iload 4), (3, .goto 75)] 12 [some (.ref 159), some (.int (nI i')), some (.int (mo_bp V c).1), some (.int (mo_bp V c).2), some (.int (nI c)), v5] [] n sl es1 (ax_qq n sl Q)) ?_ ?_
    · exact L none es0 st (mfr_rf _) (mfq_rf _) S0.1
    · intro v5 es1 st1 i1 i2 i3
      have e0 := kx_nn (k := k) (by omega)
      have E1 := mE_fr E0 i1
      simp only [ax_W_cons, ax_I, ax_cmp, ax_ii, ax_ll, ax_li, ax_st1, ax_st2, ax_kl, ax_k2, ax_fit, ax_rtok, List.getElem?_cons_zero, List.getElem?_cons_succ, List.length_cons, List.length_nil, List.set_cons_zero, List.set_cons_succ, Nat.reduceAdd, Nat.reduceDiv, Nat.reduceMod, Nat.reduceMul, Nat.reduceLT, Nat.reduceLeDiff, Int32.reduceOfInt, Int64.reduceOfInt, true_and, and_true, and_self, true_or, or_true, false_implies, true_implies, not_false_eq_true, not_true_eq_false, Value.category, Nat.reduceEqDiff, Option.toList, List.cons_append, List.nil_append, List.drop_succ_cons, List.drop_zero, ax_qq_eq, ax_t_1497]
      refine ax_inv_of (Nat.le_of_ble_eq_true rfl) (Nat.le_of_ble_eq_true rfl) (fun _ => mE_rcv E1 _) (fun h => absurd h (by decide)) (Nat.le_refl _) (Nat.le_refl _) (mk_cells hal E1.2.2.2.2.2 ?_)
      simp only [ax_W_cons, ax_I, ax_cmp, ax_ii, ax_ll, ax_li, ax_st1, ax_st2, ax_kl, ax_k2, ax_fit, ax_rtok, List.getElem?_cons_zero, List.getElem?_cons_succ, List.length_cons, List.length_nil, List.set_cons_zero, List.set_cons_succ, Nat.reduceAdd, Nat.reduceDiv, Nat.reduceMod, Nat.reduceMul, Nat.reduceLT, Nat.reduceLeDiff, Int32.reduceOfInt, Int64.reduceOfInt, true_and, and_true, and_self, true_or, or_true, false_implies, true_implies, not_false_eq_true, not_true_eq_false, Value.category, Nat.reduceEqDiff, Option.toList, List.cons_append, List.nil_append, List.drop_succ_cons, List.drop_zero, ax_qq_eq, ax_t_1497, ax_j_1497_95, ax_n_1497_95, e0]
      exact hQ _ (mq_of h0 i1 i3 i2 hA)
    · intro c hc2 ih v5 es1 st1 i1 i2 i3
      obtain ⟨q1, -, -, q4⟩ := kx_ix hc2 hk.2 (by decide)
      have E1 := mE_fr E0 i1
      have S1 := mS_q E S i2 i3
      rw [mo_bp] at ih
      generalize mo_bp V c = B at ih ⊢
      simp only [ax_W_cons, ax_I, ax_cmp, ax_ii, ax_ll, ax_li, ax_st1, ax_st2, ax_kl, ax_k2, ax_fit, ax_rtok, List.getElem?_cons_zero, List.getElem?_cons_succ, List.length_cons, List.length_nil, List.set_cons_zero, List.set_cons_succ, Nat.reduceAdd, Nat.reduceDiv, Nat.reduceMod, Nat.reduceMul, Nat.reduceLT, Nat.reduceLeDiff, Int32.reduceOfInt, Int64.reduceOfInt, true_and, and_true, and_self, true_or, or_true, false_implies, true_implies, not_false_eq_true, not_true_eq_false, Value.category, Nat.reduceEqDiff, Option.toList, List.cons_append, List.nil_append, List.drop_succ_cons, List.drop_zero, ax_qq_eq, ax_t_1497]
      refine ax_inv_of (Nat.le_of_ble_eq_true rfl) (Nat.le_of_ble_eq_true rfl) (fun _ => mE_rcv E1 _) (fun h => absurd h (by decide)) (Nat.le_refl _) (Nat.le_refl _) (mk_cells hal E1.2.2.2.2.2 ?_)
      simp only [ax_W_cons, ax_I, ax_cmp, ax_ii, ax_ll, ax_li, ax_st1, ax_st2, ax_kl, ax_k2, ax_fit, ax_rtok, List.getElem?_cons_zero, List.getElem?_cons_succ, List.length_cons, List.length_nil, List.set_cons_zero, List.set_cons_succ, Nat.reduceAdd, Nat.reduceDiv, Nat.reduceMod, Nat.reduceMul, Nat.reduceLT, Nat.reduceLeDiff, Int32.reduceOfInt, Int64.reduceOfInt, true_and, and_true, and_self, true_or, or_true, false_implies, true_implies, not_false_eq_true, not_true_eq_false, Value.category, Nat.reduceEqDiff, Option.toList, List.cons_append, List.nil_append, List.drop_succ_cons, List.drop_zero, ax_qq_eq, ax_t_1497, q1]
      refine ax_inv_of (Nat.le_of_ble_eq_true rfl) (Nat.le_of_ble_eq_true rfl) (fun _ => mE_rcv E1 _) (fun h => absurd h (by decide)) (Nat.le_refl _) (Nat.le_refl _) (mk_isCourtier hal hp E1.2.2.2.2.2 _ ?_)
      rw [hi]
      have b1 : ¬ kx_b true = 0 := by decide
      simp only [ax_W_cons, ax_I, ax_cmp, ax_ii, ax_ll, ax_li, ax_st1, ax_st2, ax_kl, ax_k2, ax_fit, ax_rtok, List.getElem?_cons_zero, List.getElem?_cons_succ, List.length_cons, List.length_nil, List.set_cons_zero, List.set_cons_succ, Nat.reduceAdd, Nat.reduceDiv, Nat.reduceMod, Nat.reduceMul, Nat.reduceLT, Nat.reduceLeDiff, Int32.reduceOfInt, Int64.reduceOfInt, true_and, and_true, and_self, true_or, or_true, false_implies, true_implies, not_false_eq_true, not_true_eq_false, Value.category, Nat.reduceEqDiff, Option.toList, List.cons_append, List.nil_append, List.drop_succ_cons, List.drop_zero, ax_qq_eq, ax_t_1497, b1]
      refine ax_inv_of (Nat.le_of_ble_eq_true rfl) (Nat.le_of_ble_eq_true rfl) (fun _ => mE_rcv E1 _) (fun h => absurd h (by decide)) (Nat.le_refl _) (Nat.le_refl _) (mk_tries E1 S1 ?_)
      intro es2 st2 f1 f2 f3 f4
      have E2 := mE_fr E1 f1
      obtain ⟨th, tp, sz, at0, fl, cd, nm, rm, on, fh, un, g, w0⟩ := id E2.2.2.2.2.2.1
      have y1 := f3.1.1
      have a1 : (1106 : Int32) + nI i' = nI (1092 + 14 + i') := kn_add 1106 i'
      have a2 : vp_in (nI (1092 + 14 + i')) 1196 := nI_in (by omega) (by decide)
      have a3 : (nI (1092 + 14 + i')).toNatClampNeg = 1092 + 14 + i' := nI_clamp (by omega)
      simp only [ax_W_cons, ax_I, ax_cmp, ax_ii, ax_ll, ax_li, ax_st1, ax_st2, ax_kl, ax_k2, ax_fit, ax_rtok, List.getElem?_cons_zero, List.getElem?_cons_succ, List.length_cons, List.length_nil, List.set_cons_zero, List.set_cons_succ, Nat.reduceAdd, Nat.reduceDiv, Nat.reduceMod, Nat.reduceMul, Nat.reduceLT, Nat.reduceLeDiff, Int32.reduceOfInt, Int64.reduceOfInt, true_and, and_true, and_self, true_or, or_true, false_implies, true_implies, not_false_eq_true, not_true_eq_false, Value.category, Nat.reduceEqDiff, Option.toList, List.cons_append, List.nil_append, List.drop_succ_cons, List.drop_zero, ax_qq_eq, ax_t_1497, w0, y1, mo_f, hal, a1, a2, a3]
      have g1 := mfr_up es2 (.inl (0, 1196, .inl (upd st2 (1092 + 14 + i') (nI c))))
      have g2 := mX_up (f := upd st2 (1092 + 14 + i') (nI c)) f3.1
      have g3 := mfs_up (b := 1092) (j := 1092 + 14 + i') st2 (nI c) (by omega)
      have g4 := mV_pl hk.2 hp f3.2.1 hi' (nI c)
      have E3 := mE_fr E2 g1
      refine ax_inv_of (Nat.le_of_ble_eq_true rfl) (Nat.le_of_ble_eq_true rfl) (fun _ => mE_rcv E3 _) (fun h => absurd h (by decide)) (Nat.le_refl _) (Nat.le_refl _) (mk_runs E3 ⟨g2, g4, S.2.2.1, kpl_upd S.2.2.2.1 hc2, S.2.2.2.2⟩ (m := 20) (by omega) ?_)
      intro es4 st4 r1 r2 r3
      obtain ⟨th, tp, sz, at0, fl, cd, nm, rm, on, fh, un, g, w0⟩ := (mE_fr E3 r1).2.2.2.2.2.1
      have y1 := r3.1.1
      obtain ⟨e1, v1, e2⟩ := mx_1112 (c := i') (by omega)
      have e3 := r3.2.1.2.2.2.2 i' hi'
      rw [← hV c] at e3
      have ih := fun v5 => ih v5 es4 st4 (mfr_trans i1 (mfr_trans f1 (mfr_trans g1 r1))) (mfq_trans i2 (mfq_trans (mfs_q (by omega) f2) (mfq_trans (mfs_q (by omega) g3) (mfs_q (by omega) r2)))) r3.1
      by_cases h8 : B.2 < V c
      · have h7 : ¬ V c ≤ B.2 := kx_lt_nle h8
        rw [if_pos h8] at ih
        simp only [ax_W_cons, ax_I, ax_cmp, ax_ii, ax_ll, ax_li, ax_st1, ax_st2, ax_kl, ax_k2, ax_fit, ax_rtok, List.getElem?_cons_zero, List.getElem?_cons_succ, List.length_cons, List.length_nil, List.set_cons_zero, List.set_cons_succ, Nat.reduceAdd, Nat.reduceDiv, Nat.reduceMod, Nat.reduceMul, Nat.reduceLT, Nat.reduceLeDiff, Int32.reduceOfInt, Int64.reduceOfInt, true_and, and_true, and_self, true_or, or_true, false_implies, true_implies, not_false_eq_true, not_true_eq_false, Value.category, Nat.reduceEqDiff, Option.toList, List.cons_append, List.nil_append, List.drop_succ_cons, List.drop_zero, ax_qq_eq, ax_t_1497, ax_j_1497_75, ax_n_1497_75, ax_j_1497_88, ax_n_1497_88, w0, y1, mo_f, hal, e1, v1, e2, e3, h7, q4]
        rw [ax_j_1497_12]
        exact ih _
      · have h7 : V c ≤ B.2 := by rw [← kx_nlt]; exact h8
        rw [if_neg h8] at ih
        simp only [ax_W_cons, ax_I, ax_cmp, ax_ii, ax_ll, ax_li, ax_st1, ax_st2, ax_kl, ax_k2, ax_fit, ax_rtok, List.getElem?_cons_zero, List.getElem?_cons_succ, List.length_cons, List.length_nil, List.set_cons_zero, List.set_cons_succ, Nat.reduceAdd, Nat.reduceDiv, Nat.reduceMod, Nat.reduceMul, Nat.reduceLT, Nat.reduceLeDiff, Int32.reduceOfInt, Int64.reduceOfInt, true_and, and_true, and_self, true_or, or_true, false_implies, true_implies, not_false_eq_true, not_true_eq_false, Value.category, Nat.reduceEqDiff, Option.toList, List.cons_append, List.nil_append, List.drop_succ_cons, List.drop_zero, ax_qq_eq, ax_t_1497, ax_j_1497_74, ax_n_1497_74, ax_j_1497_75, ax_n_1497_75, ax_j_1497_87, ax_n_1497_87, ax_j_1497_88, ax_n_1497_88, w0, y1, mo_f, hal, e1, v1, e2, e3, h7, q4]
        rw [ax_j_1497_12]
        exact ih _
  · have hi : kx_cell p i = false := by simpa using hi
    rw [if_neg (by rw [hi]; decide)] at hQ
    have q1 : ¬ nI k ≤ 0 := nI_nle (by omega) (by omega)
    simp only [ax_W_cons, ax_I, ax_cmp, ax_ii, ax_ll, ax_li, ax_st1, ax_st2, ax_kl, ax_k2, ax_fit, ax_rtok, List.getElem?_cons_zero, List.getElem?_cons_succ, List.length_cons, List.length_nil, List.set_cons_zero, List.set_cons_succ, Nat.reduceAdd, Nat.reduceDiv, Nat.reduceMod, Nat.reduceMul, Nat.reduceLT, Nat.reduceLeDiff, Int32.reduceOfInt, Int64.reduceOfInt, true_and, and_true, and_self, true_or, or_true, false_implies, true_implies, not_false_eq_true, not_true_eq_false, Value.category, Nat.reduceEqDiff, Option.toList, List.cons_append, List.nil_append, List.drop_succ_cons, List.drop_zero, ax_qq_eq, ax_t_1497]
    refine ax_inv_of (Nat.le_of_ble_eq_true rfl) (Nat.le_of_ble_eq_true rfl) (fun _ => mE_rcv E0 _) (fun h => absurd h (by decide)) (Nat.le_refl _) (Nat.le_refl _) (mk_cells hal E0.2.2.2.2.2 ?_)
    simp only [ax_W_cons, ax_I, ax_cmp, ax_ii, ax_ll, ax_li, ax_st1, ax_st2, ax_kl, ax_k2, ax_fit, ax_rtok, List.getElem?_cons_zero, List.getElem?_cons_succ, List.length_cons, List.length_nil, List.set_cons_zero, List.set_cons_succ, Nat.reduceAdd, Nat.reduceDiv, Nat.reduceMod, Nat.reduceMul, Nat.reduceLT, Nat.reduceLeDiff, Int32.reduceOfInt, Int64.reduceOfInt, true_and, and_true, and_self, true_or, or_true, false_implies, true_implies, not_false_eq_true, not_true_eq_false, Value.category, Nat.reduceEqDiff, Option.toList, List.cons_append, List.nil_append, List.drop_succ_cons, List.drop_zero, ax_qq_eq, ax_t_1497, q1]
    refine ax_inv_of (Nat.le_of_ble_eq_true rfl) (Nat.le_of_ble_eq_true rfl) (fun _ => mE_rcv E0 _) (fun h => absurd h (by decide)) (Nat.le_refl _) (Nat.le_refl _) (mk_isCourtier hal hp E0.2.2.2.2.2 _ ?_)
    rw [hi]
    have b1 : kx_b false = 0 := by decide
    simp only [ax_W_cons, ax_I, ax_cmp, ax_ii, ax_ll, ax_li, ax_st1, ax_st2, ax_kl, ax_k2, ax_fit, ax_rtok, List.getElem?_cons_zero, List.getElem?_cons_succ, List.length_cons, List.length_nil, List.set_cons_zero, List.set_cons_succ, Nat.reduceAdd, Nat.reduceDiv, Nat.reduceMod, Nat.reduceMul, Nat.reduceLT, Nat.reduceLeDiff, Int32.reduceOfInt, Int64.reduceOfInt, true_and, and_true, and_self, true_or, or_true, false_implies, true_implies, not_false_eq_true, not_true_eq_false, Value.category, Nat.reduceEqDiff, Option.toList, List.cons_append, List.nil_append, List.drop_succ_cons, List.drop_zero, ax_qq_eq, ax_t_1497, ax_j_1497_95, ax_n_1497_95, b1]
    exact hQ _ (mq_of h0 (mfr_rf _) S0.1 (mfq_rf _) hA)
theorem mp_swap (Z : mZ es n st k p hc kd pm ht hs F1 F2 T C sh pl dn) (hQ : ∀ es', mq es st es' → Q (some (.int (kx_bc (fun i j => kx_all (kx_dd F1 F2 k kd ht (nI C) hs hc T sh (kx_exch pl (nI i) (nI j))) p 20) p (kx_all (kx_dd F1 F2 k kd ht (nI C) hs hc T sh pl) p 20) p).2)) es') : ax_Mt (d + 10) 1492 [.ref 159] n sl es Q := by
  obtain ⟨E, S, hT, hdn, hA⟩ := Z
  obtain ⟨hal, hk, hp, hhs, hF, hK⟩ := id E
  have hsum : ∃ s, s < 2 ^ 30 ∧ kx_sum dn p = nI s := by
    obtain ⟨v, hv, ev⟩ := kx_sum_in (p := p) (f := dn) (B := 200 * T) hdn p (Nat.le_refl _)
    have : 200 * T * p ≤ 200 * T * 6 := Nat.mul_le_mul_left _ hp
    exact ⟨v, by omega, ev⟩
  have hall : ∀ pl', ∃ v, v < 2 ^ 30 ∧ kx_all (kx_dd F1 F2 k kd ht (nI C) hs hc T sh pl') p 20 = nI v := fun pl' => by
    obtain ⟨v, hv, ev⟩ := kx_all_in (F1 := F1) (k := k) (kd := kd) (ht := ht) (cr := nI C) (hs := hs) (hc := hc) (b := T) (sh := sh) (pl := pl') (mK_F2 hK) hp 20
    exact ⟨v, by omega, ev⟩
  rw [← (kx_bc_add (W := fun i j => kx_sum dn p + kx_all (kx_dd F1 F2 k kd ht (nI C) hs hc T sh (kx_exch pl (nI i) (nI j))) p 20) (S := kx_sum dn p) (fun i j => hall _) hsum (fun i j => rfl) (hall pl) p).2.1] at hQ
  generalize hV : (fun (i j : Nat) => kx_sum dn p + kx_all (kx_dd F1 F2 k kd ht (nI C) hs hc T sh (kx_exch pl (nI i) (nI j))) p 20) = V at hQ
  have hV : ∀ i j, V i j = kx_sum dn p + kx_all (kx_dd F1 F2 k kd ht (nI C) hs hc T sh (kx_exch pl (nI i) (nI j))) p 20 := fun i j => by rw [← hV]
  generalize hA0 : kx_sum dn p + kx_all (kx_dd F1 F2 k kd ht (nI C) hs hc T sh pl) p 20 = A0 at hQ
  refine ax_Mt_go (m := ax_m_11_84) (ls := [some (.ref 159), none, none, none, none, none]) rfl ax_b_1492_0 (Nat.le_of_ble_eq_true rfl) rfl ?_
  refine mk_thrown hal hK.1 rfl ?_
  intro es0 h0
  have E0 := mE_th E h0
  have S0 := mS_th S h0
  simp only [ax_W_cons, ax_I, ax_cmp, ax_ii, ax_ll, ax_li, ax_st1, ax_st2, ax_kl, ax_k2, ax_fit, ax_rtok, List.getElem?_cons_zero, List.getElem?_cons_succ, List.length_cons, List.length_nil, List.set_cons_zero, List.set_cons_succ, Nat.reduceAdd, Nat.reduceDiv, Nat.reduceMod, Nat.reduceMul, Nat.reduceLT, Nat.reduceLeDiff, Int32.reduceOfInt, Int64.reduceOfInt, true_and, and_true, and_self, true_or, or_true, false_implies, true_implies, not_false_eq_true, not_true_eq_false, Value.category, Nat.reduceEqDiff, Option.toList, List.cons_append, List.nil_append, List.drop_succ_cons, List.drop_zero, ax_qq_eq, ax_t_1492]
  refine ax_inv_of (Nat.le_of_ble_eq_true rfl) (Nat.le_of_ble_eq_true rfl) (fun _ => mE_rcv E0 _) (fun h => absurd h (by decide)) (Nat.le_refl _) (Nat.le_refl _) (mk_tries E0 S0 ?_)
  intro es1 st1 f1 f2 f3 f4
  have E1 := mE_fr E0 f1
  simp only [ax_W_cons, ax_I, ax_cmp, ax_ii, ax_ll, ax_li, ax_st1, ax_st2, ax_kl, ax_k2, ax_fit, ax_rtok, List.getElem?_cons_zero, List.getElem?_cons_succ, List.length_cons, List.length_nil, List.set_cons_zero, List.set_cons_succ, Nat.reduceAdd, Nat.reduceDiv, Nat.reduceMod, Nat.reduceMul, Nat.reduceLT, Nat.reduceLeDiff, Int32.reduceOfInt, Int64.reduceOfInt, true_and, and_true, and_self, true_or, or_true, false_implies, true_implies, not_false_eq_true, not_true_eq_false, Value.category, Nat.reduceEqDiff, Option.toList, List.cons_append, List.nil_append, List.drop_succ_cons, List.drop_zero, ax_qq_eq, ax_t_1492]
  refine ax_inv_of (Nat.le_of_ble_eq_true rfl) (Nat.le_of_ble_eq_true rfl) (fun _ => mE_rcv E1 _) (fun h => absurd h (by decide)) (Nat.le_refl _) (Nat.le_refl _) (mk_runs E1 f3 (m := 20) (by omega) ?_)
  intro es2 st2 g1 g2 g3
  have E2 := mE_fr E1 g1
  simp only [ax_W_cons, ax_I, ax_cmp, ax_ii, ax_ll, ax_li, ax_st1, ax_st2, ax_kl, ax_k2, ax_fit, ax_rtok, List.getElem?_cons_zero, List.getElem?_cons_succ, List.length_cons, List.length_nil, List.set_cons_zero, List.set_cons_succ, Nat.reduceAdd, Nat.reduceDiv, Nat.reduceMod, Nat.reduceMul, Nat.reduceLT, Nat.reduceLeDiff, Int32.reduceOfInt, Int64.reduceOfInt, true_and, and_true, and_self, true_or, or_true, false_implies, true_implies, not_false_eq_true, not_true_eq_false, Value.category, Nat.reduceEqDiff, Option.toList, List.cons_append, List.nil_append, List.drop_succ_cons, List.drop_zero, ax_qq_eq, ax_t_1492]
  refine ax_inv_of (Nat.le_of_ble_eq_true rfl) (Nat.le_of_ble_eq_true rfl) (fun _ => mE_rcv E2 _) (fun h => absurd h (by decide)) (Nat.le_refl _) (Nat.le_refl _) (mk_doneOf hal E2.2.2.2.2.2 g3.1 hp (b := 1092) (by omega) g3.2.1 ?_)
  rw [kx_sum_pdn, hA0]
  simp only [ax_W_cons, ax_I, ax_cmp, ax_ii, ax_ll, ax_li, ax_st1, ax_st2, ax_kl, ax_k2, ax_fit, ax_rtok, List.getElem?_cons_zero, List.getElem?_cons_succ, List.length_cons, List.length_nil, List.set_cons_zero, List.set_cons_succ, Nat.reduceAdd, Nat.reduceDiv, Nat.reduceMod, Nat.reduceMul, Nat.reduceLT, Nat.reduceLeDiff, Int32.reduceOfInt, Int64.reduceOfInt, true_and, and_true, and_self, true_or, or_true, false_implies, true_implies, not_false_eq_true, not_true_eq_false, Value.category, Nat.reduceEqDiff, Option.toList, List.cons_append, List.nil_append, List.drop_succ_cons, List.drop_zero, ax_qq_eq, ax_t_1492]
  rw [ax_n_1492_27]
  have L := kx_loop (k := p) (I := fun i => ∀ v4 v5 es1 st1, mfr es0 es1 → mfq st st1 → mX es1 st1 → ax_W (d + 10) n sl 1492 [(1, .iload 3), (1, .aload 0), (3, .invokeinterface 1451 5), (3, .if_icmp .ge 121), (1, .iload 3), (1, .iconst 1), (1, .iadd), (2, .istore 4)] 27 [some (.ref 159), some (.int (kx_bc V p A0 i).1), some (.int (kx_bc V p A0 i).2), some (.int (nI i)), v4, v5] [] n sl es1 (ax_qq n sl Q)) ?_ ?_
  · exact L none none es2 st2 (mfr_trans f1 g1) (mfq_trans (mfs_q (by omega) f2) (mfs_q (by omega) g2)) g3.1
  · intro v4 v5 es1 st1 i1 i2 i3
    have e0 := kx_nn (k := p) (by omega)
    have E1 := mE_fr E0 i1
    simp only [ax_W_cons, ax_I, ax_cmp, ax_ii, ax_ll, ax_li, ax_st1, ax_st2, ax_kl, ax_k2, ax_fit, ax_rtok, List.getElem?_cons_zero, List.getElem?_cons_succ, List.length_cons, List.length_nil, List.set_cons_zero, List.set_cons_succ, Nat.reduceAdd, Nat.reduceDiv, Nat.reduceMod, Nat.reduceMul, Nat.reduceLT, Nat.reduceLeDiff, Int32.reduceOfInt, Int64.reduceOfInt, true_and, and_true, and_self, true_or, or_true, false_implies, true_implies, not_false_eq_true, not_true_eq_false, Value.category, Nat.reduceEqDiff, Option.toList, List.cons_append, List.nil_append, List.drop_succ_cons, List.drop_zero, ax_qq_eq, ax_t_1492]
    refine ax_inv_of (Nat.le_of_ble_eq_true rfl) (Nat.le_of_ble_eq_true rfl) (fun _ => mE_rcv E1 _) (fun h => absurd h (by decide)) (Nat.le_refl _) (Nat.le_refl _) (mk_courtiers hal E1.2.2.2.2.2 ?_)
    simp only [ax_W_cons, ax_I, ax_cmp, ax_ii, ax_ll, ax_li, ax_st1, ax_st2, ax_kl, ax_k2, ax_fit, ax_rtok, List.getElem?_cons_zero, List.getElem?_cons_succ, List.length_cons, List.length_nil, List.set_cons_zero, List.set_cons_succ, Nat.reduceAdd, Nat.reduceDiv, Nat.reduceMod, Nat.reduceMul, Nat.reduceLT, Nat.reduceLeDiff, Int32.reduceOfInt, Int64.reduceOfInt, true_and, and_true, and_self, true_or, or_true, false_implies, true_implies, not_false_eq_true, not_true_eq_false, Value.category, Nat.reduceEqDiff, Option.toList, List.cons_append, List.nil_append, List.drop_succ_cons, List.drop_zero, ax_qq_eq, ax_t_1492, ax_j_1492_121, ax_n_1492_121, e0]
    exact hQ _ (mq_of h0 i1 i3 i2 hA)
  · intro i hi ih v4 v5 es1 st1 i1 i2 i3
    obtain ⟨q1, -, -, q4⟩ := kx_ix hi hp (by decide)
    have E1 := mE_fr E0 i1
    rw [kx_bc] at ih
    generalize kx_bc V p A0 i = B at ih ⊢
    simp only [ax_W_cons, ax_I, ax_cmp, ax_ii, ax_ll, ax_li, ax_st1, ax_st2, ax_kl, ax_k2, ax_fit, ax_rtok, List.getElem?_cons_zero, List.getElem?_cons_succ, List.length_cons, List.length_nil, List.set_cons_zero, List.set_cons_succ, Nat.reduceAdd, Nat.reduceDiv, Nat.reduceMod, Nat.reduceMul, Nat.reduceLT, Nat.reduceLeDiff, Int32.reduceOfInt, Int64.reduceOfInt, true_and, and_true, and_self, true_or, or_true, false_implies, true_implies, not_false_eq_true, not_true_eq_false, Value.category, Nat.reduceEqDiff, Option.toList, List.cons_append, List.nil_append, List.drop_succ_cons, List.drop_zero, ax_qq_eq, ax_t_1492]
    refine ax_inv_of (Nat.le_of_ble_eq_true rfl) (Nat.le_of_ble_eq_true rfl) (fun _ => mE_rcv E1 _) (fun h => absurd h (by decide)) (Nat.le_refl _) (Nat.le_refl _) (mk_courtiers hal E1.2.2.2.2.2 ?_)
    simp only [ax_W_cons, ax_I, ax_cmp, ax_ii, ax_ll, ax_li, ax_st1, ax_st2, ax_kl, ax_k2, ax_fit, ax_rtok, List.getElem?_cons_zero, List.getElem?_cons_succ, List.length_cons, List.length_nil, List.set_cons_zero, List.set_cons_succ, Nat.reduceAdd, Nat.reduceDiv, Nat.reduceMod, Nat.reduceMul, Nat.reduceLT, Nat.reduceLeDiff, Int32.reduceOfInt, Int64.reduceOfInt, true_and, and_true, and_self, true_or, or_true, false_implies, true_implies, not_false_eq_true, not_true_eq_false, Value.category, Nat.reduceEqDiff, Option.toList, List.cons_append, List.nil_append, List.drop_succ_cons, List.drop_zero, ax_qq_eq, ax_t_1492, q1, q4]
    rw [ax_n_1492_40]
    have L2 := kx_loop (k := p - (i + 1)) (I := fun j => ∀ v5 es1 st1, mfr es0 es1 → mfq st st1 → mX es1 st1 → ax_W (d + 10) n sl 1492 [(2, .iload 4), (1, .aload 0), (3, .invokeinterface 1451 5), (3, .if_icmp .ge 115), (1, .aload 0), (3, .invokeinterface 1483 5), (1, .aload 0), (3, .iconst 1092), (1, .iload 3), (2, .iload 4), (3, .invokeinterface 1463 17), (1, .aload 0), (2, .iconst 20), (3, .invokeinterface 1484 9), (1, .aload 0), (3, .iconst 1092), (3, .invokeinterface 1470 9), (2, .istore 5), (2, .iload 5), (1, .iload 1), (3, .if_icmp .le 94), (2, .iconst 8), (1, .iload 3), (1, .imul), (2, .iload 4), (1, .iadd), (3, .goto 95)] 40 [some (.ref 159), some (.int (kx_bc1 V i B j).1), some (.int (kx_bc1 V i B j).2), some (.int (nI i)), some (.int (nI (i + 1 + j))), v5] [] n sl es1 (ax_qq n sl Q)) ?_ ?_
    · exact L2 v5 es1 st1 i1 i2 i3
    · intro v5 es1 st1 i1 i2 i3
      rw [show i + 1 + (p - (i + 1)) = p by omega]
      have e0 := kx_nn (k := p) (by omega)
      have E1 := mE_fr E0 i1
      simp only [ax_W_cons, ax_I, ax_cmp, ax_ii, ax_ll, ax_li, ax_st1, ax_st2, ax_kl, ax_k2, ax_fit, ax_rtok, List.getElem?_cons_zero, List.getElem?_cons_succ, List.length_cons, List.length_nil, List.set_cons_zero, List.set_cons_succ, Nat.reduceAdd, Nat.reduceDiv, Nat.reduceMod, Nat.reduceMul, Nat.reduceLT, Nat.reduceLeDiff, Int32.reduceOfInt, Int64.reduceOfInt, true_and, and_true, and_self, true_or, or_true, false_implies, true_implies, not_false_eq_true, not_true_eq_false, Value.category, Nat.reduceEqDiff, Option.toList, List.cons_append, List.nil_append, List.drop_succ_cons, List.drop_zero, ax_qq_eq, ax_t_1492]
      refine ax_inv_of (Nat.le_of_ble_eq_true rfl) (Nat.le_of_ble_eq_true rfl) (fun _ => mE_rcv E1 _) (fun h => absurd h (by decide)) (Nat.le_refl _) (Nat.le_refl _) (mk_courtiers hal E1.2.2.2.2.2 ?_)
      simp only [ax_W_cons, ax_I, ax_cmp, ax_ii, ax_ll, ax_li, ax_st1, ax_st2, ax_kl, ax_k2, ax_fit, ax_rtok, List.getElem?_cons_zero, List.getElem?_cons_succ, List.length_cons, List.length_nil, List.set_cons_zero, List.set_cons_succ, Nat.reduceAdd, Nat.reduceDiv, Nat.reduceMod, Nat.reduceMul, Nat.reduceLT, Nat.reduceLeDiff, Int32.reduceOfInt, Int64.reduceOfInt, true_and, and_true, and_self, true_or, or_true, false_implies, true_implies, not_false_eq_true, not_true_eq_false, Value.category, Nat.reduceEqDiff, Option.toList, List.cons_append, List.nil_append, List.drop_succ_cons, List.drop_zero, ax_qq_eq, ax_t_1492, ax_j_1492_115, ax_n_1492_115, e0, q4]
      rw [ax_j_1492_27]
      exact ih _ _ es1 st1 i1 i2 i3
    · intro j hj ih2 v5 es1 st1 i1 i2 i3
      obtain ⟨r1, -, -, r4⟩ := kx_ix (c := i + 1 + j) (k := p) (by omega) hp (by decide)
      have E1 := mE_fr E0 i1
      have S1 := mS_q E S i2 i3
      rw [kx_bc1] at ih2
      generalize kx_bc1 V i B j = D at ih2 ⊢
      simp only [ax_W_cons, ax_I, ax_cmp, ax_ii, ax_ll, ax_li, ax_st1, ax_st2, ax_kl, ax_k2, ax_fit, ax_rtok, List.getElem?_cons_zero, List.getElem?_cons_succ, List.length_cons, List.length_nil, List.set_cons_zero, List.set_cons_succ, Nat.reduceAdd, Nat.reduceDiv, Nat.reduceMod, Nat.reduceMul, Nat.reduceLT, Nat.reduceLeDiff, Int32.reduceOfInt, Int64.reduceOfInt, true_and, and_true, and_self, true_or, or_true, false_implies, true_implies, not_false_eq_true, not_true_eq_false, Value.category, Nat.reduceEqDiff, Option.toList, List.cons_append, List.nil_append, List.drop_succ_cons, List.drop_zero, ax_qq_eq, ax_t_1492]
      refine ax_inv_of (Nat.le_of_ble_eq_true rfl) (Nat.le_of_ble_eq_true rfl) (fun _ => mE_rcv E1 _) (fun h => absurd h (by decide)) (Nat.le_refl _) (Nat.le_refl _) (mk_courtiers hal E1.2.2.2.2.2 ?_)
      simp only [ax_W_cons, ax_I, ax_cmp, ax_ii, ax_ll, ax_li, ax_st1, ax_st2, ax_kl, ax_k2, ax_fit, ax_rtok, List.getElem?_cons_zero, List.getElem?_cons_succ, List.length_cons, List.length_nil, List.set_cons_zero, List.set_cons_succ, Nat.reduceAdd, Nat.reduceDiv, Nat.reduceMod, Nat.reduceMul, Nat.reduceLT, Nat.reduceLeDiff, Int32.reduceOfInt, Int64.reduceOfInt, true_and, and_true, and_self, true_or, or_true, false_implies, true_implies, not_false_eq_true, not_true_eq_false, Value.category, Nat.reduceEqDiff, Option.toList, List.cons_append, List.nil_append, List.drop_succ_cons, List.drop_zero, ax_qq_eq, ax_t_1492, r1]
      refine ax_inv_of (Nat.le_of_ble_eq_true rfl) (Nat.le_of_ble_eq_true rfl) (fun _ => mE_rcv E1 _) (fun h => absurd h (by decide)) (Nat.le_refl _) (Nat.le_refl _) (mk_tries E1 S1 ?_)
      intro es2 st2 f1 f2 f3 f4
      have E2 := mE_fr E1 f1
      simp only [ax_W_cons, ax_I, ax_cmp, ax_ii, ax_ll, ax_li, ax_st1, ax_st2, ax_kl, ax_k2, ax_fit, ax_rtok, List.getElem?_cons_zero, List.getElem?_cons_succ, List.length_cons, List.length_nil, List.set_cons_zero, List.set_cons_succ, Nat.reduceAdd, Nat.reduceDiv, Nat.reduceMod, Nat.reduceMul, Nat.reduceLT, Nat.reduceLeDiff, Int32.reduceOfInt, Int64.reduceOfInt, true_and, and_true, and_self, true_or, or_true, false_implies, true_implies, not_false_eq_true, not_true_eq_false, Value.category, Nat.reduceEqDiff, Option.toList, List.cons_append, List.nil_append, List.drop_succ_cons, List.drop_zero, ax_qq_eq, ax_t_1492]
      refine ax_inv_of (Nat.le_of_ble_eq_true rfl) (Nat.le_of_ble_eq_true rfl) (fun _ => mE_rcv E2 _) (fun h => absurd h (by decide)) (Nat.le_refl _) (Nat.le_refl _) (mk_changes hal E2.2.2.2.2.2.1 f3.1 hk.2 hp (b := 1092) (by omega) f3.2.1 hi (j := i + 1 + j) (by omega) ?_)
      intro es3 st3 g1 g2 g3 g4
      have E3 := mE_fr E2 g1
      simp only [ax_W_cons, ax_I, ax_cmp, ax_ii, ax_ll, ax_li, ax_st1, ax_st2, ax_kl, ax_k2, ax_fit, ax_rtok, List.getElem?_cons_zero, List.getElem?_cons_succ, List.length_cons, List.length_nil, List.set_cons_zero, List.set_cons_succ, Nat.reduceAdd, Nat.reduceDiv, Nat.reduceMod, Nat.reduceMul, Nat.reduceLT, Nat.reduceLeDiff, Int32.reduceOfInt, Int64.reduceOfInt, true_and, and_true, and_self, true_or, or_true, false_implies, true_implies, not_false_eq_true, not_true_eq_false, Value.category, Nat.reduceEqDiff, Option.toList, List.cons_append, List.nil_append, List.drop_succ_cons, List.drop_zero, ax_qq_eq, ax_t_1492]
      refine ax_inv_of (Nat.le_of_ble_eq_true rfl) (Nat.le_of_ble_eq_true rfl) (fun _ => mE_rcv E3 _) (fun h => absurd h (by decide)) (Nat.le_refl _) (Nat.le_refl _) (mk_runs E3 ⟨g2, g4, zv_exch hp S.2.2 hi (by omega)⟩ (m := 20) (by omega) ?_)
      intro es4 st4 t1 t2 t3
      have E4 := mE_fr E3 t1
      simp only [ax_W_cons, ax_I, ax_cmp, ax_ii, ax_ll, ax_li, ax_st1, ax_st2, ax_kl, ax_k2, ax_fit, ax_rtok, List.getElem?_cons_zero, List.getElem?_cons_succ, List.length_cons, List.length_nil, List.set_cons_zero, List.set_cons_succ, Nat.reduceAdd, Nat.reduceDiv, Nat.reduceMod, Nat.reduceMul, Nat.reduceLT, Nat.reduceLeDiff, Int32.reduceOfInt, Int64.reduceOfInt, true_and, and_true, and_self, true_or, or_true, false_implies, true_implies, not_false_eq_true, not_true_eq_false, Value.category, Nat.reduceEqDiff, Option.toList, List.cons_append, List.nil_append, List.drop_succ_cons, List.drop_zero, ax_qq_eq, ax_t_1492]
      refine ax_inv_of (Nat.le_of_ble_eq_true rfl) (Nat.le_of_ble_eq_true rfl) (fun _ => mE_rcv E4 _) (fun h => absurd h (by decide)) (Nat.le_refl _) (Nat.le_refl _) (mk_doneOf hal E4.2.2.2.2.2 t3.1 hp (b := 1092) (by omega) t3.2.1 ?_)
      rw [kx_sum_pdn, ← hV]
      have ih2 := fun v5 => ih2 v5 es4 st4 (mfr_trans i1 (mfr_trans f1 (mfr_trans g1 t1))) (mfq_trans i2 (mfq_trans (mfs_q (by omega) f2) (mfq_trans (mfs_q (by omega) g3) (mfs_q (by omega) t2)))) t3.1
      by_cases h8 : D.1 < V i (i + 1 + j)
      · have h7 : ¬ V i (i + 1 + j) ≤ D.1 := kx_lt_nle h8
        rw [if_pos h8] at ih2
        simp only [ax_W_cons, ax_I, ax_cmp, ax_ii, ax_ll, ax_li, ax_st1, ax_st2, ax_kl, ax_k2, ax_fit, ax_rtok, List.getElem?_cons_zero, List.getElem?_cons_succ, List.length_cons, List.length_nil, List.set_cons_zero, List.set_cons_succ, Nat.reduceAdd, Nat.reduceDiv, Nat.reduceMod, Nat.reduceMul, Nat.reduceLT, Nat.reduceLeDiff, Int32.reduceOfInt, Int64.reduceOfInt, true_and, and_true, and_self, true_or, or_true, false_implies, true_implies, not_false_eq_true, not_true_eq_false, Value.category, Nat.reduceEqDiff, Option.toList, List.cons_append, List.nil_append, List.drop_succ_cons, List.drop_zero, ax_qq_eq, ax_t_1492, ax_j_1492_95, ax_n_1492_95, ax_j_1492_108, ax_n_1492_108, h7, r4]
        rw [ax_j_1492_40]
        exact ih2 _
      · have h7 : V i (i + 1 + j) ≤ D.1 := by rw [← kx_nlt]; exact h8
        rw [if_neg h8] at ih2
        simp only [ax_W_cons, ax_I, ax_cmp, ax_ii, ax_ll, ax_li, ax_st1, ax_st2, ax_kl, ax_k2, ax_fit, ax_rtok, List.getElem?_cons_zero, List.getElem?_cons_succ, List.length_cons, List.length_nil, List.set_cons_zero, List.set_cons_succ, Nat.reduceAdd, Nat.reduceDiv, Nat.reduceMod, Nat.reduceMul, Nat.reduceLT, Nat.reduceLeDiff, Int32.reduceOfInt, Int64.reduceOfInt, true_and, and_true, and_self, true_or, or_true, false_implies, true_implies, not_false_eq_true, not_true_eq_false, Value.category, Nat.reduceEqDiff, Option.toList, List.cons_append, List.nil_append, List.drop_succ_cons, List.drop_zero, ax_qq_eq, ax_t_1492, ax_j_1492_94, ax_n_1492_94, ax_j_1492_95, ax_n_1492_95, ax_j_1492_107, ax_n_1492_107, ax_j_1492_108, ax_n_1492_108, h7, r4]
        rw [ax_j_1492_40]
        exact ih2 _
theorem mV_o (h : mV st b k p T C sh pl dn) (hk : k ≤ 12) (hp : p ≤ 6) {b' : Nat} {st' : Nat → Int32} (hf : mfs b' st st') (hd : b + 26 ≤ b' ∨ b' + 26 ≤ b) : mV st' b k p T C sh pl dn := mV_fs h hk hp hf hd
theorem mp_reach (Z : mZ es n st k p hc kd pm ht hs F1 F2 T C sh pl dn) (c o : Int32) (hQ : ∀ es', mq es st es' → Q (some (.int (zq_reach F1 k (nI C) hs hc T sh c o))) es') : ax_Mt (d + 10) 1493 [.ref 159, .int c, .int o] n sl es Q := by
  obtain ⟨E, S, hT, hdn, hA⟩ := Z
  obtain ⟨hal, hk, hp, hhs, hF, hK⟩ := id E
  unfold zq_reach at hQ
  refine ax_Mt_go (m := ax_m_11_85) (ls := [some (.ref 159), some (.int c), some (.int o), none]) rfl ax_b_1493_0 (Nat.le_of_ble_eq_true rfl) rfl ?_
  refine mk_thrown hal hK.1 rfl ?_
  intro es0 h0
  have E0 := mE_th E h0
  have S0 := mS_th S h0
  simp only [ax_W_cons, ax_I, ax_cmp, ax_ii, ax_ll, ax_li, ax_st1, ax_st2, ax_kl, ax_k2, ax_fit, ax_rtok, List.getElem?_cons_zero, List.getElem?_cons_succ, List.length_cons, List.length_nil, List.set_cons_zero, List.set_cons_succ, Nat.reduceAdd, Nat.reduceDiv, Nat.reduceMod, Nat.reduceMul, Nat.reduceLT, Nat.reduceLeDiff, Int32.reduceOfInt, Int64.reduceOfInt, true_and, and_true, and_self, true_or, or_true, false_implies, true_implies, not_false_eq_true, not_true_eq_false, Value.category, Nat.reduceEqDiff, Option.toList, List.cons_append, List.nil_append, List.drop_succ_cons, List.drop_zero, ax_qq_eq, ax_t_1493]
  refine ax_inv_of (Nat.le_of_ble_eq_true rfl) (Nat.le_of_ble_eq_true rfl) (fun _ => mE_rcv E0 _) (fun h => absurd h (by decide)) (Nat.le_refl _) (Nat.le_refl _) (mk_whole E0 S0 (b := 0) (by omega) c ?_)
  simp only [ax_W_cons, ax_I, ax_cmp, ax_ii, ax_ll, ax_li, ax_st1, ax_st2, ax_kl, ax_k2, ax_fit, ax_rtok, List.getElem?_cons_zero, List.getElem?_cons_succ, List.length_cons, List.length_nil, List.set_cons_zero, List.set_cons_succ, Nat.reduceAdd, Nat.reduceDiv, Nat.reduceMod, Nat.reduceMul, Nat.reduceLT, Nat.reduceLeDiff, Int32.reduceOfInt, Int64.reduceOfInt, true_and, and_true, and_self, true_or, or_true, false_implies, true_implies, not_false_eq_true, not_true_eq_false, Value.category, Nat.reduceEqDiff, Option.toList, List.cons_append, List.nil_append, List.drop_succ_cons, List.drop_zero, ax_qq_eq, ax_t_1493, ax_j_1493_23, ax_n_1493_23, kx_b0]
  refine ⟨fun h => ?_, fun h => ?_⟩
  · rw [if_neg (fun z => by rw [h] at z; exact absurd z.1 (by decide))] at hQ
    exact hQ _ (mq_of h0 (mfr_rf _) S0.1 (mfq_rf _) hA)
  · have h : kx_op k (nI C) c = true := by simpa using h
    refine ax_inv_of (Nat.le_of_ble_eq_true rfl) (Nat.le_of_ble_eq_true rfl) (fun _ => mE_rcv E0 _) (fun h => absurd h (by decide)) (Nat.le_refl _) (Nat.le_refl _) (mk_whole E0 S0 (b := 0) (by omega) o ?_)
    simp only [ax_W_cons, ax_I, ax_cmp, ax_ii, ax_ll, ax_li, ax_st1, ax_st2, ax_kl, ax_k2, ax_fit, ax_rtok, List.getElem?_cons_zero, List.getElem?_cons_succ, List.length_cons, List.length_nil, List.set_cons_zero, List.set_cons_succ, Nat.reduceAdd, Nat.reduceDiv, Nat.reduceMod, Nat.reduceMul, Nat.reduceLT, Nat.reduceLeDiff, Int32.reduceOfInt, Int64.reduceOfInt, true_and, and_true, and_self, true_or, or_true, false_implies, true_implies, not_false_eq_true, not_true_eq_false, Value.category, Nat.reduceEqDiff, Option.toList, List.cons_append, List.nil_append, List.drop_succ_cons, List.drop_zero, ax_qq_eq, ax_t_1493, ax_j_1493_23, ax_n_1493_23, ax_j_1493_25, ax_n_1493_25, kx_b0]
    refine ⟨fun h2 => ?_, fun h2 => ?_⟩
    · have h2 : kx_op k (nI C) o = true := by simpa using h2
      rw [if_pos ⟨h, h2⟩] at hQ
      obtain ⟨c', hc', rfl, hB⟩ := kx_op_nI hk.2 h
      obtain ⟨o', ho', rfl, hB2⟩ := kx_op_nI hk.2 h2
      rw [nI_clamp (by omega)] at hQ
      generalize hP : (fun m => !decide (kx_dr F1 k (nI C) hs hc T (kx_push sh (nI o') (nI 20)) m c' = kx_dr F1 k (nI C) hs hc T sh m c')) = P at hQ
      have hP : ∀ m, P m = !decide (kx_dr F1 k (nI C) hs hc T (kx_push sh (nI o') (nI 20)) m c' = kx_dr F1 k (nI C) hs hc T sh m c') := fun m => by rw [← hP]
      refine ax_inv_of (Nat.le_of_ble_eq_true rfl) (Nat.le_of_ble_eq_true rfl) (fun _ => mE_rcv E0 _) (fun h => absurd h (by decide)) (Nat.le_refl _) (Nat.le_refl _) (mk_tries E0 S0 ?_)
      intro es1 st1 f1 f2 f3 f4
      have E1 := mE_fr E0 f1
      simp only [ax_W_cons, ax_I, ax_cmp, ax_ii, ax_ll, ax_li, ax_st1, ax_st2, ax_kl, ax_k2, ax_fit, ax_rtok, List.getElem?_cons_zero, List.getElem?_cons_succ, List.length_cons, List.length_nil, List.set_cons_zero, List.set_cons_succ, Nat.reduceAdd, Nat.reduceDiv, Nat.reduceMod, Nat.reduceMul, Nat.reduceLT, Nat.reduceLeDiff, Int32.reduceOfInt, Int64.reduceOfInt, true_and, and_true, and_self, true_or, or_true, false_implies, true_implies, not_false_eq_true, not_true_eq_false, Value.category, Nat.reduceEqDiff, Option.toList, List.cons_append, List.nil_append, List.drop_succ_cons, List.drop_zero, ax_qq_eq, ax_t_1493]
      refine ax_inv_of (Nat.le_of_ble_eq_true rfl) (Nat.le_of_ble_eq_true rfl) (fun _ => mE_rcv E1 _) (fun h => absurd h (by decide)) (Nat.le_refl _) (Nat.le_refl _) (mk_copies hal E1.2.2.2.2.2.1 f3.1 (x := 0) (y := 1144) (m := 26) (by omega) (by omega) (by omega) ?_)
      intro es2 g1 g2
      have E2 := mE_fr E1 g1
      have g3 := mfs_cp (st := st1) 0 1144
      have g4 := mV_cp (y := 1144) (Nat.le_refl _) f4.2.1 hk.2 hp
      simp only [ax_W_cons, ax_I, ax_cmp, ax_ii, ax_ll, ax_li, ax_st1, ax_st2, ax_kl, ax_k2, ax_fit, ax_rtok, List.getElem?_cons_zero, List.getElem?_cons_succ, List.length_cons, List.length_nil, List.set_cons_zero, List.set_cons_succ, Nat.reduceAdd, Nat.reduceDiv, Nat.reduceMod, Nat.reduceMul, Nat.reduceLT, Nat.reduceLeDiff, Int32.reduceOfInt, Int64.reduceOfInt, true_and, and_true, and_self, true_or, or_true, false_implies, true_implies, not_false_eq_true, not_true_eq_false, Value.category, Nat.reduceEqDiff, Option.toList, List.cons_append, List.nil_append, List.drop_succ_cons, List.drop_zero, ax_qq_eq, ax_t_1493]
      refine ax_inv_of (Nat.le_of_ble_eq_true rfl) (Nat.le_of_ble_eq_true rfl) (fun _ => mE_rcv E2 _) (fun h => absurd h (by decide)) (Nat.le_refl _) (Nat.le_refl _) (mk_touches hal E2.2.2.2.2.2.1 g2 hk.2 hp (b := 1144) (by omega) g4 S.2.2.1 ho' (f := 20) (by omega) ?_)
      intro es3 st3 r1 r2 r3 r4
      obtain ⟨e1, v1, e2⟩ := mx_1094 (c := c') (by omega)
      have a1 : (1146 : Int32) + nI c' = nI (1144 + 2 + c') := kn_add 1146 c'
      have a2 : vp_in (nI (1144 + 2 + c')) 1196 := nI_in (by omega) (by decide)
      have a3 : (nI (1144 + 2 + c')).toNatClampNeg = 1144 + 2 + c' := nI_clamp (by omega)
      simp only [ax_W_cons, ax_I, ax_cmp, ax_ii, ax_ll, ax_li, ax_st1, ax_st2, ax_kl, ax_k2, ax_fit, ax_rtok, List.getElem?_cons_zero, List.getElem?_cons_succ, List.length_cons, List.length_nil, List.set_cons_zero, List.set_cons_succ, Nat.reduceAdd, Nat.reduceDiv, Nat.reduceMod, Nat.reduceMul, Nat.reduceLT, Nat.reduceLeDiff, Int32.reduceOfInt, Int64.reduceOfInt, true_and, and_true, and_self, true_or, or_true, false_implies, true_implies, not_false_eq_true, not_true_eq_false, Value.category, Nat.reduceEqDiff, Option.toList, List.cons_append, List.nil_append, List.drop_succ_cons, List.drop_zero, ax_qq_eq, ax_t_1493]
      rw [ax_n_1493_51]
      have L := kx_down (k := 21) (I := fun f m => (∀ es', mq es st es' → Q (some (.int (kx_fst P f m))) es') → ∀ es1 st1 dn1 dn2, mfr es0 es1 → mfq st st1 → mS es1 st1 1092 k p (T + m) C (kx_dr F1 k (nI C) hs hc T sh m) pl dn1 → mV st1 1144 k p (T + m) C (kx_dr F1 k (nI C) hs hc T (kx_push sh (nI o') (nI 20)) m) pl dn2 → ax_W (d + 10) n sl 1493 [(1, .iload 3), (2, .iconst 20), (3, .if_icmp .gt 104), (1, .aload 0), (3, .getfield 2910), (3, .iconst 1094), (1, .iload 1), (1, .iadd), (1, .iaload), (1, .aload 0), (3, .getfield 2910), (3, .iconst 1146), (1, .iload 1), (1, .iadd), (1, .iaload), (3, .if_icmp .eq 82), (1, .iload 3), (1, .ireturn)] 51 [some (.ref 159), some (.int (nI c')), some (.int (nI o')), some (.int (nI m))] [] n sl es1 (ax_qq n sl Q)) ?_ ?_ 21 0 rfl
      · exact L hQ es3 st3 dn dn (mfr_trans f1 (mfr_trans g1 r1)) (mfq_trans (mfs_q (by omega) f2) (mfq_trans (mfs_q (by omega) g3) (mfs_q (by omega) r3))) ⟨r2, mV_o (mV_o f3.2.1 hk.2 hp g3 (by omega)) hk.2 hp r3 (by omega), S.2.2⟩ r4
      · intro hQ es1 st1 dn1 dn2 i1 i2 i3 i4
        have e9 : (20 : Int32) < nI 21 := by decide
        simp only [ax_W_cons, ax_I, ax_cmp, ax_ii, ax_ll, ax_li, ax_st1, ax_st2, ax_kl, ax_k2, ax_fit, ax_rtok, List.getElem?_cons_zero, List.getElem?_cons_succ, List.length_cons, List.length_nil, List.set_cons_zero, List.set_cons_succ, Nat.reduceAdd, Nat.reduceDiv, Nat.reduceMod, Nat.reduceMul, Nat.reduceLT, Nat.reduceLeDiff, Int32.reduceOfInt, Int64.reduceOfInt, true_and, and_true, and_self, true_or, or_true, false_implies, true_implies, not_false_eq_true, not_true_eq_false, Value.category, Nat.reduceEqDiff, Option.toList, List.cons_append, List.nil_append, List.drop_succ_cons, List.drop_zero, ax_qq_eq, ax_t_1493, ax_j_1493_104, ax_n_1493_104, e9]
        exact hQ _ (mq_of h0 i1 i3.1 i2 hA)
      · intro f m hm ih hQ es1 st1 dn1 dn2 i1 i2 i3 i4
        have e9 : ¬ (20 : Int32) < nI m := nI_nlt (a := 20) (by omega) (by decide)
        have m4 : nI m + 1 = nI (m + 1) := (nI_succ m).symm
        have E1 := mE_fr E0 i1
        obtain ⟨th, tp, sz, at0, fl, cd, nm, rm, on, fh, un, g, w0⟩ := id E1.2.2.2.2.2.1
        have y1 := i3.1.1
        have e3 := i3.2.1.2.2.1 c' hc'
        have a4 := i4.2.2.1 c' hc'
        rw [kx_fst, hP] at hQ
        simp only [ax_W_cons, ax_I, ax_cmp, ax_ii, ax_ll, ax_li, ax_st1, ax_st2, ax_kl, ax_k2, ax_fit, ax_rtok, List.getElem?_cons_zero, List.getElem?_cons_succ, List.length_cons, List.length_nil, List.set_cons_zero, List.set_cons_succ, Nat.reduceAdd, Nat.reduceDiv, Nat.reduceMod, Nat.reduceMul, Nat.reduceLT, Nat.reduceLeDiff, Int32.reduceOfInt, Int64.reduceOfInt, true_and, and_true, and_self, true_or, or_true, false_implies, true_implies, not_false_eq_true, not_true_eq_false, Value.category, Nat.reduceEqDiff, Option.toList, List.cons_append, List.nil_append, List.drop_succ_cons, List.drop_zero, ax_qq_eq, ax_t_1493, ax_j_1493_82, ax_n_1493_82, w0, y1, mo_f, hal, e9, e1, v1, e2, e3, a1, a2, a3, a4]
        refine ⟨fun h5 => ?_, fun h5 => ?_⟩
        · rw [if_neg (by simp [h5])] at hQ
          refine ax_inv_of (Nat.le_of_ble_eq_true rfl) (Nat.le_of_ble_eq_true rfl) (fun _ => mE_rcv E1 _) (fun h => absurd h (by decide)) (Nat.le_refl _) (Nat.le_refl _) (mk_passes E1 i3 (b := 1092) (by omega) (by omega) ?_)
          intro es2 st2 g1 g2 g3
          have E2 := mE_fr E1 g1
          simp only [ax_W_cons, ax_I, ax_cmp, ax_ii, ax_ll, ax_li, ax_st1, ax_st2, ax_kl, ax_k2, ax_fit, ax_rtok, List.getElem?_cons_zero, List.getElem?_cons_succ, List.length_cons, List.length_nil, List.set_cons_zero, List.set_cons_succ, Nat.reduceAdd, Nat.reduceDiv, Nat.reduceMod, Nat.reduceMul, Nat.reduceLT, Nat.reduceLeDiff, Int32.reduceOfInt, Int64.reduceOfInt, true_and, and_true, and_self, true_or, or_true, false_implies, true_implies, not_false_eq_true, not_true_eq_false, Value.category, Nat.reduceEqDiff, Option.toList, List.cons_append, List.nil_append, List.drop_succ_cons, List.drop_zero, ax_qq_eq, ax_t_1493]
          refine ax_inv_of (Nat.le_of_ble_eq_true rfl) (Nat.le_of_ble_eq_true rfl) (fun _ => mE_rcv E2 _) (fun h => absurd h (by decide)) (Nat.le_refl _) (Nat.le_refl _) (mk_passes E2 ⟨g3.1, mV_o i4 hk.2 hp g2 (by omega), zv_dr hk.2 hF (zv_push hk.2 S.2.2 ho' hB2 (by omega)) m⟩ (b := 1144) (by omega) (by omega) ?_)
          intro es3 st3 r1 r2 r3
          simp only [ax_W_cons, ax_I, ax_cmp, ax_ii, ax_ll, ax_li, ax_st1, ax_st2, ax_kl, ax_k2, ax_fit, ax_rtok, List.getElem?_cons_zero, List.getElem?_cons_succ, List.length_cons, List.length_nil, List.set_cons_zero, List.set_cons_succ, Nat.reduceAdd, Nat.reduceDiv, Nat.reduceMod, Nat.reduceMul, Nat.reduceLT, Nat.reduceLeDiff, Int32.reduceOfInt, Int64.reduceOfInt, true_and, and_true, and_self, true_or, or_true, false_implies, true_implies, not_false_eq_true, not_true_eq_false, Value.category, Nat.reduceEqDiff, Option.toList, List.cons_append, List.nil_append, List.drop_succ_cons, List.drop_zero, ax_qq_eq, ax_t_1493, m4]
          rw [ax_j_1493_51]
          exact ih hQ es3 st3 _ _ (mfr_trans i1 (mfr_trans g1 r1)) (mfq_trans i2 (mfq_trans (mfs_q (by omega) g2) (mfs_q (by omega) r2))) ⟨r3.1, mV_o g3.2.1 hk.2 hp r2 (by omega), g3.2.2⟩ r3.2.1
        · rw [if_pos (by simp; exact fun z => h5 z.symm)] at hQ
          exact hQ _ (mq_of h0 i1 i3.1 i2 hA)
    · have h2 : kx_op k (nI C) o = false := by simpa using h2
      rw [if_neg (fun z => by rw [h2] at z; exact absurd z.2 (by decide))] at hQ
      exact hQ _ (mq_of h0 (mfr_rf _) S0.1 (mfq_rf _) hA)
end MM
