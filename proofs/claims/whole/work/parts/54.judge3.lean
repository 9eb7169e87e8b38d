/-! the reference: judged -/
section MM
variable {d n sl k p hc L : Nat} {es : ax_H} {kd pm ht hs pl0 la lb lc : Nat → Int32} {F1 F2 : Int32 → Int32 → Int32 → Int32 → Int32} {st : Nat → Int32} {b T C z G : Nat} {sh pl dn fc fb fs : Nat → Int32} {Q : Option Value → ax_H → Prop}
theorem mk_starts (hal : ax_al n = 178) (hK : mK es k p hc kd pm ht hs F1 F2) (hX : mX es st) (hk0 : 0 < k) (hk : k ≤ 12) (hp : p ≤ 6) (hb : b + 52 ≤ 1196) (hP : zPm k p pm pl0) (hQ : ∀ es' st', mfr es es' → mX es' st' → mfs b st st' → mV st' b k p 0 0 (fun _ => 0) pl0 (fun _ => 0) → Q none es') : ax_Mt (d + 1) 1447 [.ref 159, .int (nI b)] n sl es Q := by
  refine ax_Mt_go (m := ax_m_11_39) (ls := [some (.ref 159), some (.int (nI b)), none, none]) rfl ax_b_1447_0 (Nat.le_of_ble_eq_true rfl) rfl ?_
  simp only [ax_W_cons, ax_I, ax_cmp, ax_ii, ax_ll, ax_li, ax_st1, ax_st2, ax_kl, ax_k2, ax_fit, ax_rtok, List.getElem?_cons_zero, List.getElem?_cons_succ, List.length_cons, List.length_nil, List.set_cons_zero, List.set_cons_succ, Nat.reduceAdd, Nat.reduceDiv, Nat.reduceMod, Nat.reduceMul, Nat.reduceLT, Nat.reduceLeDiff, Int32.reduceOfInt, Int64.reduceOfInt, true_and, and_true, and_self, true_or, or_true, false_implies, true_implies, not_false_eq_true, not_true_eq_false, Value.category, Nat.reduceEqDiff, Option.toList, List.cons_append, List.nil_append, List.drop_succ_cons, List.drop_zero, ax_qq_eq, ax_t_1447]
  rw [ax_n_1447_2]
  have L := kx_loop (k := 26) (I := fun x => ∀ es1 st1, mfr es es1 → mX es1 st1 → mfs b st st1 → (∀ j, j < x → st1 (b + j) = 0) → ax_W (d + 1) n sl 1447 [(1, .iload 2), (2, .iconst 26), (3, .if_icmp .ge 23), (1, .aload 0), (3, .getfield 2910), (1, .iload 1), (1, .iload 2), (1, .iadd), (1, .iconst 0), (1, .iastore), (3, .iinc 2 1), (3, .goto 2)] 2 [some (.ref 159), some (.int (nI b)), some (.int (nI x)), none] [] n sl es1 (ax_qq n sl Q)) ?_ ?_
  · exact L es st (mfr_rf _) hX (mfs_rf _ _) (fun j hj => by omega)
  · intro es1 st1 i1 i2 i3 i4
    have e9 : (26 : Int32) ≤ nI 26 := by decide
    simp only [ax_W_cons, ax_I, ax_cmp, ax_ii, ax_ll, ax_li, ax_st1, ax_st2, ax_kl, ax_k2, ax_fit, ax_rtok, List.getElem?_cons_zero, List.getElem?_cons_succ, List.length_cons, List.length_nil, List.set_cons_zero, List.set_cons_succ, Nat.reduceAdd, Nat.reduceDiv, Nat.reduceMod, Nat.reduceMul, Nat.reduceLT, Nat.reduceLeDiff, Int32.reduceOfInt, Int64.reduceOfInt, true_and, and_true, and_self, true_or, or_true, false_implies, true_implies, not_false_eq_true, not_true_eq_false, Value.category, Nat.reduceEqDiff, Option.toList, List.cons_append, List.nil_append, List.drop_succ_cons, List.drop_zero, ax_qq_eq, ax_t_1447, ax_j_1447_23, ax_n_1447_23, e9]
    rw [ax_n_1447_25]
    have L2 := kx_loop (k := p) (I := fun x => ∀ v3 es1 st1, mfr es es1 → mX es1 st1 → mfs b st st1 → (∀ j, j < 26 → (j < 14 ∨ 14 + x ≤ j) → st1 (b + j) = 0) → (∀ i, i < x → st1 (b + 14 + i) = pl0 i) → ax_W (d + 1) n sl 1447 [(1, .iload 2), (1, .aload 0), (3, .invokeinterface 1451 5), (3, .if_icmp .ge 75), (1, .aload 0), (1, .iload 2), (1, .iconst 1), (3, .invokeinterface 1452 13), (1, .istore 3), (1, .aload 0), (3, .getfield 2910), (1, .iload 1), (2, .iconst 14), (1, .iadd), (1, .iload 2), (1, .iadd), (1, .iload 3), (1, .aload 0), (3, .invokeinterface 1450 5), (3, .if_icmp .ge 62), (1, .iload 3), (3, .goto 68)] 25 [some (.ref 159), some (.int (nI b)), some (.int (nI x)), v3] [] n sl es1 (ax_qq n sl Q)) ?_ ?_
    · exact L2 none es1 st1 i1 i2 i3 (fun j hj _ => i4 j hj) (fun i hi => by omega)
    · intro v3 es1 st1 i1 i2 i3 i4 i5
      have hK1 := mK_fr hK i1
      have e0 := kx_nn (k := p) (by omega)
      simp only [ax_W_cons, ax_I, ax_cmp, ax_ii, ax_ll, ax_li, ax_st1, ax_st2, ax_kl, ax_k2, ax_fit, ax_rtok, List.getElem?_cons_zero, List.getElem?_cons_succ, List.length_cons, List.length_nil, List.set_cons_zero, List.set_cons_succ, Nat.reduceAdd, Nat.reduceDiv, Nat.reduceMod, Nat.reduceMul, Nat.reduceLT, Nat.reduceLeDiff, Int32.reduceOfInt, Int64.reduceOfInt, true_and, and_true, and_self, true_or, or_true, false_implies, true_implies, not_false_eq_true, not_true_eq_false, Value.category, Nat.reduceEqDiff, Option.toList, List.cons_append, List.nil_append, List.drop_succ_cons, List.drop_zero, ax_qq_eq, ax_t_1447]
      refine ax_inv_of (Nat.le_of_ble_eq_true rfl) (Nat.le_of_ble_eq_true rfl) (fun _ => mO_rcv hal hK1.1 _) (fun h => absurd h (by decide)) (Nat.le_refl _) (Nat.le_refl _) (mk_courtiers hal hK1 ?_)
      simp only [ax_W_cons, ax_I, ax_cmp, ax_ii, ax_ll, ax_li, ax_st1, ax_st2, ax_kl, ax_k2, ax_fit, ax_rtok, List.getElem?_cons_zero, List.getElem?_cons_succ, List.length_cons, List.length_nil, List.set_cons_zero, List.set_cons_succ, Nat.reduceAdd, Nat.reduceDiv, Nat.reduceMod, Nat.reduceMul, Nat.reduceLT, Nat.reduceLeDiff, Int32.reduceOfInt, Int64.reduceOfInt, true_and, and_true, and_self, true_or, or_true, false_implies, true_implies, not_false_eq_true, not_true_eq_false, Value.category, Nat.reduceEqDiff, Option.toList, List.cons_append, List.nil_append, List.drop_succ_cons, List.drop_zero, ax_qq_eq, ax_t_1447, ax_j_1447_75, ax_n_1447_75, e0]
      refine hQ es1 st1 i1 i2 i3 ⟨i4 0 (by omega) (by omega), i4 1 (by omega) (by omega), fun c hc => ?_, i5, fun i hi => ?_⟩
      · rw [Nat.add_assoc]
        exact i4 (2 + c) (by omega) (by omega)
      · rw [Nat.add_assoc]
        exact i4 (20 + i) (by omega) (by omega)
    · intro x hx ih v3 es1 st1 i1 i2 i3 i4 i5
      have hK1 := mK_fr hK i1
      obtain ⟨th, tp, sz, at0, fl, cd, nm, rm, on, fh, un, g, w0⟩ := id hK1.1
      have y1 := i2.1
      obtain ⟨q1, -, -, q4⟩ := kx_ix hx hp (by decide)
      obtain ⟨v, hv, e1, e2⟩ := hP x hx
      have a1 : nI b + 14 + nI x = nI (b + 14 + x) := by
        show nI b + nI 14 + nI x = _
        rw [kn_add, kn_add]
      have a2 : vp_in (nI (b + 14 + x)) 1196 := nI_in (by omega) (by decide)
      have a3 : (nI (b + 14 + x)).toNatClampNeg = b + 14 + x := nI_clamp (by omega)
      have ek : nI k - 1 = nI (k - 1) := by
        obtain ⟨k', rfl⟩ : ∃ z, k = z + 1 := ⟨k - 1, by omega⟩
        exact nI_pred k'
      -- the end of it
      have fin : ∀ y, y = pl0 x → ax_W (d + 1) n sl 1447 [(1, .iastore), (3, .iinc 2 1), (3, .goto 25)] 68 [some (.ref 159), some (.int (nI b)), some (.int (nI x)), some (.int (pm x))] [.int y, .int (nI (b + 14 + x)), .ref 173] n sl es1 (ax_qq n sl Q) := by
        intro y hy
        simp only [ax_W_cons, ax_I, ax_cmp, ax_ii, ax_ll, ax_li, ax_st1, ax_st2, ax_kl, ax_k2, ax_fit, ax_rtok, List.getElem?_cons_zero, List.getElem?_cons_succ, List.length_cons, List.length_nil, List.set_cons_zero, List.set_cons_succ, Nat.reduceAdd, Nat.reduceDiv, Nat.reduceMod, Nat.reduceMul, Nat.reduceLT, Nat.reduceLeDiff, Int32.reduceOfInt, Int64.reduceOfInt, true_and, and_true, and_self, true_or, or_true, false_implies, true_implies, not_false_eq_true, not_true_eq_false, Value.category, Nat.reduceEqDiff, Option.toList, List.cons_append, List.nil_append, List.drop_succ_cons, List.drop_zero, ax_qq_eq, ax_t_1447, y1, hal, a2, a3, q4]
        rw [ax_j_1447_25]
        refine ih _ _ _ (mfr_trans i1 (mfr_up es1 _)) (mX_up i2) (mfs_trans i3 (mfs_up st1 y (j := b + 14 + x) (by omega))) (fun j hj h2 => ?_) (fun i hi => ?_)
        · rw [upd_ne _ _ (by omega)]
          exact i4 j hj (by omega)
        · by_cases e : i = x
          · subst e
            rw [upd_same]
            exact hy
          · rw [upd_ne _ _ (by omega)]
            exact i5 i (by omega)
      simp only [ax_W_cons, ax_I, ax_cmp, ax_ii, ax_ll, ax_li, ax_st1, ax_st2, ax_kl, ax_k2, ax_fit, ax_rtok, List.getElem?_cons_zero, List.getElem?_cons_succ, List.length_cons, List.length_nil, List.set_cons_zero, List.set_cons_succ, Nat.reduceAdd, Nat.reduceDiv, Nat.reduceMod, Nat.reduceMul, Nat.reduceLT, Nat.reduceLeDiff, Int32.reduceOfInt, Int64.reduceOfInt, true_and, and_true, and_self, true_or, or_true, false_implies, true_implies, not_false_eq_true, not_true_eq_false, Value.category, Nat.reduceEqDiff, Option.toList, List.cons_append, List.nil_append, List.drop_succ_cons, List.drop_zero, ax_qq_eq, ax_t_1447]
      refine ax_inv_of (Nat.le_of_ble_eq_true rfl) (Nat.le_of_ble_eq_true rfl) (fun _ => mO_rcv hal hK1.1 _) (fun h => absurd h (by decide)) (Nat.le_refl _) (Nat.le_refl _) (mk_courtiers hal hK1 ?_)
      simp only [ax_W_cons, ax_I, ax_cmp, ax_ii, ax_ll, ax_li, ax_st1, ax_st2, ax_kl, ax_k2, ax_fit, ax_rtok, List.getElem?_cons_zero, List.getElem?_cons_succ, List.length_cons, List.length_nil, List.set_cons_zero, List.set_cons_succ, Nat.reduceAdd, Nat.reduceDiv, Nat.reduceMod, Nat.reduceMul, Nat.reduceLT, Nat.reduceLeDiff, Int32.reduceOfInt, Int64.reduceOfInt, true_and, and_true, and_self, true_or, or_true, false_implies, true_implies, not_false_eq_true, not_true_eq_false, Value.category, Nat.reduceEqDiff, Option.toList, List.cons_append, List.nil_append, List.drop_succ_cons, List.drop_zero, ax_qq_eq, ax_t_1447, q1]
      refine ax_inv_of (Nat.le_of_ble_eq_true rfl) (Nat.le_of_ble_eq_true rfl) (fun _ => mO_rcv hal hK1.1 _) (fun h => absurd h (by decide)) (Nat.le_refl _) (Nat.le_refl _) (mk_courtierOf hal hK1 hp hx (w := 1) (by decide) ?_)
      rw [if_neg (by decide), if_pos rfl]
      simp only [ax_W_cons, ax_I, ax_cmp, ax_ii, ax_ll, ax_li, ax_st1, ax_st2, ax_kl, ax_k2, ax_fit, ax_rtok, List.getElem?_cons_zero, List.getElem?_cons_succ, List.length_cons, List.length_nil, List.set_cons_zero, List.set_cons_succ, Nat.reduceAdd, Nat.reduceDiv, Nat.reduceMod, Nat.reduceMul, Nat.reduceLT, Nat.reduceLeDiff, Int32.reduceOfInt, Int64.reduceOfInt, true_and, and_true, and_self, true_or, or_true, false_implies, true_implies, not_false_eq_true, not_true_eq_false, Value.category, Nat.reduceEqDiff, Option.toList, List.cons_append, List.nil_append, List.drop_succ_cons, List.drop_zero, ax_qq_eq, ax_t_1447, w0, mo_f, hal, a1]
      refine ax_inv_of (Nat.le_of_ble_eq_true rfl) (Nat.le_of_ble_eq_true rfl) (fun _ => mO_rcv hal hK1.1 _) (fun h => absurd h (by decide)) (Nat.le_refl _) (Nat.le_refl _) (mk_cells hal hK1 ?_)
      by_cases hlt : v < k
      · have c1 : ¬ nI k ≤ pm x := by rw [e1]; exact nI_ge hlt (by omega)
        have fin := fin (pm x) (by rw [e1, e2, Nat.min_eq_left (by omega)])
        rw [← ax_j_1447_68] at fin
        simp only [ax_W_cons, ax_I, ax_cmp, ax_ii, ax_ll, ax_li, ax_st1, ax_st2, ax_kl, ax_k2, ax_fit, ax_rtok, List.getElem?_cons_zero, List.getElem?_cons_succ, List.length_cons, List.length_nil, List.set_cons_zero, List.set_cons_succ, Nat.reduceAdd, Nat.reduceDiv, Nat.reduceMod, Nat.reduceMul, Nat.reduceLT, Nat.reduceLeDiff, Int32.reduceOfInt, Int64.reduceOfInt, true_and, and_true, and_self, true_or, or_true, false_implies, true_implies, not_false_eq_true, not_true_eq_false, Value.category, Nat.reduceEqDiff, Option.toList, List.cons_append, List.nil_append, List.drop_succ_cons, List.drop_zero, ax_qq_eq, ax_t_1447, c1]
        exact fin
      · have c1 : nI k ≤ pm x := by rw [e1]; exact nI_le (by omega) (by omega)
        have fin := fin (nI (k - 1)) (by rw [e2, Nat.min_eq_right (by omega)])
        rw [← ax_n_1447_68] at fin
        simp only [ax_W_cons, ax_I, ax_cmp, ax_ii, ax_ll, ax_li, ax_st1, ax_st2, ax_kl, ax_k2, ax_fit, ax_rtok, List.getElem?_cons_zero, List.getElem?_cons_succ, List.length_cons, List.length_nil, List.set_cons_zero, List.set_cons_succ, Nat.reduceAdd, Nat.reduceDiv, Nat.reduceMod, Nat.reduceMul, Nat.reduceLT, Nat.reduceLeDiff, Int32.reduceOfInt, Int64.reduceOfInt, true_and, and_true, and_self, true_or, or_true, false_implies, true_implies, not_false_eq_true, not_true_eq_false, Value.category, Nat.reduceEqDiff, Option.toList, List.cons_append, List.nil_append, List.drop_succ_cons, List.drop_zero, ax_qq_eq, ax_t_1447, ax_j_1447_62, ax_n_1447_62, c1]
        refine ax_inv_of (Nat.le_of_ble_eq_true rfl) (Nat.le_of_ble_eq_true rfl) (fun _ => mO_rcv hal hK1.1 _) (fun h => absurd h (by decide)) (Nat.le_refl _) (Nat.le_refl _) (mk_cells hal hK1 ?_)
        simp only [ax_W_cons, ax_I, ax_cmp, ax_ii, ax_ll, ax_li, ax_st1, ax_st2, ax_kl, ax_k2, ax_fit, ax_rtok, List.getElem?_cons_zero, List.getElem?_cons_succ, List.length_cons, List.length_nil, List.set_cons_zero, List.set_cons_succ, Nat.reduceAdd, Nat.reduceDiv, Nat.reduceMod, Nat.reduceMul, Nat.reduceLT, Nat.reduceLeDiff, Int32.reduceOfInt, Int64.reduceOfInt, true_and, and_true, and_self, true_or, or_true, false_implies, true_implies, not_false_eq_true, not_true_eq_false, Value.category, Nat.reduceEqDiff, Option.toList, List.cons_append, List.nil_append, List.drop_succ_cons, List.drop_zero, ax_qq_eq, ax_t_1447, ek]
        exact fin
  · intro x hx ih es1 st1 i1 i2 i3 i4
    have hK1 := mK_fr hK i1
    obtain ⟨th, tp, sz, at0, fl, cd, nm, rm, on, fh, un, g, w0⟩ := id hK1.1
    have y1 := i2.1
    have e9 : ¬ (26 : Int32) ≤ nI x := nI_ge (b := 26) hx (by decide)
    have x4 : nI x + 1 = nI (x + 1) := (nI_succ x).symm
    have a1 : nI b + nI x = nI (b + x) := kn_add _ _
    have a2 : vp_in (nI (b + x)) 1196 := nI_in (by omega) (by decide)
    have a3 : (nI (b + x)).toNatClampNeg = b + x := nI_clamp (by omega)
    simp only [ax_W_cons, ax_I, ax_cmp, ax_ii, ax_ll, ax_li, ax_st1, ax_st2, ax_kl, ax_k2, ax_fit, ax_rtok, List.getElem?_cons_zero, List.getElem?_cons_succ, List.length_cons, List.length_nil, List.set_cons_zero, List.set_cons_succ, Nat.reduceAdd, Nat.reduceDiv, Nat.reduceMod, Nat.reduceMul, Nat.reduceLT, Nat.reduceLeDiff, Int32.reduceOfInt, Int64.reduceOfInt, true_and, and_true, and_self, true_or, or_true, false_implies, true_implies, not_false_eq_true, not_true_eq_false, Value.category, Nat.reduceEqDiff, Option.toList, List.cons_append, List.nil_append, List.drop_succ_cons, List.drop_zero, ax_qq_eq, ax_t_1447, w0, y1, mo_f, hal, e9, a1, a2, a3, x4]
    rw [ax_j_1447_2]
    refine ih _ _ (mfr_trans i1 (mfr_up es1 _)) (mX_up i2) (mfs_trans i3 (mfs_up st1 0 (j := b + x) (by omega))) (fun j hj => ?_)
    by_cases e : j = x
    · subst e
      exact upd_same ..
    · rw [upd_ne _ _ (by omega)]
      exact i4 j (by omega)
theorem kx_jp7 (k : Nat) (a c : Int32) (s : kSt) : kx_jp k 7 a c s = (s.1, s.2.1, kx_push s.2.2.1 a c, s.2.2.2.1, s.2.2.2.2) := by
  unfold kx_jp kx_perf
  rw [if_pos rfl]
theorem kx_jp8 (k : Nat) (a c : Int32) (s : kSt) : kx_jp k 8 a c s = (s.1, s.2.1, kx_soothe s.2.2.1 a, s.2.2.2.1, s.2.2.2.2) := by
  unfold kx_jp kx_perf
  rw [if_neg (by decide), if_pos rfl]
theorem kx_jp9 (k : Nat) (a c : Int32) (s : kSt) : kx_jp k 9 a c s = (s.1, kx_crack s.2.1 a, upd s.2.2.1 a.toNatClampNeg 0, s.2.2.2.1, s.2.2.2.2) := by
  unfold kx_jp kx_perf
  rw [if_neg (by decide), if_neg (by decide), if_pos rfl]
theorem kx_jp10 (k : Nat) (a c : Int32) (s : kSt) : kx_jp k 10 a c s = (s.1, kx_tcr k s.2.1 k, kx_turn k s.2.2.1, s.2.2.2.1, s.2.2.2.2) := by
  unfold kx_jp kx_perf
  rw [if_neg (by decide), if_neg (by decide), if_neg (by decide), if_pos rfl]
theorem kx_can7 (k p : Nat) (cr a c : Int32) : kx_can k p cr 7 a c = kx_op k cr a := by
  unfold kx_can
  rw [if_pos (Or.inl rfl)]
theorem kx_can9 (k p : Nat) (cr a c : Int32) : kx_can k p cr 9 a c = kx_op k cr a := by
  unfold kx_can
  rw [if_pos (Or.inr rfl)]
theorem kx_can8 (k p : Nat) (cr a c : Int32) : kx_can k p cr 8 a c = kx_cell k a := by
  unfold kx_can
  rw [if_neg (by decide), if_pos rfl]
theorem kx_can10 (k p : Nat) (cr a c : Int32) : kx_can k p cr 10 a c = true := by
  unfold kx_can
  rw [if_neg (by decide), if_neg (by decide), if_neg (by decide)]
theorem kx_jw_in (F1 F2 : Int32 → Int32 → Int32 → Int32 → Int32) : ∀ m, m ≤ 40 → kx_jw F1 F2 k p kd ht hs hc pl0 la lb lc m = -1 ∨ ∃ c, c < 40 ∧ kx_jw F1 F2 k p kd ht hs hc pl0 la lb lc m = nI c
  | 0, _ => Or.inl rfl
  | m + 1, hm => by
    rw [kx_jw]
    split
    · exact Or.inr ⟨m, by omega, rfl⟩
    · exact kx_jw_in F1 F2 m (by omega)
theorem kx_jf_in (F1 F2 : Int32 → Int32 → Int32 → Int32 → Int32) : ∀ m, m ≤ 40 → kx_jf F1 F2 k p kd ht hs hc pl0 la lb lc m = -1 ∨ ∃ c, c < 40 ∧ kx_jf F1 F2 k p kd ht hs hc pl0 la lb lc m = nI c
  | 0, _ => Or.inl rfl
  | m + 1, hm => by
    rw [kx_jf]
    split
    · exact Or.inr ⟨m, by omega, rfl⟩
    · exact kx_jf_in F1 F2 m (by omega)
theorem mx_neg {x : Int32} (h : x = -1 ∨ ∃ c, c < 40 ∧ x = nI c) : (x < 0) = (x = -1) := by
  rcases h with h | ⟨c, hc, h⟩
  · rw [h]
    decide
  · rw [h]
    exact propext ⟨fun z => absurd z (nI_pos (by omega)), fun z => absurd z (mx_n1 (by omega))⟩
set_option maxRecDepth 20000 in
theorem mp_judged (Z : mZ es n st k p hc kd pm ht hs F1 F2 T C sh pl dn) (hP : zPm k p pm pl0) (hpl0 : kpl k p pl0) (hLi : mLi es L la lb lc) (hLn : zLn p L la lb lc) (w : Int32) (hQ : ∀ es', mq es st es' → Q (some (.int (zq_judged F1 F2 k p kd ht hs hc pl0 la lb lc L w))) es') : ax_Mt (d + 10) 1482 [.ref 159, .int w] n sl es Q := by
  obtain ⟨E, S, hT, hdn, hA⟩ := Z
  obtain ⟨hal, hk, hp, hhs, hF, hK⟩ := id E
  obtain ⟨ln, ln0, ln1, ln2⟩ := hLi
  unfold zq_judged at hQ
  refine ax_Mt_go (m := ax_m_11_74) (ls := [some (.ref 159), some (.int w), none, none, none, none, none, none, none]) rfl ax_b_1482_0 (Nat.le_of_ble_eq_true rfl) rfl ?_
  refine mk_thrown hal hK.1 rfl ?_
  intro es0 h0
  have E0 := mE_th E h0
  have S0 := mS_th S h0
  have ln0 := (h0.1 170 (by decide)).trans ln0
  have c10 : ¬ (1 : Int32) = 0 := by decide
  simp only [ax_W_cons, ax_I, ax_cmp, ax_ii, ax_ll, ax_li, ax_st1, ax_st2, ax_kl, ax_k2, ax_fit, ax_rtok, List.getElem?_cons_zero, List.getElem?_cons_succ, List.length_cons, List.length_nil, List.set_cons_zero, List.set_cons_succ, Nat.reduceAdd, Nat.reduceDiv, Nat.reduceMod, Nat.reduceMul, Nat.reduceLT, Nat.reduceLeDiff, Int32.reduceOfInt, Int64.reduceOfInt, true_and, and_true, and_self, true_or, or_true, false_implies, true_implies, not_false_eq_true, not_true_eq_false, Value.category, Nat.reduceEqDiff, Option.toList, List.cons_append, List.nil_append, List.drop_succ_cons, List.drop_zero, ax_qq_eq, ax_t_1482]
  refine ax_inv_of (Nat.le_of_ble_eq_true rfl) (Nat.le_of_ble_eq_true rfl) (fun _ => absurd ‹_› (by decide)) (fun h => absurd h (by decide)) (Nat.le_refl _) (Nat.le_refl _) (mk_within _ _ _ ?_)
  cases h1 : kx_in w 0 2
  · rw [if_neg (by rw [h1]; decide)] at hQ
    simp only [ax_W_cons, ax_I, ax_cmp, ax_ii, ax_ll, ax_li, ax_st1, ax_st2, ax_kl, ax_k2, ax_fit, ax_rtok, List.getElem?_cons_zero, List.getElem?_cons_succ, List.length_cons, List.length_nil, List.set_cons_zero, List.set_cons_succ, Nat.reduceAdd, Nat.reduceDiv, Nat.reduceMod, Nat.reduceMul, Nat.reduceLT, Nat.reduceLeDiff, Int32.reduceOfInt, Int64.reduceOfInt, true_and, and_true, and_self, true_or, or_true, false_implies, true_implies, not_false_eq_true, not_true_eq_false, Value.category, Nat.reduceEqDiff, Option.toList, List.cons_append, List.nil_append, List.drop_succ_cons, List.drop_zero, ax_qq_eq, ax_t_1482, kx_bf]
    exact hQ _ (mq_of h0 (mfr_rf _) S0.1 (mfq_rf _) hA)
  rw [if_pos h1] at hQ
  simp only [ax_W_cons, ax_I, ax_cmp, ax_ii, ax_ll, ax_li, ax_st1, ax_st2, ax_kl, ax_k2, ax_fit, ax_rtok, List.getElem?_cons_zero, List.getElem?_cons_succ, List.length_cons, List.length_nil, List.set_cons_zero, List.set_cons_succ, Nat.reduceAdd, Nat.reduceDiv, Nat.reduceMod, Nat.reduceMul, Nat.reduceLT, Nat.reduceLeDiff, Int32.reduceOfInt, Int64.reduceOfInt, true_and, and_true, and_self, true_or, or_true, false_implies, true_implies, not_false_eq_true, not_true_eq_false, Value.category, Nat.reduceEqDiff, Option.toList, List.cons_append, List.nil_append, List.drop_succ_cons, List.drop_zero, ax_qq_eq, ax_t_1482, ax_j_1482_17, ax_n_1482_17, kx_bt, c10]
  refine ax_inv_of (Nat.le_of_ble_eq_true rfl) (Nat.le_of_ble_eq_true rfl) (fun _ => mE_rcv E0 _) (fun h => absurd h (by decide)) (Nat.le_refl _) (Nat.le_refl _) (mk_starts hal E0.2.2.2.2.2 S0.1 (by omega) hk.2 hp (b := 1092) (by omega) hP ?_)
  intro es1 st1 f1 f2 f3 f4
  simp only [ax_W_cons, ax_I, ax_cmp, ax_ii, ax_ll, ax_li, ax_st1, ax_st2, ax_kl, ax_k2, ax_fit, ax_rtok, List.getElem?_cons_zero, List.getElem?_cons_succ, List.length_cons, List.length_nil, List.set_cons_zero, List.set_cons_succ, Nat.reduceAdd, Nat.reduceDiv, Nat.reduceMod, Nat.reduceMul, Nat.reduceLT, Nat.reduceLeDiff, Int32.reduceOfInt, Int64.reduceOfInt, true_and, and_true, and_self, true_or, or_true, false_implies, true_implies, not_false_eq_true, not_true_eq_false, Value.category, Nat.reduceEqDiff, Option.toList, List.cons_append, List.nil_append, List.drop_succ_cons, List.drop_zero, ax_qq_eq, ax_t_1482]
  rw [ax_n_1482_31]
  have v0 : vp_in 0 250 := nI_in (c := 0) (by decide) (by decide)
  have hL40 := hLn.1
  have LL := kx_loop (k := L) (I := fun m => ∀ v5 v6 v7 v8 es2 st2 C2, mfr es0 es2 → mfq st st2 → mX es2 st2 → mV st2 1092 k p (kx_js F1 F2 k p kd ht hs hc pl0 la lb lc m).1 C2 (kx_js F1 F2 k p kd ht hs hc pl0 la lb lc m).2.2.1 (kx_js F1 F2 k p kd ht hs hc pl0 la lb lc m).2.2.2.1 (kx_js F1 F2 k p kd ht hs hc pl0 la lb lc m).2.2.2.2 → zSt k p C2 (kx_js F1 F2 k p kd ht hs hc pl0 la lb lc m) → (kx_js F1 F2 k p kd ht hs hc pl0 la lb lc m).1 ≤ m → ax_W (d + 10) n sl 1482 [(2, .iload 4), (1, .aload 0), (3, .getfield 2898), (1, .iconst 0), (1, .iaload), (3, .if_icmp .ge 290), (1, .aload 0), (3, .getfield 2898), (1, .iconst 1), (1, .iconst 3), (2, .iload 4), (1, .imul), (1, .iadd), (1, .iaload), (2, .istore 5), (1, .aload 0), (3, .getfield 2898), (1, .iconst 2), (1, .iconst 3), (2, .iload 4), (1, .imul), (1, .iadd), (1, .iaload), (2, .istore 6), (1, .aload 0), (3, .getfield 2898), (1, .iconst 3), (1, .iconst 3), (2, .iload 4), (1, .imul), (1, .iadd), (1, .iaload), (2, .istore 7), (2, .iload 5), (1, .iconst 1), (3, .if_icmp .ne 96), (1, .aload 0), (2, .iload 6), (3, .invokeinterface 1453 9), (3, .goto 124)] 31 [some (.ref 159), some (.int w), some (.int (kx_jw F1 F2 k p kd ht hs hc pl0 la lb lc m)), some (.int (kx_jf F1 F2 k p kd ht hs hc pl0 la lb lc m)), some (.int (nI m)), v5, v6, v7, v8] [] n sl es2 (ax_qq n sl Q)) ?_ ?_
  · exact LL none none none none es1 st1 0 f1 (mfs_q (by omega) f3) f2 f4 ⟨rfl, fun i hi => ⟨0, by omega, rfl⟩, hpl0, Nat.two_pow_pos k, fun c hc h => rfl⟩ (Nat.le_refl _)
  · intro v5 v6 v7 v8 es2 st2 C2 i1 i2 i3 i4 i5 i6
    have E2 := mE_fr E0 i1
    obtain ⟨th, tp, sz, at0, fl, cd, nm, rm, on, fh, un, g, w0⟩ := id E2.2.2.2.2.2.1
    have y0 := (i1 170 (by decide)).trans ln0
    have e9 := kx_nn (k := L) (by omega)
    have hQ2 := hQ es2 (mq_of h0 i1 i3 i2 hA)
    by_cases hw0 : w = 0
    · rw [if_neg (by rw [hw0]; decide), if_pos hw0] at hQ2
      simp only [ax_W_cons, ax_I, ax_cmp, ax_ii, ax_ll, ax_li, ax_st1, ax_st2, ax_kl, ax_k2, ax_fit, ax_rtok, List.getElem?_cons_zero, List.getElem?_cons_succ, List.length_cons, List.length_nil, List.set_cons_zero, List.set_cons_succ, Nat.reduceAdd, Nat.reduceDiv, Nat.reduceMod, Nat.reduceMul, Nat.reduceLT, Nat.reduceLeDiff, Int32.reduceOfInt, Int64.reduceOfInt, true_and, and_true, and_self, true_or, or_true, false_implies, true_implies, not_false_eq_true, not_true_eq_false, Value.category, Nat.reduceEqDiff, Option.toList, List.cons_append, List.nil_append, List.drop_succ_cons, List.drop_zero, ax_qq_eq, ax_t_1482, ax_j_1482_290, ax_n_1482_290, ax_j_1482_314, ax_n_1482_314, w0, y0, mo_f, hal, v0, kx_n0, ln1, e9, hw0]
      exact hQ2
    · by_cases hw1 : w = 1
      · rw [if_neg (by rw [hw1]; decide), if_neg hw0] at hQ2
        rw [hw1] at hw0
        simp only [ax_W_cons, ax_I, ax_cmp, ax_ii, ax_ll, ax_li, ax_st1, ax_st2, ax_kl, ax_k2, ax_fit, ax_rtok, List.getElem?_cons_zero, List.getElem?_cons_succ, List.length_cons, List.length_nil, List.set_cons_zero, List.set_cons_succ, Nat.reduceAdd, Nat.reduceDiv, Nat.reduceMod, Nat.reduceMul, Nat.reduceLT, Nat.reduceLeDiff, Int32.reduceOfInt, Int64.reduceOfInt, true_and, and_true, and_self, true_or, or_true, false_implies, true_implies, not_false_eq_true, not_true_eq_false, Value.category, Nat.reduceEqDiff, Option.toList, List.cons_append, List.nil_append, List.drop_succ_cons, List.drop_zero, ax_qq_eq, ax_t_1482, ax_j_1482_290, ax_n_1482_290, ax_j_1482_298, ax_n_1482_298, ax_j_1482_314, ax_n_1482_314, w0, y0, mo_f, hal, v0, kx_n0, ln1, e9, hw1, hw0]
        exact hQ2
      · obtain ⟨w', -, hw', rfl⟩ := kx_in_nI (a := 0) (b := 2) (by decide) (by decide) h1
        have hw2 : w' = 2 := by
          have h3 : w' = 0 ∨ w' = 1 ∨ w' = 2 := by omega
          rcases h3 with rfl | rfl | rfl
          · exact absurd rfl hw0
          · exact absurd rfl hw1
          · rfl
        subst hw2
        rw [if_pos (by decide)] at hQ2
        simp only [ax_W_cons, ax_I, ax_cmp, ax_ii, ax_ll, ax_li, ax_st1, ax_st2, ax_kl, ax_k2, ax_fit, ax_rtok, List.getElem?_cons_zero, List.getElem?_cons_succ, List.length_cons, List.length_nil, List.set_cons_zero, List.set_cons_succ, Nat.reduceAdd, Nat.reduceDiv, Nat.reduceMod, Nat.reduceMul, Nat.reduceLT, Nat.reduceLeDiff, Int32.reduceOfInt, Int64.reduceOfInt, true_and, and_true, and_self, true_or, or_true, false_implies, true_implies, not_false_eq_true, not_true_eq_false, Value.category, Nat.reduceEqDiff, Option.toList, List.cons_append, List.nil_append, List.drop_succ_cons, List.drop_zero, ax_qq_eq, ax_t_1482, ax_j_1482_290, ax_n_1482_290, ax_j_1482_298, ax_n_1482_298, ax_j_1482_307, ax_n_1482_307, w0, y0, mo_f, hal, v0, kx_n0, ln1, e9, hw1, hw0]
        refine ax_inv_of (Nat.le_of_ble_eq_true rfl) (Nat.le_of_ble_eq_true rfl) (fun _ => mE_rcv E2 _) (fun h => absurd h (by decide)) (Nat.le_refl _) (Nat.le_refl _) (mk_doneOf hal E2.2.2.2.2.2 i3 hp (b := 1092) (by omega) i4 ?_)
        simp only [ax_W_cons, ax_I, ax_cmp, ax_ii, ax_ll, ax_li, ax_st1, ax_st2, ax_kl, ax_k2, ax_fit, ax_rtok, List.getElem?_cons_zero, List.getElem?_cons_succ, List.length_cons, List.length_nil, List.set_cons_zero, List.set_cons_succ, Nat.reduceAdd, Nat.reduceDiv, Nat.reduceMod, Nat.reduceMul, Nat.reduceLT, Nat.reduceLeDiff, Int32.reduceOfInt, Int64.reduceOfInt, true_and, and_true, and_self, true_or, or_true, false_implies, true_implies, not_false_eq_true, not_true_eq_false, Value.category, Nat.reduceEqDiff, Option.toList, List.cons_append, List.nil_append, List.drop_succ_cons, List.drop_zero, ax_qq_eq, ax_t_1482, ax_j_1482_314, ax_n_1482_314]
        exact hQ2
  · intro m hm ih v5 v6 v7 v8 es2 st2 C2 i1 i2 i3 i4 i5 i6
    have E2 := mE_fr E0 i1
    obtain ⟨th, tp, sz, at0, fl, cd, nm, rm, on, fh, un, g, w0⟩ := id E2.2.2.2.2.2.1
    have y0 := (i1 170 (by decide)).trans ln0
    have e9 : ¬ nI L ≤ nI m := nI_ge hm (by omega)
    have m4 : nI m + 1 = nI (m + 1) := (nI_succ m).symm
    obtain ⟨act, a, c, ha7, ha12, ea, eb, ec, ha, hc20, hact7, hact11⟩ := hLn.2 m hm
    obtain ⟨l1, l2, l3⟩ := ln2 m hm
    have a1 : (1 : Int32) + 3 * nI m = nI (1 + 3 * m) := by
      show nI 1 + nI 3 * nI m = _
      rw [kn_mul, kn_add]
    have a2 : (2 : Int32) + 3 * nI m = nI (2 + 3 * m) := by
      show nI 2 + nI 3 * nI m = _
      rw [kn_mul, kn_add]
    have a3 : (3 : Int32) + 3 * nI m = nI (3 + 3 * m) := by
      show nI 3 + nI 3 * nI m = _
      rw [kn_mul, kn_add]
    have b1 : vp_in (nI (1 + 3 * m)) 250 := nI_in (by omega) (by decide)
    have b2 : vp_in (nI (2 + 3 * m)) 250 := nI_in (by omega) (by decide)
    have b3 : vp_in (nI (3 + 3 * m)) 250 := nI_in (by omega) (by decide)
    have d1 : (nI (1 + 3 * m)).toNatClampNeg = 1 + 3 * m := nI_clamp (by omega)
    have d2 : (nI (2 + 3 * m)).toNatClampNeg = 2 + 3 * m := nI_clamp (by omega)
    have d3 : (nI (3 + 3 * m)).toNatClampNeg = 3 + 3 * m := nI_clamp (by omega)
    have hjw := kx_jw_in (k := k) (p := p) (kd := kd) (ht := ht) (hs := hs) (hc := hc) (pl0 := pl0) (la := la) (lb := lb) (lc := lc) F1 F2 m (by omega)
    have hjf := kx_jf_in (k := k) (p := p) (kd := kd) (ht := ht) (hs := hs) (hc := hc) (pl0 := pl0) (la := la) (lb := lb) (lc := lc) F1 F2 m (by omega)
    have njw := mx_neg hjw
    have njf := mx_neg hjf
    rw [kx_jw, kx_jf, kx_js, ea, eb, ec] at ih
    rw [ea] at l1
    rw [eb] at l2
    rw [ec] at l3
    generalize kx_jw F1 F2 k p kd ht hs hc pl0 la lb lc m = JW at ih njw ⊢
    generalize kx_jf F1 F2 k p kd ht hs hc pl0 la lb lc m = JF at ih njf ⊢
    generalize kx_js F1 F2 k p kd ht hs hc pl0 la lb lc m = s at ih i4 i5 i6
    obtain ⟨hcr, hzv⟩ := id i5
    -- what comes at the end of a line
    have fin : ∀ JW' (s' : kSt) es3 st3 C3 v8, (∀ v5 v6 v7 v8 es2 st2 C2, mfr es0 es2 → mfq st st2 → mX es2 st2 → mV st2 1092 k p s'.1 C2 s'.2.2.1 s'.2.2.2.1 s'.2.2.2.2 → zSt k p C2 s' → s'.1 ≤ m + 1 → ax_W (d + 10) n sl 1482 [(2, .iload 4), (1, .aload 0), (3, .getfield 2898), (1, .iconst 0), (1, .iaload), (3, .if_icmp .ge 290), (1, .aload 0), (3, .getfield 2898), (1, .iconst 1), (1, .iconst 3), (2, .iload 4), (1, .imul), (1, .iadd), (1, .iaload), (2, .istore 5), (1, .aload 0), (3, .getfield 2898), (1, .iconst 2), (1, .iconst 3), (2, .iload 4), (1, .imul), (1, .iadd), (1, .iaload), (2, .istore 6), (1, .aload 0), (3, .getfield 2898), (1, .iconst 3), (1, .iconst 3), (2, .iload 4), (1, .imul), (1, .iadd), (1, .iaload), (2, .istore 7), (2, .iload 5), (1, .iconst 1), (3, .if_icmp .ne 96), (1, .aload 0), (2, .iload 6), (3, .invokeinterface 1453 9), (3, .goto 124)] 31 [some (.ref 159), some (.int w), some (.int JW'), some (.int (if JF = -1 ∧ kx_allsh k s'.2.1 s'.2.2.1 = true then nI m else JF)), some (.int (nI (m + 1))), v5, v6, v7, v8] [] n sl es2 (ax_qq n sl Q)) → mfr es0 es3 → mfq st st3 → mX es3 st3 → mV st3 1092 k p s'.1 C3 s'.2.2.1 s'.2.2.2.1 s'.2.2.2.2 → zSt k p C3 s' → s'.1 ≤ m + 1 → ax_J ax_W (d + 10) n sl 1482 263 [some (.ref 159), some (.int w), some (.int JW'), some (.int JF), some (.int (nI m)), some (.int (nI act - 7)), some (.int (nI a)), some (.int (nI c)), v8] [] n sl es3 (ax_qq n sl Q) := by
      intro JW' s' es3 st3 C3 v8 ih j1 j2 j3 j4 j5 j6
      have E3 := mE_fr E0 j1
      have ih := fun v5 v6 v7 v8 => ih v5 v6 v7 v8 es3 st3 C3 j1 j2 j3 j4 j5 j6
      have keep : ¬ (JF = -1 ∧ kx_allsh k s'.2.1 s'.2.2.1 = true) → ax_J ax_W (d + 10) n sl 1482 282 [some (.ref 159), some (.int w), some (.int JW'), some (.int JF), some (.int (nI m)), some (.int (nI act - 7)), some (.int (nI a)), some (.int (nI c)), v8] [] n sl es3 (ax_qq n sl Q) := by
        intro hno
        rw [if_neg hno] at ih
        simp only [ax_W_cons, ax_I, ax_cmp, ax_ii, ax_ll, ax_li, ax_st1, ax_st2, ax_kl, ax_k2, ax_fit, ax_rtok, List.getElem?_cons_zero, List.getElem?_cons_succ, List.length_cons, List.length_nil, List.set_cons_zero, List.set_cons_succ, Nat.reduceAdd, Nat.reduceDiv, Nat.reduceMod, Nat.reduceMul, Nat.reduceLT, Nat.reduceLeDiff, Int32.reduceOfInt, Int64.reduceOfInt, true_and, and_true, and_self, true_or, or_true, false_implies, true_implies, not_false_eq_true, not_true_eq_false, Value.category, Nat.reduceEqDiff, Option.toList, List.cons_append, List.nil_append, List.drop_succ_cons, List.drop_zero, ax_qq_eq, ax_t_1482, ax_j_1482_282, ax_n_1482_282, ax_j_1482_283, ax_n_1482_283, m4]
        rw [ax_j_1482_31]
        exact ih _ _ _ _
      simp only [ax_W_cons, ax_I, ax_cmp, ax_ii, ax_ll, ax_li, ax_st1, ax_st2, ax_kl, ax_k2, ax_fit, ax_rtok, List.getElem?_cons_zero, List.getElem?_cons_succ, List.length_cons, List.length_nil, List.set_cons_zero, List.set_cons_succ, Nat.reduceAdd, Nat.reduceDiv, Nat.reduceMod, Nat.reduceMul, Nat.reduceLT, Nat.reduceLeDiff, Int32.reduceOfInt, Int64.reduceOfInt, true_and, and_true, and_self, true_or, or_true, false_implies, true_implies, not_false_eq_true, not_true_eq_false, Value.category, Nat.reduceEqDiff, Option.toList, List.cons_append, List.nil_append, List.drop_succ_cons, List.drop_zero, ax_qq_eq, ax_t_1482, ax_j_1482_263, ax_n_1482_263]
      refine ⟨fun h5 => keep (fun z => ?_), fun h5 => ?_⟩
      · rw [z.1] at h5
        exact absurd h5 (by decide)
      · rw [kx_nle, njf] at h5
        refine ax_inv_of (Nat.le_of_ble_eq_true rfl) (Nat.le_of_ble_eq_true rfl) (fun _ => mE_rcv E3 _) (fun h => absurd h (by decide)) (Nat.le_refl _) (Nat.le_refl _) (mk_doAllShake E3 ⟨j3, j4, j5.2⟩ (b := 1092) (by omega) ?_)
        rw [← j5.1]
        simp only [ax_W_cons, ax_I, ax_cmp, ax_ii, ax_ll, ax_li, ax_st1, ax_st2, ax_kl, ax_k2, ax_fit, ax_rtok, List.getElem?_cons_zero, List.getElem?_cons_succ, List.length_cons, List.length_nil, List.set_cons_zero, List.set_cons_succ, Nat.reduceAdd, Nat.reduceDiv, Nat.reduceMod, Nat.reduceMul, Nat.reduceLT, Nat.reduceLeDiff, Int32.reduceOfInt, Int64.reduceOfInt, true_and, and_true, and_self, true_or, or_true, false_implies, true_implies, not_false_eq_true, not_true_eq_false, Value.category, Nat.reduceEqDiff, Option.toList, List.cons_append, List.nil_append, List.drop_succ_cons, List.drop_zero, ax_qq_eq, ax_t_1482, kx_b0]
        refine ⟨fun h6 => keep (fun z => by rw [z.2] at h6; exact absurd h6 (by decide)), fun h6 => ?_⟩
        have h6 : kx_allsh k s'.2.1 s'.2.2.1 = true := by simpa using h6
        rw [if_pos ⟨h5, h6⟩] at ih
        simp only [ax_W_cons, ax_I, ax_cmp, ax_ii, ax_ll, ax_li, ax_st1, ax_st2, ax_kl, ax_k2, ax_fit, ax_rtok, List.getElem?_cons_zero, List.getElem?_cons_succ, List.length_cons, List.length_nil, List.set_cons_zero, List.set_cons_succ, Nat.reduceAdd, Nat.reduceDiv, Nat.reduceMod, Nat.reduceMul, Nat.reduceLT, Nat.reduceLeDiff, Int32.reduceOfInt, Int64.reduceOfInt, true_and, and_true, and_self, true_or, or_true, false_implies, true_implies, not_false_eq_true, not_true_eq_false, Value.category, Nat.reduceEqDiff, Option.toList, List.cons_append, List.nil_append, List.drop_succ_cons, List.drop_zero, ax_qq_eq, ax_t_1482, ax_j_1482_283, ax_n_1482_283, m4]
        rw [ax_j_1482_31]
        exact ih _ _ _ _
    simp only [ax_W_cons, ax_I, ax_cmp, ax_ii, ax_ll, ax_li, ax_st1, ax_st2, ax_kl, ax_k2, ax_fit, ax_rtok, List.getElem?_cons_zero, List.getElem?_cons_succ, List.length_cons, List.length_nil, List.set_cons_zero, List.set_cons_succ, Nat.reduceAdd, Nat.reduceDiv, Nat.reduceMod, Nat.reduceMul, Nat.reduceLT, Nat.reduceLeDiff, Int32.reduceOfInt, Int64.reduceOfInt, true_and, and_true, and_self, true_or, or_true, false_implies, true_implies, not_false_eq_true, not_true_eq_false, Value.category, Nat.reduceEqDiff, Option.toList, List.cons_append, List.nil_append, List.drop_succ_cons, List.drop_zero, ax_qq_eq, ax_t_1482, w0, y0, mo_f, hal, v0, kx_n0, ln1, e9, a1, a2, a3, b1, b2, b3, d1, d2, d3, l1, l2, l3]
    have c11 : (1 : Int32) = 1 := rfl
    -- a line that can't be
    have skip : ∀ x : Int32, ¬ x = 3 → ¬ x = 4 → ¬ x = 5 → x = nI act - 7 → (∀ v8, ax_J ax_W (d + 10) n sl 1482 263 [some (.ref 159), some (.int w), some (.int (if JW = -1 then nI m else JW)), some (.int JF), some (.int (nI m)), some (.int x), some (.int (nI a)), some (.int (nI c)), v8] [] n sl es2 (ax_qq n sl Q)) → ax_J ax_W (d + 10) n sl 1482 124 [some (.ref 159), some (.int w), some (.int JW), some (.int JF), some (.int (nI m)), some (.int x), some (.int (nI a)), some (.int (nI c)), v8] [.int 0] n sl es2 (ax_qq n sl Q) := by
      intro x x3 x4 x5 _ h263
      by_cases hJ : JW = -1
      · rw [if_pos hJ] at h263
        have hJ2 : ¬ (0 : Int32) ≤ JW := by rw [hJ]; decide
        simp only [ax_W_cons, ax_I, ax_cmp, ax_ii, ax_ll, ax_li, ax_st1, ax_st2, ax_kl, ax_k2, ax_fit, ax_rtok, List.getElem?_cons_zero, List.getElem?_cons_succ, List.length_cons, List.length_nil, List.set_cons_zero, List.set_cons_succ, Nat.reduceAdd, Nat.reduceDiv, Nat.reduceMod, Nat.reduceMul, Nat.reduceLT, Nat.reduceLeDiff, Int32.reduceOfInt, Int64.reduceOfInt, true_and, and_true, and_self, true_or, or_true, false_implies, true_implies, not_false_eq_true, not_true_eq_false, Value.category, Nat.reduceEqDiff, Option.toList, List.cons_append, List.nil_append, List.drop_succ_cons, List.drop_zero, ax_qq_eq, ax_t_1482, ax_j_1482_124, ax_n_1482_124, ax_j_1482_141, ax_n_1482_141, ax_j_1482_166, ax_n_1482_166, ax_j_1482_189, ax_n_1482_189, ax_j_1482_212, ax_n_1482_212, ax_j_1482_229, ax_n_1482_229, ax_j_1482_249, ax_n_1482_249, hJ2, x3, x4, x5]
        exact h263 _
      · rw [if_neg hJ] at h263
        have hJ2 : (0 : Int32) ≤ JW := by
          rw [← kx_nlt, njw]
          exact hJ
        simp only [ax_W_cons, ax_I, ax_cmp, ax_ii, ax_ll, ax_li, ax_st1, ax_st2, ax_kl, ax_k2, ax_fit, ax_rtok, List.getElem?_cons_zero, List.getElem?_cons_succ, List.length_cons, List.length_nil, List.set_cons_zero, List.set_cons_succ, Nat.reduceAdd, Nat.reduceDiv, Nat.reduceMod, Nat.reduceMul, Nat.reduceLT, Nat.reduceLeDiff, Int32.reduceOfInt, Int64.reduceOfInt, true_and, and_true, and_self, true_or, or_true, false_implies, true_implies, not_false_eq_true, not_true_eq_false, Value.category, Nat.reduceEqDiff, Option.toList, List.cons_append, List.nil_append, List.drop_succ_cons, List.drop_zero, ax_qq_eq, ax_t_1482, ax_j_1482_124, ax_n_1482_124, ax_j_1482_140, ax_n_1482_140, ax_j_1482_141, ax_n_1482_141, ax_j_1482_166, ax_n_1482_166, ax_j_1482_189, ax_n_1482_189, ax_j_1482_212, ax_n_1482_212, ax_j_1482_229, ax_n_1482_229, ax_j_1482_249, ax_n_1482_249, hJ2, x3, x4, x5]
        exact h263 _
    have h6 : act = 7 ∨ act = 8 ∨ act = 9 ∨ act = 10 ∨ act = 11 ∨ act = 12 := by omega
    rcases h6 with rfl | rfl | rfl | rfl | rfl | rfl
    · have z7 : nI 7 - 7 = 0 := by decide
      have n7 : nI 7 = 7 := rfl
      have o1 : ¬ (0 : Int32) = 1 := by decide
      rw [z7] at fin ⊢
      unfold kx_j1 at ih
      rw [n7, if_neg (show ¬ (7 : Int32) = 12 by decide), kx_can7, hcr] at ih
      simp only [ax_W_cons, ax_I, ax_cmp, ax_ii, ax_ll, ax_li, ax_st1, ax_st2, ax_kl, ax_k2, ax_fit, ax_rtok, List.getElem?_cons_zero, List.getElem?_cons_succ, List.length_cons, List.length_nil, List.set_cons_zero, List.set_cons_succ, Nat.reduceAdd, Nat.reduceDiv, Nat.reduceMod, Nat.reduceMul, Nat.reduceLT, Nat.reduceLeDiff, Int32.reduceOfInt, Int64.reduceOfInt, true_and, and_true, and_self, true_or, or_true, false_implies, true_implies, not_false_eq_true, not_true_eq_false, Value.category, Nat.reduceEqDiff, Option.toList, List.cons_append, List.nil_append, List.drop_succ_cons, List.drop_zero, ax_qq_eq, ax_t_1482, ax_j_1482_96, ax_n_1482_96, ax_j_1482_107, ax_n_1482_107, o1]
      refine ax_inv_of (Nat.le_of_ble_eq_true rfl) (Nat.le_of_ble_eq_true rfl) (fun _ => mE_rcv E2 _) (fun h => absurd h (by decide)) (Nat.le_refl _) (Nat.le_refl _) (mk_whole E2 ⟨i3, i4, hzv⟩ (b := 1092) (by omega) (nI a) ?_)
      cases hop : kx_op k (nI C2) (nI a)
      · rw [hop, if_neg (show ¬ false = true by decide)] at ih
        have hJW : (if ¬ (7 : Int32) = 12 ∧ false = false ∧ JW = -1 then nI m else JW) = if JW = -1 then nI m else JW := by
          congr 1
          simp
        rw [hJW] at ih
        simp only [ax_W_cons, ax_I, ax_cmp, ax_ii, ax_ll, ax_li, ax_st1, ax_st2, ax_kl, ax_k2, ax_fit, ax_rtok, List.getElem?_cons_zero, List.getElem?_cons_succ, List.length_cons, List.length_nil, List.set_cons_zero, List.set_cons_succ, Nat.reduceAdd, Nat.reduceDiv, Nat.reduceMod, Nat.reduceMul, Nat.reduceLT, Nat.reduceLeDiff, Int32.reduceOfInt, Int64.reduceOfInt, true_and, and_true, and_self, true_or, or_true, false_implies, true_implies, not_false_eq_true, not_true_eq_false, Value.category, Nat.reduceEqDiff, Option.toList, List.cons_append, List.nil_append, List.drop_succ_cons, List.drop_zero, ax_qq_eq, ax_t_1482, ax_j_1482_123, ax_n_1482_123, kx_bf]
        have sk := skip 0 (by decide) (by decide) (by decide) z7.symm (fun v8 => fin _ s es2 st2 C2 v8 ih i1 i2 i3 i4 i5 (by omega))
        rw [ax_n_1482_124, ← ax_j_1482_124]
        exact sk
      · rw [hop, if_pos (show true = true from rfl), if_neg (show ¬ (¬ (7 : Int32) = 12 ∧ true = false ∧ JW = -1) by simp), kx_jp7] at ih
        obtain ⟨a', ha', ea', hB⟩ := kx_op_nI hk.2 hop
        have ea' := kn_inj (by omega) (by omega) ea'
        subst ea'
        simp only [ax_W_cons, ax_I, ax_cmp, ax_ii, ax_ll, ax_li, ax_st1, ax_st2, ax_kl, ax_k2, ax_fit, ax_rtok, List.getElem?_cons_zero, List.getElem?_cons_succ, List.length_cons, List.length_nil, List.set_cons_zero, List.set_cons_succ, Nat.reduceAdd, Nat.reduceDiv, Nat.reduceMod, Nat.reduceMul, Nat.reduceLT, Nat.reduceLeDiff, Int32.reduceOfInt, Int64.reduceOfInt, true_and, and_true, and_self, true_or, or_true, false_implies, true_implies, not_false_eq_true, not_true_eq_false, Value.category, Nat.reduceEqDiff, Option.toList, List.cons_append, List.nil_append, List.drop_succ_cons, List.drop_zero, ax_qq_eq, ax_t_1482, ax_j_1482_119, ax_n_1482_119, ax_j_1482_124, ax_n_1482_124, ax_j_1482_140, ax_n_1482_140, ax_j_1482_141, ax_n_1482_141, kx_bt, c10]
        refine ax_inv_of (Nat.le_of_ble_eq_true rfl) (Nat.le_of_ble_eq_true rfl) (fun _ => mE_rcv E2 _) (fun h => absurd h (by decide)) (Nat.le_refl _) (Nat.le_refl _) (mk_touches hal E2.2.2.2.2.2.1 i3 hk.2 hp (b := 1092) (by omega) i4 hzv.1 ha' hc20 ?_)
        intro es3 st3 r1 r2 r3 r4
        simp only [ax_W_cons, ax_I, ax_cmp, ax_ii, ax_ll, ax_li, ax_st1, ax_st2, ax_kl, ax_k2, ax_fit, ax_rtok, List.getElem?_cons_zero, List.getElem?_cons_succ, List.length_cons, List.length_nil, List.set_cons_zero, List.set_cons_succ, Nat.reduceAdd, Nat.reduceDiv, Nat.reduceMod, Nat.reduceMul, Nat.reduceLT, Nat.reduceLeDiff, Int32.reduceOfInt, Int64.reduceOfInt, true_and, and_true, and_self, true_or, or_true, false_implies, true_implies, not_false_eq_true, not_true_eq_false, Value.category, Nat.reduceEqDiff, Option.toList, List.cons_append, List.nil_append, List.drop_succ_cons, List.drop_zero, ax_qq_eq, ax_t_1482]
        exact fin _ _ es3 st3 C2 _ ih (mfr_trans i1 r1) (mfq_trans i2 (mfs_q (by omega) r3)) r2 r4 ⟨hcr, zv_push hk.2 hzv ha' hB hc20⟩ (Nat.le_succ_of_le i6)
    · have z7 : nI 8 - 7 = 1 := by decide
      have n7 : nI 8 = 8 := rfl
      rw [z7] at fin ⊢
      unfold kx_j1 at ih
      rw [n7, if_neg (show ¬ (8 : Int32) = 12 by decide), kx_can8] at ih
      simp only [ax_W_cons, ax_I, ax_cmp, ax_ii, ax_ll, ax_li, ax_st1, ax_st2, ax_kl, ax_k2, ax_fit, ax_rtok, List.getElem?_cons_zero, List.getElem?_cons_succ, List.length_cons, List.length_nil, List.set_cons_zero, List.set_cons_succ, Nat.reduceAdd, Nat.reduceDiv, Nat.reduceMod, Nat.reduceMul, Nat.reduceLT, Nat.reduceLeDiff, Int32.reduceOfInt, Int64.reduceOfInt, true_and, and_true, and_self, true_or, or_true, false_implies, true_implies, not_false_eq_true, not_true_eq_false, Value.category, Nat.reduceEqDiff, Option.toList, List.cons_append, List.nil_append, List.drop_succ_cons, List.drop_zero, ax_qq_eq, ax_t_1482]
      refine ax_inv_of (Nat.le_of_ble_eq_true rfl) (Nat.le_of_ble_eq_true rfl) (fun _ => mE_rcv E2 _) (fun h => absurd h (by decide)) (Nat.le_refl _) (Nat.le_refl _) (mk_isCell hal hk.2 E2.2.2.2.2.2 (nI a) ?_)
      cases hop : kx_cell k (nI a)
      · rw [hop, if_neg (show ¬ false = true by decide)] at ih
        have hJW : (if ¬ (8 : Int32) = 12 ∧ false = false ∧ JW = -1 then nI m else JW) = if JW = -1 then nI m else JW := by
          congr 1
          simp
        rw [hJW] at ih
        simp only [ax_W_cons, ax_I, ax_cmp, ax_ii, ax_ll, ax_li, ax_st1, ax_st2, ax_kl, ax_k2, ax_fit, ax_rtok, List.getElem?_cons_zero, List.getElem?_cons_succ, List.length_cons, List.length_nil, List.set_cons_zero, List.set_cons_succ, Nat.reduceAdd, Nat.reduceDiv, Nat.reduceMod, Nat.reduceMul, Nat.reduceLT, Nat.reduceLeDiff, Int32.reduceOfInt, Int64.reduceOfInt, true_and, and_true, and_self, true_or, or_true, false_implies, true_implies, not_false_eq_true, not_true_eq_false, Value.category, Nat.reduceEqDiff, Option.toList, List.cons_append, List.nil_append, List.drop_succ_cons, List.drop_zero, ax_qq_eq, ax_t_1482, kx_bf]
        exact skip 1 (by decide) (by decide) (by decide) z7.symm (fun v8 => fin _ s es2 st2 C2 v8 ih i1 i2 i3 i4 i5 (by omega))
      · rw [hop, if_pos (show true = true from rfl), if_neg (show ¬ (¬ (8 : Int32) = 12 ∧ true = false ∧ JW = -1) by simp), kx_jp8] at ih
        obtain ⟨a', ha', ea'⟩ := kx_cell_in (by omega) hop
        have ea' := kn_inj (by omega) (by omega) ea'
        subst ea'
        simp only [ax_W_cons, ax_I, ax_cmp, ax_ii, ax_ll, ax_li, ax_st1, ax_st2, ax_kl, ax_k2, ax_fit, ax_rtok, List.getElem?_cons_zero, List.getElem?_cons_succ, List.length_cons, List.length_nil, List.set_cons_zero, List.set_cons_succ, Nat.reduceAdd, Nat.reduceDiv, Nat.reduceMod, Nat.reduceMul, Nat.reduceLT, Nat.reduceLeDiff, Int32.reduceOfInt, Int64.reduceOfInt, true_and, and_true, and_self, true_or, or_true, false_implies, true_implies, not_false_eq_true, not_true_eq_false, Value.category, Nat.reduceEqDiff, Option.toList, List.cons_append, List.nil_append, List.drop_succ_cons, List.drop_zero, ax_qq_eq, ax_t_1482, ax_j_1482_124, ax_n_1482_124, ax_j_1482_140, ax_n_1482_140, ax_j_1482_141, ax_n_1482_141, ax_j_1482_166, ax_n_1482_166, kx_bt, c10]
        refine ax_inv_of (Nat.le_of_ble_eq_true rfl) (Nat.le_of_ble_eq_true rfl) (fun _ => mE_rcv E2 _) (fun h => absurd h (by decide)) (Nat.le_refl _) (Nat.le_refl _) (mk_breathes hal E2.2.2.2.2.2.1 i3 hk.2 hp (b := 1092) (by omega) i4 hzv.1 ha' ?_)
        intro es3 st3 r1 r2 r3 r4
        simp only [ax_W_cons, ax_I, ax_cmp, ax_ii, ax_ll, ax_li, ax_st1, ax_st2, ax_kl, ax_k2, ax_fit, ax_rtok, List.getElem?_cons_zero, List.getElem?_cons_succ, List.length_cons, List.length_nil, List.set_cons_zero, List.set_cons_succ, Nat.reduceAdd, Nat.reduceDiv, Nat.reduceMod, Nat.reduceMul, Nat.reduceLT, Nat.reduceLeDiff, Int32.reduceOfInt, Int64.reduceOfInt, true_and, and_true, and_self, true_or, or_true, false_implies, true_implies, not_false_eq_true, not_true_eq_false, Value.category, Nat.reduceEqDiff, Option.toList, List.cons_append, List.nil_append, List.drop_succ_cons, List.drop_zero, ax_qq_eq, ax_t_1482]
        exact fin _ _ es3 st3 C2 _ ih (mfr_trans i1 r1) (mfq_trans i2 (mfs_q (by omega) r3)) r2 r4 ⟨hcr, zv_soothe hk.2 hzv ha'⟩ (Nat.le_succ_of_le i6)
    · have z7 : nI 9 - 7 = 2 := by decide
      have n7 : nI 9 = 9 := rfl
      have o1 : ¬ (2 : Int32) = 1 := by decide
      have o0 : ¬ (2 : Int32) = 0 := by decide
      rw [z7] at fin ⊢
      unfold kx_j1 at ih
      rw [n7, if_neg (show ¬ (9 : Int32) = 12 by decide), kx_can9, hcr] at ih
      simp only [ax_W_cons, ax_I, ax_cmp, ax_ii, ax_ll, ax_li, ax_st1, ax_st2, ax_kl, ax_k2, ax_fit, ax_rtok, List.getElem?_cons_zero, List.getElem?_cons_succ, List.length_cons, List.length_nil, List.set_cons_zero, List.set_cons_succ, Nat.reduceAdd, Nat.reduceDiv, Nat.reduceMod, Nat.reduceMul, Nat.reduceLT, Nat.reduceLeDiff, Int32.reduceOfInt, Int64.reduceOfInt, true_and, and_true, and_self, true_or, or_true, false_implies, true_implies, not_false_eq_true, not_true_eq_false, Value.category, Nat.reduceEqDiff, Option.toList, List.cons_append, List.nil_append, List.drop_succ_cons, List.drop_zero, ax_qq_eq, ax_t_1482, ax_j_1482_96, ax_n_1482_96, ax_j_1482_107, ax_n_1482_107, o1, o0]
      refine ax_inv_of (Nat.le_of_ble_eq_true rfl) (Nat.le_of_ble_eq_true rfl) (fun _ => mE_rcv E2 _) (fun h => absurd h (by decide)) (Nat.le_refl _) (Nat.le_refl _) (mk_whole E2 ⟨i3, i4, hzv⟩ (b := 1092) (by omega) (nI a) ?_)
      cases hop : kx_op k (nI C2) (nI a)
      · rw [hop, if_neg (show ¬ false = true by decide)] at ih
        have hJW : (if ¬ (9 : Int32) = 12 ∧ false = false ∧ JW = -1 then nI m else JW) = if JW = -1 then nI m else JW := by
          congr 1
          simp
        rw [hJW] at ih
        simp only [ax_W_cons, ax_I, ax_cmp, ax_ii, ax_ll, ax_li, ax_st1, ax_st2, ax_kl, ax_k2, ax_fit, ax_rtok, List.getElem?_cons_zero, List.getElem?_cons_succ, List.length_cons, List.length_nil, List.set_cons_zero, List.set_cons_succ, Nat.reduceAdd, Nat.reduceDiv, Nat.reduceMod, Nat.reduceMul, Nat.reduceLT, Nat.reduceLeDiff, Int32.reduceOfInt, Int64.reduceOfInt, true_and, and_true, and_self, true_or, or_true, false_implies, true_implies, not_false_eq_true, not_true_eq_false, Value.category, Nat.reduceEqDiff, Option.toList, List.cons_append, List.nil_append, List.drop_succ_cons, List.drop_zero, ax_qq_eq, ax_t_1482, ax_j_1482_123, ax_n_1482_123, kx_bf]
        have sk := skip 2 (by decide) (by decide) (by decide) z7.symm (fun v8 => fin _ s es2 st2 C2 v8 ih i1 i2 i3 i4 i5 (by omega))
        rw [ax_n_1482_124, ← ax_j_1482_124]
        exact sk
      · rw [hop, if_pos (show true = true from rfl), if_neg (show ¬ (¬ (9 : Int32) = 12 ∧ true = false ∧ JW = -1) by simp), kx_jp9, hcr] at ih
        obtain ⟨a', ha', ea', hB⟩ := kx_op_nI hk.2 hop
        have ea' := kn_inj (by omega) (by omega) ea'
        subst ea'
        rw [nI_clamp (by omega), kc_crack (by omega)] at ih
        simp only [ax_W_cons, ax_I, ax_cmp, ax_ii, ax_ll, ax_li, ax_st1, ax_st2, ax_kl, ax_k2, ax_fit, ax_rtok, List.getElem?_cons_zero, List.getElem?_cons_succ, List.length_cons, List.length_nil, List.set_cons_zero, List.set_cons_succ, Nat.reduceAdd, Nat.reduceDiv, Nat.reduceMod, Nat.reduceMul, Nat.reduceLT, Nat.reduceLeDiff, Int32.reduceOfInt, Int64.reduceOfInt, true_and, and_true, and_self, true_or, or_true, false_implies, true_implies, not_false_eq_true, not_true_eq_false, Value.category, Nat.reduceEqDiff, Option.toList, List.cons_append, List.nil_append, List.drop_succ_cons, List.drop_zero, ax_qq_eq, ax_t_1482, ax_j_1482_119, ax_n_1482_119, ax_j_1482_124, ax_n_1482_124, ax_j_1482_140, ax_n_1482_140, ax_j_1482_141, ax_n_1482_141, ax_j_1482_166, ax_n_1482_166, ax_j_1482_189, ax_n_1482_189, kx_bt, c10, o1, o0]
        refine ax_inv_of (Nat.le_of_ble_eq_true rfl) (Nat.le_of_ble_eq_true rfl) (fun _ => mE_rcv E2 _) (fun h => absurd h (by decide)) (Nat.le_refl _) (Nat.le_refl _) (mk_forks hal E2.2.2.2.2.2.1 i3 hk.2 hp (b := 1092) (by omega) i4 ha' ?_)
        intro es3 st3 r1 r2 r3 r4
        simp only [ax_W_cons, ax_I, ax_cmp, ax_ii, ax_ll, ax_li, ax_st1, ax_st2, ax_kl, ax_k2, ax_fit, ax_rtok, List.getElem?_cons_zero, List.getElem?_cons_succ, List.length_cons, List.length_nil, List.set_cons_zero, List.set_cons_succ, Nat.reduceAdd, Nat.reduceDiv, Nat.reduceMod, Nat.reduceMul, Nat.reduceLT, Nat.reduceLeDiff, Int32.reduceOfInt, Int64.reduceOfInt, true_and, and_true, and_self, true_or, or_true, false_implies, true_implies, not_false_eq_true, not_true_eq_false, Value.category, Nat.reduceEqDiff, Option.toList, List.cons_append, List.nil_append, List.drop_succ_cons, List.drop_zero, ax_qq_eq, ax_t_1482]
        exact fin _ _ es3 st3 (C2 ||| 2 ^ a) _ ih (mfr_trans i1 r1) (mfq_trans i2 (mfs_q (by omega) r3)) r2 r4 ⟨rfl, zv_crack hzv ha'⟩ (Nat.le_succ_of_le i6)
    · have z7 : nI 10 - 7 = 3 := by decide
      have n7 : nI 10 = 10 := rfl
      have o1 : ¬ (3 : Int32) = 1 := by decide
      have o0 : ¬ (3 : Int32) = 0 := by decide
      have o2 : ¬ (3 : Int32) = 2 := by decide
      rw [z7] at fin ⊢
      unfold kx_j1 at ih
      rw [n7, if_neg (show ¬ (10 : Int32) = 12 by decide), kx_can10, if_pos (show true = true from rfl), if_neg (show ¬ (¬ (10 : Int32) = 12 ∧ true = false ∧ JW = -1) by simp), kx_jp10, hcr, kt_tcr hk.2 k (Nat.le_refl _), kt_same] at ih
      simp only [ax_W_cons, ax_I, ax_cmp, ax_ii, ax_ll, ax_li, ax_st1, ax_st2, ax_kl, ax_k2, ax_fit, ax_rtok, List.getElem?_cons_zero, List.getElem?_cons_succ, List.length_cons, List.length_nil, List.set_cons_zero, List.set_cons_succ, Nat.reduceAdd, Nat.reduceDiv, Nat.reduceMod, Nat.reduceMul, Nat.reduceLT, Nat.reduceLeDiff, Int32.reduceOfInt, Int64.reduceOfInt, true_and, and_true, and_self, true_or, or_true, false_implies, true_implies, not_false_eq_true, not_true_eq_false, Value.category, Nat.reduceEqDiff, Option.toList, List.cons_append, List.nil_append, List.drop_succ_cons, List.drop_zero, ax_qq_eq, ax_t_1482, ax_j_1482_96, ax_n_1482_96, ax_j_1482_119, ax_n_1482_119, ax_j_1482_124, ax_n_1482_124, ax_j_1482_140, ax_n_1482_140, ax_j_1482_141, ax_n_1482_141, ax_j_1482_166, ax_n_1482_166, ax_j_1482_189, ax_n_1482_189, ax_j_1482_212, ax_n_1482_212, c10, o1, o0, o2]
      refine ax_inv_of (Nat.le_of_ble_eq_true rfl) (Nat.le_of_ble_eq_true rfl) (fun _ => mE_rcv E2 _) (fun h => absurd h (by decide)) (Nat.le_refl _) (Nat.le_refl _) (mk_turns hal E2.2.2.2.2.2 i3 (by omega) hk.2 hp (b := 1092) (by omega) i4 hzv.2.2.1 ?_)
      intro es3 st3 r1 r2 r3 r4
      simp only [ax_W_cons, ax_I, ax_cmp, ax_ii, ax_ll, ax_li, ax_st1, ax_st2, ax_kl, ax_k2, ax_fit, ax_rtok, List.getElem?_cons_zero, List.getElem?_cons_succ, List.length_cons, List.length_nil, List.set_cons_zero, List.set_cons_succ, Nat.reduceAdd, Nat.reduceDiv, Nat.reduceMod, Nat.reduceMul, Nat.reduceLT, Nat.reduceLeDiff, Int32.reduceOfInt, Int64.reduceOfInt, true_and, and_true, and_self, true_or, or_true, false_implies, true_implies, not_false_eq_true, not_true_eq_false, Value.category, Nat.reduceEqDiff, Option.toList, List.cons_append, List.nil_append, List.drop_succ_cons, List.drop_zero, ax_qq_eq, ax_t_1482]
      exact fin _ _ es3 st3 (kt_then k C2 k) _ ih (mfr_trans i1 r1) (mfq_trans i2 (mfs_q (by omega) r3)) r2 r4 ⟨rfl, zv_turn hk.2 hzv⟩ (Nat.le_succ_of_le i6)
    · have z7 : nI 11 - 7 = 4 := by decide
      have n7 : nI 11 = 11 := rfl
      have o1 : ¬ (4 : Int32) = 1 := by decide
      have o0 : ¬ (4 : Int32) = 0 := by decide
      have o2 : ¬ (4 : Int32) = 2 := by decide
      have o3 : ¬ (4 : Int32) = 3 := by decide
      obtain ⟨hap, hcp, hne⟩ := hact11 rfl
      have hcan : kx_can k p s.2.1 11 (nI a) (nI c) = true := by
        rw [kx_can11 hp hap hcp]
        simp [hne]
      rw [z7] at fin ⊢
      unfold kx_j1 at ih
      rw [n7, if_neg (show ¬ (11 : Int32) = 12 by decide), hcan, if_pos (show true = true from rfl), if_neg (show ¬ (¬ (11 : Int32) = 12 ∧ true = false ∧ JW = -1) by simp), kx_jp11] at ih
      simp only [ax_W_cons, ax_I, ax_cmp, ax_ii, ax_ll, ax_li, ax_st1, ax_st2, ax_kl, ax_k2, ax_fit, ax_rtok, List.getElem?_cons_zero, List.getElem?_cons_succ, List.length_cons, List.length_nil, List.set_cons_zero, List.set_cons_succ, Nat.reduceAdd, Nat.reduceDiv, Nat.reduceMod, Nat.reduceMul, Nat.reduceLT, Nat.reduceLeDiff, Int32.reduceOfInt, Int64.reduceOfInt, true_and, and_true, and_self, true_or, or_true, false_implies, true_implies, not_false_eq_true, not_true_eq_false, Value.category, Nat.reduceEqDiff, Option.toList, List.cons_append, List.nil_append, List.drop_succ_cons, List.drop_zero, ax_qq_eq, ax_t_1482, ax_j_1482_96, ax_n_1482_96, ax_j_1482_119, ax_n_1482_119, ax_j_1482_124, ax_n_1482_124, ax_j_1482_140, ax_n_1482_140, ax_j_1482_141, ax_n_1482_141, ax_j_1482_166, ax_n_1482_166, ax_j_1482_189, ax_n_1482_189, ax_j_1482_212, ax_n_1482_212, ax_j_1482_229, ax_n_1482_229, c10, o1, o0, o2, o3]
      refine ax_inv_of (Nat.le_of_ble_eq_true rfl) (Nat.le_of_ble_eq_true rfl) (fun _ => mE_rcv E2 _) (fun h => absurd h (by decide)) (Nat.le_refl _) (Nat.le_refl _) (mk_changes hal E2.2.2.2.2.2.1 i3 hk.2 hp (b := 1092) (by omega) i4 hap hcp ?_)
      intro es3 st3 r1 r2 r3 r4
      simp only [ax_W_cons, ax_I, ax_cmp, ax_ii, ax_ll, ax_li, ax_st1, ax_st2, ax_kl, ax_k2, ax_fit, ax_rtok, List.getElem?_cons_zero, List.getElem?_cons_succ, List.length_cons, List.length_nil, List.set_cons_zero, List.set_cons_succ, Nat.reduceAdd, Nat.reduceDiv, Nat.reduceMod, Nat.reduceMul, Nat.reduceLT, Nat.reduceLeDiff, Int32.reduceOfInt, Int64.reduceOfInt, true_and, and_true, and_self, true_or, or_true, false_implies, true_implies, not_false_eq_true, not_true_eq_false, Value.category, Nat.reduceEqDiff, Option.toList, List.cons_append, List.nil_append, List.drop_succ_cons, List.drop_zero, ax_qq_eq, ax_t_1482]
      exact fin _ _ es3 st3 C2 _ ih (mfr_trans i1 r1) (mfq_trans i2 (mfs_q (by omega) r3)) r2 r4 ⟨hcr, zv_exch hp hzv hap hcp⟩ (Nat.le_succ_of_le i6)
    · have z7 : nI 12 - 7 = 5 := by decide
      have n7 : nI 12 = 12 := rfl
      have o1 : ¬ (5 : Int32) = 1 := by decide
      have o0 : ¬ (5 : Int32) = 0 := by decide
      have o2 : ¬ (5 : Int32) = 2 := by decide
      have o3 : ¬ (5 : Int32) = 3 := by decide
      have o4 : ¬ (5 : Int32) = 4 := by decide
      rw [z7] at fin ⊢
      unfold kx_j1 at ih
      rw [n7, if_pos (show (12 : Int32) = 12 from rfl), if_neg (show ¬ (¬ (12 : Int32) = 12 ∧ kx_can k p s.2.1 12 (nI a) (nI c) = false ∧ JW = -1) by simp)] at ih
      simp only [ax_W_cons, ax_I, ax_cmp, ax_ii, ax_ll, ax_li, ax_st1, ax_st2, ax_kl, ax_k2, ax_fit, ax_rtok, List.getElem?_cons_zero, List.getElem?_cons_succ, List.length_cons, List.length_nil, List.set_cons_zero, List.set_cons_succ, Nat.reduceAdd, Nat.reduceDiv, Nat.reduceMod, Nat.reduceMul, Nat.reduceLT, Nat.reduceLeDiff, Int32.reduceOfInt, Int64.reduceOfInt, true_and, and_true, and_self, true_or, or_true, false_implies, true_implies, not_false_eq_true, not_true_eq_false, Value.category, Nat.reduceEqDiff, Option.toList, List.cons_append, List.nil_append, List.drop_succ_cons, List.drop_zero, ax_qq_eq, ax_t_1482, ax_j_1482_96, ax_n_1482_96, ax_j_1482_119, ax_n_1482_119, ax_j_1482_124, ax_n_1482_124, ax_j_1482_140, ax_n_1482_140, ax_j_1482_141, ax_n_1482_141, ax_j_1482_166, ax_n_1482_166, ax_j_1482_189, ax_n_1482_189, ax_j_1482_212, ax_n_1482_212, ax_j_1482_229, ax_n_1482_229, ax_j_1482_249, ax_n_1482_249, c10, o1, o0, o2, o3, o4]
      refine ax_inv_of (Nat.le_of_ble_eq_true rfl) (Nat.le_of_ble_eq_true rfl) (fun _ => mE_rcv E2 _) (fun h => absurd h (by decide)) (Nat.le_refl _) (Nat.le_refl _) (mk_passes E2 ⟨i3, i4, hzv⟩ (b := 1092) (by omega) (by omega) ?_)
      intro es3 st3 r1 r2 r3
      have hjb : kx_jb F1 F2 k p kd ht hs hc s = (s.1 + 1, nI C2, kx_rip F1 k (nI C2) (hs (s.1 % hc)) (nI s.1) s.2.2.1 k, s.2.2.2.1, kx_dns (kx_deed F2 k kd ht (hs (s.1 % hc)) (nI s.1) (kx_rip F1 k (nI C2) (hs (s.1 % hc)) (nI s.1) s.2.2.1 k) s.2.2.2.1) s.2.2.2.2 p) := by
        rw [← hcr]
        rfl
      rw [hjb] at ih
      simp only [ax_W_cons, ax_I, ax_cmp, ax_ii, ax_ll, ax_li, ax_st1, ax_st2, ax_kl, ax_k2, ax_fit, ax_rtok, List.getElem?_cons_zero, List.getElem?_cons_succ, List.length_cons, List.length_nil, List.set_cons_zero, List.set_cons_succ, Nat.reduceAdd, Nat.reduceDiv, Nat.reduceMod, Nat.reduceMul, Nat.reduceLT, Nat.reduceLeDiff, Int32.reduceOfInt, Int64.reduceOfInt, true_and, and_true, and_self, true_or, or_true, false_implies, true_implies, not_false_eq_true, not_true_eq_false, Value.category, Nat.reduceEqDiff, Option.toList, List.cons_append, List.nil_append, List.drop_succ_cons, List.drop_zero, ax_qq_eq, ax_t_1482]
      rw [ax_n_1482_263, ← ax_j_1482_263]
      exact fin _ _ es3 st3 C2 _ ih (mfr_trans i1 r1) (mfq_trans i2 (mfs_q (by omega) r2)) r3.1 r3.2.1 ⟨rfl, r3.2.2⟩ (Nat.succ_le_succ i6)
end MM
