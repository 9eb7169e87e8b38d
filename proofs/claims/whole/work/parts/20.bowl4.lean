/-! Bowl: copies, turns, deeds -/
theorem kx_c0 : ¬ (0 : Int32) < 0 := by decide
theorem kx_c6 : ¬ (6 : Int32) < 0 := by decide
theorem kx_c12 : ¬ (12 : Int32) < 0 := by decide
theorem kx_n0 : (0 : Int32).toNatClampNeg = 0 := by decide
theorem kx_n6 : (6 : Int32).toNatClampNeg = 6 := by decide
theorem kx_n12 : (12 : Int32).toNatClampNeg = 12 := by decide
theorem kx_cat0 : ax_cat [] ≤ 8 := by decide
theorem kx_cell_in {k : Nat} {i : Int32} (hk : k < 2 ^ 31) (h : kx_cell k i = true) : ∃ c, c < k ∧ i = nI c := by
  unfold kx_cell kx_in at h
  simp only [Bool.and_eq_true, decide_eq_true_eq] at h
  obtain ⟨h1, h2⟩ := h
  rw [Int32.le_iff_toInt_le] at h1 h2
  have h0 : (0 : Int32).toInt = 0 := rfl
  rw [h0] at h1
  cases k with
  | zero =>
    exfalso
    have : (nI 0 - 1).toInt = -1 := by decide
    omega
  | succ k =>
    rw [nI_pred, nI_toInt (by omega)] at h2
    refine ⟨i.toInt.toNat, by omega, ?_⟩
    apply Int32.toInt_inj.mp
    rw [nI_toInt (by omega)]
    omega
theorem kx_cell_nI {k c : Nat} (hk : k < 2 ^ 31) (hc : c < k) : kx_cell k (nI c) = true := by
  unfold kx_cell kx_in
  simp only [Bool.and_eq_true, decide_eq_true_eq]
  refine ⟨nI_pos' (by omega), ?_⟩
  cases k with
  | zero => omega
  | succ k =>
    rw [nI_pred]
    exact nI_le (by omega) (by omega)
theorem kx_cell_vp {k N : Nat} {i : Int32} (hk : k ≤ N) (hN : N < 2 ^ 31) (h : kx_cell k i = true) : vp_in i N := by
  obtain ⟨c, hc, rfl⟩ := kx_cell_in (by omega) h
  exact nI_in (by omega) hN
def kx_tcr (k : Nat) (cr : Int32) : Nat → Int32
  | 0 => 0
  | m + 1 => if kx_ck cr (nI m) = true then kx_tcr k cr m ||| (1 <<< ((nI k - 1 - nI m) &&& 31)) else kx_tcr k cr m
def kx_tsh (k : Nat) (sh : Nat → Int32) (m : Nat) : Nat → Int32 := fun x => if x < m ∨ (k - 1 - m < x ∧ x < k) then sh (k - 1 - x) else sh x
def kx_turn (k : Nat) (sh : Nat → Int32) : Nat → Int32 := fun x => if x < k then sh (k - 1 - x) else sh x
theorem kx_tsh_0 {k : Nat} (hk : 0 < k) (sh : Nat → Int32) : kx_tsh k sh 0 = sh := by
  funext x
  unfold kx_tsh
  rw [if_neg (by omega)]
theorem kx_tsh_end (k : Nat) (sh : Nat → Int32) : kx_tsh k sh (k / 2) = kx_turn k sh := by
  funext x
  unfold kx_tsh kx_turn
  by_cases h : x < k
  · rw [if_pos h]
    by_cases h2 : x < k / 2 ∨ k - 1 - k / 2 < x ∧ x < k
    · rw [if_pos h2]
    · rw [if_neg h2]
      congr 1
      omega
  · rw [if_neg h, if_neg (by omega)]
theorem kx_tsh_step {k m : Nat} (sh : Nat → Int32) (hm : m < k / 2) : upd (upd (kx_tsh k sh m) m (kx_tsh k sh m (k - 1 - m))) (k - 1 - m) (kx_tsh k sh m m) = kx_tsh k sh (m + 1) := by
  funext x
  unfold upd kx_tsh
  by_cases h1 : x = k - 1 - m
  · rw [if_pos h1, if_neg (by omega), if_pos (by omega)]
    congr 1
    omega
  · rw [if_neg h1]
    by_cases h2 : x = m
    · rw [if_pos h2, if_neg (by omega), if_pos (by omega)]
      congr 1
      omega
    · rw [if_neg h2]
      by_cases h3 : x < m ∨ (k - 1 - m < x ∧ x < k)
      · rw [if_pos h3, if_pos (by omega)]
      · rw [if_neg h3, if_neg (by omega)]
theorem nI_dec (m : Nat) : nI (m + 1) + -1 = nI m := by
  rw [← Int32.sub_eq_add_neg, nI_pred]
def kx_perf (k : Nat) (act a b : Int32) (cr : Int32) (sh pl : Nat → Int32) : Int32 × (Nat → Int32) × (Nat → Int32) :=
  if act = 7 then (cr, kx_push sh a b, pl) else if act = 8 then (cr, kx_soothe sh a, pl) else if act = 9 then (kx_crack cr a, upd sh a.toNatClampNeg 0, pl) else if act = 10 then (kx_tcr k cr k, kx_turn k sh, pl) else if act = 11 then (cr, sh, kx_exch pl a b) else (cr, sh, pl)
section KB
variable {d n sl q k p : Nat} {es : ax_H} {t cr : Int32} {sh pl dn : Nat → Int32}
theorem ck_copy (hd : 1 ≤ d) (hb : kb es n q k p t cr sh pl dn) {q2 k2 p2 : Nat} {t2 cr2 : Int32} {sh2 pl2 dn2 : Nat → Int32} (hb2 : kb es n q2 k2 p2 t2 cr2 sh2 pl2 dn2) (ha : q + 3 < q2 ∨ q2 + 3 < q) : ax_Mt d 2 [.ref q, .ref q2] n sl es (fun r es' => r = none ∧ es' = kw es q k2 p2 t2 cr2 sh2 pl2 dn2) := by
  obtain ⟨es, rfl⟩ : ∃ es0, es = kw es0 q k p t cr sh pl dn := ⟨es, (kb_kw hb).symm⟩
  obtain ⟨hn, -, -, -, -, y1, y2, y3⟩ := hb
  obtain ⟨hn2, s0, s1, s2, s3, x1, x2, x3⟩ := hb2
  have g0 : ∀ k p t cr sh pl dn, kw es q k p t cr sh pl dn q2 = .inr (0, [.int (nI k2), .int (nI p2), .int t2, .int cr2, .ref (q2 + 1), .ref (q2 + 2), .ref (q2 + 3)]) := fun k' p' t' cr' sh' pl' dn' => by
    rw [kw_ne es k' p' t' cr' sh' pl' dn' (by omega)]
    rw [kw_ne es k p t cr sh pl dn (by omega)] at s0
    exact s0
  have g1 : ∀ k p t cr sh pl dn, kw es q k p t cr sh pl dn (q2 + 1) = .inl (0, 12, .inl sh2) := fun k' p' t' cr' sh' pl' dn' => by
    rw [kw_ne es k' p' t' cr' sh' pl' dn' (by omega)]
    rw [kw_ne es k p t cr sh pl dn (by omega)] at s1
    exact s1
  have g2 : ∀ k p t cr sh pl dn, kw es q k p t cr sh pl dn (q2 + 2) = .inl (0, 6, .inl pl2) := fun k' p' t' cr' sh' pl' dn' => by
    rw [kw_ne es k' p' t' cr' sh' pl' dn' (by omega)]
    rw [kw_ne es k p t cr sh pl dn (by omega)] at s2
    exact s2
  have g3 : ∀ k p t cr sh pl dn, kw es q k p t cr sh pl dn (q2 + 3) = .inl (0, 6, .inl dn2) := fun k' p' t' cr' sh' pl' dn' => by
    rw [kw_ne es k' p' t' cr' sh' pl' dn' (by omega)]
    rw [kw_ne es k p t cr sh pl dn (by omega)] at s3
    exact s3
  have hq : q < ax_al n := by omega
  have hq1 : q + 1 < ax_al n := by omega
  have hq2 : q + 2 < ax_al n := by omega
  have hq3 : q + 3 < ax_al n := by omega
  have hr : q2 < ax_al n := by omega
  have hr1 : q2 + 1 < ax_al n := by omega
  have hr2 : q2 + 2 < ax_al n := by omega
  have hr3 : q2 + 3 < ax_al n := by omega
  refine ax_Mt_start (m := ax_m_0_2) (ls := [some (.ref q), some (.ref q2)]) rfl ax_b_2_0 (Nat.le_of_ble_eq_true rfl) rfl ?_
  simp only [ax_W_cons, ax_I, ax_cmp, ax_ii, ax_ll, ax_li, ax_st1, ax_st2, ax_kl, ax_k2, ax_fit, ax_rtok, List.getElem?_cons_zero, List.getElem?_cons_succ, List.length_cons, List.length_nil, List.set_cons_zero, List.set_cons_succ, Nat.reduceAdd, Nat.reduceDiv, Nat.reduceMod, Nat.reduceMul, Nat.reduceLT, Nat.reduceLeDiff, Int32.reduceOfInt, Int64.reduceOfInt, true_and, and_true, and_self, true_or, or_true, false_implies, true_implies, not_false_eq_true, not_true_eq_false, Value.category, Nat.reduceEqDiff, Option.toList, List.cons_append, List.nil_append, List.drop_succ_cons, List.drop_zero, ax_t_2, ax_bi, g0, g1, g2, g3, kw_x0, kw_x1, kw_x2, kw_x3, kw_u0, kw_u1, kw_u2, kw_u3, kw_kw, hq, hq1, hq2, hq3, hr, hr1, hr2, hr3, hd, kx_c0, kx_c6, kx_c12, kx_n0, kx_n6, kx_n12, kx_cat0, Nat.le_refl, kz_cpy x1 y1, kz_cpy x2 y2, kz_cpy x3 y3]
theorem ck_turnOut (hd : 1 ≤ d) (hk : k ≤ 12) (hk0 : 0 < k) (hb : kb es n q k p t cr sh pl dn) : ax_Mt d 12 [.ref q] n sl es (fun r es' => r = none ∧ es' = kw es q k p t (kx_tcr k cr k) (kx_turn k sh) pl dn) := by
  obtain ⟨d, rfl⟩ : ∃ z, d = z + 1 := ⟨d - 1, by omega⟩
  obtain ⟨es, rfl⟩ : ∃ es0, es = kw es0 q k p t cr sh pl dn := ⟨es, (kb_kw hb).symm⟩
  have hn := hb.1
  have hq : q < ax_al n := by omega
  have hq1 : q + 1 < ax_al n := by omega
  refine ax_Mt_start (m := ax_m_0_12) (ls := [some (.ref q), none, none, none, none]) rfl ax_b_12_0 (Nat.le_of_ble_eq_true rfl) rfl ?_
  simp only [ax_W_cons, ax_I, ax_cmp, ax_ii, ax_ll, ax_li, ax_st1, ax_st2, ax_kl, ax_k2, ax_fit, ax_rtok, List.getElem?_cons_zero, List.getElem?_cons_succ, List.length_cons, List.length_nil, List.set_cons_zero, List.set_cons_succ, Nat.reduceAdd, Nat.reduceDiv, Nat.reduceMod, Nat.reduceMul, Nat.reduceLT, Nat.reduceLeDiff, Int32.reduceOfInt, Int64.reduceOfInt, true_and, and_true, and_self, true_or, or_true, false_implies, true_implies, not_false_eq_true, not_true_eq_false, Value.category, Nat.reduceEqDiff, Option.toList, List.cons_append, List.nil_append, List.drop_succ_cons, List.drop_zero, ax_t_12]
  rw [ax_n_12_4]
  refine kx_loop (k := k) (I := fun c => ax_W (d + 1) n sl 12 [(1, .iload 2), (1, .aload 0), (3, .getfield 0), (3, .if_icmp .ge 39), (1, .aload 0), (1, .iload 2), (3, .invokeinterface 4 9), (3, .ifCond .eq 33), (1, .iload 1), (1, .iconst 1), (1, .aload 0), (3, .getfield 0), (1, .iconst 1), (1, .isub), (1, .iload 2), (1, .isub), (1, .ishl), (1, .ior), (1, .istore 1)] 4 [some (.ref q), some (.int (kx_tcr k cr c)), some (.int (nI c)), none, none] [] n sl (kw es q k p t cr sh pl dn) (fun r n' sl' es' => n' = n ∧ sl' = sl ∧ r = none ∧ es' = kw (kw es q k p t cr sh pl dn) q k p t (kx_tcr k cr k) (kx_turn k sh) pl dn)) ?_ ?_
  · have e0 := kx_nn (k := k) (by omega)
    simp only [ax_W_cons, ax_I, ax_cmp, ax_ii, ax_ll, ax_li, ax_st1, ax_st2, ax_kl, ax_k2, ax_fit, ax_rtok, List.getElem?_cons_zero, List.getElem?_cons_succ, List.length_cons, List.length_nil, List.set_cons_zero, List.set_cons_succ, Nat.reduceAdd, Nat.reduceDiv, Nat.reduceMod, Nat.reduceMul, Nat.reduceLT, Nat.reduceLeDiff, Int32.reduceOfInt, Int64.reduceOfInt, true_and, and_true, and_self, true_or, or_true, false_implies, true_implies, not_false_eq_true, not_true_eq_false, Value.category, Nat.reduceEqDiff, Option.toList, List.cons_append, List.nil_append, List.drop_succ_cons, List.drop_zero, ax_t_12, ax_j_12_39, ax_n_12_39, kw_x0, kw_u0, hq, e0]
    rw [ax_n_12_53]
    have ek : nI k - 1 = nI (k - 1) := by
      obtain ⟨k', rfl⟩ : ∃ z, k = z + 1 := ⟨k - 1, by omega⟩
      exact nI_pred k'
    rw [ek]
    have L := kx_loop (k := k / 2) (I := fun c => ax_W (d + 1) n sl 12 [(1, .iload 2), (1, .iload 3), (3, .if_icmp .ge 95), (1, .aload 0), (3, .getfield 18), (1, .iload 2), (1, .iaload), (2, .istore 4), (1, .aload 0), (3, .getfield 18), (1, .iload 2), (1, .aload 0), (3, .getfield 18), (1, .iload 3), (1, .iaload), (1, .iastore), (1, .aload 0), (3, .getfield 18), (1, .iload 3), (2, .iload 4), (1, .iastore), (3, .iinc 2 1), (3, .iinc 3 (-1)), (3, .goto 53)] 53 [some (.ref q), some (.int (kx_tcr k cr k)), some (.int (nI c)), some (.int (nI (k - 1 - c))), (if c = 0 then none else some (.int (kx_tsh k sh (c - 1) (c - 1))))] [] n sl (kw es q k p t (kx_tcr k cr k) (kx_tsh k sh c) pl dn) (fun r n' sl' es' => n' = n ∧ sl' = sl ∧ r = none ∧ es' = kw (kw es q k p t cr sh pl dn) q k p t (kx_tcr k cr k) (kx_turn k sh) pl dn)) ?_ ?_
    · rw [kx_tsh_0 hk0] at L
      exact L
    · have e1 : nI (k - 1 - k / 2) ≤ nI (k / 2) := nI_le (by omega) (by omega)
      simp only [ax_W_cons, ax_I, ax_cmp, ax_ii, ax_ll, ax_li, ax_st1, ax_st2, ax_kl, ax_k2, ax_fit, ax_rtok, List.getElem?_cons_zero, List.getElem?_cons_succ, List.length_cons, List.length_nil, List.set_cons_zero, List.set_cons_succ, Nat.reduceAdd, Nat.reduceDiv, Nat.reduceMod, Nat.reduceMul, Nat.reduceLT, Nat.reduceLeDiff, Int32.reduceOfInt, Int64.reduceOfInt, true_and, and_true, and_self, true_or, or_true, false_implies, true_implies, not_false_eq_true, not_true_eq_false, Value.category, Nat.reduceEqDiff, Option.toList, List.cons_append, List.nil_append, List.drop_succ_cons, List.drop_zero, ax_t_12, ax_j_12_95, ax_n_12_95, e1, kw_kw, kx_tsh_end]
    · intro c hc ih
      have e1 : ¬ nI (k - 1 - c) ≤ nI c := nI_ge (by omega) (by omega)
      have e2 : vp_in (nI c) 12 := nI_in (by omega) (by decide)
      have e3 : vp_in (nI (k - 1 - c)) 12 := nI_in (by omega) (by decide)
      have e4 : (nI c).toNatClampNeg = c := nI_clamp (by omega)
      have e5 : (nI (k - 1 - c)).toNatClampNeg = k - 1 - c := nI_clamp (by omega)
      have e6 : nI c + 1 = nI (c + 1) := (nI_succ c).symm
      have e7 : nI (k - 1 - c) + -1 = nI (k - 1 - (c + 1)) := by
        rw [show k - 1 - c = (k - 1 - (c + 1)) + 1 by omega]
        exact nI_dec _
      simp only [ax_W_cons, ax_I, ax_cmp, ax_ii, ax_ll, ax_li, ax_st1, ax_st2, ax_kl, ax_k2, ax_fit, ax_rtok, List.getElem?_cons_zero, List.getElem?_cons_succ, List.length_cons, List.length_nil, List.set_cons_zero, List.set_cons_succ, Nat.reduceAdd, Nat.reduceDiv, Nat.reduceMod, Nat.reduceMul, Nat.reduceLT, Nat.reduceLeDiff, Int32.reduceOfInt, Int64.reduceOfInt, true_and, and_true, and_self, true_or, or_true, false_implies, true_implies, not_false_eq_true, not_true_eq_false, Value.category, Nat.reduceEqDiff, Option.toList, List.cons_append, List.nil_append, List.drop_succ_cons, List.drop_zero, ax_t_12, kw_x0, kw_x1, kw_u1, hq, hq1, e1, e2, e3, e4, e5, e6, e7]
      rw [ax_j_12_53, kx_tsh_step sh hc]
      simp only [Nat.add_sub_cancel, Nat.add_eq_zero_iff, Nat.succ_ne_zero, and_false, if_false] at ih
      exact ih
  · intro c hc ih
    obtain ⟨e1, e2, e3, e4⟩ := kx_ix hc hk (by decide)
    simp only [ax_W_cons, ax_I, ax_cmp, ax_ii, ax_ll, ax_li, ax_st1, ax_st2, ax_kl, ax_k2, ax_fit, ax_rtok, List.getElem?_cons_zero, List.getElem?_cons_succ, List.length_cons, List.length_nil, List.set_cons_zero, List.set_cons_succ, Nat.reduceAdd, Nat.reduceDiv, Nat.reduceMod, Nat.reduceMul, Nat.reduceLT, Nat.reduceLeDiff, Int32.reduceOfInt, Int64.reduceOfInt, true_and, and_true, and_self, true_or, or_true, false_implies, true_implies, not_false_eq_true, not_true_eq_false, Value.category, Nat.reduceEqDiff, Option.toList, List.cons_append, List.nil_append, List.drop_succ_cons, List.drop_zero, ax_t_12, kw_x0, hq, e1]
    refine ax_inv_eq (Nat.le_of_ble_eq_true rfl) (Nat.le_of_ble_eq_true rfl) (fun _ => ax_rcv_ok hq (kw_0 ..)) (fun h => absurd h (by decide)) (Nat.le_refl _) (Nat.le_refl _) (ck_isCracked hb (nI c)) ?_
    simp only [ax_W_cons, ax_I, ax_cmp, ax_ii, ax_ll, ax_li, ax_st1, ax_st2, ax_kl, ax_k2, ax_fit, ax_rtok, List.getElem?_cons_zero, List.getElem?_cons_succ, List.length_cons, List.length_nil, List.set_cons_zero, List.set_cons_succ, Nat.reduceAdd, Nat.reduceDiv, Nat.reduceMod, Nat.reduceMul, Nat.reduceLT, Nat.reduceLeDiff, Int32.reduceOfInt, Int64.reduceOfInt, true_and, and_true, and_self, true_or, or_true, false_implies, true_implies, not_false_eq_true, not_true_eq_false, Value.category, Nat.reduceEqDiff, Option.toList, List.cons_append, List.nil_append, List.drop_succ_cons, List.drop_zero, ax_t_12, ax_j_12_33, ax_n_12_33, kw_x0, hq, kx_b0, e4]
    simp only [ax_j_12_4]
    refine ⟨fun h => ?_, fun h => ?_⟩
    · rw [kx_tcr, if_neg (by rw [h]; decide)] at ih
      exact ih
    · rw [kx_tcr, if_pos (by simpa using h)] at ih
      exact ih
theorem ck_perform (hd : 2 ≤ d) (hk : k ≤ 12) (hk0 : 0 < k) (hp : p ≤ 6) (hb : kb es n q k p t cr sh pl dn) (act a b : Int32) (hc : kx_can k p cr act a b = true) : ax_Mt d 8 [.ref q, .int act, .int a, .int b] n sl es (fun r es' => r = none ∧ es' = kw es q k p t (kx_perf k act a b cr sh pl).1 (kx_perf k act a b cr sh pl).2.1 (kx_perf k act a b cr sh pl).2.2 dn) := by
  obtain ⟨d, rfl⟩ : ∃ z, d = z + 1 := ⟨d - 1, by omega⟩
  have hb' := hb
  obtain ⟨hn, h0, h1, h2, h3, z1, z2, z3⟩ := hb'
  have hq : q < ax_al n := by omega
  refine ax_Mt_start (m := ax_m_0_8) (ls := [some (.ref q), some (.int act), some (.int a), some (.int b)]) rfl ax_b_8_0 (Nat.le_of_ble_eq_true rfl) rfl ?_
  simp only [ax_W_cons, ax_I, ax_cmp, ax_ii, ax_ll, ax_li, ax_st1, ax_st2, ax_kl, ax_k2, ax_fit, ax_rtok, List.getElem?_cons_zero, List.getElem?_cons_succ, List.length_cons, List.length_nil, List.set_cons_zero, List.set_cons_succ, Nat.reduceAdd, Nat.reduceDiv, Nat.reduceMod, Nat.reduceMul, Nat.reduceLT, Nat.reduceLeDiff, Int32.reduceOfInt, Int64.reduceOfInt, true_and, and_true, and_self, true_or, or_true, false_implies, true_implies, not_false_eq_true, not_true_eq_false, Value.category, Nat.reduceEqDiff, Option.toList, List.cons_append, List.nil_append, List.drop_succ_cons, List.drop_zero, ax_t_8]
  rcases kx_act act with rfl | rfl | rfl | rfl | rfl | h
  · have hv : vp_in a 12 := kx_cell_vp hk (by decide) (by simp [kx_can, kx_op] at hc; exact hc.1)
    refine ⟨fun h => absurd h (by decide), fun _ => ?_⟩
    show ax_J ax_W _ _ _ _ 36 _ _ _ _ _ _
    simp only [ax_W_cons, ax_I, ax_cmp, ax_ii, ax_ll, ax_li, ax_st1, ax_st2, ax_kl, ax_k2, ax_fit, ax_rtok, List.getElem?_cons_zero, List.getElem?_cons_succ, List.length_cons, List.length_nil, List.set_cons_zero, List.set_cons_succ, Nat.reduceAdd, Nat.reduceDiv, Nat.reduceMod, Nat.reduceMul, Nat.reduceLT, Nat.reduceLeDiff, Int32.reduceOfInt, Int64.reduceOfInt, true_and, and_true, and_self, true_or, or_true, false_implies, true_implies, not_false_eq_true, not_true_eq_false, Value.category, Nat.reduceEqDiff, Option.toList, List.cons_append, List.nil_append, List.drop_succ_cons, List.drop_zero, ax_t_8, ax_j_8_36, ax_n_8_36]
    refine ax_inv_eq (Nat.le_of_ble_eq_true rfl) (Nat.le_of_ble_eq_true rfl) (fun _ => ax_rcv_ok hq h0) (fun h => absurd h (by decide)) (Nat.le_refl _) (Nat.le_refl _) (ck_push (by omega) hb a b hv) ?_
    simp only [ax_W_cons, ax_I, ax_cmp, ax_ii, ax_ll, ax_li, ax_st1, ax_st2, ax_kl, ax_k2, ax_fit, ax_rtok, List.getElem?_cons_zero, List.getElem?_cons_succ, List.length_cons, List.length_nil, List.set_cons_zero, List.set_cons_succ, Nat.reduceAdd, Nat.reduceDiv, Nat.reduceMod, Nat.reduceMul, Nat.reduceLT, Nat.reduceLeDiff, Int32.reduceOfInt, Int64.reduceOfInt, true_and, and_true, and_self, true_or, or_true, false_implies, true_implies, not_false_eq_true, not_true_eq_false, Value.category, Nat.reduceEqDiff, Option.toList, List.cons_append, List.nil_append, List.drop_succ_cons, List.drop_zero, ax_t_8, ax_j_8_77, ax_n_8_77]
    rfl
  · have hv : vp_in a 12 := kx_cell_vp hk (by decide) (by simpa [kx_can] using hc)
    refine ⟨fun h => absurd h (by decide), fun _ => ?_⟩
    show ax_J ax_W _ _ _ _ 45 _ _ _ _ _ _
    simp only [ax_W_cons, ax_I, ax_cmp, ax_ii, ax_ll, ax_li, ax_st1, ax_st2, ax_kl, ax_k2, ax_fit, ax_rtok, List.getElem?_cons_zero, List.getElem?_cons_succ, List.length_cons, List.length_nil, List.set_cons_zero, List.set_cons_succ, Nat.reduceAdd, Nat.reduceDiv, Nat.reduceMod, Nat.reduceMul, Nat.reduceLT, Nat.reduceLeDiff, Int32.reduceOfInt, Int64.reduceOfInt, true_and, and_true, and_self, true_or, or_true, false_implies, true_implies, not_false_eq_true, not_true_eq_false, Value.category, Nat.reduceEqDiff, Option.toList, List.cons_append, List.nil_append, List.drop_succ_cons, List.drop_zero, ax_t_8, ax_j_8_45, ax_n_8_45]
    refine ax_inv_eq (Nat.le_of_ble_eq_true rfl) (Nat.le_of_ble_eq_true rfl) (fun _ => ax_rcv_ok hq h0) (fun h => absurd h (by decide)) (Nat.le_refl _) (Nat.le_refl _) (ck_soothe (by omega) hb a hv) ?_
    simp only [ax_W_cons, ax_I, ax_cmp, ax_ii, ax_ll, ax_li, ax_st1, ax_st2, ax_kl, ax_k2, ax_fit, ax_rtok, List.getElem?_cons_zero, List.getElem?_cons_succ, List.length_cons, List.length_nil, List.set_cons_zero, List.set_cons_succ, Nat.reduceAdd, Nat.reduceDiv, Nat.reduceMod, Nat.reduceMul, Nat.reduceLT, Nat.reduceLeDiff, Int32.reduceOfInt, Int64.reduceOfInt, true_and, and_true, and_self, true_or, or_true, false_implies, true_implies, not_false_eq_true, not_true_eq_false, Value.category, Nat.reduceEqDiff, Option.toList, List.cons_append, List.nil_append, List.drop_succ_cons, List.drop_zero, ax_t_8, ax_j_8_77, ax_n_8_77]
    rfl
  · have hv : vp_in a 12 := kx_cell_vp hk (by decide) (by simp [kx_can, kx_op] at hc; exact hc.1)
    refine ⟨fun h => absurd h (by decide), fun _ => ?_⟩
    show ax_J ax_W _ _ _ _ 53 _ _ _ _ _ _
    simp only [ax_W_cons, ax_I, ax_cmp, ax_ii, ax_ll, ax_li, ax_st1, ax_st2, ax_kl, ax_k2, ax_fit, ax_rtok, List.getElem?_cons_zero, List.getElem?_cons_succ, List.length_cons, List.length_nil, List.set_cons_zero, List.set_cons_succ, Nat.reduceAdd, Nat.reduceDiv, Nat.reduceMod, Nat.reduceMul, Nat.reduceLT, Nat.reduceLeDiff, Int32.reduceOfInt, Int64.reduceOfInt, true_and, and_true, and_self, true_or, or_true, false_implies, true_implies, not_false_eq_true, not_true_eq_false, Value.category, Nat.reduceEqDiff, Option.toList, List.cons_append, List.nil_append, List.drop_succ_cons, List.drop_zero, ax_t_8, ax_j_8_53, ax_n_8_53]
    refine ax_inv_eq (Nat.le_of_ble_eq_true rfl) (Nat.le_of_ble_eq_true rfl) (fun _ => ax_rcv_ok hq h0) (fun h => absurd h (by decide)) (Nat.le_refl _) (Nat.le_refl _) (ck_crack hb a hv) ?_
    simp only [ax_W_cons, ax_I, ax_cmp, ax_ii, ax_ll, ax_li, ax_st1, ax_st2, ax_kl, ax_k2, ax_fit, ax_rtok, List.getElem?_cons_zero, List.getElem?_cons_succ, List.length_cons, List.length_nil, List.set_cons_zero, List.set_cons_succ, Nat.reduceAdd, Nat.reduceDiv, Nat.reduceMod, Nat.reduceMul, Nat.reduceLT, Nat.reduceLeDiff, Int32.reduceOfInt, Int64.reduceOfInt, true_and, and_true, and_self, true_or, or_true, false_implies, true_implies, not_false_eq_true, not_true_eq_false, Value.category, Nat.reduceEqDiff, Option.toList, List.cons_append, List.nil_append, List.drop_succ_cons, List.drop_zero, ax_t_8, ax_j_8_77, ax_n_8_77]
    rfl
  · refine ⟨fun h => absurd h (by decide), fun _ => ?_⟩
    show ax_J ax_W _ _ _ _ 61 _ _ _ _ _ _
    simp only [ax_W_cons, ax_I, ax_cmp, ax_ii, ax_ll, ax_li, ax_st1, ax_st2, ax_kl, ax_k2, ax_fit, ax_rtok, List.getElem?_cons_zero, List.getElem?_cons_succ, List.length_cons, List.length_nil, List.set_cons_zero, List.set_cons_succ, Nat.reduceAdd, Nat.reduceDiv, Nat.reduceMod, Nat.reduceMul, Nat.reduceLT, Nat.reduceLeDiff, Int32.reduceOfInt, Int64.reduceOfInt, true_and, and_true, and_self, true_or, or_true, false_implies, true_implies, not_false_eq_true, not_true_eq_false, Value.category, Nat.reduceEqDiff, Option.toList, List.cons_append, List.nil_append, List.drop_succ_cons, List.drop_zero, ax_t_8, ax_j_8_61, ax_n_8_61]
    refine ax_inv_eq (Nat.le_of_ble_eq_true rfl) (Nat.le_of_ble_eq_true rfl) (fun _ => ax_rcv_ok hq h0) (fun h => absurd h (by decide)) (Nat.le_refl _) (Nat.le_refl _) (ck_turnOut (by omega) hk hk0 hb) ?_
    simp only [ax_W_cons, ax_I, ax_cmp, ax_ii, ax_ll, ax_li, ax_st1, ax_st2, ax_kl, ax_k2, ax_fit, ax_rtok, List.getElem?_cons_zero, List.getElem?_cons_succ, List.length_cons, List.length_nil, List.set_cons_zero, List.set_cons_succ, Nat.reduceAdd, Nat.reduceDiv, Nat.reduceMod, Nat.reduceMul, Nat.reduceLT, Nat.reduceLeDiff, Int32.reduceOfInt, Int64.reduceOfInt, true_and, and_true, and_self, true_or, or_true, false_implies, true_implies, not_false_eq_true, not_true_eq_false, Value.category, Nat.reduceEqDiff, Option.toList, List.cons_append, List.nil_append, List.drop_succ_cons, List.drop_zero, ax_t_8, ax_j_8_77, ax_n_8_77]
    rfl
  · have hc2 : kx_cell p a = true ∧ kx_cell p b = true := by
      simp [kx_can] at hc
      exact ⟨hc.1, hc.2.1⟩
    have hv : vp_in a 6 := kx_cell_vp hp (by decide) hc2.1
    have hv2 : vp_in b 6 := kx_cell_vp hp (by decide) hc2.2
    refine ⟨fun h => absurd h (by decide), fun _ => ?_⟩
    show ax_J ax_W _ _ _ _ 68 _ _ _ _ _ _
    simp only [ax_W_cons, ax_I, ax_cmp, ax_ii, ax_ll, ax_li, ax_st1, ax_st2, ax_kl, ax_k2, ax_fit, ax_rtok, List.getElem?_cons_zero, List.getElem?_cons_succ, List.length_cons, List.length_nil, List.set_cons_zero, List.set_cons_succ, Nat.reduceAdd, Nat.reduceDiv, Nat.reduceMod, Nat.reduceMul, Nat.reduceLT, Nat.reduceLeDiff, Int32.reduceOfInt, Int64.reduceOfInt, true_and, and_true, and_self, true_or, or_true, false_implies, true_implies, not_false_eq_true, not_true_eq_false, Value.category, Nat.reduceEqDiff, Option.toList, List.cons_append, List.nil_append, List.drop_succ_cons, List.drop_zero, ax_t_8, ax_j_8_68, ax_n_8_68]
    refine ax_inv_eq (Nat.le_of_ble_eq_true rfl) (Nat.le_of_ble_eq_true rfl) (fun _ => ax_rcv_ok hq h0) (fun h => absurd h (by decide)) (Nat.le_refl _) (Nat.le_refl _) (ck_exchange hb a b hv hv2) ?_
    simp only [ax_W_cons, ax_I, ax_cmp, ax_ii, ax_ll, ax_li, ax_st1, ax_st2, ax_kl, ax_k2, ax_fit, ax_rtok, List.getElem?_cons_zero, List.getElem?_cons_succ, List.length_cons, List.length_nil, List.set_cons_zero, List.set_cons_succ, Nat.reduceAdd, Nat.reduceDiv, Nat.reduceMod, Nat.reduceMul, Nat.reduceLT, Nat.reduceLeDiff, Int32.reduceOfInt, Int64.reduceOfInt, true_and, and_true, and_self, true_or, or_true, false_implies, true_implies, not_false_eq_true, not_true_eq_false, Value.category, Nat.reduceEqDiff, Option.toList, List.cons_append, List.nil_append, List.drop_succ_cons, List.drop_zero, ax_t_8, ax_j_8_77, ax_n_8_77]
    rfl
  · refine ⟨fun _ => ?_, fun h2 => absurd h h2⟩
    simp only [ax_W_cons, ax_I, ax_cmp, ax_ii, ax_ll, ax_li, ax_st1, ax_st2, ax_kl, ax_k2, ax_fit, ax_rtok, List.getElem?_cons_zero, List.getElem?_cons_succ, List.length_cons, List.length_nil, List.set_cons_zero, List.set_cons_succ, Nat.reduceAdd, Nat.reduceDiv, Nat.reduceMod, Nat.reduceMul, Nat.reduceLT, Nat.reduceLeDiff, Int32.reduceOfInt, Int64.reduceOfInt, true_and, and_true, and_self, true_or, or_true, false_implies, true_implies, not_false_eq_true, not_true_eq_false, Value.category, Nat.reduceEqDiff, Option.toList, List.cons_append, List.nil_append, List.drop_succ_cons, List.drop_zero, ax_t_8, ax_j_8_77, ax_n_8_77]
    have e : ∀ z : Int32, (7 ≤ z.toInt ∧ z.toInt ≤ 11) → ¬ act = z := fun z hz he => by rw [he] at h; omega
    simp [kx_perf, e 7 (by decide), e 8 (by decide), e 9 (by decide), e 10 (by decide), e 11 (by decide), kb_kw hb]
/-- a bowl begins: what of the court at cc it needs -/
theorem ck_begin (hd : 1 ≤ d) (hb : kb es n q k p t cr sh pl dn) {cc k2 p2 : Nat} {v2 v3 : Nat} {fs : List Value} {pl2 : Nat → Int32} (hcc : cc < ax_al n) (hc3 : v3 < ax_al n) (hc0 : es cc = .inr (1, .int (nI k2) :: .int (nI p2) :: .ref v2 :: .ref v3 :: fs)) (hc1 : es v3 = kb_a 6 pl2) (hz : kz 6 pl2) (ha : q + 3 < cc ∨ cc < q) (ha3 : q + 3 < v3 ∨ v3 < q) : ax_Mt d 1 [.ref q, .ref cc] n sl es (fun r es' => r = none ∧ es' = kw es q k2 p2 0 0 (fun _ => 0) pl2 (fun _ => 0)) := by
  obtain ⟨d, rfl⟩ : ∃ z, d = z + 1 := ⟨d - 1, by omega⟩
  obtain ⟨es, rfl⟩ : ∃ es0, es = kw es0 q k p t cr sh pl dn := ⟨es, (kb_kw hb).symm⟩
  obtain ⟨hn, -, -, -, -, y1, y2, y3⟩ := hb
  have g0 : ∀ k p t cr sh pl dn, kw es q k p t cr sh pl dn cc = .inr (1, .int (nI k2) :: .int (nI p2) :: .ref v2 :: .ref v3 :: fs) := fun k' p' t' cr' sh' pl' dn' => by
    rw [kw_ne es k' p' t' cr' sh' pl' dn' (by omega)]
    rw [kw_ne es k p t cr sh pl dn (by omega)] at hc0
    exact hc0
  have g1 : ∀ k p t cr sh pl dn, kw es q k p t cr sh pl dn v3 = .inl (0, 6, .inl pl2) := fun k' p' t' cr' sh' pl' dn' => by
    rw [kw_ne es k' p' t' cr' sh' pl' dn' (by omega)]
    rw [kw_ne es k p t cr sh pl dn (by omega)] at hc1
    exact hc1
  have hq : q < ax_al n := by omega
  have hq1 : q + 1 < ax_al n := by omega
  have hq2 : q + 2 < ax_al n := by omega
  have hq3 : q + 3 < ax_al n := by omega
  refine ax_Mt_start (m := ax_m_0_1) (ls := [some (.ref q), some (.ref cc)]) rfl ax_b_1_0 (Nat.le_of_ble_eq_true rfl) rfl ?_
  simp only [ax_W_cons, ax_I, ax_cmp, ax_ii, ax_ll, ax_li, ax_st1, ax_st2, ax_kl, ax_k2, ax_fit, ax_rtok, List.getElem?_cons_zero, List.getElem?_cons_succ, List.length_cons, List.length_nil, List.set_cons_zero, List.set_cons_succ, Nat.reduceAdd, Nat.reduceDiv, Nat.reduceMod, Nat.reduceMul, Nat.reduceLT, Nat.reduceLeDiff, Int32.reduceOfInt, Int64.reduceOfInt, true_and, and_true, and_self, true_or, or_true, false_implies, true_implies, not_false_eq_true, not_true_eq_false, Value.category, Nat.reduceEqDiff, Option.toList, List.cons_append, List.nil_append, List.drop_succ_cons, List.drop_zero, ax_t_1, g0, kw_x0, kw_u0, kw_kw, hq, hcc]
  refine ax_inv_eq (Nat.le_of_ble_eq_true rfl) (Nat.le_of_ble_eq_true rfl) (fun _ => absurd ‹_› (by decide)) (fun h => absurd h (by decide)) (Nat.le_refl _) (Nat.le_refl _) (ck_fill d n sl (q + 1) 12 _ sh 0 hq1 (kw_x1 ..) (by decide)) ?_
  simp only [ax_W_cons, ax_I, ax_cmp, ax_ii, ax_ll, ax_li, ax_st1, ax_st2, ax_kl, ax_k2, ax_fit, ax_rtok, List.getElem?_cons_zero, List.getElem?_cons_succ, List.length_cons, List.length_nil, List.set_cons_zero, List.set_cons_succ, Nat.reduceAdd, Nat.reduceDiv, Nat.reduceMod, Nat.reduceMul, Nat.reduceLT, Nat.reduceLeDiff, Int32.reduceOfInt, Int64.reduceOfInt, true_and, and_true, and_self, true_or, or_true, false_implies, true_implies, not_false_eq_true, not_true_eq_false, Value.category, Nat.reduceEqDiff, Option.toList, List.cons_append, List.nil_append, List.drop_succ_cons, List.drop_zero, ax_t_1, kw_x0, kw_u1, kw_kw, hq]
  refine ax_inv_eq (Nat.le_of_ble_eq_true rfl) (Nat.le_of_ble_eq_true rfl) (fun _ => absurd ‹_› (by decide)) (fun h => absurd h (by decide)) (Nat.le_refl _) (Nat.le_refl _) (ck_fill d n sl (q + 3) 6 _ dn 0 hq3 (kw_x3 ..) (by decide)) ?_
  simp only [ax_W_cons, ax_I, ax_cmp, ax_ii, ax_ll, ax_li, ax_st1, ax_st2, ax_kl, ax_k2, ax_fit, ax_rtok, List.getElem?_cons_zero, List.getElem?_cons_succ, List.length_cons, List.length_nil, List.set_cons_zero, List.set_cons_succ, Nat.reduceAdd, Nat.reduceDiv, Nat.reduceMod, Nat.reduceMul, Nat.reduceLT, Nat.reduceLeDiff, Int32.reduceOfInt, Int64.reduceOfInt, true_and, and_true, and_self, true_or, or_true, false_implies, true_implies, not_false_eq_true, not_true_eq_false, Value.category, Nat.reduceEqDiff, Option.toList, List.cons_append, List.nil_append, List.drop_succ_cons, List.drop_zero, ax_t_1, ax_bi, g0, g1, kw_x0, kw_x2, kw_u2, kw_u3, kw_kw, hq, hq2, hcc, hc3, kx_c0, kx_c6, kx_n0, kx_n6, kx_cat0, Nat.le_refl, kz_cpy hz y2, kz_fill y1, kz_fill y3]
end KB
