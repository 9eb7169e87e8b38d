/-! Bowl: what it does -/
section KWX
variable (es : ax_H) (q k p : Nat) (t cr : Int32) (sh pl dn : Nat → Int32)
theorem kw_x0 : kw es q k p t cr sh pl dn q = .inr (0, [.int (nI k), .int (nI p), .int t, .int cr, .ref (q + 1), .ref (q + 2), .ref (q + 3)]) := kw_0 es q k p t cr sh pl dn
theorem kw_x1 : kw es q k p t cr sh pl dn (q + 1) = .inl (0, 12, .inl sh) := kw_1 es q k p t cr sh pl dn
theorem kw_x2 : kw es q k p t cr sh pl dn (q + 2) = .inl (0, 6, .inl pl) := kw_2 es q k p t cr sh pl dn
theorem kw_x3 : kw es q k p t cr sh pl dn (q + 3) = .inl (0, 6, .inl dn) := kw_3 es q k p t cr sh pl dn
theorem kw_u0 (k' p' : Nat) (t' cr' : Int32) : ax_up (kw es q k p t cr sh pl dn) q (.inr (0, [.int (nI k'), .int (nI p'), .int t', .int cr', .ref (q + 1), .ref (q + 2), .ref (q + 3)])) = kw es q k' p' t' cr' sh pl dn := by
  funext j
  by_cases h0 : j = q <;> by_cases h1 : j = q + 1 <;> by_cases h2 : j = q + 2 <;> by_cases h3 : j = q + 3 <;> first | (exfalso; omega) | simp [kw, ax_up, h0, h1, h2, h3, kb_o, kb_a]
theorem kw_u1 (f : Nat → Int32) : ax_up (kw es q k p t cr sh pl dn) (q + 1) (.inl (0, 12, .inl f)) = kw es q k p t cr f pl dn := by
  funext j
  by_cases h0 : j = q <;> by_cases h1 : j = q + 1 <;> by_cases h2 : j = q + 2 <;> by_cases h3 : j = q + 3 <;> first | (exfalso; omega) | simp [kw, ax_up, h0, h1, h2, h3, kb_o, kb_a]
theorem kw_u2 (f : Nat → Int32) : ax_up (kw es q k p t cr sh pl dn) (q + 2) (.inl (0, 6, .inl f)) = kw es q k p t cr sh f dn := by
  funext j
  by_cases h0 : j = q <;> by_cases h1 : j = q + 1 <;> by_cases h2 : j = q + 2 <;> by_cases h3 : j = q + 3 <;> first | (exfalso; omega) | simp [kw, ax_up, h0, h1, h2, h3, kb_o, kb_a]
theorem kw_u3 (f : Nat → Int32) : ax_up (kw es q k p t cr sh pl dn) (q + 3) (.inl (0, 6, .inl f)) = kw es q k p t cr sh pl f := by
  funext j
  by_cases h0 : j = q <;> by_cases h1 : j = q + 1 <;> by_cases h2 : j = q + 2 <;> by_cases h3 : j = q + 3 <;> first | (exfalso; omega) | simp [kw, ax_up, h0, h1, h2, h3, kb_o, kb_a]
end KWX
def kx_push (sh : Nat → Int32) (i f : Int32) : Nat → Int32 := upd sh i.toNatClampNeg (kx_min 99 (sh i.toNatClampNeg + f))
def kx_soothe (sh : Nat → Int32) (i : Int32) : Nat → Int32 := upd sh i.toNatClampNeg (kx_max 0 (sh i.toNatClampNeg - 3))
def kx_crack (cr i : Int32) : Int32 := cr ||| (1 <<< (i &&& 31))
def kx_exch (pl : Nat → Int32) (i j : Int32) : Nat → Int32 := upd (upd pl i.toNatClampNeg (pl j.toNatClampNeg)) j.toNatClampNeg (pl i.toNatClampNeg)
section KB
variable {d n sl q k p : Nat} {es : ax_H} {t cr : Int32} {sh pl dn : Nat → Int32}
theorem ck_push (hd : 1 ≤ d) (hb : kb es n q k p t cr sh pl dn) (i f : Int32) (hi : vp_in i 12) : ax_Mt d 9 [.ref q, .int i, .int f] n sl es (fun r es' => r = none ∧ es' = kw es q k p t cr (kx_push sh i f) pl dn) := by
  obtain ⟨d, rfl⟩ : ∃ z, d = z + 1 := ⟨d - 1, by omega⟩
  obtain ⟨es, rfl⟩ : ∃ es0, es = kw es0 q k p t cr sh pl dn := ⟨es, (kb_kw hb).symm⟩
  have hn := hb.1
  have hq : q < ax_al n := by omega
  have hq1 : q + 1 < ax_al n := by omega
  refine ax_Mt_start (m := ax_m_0_9) (ls := [some (.ref q), some (.int i), some (.int f)]) rfl ax_b_9_0 (Nat.le_of_ble_eq_true rfl) rfl ?_
  simp only [ax_W_cons, ax_I, ax_cmp, ax_ii, ax_ll, ax_li, ax_st1, ax_st2, ax_kl, ax_k2, ax_fit, ax_rtok, List.getElem?_cons_zero, List.getElem?_cons_succ, List.length_cons, List.length_nil, List.set_cons_zero, List.set_cons_succ, Nat.reduceAdd, Nat.reduceDiv, Nat.reduceMod, Nat.reduceMul, Nat.reduceLT, Nat.reduceLeDiff, Int32.reduceOfInt, Int64.reduceOfInt, true_and, and_true, and_self, true_or, or_true, false_implies, true_implies, not_false_eq_true, not_true_eq_false, Value.category, Nat.reduceEqDiff, Option.toList, List.cons_append, List.nil_append, List.drop_succ_cons, List.drop_zero, ax_t_9, kw_x0, kw_x1, hq, hq1, hi]
  refine ax_inv_eq (Nat.le_of_ble_eq_true rfl) (Nat.le_of_ble_eq_true rfl) (fun _ => absurd ‹_› (by decide)) (fun h => absurd h (by decide)) (Nat.le_refl _) (Nat.le_refl _) (ck_min d n sl _ 99 (sh i.toNatClampNeg + f)) ?_
  simp only [ax_W_cons, ax_I, ax_cmp, ax_ii, ax_ll, ax_li, ax_st1, ax_st2, ax_kl, ax_k2, ax_fit, ax_rtok, List.getElem?_cons_zero, List.getElem?_cons_succ, List.length_cons, List.length_nil, List.set_cons_zero, List.set_cons_succ, Nat.reduceAdd, Nat.reduceDiv, Nat.reduceMod, Nat.reduceMul, Nat.reduceLT, Nat.reduceLeDiff, Int32.reduceOfInt, Int64.reduceOfInt, true_and, and_true, and_self, true_or, or_true, false_implies, true_implies, not_false_eq_true, not_true_eq_false, Value.category, Nat.reduceEqDiff, Option.toList, List.cons_append, List.nil_append, List.drop_succ_cons, List.drop_zero, ax_t_9, kw_x1, kw_u1, kw_kw, hq1, hi]
  rfl
theorem ck_soothe (hd : 1 ≤ d) (hb : kb es n q k p t cr sh pl dn) (i : Int32) (hi : vp_in i 12) : ax_Mt d 10 [.ref q, .int i] n sl es (fun r es' => r = none ∧ es' = kw es q k p t cr (kx_soothe sh i) pl dn) := by
  obtain ⟨d, rfl⟩ : ∃ z, d = z + 1 := ⟨d - 1, by omega⟩
  obtain ⟨es, rfl⟩ : ∃ es0, es = kw es0 q k p t cr sh pl dn := ⟨es, (kb_kw hb).symm⟩
  have hn := hb.1
  have hq : q < ax_al n := by omega
  have hq1 : q + 1 < ax_al n := by omega
  refine ax_Mt_start (m := ax_m_0_10) (ls := [some (.ref q), some (.int i)]) rfl ax_b_10_0 (Nat.le_of_ble_eq_true rfl) rfl ?_
  simp only [ax_W_cons, ax_I, ax_cmp, ax_ii, ax_ll, ax_li, ax_st1, ax_st2, ax_kl, ax_k2, ax_fit, ax_rtok, List.getElem?_cons_zero, List.getElem?_cons_succ, List.length_cons, List.length_nil, List.set_cons_zero, List.set_cons_succ, Nat.reduceAdd, Nat.reduceDiv, Nat.reduceMod, Nat.reduceMul, Nat.reduceLT, Nat.reduceLeDiff, Int32.reduceOfInt, Int64.reduceOfInt, true_and, and_true, and_self, true_or, or_true, false_implies, true_implies, not_false_eq_true, not_true_eq_false, Value.category, Nat.reduceEqDiff, Option.toList, List.cons_append, List.nil_append, List.drop_succ_cons, List.drop_zero, ax_t_10, kw_x0, kw_x1, hq, hq1, hi]
  refine ax_inv_eq (Nat.le_of_ble_eq_true rfl) (Nat.le_of_ble_eq_true rfl) (fun _ => absurd ‹_› (by decide)) (fun h => absurd h (by decide)) (Nat.le_refl _) (Nat.le_refl _) (ck_max d n sl _ 0 (sh i.toNatClampNeg - 3)) ?_
  simp only [ax_W_cons, ax_I, ax_cmp, ax_ii, ax_ll, ax_li, ax_st1, ax_st2, ax_kl, ax_k2, ax_fit, ax_rtok, List.getElem?_cons_zero, List.getElem?_cons_succ, List.length_cons, List.length_nil, List.set_cons_zero, List.set_cons_succ, Nat.reduceAdd, Nat.reduceDiv, Nat.reduceMod, Nat.reduceMul, Nat.reduceLT, Nat.reduceLeDiff, Int32.reduceOfInt, Int64.reduceOfInt, true_and, and_true, and_self, true_or, or_true, false_implies, true_implies, not_false_eq_true, not_true_eq_false, Value.category, Nat.reduceEqDiff, Option.toList, List.cons_append, List.nil_append, List.drop_succ_cons, List.drop_zero, ax_t_10, kw_x1, kw_u1, kw_kw, hq1, hi]
  rfl
theorem ck_crack (hb : kb es n q k p t cr sh pl dn) (i : Int32) (hi : vp_in i 12) : ax_Mt d 11 [.ref q, .int i] n sl es (fun r es' => r = none ∧ es' = kw es q k p t (kx_crack cr i) (upd sh i.toNatClampNeg 0) pl dn) := by
  obtain ⟨es, rfl⟩ : ∃ es0, es = kw es0 q k p t cr sh pl dn := ⟨es, (kb_kw hb).symm⟩
  have hn := hb.1
  have hq : q < ax_al n := by omega
  have hq1 : q + 1 < ax_al n := by omega
  refine ax_Mt_start (m := ax_m_0_11) (ls := [some (.ref q), some (.int i)]) rfl ax_b_11_0 (Nat.le_of_ble_eq_true rfl) rfl ?_
  simp only [ax_W_cons, ax_I, ax_cmp, ax_ii, ax_ll, ax_li, ax_st1, ax_st2, ax_kl, ax_k2, ax_fit, ax_rtok, List.getElem?_cons_zero, List.getElem?_cons_succ, List.length_cons, List.length_nil, List.set_cons_zero, List.set_cons_succ, Nat.reduceAdd, Nat.reduceDiv, Nat.reduceMod, Nat.reduceMul, Nat.reduceLT, Nat.reduceLeDiff, Int32.reduceOfInt, Int64.reduceOfInt, true_and, and_true, and_self, true_or, or_true, false_implies, true_implies, not_false_eq_true, not_true_eq_false, Value.category, Nat.reduceEqDiff, Option.toList, List.cons_append, List.nil_append, List.drop_succ_cons, List.drop_zero, ax_t_11, kw_x0, kw_x1, kw_u0, kw_u1, kw_kw, hq, hq1, hi]
  rfl
theorem ck_exchange (hb : kb es n q k p t cr sh pl dn) (i j : Int32) (hi : vp_in i 6) (hj : vp_in j 6) : ax_Mt d 13 [.ref q, .int i, .int j] n sl es (fun r es' => r = none ∧ es' = kw es q k p t cr sh (kx_exch pl i j) dn) := by
  obtain ⟨es, rfl⟩ : ∃ es0, es = kw es0 q k p t cr sh pl dn := ⟨es, (kb_kw hb).symm⟩
  have hn := hb.1
  have hq : q < ax_al n := by omega
  have hq2 : q + 2 < ax_al n := by omega
  refine ax_Mt_start (m := ax_m_0_13) (ls := [some (.ref q), some (.int i), some (.int j), none]) rfl ax_b_13_0 (Nat.le_of_ble_eq_true rfl) rfl ?_
  simp only [ax_W_cons, ax_I, ax_cmp, ax_ii, ax_ll, ax_li, ax_st1, ax_st2, ax_kl, ax_k2, ax_fit, ax_rtok, List.getElem?_cons_zero, List.getElem?_cons_succ, List.length_cons, List.length_nil, List.set_cons_zero, List.set_cons_succ, Nat.reduceAdd, Nat.reduceDiv, Nat.reduceMod, Nat.reduceMul, Nat.reduceLT, Nat.reduceLeDiff, Int32.reduceOfInt, Int64.reduceOfInt, true_and, and_true, and_self, true_or, or_true, false_implies, true_implies, not_false_eq_true, not_true_eq_false, Value.category, Nat.reduceEqDiff, Option.toList, List.cons_append, List.nil_append, List.drop_succ_cons, List.drop_zero, ax_t_13, kw_x0, kw_x2, kw_u2, kw_kw, hq, hq2, hi, hj]
  rfl
def kx_behind (k : Nat) (i : Int32) : Int32 := if i + 1 < nI k then i + 1 else 0
def kx_ahead (k : Nat) (i : Int32) : Int32 := if 0 < i then i - 1 else nI k - 1
theorem ck_cellBehind (hb : kb es n q k p t cr sh pl dn) (i : Int32) : ax_Mt d 14 [.ref q, .int i] n sl es (fun r es' => r = some (.int (kx_behind k i)) ∧ es' = es) := by
  obtain ⟨hn, h0, h1, h2, h3, z1, z2, z3⟩ := hb
  have hq : q < ax_al n := by omega
  refine ax_Mt_start (m := ax_m_0_14) (ls := [some (.ref q), some (.int i)]) rfl ax_b_14_0 (Nat.le_of_ble_eq_true rfl) rfl ?_
  simp only [ax_W_cons, ax_I, ax_cmp, ax_ii, ax_ll, ax_li, ax_st1, ax_st2, ax_kl, ax_k2, ax_fit, ax_rtok, List.getElem?_cons_zero, List.getElem?_cons_succ, List.length_cons, List.length_nil, List.set_cons_zero, List.set_cons_succ, Nat.reduceAdd, Nat.reduceDiv, Nat.reduceMod, Nat.reduceMul, Nat.reduceLT, Nat.reduceLeDiff, Int32.reduceOfInt, Int64.reduceOfInt, true_and, and_true, and_self, true_or, or_true, false_implies, true_implies, not_false_eq_true, not_true_eq_false, Value.category, Nat.reduceEqDiff, Option.toList, List.cons_append, List.nil_append, List.drop_succ_cons, List.drop_zero, ax_t_14, ax_j_14_16, ax_n_14_16, ax_j_14_17, ax_n_14_17, h0, kb_o, hq]
  refine ⟨fun h => ?_, fun h => ?_⟩
  · rw [kx_behind, if_neg (by rw [kx_nlt]; exact h)]
  · rw [kx_nle] at h
    rw [kx_behind, if_pos h]
theorem ck_cellAhead (hb : kb es n q k p t cr sh pl dn) (i : Int32) : ax_Mt d 15 [.ref q, .int i] n sl es (fun r es' => r = some (.int (kx_ahead k i)) ∧ es' = es) := by
  obtain ⟨hn, h0, h1, h2, h3, z1, z2, z3⟩ := hb
  have hq : q < ax_al n := by omega
  refine ax_Mt_start (m := ax_m_0_15) (ls := [some (.ref q), some (.int i)]) rfl ax_b_15_0 (Nat.le_of_ble_eq_true rfl) rfl ?_
  simp only [ax_W_cons, ax_I, ax_cmp, ax_ii, ax_ll, ax_li, ax_st1, ax_st2, ax_kl, ax_k2, ax_fit, ax_rtok, List.getElem?_cons_zero, List.getElem?_cons_succ, List.length_cons, List.length_nil, List.set_cons_zero, List.set_cons_succ, Nat.reduceAdd, Nat.reduceDiv, Nat.reduceMod, Nat.reduceMul, Nat.reduceLT, Nat.reduceLeDiff, Int32.reduceOfInt, Int64.reduceOfInt, true_and, and_true, and_self, true_or, or_true, false_implies, true_implies, not_false_eq_true, not_true_eq_false, Value.category, Nat.reduceEqDiff, Option.toList, List.cons_append, List.nil_append, List.drop_succ_cons, List.drop_zero, ax_t_15, ax_j_15_10, ax_n_15_10, ax_j_15_16, ax_n_15_16, h0, kb_o, hq]
  refine ⟨fun h => ?_, fun h => ?_⟩
  · rw [kx_ahead, if_neg (by rw [kx_nlt]; exact h)]
  · rw [kx_nle] at h
    rw [kx_ahead, if_pos h]
def kx_can (k p : Nat) (cr act a b : Int32) : Bool := if act = 7 ∨ act = 9 then kx_op k cr a else if act = 8 then kx_cell k a else if act = 11 then kx_cell p a && (kx_cell p b && !decide (a = b)) else true
theorem kx_act (act : Int32) : act = 7 ∨ act = 8 ∨ act = 9 ∨ act = 10 ∨ act = 11 ∨ (act.toInt < 7 ∨ 11 < act.toInt) := by
  by_cases h : act.toInt < 7 ∨ 11 < act.toInt
  · exact Or.inr (Or.inr (Or.inr (Or.inr (Or.inr h))))
  · have e : ∀ z : Int32, act.toInt = z.toInt → act = z := fun z hz => Int32.toInt_inj.mp hz
    have h5 : act.toInt = 7 ∨ act.toInt = 8 ∨ act.toInt = 9 ∨ act.toInt = 10 ∨ act.toInt = 11 := by omega
    rcases h5 with h | h | h | h | h
    · exact Or.inl (e 7 (by rw [h]; rfl))
    · exact Or.inr (Or.inl (e 8 (by rw [h]; rfl)))
    · exact Or.inr (Or.inr (Or.inl (e 9 (by rw [h]; rfl))))
    · exact Or.inr (Or.inr (Or.inr (Or.inl (e 10 (by rw [h]; rfl)))))
    · exact Or.inr (Or.inr (Or.inr (Or.inr (Or.inl (e 11 (by rw [h]; rfl))))))
theorem ck_canBe (hd : 3 ≤ d) (hb : kb es n q k p t cr sh pl dn) (act a b : Int32) : ax_Mt d 7 [.ref q, .int act, .int a, .int b] n sl es (fun r es' => r = some (.int (kx_b (kx_can k p cr act a b))) ∧ es' = es) := by
  obtain ⟨d, rfl⟩ : ∃ z, d = z + 1 := ⟨d - 1, by omega⟩
  have hb' := hb
  obtain ⟨hn, h0, h1, h2, h3, z1, z2, z3⟩ := hb'
  have hq : q < ax_al n := by omega
  refine ax_Mt_start (m := ax_m_0_7) (ls := [some (.ref q), some (.int act), some (.int a), some (.int b)]) rfl ax_b_7_0 (Nat.le_of_ble_eq_true rfl) rfl ?_
  simp only [ax_W_cons, ax_I, ax_cmp, ax_ii, ax_ll, ax_li, ax_st1, ax_st2, ax_kl, ax_k2, ax_fit, ax_rtok, List.getElem?_cons_zero, List.getElem?_cons_succ, List.length_cons, List.length_nil, List.set_cons_zero, List.set_cons_succ, Nat.reduceAdd, Nat.reduceDiv, Nat.reduceMod, Nat.reduceMul, Nat.reduceLT, Nat.reduceLeDiff, Int32.reduceOfInt, Int64.reduceOfInt, true_and, and_true, and_self, true_or, or_true, false_implies, true_implies, not_false_eq_true, not_true_eq_false, Value.category, Nat.reduceEqDiff, Option.toList, List.cons_append, List.nil_append, List.drop_succ_cons, List.drop_zero, ax_t_7]
  rcases kx_act act with rfl | rfl | rfl | rfl | rfl | h
  · refine ⟨fun h => absurd h (by decide), fun _ => ?_⟩
    show ax_J ax_W _ _ _ _ 36 _ _ _ _ _ _
    simp only [ax_W_cons, ax_I, ax_cmp, ax_ii, ax_ll, ax_li, ax_st1, ax_st2, ax_kl, ax_k2, ax_fit, ax_rtok, List.getElem?_cons_zero, List.getElem?_cons_succ, List.length_cons, List.length_nil, List.set_cons_zero, List.set_cons_succ, Nat.reduceAdd, Nat.reduceDiv, Nat.reduceMod, Nat.reduceMul, Nat.reduceLT, Nat.reduceLeDiff, Int32.reduceOfInt, Int64.reduceOfInt, true_and, and_true, and_self, true_or, or_true, false_implies, true_implies, not_false_eq_true, not_true_eq_false, Value.category, Nat.reduceEqDiff, Option.toList, List.cons_append, List.nil_append, List.drop_succ_cons, List.drop_zero, ax_t_7, ax_j_7_36, ax_n_7_36]
    refine ax_inv_eq (Nat.le_of_ble_eq_true rfl) (Nat.le_of_ble_eq_true rfl) (fun _ => ax_rcv_ok hq h0) (fun h => absurd h (by decide)) (Nat.le_refl _) (Nat.le_refl _) (ck_isOpen (by omega) hb a) ?_
    simp only [ax_W_cons, ax_I, ax_cmp, ax_ii, ax_ll, ax_li, ax_st1, ax_st2, ax_kl, ax_k2, ax_fit, ax_rtok, List.getElem?_cons_zero, List.getElem?_cons_succ, List.length_cons, List.length_nil, List.set_cons_zero, List.set_cons_succ, Nat.reduceAdd, Nat.reduceDiv, Nat.reduceMod, Nat.reduceMul, Nat.reduceLT, Nat.reduceLeDiff, Int32.reduceOfInt, Int64.reduceOfInt, true_and, and_true, and_self, true_or, or_true, false_implies, true_implies, not_false_eq_true, not_true_eq_false, Value.category, Nat.reduceEqDiff, Option.toList, List.cons_append, List.nil_append, List.drop_succ_cons, List.drop_zero, ax_t_7, kx_b01]
    rfl
  · refine ⟨fun h => absurd h (by decide), fun _ => ?_⟩
    show ax_J ax_W _ _ _ _ 42 _ _ _ _ _ _
    simp only [ax_W_cons, ax_I, ax_cmp, ax_ii, ax_ll, ax_li, ax_st1, ax_st2, ax_kl, ax_k2, ax_fit, ax_rtok, List.getElem?_cons_zero, List.getElem?_cons_succ, List.length_cons, List.length_nil, List.set_cons_zero, List.set_cons_succ, Nat.reduceAdd, Nat.reduceDiv, Nat.reduceMod, Nat.reduceMul, Nat.reduceLT, Nat.reduceLeDiff, Int32.reduceOfInt, Int64.reduceOfInt, true_and, and_true, and_self, true_or, or_true, false_implies, true_implies, not_false_eq_true, not_true_eq_false, Value.category, Nat.reduceEqDiff, Option.toList, List.cons_append, List.nil_append, List.drop_succ_cons, List.drop_zero, ax_t_7, ax_j_7_42, ax_n_7_42]
    refine ax_inv_eq (Nat.le_of_ble_eq_true rfl) (Nat.le_of_ble_eq_true rfl) (fun _ => ax_rcv_ok hq h0) (fun h => absurd h (by decide)) (Nat.le_refl _) (Nat.le_refl _) (ck_isCell (by omega) hb a) ?_
    simp only [ax_W_cons, ax_I, ax_cmp, ax_ii, ax_ll, ax_li, ax_st1, ax_st2, ax_kl, ax_k2, ax_fit, ax_rtok, List.getElem?_cons_zero, List.getElem?_cons_succ, List.length_cons, List.length_nil, List.set_cons_zero, List.set_cons_succ, Nat.reduceAdd, Nat.reduceDiv, Nat.reduceMod, Nat.reduceMul, Nat.reduceLT, Nat.reduceLeDiff, Int32.reduceOfInt, Int64.reduceOfInt, true_and, and_true, and_self, true_or, or_true, false_implies, true_implies, not_false_eq_true, not_true_eq_false, Value.category, Nat.reduceEqDiff, Option.toList, List.cons_append, List.nil_append, List.drop_succ_cons, List.drop_zero, ax_t_7, kx_b01]
    rfl
  · refine ⟨fun h => absurd h (by decide), fun _ => ?_⟩
    show ax_J ax_W _ _ _ _ 36 _ _ _ _ _ _
    simp only [ax_W_cons, ax_I, ax_cmp, ax_ii, ax_ll, ax_li, ax_st1, ax_st2, ax_kl, ax_k2, ax_fit, ax_rtok, List.getElem?_cons_zero, List.getElem?_cons_succ, List.length_cons, List.length_nil, List.set_cons_zero, List.set_cons_succ, Nat.reduceAdd, Nat.reduceDiv, Nat.reduceMod, Nat.reduceMul, Nat.reduceLT, Nat.reduceLeDiff, Int32.reduceOfInt, Int64.reduceOfInt, true_and, and_true, and_self, true_or, or_true, false_implies, true_implies, not_false_eq_true, not_true_eq_false, Value.category, Nat.reduceEqDiff, Option.toList, List.cons_append, List.nil_append, List.drop_succ_cons, List.drop_zero, ax_t_7, ax_j_7_36, ax_n_7_36]
    refine ax_inv_eq (Nat.le_of_ble_eq_true rfl) (Nat.le_of_ble_eq_true rfl) (fun _ => ax_rcv_ok hq h0) (fun h => absurd h (by decide)) (Nat.le_refl _) (Nat.le_refl _) (ck_isOpen (by omega) hb a) ?_
    simp only [ax_W_cons, ax_I, ax_cmp, ax_ii, ax_ll, ax_li, ax_st1, ax_st2, ax_kl, ax_k2, ax_fit, ax_rtok, List.getElem?_cons_zero, List.getElem?_cons_succ, List.length_cons, List.length_nil, List.set_cons_zero, List.set_cons_succ, Nat.reduceAdd, Nat.reduceDiv, Nat.reduceMod, Nat.reduceMul, Nat.reduceLT, Nat.reduceLeDiff, Int32.reduceOfInt, Int64.reduceOfInt, true_and, and_true, and_self, true_or, or_true, false_implies, true_implies, not_false_eq_true, not_true_eq_false, Value.category, Nat.reduceEqDiff, Option.toList, List.cons_append, List.nil_append, List.drop_succ_cons, List.drop_zero, ax_t_7, kx_b01]
    rfl
  · refine ⟨fun h => absurd h (by decide), fun _ => ?_⟩
    show ax_J ax_W _ _ _ _ 75 _ _ _ _ _ _
    simp only [ax_W_cons, ax_I, ax_cmp, ax_ii, ax_ll, ax_li, ax_st1, ax_st2, ax_kl, ax_k2, ax_fit, ax_rtok, List.getElem?_cons_zero, List.getElem?_cons_succ, List.length_cons, List.length_nil, List.set_cons_zero, List.set_cons_succ, Nat.reduceAdd, Nat.reduceDiv, Nat.reduceMod, Nat.reduceMul, Nat.reduceLT, Nat.reduceLeDiff, Int32.reduceOfInt, Int64.reduceOfInt, true_and, and_true, and_self, true_or, or_true, false_implies, true_implies, not_false_eq_true, not_true_eq_false, Value.category, Nat.reduceEqDiff, Option.toList, List.cons_append, List.nil_append, List.drop_succ_cons, List.drop_zero, ax_t_7, ax_j_7_75, ax_n_7_75]
    rfl
  · refine ⟨fun h => absurd h (by decide), fun _ => ?_⟩
    show ax_J ax_W _ _ _ _ 48 _ _ _ _ _ _
    simp only [ax_W_cons, ax_I, ax_cmp, ax_ii, ax_ll, ax_li, ax_st1, ax_st2, ax_kl, ax_k2, ax_fit, ax_rtok, List.getElem?_cons_zero, List.getElem?_cons_succ, List.length_cons, List.length_nil, List.set_cons_zero, List.set_cons_succ, Nat.reduceAdd, Nat.reduceDiv, Nat.reduceMod, Nat.reduceMul, Nat.reduceLT, Nat.reduceLeDiff, Int32.reduceOfInt, Int64.reduceOfInt, true_and, and_true, and_self, true_or, or_true, false_implies, true_implies, not_false_eq_true, not_true_eq_false, Value.category, Nat.reduceEqDiff, Option.toList, List.cons_append, List.nil_append, List.drop_succ_cons, List.drop_zero, ax_t_7, ax_j_7_48, ax_n_7_48]
    refine ax_inv_eq (Nat.le_of_ble_eq_true rfl) (Nat.le_of_ble_eq_true rfl) (fun _ => ax_rcv_ok hq h0) (fun h => absurd h (by decide)) (Nat.le_refl _) (Nat.le_refl _) (ck_isCourtier (by omega) hb a) ?_
    simp only [ax_W_cons, ax_I, ax_cmp, ax_ii, ax_ll, ax_li, ax_st1, ax_st2, ax_kl, ax_k2, ax_fit, ax_rtok, List.getElem?_cons_zero, List.getElem?_cons_succ, List.length_cons, List.length_nil, List.set_cons_zero, List.set_cons_succ, Nat.reduceAdd, Nat.reduceDiv, Nat.reduceMod, Nat.reduceMul, Nat.reduceLT, Nat.reduceLeDiff, Int32.reduceOfInt, Int64.reduceOfInt, true_and, and_true, and_self, true_or, or_true, false_implies, true_implies, not_false_eq_true, not_true_eq_false, Value.category, Nat.reduceEqDiff, Option.toList, List.cons_append, List.nil_append, List.drop_succ_cons, List.drop_zero, ax_t_7, ax_j_7_73, ax_n_7_73, ax_j_7_74, ax_n_7_74, kx_b0]
    refine ⟨fun h => ?_, fun h => ?_⟩
    · simp [kx_can, h, kx_b]
    · refine ax_inv_eq (Nat.le_of_ble_eq_true rfl) (Nat.le_of_ble_eq_true rfl) (fun _ => ax_rcv_ok hq h0) (fun h => absurd h (by decide)) (Nat.le_refl _) (Nat.le_refl _) (ck_isCourtier (by omega) hb b) ?_
      simp only [ax_W_cons, ax_I, ax_cmp, ax_ii, ax_ll, ax_li, ax_st1, ax_st2, ax_kl, ax_k2, ax_fit, ax_rtok, List.getElem?_cons_zero, List.getElem?_cons_succ, List.length_cons, List.length_nil, List.set_cons_zero, List.set_cons_succ, Nat.reduceAdd, Nat.reduceDiv, Nat.reduceMod, Nat.reduceMul, Nat.reduceLT, Nat.reduceLeDiff, Int32.reduceOfInt, Int64.reduceOfInt, true_and, and_true, and_self, true_or, or_true, false_implies, true_implies, not_false_eq_true, not_true_eq_false, Value.category, Nat.reduceEqDiff, Option.toList, List.cons_append, List.nil_append, List.drop_succ_cons, List.drop_zero, ax_t_7, ax_j_7_73, ax_n_7_73, ax_j_7_74, ax_n_7_74, kx_b0]
      refine ⟨fun h2 => ?_, fun h2 => ⟨fun h3 => ?_, fun h3 => ?_⟩⟩
      · simp [kx_can, h2, kx_b]
      · simp [kx_can, h3, kx_b]
      · simp at h h2
        simp [kx_can, h, h2, h3, kx_b]
  · refine ⟨fun _ => ?_, fun h2 => absurd h h2⟩
    simp only [ax_W_cons, ax_I, ax_cmp, ax_ii, ax_ll, ax_li, ax_st1, ax_st2, ax_kl, ax_k2, ax_fit, ax_rtok, List.getElem?_cons_zero, List.getElem?_cons_succ, List.length_cons, List.length_nil, List.set_cons_zero, List.set_cons_succ, Nat.reduceAdd, Nat.reduceDiv, Nat.reduceMod, Nat.reduceMul, Nat.reduceLT, Nat.reduceLeDiff, Int32.reduceOfInt, Int64.reduceOfInt, true_and, and_true, and_self, true_or, or_true, false_implies, true_implies, not_false_eq_true, not_true_eq_false, Value.category, Nat.reduceEqDiff, Option.toList, List.cons_append, List.nil_append, List.drop_succ_cons, List.drop_zero, ax_t_7, ax_j_7_75, ax_n_7_75]
    have e : ∀ z : Int32, (7 ≤ z.toInt ∧ z.toInt ≤ 11) → ¬ act = z := fun z hz he => by rw [he] at h; omega
    simp [kx_can, e 7 (by decide), e 8 (by decide), e 9 (by decide), e 11 (by decide), kx_b]
end KB
