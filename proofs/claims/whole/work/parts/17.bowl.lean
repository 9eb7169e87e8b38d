/-! Bowl: a bowl at the place q: its object, its shakes, places, done -/
def kb_o (k p : Nat) (t cr : Int32) (q : Nat) : ax_E := .inr (0, [.int (nI k), .int (nI p), .int t, .int cr, .ref (q + 1), .ref (q + 2), .ref (q + 3)])
def kb_a (N : Nat) (f : Nat → Int32) : ax_E := .inl (0, N, .inl f)
/-- nothing behind the end -/
def kz (N : Nat) (f : Nat → Int32) : Prop := ∀ j, N ≤ j → f j = 0
theorem kz_upd {N i : Nat} {f : Nat → Int32} {x : Int32} (h : kz N f) (hi : i < N) : kz N (upd f i x) := fun j hj => by
  unfold upd
  rw [if_neg (by omega)]
  exact h j hj
theorem kz_cpy {N : Nat} {f g : Nat → Int32} (hf : kz N f) (hg : kz N g) : va_cpy f g 0 0 N = f := by
  funext j
  unfold va_cpy
  by_cases hj : j < N
  · rw [if_pos ⟨Nat.zero_le _, by omega⟩]
    congr 1
    omega
  · rw [if_neg (by omega), hf j (by omega), hg j (by omega)]
theorem kz_fill {N : Nat} {f : Nat → Int32} (hf : kz N f) : (fun j => if j < N then 0 else f j) = fun _ => (0 : Int32) := by
  funext j
  split
  · rfl
  · exact hf j (by omega)
theorem kz_0 (N : Nat) : kz N fun _ => 0 := fun _ _ => rfl
def kb (es : ax_H) (n q : Nat) (k p : Nat) (t cr : Int32) (sh pl dn : Nat → Int32) : Prop := q + 3 < ax_al n ∧ es q = kb_o k p t cr q ∧ es (q + 1) = kb_a 12 sh ∧ es (q + 2) = kb_a 6 pl ∧ es (q + 3) = kb_a 6 dn ∧ kz 12 sh ∧ kz 6 pl ∧ kz 6 dn
/-- a bowl written at q -/
def kw (es : ax_H) (q : Nat) (k p : Nat) (t cr : Int32) (sh pl dn : Nat → Int32) : ax_H := fun j => if j = q then kb_o k p t cr q else if j = q + 1 then kb_a 12 sh else if j = q + 2 then kb_a 6 pl else if j = q + 3 then kb_a 6 dn else es j
theorem kw_0 (es : ax_H) (q k p : Nat) (t cr : Int32) (sh pl dn : Nat → Int32) : kw es q k p t cr sh pl dn q = kb_o k p t cr q := by simp [kw]
theorem kw_1 (es : ax_H) (q k p : Nat) (t cr : Int32) (sh pl dn : Nat → Int32) : kw es q k p t cr sh pl dn (q + 1) = kb_a 12 sh := by simp [kw]
theorem kw_2 (es : ax_H) (q k p : Nat) (t cr : Int32) (sh pl dn : Nat → Int32) : kw es q k p t cr sh pl dn (q + 2) = kb_a 6 pl := by simp [kw]
theorem kw_3 (es : ax_H) (q k p : Nat) (t cr : Int32) (sh pl dn : Nat → Int32) : kw es q k p t cr sh pl dn (q + 3) = kb_a 6 dn := by simp [kw]
theorem kw_ne (es : ax_H) {q j : Nat} (k p : Nat) (t cr : Int32) (sh pl dn : Nat → Int32) (h : j < q ∨ q + 3 < j) : kw es q k p t cr sh pl dn j = es j := by
  unfold kw
  rw [if_neg (by omega), if_neg (by omega), if_neg (by omega), if_neg (by omega)]
theorem kw_kw (es : ax_H) (q k p : Nat) (t cr : Int32) (sh pl dn : Nat → Int32) (k' p' : Nat) (t' cr' : Int32) (sh' pl' dn' : Nat → Int32) : kw (kw es q k p t cr sh pl dn) q k' p' t' cr' sh' pl' dn' = kw es q k' p' t' cr' sh' pl' dn' := by
  funext j
  unfold kw
  repeat' split
  all_goals rfl
theorem kw_kb {es : ax_H} {n q k p : Nat} {t cr : Int32} {sh pl dn : Nat → Int32} (h : q + 3 < ax_al n) (z1 : kz 12 sh) (z2 : kz 6 pl) (z3 : kz 6 dn) : kb (kw es q k p t cr sh pl dn) n q k p t cr sh pl dn := ⟨h, kw_0 .., kw_1 .., kw_2 .., kw_3 .., z1, z2, z3⟩
theorem kb_kw {es : ax_H} {n q k p : Nat} {t cr : Int32} {sh pl dn : Nat → Int32} (h : kb es n q k p t cr sh pl dn) : kw es q k p t cr sh pl dn = es := by
  obtain ⟨-, h0, h1, h2, h3, -⟩ := h
  funext j
  unfold kw
  repeat' split
  all_goals first | rfl | (next h => rw [h]; first | exact h0.symm | exact h1.symm | exact h2.symm | exact h3.symm)
theorem kb_up0 {es : ax_H} {n q k p : Nat} {t cr : Int32} {sh pl dn : Nat → Int32} (h : kb es n q k p t cr sh pl dn) (k' p' : Nat) (t' cr' : Int32) : ax_up es q (kb_o k' p' t' cr' q) = kw es q k' p' t' cr' sh pl dn := by
  obtain ⟨-, h0, h1, h2, h3, -⟩ := h
  funext j
  unfold kw ax_up
  repeat' split
  all_goals first | rfl | (exfalso; omega) | (next h => rw [h]; first | exact h1 | exact h2 | exact h3) | skip
  all_goals (subst_vars; first | exact h1 | exact h2 | exact h3)
theorem kb_up1 {es : ax_H} {n q k p : Nat} {t cr : Int32} {sh pl dn : Nat → Int32} (h : kb es n q k p t cr sh pl dn) (f : Nat → Int32) : ax_up es (q + 1) (kb_a 12 f) = kw es q k p t cr f pl dn := by
  obtain ⟨-, h0, h1, h2, h3, -⟩ := h
  funext j
  unfold kw ax_up
  repeat' split
  all_goals first | rfl | (exfalso; omega) | skip
  all_goals (subst_vars; first | exact h0 | exact h2 | exact h3)
theorem kb_up2 {es : ax_H} {n q k p : Nat} {t cr : Int32} {sh pl dn : Nat → Int32} (h : kb es n q k p t cr sh pl dn) (f : Nat → Int32) : ax_up es (q + 2) (kb_a 6 f) = kw es q k p t cr sh f dn := by
  obtain ⟨-, h0, h1, h2, h3, -⟩ := h
  funext j
  unfold kw ax_up
  repeat' split
  all_goals first | rfl | (exfalso; omega) | skip
  all_goals (subst_vars; first | exact h0 | exact h1 | exact h3)
theorem kb_up3 {es : ax_H} {n q k p : Nat} {t cr : Int32} {sh pl dn : Nat → Int32} (h : kb es n q k p t cr sh pl dn) (f : Nat → Int32) : ax_up es (q + 3) (kb_a 6 f) = kw es q k p t cr sh pl f := by
  obtain ⟨-, h0, h1, h2, h3, -⟩ := h
  funext j
  unfold kw ax_up
  repeat' split
  all_goals first | rfl | (exfalso; omega) | skip
  all_goals (subst_vars; first | exact h0 | exact h1 | exact h2)
def kx_ck (cr i : Int32) : Bool := decide (¬ (cr &&& (1 <<< (i &&& 31))) = 0)
def kx_cell (k : Nat) (i : Int32) : Bool := kx_in i 0 (nI k - 1)
def kx_op (k : Nat) (cr i : Int32) : Bool := kx_cell k i && !kx_ck cr i
section KB
variable {d n sl q k p : Nat} {es : ax_H} {t cr : Int32} {sh pl dn : Nat → Int32}
theorem ck_isCell (hd : 1 ≤ d) (hb : kb es n q k p t cr sh pl dn) (i : Int32) : ax_Mt d 3 [.ref q, .int i] n sl es (fun r es' => r = some (.int (kx_b (kx_cell k i))) ∧ es' = es) := by
  obtain ⟨d, rfl⟩ : ∃ z, d = z + 1 := ⟨d - 1, by omega⟩
  obtain ⟨hn, h0, h1, h2, h3, z1, z2, z3⟩ := hb
  have hq : q < ax_al n := by omega
  refine ax_Mt_start (m := ax_m_0_3) (ls := [some (.ref q), some (.int i)]) rfl ax_b_3_0 (Nat.le_of_ble_eq_true rfl) rfl ?_
  simp only [ax_W_cons, ax_I, ax_cmp, ax_ii, ax_ll, ax_li, ax_st1, ax_st2, ax_kl, ax_k2, ax_fit, ax_rtok, List.getElem?_cons_zero, List.getElem?_cons_succ, List.length_cons, List.length_nil, List.set_cons_zero, List.set_cons_succ, Nat.reduceAdd, Nat.reduceDiv, Nat.reduceMod, Nat.reduceMul, Nat.reduceLT, Nat.reduceLeDiff, Int32.reduceOfInt, Int64.reduceOfInt, true_and, and_true, and_self, true_or, or_true, false_implies, true_implies, not_false_eq_true, not_true_eq_false, Value.category, Nat.reduceEqDiff, Option.toList, List.cons_append, List.nil_append, List.drop_succ_cons, List.drop_zero, ax_t_3, h0, kb_o, hq]
  refine ax_inv_eq (Nat.le_of_ble_eq_true rfl) (Nat.le_of_ble_eq_true rfl) (fun _ => absurd ‹_› (by decide)) (fun h => absurd h (by decide)) (Nat.le_refl _) (Nat.le_refl _) (ck_isWithin d n sl es i 0 (nI k - 1)) ?_
  simp only [ax_W_cons, ax_I, ax_cmp, ax_ii, ax_ll, ax_li, ax_st1, ax_st2, ax_kl, ax_k2, ax_fit, ax_rtok, List.getElem?_cons_zero, List.getElem?_cons_succ, List.length_cons, List.length_nil, List.set_cons_zero, List.set_cons_succ, Nat.reduceAdd, Nat.reduceDiv, Nat.reduceMod, Nat.reduceMul, Nat.reduceLT, Nat.reduceLeDiff, Int32.reduceOfInt, Int64.reduceOfInt, true_and, and_true, and_self, true_or, or_true, false_implies, true_implies, not_false_eq_true, not_true_eq_false, Value.category, Nat.reduceEqDiff, Option.toList, List.cons_append, List.nil_append, List.drop_succ_cons, List.drop_zero, ax_t_3, kx_b01]
  rfl
theorem ck_isCourtier (hd : 1 ≤ d) (hb : kb es n q k p t cr sh pl dn) (i : Int32) : ax_Mt d 6 [.ref q, .int i] n sl es (fun r es' => r = some (.int (kx_b (kx_cell p i))) ∧ es' = es) := by
  obtain ⟨d, rfl⟩ : ∃ z, d = z + 1 := ⟨d - 1, by omega⟩
  obtain ⟨hn, h0, h1, h2, h3, z1, z2, z3⟩ := hb
  have hq : q < ax_al n := by omega
  refine ax_Mt_start (m := ax_m_0_6) (ls := [some (.ref q), some (.int i)]) rfl ax_b_6_0 (Nat.le_of_ble_eq_true rfl) rfl ?_
  simp only [ax_W_cons, ax_I, ax_cmp, ax_ii, ax_ll, ax_li, ax_st1, ax_st2, ax_kl, ax_k2, ax_fit, ax_rtok, List.getElem?_cons_zero, List.getElem?_cons_succ, List.length_cons, List.length_nil, List.set_cons_zero, List.set_cons_succ, Nat.reduceAdd, Nat.reduceDiv, Nat.reduceMod, Nat.reduceMul, Nat.reduceLT, Nat.reduceLeDiff, Int32.reduceOfInt, Int64.reduceOfInt, true_and, and_true, and_self, true_or, or_true, false_implies, true_implies, not_false_eq_true, not_true_eq_false, Value.category, Nat.reduceEqDiff, Option.toList, List.cons_append, List.nil_append, List.drop_succ_cons, List.drop_zero, ax_t_6, h0, kb_o, hq]
  refine ax_inv_eq (Nat.le_of_ble_eq_true rfl) (Nat.le_of_ble_eq_true rfl) (fun _ => absurd ‹_› (by decide)) (fun h => absurd h (by decide)) (Nat.le_refl _) (Nat.le_refl _) (ck_isWithin d n sl es i 0 (nI p - 1)) ?_
  simp only [ax_W_cons, ax_I, ax_cmp, ax_ii, ax_ll, ax_li, ax_st1, ax_st2, ax_kl, ax_k2, ax_fit, ax_rtok, List.getElem?_cons_zero, List.getElem?_cons_succ, List.length_cons, List.length_nil, List.set_cons_zero, List.set_cons_succ, Nat.reduceAdd, Nat.reduceDiv, Nat.reduceMod, Nat.reduceMul, Nat.reduceLT, Nat.reduceLeDiff, Int32.reduceOfInt, Int64.reduceOfInt, true_and, and_true, and_self, true_or, or_true, false_implies, true_implies, not_false_eq_true, not_true_eq_false, Value.category, Nat.reduceEqDiff, Option.toList, List.cons_append, List.nil_append, List.drop_succ_cons, List.drop_zero, ax_t_6, kx_b01]
  rfl
theorem ck_isCracked (hb : kb es n q k p t cr sh pl dn) (i : Int32) : ax_Mt d 4 [.ref q, .int i] n sl es (fun r es' => r = some (.int (kx_b (kx_ck cr i))) ∧ es' = es) := by
  obtain ⟨hn, h0, h1, h2, h3, z1, z2, z3⟩ := hb
  have hq : q < ax_al n := by omega
  refine ax_Mt_start (m := ax_m_0_4) (ls := [some (.ref q), some (.int i)]) rfl ax_b_4_0 (Nat.le_of_ble_eq_true rfl) rfl ?_
  simp only [ax_W_cons, ax_I, ax_cmp, ax_ii, ax_ll, ax_li, ax_st1, ax_st2, ax_kl, ax_k2, ax_fit, ax_rtok, List.getElem?_cons_zero, List.getElem?_cons_succ, List.length_cons, List.length_nil, List.set_cons_zero, List.set_cons_succ, Nat.reduceAdd, Nat.reduceDiv, Nat.reduceMod, Nat.reduceMul, Nat.reduceLT, Nat.reduceLeDiff, Int32.reduceOfInt, Int64.reduceOfInt, true_and, and_true, and_self, true_or, or_true, false_implies, true_implies, not_false_eq_true, not_true_eq_false, Value.category, Nat.reduceEqDiff, Option.toList, List.cons_append, List.nil_append, List.drop_succ_cons, List.drop_zero, ax_t_4, ax_j_4_15, ax_n_4_15, ax_j_4_16, ax_n_4_16, h0, kb_o, hq]
  constructor <;> intro h <;> simp [h, kx_ck, kx_b]
theorem ck_isOpen (hd : 2 ≤ d) (hb : kb es n q k p t cr sh pl dn) (i : Int32) : ax_Mt d 5 [.ref q, .int i] n sl es (fun r es' => r = some (.int (kx_b (kx_op k cr i))) ∧ es' = es) := by
  obtain ⟨d, rfl⟩ : ∃ z, d = z + 1 := ⟨d - 1, by omega⟩
  have hb' := hb
  obtain ⟨hn, h0, h1, h2, h3, z1, z2, z3⟩ := hb'
  have hq : q < ax_al n := by omega
  refine ax_Mt_start (m := ax_m_0_5) (ls := [some (.ref q), some (.int i)]) rfl ax_b_5_0 (Nat.le_of_ble_eq_true rfl) rfl ?_
  simp only [ax_W_cons, ax_I, ax_cmp, ax_ii, ax_ll, ax_li, ax_st1, ax_st2, ax_kl, ax_k2, ax_fit, ax_rtok, List.getElem?_cons_zero, List.getElem?_cons_succ, List.length_cons, List.length_nil, List.set_cons_zero, List.set_cons_succ, Nat.reduceAdd, Nat.reduceDiv, Nat.reduceMod, Nat.reduceMul, Nat.reduceLT, Nat.reduceLeDiff, Int32.reduceOfInt, Int64.reduceOfInt, true_and, and_true, and_self, true_or, or_true, false_implies, true_implies, not_false_eq_true, not_true_eq_false, Value.category, Nat.reduceEqDiff, Option.toList, List.cons_append, List.nil_append, List.drop_succ_cons, List.drop_zero, ax_t_5]
  refine ax_inv_eq (Nat.le_of_ble_eq_true rfl) (Nat.le_of_ble_eq_true rfl) (fun _ => ax_rcv_ok hq h0) (fun h => absurd h (by decide)) (Nat.le_refl _) (Nat.le_refl _) (ck_isCell (by omega) hb i) ?_
  simp only [ax_W_cons, ax_I, ax_cmp, ax_ii, ax_ll, ax_li, ax_st1, ax_st2, ax_kl, ax_k2, ax_fit, ax_rtok, List.getElem?_cons_zero, List.getElem?_cons_succ, List.length_cons, List.length_nil, List.set_cons_zero, List.set_cons_succ, Nat.reduceAdd, Nat.reduceDiv, Nat.reduceMod, Nat.reduceMul, Nat.reduceLT, Nat.reduceLeDiff, Int32.reduceOfInt, Int64.reduceOfInt, true_and, and_true, and_self, true_or, or_true, false_implies, true_implies, not_false_eq_true, not_true_eq_false, Value.category, Nat.reduceEqDiff, Option.toList, List.cons_append, List.nil_append, List.drop_succ_cons, List.drop_zero, ax_t_5, ax_j_5_20, ax_n_5_20, ax_j_5_21, ax_n_5_21, kx_b0]
  refine ⟨fun h => ?_, fun h => ?_⟩
  · simp [kx_op, h, kx_b]
  · refine ax_inv_eq (Nat.le_of_ble_eq_true rfl) (Nat.le_of_ble_eq_true rfl) (fun _ => ax_rcv_ok hq h0) (fun h => absurd h (by decide)) (Nat.le_refl _) (Nat.le_refl _) (ck_isCracked hb i) ?_
    simp only [ax_W_cons, ax_I, ax_cmp, ax_ii, ax_ll, ax_li, ax_st1, ax_st2, ax_kl, ax_k2, ax_fit, ax_rtok, List.getElem?_cons_zero, List.getElem?_cons_succ, List.length_cons, List.length_nil, List.set_cons_zero, List.set_cons_succ, Nat.reduceAdd, Nat.reduceDiv, Nat.reduceMod, Nat.reduceMul, Nat.reduceLT, Nat.reduceLeDiff, Int32.reduceOfInt, Int64.reduceOfInt, true_and, and_true, and_self, true_or, or_true, false_implies, true_implies, not_false_eq_true, not_true_eq_false, Value.category, Nat.reduceEqDiff, Option.toList, List.cons_append, List.nil_append, List.drop_succ_cons, List.drop_zero, ax_t_5, ax_j_5_20, ax_n_5_20, ax_j_5_21, ax_n_5_21, kx_b0]
    refine ⟨fun h2 => ?_, fun h2 => ?_⟩
    · simp at h2
      simp [kx_op, h2, kx_b]
    · simp at h h2
      simp [kx_op, h, h2, kx_b]
end KB
