/-! what the constructors make: tokens, reader, past, play, seer -/
theorem kb_n {es : ax_H} {n n' q k p : Nat} {t cr : Int32} {sh pl dn : Nat → Int32} (h : kb es n q k p t cr sh pl dn) (h2 : q + 3 < ax_al n') : kb es n' q k p t cr sh pl dn := ⟨h2, h.2⟩
theorem kf_n {es : ax_H} {n n' q : Nat} {f : zF} (h : kfF es n q f) (h2 : q + 3 < ax_al n') : kfF es n' q f := ⟨h2, h.2⟩
def kb0 (es : ax_H) (q : Nat) : Prop := kb es 178 q 0 0 0 0 (fun _ => 0) (fun _ => 0) (fun _ => 0)
def kf0 (es : ax_H) (q : Nat) : Prop := kfF es 178 q (0, fun _ => 0, fun _ => 0, fun _ => 0)
theorem kb0_fr {es es' : ax_H} {q : Nat} (h : kb0 es q) (hf : ∀ j, q ≤ j → j ≤ q + 3 → es' j = es j) : kb0 es' q := by
  obtain ⟨h0, h1, h2, h3, h4, h5⟩ := h
  exact ⟨h0, (hf _ (by omega) (by omega)).trans h1, (hf _ (by omega) (by omega)).trans h2, (hf _ (by omega) (by omega)).trans h3, (hf _ (by omega) (by omega)).trans h4, h5⟩
theorem kf0_fr {es es' : ax_H} {q : Nat} (h : kf0 es q) (hf : ∀ j, q ≤ j → j ≤ q + 3 → es' j = es j) : kf0 es' q := by
  obtain ⟨h0, h1, h2, h3, h4, h5⟩ := h
  exact ⟨h0, (hf _ (by omega) (by omega)).trans h1, (hf _ (by omega) (by omega)).trans h2, (hf _ (by omega) (by omega)).trans h3, (hf _ (by omega) (by omega)).trans h4, h5⟩
section CC
variable {d : Nat} {es : ax_H} {Q : ax_H → Prop}
theorem cn_tokens (he : es 1 = .inr (9, ax_df 9)) (hQ : ∀ es', es' 1 = .inr (9, [.ref 2, .int 0, .int 0, .int 0, .long 0, .int 0, .int 0, .int 0, .int 0]) → es' 2 = .inl (1, 1000, .inl fun _ => 0) → (∀ j, (j < 1 ∨ 2 < j) → es' j = es j) → Q es') : ax_Mc (d + 1) 1152 [.ref 1] 2 18 3 1018 es Q := by
  have h1 : 1 ≤ d + 1 := by omega
  have df : ax_df 9 = [.null, .int 0, .int 0, .int 0, .long 0, .int 0, .int 0, .int 0, .int 0] := rfl
  rw [df] at he
  have z1000 : (1000 : Int32).toNatClampNeg = 1000 := rfl
  have y1000 : ¬ (1000 : Int32) < 0 := by decide
  have t0 : ax_atag .int = 0 := rfl
  have t1 : ax_atag .byte = 1 := rfl
  have t2 : ax_atag .boolean = 2 := rfl
  have t3 : ax_atag .long = 3 := rfl
  have tc : ax_acon .int = .inl fun _ => 0 := rfl
  have tb : ax_acon .byte = .inl fun _ => 0 := rfl
  have tz : ax_acon .boolean = .inl fun _ => 0 := rfl
  have tl : ax_acon .long = .inr (.inl fun _ => 0) := rfl
  have nf : ax_NF = 178 := rfl
  refine ax_Mc_go (m := ax_m_9_0) (ls := [some (.ref 1)]) rfl ax_b_1152_0 (Nat.le_of_ble_eq_true rfl) rfl ?_
  simp only [ax_W_cons, ax_I, ax_cmp, ax_ii, ax_ll, ax_li, ax_st1, ax_st2, ax_kl, ax_k2, ax_fit, ax_rtok, List.getElem?_cons_zero, List.getElem?_cons_succ, List.length_cons, List.length_nil, List.set_cons_zero, List.set_cons_succ, Nat.reduceAdd, Nat.reduceDiv, Nat.reduceMod, Nat.reduceMul, Nat.reduceLT, Nat.reduceLeDiff, Int32.reduceOfInt, Int64.reduceOfInt, true_and, and_true, and_self, true_or, or_true, false_implies, true_implies, not_false_eq_true, not_true_eq_false, Value.category, Nat.reduceEqDiff, Option.toList, List.cons_append, List.nil_append, List.drop_succ_cons, List.drop_zero, ax_qq_eq, ax_t_1152, he, ax_bi, h1, kx_cat0, z1000, y1000, t0, t1, t2, t3, tc, tb, tz, tl, nf, alk, ax_up_same, ax_up_ne, ne_eq, Nat.reduceEqDiff, not_false_eq_true]
  exact hQ _ (ax_up_same ..) (by rw [ax_up_ne _ _ (by decide)]; exact ax_up_same ..) (fun j hj => by rw [ax_up_ne _ _ (by omega), ax_up_ne _ _ (by omega)])
theorem cn_play (he : es 146 = .inr (5, ax_df 5)) (hQ : ∀ es', es' 146 = .inr (5, [.ref 3, .ref 147, .ref 148]) → es' 147 = .inl (0, 12, .inl fun _ => 0) → es' 148 = .inl (0, 1600, .inl fun _ => 0) → (∀ j, (j < 146 ∨ 148 < j) → es' j = es j) → Q es') : ax_Mc (d + 1) 640 [.ref 146, .ref 3] 147 4356 149 5968 es Q := by
  have h1 : 1 ≤ d + 1 := by omega
  have df : ax_df 5 = [.null, .null, .null] := rfl
  rw [df] at he
  have z12 : (12 : Int32).toNatClampNeg = 12 := rfl
  have y12 : ¬ (12 : Int32) < 0 := by decide
  have z1600 : (1600 : Int32).toNatClampNeg = 1600 := rfl
  have y1600 : ¬ (1600 : Int32) < 0 := by decide
  have t0 : ax_atag .int = 0 := rfl
  have t1 : ax_atag .byte = 1 := rfl
  have t2 : ax_atag .boolean = 2 := rfl
  have t3 : ax_atag .long = 3 := rfl
  have tc : ax_acon .int = .inl fun _ => 0 := rfl
  have tb : ax_acon .byte = .inl fun _ => 0 := rfl
  have tz : ax_acon .boolean = .inl fun _ => 0 := rfl
  have tl : ax_acon .long = .inr (.inl fun _ => 0) := rfl
  have nf : ax_NF = 178 := rfl
  refine ax_Mc_go (m := ax_m_5_0) (ls := [some (.ref 146), some (.ref 3)]) rfl ax_b_640_0 (Nat.le_of_ble_eq_true rfl) rfl ?_
  simp only [ax_W_cons, ax_I, ax_cmp, ax_ii, ax_ll, ax_li, ax_st1, ax_st2, ax_kl, ax_k2, ax_fit, ax_rtok, List.getElem?_cons_zero, List.getElem?_cons_succ, List.length_cons, List.length_nil, List.set_cons_zero, List.set_cons_succ, Nat.reduceAdd, Nat.reduceDiv, Nat.reduceMod, Nat.reduceMul, Nat.reduceLT, Nat.reduceLeDiff, Int32.reduceOfInt, Int64.reduceOfInt, true_and, and_true, and_self, true_or, or_true, false_implies, true_implies, not_false_eq_true, not_true_eq_false, Value.category, Nat.reduceEqDiff, Option.toList, List.cons_append, List.nil_append, List.drop_succ_cons, List.drop_zero, ax_qq_eq, ax_t_640, he, ax_bi, h1, kx_cat0, z12, y12, z1600, y1600, t0, t1, t2, t3, tc, tb, tz, tl, nf, alk, ax_up_same, ax_up_ne, ne_eq, Nat.reduceEqDiff, not_false_eq_true]
  exact hQ _ (ax_up_same ..) (by simp only [ax_up_same, ax_up_ne, ne_eq, Nat.reduceEqDiff, not_false_eq_true]) (by simp only [ax_up_same, ax_up_ne, ne_eq, Nat.reduceEqDiff, not_false_eq_true]) (fun j hj => by repeat rw [ax_up_ne _ _ (by omega)])
theorem cn_reader (he : es 20 = .inr (6, ax_df 6)) (hQ : ∀ es', es' 20 = .inr (6, [.ref 1, .ref 3, .ref 21, .ref 34, .ref 28, .int 0]) → cCt21 es' → (es' 34 = .inr (7, [.int 0, .ref 35, .ref 36, .ref 37]) ∧ es' 35 = .inl (0, 40, .inl fun _ => 0) ∧ es' 36 = .inl (0, 40, .inl fun _ => 0) ∧ es' 37 = .inl (0, 40, .inl fun _ => 0)) → (∀ j, (j < 20 ∨ 37 < j) → es' j = es j) → Q es') : ax_Mc (d + 4) 768 [.ref 20, .ref 1, .ref 3] 21 2278 38 3532 es Q := by
  have h1 : 1 ≤ d + 4 := by omega
  have df : ax_df 6 = [.null, .null, .null, .null, .null, .int 0] := rfl
  rw [df] at he
  have t0 : ax_atag .int = 0 := rfl
  have t1 : ax_atag .byte = 1 := rfl
  have t2 : ax_atag .boolean = 2 := rfl
  have t3 : ax_atag .long = 3 := rfl
  have tc : ax_acon .int = .inl fun _ => 0 := rfl
  have tb : ax_acon .byte = .inl fun _ => 0 := rfl
  have tz : ax_acon .boolean = .inl fun _ => 0 := rfl
  have tl : ax_acon .long = .inr (.inl fun _ => 0) := rfl
  have nf : ax_NF = 178 := rfl
  have N1 : ax_N 1 = 12 := rfl
  have N7 : ax_N 7 = 4 := rfl
  refine ax_Mc_go (m := ax_m_6_0) (ls := [some (.ref 20), some (.ref 1), some (.ref 3)]) rfl ax_b_768_0 (Nat.le_of_ble_eq_true rfl) rfl ?_
  simp only [ax_W_cons, ax_I, ax_cmp, ax_ii, ax_ll, ax_li, ax_st1, ax_st2, ax_kl, ax_k2, ax_fit, ax_rtok, List.getElem?_cons_zero, List.getElem?_cons_succ, List.length_cons, List.length_nil, List.set_cons_zero, List.set_cons_succ, Nat.reduceAdd, Nat.reduceDiv, Nat.reduceMod, Nat.reduceMul, Nat.reduceLT, Nat.reduceLeDiff, Int32.reduceOfInt, Int64.reduceOfInt, true_and, and_true, and_self, true_or, or_true, false_implies, true_implies, not_false_eq_true, not_true_eq_false, Value.category, Nat.reduceEqDiff, Option.toList, List.cons_append, List.nil_append, List.drop_succ_cons, List.drop_zero, ax_qq_eq, ax_t_768, he, ax_bi, h1, kx_cat0, t0, t1, t2, t3, tc, tb, tz, tl, nf, N1, N7, alk, ax_up_same, ax_up_ne, ne_eq, Nat.reduceEqDiff, not_false_eq_true]
  refine ax_inv_c (n' := 34) (sl' := 3408) (Nat.le_of_ble_eq_true rfl) (Nat.le_of_ble_eq_true rfl) rfl trivial (by decide) (by decide) (by decide) (by decide) (cn_court21 (d := d + 1) (ax_up_same ..) ?_)
  intro es1 C1 f1
  have g1 : ∀ j, (j < 21 ∨ 33 < j) → es1 j = es j := fun j hj => by rw [f1 j hj, ax_up_ne _ _ (by omega)]
  have v0 := (g1 20 (by decide)).trans he
  simp only [ax_W_cons, ax_I, ax_cmp, ax_ii, ax_ll, ax_li, ax_st1, ax_st2, ax_kl, ax_k2, ax_fit, ax_rtok, List.getElem?_cons_zero, List.getElem?_cons_succ, List.length_cons, List.length_nil, List.set_cons_zero, List.set_cons_succ, Nat.reduceAdd, Nat.reduceDiv, Nat.reduceMod, Nat.reduceMul, Nat.reduceLT, Nat.reduceLeDiff, Int32.reduceOfInt, Int64.reduceOfInt, true_and, and_true, and_self, true_or, or_true, false_implies, true_implies, not_false_eq_true, not_true_eq_false, Value.category, Nat.reduceEqDiff, Option.toList, List.cons_append, List.nil_append, List.drop_succ_cons, List.drop_zero, ax_qq_eq, ax_t_768, v0, t0, t1, t2, t3, tc, tb, tz, tl, nf, N1, N7, alk, ax_up_same, ax_up_ne, ne_eq, Nat.reduceEqDiff, not_false_eq_true]
  refine ax_inv_c (n' := 38) (sl' := 3532) (Nat.le_of_ble_eq_true rfl) (Nat.le_of_ble_eq_true rfl) rfl trivial (by decide) (by decide) (by decide) (by decide) (cn_reign (d := d + 2) (q := 34) (by decide) (ax_up_same ..) ?_)
  rintro es2 ⟨k1, k2, k3, k4⟩ f2
  have g2 : ∀ j, j ≠ 20 → (j < 34 ∨ 37 < j) → es2 j = es1 j := fun j a b => by rw [f2 j b, ax_up_ne _ _ (by omega), ax_up_ne _ _ a]
  have u0 : es2 20 = .inr (6, [.null, .null, .ref 21, .null, .null, .int 0]) := by rw [f2 20 (by decide), ax_up_ne _ _ (by decide), ax_up_same]
  have u1 := (g2 21 (by decide) (by decide)).trans C1.1
  simp only [ax_W_cons, ax_I, ax_cmp, ax_ii, ax_ll, ax_li, ax_st1, ax_st2, ax_kl, ax_k2, ax_fit, ax_rtok, List.getElem?_cons_zero, List.getElem?_cons_succ, List.length_cons, List.length_nil, List.set_cons_zero, List.set_cons_succ, Nat.reduceAdd, Nat.reduceDiv, Nat.reduceMod, Nat.reduceMul, Nat.reduceLT, Nat.reduceLeDiff, Int32.reduceOfInt, Int64.reduceOfInt, true_and, and_true, and_self, true_or, or_true, false_implies, true_implies, not_false_eq_true, not_true_eq_false, Value.category, Nat.reduceEqDiff, Option.toList, List.cons_append, List.nil_append, List.drop_succ_cons, List.drop_zero, ax_qq_eq, ax_t_768, u0, u1, t0, t1, t2, t3, tc, tb, tz, tl, nf, alk, ax_up_same, ax_up_ne, ne_eq, Nat.reduceEqDiff, not_false_eq_true]
  have e5 : ∀ e1 e2 e3 e4 j, j ≠ 20 → ax_up (ax_up (ax_up (ax_up es2 20 e1) 20 e2) 20 e3) 20 e4 j = es2 j := fun e1 e2 e3 e4 j hj => by rw [ax_up_ne _ _ hj, ax_up_ne _ _ hj, ax_up_ne _ _ hj, ax_up_ne _ _ hj]
  obtain ⟨c0, c1, c2, c3, c4, c5, c6, c7, c8, c9, c10, c11, c12⟩ := C1
  exact hQ _ (ax_up_same ..) ⟨(e5 _ _ _ _ 21 (by decide)).trans ((g2 21 (by decide) (by decide)).trans c0), (e5 _ _ _ _ 22 (by decide)).trans ((g2 22 (by decide) (by decide)).trans c1), (e5 _ _ _ _ 23 (by decide)).trans ((g2 23 (by decide) (by decide)).trans c2), (e5 _ _ _ _ 24 (by decide)).trans ((g2 24 (by decide) (by decide)).trans c3), (e5 _ _ _ _ 25 (by decide)).trans ((g2 25 (by decide) (by decide)).trans c4), (e5 _ _ _ _ 26 (by decide)).trans ((g2 26 (by decide) (by decide)).trans c5), (e5 _ _ _ _ 27 (by decide)).trans ((g2 27 (by decide) (by decide)).trans c6), (e5 _ _ _ _ 28 (by decide)).trans ((g2 28 (by decide) (by decide)).trans c7), (e5 _ _ _ _ 29 (by decide)).trans ((g2 29 (by decide) (by decide)).trans c8), (e5 _ _ _ _ 30 (by decide)).trans ((g2 30 (by decide) (by decide)).trans c9), (e5 _ _ _ _ 31 (by decide)).trans ((g2 31 (by decide) (by decide)).trans c10), (e5 _ _ _ _ 32 (by decide)).trans ((g2 32 (by decide) (by decide)).trans c11), (e5 _ _ _ _ 33 (by decide)).trans ((g2 33 (by decide) (by decide)).trans c12)⟩ ⟨(e5 _ _ _ _ 34 (by decide)).trans k1, (e5 _ _ _ _ 35 (by decide)).trans k2, (e5 _ _ _ _ 36 (by decide)).trans k3, (e5 _ _ _ _ 37 (by decide)).trans k4⟩ (fun j hj => (e5 _ _ _ _ j (by omega)).trans ((g2 j (by omega) (by omega)).trans (g1 j (by omega))))
theorem cn_seer (he : es 149 = .inr (8, ax_df 8)) (hQ : ∀ es', es' 149 = .inr (8, [.ref 146, .ref 38, .ref 42, .ref 150, .ref 154, .ref 158, .long 0]) → kb0 es' 150 → kb0 es' 154 → es' 158 = .inl (0, 1200, .inl fun _ => 0) → (∀ j, (j < 149 ∨ 158 < j) → es' j = es j) → Q es') : ax_Mc (d + 2) 1024 [.ref 149, .ref 146, .ref 38, .ref 42] 150 5975 159 7237 es Q := by
  have h1 : 1 ≤ d + 2 := by omega
  have df : ax_df 8 = [.null, .null, .null, .null, .null, .null, .long 0] := rfl
  rw [df] at he
  have z1200 : (1200 : Int32).toNatClampNeg = 1200 := rfl
  have y1200 : ¬ (1200 : Int32) < 0 := by decide
  have t0 : ax_atag .int = 0 := rfl
  have t1 : ax_atag .byte = 1 := rfl
  have t2 : ax_atag .boolean = 2 := rfl
  have t3 : ax_atag .long = 3 := rfl
  have tc : ax_acon .int = .inl fun _ => 0 := rfl
  have tb : ax_acon .byte = .inl fun _ => 0 := rfl
  have tz : ax_acon .boolean = .inl fun _ => 0 := rfl
  have tl : ax_acon .long = .inr (.inl fun _ => 0) := rfl
  have nf : ax_NF = 178 := rfl
  have N0 : ax_N 0 = 7 := rfl
  refine ax_Mc_go (m := ax_m_8_0) (ls := [some (.ref 149), some (.ref 146), some (.ref 38), some (.ref 42)]) rfl ax_b_1024_0 (Nat.le_of_ble_eq_true rfl) rfl ?_
  simp only [ax_W_cons, ax_I, ax_cmp, ax_ii, ax_ll, ax_li, ax_st1, ax_st2, ax_kl, ax_k2, ax_fit, ax_rtok, List.getElem?_cons_zero, List.getElem?_cons_succ, List.length_cons, List.length_nil, List.set_cons_zero, List.set_cons_succ, Nat.reduceAdd, Nat.reduceDiv, Nat.reduceMod, Nat.reduceMul, Nat.reduceLT, Nat.reduceLeDiff, Int32.reduceOfInt, Int64.reduceOfInt, true_and, and_true, and_self, true_or, or_true, false_implies, true_implies, not_false_eq_true, not_true_eq_false, Value.category, Nat.reduceEqDiff, Option.toList, List.cons_append, List.nil_append, List.drop_succ_cons, List.drop_zero, ax_qq_eq, ax_t_1024, he, ax_bi, h1, kx_cat0, t0, t1, t2, t3, tc, tb, tz, tl, nf, N0, alk, ax_up_same, ax_up_ne, ne_eq, Nat.reduceEqDiff, not_false_eq_true]
  refine ax_inv_c (n' := 154) (sl' := 6006) (Nat.le_of_ble_eq_true rfl) (Nat.le_of_ble_eq_true rfl) rfl trivial (by decide) (by decide) (by decide) (by decide) (cn_bowl (q := 150) (by decide) (ax_up_same ..) ?_)
  intro es1 B1 f1
  have g1 : ∀ j, (j < 150 ∨ 153 < j) → es1 j = es j := fun j hj => by rw [f1 j hj, ax_up_ne _ _ (by omega)]
  have v0 := (g1 149 (by decide)).trans he
  simp only [ax_W_cons, ax_I, ax_cmp, ax_ii, ax_ll, ax_li, ax_st1, ax_st2, ax_kl, ax_k2, ax_fit, ax_rtok, List.getElem?_cons_zero, List.getElem?_cons_succ, List.length_cons, List.length_nil, List.set_cons_zero, List.set_cons_succ, Nat.reduceAdd, Nat.reduceDiv, Nat.reduceMod, Nat.reduceMul, Nat.reduceLT, Nat.reduceLeDiff, Int32.reduceOfInt, Int64.reduceOfInt, true_and, and_true, and_self, true_or, or_true, false_implies, true_implies, not_false_eq_true, not_true_eq_false, Value.category, Nat.reduceEqDiff, Option.toList, List.cons_append, List.nil_append, List.drop_succ_cons, List.drop_zero, ax_qq_eq, ax_t_1024, v0, t0, t1, t2, t3, tc, tb, tz, tl, nf, N0, alk, ax_up_same, ax_up_ne, ne_eq, Nat.reduceEqDiff, not_false_eq_true]
  refine ax_inv_c (n' := 158) (sl' := 6037) (Nat.le_of_ble_eq_true rfl) (Nat.le_of_ble_eq_true rfl) rfl trivial (by decide) (by decide) (by decide) (by decide) (cn_bowl (q := 154) (by decide) (ax_up_same ..) ?_)
  intro es2 B2 f2
  have g2 : ∀ j, j ≠ 149 → (j < 154 ∨ 157 < j) → es2 j = es1 j := fun j a b => by rw [f2 j b, ax_up_ne _ _ (by omega), ax_up_ne _ _ a]
  have u0 : es2 149 = .inr (8, [.null, .null, .null, .ref 150, .null, .null, .long 0]) := by rw [f2 149 (by decide), ax_up_ne _ _ (by decide), ax_up_same]
  simp only [ax_W_cons, ax_I, ax_cmp, ax_ii, ax_ll, ax_li, ax_st1, ax_st2, ax_kl, ax_k2, ax_fit, ax_rtok, List.getElem?_cons_zero, List.getElem?_cons_succ, List.length_cons, List.length_nil, List.set_cons_zero, List.set_cons_succ, Nat.reduceAdd, Nat.reduceDiv, Nat.reduceMod, Nat.reduceMul, Nat.reduceLT, Nat.reduceLeDiff, Int32.reduceOfInt, Int64.reduceOfInt, true_and, and_true, and_self, true_or, or_true, false_implies, true_implies, not_false_eq_true, not_true_eq_false, Value.category, Nat.reduceEqDiff, Option.toList, List.cons_append, List.nil_append, List.drop_succ_cons, List.drop_zero, ax_qq_eq, ax_t_1024, u0, z1200, y1200, t0, t1, t2, t3, tc, tb, tz, tl, nf, alk, ax_up_same, ax_up_ne, ne_eq, Nat.reduceEqDiff, not_false_eq_true]
  have e5 : ∀ e1 e2 e3 e4 e5 e6 j, j ≠ 149 → j ≠ 158 → ax_up (ax_up (ax_up (ax_up (ax_up (ax_up es2 149 e1) 158 e2) 149 e3) 149 e4) 149 e5) 149 e6 j = es2 j := fun e1 e2 e3 e4 e5 e6 j a b => by rw [ax_up_ne _ _ a, ax_up_ne _ _ a, ax_up_ne _ _ a, ax_up_ne _ _ a, ax_up_ne _ _ b, ax_up_ne _ _ a]
  exact hQ _ (ax_up_same ..) (kb0_fr (kb_n B1 (by decide)) (fun j a b => (e5 _ _ _ _ _ _ j (by omega) (by omega)).trans (g2 j (by omega) (by omega)))) (kb0_fr (kb_n B2 (by decide)) (fun j a b => e5 _ _ _ _ _ _ j (by omega) (by omega))) (by simp only [ax_up_same, ax_up_ne, ne_eq, Nat.reduceEqDiff, not_false_eq_true]) (fun j hj => (e5 _ _ _ _ _ _ j (by omega) (by omega)).trans ((g2 j (by omega) (by omega)).trans (g1 j (by omega))))
theorem cn_past (he : es 46 = .inr (4, ax_df 4)) (hQ : ∀ es', es' 46 = .inr (4, [.ref 47, .int 0, .int 0, .ref 48, .ref 49, .int 0]) → kPr es' → (∀ s, s < 16 → kb0 es' (50 + 4 * s)) → (∀ m, m < 4 → kb0 es' (114 + 8 * m) ∧ kf0 es' (118 + 8 * m)) → (∀ j, (j < 46 ∨ 145 < j) → es' j = es j) → Q es') : ax_Mc (d + 2) 512 [.ref 46] 47 3597 146 4353 es Q := by
  have h1 : 1 ≤ d + 2 := by omega
  have df : ax_df 4 = [.null, .int 0, .int 0, .null, .null, .int 0] := rfl
  rw [df] at he
  have z4 : (4 : Int32).toNatClampNeg = 4 := rfl
  have y4 : ¬ (4 : Int32) < 0 := by decide
  have z16 : (16 : Int32).toNatClampNeg = 16 := rfl
  have y16 : ¬ (16 : Int32) < 0 := by decide
  have t0 : ax_atag .int = 0 := rfl
  have t1 : ax_atag .byte = 1 := rfl
  have t2 : ax_atag .boolean = 2 := rfl
  have t3 : ax_atag .long = 3 := rfl
  have tc : ax_acon .int = .inl fun _ => 0 := rfl
  have tb : ax_acon .byte = .inl fun _ => 0 := rfl
  have tz : ax_acon .boolean = .inl fun _ => 0 := rfl
  have tl : ax_acon .long = .inr (.inl fun _ => 0) := rfl
  have nf : ax_NF = 178 := rfl
  have N0 : ax_N 0 = 7 := rfl
  have N2 : ax_N 2 = 4 := rfl
  have o0 : ax_otag 0 = 4 := rfl
  have o2 : ax_otag 2 = 5 := rfl
  -- the marks
  have L2 : ∀ f m es1 f8 f9, m + f = 4 → es1 46 = .inr (4, [.ref 47, .int 0, .int 0, .ref 48, .ref 49, .int 0]) → es1 48 = .inl (4, 4, .inr (.inr (.inr (.inr f8)))) → es1 49 = .inl (5, 4, .inr (.inr (.inr (.inr f9)))) → (∀ i, i < m → f8 i = some (114 + 8 * i)) → (∀ i, i < m → f9 i = some (118 + 8 * i)) → (∃ f7, es1 47 = .inl (4, 16, .inr (.inr (.inr (.inr f7)))) ∧ ∀ i, i < 16 → f7 i = some (50 + 4 * i)) → (∀ s, s < 16 → kb0 es1 (50 + 4 * s)) → (∀ i, i < m → kb0 es1 (114 + 8 * i) ∧ kf0 es1 (118 + 8 * i)) → (∀ j, (j < 46 ∨ 145 < j) → es1 j = es j) → ax_W (d + 2) 146 4353 512 [(1, .iload 1), (1, .iconst 4), (3, .if_icmp .ge 95), (1, .aload 0), (3, .getfield 1038), (1, .iload 1), (3, .new 0), (1, .dup), (3, .invokeinterface 0 6), (1, .aastore), (1, .aload 0), (3, .getfield 1042), (1, .iload 1), (3, .new 2), (1, .dup), (3, .invokeinterface 256 6), (1, .aastore), (3, .iinc 1 1), (3, .goto 58)] 58 [some (.ref 46), some (.int (nI m))] [] (114 + 8 * m) (4117 + 59 * m) es1 (fun r n1 sl1 es1 => n1 = 146 ∧ sl1 = 4353 ∧ r = none ∧ Q es1) := by
    intro f
    induction f with
    | zero =>
      intro m es1 f8 f9 hm w0 w8 w9 e8 e9 w7 hb hmk fr
      have hm : m = 4 := by omega
      subst hm
      have e0 : (4 : Int32) ≤ nI 4 := by decide
      simp only [ax_W_cons, ax_I, ax_cmp, ax_ii, ax_ll, ax_li, ax_st1, ax_st2, ax_kl, ax_k2, ax_fit, ax_rtok, List.getElem?_cons_zero, List.getElem?_cons_succ, List.length_cons, List.length_nil, List.set_cons_zero, List.set_cons_succ, Nat.reduceAdd, Nat.reduceDiv, Nat.reduceMod, Nat.reduceMul, Nat.reduceLT, Nat.reduceLeDiff, Int32.reduceOfInt, Int64.reduceOfInt, true_and, and_true, and_self, true_or, or_true, false_implies, true_implies, not_false_eq_true, not_true_eq_false, Value.category, Nat.reduceEqDiff, Option.toList, List.cons_append, List.nil_append, List.drop_succ_cons, List.drop_zero, ax_qq_eq, ax_t_512, ax_j_512_95, ax_n_512_95, e0]
      exact hQ es1 w0 ⟨w7, ⟨f8, w8, e8⟩, f9, w9, e9⟩ hb hmk fr
    | succ f ih =>
      intro m es1 f8 f9 hm w0 w8 w9 e8 e9 w7 hb hmk fr
      have e0 : ¬ (4 : Int32) ≤ nI m := nI_ge (b := 4) (by omega) (by decide)
      have i1 : vp_in (nI m) 4 := nI_in (by omega) (by decide)
      have i2 : (nI m).toNatClampNeg = m := nI_clamp (by omega)
      have i4 : nI m + 1 = nI (m + 1) := (nI_succ m).symm
      have q1 : 114 + 8 * m + 1 ≤ 178 := by omega
      have q2 : 114 + 8 * m + 1 ≤ 146 := by omega
      have q3 : 4117 + 59 * m + 7 ≤ 4353 := by omega
      have a0 : ax_al (114 + 8 * m) = 114 + 8 * m := alk (by omega)
      have a1 : 46 < 114 + 8 * m := by omega
      simp only [ax_W_cons, ax_I, ax_cmp, ax_ii, ax_ll, ax_li, ax_st1, ax_st2, ax_kl, ax_k2, ax_fit, ax_rtok, List.getElem?_cons_zero, List.getElem?_cons_succ, List.length_cons, List.length_nil, List.set_cons_zero, List.set_cons_succ, Nat.reduceAdd, Nat.reduceDiv, Nat.reduceMod, Nat.reduceMul, Nat.reduceLT, Nat.reduceLeDiff, Int32.reduceOfInt, Int64.reduceOfInt, true_and, and_true, and_self, true_or, or_true, false_implies, true_implies, not_false_eq_true, not_true_eq_false, Value.category, Nat.reduceEqDiff, Option.toList, List.cons_append, List.nil_append, List.drop_succ_cons, List.drop_zero, ax_qq_eq, ax_t_512, e0, w0, t0, t1, t2, t3, tc, tb, tz, tl, nf, N0, q1, q2, q3, a0, a1]
      refine ax_inv_c (n' := 114 + 8 * m + 4) (sl' := 4117 + 59 * m + 7 + 24) (Nat.le_of_ble_eq_true rfl) (Nat.le_of_ble_eq_true rfl) rfl trivial (by omega) (by omega) (by omega) (by omega) (cn_bowl (q := 114 + 8 * m) (by omega) (ax_up_same ..) ?_)
      intro es2 B2 f2
      have g2 : ∀ j, (j < 114 + 8 * m ∨ 114 + 8 * m + 3 < j) → es2 j = es1 j := fun j hj => by rw [f2 j hj, ax_up_ne _ _ (by omega)]
      have v0 := (g2 46 (by omega)).trans w0
      have v8 := (g2 48 (by omega)).trans w8
      have v9 := (g2 49 (by omega)).trans w9
      have vq : es2 (114 + 8 * m) = kb_o 0 0 0 0 (114 + 8 * m) := B2.2.1
      unfold kb_o at vq
      have a4 : ax_al (114 + 8 * m + 4) = 114 + 8 * m + 4 := alk (by omega)
      have b1 : 46 < 114 + 8 * m + 4 := by omega
      have b2 : 48 < 114 + 8 * m + 4 := by omega
      have b3 : 114 + 8 * m < 114 + 8 * m + 4 := by omega
      have r1 : 114 + 8 * m + 4 + 1 ≤ 178 := by omega
      have r2 : 114 + 8 * m + 4 + 1 ≤ 146 := by omega
      have r3 : 4117 + 59 * m + 7 + 24 + 4 ≤ 4353 := by omega
      simp only [ax_W_cons, ax_I, ax_cmp, ax_ii, ax_ll, ax_li, ax_st1, ax_st2, ax_kl, ax_k2, ax_fit, ax_rtok, List.getElem?_cons_zero, List.getElem?_cons_succ, List.length_cons, List.length_nil, List.set_cons_zero, List.set_cons_succ, Nat.reduceAdd, Nat.reduceDiv, Nat.reduceMod, Nat.reduceMul, Nat.reduceLT, Nat.reduceLeDiff, Int32.reduceOfInt, Int64.reduceOfInt, true_and, and_true, and_self, true_or, or_true, false_implies, true_implies, not_false_eq_true, not_true_eq_false, Value.category, Nat.reduceEqDiff, Option.toList, List.cons_append, List.nil_append, List.drop_succ_cons, List.drop_zero, ax_qq_eq, ax_t_512, v0, v8, vq, t0, t1, t2, t3, tc, tb, tz, tl, nf, N2, a4, b1, b2, b3, i1, i2, r1, r2, r3, ax_up_same, ax_up_ne, ne_eq, Nat.reduceEqDiff, not_false_eq_true]
      refine ⟨by omega, by omega, ?_⟩
      refine ax_inv_c (n' := 114 + 8 * m + 4 + 4) (sl' := 4117 + 59 * m + 7 + 24 + 4 + 24) (Nat.le_of_ble_eq_true rfl) (Nat.le_of_ble_eq_true rfl) rfl trivial (by omega) (by omega) (by omega) (by omega) (cn_felt (q := 114 + 8 * m + 4) (by omega) (ax_up_same ..) ?_)
      intro es3 B3 f3
      have g3 : ∀ j, j ≠ 48 → (j < 114 + 8 * m + 4 ∨ 114 + 8 * m + 4 + 3 < j) → es3 j = es2 j := fun j a hj => by rw [f3 j hj, ax_up_ne _ _ (by omega), ax_up_ne _ _ a]
      have u8 : es3 48 = .inl (4, 4, .inr (.inr (.inr (.inr (va_up f8 m (some (114 + 8 * m))))))) := by rw [f3 48 (by omega), ax_up_ne _ _ (by omega), ax_up_same]
      have u0 := (g3 46 (by decide) (by omega)).trans v0
      have u9 := (g3 49 (by decide) (by omega)).trans v9
      have uq : es3 (114 + 8 * m + 4) = .inr (2, [.int (nI 0), .ref (114 + 8 * m + 4 + 1), .ref (114 + 8 * m + 4 + 2), .ref (114 + 8 * m + 4 + 3)]) := B3.2.1
      have a8 : ax_al (114 + 8 * m + 4 + 4) = 114 + 8 * m + 4 + 4 := alk (by omega)
      have c2 : 49 < 114 + 8 * m + 4 + 4 := by omega
      have c3 : 114 + 8 * m + 4 < 114 + 8 * m + 4 + 4 := by omega
      simp only [ax_W_cons, ax_I, ax_cmp, ax_ii, ax_ll, ax_li, ax_st1, ax_st2, ax_kl, ax_k2, ax_fit, ax_rtok, List.getElem?_cons_zero, List.getElem?_cons_succ, List.length_cons, List.length_nil, List.set_cons_zero, List.set_cons_succ, Nat.reduceAdd, Nat.reduceDiv, Nat.reduceMod, Nat.reduceMul, Nat.reduceLT, Nat.reduceLeDiff, Int32.reduceOfInt, Int64.reduceOfInt, true_and, and_true, and_self, true_or, or_true, false_implies, true_implies, not_false_eq_true, not_true_eq_false, Value.category, Nat.reduceEqDiff, Option.toList, List.cons_append, List.nil_append, List.drop_succ_cons, List.drop_zero, ax_qq_eq, ax_t_512, u0, u9, uq, t0, t1, t2, t3, tc, tb, tz, tl, nf, a8, c2, c3, i1, i2, i4]
      rw [ax_j_512_58]
      have n8 : 114 + 8 * m + 4 + 4 = 114 + 8 * (m + 1) := by omega
      have s8 : 4117 + 59 * m + 7 + 24 + 4 + 24 = 4117 + 59 * (m + 1) := by omega
      rw [n8, s8]
      have e5 : ∀ e j, j ≠ 49 → ax_up es3 49 e j = es3 j := fun e j hj => ax_up_ne _ _ hj
      have G : ∀ j, j ≠ 48 → j ≠ 49 → (j < 114 + 8 * m ∨ 114 + 8 * m + 7 < j) → ∀ e, ax_up es3 49 e j = es1 j := fun j a b hj e => (e5 e j b).trans ((g3 j a (by omega)).trans (g2 j (by omega)))
      refine ih (m + 1) _ (va_up f8 m (some (114 + 8 * m))) (va_up f9 m (some (114 + 8 * m + 4))) (by omega) ((G 46 (by decide) (by decide) (by omega) _).trans w0) ((e5 _ 48 (by decide)).trans u8) (ax_up_same ..) (fun i hi => ?_) (fun i hi => ?_) ?_ (fun s hs => kb0_fr (hb s hs) (fun j h1 h2 => G j (by omega) (by omega) (by omega) _)) (fun i hi => ?_) (fun j hj => (G j (by omega) (by omega) (by omega) _).trans (fr j hj))
      · unfold va_up
        by_cases e : i = m
        · rw [if_pos e, e]
        · rw [if_neg e]
          exact e8 i (by omega)
      · unfold va_up
        by_cases e : i = m
        · rw [if_pos e, e]
          congr 1
          omega
        · rw [if_neg e]
          exact e9 i (by omega)
      · obtain ⟨f7, x1, x2⟩ := w7
        exact ⟨f7, (G 47 (by decide) (by decide) (by omega) _).trans x1, x2⟩
      · by_cases e : i = m
        · subst e
          have x4 : 118 + 8 * i = 114 + 8 * i + 4 := by omega
          rw [x4]
          exact ⟨kb0_fr (kb_n B2 (by rw [alk (by omega)]; omega)) (fun j h1 h2 => (e5 _ j (by omega)).trans (g3 j (by omega) (by omega))), kf0_fr (kf_n B3 (by rw [alk (by omega)]; omega)) (fun j h1 h2 => e5 _ j (by omega))⟩
        · obtain ⟨x1, x2⟩ := hmk i (by omega)
          exact ⟨kb0_fr x1 (fun j h1 h2 => G j (by omega) (by omega) (by omega) _), kf0_fr x2 (fun j h1 h2 => G j (by omega) (by omega) (by omega) _)⟩
  -- the steps
  have L1 : ∀ f m es1 f7, m + f = 16 → es1 46 = .inr (4, [.ref 47, .int 0, .int 0, .ref 48, .ref 49, .int 0]) → es1 47 = .inl (4, 16, .inr (.inr (.inr (.inr f7)))) → es1 48 = .inl (4, 4, .inr (.inr (.inr (.inr fun _ => none)))) → es1 49 = .inl (5, 4, .inr (.inr (.inr (.inr fun _ => none)))) → (∀ i, i < m → f7 i = some (50 + 4 * i)) → (∀ s, s < m → kb0 es1 (50 + 4 * s)) → (∀ j, (j < 46 ∨ 145 < j) → es1 j = es j) → ax_W (d + 2) 146 4353 512 [(1, .iload 1), (2, .iconst 16), (3, .if_icmp .ge 56), (1, .aload 0), (3, .getfield 1026), (1, .iload 1), (3, .new 0), (1, .dup), (3, .invokeinterface 0 6), (1, .aastore), (3, .iinc 1 1), (3, .goto 31)] 31 [some (.ref 46), some (.int (nI m))] [] (50 + 4 * m) (3621 + 31 * m) es1 (fun r n1 sl1 es1 => n1 = 146 ∧ sl1 = 4353 ∧ r = none ∧ Q es1) := by
    intro f
    induction f with
    | zero =>
      intro m es1 f7 hm w0 w7 w8 w9 e7 hb fr
      have hm : m = 16 := by omega
      subst hm
      have e0 : (16 : Int32) ≤ nI 16 := by decide
      simp only [ax_W_cons, ax_I, ax_cmp, ax_ii, ax_ll, ax_li, ax_st1, ax_st2, ax_kl, ax_k2, ax_fit, ax_rtok, List.getElem?_cons_zero, List.getElem?_cons_succ, List.length_cons, List.length_nil, List.set_cons_zero, List.set_cons_succ, Nat.reduceAdd, Nat.reduceDiv, Nat.reduceMod, Nat.reduceMul, Nat.reduceLT, Nat.reduceLeDiff, Int32.reduceOfInt, Int64.reduceOfInt, true_and, and_true, and_self, true_or, or_true, false_implies, true_implies, not_false_eq_true, not_true_eq_false, Value.category, Nat.reduceEqDiff, Option.toList, List.cons_append, List.nil_append, List.drop_succ_cons, List.drop_zero, ax_qq_eq, ax_t_512, ax_j_512_56, ax_n_512_56, e0]
      rw [ax_n_512_58]
      exact L2 4 0 es1 _ _ rfl w0 w8 w9 (fun i hi => absurd hi (Nat.not_lt_zero i)) (fun i hi => absurd hi (Nat.not_lt_zero i)) ⟨f7, w7, e7⟩ hb (fun i hi => absurd hi (Nat.not_lt_zero i)) fr
    | succ f ih =>
      intro m es1 f7 hm w0 w7 w8 w9 e7 hb fr
      have e0 : ¬ (16 : Int32) ≤ nI m := nI_ge (b := 16) (by omega) (by decide)
      have i1 : vp_in (nI m) 16 := nI_in (by omega) (by decide)
      have i2 : (nI m).toNatClampNeg = m := nI_clamp (by omega)
      have i4 : nI m + 1 = nI (m + 1) := (nI_succ m).symm
      have q1 : 50 + 4 * m + 1 ≤ 178 := by omega
      have q2 : 50 + 4 * m + 1 ≤ 146 := by omega
      have q3 : 3621 + 31 * m + 7 ≤ 4353 := by omega
      have a0 : ax_al (50 + 4 * m) = 50 + 4 * m := alk (by omega)
      have a1 : 46 < 50 + 4 * m := by omega
      simp only [ax_W_cons, ax_I, ax_cmp, ax_ii, ax_ll, ax_li, ax_st1, ax_st2, ax_kl, ax_k2, ax_fit, ax_rtok, List.getElem?_cons_zero, List.getElem?_cons_succ, List.length_cons, List.length_nil, List.set_cons_zero, List.set_cons_succ, Nat.reduceAdd, Nat.reduceDiv, Nat.reduceMod, Nat.reduceMul, Nat.reduceLT, Nat.reduceLeDiff, Int32.reduceOfInt, Int64.reduceOfInt, true_and, and_true, and_self, true_or, or_true, false_implies, true_implies, not_false_eq_true, not_true_eq_false, Value.category, Nat.reduceEqDiff, Option.toList, List.cons_append, List.nil_append, List.drop_succ_cons, List.drop_zero, ax_qq_eq, ax_t_512, e0, w0, t0, t1, t2, t3, tc, tb, tz, tl, nf, N0, q1, q2, q3, a0, a1]
      refine ax_inv_c (n' := 50 + 4 * m + 4) (sl' := 3621 + 31 * m + 7 + 24) (Nat.le_of_ble_eq_true rfl) (Nat.le_of_ble_eq_true rfl) rfl trivial (by omega) (by omega) (by omega) (by omega) (cn_bowl (q := 50 + 4 * m) (by omega) (ax_up_same ..) ?_)
      intro es2 B2 f2
      have g2 : ∀ j, (j < 50 + 4 * m ∨ 50 + 4 * m + 3 < j) → es2 j = es1 j := fun j hj => by rw [f2 j hj, ax_up_ne _ _ (by omega)]
      have v7 := (g2 47 (by omega)).trans w7
      have vq : es2 (50 + 4 * m) = kb_o 0 0 0 0 (50 + 4 * m) := B2.2.1
      unfold kb_o at vq
      have a4 : ax_al (50 + 4 * m + 4) = 50 + 4 * m + 4 := alk (by omega)
      have b2 : 47 < 50 + 4 * m + 4 := by omega
      have b3 : 50 + 4 * m < 50 + 4 * m + 4 := by omega
      simp only [ax_W_cons, ax_I, ax_cmp, ax_ii, ax_ll, ax_li, ax_st1, ax_st2, ax_kl, ax_k2, ax_fit, ax_rtok, List.getElem?_cons_zero, List.getElem?_cons_succ, List.length_cons, List.length_nil, List.set_cons_zero, List.set_cons_succ, Nat.reduceAdd, Nat.reduceDiv, Nat.reduceMod, Nat.reduceMul, Nat.reduceLT, Nat.reduceLeDiff, Int32.reduceOfInt, Int64.reduceOfInt, true_and, and_true, and_self, true_or, or_true, false_implies, true_implies, not_false_eq_true, not_true_eq_false, Value.category, Nat.reduceEqDiff, Option.toList, List.cons_append, List.nil_append, List.drop_succ_cons, List.drop_zero, ax_qq_eq, ax_t_512, v7, vq, t0, t1, t2, t3, tc, tb, tz, tl, nf, a4, b2, b3, i1, i2, i4]
      rw [ax_j_512_31]
      have n8 : 50 + 4 * m + 4 = 50 + 4 * (m + 1) := by omega
      have s8 : 3621 + 31 * m + 7 + 24 = 3621 + 31 * (m + 1) := by omega
      rw [n8, s8]
      have e5 : ∀ e j, j ≠ 47 → ax_up es2 47 e j = es2 j := fun e j hj => ax_up_ne _ _ hj
      refine ih (m + 1) _ (va_up f7 m (some (50 + 4 * m))) (by omega) ((e5 _ 46 (by decide)).trans ((g2 46 (by omega)).trans w0)) (ax_up_same ..) ((e5 _ 48 (by decide)).trans ((g2 48 (by omega)).trans w8)) ((e5 _ 49 (by decide)).trans ((g2 49 (by omega)).trans w9)) (fun i hi => ?_) (fun s hs => ?_) (fun j hj => (e5 _ j (by omega)).trans ((g2 j (by omega)).trans (fr j hj)))
      · unfold va_up
        by_cases e : i = m
        · rw [if_pos e, e]
        · rw [if_neg e]
          exact e7 i (by omega)
      · by_cases e : s = m
        · subst e
          exact kb0_fr (kb_n B2 (by rw [alk (by omega)]; omega)) (fun j h1 h2 => e5 _ j (by omega))
        · exact kb0_fr (hb s (by omega)) (fun j h1 h2 => (e5 _ j (by omega)).trans (g2 j (by omega)))
  refine ax_Mc_go (m := ax_m_4_0) (ls := [some (.ref 46), none]) rfl ax_b_512_0 (Nat.le_of_ble_eq_true rfl) rfl ?_
  simp only [ax_W_cons, ax_I, ax_cmp, ax_ii, ax_ll, ax_li, ax_st1, ax_st2, ax_kl, ax_k2, ax_fit, ax_rtok, List.getElem?_cons_zero, List.getElem?_cons_succ, List.length_cons, List.length_nil, List.set_cons_zero, List.set_cons_succ, Nat.reduceAdd, Nat.reduceDiv, Nat.reduceMod, Nat.reduceMul, Nat.reduceLT, Nat.reduceLeDiff, Int32.reduceOfInt, Int64.reduceOfInt, true_and, and_true, and_self, true_or, or_true, false_implies, true_implies, not_false_eq_true, not_true_eq_false, Value.category, Nat.reduceEqDiff, Option.toList, List.cons_append, List.nil_append, List.drop_succ_cons, List.drop_zero, ax_qq_eq, ax_t_512, he, ax_bi, h1, kx_cat0, z4, y4, z16, y16, t0, t1, t2, t3, tc, tb, tz, tl, nf, o0, o2, alk, ax_up_same, ax_up_ne, ne_eq, Nat.reduceEqDiff, not_false_eq_true]
  rw [ax_n_512_31]
  refine L1 16 0 _ (fun _ => none) rfl (ax_up_same ..) ?_ ?_ ?_ (fun i hi => absurd hi (Nat.not_lt_zero i)) (fun s hs => absurd hs (Nat.not_lt_zero s)) (fun j hj => by repeat rw [ax_up_ne _ _ (by omega)])
  · simp only [ax_up_same, ax_up_ne, ne_eq, Nat.reduceEqDiff, not_false_eq_true]
  · simp only [ax_up_same, ax_up_ne, ne_eq, Nat.reduceEqDiff, not_false_eq_true]
  · simp only [ax_up_same, ax_up_ne, ne_eq, Nat.reduceEqDiff, not_false_eq_true]
end CC
