/-! the court as always, when the class is made -/
def yLw (es : ax_H) (q a b : Nat) (e : Nat) : Prop := es q = .inr (3, [.ref 9, .ref (q + 1), .ref (q + 2), .int (nI a), .int (nI b)]) ∧ q = e
def yCo (k p hc : Int32) : ax_E := .inr (1, [.int k, .int p, .ref 4, .ref 5, .ref 6, .ref 7, .ref 8, .int hc, .ref 9, .ref 10, .ref 13, .int 0])
def yl (q : Nat) (a b : Nat) : ax_E := .inr (3, [.ref 9, .ref (q + 1), .ref (q + 2), .int (nI a), .int (nI b)])
section YY
variable {d n sl : Nat} {es : ax_H} {Q : Option Value → ax_H → Prop}
theorem yk_once (hal : ax_al n = 159) {k p hc : Int32} (h3 : es 3 = yCo k p hc) (x : Int32) (hx : (0 : Int32) &&& (1 : Int32) <<< (x &&& 31) = 0) (hQ : Q (some (.int 0)) es) : ax_Mt d 130 [.ref 3, .int x] n sl es Q := by
  unfold yCo at h3
  refine ax_Mt_go (m := ax_m_1_2) (ls := [some (.ref 3), some (.int x)]) rfl ax_b_130_0 (Nat.le_of_ble_eq_true rfl) rfl ?_
  simp only [ax_W_cons, ax_I, ax_cmp, ax_ii, ax_ll, ax_li, ax_st1, ax_st2, ax_kl, ax_k2, ax_fit, ax_rtok, List.getElem?_cons_zero, List.getElem?_cons_succ, List.length_cons, List.length_nil, List.set_cons_zero, List.set_cons_succ, Nat.reduceAdd, Nat.reduceDiv, Nat.reduceMod, Nat.reduceMul, Nat.reduceLT, Nat.reduceLeDiff, Int32.reduceOfInt, Int64.reduceOfInt, true_and, and_true, and_self, true_or, or_true, false_implies, true_implies, not_false_eq_true, not_true_eq_false, Value.category, Nat.reduceEqDiff, Option.toList, List.cons_append, List.nil_append, List.drop_succ_cons, List.drop_zero, ax_qq_eq, ax_t_130, ax_j_130_15, ax_n_130_15, ax_j_130_16, ax_n_130_16, h3, hal, hx]
  exact hQ
theorem yk_add (hal : ax_al n = 159) {q a b : Nat} (hq : q = 10 ∨ q = 13) {code : Nat → Int32} (hb : b < 1000) (h1 : es q = yl q a b) (h9 : es 9 = .inl (0, 1000, .inl code)) (x : Int32) (hQ : Q none (ax_up (ax_up es 9 (.inl (0, 1000, .inl (upd code b x)))) q (yl q a (b + 1)))) : ax_Mt d 386 [.ref q, .int x] n sl es Q := by
  unfold yl at h1 hQ
  have e0 : ¬ Int32.ofNat 1000 ≤ nI b := nI_ge (b := 1000) hb (by decide)
  have e1 : vp_in (nI b) 1000 := nI_in hb (by decide)
  have e2 : (nI b).toNatClampNeg = b := nI_clamp (by omega)
  have e4 : nI b + 1 = nI (b + 1) := (nI_succ b).symm
  have q1 : q < 159 := by omega
  have g1 : ∀ e, ax_up es 9 e q = _ := fun e => (ax_up_ne es e (by omega)).trans h1
  refine ax_Mt_go (m := ax_m_3_2) (ls := [some (.ref q), some (.int x)]) rfl ax_b_386_0 (Nat.le_of_ble_eq_true rfl) rfl ?_
  simp only [ax_W_cons, ax_I, ax_cmp, ax_ii, ax_ll, ax_li, ax_st1, ax_st2, ax_kl, ax_k2, ax_fit, ax_rtok, List.getElem?_cons_zero, List.getElem?_cons_succ, List.length_cons, List.length_nil, List.set_cons_zero, List.set_cons_succ, Nat.reduceAdd, Nat.reduceDiv, Nat.reduceMod, Nat.reduceMul, Nat.reduceLT, Nat.reduceLeDiff, Int32.reduceOfInt, Int64.reduceOfInt, true_and, and_true, and_self, true_or, or_true, false_implies, true_implies, not_false_eq_true, not_true_eq_false, Value.category, Nat.reduceEqDiff, Option.toList, List.cons_append, List.nil_append, List.drop_succ_cons, List.drop_zero, ax_qq_eq, ax_t_386, ax_j_386_32, ax_n_386_32, h1, h9, g1, hal, q1, e0, e1, e2, e4]
  exact hQ
theorem yk_open (hal : ax_al n = 159) {k p hc : Int32} {a1 b1 a2 b2 w q m : Nat} (hw : (w = 5 ∧ q = 10) ∨ (w = 6 ∧ q = 13)) (h3 : es 3 = yCo k p hc) (h10 : es 10 = yl 10 a1 b1) (h13 : es 13 = yl 13 a2 b2) (hm : m = max b1 b2) (hb1 : b1 ≤ 1000) (hb2 : b2 ≤ 1000) (hQ : Q (some (.ref q)) (ax_up es q (yl q m m))) : ax_Mt (d + 1) 132 [.ref 3, .int (nI w)] n sl es Q := by
  unfold yCo at h3
  unfold yl at h10 h13 hQ
  have mx : kx_max (nI b1) (nI b2) = nI m := by
    unfold kx_max
    by_cases h : b1 < b2
    · rw [if_pos (nI_lt h (by omega)), hm, Nat.max_eq_right (by omega)]
    · rw [if_neg (by rw [kx_nlt]; exact nI_le (by omega) (by omega)), hm, Nat.max_eq_left (by omega)]
  have c65 : ¬ (6 : Int32) = 5 := by decide
  refine ax_Mt_go (m := ax_m_1_4) (ls := [some (.ref 3), some (.int (nI w)), none]) rfl ax_b_132_0 (Nat.le_of_ble_eq_true rfl) rfl ?_
  rcases hw with ⟨rfl, rfl⟩ | ⟨rfl, rfl⟩
  · have e5 : nI 5 = 5 := rfl
    rw [e5]
    simp only [ax_W_cons, ax_I, ax_cmp, ax_ii, ax_ll, ax_li, ax_st1, ax_st2, ax_kl, ax_k2, ax_fit, ax_rtok, List.getElem?_cons_zero, List.getElem?_cons_succ, List.length_cons, List.length_nil, List.set_cons_zero, List.set_cons_succ, Nat.reduceAdd, Nat.reduceDiv, Nat.reduceMod, Nat.reduceMul, Nat.reduceLT, Nat.reduceLeDiff, Int32.reduceOfInt, Int64.reduceOfInt, true_and, and_true, and_self, true_or, or_true, false_implies, true_implies, not_false_eq_true, not_true_eq_false, Value.category, Nat.reduceEqDiff, Option.toList, List.cons_append, List.nil_append, List.drop_succ_cons, List.drop_zero, ax_qq_eq, ax_t_132, ax_j_132_16, ax_n_132_16, h3, h10, h13, hal]
    refine ax_inv_of (Nat.le_of_ble_eq_true rfl) (Nat.le_of_ble_eq_true rfl) (fun _ => absurd ‹_› (by decide)) (fun h => absurd h (by decide)) (Nat.le_refl _) (Nat.le_refl _) (ax_Mt_mono (ck_max _ n sl es (nI b1) (nI b2)) ?_)
    rintro _ _ ⟨rfl, rfl⟩
    rw [mx]
    simp only [ax_W_cons, ax_I, ax_cmp, ax_ii, ax_ll, ax_li, ax_st1, ax_st2, ax_kl, ax_k2, ax_fit, ax_rtok, List.getElem?_cons_zero, List.getElem?_cons_succ, List.length_cons, List.length_nil, List.set_cons_zero, List.set_cons_succ, Nat.reduceAdd, Nat.reduceDiv, Nat.reduceMod, Nat.reduceMul, Nat.reduceLT, Nat.reduceLeDiff, Int32.reduceOfInt, Int64.reduceOfInt, true_and, and_true, and_self, true_or, or_true, false_implies, true_implies, not_false_eq_true, not_true_eq_false, Value.category, Nat.reduceEqDiff, Option.toList, List.cons_append, List.nil_append, List.drop_succ_cons, List.drop_zero, ax_qq_eq, ax_t_132, h10, hal, ax_up_same, ax_up_up]
    exact hQ
  · have e5 : nI 6 = 6 := rfl
    rw [e5]
    simp only [ax_W_cons, ax_I, ax_cmp, ax_ii, ax_ll, ax_li, ax_st1, ax_st2, ax_kl, ax_k2, ax_fit, ax_rtok, List.getElem?_cons_zero, List.getElem?_cons_succ, List.length_cons, List.length_nil, List.set_cons_zero, List.set_cons_succ, Nat.reduceAdd, Nat.reduceDiv, Nat.reduceMod, Nat.reduceMul, Nat.reduceLT, Nat.reduceLeDiff, Int32.reduceOfInt, Int64.reduceOfInt, true_and, and_true, and_self, true_or, or_true, false_implies, true_implies, not_false_eq_true, not_true_eq_false, Value.category, Nat.reduceEqDiff, Option.toList, List.cons_append, List.nil_append, List.drop_succ_cons, List.drop_zero, ax_qq_eq, ax_t_132, ax_j_132_12, ax_n_132_12, ax_j_132_16, ax_n_132_16, h3, h10, h13, hal, c65]
    refine ax_inv_of (Nat.le_of_ble_eq_true rfl) (Nat.le_of_ble_eq_true rfl) (fun _ => absurd ‹_› (by decide)) (fun h => absurd h (by decide)) (Nat.le_refl _) (Nat.le_refl _) (ax_Mt_mono (ck_max _ n sl es (nI b1) (nI b2)) ?_)
    rintro _ _ ⟨rfl, rfl⟩
    rw [mx]
    simp only [ax_W_cons, ax_I, ax_cmp, ax_ii, ax_ll, ax_li, ax_st1, ax_st2, ax_kl, ax_k2, ax_fit, ax_rtok, List.getElem?_cons_zero, List.getElem?_cons_succ, List.length_cons, List.length_nil, List.set_cons_zero, List.set_cons_succ, Nat.reduceAdd, Nat.reduceDiv, Nat.reduceMod, Nat.reduceMul, Nat.reduceLT, Nat.reduceLeDiff, Int32.reduceOfInt, Int64.reduceOfInt, true_and, and_true, and_self, true_or, or_true, false_implies, true_implies, not_false_eq_true, not_true_eq_false, Value.category, Nat.reduceEqDiff, Option.toList, List.cons_append, List.nil_append, List.drop_succ_cons, List.drop_zero, ax_qq_eq, ax_t_132, h13, hal, ax_up_same, ax_up_up]
    exact hQ
theorem yk_clear (hal : ax_al n = 159) (h : cCt3 es) (hQ : ∀ es', es' 3 = yCo 8 0 1 → es' 8 = .inl (0, 12, .inl (upd (fun _ => 0) 0 2)) → es' 10 = yl 10 0 0 → es' 13 = yl 13 0 0 → (∀ j, j ≠ 3 → j ≠ 8 → j ≠ 10 → j ≠ 13 → es' j = es j) → Q none es') : ax_Mt d 129 [.ref 3] n sl es Q := by
  obtain ⟨c0, c1, c2, c3, c4, c5, c6, c7, c8, c9, c10, c11, c12⟩ := h
  have v0 : vp_in 0 12 := nI_in (c := 0) (by decide) (by decide)
  have z0 : (0 : Int32).toNatClampNeg = 0 := rfl
  refine ax_Mt_go (m := ax_m_1_1) (ls := [some (.ref 3)]) rfl ax_b_129_0 (Nat.le_of_ble_eq_true rfl) rfl ?_
  simp only [ax_W_cons, ax_I, ax_cmp, ax_ii, ax_ll, ax_li, ax_st1, ax_st2, ax_kl, ax_k2, ax_fit, ax_rtok, List.getElem?_cons_zero, List.getElem?_cons_succ, List.length_cons, List.length_nil, List.set_cons_zero, List.set_cons_succ, Nat.reduceAdd, Nat.reduceDiv, Nat.reduceMod, Nat.reduceMul, Nat.reduceLT, Nat.reduceLeDiff, Int32.reduceOfInt, Int64.reduceOfInt, true_and, and_true, and_self, true_or, or_true, false_implies, true_implies, not_false_eq_true, not_true_eq_false, Value.category, Nat.reduceEqDiff, Option.toList, List.cons_append, List.nil_append, List.drop_succ_cons, List.drop_zero, ax_qq_eq, ax_t_129, c0, c5, c7, c10, hal, v0, z0, ax_up_same, ax_up_ne, ne_eq]
  refine hQ _ ?_ ?_ ?_ ?_ (fun j a b c d => ?_)
  · simp only [ax_up_same, ax_up_ne, ne_eq, Nat.reduceEqDiff, not_false_eq_true]
    rfl
  · simp only [ax_up_same, ax_up_ne, ne_eq, Nat.reduceEqDiff, not_false_eq_true]
  · simp only [ax_up_same, ax_up_ne, ne_eq, Nat.reduceEqDiff, not_false_eq_true]
    rfl
  · exact ax_up_same ..
  · rw [ax_up_ne _ _ d, ax_up_ne _ _ d, ax_up_ne _ _ c, ax_up_ne _ _ c, ax_up_ne _ _ a, ax_up_ne _ _ a, ax_up_ne _ _ b, ax_up_ne _ _ a, ax_up_ne _ _ a]
theorem yk_settle (hal : ax_al n = 159) (h3 : es 3 = yCo 8 0 1) (h9 : es 9 = .inl (0, 1000, .inl fun _ => 0)) (h10 : es 10 = yl 10 0 0) (h13 : es 13 = yl 13 0 0) (hQ : ∀ es', es' 9 = .inl (0, 1000, .inl (upd (upd (fun _ => 0) 0 1) 1 (-21))) → es' 10 = yl 10 0 1 → es' 13 = yl 13 1 2 → (∀ j, j ≠ 9 → j ≠ 10 → j ≠ 13 → es' j = es j) → Q none es') : ax_Mt (d + 12) 133 [.ref 3] n sl es Q := by
  have c00 : (0 : Int32) ≤ 0 := by decide
  have h3' := h3
  unfold yCo at h3'
  refine ax_Mt_go (m := ax_m_1_5) (ls := [some (.ref 3), none]) rfl ax_b_133_0 (Nat.le_of_ble_eq_true rfl) rfl ?_
  simp only [ax_W_cons, ax_I, ax_cmp, ax_ii, ax_ll, ax_li, ax_st1, ax_st2, ax_kl, ax_k2, ax_fit, ax_rtok, List.getElem?_cons_zero, List.getElem?_cons_succ, List.length_cons, List.length_nil, List.set_cons_zero, List.set_cons_succ, Nat.reduceAdd, Nat.reduceDiv, Nat.reduceMod, Nat.reduceMul, Nat.reduceLT, Nat.reduceLeDiff, Int32.reduceOfInt, Int64.reduceOfInt, true_and, and_true, and_self, true_or, or_true, false_implies, true_implies, not_false_eq_true, not_true_eq_false, Value.category, Nat.reduceEqDiff, Option.toList, List.cons_append, List.nil_append, List.drop_succ_cons, List.drop_zero, ax_qq_eq, ax_t_133]
  rw [ax_n_133_2]
  simp only [ax_W_cons, ax_I, ax_cmp, ax_ii, ax_ll, ax_li, ax_st1, ax_st2, ax_kl, ax_k2, ax_fit, ax_rtok, List.getElem?_cons_zero, List.getElem?_cons_succ, List.length_cons, List.length_nil, List.set_cons_zero, List.set_cons_succ, Nat.reduceAdd, Nat.reduceDiv, Nat.reduceMod, Nat.reduceMul, Nat.reduceLT, Nat.reduceLeDiff, Int32.reduceOfInt, Int64.reduceOfInt, true_and, and_true, and_self, true_or, or_true, false_implies, true_implies, not_false_eq_true, not_true_eq_false, Value.category, Nat.reduceEqDiff, Option.toList, List.cons_append, List.nil_append, List.drop_succ_cons, List.drop_zero, ax_qq_eq, ax_t_133, ax_j_133_37, ax_n_133_37, h3', hal, c00]
  refine ax_inv_of (Nat.le_of_ble_eq_true rfl) (Nat.le_of_ble_eq_true rfl) (fun _ => ax_rcv_ok (by omega) h3') (fun h => absurd h (by decide)) (Nat.le_refl _) (Nat.le_refl _) (yk_once hal h3 5 (by decide) ?_)
  simp only [ax_W_cons, ax_I, ax_cmp, ax_ii, ax_ll, ax_li, ax_st1, ax_st2, ax_kl, ax_k2, ax_fit, ax_rtok, List.getElem?_cons_zero, List.getElem?_cons_succ, List.length_cons, List.length_nil, List.set_cons_zero, List.set_cons_succ, Nat.reduceAdd, Nat.reduceDiv, Nat.reduceMod, Nat.reduceMul, Nat.reduceLT, Nat.reduceLeDiff, Int32.reduceOfInt, Int64.reduceOfInt, true_and, and_true, and_self, true_or, or_true, false_implies, true_implies, not_false_eq_true, not_true_eq_false, Value.category, Nat.reduceEqDiff, Option.toList, List.cons_append, List.nil_append, List.drop_succ_cons, List.drop_zero, ax_qq_eq, ax_t_133]
  refine ax_inv_of (Nat.le_of_ble_eq_true rfl) (Nat.le_of_ble_eq_true rfl) (fun _ => ax_rcv_ok (by omega) h3') (fun h => absurd h (by decide)) (Nat.le_refl _) (Nat.le_refl _) (yk_open (w := 5) (q := 10) (m := 0) hal (Or.inl ⟨rfl, rfl⟩) h3 h10 h13 (by decide) (by decide) (by decide) ?_)
  have f1 : ∀ e j, j ≠ 10 → ax_up es 10 e j = es j := fun e j hj => ax_up_ne _ _ hj
  simp only [ax_W_cons, ax_I, ax_cmp, ax_ii, ax_ll, ax_li, ax_st1, ax_st2, ax_kl, ax_k2, ax_fit, ax_rtok, List.getElem?_cons_zero, List.getElem?_cons_succ, List.length_cons, List.length_nil, List.set_cons_zero, List.set_cons_succ, Nat.reduceAdd, Nat.reduceDiv, Nat.reduceMod, Nat.reduceMul, Nat.reduceLT, Nat.reduceLeDiff, Int32.reduceOfInt, Int64.reduceOfInt, true_and, and_true, and_self, true_or, or_true, false_implies, true_implies, not_false_eq_true, not_true_eq_false, Value.category, Nat.reduceEqDiff, Option.toList, List.cons_append, List.nil_append, List.drop_succ_cons, List.drop_zero, ax_qq_eq, ax_t_133]
  refine ax_inv_of (Nat.le_of_ble_eq_true rfl) (Nat.le_of_ble_eq_true rfl) (fun _ => ax_rcv_ok (by omega) (ax_up_same ..)) (fun h => absurd h (by decide)) (Nat.le_refl _) (Nat.le_refl _) (yk_add (q := 10) (a := 0) (b := 0) hal (Or.inl rfl) (by decide) (ax_up_same ..) ((f1 _ 9 (by decide)).trans h9) 1 ?_)
  obtain ⟨es1, he1⟩ : ∃ x, x = ax_up (ax_up (ax_up es 10 (yl 10 0 0)) 9 (.inl (0, 1000, .inl (upd (fun _ => 0) 0 1)))) 10 (yl 10 0 (0 + 1)) := ⟨_, rfl⟩
  rw [← he1]
  have w10 : es1 10 = yl 10 0 1 := by rw [he1]; exact ax_up_same ..
  have w9 : es1 9 = .inl (0, 1000, .inl (upd (fun _ => 0) 0 1)) := by rw [he1, ax_up_ne _ _ (by decide)]; exact ax_up_same ..
  have g1 : ∀ j, j ≠ 9 → j ≠ 10 → es1 j = es j := fun j a b => by rw [he1, ax_up_ne _ _ b, ax_up_ne _ _ a, ax_up_ne _ _ b]
  clear he1
  have w3 := (g1 3 (by decide) (by decide)).trans h3
  have w3' := (g1 3 (by decide) (by decide)).trans h3'
  have w13 := (g1 13 (by decide) (by decide)).trans h13
  simp only [ax_W_cons, ax_I, ax_cmp, ax_ii, ax_ll, ax_li, ax_st1, ax_st2, ax_kl, ax_k2, ax_fit, ax_rtok, List.getElem?_cons_zero, List.getElem?_cons_succ, List.length_cons, List.length_nil, List.set_cons_zero, List.set_cons_succ, Nat.reduceAdd, Nat.reduceDiv, Nat.reduceMod, Nat.reduceMul, Nat.reduceLT, Nat.reduceLeDiff, Int32.reduceOfInt, Int64.reduceOfInt, true_and, and_true, and_self, true_or, or_true, false_implies, true_implies, not_false_eq_true, not_true_eq_false, Value.category, Nat.reduceEqDiff, Option.toList, List.cons_append, List.nil_append, List.drop_succ_cons, List.drop_zero, ax_qq_eq, ax_t_133, ax_j_133_54, ax_n_133_54]
  refine ax_inv_of (Nat.le_of_ble_eq_true rfl) (Nat.le_of_ble_eq_true rfl) (fun _ => ax_rcv_ok (by omega) w3') (fun h => absurd h (by decide)) (Nat.le_refl _) (Nat.le_refl _) (yk_once hal w3 6 (by decide) ?_)
  simp only [ax_W_cons, ax_I, ax_cmp, ax_ii, ax_ll, ax_li, ax_st1, ax_st2, ax_kl, ax_k2, ax_fit, ax_rtok, List.getElem?_cons_zero, List.getElem?_cons_succ, List.length_cons, List.length_nil, List.set_cons_zero, List.set_cons_succ, Nat.reduceAdd, Nat.reduceDiv, Nat.reduceMod, Nat.reduceMul, Nat.reduceLT, Nat.reduceLeDiff, Int32.reduceOfInt, Int64.reduceOfInt, true_and, and_true, and_self, true_or, or_true, false_implies, true_implies, not_false_eq_true, not_true_eq_false, Value.category, Nat.reduceEqDiff, Option.toList, List.cons_append, List.nil_append, List.drop_succ_cons, List.drop_zero, ax_qq_eq, ax_t_133]
  refine ax_inv_of (Nat.le_of_ble_eq_true rfl) (Nat.le_of_ble_eq_true rfl) (fun _ => ax_rcv_ok (by omega) w3') (fun h => absurd h (by decide)) (Nat.le_refl _) (Nat.le_refl _) (yk_open (w := 6) (q := 13) (m := 1) hal (Or.inr ⟨rfl, rfl⟩) w3 w10 w13 (by decide) (by decide) (by decide) ?_)
  have f2 : ∀ e j, j ≠ 13 → ax_up es1 13 e j = es1 j := fun e j hj => ax_up_ne _ _ hj
  simp only [ax_W_cons, ax_I, ax_cmp, ax_ii, ax_ll, ax_li, ax_st1, ax_st2, ax_kl, ax_k2, ax_fit, ax_rtok, List.getElem?_cons_zero, List.getElem?_cons_succ, List.length_cons, List.length_nil, List.set_cons_zero, List.set_cons_succ, Nat.reduceAdd, Nat.reduceDiv, Nat.reduceMod, Nat.reduceMul, Nat.reduceLT, Nat.reduceLeDiff, Int32.reduceOfInt, Int64.reduceOfInt, true_and, and_true, and_self, true_or, or_true, false_implies, true_implies, not_false_eq_true, not_true_eq_false, Value.category, Nat.reduceEqDiff, Option.toList, List.cons_append, List.nil_append, List.drop_succ_cons, List.drop_zero, ax_qq_eq, ax_t_133]
  refine ax_inv_of (Nat.le_of_ble_eq_true rfl) (Nat.le_of_ble_eq_true rfl) (fun _ => ax_rcv_ok (by omega) (ax_up_same ..)) (fun h => absurd h (by decide)) (Nat.le_refl _) (Nat.le_refl _) (yk_add (q := 13) (a := 1) (b := 1) hal (Or.inr rfl) (by decide) (ax_up_same ..) ((f2 _ 9 (by decide)).trans w9) (-21) ?_)
  simp only [ax_W_cons, ax_I, ax_cmp, ax_ii, ax_ll, ax_li, ax_st1, ax_st2, ax_kl, ax_k2, ax_fit, ax_rtok, List.getElem?_cons_zero, List.getElem?_cons_succ, List.length_cons, List.length_nil, List.set_cons_zero, List.set_cons_succ, Nat.reduceAdd, Nat.reduceDiv, Nat.reduceMod, Nat.reduceMul, Nat.reduceLT, Nat.reduceLeDiff, Int32.reduceOfInt, Int64.reduceOfInt, true_and, and_true, and_self, true_or, or_true, false_implies, true_implies, not_false_eq_true, not_true_eq_false, Value.category, Nat.reduceEqDiff, Option.toList, List.cons_append, List.nil_append, List.drop_succ_cons, List.drop_zero, ax_qq_eq, ax_t_133, ax_j_133_74, ax_n_133_74]
  refine hQ _ ?_ ?_ (ax_up_same ..) (fun j a b c => ?_)
  · rw [ax_up_ne _ _ (by decide)]
    exact ax_up_same ..
  · rw [ax_up_ne _ _ (by decide), ax_up_ne _ _ (by decide), ax_up_ne _ _ (by decide)]
    exact w10
  · rw [ax_up_ne _ _ c, ax_up_ne _ _ a, ax_up_ne _ _ c]
    exact g1 j a b
end YY
