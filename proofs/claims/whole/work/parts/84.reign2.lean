/-! the class: a line of a reign -/
def xQn (es : ax_H) (t : zTp) (a : Nat) (ls : zRl) (cs : List zCr) (tk : Int32) : Prop := xTk es t a tk 0 ∧ xRd es ∧ xRr es ls ∧ xTd es cs
def xQf (es : ax_H) (t : zTp) (x : Nat × Nat) : Prop := xTf es t (nI (x.1 + 16 * zpl t x.2)) ∧ xRd es ∧ xRs es
def xfQ (es es' : ax_H) : Prop := ∀ j, j ≠ 1 → (j < 34 ∨ 37 < j) → es' j = es j
theorem xfQ_trans {a b c : ax_H} (h1 : xfQ a b) (h2 : xfQ b c) : xfQ a c := fun j hj hk => (h2 j hj hk).trans (h1 j hj hk)
theorem xfQ_1 {a b : ax_H} (h : ∀ j, j ≠ 1 → b j = a j) : xfQ a b := fun j hj _ => h j hj
theorem xTd_fr {es es' : ax_H} {cs : List zCr} (h : xTd es cs) (h3 : es' 3 = es 3) (h7 : es' 7 = es 7) : xTd es' cs := by
  obtain ⟨⟨k, r2, r3, r4, fs, c3⟩, hl, nm, c7, hn⟩ := h
  exact ⟨⟨k, r2, r3, r4, fs, h3.trans c3⟩, hl, nm, h7.trans c7, hn⟩
theorem xRh_fr {es es' : ax_H} {L : Int32} {la lb lc : Nat → Int32} (h : xRh es L la lb lc) (hf : ∀ j, 34 ≤ j → j ≤ 37 → es' j = es j) : xRh es' L la lb lc := ⟨(hf 34 (by decide) (by decide)).trans h.1, (hf 35 (by decide) (by decide)).trans h.2.1, (hf 36 (by decide) (by decide)).trans h.2.2.1, (hf 37 (by decide) (by decide)).trans h.2.2.2⟩
theorem xQn_1 {es es' : ax_H} {t : zTp} {a a' : Nat} {ls : zRl} {cs : List zCr} {tk tk' : Int32} (X : xQn es t a ls cs tk) (h : xTk es' t a' tk' 0) (hf : ∀ j, j ≠ 1 → es' j = es j) : xQn es' t a' ls cs tk' := by
  obtain ⟨-, h2, ⟨h3, la, lb, lc, h4, h5⟩, h6⟩ := X
  exact ⟨h, xRd_fr h2 (hf 20 (by decide)), ⟨h3, la, lb, lc, xRh_fr h4 (fun j a b => hf j (by omega)), h5⟩, xTd_fr h6 (hf 3 (by decide)) (hf 7 (by decide))⟩
theorem xQn_f {es es' : ax_H} {t : zTp} {a : Nat} {x : Nat × Nat} {ls : zRl} {cs : List zCr} {tk : Int32} (X : xQn es t a ls cs tk) (h : xTf es' t (nI (x.1 + 16 * zpl t x.2))) (hf : ∀ j, j ≠ 1 → es' j = es j) : xQf es' t x := by
  obtain ⟨-, h2, ⟨h3, la, lb, lc, h4, h5⟩, h6⟩ := X
  exact ⟨h, xRd_fr h2 (hf 20 (by decide)), _, la, lb, lc, xRh_fr h4 (fun j a b => hf j (by omega))⟩
theorem xQn_a {es es' : ax_H} {t : zTp} {a : Nat} {ls ls' : zRl} {cs : List zCr} {tk : Int32} (X : xQn es t a ls cs tk) (h : xRr es' ls') (hf : ∀ j, (j < 34 ∨ 37 < j) → es' j = es j) : xQn es' t a ls' cs tk := ⟨xTk_fr X.1 (hf 1 (by decide)) (hf 2 (by decide)), xRd_fr X.2.1 (hf 20 (by decide)), h, xTd_fr X.2.2.2 (hf 3 (by decide)) (hf 7 (by decide))⟩
def xQc (n sl : Nat) (t : zTp) (M : Nat) (args : List Value) (cs : List zCr) (ls : zRl) (b : Nat) (P : zT2) : Prop := ∀ (d : Nat) (es : ax_H) (tk : Int32) (Q : Option Value → ax_H → Prop), xQn es t b ls cs tk → (∀ r es' tk', P = .inr r → xQn es' t r.1 r.2 cs tk' → xfQ es es' → Q (some (.int 1)) es') → (∀ x es', P = .inl x → xQf es' t x → xfQ es es' → Q (some (.int 0)) es') → ax_Mt (d + 14) M args n sl es Q
section TT
variable {n sl : Nat} {t : zTp} {a : Nat} {cs : List zCr} {ls : zRl}
theorem xRr_rcv {es : ax_H} (hal : ax_al n = 178) (h : xRr es ls) (As : List Value) : ax_rcv n es 7 (.ref 34 :: As) := by
  obtain ⟨-, la, lb, lc, h, -⟩ := h
  exact ax_rcv_ok (by omega) h.1
theorem ck_readTouch (hal : ax_al n = 178) (hT : zT_ok t) (hl : ls.length < 40) : xQc n sl t 783 [.ref 20] cs ls (a + 1) (zR7 t ls a) := by
  intro d es tk Q X hok hfail
  have c10 : ¬ (1 : Int32) = 0 := by decide
  have n0 : ((0 : Int32) = 0 ∨ (0 : Int32) = 1) := Or.inl rfl
  have n1 : ((1 : Int32) = 0 ∨ (1 : Int32) = 1) := Or.inr rfl
  unfold zR7 at hok hfail
  obtain ⟨rv, rb, w20⟩ := id X.2.1
  refine ax_Mt_go (m := ax_m_6_15) (ls := [some (.ref 20), none]) rfl ax_b_783_0 (Nat.le_of_ble_eq_true rfl) rfl ?_
  simp only [ax_W_cons, ax_I, ax_cmp, ax_ii, ax_ll, ax_li, ax_st1, ax_st2, ax_kl, ax_k2, ax_fit, ax_rtok, List.getElem?_cons_zero, List.getElem?_cons_succ, List.length_cons, List.length_nil, List.set_cons_zero, List.set_cons_succ, Nat.reduceAdd, Nat.reduceDiv, Nat.reduceMod, Nat.reduceMul, Nat.reduceLT, Nat.reduceLeDiff, Int32.reduceOfInt, Int64.reduceOfInt, true_and, and_true, and_self, true_or, or_true, false_implies, true_implies, not_false_eq_true, not_true_eq_false, Value.category, Nat.reduceEqDiff, Option.toList, List.cons_append, List.nil_append, List.drop_succ_cons, List.drop_zero, ax_qq_eq, ax_t_783, w20, hal]
  refine ax_inv_of (Nat.le_of_ble_eq_true rfl) (Nat.le_of_ble_eq_true rfl) (fun _ => xTk_rcv hal X.1 _) (fun h => absurd h (by decide)) (Nat.le_refl _) (Nat.le_refl _) (ck_takeNumber (lo := 0) (hi := 11) hal hT (by decide) (by decide) X.1 ?_ ?_)
  rotate_left
  · intro es1 k hN F1 f1
    rw [zNum_R hN] at hfail
    simp only [ax_W_cons, ax_I, ax_cmp, ax_ii, ax_ll, ax_li, ax_st1, ax_st2, ax_kl, ax_k2, ax_fit, ax_rtok, List.getElem?_cons_zero, List.getElem?_cons_succ, List.length_cons, List.length_nil, List.set_cons_zero, List.set_cons_succ, Nat.reduceAdd, Nat.reduceDiv, Nat.reduceMod, Nat.reduceMul, Nat.reduceLT, Nat.reduceLeDiff, Int32.reduceOfInt, Int64.reduceOfInt, true_and, and_true, and_self, true_or, or_true, false_implies, true_implies, not_false_eq_true, not_true_eq_false, Value.category, Nat.reduceEqDiff, Option.toList, List.cons_append, List.nil_append, List.drop_succ_cons, List.drop_zero, ax_qq_eq, ax_t_783, ax_j_783_15, ax_n_783_15, n0]
    exact hfail _ es1 rfl (xQn_f (x := (k, a + 1)) X F1 f1) (xfQ_1 f1)
  intro es1 h25 hN T1 f1
  rw [zNumR, if_pos h25, if_pos hN] at hok hfail
  have X1 := xQn_1 X T1 f1
  obtain ⟨⟨⟨nb1, nm1, w1, -⟩, -⟩, ⟨rv1, rb1, u1⟩, -⟩ := id X1
  have w1 : es1 1 = _ := w1
  simp only [ax_W_cons, ax_I, ax_cmp, ax_ii, ax_ll, ax_li, ax_st1, ax_st2, ax_kl, ax_k2, ax_fit, ax_rtok, List.getElem?_cons_zero, List.getElem?_cons_succ, List.length_cons, List.length_nil, List.set_cons_zero, List.set_cons_succ, Nat.reduceAdd, Nat.reduceDiv, Nat.reduceMod, Nat.reduceMul, Nat.reduceLT, Nat.reduceLeDiff, Int32.reduceOfInt, Int64.reduceOfInt, true_and, and_true, and_self, true_or, or_true, false_implies, true_implies, not_false_eq_true, not_true_eq_false, Value.category, Nat.reduceEqDiff, Option.toList, List.cons_append, List.nil_append, List.drop_succ_cons, List.drop_zero, ax_qq_eq, ax_t_783, ax_j_783_15, ax_n_783_15, c10, u1, w1, hal]
  refine ax_inv_of (Nat.le_of_ble_eq_true rfl) (Nat.le_of_ble_eq_true rfl) (fun _ => xTk_rcv hal X1.1 _) (fun h => absurd h (by decide)) (Nat.le_refl _) (Nat.le_refl _) (ck_takeNumber (lo := 1) (hi := 20) hal hT (by decide) (by decide) X1.1 ?_ ?_)
  rotate_left
  · intro es2 k hN2 F2 f2
    rw [zNum_R hN2] at hfail
    simp only [ax_W_cons, ax_I, ax_cmp, ax_ii, ax_ll, ax_li, ax_st1, ax_st2, ax_kl, ax_k2, ax_fit, ax_rtok, List.getElem?_cons_zero, List.getElem?_cons_succ, List.length_cons, List.length_nil, List.set_cons_zero, List.set_cons_succ, Nat.reduceAdd, Nat.reduceDiv, Nat.reduceMod, Nat.reduceMul, Nat.reduceLT, Nat.reduceLeDiff, Int32.reduceOfInt, Int64.reduceOfInt, true_and, and_true, and_self, true_or, or_true, false_implies, true_implies, not_false_eq_true, not_true_eq_false, Value.category, Nat.reduceEqDiff, Option.toList, List.cons_append, List.nil_append, List.drop_succ_cons, List.drop_zero, ax_qq_eq, ax_t_783, ax_j_783_38, ax_n_783_38, n0]
    exact hfail _ es2 rfl (xQn_f (x := (k, a + 2)) X1 F2 f2) (xfQ_trans (xfQ_1 f1) (xfQ_1 f2))
  intro es2 h25' hN2 T2 f2
  rw [zNumR, if_pos h25', if_pos hN2] at hok hfail
  have X2 := xQn_1 X1 T2 f2
  obtain ⟨⟨⟨nb2, nm2, w2, -⟩, -⟩, ⟨rv2, rb2, u2⟩, -⟩ := id X2
  have w2 : es2 1 = _ := w2
  simp only [ax_W_cons, ax_I, ax_cmp, ax_ii, ax_ll, ax_li, ax_st1, ax_st2, ax_kl, ax_k2, ax_fit, ax_rtok, List.getElem?_cons_zero, List.getElem?_cons_succ, List.length_cons, List.length_nil, List.set_cons_zero, List.set_cons_succ, Nat.reduceAdd, Nat.reduceDiv, Nat.reduceMod, Nat.reduceMul, Nat.reduceLT, Nat.reduceLeDiff, Int32.reduceOfInt, Int64.reduceOfInt, true_and, and_true, and_self, true_or, or_true, false_implies, true_implies, not_false_eq_true, not_true_eq_false, Value.category, Nat.reduceEqDiff, Option.toList, List.cons_append, List.nil_append, List.drop_succ_cons, List.drop_zero, ax_qq_eq, ax_t_783, ax_j_783_38, ax_n_783_38, c10, u2, w2, hal]
  refine ax_inv_of (Nat.le_of_ble_eq_true rfl) (Nat.le_of_ble_eq_true rfl) (fun _ => xRr_rcv hal X2.2.2.1 _) (fun h => absurd h (by decide)) (Nat.le_refl _) (Nat.le_refl _) (ck_rAdd hal X2.2.2.1 hl 7 (znb t (a + 1)) (znb t (a + 2)) ?_)
  intro es3 R3 f3
  have X3 := xQn_a X2 R3 f3
  obtain ⟨rv3, rb3, u3⟩ := id X3.2.1
  have ff : xfQ es es3 := xfQ_trans (xfQ_1 f1) (xfQ_trans (xfQ_1 f2) (fun j _ h => f3 j h))
  simp only [ax_W_cons, ax_I, ax_cmp, ax_ii, ax_ll, ax_li, ax_st1, ax_st2, ax_kl, ax_k2, ax_fit, ax_rtok, List.getElem?_cons_zero, List.getElem?_cons_succ, List.length_cons, List.length_nil, List.set_cons_zero, List.set_cons_succ, Nat.reduceAdd, Nat.reduceDiv, Nat.reduceMod, Nat.reduceMul, Nat.reduceLT, Nat.reduceLeDiff, Int32.reduceOfInt, Int64.reduceOfInt, true_and, and_true, and_self, true_or, or_true, false_implies, true_implies, not_false_eq_true, not_true_eq_false, Value.category, Nat.reduceEqDiff, Option.toList, List.cons_append, List.nil_append, List.drop_succ_cons, List.drop_zero, ax_qq_eq, ax_t_783, u3, hal]
  refine ax_inv_of (Nat.le_of_ble_eq_true rfl) (Nat.le_of_ble_eq_true rfl) (fun _ => xTk_rcv hal X3.1 _) (fun h => absurd h (by decide)) (Nat.le_refl _) (Nat.le_refl _) (ck_take (k := 59) hal hT (by decide) X3.1 ?_ ?_)
  · intro es4 h59 T4 f4
    rw [zSgnR, if_pos h59] at hok
    simp only [ax_W_cons, ax_I, ax_cmp, ax_ii, ax_ll, ax_li, ax_st1, ax_st2, ax_kl, ax_k2, ax_fit, ax_rtok, List.getElem?_cons_zero, List.getElem?_cons_succ, List.length_cons, List.length_nil, List.set_cons_zero, List.set_cons_succ, Nat.reduceAdd, Nat.reduceDiv, Nat.reduceMod, Nat.reduceMul, Nat.reduceLT, Nat.reduceLeDiff, Int32.reduceOfInt, Int64.reduceOfInt, true_and, and_true, and_self, true_or, or_true, false_implies, true_implies, not_false_eq_true, not_true_eq_false, Value.category, Nat.reduceEqDiff, Option.toList, List.cons_append, List.nil_append, List.drop_succ_cons, List.drop_zero, ax_qq_eq, ax_t_783, n1]
    exact hok _ es4 _ rfl (xQn_1 X3 T4 f4) (xfQ_trans ff (xfQ_1 f4))
  · intro es4 h59 T4 f4
    rw [zSgnR, if_neg h59] at hfail
    simp only [ax_W_cons, ax_I, ax_cmp, ax_ii, ax_ll, ax_li, ax_st1, ax_st2, ax_kl, ax_k2, ax_fit, ax_rtok, List.getElem?_cons_zero, List.getElem?_cons_succ, List.length_cons, List.length_nil, List.set_cons_zero, List.set_cons_succ, Nat.reduceAdd, Nat.reduceDiv, Nat.reduceMod, Nat.reduceMul, Nat.reduceLT, Nat.reduceLeDiff, Int32.reduceOfInt, Int64.reduceOfInt, true_and, and_true, and_self, true_or, or_true, false_implies, true_implies, not_false_eq_true, not_true_eq_false, Value.category, Nat.reduceEqDiff, Option.toList, List.cons_append, List.nil_append, List.drop_succ_cons, List.drop_zero, ax_qq_eq, ax_t_783, n0]
    exact hfail _ es4 rfl (xQn_f (x := (1, a + 3)) X3 T4 f4) (xfQ_trans ff (xfQ_1 f4))
theorem ck_readCellAct (hal : ax_al n = 178) (hT : zT_ok t) (hl : ls.length < 40) (act : Nat) : xQc n sl t 784 [.ref 20, .int (nI act)] cs ls (a + 1) (zR8 t act ls a) := by
  intro d es tk Q X hok hfail
  have c10 : ¬ (1 : Int32) = 0 := by decide
  have n0 : ((0 : Int32) = 0 ∨ (0 : Int32) = 1) := Or.inl rfl
  have n1 : ((1 : Int32) = 0 ∨ (1 : Int32) = 1) := Or.inr rfl
  unfold zR8 at hok hfail
  obtain ⟨rv, rb, w20⟩ := id X.2.1
  refine ax_Mt_go (m := ax_m_6_16) (ls := [some (.ref 20), some (.int (nI act))]) rfl ax_b_784_0 (Nat.le_of_ble_eq_true rfl) rfl ?_
  simp only [ax_W_cons, ax_I, ax_cmp, ax_ii, ax_ll, ax_li, ax_st1, ax_st2, ax_kl, ax_k2, ax_fit, ax_rtok, List.getElem?_cons_zero, List.getElem?_cons_succ, List.length_cons, List.length_nil, List.set_cons_zero, List.set_cons_succ, Nat.reduceAdd, Nat.reduceDiv, Nat.reduceMod, Nat.reduceMul, Nat.reduceLT, Nat.reduceLeDiff, Int32.reduceOfInt, Int64.reduceOfInt, true_and, and_true, and_self, true_or, or_true, false_implies, true_implies, not_false_eq_true, not_true_eq_false, Value.category, Nat.reduceEqDiff, Option.toList, List.cons_append, List.nil_append, List.drop_succ_cons, List.drop_zero, ax_qq_eq, ax_t_784, w20, hal]
  refine ax_inv_of (Nat.le_of_ble_eq_true rfl) (Nat.le_of_ble_eq_true rfl) (fun _ => xTk_rcv hal X.1 _) (fun h => absurd h (by decide)) (Nat.le_refl _) (Nat.le_refl _) (ck_takeNumber (lo := 0) (hi := 11) hal hT (by decide) (by decide) X.1 ?_ ?_)
  rotate_left
  · intro es1 k hN F1 f1
    rw [zNum_R hN] at hfail
    simp only [ax_W_cons, ax_I, ax_cmp, ax_ii, ax_ll, ax_li, ax_st1, ax_st2, ax_kl, ax_k2, ax_fit, ax_rtok, List.getElem?_cons_zero, List.getElem?_cons_succ, List.length_cons, List.length_nil, List.set_cons_zero, List.set_cons_succ, Nat.reduceAdd, Nat.reduceDiv, Nat.reduceMod, Nat.reduceMul, Nat.reduceLT, Nat.reduceLeDiff, Int32.reduceOfInt, Int64.reduceOfInt, true_and, and_true, and_self, true_or, or_true, false_implies, true_implies, not_false_eq_true, not_true_eq_false, Value.category, Nat.reduceEqDiff, Option.toList, List.cons_append, List.nil_append, List.drop_succ_cons, List.drop_zero, ax_qq_eq, ax_t_784, ax_j_784_15, ax_n_784_15, n0]
    exact hfail _ es1 rfl (xQn_f (x := (k, a + 1)) X F1 f1) (xfQ_1 f1)
  intro es1 h25 hN T1 f1
  rw [zNumR, if_pos h25, if_pos hN] at hok hfail
  have X2 := xQn_1 X T1 f1
  obtain ⟨⟨⟨nb2, nm2, w2, -⟩, -⟩, ⟨rv2, rb2, u2⟩, -⟩ := id X2
  have w2 : es1 1 = _ := w2
  simp only [ax_W_cons, ax_I, ax_cmp, ax_ii, ax_ll, ax_li, ax_st1, ax_st2, ax_kl, ax_k2, ax_fit, ax_rtok, List.getElem?_cons_zero, List.getElem?_cons_succ, List.length_cons, List.length_nil, List.set_cons_zero, List.set_cons_succ, Nat.reduceAdd, Nat.reduceDiv, Nat.reduceMod, Nat.reduceMul, Nat.reduceLT, Nat.reduceLeDiff, Int32.reduceOfInt, Int64.reduceOfInt, true_and, and_true, and_self, true_or, or_true, false_implies, true_implies, not_false_eq_true, not_true_eq_false, Value.category, Nat.reduceEqDiff, Option.toList, List.cons_append, List.nil_append, List.drop_succ_cons, List.drop_zero, ax_qq_eq, ax_t_784, ax_j_784_15, ax_n_784_15, c10, u2, w2, hal]
  refine ax_inv_of (Nat.le_of_ble_eq_true rfl) (Nat.le_of_ble_eq_true rfl) (fun _ => xRr_rcv hal X2.2.2.1 _) (fun h => absurd h (by decide)) (Nat.le_refl _) (Nat.le_refl _) (ck_rAdd hal X2.2.2.1 hl act (znb t (a + 1)) 0 ?_)
  intro es3 R3 f3
  have X3 := xQn_a X2 R3 f3
  obtain ⟨rv3, rb3, u3⟩ := id X3.2.1
  have ff : xfQ es es3 := xfQ_trans (xfQ_1 f1) (fun j _ h => f3 j h)
  simp only [ax_W_cons, ax_I, ax_cmp, ax_ii, ax_ll, ax_li, ax_st1, ax_st2, ax_kl, ax_k2, ax_fit, ax_rtok, List.getElem?_cons_zero, List.getElem?_cons_succ, List.length_cons, List.length_nil, List.set_cons_zero, List.set_cons_succ, Nat.reduceAdd, Nat.reduceDiv, Nat.reduceMod, Nat.reduceMul, Nat.reduceLT, Nat.reduceLeDiff, Int32.reduceOfInt, Int64.reduceOfInt, true_and, and_true, and_self, true_or, or_true, false_implies, true_implies, not_false_eq_true, not_true_eq_false, Value.category, Nat.reduceEqDiff, Option.toList, List.cons_append, List.nil_append, List.drop_succ_cons, List.drop_zero, ax_qq_eq, ax_t_784, u3, hal]
  refine ax_inv_of (Nat.le_of_ble_eq_true rfl) (Nat.le_of_ble_eq_true rfl) (fun _ => xTk_rcv hal X3.1 _) (fun h => absurd h (by decide)) (Nat.le_refl _) (Nat.le_refl _) (ck_take (k := 59) hal hT (by decide) X3.1 ?_ ?_)
  · intro es4 h59 T4 f4
    rw [zSgnR, if_pos h59] at hok
    simp only [ax_W_cons, ax_I, ax_cmp, ax_ii, ax_ll, ax_li, ax_st1, ax_st2, ax_kl, ax_k2, ax_fit, ax_rtok, List.getElem?_cons_zero, List.getElem?_cons_succ, List.length_cons, List.length_nil, List.set_cons_zero, List.set_cons_succ, Nat.reduceAdd, Nat.reduceDiv, Nat.reduceMod, Nat.reduceMul, Nat.reduceLT, Nat.reduceLeDiff, Int32.reduceOfInt, Int64.reduceOfInt, true_and, and_true, and_self, true_or, or_true, false_implies, true_implies, not_false_eq_true, not_true_eq_false, Value.category, Nat.reduceEqDiff, Option.toList, List.cons_append, List.nil_append, List.drop_succ_cons, List.drop_zero, ax_qq_eq, ax_t_784, n1]
    exact hok _ es4 _ rfl (xQn_1 X3 T4 f4) (xfQ_trans ff (xfQ_1 f4))
  · intro es4 h59 T4 f4
    rw [zSgnR, if_neg h59] at hfail
    simp only [ax_W_cons, ax_I, ax_cmp, ax_ii, ax_ll, ax_li, ax_st1, ax_st2, ax_kl, ax_k2, ax_fit, ax_rtok, List.getElem?_cons_zero, List.getElem?_cons_succ, List.length_cons, List.length_nil, List.set_cons_zero, List.set_cons_succ, Nat.reduceAdd, Nat.reduceDiv, Nat.reduceMod, Nat.reduceMul, Nat.reduceLT, Nat.reduceLeDiff, Int32.reduceOfInt, Int64.reduceOfInt, true_and, and_true, and_self, true_or, or_true, false_implies, true_implies, not_false_eq_true, not_true_eq_false, Value.category, Nat.reduceEqDiff, Option.toList, List.cons_append, List.nil_append, List.drop_succ_cons, List.drop_zero, ax_qq_eq, ax_t_784, n0]
    exact hfail _ es4 rfl (xQn_f (x := (1, a + 2)) X3 T4 f4) (xfQ_trans ff (xfQ_1 f4))
end TT
