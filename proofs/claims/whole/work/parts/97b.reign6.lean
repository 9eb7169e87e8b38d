/-! the reference: the lines of a reign -/
def rG (es es0 : ax_H) (t : zTp) (c : rC) (a : Nat) (fl : Int32) (v : rV) (ln : Nat → Int32) : Prop := rS es t c a fl v ∧ es 170 = .inl (0, 250, .inl ln) ∧ ∀ j, j ≠ 159 → j ≠ 170 → es j = es0 j
def rNm (es : ax_H) (c : rC) (cs : List zCr) : Prop := c.2.1 = nI cs.length ∧ cs.length ≤ 6 ∧ ∃ nm, es 168 = .inl (3, 6, .inr (.inl nm)) ∧ ∀ i, i < cs.length → nm i = nL (zv37 (cs.getD i zC0).2.2.2) ∧ zWd (cs.getD i zC0).2.2.2
def zrn (ls : zRl) (ln : Nat → Int32) : Prop := ∀ i, i < ls.length → ln (125 + 3 * i) = nI ((ls.getD i (0, 0, 0)).1 - 7) ∧ ln (125 + 3 * i + 1) = nI (ls.getD i (0, 0, 0)).2.1 ∧ ln (125 + 3 * i + 2) = nI (ls.getD i (0, 0, 0)).2.2
def rl5 (ln ln' : Nat → Int32) : Prop := ∀ j, j < 125 → ln' j = ln j
section TT
variable {d n sl : Nat} {es es0 : ax_H} {t : zTp} {c : rC} {a : Nat} {fl : Int32} {v : rV} {cs : List zCr} {ln : Nat → Int32} {Q : Option Value → ax_H → Prop}
theorem rG_1 {es' : ax_H} {a' : Nat} {fl' : Int32} {v' : rV} (h : rG es es0 t c a fl v ln) (h1 : rS es' t c a' fl' v') (hf : ∀ j, j ≠ 159 → es' j = es j) : rG es' es0 t c a' fl' v' ln := ⟨h1, (hf 170 (by decide)).trans h.2.1, fun j q1 q2 => (hf j q1).trans (h.2.2 j q1 q2)⟩
theorem rG_ln {ln' : Nat → Int32} (h : rG es es0 t c a fl v ln) : rG (ax_up es 170 (.inl (0, 250, .inl ln'))) es0 t c a fl v ln' := ⟨rS_up h.1 ((ax_up_ne _ _ (by decide)).trans h.1.1) (fun j _ h5 => ax_up_ne _ _ (by omega)) h.1.2.2.2, ax_up_same .., fun j q1 q2 => (ax_up_ne _ _ q2).trans (h.2.2 j q1 q2)⟩
theorem mk_takeTold0 (hal : ax_al n = 178) (ht : zT_ok t) (h : rS es t c a 0 v) (hN : rNm es c cs) (u : Int32) (h1 : ∀ es' i, zName t a → zFnd cs (zwd t a) 0 = some i → i < 6 → ¬ nI i = u → rS es' t c (a + 1) 0 v → (∀ j, j ≠ 159 → es' j = es j) → Q (some (.int (nI i))) es') (h0 : ∀ es' k, (k = 1 ∧ ¬ zName t a ∨ k = 2 ∧ zName t a ∧ zFnd cs (zwd t a) 0 = none ∨ k = 3 ∧ zName t a ∧ ∃ i, zFnd cs (zwd t a) 0 = some i ∧ i < 6 ∧ nI i = u) → rS es' t c a (nI (k + 16 * zpl t a)) v → rFl (nI (k + 16 * zpl t a)) → (∀ j, j ≠ 159 → es' j = es j) → Q (some (.int 0)) es') : ax_Mt (d + 3) 1432 [.ref 159, .int u] n sl es Q := by
  obtain ⟨n1, n2, nm, n3, n4⟩ := hN
  have w0 : es 159 = _ := h.1
  have c10 : ¬ (1 : Int32) = 0 := by decide
  have c00 : (0 : Int32) ≤ 0 := by decide
  have a5 : nI a + 0 = nI a := Int32.add_zero _
  have fin : ∀ es1 k l2, rS es1 t c a (nI (k + 16 * zpl t a)) v → rFl (nI (k + 16 * zpl t a)) → Q (some (.int 0)) es1 → ax_J ax_W (d + 3) n sl 1432 72 [some (.ref 159), some (.int u), l2] [] n sl es1 (ax_qq n sl Q) := by
    intro es1 k l2 S1 g1 hq
    have v0 : es1 159 = _ := S1.1
    have g2 := g1.2
    rw [← rup_id v0] at hq
    simp only [ax_W_cons, ax_I, ax_cmp, ax_ii, ax_ll, ax_li, ax_st1, ax_st2, ax_kl, ax_k2, ax_fit, ax_rtok, List.getElem?_cons_zero, List.getElem?_cons_succ, List.length_cons, List.length_nil, List.set_cons_zero, List.set_cons_succ, Nat.reduceAdd, Nat.reduceDiv, Nat.reduceMod, Nat.reduceMul, Nat.reduceLT, Nat.reduceLeDiff, Int32.reduceOfInt, Int64.reduceOfInt, true_and, and_true, and_self, true_or, or_true, false_implies, true_implies, not_false_eq_true, not_true_eq_false, Value.category, Nat.reduceEqDiff, Option.toList, List.cons_append, List.nil_append, List.drop_succ_cons, List.drop_zero, ax_qq_eq, ax_t_1432, ax_j_1432_72, ax_n_1432_72, ax_j_1432_89, ax_n_1432_89, ax_j_1432_105, ax_n_1432_105, v0, mo_f, hal, g2, a5, ax_up_same]
    exact hq
  refine ax_Mt_go (m := ax_m_11_24) (ls := [some (.ref 159), some (.int u), none]) rfl ax_b_1432_0 (Nat.le_of_ble_eq_true rfl) rfl ?_
  simp only [ax_W_cons, ax_I, ax_cmp, ax_ii, ax_ll, ax_li, ax_st1, ax_st2, ax_kl, ax_k2, ax_fit, ax_rtok, List.getElem?_cons_zero, List.getElem?_cons_succ, List.length_cons, List.length_nil, List.set_cons_zero, List.set_cons_succ, Nat.reduceAdd, Nat.reduceDiv, Nat.reduceMod, Nat.reduceMul, Nat.reduceLT, Nat.reduceLeDiff, Int32.reduceOfInt, Int64.reduceOfInt, true_and, and_true, and_self, true_or, or_true, false_implies, true_implies, not_false_eq_true, not_true_eq_false, Value.category, Nat.reduceEqDiff, Option.toList, List.cons_append, List.nil_append, List.drop_succ_cons, List.drop_zero, ax_qq_eq, ax_t_1432, w0, mo_f, hal]
  refine ax_inv_of (Nat.le_of_ble_eq_true rfl) (Nat.le_of_ble_eq_true rfl) (fun _ => rS_rcv hal h _) (fun h => absurd h (by decide)) (Nat.le_refl _) (Nat.le_refl _) (mk_isName hal ht h ?_)
  by_cases hn : zName t a
  rotate_left
  · rw [decide_eq_false (fun z => hn z.2)]
    simp only [ax_W_cons, ax_I, ax_cmp, ax_ii, ax_ll, ax_li, ax_st1, ax_st2, ax_kl, ax_k2, ax_fit, ax_rtok, List.getElem?_cons_zero, List.getElem?_cons_succ, List.length_cons, List.length_nil, List.set_cons_zero, List.set_cons_succ, Nat.reduceAdd, Nat.reduceDiv, Nat.reduceMod, Nat.reduceMul, Nat.reduceLT, Nat.reduceLeDiff, Int32.reduceOfInt, Int64.reduceOfInt, true_and, and_true, and_self, true_or, or_true, false_implies, true_implies, not_false_eq_true, not_true_eq_false, Value.category, Nat.reduceEqDiff, Option.toList, List.cons_append, List.nil_append, List.drop_succ_cons, List.drop_zero, ax_qq_eq, ax_t_1432, kx_bf]
    refine ax_inv_of (Nat.le_of_ble_eq_true rfl) (Nat.le_of_ble_eq_true rfl) (fun _ => rS_rcv hal h _) (fun h => absurd h (by decide)) (Nat.le_refl _) (Nat.le_refl _) (mk_wrong0 (k := 1) hal ht h (by decide) (by decide) ?_)
    intro es1 S1 g1 f1
    have v0 : es1 159 = _ := S1.1
    have g2 := g1.2
    have g3 := g1.1
    have fin := fin es1 1 (some (.int (-1))) S1 g1 (h0 es1 1 (Or.inl ⟨rfl, hn⟩) S1 g1 f1)
    simp only [ax_W_cons, ax_I, ax_cmp, ax_ii, ax_ll, ax_li, ax_st1, ax_st2, ax_kl, ax_k2, ax_fit, ax_rtok, List.getElem?_cons_zero, List.getElem?_cons_succ, List.length_cons, List.length_nil, List.set_cons_zero, List.set_cons_succ, Nat.reduceAdd, Nat.reduceDiv, Nat.reduceMod, Nat.reduceMul, Nat.reduceLT, Nat.reduceLeDiff, Int32.reduceOfInt, Int64.reduceOfInt, true_and, and_true, and_self, true_or, or_true, false_implies, true_implies, not_false_eq_true, not_true_eq_false, Value.category, Nat.reduceEqDiff, Option.toList, List.cons_append, List.nil_append, List.drop_succ_cons, List.drop_zero, ax_qq_eq, ax_t_1432, ax_j_1432_19, ax_n_1432_19, ax_j_1432_35, ax_n_1432_35, ax_j_1432_55, ax_n_1432_55, v0, mo_f, hal, g2, g3]
    exact fin
  rw [decide_eq_true ⟨rfl, hn⟩]
  have h24 := zName_26 hn
  simp only [ax_W_cons, ax_I, ax_cmp, ax_ii, ax_ll, ax_li, ax_st1, ax_st2, ax_kl, ax_k2, ax_fit, ax_rtok, List.getElem?_cons_zero, List.getElem?_cons_succ, List.length_cons, List.length_nil, List.set_cons_zero, List.set_cons_succ, Nat.reduceAdd, Nat.reduceDiv, Nat.reduceMod, Nat.reduceMul, Nat.reduceLT, Nat.reduceLeDiff, Int32.reduceOfInt, Int64.reduceOfInt, true_and, and_true, and_self, true_or, or_true, false_implies, true_implies, not_false_eq_true, not_true_eq_false, Value.category, Nat.reduceEqDiff, Option.toList, List.cons_append, List.nil_append, List.drop_succ_cons, List.drop_zero, ax_qq_eq, ax_t_1432, ax_j_1432_19, ax_n_1432_19, ax_j_1432_30, ax_n_1432_30, kx_bt, c10, w0, mo_f, hal, c00]
  refine ax_inv_of (Nat.le_of_ble_eq_true rfl) (Nat.le_of_ble_eq_true rfl) (fun _ => rS_rcv hal h _) (fun h => absurd h (by decide)) (Nat.le_refl _) (Nat.le_refl _) (mk_nameAt (rd := false) (cs := cs) hal ht h h24 n3 (by rw [if_neg (by decide)]; exact n1) n2 n4 ?_)
  cases hF : zFnd cs (zwd t a) 0 with
  | none =>
    have e1 : ¬ (0 : Int32) ≤ zFi none := by decide
    simp only [ax_W_cons, ax_I, ax_cmp, ax_ii, ax_ll, ax_li, ax_st1, ax_st2, ax_kl, ax_k2, ax_fit, ax_rtok, List.getElem?_cons_zero, List.getElem?_cons_succ, List.length_cons, List.length_nil, List.set_cons_zero, List.set_cons_succ, Nat.reduceAdd, Nat.reduceDiv, Nat.reduceMod, Nat.reduceMul, Nat.reduceLT, Nat.reduceLeDiff, Int32.reduceOfInt, Int64.reduceOfInt, true_and, and_true, and_self, true_or, or_true, false_implies, true_implies, not_false_eq_true, not_true_eq_false, Value.category, Nat.reduceEqDiff, Option.toList, List.cons_append, List.nil_append, List.drop_succ_cons, List.drop_zero, ax_qq_eq, ax_t_1432, ax_j_1432_35, ax_n_1432_35, w0, mo_f, hal, e1]
    refine ax_inv_of (Nat.le_of_ble_eq_true rfl) (Nat.le_of_ble_eq_true rfl) (fun _ => rS_rcv hal h _) (fun h => absurd h (by decide)) (Nat.le_refl _) (Nat.le_refl _) (mk_wrong0 (k := 2) hal ht h (by decide) (by decide) ?_)
    intro es1 S1 g1 f1
    have fin := fin es1 2 (some (.int (zFi none))) S1 g1 (h0 es1 2 (Or.inr (Or.inl ⟨rfl, hn, hF⟩)) S1 g1 f1)
    simp only [ax_W_cons, ax_I, ax_cmp, ax_ii, ax_ll, ax_li, ax_st1, ax_st2, ax_kl, ax_k2, ax_fit, ax_rtok, List.getElem?_cons_zero, List.getElem?_cons_succ, List.length_cons, List.length_nil, List.set_cons_zero, List.set_cons_succ, Nat.reduceAdd, Nat.reduceDiv, Nat.reduceMod, Nat.reduceMul, Nat.reduceLT, Nat.reduceLeDiff, Int32.reduceOfInt, Int64.reduceOfInt, true_and, and_true, and_self, true_or, or_true, false_implies, true_implies, not_false_eq_true, not_true_eq_false, Value.category, Nat.reduceEqDiff, Option.toList, List.cons_append, List.nil_append, List.drop_succ_cons, List.drop_zero, ax_qq_eq, ax_t_1432]
    exact fin
  | some i =>
    have hlt := zFnd_lt _ _ _ _ hF
    have e0 : zFi (some i) = nI i := rfl
    rw [e0]
    have e1 : (0 : Int32) ≤ nI i := nI_le (a := 0) (Nat.zero_le _) (by omega)
    by_cases hu : nI i = u
    · subst hu
      simp only [ax_W_cons, ax_I, ax_cmp, ax_ii, ax_ll, ax_li, ax_st1, ax_st2, ax_kl, ax_k2, ax_fit, ax_rtok, List.getElem?_cons_zero, List.getElem?_cons_succ, List.length_cons, List.length_nil, List.set_cons_zero, List.set_cons_succ, Nat.reduceAdd, Nat.reduceDiv, Nat.reduceMod, Nat.reduceMul, Nat.reduceLT, Nat.reduceLeDiff, Int32.reduceOfInt, Int64.reduceOfInt, true_and, and_true, and_self, true_or, or_true, false_implies, true_implies, not_false_eq_true, not_true_eq_false, Value.category, Nat.reduceEqDiff, Option.toList, List.cons_append, List.nil_append, List.drop_succ_cons, List.drop_zero, ax_qq_eq, ax_t_1432, ax_j_1432_35, ax_n_1432_35, ax_j_1432_55, ax_n_1432_55, w0, mo_f, hal, e1]
      refine ax_inv_of (Nat.le_of_ble_eq_true rfl) (Nat.le_of_ble_eq_true rfl) (fun _ => rS_rcv hal h _) (fun h => absurd h (by decide)) (Nat.le_refl _) (Nat.le_refl _) (mk_wrong0 (k := 3) hal ht h (by decide) (by decide) ?_)
      intro es1 S1 g1 f1
      have fin := fin es1 3 (some (.int (nI i))) S1 g1 (h0 es1 3 (Or.inr (Or.inr ⟨rfl, hn, i, hF, by omega, rfl⟩)) S1 g1 f1)
      rw [ax_j_1432_72, ← ax_n_1432_72] at fin
      simp only [ax_W_cons, ax_I, ax_cmp, ax_ii, ax_ll, ax_li, ax_st1, ax_st2, ax_kl, ax_k2, ax_fit, ax_rtok, List.getElem?_cons_zero, List.getElem?_cons_succ, List.length_cons, List.length_nil, List.set_cons_zero, List.set_cons_succ, Nat.reduceAdd, Nat.reduceDiv, Nat.reduceMod, Nat.reduceMul, Nat.reduceLT, Nat.reduceLeDiff, Int32.reduceOfInt, Int64.reduceOfInt, true_and, and_true, and_self, true_or, or_true, false_implies, true_implies, not_false_eq_true, not_true_eq_false, Value.category, Nat.reduceEqDiff, Option.toList, List.cons_append, List.nil_append, List.drop_succ_cons, List.drop_zero, ax_qq_eq, ax_t_1432]
      exact fin
    · have a4 : nI a + 1 = nI (a + 1) := (nI_succ a).symm
      have ok := h1 _ i hn hF (by omega) hu (rS_up h (ax_up_same ..) (fun j hj _ => ax_up_ne es (.inr (11, mo_f 0 0 c.1 (nI (a + 1)) 0 (nI v.1) c.2.1 (nI v.2.1) v.2.2.1 v.2.2.2 c.2.2.1 c.2.2.2)) hj) (zpre_s h.2.2.2 (by omega))) (fun j hj => ax_up_ne _ _ hj)
      simp only [ax_W_cons, ax_I, ax_cmp, ax_ii, ax_ll, ax_li, ax_st1, ax_st2, ax_kl, ax_k2, ax_fit, ax_rtok, List.getElem?_cons_zero, List.getElem?_cons_succ, List.length_cons, List.length_nil, List.set_cons_zero, List.set_cons_succ, Nat.reduceAdd, Nat.reduceDiv, Nat.reduceMod, Nat.reduceMul, Nat.reduceLT, Nat.reduceLeDiff, Int32.reduceOfInt, Int64.reduceOfInt, true_and, and_true, and_self, true_or, or_true, false_implies, true_implies, not_false_eq_true, not_true_eq_false, Value.category, Nat.reduceEqDiff, Option.toList, List.cons_append, List.nil_append, List.drop_succ_cons, List.drop_zero, ax_qq_eq, ax_t_1432, ax_j_1432_35, ax_n_1432_35, ax_j_1432_55, ax_n_1432_55, ax_j_1432_72, ax_n_1432_72, ax_j_1432_88, ax_n_1432_88, ax_j_1432_89, ax_n_1432_89, ax_j_1432_104, ax_n_1432_104, ax_j_1432_105, ax_n_1432_105, w0, mo_f, hal, e1, hu, c00, a4, ax_up_same]
      exact ok
theorem mk_takeTold1 (hal : ax_al n = 178) (h : rS es t c a fl v) (hf : rFl fl) (u : Int32) (hQ : Q (some (.int 0)) es) : ax_Mt (d + 3) 1432 [.ref 159, .int u] n sl es Q := by
  have w0 : es 159 = _ := h.1
  have f1 := hf.1
  have f2 := hf.2
  have a5 : nI a + 0 = nI a := Int32.add_zero _
  rw [← rup_id w0] at hQ
  refine ax_Mt_go (m := ax_m_11_24) (ls := [some (.ref 159), some (.int u), none]) rfl ax_b_1432_0 (Nat.le_of_ble_eq_true rfl) rfl ?_
  simp only [ax_W_cons, ax_I, ax_cmp, ax_ii, ax_ll, ax_li, ax_st1, ax_st2, ax_kl, ax_k2, ax_fit, ax_rtok, List.getElem?_cons_zero, List.getElem?_cons_succ, List.length_cons, List.length_nil, List.set_cons_zero, List.set_cons_succ, Nat.reduceAdd, Nat.reduceDiv, Nat.reduceMod, Nat.reduceMul, Nat.reduceLT, Nat.reduceLeDiff, Int32.reduceOfInt, Int64.reduceOfInt, true_and, and_true, and_self, true_or, or_true, false_implies, true_implies, not_false_eq_true, not_true_eq_false, Value.category, Nat.reduceEqDiff, Option.toList, List.cons_append, List.nil_append, List.drop_succ_cons, List.drop_zero, ax_qq_eq, ax_t_1432, ax_j_1432_19, ax_n_1432_19, ax_j_1432_35, ax_n_1432_35, ax_j_1432_55, ax_n_1432_55, ax_j_1432_72, ax_n_1432_72, ax_j_1432_89, ax_n_1432_89, ax_j_1432_105, ax_n_1432_105, w0, mo_f, hal, f1, f2, a5, ax_up_same]
  exact hQ
theorem zrn_push {ls : zRl} {ln ln' : Nat → Int32} {x y z : Nat} (h : zrn ls ln) (h1 : ln' (125 + 3 * ls.length) = nI (x - 7)) (h2 : ln' (125 + 3 * ls.length + 1) = nI y) (h3 : ln' (125 + 3 * ls.length + 2) = nI z) (hl : ∀ j, j < 125 + 3 * ls.length → ln' j = ln j) : zrn (ls ++ [(x, y, z)]) ln' := by
  intro i hi
  rw [List.length_append, List.length_singleton] at hi
  by_cases e : i = ls.length
  · subst e
    rw [zgetD_r]
    exact ⟨h1, h2, h3⟩
  · rw [zgetD_l _ _ _ (by omega), hl _ (by omega), hl _ (by omega), hl _ (by omega)]
    exact h i (by omega)
theorem mk_rline (hal : ax_al n = 178) (ht : zT_ok t) (hN : rNm es0 c cs) {ls : zRl} (hk1 : 7 ≤ zkd t a) (hk2 : zkd t a ≤ 12) (hl : ls.length < 40) (G : rG es es0 t c a 0 v ln) (hr : zrn ls ln) {l3 : Option Value}
  (hok : ∀ es' a' ln' ls' l2 l3, zRline t cs ls a = .inr (a', ls') → a < a' → ls'.length = ls.length + 1 → rG es' es0 t c a' 0 v ln' → zrn ls' ln' → rl5 ln ln' → ax_J ax_W (d + 6) n sl 1437 11 [some (.ref 159), some (.int (nI (ls.length + 1))), l2, l3] [] n sl es' (ax_qq n sl Q))
  (hbad : ∀ es' x ln' l2 l3, zRline t cs ls a = .inl x → rG es' es0 t c x.2 (nI (x.1 + 16 * zpl t x.2)) v ln' → rFl (nI (x.1 + 16 * zpl t x.2)) → rl5 ln ln' → ax_J ax_W (d + 6) n sl 1437 11 [some (.ref 159), some (.int (nI (ls.length + 1))), l2, l3] [] n sl es' (ax_qq n sl Q)) :
  ax_J ax_W (d + 6) n sl 1437 65 [some (.ref 159), some (.int (nI ls.length)), some (.int (nI (zkd t a - 7))), l3] [] n sl es (ax_qq n sl Q) := by
  have c10 : ¬ (1 : Int32) = 0 := by decide
  obtain ⟨ix, hix⟩ : ∃ x, x = 125 + 3 * ls.length := ⟨_, rfl⟩
  have i0 : 125 + 3 * nI ls.length = nI ix := by
    show nI 125 + nI 3 * nI ls.length = _
    rw [kn_mul, kn_add, hix]
  have i1 : vp_in (nI ix) 250 := nI_in (by omega) (by decide)
  have i2 : (nI ix).toNatClampNeg = ix := nI_clamp (by omega)
  have i3 : nI ix + 1 = nI (ix + 1) := (nI_succ ix).symm
  have i4 : vp_in (nI (ix + 1)) 250 := nI_in (by omega) (by decide)
  have i5 : (nI (ix + 1)).toNatClampNeg = ix + 1 := nI_clamp (by omega)
  have i6 : nI ix + 2 = nI (ix + 2) := kn_add ix 2
  have i7 : vp_in (nI (ix + 2)) 250 := nI_in (by omega) (by decide)
  have i8 : (nI (ix + 2)).toNatClampNeg = ix + 2 := nI_clamp (by omega)
  have a4 : nI a + 1 = nI (a + 1) := (nI_succ a).symm
  have n4 : nI ls.length + 1 = nI (ls.length + 1) := (nI_succ _).symm
  have w0 : es 159 = _ := G.1.1
  have w7 := G.2.1
  obtain ⟨W, hW⟩ : ∃ x, x = nI (zkd t a - 7) := ⟨_, rfl⟩
  rw [← hW]
  have hlen : ∀ x : Nat × Nat × Nat, (ls ++ [x]).length = ls.length + 1 := fun x => by rw [List.length_append, List.length_singleton]
  -- the end of a line
  have okT : ∀ es6 a6 ln6 y z, a < a6 → rG es6 es0 t c a6 0 v ln6 → zRline t cs ls a = zSgnR t a6 59 (.inr (a6 + 1, ls ++ [(zkd t a, y, z)])) → ln6 ix = W → ln6 (ix + 1) = nI y → (∀ j, j < ix → ln6 j = ln j) → ax_J ax_W (d + 6) n sl 1437 168 [some (.ref 159), some (.int (nI ls.length)), some (.int W), some (.int (nI ix))] [.int (nI z), .int (nI (ix + 2)), .ref 170] n sl es6 (ax_qq n sl Q) := by
    intro es6 a6 ln6 y z hlt G6 hz e1 e2 e3
    have u7 := G6.2.1
    have G7 := rG_ln (ln' := upd ln6 (ix + 2) (nI z)) G6
    simp only [ax_W_cons, ax_I, ax_cmp, ax_ii, ax_ll, ax_li, ax_st1, ax_st2, ax_kl, ax_k2, ax_fit, ax_rtok, List.getElem?_cons_zero, List.getElem?_cons_succ, List.length_cons, List.length_nil, List.set_cons_zero, List.set_cons_succ, Nat.reduceAdd, Nat.reduceDiv, Nat.reduceMod, Nat.reduceMul, Nat.reduceLT, Nat.reduceLeDiff, Int32.reduceOfInt, Int64.reduceOfInt, true_and, and_true, and_self, true_or, or_true, false_implies, true_implies, not_false_eq_true, not_true_eq_false, Value.category, Nat.reduceEqDiff, Option.toList, List.cons_append, List.nil_append, List.drop_succ_cons, List.drop_zero, ax_qq_eq, ax_t_1437, ax_j_1437_168, ax_n_1437_168, ax_j_1437_172, ax_n_1437_172, u7, hal, i7, i8, n4]
    refine ax_inv_of (Nat.le_of_ble_eq_true rfl) (Nat.le_of_ble_eq_true rfl) (fun _ => rS_rcv hal G7.1 _) (fun h => absurd h (by decide)) (Nat.le_refl _) (Nat.le_refl _) (mk_takeSign0 (x := 59) (d := d + 4) hal ht G7.1 (by decide) (by decide) ?_ ?_)
    · intro es7 h59 S7 f7
      have ok := hok es7 (a6 + 1) (upd ln6 (ix + 2) (nI z)) (ls ++ [(zkd t a, y, z)]) (some (.int W)) (some (.int (nI ix))) (by rw [hz, zSgnR, if_pos h59]) (by omega) (hlen _) (rG_1 G7 S7 f7) (zrn_push hr (by rw [← hix, upd_ne _ _ (by omega), e1]; exact hW) (by rw [← hix, upd_ne _ _ (by omega)]; exact e2) (by rw [← hix, upd_same]) (fun j hj => by rw [upd_ne _ _ (by omega)]; exact e3 j (by omega))) (fun j hj => by rw [upd_ne _ _ (by omega)]; exact e3 j (by omega))
      simp only [ax_W_cons, ax_I, ax_cmp, ax_ii, ax_ll, ax_li, ax_st1, ax_st2, ax_kl, ax_k2, ax_fit, ax_rtok, List.getElem?_cons_zero, List.getElem?_cons_succ, List.length_cons, List.length_nil, List.set_cons_zero, List.set_cons_succ, Nat.reduceAdd, Nat.reduceDiv, Nat.reduceMod, Nat.reduceMul, Nat.reduceLT, Nat.reduceLeDiff, Int32.reduceOfInt, Int64.reduceOfInt, true_and, and_true, and_self, true_or, or_true, false_implies, true_implies, not_false_eq_true, not_true_eq_false, Value.category, Nat.reduceEqDiff, Option.toList, List.cons_append, List.nil_append, List.drop_succ_cons, List.drop_zero, ax_qq_eq, ax_t_1437]
      exact ok
    · intro es7 h59 S7 g7 f7
      have bad := hbad es7 (1, a6) (upd ln6 (ix + 2) (nI z)) (some (.int W)) (some (.int (nI ix))) (by rw [hz, zSgnR, if_neg h59]) (rG_1 G7 S7 f7) g7 (fun j hj => by rw [upd_ne _ _ (by omega)]; exact e3 j (by omega))
      simp only [ax_W_cons, ax_I, ax_cmp, ax_ii, ax_ll, ax_li, ax_st1, ax_st2, ax_kl, ax_k2, ax_fit, ax_rtok, List.getElem?_cons_zero, List.getElem?_cons_succ, List.length_cons, List.length_nil, List.set_cons_zero, List.set_cons_succ, Nat.reduceAdd, Nat.reduceDiv, Nat.reduceMod, Nat.reduceMul, Nat.reduceLT, Nat.reduceLeDiff, Int32.reduceOfInt, Int64.reduceOfInt, true_and, and_true, and_self, true_or, or_true, false_implies, true_implies, not_false_eq_true, not_true_eq_false, Value.category, Nat.reduceEqDiff, Option.toList, List.cons_append, List.nil_append, List.drop_succ_cons, List.drop_zero, ax_qq_eq, ax_t_1437]
      exact bad
  have badT : ∀ es6 x ln6 z, rG es6 es0 t c x.2 (nI (x.1 + 16 * zpl t x.2)) v ln6 → rFl (nI (x.1 + 16 * zpl t x.2)) → zRline t cs ls a = .inl x → rl5 ln ln6 → ax_J ax_W (d + 6) n sl 1437 168 [some (.ref 159), some (.int (nI ls.length)), some (.int W), some (.int (nI ix))] [.int z, .int (nI (ix + 2)), .ref 170] n sl es6 (ax_qq n sl Q) := by
    intro es6 x ln6 z G6 g6 hz e3
    have u7 := G6.2.1
    have G7 := rG_ln (ln' := upd ln6 (ix + 2) z) G6
    have bad := hbad _ x (upd ln6 (ix + 2) z) (some (.int W)) (some (.int (nI ix))) hz G7 g6 (fun j hj => by rw [upd_ne _ _ (by omega)]; exact e3 j hj)
    simp only [ax_W_cons, ax_I, ax_cmp, ax_ii, ax_ll, ax_li, ax_st1, ax_st2, ax_kl, ax_k2, ax_fit, ax_rtok, List.getElem?_cons_zero, List.getElem?_cons_succ, List.length_cons, List.length_nil, List.set_cons_zero, List.set_cons_succ, Nat.reduceAdd, Nat.reduceDiv, Nat.reduceMod, Nat.reduceMul, Nat.reduceLT, Nat.reduceLeDiff, Int32.reduceOfInt, Int64.reduceOfInt, true_and, and_true, and_self, true_or, or_true, false_implies, true_implies, not_false_eq_true, not_true_eq_false, Value.category, Nat.reduceEqDiff, Option.toList, List.cons_append, List.nil_append, List.drop_succ_cons, List.drop_zero, ax_qq_eq, ax_t_1437, ax_j_1437_168, ax_n_1437_168, ax_j_1437_172, ax_n_1437_172, u7, hal, i7, i8, n4]
    refine ax_inv_of (Nat.le_of_ble_eq_true rfl) (Nat.le_of_ble_eq_true rfl) (fun _ => rS_rcv hal G7.1 _) (fun h => absurd h (by decide)) (Nat.le_refl _) (Nat.le_refl _) (mk_takeSign1 (x := 59) (d := d + 4) hal ht G7.1 g6 (by decide) (by decide) ?_)
    simp only [ax_W_cons, ax_I, ax_cmp, ax_ii, ax_ll, ax_li, ax_st1, ax_st2, ax_kl, ax_k2, ax_fit, ax_rtok, List.getElem?_cons_zero, List.getElem?_cons_succ, List.length_cons, List.length_nil, List.set_cons_zero, List.set_cons_succ, Nat.reduceAdd, Nat.reduceDiv, Nat.reduceMod, Nat.reduceMul, Nat.reduceLT, Nat.reduceLeDiff, Int32.reduceOfInt, Int64.reduceOfInt, true_and, and_true, and_self, true_or, or_true, false_implies, true_implies, not_false_eq_true, not_true_eq_false, Value.category, Nat.reduceEqDiff, Option.toList, List.cons_append, List.nil_append, List.drop_succ_cons, List.drop_zero, ax_qq_eq, ax_t_1437]
    exact bad
  -- the first fault
  have bad5 : (W = 0 ∨ W = 4 ∨ (¬ W = 0 ∧ ¬ W = 4)) → ∀ es6 x ln6 z, rG es6 es0 t c x.2 (nI (x.1 + 16 * zpl t x.2)) v ln6 → rFl (nI (x.1 + 16 * zpl t x.2)) → zRline t cs ls a = .inl x → rl5 ln ln6 → ax_J ax_W (d + 6) n sl 1437 125 [some (.ref 159), some (.int (nI ls.length)), some (.int W), some (.int (nI ix))] [.int z, .int (nI (ix + 1)), .ref 170] n sl es6 (ax_qq n sl Q) := by
    intro hWW es6 x ln6 z G6 g6 hz e3
    have u0 : es6 159 = _ := G6.1.1
    have u0' : ∀ e, ax_up es6 170 e 159 = _ := fun e => (ax_up_ne es6 e (by decide)).trans u0
    have u7 := G6.2.1
    have G7 := rG_ln (ln' := upd ln6 (ix + 1) z) G6
    have bt := fun zz => badT _ x (upd ln6 (ix + 1) z) zz G7 g6 hz (fun j hj => by rw [upd_ne _ _ (by omega)]; exact e3 j hj)
    rcases hWW with h | h | ⟨h, h4⟩
    · rw [h] at bt ⊢
      simp only [ax_W_cons, ax_I, ax_cmp, ax_ii, ax_ll, ax_li, ax_st1, ax_st2, ax_kl, ax_k2, ax_fit, ax_rtok, List.getElem?_cons_zero, List.getElem?_cons_succ, List.length_cons, List.length_nil, List.set_cons_zero, List.set_cons_succ, Nat.reduceAdd, Nat.reduceDiv, Nat.reduceMod, Nat.reduceMul, Nat.reduceLT, Nat.reduceLeDiff, Int32.reduceOfInt, Int64.reduceOfInt, true_and, and_true, and_self, true_or, or_true, false_implies, true_implies, not_false_eq_true, not_true_eq_false, Value.category, Nat.reduceEqDiff, Option.toList, List.cons_append, List.nil_append, List.drop_succ_cons, List.drop_zero, ax_qq_eq, ax_t_1437, ax_j_1437_125, ax_n_1437_125, u0', u7, mo_f, hal, i4, i5, i6]
      refine ax_inv_of (Nat.le_of_ble_eq_true rfl) (Nat.le_of_ble_eq_true rfl) (fun _ => rS_rcv hal G7.1 _) (fun h => absurd h (by decide)) (Nat.le_refl _) (Nat.le_refl _) (mk_takeNumber1 (d := d + 4) hal G7.1 g6 _ _ ?_)
      simp only [ax_W_cons, ax_I, ax_cmp, ax_ii, ax_ll, ax_li, ax_st1, ax_st2, ax_kl, ax_k2, ax_fit, ax_rtok, List.getElem?_cons_zero, List.getElem?_cons_succ, List.length_cons, List.length_nil, List.set_cons_zero, List.set_cons_succ, Nat.reduceAdd, Nat.reduceDiv, Nat.reduceMod, Nat.reduceMul, Nat.reduceLT, Nat.reduceLeDiff, Int32.reduceOfInt, Int64.reduceOfInt, true_and, and_true, and_self, true_or, or_true, false_implies, true_implies, not_false_eq_true, not_true_eq_false, Value.category, Nat.reduceEqDiff, Option.toList, List.cons_append, List.nil_append, List.drop_succ_cons, List.drop_zero, ax_qq_eq, ax_t_1437]
      exact bt 0
    · have c40 : ¬ (4 : Int32) = 0 := by decide
      rw [h] at bt ⊢
      simp only [ax_W_cons, ax_I, ax_cmp, ax_ii, ax_ll, ax_li, ax_st1, ax_st2, ax_kl, ax_k2, ax_fit, ax_rtok, List.getElem?_cons_zero, List.getElem?_cons_succ, List.length_cons, List.length_nil, List.set_cons_zero, List.set_cons_succ, Nat.reduceAdd, Nat.reduceDiv, Nat.reduceMod, Nat.reduceMul, Nat.reduceLT, Nat.reduceLeDiff, Int32.reduceOfInt, Int64.reduceOfInt, true_and, and_true, and_self, true_or, or_true, false_implies, true_implies, not_false_eq_true, not_true_eq_false, Value.category, Nat.reduceEqDiff, Option.toList, List.cons_append, List.nil_append, List.drop_succ_cons, List.drop_zero, ax_qq_eq, ax_t_1437, ax_j_1437_125, ax_n_1437_125, ax_j_1437_147, ax_n_1437_147, u0', u7, mo_f, hal, i3, i4, i5, i6, c40, ax_up_same]
      refine ax_inv_of (Nat.le_of_ble_eq_true rfl) (Nat.le_of_ble_eq_true rfl) (fun _ => rS_rcv hal G7.1 _) (fun h => absurd h (by decide)) (Nat.le_refl _) (Nat.le_refl _) (mk_takeTold1 (d := d + 2) hal G7.1 g6 _ ?_)
      simp only [ax_W_cons, ax_I, ax_cmp, ax_ii, ax_ll, ax_li, ax_st1, ax_st2, ax_kl, ax_k2, ax_fit, ax_rtok, List.getElem?_cons_zero, List.getElem?_cons_succ, List.length_cons, List.length_nil, List.set_cons_zero, List.set_cons_succ, Nat.reduceAdd, Nat.reduceDiv, Nat.reduceMod, Nat.reduceMul, Nat.reduceLT, Nat.reduceLeDiff, Int32.reduceOfInt, Int64.reduceOfInt, true_and, and_true, and_self, true_or, or_true, false_implies, true_implies, not_false_eq_true, not_true_eq_false, Value.category, Nat.reduceEqDiff, Option.toList, List.cons_append, List.nil_append, List.drop_succ_cons, List.drop_zero, ax_qq_eq, ax_t_1437]
      exact bt 0
    · have bt := bt 0
      rw [ax_j_1437_168, ← ax_n_1437_168] at bt
      simp only [ax_W_cons, ax_I, ax_cmp, ax_ii, ax_ll, ax_li, ax_st1, ax_st2, ax_kl, ax_k2, ax_fit, ax_rtok, List.getElem?_cons_zero, List.getElem?_cons_succ, List.length_cons, List.length_nil, List.set_cons_zero, List.set_cons_succ, Nat.reduceAdd, Nat.reduceDiv, Nat.reduceMod, Nat.reduceMul, Nat.reduceLT, Nat.reduceLeDiff, Int32.reduceOfInt, Int64.reduceOfInt, true_and, and_true, and_self, true_or, or_true, false_implies, true_implies, not_false_eq_true, not_true_eq_false, Value.category, Nat.reduceEqDiff, Option.toList, List.cons_append, List.nil_append, List.drop_succ_cons, List.drop_zero, ax_qq_eq, ax_t_1437, ax_j_1437_125, ax_n_1437_125, ax_j_1437_147, ax_n_1437_147, ax_j_1437_167, ax_n_1437_167, u0', u7, mo_f, hal, i4, i5, i6, h, h4]
      exact bt
  have hp1 := zpre_s G.1.2.2.2 (by omega)
  obtain ⟨es1, he1⟩ : ∃ x, x = ax_up (ax_up es 159 (.inr (11, mo_f 0 0 c.1 (nI (a + 1)) 0 (nI v.1) c.2.1 (nI v.2.1) v.2.2.1 v.2.2.2 c.2.2.1 c.2.2.2))) 170 (.inl (0, 250, .inl (upd ln ix W))) := ⟨_, rfl⟩
  have G1 : rG es1 es0 t c (a + 1) 0 v (upd ln ix W) := by
    rw [he1]
    exact rG_ln (rG_1 G (rS_up G.1 (ax_up_same ..) (fun j hj _ => ax_up_ne _ _ hj) hp1) (fun j hj => ax_up_ne _ _ hj))
  unfold mo_f at he1
  have u0 : es1 159 = _ := G1.1.1
  have lo1 : ∀ j, j < ix → upd ln ix W j = ln j := fun j hj => upd_ne _ _ (by omega)
  have lo1' : rl5 ln (upd ln ix W) := fun j hj => upd_ne _ _ (by omega)
  have N1 : ∀ es6 a6 fl6 ln6, rG es6 es0 t c a6 fl6 v ln6 → rNm es6 c cs := fun es6 a6 fl6 ln6 G6 => by
    obtain ⟨n1, n2, nm, n3, n4⟩ := hN
    exact ⟨n1, n2, nm, (G6.2.2 168 (by decide) (by decide)).trans n3, n4⟩
  have hkd := zkd_lt t a
  by_cases h7 : zkd t a = 7
  · -- touch
    have W0 : W = 0 := by rw [hW, h7]; rfl
    have c1 : ¬ (3 : Int32) ≤ 0 := by decide
    have hln : zRline t cs ls a = zR7 t ls a := by rw [zRline, if_pos ⟨hk1, hk2⟩, if_neg (by omega), if_pos h7]
    rw [zR7] at hln
    have b5 := bad5 (Or.inl W0)
    rw [W0] at he1 b5 okT badT G1 lo1 lo1' ⊢
    simp only [ax_W_cons, ax_I, ax_cmp, ax_ii, ax_ll, ax_li, ax_st1, ax_st2, ax_kl, ax_k2, ax_fit, ax_rtok, List.getElem?_cons_zero, List.getElem?_cons_succ, List.length_cons, List.length_nil, List.set_cons_zero, List.set_cons_succ, Nat.reduceAdd, Nat.reduceDiv, Nat.reduceMod, Nat.reduceMul, Nat.reduceLT, Nat.reduceLeDiff, Int32.reduceOfInt, Int64.reduceOfInt, true_and, and_true, and_self, true_or, or_true, false_implies, true_implies, not_false_eq_true, not_true_eq_false, Value.category, Nat.reduceEqDiff, Option.toList, List.cons_append, List.nil_append, List.drop_succ_cons, List.drop_zero, ax_qq_eq, ax_t_1437, ax_j_1437_65, ax_n_1437_65, w0, w7, mo_f, hal, a4, i0, i1, i2, i3, c1, ax_up_same, ax_up_ne, ne_eq]
    rw [← he1]
    refine ax_inv_of (Nat.le_of_ble_eq_true rfl) (Nat.le_of_ble_eq_true rfl) (fun _ => rS_rcv hal G1.1 _) (fun h => absurd h (by decide)) (Nat.le_refl _) (Nat.le_refl _) (mk_takeNumber0 (lo := 0) (hi := 11) (d := d + 4) hal ht G1.1 (by decide) (by decide) ?_ ?_)
    · intro es2 k5 hN2 S2 f2
      have G2 := rG_1 G1 S2 f2
      have G3 := rG_ln (ln' := upd (upd ln ix 0) (ix + 1) (nI (znb t (a + 1)))) G2
      have v0 : es2 159 = _ := S2.1
      have v0' : ∀ e, ax_up es2 170 e 159 = _ := fun e => (ax_up_ne es2 e (by decide)).trans v0
      have v7 := G2.2.1
      have lo3 : ∀ j, j < ix → upd (upd ln ix 0) (ix + 1) (nI (znb t (a + 1))) j = ln j := fun j hj => by rw [upd_ne _ _ (by omega), upd_ne _ _ (by omega)]
      rw [zNumR, if_pos k5, if_pos hN2] at hln
      simp only [ax_W_cons, ax_I, ax_cmp, ax_ii, ax_ll, ax_li, ax_st1, ax_st2, ax_kl, ax_k2, ax_fit, ax_rtok, List.getElem?_cons_zero, List.getElem?_cons_succ, List.length_cons, List.length_nil, List.set_cons_zero, List.set_cons_succ, Nat.reduceAdd, Nat.reduceDiv, Nat.reduceMod, Nat.reduceMul, Nat.reduceLT, Nat.reduceLeDiff, Int32.reduceOfInt, Int64.reduceOfInt, true_and, and_true, and_self, true_or, or_true, false_implies, true_implies, not_false_eq_true, not_true_eq_false, Value.category, Nat.reduceEqDiff, Option.toList, List.cons_append, List.nil_append, List.drop_succ_cons, List.drop_zero, ax_qq_eq, ax_t_1437, ax_j_1437_125, ax_n_1437_125, v0', v7, mo_f, hal, i4, i5, i6]
      refine ax_inv_of (Nat.le_of_ble_eq_true rfl) (Nat.le_of_ble_eq_true rfl) (fun _ => rS_rcv hal G3.1 _) (fun h => absurd h (by decide)) (Nat.le_refl _) (Nat.le_refl _) (mk_takeNumber0 (lo := 1) (hi := 20) (d := d + 4) hal ht G3.1 (by decide) (by decide) ?_ ?_)
      · intro es4 k6 hN4 S4 f4
        have k6 : zkd t (a + 2) = 25 := k6
        have hN4 : zNo t (a + 2) 1 20 := hN4
        rw [zNumR, if_pos k6, if_pos hN4] at hln
        have ok := okT es4 (a + 3) _ (znb t (a + 1)) (znb t (a + 2)) (by omega) (rG_1 G3 S4 f4) (by rw [h7]; exact hln) (by rw [upd_ne _ _ (by omega), upd_same]) (upd_same ..) lo3
        simp only [ax_W_cons, ax_I, ax_cmp, ax_ii, ax_ll, ax_li, ax_st1, ax_st2, ax_kl, ax_k2, ax_fit, ax_rtok, List.getElem?_cons_zero, List.getElem?_cons_succ, List.length_cons, List.length_nil, List.set_cons_zero, List.set_cons_succ, Nat.reduceAdd, Nat.reduceDiv, Nat.reduceMod, Nat.reduceMul, Nat.reduceLT, Nat.reduceLeDiff, Int32.reduceOfInt, Int64.reduceOfInt, true_and, and_true, and_self, true_or, or_true, false_implies, true_implies, not_false_eq_true, not_true_eq_false, Value.category, Nat.reduceEqDiff, Option.toList, List.cons_append, List.nil_append, List.drop_succ_cons, List.drop_zero, ax_qq_eq, ax_t_1437]
        exact ok
      · intro es4 k hz _ S4 g4 f4
        have hln := hln.trans (zNum_R hz _)
        have bt := badT es4 (k, a + 1 + 1) _ 0 (rG_1 G3 S4 f4) g4 hln (fun j hj => lo3 j (by omega))
        simp only [ax_W_cons, ax_I, ax_cmp, ax_ii, ax_ll, ax_li, ax_st1, ax_st2, ax_kl, ax_k2, ax_fit, ax_rtok, List.getElem?_cons_zero, List.getElem?_cons_succ, List.length_cons, List.length_nil, List.set_cons_zero, List.set_cons_succ, Nat.reduceAdd, Nat.reduceDiv, Nat.reduceMod, Nat.reduceMul, Nat.reduceLT, Nat.reduceLeDiff, Int32.reduceOfInt, Int64.reduceOfInt, true_and, and_true, and_self, true_or, or_true, false_implies, true_implies, not_false_eq_true, not_true_eq_false, Value.category, Nat.reduceEqDiff, Option.toList, List.cons_append, List.nil_append, List.drop_succ_cons, List.drop_zero, ax_qq_eq, ax_t_1437]
        exact bt
    · intro es2 k hz _ S2 g2 f2
      have hln := hln.trans (zNum_R hz _)
      have b5 := b5 es2 (k, a + 1) _ 0 (rG_1 G1 S2 f2) g2 hln lo1'
      simp only [ax_W_cons, ax_I, ax_cmp, ax_ii, ax_ll, ax_li, ax_st1, ax_st2, ax_kl, ax_k2, ax_fit, ax_rtok, List.getElem?_cons_zero, List.getElem?_cons_succ, List.length_cons, List.length_nil, List.set_cons_zero, List.set_cons_succ, Nat.reduceAdd, Nat.reduceDiv, Nat.reduceMod, Nat.reduceMul, Nat.reduceLT, Nat.reduceLeDiff, Int32.reduceOfInt, Int64.reduceOfInt, true_and, and_true, and_self, true_or, or_true, false_implies, true_implies, not_false_eq_true, not_true_eq_false, Value.category, Nat.reduceEqDiff, Option.toList, List.cons_append, List.nil_append, List.drop_succ_cons, List.drop_zero, ax_qq_eq, ax_t_1437]
      exact b5
  by_cases h89 : zkd t a = 8 ∨ zkd t a = 9
  · -- breathe, fork
    have W0 : ¬ W = 0 := by rw [hW]; exact nI_ne0 (by omega) (by omega)
    have W4 : ¬ W = 4 := by
      rw [hW]
      intro z
      have := kn_inj (b := 4) (by omega) (by decide) z
      omega
    have W3 : ¬ (3 : Int32) ≤ W := by rw [hW]; exact nI_ge (b := 3) (by omega) (by decide)
    have hln : zRline t cs ls a = zR8 t (zkd t a) ls a := by rw [zRline, if_pos ⟨hk1, hk2⟩, if_neg (by omega), if_neg h7, if_pos h89]
    rw [zR8] at hln
    have b5 := bad5 (Or.inr (Or.inr ⟨W0, W4⟩))
    simp only [ax_W_cons, ax_I, ax_cmp, ax_ii, ax_ll, ax_li, ax_st1, ax_st2, ax_kl, ax_k2, ax_fit, ax_rtok, List.getElem?_cons_zero, List.getElem?_cons_succ, List.length_cons, List.length_nil, List.set_cons_zero, List.set_cons_succ, Nat.reduceAdd, Nat.reduceDiv, Nat.reduceMod, Nat.reduceMul, Nat.reduceLT, Nat.reduceLeDiff, Int32.reduceOfInt, Int64.reduceOfInt, true_and, and_true, and_self, true_or, or_true, false_implies, true_implies, not_false_eq_true, not_true_eq_false, Value.category, Nat.reduceEqDiff, Option.toList, List.cons_append, List.nil_append, List.drop_succ_cons, List.drop_zero, ax_qq_eq, ax_t_1437, ax_j_1437_65, ax_n_1437_65, w0, w7, mo_f, hal, a4, i0, i1, i2, i3, W3, ax_up_same, ax_up_ne, ne_eq]
    rw [← he1]
    refine ax_inv_of (Nat.le_of_ble_eq_true rfl) (Nat.le_of_ble_eq_true rfl) (fun _ => rS_rcv hal G1.1 _) (fun h => absurd h (by decide)) (Nat.le_refl _) (Nat.le_refl _) (mk_takeNumber0 (lo := 0) (hi := 11) (d := d + 4) hal ht G1.1 (by decide) (by decide) ?_ ?_)
    · intro es2 k5 hN2 S2 f2
      have G2 := rG_1 G1 S2 f2
      have G3 := rG_ln (ln' := upd (upd ln ix W) (ix + 1) (nI (znb t (a + 1)))) G2
      have v0 : es2 159 = _ := S2.1
      have v0' : ∀ e, ax_up es2 170 e 159 = _ := fun e => (ax_up_ne es2 e (by decide)).trans v0
      have v7 := G2.2.1
      have lo3 : ∀ j, j < ix → upd (upd ln ix W) (ix + 1) (nI (znb t (a + 1))) j = ln j := fun j hj => by rw [upd_ne _ _ (by omega), upd_ne _ _ (by omega)]
      rw [zNumR, if_pos k5, if_pos hN2] at hln
      have ok := okT _ (a + 2) _ (znb t (a + 1)) 0 (by omega) G3 hln (by rw [upd_ne _ _ (by omega), upd_same]) (upd_same ..) lo3
      rw [ax_j_1437_168, ← ax_n_1437_168] at ok
      simp only [ax_W_cons, ax_I, ax_cmp, ax_ii, ax_ll, ax_li, ax_st1, ax_st2, ax_kl, ax_k2, ax_fit, ax_rtok, List.getElem?_cons_zero, List.getElem?_cons_succ, List.length_cons, List.length_nil, List.set_cons_zero, List.set_cons_succ, Nat.reduceAdd, Nat.reduceDiv, Nat.reduceMod, Nat.reduceMul, Nat.reduceLT, Nat.reduceLeDiff, Int32.reduceOfInt, Int64.reduceOfInt, true_and, and_true, and_self, true_or, or_true, false_implies, true_implies, not_false_eq_true, not_true_eq_false, Value.category, Nat.reduceEqDiff, Option.toList, List.cons_append, List.nil_append, List.drop_succ_cons, List.drop_zero, ax_qq_eq, ax_t_1437, ax_j_1437_125, ax_n_1437_125, ax_j_1437_147, ax_n_1437_147, ax_j_1437_167, ax_n_1437_167, v0', v7, mo_f, hal, i4, i5, i6, W0, W4]
      exact ok
    · intro es2 k hz _ S2 g2 f2
      have hln := hln.trans (zNum_R hz _)
      have b5 := b5 es2 (k, a + 1) _ 0 (rG_1 G1 S2 f2) g2 hln lo1'
      simp only [ax_W_cons, ax_I, ax_cmp, ax_ii, ax_ll, ax_li, ax_st1, ax_st2, ax_kl, ax_k2, ax_fit, ax_rtok, List.getElem?_cons_zero, List.getElem?_cons_succ, List.length_cons, List.length_nil, List.set_cons_zero, List.set_cons_succ, Nat.reduceAdd, Nat.reduceDiv, Nat.reduceMod, Nat.reduceMul, Nat.reduceLT, Nat.reduceLeDiff, Int32.reduceOfInt, Int64.reduceOfInt, true_and, and_true, and_self, true_or, or_true, false_implies, true_implies, not_false_eq_true, not_true_eq_false, Value.category, Nat.reduceEqDiff, Option.toList, List.cons_append, List.nil_append, List.drop_succ_cons, List.drop_zero, ax_qq_eq, ax_t_1437]
      exact b5
  by_cases h11 : zkd t a = 11
  · -- change
    have W0 : W = 4 := by rw [hW, h11]; rfl
    have c1 : (3 : Int32) ≤ 4 := by decide
    have c40 : ¬ (4 : Int32) = 0 := by decide
    have hln : zRline t cs ls a = zR11 t cs ls a := by rw [zRline, if_pos ⟨hk1, hk2⟩, if_neg (by omega), if_neg h7, if_neg h89, if_pos h11]
    rw [zR11] at hln
    have b5 := bad5 (Or.inr (Or.inl W0))
    rw [W0] at he1 b5 okT badT G1 lo1 lo1' ⊢
    simp only [ax_W_cons, ax_I, ax_cmp, ax_ii, ax_ll, ax_li, ax_st1, ax_st2, ax_kl, ax_k2, ax_fit, ax_rtok, List.getElem?_cons_zero, List.getElem?_cons_succ, List.length_cons, List.length_nil, List.set_cons_zero, List.set_cons_succ, Nat.reduceAdd, Nat.reduceDiv, Nat.reduceMod, Nat.reduceMul, Nat.reduceLT, Nat.reduceLeDiff, Int32.reduceOfInt, Int64.reduceOfInt, true_and, and_true, and_self, true_or, or_true, false_implies, true_implies, not_false_eq_true, not_true_eq_false, Value.category, Nat.reduceEqDiff, Option.toList, List.cons_append, List.nil_append, List.drop_succ_cons, List.drop_zero, ax_qq_eq, ax_t_1437, ax_j_1437_65, ax_n_1437_65, ax_j_1437_111, ax_n_1437_111, w0, w7, mo_f, hal, a4, i0, i1, i2, i3, c1, ax_up_same, ax_up_ne, ne_eq]
    rw [← he1]
    refine ax_inv_of (Nat.le_of_ble_eq_true rfl) (Nat.le_of_ble_eq_true rfl) (fun _ => rS_rcv hal G1.1 _) (fun h => absurd h (by decide)) (Nat.le_refl _) (Nat.le_refl _) (mk_takeTold0 (d := d + 2) hal ht G1.1 (N1 _ _ _ _ G1) (-1) ?_ ?_)
    · intro es2 i hn2 hF2 hi6 _ S2 f2
      have G2 := rG_1 G1 S2 f2
      have G3 := rG_ln (ln' := upd (upd ln ix 4) (ix + 1) (nI i)) G2
      have v0 : es2 159 = _ := S2.1
      have v0' : ∀ e, ax_up es2 170 e 159 = _ := fun e => (ax_up_ne es2 e (by decide)).trans v0
      have v7 := G2.2.1
      have lo3 : ∀ j, j < ix → upd (upd ln ix 4) (ix + 1) (nI i) j = ln j := fun j hj => by rw [upd_ne _ _ (by omega), upd_ne _ _ (by omega)]
      rw [zTol, if_pos hn2, hF2] at hln
      dsimp only at hln
      have us : upd (upd ln ix 4) (ix + 1) (nI i) (ix + 1) = nI i := upd_same ..
      simp only [ax_W_cons, ax_I, ax_cmp, ax_ii, ax_ll, ax_li, ax_st1, ax_st2, ax_kl, ax_k2, ax_fit, ax_rtok, List.getElem?_cons_zero, List.getElem?_cons_succ, List.length_cons, List.length_nil, List.set_cons_zero, List.set_cons_succ, Nat.reduceAdd, Nat.reduceDiv, Nat.reduceMod, Nat.reduceMul, Nat.reduceLT, Nat.reduceLeDiff, Int32.reduceOfInt, Int64.reduceOfInt, true_and, and_true, and_self, true_or, or_true, false_implies, true_implies, not_false_eq_true, not_true_eq_false, Value.category, Nat.reduceEqDiff, Option.toList, List.cons_append, List.nil_append, List.drop_succ_cons, List.drop_zero, ax_qq_eq, ax_t_1437, ax_j_1437_125, ax_n_1437_125, ax_j_1437_147, ax_n_1437_147, v0', v7, mo_f, hal, i3, i4, i5, i6, c40, us, ax_up_same]
      refine ax_inv_of (Nat.le_of_ble_eq_true rfl) (Nat.le_of_ble_eq_true rfl) (fun _ => rS_rcv hal G3.1 _) (fun h => absurd h (by decide)) (Nat.le_refl _) (Nat.le_refl _) (mk_takeTold0 (d := d + 2) hal ht G3.1 (N1 _ _ _ _ G3) (nI i) ?_ ?_)
      · intro es4 j hn4 hF4 hj6 hne S4 f4
        have hn4 : zName t (a + 2) := hn4
        have hF4 : zFnd cs (zwd t (a + 2)) 0 = some j := hF4
        rw [if_neg (fun z => by
          have := z.2
          rw [hF4] at this
          injection this with this
          exact hne (by rw [this])), zTol, if_pos hn4, hF4] at hln
        dsimp only at hln
        have ok := okT es4 (a + 3) _ i j (by omega) (rG_1 G3 S4 f4) (by rw [h11]; exact hln) (by rw [upd_ne _ _ (by omega), upd_same]) (upd_same ..) lo3
        simp only [ax_W_cons, ax_I, ax_cmp, ax_ii, ax_ll, ax_li, ax_st1, ax_st2, ax_kl, ax_k2, ax_fit, ax_rtok, List.getElem?_cons_zero, List.getElem?_cons_succ, List.length_cons, List.length_nil, List.set_cons_zero, List.set_cons_succ, Nat.reduceAdd, Nat.reduceDiv, Nat.reduceMod, Nat.reduceMul, Nat.reduceLT, Nat.reduceLeDiff, Int32.reduceOfInt, Int64.reduceOfInt, true_and, and_true, and_self, true_or, or_true, false_implies, true_implies, not_false_eq_true, not_true_eq_false, Value.category, Nat.reduceEqDiff, Option.toList, List.cons_append, List.nil_append, List.drop_succ_cons, List.drop_zero, ax_qq_eq, ax_t_1437]
        exact ok
      · intro es4 k hk S4 g4 f4
        have hln : zRline t cs ls a = .inl (k, a + 2) := by
          rw [hln]
          rcases hk with ⟨e1, e2⟩ | ⟨e1, e2, e3⟩ | ⟨e1, e2, i', e3, e5, e4⟩
          · have e2 : ¬ zName t (a + 2) := e2
            rw [if_neg (fun z => e2 z.1), zTol, if_neg e2, e1]
          · have e2 : zName t (a + 2) := e2
            have e3 : zFnd cs (zwd t (a + 2)) 0 = none := e3
            rw [if_neg (fun z => by rw [e3] at z; cases z.2), zTol, if_pos e2, e3, e1]
          · have e2 : zName t (a + 2) := e2
            have e3 : zFnd cs (zwd t (a + 2)) 0 = some i' := e3
            have e6 := kn_inj (by omega) (by omega) e4
            rw [if_pos ⟨e2, by rw [e3, e6]⟩, e1]
        have bt := badT es4 (k, a + 2) _ 0 (rG_1 G3 S4 f4) g4 hln (fun j hj => lo3 j (by omega))
        simp only [ax_W_cons, ax_I, ax_cmp, ax_ii, ax_ll, ax_li, ax_st1, ax_st2, ax_kl, ax_k2, ax_fit, ax_rtok, List.getElem?_cons_zero, List.getElem?_cons_succ, List.length_cons, List.length_nil, List.set_cons_zero, List.set_cons_succ, Nat.reduceAdd, Nat.reduceDiv, Nat.reduceMod, Nat.reduceMul, Nat.reduceLT, Nat.reduceLeDiff, Int32.reduceOfInt, Int64.reduceOfInt, true_and, and_true, and_self, true_or, or_true, false_implies, true_implies, not_false_eq_true, not_true_eq_false, Value.category, Nat.reduceEqDiff, Option.toList, List.cons_append, List.nil_append, List.drop_succ_cons, List.drop_zero, ax_qq_eq, ax_t_1437]
        exact bt
    · intro es2 k hk S2 g2 f2
      have hln : zRline t cs ls a = .inl (k, a + 1) := by
        rw [hln]
        rcases hk with ⟨e1, e2⟩ | ⟨e1, e2, e3⟩ | ⟨e1, e2, i', e3, e5, e4⟩
        · rw [zTol, if_neg e2, e1]
        · rw [zTol, if_pos e2, e3, e1]
        · exact absurd e4 (mx_n1 (by omega))
      have b5 := b5 es2 (k, a + 1) _ 0 (rG_1 G1 S2 f2) g2 hln lo1'
      simp only [ax_W_cons, ax_I, ax_cmp, ax_ii, ax_ll, ax_li, ax_st1, ax_st2, ax_kl, ax_k2, ax_fit, ax_rtok, List.getElem?_cons_zero, List.getElem?_cons_succ, List.length_cons, List.length_nil, List.set_cons_zero, List.set_cons_succ, Nat.reduceAdd, Nat.reduceDiv, Nat.reduceMod, Nat.reduceMul, Nat.reduceLT, Nat.reduceLeDiff, Int32.reduceOfInt, Int64.reduceOfInt, true_and, and_true, and_self, true_or, or_true, false_implies, true_implies, not_false_eq_true, not_true_eq_false, Value.category, Nat.reduceEqDiff, Option.toList, List.cons_append, List.nil_append, List.drop_succ_cons, List.drop_zero, ax_qq_eq, ax_t_1437]
      exact b5
  · -- turn, beat
    have hk0 : zkd t a = 10 ∨ zkd t a = 12 := by omega
    have W0 : ¬ W = 0 := by rw [hW]; exact nI_ne0 (by omega) (by omega)
    have W4 : ¬ W = 4 := by
      rw [hW]
      intro z
      have := kn_inj (b := 4) (by omega) (by decide) z
      omega
    have W3 : (3 : Int32) ≤ W := by rw [hW]; exact nI_le (a := 3) (by omega) (by omega)
    have hln : zRline t cs ls a = zR10 t (zkd t a) ls a := by rw [zRline, if_pos ⟨hk1, hk2⟩, if_neg (by omega), if_neg h7, if_neg h89, if_neg h11]
    rw [zR10] at hln
    have G3 := rG_ln (ln' := upd (upd ln ix W) (ix + 1) 0) G1
    have u7 := G1.2.1
    have u0' : ∀ e, ax_up es1 170 e 159 = _ := fun e => (ax_up_ne es1 e (by decide)).trans u0
    have lo3 : ∀ j, j < ix → upd (upd ln ix W) (ix + 1) 0 j = ln j := fun j hj => by rw [upd_ne _ _ (by omega), upd_ne _ _ (by omega)]
    have ok := okT _ (a + 1) _ 0 0 (by omega) G3 hln (by rw [upd_ne _ _ (by omega), upd_same]) (upd_same ..) lo3
    rw [ax_j_1437_168, ← ax_n_1437_168] at ok
    simp only [ax_W_cons, ax_I, ax_cmp, ax_ii, ax_ll, ax_li, ax_st1, ax_st2, ax_kl, ax_k2, ax_fit, ax_rtok, List.getElem?_cons_zero, List.getElem?_cons_succ, List.length_cons, List.length_nil, List.set_cons_zero, List.set_cons_succ, Nat.reduceAdd, Nat.reduceDiv, Nat.reduceMod, Nat.reduceMul, Nat.reduceLT, Nat.reduceLeDiff, Int32.reduceOfInt, Int64.reduceOfInt, true_and, and_true, and_self, true_or, or_true, false_implies, true_implies, not_false_eq_true, not_true_eq_false, Value.category, Nat.reduceEqDiff, Option.toList, List.cons_append, List.nil_append, List.drop_succ_cons, List.drop_zero, ax_qq_eq, ax_t_1437, ax_j_1437_65, ax_n_1437_65, ax_j_1437_111, ax_n_1437_111, ax_j_1437_124, ax_n_1437_124, w0, w7, mo_f, hal, a4, i0, i1, i2, i3, W3, W4, ax_up_same, ax_up_ne, ne_eq]
    rw [← he1]
    simp only [ax_W_cons, ax_I, ax_cmp, ax_ii, ax_ll, ax_li, ax_st1, ax_st2, ax_kl, ax_k2, ax_fit, ax_rtok, List.getElem?_cons_zero, List.getElem?_cons_succ, List.length_cons, List.length_nil, List.set_cons_zero, List.set_cons_succ, Nat.reduceAdd, Nat.reduceDiv, Nat.reduceMod, Nat.reduceMul, Nat.reduceLT, Nat.reduceLeDiff, Int32.reduceOfInt, Int64.reduceOfInt, true_and, and_true, and_self, true_or, or_true, false_implies, true_implies, not_false_eq_true, not_true_eq_false, Value.category, Nat.reduceEqDiff, Option.toList, List.cons_append, List.nil_append, List.drop_succ_cons, List.drop_zero, ax_qq_eq, ax_t_1437, ax_j_1437_125, ax_n_1437_125, ax_j_1437_147, ax_n_1437_147, ax_j_1437_167, ax_n_1437_167, u0, u0', u7, mo_f, hal, i4, i5, i6, W0, W4]
    exact ok
end TT
