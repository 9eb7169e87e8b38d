/-! the reference: laws, touches, copies -/
section MM
variable {d n sl k p hc : Nat} {es : ax_H} {kd pm ht hs : Nat → Int32} {F1 F2 : Int32 → Int32 → Int32 → Int32 → Int32} {st : Nat → Int32} {b T C : Nat} {sh pl dn : Nat → Int32} {Q : Option Value → ax_H → Prop}
theorem mk_both (c x y : Int32) (hQ : Q (some (.int (mo_both c x y))) es) : ax_Mt d 1445 [.int c, .int x, .int y] n sl es Q := by
  refine ax_Mt_go (m := ax_m_11_37) (ls := [some (.int c), some (.int x), some (.int y)]) rfl ax_b_1445_0 (Nat.le_of_ble_eq_true rfl) rfl ?_
  simp only [ax_W_cons, ax_I, ax_cmp, ax_ii, ax_ll, ax_li, ax_st1, ax_st2, ax_kl, ax_k2, ax_fit, ax_rtok, List.getElem?_cons_zero, List.getElem?_cons_succ, List.length_cons, List.length_nil, List.set_cons_zero, List.set_cons_succ, Nat.reduceAdd, Nat.reduceDiv, Nat.reduceMod, Nat.reduceMul, Nat.reduceLT, Nat.reduceLeDiff, Int32.reduceOfInt, Int64.reduceOfInt, true_and, and_true, and_self, true_or, or_true, false_implies, true_implies, not_false_eq_true, not_true_eq_false, Value.category, Nat.reduceEqDiff, Option.toList, List.cons_append, List.nil_append, List.drop_succ_cons, List.drop_zero, ax_qq_eq, ax_t_1445]
  have e : ∀ z : Int32, c.toInt = z.toInt → c = z := fun z hz => Int32.toInt_inj.mp hz
  by_cases h : c.toInt < 4 ∨ 9 < c.toInt
  · refine ⟨fun _ => ?_, fun h2 => absurd h h2⟩
    have f : ∀ z : Int32, (4 ≤ z.toInt ∧ z.toInt ≤ 9) → ¬ c = z := fun z hz he => by rw [he] at h; omega
    unfold mo_both at hQ
    rw [if_neg (f 4 (by decide)), if_neg (f 5 (by decide)), if_neg (f 6 (by decide)), if_neg (f 7 (by decide)), if_neg (f 8 (by decide)), if_neg (f 9 (by decide))] at hQ
    simp only [ax_W_cons, ax_I, ax_cmp, ax_ii, ax_ll, ax_li, ax_st1, ax_st2, ax_kl, ax_k2, ax_fit, ax_rtok, List.getElem?_cons_zero, List.getElem?_cons_succ, List.length_cons, List.length_nil, List.set_cons_zero, List.set_cons_succ, Nat.reduceAdd, Nat.reduceDiv, Nat.reduceMod, Nat.reduceMul, Nat.reduceLT, Nat.reduceLeDiff, Int32.reduceOfInt, Int64.reduceOfInt, true_and, and_true, and_self, true_or, or_true, false_implies, true_implies, not_false_eq_true, not_true_eq_false, Value.category, Nat.reduceEqDiff, Option.toList, List.cons_append, List.nil_append, List.drop_succ_cons, List.drop_zero, ax_qq_eq, ax_t_1445, ax_j_1445_88, ax_n_1445_88, ax_j_1445_96, ax_n_1445_96, ax_j_1445_100, ax_n_1445_100, ax_j_1445_101, ax_n_1445_101]
    refine ⟨fun h1 => ?_, fun h1 => ⟨fun h2 => ?_, fun h2 => ?_⟩⟩
    · rw [if_neg h1] at hQ
      exact hQ
    · simp only [Classical.not_not] at h1
      rw [if_pos h1, if_pos h2] at hQ
      exact hQ
    · simp only [Classical.not_not] at h1
      rw [if_pos h1, if_neg h2] at hQ
      exact hQ
  · refine ⟨fun h2 => absurd h2 h, fun _ => ?_⟩
    have h6 : c.toInt = 4 ∨ c.toInt = 5 ∨ c.toInt = 6 ∨ c.toInt = 7 ∨ c.toInt = 8 ∨ c.toInt = 9 := by omega
    rcases h6 with h | h | h | h | h | h
    · obtain rfl := e 4 (by rw [h]; rfl)
      show ax_J ax_W _ _ _ _ 40 _ _ _ _ _ _
      simp only [ax_W_cons, ax_I, ax_cmp, ax_ii, ax_ll, ax_li, ax_st1, ax_st2, ax_kl, ax_k2, ax_fit, ax_rtok, List.getElem?_cons_zero, List.getElem?_cons_succ, List.length_cons, List.length_nil, List.set_cons_zero, List.set_cons_succ, Nat.reduceAdd, Nat.reduceDiv, Nat.reduceMod, Nat.reduceMul, Nat.reduceLT, Nat.reduceLeDiff, Int32.reduceOfInt, Int64.reduceOfInt, true_and, and_true, and_self, true_or, or_true, false_implies, true_implies, not_false_eq_true, not_true_eq_false, Value.category, Nat.reduceEqDiff, Option.toList, List.cons_append, List.nil_append, List.drop_succ_cons, List.drop_zero, ax_qq_eq, ax_t_1445, ax_j_1445_40, ax_n_1445_40]
      exact hQ
    · obtain rfl := e 5 (by rw [h]; rfl)
      show ax_J ax_W _ _ _ _ 44 _ _ _ _ _ _
      simp only [ax_W_cons, ax_I, ax_cmp, ax_ii, ax_ll, ax_li, ax_st1, ax_st2, ax_kl, ax_k2, ax_fit, ax_rtok, List.getElem?_cons_zero, List.getElem?_cons_succ, List.length_cons, List.length_nil, List.set_cons_zero, List.set_cons_succ, Nat.reduceAdd, Nat.reduceDiv, Nat.reduceMod, Nat.reduceMul, Nat.reduceLT, Nat.reduceLeDiff, Int32.reduceOfInt, Int64.reduceOfInt, true_and, and_true, and_self, true_or, or_true, false_implies, true_implies, not_false_eq_true, not_true_eq_false, Value.category, Nat.reduceEqDiff, Option.toList, List.cons_append, List.nil_append, List.drop_succ_cons, List.drop_zero, ax_qq_eq, ax_t_1445, ax_j_1445_44, ax_n_1445_44]
      exact hQ
    · obtain rfl := e 6 (by rw [h]; rfl)
      show ax_J ax_W _ _ _ _ 48 _ _ _ _ _ _
      simp only [ax_W_cons, ax_I, ax_cmp, ax_ii, ax_ll, ax_li, ax_st1, ax_st2, ax_kl, ax_k2, ax_fit, ax_rtok, List.getElem?_cons_zero, List.getElem?_cons_succ, List.length_cons, List.length_nil, List.set_cons_zero, List.set_cons_succ, Nat.reduceAdd, Nat.reduceDiv, Nat.reduceMod, Nat.reduceMul, Nat.reduceLT, Nat.reduceLeDiff, Int32.reduceOfInt, Int64.reduceOfInt, true_and, and_true, and_self, true_or, or_true, false_implies, true_implies, not_false_eq_true, not_true_eq_false, Value.category, Nat.reduceEqDiff, Option.toList, List.cons_append, List.nil_append, List.drop_succ_cons, List.drop_zero, ax_qq_eq, ax_t_1445, ax_j_1445_48, ax_n_1445_48]
      exact hQ
    · obtain rfl := e 7 (by rw [h]; rfl)
      show ax_J ax_W _ _ _ _ 52 _ _ _ _ _ _
      have hQ : Q (some (.int (if x < y then 1 else 0))) es := hQ
      simp only [ax_W_cons, ax_I, ax_cmp, ax_ii, ax_ll, ax_li, ax_st1, ax_st2, ax_kl, ax_k2, ax_fit, ax_rtok, List.getElem?_cons_zero, List.getElem?_cons_succ, List.length_cons, List.length_nil, List.set_cons_zero, List.set_cons_succ, Nat.reduceAdd, Nat.reduceDiv, Nat.reduceMod, Nat.reduceMul, Nat.reduceLT, Nat.reduceLeDiff, Int32.reduceOfInt, Int64.reduceOfInt, true_and, and_true, and_self, true_or, or_true, false_implies, true_implies, not_false_eq_true, not_true_eq_false, Value.category, Nat.reduceEqDiff, Option.toList, List.cons_append, List.nil_append, List.drop_succ_cons, List.drop_zero, ax_qq_eq, ax_t_1445, ax_j_1445_52, ax_n_1445_52, ax_j_1445_61, ax_n_1445_61, ax_j_1445_62, ax_n_1445_62]
      refine ⟨fun h1 => ?_, fun h1 => ?_⟩
      · rw [if_neg (by rw [kx_nlt]; exact h1)] at hQ
        exact hQ
      · rw [kx_nle] at h1
        rw [if_pos h1] at hQ
        exact hQ
    · obtain rfl := e 8 (by rw [h]; rfl)
      show ax_J ax_W _ _ _ _ 63 _ _ _ _ _ _
      have hQ : Q (some (.int (if x = y then 1 else 0))) es := hQ
      simp only [ax_W_cons, ax_I, ax_cmp, ax_ii, ax_ll, ax_li, ax_st1, ax_st2, ax_kl, ax_k2, ax_fit, ax_rtok, List.getElem?_cons_zero, List.getElem?_cons_succ, List.length_cons, List.length_nil, List.set_cons_zero, List.set_cons_succ, Nat.reduceAdd, Nat.reduceDiv, Nat.reduceMod, Nat.reduceMul, Nat.reduceLT, Nat.reduceLeDiff, Int32.reduceOfInt, Int64.reduceOfInt, true_and, and_true, and_self, true_or, or_true, false_implies, true_implies, not_false_eq_true, not_true_eq_false, Value.category, Nat.reduceEqDiff, Option.toList, List.cons_append, List.nil_append, List.drop_succ_cons, List.drop_zero, ax_qq_eq, ax_t_1445, ax_j_1445_63, ax_n_1445_63, ax_j_1445_72, ax_n_1445_72, ax_j_1445_73, ax_n_1445_73]
      refine ⟨fun h1 => ?_, fun h1 => ?_⟩
      · rw [if_neg h1] at hQ
        exact hQ
      · simp only [Classical.not_not] at h1
        rw [if_pos h1] at hQ
        exact hQ
    · obtain rfl := e 9 (by rw [h]; rfl)
      show ax_J ax_W _ _ _ _ 74 _ _ _ _ _ _
      have hQ : Q (some (.int (if x = 0 then 0 else if y = 0 then 0 else 1))) es := hQ
      simp only [ax_W_cons, ax_I, ax_cmp, ax_ii, ax_ll, ax_li, ax_st1, ax_st2, ax_kl, ax_k2, ax_fit, ax_rtok, List.getElem?_cons_zero, List.getElem?_cons_succ, List.length_cons, List.length_nil, List.set_cons_zero, List.set_cons_succ, Nat.reduceAdd, Nat.reduceDiv, Nat.reduceMod, Nat.reduceMul, Nat.reduceLT, Nat.reduceLeDiff, Int32.reduceOfInt, Int64.reduceOfInt, true_and, and_true, and_self, true_or, or_true, false_implies, true_implies, not_false_eq_true, not_true_eq_false, Value.category, Nat.reduceEqDiff, Option.toList, List.cons_append, List.nil_append, List.drop_succ_cons, List.drop_zero, ax_qq_eq, ax_t_1445, ax_j_1445_74, ax_n_1445_74, ax_j_1445_86, ax_n_1445_86, ax_j_1445_87, ax_n_1445_87]
      refine ⟨fun h1 => ?_, fun h1 => ⟨fun h2 => ?_, fun h2 => ?_⟩⟩
      · rw [if_pos h1] at hQ
        exact hQ
      · rw [if_neg h1, if_pos h2] at hQ
        exact hQ
      · rw [if_neg h1, if_neg h2] at hQ
        exact hQ
theorem ax_up_up (es : ax_H) (q : Nat) (e e' : ax_E) : ax_up (ax_up es q e) q e' = ax_up es q e' := by
  funext j
  unfold ax_up
  split <;> rfl
theorem ax_up_id {es : ax_H} {q : Nat} {e : ax_E} (h : es q = e) : ax_up es q e = es := by
  funext j
  unfold ax_up
  split
  · next h2 => rw [h2]; exact h.symm
  · rfl
theorem mk_worthAt (hal : ax_al n = 178) (hO : mO es) {op ar fa pi : Nat → Int32} (hop : es 166 = .inl (0, 2200, .inl op)) (har : es 167 = .inl (0, 2200, .inl ar)) (hfa : es 171 = .inl (0, 4, .inl fa)) (hpi : es 172 = .inl (0, 1100, .inl pi)) {a len : Nat} (hl : a + len < 1100) (hend : op (a + len) = 0) (hg : ∀ m, m < len → mo_good (op (a + m)) (ar (a + m)) (mo_run fa op ar a pi m).1) (hQ : Q (some (.int ((mo_run fa op ar a pi len).2 0))) (ax_up es 172 (.inl (0, 1100, .inl (mo_run fa op ar a pi len).2)))) : ax_Mt (d + 1) 1444 [.ref 159, .int (nI a)] n sl es Q := by
  obtain ⟨th, tp, sz, at0, fl, cd, nm, rm, on, fh, un, g, h0⟩ := hO
  have g0 : ∀ e, ax_up es 172 e 159 = _ := fun e => (ax_up_ne es e (by decide)).trans h0
  have g1 : ∀ e, ax_up es 172 e 166 = _ := fun e => (ax_up_ne es e (by decide)).trans hop
  have g2 : ∀ e, ax_up es 172 e 167 = _ := fun e => (ax_up_ne es e (by decide)).trans har
  have g3 : ∀ e, ax_up es 172 e 171 = _ := fun e => (ax_up_ne es e (by decide)).trans hfa
  refine ax_Mt_go (m := ax_m_11_36) (ls := [some (.ref 159), some (.int (nI a)), none, none, none]) rfl ax_b_1444_0 (Nat.le_of_ble_eq_true rfl) rfl ?_
  simp only [ax_W_cons, ax_I, ax_cmp, ax_ii, ax_ll, ax_li, ax_st1, ax_st2, ax_kl, ax_k2, ax_fit, ax_rtok, List.getElem?_cons_zero, List.getElem?_cons_succ, List.length_cons, List.length_nil, List.set_cons_zero, List.set_cons_succ, Nat.reduceAdd, Nat.reduceDiv, Nat.reduceMod, Nat.reduceMul, Nat.reduceLT, Nat.reduceLeDiff, Int32.reduceOfInt, Int64.reduceOfInt, true_and, and_true, and_self, true_or, or_true, false_implies, true_implies, not_false_eq_true, not_true_eq_false, Value.category, Nat.reduceEqDiff, Option.toList, List.cons_append, List.nil_append, List.drop_succ_cons, List.drop_zero, ax_qq_eq, ax_t_1444]
  rw [ax_n_1444_4]
  have L := kx_loop (k := len) (I := fun m => ∀ v4, ax_W (d + 1) n sl 1444 [(1, .aload 0), (3, .getfield 2862), (1, .iload 3), (1, .iaload), (3, .ifCond .eq 140), (1, .aload 0), (3, .getfield 2862), (1, .iload 3), (1, .iaload), (2, .istore 4), (2, .iload 4), (1, .iconst 1), (3, .if_icmp .eq 33), (2, .iload 4), (1, .iconst 2), (3, .if_icmp .ne 71)] 4 [some (.ref 159), some (.int (nI a)), some (.int (nI (mo_run fa op ar a pi m).1)), some (.int (nI (a + m))), v4] [] n sl (ax_up es 172 (.inl (0, 1100, .inl (mo_run fa op ar a pi m).2))) (ax_qq n sl Q)) ?_ ?_
  · have L := L none
    rw [show mo_run fa op ar a pi 0 = (0, pi) from rfl, ax_up_id hpi] at L
    exact L
  · intro v4
    have v1 : vp_in (nI (a + len)) 2200 := nI_in (by omega) (by decide)
    have e1 : (nI (a + len)).toNatClampNeg = a + len := nI_clamp (by omega)
    have v2 : vp_in 0 1100 := nI_in (c := 0) (by decide) (by decide)
    simp only [ax_W_cons, ax_I, ax_cmp, ax_ii, ax_ll, ax_li, ax_st1, ax_st2, ax_kl, ax_k2, ax_fit, ax_rtok, List.getElem?_cons_zero, List.getElem?_cons_succ, List.length_cons, List.length_nil, List.set_cons_zero, List.set_cons_succ, Nat.reduceAdd, Nat.reduceDiv, Nat.reduceMod, Nat.reduceMul, Nat.reduceLT, Nat.reduceLeDiff, Int32.reduceOfInt, Int64.reduceOfInt, true_and, and_true, and_self, true_or, or_true, false_implies, true_implies, not_false_eq_true, not_true_eq_false, Value.category, Nat.reduceEqDiff, Option.toList, List.cons_append, List.nil_append, List.drop_succ_cons, List.drop_zero, ax_qq_eq, ax_t_1444, ax_j_1444_140, ax_n_1444_140, g0, g1, mo_f, hal, v1, e1, hend, ax_up_same, v2, kx_n0]
    exact hQ
  · intro m hm ih v4
    have v1 : vp_in (nI (a + m)) 2200 := nI_in (by omega) (by decide)
    have e1 : (nI (a + m)).toNatClampNeg = a + m := nI_clamp (by omega)
    have e4 : nI (a + m) + 1 = nI (a + (m + 1)) := (nI_succ _).symm
    have hgm := hg m hm
    rw [mo_run] at ih
    generalize mo_run fa op ar a pi m = R at ih hgm ⊢
    generalize hc : op (a + m) = c at ih hgm
    generalize hr : ar (a + m) = r at ih hgm
    obtain ⟨n0, hcs, ht⟩ := hgm
    have e2 : (nI R.1).toNatClampNeg = R.1 := nI_clamp (by omega)
    unfold mo_step at ih
    rcases hcs with ⟨rfl, h1⟩ | ⟨rfl, h1, h2⟩ | ⟨rfl, h1⟩ | ⟨c1, c2, c3, h1⟩
    · have v3 : vp_in (nI R.1) 1100 := nI_in h1 (by decide)
      have e5 : nI R.1 + 1 = nI (R.1 + 1) := (nI_succ _).symm
      rw [if_pos rfl] at ih
      simp only [ax_W_cons, ax_I, ax_cmp, ax_ii, ax_ll, ax_li, ax_st1, ax_st2, ax_kl, ax_k2, ax_fit, ax_rtok, List.getElem?_cons_zero, List.getElem?_cons_succ, List.length_cons, List.length_nil, List.set_cons_zero, List.set_cons_succ, Nat.reduceAdd, Nat.reduceDiv, Nat.reduceMod, Nat.reduceMul, Nat.reduceLT, Nat.reduceLeDiff, Int32.reduceOfInt, Int64.reduceOfInt, true_and, and_true, and_self, true_or, or_true, false_implies, true_implies, not_false_eq_true, not_true_eq_false, Value.category, Nat.reduceEqDiff, Option.toList, List.cons_append, List.nil_append, List.drop_succ_cons, List.drop_zero, ax_qq_eq, ax_t_1444, ax_j_1444_33, ax_n_1444_33, ax_j_1444_64, ax_n_1444_64, ax_j_1444_134, ax_n_1444_134, g0, g1, g2, mo_f, hal, v1, e1, e2, e4, e5, hc, hr, n0, v3, ax_up_same, ax_up_up]
      rw [ax_j_1444_4]
      exact ih _
    · have v3 : vp_in (nI R.1) 1100 := nI_in h1 (by decide)
      have e5 : nI R.1 + 1 = nI (R.1 + 1) := (nI_succ _).symm
      have c1 : ¬ (2 : Int32) = 1 := by decide
      rw [if_neg c1, if_pos rfl] at ih
      simp only [ax_W_cons, ax_I, ax_cmp, ax_ii, ax_ll, ax_li, ax_st1, ax_st2, ax_kl, ax_k2, ax_fit, ax_rtok, List.getElem?_cons_zero, List.getElem?_cons_succ, List.length_cons, List.length_nil, List.set_cons_zero, List.set_cons_succ, Nat.reduceAdd, Nat.reduceDiv, Nat.reduceMod, Nat.reduceMul, Nat.reduceLT, Nat.reduceLeDiff, Int32.reduceOfInt, Int64.reduceOfInt, true_and, and_true, and_self, true_or, or_true, false_implies, true_implies, not_false_eq_true, not_true_eq_false, Value.category, Nat.reduceEqDiff, Option.toList, List.cons_append, List.nil_append, List.drop_succ_cons, List.drop_zero, ax_qq_eq, ax_t_1444, ax_j_1444_33, ax_n_1444_33, ax_j_1444_53, ax_n_1444_53, ax_j_1444_64, ax_n_1444_64, ax_j_1444_134, ax_n_1444_134, g0, g1, g2, g3, mo_f, hal, v1, e1, e2, e4, e5, hc, hr, n0, c1, h2, v3, ax_up_same, ax_up_up]
      rw [ax_j_1444_4]
      exact ih _
    · have c1 : ¬ (3 : Int32) = 1 := by decide
      have c2 : ¬ (3 : Int32) = 2 := by decide
      obtain ⟨z, hz⟩ : ∃ z, R.1 = z + 1 := ⟨R.1 - 1, by omega⟩
      have v3 : vp_in (nI z) 1100 := nI_in (by omega) (by decide)
      have e6 : nI R.1 - 1 = nI z := by rw [hz]; exact nI_pred z
      have e7 : (nI z).toNatClampNeg = z := nI_clamp (by omega)
      rw [if_neg c1, if_neg c2, if_pos rfl, show R.1 - 1 = z by omega] at ih
      simp only [ax_W_cons, ax_I, ax_cmp, ax_ii, ax_ll, ax_li, ax_st1, ax_st2, ax_kl, ax_k2, ax_fit, ax_rtok, List.getElem?_cons_zero, List.getElem?_cons_succ, List.length_cons, List.length_nil, List.set_cons_zero, List.set_cons_succ, Nat.reduceAdd, Nat.reduceDiv, Nat.reduceMod, Nat.reduceMul, Nat.reduceLT, Nat.reduceLeDiff, Int32.reduceOfInt, Int64.reduceOfInt, true_and, and_true, and_self, true_or, or_true, false_implies, true_implies, not_false_eq_true, not_true_eq_false, Value.category, Nat.reduceEqDiff, Option.toList, List.cons_append, List.nil_append, List.drop_succ_cons, List.drop_zero, ax_qq_eq, ax_t_1444, ax_j_1444_71, ax_n_1444_71, ax_j_1444_99, ax_n_1444_99, ax_j_1444_100, ax_n_1444_100, ax_j_1444_134, ax_n_1444_134, g0, g1, mo_f, hal, v1, e1, e4, e6, e7, hc, n0, c1, c2, v3, ax_up_same, ax_up_up]
      simp only [ax_j_1444_4]
      refine ⟨fun h5 => ?_, fun h5 => ?_⟩
      · rw [if_neg h5] at ih
        exact ih _
      · simp only [Classical.not_not] at h5
        rw [if_pos h5] at ih
        exact ih _
    · obtain ⟨z, hz⟩ : ∃ z, R.1 = z + 2 := ⟨R.1 - 2, by omega⟩
      have v3 : vp_in (nI z) 1100 := nI_in (by omega) (by decide)
      have v4 : vp_in (nI (z + 1)) 1100 := nI_in (by omega) (by decide)
      have e5 : nI R.1 + -1 = nI (z + 1) := by rw [hz]; exact nI_dec (z + 1)
      have e6 : nI (z + 1) - 1 = nI z := nI_pred z
      have e7 : (nI z).toNatClampNeg = z := nI_clamp (by omega)
      have e8 : (nI (z + 1)).toNatClampNeg = z + 1 := nI_clamp (by omega)
      rw [if_neg c1, if_neg c2, if_neg c3, show R.1 - 1 = z + 1 by omega, show R.1 - 2 = z by omega] at ih
      simp only [ax_W_cons, ax_I, ax_cmp, ax_ii, ax_ll, ax_li, ax_st1, ax_st2, ax_kl, ax_k2, ax_fit, ax_rtok, List.getElem?_cons_zero, List.getElem?_cons_succ, List.length_cons, List.length_nil, List.set_cons_zero, List.set_cons_succ, Nat.reduceAdd, Nat.reduceDiv, Nat.reduceMod, Nat.reduceMul, Nat.reduceLT, Nat.reduceLeDiff, Int32.reduceOfInt, Int64.reduceOfInt, true_and, and_true, and_self, true_or, or_true, false_implies, true_implies, not_false_eq_true, not_true_eq_false, Value.category, Nat.reduceEqDiff, Option.toList, List.cons_append, List.nil_append, List.drop_succ_cons, List.drop_zero, ax_qq_eq, ax_t_1444, ax_j_1444_71, ax_n_1444_71, ax_j_1444_104, ax_n_1444_104, g0, g1, mo_f, hal, v1, e1, e5, e6, e7, e8, hc, n0, c1, c2, c3, v3, v4, ax_up_same]
      refine ax_inv_of (Nat.le_of_ble_eq_true rfl) (Nat.le_of_ble_eq_true rfl) (fun _ => absurd ‹_› (by decide)) (fun h => absurd h (by decide)) (Nat.le_refl _) (Nat.le_refl _) (mk_both c _ _ ?_)
      simp only [ax_W_cons, ax_I, ax_cmp, ax_ii, ax_ll, ax_li, ax_st1, ax_st2, ax_kl, ax_k2, ax_fit, ax_rtok, List.getElem?_cons_zero, List.getElem?_cons_succ, List.length_cons, List.length_nil, List.set_cons_zero, List.set_cons_succ, Nat.reduceAdd, Nat.reduceDiv, Nat.reduceMod, Nat.reduceMul, Nat.reduceLT, Nat.reduceLeDiff, Int32.reduceOfInt, Int64.reduceOfInt, true_and, and_true, and_self, true_or, or_true, false_implies, true_implies, not_false_eq_true, not_true_eq_false, Value.category, Nat.reduceEqDiff, Option.toList, List.cons_append, List.nil_append, List.drop_succ_cons, List.drop_zero, ax_qq_eq, ax_t_1444, ax_j_1444_134, ax_n_1444_134, ax_up_same, ax_up_up, hal, v3, e7, e4]
      rw [ax_j_1444_4]
      exact ih _
/-- one more at a state's row of shakes -/
theorem mk_touches (hal : ax_al n = 178) (hO : mO es) (hX : mX es st) (hk : k ≤ 12) (hp : p ≤ 6) (hb : b + 52 ≤ 1196) (hV : mV st b k p T C sh pl dn) (hsh : ks sh) {c f : Nat} (hc : c < k) (hf : f ≤ 20) (hQ : ∀ es' st', mfr es es' → mX es' st' → mfs b st st' → mV st' b k p T C (kx_push sh (nI c) (nI f)) pl dn → Q none es') : ax_Mt (d + 1) 1459 [.ref 159, .int (nI b), .int (nI c), .int (nI f)] n sl es Q := by
  obtain ⟨th, tp, sz, at0, fl, cd, nm, rm, on, fh, un, g, h0⟩ := hO
  have x1 := hX.1
  have e1 : nI b + 2 + nI c = nI (b + 2 + c) := by
    show nI b + nI 2 + nI c = _
    rw [kn_add, kn_add]
  have v1 : vp_in (nI (b + 2 + c)) 1196 := nI_in (by omega) (by decide)
  have e2 : (nI (b + 2 + c)).toNatClampNeg = b + 2 + c := nI_clamp (by omega)
  have e3 := hV.2.2.1 c hc
  obtain ⟨v, hv, ev⟩ := hsh c (by omega)
  refine ax_Mt_go (m := ax_m_11_51) (ls := [some (.ref 159), some (.int (nI b)), some (.int (nI c)), some (.int (nI f))]) rfl ax_b_1459_0 (Nat.le_of_ble_eq_true rfl) rfl ?_
  simp only [ax_W_cons, ax_I, ax_cmp, ax_ii, ax_ll, ax_li, ax_st1, ax_st2, ax_kl, ax_k2, ax_fit, ax_rtok, List.getElem?_cons_zero, List.getElem?_cons_succ, List.length_cons, List.length_nil, List.set_cons_zero, List.set_cons_succ, Nat.reduceAdd, Nat.reduceDiv, Nat.reduceMod, Nat.reduceMul, Nat.reduceLT, Nat.reduceLeDiff, Int32.reduceOfInt, Int64.reduceOfInt, true_and, and_true, and_self, true_or, or_true, false_implies, true_implies, not_false_eq_true, not_true_eq_false, Value.category, Nat.reduceEqDiff, Option.toList, List.cons_append, List.nil_append, List.drop_succ_cons, List.drop_zero, ax_qq_eq, ax_t_1459, h0, x1, mo_f, hal, e1, v1, e2, e3]
  refine ax_inv_of (Nat.le_of_ble_eq_true rfl) (Nat.le_of_ble_eq_true rfl) (fun _ => absurd ‹_› (by decide)) (fun h => absurd h (by decide)) (Nat.le_refl _) (Nat.le_refl _) (mk_kept _ ?_)
  simp only [ax_W_cons, ax_I, ax_cmp, ax_ii, ax_ll, ax_li, ax_st1, ax_st2, ax_kl, ax_k2, ax_fit, ax_rtok, List.getElem?_cons_zero, List.getElem?_cons_succ, List.length_cons, List.length_nil, List.set_cons_zero, List.set_cons_succ, Nat.reduceAdd, Nat.reduceDiv, Nat.reduceMod, Nat.reduceMul, Nat.reduceLT, Nat.reduceLeDiff, Int32.reduceOfInt, Int64.reduceOfInt, true_and, and_true, and_self, true_or, or_true, false_implies, true_implies, not_false_eq_true, not_true_eq_false, Value.category, Nat.reduceEqDiff, Option.toList, List.cons_append, List.nil_append, List.drop_succ_cons, List.drop_zero, ax_qq_eq, ax_t_1459, x1, hal, v1, e2]
  have e4 : kx_max 0 (kx_min 99 (sh c + nI f)) = kx_min 99 (sh c + nI f) := by
    rw [ev, kn_add]
    exact kx_kp2 (by omega)
  rw [e4]
  have e5 : kx_push sh (nI c) (nI f) = upd sh c (kx_min 99 (sh c + nI f)) := by
    unfold kx_push
    rw [nI_clamp (by omega)]
  rw [e5] at hQ
  exact hQ _ _ (mfr_up es _) (mX_up hX) (mfs_up st _ (by omega)) (mV_sh hk hp hV hc _)
theorem mk_breathes (hal : ax_al n = 178) (hO : mO es) (hX : mX es st) (hk : k ≤ 12) (hp : p ≤ 6) (hb : b + 52 ≤ 1196) (hV : mV st b k p T C sh pl dn) (hsh : ks sh) {c : Nat} (hc : c < k) (hQ : ∀ es' st', mfr es es' → mX es' st' → mfs b st st' → mV st' b k p T C (kx_soothe sh (nI c)) pl dn → Q none es') : ax_Mt (d + 1) 1460 [.ref 159, .int (nI b), .int (nI c)] n sl es Q := by
  obtain ⟨th, tp, sz, at0, fl, cd, nm, rm, on, fh, un, g, h0⟩ := hO
  have x1 := hX.1
  have e1 : nI b + 2 + nI c = nI (b + 2 + c) := by
    show nI b + nI 2 + nI c = _
    rw [kn_add, kn_add]
  have v1 : vp_in (nI (b + 2 + c)) 1196 := nI_in (by omega) (by decide)
  have e2 : (nI (b + 2 + c)).toNatClampNeg = b + 2 + c := nI_clamp (by omega)
  have e3 := hV.2.2.1 c hc
  obtain ⟨v, hv, ev⟩ := hsh c (by omega)
  refine ax_Mt_go (m := ax_m_11_52) (ls := [some (.ref 159), some (.int (nI b)), some (.int (nI c))]) rfl ax_b_1460_0 (Nat.le_of_ble_eq_true rfl) rfl ?_
  simp only [ax_W_cons, ax_I, ax_cmp, ax_ii, ax_ll, ax_li, ax_st1, ax_st2, ax_kl, ax_k2, ax_fit, ax_rtok, List.getElem?_cons_zero, List.getElem?_cons_succ, List.length_cons, List.length_nil, List.set_cons_zero, List.set_cons_succ, Nat.reduceAdd, Nat.reduceDiv, Nat.reduceMod, Nat.reduceMul, Nat.reduceLT, Nat.reduceLeDiff, Int32.reduceOfInt, Int64.reduceOfInt, true_and, and_true, and_self, true_or, or_true, false_implies, true_implies, not_false_eq_true, not_true_eq_false, Value.category, Nat.reduceEqDiff, Option.toList, List.cons_append, List.nil_append, List.drop_succ_cons, List.drop_zero, ax_qq_eq, ax_t_1460, h0, x1, mo_f, hal, e1, v1, e2, e3]
  refine ax_inv_of (Nat.le_of_ble_eq_true rfl) (Nat.le_of_ble_eq_true rfl) (fun _ => absurd ‹_› (by decide)) (fun h => absurd h (by decide)) (Nat.le_refl _) (Nat.le_refl _) (mk_kept _ ?_)
  simp only [ax_W_cons, ax_I, ax_cmp, ax_ii, ax_ll, ax_li, ax_st1, ax_st2, ax_kl, ax_k2, ax_fit, ax_rtok, List.getElem?_cons_zero, List.getElem?_cons_succ, List.length_cons, List.length_nil, List.set_cons_zero, List.set_cons_succ, Nat.reduceAdd, Nat.reduceDiv, Nat.reduceMod, Nat.reduceMul, Nat.reduceLT, Nat.reduceLeDiff, Int32.reduceOfInt, Int64.reduceOfInt, true_and, and_true, and_self, true_or, or_true, false_implies, true_implies, not_false_eq_true, not_true_eq_false, Value.category, Nat.reduceEqDiff, Option.toList, List.cons_append, List.nil_append, List.drop_succ_cons, List.drop_zero, ax_qq_eq, ax_t_1460, x1, hal, v1, e2]
  have e4 : kx_max 0 (kx_min 99 (sh c - 3)) = kx_max 0 (sh c - 3) := by
    rw [ev]
    have e2 : ∀ v : Fin 100, kx_max 0 (kx_min 99 (nI v.val - 3)) = kx_max 0 (nI v.val - 3) := by decide +kernel
    exact e2 ⟨v, by omega⟩
  rw [e4]
  have e5 : kx_soothe sh (nI c) = upd sh c (kx_max 0 (sh c - 3)) := by
    unfold kx_soothe
    rw [nI_clamp (by omega)]
  rw [e5] at hQ
  exact hQ _ _ (mfr_up es _) (mX_up hX) (mfs_up st _ (by omega)) (mV_sh hk hp hV hc _)
theorem mk_forks (hal : ax_al n = 178) (hO : mO es) (hX : mX es st) (hk : k ≤ 12) (hp : p ≤ 6) (hb : b + 52 ≤ 1196) (hV : mV st b k p T C sh pl dn) {c : Nat} (hc : c < k) (hQ : ∀ es' st', mfr es es' → mX es' st' → mfs b st st' → mV st' b k p T (C ||| 2 ^ c) (upd sh c 0) pl dn → Q none es') : ax_Mt d 1461 [.ref 159, .int (nI b), .int (nI c)] n sl es Q := by
  obtain ⟨th, tp, sz, at0, fl, cd, nm, rm, on, fh, un, g, h0⟩ := hO
  have x1 := hX.1
  have g0 : ∀ e, ax_up es 173 e 159 = _ := fun e => (ax_up_ne es e (by decide)).trans h0
  have e0 : nI b + 1 = nI (b + 1) := (nI_succ b).symm
  have v0 : vp_in (nI (b + 1)) 1196 := nI_in (by omega) (by decide)
  have f0 : (nI (b + 1)).toNatClampNeg = b + 1 := nI_clamp (by omega)
  have e1 : nI b + 2 + nI c = nI (b + 2 + c) := by
    show nI b + nI 2 + nI c = _
    rw [kn_add, kn_add]
  have v1 : vp_in (nI (b + 2 + c)) 1196 := nI_in (by omega) (by decide)
  have e2 : (nI (b + 2 + c)).toNatClampNeg = b + 2 + c := nI_clamp (by omega)
  have e3 := hV.2.1
  have e4 : nI C ||| (1 <<< (nI c &&& 31)) = nI (C ||| 2 ^ c) := kc_crack (by omega)
  refine ax_Mt_go (m := ax_m_11_53) (ls := [some (.ref 159), some (.int (nI b)), some (.int (nI c))]) rfl ax_b_1461_0 (Nat.le_of_ble_eq_true rfl) rfl ?_
  simp only [ax_W_cons, ax_I, ax_cmp, ax_ii, ax_ll, ax_li, ax_st1, ax_st2, ax_kl, ax_k2, ax_fit, ax_rtok, List.getElem?_cons_zero, List.getElem?_cons_succ, List.length_cons, List.length_nil, List.set_cons_zero, List.set_cons_succ, Nat.reduceAdd, Nat.reduceDiv, Nat.reduceMod, Nat.reduceMul, Nat.reduceLT, Nat.reduceLeDiff, Int32.reduceOfInt, Int64.reduceOfInt, true_and, and_true, and_self, true_or, or_true, false_implies, true_implies, not_false_eq_true, not_true_eq_false, Value.category, Nat.reduceEqDiff, Option.toList, List.cons_append, List.nil_append, List.drop_succ_cons, List.drop_zero, ax_qq_eq, ax_t_1461, h0, g0, x1, mo_f, hal, e0, v0, f0, e1, v1, e2, e3, e4, ax_up_same, ax_up_up]
  exact hQ _ _ (mfr_up es _) (mX_up hX) (mfs_trans (mfs_up st _ (by omega)) (mfs_up _ _ (by omega))) (mV_sh hk hp (mV_cr hV _) hc _)
theorem mk_changes (hal : ax_al n = 178) (hO : mO es) (hX : mX es st) (hk : k ≤ 12) (hp : p ≤ 6) (hb : b + 52 ≤ 1196) (hV : mV st b k p T C sh pl dn) {i j : Nat} (hi : i < p) (hj : j < p) (hQ : ∀ es' st', mfr es es' → mX es' st' → mfs b st st' → mV st' b k p T C sh (kx_exch pl (nI i) (nI j)) dn → Q none es') : ax_Mt d 1463 [.ref 159, .int (nI b), .int (nI i), .int (nI j)] n sl es Q := by
  obtain ⟨th, tp, sz, at0, fl, cd, nm, rm, on, fh, un, g, h0⟩ := hO
  have x1 := hX.1
  have g0 : ∀ e, ax_up es 173 e 159 = _ := fun e => (ax_up_ne es e (by decide)).trans h0
  have e1 : nI b + 14 + nI i = nI (b + 14 + i) := by
    show nI b + nI 14 + nI i = _
    rw [kn_add, kn_add]
  have v1 : vp_in (nI (b + 14 + i)) 1196 := nI_in (by omega) (by decide)
  have e2 : (nI (b + 14 + i)).toNatClampNeg = b + 14 + i := nI_clamp (by omega)
  have f1 : nI b + 14 + nI j = nI (b + 14 + j) := by
    show nI b + nI 14 + nI j = _
    rw [kn_add, kn_add]
  have w1 : vp_in (nI (b + 14 + j)) 1196 := nI_in (by omega) (by decide)
  have f2 : (nI (b + 14 + j)).toNatClampNeg = b + 14 + j := nI_clamp (by omega)
  have e3 := hV.2.2.2.1 i hi
  have f3 := hV.2.2.2.1 j hj
  refine ax_Mt_go (m := ax_m_11_55) (ls := [some (.ref 159), some (.int (nI b)), some (.int (nI i)), some (.int (nI j)), none]) rfl ax_b_1463_0 (Nat.le_of_ble_eq_true rfl) rfl ?_
  simp only [ax_W_cons, ax_I, ax_cmp, ax_ii, ax_ll, ax_li, ax_st1, ax_st2, ax_kl, ax_k2, ax_fit, ax_rtok, List.getElem?_cons_zero, List.getElem?_cons_succ, List.length_cons, List.length_nil, List.set_cons_zero, List.set_cons_succ, Nat.reduceAdd, Nat.reduceDiv, Nat.reduceMod, Nat.reduceMul, Nat.reduceLT, Nat.reduceLeDiff, Int32.reduceOfInt, Int64.reduceOfInt, true_and, and_true, and_self, true_or, or_true, false_implies, true_implies, not_false_eq_true, not_true_eq_false, Value.category, Nat.reduceEqDiff, Option.toList, List.cons_append, List.nil_append, List.drop_succ_cons, List.drop_zero, ax_qq_eq, ax_t_1463, h0, g0, x1, mo_f, hal, e1, v1, e2, e3, f1, w1, f2, f3, ax_up_same, ax_up_up]
  have e5 : kx_exch pl (nI i) (nI j) = upd (upd pl i (pl j)) j (pl i) := by
    unfold kx_exch
    rw [nI_clamp (by omega), nI_clamp (by omega)]
  rw [e5] at hQ
  exact hQ _ _ (mfr_up es _) (mX_up hX) (mfs_trans (mfs_up st _ (by omega)) (mfs_up _ _ (by omega))) (mV_pl hk hp (mV_pl hk hp hV hi _) hj _)
theorem mk_shaking (hal : ax_al n = 178) (hK : mK es k p hc kd pm ht hs F1 F2) (hX : mX es st) (hk : k ≤ 12) (hb : b + 52 ≤ 1196) (hV : mV st b k p T C sh pl dn) (hQ : Q (some (.int (kx_bits sh k))) es) : ax_Mt (d + 1) 1468 [.ref 159, .int (nI b)] n sl es Q := by
  obtain ⟨th, tp, sz, at0, fl, cd, nm, rm, on, fh, un, g, h0⟩ := id hK.1
  have x1 := hX.1
  refine ax_Mt_go (m := ax_m_11_60) (ls := [some (.ref 159), some (.int (nI b)), none, none]) rfl ax_b_1468_0 (Nat.le_of_ble_eq_true rfl) rfl ?_
  simp only [ax_W_cons, ax_I, ax_cmp, ax_ii, ax_ll, ax_li, ax_st1, ax_st2, ax_kl, ax_k2, ax_fit, ax_rtok, List.getElem?_cons_zero, List.getElem?_cons_succ, List.length_cons, List.length_nil, List.set_cons_zero, List.set_cons_succ, Nat.reduceAdd, Nat.reduceDiv, Nat.reduceMod, Nat.reduceMul, Nat.reduceLT, Nat.reduceLeDiff, Int32.reduceOfInt, Int64.reduceOfInt, true_and, and_true, and_self, true_or, or_true, false_implies, true_implies, not_false_eq_true, not_true_eq_false, Value.category, Nat.reduceEqDiff, Option.toList, List.cons_append, List.nil_append, List.drop_succ_cons, List.drop_zero, ax_qq_eq, ax_t_1468]
  rw [ax_n_1468_4]
  refine kx_loop (k := k) (I := fun c => ax_W (d + 1) n sl 1468 [(1, .iload 3), (1, .aload 0), (3, .invokeinterface 1450 5), (3, .if_icmp .ge 41), (1, .iload 2), (1, .aload 0), (3, .getfield 2910), (1, .iload 1), (1, .iconst 2), (1, .iadd), (1, .iload 3), (1, .iadd), (1, .iaload), (3, .ifCond .le 32), (1, .iconst 1), (1, .iload 3), (1, .ishl), (3, .goto 33)] 4 [some (.ref 159), some (.int (nI b)), some (.int (kx_bits sh c)), some (.int (nI c))] [] n sl es (ax_qq n sl Q)) ?_ ?_
  · have e0 := kx_nn (k := k) (by omega)
    simp only [ax_W_cons, ax_I, ax_cmp, ax_ii, ax_ll, ax_li, ax_st1, ax_st2, ax_kl, ax_k2, ax_fit, ax_rtok, List.getElem?_cons_zero, List.getElem?_cons_succ, List.length_cons, List.length_nil, List.set_cons_zero, List.set_cons_succ, Nat.reduceAdd, Nat.reduceDiv, Nat.reduceMod, Nat.reduceMul, Nat.reduceLT, Nat.reduceLeDiff, Int32.reduceOfInt, Int64.reduceOfInt, true_and, and_true, and_self, true_or, or_true, false_implies, true_implies, not_false_eq_true, not_true_eq_false, Value.category, Nat.reduceEqDiff, Option.toList, List.cons_append, List.nil_append, List.drop_succ_cons, List.drop_zero, ax_qq_eq, ax_t_1468]
    refine ax_inv_of (Nat.le_of_ble_eq_true rfl) (Nat.le_of_ble_eq_true rfl) (fun _ => mO_rcv hal hK.1 _) (fun h => absurd h (by decide)) (Nat.le_refl _) (Nat.le_refl _) (mk_cells hal hK ?_)
    simp only [ax_W_cons, ax_I, ax_cmp, ax_ii, ax_ll, ax_li, ax_st1, ax_st2, ax_kl, ax_k2, ax_fit, ax_rtok, List.getElem?_cons_zero, List.getElem?_cons_succ, List.length_cons, List.length_nil, List.set_cons_zero, List.set_cons_succ, Nat.reduceAdd, Nat.reduceDiv, Nat.reduceMod, Nat.reduceMul, Nat.reduceLT, Nat.reduceLeDiff, Int32.reduceOfInt, Int64.reduceOfInt, true_and, and_true, and_self, true_or, or_true, false_implies, true_implies, not_false_eq_true, not_true_eq_false, Value.category, Nat.reduceEqDiff, Option.toList, List.cons_append, List.nil_append, List.drop_succ_cons, List.drop_zero, ax_qq_eq, ax_t_1468, ax_j_1468_41, ax_n_1468_41, e0]
    exact hQ
  · intro c hc ih
    obtain ⟨f1, -, -, f4⟩ := kx_ix hc hk (by decide)
    have e1 : nI b + 2 + nI c = nI (b + 2 + c) := by
      show nI b + nI 2 + nI c = _
      rw [kn_add, kn_add]
    have v1 : vp_in (nI (b + 2 + c)) 1196 := nI_in (by omega) (by decide)
    have e2 : (nI (b + 2 + c)).toNatClampNeg = b + 2 + c := nI_clamp (by omega)
    have e3 := hV.2.2.1 c hc
    rw [kx_bits] at ih
    simp only [ax_W_cons, ax_I, ax_cmp, ax_ii, ax_ll, ax_li, ax_st1, ax_st2, ax_kl, ax_k2, ax_fit, ax_rtok, List.getElem?_cons_zero, List.getElem?_cons_succ, List.length_cons, List.length_nil, List.set_cons_zero, List.set_cons_succ, Nat.reduceAdd, Nat.reduceDiv, Nat.reduceMod, Nat.reduceMul, Nat.reduceLT, Nat.reduceLeDiff, Int32.reduceOfInt, Int64.reduceOfInt, true_and, and_true, and_self, true_or, or_true, false_implies, true_implies, not_false_eq_true, not_true_eq_false, Value.category, Nat.reduceEqDiff, Option.toList, List.cons_append, List.nil_append, List.drop_succ_cons, List.drop_zero, ax_qq_eq, ax_t_1468]
    refine ax_inv_of (Nat.le_of_ble_eq_true rfl) (Nat.le_of_ble_eq_true rfl) (fun _ => mO_rcv hal hK.1 _) (fun h => absurd h (by decide)) (Nat.le_refl _) (Nat.le_refl _) (mk_cells hal hK ?_)
    simp only [ax_W_cons, ax_I, ax_cmp, ax_ii, ax_ll, ax_li, ax_st1, ax_st2, ax_kl, ax_k2, ax_fit, ax_rtok, List.getElem?_cons_zero, List.getElem?_cons_succ, List.length_cons, List.length_nil, List.set_cons_zero, List.set_cons_succ, Nat.reduceAdd, Nat.reduceDiv, Nat.reduceMod, Nat.reduceMul, Nat.reduceLT, Nat.reduceLeDiff, Int32.reduceOfInt, Int64.reduceOfInt, true_and, and_true, and_self, true_or, or_true, false_implies, true_implies, not_false_eq_true, not_true_eq_false, Value.category, Nat.reduceEqDiff, Option.toList, List.cons_append, List.nil_append, List.drop_succ_cons, List.drop_zero, ax_qq_eq, ax_t_1468, ax_j_1468_32, ax_n_1468_32, ax_j_1468_33, ax_n_1468_33, h0, x1, mo_f, hal, f1, e1, v1, e2, e3, f4]
    simp only [ax_j_1468_4]
    refine ⟨fun h => ?_, fun h => ?_⟩
    · rw [if_neg (by rw [kx_nlt]; exact h)] at ih
      rw [Int32.or_zero]
      exact ih
    · rw [kx_nle] at h
      rw [if_pos h] at ih
      exact ih
theorem kx_sum_congr {f g : Nat → Int32} : ∀ m, (∀ i, i < m → f i = g i) → kx_sum f m = kx_sum g m
  | 0, _ => rfl
  | m + 1, h => by rw [kx_sum, kx_sum, kx_sum_congr m (fun i hi => h i (by omega)), h m (by omega)]
theorem mk_sumOf (hal : ax_al n = 178) (hO : mO es) (hX : mX es st) {w m : Nat} (hw : w + m ≤ 1196) (hQ : Q (some (.int (kx_sum (fun j => st (w + j)) m))) es) : ax_Mt d 1469 [.ref 159, .int (nI w), .int (nI m)] n sl es Q := by
  obtain ⟨th, tp, sz, at0, fl, cd, nm, rm, on, fh, un, g, h0⟩ := hO
  have x1 := hX.1
  refine ax_Mt_go (m := ax_m_11_61) (ls := [some (.ref 159), some (.int (nI w)), some (.int (nI m)), none, none]) rfl ax_b_1469_0 (Nat.le_of_ble_eq_true rfl) rfl ?_
  simp only [ax_W_cons, ax_I, ax_cmp, ax_ii, ax_ll, ax_li, ax_st1, ax_st2, ax_kl, ax_k2, ax_fit, ax_rtok, List.getElem?_cons_zero, List.getElem?_cons_succ, List.length_cons, List.length_nil, List.set_cons_zero, List.set_cons_succ, Nat.reduceAdd, Nat.reduceDiv, Nat.reduceMod, Nat.reduceMul, Nat.reduceLT, Nat.reduceLeDiff, Int32.reduceOfInt, Int64.reduceOfInt, true_and, and_true, and_self, true_or, or_true, false_implies, true_implies, not_false_eq_true, not_true_eq_false, Value.category, Nat.reduceEqDiff, Option.toList, List.cons_append, List.nil_append, List.drop_succ_cons, List.drop_zero, ax_qq_eq, ax_t_1469]
  rw [ax_n_1469_5]
  refine kx_loop (k := m) (I := fun c => ax_W (d) n sl 1469 [(2, .iload 4), (1, .iload 2), (3, .if_icmp .ge 29), (1, .iload 3), (1, .aload 0), (3, .getfield 2910), (1, .iload 1), (2, .iload 4), (1, .iadd), (1, .iaload), (1, .iadd), (1, .istore 3), (3, .iinc 4 1), (3, .goto 5)] 5 [some (.ref 159), some (.int (nI w)), some (.int (nI m)), some (.int (kx_sum (fun j => st (w + j)) c)), some (.int (nI c))] [] n sl es (ax_qq n sl Q)) ?_ ?_
  · have e0 := kx_nn (k := m) (by omega)
    simp only [ax_W_cons, ax_I, ax_cmp, ax_ii, ax_ll, ax_li, ax_st1, ax_st2, ax_kl, ax_k2, ax_fit, ax_rtok, List.getElem?_cons_zero, List.getElem?_cons_succ, List.length_cons, List.length_nil, List.set_cons_zero, List.set_cons_succ, Nat.reduceAdd, Nat.reduceDiv, Nat.reduceMod, Nat.reduceMul, Nat.reduceLT, Nat.reduceLeDiff, Int32.reduceOfInt, Int64.reduceOfInt, true_and, and_true, and_self, true_or, or_true, false_implies, true_implies, not_false_eq_true, not_true_eq_false, Value.category, Nat.reduceEqDiff, Option.toList, List.cons_append, List.nil_append, List.drop_succ_cons, List.drop_zero, ax_qq_eq, ax_t_1469, ax_j_1469_29, ax_n_1469_29, e0]
    exact hQ
  · intro c hc ih
    obtain ⟨f1, -, -, f4⟩ := kx_ix (N := 1196) hc (by omega) (by decide)
    have v1 : vp_in (nI (w + c)) 1196 := nI_in (by omega) (by decide)
    have e2 : (nI (w + c)).toNatClampNeg = w + c := nI_clamp (by omega)
    simp only [ax_W_cons, ax_I, ax_cmp, ax_ii, ax_ll, ax_li, ax_st1, ax_st2, ax_kl, ax_k2, ax_fit, ax_rtok, List.getElem?_cons_zero, List.getElem?_cons_succ, List.length_cons, List.length_nil, List.set_cons_zero, List.set_cons_succ, Nat.reduceAdd, Nat.reduceDiv, Nat.reduceMod, Nat.reduceMul, Nat.reduceLT, Nat.reduceLeDiff, Int32.reduceOfInt, Int64.reduceOfInt, true_and, and_true, and_self, true_or, or_true, false_implies, true_implies, not_false_eq_true, not_true_eq_false, Value.category, Nat.reduceEqDiff, Option.toList, List.cons_append, List.nil_append, List.drop_succ_cons, List.drop_zero, ax_qq_eq, ax_t_1469, h0, x1, mo_f, hal, f1, kn_add, v1, e2, f4]
    rw [ax_j_1469_5]
    exact ih
theorem mk_doneOf (hal : ax_al n = 178) (hK : mK es k p hc kd pm ht hs F1 F2) (hX : mX es st) (hp : p ≤ 6) (hb : b + 52 ≤ 1196) (hV : mV st b k p T C sh pl dn) (hQ : Q (some (.int (kx_sum dn p))) es) : ax_Mt (d + 1) 1470 [.ref 159, .int (nI b)] n sl es Q := by
  have e1 : nI b + 20 = nI (b + 20) := kn_add b 20
  refine ax_Mt_go (m := ax_m_11_62) (ls := [some (.ref 159), some (.int (nI b))]) rfl ax_b_1470_0 (Nat.le_of_ble_eq_true rfl) rfl ?_
  simp only [ax_W_cons, ax_I, ax_cmp, ax_ii, ax_ll, ax_li, ax_st1, ax_st2, ax_kl, ax_k2, ax_fit, ax_rtok, List.getElem?_cons_zero, List.getElem?_cons_succ, List.length_cons, List.length_nil, List.set_cons_zero, List.set_cons_succ, Nat.reduceAdd, Nat.reduceDiv, Nat.reduceMod, Nat.reduceMul, Nat.reduceLT, Nat.reduceLeDiff, Int32.reduceOfInt, Int64.reduceOfInt, true_and, and_true, and_self, true_or, or_true, false_implies, true_implies, not_false_eq_true, not_true_eq_false, Value.category, Nat.reduceEqDiff, Option.toList, List.cons_append, List.nil_append, List.drop_succ_cons, List.drop_zero, ax_qq_eq, ax_t_1470, e1]
  refine ax_inv_of (Nat.le_of_ble_eq_true rfl) (Nat.le_of_ble_eq_true rfl) (fun _ => mO_rcv hal hK.1 _) (fun h => absurd h (by decide)) (Nat.le_refl _) (Nat.le_refl _) (mk_courtiers hal hK ?_)
  simp only [ax_W_cons, ax_I, ax_cmp, ax_ii, ax_ll, ax_li, ax_st1, ax_st2, ax_kl, ax_k2, ax_fit, ax_rtok, List.getElem?_cons_zero, List.getElem?_cons_succ, List.length_cons, List.length_nil, List.set_cons_zero, List.set_cons_succ, Nat.reduceAdd, Nat.reduceDiv, Nat.reduceMod, Nat.reduceMul, Nat.reduceLT, Nat.reduceLeDiff, Int32.reduceOfInt, Int64.reduceOfInt, true_and, and_true, and_self, true_or, or_true, false_implies, true_implies, not_false_eq_true, not_true_eq_false, Value.category, Nat.reduceEqDiff, Option.toList, List.cons_append, List.nil_append, List.drop_succ_cons, List.drop_zero, ax_qq_eq, ax_t_1470]
  refine ax_inv_of (Nat.le_of_ble_eq_true rfl) (Nat.le_of_ble_eq_true rfl) (fun _ => mO_rcv hal hK.1 _) (fun h => absurd h (by decide)) (Nat.le_refl _) (Nat.le_refl _) (mk_sumOf hal hK.1 hX (w := b + 20) (m := p) (by omega) ?_)
  simp only [ax_W_cons, ax_I, ax_cmp, ax_ii, ax_ll, ax_li, ax_st1, ax_st2, ax_kl, ax_k2, ax_fit, ax_rtok, List.getElem?_cons_zero, List.getElem?_cons_succ, List.length_cons, List.length_nil, List.set_cons_zero, List.set_cons_succ, Nat.reduceAdd, Nat.reduceDiv, Nat.reduceMod, Nat.reduceMul, Nat.reduceLT, Nat.reduceLeDiff, Int32.reduceOfInt, Int64.reduceOfInt, true_and, and_true, and_self, true_or, or_true, false_implies, true_implies, not_false_eq_true, not_true_eq_false, Value.category, Nat.reduceEqDiff, Option.toList, List.cons_append, List.nil_append, List.drop_succ_cons, List.drop_zero, ax_qq_eq, ax_t_1470]
  rw [kx_sum_congr p (fun i hi => hV.2.2.2.2 i hi)]
  exact hQ
/-- so many copied -/
def mo_cp (st : Nat → Int32) (x y m : Nat) : Nat → Int32 := fun j => if y ≤ j ∧ j < y + m then st (x + (j - y)) else st j
theorem mk_copies (hal : ax_al n = 178) (hO : mO es) (hX : mX es st) {x y m : Nat} (hx : x + m ≤ 1196) (hy : y + m ≤ 1196) (hd : x + m ≤ y ∨ y + m ≤ x) (hQ : ∀ es', mfr es es' → mX es' (mo_cp st x y m) → Q none es') : ax_Mt d 1446 [.ref 159, .int (nI x), .int (nI y), .int (nI m)] n sl es Q := by
  obtain ⟨th, tp, sz, at0, fl, cd, nm, rm, on, fh, un, g, h0⟩ := hO
  have x1 := hX.1
  have g0 : ∀ e, ax_up es 173 e 159 = _ := fun e => (ax_up_ne es e (by decide)).trans h0
  refine ax_Mt_go (m := ax_m_11_38) (ls := [some (.ref 159), some (.int (nI x)), some (.int (nI y)), some (.int (nI m)), none]) rfl ax_b_1446_0 (Nat.le_of_ble_eq_true rfl) rfl ?_
  simp only [ax_W_cons, ax_I, ax_cmp, ax_ii, ax_ll, ax_li, ax_st1, ax_st2, ax_kl, ax_k2, ax_fit, ax_rtok, List.getElem?_cons_zero, List.getElem?_cons_succ, List.length_cons, List.length_nil, List.set_cons_zero, List.set_cons_succ, Nat.reduceAdd, Nat.reduceDiv, Nat.reduceMod, Nat.reduceMul, Nat.reduceLT, Nat.reduceLeDiff, Int32.reduceOfInt, Int64.reduceOfInt, true_and, and_true, and_self, true_or, or_true, false_implies, true_implies, not_false_eq_true, not_true_eq_false, Value.category, Nat.reduceEqDiff, Option.toList, List.cons_append, List.nil_append, List.drop_succ_cons, List.drop_zero, ax_qq_eq, ax_t_1446]
  rw [ax_n_1446_3]
  have L := kx_loop (k := m) (I := fun c => ax_W (d) n sl 1446 [(2, .iload 4), (1, .iload 3), (3, .if_icmp .ge 33), (1, .aload 0), (3, .getfield 2910), (1, .iload 2), (2, .iload 4), (1, .iadd), (1, .aload 0), (3, .getfield 2910), (1, .iload 1), (2, .iload 4), (1, .iadd), (1, .iaload), (1, .iastore), (3, .iinc 4 1), (3, .goto 3)] 3 [some (.ref 159), some (.int (nI x)), some (.int (nI y)), some (.int (nI m)), some (.int (nI c))] [] n sl (ax_up es 173 (.inl (0, 1196, .inl (mo_cp st x y c)))) (ax_qq n sl Q)) ?_ ?_
  · have e9 : mo_cp st x y 0 = st := by
      funext j
      unfold mo_cp
      rw [if_neg (by omega)]
    rw [e9, ax_up_id x1] at L
    exact L
  · have e0 := kx_nn (k := m) (by omega)
    simp only [ax_W_cons, ax_I, ax_cmp, ax_ii, ax_ll, ax_li, ax_st1, ax_st2, ax_kl, ax_k2, ax_fit, ax_rtok, List.getElem?_cons_zero, List.getElem?_cons_succ, List.length_cons, List.length_nil, List.set_cons_zero, List.set_cons_succ, Nat.reduceAdd, Nat.reduceDiv, Nat.reduceMod, Nat.reduceMul, Nat.reduceLT, Nat.reduceLeDiff, Int32.reduceOfInt, Int64.reduceOfInt, true_and, and_true, and_self, true_or, or_true, false_implies, true_implies, not_false_eq_true, not_true_eq_false, Value.category, Nat.reduceEqDiff, Option.toList, List.cons_append, List.nil_append, List.drop_succ_cons, List.drop_zero, ax_qq_eq, ax_t_1446, ax_j_1446_33, ax_n_1446_33, e0]
    exact hQ _ (mfr_up es _) (mX_up hX)
  · intro c hc ih
    obtain ⟨f1, -, -, f4⟩ := kx_ix (N := 1196) hc (by omega) (by decide)
    have v1 : vp_in (nI (x + c)) 1196 := nI_in (by omega) (by decide)
    have e1 : (nI (x + c)).toNatClampNeg = x + c := nI_clamp (by omega)
    have v2 : vp_in (nI (y + c)) 1196 := nI_in (by omega) (by decide)
    have e2 : (nI (y + c)).toNatClampNeg = y + c := nI_clamp (by omega)
    simp only [ax_W_cons, ax_I, ax_cmp, ax_ii, ax_ll, ax_li, ax_st1, ax_st2, ax_kl, ax_k2, ax_fit, ax_rtok, List.getElem?_cons_zero, List.getElem?_cons_succ, List.length_cons, List.length_nil, List.set_cons_zero, List.set_cons_succ, Nat.reduceAdd, Nat.reduceDiv, Nat.reduceMod, Nat.reduceMul, Nat.reduceLT, Nat.reduceLeDiff, Int32.reduceOfInt, Int64.reduceOfInt, true_and, and_true, and_self, true_or, or_true, false_implies, true_implies, not_false_eq_true, not_true_eq_false, Value.category, Nat.reduceEqDiff, Option.toList, List.cons_append, List.nil_append, List.drop_succ_cons, List.drop_zero, ax_qq_eq, ax_t_1446, g0, mo_f, hal, f1, kn_add, v1, e1, v2, e2, f4, ax_up_same, ax_up_up]
    rw [ax_j_1446_3]
    have e9 : upd (mo_cp st x y c) (y + c) (mo_cp st x y c (x + c)) = mo_cp st x y (c + 1) := by
      funext j
      unfold upd mo_cp
      by_cases h : j = y + c
      · subst h
        rw [if_pos rfl, if_neg (by omega), if_pos (by omega)]
        congr 1
        omega
      · rw [if_neg h]
        by_cases h2 : y ≤ j ∧ j < y + c
        · rw [if_pos h2, if_pos (by omega)]
        · rw [if_neg h2, if_neg (by omega)]
    rw [e9]
    exact ih
theorem mV_cp {x y m : Nat} (hm : 26 ≤ m) (h : mV st x k p T C sh pl dn) (hk : k ≤ 12) (hp : p ≤ 6) : mV (mo_cp st x y m) y k p T C sh pl dn := by
  obtain ⟨h1, h2, h3, h4, h5⟩ := h
  refine ⟨?_, ?_, fun c hc => ?_, fun i hi => ?_, fun i hi => ?_⟩
  · unfold mo_cp
    rw [if_pos (by omega), show x + (y - y) = x by omega]
    exact h1
  · unfold mo_cp
    rw [if_pos (by omega), show x + (y + 1 - y) = x + 1 by omega]
    exact h2
  · unfold mo_cp
    rw [if_pos (by omega), show x + (y + 2 + c - y) = x + 2 + c by omega]
    exact h3 c hc
  · unfold mo_cp
    rw [if_pos (by omega), show x + (y + 14 + i - y) = x + 14 + i by omega]
    exact h4 i hi
  · unfold mo_cp
    rw [if_pos (by omega), show x + (y + 20 + i - y) = x + 20 + i by omega]
    exact h5 i hi
theorem mfs_cp (x y : Nat) : mfs y st (mo_cp st x y 26) := fun j hj => by
  unfold mo_cp
  rw [if_neg (by omega)]
theorem mV_fs {b b' : Nat} {st' : Nat → Int32} (h : mV st b k p T C sh pl dn) (hk : k ≤ 12) (hp : p ≤ 6) (hf : mfs b' st st') (hd : b + 26 ≤ b' ∨ b' + 26 ≤ b) : mV st' b k p T C sh pl dn := by
  obtain ⟨h1, h2, h3, h4, h5⟩ := h
  exact ⟨by rw [hf b (by omega)]; exact h1, by rw [hf _ (by omega)]; exact h2, fun c hc => by rw [hf _ (by omega)]; exact h3 c hc, fun i hi => by rw [hf _ (by omega)]; exact h4 i hi, fun i hi => by rw [hf _ (by omega)]; exact h5 i hi⟩
theorem mk_triesNow (hal : ax_al n = 178) (hO : mO es) (hX : mX es st) (hk : k ≤ 12) (hp : p ≤ 6) (hV : mV st 0 k p T C sh pl dn) (hQ : ∀ es' st', mfr es es' → mX es' st' → mfs 1092 st st' → mV st' 1092 k p T C sh pl dn → Q none es') : ax_Mt (d + 1) 1483 [.ref 159] n sl es Q := by
  refine ax_Mt_go (m := ax_m_11_75) (ls := [some (.ref 159)]) rfl ax_b_1483_0 (Nat.le_of_ble_eq_true rfl) rfl ?_
  simp only [ax_W_cons, ax_I, ax_cmp, ax_ii, ax_ll, ax_li, ax_st1, ax_st2, ax_kl, ax_k2, ax_fit, ax_rtok, List.getElem?_cons_zero, List.getElem?_cons_succ, List.length_cons, List.length_nil, List.set_cons_zero, List.set_cons_succ, Nat.reduceAdd, Nat.reduceDiv, Nat.reduceMod, Nat.reduceMul, Nat.reduceLT, Nat.reduceLeDiff, Int32.reduceOfInt, Int64.reduceOfInt, true_and, and_true, and_self, true_or, or_true, false_implies, true_implies, not_false_eq_true, not_true_eq_false, Value.category, Nat.reduceEqDiff, Option.toList, List.cons_append, List.nil_append, List.drop_succ_cons, List.drop_zero, ax_qq_eq, ax_t_1483]
  refine ax_inv_of (Nat.le_of_ble_eq_true rfl) (Nat.le_of_ble_eq_true rfl) (fun _ => mO_rcv hal hO _) (fun h => absurd h (by decide)) (Nat.le_refl _) (Nat.le_refl _) (mk_copies hal hO hX (x := 0) (y := 1092) (m := 26) (by omega) (by omega) (by omega) ?_)
  intro es' f x
  simp only [ax_W_cons, ax_I, ax_cmp, ax_ii, ax_ll, ax_li, ax_st1, ax_st2, ax_kl, ax_k2, ax_fit, ax_rtok, List.getElem?_cons_zero, List.getElem?_cons_succ, List.length_cons, List.length_nil, List.set_cons_zero, List.set_cons_succ, Nat.reduceAdd, Nat.reduceDiv, Nat.reduceMod, Nat.reduceMul, Nat.reduceLT, Nat.reduceLeDiff, Int32.reduceOfInt, Int64.reduceOfInt, true_and, and_true, and_self, true_or, or_true, false_implies, true_implies, not_false_eq_true, not_true_eq_false, Value.category, Nat.reduceEqDiff, Option.toList, List.cons_append, List.nil_append, List.drop_succ_cons, List.drop_zero, ax_qq_eq, ax_t_1483]
  exact hQ es' _ f x (mfs_cp 0 1092) (mV_cp (Nat.le_refl _) hV hk hp)
end MM
