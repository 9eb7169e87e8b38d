/-! the class: the next token -/
section TT
variable {d n sl : Nat} {es : ax_H} {t : zTp} {Q : Option Value → ax_H → Prop}
theorem ck_readName (hal : ax_al n = 178) (ht : zT_ok t) {p : Nat} (hp : p < t.1) {kd nb tk ft : Int32} {nm : Int64} (h : kT0 es (nI t.1) kd nb nm tk ft (nI p) (nI p)) (hS : xSg es t) (hQ : ∀ es' nm', kT0 es' (nI t.1) kd nb nm' tk ft (nI p) (nI (zend t zL p)) → (zend t zL p - p ≤ 8 → nm' = nL (zv256 (zwr t p (zend t zL p - p)))) → (∀ j, p ≤ j → j < zend t zL p → zL (t.2 j) = true) → (∀ j, j ≠ 1 → es' j = es j) → Q none es') : ax_Mt (d + 9) 1161 [.ref 1] n sl es Q := by
  obtain ⟨sg, s1, s2⟩ := hS
  have hL := ht.1
  unfold kT0 at h
  have c10 : ¬ (1 : Int32) = 0 := by decide
  refine ax_Mt_go (m := ax_m_9_9) (ls := [some (.ref 1)]) rfl ax_b_1161_0 (Nat.le_of_ble_eq_true rfl) rfl ?_
  simp only [ax_W_cons, ax_I, ax_cmp, ax_ii, ax_ll, ax_li, ax_st1, ax_st2, ax_kl, ax_k2, ax_fit, ax_rtok, List.getElem?_cons_zero, List.getElem?_cons_succ, List.length_cons, List.length_nil, List.set_cons_zero, List.set_cons_succ, Nat.reduceAdd, Nat.reduceDiv, Nat.reduceMod, Nat.reduceMul, Nat.reduceLT, Nat.reduceLeDiff, Int32.reduceOfInt, Int64.reduceOfInt, true_and, and_true, and_self, true_or, or_true, false_implies, true_implies, not_false_eq_true, not_true_eq_false, Value.category, Nat.reduceEqDiff, Option.toList, List.cons_append, List.nil_append, List.drop_succ_cons, List.drop_zero, ax_qq_eq, ax_t_1161, h, hal]
  rw [ax_n_1161_5]
  -- the end of it
  have fin : (∀ j, p ≤ j → j < zend t zL p → zL (t.2 j) = true) → ∀ es1 nm1, kT0 es1 (nI t.1) kd nb nm1 tk ft (nI p) (nI (zend t zL p)) → (zend t zL p - p ≤ 8 → nm1 = nL (zv256 (zwr t p (zend t zL p - p)))) → (∀ j, j ≠ 1 → es1 j = es j) → ax_J ax_W (d + 9) n sl 1161 66 [some (.ref 1)] [] n sl es1 (ax_qq n sl Q) := by
    intro hall es1 nm1 i1 i2 i3
    simp only [ax_W_cons, ax_I, ax_cmp, ax_ii, ax_ll, ax_li, ax_st1, ax_st2, ax_kl, ax_k2, ax_fit, ax_rtok, List.getElem?_cons_zero, List.getElem?_cons_succ, List.length_cons, List.length_nil, List.set_cons_zero, List.set_cons_succ, Nat.reduceAdd, Nat.reduceDiv, Nat.reduceMod, Nat.reduceMul, Nat.reduceLT, Nat.reduceLeDiff, Int32.reduceOfInt, Int64.reduceOfInt, true_and, and_true, and_self, true_or, or_true, false_implies, true_implies, not_false_eq_true, not_true_eq_false, Value.category, Nat.reduceEqDiff, Option.toList, List.cons_append, List.nil_append, List.drop_succ_cons, List.drop_zero, ax_qq_eq, ax_t_1161, ax_j_1161_66, ax_n_1161_66]
    exact hQ es1 nm1 i1 i2 hall i3
  have L := kx_down (k := t.1) (I := fun f i => p ≤ i → zrun t zL f i = zend t zL p → (∀ j, p ≤ j → j < i → zL (t.2 j) = true) → ∀ es1 nm1, kT0 es1 (nI t.1) kd nb nm1 tk ft (nI p) (nI i) → (i - p ≤ 8 → nm1 = nL (zv256 (zwr t p (i - p)))) → (∀ j, j ≠ 1 → es1 j = es j) → ax_W (d + 9) n sl 1161 [(1, .aload 0), (3, .getfield 2336), (1, .aload 0), (3, .getfield 2308), (3, .if_icmp .ge 66), (1, .aload 0), (3, .getfield 2306), (1, .aload 0), (3, .getfield 2336), (1, .baload), (3, .invokeinterface 1164 4), (3, .ifCond .eq 66), (1, .aload 0), (1, .aload 0), (3, .getfield 2321), (2, .iconst 8), (1, .lshl), (1, .aload 0), (3, .getfield 2306), (1, .aload 0), (3, .getfield 2336), (1, .baload), (1, .i2l), (1, .lor), (3, .putfield 2321), (1, .aload 0), (1, .dup), (3, .getfield 2336), (1, .iconst 1), (1, .iadd), (3, .putfield 2336), (3, .goto 5)] 5 [some (.ref 1)] [] n sl es1 (ax_qq n sl Q)) ?_ ?_ (t.1 - p) p (by omega)
  · refine L (Nat.le_refl _) rfl (fun j h1 h2 => by omega) _ 0 (ax_up_same ..) (fun _ => ?_) (fun j hj => ax_up_ne _ _ hj)
    rw [Nat.sub_self]
    rfl
  · intro hpi hz hall es1 nm1 i1 i2 i3
    have w1 : es1 1 = _ := i1
    have e0 := kx_nn (k := t.1) (by omega)
    rw [zrun] at hz
    simp only [ax_W_cons, ax_I, ax_cmp, ax_ii, ax_ll, ax_li, ax_st1, ax_st2, ax_kl, ax_k2, ax_fit, ax_rtok, List.getElem?_cons_zero, List.getElem?_cons_succ, List.length_cons, List.length_nil, List.set_cons_zero, List.set_cons_succ, Nat.reduceAdd, Nat.reduceDiv, Nat.reduceMod, Nat.reduceMul, Nat.reduceLT, Nat.reduceLeDiff, Int32.reduceOfInt, Int64.reduceOfInt, true_and, and_true, and_self, true_or, or_true, false_implies, true_implies, not_false_eq_true, not_true_eq_false, Value.category, Nat.reduceEqDiff, Option.toList, List.cons_append, List.nil_append, List.drop_succ_cons, List.drop_zero, ax_qq_eq, ax_t_1161, w1, hal, e0]
    exact fin (by rw [← hz]; exact hall) es1 nm1 (by rw [← hz]; exact i1) (by rw [← hz]; exact i2) i3
  · intro f i hi ih hpi hz hall es1 nm1 i1 i2 i3
    have w1 : es1 1 = _ := i1
    have w2 := (i3 2 (by decide)).trans s1
    have hlt : i < t.1 := by omega
    have e0 : ¬ nI t.1 ≤ nI i := nI_ge hlt (by omega)
    have e1 : vp_in (nI i) 1000 := nI_in (by omega) (by decide)
    have e2 : (nI i).toNatClampNeg = i := nI_clamp (by omega)
    have e3 := s2 i hlt
    have hb := zT_lt ht hlt
    have i4 : nI i + 1 = nI (i + 1) := (nI_succ i).symm
    rw [zrun] at hz
    simp only [ax_W_cons, ax_I, ax_cmp, ax_ii, ax_ll, ax_li, ax_st1, ax_st2, ax_kl, ax_k2, ax_fit, ax_rtok, List.getElem?_cons_zero, List.getElem?_cons_succ, List.length_cons, List.length_nil, List.set_cons_zero, List.set_cons_succ, Nat.reduceAdd, Nat.reduceDiv, Nat.reduceMod, Nat.reduceMul, Nat.reduceLT, Nat.reduceLeDiff, Int32.reduceOfInt, Int64.reduceOfInt, true_and, and_true, and_self, true_or, or_true, false_implies, true_implies, not_false_eq_true, not_true_eq_false, Value.category, Nat.reduceEqDiff, Option.toList, List.cons_append, List.nil_append, List.drop_succ_cons, List.drop_zero, ax_qq_eq, ax_t_1161, w1, w2, hal, e0, e1, e2, e3]
    refine ax_inv_of (Nat.le_of_ble_eq_true rfl) (Nat.le_of_ble_eq_true rfl) (fun _ => absurd ‹_› (by decide)) (fun h => absurd h (by decide)) (Nat.le_refl _) (Nat.le_refl _) (ck_isLetter (b := t.2 i) (by omega) ?_)
    cases hl : zL (t.2 i)
    · rw [if_neg (by rw [hl]; decide)] at hz
      rw [hz] at hall i1 i2
      simp only [ax_W_cons, ax_I, ax_cmp, ax_ii, ax_ll, ax_li, ax_st1, ax_st2, ax_kl, ax_k2, ax_fit, ax_rtok, List.getElem?_cons_zero, List.getElem?_cons_succ, List.length_cons, List.length_nil, List.set_cons_zero, List.set_cons_succ, Nat.reduceAdd, Nat.reduceDiv, Nat.reduceMod, Nat.reduceMul, Nat.reduceLT, Nat.reduceLeDiff, Int32.reduceOfInt, Int64.reduceOfInt, true_and, and_true, and_self, true_or, or_true, false_implies, true_implies, not_false_eq_true, not_true_eq_false, Value.category, Nat.reduceEqDiff, Option.toList, List.cons_append, List.nil_append, List.drop_succ_cons, List.drop_zero, ax_qq_eq, ax_t_1161, kx_bf]
      exact fin hall es1 nm1 i1 i2 i3
    · rw [if_pos hl] at hz
      have e5 : (nI (t.2 i)).toInt64 = nL (t.2 i) := nI_64 (by omega)
      simp only [ax_W_cons, ax_I, ax_cmp, ax_ii, ax_ll, ax_li, ax_st1, ax_st2, ax_kl, ax_k2, ax_fit, ax_rtok, List.getElem?_cons_zero, List.getElem?_cons_succ, List.length_cons, List.length_nil, List.set_cons_zero, List.set_cons_succ, Nat.reduceAdd, Nat.reduceDiv, Nat.reduceMod, Nat.reduceMul, Nat.reduceLT, Nat.reduceLeDiff, Int32.reduceOfInt, Int64.reduceOfInt, true_and, and_true, and_self, true_or, or_true, false_implies, true_implies, not_false_eq_true, not_true_eq_false, Value.category, Nat.reduceEqDiff, Option.toList, List.cons_append, List.nil_append, List.drop_succ_cons, List.drop_zero, ax_qq_eq, ax_t_1161, kx_bt, c10, w1, w2, hal, e1, e2, e3, e5, i4, ax_up_same, ax_up_up]
      rw [ax_j_1161_5]
      refine ih (by omega) hz (fun j h1 h2 => ?_) _ _ (ax_up_same ..) (fun h8 => ?_) (fun j hj => (ax_up_ne _ _ hj).trans (i3 j hj))
      · by_cases e : j = i
        · rw [e]; exact hl
        · exact hall j h1 (by omega)
      · rw [i2 (by omega), show i + 1 - p = (i - p) + 1 by omega, zwr, zv256, show p + (i - p) = i by omega]
        have hbd := zv256_lt (zwr t p (i - p)) (zwr_in _ (fun j hj => hall (p + j) (by omega) (by omega)))
        rw [zwr_len] at hbd
        have hpow : 2 ^ (8 * (i - p)) ≤ 2 ^ 56 := Nat.pow_le_pow_right (by decide) (by omega)
        exact nL_shl8 (by omega) (by omega)
theorem ck_readNumber (hal : ax_al n = 178) (ht : zT_ok t) {p : Nat} (hp : p < t.1) {kd nb tk ft : Int32} {nm : Int64} (h : kT0 es (nI t.1) kd nb nm tk ft (nI p) (nI p)) (hS : xSg es t) (hQ : ∀ es', kT0 es' (nI t.1) (nI (if 4 < zend t zD p - p then 27 else 25)) (nI (zv10 t p (zend t zD p - p))) nm tk ft (nI p) (nI (zend t zD p)) → (∀ j, j ≠ 1 → es' j = es j) → Q none es') : ax_Mt (d + 9) 1162 [.ref 1] n sl es Q := by
  obtain ⟨sg, s1, s2⟩ := hS
  have hL := ht.1
  unfold kT0 at h
  have c10 : ¬ (1 : Int32) = 0 := by decide
  refine ax_Mt_go (m := ax_m_9_10) (ls := [some (.ref 1)]) rfl ax_b_1162_0 (Nat.le_of_ble_eq_true rfl) rfl ?_
  simp only [ax_W_cons, ax_I, ax_cmp, ax_ii, ax_ll, ax_li, ax_st1, ax_st2, ax_kl, ax_k2, ax_fit, ax_rtok, List.getElem?_cons_zero, List.getElem?_cons_succ, List.length_cons, List.length_nil, List.set_cons_zero, List.set_cons_succ, Nat.reduceAdd, Nat.reduceDiv, Nat.reduceMod, Nat.reduceMul, Nat.reduceLT, Nat.reduceLeDiff, Int32.reduceOfInt, Int64.reduceOfInt, true_and, and_true, and_self, true_or, or_true, false_implies, true_implies, not_false_eq_true, not_true_eq_false, Value.category, Nat.reduceEqDiff, Option.toList, List.cons_append, List.nil_append, List.drop_succ_cons, List.drop_zero, ax_qq_eq, ax_t_1162, h, hal]
  rw [ax_n_1162_5]
  have fin : ∀ es1, kT0 es1 (nI t.1) kd (nI (zv10 t p (zend t zD p - p))) nm tk ft (nI p) (nI (zend t zD p)) → (∀ j, j ≠ 1 → es1 j = es j) → ax_J ax_W (d + 9) n sl 1162 68 [some (.ref 1)] [] n sl es1 (ax_qq n sl Q) := by
    intro es1 i1 i3
    have hle := zend_le (t := t) (P := zD) (p := p) (by omega)
    have w1 : es1 1 = _ := i1
    have em : nI (zend t zD p) - nI p = nI (zend t zD p - p) := by
      have e8 : nI (zend t zD p) = nI (zend t zD p - p) + nI p := by rw [kn_add]; congr 1; omega
      rw [e8, Int32.add_sub_cancel]
    have hQ := fun es' => hQ es'
    generalize zend t zD p = e at *
    by_cases h8 : 4 < e - p
    · have c8 : ¬ nI (e - p) ≤ 4 := nI_ge (a := 4) h8 (by omega)
      rw [if_pos h8] at hQ
      simp only [ax_W_cons, ax_I, ax_cmp, ax_ii, ax_ll, ax_li, ax_st1, ax_st2, ax_kl, ax_k2, ax_fit, ax_rtok, List.getElem?_cons_zero, List.getElem?_cons_succ, List.length_cons, List.length_nil, List.set_cons_zero, List.set_cons_succ, Nat.reduceAdd, Nat.reduceDiv, Nat.reduceMod, Nat.reduceMul, Nat.reduceLT, Nat.reduceLeDiff, Int32.reduceOfInt, Int64.reduceOfInt, true_and, and_true, and_self, true_or, or_true, false_implies, true_implies, not_false_eq_true, not_true_eq_false, Value.category, Nat.reduceEqDiff, Option.toList, List.cons_append, List.nil_append, List.drop_succ_cons, List.drop_zero, ax_qq_eq, ax_t_1162, ax_j_1162_68, ax_n_1162_68, ax_j_1162_89, ax_n_1162_89, w1, hal, em, c8]
      exact hQ _ (ax_up_same ..) (fun j hj => (ax_up_ne _ _ hj).trans (i3 j hj))
    · have c8 : nI (e - p) ≤ 4 := nI_le (b := 4) (by omega) (by decide)
      rw [if_neg h8] at hQ
      simp only [ax_W_cons, ax_I, ax_cmp, ax_ii, ax_ll, ax_li, ax_st1, ax_st2, ax_kl, ax_k2, ax_fit, ax_rtok, List.getElem?_cons_zero, List.getElem?_cons_succ, List.length_cons, List.length_nil, List.set_cons_zero, List.set_cons_succ, Nat.reduceAdd, Nat.reduceDiv, Nat.reduceMod, Nat.reduceMul, Nat.reduceLT, Nat.reduceLeDiff, Int32.reduceOfInt, Int64.reduceOfInt, true_and, and_true, and_self, true_or, or_true, false_implies, true_implies, not_false_eq_true, not_true_eq_false, Value.category, Nat.reduceEqDiff, Option.toList, List.cons_append, List.nil_append, List.drop_succ_cons, List.drop_zero, ax_qq_eq, ax_t_1162, ax_j_1162_68, ax_n_1162_68, ax_j_1162_87, ax_n_1162_87, ax_j_1162_89, ax_n_1162_89, w1, hal, em, c8]
      exact hQ _ (ax_up_same ..) (fun j hj => (ax_up_ne _ _ hj).trans (i3 j hj))
  have L := kx_down (k := t.1) (I := fun f i => p ≤ i → zrun t zD f i = zend t zD p → ∀ es1, kT0 es1 (nI t.1) kd (nI (zv10 t p (i - p))) nm tk ft (nI p) (nI i) → (∀ j, j ≠ 1 → es1 j = es j) → ax_W (d + 9) n sl 1162 [(1, .aload 0), (3, .getfield 2336), (1, .aload 0), (3, .getfield 2308), (3, .if_icmp .ge 68), (1, .aload 0), (3, .getfield 2306), (1, .aload 0), (3, .getfield 2336), (1, .baload), (3, .invokeinterface 1165 4), (3, .ifCond .eq 68), (1, .aload 0), (1, .aload 0), (3, .getfield 2316), (2, .iconst 10), (1, .imul), (1, .aload 0), (3, .getfield 2306), (1, .aload 0), (3, .getfield 2336), (1, .baload), (1, .iadd), (2, .iconst 48), (1, .isub), (3, .putfield 2316), (1, .aload 0), (1, .dup), (3, .getfield 2336), (1, .iconst 1), (1, .iadd), (3, .putfield 2336), (3, .goto 5)] 5 [some (.ref 1)] [] n sl es1 (ax_qq n sl Q)) ?_ ?_ (t.1 - p) p (by omega)
  · refine L (Nat.le_refl _) rfl _ ?_ (fun j hj => ax_up_ne _ _ hj)
    rw [Nat.sub_self]
    exact ax_up_same ..
  · intro hpi hz es1 i1 i3
    have w1 : es1 1 = _ := i1
    have e0 := kx_nn (k := t.1) (by omega)
    rw [zrun] at hz
    simp only [ax_W_cons, ax_I, ax_cmp, ax_ii, ax_ll, ax_li, ax_st1, ax_st2, ax_kl, ax_k2, ax_fit, ax_rtok, List.getElem?_cons_zero, List.getElem?_cons_succ, List.length_cons, List.length_nil, List.set_cons_zero, List.set_cons_succ, Nat.reduceAdd, Nat.reduceDiv, Nat.reduceMod, Nat.reduceMul, Nat.reduceLT, Nat.reduceLeDiff, Int32.reduceOfInt, Int64.reduceOfInt, true_and, and_true, and_self, true_or, or_true, false_implies, true_implies, not_false_eq_true, not_true_eq_false, Value.category, Nat.reduceEqDiff, Option.toList, List.cons_append, List.nil_append, List.drop_succ_cons, List.drop_zero, ax_qq_eq, ax_t_1162, w1, hal, e0]
    exact fin es1 (by rw [← hz]; exact i1) i3
  · intro f i hi ih hpi hz es1 i1 i3
    have w1 : es1 1 = _ := i1
    have w2 := (i3 2 (by decide)).trans s1
    have hlt : i < t.1 := by omega
    have e0 : ¬ nI t.1 ≤ nI i := nI_ge hlt (by omega)
    have e1 : vp_in (nI i) 1000 := nI_in (by omega) (by decide)
    have e2 : (nI i).toNatClampNeg = i := nI_clamp (by omega)
    have e3 := s2 i hlt
    have hb := zT_lt ht hlt
    have i4 : nI i + 1 = nI (i + 1) := (nI_succ i).symm
    rw [zrun] at hz
    simp only [ax_W_cons, ax_I, ax_cmp, ax_ii, ax_ll, ax_li, ax_st1, ax_st2, ax_kl, ax_k2, ax_fit, ax_rtok, List.getElem?_cons_zero, List.getElem?_cons_succ, List.length_cons, List.length_nil, List.set_cons_zero, List.set_cons_succ, Nat.reduceAdd, Nat.reduceDiv, Nat.reduceMod, Nat.reduceMul, Nat.reduceLT, Nat.reduceLeDiff, Int32.reduceOfInt, Int64.reduceOfInt, true_and, and_true, and_self, true_or, or_true, false_implies, true_implies, not_false_eq_true, not_true_eq_false, Value.category, Nat.reduceEqDiff, Option.toList, List.cons_append, List.nil_append, List.drop_succ_cons, List.drop_zero, ax_qq_eq, ax_t_1162, w1, w2, hal, e0, e1, e2, e3]
    refine ax_inv_of (Nat.le_of_ble_eq_true rfl) (Nat.le_of_ble_eq_true rfl) (fun _ => absurd ‹_› (by decide)) (fun h => absurd h (by decide)) (Nat.le_refl _) (Nat.le_refl _) (ck_isDigit (b := t.2 i) (by omega) ?_)
    cases hl : zD (t.2 i)
    · rw [if_neg (by rw [hl]; decide)] at hz
      rw [hz] at i1
      simp only [ax_W_cons, ax_I, ax_cmp, ax_ii, ax_ll, ax_li, ax_st1, ax_st2, ax_kl, ax_k2, ax_fit, ax_rtok, List.getElem?_cons_zero, List.getElem?_cons_succ, List.length_cons, List.length_nil, List.set_cons_zero, List.set_cons_succ, Nat.reduceAdd, Nat.reduceDiv, Nat.reduceMod, Nat.reduceMul, Nat.reduceLT, Nat.reduceLeDiff, Int32.reduceOfInt, Int64.reduceOfInt, true_and, and_true, and_self, true_or, or_true, false_implies, true_implies, not_false_eq_true, not_true_eq_false, Value.category, Nat.reduceEqDiff, Option.toList, List.cons_append, List.nil_append, List.drop_succ_cons, List.drop_zero, ax_qq_eq, ax_t_1162, kx_bf]
      exact fin es1 i1 i3
    · rw [if_pos hl] at hz
      have hd : 48 ≤ t.2 i := by
        unfold zD at hl
        simp at hl
        omega
      have e5 : nI (zv10 t p (i - p)) * 10 + nI (t.2 i) - 48 = nI (zv10 t p (i + 1 - p)) := by
        rw [show i + 1 - p = (i - p) + 1 by omega, zv10, show p + (i - p) = i by omega]
        show nI (zv10 t p (i - p)) * nI 10 + nI (t.2 i) - nI 48 = _
        rw [kn_mul, kn_add]
        have e8 : nI (zv10 t p (i - p) * 10 + t.2 i) = nI (zv10 t p (i - p) * 10 + (t.2 i - 48)) + nI 48 := by
          rw [kn_add]
          congr 1
          omega
        rw [e8, Int32.add_sub_cancel]
      simp only [ax_W_cons, ax_I, ax_cmp, ax_ii, ax_ll, ax_li, ax_st1, ax_st2, ax_kl, ax_k2, ax_fit, ax_rtok, List.getElem?_cons_zero, List.getElem?_cons_succ, List.length_cons, List.length_nil, List.set_cons_zero, List.set_cons_succ, Nat.reduceAdd, Nat.reduceDiv, Nat.reduceMod, Nat.reduceMul, Nat.reduceLT, Nat.reduceLeDiff, Int32.reduceOfInt, Int64.reduceOfInt, true_and, and_true, and_self, true_or, or_true, false_implies, true_implies, not_false_eq_true, not_true_eq_false, Value.category, Nat.reduceEqDiff, Option.toList, List.cons_append, List.nil_append, List.drop_succ_cons, List.drop_zero, ax_qq_eq, ax_t_1162, kx_bt, c10, w1, w2, hal, e1, e2, e3, e5, i4, ax_up_same, ax_up_up]
      rw [ax_j_1162_5]
      exact ih (by omega) hz _ (ax_up_same ..) (fun j hj => (ax_up_ne _ _ hj).trans (i3 j hj))
theorem ck_advance (hal : ax_al n = 178) (ht : zT_ok t) {a : Nat} {tk ft : Int32} (hN : xTn es t a tk ft) (hQ : ∀ es', xTk es' t a tk ft → (∀ j, j ≠ 1 → es' j = es j) → Q none es') : ax_Mt (d + 10) 1160 [.ref 1] n sl es Q := by
  obtain ⟨⟨kd, nb, nm, pl, h⟩, hS⟩ := hN
  obtain ⟨sg, s1, s2⟩ := id hS
  have hL := ht.1
  have c10 : ¬ (1 : Int32) = 0 := by decide
  have hpl := zpl_le t a
  have hpe : zpos t (a + 1) = znx t (zpl t a) := rfl
  have hke : zkd t a = zkind t (zpl t a) := rfl
  -- behind the blanks
  have tail : ∀ es1, kT0 es1 (nI t.1) kd nb nm tk ft pl (nI (zpl t a)) → (∀ j, j ≠ 1 → es1 j = es j) → ax_J ax_W (d + 10) n sl 1160 52 [some (.ref 1), none] [] n sl es1 (ax_qq n sl Q) := by
    intro es1 i1 i3
    have w1 : es1 1 = _ := i1
    by_cases he : t.1 ≤ zpl t a
    · have ee : zpl t a = t.1 := by omega
      have c1 : ¬ nI (zpl t a) < nI t.1 := nI_nlt (by omega) (by omega)
      have hk : zkd t a = 26 := zkd_end.mpr he
      have hn : zpos t (a + 1) = zpl t a := by
        rw [hpe]
        unfold znx
        rw [if_pos he]
      simp only [ax_W_cons, ax_I, ax_cmp, ax_ii, ax_ll, ax_li, ax_st1, ax_st2, ax_kl, ax_k2, ax_fit, ax_rtok, List.getElem?_cons_zero, List.getElem?_cons_succ, List.length_cons, List.length_nil, List.set_cons_zero, List.set_cons_succ, Nat.reduceAdd, Nat.reduceDiv, Nat.reduceMod, Nat.reduceMul, Nat.reduceLT, Nat.reduceLeDiff, Int32.reduceOfInt, Int64.reduceOfInt, true_and, and_true, and_self, true_or, or_true, false_implies, true_implies, not_false_eq_true, not_true_eq_false, Value.category, Nat.reduceEqDiff, Option.toList, List.cons_append, List.nil_append, List.drop_succ_cons, List.drop_zero, ax_qq_eq, ax_t_1160, ax_j_1160_52, ax_n_1160_52, ax_j_1160_188, ax_n_1160_188, w1, hal, c1, ax_up_same, ax_up_up]
      refine hQ _ ⟨⟨nb, nm, ?_, fun z => by omega, fun z => by omega⟩, xSg_fr hS (by rw [ax_up_ne _ _ (by decide)]; exact i3 2 (by decide))⟩ (fun j hj => (ax_up_ne _ _ hj).trans (i3 j hj))
      rw [hk, hn]
      exact ax_up_same ..
    · have hlt : zpl t a < t.1 := by omega
      have c1 : nI (zpl t a) < nI t.1 := nI_lt hlt (by omega)
      have e1 : vp_in (nI (zpl t a)) 1000 := nI_in (by omega) (by decide)
      have e2 : (nI (zpl t a)).toNatClampNeg = zpl t a := nI_clamp (by omega)
      have e3 := s2 _ hlt
      have hb := zT_lt ht hlt
      have u1 : kT0 (ax_up es1 1 (.inr (9, [.ref 2, .int (nI t.1), .int kd, .int nb, .long nm, .int tk, .int ft, .int (nI (zpl t a)), .int (nI (zpl t a))]))) (nI t.1) kd nb nm tk ft (nI (zpl t a)) (nI (zpl t a)) := ax_up_same ..
      have u2 : ∀ j, j ≠ 1 → ax_up es1 1 (.inr (9, [.ref 2, .int (nI t.1), .int kd, .int nb, .long nm, .int tk, .int ft, .int (nI (zpl t a)), .int (nI (zpl t a))])) j = es j := fun j hj => (ax_up_ne _ _ hj).trans (i3 j hj)
      simp only [ax_W_cons, ax_I, ax_cmp, ax_ii, ax_ll, ax_li, ax_st1, ax_st2, ax_kl, ax_k2, ax_fit, ax_rtok, List.getElem?_cons_zero, List.getElem?_cons_succ, List.length_cons, List.length_nil, List.set_cons_zero, List.set_cons_succ, Nat.reduceAdd, Nat.reduceDiv, Nat.reduceMod, Nat.reduceMul, Nat.reduceLT, Nat.reduceLeDiff, Int32.reduceOfInt, Int64.reduceOfInt, true_and, and_true, and_self, true_or, or_true, false_implies, true_implies, not_false_eq_true, not_true_eq_false, Value.category, Nat.reduceEqDiff, Option.toList, List.cons_append, List.nil_append, List.drop_succ_cons, List.drop_zero, ax_qq_eq, ax_t_1160, ax_j_1160_52, ax_n_1160_52, w1, hal, c1, ax_up_same, ax_up_up]
      generalize ax_up es1 1 (.inr (9, [.ref 2, .int (nI t.1), .int kd, .int nb, .long nm, .int tk, .int ft, .int (nI (zpl t a)), .int (nI (zpl t a))])) = es2 at u1 u2
      have w1 : es2 1 = _ := u1
      have w2 := (u2 2 (by decide)).trans s1
      have hS2 : xSg es2 t := xSg_fr hS (u2 2 (by decide))
      simp only [ax_W_cons, ax_I, ax_cmp, ax_ii, ax_ll, ax_li, ax_st1, ax_st2, ax_kl, ax_k2, ax_fit, ax_rtok, List.getElem?_cons_zero, List.getElem?_cons_succ, List.length_cons, List.length_nil, List.set_cons_zero, List.set_cons_succ, Nat.reduceAdd, Nat.reduceDiv, Nat.reduceMod, Nat.reduceMul, Nat.reduceLT, Nat.reduceLeDiff, Int32.reduceOfInt, Int64.reduceOfInt, true_and, and_true, and_self, true_or, or_true, false_implies, true_implies, not_false_eq_true, not_true_eq_false, Value.category, Nat.reduceEqDiff, Option.toList, List.cons_append, List.nil_append, List.drop_succ_cons, List.drop_zero, ax_qq_eq, ax_t_1160, ax_j_1160_80, ax_n_1160_80, w1, w2, hal, e1, e2, e3]
      refine ax_inv_of (Nat.le_of_ble_eq_true rfl) (Nat.le_of_ble_eq_true rfl) (fun _ => absurd ‹_› (by decide)) (fun h => absurd h (by decide)) (Nat.le_refl _) (Nat.le_refl _) (ck_isLetter (b := t.2 (zpl t a)) (by omega) ?_)
      unfold zkind at hke
      rw [if_neg he] at hke
      unfold znx at hpe
      rw [if_neg he] at hpe
      cases hl : zL (t.2 (zpl t a))
      · rw [if_neg (by rw [hl]; decide)] at hke hpe
        simp only [ax_W_cons, ax_I, ax_cmp, ax_ii, ax_ll, ax_li, ax_st1, ax_st2, ax_kl, ax_k2, ax_fit, ax_rtok, List.getElem?_cons_zero, List.getElem?_cons_succ, List.length_cons, List.length_nil, List.set_cons_zero, List.set_cons_succ, Nat.reduceAdd, Nat.reduceDiv, Nat.reduceMod, Nat.reduceMul, Nat.reduceLT, Nat.reduceLeDiff, Int32.reduceOfInt, Int64.reduceOfInt, true_and, and_true, and_self, true_or, or_true, false_implies, true_implies, not_false_eq_true, not_true_eq_false, Value.category, Nat.reduceEqDiff, Option.toList, List.cons_append, List.nil_append, List.drop_succ_cons, List.drop_zero, ax_qq_eq, ax_t_1160, ax_j_1160_129, ax_n_1160_129, kx_bf, w1, w2, hal, e1, e2, e3]
        refine ax_inv_of (Nat.le_of_ble_eq_true rfl) (Nat.le_of_ble_eq_true rfl) (fun _ => absurd ‹_› (by decide)) (fun h => absurd h (by decide)) (Nat.le_refl _) (Nat.le_refl _) (ck_isDigit (b := t.2 (zpl t a)) (by omega) ?_)
        cases hd : zD (t.2 (zpl t a))
        · rw [if_neg (by rw [hd]; decide)] at hke hpe
          have n1 : nI (zpl t a) + 1 = nI (zpl t a + 1) := (nI_succ _).symm
          simp only [ax_W_cons, ax_I, ax_cmp, ax_ii, ax_ll, ax_li, ax_st1, ax_st2, ax_kl, ax_k2, ax_fit, ax_rtok, List.getElem?_cons_zero, List.getElem?_cons_succ, List.length_cons, List.length_nil, List.set_cons_zero, List.set_cons_succ, Nat.reduceAdd, Nat.reduceDiv, Nat.reduceMod, Nat.reduceMul, Nat.reduceLT, Nat.reduceLeDiff, Int32.reduceOfInt, Int64.reduceOfInt, true_and, and_true, and_self, true_or, or_true, false_implies, true_implies, not_false_eq_true, not_true_eq_false, Value.category, Nat.reduceEqDiff, Option.toList, List.cons_append, List.nil_append, List.drop_succ_cons, List.drop_zero, ax_qq_eq, ax_t_1160, ax_j_1160_151, ax_n_1160_151, kx_bf, w1, w2, hal, e1, e2, e3]
          refine ax_inv_of (Nat.le_of_ble_eq_true rfl) (Nat.le_of_ble_eq_true rfl) (fun _ => absurd ‹_› (by decide)) (fun h => absurd h (by decide)) (Nat.le_refl _) (Nat.le_refl _) (ck_isTokenSign (b := t.2 (zpl t a)) (by omega) ?_)
          cases hs : zSn (t.2 (zpl t a))
          · rw [if_neg (by rw [hs]; decide)] at hke
            simp only [ax_W_cons, ax_I, ax_cmp, ax_ii, ax_ll, ax_li, ax_st1, ax_st2, ax_kl, ax_k2, ax_fit, ax_rtok, List.getElem?_cons_zero, List.getElem?_cons_succ, List.length_cons, List.length_nil, List.set_cons_zero, List.set_cons_succ, Nat.reduceAdd, Nat.reduceDiv, Nat.reduceMod, Nat.reduceMul, Nat.reduceLT, Nat.reduceLeDiff, Int32.reduceOfInt, Int64.reduceOfInt, true_and, and_true, and_self, true_or, or_true, false_implies, true_implies, not_false_eq_true, not_true_eq_false, Value.category, Nat.reduceEqDiff, Option.toList, List.cons_append, List.nil_append, List.drop_succ_cons, List.drop_zero, ax_qq_eq, ax_t_1160, ax_j_1160_173, ax_n_1160_173, ax_j_1160_175, ax_n_1160_175, ax_j_1160_188, ax_n_1160_188, kx_bf, w1, hal, n1, ax_up_same, ax_up_up]
            refine hQ _ ⟨⟨nb, nm, ?_, fun z => by omega, fun z => by omega⟩, xSg_fr hS2 (ax_up_ne _ _ (by decide))⟩ (fun j hj => (ax_up_ne _ _ hj).trans (u2 j hj))
            rw [hke, hpe]
            exact ax_up_same ..
          · rw [if_pos hs] at hke
            have hs2 : 40 ≤ t.2 (zpl t a) := by
              unfold zSn at hs
              simp at hs
              omega
            simp only [ax_W_cons, ax_I, ax_cmp, ax_ii, ax_ll, ax_li, ax_st1, ax_st2, ax_kl, ax_k2, ax_fit, ax_rtok, List.getElem?_cons_zero, List.getElem?_cons_succ, List.length_cons, List.length_nil, List.set_cons_zero, List.set_cons_succ, Nat.reduceAdd, Nat.reduceDiv, Nat.reduceMod, Nat.reduceMul, Nat.reduceLT, Nat.reduceLeDiff, Int32.reduceOfInt, Int64.reduceOfInt, true_and, and_true, and_self, true_or, or_true, false_implies, true_implies, not_false_eq_true, not_true_eq_false, Value.category, Nat.reduceEqDiff, Option.toList, List.cons_append, List.nil_append, List.drop_succ_cons, List.drop_zero, ax_qq_eq, ax_t_1160, ax_j_1160_175, ax_n_1160_175, ax_j_1160_188, ax_n_1160_188, kx_bt, c10, w1, hal, n1, ax_up_same, ax_up_up]
            refine hQ _ ⟨⟨nb, nm, ?_, fun z => by omega, fun z => by omega⟩, xSg_fr hS2 (ax_up_ne _ _ (by decide))⟩ (fun j hj => (ax_up_ne _ _ hj).trans (u2 j hj))
            rw [hke, hpe]
            exact ax_up_same ..
        · rw [if_pos hd] at hke hpe
          simp only [ax_W_cons, ax_I, ax_cmp, ax_ii, ax_ll, ax_li, ax_st1, ax_st2, ax_kl, ax_k2, ax_fit, ax_rtok, List.getElem?_cons_zero, List.getElem?_cons_succ, List.length_cons, List.length_nil, List.set_cons_zero, List.set_cons_succ, Nat.reduceAdd, Nat.reduceDiv, Nat.reduceMod, Nat.reduceMul, Nat.reduceLT, Nat.reduceLeDiff, Int32.reduceOfInt, Int64.reduceOfInt, true_and, and_true, and_self, true_or, or_true, false_implies, true_implies, not_false_eq_true, not_true_eq_false, Value.category, Nat.reduceEqDiff, Option.toList, List.cons_append, List.nil_append, List.drop_succ_cons, List.drop_zero, ax_qq_eq, ax_t_1160, kx_bt, c10]
          refine ax_inv_of (Nat.le_of_ble_eq_true rfl) (Nat.le_of_ble_eq_true rfl) (fun _ => ax_rcv_ok (by omega) w1) (fun h => absurd h (by decide)) (Nat.le_refl _) (Nat.le_refl _) (ck_readNumber hal ht hlt u1 hS2 ?_)
          intro es3 q1 q2
          simp only [ax_W_cons, ax_I, ax_cmp, ax_ii, ax_ll, ax_li, ax_st1, ax_st2, ax_kl, ax_k2, ax_fit, ax_rtok, List.getElem?_cons_zero, List.getElem?_cons_succ, List.length_cons, List.length_nil, List.set_cons_zero, List.set_cons_succ, Nat.reduceAdd, Nat.reduceDiv, Nat.reduceMod, Nat.reduceMul, Nat.reduceLT, Nat.reduceLeDiff, Int32.reduceOfInt, Int64.reduceOfInt, true_and, and_true, and_self, true_or, or_true, false_implies, true_implies, not_false_eq_true, not_true_eq_false, Value.category, Nat.reduceEqDiff, Option.toList, List.cons_append, List.nil_append, List.drop_succ_cons, List.drop_zero, ax_qq_eq, ax_t_1160, ax_j_1160_188, ax_n_1160_188]
          refine hQ es3 ⟨⟨_, nm, ?_, fun _ => rfl, fun z => ?_⟩, xSg_fr hS2 (q2 2 (by decide))⟩ (fun j hj => (q2 j hj).trans (u2 j hj))
          · rw [hke, hpe]
            exact q1
          · exfalso
            rw [hke] at z
            split at z <;> omega
      · rw [if_pos hl] at hke hpe
        simp only [ax_W_cons, ax_I, ax_cmp, ax_ii, ax_ll, ax_li, ax_st1, ax_st2, ax_kl, ax_k2, ax_fit, ax_rtok, List.getElem?_cons_zero, List.getElem?_cons_succ, List.length_cons, List.length_nil, List.set_cons_zero, List.set_cons_succ, Nat.reduceAdd, Nat.reduceDiv, Nat.reduceMod, Nat.reduceMul, Nat.reduceLT, Nat.reduceLeDiff, Int32.reduceOfInt, Int64.reduceOfInt, true_and, and_true, and_self, true_or, or_true, false_implies, true_implies, not_false_eq_true, not_true_eq_false, Value.category, Nat.reduceEqDiff, Option.toList, List.cons_append, List.nil_append, List.drop_succ_cons, List.drop_zero, ax_qq_eq, ax_t_1160, kx_bt, c10]
        refine ax_inv_of (Nat.le_of_ble_eq_true rfl) (Nat.le_of_ble_eq_true rfl) (fun _ => ax_rcv_ok (by omega) w1) (fun h => absurd h (by decide)) (Nat.le_refl _) (Nat.le_refl _) (ck_readName hal ht hlt u1 hS2 ?_)
        intro es3 nm3 q1 q2 q4 q3
        have hle := zend_le (t := t) (P := zL) (p := zpl t a) (by omega)
        have v1 : es3 1 = _ := q1
        have em : nI (zend t zL (zpl t a)) - nI (zpl t a) = nI (zend t zL (zpl t a) - zpl t a) := by
          have e8 : nI (zend t zL (zpl t a)) = nI (zend t zL (zpl t a) - zpl t a) + nI (zpl t a) := by rw [kn_add]; congr 1; omega
          rw [e8, Int32.add_sub_cancel]
        by_cases h8 : 8 < zend t zL (zpl t a) - zpl t a
        · have c8 : ¬ nI (zend t zL (zpl t a) - zpl t a) ≤ 8 := nI_ge (a := 8) h8 (by omega)
          rw [if_pos h8] at hke
          simp only [ax_W_cons, ax_I, ax_cmp, ax_ii, ax_ll, ax_li, ax_st1, ax_st2, ax_kl, ax_k2, ax_fit, ax_rtok, List.getElem?_cons_zero, List.getElem?_cons_succ, List.length_cons, List.length_nil, List.set_cons_zero, List.set_cons_succ, Nat.reduceAdd, Nat.reduceDiv, Nat.reduceMod, Nat.reduceMul, Nat.reduceLT, Nat.reduceLeDiff, Int32.reduceOfInt, Int64.reduceOfInt, true_and, and_true, and_self, true_or, or_true, false_implies, true_implies, not_false_eq_true, not_true_eq_false, Value.category, Nat.reduceEqDiff, Option.toList, List.cons_append, List.nil_append, List.drop_succ_cons, List.drop_zero, ax_qq_eq, ax_t_1160, ax_j_1160_123, ax_n_1160_123, ax_j_1160_188, ax_n_1160_188, v1, hal, em, c8]
          refine hQ _ ⟨⟨nb, nm3, ?_, fun z => by omega, fun z => by omega⟩, xSg_fr hS2 ((ax_up_ne _ _ (by decide)).trans (q3 2 (by decide)))⟩ (fun j hj => (ax_up_ne _ _ hj).trans ((q3 j hj).trans (u2 j hj)))
          rw [hke, hpe]
          exact ax_up_same ..
        · have c8 : nI (zend t zL (zpl t a) - zpl t a) ≤ 8 := nI_le (b := 8) (by omega) (by decide)
          rw [if_neg h8] at hke
          have hnm := q2 (by omega)
          have hwd : zWd (zwr t (zpl t a) (zend t zL (zpl t a) - zpl t a)) := ⟨by rw [zwr_len]; omega, zwr_in _ (fun j hj => q4 (zpl t a + j) (by omega) (by omega))⟩
          simp only [ax_W_cons, ax_I, ax_cmp, ax_ii, ax_ll, ax_li, ax_st1, ax_st2, ax_kl, ax_k2, ax_fit, ax_rtok, List.getElem?_cons_zero, List.getElem?_cons_succ, List.length_cons, List.length_nil, List.set_cons_zero, List.set_cons_succ, Nat.reduceAdd, Nat.reduceDiv, Nat.reduceMod, Nat.reduceMul, Nat.reduceLT, Nat.reduceLeDiff, Int32.reduceOfInt, Int64.reduceOfInt, true_and, and_true, and_self, true_or, or_true, false_implies, true_implies, not_false_eq_true, not_true_eq_false, Value.category, Nat.reduceEqDiff, Option.toList, List.cons_append, List.nil_append, List.drop_succ_cons, List.drop_zero, ax_qq_eq, ax_t_1160, ax_j_1160_119, ax_n_1160_119, v1, hal, em, c8]
          rw [hnm] at q1
          refine ax_inv_of (Nat.le_of_ble_eq_true rfl) (Nat.le_of_ble_eq_true rfl) (fun _ => ax_rcv_ok (by omega) v1) (fun h => absurd h (by decide)) (Nat.le_refl _) (Nat.le_refl _) (ck_wordNumber (d := d + 1) hal hwd q1 ?_)
          simp only [ax_W_cons, ax_I, ax_cmp, ax_ii, ax_ll, ax_li, ax_st1, ax_st2, ax_kl, ax_k2, ax_fit, ax_rtok, List.getElem?_cons_zero, List.getElem?_cons_succ, List.length_cons, List.length_nil, List.set_cons_zero, List.set_cons_succ, Nat.reduceAdd, Nat.reduceDiv, Nat.reduceMod, Nat.reduceMul, Nat.reduceLT, Nat.reduceLeDiff, Int32.reduceOfInt, Int64.reduceOfInt, true_and, and_true, and_self, true_or, or_true, false_implies, true_implies, not_false_eq_true, not_true_eq_false, Value.category, Nat.reduceEqDiff, Option.toList, List.cons_append, List.nil_append, List.drop_succ_cons, List.drop_zero, ax_qq_eq, ax_t_1160, ax_j_1160_123, ax_n_1160_123, ax_j_1160_188, ax_n_1160_188, v1, hal]
          refine hQ _ ⟨⟨nb, nm3, ?_, fun z => ?_, fun z => ?_⟩, xSg_fr hS2 ((ax_up_ne _ _ (by decide)).trans (q3 2 (by decide)))⟩ (fun j hj => (ax_up_ne _ _ hj).trans ((q3 j hj).trans (u2 j hj)))
          · rw [hke, hpe]
            exact ax_up_same ..
          · exfalso
            rw [hke] at z
            have := zwn_le (zwr t (zpl t a) (zend t zL (zpl t a) - zpl t a))
            omega
          · exact q2 (zwd_ok z).2.2.1
  refine ax_Mt_go (m := ax_m_9_8) (ls := [some (.ref 1), none]) rfl ax_b_1160_0 (Nat.le_of_ble_eq_true rfl) rfl ?_
  have L := kx_down (k := t.1) (I := fun f i => zrun t zBl f i = zpl t a → ∀ es1, kT0 es1 (nI t.1) kd nb nm tk ft pl (nI i) → (∀ j, j ≠ 1 → es1 j = es j) → ax_W (d + 10) n sl 1160 [(1, .aload 0), (3, .getfield 2336), (1, .aload 0), (3, .getfield 2308), (3, .if_icmp .ge 52), (1, .aload 0), (3, .getfield 2306), (1, .aload 0), (3, .getfield 2336), (1, .baload), (2, .iconst 10), (3, .if_icmp .eq 39), (1, .aload 0), (3, .getfield 2306), (1, .aload 0), (3, .getfield 2336), (1, .baload), (2, .iconst 32), (3, .if_icmp .ne 52)] 0 [some (.ref 1), none] [] n sl es1 (ax_qq n sl Q)) ?_ ?_ (t.1 - zpos t a) (zpos t a) (by have := zpos_le t a; omega)
  · exact L rfl es h (fun j hj => rfl)
  · intro hz es1 i1 i3
    have w1 : es1 1 = _ := i1
    have e0 := kx_nn (k := t.1) (by omega)
    rw [zrun] at hz
    simp only [ax_W_cons, ax_I, ax_cmp, ax_ii, ax_ll, ax_li, ax_st1, ax_st2, ax_kl, ax_k2, ax_fit, ax_rtok, List.getElem?_cons_zero, List.getElem?_cons_succ, List.length_cons, List.length_nil, List.set_cons_zero, List.set_cons_succ, Nat.reduceAdd, Nat.reduceDiv, Nat.reduceMod, Nat.reduceMul, Nat.reduceLT, Nat.reduceLeDiff, Int32.reduceOfInt, Int64.reduceOfInt, true_and, and_true, and_self, true_or, or_true, false_implies, true_implies, not_false_eq_true, not_true_eq_false, Value.category, Nat.reduceEqDiff, Option.toList, List.cons_append, List.nil_append, List.drop_succ_cons, List.drop_zero, ax_qq_eq, ax_t_1160, w1, hal, e0]
    exact tail es1 (by rw [← hz]; exact i1) i3
  · intro f i hi ih hz es1 i1 i3
    have w1 : es1 1 = _ := i1
    have w2 := (i3 2 (by decide)).trans s1
    have hlt : i < t.1 := by omega
    have e0 : ¬ nI t.1 ≤ nI i := nI_ge hlt (by omega)
    have e1 : vp_in (nI i) 1000 := nI_in (by omega) (by decide)
    have e2 : (nI i).toNatClampNeg = i := nI_clamp (by omega)
    have e3 := s2 i hlt
    have hb := zT_lt ht hlt
    have i4 : nI i + 1 = nI (i + 1) := (nI_succ i).symm
    have ebl : zBl (t.2 i) = (decide (nI (t.2 i) = 10) || decide (nI (t.2 i) = 32)) := by
      have : ∀ b : Fin 128, zBl b.val = (decide (nI b.val = 10) || decide (nI b.val = 32)) := by decide +kernel
      exact this ⟨t.2 i, by omega⟩
    rw [zrun, ebl] at hz
    have goon : (decide (nI (t.2 i) = 10) || decide (nI (t.2 i) = 32)) = true → ax_J ax_W (d + 10) n sl 1160 39 [some (.ref 1), none] [] n sl es1 (ax_qq n sl Q) := by
      intro hy
      rw [if_pos hy] at hz
      simp only [ax_W_cons, ax_I, ax_cmp, ax_ii, ax_ll, ax_li, ax_st1, ax_st2, ax_kl, ax_k2, ax_fit, ax_rtok, List.getElem?_cons_zero, List.getElem?_cons_succ, List.length_cons, List.length_nil, List.set_cons_zero, List.set_cons_succ, Nat.reduceAdd, Nat.reduceDiv, Nat.reduceMod, Nat.reduceMul, Nat.reduceLT, Nat.reduceLeDiff, Int32.reduceOfInt, Int64.reduceOfInt, true_and, and_true, and_self, true_or, or_true, false_implies, true_implies, not_false_eq_true, not_true_eq_false, Value.category, Nat.reduceEqDiff, Option.toList, List.cons_append, List.nil_append, List.drop_succ_cons, List.drop_zero, ax_qq_eq, ax_t_1160, ax_j_1160_39, ax_n_1160_39, w1, hal, i4]
      rw [ax_j_1160_0]
      exact ih hz _ (ax_up_same ..) (fun j hj => (ax_up_ne _ _ hj).trans (i3 j hj))
    simp only [ax_W_cons, ax_I, ax_cmp, ax_ii, ax_ll, ax_li, ax_st1, ax_st2, ax_kl, ax_k2, ax_fit, ax_rtok, List.getElem?_cons_zero, List.getElem?_cons_succ, List.length_cons, List.length_nil, List.set_cons_zero, List.set_cons_succ, Nat.reduceAdd, Nat.reduceDiv, Nat.reduceMod, Nat.reduceMul, Nat.reduceLT, Nat.reduceLeDiff, Int32.reduceOfInt, Int64.reduceOfInt, true_and, and_true, and_self, true_or, or_true, false_implies, true_implies, not_false_eq_true, not_true_eq_false, Value.category, Nat.reduceEqDiff, Option.toList, List.cons_append, List.nil_append, List.drop_succ_cons, List.drop_zero, ax_qq_eq, ax_t_1160, w1, w2, hal, e0, e1, e2, e3]
    refine ⟨fun h5 => goon (by rw [decide_eq_true h5]; rfl), fun h5 => ⟨fun h6 => ?_, fun h6 => ?_⟩⟩
    · rw [if_neg (by rw [decide_eq_false h5, decide_eq_false h6]; decide)] at hz
      rw [hz] at i1
      exact tail es1 i1 i3
    · simp only [Classical.not_not] at h6
      have goon := goon (by rw [decide_eq_true h6, Bool.or_true])
      rw [ax_n_1160_39, ← ax_j_1160_39]
      exact goon
end TT
