/-! the class: an E is read -/
theorem zkd_lt (t : zTp) (a : Nat) : zkd t a < 62 := by
  unfold zkd zkind
  split
  · omega
  · split
    · split
      · omega
      · have := zwn_le (zwr t (zpl t a) (zend t zL (zpl t a) - zpl t a))
        omega
    · split
      · split <;> omega
      · split
        · next h =>
          unfold zSn at h
          simp at h
          omega
        · omega
theorem zk_eq {k x : Nat} (hk : k < 62) (hx : x < 2 ^ 31) : (nI k = nI x) = (k = x) := propext ⟨fun z => kn_inj (by omega) hx z, fun z => by rw [z]⟩
def xTf (es : ax_H) (t : zTp) (ft : Int32) : Prop := (∃ kd nb nm tk pl nx, kT0 es (nI t.1) kd nb nm tk ft pl nx) ∧ xSg es t
def xEs (es : ax_H) (t : zTp) (a : Nat) (tk : Int32) (lw fr en : Nat) (code : Nat → Int32) (h : Bool) : Prop := xTk es t a tk 0 ∧ es lw = .inr (3, [.ref 27, .ref (lw + 1), .ref (lw + 2), .int (nI fr), .int (nI en)]) ∧ es 27 = .inl (0, 1000, .inl code) ∧ es 20 = .inr (6, [.ref 1, .ref 3, .ref 21, .ref 34, .ref lw, .int (kx_b h)]) ∧ (lw = 28 ∨ lw = 31)
def zapp (code : Nat → Int32) (en : Nat) (c : List Int32) : Nat → Int32 := fun i => if en ≤ i ∧ i < en + c.length then c.getD (i - en) 0 else code i
theorem zapp_nil (code : Nat → Int32) (en : Nat) : zapp code en [] = code := by
  funext i
  unfold zapp
  rw [if_neg (by rw [List.length_nil]; omega)]
theorem zapp_app (code : Nat → Int32) (en : Nat) (c c' : List Int32) : zapp (zapp code en c) (en + c.length) c' = zapp code en (c ++ c') := by
  funext i
  unfold zapp
  rw [List.length_append]
  by_cases h1 : en + c.length ≤ i ∧ i < en + c.length + c'.length
  · rw [if_pos h1, if_pos (by omega)]
    rw [List.getD_eq_getElem?_getD, List.getD_eq_getElem?_getD, List.getElem?_append_right (by omega), show i - en - c.length = i - (en + c.length) by omega]
  · rw [if_neg h1]
    by_cases h2 : en ≤ i ∧ i < en + c.length
    · rw [if_pos h2, if_pos (by omega)]
      rw [List.getD_eq_getElem?_getD, List.getD_eq_getElem?_getD, List.getElem?_append_left (by omega)]
    · rw [if_neg h2, if_neg (by omega)]
theorem zapp_one (code : Nat → Int32) (en : Nat) (x : Int32) : zapp code en [x] = upd code en x := by
  funext i
  unfold zapp upd
  rw [List.length_singleton]
  by_cases h : i = en
  · subst h
    rw [if_pos (by omega), if_pos rfl, Nat.sub_self]
    rfl
  · rw [if_neg (by omega), if_neg h]
def xfE (lw : Nat) (es es' : ax_H) : Prop := ∀ j, j ≠ 1 ∧ j ≠ lw ∧ j ≠ 27 → es' j = es j
theorem xfE_trans {lw : Nat} {a b c : ax_H} (h1 : xfE lw a b) (h2 : xfE lw b c) : xfE lw a c := fun j hj => (h2 j hj).trans (h1 j hj)
/-- a law and its row, whatever is in them -/
def xLs (lw : Nat) (es : ax_H) : Prop := ∃ (fr en : Int32) (code : Nat → Int32), es lw = .inr (3, [.ref 27, .ref (lw + 1), .ref (lw + 2), .int fr, .int en]) ∧ es 27 = .inl (0, 1000, .inl code)
def xCt (n sl : Nat) (t : zTp) (h : Bool) (tk : Int32) (lw fr D M : Nat) (args : List Value) (P : Nat → zR) : Prop := ∀ (d : Nat) (es : ax_H) (a en : Nat) (code : Nat → Int32) (Q : Option Value → ax_H → Prop), D ≤ d → xEs es t a tk lw fr en code h → zpre t a → en ≤ a → (∀ r es', P a = .inr r → xEs es' t r.1 tk lw fr (en + r.2.length) (zapp code en r.2) h → xfE lw es es' → Q (some (.int 1)) es') → (∀ x es', P a = .inl x → xTf es' t (nI (x.1 + 16 * zpl t x.2)) ∧ xLs lw es' → xfE lw es es' → Q (some (.int 0)) es') → ax_Mt d M args n sl es Q
section TT
variable {d n sl : Nat} {es : ax_H} {t : zTp} {Q : Option Value → ax_H → Prop}
theorem xTk_rcv (hal : ax_al n = 178) {a : Nat} {tk ft : Int32} (h : xTk es t a tk ft) (As : List Value) : ax_rcv n es 9 (.ref 1 :: As) := by
  obtain ⟨⟨nb, nm, h1, -⟩, -⟩ := h
  exact ax_rcv_ok (by omega) h1
theorem ck_fail (hal : ax_al n = 178) {a k : Nat} {tk ft : Int32} (h : xTk es t a tk ft) (hQ : ∀ es', xTf es' t (nI (k + 16 * zpl t a)) → (∀ j, j ≠ 1 → es' j = es j) → Q (some (.int 0)) es') : ax_Mt d 1156 [.ref 1, .int (nI k)] n sl es Q := by
  obtain ⟨⟨nb, nm, h1, -⟩, hS⟩ := h
  have w1 : es 1 = _ := h1
  have e1 : nI k + 16 * nI (zpl t a) = nI (k + 16 * zpl t a) := by
    show nI k + nI 16 * nI (zpl t a) = _
    rw [kn_mul, kn_add]
  refine ax_Mt_go (m := ax_m_9_4) (ls := [some (.ref 1), some (.int (nI k))]) rfl ax_b_1156_0 (Nat.le_of_ble_eq_true rfl) rfl ?_
  simp only [ax_W_cons, ax_I, ax_cmp, ax_ii, ax_ll, ax_li, ax_st1, ax_st2, ax_kl, ax_k2, ax_fit, ax_rtok, List.getElem?_cons_zero, List.getElem?_cons_succ, List.length_cons, List.length_nil, List.set_cons_zero, List.set_cons_succ, Nat.reduceAdd, Nat.reduceDiv, Nat.reduceMod, Nat.reduceMul, Nat.reduceLT, Nat.reduceLeDiff, Int32.reduceOfInt, Int64.reduceOfInt, true_and, and_true, and_self, true_or, or_true, false_implies, true_implies, not_false_eq_true, not_true_eq_false, Value.category, Nat.reduceEqDiff, Option.toList, List.cons_append, List.nil_append, List.drop_succ_cons, List.drop_zero, ax_qq_eq, ax_t_1156, w1, hal, e1]
  exact hQ _ ⟨⟨_, _, _, _, _, _, ax_up_same ..⟩, xSg_fr hS (ax_up_ne _ _ (by decide))⟩ (fun j hj => ax_up_ne _ _ hj)
theorem ck_adv (hal : ax_al n = 178) (ht : zT_ok t) {a : Nat} {tk ft : Int32} (h : xTk es t a tk ft) (hQ : ∀ es', xTk es' t (a + 1) tk ft → (∀ j, j ≠ 1 → es' j = es j) → Q none es') : ax_Mt (d + 10) 1160 [.ref 1] n sl es Q := ck_advance hal ht (xTk_n h) hQ
theorem ck_levelOf {k : Nat} (hk : k < 62) (hQ : Q (some (.int (if zlev k = 9 then -1 else nI (zlev k)))) es) : ax_Mt d 779 [.int (nI k)] n sl es Q := by
  have hi : (nI k).toInt = (k : Int) := nI_toInt (by omega)
  have hl : ax_lookup [(18, 68), (19, 68), (42, 74), (43, 72), (45, 72), (60, 70), (61, 70)] 76 (k : Int) = (if zlev k = 0 then 68 else if zlev k = 1 then 70 else if zlev k = 2 then 72 else if zlev k = 3 then 74 else 76) := by
    have : ∀ k : Fin 62, ax_lookup [(18, 68), (19, 68), (42, 74), (43, 72), (45, 72), (60, 70), (61, 70)] 76 (k.val : Int) = (if zlev k.val = 0 then 68 else if zlev k.val = 1 then 70 else if zlev k.val = 2 then 72 else if zlev k.val = 3 then 74 else 76) := by decide +kernel
    exact this ⟨k, hk⟩
  have h5 : zlev k = 0 ∨ zlev k = 1 ∨ zlev k = 2 ∨ zlev k = 3 ∨ zlev k = 9 := by
    unfold zlev
    split
    · omega
    · split
      · omega
      · split
        · omega
        · split <;> omega
  refine ax_Mt_go (m := ax_m_6_11) (ls := [some (.int (nI k))]) rfl ax_b_779_0 (Nat.le_of_ble_eq_true rfl) rfl ?_
  simp only [ax_W_cons, ax_I, ax_cmp, ax_ii, ax_ll, ax_li, ax_st1, ax_st2, ax_kl, ax_k2, ax_fit, ax_rtok, List.getElem?_cons_zero, List.getElem?_cons_succ, List.length_cons, List.length_nil, List.set_cons_zero, List.set_cons_succ, Nat.reduceAdd, Nat.reduceDiv, Nat.reduceMod, Nat.reduceMul, Nat.reduceLT, Nat.reduceLeDiff, Int32.reduceOfInt, Int64.reduceOfInt, true_and, and_true, and_self, true_or, or_true, false_implies, true_implies, not_false_eq_true, not_true_eq_false, Value.category, Nat.reduceEqDiff, Option.toList, List.cons_append, List.nil_append, List.drop_succ_cons, List.drop_zero, ax_qq_eq, ax_t_779, hi]
  rw [hl]
  rcases h5 with h | h | h | h | h
  · rw [h] at hQ ⊢
    show ax_J ax_W _ _ _ _ 68 _ _ _ _ _ _
    simp only [ax_W_cons, ax_I, ax_cmp, ax_ii, ax_ll, ax_li, ax_st1, ax_st2, ax_kl, ax_k2, ax_fit, ax_rtok, List.getElem?_cons_zero, List.getElem?_cons_succ, List.length_cons, List.length_nil, List.set_cons_zero, List.set_cons_succ, Nat.reduceAdd, Nat.reduceDiv, Nat.reduceMod, Nat.reduceMul, Nat.reduceLT, Nat.reduceLeDiff, Int32.reduceOfInt, Int64.reduceOfInt, true_and, and_true, and_self, true_or, or_true, false_implies, true_implies, not_false_eq_true, not_true_eq_false, Value.category, Nat.reduceEqDiff, Option.toList, List.cons_append, List.nil_append, List.drop_succ_cons, List.drop_zero, ax_qq_eq, ax_t_779, ax_j_779_68, ax_n_779_68]
    exact hQ
  · rw [h] at hQ ⊢
    show ax_J ax_W _ _ _ _ 70 _ _ _ _ _ _
    simp only [ax_W_cons, ax_I, ax_cmp, ax_ii, ax_ll, ax_li, ax_st1, ax_st2, ax_kl, ax_k2, ax_fit, ax_rtok, List.getElem?_cons_zero, List.getElem?_cons_succ, List.length_cons, List.length_nil, List.set_cons_zero, List.set_cons_succ, Nat.reduceAdd, Nat.reduceDiv, Nat.reduceMod, Nat.reduceMul, Nat.reduceLT, Nat.reduceLeDiff, Int32.reduceOfInt, Int64.reduceOfInt, true_and, and_true, and_self, true_or, or_true, false_implies, true_implies, not_false_eq_true, not_true_eq_false, Value.category, Nat.reduceEqDiff, Option.toList, List.cons_append, List.nil_append, List.drop_succ_cons, List.drop_zero, ax_qq_eq, ax_t_779, ax_j_779_70, ax_n_779_70]
    exact hQ
  · rw [h] at hQ ⊢
    show ax_J ax_W _ _ _ _ 72 _ _ _ _ _ _
    simp only [ax_W_cons, ax_I, ax_cmp, ax_ii, ax_ll, ax_li, ax_st1, ax_st2, ax_kl, ax_k2, ax_fit, ax_rtok, List.getElem?_cons_zero, List.getElem?_cons_succ, List.length_cons, List.length_nil, List.set_cons_zero, List.set_cons_succ, Nat.reduceAdd, Nat.reduceDiv, Nat.reduceMod, Nat.reduceMul, Nat.reduceLT, Nat.reduceLeDiff, Int32.reduceOfInt, Int64.reduceOfInt, true_and, and_true, and_self, true_or, or_true, false_implies, true_implies, not_false_eq_true, not_true_eq_false, Value.category, Nat.reduceEqDiff, Option.toList, List.cons_append, List.nil_append, List.drop_succ_cons, List.drop_zero, ax_qq_eq, ax_t_779, ax_j_779_72, ax_n_779_72]
    exact hQ
  · rw [h] at hQ ⊢
    show ax_J ax_W _ _ _ _ 74 _ _ _ _ _ _
    simp only [ax_W_cons, ax_I, ax_cmp, ax_ii, ax_ll, ax_li, ax_st1, ax_st2, ax_kl, ax_k2, ax_fit, ax_rtok, List.getElem?_cons_zero, List.getElem?_cons_succ, List.length_cons, List.length_nil, List.set_cons_zero, List.set_cons_succ, Nat.reduceAdd, Nat.reduceDiv, Nat.reduceMod, Nat.reduceMul, Nat.reduceLT, Nat.reduceLeDiff, Int32.reduceOfInt, Int64.reduceOfInt, true_and, and_true, and_self, true_or, or_true, false_implies, true_implies, not_false_eq_true, not_true_eq_false, Value.category, Nat.reduceEqDiff, Option.toList, List.cons_append, List.nil_append, List.drop_succ_cons, List.drop_zero, ax_qq_eq, ax_t_779, ax_j_779_74, ax_n_779_74]
    exact hQ
  · rw [h] at hQ ⊢
    show ax_J ax_W _ _ _ _ 76 _ _ _ _ _ _
    simp only [ax_W_cons, ax_I, ax_cmp, ax_ii, ax_ll, ax_li, ax_st1, ax_st2, ax_kl, ax_k2, ax_fit, ax_rtok, List.getElem?_cons_zero, List.getElem?_cons_succ, List.length_cons, List.length_nil, List.set_cons_zero, List.set_cons_succ, Nat.reduceAdd, Nat.reduceDiv, Nat.reduceMod, Nat.reduceMul, Nat.reduceLT, Nat.reduceLeDiff, Int32.reduceOfInt, Int64.reduceOfInt, true_and, and_true, and_self, true_or, or_true, false_implies, true_implies, not_false_eq_true, not_true_eq_false, Value.category, Nat.reduceEqDiff, Option.toList, List.cons_append, List.nil_append, List.drop_succ_cons, List.drop_zero, ax_qq_eq, ax_t_779, ax_j_779_76, ax_n_779_76]
    exact hQ
theorem ck_startsPart (hal : ax_al n = 178) {k lw : Nat} (hk : k < 62) {h : Bool} (hR : es 20 = .inr (6, [.ref 1, .ref 3, .ref 21, .ref 34, .ref lw, .int (kx_b h)])) (hQ : Q (some (.int (kx_b (zstart h k)))) es) : ax_Mt d 781 [.ref 20, .int (nI k)] n sl es Q := by
  have hi : (nI k).toInt = (k : Int) := nI_toInt (by omega)
  have hl : ax_lookup [(17, 60), (20, 60), (21, 60), (22, 60), (25, 60), (40, 60)] 62 (k : Int) = (if k = 25 ∨ k = 17 ∨ k = 20 ∨ k = 21 ∨ k = 22 ∨ k = 40 then 60 else 62) := by
    have : ∀ k : Fin 62, ax_lookup [(17, 60), (20, 60), (21, 60), (22, 60), (25, 60), (40, 60)] 62 (k.val : Int) = (if k.val = 25 ∨ k.val = 17 ∨ k.val = 20 ∨ k.val = 21 ∨ k.val = 22 ∨ k.val = 40 then 60 else 62) := by decide +kernel
    exact this ⟨k, hk⟩
  have c10 : ¬ (1 : Int32) = 0 := by decide
  unfold zstart at hQ
  refine ax_Mt_go (m := ax_m_6_13) (ls := [some (.ref 20), some (.int (nI k))]) rfl ax_b_781_0 (Nat.le_of_ble_eq_true rfl) rfl ?_
  simp only [ax_W_cons, ax_I, ax_cmp, ax_ii, ax_ll, ax_li, ax_st1, ax_st2, ax_kl, ax_k2, ax_fit, ax_rtok, List.getElem?_cons_zero, List.getElem?_cons_succ, List.length_cons, List.length_nil, List.set_cons_zero, List.set_cons_succ, Nat.reduceAdd, Nat.reduceDiv, Nat.reduceMod, Nat.reduceMul, Nat.reduceLT, Nat.reduceLeDiff, Int32.reduceOfInt, Int64.reduceOfInt, true_and, and_true, and_self, true_or, or_true, false_implies, true_implies, not_false_eq_true, not_true_eq_false, Value.category, Nat.reduceEqDiff, Option.toList, List.cons_append, List.nil_append, List.drop_succ_cons, List.drop_zero, ax_qq_eq, ax_t_781, hi]
  rw [hl]
  by_cases h6 : k = 25 ∨ k = 17 ∨ k = 20 ∨ k = 21 ∨ k = 22 ∨ k = 40
  · rw [decide_eq_true h6] at hQ
    rw [if_pos h6]
    simp only [ax_W_cons, ax_I, ax_cmp, ax_ii, ax_ll, ax_li, ax_st1, ax_st2, ax_kl, ax_k2, ax_fit, ax_rtok, List.getElem?_cons_zero, List.getElem?_cons_succ, List.length_cons, List.length_nil, List.set_cons_zero, List.set_cons_succ, Nat.reduceAdd, Nat.reduceDiv, Nat.reduceMod, Nat.reduceMul, Nat.reduceLT, Nat.reduceLeDiff, Int32.reduceOfInt, Int64.reduceOfInt, true_and, and_true, and_self, true_or, or_true, false_implies, true_implies, not_false_eq_true, not_true_eq_false, Value.category, Nat.reduceEqDiff, Option.toList, List.cons_append, List.nil_append, List.drop_succ_cons, List.drop_zero, ax_qq_eq, ax_t_781, ax_j_781_60, ax_n_781_60]
    exact hQ
  · rw [decide_eq_false h6, Bool.false_or] at hQ
    rw [if_neg h6]
    have e23 := zk_eq (x := 23) hk (by decide)
    have e23 : (nI k = 23) = (k = 23) := e23
    simp only [ax_W_cons, ax_I, ax_cmp, ax_ii, ax_ll, ax_li, ax_st1, ax_st2, ax_kl, ax_k2, ax_fit, ax_rtok, List.getElem?_cons_zero, List.getElem?_cons_succ, List.length_cons, List.length_nil, List.set_cons_zero, List.set_cons_succ, Nat.reduceAdd, Nat.reduceDiv, Nat.reduceMod, Nat.reduceMul, Nat.reduceLT, Nat.reduceLeDiff, Int32.reduceOfInt, Int64.reduceOfInt, true_and, and_true, and_self, true_or, or_true, false_implies, true_implies, not_false_eq_true, not_true_eq_false, Value.category, Nat.reduceEqDiff, Option.toList, List.cons_append, List.nil_append, List.drop_succ_cons, List.drop_zero, ax_qq_eq, ax_t_781, ax_j_781_62, ax_n_781_62, e23]
    refine ⟨fun h5 => ?_, fun h5 => ?_⟩
    · rw [decide_eq_false h5, Bool.false_and] at hQ
      simp only [ax_W_cons, ax_I, ax_cmp, ax_ii, ax_ll, ax_li, ax_st1, ax_st2, ax_kl, ax_k2, ax_fit, ax_rtok, List.getElem?_cons_zero, List.getElem?_cons_succ, List.length_cons, List.length_nil, List.set_cons_zero, List.set_cons_succ, Nat.reduceAdd, Nat.reduceDiv, Nat.reduceMod, Nat.reduceMul, Nat.reduceLT, Nat.reduceLeDiff, Int32.reduceOfInt, Int64.reduceOfInt, true_and, and_true, and_self, true_or, or_true, false_implies, true_implies, not_false_eq_true, not_true_eq_false, Value.category, Nat.reduceEqDiff, Option.toList, List.cons_append, List.nil_append, List.drop_succ_cons, List.drop_zero, ax_qq_eq, ax_t_781, ax_j_781_79, ax_n_781_79, ax_j_781_80, ax_n_781_80]
      exact hQ
    · simp only [Classical.not_not] at h5
      rw [decide_eq_true h5, Bool.true_and] at hQ
      cases h
      · simp only [ax_W_cons, ax_I, ax_cmp, ax_ii, ax_ll, ax_li, ax_st1, ax_st2, ax_kl, ax_k2, ax_fit, ax_rtok, List.getElem?_cons_zero, List.getElem?_cons_succ, List.length_cons, List.length_nil, List.set_cons_zero, List.set_cons_succ, Nat.reduceAdd, Nat.reduceDiv, Nat.reduceMod, Nat.reduceMul, Nat.reduceLT, Nat.reduceLeDiff, Int32.reduceOfInt, Int64.reduceOfInt, true_and, and_true, and_self, true_or, or_true, false_implies, true_implies, not_false_eq_true, not_true_eq_false, Value.category, Nat.reduceEqDiff, Option.toList, List.cons_append, List.nil_append, List.drop_succ_cons, List.drop_zero, ax_qq_eq, ax_t_781, ax_j_781_79, ax_n_781_79, ax_j_781_80, ax_n_781_80, hR, hal, kx_bf]
        exact hQ
      · simp only [ax_W_cons, ax_I, ax_cmp, ax_ii, ax_ll, ax_li, ax_st1, ax_st2, ax_kl, ax_k2, ax_fit, ax_rtok, List.getElem?_cons_zero, List.getElem?_cons_succ, List.length_cons, List.length_nil, List.set_cons_zero, List.set_cons_succ, Nat.reduceAdd, Nat.reduceDiv, Nat.reduceMod, Nat.reduceMul, Nat.reduceLT, Nat.reduceLeDiff, Int32.reduceOfInt, Int64.reduceOfInt, true_and, and_true, and_self, true_or, or_true, false_implies, true_implies, not_false_eq_true, not_true_eq_false, Value.category, Nat.reduceEqDiff, Option.toList, List.cons_append, List.nil_append, List.drop_succ_cons, List.drop_zero, ax_qq_eq, ax_t_781, ax_j_781_80, ax_n_781_80, hR, hal, kx_bt, c10]
        exact hQ
/-- one more sign of the law -/
theorem ck_add (hal : ax_al n = 178) {lw fr en : Nat} {code : Nat → Int32} (hl : lw = 28 ∨ lw = 31) (h1 : es lw = .inr (3, [.ref 27, .ref (lw + 1), .ref (lw + 2), .int (nI fr), .int (nI en)])) (h2 : es 27 = .inl (0, 1000, .inl code)) (hen : en < 1000) (x : Int32) (hQ : ∀ es', es' lw = .inr (3, [.ref 27, .ref (lw + 1), .ref (lw + 2), .int (nI fr), .int (nI (en + 1))]) → es' 27 = .inl (0, 1000, .inl (upd code en x)) → (∀ j, j ≠ lw ∧ j ≠ 27 → es' j = es j) → Q none es') : ax_Mt d 386 [.ref lw, .int x] n sl es Q := by
  have hlw : lw < 178 := by omega
  have e0 : ¬ Int32.ofNat 1000 ≤ nI en := nI_ge (b := 1000) hen (by decide)
  have e1 : vp_in (nI en) 1000 := nI_in hen (by decide)
  have e2 : (nI en).toNatClampNeg = en := nI_clamp (by omega)
  have e4 : nI en + 1 = nI (en + 1) := (nI_succ en).symm
  have g1 : ∀ e, ax_up es 27 e lw = _ := fun e => (ax_up_ne es e (by omega)).trans h1
  refine ax_Mt_go (m := ax_m_3_2) (ls := [some (.ref lw), some (.int x)]) rfl ax_b_386_0 (Nat.le_of_ble_eq_true rfl) rfl ?_
  simp only [ax_W_cons, ax_I, ax_cmp, ax_ii, ax_ll, ax_li, ax_st1, ax_st2, ax_kl, ax_k2, ax_fit, ax_rtok, List.getElem?_cons_zero, List.getElem?_cons_succ, List.length_cons, List.length_nil, List.set_cons_zero, List.set_cons_succ, Nat.reduceAdd, Nat.reduceDiv, Nat.reduceMod, Nat.reduceMul, Nat.reduceLT, Nat.reduceLeDiff, Int32.reduceOfInt, Int64.reduceOfInt, true_and, and_true, and_self, true_or, or_true, false_implies, true_implies, not_false_eq_true, not_true_eq_false, Value.category, Nat.reduceEqDiff, Option.toList, List.cons_append, List.nil_append, List.drop_succ_cons, List.drop_zero, ax_qq_eq, ax_t_386, ax_j_386_32, ax_n_386_32, h1, h2, g1, hal, hlw, e0, e1, e2, e4]
  exact hQ _ (ax_up_same ..) ((ax_up_ne _ _ (by omega)).trans (ax_up_same ..)) (fun j hj => (ax_up_ne _ _ hj.1).trans (ax_up_ne _ _ hj.2))
theorem xEs_1 {a : Nat} {tk : Int32} {lw fr en : Nat} {code : Nat → Int32} {h : Bool} {es' : ax_H} {a' : Nat} (X : xEs es t a tk lw fr en code h) (h1 : xTk es' t a' tk 0) (hf : ∀ j, j ≠ 1 → es' j = es j) : xEs es' t a' tk lw fr en code h := by
  obtain ⟨-, h2, h3, h4, h5⟩ := X
  exact ⟨h1, (hf lw (by omega)).trans h2, (hf 27 (by decide)).trans h3, (hf 20 (by decide)).trans h4, h5⟩
theorem xEs_ls {a : Nat} {tk : Int32} {lw fr en : Nat} {code : Nat → Int32} {h : Bool} {es' : ax_H} (X : xEs es t a tk lw fr en code h) (hf : ∀ j, j ≠ 1 → es' j = es j) : xLs lw es' := by
  obtain ⟨-, h2, h3, h4, h5⟩ := X
  exact ⟨_, _, _, (hf lw (by omega)).trans h2, (hf 27 (by decide)).trans h3⟩
theorem xEs_add {a : Nat} {tk : Int32} {lw fr en : Nat} {code : Nat → Int32} {h : Bool} {es' : ax_H} {x : Int32} (X : xEs es t a tk lw fr en code h) (h1 : es' lw = .inr (3, [.ref 27, .ref (lw + 1), .ref (lw + 2), .int (nI fr), .int (nI (en + 1))])) (h2 : es' 27 = .inl (0, 1000, .inl (upd code en x))) (hf : ∀ j, j ≠ lw ∧ j ≠ 27 → es' j = es j) : xEs es' t a tk lw fr (en + 1) (zapp code en [x]) h := by
  obtain ⟨⟨⟨nb, nm, g1, g2⟩, hS⟩, -, -, h4, h5⟩ := X
  refine ⟨⟨⟨nb, nm, (hf 1 (by omega)).trans g1, g2⟩, xSg_fr hS (hf 2 (by omega))⟩, h1, by rw [zapp_one]; exact h2, (hf 20 (by omega)).trans h4, h5⟩
end TT
