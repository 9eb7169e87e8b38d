/-! the class: a courtier is read -/
def xLx (es : ax_H) (t : zTp) (a : Nat) (tk : Int32) (dr : zDf) (kd pl ht : Nat → Int32) (nm : Nat → Int64) (hs code : Nat → Int32) (f5 f6 : Nat) : Prop := xTk es t a tk 0 ∧ xRd es ∧ xDh es (nI dr.1) (nI dr.2.1.length) (nI dr.2.2.1.length) (zoI dr.2.2.2.1) kd pl ht nm hs code (nI f5) (nI (f5 + dr.2.2.2.2.1.length)) (nI f6) (nI (f6 + dr.2.2.2.2.2.length))
theorem xLx_1 {es es' : ax_H} {t : zTp} {a a' : Nat} {tk tk' : Int32} {dr : zDf} {kd pl ht : Nat → Int32} {nm : Nat → Int64} {hs code : Nat → Int32} {f5 f6 : Nat} (X : xLx es t a tk dr kd pl ht nm hs code f5 f6) (h : xTk es' t a' tk' 0) (hf : ∀ j, j ≠ 1 → es' j = es j) : xLx es' t a' tk' dr kd pl ht nm hs code f5 f6 := ⟨h, xRd_fr X.2.1 (hf 20 (by decide)), xDh_fr X.2.2 (fun j h1 h2 => hf j (by omega))⟩
theorem xLx_f {es es' : ax_H} {t : zTp} {a : Nat} {x : Nat × Nat} {tk : Int32} {dr : zDf} {kd pl ht : Nat → Int32} {nm : Nat → Int64} {hs code : Nat → Int32} {f5 f6 : Nat} (X : xLx es t a tk dr kd pl ht nm hs code f5 f6) (h : xTf es' t (nI (x.1 + 16 * zpl t x.2))) (hf : ∀ j, j ≠ 1 → es' j = es j) : xLf es' t x := ⟨h, xRd_fr X.2.1 (hf 20 (by decide)), ⟨_, _, _, _, _, _, _, _, _, _, _, _, _, _, xDh_fr X.2.2 (fun j h1 h2 => hf j (by omega))⟩⟩
theorem zFnd_lt (w : List Nat) : ∀ (cs : List zCr) (i j : Nat), zFnd cs w i = some j → j < i + cs.length
  | [], i, j, h => by
    rw [zFnd_nil] at h
    cases h
  | c :: cs, i, j, h => by
    rw [zFnd_cons] at h
    rw [List.length_cons]
    split at h
    · cases h
      omega
    · have := zFnd_lt w cs (i + 1) j h
      omega
theorem zFi_none {cs : List zCr} {w : List Nat} (hl : cs.length ≤ 6) : (zFi (zFnd cs w 0) = -1) = (zFnd cs w 0 = none) := by
  cases h : zFnd cs w 0 with
  | none => exact propext ⟨fun _ => rfl, fun _ => rfl⟩
  | some j =>
    have hj := zFnd_lt w cs 0 j h
    have hj : j < 6 := by omega
    refine propext ⟨fun z => ?_, fun z => by cases z⟩
    have : ∀ j : Fin 6, ¬ nI j.val = -1 := by decide
    exact absurd z (this ⟨j, hj⟩)
section TT
variable {d n sl : Nat} {es : ax_H} {t : zTp} {a : Nat} {dr : zDf} {tk : Int32} {kd pl ht : Nat → Int32} {nm : Nat → Int64} {hs code : Nat → Int32} {f5 f6 : Nat} {Q : Option Value → ax_H → Prop}
theorem xLx_rd (hal : ax_al n = 178) (X : xLx es t a tk dr kd pl ht nm hs code f5 f6) (As : List Value) : ax_rcv n es 6 (.ref 20 :: As) := xRd_rcv hal X.2.1 As
theorem ck_takeNewName (hal : ax_al n = 178) (hT : zT_ok t) (hl : dr.2.1.length < 6) (hn : ∀ i, i < dr.2.1.length → nm i = nL (zv256 (dr.2.1.getD i zC0).2.2.2) ∧ zWd (dr.2.1.getD i zC0).2.2.2) (X : xLx es t a tk dr kd pl ht nm hs code f5 f6) (h1 : ∀ es', zName t a → zFnd dr.2.1 (zwd t a) 0 = none → zWd (zwd t a) → xLx es' t (a + 1) tk dr kd pl ht (vp_updL nm dr.2.1.length (nL (zv256 (zwd t a)))) hs code f5 f6 → xfR es es' → Q (some (.int 1)) es') (h0 : ∀ es' k, (¬ zName t a ∧ k = 1 ∨ zName t a ∧ ¬ zFnd dr.2.1 (zwd t a) 0 = none ∧ k = 3) → xLf es' t (k, a) → xfR es es' → Q (some (.int 0)) es') : ax_Mt (d + 12) 774 [.ref 20, .int (nI dr.2.1.length)] n sl es Q := by
  obtain ⟨⟨⟨nb, nmv, w1, v1, v2⟩, hS⟩, ⟨rv, rb, w20⟩, D⟩ := id X
  obtain ⟨D1, D2, D3, D4, D5, D6, D7, D8, D9⟩ := id D
  have w1 : es 1 = _ := w1
  have c10 : ¬ (1 : Int32) = 0 := by decide
  have n0 : ((0 : Int32) = 0 ∨ (0 : Int32) = 1) := Or.inl rfl
  have n1 : ((1 : Int32) = 0 ∨ (1 : Int32) = 1) := Or.inr rfl
  have i1 : vp_in (nI dr.2.1.length) 6 := nI_in hl (by decide)
  have i2 : (nI dr.2.1.length).toNatClampNeg = dr.2.1.length := nI_clamp (by omega)
  refine ax_Mt_go (m := ax_m_6_6) (ls := [some (.ref 20), some (.int (nI dr.2.1.length))]) rfl ax_b_774_0 (Nat.le_of_ble_eq_true rfl) rfl ?_
  simp only [ax_W_cons, ax_I, ax_cmp, ax_ii, ax_ll, ax_li, ax_st1, ax_st2, ax_kl, ax_k2, ax_fit, ax_rtok, List.getElem?_cons_zero, List.getElem?_cons_succ, List.length_cons, List.length_nil, List.set_cons_zero, List.set_cons_succ, Nat.reduceAdd, Nat.reduceDiv, Nat.reduceMod, Nat.reduceMul, Nat.reduceLT, Nat.reduceLeDiff, Int32.reduceOfInt, Int64.reduceOfInt, true_and, and_true, and_self, true_or, or_true, false_implies, true_implies, not_false_eq_true, not_true_eq_false, Value.category, Nat.reduceEqDiff, Option.toList, List.cons_append, List.nil_append, List.drop_succ_cons, List.drop_zero, ax_qq_eq, ax_t_774, w20, hal]
  refine ax_inv_of (Nat.le_of_ble_eq_true rfl) (Nat.le_of_ble_eq_true rfl) (fun _ => xTk_rcv hal X.1 _) (fun h => absurd h (by decide)) (Nat.le_refl _) (Nat.le_refl _) (ck_isName hal X.1 ?_)
  by_cases hN : zName t a
  · rw [decide_eq_true hN]
    have hle : zkd t a ≤ 24 := by
      rcases hN with h | h <;> omega
    have hv := v2 hle
    have hw := (zwd_ok hle).2.2.2.1
    simp only [ax_W_cons, ax_I, ax_cmp, ax_ii, ax_ll, ax_li, ax_st1, ax_st2, ax_kl, ax_k2, ax_fit, ax_rtok, List.getElem?_cons_zero, List.getElem?_cons_succ, List.length_cons, List.length_nil, List.set_cons_zero, List.set_cons_succ, Nat.reduceAdd, Nat.reduceDiv, Nat.reduceMod, Nat.reduceMul, Nat.reduceLT, Nat.reduceLeDiff, Int32.reduceOfInt, Int64.reduceOfInt, true_and, and_true, and_self, true_or, or_true, false_implies, true_implies, not_false_eq_true, not_true_eq_false, Value.category, Nat.reduceEqDiff, Option.toList, List.cons_append, List.nil_append, List.drop_succ_cons, List.drop_zero, ax_qq_eq, ax_t_774, ax_j_774_19, ax_n_774_19, kx_bt, c10, w20, w1, hal, hv]
    refine ax_inv_of (Nat.le_of_ble_eq_true rfl) (Nat.le_of_ble_eq_true rfl) (fun _ => ax_rcv_ok (by omega) D1) (fun h => absurd h (by decide)) (Nat.le_refl _) (Nat.le_refl _) (ck_find hal (by decide) (by decide) D1 D5 (by omega) hw hn ?_)
    have e3 := zFi_none (cs := dr.2.1) (w := zwd t a) (by omega)
    by_cases hF : zFnd dr.2.1 (zwd t a) 0 = none
    · have e4 : zFi (zFnd dr.2.1 (zwd t a) 0) = -1 := by rw [e3]; exact hF
      have g20 : ∀ e, ax_up es 25 e 20 = _ := fun e => (ax_up_ne es e (by decide)).trans w20
      simp only [ax_W_cons, ax_I, ax_cmp, ax_ii, ax_ll, ax_li, ax_st1, ax_st2, ax_kl, ax_k2, ax_fit, ax_rtok, List.getElem?_cons_zero, List.getElem?_cons_succ, List.length_cons, List.length_nil, List.set_cons_zero, List.set_cons_succ, Nat.reduceAdd, Nat.reduceDiv, Nat.reduceMod, Nat.reduceMul, Nat.reduceLT, Nat.reduceLeDiff, Int32.reduceOfInt, Int64.reduceOfInt, true_and, and_true, and_self, true_or, or_true, false_implies, true_implies, not_false_eq_true, not_true_eq_false, Value.category, Nat.reduceEqDiff, Option.toList, List.cons_append, List.nil_append, List.drop_succ_cons, List.drop_zero, ax_qq_eq, ax_t_774, ax_j_774_46, ax_n_774_46, e4, w20, w1, D1, D5, hal, i1, i2, hv, g20]
      have T2 : xTk (ax_up es 25 (.inl (3, 6, .inr (.inl (vp_updL nm dr.2.1.length (nL (zv256 (zwd t a)))))))) t a tk 0 := xTk_fr X.1 (ax_up_ne _ _ (by decide)) (ax_up_ne _ _ (by decide))
      refine ax_inv_of (Nat.le_of_ble_eq_true rfl) (Nat.le_of_ble_eq_true rfl) (fun _ => xTk_rcv hal T2 _) (fun h => absurd h (by decide)) (Nat.le_refl _) (Nat.le_refl _) (ck_adv hal hT T2 ?_)
      intro es1 T1 f1
      simp only [ax_W_cons, ax_I, ax_cmp, ax_ii, ax_ll, ax_li, ax_st1, ax_st2, ax_kl, ax_k2, ax_fit, ax_rtok, List.getElem?_cons_zero, List.getElem?_cons_succ, List.length_cons, List.length_nil, List.set_cons_zero, List.set_cons_succ, Nat.reduceAdd, Nat.reduceDiv, Nat.reduceMod, Nat.reduceMul, Nat.reduceLT, Nat.reduceLeDiff, Int32.reduceOfInt, Int64.reduceOfInt, true_and, and_true, and_self, true_or, or_true, false_implies, true_implies, not_false_eq_true, not_true_eq_false, Value.category, Nat.reduceEqDiff, Option.toList, List.cons_append, List.nil_append, List.drop_succ_cons, List.drop_zero, ax_qq_eq, ax_t_774, n1]
      have fe : ∀ j, j ≠ 1 → j ≠ 25 → es1 j = es j := fun j h1 h2 => (f1 j h1).trans (ax_up_ne _ _ h2)
      exact h1 es1 hN hF hw ⟨T1, ⟨rv, rb, (fe 20 (by decide) (by decide)).trans w20⟩, (fe 21 (by decide) (by decide)).trans D1, (fe 22 (by decide) (by decide)).trans D2, (fe 23 (by decide) (by decide)).trans D3, (fe 24 (by decide) (by decide)).trans D4, (f1 25 (by decide)).trans (ax_up_same ..), (fe 26 (by decide) (by decide)).trans D6, (fe 27 (by decide) (by decide)).trans D7, (fe 28 (by decide) (by decide)).trans D8, (fe 31 (by decide) (by decide)).trans D9⟩ (fun j h1 h2 => fe j h1 (by omega))
    · have e4 : ¬ zFi (zFnd dr.2.1 (zwd t a) 0) = -1 := by rw [e3]; exact hF
      simp only [ax_W_cons, ax_I, ax_cmp, ax_ii, ax_ll, ax_li, ax_st1, ax_st2, ax_kl, ax_k2, ax_fit, ax_rtok, List.getElem?_cons_zero, List.getElem?_cons_succ, List.length_cons, List.length_nil, List.set_cons_zero, List.set_cons_succ, Nat.reduceAdd, Nat.reduceDiv, Nat.reduceMod, Nat.reduceMul, Nat.reduceLT, Nat.reduceLeDiff, Int32.reduceOfInt, Int64.reduceOfInt, true_and, and_true, and_self, true_or, or_true, false_implies, true_implies, not_false_eq_true, not_true_eq_false, Value.category, Nat.reduceEqDiff, Option.toList, List.cons_append, List.nil_append, List.drop_succ_cons, List.drop_zero, ax_qq_eq, ax_t_774, ax_j_774_46, ax_n_774_46, e4, w20, hal]
      refine ax_inv_of (Nat.le_of_ble_eq_true rfl) (Nat.le_of_ble_eq_true rfl) (fun _ => xTk_rcv hal X.1 _) (fun h => absurd h (by decide)) (Nat.le_refl _) (Nat.le_refl _) (ck_fail (k := 3) hal X.1 ?_)
      intro es1 T1 f1
      simp only [ax_W_cons, ax_I, ax_cmp, ax_ii, ax_ll, ax_li, ax_st1, ax_st2, ax_kl, ax_k2, ax_fit, ax_rtok, List.getElem?_cons_zero, List.getElem?_cons_succ, List.length_cons, List.length_nil, List.set_cons_zero, List.set_cons_succ, Nat.reduceAdd, Nat.reduceDiv, Nat.reduceMod, Nat.reduceMul, Nat.reduceLT, Nat.reduceLeDiff, Int32.reduceOfInt, Int64.reduceOfInt, true_and, and_true, and_self, true_or, or_true, false_implies, true_implies, not_false_eq_true, not_true_eq_false, Value.category, Nat.reduceEqDiff, Option.toList, List.cons_append, List.nil_append, List.drop_succ_cons, List.drop_zero, ax_qq_eq, ax_t_774, n0]
      exact h0 es1 3 (Or.inr ⟨hN, hF, rfl⟩) (xLx_f (x := (3, a)) X T1 f1) (xfR_1 f1)
  · rw [decide_eq_false hN]
    simp only [ax_W_cons, ax_I, ax_cmp, ax_ii, ax_ll, ax_li, ax_st1, ax_st2, ax_kl, ax_k2, ax_fit, ax_rtok, List.getElem?_cons_zero, List.getElem?_cons_succ, List.length_cons, List.length_nil, List.set_cons_zero, List.set_cons_succ, Nat.reduceAdd, Nat.reduceDiv, Nat.reduceMod, Nat.reduceMul, Nat.reduceLT, Nat.reduceLeDiff, Int32.reduceOfInt, Int64.reduceOfInt, true_and, and_true, and_self, true_or, or_true, false_implies, true_implies, not_false_eq_true, not_true_eq_false, Value.category, Nat.reduceEqDiff, Option.toList, List.cons_append, List.nil_append, List.drop_succ_cons, List.drop_zero, ax_qq_eq, ax_t_774, ax_j_774_19, ax_n_774_19, kx_bf, w20, hal]
    refine ax_inv_of (Nat.le_of_ble_eq_true rfl) (Nat.le_of_ble_eq_true rfl) (fun _ => xTk_rcv hal X.1 _) (fun h => absurd h (by decide)) (Nat.le_refl _) (Nat.le_refl _) (ck_fail (k := 1) hal X.1 ?_)
    intro es1 T1 f1
    simp only [ax_W_cons, ax_I, ax_cmp, ax_ii, ax_ll, ax_li, ax_st1, ax_st2, ax_kl, ax_k2, ax_fit, ax_rtok, List.getElem?_cons_zero, List.getElem?_cons_succ, List.length_cons, List.length_nil, List.set_cons_zero, List.set_cons_succ, Nat.reduceAdd, Nat.reduceDiv, Nat.reduceMod, Nat.reduceMul, Nat.reduceLT, Nat.reduceLeDiff, Int32.reduceOfInt, Int64.reduceOfInt, true_and, and_true, and_self, true_or, or_true, false_implies, true_implies, not_false_eq_true, not_true_eq_false, Value.category, Nat.reduceEqDiff, Option.toList, List.cons_append, List.nil_append, List.drop_succ_cons, List.drop_zero, ax_qq_eq, ax_t_774, n0]
    exact h0 es1 1 (Or.inl ⟨hN, rfl⟩) (xLx_f (x := (1, a)) X T1 f1) (xfR_1 f1)
theorem ck_takeKind (hal : ax_al n = 178) (hT : zT_ok t) (hl : dr.2.1.length < 6) (X : xLx es t a tk dr kd pl ht nm hs code f5 f6) (h1 : ∀ es', (13 ≤ zkd t a ∧ zkd t a ≤ 16) → xLx es' t (a + 1) tk dr (upd kd dr.2.1.length (nI (zkd t a))) pl ht nm hs code f5 f6 → xfR es es' → Q (some (.int 1)) es') (h0 : ∀ es', ¬ (13 ≤ zkd t a ∧ zkd t a ≤ 16) → xLf es' t (1, a) → xfR es es' → Q (some (.int 0)) es') : ax_Mt (d + 12) 775 [.ref 20, .int (nI dr.2.1.length)] n sl es Q := by
  obtain ⟨⟨⟨nb, nmv, w1, v1, v2⟩, hS⟩, ⟨rv, rb, w20⟩, D⟩ := id X
  obtain ⟨D1, D2, D3, D4, D5, D6, D7, D8, D9⟩ := id D
  have w1 : es 1 = _ := w1
  have hk := zkd_lt t a
  have c10 : ¬ (1 : Int32) = 0 := by decide
  have n0 : ((0 : Int32) = 0 ∨ (0 : Int32) = 1) := Or.inl rfl
  have n1 : ((1 : Int32) = 0 ∨ (1 : Int32) = 1) := Or.inr rfl
  have i1 : vp_in (nI dr.2.1.length) 6 := nI_in hl (by decide)
  have i2 : (nI dr.2.1.length).toNatClampNeg = dr.2.1.length := nI_clamp (by omega)
  have e2 : kx_in (nI (zkd t a)) 13 16 = decide (13 ≤ zkd t a ∧ zkd t a ≤ 16) := kx_in_n (a := 13) (b := 16) (by omega) (by decide) (by decide)
  refine ax_Mt_go (m := ax_m_6_7) (ls := [some (.ref 20), some (.int (nI dr.2.1.length))]) rfl ax_b_775_0 (Nat.le_of_ble_eq_true rfl) rfl ?_
  simp only [ax_W_cons, ax_I, ax_cmp, ax_ii, ax_ll, ax_li, ax_st1, ax_st2, ax_kl, ax_k2, ax_fit, ax_rtok, List.getElem?_cons_zero, List.getElem?_cons_succ, List.length_cons, List.length_nil, List.set_cons_zero, List.set_cons_succ, Nat.reduceAdd, Nat.reduceDiv, Nat.reduceMod, Nat.reduceMul, Nat.reduceLT, Nat.reduceLeDiff, Int32.reduceOfInt, Int64.reduceOfInt, true_and, and_true, and_self, true_or, or_true, false_implies, true_implies, not_false_eq_true, not_true_eq_false, Value.category, Nat.reduceEqDiff, Option.toList, List.cons_append, List.nil_append, List.drop_succ_cons, List.drop_zero, ax_qq_eq, ax_t_775, w20, w1, hal]
  refine ax_inv_of (Nat.le_of_ble_eq_true rfl) (Nat.le_of_ble_eq_true rfl) (fun _ => absurd ‹_› (by decide)) (fun h => absurd h (by decide)) (Nat.le_refl _) (Nat.le_refl _) (xk_within _ _ _ ?_)
  rw [e2]
  by_cases hN : 13 ≤ zkd t a ∧ zkd t a ≤ 16
  · rw [decide_eq_true hN]
    have g20 : ∀ e, ax_up es 22 e 20 = _ := fun e => (ax_up_ne es e (by decide)).trans w20
    simp only [ax_W_cons, ax_I, ax_cmp, ax_ii, ax_ll, ax_li, ax_st1, ax_st2, ax_kl, ax_k2, ax_fit, ax_rtok, List.getElem?_cons_zero, List.getElem?_cons_succ, List.length_cons, List.length_nil, List.set_cons_zero, List.set_cons_succ, Nat.reduceAdd, Nat.reduceDiv, Nat.reduceMod, Nat.reduceMul, Nat.reduceLT, Nat.reduceLeDiff, Int32.reduceOfInt, Int64.reduceOfInt, true_and, and_true, and_self, true_or, or_true, false_implies, true_implies, not_false_eq_true, not_true_eq_false, Value.category, Nat.reduceEqDiff, Option.toList, List.cons_append, List.nil_append, List.drop_succ_cons, List.drop_zero, ax_qq_eq, ax_t_775, ax_j_775_26, ax_n_775_26, kx_bt, c10, w20, w1, D1, D2, hal, i1, i2, g20]
    have T2 : xTk (ax_up es 22 (.inl (0, 6, .inl (upd kd dr.2.1.length (nI (zkd t a)))))) t a tk 0 := xTk_fr X.1 (ax_up_ne _ _ (by decide)) (ax_up_ne _ _ (by decide))
    refine ax_inv_of (Nat.le_of_ble_eq_true rfl) (Nat.le_of_ble_eq_true rfl) (fun _ => xTk_rcv hal T2 _) (fun h => absurd h (by decide)) (Nat.le_refl _) (Nat.le_refl _) (ck_adv hal hT T2 ?_)
    intro es1 T1 f1
    simp only [ax_W_cons, ax_I, ax_cmp, ax_ii, ax_ll, ax_li, ax_st1, ax_st2, ax_kl, ax_k2, ax_fit, ax_rtok, List.getElem?_cons_zero, List.getElem?_cons_succ, List.length_cons, List.length_nil, List.set_cons_zero, List.set_cons_succ, Nat.reduceAdd, Nat.reduceDiv, Nat.reduceMod, Nat.reduceMul, Nat.reduceLT, Nat.reduceLeDiff, Int32.reduceOfInt, Int64.reduceOfInt, true_and, and_true, and_self, true_or, or_true, false_implies, true_implies, not_false_eq_true, not_true_eq_false, Value.category, Nat.reduceEqDiff, Option.toList, List.cons_append, List.nil_append, List.drop_succ_cons, List.drop_zero, ax_qq_eq, ax_t_775, n1]
    have fe : ∀ j, j ≠ 1 → j ≠ 22 → es1 j = es j := fun j h1 h2 => (f1 j h1).trans (ax_up_ne _ _ h2)
    exact h1 es1 hN ⟨T1, ⟨rv, rb, (fe 20 (by decide) (by decide)).trans w20⟩, (fe 21 (by decide) (by decide)).trans D1, (f1 22 (by decide)).trans (ax_up_same ..), (fe 23 (by decide) (by decide)).trans D3, (fe 24 (by decide) (by decide)).trans D4, (fe 25 (by decide) (by decide)).trans D5, (fe 26 (by decide) (by decide)).trans D6, (fe 27 (by decide) (by decide)).trans D7, (fe 28 (by decide) (by decide)).trans D8, (fe 31 (by decide) (by decide)).trans D9⟩ (fun j h1 h2 => fe j h1 (by omega))
  · rw [decide_eq_false hN]
    simp only [ax_W_cons, ax_I, ax_cmp, ax_ii, ax_ll, ax_li, ax_st1, ax_st2, ax_kl, ax_k2, ax_fit, ax_rtok, List.getElem?_cons_zero, List.getElem?_cons_succ, List.length_cons, List.length_nil, List.set_cons_zero, List.set_cons_succ, Nat.reduceAdd, Nat.reduceDiv, Nat.reduceMod, Nat.reduceMul, Nat.reduceLT, Nat.reduceLeDiff, Int32.reduceOfInt, Int64.reduceOfInt, true_and, and_true, and_self, true_or, or_true, false_implies, true_implies, not_false_eq_true, not_true_eq_false, Value.category, Nat.reduceEqDiff, Option.toList, List.cons_append, List.nil_append, List.drop_succ_cons, List.drop_zero, ax_qq_eq, ax_t_775, ax_j_775_26, ax_n_775_26, kx_bf, w20, hal]
    refine ax_inv_of (Nat.le_of_ble_eq_true rfl) (Nat.le_of_ble_eq_true rfl) (fun _ => xTk_rcv hal X.1 _) (fun h => absurd h (by decide)) (Nat.le_refl _) (Nat.le_refl _) (ck_fail (k := 1) hal X.1 ?_)
    intro es1 T1 f1
    simp only [ax_W_cons, ax_I, ax_cmp, ax_ii, ax_ll, ax_li, ax_st1, ax_st2, ax_kl, ax_k2, ax_fit, ax_rtok, List.getElem?_cons_zero, List.getElem?_cons_succ, List.length_cons, List.length_nil, List.set_cons_zero, List.set_cons_succ, Nat.reduceAdd, Nat.reduceDiv, Nat.reduceMod, Nat.reduceMul, Nat.reduceLT, Nat.reduceLeDiff, Int32.reduceOfInt, Int64.reduceOfInt, true_and, and_true, and_self, true_or, or_true, false_implies, true_implies, not_false_eq_true, not_true_eq_false, Value.category, Nat.reduceEqDiff, Option.toList, List.cons_append, List.nil_append, List.drop_succ_cons, List.drop_zero, ax_qq_eq, ax_t_775, n0]
    exact h0 es1 hN (xLx_f (x := (1, a)) X T1 f1) (xfR_1 f1)
end TT
