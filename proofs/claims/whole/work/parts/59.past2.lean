/-! the class: what can be undone, the marks -/
def kbB (es : ax_H) (n q k p : Nat) (B : zB) : Prop := kb es n q k p (nI B.1) (nI B.2.1) B.2.2.1 B.2.2.2.1 B.2.2.2.2
def kbA (es : ax_H) (n q : Nat) : Prop := ∃ k p t cr sh pl dn, kb es n q k p t cr sh pl dn
def kfA (es : ax_H) (n u : Nat) : Prop := ∃ f, kfF es n u f
def kPo (es : ax_H) (nx un la : Nat) : Prop := es 46 = .inr (4, [.ref 47, .int (nI nx), .int (nI un), .ref 48, .ref 49, .int (nI la)])
def kPr (es : ax_H) : Prop := (∃ f, es 47 = .inl (4, 16, .inr (.inr (.inr (.inr f)))) ∧ ∀ i, i < 16 → f i = some (50 + 4 * i)) ∧ (∃ f, es 48 = .inl (4, 4, .inr (.inr (.inr (.inr f)))) ∧ ∀ i, i < 4 → f i = some (114 + 8 * i)) ∧ ∃ f, es 49 = .inl (5, 4, .inr (.inr (.inr (.inr f)))) ∧ ∀ i, i < 4 → f i = some (118 + 8 * i)
def kPs (es : ax_H) (n k p nx un : Nat) (U : Nat → zB) : Prop := (∀ s, s < 16 → kbA es n (50 + 4 * s)) ∧ ∀ u, u < un → kbB es n (50 + 4 * ((nx + 16 - un + u) % 16)) k p (U u)
def kPm (es : ax_H) (n k p : Nat) (mk : Nat → Bool) (M : Nat → zB × zF) : Prop := ∀ m, m < 4 → kbA es n (114 + 8 * m) ∧ kfA es n (118 + 8 * m) ∧ (mk m = true → kbB es n (114 + 8 * m) k p (M m).1 ∧ kfF es n (118 + 8 * m) (M m).2)
def kP (es : ax_H) (n k p un : Nat) (U : Nat → zB) (mk : Nat → Bool) (M : Nat → zB × zF) : Prop := ∃ nx la, nx < 16 ∧ un ≤ 16 ∧ kPo es nx un la ∧ (∀ m, m < 4 → la.testBit m = mk m) ∧ kPr es ∧ kPs es n k p nx un U ∧ kPm es n k p mk M
/-- all but the past stays -/
def kfp (es es' : ax_H) : Prop := ∀ j, (j < 46 ∨ 145 < j) → es' j = es j
theorem kbA_fr {es es' : ax_H} {n q : Nat} (h : kbA es n q) (hf : ∀ j, q ≤ j ∧ j ≤ q + 3 → es' j = es j) : kbA es' n q := by
  obtain ⟨k, p, t, cr, sh, pl, dn, h⟩ := h
  exact ⟨k, p, t, cr, sh, pl, dn, kb_fr h hf⟩
theorem kfF_fr {es es' : ax_H} {n u : Nat} {f : zF} (h : kfF es n u f) (hf : ∀ j, u ≤ j ∧ j ≤ u + 3 → es' j = es j) : kfF es' n u f := by
  obtain ⟨hn, h0, h1, h2, h3, z⟩ := h
  exact ⟨hn, by rw [hf u (by omega)]; exact h0, by rw [hf (u + 1) (by omega)]; exact h1, by rw [hf (u + 2) (by omega)]; exact h2, by rw [hf (u + 3) (by omega)]; exact h3, z⟩
theorem kfA_fr {es es' : ax_H} {n u : Nat} (h : kfA es n u) (hf : ∀ j, u ≤ j ∧ j ≤ u + 3 → es' j = es j) : kfA es' n u := by
  obtain ⟨f, h⟩ := h
  exact ⟨f, kfF_fr h hf⟩
theorem kPr_fr {es es' : ax_H} (h : kPr es) (hf : ∀ j, 47 ≤ j ∧ j ≤ 49 → es' j = es j) : kPr es' := by
  obtain ⟨⟨f, h1, h2⟩, ⟨g, h3, h4⟩, e, h5, h6⟩ := h
  exact ⟨⟨f, by rw [hf 47 (by decide)]; exact h1, h2⟩, ⟨g, by rw [hf 48 (by decide)]; exact h3, h4⟩, e, by rw [hf 49 (by decide)]; exact h5, h6⟩
theorem kPs_fr {es es' : ax_H} {n k p nx un : Nat} {U : Nat → zB} (h : kPs es n k p nx un U) (hf : ∀ j, 50 ≤ j ∧ j ≤ 113 → es' j = es j) : kPs es' n k p nx un U :=
  ⟨fun s hs => kbA_fr (h.1 s hs) (fun j hj => hf j (by omega)), fun u hu => kb_fr (h.2 u hu) (fun j hj => hf j (by omega))⟩
theorem kPm_fr {es es' : ax_H} {n k p : Nat} {mk : Nat → Bool} {M : Nat → zB × zF} (h : kPm es n k p mk M) (hf : ∀ j, 114 ≤ j ∧ j ≤ 145 → es' j = es j) : kPm es' n k p mk M := fun m hm =>
  ⟨kbA_fr (h m hm).1 (fun j hj => hf j (by omega)), kfA_fr (h m hm).2.1 (fun j hj => hf j (by omega)), fun hmk => ⟨kb_fr ((h m hm).2.2 hmk).1 (fun j hj => hf j (by omega)), kfF_fr ((h m hm).2.2 hmk).2 (fun j hj => hf j (by omega))⟩⟩
theorem kP_fr {es es' : ax_H} {n k p un : Nat} {U : Nat → zB} {mk : Nat → Bool} {M : Nat → zB × zF} (h : kP es n k p un U mk M) (hf : ∀ j, 46 ≤ j ∧ j ≤ 145 → es' j = es j) : kP es' n k p un U mk M := by
  obtain ⟨nx, la, h1, h2, h3, h4, h5, h6, h7⟩ := h
  exact ⟨nx, la, h1, h2, (hf 46 (by decide)).trans h3, h4, kPr_fr h5 (fun j hj => hf j (by omega)), kPs_fr h6 (fun j hj => hf j (by omega)), kPm_fr h7 (fun j hj => hf j (by omega))⟩
section KX
variable {d n sl k p un : Nat} {es : ax_H} {B : zB} {Fe : zF} {U : Nat → zB} {mk : Nat → Bool} {M : Nat → zB × zF} {Q : Option Value → ax_H → Prop}
theorem kP_rcv (hal : ax_al n = 178) (h : kP es n k p un U mk M) (As : List Value) : ax_rcv n es 4 (.ref 46 :: As) := by
  obtain ⟨nx, la, h1, h2, h3, -⟩ := h
  exact ax_rcv_ok (by omega) h3
theorem kbA_rcv (hal : ax_al n = 178) {q : Nat} (h : kbA es n q) (As : List Value) : ax_rcv n es 0 (.ref q :: As) := by
  obtain ⟨k', p', t', cr', sh', pl', dn', h⟩ := h
  exact ax_rcv_ok (by have := h.1; omega) h.2.1
/-- one bowl copied to another place -/
theorem ck_copyB (hal : ax_al n = 178) {q q2 : Nat} (h : kbA es n q) (hb : kbB es n q2 k p B) (ha : q + 3 < q2 ∨ q2 + 3 < q) (hQ : ∀ es', kbB es' n q k p B → (∀ j, (j < q ∨ q + 3 < j) → es' j = es j) → Q none es') : ax_Mt (d + 1) 2 [.ref q, .ref q2] n sl es Q := by
  obtain ⟨k', p', t', cr', sh', pl', dn', h⟩ := h
  refine ax_Mt_mono (ck_copy (by omega) h hb ha) ?_
  rintro r es' ⟨rfl, rfl⟩
  obtain ⟨-, -, -, -, -, z1, z2, z3⟩ := hb
  exact hQ _ (kw_kb h.1 z1 z2 z3) (fun j hj => kw_ne _ _ _ _ _ _ _ _ hj)
theorem ck_keep (hal : ax_al n = 178) (hP : kP es n k p un U mk M) (hb : kbB es n 38 k p B) (hQ : ∀ es', kP es' n k p (zun un) (zpush U un B) mk M → kfp es es' → Q none es') : ax_Mt (d + 2) 514 [.ref 46, .ref 38] n sl es Q := by
  obtain ⟨nx, la, h1, h2, h3, h4, ⟨⟨f, r1, r2⟩, hr2, hr3⟩, h6, h7⟩ := id hP
  unfold kPo at h3
  have e2 : vp_in (nI nx) 16 := nI_in h1 (by decide)
  have e3 : (nI nx).toNatClampNeg = nx := nI_clamp (by omega)
  have e4 := r2 nx h1
  have t4 : (4 = 4 ∨ 4 = 5) := Or.inl rfl
  have hA := h6.1 nx h1
  refine ax_Mt_go (m := ax_m_4_2) (ls := [some (.ref 46), some (.ref 38)]) rfl ax_b_514_0 (Nat.le_of_ble_eq_true rfl) rfl ?_
  simp only [ax_W_cons, ax_I, ax_cmp, ax_ii, ax_ll, ax_li, ax_st1, ax_st2, ax_kl, ax_k2, ax_fit, ax_rtok, List.getElem?_cons_zero, List.getElem?_cons_succ, List.length_cons, List.length_nil, List.set_cons_zero, List.set_cons_succ, Nat.reduceAdd, Nat.reduceDiv, Nat.reduceMod, Nat.reduceMul, Nat.reduceLT, Nat.reduceLeDiff, Int32.reduceOfInt, Int64.reduceOfInt, true_and, and_true, and_self, true_or, or_true, false_implies, true_implies, not_false_eq_true, not_true_eq_false, Value.category, Nat.reduceEqDiff, Option.toList, List.cons_append, List.nil_append, List.drop_succ_cons, List.drop_zero, ax_qq_eq, ax_t_514, h3, r1, hal, e2, e3, e4, t4]
  refine ax_inv_of (Nat.le_of_ble_eq_true rfl) (Nat.le_of_ble_eq_true rfl) (fun _ => kbA_rcv hal hA _) (fun h => absurd h (by decide)) (Nat.le_refl _) (Nat.le_refl _) (ck_copyB hal hA hb (by omega) ?_)
  intro es1 g1 g2
  have w3 : es1 46 = _ := (g2 46 (by omega)).trans h3
  -- what comes out
  have key : ∀ nx', nx' = (nx + 1) % 16 → ∀ es2, (∀ j, j ≠ 46 → es2 j = es1 j) → kPo es2 nx' (zun un) la → Q none es2 := by
    intro nx' hnx es2 q1 q2
    have fr : ∀ j, (j < 50 + 4 * nx ∨ 50 + 4 * nx + 3 < j) → j ≠ 46 → es2 j = es j := fun j hj hne => (q1 j hne).trans (g2 j hj)
    refine hQ es2 ⟨nx', la, by omega, ?_, q2, h4, kPr_fr ⟨⟨f, r1, r2⟩, hr2, hr3⟩ (fun j hj => fr j (by omega) (by omega)), ⟨fun s hs => ?_, fun u hu => ?_⟩, kPm_fr h7 (fun j hj => fr j (by omega) (by omega))⟩ (fun j hj => fr j (by omega) (by omega))
    · unfold zun
      split <;> omega
    · by_cases e : s = nx
      · rw [e]
        exact ⟨_, _, _, _, _, _, _, kb_fr g1 (fun j hj => q1 j (by omega))⟩
      · exact kbA_fr (h6.1 s hs) (fun j hj => fr j (by omega) (by omega))
    · unfold zun at hu
      unfold zpush zun
      by_cases h16 : un = 16
      · rw [if_pos h16] at hu
        rw [if_pos h16, if_pos h16]
        by_cases e : u < 15
        · rw [if_pos e]
          have := h6.2 (u + 1) (by omega)
          rw [show (nx' + 16 - 16 + u) % 16 = (nx + 16 - un + (u + 1)) % 16 by omega]
          exact kb_fr this (fun j hj => fr j (by omega) (by omega))
        · rw [if_neg e, show (nx' + 16 - 16 + u) % 16 = nx by omega]
          exact kb_fr g1 (fun j hj => q1 j (by omega))
      · rw [if_neg h16] at hu
        rw [if_neg h16, if_neg h16]
        by_cases e : u < un
        · rw [if_pos e]
          have := h6.2 u e
          rw [show (nx' + 16 - (un + 1) + u) % 16 = (nx + 16 - un + u) % 16 by omega]
          exact kb_fr this (fun j hj => fr j (by omega) (by omega))
        · rw [if_neg e, show (nx' + 16 - (un + 1) + u) % 16 = nx by omega]
          exact kb_fr g1 (fun j hj => q1 j (by omega))
  have emin : kx_min 16 (nI un + 1) = nI (zun un) := by
    have : ∀ u : Fin 17, kx_min 16 (nI u.val + 1) = nI (zun u.val) := by decide +kernel
    exact this ⟨un, by omega⟩
  have n1 : nI nx + 1 = nI (nx + 1) := (nI_succ nx).symm
  by_cases hlt : nx + 1 < 16
  · have c1 : ¬ (16 : Int32) ≤ nI (nx + 1) := nI_ge (b := 16) hlt (by decide)
    simp only [ax_W_cons, ax_I, ax_cmp, ax_ii, ax_ll, ax_li, ax_st1, ax_st2, ax_kl, ax_k2, ax_fit, ax_rtok, List.getElem?_cons_zero, List.getElem?_cons_succ, List.length_cons, List.length_nil, List.set_cons_zero, List.set_cons_succ, Nat.reduceAdd, Nat.reduceDiv, Nat.reduceMod, Nat.reduceMul, Nat.reduceLT, Nat.reduceLeDiff, Int32.reduceOfInt, Int64.reduceOfInt, true_and, and_true, and_self, true_or, or_true, false_implies, true_implies, not_false_eq_true, not_true_eq_false, Value.category, Nat.reduceEqDiff, Option.toList, List.cons_append, List.nil_append, List.drop_succ_cons, List.drop_zero, ax_qq_eq, ax_t_514, ax_j_514_35, ax_n_514_35, w3, hal, n1, c1, ax_up_same]
    refine ax_inv_of (Nat.le_of_ble_eq_true rfl) (Nat.le_of_ble_eq_true rfl) (fun _ => absurd ‹_› (by decide)) (fun h => absurd h (by decide)) (Nat.le_refl _) (Nat.le_refl _) (ax_Mt_mono (ck_min _ _ _ _ 16 (nI un + 1)) ?_)
    rintro r es2 ⟨rfl, rfl⟩
    rw [emin]
    simp only [ax_W_cons, ax_I, ax_cmp, ax_ii, ax_ll, ax_li, ax_st1, ax_st2, ax_kl, ax_k2, ax_fit, ax_rtok, List.getElem?_cons_zero, List.getElem?_cons_succ, List.length_cons, List.length_nil, List.set_cons_zero, List.set_cons_succ, Nat.reduceAdd, Nat.reduceDiv, Nat.reduceMod, Nat.reduceMul, Nat.reduceLT, Nat.reduceLeDiff, Int32.reduceOfInt, Int64.reduceOfInt, true_and, and_true, and_self, true_or, or_true, false_implies, true_implies, not_false_eq_true, not_true_eq_false, Value.category, Nat.reduceEqDiff, Option.toList, List.cons_append, List.nil_append, List.drop_succ_cons, List.drop_zero, ax_qq_eq, ax_t_514, hal, ax_up_same, ax_up_up]
    exact key (nx + 1) (by omega) _ (fun j hj => ax_up_ne _ _ hj) (ax_up_same ..)
  · have c1 : (16 : Int32) ≤ nI (nx + 1) := nI_le (a := 16) (by omega) (by omega)
    have z0 : (0 : Int32) = nI 0 := rfl
    simp only [ax_W_cons, ax_I, ax_cmp, ax_ii, ax_ll, ax_li, ax_st1, ax_st2, ax_kl, ax_k2, ax_fit, ax_rtok, List.getElem?_cons_zero, List.getElem?_cons_succ, List.length_cons, List.length_nil, List.set_cons_zero, List.set_cons_succ, Nat.reduceAdd, Nat.reduceDiv, Nat.reduceMod, Nat.reduceMul, Nat.reduceLT, Nat.reduceLeDiff, Int32.reduceOfInt, Int64.reduceOfInt, true_and, and_true, and_self, true_or, or_true, false_implies, true_implies, not_false_eq_true, not_true_eq_false, Value.category, Nat.reduceEqDiff, Option.toList, List.cons_append, List.nil_append, List.drop_succ_cons, List.drop_zero, ax_qq_eq, ax_t_514, ax_j_514_34, ax_n_514_34, ax_j_514_35, ax_n_514_35, w3, hal, n1, c1, ax_up_same]
    refine ax_inv_of (Nat.le_of_ble_eq_true rfl) (Nat.le_of_ble_eq_true rfl) (fun _ => absurd ‹_› (by decide)) (fun h => absurd h (by decide)) (Nat.le_refl _) (Nat.le_refl _) (ax_Mt_mono (ck_min _ _ _ _ 16 (nI un + 1)) ?_)
    rintro r es2 ⟨rfl, rfl⟩
    rw [emin]
    simp only [ax_W_cons, ax_I, ax_cmp, ax_ii, ax_ll, ax_li, ax_st1, ax_st2, ax_kl, ax_k2, ax_fit, ax_rtok, List.getElem?_cons_zero, List.getElem?_cons_succ, List.length_cons, List.length_nil, List.set_cons_zero, List.set_cons_succ, Nat.reduceAdd, Nat.reduceDiv, Nat.reduceMod, Nat.reduceMul, Nat.reduceLT, Nat.reduceLeDiff, Int32.reduceOfInt, Int64.reduceOfInt, true_and, and_true, and_self, true_or, or_true, false_implies, true_implies, not_false_eq_true, not_true_eq_false, Value.category, Nat.reduceEqDiff, Option.toList, List.cons_append, List.nil_append, List.drop_succ_cons, List.drop_zero, ax_qq_eq, ax_t_514, hal, ax_up_same, ax_up_up]
    exact key 0 (by omega) _ (fun j hj => ax_up_ne _ _ hj) (ax_up_same ..)
theorem ck_stepBack_no (hal : ax_al n = 178) (hP : kP es n k p 0 U mk M) (hQ : Q (some (.int 0)) es) : ax_Mt (d + 2) 515 [.ref 46, .ref 38] n sl es Q := by
  obtain ⟨nx, la, h1, h2, h3, -⟩ := id hP
  unfold kPo at h3
  have z0 : nI 0 = 0 := rfl
  refine ax_Mt_go (m := ax_m_4_3) (ls := [some (.ref 46), some (.ref 38)]) rfl ax_b_515_0 (Nat.le_of_ble_eq_true rfl) rfl ?_
  simp only [ax_W_cons, ax_I, ax_cmp, ax_ii, ax_ll, ax_li, ax_st1, ax_st2, ax_kl, ax_k2, ax_fit, ax_rtok, List.getElem?_cons_zero, List.getElem?_cons_succ, List.length_cons, List.length_nil, List.set_cons_zero, List.set_cons_succ, Nat.reduceAdd, Nat.reduceDiv, Nat.reduceMod, Nat.reduceMul, Nat.reduceLT, Nat.reduceLeDiff, Int32.reduceOfInt, Int64.reduceOfInt, true_and, and_true, and_self, true_or, or_true, false_implies, true_implies, not_false_eq_true, not_true_eq_false, Value.category, Nat.reduceEqDiff, Option.toList, List.cons_append, List.nil_append, List.drop_succ_cons, List.drop_zero, ax_qq_eq, ax_t_515, h3, hal, z0]
  exact hQ
theorem ck_stepBack_ok (hal : ax_al n = 178) (hP : kP es n k p (un + 1) U mk M) (hb : kbA es n 38) (hQ : ∀ es', kP es' n k p un U mk M → kbB es' n 38 k p (U un) → (∀ j, (j < 38 ∨ (41 < j ∧ j ≠ 46)) → es' j = es j) → Q (some (.int 1)) es') : ax_Mt (d + 2) 515 [.ref 46, .ref 38] n sl es Q := by
  obtain ⟨nx, la, h1, h2, h3, h4, ⟨⟨f, r1, r2⟩, hr2, hr3⟩, h6, h7⟩ := id hP
  unfold kPo at h3
  have z0 : ¬ nI (un + 1) = 0 := nI_ne0 (by omega) (by omega)
  have z1 : nI (un + 1) - 1 = nI un := nI_pred un
  have t4 : (4 = 4 ∨ 4 = 5) := Or.inl rfl
  -- behind the new place
  have key : ∀ nx', nx' = (nx + 15) % 16 → ∀ es1, (∀ j, j ≠ 46 → es1 j = es j) → kPo es1 nx' un la → ∀ es2, kbB es2 n 38 k p (U un) → (∀ j, (j < 38 ∨ 38 + 3 < j) → es2 j = es1 j) → Q (some (.int 1)) es2 := by
    intro nx' hnx es1 q1 q2 es2 g1 g2
    have fr : ∀ j, 41 < j → j ≠ 46 → es2 j = es j := fun j hj hne => (g2 j (by omega)).trans (q1 j hne)
    refine hQ es2 ⟨nx', la, by omega, by omega, (g2 46 (by omega)).trans q2, h4, kPr_fr ⟨⟨f, r1, r2⟩, hr2, hr3⟩ (fun j hj => fr j (by omega) (by omega)), ⟨fun s hs => kbA_fr (h6.1 s hs) (fun j hj => fr j (by omega) (by omega)), fun u hu => ?_⟩, kPm_fr h7 (fun j hj => fr j (by omega) (by omega))⟩ g1 (fun j hj => (g2 j (by omega)).trans (q1 j (by omega)))
    have := h6.2 u (by omega)
    rw [show (nx' + 16 - un + u) % 16 = (nx + 16 - (un + 1) + u) % 16 by omega]
    exact kb_fr this (fun j hj => fr j (by omega) (by omega))
  have hU := h6.2 un (by omega)
  rw [show (nx + 16 - (un + 1) + un) % 16 = (nx + 15) % 16 by omega] at hU
  refine ax_Mt_go (m := ax_m_4_3) (ls := [some (.ref 46), some (.ref 38)]) rfl ax_b_515_0 (Nat.le_of_ble_eq_true rfl) rfl ?_
  by_cases hpos : 0 < nx
  · obtain ⟨y, rfl⟩ : ∃ y, nx = y + 1 := ⟨nx - 1, by omega⟩
    have c1 : ¬ nI (y + 1) ≤ 0 := nI_nle hpos (by omega)
    have n1 : nI (y + 1) - 1 = nI y := nI_pred y
    have e2 : vp_in (nI y) 16 := nI_in (by omega) (by decide)
    have e3 : (nI y).toNatClampNeg = y := nI_clamp (by omega)
    have e4 := r2 y (by omega)
    have g47 : ∀ e, ax_up es 46 e 47 = _ := fun e => (ax_up_ne es e (by decide)).trans r1
    rw [show (y + 1 + 15) % 16 = y by omega] at hU
    simp only [ax_W_cons, ax_I, ax_cmp, ax_ii, ax_ll, ax_li, ax_st1, ax_st2, ax_kl, ax_k2, ax_fit, ax_rtok, List.getElem?_cons_zero, List.getElem?_cons_succ, List.length_cons, List.length_nil, List.set_cons_zero, List.set_cons_succ, Nat.reduceAdd, Nat.reduceDiv, Nat.reduceMod, Nat.reduceMul, Nat.reduceLT, Nat.reduceLeDiff, Int32.reduceOfInt, Int64.reduceOfInt, true_and, and_true, and_self, true_or, or_true, false_implies, true_implies, not_false_eq_true, not_true_eq_false, Value.category, Nat.reduceEqDiff, Option.toList, List.cons_append, List.nil_append, List.drop_succ_cons, List.drop_zero, ax_qq_eq, ax_t_515, ax_j_515_9, ax_n_515_9, ax_j_515_28, ax_n_515_28, h3, hal, z0, z1, c1, n1, ax_up_same, ax_up_up, g47, e2, e3, e4, t4]
    have hA : kbA (ax_up es 46 (.inr (4, [.ref 47, .int (nI y), .int (nI un), .ref 48, .ref 49, .int (nI la)]))) n 38 := kbA_fr hb (fun j hj => ax_up_ne _ _ (by omega))
    refine ax_inv_of (Nat.le_of_ble_eq_true rfl) (Nat.le_of_ble_eq_true rfl) (fun _ => kbA_rcv hal hA _) (fun h => absurd h (by decide)) (Nat.le_refl _) (Nat.le_refl _) (ck_copyB hal hA (kb_fr hU (fun j hj => ax_up_ne _ _ (by omega))) (by omega) ?_)
    intro es2 g1 g2
    simp only [ax_W_cons, ax_I, ax_cmp, ax_ii, ax_ll, ax_li, ax_st1, ax_st2, ax_kl, ax_k2, ax_fit, ax_rtok, List.getElem?_cons_zero, List.getElem?_cons_succ, List.length_cons, List.length_nil, List.set_cons_zero, List.set_cons_succ, Nat.reduceAdd, Nat.reduceDiv, Nat.reduceMod, Nat.reduceMul, Nat.reduceLT, Nat.reduceLeDiff, Int32.reduceOfInt, Int64.reduceOfInt, true_and, and_true, and_self, true_or, or_true, false_implies, true_implies, not_false_eq_true, not_true_eq_false, Value.category, Nat.reduceEqDiff, Option.toList, List.cons_append, List.nil_append, List.drop_succ_cons, List.drop_zero, ax_qq_eq, ax_t_515]
    exact key y (by omega) _ (fun j hj => ax_up_ne _ _ hj) (ax_up_same ..) es2 g1 g2
  · have hn0 : nx = 0 := by omega
    subst hn0
    have c1 : nI 0 ≤ 0 := by decide
    have n1 : (15 : Int32) = nI 15 := rfl
    have e2 : vp_in 15 16 := nI_in (c := 15) (by decide) (by decide)
    have e3 : (15 : Int32).toNatClampNeg = 15 := by decide
    have e4 := r2 15 (by omega)
    have g47 : ∀ e, ax_up es 46 e 47 = _ := fun e => (ax_up_ne es e (by decide)).trans r1
    rw [show (0 + 15) % 16 = 15 by omega] at hU
    simp only [ax_W_cons, ax_I, ax_cmp, ax_ii, ax_ll, ax_li, ax_st1, ax_st2, ax_kl, ax_k2, ax_fit, ax_rtok, List.getElem?_cons_zero, List.getElem?_cons_succ, List.length_cons, List.length_nil, List.set_cons_zero, List.set_cons_succ, Nat.reduceAdd, Nat.reduceDiv, Nat.reduceMod, Nat.reduceMul, Nat.reduceLT, Nat.reduceLeDiff, Int32.reduceOfInt, Int64.reduceOfInt, true_and, and_true, and_self, true_or, or_true, false_implies, true_implies, not_false_eq_true, not_true_eq_false, Value.category, Nat.reduceEqDiff, Option.toList, List.cons_append, List.nil_append, List.drop_succ_cons, List.drop_zero, ax_qq_eq, ax_t_515, ax_j_515_9, ax_n_515_9, ax_j_515_26, ax_n_515_26, ax_j_515_28, ax_n_515_28, h3, hal, z0, z1, c1, ax_up_same, ax_up_up, g47, e2, e3, e4, t4]
    have hA : kbA (ax_up es 46 (.inr (4, [.ref 47, .int 15, .int (nI un), .ref 48, .ref 49, .int (nI la)]))) n 38 := kbA_fr hb (fun j hj => ax_up_ne _ _ (by omega))
    refine ax_inv_of (Nat.le_of_ble_eq_true rfl) (Nat.le_of_ble_eq_true rfl) (fun _ => kbA_rcv hal hA _) (fun h => absurd h (by decide)) (Nat.le_refl _) (Nat.le_refl _) (ck_copyB hal hA (kb_fr hU (fun j hj => ax_up_ne _ _ (by omega))) (by omega) ?_)
    intro es2 g1 g2
    simp only [ax_W_cons, ax_I, ax_cmp, ax_ii, ax_ll, ax_li, ax_st1, ax_st2, ax_kl, ax_k2, ax_fit, ax_rtok, List.getElem?_cons_zero, List.getElem?_cons_succ, List.length_cons, List.length_nil, List.set_cons_zero, List.set_cons_succ, Nat.reduceAdd, Nat.reduceDiv, Nat.reduceMod, Nat.reduceMul, Nat.reduceLT, Nat.reduceLeDiff, Int32.reduceOfInt, Int64.reduceOfInt, true_and, and_true, and_self, true_or, or_true, false_implies, true_implies, not_false_eq_true, not_true_eq_false, Value.category, Nat.reduceEqDiff, Option.toList, List.cons_append, List.nil_append, List.drop_succ_cons, List.drop_zero, ax_qq_eq, ax_t_515]
    exact key 15 (by omega) _ (fun j hj => ax_up_ne _ _ hj) (ax_up_same ..) es2 g1 g2
theorem ck_clear (hal : ax_al n = 178) (hP : kP es n k p un U mk M) {k' p' : Nat} (hQ : ∀ es', kP es' n k' p' 0 U (fun _ => false) M → (∀ j, j ≠ 46 → es' j = es j) → Q none es') : ax_Mt d 513 [.ref 46] n sl es Q := by
  obtain ⟨nx, la, h1, h2, h3, h4, h5, h6, h7⟩ := id hP
  unfold kPo at h3
  refine ax_Mt_go (m := ax_m_4_1) (ls := [some (.ref 46)]) rfl ax_b_513_0 (Nat.le_of_ble_eq_true rfl) rfl ?_
  simp only [ax_W_cons, ax_I, ax_cmp, ax_ii, ax_ll, ax_li, ax_st1, ax_st2, ax_kl, ax_k2, ax_fit, ax_rtok, List.getElem?_cons_zero, List.getElem?_cons_succ, List.length_cons, List.length_nil, List.set_cons_zero, List.set_cons_succ, Nat.reduceAdd, Nat.reduceDiv, Nat.reduceMod, Nat.reduceMul, Nat.reduceLT, Nat.reduceLeDiff, Int32.reduceOfInt, Int64.reduceOfInt, true_and, and_true, and_self, true_or, or_true, false_implies, true_implies, not_false_eq_true, not_true_eq_false, Value.category, Nat.reduceEqDiff, Option.toList, List.cons_append, List.nil_append, List.drop_succ_cons, List.drop_zero, ax_qq_eq, ax_t_513, h3, hal, ax_up_same, ax_up_up]
  have fr : ∀ e j, j ≠ 46 → ax_up es 46 e j = es j := fun e j hj => ax_up_ne _ _ hj
  refine hQ _ ⟨nx, 0, h1, by omega, ax_up_same .., fun m hm => Nat.zero_testBit m, kPr_fr h5 (fun j hj => fr _ j (by omega)), ⟨fun s hs => kbA_fr (h6.1 s hs) (fun j hj => fr _ j (by omega)), fun u hu => by omega⟩, fun m hm => ⟨kbA_fr (h7 m hm).1 (fun j hj => fr _ j (by omega)), kfA_fr (h7 m hm).2.1 (fun j hj => fr _ j (by omega)), fun z => Bool.noConfusion z⟩⟩ (fr _)
theorem ck_lay (hal : ax_al n = 178) (hP : kP es n k p un U mk M) (hb : kbB es n 38 k p B) (hf : kfF es n 42 Fe) {m : Nat} (hm : m ≤ 3) (hQ : ∀ es', kP es' n k p un U (fun j => if j = m then true else mk j) (fun j => if j = m then (B, Fe) else M j) → kfp es es' → Q none es') : ax_Mt (d + 2) 516 [.ref 46, .int (nI m), .ref 38, .ref 42] n sl es Q := by
  obtain ⟨nx, la, h1, h2, h3, h4, ⟨hr1, ⟨f, r1, r2⟩, ⟨g, r3, r4⟩⟩, h6, h7⟩ := id hP
  unfold kPo at h3
  have e2 : vp_in (nI m) 4 := nI_in (by omega) (by decide)
  have e3 : (nI m).toNatClampNeg = m := nI_clamp (by omega)
  have e4 := r2 m (by omega)
  have e5 := r4 m (by omega)
  have t4 : (4 = 4 ∨ 4 = 5) := Or.inl rfl
  have t5 : (5 = 4 ∨ 5 = 5) := Or.inr rfl
  obtain ⟨hA, ⟨f0, hA2⟩, -⟩ := h7 m (by omega)
  refine ax_Mt_go (m := ax_m_4_4) (ls := [some (.ref 46), some (.int (nI m)), some (.ref 38), some (.ref 42)]) rfl ax_b_516_0 (Nat.le_of_ble_eq_true rfl) rfl ?_
  simp only [ax_W_cons, ax_I, ax_cmp, ax_ii, ax_ll, ax_li, ax_st1, ax_st2, ax_kl, ax_k2, ax_fit, ax_rtok, List.getElem?_cons_zero, List.getElem?_cons_succ, List.length_cons, List.length_nil, List.set_cons_zero, List.set_cons_succ, Nat.reduceAdd, Nat.reduceDiv, Nat.reduceMod, Nat.reduceMul, Nat.reduceLT, Nat.reduceLeDiff, Int32.reduceOfInt, Int64.reduceOfInt, true_and, and_true, and_self, true_or, or_true, false_implies, true_implies, not_false_eq_true, not_true_eq_false, Value.category, Nat.reduceEqDiff, Option.toList, List.cons_append, List.nil_append, List.drop_succ_cons, List.drop_zero, ax_qq_eq, ax_t_516, h3, r1, hal, e2, e3, e4, t4]
  refine ax_inv_of (Nat.le_of_ble_eq_true rfl) (Nat.le_of_ble_eq_true rfl) (fun _ => kbA_rcv hal hA _) (fun h => absurd h (by decide)) (Nat.le_refl _) (Nat.le_refl _) (ck_copyB hal hA hb (by omega) ?_)
  intro es1 g1 g2
  have w3 : es1 46 = _ := (g2 46 (by omega)).trans h3
  have w49 : es1 49 = _ := (g2 49 (by omega)).trans r3
  have hF1 : kfF es1 n 42 Fe := kfF_fr hf (fun j hj => g2 j (by omega))
  have hF2 : kfF es1 n (118 + 8 * m) f0 := kfF_fr hA2 (fun j hj => g2 j (by omega))
  simp only [ax_W_cons, ax_I, ax_cmp, ax_ii, ax_ll, ax_li, ax_st1, ax_st2, ax_kl, ax_k2, ax_fit, ax_rtok, List.getElem?_cons_zero, List.getElem?_cons_succ, List.length_cons, List.length_nil, List.set_cons_zero, List.set_cons_succ, Nat.reduceAdd, Nat.reduceDiv, Nat.reduceMod, Nat.reduceMul, Nat.reduceLT, Nat.reduceLeDiff, Int32.reduceOfInt, Int64.reduceOfInt, true_and, and_true, and_self, true_or, or_true, false_implies, true_implies, not_false_eq_true, not_true_eq_false, Value.category, Nat.reduceEqDiff, Option.toList, List.cons_append, List.nil_append, List.drop_succ_cons, List.drop_zero, ax_qq_eq, ax_t_516, w3, w49, hal, e2, e3, e5, t5]
  refine ax_inv_of (Nat.le_of_ble_eq_true rfl) (Nat.le_of_ble_eq_true rfl) (fun _ => ax_rcv_ok (by have := hF2.1; omega) hF2.2.1) (fun h => absurd h (by decide)) (Nat.le_refl _) (Nat.le_refl _) (ck_fcopy hF2 hF1 (by omega) ?_)
  have v3 : kfw es1 (118 + 8 * m) Fe 46 = _ := (kfw_ne es1 _ _ (by omega)).trans w3
  have e6 : nI la ||| (1 <<< (nI m &&& 31)) = nI (la ||| 2 ^ m) := kc_crack (by omega)
  simp only [ax_W_cons, ax_I, ax_cmp, ax_ii, ax_ll, ax_li, ax_st1, ax_st2, ax_kl, ax_k2, ax_fit, ax_rtok, List.getElem?_cons_zero, List.getElem?_cons_succ, List.length_cons, List.length_nil, List.set_cons_zero, List.set_cons_succ, Nat.reduceAdd, Nat.reduceDiv, Nat.reduceMod, Nat.reduceMul, Nat.reduceLT, Nat.reduceLeDiff, Int32.reduceOfInt, Int64.reduceOfInt, true_and, and_true, and_self, true_or, or_true, false_implies, true_implies, not_false_eq_true, not_true_eq_false, Value.category, Nat.reduceEqDiff, Option.toList, List.cons_append, List.nil_append, List.drop_succ_cons, List.drop_zero, ax_qq_eq, ax_t_516, v3, hal, e6]
  have fr : ∀ e j, (j < 114 + 8 * m ∨ 114 + 8 * m + 7 < j) → j ≠ 46 → ax_up (kfw es1 (118 + 8 * m) Fe) 46 e j = es j := fun e j hj hne => (ax_up_ne _ _ hne).trans ((kfw_ne es1 _ _ (by omega)).trans (g2 j (by omega)))
  obtain ⟨y0, -, -, -, -, y1, y2, y3⟩ := hF1
  refine hQ _ ⟨nx, la ||| 2 ^ m, h1, h2, ax_up_same .., fun j hj => ?_, kPr_fr ⟨hr1, ⟨f, r1, r2⟩, ⟨g, r3, r4⟩⟩ (fun j hj => fr _ j (by omega) (by omega)), kPs_fr h6 (fun j hj => fr _ j (by omega) (by omega)), fun j hj => ?_⟩ (fun j hj => fr _ j (by omega) (by omega))
  · dsimp only
    rw [Nat.testBit_or, Nat.testBit_two_pow]
    by_cases e : j = m
    · subst e
      rw [if_pos rfl]
      simp
    · rw [if_neg e, h4 j hj]
      have e2 : ¬ m = j := fun z => e z.symm
      simp [e2]
  · dsimp only
    by_cases e : j = m
    · subst e
      rw [if_pos rfl, if_pos rfl]
      have hb2 : kbB (ax_up (kfw es1 (118 + 8 * j) Fe) 46 (.inr (4, [.ref 47, .int (nI nx), .int (nI un), .ref 48, .ref 49, .int (nI (la ||| 2 ^ j))]))) n (114 + 8 * j) k p B := kb_fr g1 (fun i hi => (ax_up_ne _ _ (by omega)).trans (kfw_ne es1 _ _ (by omega)))
      have hf2 : kfF (ax_up (kfw es1 (118 + 8 * j) Fe) 46 (.inr (4, [.ref 47, .int (nI nx), .int (nI un), .ref 48, .ref 49, .int (nI (la ||| 2 ^ j))]))) n (118 + 8 * j) Fe := kfF_fr (kfw_kf (by have := hF2.1; omega) y1 y2 y3) (fun i hi => ax_up_ne _ _ (by omega))
      exact ⟨⟨_, _, _, _, _, _, _, hb2⟩, ⟨_, hf2⟩, fun _ => ⟨hb2, hf2⟩⟩
    · rw [if_neg e, if_neg e]
      exact ⟨kbA_fr (h7 j hj).1 (fun i hi => fr _ i (by omega) (by omega)), kfA_fr (h7 j hj).2.1 (fun i hi => fr _ i (by omega) (by omega)), fun hmk => ⟨kb_fr ((h7 j hj).2.2 hmk).1 (fun i hi => fr _ i (by omega) (by omega)), kfF_fr ((h7 j hj).2.2 hmk).2 (fun i hi => fr _ i (by omega) (by omega))⟩⟩
theorem ck_goBack_no (hal : ax_al n = 178) (hP : kP es n k p un U mk M) {m : Nat} (hm : m ≤ 3) (hmk : mk m = false) (hQ : Q (some (.int 0)) es) : ax_Mt (d + 2) 517 [.ref 46, .int (nI m), .ref 38, .ref 42] n sl es Q := by
  obtain ⟨nx, la, h1, h2, h3, h4, -⟩ := id hP
  unfold kPo at h3
  have e1 : nI la &&& (1 <<< (nI m &&& 31)) = 0 := by
    have := kc_ck (C := la) (i := m) (by omega)
    rw [h4 m (by omega), hmk] at this
    unfold kx_ck at this
    simpa using this
  refine ax_Mt_go (m := ax_m_4_5) (ls := [some (.ref 46), some (.int (nI m)), some (.ref 38), some (.ref 42)]) rfl ax_b_517_0 (Nat.le_of_ble_eq_true rfl) rfl ?_
  simp only [ax_W_cons, ax_I, ax_cmp, ax_ii, ax_ll, ax_li, ax_st1, ax_st2, ax_kl, ax_k2, ax_fit, ax_rtok, List.getElem?_cons_zero, List.getElem?_cons_succ, List.length_cons, List.length_nil, List.set_cons_zero, List.set_cons_succ, Nat.reduceAdd, Nat.reduceDiv, Nat.reduceMod, Nat.reduceMul, Nat.reduceLT, Nat.reduceLeDiff, Int32.reduceOfInt, Int64.reduceOfInt, true_and, and_true, and_self, true_or, or_true, false_implies, true_implies, not_false_eq_true, not_true_eq_false, Value.category, Nat.reduceEqDiff, Option.toList, List.cons_append, List.nil_append, List.drop_succ_cons, List.drop_zero, ax_qq_eq, ax_t_517, h3, hal, e1]
  exact hQ
theorem ck_goBack_ok (hal : ax_al n = 178) (hP : kP es n k p un U mk M) (hb : kbA es n 38) (hf : kfA es n 42) {m : Nat} (hm : m ≤ 3) (hmk : mk m = true) (hQ : ∀ es', kP es' n k p 0 U mk M → kbB es' n 38 k p (M m).1 → kfF es' n 42 (M m).2 → (∀ j, (j < 38 ∨ (45 < j ∧ j ≠ 46)) → es' j = es j) → Q (some (.int 1)) es') : ax_Mt (d + 2) 517 [.ref 46, .int (nI m), .ref 38, .ref 42] n sl es Q := by
  obtain ⟨nx, la, h1, h2, h3, h4, ⟨hr1, ⟨f, r1, r2⟩, ⟨g, r3, r4⟩⟩, h6, h7⟩ := id hP
  unfold kPo at h3
  have e1 : ¬ nI la &&& (1 <<< (nI m &&& 31)) = 0 := by
    have := kc_ck (C := la) (i := m) (by omega)
    rw [h4 m (by omega), hmk] at this
    unfold kx_ck at this
    simpa using this
  have e2 : vp_in (nI m) 4 := nI_in (by omega) (by decide)
  have e3 : (nI m).toNatClampNeg = m := nI_clamp (by omega)
  have e4 := r2 m (by omega)
  have e5 := r4 m (by omega)
  have t4 : (4 = 4 ∨ 4 = 5) := Or.inl rfl
  have t5 : (5 = 4 ∨ 5 = 5) := Or.inr rfl
  obtain ⟨-, -, hM⟩ := h7 m (by omega)
  obtain ⟨hM1, hM2⟩ := hM hmk
  obtain ⟨f0, hf⟩ := hf
  refine ax_Mt_go (m := ax_m_4_5) (ls := [some (.ref 46), some (.int (nI m)), some (.ref 38), some (.ref 42)]) rfl ax_b_517_0 (Nat.le_of_ble_eq_true rfl) rfl ?_
  simp only [ax_W_cons, ax_I, ax_cmp, ax_ii, ax_ll, ax_li, ax_st1, ax_st2, ax_kl, ax_k2, ax_fit, ax_rtok, List.getElem?_cons_zero, List.getElem?_cons_succ, List.length_cons, List.length_nil, List.set_cons_zero, List.set_cons_succ, Nat.reduceAdd, Nat.reduceDiv, Nat.reduceMod, Nat.reduceMul, Nat.reduceLT, Nat.reduceLeDiff, Int32.reduceOfInt, Int64.reduceOfInt, true_and, and_true, and_self, true_or, or_true, false_implies, true_implies, not_false_eq_true, not_true_eq_false, Value.category, Nat.reduceEqDiff, Option.toList, List.cons_append, List.nil_append, List.drop_succ_cons, List.drop_zero, ax_qq_eq, ax_t_517, ax_j_517_13, ax_n_517_13, h3, r1, hal, e1, e2, e3, e4, t4]
  refine ax_inv_of (Nat.le_of_ble_eq_true rfl) (Nat.le_of_ble_eq_true rfl) (fun _ => kbA_rcv hal hb _) (fun h => absurd h (by decide)) (Nat.le_refl _) (Nat.le_refl _) (ck_copyB hal hb hM1 (by omega) ?_)
  intro es1 g1 g2
  have w3 : es1 46 = _ := (g2 46 (by omega)).trans h3
  have w49 : es1 49 = _ := (g2 49 (by omega)).trans r3
  have hF1 : kfF es1 n 42 f0 := kfF_fr hf (fun j hj => g2 j (by omega))
  have hF2 : kfF es1 n (118 + 8 * m) (M m).2 := kfF_fr hM2 (fun j hj => g2 j (by omega))
  simp only [ax_W_cons, ax_I, ax_cmp, ax_ii, ax_ll, ax_li, ax_st1, ax_st2, ax_kl, ax_k2, ax_fit, ax_rtok, List.getElem?_cons_zero, List.getElem?_cons_succ, List.length_cons, List.length_nil, List.set_cons_zero, List.set_cons_succ, Nat.reduceAdd, Nat.reduceDiv, Nat.reduceMod, Nat.reduceMul, Nat.reduceLT, Nat.reduceLeDiff, Int32.reduceOfInt, Int64.reduceOfInt, true_and, and_true, and_self, true_or, or_true, false_implies, true_implies, not_false_eq_true, not_true_eq_false, Value.category, Nat.reduceEqDiff, Option.toList, List.cons_append, List.nil_append, List.drop_succ_cons, List.drop_zero, ax_qq_eq, ax_t_517, w3, w49, hal, e2, e3, e5, t5]
  refine ax_inv_of (Nat.le_of_ble_eq_true rfl) (Nat.le_of_ble_eq_true rfl) (fun _ => ax_rcv_ok (by omega) hF1.2.1) (fun h => absurd h (by decide)) (Nat.le_refl _) (Nat.le_refl _) (ck_fcopy hF1 hF2 (by omega) ?_)
  have v3 : kfw es1 42 (M m).2 46 = _ := (kfw_ne es1 _ _ (by omega)).trans w3
  simp only [ax_W_cons, ax_I, ax_cmp, ax_ii, ax_ll, ax_li, ax_st1, ax_st2, ax_kl, ax_k2, ax_fit, ax_rtok, List.getElem?_cons_zero, List.getElem?_cons_succ, List.length_cons, List.length_nil, List.set_cons_zero, List.set_cons_succ, Nat.reduceAdd, Nat.reduceDiv, Nat.reduceMod, Nat.reduceMul, Nat.reduceLT, Nat.reduceLeDiff, Int32.reduceOfInt, Int64.reduceOfInt, true_and, and_true, and_self, true_or, or_true, false_implies, true_implies, not_false_eq_true, not_true_eq_false, Value.category, Nat.reduceEqDiff, Option.toList, List.cons_append, List.nil_append, List.drop_succ_cons, List.drop_zero, ax_qq_eq, ax_t_517, v3, hal]
  have fr : ∀ e j, (j < 38 ∨ 45 < j) → j ≠ 46 → ax_up (kfw es1 42 (M m).2) 46 e j = es j := fun e j hj hne => (ax_up_ne _ _ hne).trans ((kfw_ne es1 _ _ (by omega)).trans (g2 j (by omega)))
  obtain ⟨y0, -, -, -, -, y1, y2, y3⟩ := hF2
  refine hQ _ ⟨nx, la, h1, by omega, ax_up_same .., h4, kPr_fr ⟨hr1, ⟨f, r1, r2⟩, ⟨g, r3, r4⟩⟩ (fun j hj => fr _ j (by omega) (by omega)), ⟨fun s hs => kbA_fr (h6.1 s hs) (fun j hj => fr _ j (by omega) (by omega)), fun u hu => by omega⟩, kPm_fr h7 (fun j hj => fr _ j (by omega) (by omega))⟩ (kb_fr g1 (fun i hi => (ax_up_ne _ _ (by omega)).trans (kfw_ne es1 _ _ (by omega)))) (kfF_fr (kfw_kf (by omega) y1 y2 y3) (fun i hi => ax_up_ne _ _ (by omega))) (fun j hj => fr _ j (by omega) (by omega))
end KX
