/-! the lines of a reign: how they are read; the class's own -/
abbrev zRl : Type := List (Nat × Nat × Nat)
abbrev zT2 : Type := (Nat × Nat) ⊕ (Nat × zRl)
def zNumR (t : zTp) (a lo hi : Nat) (g : zT2) : zT2 := if zkd t a = 25 then (if zNo t a lo hi then g else .inl (4, a)) else .inl (1, a)
def zSgnR (t : zTp) (a k : Nat) (g : zT2) : zT2 := if zkd t a = k then g else .inl (1, a)
/-- a told name: who it is -/
def zTol (t : zTp) (cs : List zCr) (a : Nat) (g : Nat → zT2) : zT2 := if zName t a then (match zFnd cs (zwd t a) 0 with
  | none => .inl (2, a)
  | some i => g i) else .inl (1, a)
def zR7 (t : zTp) (ls : zRl) (a : Nat) : zT2 := zNumR t (a + 1) 0 11 (zNumR t (a + 2) 1 20 (zSgnR t (a + 3) 59 (.inr (a + 4, ls ++ [(7, znb t (a + 1), znb t (a + 2))]))))
def zR8 (t : zTp) (act : Nat) (ls : zRl) (a : Nat) : zT2 := zNumR t (a + 1) 0 11 (zSgnR t (a + 2) 59 (.inr (a + 3, ls ++ [(act, znb t (a + 1), 0)])))
def zR11 (t : zTp) (cs : List zCr) (ls : zRl) (a : Nat) : zT2 := zTol t cs (a + 1) (fun i => if zName t (a + 2) ∧ zFnd cs (zwd t (a + 2)) 0 = some i then .inl (3, a + 2) else zTol t cs (a + 2) (fun j => zSgnR t (a + 3) 59 (.inr (a + 4, ls ++ [(11, i, j)]))))
def zR10 (t : zTp) (act : Nat) (ls : zRl) (a : Nat) : zT2 := zSgnR t (a + 1) 59 (.inr (a + 2, ls ++ [(act, 0, 0)]))
def zRline (t : zTp) (cs : List zCr) (ls : zRl) (a : Nat) : zT2 := if 7 ≤ zkd t a ∧ zkd t a ≤ 12 then (if 40 ≤ ls.length then .inl (5, a) else if zkd t a = 7 then zR7 t ls a else if zkd t a = 8 ∨ zkd t a = 9 then zR8 t (zkd t a) ls a else if zkd t a = 11 then zR11 t cs ls a else zR10 t (zkd t a) ls a) else .inl (1, a)
def zRlines (t : zTp) (cs : List zCr) : Nat → Nat → zRl → (Nat × Nat) ⊕ zRl
  | 0, _, ls => .inr ls
  | f + 1, a, ls => if zkd t a = 26 then .inr ls else match zRline t cs ls a with
    | .inl x => .inl x
    | .inr r => zRlines t cs f r.1 r.2
def zReign (t : zTp) (cs : List zCr) : (Nat × Nat) ⊕ zRl := zRlines t cs 1001 0 []
theorem zNum_R {t : zTp} {a lo hi k : Nat} (h : ∀ g, zNum t a lo hi g = .inl (k, a)) (g : zT2) : zNumR t a lo hi g = .inl (k, a) := by
  unfold zNumR
  by_cases h1 : zkd t a = 25
  · rw [if_pos h1]
    by_cases h2 : zNo t a lo hi
    · have := h (.inl (k + 1, a))
      rw [zNum, if_pos h1, if_pos h2] at this
      injection this with this
      injection this with this
      omega
    · rw [if_neg h2]
      have := h (.inl (0, 0))
      rw [zNum, if_pos h1, if_neg h2] at this
      injection this with this
      rw [this]
  · rw [if_neg h1]
    have := h (.inl (0, 0))
    rw [zNum, if_neg h1] at this
    injection this with this
    rw [this]
def xRh (es : ax_H) (L : Int32) (la lb lc : Nat → Int32) : Prop := es 34 = .inr (7, [.int L, .ref 35, .ref 36, .ref 37]) ∧ es 35 = .inl (0, 40, .inl la) ∧ es 36 = .inl (0, 40, .inl lb) ∧ es 37 = .inl (0, 40, .inl lc)
def xRs (es : ax_H) : Prop := ∃ L la lb lc, xRh es L la lb lc
def zrc (ls : zRl) (la lb lc : Nat → Int32) : Prop := ∀ i, i < ls.length → la i = nI (ls.getD i (0, 0, 0)).1 ∧ lb i = nI (ls.getD i (0, 0, 0)).2.1 ∧ lc i = nI (ls.getD i (0, 0, 0)).2.2
def xRr (es : ax_H) (ls : zRl) : Prop := ls.length ≤ 40 ∧ ∃ la lb lc, xRh es (nI ls.length) la lb lc ∧ zrc ls la lb lc
def xTd (es : ax_H) (cs : List zCr) : Prop := (∃ k r2 r3 r4 fs, es 3 = .inr (1, .int k :: .int (nI cs.length) :: r2 :: r3 :: r4 :: .ref 7 :: fs)) ∧ xNm es cs
theorem zrc_push {ls : zRl} {la lb lc : Nat → Int32} (h : zrc ls la lb lc) (x y z : Nat) : zrc (ls ++ [(x, y, z)]) (upd la ls.length (nI x)) (upd lb ls.length (nI y)) (upd lc ls.length (nI z)) := by
  intro i hi
  rw [List.length_append, List.length_singleton] at hi
  by_cases e : i = ls.length
  · subst e
    rw [zgetD_r, upd_same, upd_same, upd_same]
    exact ⟨rfl, rfl, rfl⟩
  · rw [zgetD_l _ _ _ (by omega), upd_ne _ _ e, upd_ne _ _ e, upd_ne _ _ e]
    exact h i (by omega)
section TT
variable {d n sl : Nat} {es : ax_H} {t : zTp} {a : Nat} {tk : Int32} {cs : List zCr} {Q : Option Value → ax_H → Prop}
theorem ck_rAdd (hal : ax_al n = 178) {ls : zRl} (h : xRr es ls) (hl : ls.length < 40) (x y z : Nat) (hQ : ∀ es', xRr es' (ls ++ [(x, y, z)]) → (∀ j, (j < 34 ∨ 37 < j) → es' j = es j) → Q none es') : ax_Mt d 898 [.ref 34, .int (nI x), .int (nI y), .int (nI z)] n sl es Q := by
  obtain ⟨-, la, lb, lc, ⟨h1, h2, h3, h4⟩, hr⟩ := h
  have e0 : ¬ (40 : Int32) ≤ nI ls.length := nI_ge (b := 40) hl (by decide)
  have i1 : vp_in (nI ls.length) 40 := nI_in hl (by decide)
  have i2 : (nI ls.length).toNatClampNeg = ls.length := nI_clamp (by omega)
  have i4 : nI ls.length + 1 = nI (ls ++ [(x, y, z)]).length := by
    rw [List.length_append, List.length_singleton, ← nI_succ]
  have a1 : ∀ es e, ax_up es 35 e 34 = es 34 := fun es e => ax_up_ne es e (by decide)
  have a2 : ∀ es e, ax_up es 36 e 34 = es 34 := fun es e => ax_up_ne es e (by decide)
  have a3 : ∀ es e, ax_up es 37 e 34 = es 34 := fun es e => ax_up_ne es e (by decide)
  have a4 : ∀ es e, ax_up es 35 e 36 = es 36 := fun es e => ax_up_ne es e (by decide)
  have a5 : ∀ es e, ax_up es 35 e 37 = es 37 := fun es e => ax_up_ne es e (by decide)
  have a6 : ∀ es e, ax_up es 36 e 37 = es 37 := fun es e => ax_up_ne es e (by decide)
  refine ax_Mt_go (m := ax_m_7_2) (ls := [some (.ref 34), some (.int (nI x)), some (.int (nI y)), some (.int (nI z))]) rfl ax_b_898_0 (Nat.le_of_ble_eq_true rfl) rfl ?_
  simp only [ax_W_cons, ax_I, ax_cmp, ax_ii, ax_ll, ax_li, ax_st1, ax_st2, ax_kl, ax_k2, ax_fit, ax_rtok, List.getElem?_cons_zero, List.getElem?_cons_succ, List.length_cons, List.length_nil, List.set_cons_zero, List.set_cons_succ, Nat.reduceAdd, Nat.reduceDiv, Nat.reduceMod, Nat.reduceMul, Nat.reduceLT, Nat.reduceLeDiff, Int32.reduceOfInt, Int64.reduceOfInt, true_and, and_true, and_self, true_or, or_true, false_implies, true_implies, not_false_eq_true, not_true_eq_false, Value.category, Nat.reduceEqDiff, Option.toList, List.cons_append, List.nil_append, List.drop_succ_cons, List.drop_zero, ax_qq_eq, ax_t_898, ax_j_898_49, ax_n_898_49, h1, h2, h3, h4, hal, e0, i1, i2, i4, a1, a2, a3, a4, a5, a6]
  refine hQ _ ⟨?_, _, _, _, ⟨ax_up_same .., ?_, ?_, ?_⟩, zrc_push hr x y z⟩ (fun j hj => ?_)
  · rw [List.length_append, List.length_singleton]
    omega
  · rw [ax_up_ne _ _ (by decide), ax_up_ne _ _ (by decide), ax_up_ne _ _ (by decide)]
    exact ax_up_same ..
  · rw [ax_up_ne _ _ (by decide), ax_up_ne _ _ (by decide)]
    exact ax_up_same ..
  · rw [ax_up_ne _ _ (by decide)]
    exact ax_up_same ..
  · rw [ax_up_ne _ _ (by omega), ax_up_ne _ _ (by omega), ax_up_ne _ _ (by omega), ax_up_ne _ _ (by omega)]
theorem ck_takeTold (hal : ax_al n = 178) (hT : zT_ok t) (X : xTk es t a tk 0) (hR : xRd es) (hC : xTd es cs) (h1 : ∀ es' i, zName t a → zFnd cs (zwd t a) 0 = some i → xTk es' t (a + 1) (nI i) 0 → (∀ j, j ≠ 1 → es' j = es j) → Q (some (.int 1)) es') (h0 : ∀ es' k, (∀ g, zTol t cs a g = .inl (k, a)) → xTf es' t (nI (k + 16 * zpl t a)) → (∀ j, j ≠ 1 → es' j = es j) → Q (some (.int 0)) es') : ax_Mt (d + 12) 786 [.ref 20] n sl es Q := by
  obtain ⟨⟨nb, nmv, w1, v1, v2⟩, hS⟩ := id X
  obtain ⟨rv, rb, w20⟩ := id hR
  obtain ⟨⟨k, r2, r3, r4, fs, c3⟩, hl, nm, c7, hn⟩ := hC
  have w1 : es 1 = _ := w1
  have c10 : ¬ (1 : Int32) = 0 := by decide
  have n0 : ((0 : Int32) = 0 ∨ (0 : Int32) = 1) := Or.inl rfl
  have n1 : ((1 : Int32) = 0 ∨ (1 : Int32) = 1) := Or.inr rfl
  refine ax_Mt_go (m := ax_m_6_18) (ls := [some (.ref 20), none]) rfl ax_b_786_0 (Nat.le_of_ble_eq_true rfl) rfl ?_
  simp only [ax_W_cons, ax_I, ax_cmp, ax_ii, ax_ll, ax_li, ax_st1, ax_st2, ax_kl, ax_k2, ax_fit, ax_rtok, List.getElem?_cons_zero, List.getElem?_cons_succ, List.length_cons, List.length_nil, List.set_cons_zero, List.set_cons_succ, Nat.reduceAdd, Nat.reduceDiv, Nat.reduceMod, Nat.reduceMul, Nat.reduceLT, Nat.reduceLeDiff, Int32.reduceOfInt, Int64.reduceOfInt, true_and, and_true, and_self, true_or, or_true, false_implies, true_implies, not_false_eq_true, not_true_eq_false, Value.category, Nat.reduceEqDiff, Option.toList, List.cons_append, List.nil_append, List.drop_succ_cons, List.drop_zero, ax_qq_eq, ax_t_786, w20, hal]
  refine ax_inv_of (Nat.le_of_ble_eq_true rfl) (Nat.le_of_ble_eq_true rfl) (fun _ => xTk_rcv hal X _) (fun h => absurd h (by decide)) (Nat.le_refl _) (Nat.le_refl _) (ck_isName hal X ?_)
  by_cases hN : zName t a
  · rw [decide_eq_true hN]
    have hle := zName_26 hN
    have hv := v2 hle
    have hw := (zwd_ok hle).2.2.2.1
    simp only [ax_W_cons, ax_I, ax_cmp, ax_ii, ax_ll, ax_li, ax_st1, ax_st2, ax_kl, ax_k2, ax_fit, ax_rtok, List.getElem?_cons_zero, List.getElem?_cons_succ, List.length_cons, List.length_nil, List.set_cons_zero, List.set_cons_succ, Nat.reduceAdd, Nat.reduceDiv, Nat.reduceMod, Nat.reduceMul, Nat.reduceLT, Nat.reduceLeDiff, Int32.reduceOfInt, Int64.reduceOfInt, true_and, and_true, and_self, true_or, or_true, false_implies, true_implies, not_false_eq_true, not_true_eq_false, Value.category, Nat.reduceEqDiff, Option.toList, List.cons_append, List.nil_append, List.drop_succ_cons, List.drop_zero, ax_qq_eq, ax_t_786, ax_j_786_19, ax_n_786_19, kx_bt, c10, w20, w1, hal, hv]
    refine ax_inv_of (Nat.le_of_ble_eq_true rfl) (Nat.le_of_ble_eq_true rfl) (fun _ => ax_rcv_ok (by omega) c3) (fun h => absurd h (by decide)) (Nat.le_refl _) (Nat.le_refl _) (ck_find hal (by decide) (by decide) c3 c7 hl hw hn ?_)
    have e3 := zFi_none (cs := cs) (w := zwd t a) hl
    cases hF : zFnd cs (zwd t a) 0 with
    | none =>
      have e4 : zFi none = -1 := rfl
      simp only [ax_W_cons, ax_I, ax_cmp, ax_ii, ax_ll, ax_li, ax_st1, ax_st2, ax_kl, ax_k2, ax_fit, ax_rtok, List.getElem?_cons_zero, List.getElem?_cons_succ, List.length_cons, List.length_nil, List.set_cons_zero, List.set_cons_succ, Nat.reduceAdd, Nat.reduceDiv, Nat.reduceMod, Nat.reduceMul, Nat.reduceLT, Nat.reduceLeDiff, Int32.reduceOfInt, Int64.reduceOfInt, true_and, and_true, and_self, true_or, or_true, false_implies, true_implies, not_false_eq_true, not_true_eq_false, Value.category, Nat.reduceEqDiff, Option.toList, List.cons_append, List.nil_append, List.drop_succ_cons, List.drop_zero, ax_qq_eq, ax_t_786, ax_j_786_48, ax_n_786_48, e4, w20, hal]
      refine ax_inv_of (Nat.le_of_ble_eq_true rfl) (Nat.le_of_ble_eq_true rfl) (fun _ => xTk_rcv hal X _) (fun h => absurd h (by decide)) (Nat.le_refl _) (Nat.le_refl _) (ck_fail (k := 2) hal X ?_)
      intro es1 T1 f1
      simp only [ax_W_cons, ax_I, ax_cmp, ax_ii, ax_ll, ax_li, ax_st1, ax_st2, ax_kl, ax_k2, ax_fit, ax_rtok, List.getElem?_cons_zero, List.getElem?_cons_succ, List.length_cons, List.length_nil, List.set_cons_zero, List.set_cons_succ, Nat.reduceAdd, Nat.reduceDiv, Nat.reduceMod, Nat.reduceMul, Nat.reduceLT, Nat.reduceLeDiff, Int32.reduceOfInt, Int64.reduceOfInt, true_and, and_true, and_self, true_or, or_true, false_implies, true_implies, not_false_eq_true, not_true_eq_false, Value.category, Nat.reduceEqDiff, Option.toList, List.cons_append, List.nil_append, List.drop_succ_cons, List.drop_zero, ax_qq_eq, ax_t_786, n0]
      exact h0 es1 2 (fun g => by rw [zTol, if_pos hN, hF]) T1 f1
    | some i =>
      rw [hF] at e3
      have e4 : ¬ zFi (some i) = -1 := by rw [e3]; exact fun z => by cases z
      have e5 : zFi (some i) = nI i := rfl
      rw [e5] at e4 ⊢
      have g20 : ∀ e, ax_up es 1 e 20 = _ := fun e => (ax_up_ne es e (by decide)).trans w20
      simp only [ax_W_cons, ax_I, ax_cmp, ax_ii, ax_ll, ax_li, ax_st1, ax_st2, ax_kl, ax_k2, ax_fit, ax_rtok, List.getElem?_cons_zero, List.getElem?_cons_succ, List.length_cons, List.length_nil, List.set_cons_zero, List.set_cons_succ, Nat.reduceAdd, Nat.reduceDiv, Nat.reduceMod, Nat.reduceMul, Nat.reduceLT, Nat.reduceLeDiff, Int32.reduceOfInt, Int64.reduceOfInt, true_and, and_true, and_self, true_or, or_true, false_implies, true_implies, not_false_eq_true, not_true_eq_false, Value.category, Nat.reduceEqDiff, Option.toList, List.cons_append, List.nil_append, List.drop_succ_cons, List.drop_zero, ax_qq_eq, ax_t_786, ax_j_786_48, ax_n_786_48, e4, w20, w1, hal, g20]
      have T2 : xTk (ax_up es 1 (.inr (9, [.ref 2, .int (nI t.1), .int (nI (zkd t a)), .int nb, .long nmv, .int (nI i), .int 0, .int (nI (zpl t a)), .int (nI (zpos t (a + 1)))]))) t a (nI i) 0 := ⟨⟨nb, nmv, ax_up_same .., v1, v2⟩, xSg_fr hS (ax_up_ne _ _ (by decide))⟩
      refine ax_inv_of (Nat.le_of_ble_eq_true rfl) (Nat.le_of_ble_eq_true rfl) (fun _ => xTk_rcv hal T2 _) (fun h => absurd h (by decide)) (Nat.le_refl _) (Nat.le_refl _) (ck_adv hal hT T2 ?_)
      intro es1 T1 f1
      simp only [ax_W_cons, ax_I, ax_cmp, ax_ii, ax_ll, ax_li, ax_st1, ax_st2, ax_kl, ax_k2, ax_fit, ax_rtok, List.getElem?_cons_zero, List.getElem?_cons_succ, List.length_cons, List.length_nil, List.set_cons_zero, List.set_cons_succ, Nat.reduceAdd, Nat.reduceDiv, Nat.reduceMod, Nat.reduceMul, Nat.reduceLT, Nat.reduceLeDiff, Int32.reduceOfInt, Int64.reduceOfInt, true_and, and_true, and_self, true_or, or_true, false_implies, true_implies, not_false_eq_true, not_true_eq_false, Value.category, Nat.reduceEqDiff, Option.toList, List.cons_append, List.nil_append, List.drop_succ_cons, List.drop_zero, ax_qq_eq, ax_t_786, n1]
      exact h1 es1 i hN hF T1 (fun j hj => (f1 j hj).trans (ax_up_ne _ _ hj))
  · rw [decide_eq_false hN]
    simp only [ax_W_cons, ax_I, ax_cmp, ax_ii, ax_ll, ax_li, ax_st1, ax_st2, ax_kl, ax_k2, ax_fit, ax_rtok, List.getElem?_cons_zero, List.getElem?_cons_succ, List.length_cons, List.length_nil, List.set_cons_zero, List.set_cons_succ, Nat.reduceAdd, Nat.reduceDiv, Nat.reduceMod, Nat.reduceMul, Nat.reduceLT, Nat.reduceLeDiff, Int32.reduceOfInt, Int64.reduceOfInt, true_and, and_true, and_self, true_or, or_true, false_implies, true_implies, not_false_eq_true, not_true_eq_false, Value.category, Nat.reduceEqDiff, Option.toList, List.cons_append, List.nil_append, List.drop_succ_cons, List.drop_zero, ax_qq_eq, ax_t_786, ax_j_786_19, ax_n_786_19, kx_bf, w20, hal]
    refine ax_inv_of (Nat.le_of_ble_eq_true rfl) (Nat.le_of_ble_eq_true rfl) (fun _ => xTk_rcv hal X _) (fun h => absurd h (by decide)) (Nat.le_refl _) (Nat.le_refl _) (ck_fail (k := 1) hal X ?_)
    intro es1 T1 f1
    simp only [ax_W_cons, ax_I, ax_cmp, ax_ii, ax_ll, ax_li, ax_st1, ax_st2, ax_kl, ax_k2, ax_fit, ax_rtok, List.getElem?_cons_zero, List.getElem?_cons_succ, List.length_cons, List.length_nil, List.set_cons_zero, List.set_cons_succ, Nat.reduceAdd, Nat.reduceDiv, Nat.reduceMod, Nat.reduceMul, Nat.reduceLT, Nat.reduceLeDiff, Int32.reduceOfInt, Int64.reduceOfInt, true_and, and_true, and_self, true_or, or_true, false_implies, true_implies, not_false_eq_true, not_true_eq_false, Value.category, Nat.reduceEqDiff, Option.toList, List.cons_append, List.nil_append, List.drop_succ_cons, List.drop_zero, ax_qq_eq, ax_t_786, n0]
    exact h0 es1 1 (fun g => by rw [zTol, if_neg hN]) T1 f1
end TT
