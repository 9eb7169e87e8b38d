/-! the class: what is told becomes what was read -/
theorem kx_c1000 : ¬ (1000 : Int32) < 0 := by decide
theorem kx_n1000 : (1000 : Int32).toNatClampNeg = 1000 := by decide
theorem zcpy_in {α : Type} (f g : Nat → α) (N : Nat) {j : Nat} (h : j < N) : va_cpy f g 0 0 N j = f j := by
  unfold va_cpy
  rw [if_pos ⟨Nat.zero_le _, by omega⟩]
  congr 1
  omega
theorem zcpy_out {α : Type} (f g : Nat → α) (N : Nat) {j : Nat} (h : N ≤ j) : va_cpy f g 0 0 N j = g j := by
  unfold va_cpy
  rw [if_neg (by omega)]
/-- what is told, with its names -/
def xCm (es : ax_H) (k p hc on : Int32) (kd pl ht : Nat → Int32) (nm : Nat → Int64) (hs code : Nat → Int32) (f5 e5 f6 e6 : Int32) : Prop := es 3 = .inr (1, [.int k, .int p, .ref 4, .ref 5, .ref 6, .ref 7, .ref 8, .int hc, .ref 9, .ref 10, .ref 13, .int on]) ∧ es 4 = .inl (0, 6, .inl kd) ∧ es 5 = .inl (0, 6, .inl pl) ∧ es 6 = .inl (0, 6, .inl ht) ∧ es 7 = .inl (3, 6, .inr (.inl nm)) ∧ es 8 = .inl (0, 12, .inl hs) ∧ es 9 = .inl (0, 1000, .inl code) ∧ es 10 = .inr (3, [.ref 9, .ref 11, .ref 12, .int f5, .int e5]) ∧ es 13 = .inr (3, [.ref 9, .ref 14, .ref 15, .int f6, .int e6])
section TT
variable {d n sl : Nat} {es : ax_H} {Q : Option Value → ax_H → Prop}
theorem ck_copyRange (hal : ax_al n = 178) {q r : Nat} (hq : q < 178) (hr : r < 178) (hqr : r ≠ q) {v0 v1 v2 v3 v4 u0 u1 u2 : Value} {x y : Int32} (h1 : es q = .inr (3, [v0, v1, v2, v3, v4])) (h2 : es r = .inr (3, [u0, u1, u2, .int x, .int y])) (hQ : Q none (ax_up es q (.inr (3, [v0, v1, v2, .int x, .int y])))) : ax_Mt d 385 [.ref q, .ref r] n sl es Q := by
  have g : ∀ e, ax_up es q e r = _ := fun e => (ax_up_ne es e hqr).trans h2
  refine ax_Mt_go (m := ax_m_3_1) (ls := [some (.ref q), some (.ref r)]) rfl ax_b_385_0 (Nat.le_of_ble_eq_true rfl) rfl ?_
  simp only [ax_W_cons, ax_I, ax_cmp, ax_ii, ax_ll, ax_li, ax_st1, ax_st2, ax_kl, ax_k2, ax_fit, ax_rtok, List.getElem?_cons_zero, List.getElem?_cons_succ, List.length_cons, List.length_nil, List.set_cons_zero, List.set_cons_succ, Nat.reduceAdd, Nat.reduceDiv, Nat.reduceMod, Nat.reduceMul, Nat.reduceLT, Nat.reduceLeDiff, Int32.reduceOfInt, Int64.reduceOfInt, true_and, and_true, and_self, true_or, or_true, false_implies, true_implies, not_false_eq_true, not_true_eq_false, Value.category, Nat.reduceEqDiff, Option.toList, List.cons_append, List.nil_append, List.drop_succ_cons, List.drop_zero, ax_qq_eq, ax_t_385, h1, h2, g, hal, hq, hr, ax_up_same, ax_up_up]
  exact hQ
theorem ck_courtCopy (hal : ax_al n = 178) {k p hc on : Int32} {kd pl ht : Nat → Int32} {nm : Nat → Int64} {hs code : Nat → Int32} {f5 e5 f6 e6 : Int32} {k' p' hc' on' : Int32} {kd' pl' ht' : Nat → Int32} {nm' : Nat → Int64} {hs' code' : Nat → Int32} {f5' e5' f6' e6' : Int32} (C : xCm es k' p' hc' on' kd' pl' ht' nm' hs' code' f5' e5' f6' e6') (D : xDh es k p hc on kd pl ht nm hs code f5 e5 f6 e6) (hQ : ∀ es', xCm es' k p hc on (va_cpy kd kd' 0 0 6) (va_cpy pl pl' 0 0 6) (va_cpy ht ht' 0 0 6) (va_cpy nm nm' 0 0 6) (va_cpy hs hs' 0 0 12) (va_cpy code code' 0 0 1000) f5 e5 f6 e6 → (∀ j, j < 3 ∨ 13 < j → es' j = es j) → es' 11 = es 11 → es' 12 = es 12 → Q none es') : ax_Mt (d + 2) 134 [.ref 3, .ref 21] n sl es Q := by
  obtain ⟨C1, C2, C3, C4, C5, C6, C7, C8, C9⟩ := C
  obtain ⟨D1, D2, D3, D4, D5, D6, D7, D8, D9⟩ := D
  have hd : 1 ≤ d + 2 := by omega
  refine ax_Mt_go (m := ax_m_1_6) (ls := [some (.ref 3), some (.ref 21)]) rfl ax_b_134_0 (Nat.le_of_ble_eq_true rfl) rfl ?_
  have n21 : ∀ e, ax_up es 3 e 21 = _ := fun e => (ax_up_ne es e (by decide)).trans D1
  dsimp only
  generalize hr : (((1, .aload 1) :: (3, .getfield 266) :: (1, .iconst 0) :: (1, .aload 0) :: (3, .getfield 266) :: (1, .iconst 0) :: (2, .iconst 6) :: (3, .invokedynamic 1) :: (1, .aload 1) :: (3, .getfield 270) :: (1, .iconst 0) :: (1, .aload 0) :: (3, .getfield 270) :: (1, .iconst 0) :: (2, .iconst 6) :: (3, .invokedynamic 1) :: (1, .aload 1) :: (3, .getfield 274) :: (1, .iconst 0) :: (1, .aload 0) :: (3, .getfield 274) :: (1, .iconst 0) :: (2, .iconst 6) :: (3, .invokedynamic 1) :: (1, .aload 1) :: (3, .getfield 278) :: (1, .iconst 0) :: (1, .aload 0) :: (3, .getfield 278) :: (1, .iconst 0) :: (2, .iconst 6) :: (3, .invokedynamic 1) :: (1, .aload 1) :: (3, .getfield 282) :: (1, .iconst 0) :: (1, .aload 0) :: (3, .getfield 282) :: (1, .iconst 0) :: (2, .iconst 12) :: (3, .invokedynamic 1) :: (1, .aload 1) :: (3, .getfield 290) :: (1, .iconst 0) :: (1, .aload 0) :: (3, .getfield 290) :: (1, .iconst 0) :: (3, .iconst 1000) :: (3, .invokedynamic 1) :: (1, .aload 0) :: (3, .getfield 294) :: (1, .aload 1) :: (3, .getfield 294) :: (3, .invokeinterface 385 9) :: (1, .aload 0) :: (3, .getfield 298) :: (1, .aload 1) :: (3, .getfield 298) :: (3, .invokeinterface 385 9) :: (1, .return_) :: []) : List (Nat × Instr)) = rest
  simp only [ax_W_cons, ax_I, ax_cmp, ax_ii, ax_ll, ax_li, ax_st1, ax_st2, ax_kl, ax_k2, ax_fit, ax_rtok, List.getElem?_cons_zero, List.getElem?_cons_succ, List.length_cons, List.length_nil, List.set_cons_zero, List.set_cons_succ, Nat.reduceAdd, Nat.reduceDiv, Nat.reduceMod, Nat.reduceMul, Nat.reduceLT, Nat.reduceLeDiff, Int32.reduceOfInt, Int64.reduceOfInt, true_and, and_true, and_self, true_or, or_true, false_implies, true_implies, not_false_eq_true, not_true_eq_false, Value.category, Nat.reduceEqDiff, Option.toList, List.cons_append, List.nil_append, List.drop_succ_cons, List.drop_zero, ax_qq_eq, ax_t_134, C1, D1, n21, hal, ax_up_same, ax_up_up]
  subst hr
  obtain ⟨es0, he0⟩ : ∃ x, x = ax_up es 3 (.inr (1, [.int k, .int p, .ref 4, .ref 5, .ref 6, .ref 7, .ref 8, .int hc, .ref 9, .ref 10, .ref 13, .int on])) := ⟨_, rfl⟩
  rw [← he0]
  have T0 : es0 3 = .inr (1, [.int k, .int p, .ref 4, .ref 5, .ref 6, .ref 7, .ref 8, .int hc, .ref 9, .ref 10, .ref 13, .int on]) := by rw [he0]; exact ax_up_same ..
  have f0 : ∀ j, j ≠ 3 → es0 j = es j := fun j hj => by rw [he0]; exact ax_up_ne _ _ hj
  have S0 := (f0 21 (by decide)).trans D1
  have x0 := (f0 22 (by decide)).trans D2
  have y0 := (f0 4 (by decide)).trans C2
  generalize hr : (((1, .aload 1) :: (3, .getfield 270) :: (1, .iconst 0) :: (1, .aload 0) :: (3, .getfield 270) :: (1, .iconst 0) :: (2, .iconst 6) :: (3, .invokedynamic 1) :: (1, .aload 1) :: (3, .getfield 274) :: (1, .iconst 0) :: (1, .aload 0) :: (3, .getfield 274) :: (1, .iconst 0) :: (2, .iconst 6) :: (3, .invokedynamic 1) :: (1, .aload 1) :: (3, .getfield 278) :: (1, .iconst 0) :: (1, .aload 0) :: (3, .getfield 278) :: (1, .iconst 0) :: (2, .iconst 6) :: (3, .invokedynamic 1) :: (1, .aload 1) :: (3, .getfield 282) :: (1, .iconst 0) :: (1, .aload 0) :: (3, .getfield 282) :: (1, .iconst 0) :: (2, .iconst 12) :: (3, .invokedynamic 1) :: (1, .aload 1) :: (3, .getfield 290) :: (1, .iconst 0) :: (1, .aload 0) :: (3, .getfield 290) :: (1, .iconst 0) :: (3, .iconst 1000) :: (3, .invokedynamic 1) :: (1, .aload 0) :: (3, .getfield 294) :: (1, .aload 1) :: (3, .getfield 294) :: (3, .invokeinterface 385 9) :: (1, .aload 0) :: (3, .getfield 298) :: (1, .aload 1) :: (3, .getfield 298) :: (3, .invokeinterface 385 9) :: (1, .return_) :: []) : List (Nat × Instr)) = rest
  simp only [ax_W_cons, ax_I, ax_cmp, ax_ii, ax_ll, ax_li, ax_st1, ax_st2, ax_kl, ax_k2, ax_fit, ax_rtok, List.getElem?_cons_zero, List.getElem?_cons_succ, List.length_cons, List.length_nil, List.set_cons_zero, List.set_cons_succ, Nat.reduceAdd, Nat.reduceDiv, Nat.reduceMod, Nat.reduceMul, Nat.reduceLT, Nat.reduceLeDiff, Int32.reduceOfInt, Int64.reduceOfInt, true_and, and_true, and_self, true_or, or_true, false_implies, true_implies, not_false_eq_true, not_true_eq_false, Value.category, Nat.reduceEqDiff, Option.toList, List.cons_append, List.nil_append, List.drop_succ_cons, List.drop_zero, ax_qq_eq, ax_t_134, ax_bi, T0, S0, x0, y0, hal, hd, kx_c0, kx_c6, kx_n0, kx_n6, kx_cat0, Nat.le_refl, Nat.zero_add]
  subst hr
  obtain ⟨es1, he1⟩ : ∃ x, x = ax_up es0 4 (.inl (0, 6, .inl (va_cpy kd kd' 0 0 6))) := ⟨_, rfl⟩
  rw [← he1]
  have w1 : es1 4 = .inl (0, 6, .inl (va_cpy kd kd' 0 0 6)) := by rw [he1]; exact ax_up_same ..
  have g1 : ∀ j, j ≠ 4 → es1 j = es0 j := fun j hj => by rw [he1]; exact ax_up_ne _ _ hj
  have f1 : ∀ j, j ≠ 3 → j ≠ 4 → es1 j = es j := fun j h3 h4 => (g1 j h4).trans (f0 j h3)
  have T1 := (g1 3 (by decide)).trans T0
  have S1 := (g1 21 (by decide)).trans S0
  have x1 := (f1 23 (by decide) (by decide)).trans D3
  have y1 := (f1 5 (by decide) (by decide)).trans C3
  generalize hr : (((1, .aload 1) :: (3, .getfield 274) :: (1, .iconst 0) :: (1, .aload 0) :: (3, .getfield 274) :: (1, .iconst 0) :: (2, .iconst 6) :: (3, .invokedynamic 1) :: (1, .aload 1) :: (3, .getfield 278) :: (1, .iconst 0) :: (1, .aload 0) :: (3, .getfield 278) :: (1, .iconst 0) :: (2, .iconst 6) :: (3, .invokedynamic 1) :: (1, .aload 1) :: (3, .getfield 282) :: (1, .iconst 0) :: (1, .aload 0) :: (3, .getfield 282) :: (1, .iconst 0) :: (2, .iconst 12) :: (3, .invokedynamic 1) :: (1, .aload 1) :: (3, .getfield 290) :: (1, .iconst 0) :: (1, .aload 0) :: (3, .getfield 290) :: (1, .iconst 0) :: (3, .iconst 1000) :: (3, .invokedynamic 1) :: (1, .aload 0) :: (3, .getfield 294) :: (1, .aload 1) :: (3, .getfield 294) :: (3, .invokeinterface 385 9) :: (1, .aload 0) :: (3, .getfield 298) :: (1, .aload 1) :: (3, .getfield 298) :: (3, .invokeinterface 385 9) :: (1, .return_) :: []) : List (Nat × Instr)) = rest
  simp only [ax_W_cons, ax_I, ax_cmp, ax_ii, ax_ll, ax_li, ax_st1, ax_st2, ax_kl, ax_k2, ax_fit, ax_rtok, List.getElem?_cons_zero, List.getElem?_cons_succ, List.length_cons, List.length_nil, List.set_cons_zero, List.set_cons_succ, Nat.reduceAdd, Nat.reduceDiv, Nat.reduceMod, Nat.reduceMul, Nat.reduceLT, Nat.reduceLeDiff, Int32.reduceOfInt, Int64.reduceOfInt, true_and, and_true, and_self, true_or, or_true, false_implies, true_implies, not_false_eq_true, not_true_eq_false, Value.category, Nat.reduceEqDiff, Option.toList, List.cons_append, List.nil_append, List.drop_succ_cons, List.drop_zero, ax_qq_eq, ax_t_134, ax_bi, T1, S1, x1, y1, hal, hd, kx_c0, kx_c6, kx_n0, kx_n6, kx_cat0, Nat.le_refl, Nat.zero_add]
  subst hr
  obtain ⟨es2, he2⟩ : ∃ x, x = ax_up es1 5 (.inl (0, 6, .inl (va_cpy pl pl' 0 0 6))) := ⟨_, rfl⟩
  rw [← he2]
  have w2 : es2 5 = .inl (0, 6, .inl (va_cpy pl pl' 0 0 6)) := by rw [he2]; exact ax_up_same ..
  have g2 : ∀ j, j ≠ 5 → es2 j = es1 j := fun j hj => by rw [he2]; exact ax_up_ne _ _ hj
  have f2 : ∀ j, j ≠ 3 → j ≠ 4 → j ≠ 5 → es2 j = es j := fun j h3 h4 h5 => (g2 j h5).trans (f1 j h3 h4)
  have T2 := (g2 3 (by decide)).trans T1
  have S2 := (g2 21 (by decide)).trans S1
  have x2 := (f2 24 (by decide) (by decide) (by decide)).trans D4
  have y2 := (f2 6 (by decide) (by decide) (by decide)).trans C4
  generalize hr : (((1, .aload 1) :: (3, .getfield 278) :: (1, .iconst 0) :: (1, .aload 0) :: (3, .getfield 278) :: (1, .iconst 0) :: (2, .iconst 6) :: (3, .invokedynamic 1) :: (1, .aload 1) :: (3, .getfield 282) :: (1, .iconst 0) :: (1, .aload 0) :: (3, .getfield 282) :: (1, .iconst 0) :: (2, .iconst 12) :: (3, .invokedynamic 1) :: (1, .aload 1) :: (3, .getfield 290) :: (1, .iconst 0) :: (1, .aload 0) :: (3, .getfield 290) :: (1, .iconst 0) :: (3, .iconst 1000) :: (3, .invokedynamic 1) :: (1, .aload 0) :: (3, .getfield 294) :: (1, .aload 1) :: (3, .getfield 294) :: (3, .invokeinterface 385 9) :: (1, .aload 0) :: (3, .getfield 298) :: (1, .aload 1) :: (3, .getfield 298) :: (3, .invokeinterface 385 9) :: (1, .return_) :: []) : List (Nat × Instr)) = rest
  simp only [ax_W_cons, ax_I, ax_cmp, ax_ii, ax_ll, ax_li, ax_st1, ax_st2, ax_kl, ax_k2, ax_fit, ax_rtok, List.getElem?_cons_zero, List.getElem?_cons_succ, List.length_cons, List.length_nil, List.set_cons_zero, List.set_cons_succ, Nat.reduceAdd, Nat.reduceDiv, Nat.reduceMod, Nat.reduceMul, Nat.reduceLT, Nat.reduceLeDiff, Int32.reduceOfInt, Int64.reduceOfInt, true_and, and_true, and_self, true_or, or_true, false_implies, true_implies, not_false_eq_true, not_true_eq_false, Value.category, Nat.reduceEqDiff, Option.toList, List.cons_append, List.nil_append, List.drop_succ_cons, List.drop_zero, ax_qq_eq, ax_t_134, ax_bi, T2, S2, x2, y2, hal, hd, kx_c0, kx_c6, kx_n0, kx_n6, kx_cat0, Nat.le_refl, Nat.zero_add]
  subst hr
  obtain ⟨es3, he3⟩ : ∃ x, x = ax_up es2 6 (.inl (0, 6, .inl (va_cpy ht ht' 0 0 6))) := ⟨_, rfl⟩
  rw [← he3]
  have w3 : es3 6 = .inl (0, 6, .inl (va_cpy ht ht' 0 0 6)) := by rw [he3]; exact ax_up_same ..
  have g3 : ∀ j, j ≠ 6 → es3 j = es2 j := fun j hj => by rw [he3]; exact ax_up_ne _ _ hj
  have f3 : ∀ j, j ≠ 3 → j ≠ 4 → j ≠ 5 → j ≠ 6 → es3 j = es j := fun j h3 h4 h5 h6 => (g3 j h6).trans (f2 j h3 h4 h5)
  have T3 := (g3 3 (by decide)).trans T2
  have S3 := (g3 21 (by decide)).trans S2
  have x3 := (f3 25 (by decide) (by decide) (by decide) (by decide)).trans D5
  have y3 := (f3 7 (by decide) (by decide) (by decide) (by decide)).trans C5
  generalize hr : (((1, .aload 1) :: (3, .getfield 282) :: (1, .iconst 0) :: (1, .aload 0) :: (3, .getfield 282) :: (1, .iconst 0) :: (2, .iconst 12) :: (3, .invokedynamic 1) :: (1, .aload 1) :: (3, .getfield 290) :: (1, .iconst 0) :: (1, .aload 0) :: (3, .getfield 290) :: (1, .iconst 0) :: (3, .iconst 1000) :: (3, .invokedynamic 1) :: (1, .aload 0) :: (3, .getfield 294) :: (1, .aload 1) :: (3, .getfield 294) :: (3, .invokeinterface 385 9) :: (1, .aload 0) :: (3, .getfield 298) :: (1, .aload 1) :: (3, .getfield 298) :: (3, .invokeinterface 385 9) :: (1, .return_) :: []) : List (Nat × Instr)) = rest
  simp only [ax_W_cons, ax_I, ax_cmp, ax_ii, ax_ll, ax_li, ax_st1, ax_st2, ax_kl, ax_k2, ax_fit, ax_rtok, List.getElem?_cons_zero, List.getElem?_cons_succ, List.length_cons, List.length_nil, List.set_cons_zero, List.set_cons_succ, Nat.reduceAdd, Nat.reduceDiv, Nat.reduceMod, Nat.reduceMul, Nat.reduceLT, Nat.reduceLeDiff, Int32.reduceOfInt, Int64.reduceOfInt, true_and, and_true, and_self, true_or, or_true, false_implies, true_implies, not_false_eq_true, not_true_eq_false, Value.category, Nat.reduceEqDiff, Option.toList, List.cons_append, List.nil_append, List.drop_succ_cons, List.drop_zero, ax_qq_eq, ax_t_134, ax_bi, T3, S3, x3, y3, hal, hd, kx_c0, kx_c6, kx_n0, kx_n6, kx_cat0, Nat.le_refl, Nat.zero_add]
  subst hr
  obtain ⟨es4, he4⟩ : ∃ x, x = ax_up es3 7 (.inl (3, 6, .inr (.inl (va_cpy nm nm' 0 0 6)))) := ⟨_, rfl⟩
  rw [← he4]
  have w4 : es4 7 = .inl (3, 6, .inr (.inl (va_cpy nm nm' 0 0 6))) := by rw [he4]; exact ax_up_same ..
  have g4 : ∀ j, j ≠ 7 → es4 j = es3 j := fun j hj => by rw [he4]; exact ax_up_ne _ _ hj
  have f4 : ∀ j, j ≠ 3 → j ≠ 4 → j ≠ 5 → j ≠ 6 → j ≠ 7 → es4 j = es j := fun j h3 h4 h5 h6 h7 => (g4 j h7).trans (f3 j h3 h4 h5 h6)
  have T4 := (g4 3 (by decide)).trans T3
  have S4 := (g4 21 (by decide)).trans S3
  have x4 := (f4 26 (by decide) (by decide) (by decide) (by decide) (by decide)).trans D6
  have y4 := (f4 8 (by decide) (by decide) (by decide) (by decide) (by decide)).trans C6
  generalize hr : (((1, .aload 1) :: (3, .getfield 290) :: (1, .iconst 0) :: (1, .aload 0) :: (3, .getfield 290) :: (1, .iconst 0) :: (3, .iconst 1000) :: (3, .invokedynamic 1) :: (1, .aload 0) :: (3, .getfield 294) :: (1, .aload 1) :: (3, .getfield 294) :: (3, .invokeinterface 385 9) :: (1, .aload 0) :: (3, .getfield 298) :: (1, .aload 1) :: (3, .getfield 298) :: (3, .invokeinterface 385 9) :: (1, .return_) :: []) : List (Nat × Instr)) = rest
  simp only [ax_W_cons, ax_I, ax_cmp, ax_ii, ax_ll, ax_li, ax_st1, ax_st2, ax_kl, ax_k2, ax_fit, ax_rtok, List.getElem?_cons_zero, List.getElem?_cons_succ, List.length_cons, List.length_nil, List.set_cons_zero, List.set_cons_succ, Nat.reduceAdd, Nat.reduceDiv, Nat.reduceMod, Nat.reduceMul, Nat.reduceLT, Nat.reduceLeDiff, Int32.reduceOfInt, Int64.reduceOfInt, true_and, and_true, and_self, true_or, or_true, false_implies, true_implies, not_false_eq_true, not_true_eq_false, Value.category, Nat.reduceEqDiff, Option.toList, List.cons_append, List.nil_append, List.drop_succ_cons, List.drop_zero, ax_qq_eq, ax_t_134, ax_bi, T4, S4, x4, y4, hal, hd, kx_c0, kx_c12, kx_n0, kx_n12, kx_cat0, Nat.le_refl, Nat.zero_add]
  subst hr
  obtain ⟨es5, he5⟩ : ∃ x, x = ax_up es4 8 (.inl (0, 12, .inl (va_cpy hs hs' 0 0 12))) := ⟨_, rfl⟩
  rw [← he5]
  have w5 : es5 8 = .inl (0, 12, .inl (va_cpy hs hs' 0 0 12)) := by rw [he5]; exact ax_up_same ..
  have g5 : ∀ j, j ≠ 8 → es5 j = es4 j := fun j hj => by rw [he5]; exact ax_up_ne _ _ hj
  have f5 : ∀ j, j ≠ 3 → j ≠ 4 → j ≠ 5 → j ≠ 6 → j ≠ 7 → j ≠ 8 → es5 j = es j := fun j h3 h4 h5 h6 h7 h8 => (g5 j h8).trans (f4 j h3 h4 h5 h6 h7)
  have T5 := (g5 3 (by decide)).trans T4
  have S5 := (g5 21 (by decide)).trans S4
  have x5 := (f5 27 (by decide) (by decide) (by decide) (by decide) (by decide) (by decide)).trans D7
  have y5 := (f5 9 (by decide) (by decide) (by decide) (by decide) (by decide) (by decide)).trans C7
  generalize hr : (((1, .aload 0) :: (3, .getfield 294) :: (1, .aload 1) :: (3, .getfield 294) :: (3, .invokeinterface 385 9) :: (1, .aload 0) :: (3, .getfield 298) :: (1, .aload 1) :: (3, .getfield 298) :: (3, .invokeinterface 385 9) :: (1, .return_) :: []) : List (Nat × Instr)) = rest
  simp only [ax_W_cons, ax_I, ax_cmp, ax_ii, ax_ll, ax_li, ax_st1, ax_st2, ax_kl, ax_k2, ax_fit, ax_rtok, List.getElem?_cons_zero, List.getElem?_cons_succ, List.length_cons, List.length_nil, List.set_cons_zero, List.set_cons_succ, Nat.reduceAdd, Nat.reduceDiv, Nat.reduceMod, Nat.reduceMul, Nat.reduceLT, Nat.reduceLeDiff, Int32.reduceOfInt, Int64.reduceOfInt, true_and, and_true, and_self, true_or, or_true, false_implies, true_implies, not_false_eq_true, not_true_eq_false, Value.category, Nat.reduceEqDiff, Option.toList, List.cons_append, List.nil_append, List.drop_succ_cons, List.drop_zero, ax_qq_eq, ax_t_134, ax_bi, T5, S5, x5, y5, hal, hd, kx_c0, kx_c1000, kx_n0, kx_n1000, kx_cat0, Nat.le_refl, Nat.zero_add]
  subst hr
  obtain ⟨es6, he6⟩ : ∃ x, x = ax_up es5 9 (.inl (0, 1000, .inl (va_cpy code code' 0 0 1000))) := ⟨_, rfl⟩
  rw [← he6]
  have w6 : es6 9 = .inl (0, 1000, .inl (va_cpy code code' 0 0 1000)) := by rw [he6]; exact ax_up_same ..
  have g6 : ∀ j, j ≠ 9 → es6 j = es5 j := fun j hj => by rw [he6]; exact ax_up_ne _ _ hj
  have f6 : ∀ j, j ≠ 3 → j ≠ 4 → j ≠ 5 → j ≠ 6 → j ≠ 7 → j ≠ 8 → j ≠ 9 → es6 j = es j := fun j h3 h4 h5 h6 h7 h8 h9 => (g6 j h9).trans (f5 j h3 h4 h5 h6 h7 h8)
  have T6 := (g6 3 (by decide)).trans T5
  have S6 := (g6 21 (by decide)).trans S5
  have L10 := (f6 10 (by decide) (by decide) (by decide) (by decide) (by decide) (by decide) (by decide)).trans C8
  have L13 := (f6 13 (by decide) (by decide) (by decide) (by decide) (by decide) (by decide) (by decide)).trans C9
  have L28 := (f6 28 (by decide) (by decide) (by decide) (by decide) (by decide) (by decide) (by decide)).trans D8
  have L31 := (f6 31 (by decide) (by decide) (by decide) (by decide) (by decide) (by decide) (by decide)).trans D9
  simp only [ax_W_cons, ax_I, ax_cmp, ax_ii, ax_ll, ax_li, ax_st1, ax_st2, ax_kl, ax_k2, ax_fit, ax_rtok, List.getElem?_cons_zero, List.getElem?_cons_succ, List.length_cons, List.length_nil, List.set_cons_zero, List.set_cons_succ, Nat.reduceAdd, Nat.reduceDiv, Nat.reduceMod, Nat.reduceMul, Nat.reduceLT, Nat.reduceLeDiff, Int32.reduceOfInt, Int64.reduceOfInt, true_and, and_true, and_self, true_or, or_true, false_implies, true_implies, not_false_eq_true, not_true_eq_false, Value.category, Nat.reduceEqDiff, Option.toList, List.cons_append, List.nil_append, List.drop_succ_cons, List.drop_zero, ax_qq_eq, ax_t_134, T6, S6, hal]
  refine ax_inv_of (Nat.le_of_ble_eq_true rfl) (Nat.le_of_ble_eq_true rfl) (fun _ => ax_rcv_ok (by omega) L10) (fun h => absurd h (by decide)) (Nat.le_refl _) (Nat.le_refl _) (ck_copyRange hal (by decide) (by decide) (by decide) L10 L28 ?_)
  have r3 : ∀ e, ax_up es6 10 e 3 = _ := fun e => (ax_up_ne es6 e (by decide)).trans T6
  have g21 : ∀ e, ax_up es6 10 e 21 = _ := fun e => (ax_up_ne es6 e (by decide)).trans S6
  have g13 : ∀ e, ax_up es6 10 e 13 = _ := fun e => (ax_up_ne es6 e (by decide)).trans L13
  have g31 : ∀ e, ax_up es6 10 e 31 = _ := fun e => (ax_up_ne es6 e (by decide)).trans L31
  simp only [ax_W_cons, ax_I, ax_cmp, ax_ii, ax_ll, ax_li, ax_st1, ax_st2, ax_kl, ax_k2, ax_fit, ax_rtok, List.getElem?_cons_zero, List.getElem?_cons_succ, List.length_cons, List.length_nil, List.set_cons_zero, List.set_cons_succ, Nat.reduceAdd, Nat.reduceDiv, Nat.reduceMod, Nat.reduceMul, Nat.reduceLT, Nat.reduceLeDiff, Int32.reduceOfInt, Int64.reduceOfInt, true_and, and_true, and_self, true_or, or_true, false_implies, true_implies, not_false_eq_true, not_true_eq_false, Value.category, Nat.reduceEqDiff, Option.toList, List.cons_append, List.nil_append, List.drop_succ_cons, List.drop_zero, ax_qq_eq, ax_t_134, r3, g21, hal]
  refine ax_inv_of (Nat.le_of_ble_eq_true rfl) (Nat.le_of_ble_eq_true rfl) (fun _ => ax_rcv_ok (by omega) (g13 _)) (fun h => absurd h (by decide)) (Nat.le_refl _) (Nat.le_refl _) (ck_copyRange hal (by decide) (by decide) (by decide) (g13 _) (g31 _) ?_)
  simp only [ax_W_cons, ax_I, ax_cmp, ax_ii, ax_ll, ax_li, ax_st1, ax_st2, ax_kl, ax_k2, ax_fit, ax_rtok, List.getElem?_cons_zero, List.getElem?_cons_succ, List.length_cons, List.length_nil, List.set_cons_zero, List.set_cons_succ, Nat.reduceAdd, Nat.reduceDiv, Nat.reduceMod, Nat.reduceMul, Nat.reduceLT, Nat.reduceLeDiff, Int32.reduceOfInt, Int64.reduceOfInt, true_and, and_true, and_self, true_or, or_true, false_implies, true_implies, not_false_eq_true, not_true_eq_false, Value.category, Nat.reduceEqDiff, Option.toList, List.cons_append, List.nil_append, List.drop_succ_cons, List.drop_zero, ax_qq_eq, ax_t_134]
  have fe : ∀ e e' j, j ≠ 10 → j ≠ 13 → ax_up (ax_up es6 10 e) 13 e' j = es6 j := fun e e' j h1 h2 => (ax_up_ne _ _ h2).trans (ax_up_ne _ _ h1)
  refine hQ _ ⟨(fe _ _ 3 (by decide) (by decide)).trans T6, ?_, ?_, ?_, ?_, ?_, (fe _ _ 9 (by decide) (by decide)).trans w6, (ax_up_ne _ _ (by decide)).trans (ax_up_same ..), ax_up_same ..⟩ (fun j hj => (fe _ _ j (by omega) (by omega)).trans (f6 j (by omega) (by omega) (by omega) (by omega) (by omega) (by omega) (by omega))) ((fe _ _ 11 (by decide) (by decide)).trans (f6 11 (by decide) (by decide) (by decide) (by decide) (by decide) (by decide) (by decide))) ((fe _ _ 12 (by decide) (by decide)).trans (f6 12 (by decide) (by decide) (by decide) (by decide) (by decide) (by decide) (by decide)))
  · exact (fe _ _ 4 (by decide) (by decide)).trans ((g6 4 (by decide)).trans ((g5 4 (by decide)).trans ((g4 4 (by decide)).trans ((g3 4 (by decide)).trans ((g2 4 (by decide)).trans w1)))))
  · exact (fe _ _ 5 (by decide) (by decide)).trans ((g6 5 (by decide)).trans ((g5 5 (by decide)).trans ((g4 5 (by decide)).trans ((g3 5 (by decide)).trans w2))))
  · exact (fe _ _ 6 (by decide) (by decide)).trans ((g6 6 (by decide)).trans ((g5 6 (by decide)).trans ((g4 6 (by decide)).trans w3)))
  · exact (fe _ _ 7 (by decide) (by decide)).trans ((g6 7 (by decide)).trans ((g5 7 (by decide)).trans w4))
  · exact (fe _ _ 8 (by decide) (by decide)).trans ((g6 8 (by decide)).trans w5)
end TT
