/-! what the constructors make: courts -/
section CC
variable {d : Nat} {es : ax_H} {Q : ax_H → Prop}
/-- a court at 3 -/
def cCt3 (es : ax_H) : Prop := es 3 = .inr (1, [.int 0, .int 0, .ref 4, .ref 5, .ref 6, .ref 7, .ref 8, .int 0, .ref 9, .ref 10, .ref 13, .int 0]) ∧ es 4 = .inl (0, 6, .inl fun _ => 0) ∧ es 5 = .inl (0, 6, .inl fun _ => 0) ∧ es 6 = .inl (0, 6, .inl fun _ => 0) ∧ es 7 = .inl (3, 6, .inr (.inl fun _ => 0)) ∧ es 8 = .inl (0, 12, .inl fun _ => 0) ∧ es 9 = .inl (0, 1000, .inl fun _ => 0) ∧ es 10 = .inr (3, [.ref 9, .ref 11, .ref 12, .int 0, .int 0]) ∧ es 11 = .inl (0, 32, .inl fun _ => 0) ∧ es 12 = .inl (0, 4, .inl fun _ => 0) ∧ es 13 = .inr (3, [.ref 9, .ref 14, .ref 15, .int 0, .int 0]) ∧ es 14 = .inl (0, 32, .inl fun _ => 0) ∧ es 15 = .inl (0, 4, .inl fun _ => 0)
theorem cn_court3 (he : es 3 = .inr (1, ax_df 1)) (hQ : ∀ es', cCt3 es' → (∀ j, (j < 3 ∨ 15 < j) → es' j = es j) → Q es') : ax_Mc (d + 2) 128 [.ref 3] 4 1030 16 2148 es Q := by
  have h1 : 1 ≤ d + 2 := by omega
  have df : ax_df 1 = [.int 0, .int 0, .null, .null, .null, .null, .null, .int 0, .null, .null, .null, .int 0] := rfl
  rw [df] at he
  have z6 : (6 : Int32).toNatClampNeg = 6 := rfl
  have y6 : ¬ (6 : Int32) < 0 := by decide
  have z12 : (12 : Int32).toNatClampNeg = 12 := rfl
  have y12 : ¬ (12 : Int32) < 0 := by decide
  have z1000 : (1000 : Int32).toNatClampNeg = 1000 := rfl
  have y1000 : ¬ (1000 : Int32) < 0 := by decide
  have t0 : ax_atag .int = 0 := rfl
  have t1 : ax_atag .byte = 1 := rfl
  have t2 : ax_atag .boolean = 2 := rfl
  have t3 : ax_atag .long = 3 := rfl
  have tc : ax_acon .int = .inl fun _ => 0 := rfl
  have tb : ax_acon .byte = .inl fun _ => 0 := rfl
  have tz : ax_acon .boolean = .inl fun _ => 0 := rfl
  have tl : ax_acon .long = .inr (.inl fun _ => 0) := rfl
  have nf : ax_NF = 178 := rfl
  have N3 : ax_N 3 = 5 := rfl
  refine ax_Mc_go (m := ax_m_1_0) (ls := [some (.ref 3)]) rfl ax_b_128_0 (Nat.le_of_ble_eq_true rfl) rfl ?_
  dsimp only
  generalize hr : (((1, .aload 0) : Nat × Instr) :: ((3, .new 3) : Nat × Instr) :: ((1, .dup) : Nat × Instr) :: ((1, .aload 0) : Nat × Instr) :: ((3, .getfield 290) : Nat × Instr) :: ((3, .invokeinterface 384 10) : Nat × Instr) :: ((3, .putstatic 294) : Nat × Instr) :: ((1, .aload 0) : Nat × Instr) :: ((3, .new 3) : Nat × Instr) :: ((1, .dup) : Nat × Instr) :: ((1, .aload 0) : Nat × Instr) :: ((3, .getfield 290) : Nat × Instr) :: ((3, .invokeinterface 384 10) : Nat × Instr) :: ((3, .putstatic 298) : Nat × Instr) :: ((1, .return_) : Nat × Instr) :: []) = rest
  simp only [ax_W_cons, ax_I, ax_cmp, ax_ii, ax_ll, ax_li, ax_st1, ax_st2, ax_kl, ax_k2, ax_fit, ax_rtok, List.getElem?_cons_zero, List.getElem?_cons_succ, List.length_cons, List.length_nil, List.set_cons_zero, List.set_cons_succ, Nat.reduceAdd, Nat.reduceDiv, Nat.reduceMod, Nat.reduceMul, Nat.reduceLT, Nat.reduceLeDiff, Int32.reduceOfInt, Int64.reduceOfInt, true_and, and_true, and_self, true_or, or_true, false_implies, true_implies, not_false_eq_true, not_true_eq_false, Value.category, Nat.reduceEqDiff, Option.toList, List.cons_append, List.nil_append, List.drop_succ_cons, List.drop_zero, ax_qq_eq, ax_t_128, he, ax_bi, h1, kx_cat0, z6, y6, z12, y12, z1000, y1000, t0, t1, t2, t3, tc, tb, tz, tl, nf, N3, alk, ax_up_same, ax_up_ne, ne_eq, Nat.reduceEqDiff, not_false_eq_true]
  subst hr
  have key : ∀ es1 : ax_H, es1 3 = .inr (1, [.int 0, .int 0, .ref 4, .ref 5, .ref 6, .ref 7, .ref 8, .int 0, .ref 9, .null, .null, .int 0]) → es1 4 = .inl (0, 6, .inl fun _ => 0) → es1 5 = .inl (0, 6, .inl fun _ => 0) → es1 6 = .inl (0, 6, .inl fun _ => 0) → es1 7 = .inl (3, 6, .inr (.inl fun _ => 0)) → es1 8 = .inl (0, 12, .inl fun _ => 0) → es1 9 = .inl (0, 1000, .inl fun _ => 0) → (∀ j, (j < 3 ∨ 15 < j) → es1 j = es j) → ax_W (d + 2) 16 2148 128 (((1, .aload 0) : Nat × Instr) :: ((3, .new 3) : Nat × Instr) :: ((1, .dup) : Nat × Instr) :: ((1, .aload 0) : Nat × Instr) :: ((3, .getfield 290) : Nat × Instr) :: ((3, .invokeinterface 384 10) : Nat × Instr) :: ((3, .putstatic 294) : Nat × Instr) :: ((1, .aload 0) : Nat × Instr) :: ((3, .new 3) : Nat × Instr) :: ((1, .dup) : Nat × Instr) :: ((1, .aload 0) : Nat × Instr) :: ((3, .getfield 290) : Nat × Instr) :: ((3, .invokeinterface 384 10) : Nat × Instr) :: ((3, .putstatic 298) : Nat × Instr) :: ((1, .return_) : Nat × Instr) :: []) 53 [some (.ref 3)] [] 10 2066 es1 (fun r n1 sl1 es1 => n1 = 16 ∧ sl1 = 2148 ∧ r = none ∧ Q es1) := by
    intro es1 w0 w1 w2 w3 w4 w5 w6 fr
    simp only [ax_W_cons, ax_I, ax_cmp, ax_ii, ax_ll, ax_li, ax_st1, ax_st2, ax_kl, ax_k2, ax_fit, ax_rtok, List.getElem?_cons_zero, List.getElem?_cons_succ, List.length_cons, List.length_nil, List.set_cons_zero, List.set_cons_succ, Nat.reduceAdd, Nat.reduceDiv, Nat.reduceMod, Nat.reduceMul, Nat.reduceLT, Nat.reduceLeDiff, Int32.reduceOfInt, Int64.reduceOfInt, true_and, and_true, and_self, true_or, or_true, false_implies, true_implies, not_false_eq_true, not_true_eq_false, Value.category, Nat.reduceEqDiff, Option.toList, List.cons_append, List.nil_append, List.drop_succ_cons, List.drop_zero, ax_qq_eq, ax_t_128, w0, ax_bi, h1, kx_cat0, z6, y6, z12, y12, z1000, y1000, t0, t1, t2, t3, tc, tb, tz, tl, nf, N3, alk, ax_up_same, ax_up_ne, ne_eq, Nat.reduceEqDiff, not_false_eq_true]
    refine ax_inv_c (n' := 13) (sl' := 2107) (Nat.le_of_ble_eq_true rfl) (Nat.le_of_ble_eq_true rfl) rfl trivial (by decide) (by decide) (by decide) (by decide) (cn_law (q := 10) (c := 9) (by decide) (ax_up_same ..) ?_)
    rintro es2 ⟨l1, l2, l3⟩ f2
    have v0 : es2 3 = .inr (1, [.int 0, .int 0, .ref 4, .ref 5, .ref 6, .ref 7, .ref 8, .int 0, .ref 9, .null, .null, .int 0]) := by rw [f2 3 (by decide), ax_up_ne _ _ (by decide)]; exact w0
    simp only [ax_W_cons, ax_I, ax_cmp, ax_ii, ax_ll, ax_li, ax_st1, ax_st2, ax_kl, ax_k2, ax_fit, ax_rtok, List.getElem?_cons_zero, List.getElem?_cons_succ, List.length_cons, List.length_nil, List.set_cons_zero, List.set_cons_succ, Nat.reduceAdd, Nat.reduceDiv, Nat.reduceMod, Nat.reduceMul, Nat.reduceLT, Nat.reduceLeDiff, Int32.reduceOfInt, Int64.reduceOfInt, true_and, and_true, and_self, true_or, or_true, false_implies, true_implies, not_false_eq_true, not_true_eq_false, Value.category, Nat.reduceEqDiff, Option.toList, List.cons_append, List.nil_append, List.drop_succ_cons, List.drop_zero, ax_qq_eq, ax_t_128, v0, ax_bi, h1, kx_cat0, z6, y6, z12, y12, z1000, y1000, t0, t1, t2, t3, tc, tb, tz, tl, nf, N3, alk, ax_up_same, ax_up_ne, ne_eq, Nat.reduceEqDiff, not_false_eq_true]
    refine ax_inv_c (n' := 16) (sl' := 2148) (Nat.le_of_ble_eq_true rfl) (Nat.le_of_ble_eq_true rfl) rfl trivial (by decide) (by decide) (by decide) (by decide) (cn_law (q := 13) (c := 9) (by decide) (ax_up_same ..) ?_)
    rintro es3 ⟨k1, k2, k3⟩ f3
    have g3 : ∀ j, j ≠ 3 → j < 13 ∨ 15 < j → es3 j = es2 j := fun j a b => by rw [f3 j b, ax_up_ne _ _ (by omega), ax_up_ne _ _ a]
    have g2 : ∀ j, j < 10 ∨ 12 < j → j ≠ 10 → es2 j = es1 j := fun j a b => by rw [f2 j a, ax_up_ne _ _ b]
    have u0 : es3 3 = .inr (1, [.int 0, .int 0, .ref 4, .ref 5, .ref 6, .ref 7, .ref 8, .int 0, .ref 9, .ref 10, .null, .int 0]) := by rw [f3 3 (by decide), ax_up_ne _ _ (by decide), ax_up_same]
    simp only [ax_W_cons, ax_I, ax_cmp, ax_ii, ax_ll, ax_li, ax_st1, ax_st2, ax_kl, ax_k2, ax_fit, ax_rtok, List.getElem?_cons_zero, List.getElem?_cons_succ, List.length_cons, List.length_nil, List.set_cons_zero, List.set_cons_succ, Nat.reduceAdd, Nat.reduceDiv, Nat.reduceMod, Nat.reduceMul, Nat.reduceLT, Nat.reduceLeDiff, Int32.reduceOfInt, Int64.reduceOfInt, true_and, and_true, and_self, true_or, or_true, false_implies, true_implies, not_false_eq_true, not_true_eq_false, Value.category, Nat.reduceEqDiff, Option.toList, List.cons_append, List.nil_append, List.drop_succ_cons, List.drop_zero, ax_qq_eq, ax_t_128, u0, ax_bi, h1, kx_cat0, z6, y6, z12, y12, z1000, y1000, t0, t1, t2, t3, tc, tb, tz, tl, nf, N3, alk, ax_up_same, ax_up_ne, ne_eq, Nat.reduceEqDiff, not_false_eq_true]
    have e5 : ∀ e j, j ≠ 3 → ax_up es3 3 e j = es3 j := fun e j hj => ax_up_ne _ _ hj
    exact hQ _ ⟨ax_up_same .., (e5 _ 4 (by decide)).trans ((g3 4 (by decide) (by decide)).trans ((g2 4 (by decide) (by decide)).trans w1)), (e5 _ 5 (by decide)).trans ((g3 5 (by decide) (by decide)).trans ((g2 5 (by decide) (by decide)).trans w2)), (e5 _ 6 (by decide)).trans ((g3 6 (by decide) (by decide)).trans ((g2 6 (by decide) (by decide)).trans w3)), (e5 _ 7 (by decide)).trans ((g3 7 (by decide) (by decide)).trans ((g2 7 (by decide) (by decide)).trans w4)), (e5 _ 8 (by decide)).trans ((g3 8 (by decide) (by decide)).trans ((g2 8 (by decide) (by decide)).trans w5)), (e5 _ 9 (by decide)).trans ((g3 9 (by decide) (by decide)).trans ((g2 9 (by decide) (by decide)).trans w6)), (e5 _ 10 (by decide)).trans ((g3 10 (by decide) (by decide)).trans l1), (e5 _ 11 (by decide)).trans ((g3 11 (by decide) (by decide)).trans l2), (e5 _ 12 (by decide)).trans ((g3 12 (by decide) (by decide)).trans l3), (e5 _ 13 (by decide)).trans k1, (e5 _ 14 (by decide)).trans k2, (e5 _ 15 (by decide)).trans k3⟩ (fun j hj => (e5 _ j (by omega)).trans ((g3 j (by omega) (by omega)).trans ((g2 j (by omega) (by omega)).trans (fr j hj))))
  refine key _ ?_ ?_ ?_ ?_ ?_ ?_ ?_ (fun j hj => ?_)
  · exact ax_up_same ..
  · simp only [ax_up_same, ax_up_ne, ne_eq, Nat.reduceEqDiff, not_false_eq_true]
  · simp only [ax_up_same, ax_up_ne, ne_eq, Nat.reduceEqDiff, not_false_eq_true]
  · simp only [ax_up_same, ax_up_ne, ne_eq, Nat.reduceEqDiff, not_false_eq_true]
  · simp only [ax_up_same, ax_up_ne, ne_eq, Nat.reduceEqDiff, not_false_eq_true]
  · simp only [ax_up_same, ax_up_ne, ne_eq, Nat.reduceEqDiff, not_false_eq_true]
  · simp only [ax_up_same, ax_up_ne, ne_eq, Nat.reduceEqDiff, not_false_eq_true]
  · repeat rw [ax_up_ne _ _ (by omega)]
/-- a court at 21 -/
def cCt21 (es : ax_H) : Prop := es 21 = .inr (1, [.int 0, .int 0, .ref 22, .ref 23, .ref 24, .ref 25, .ref 26, .int 0, .ref 27, .ref 28, .ref 31, .int 0]) ∧ es 22 = .inl (0, 6, .inl fun _ => 0) ∧ es 23 = .inl (0, 6, .inl fun _ => 0) ∧ es 24 = .inl (0, 6, .inl fun _ => 0) ∧ es 25 = .inl (3, 6, .inr (.inl fun _ => 0)) ∧ es 26 = .inl (0, 12, .inl fun _ => 0) ∧ es 27 = .inl (0, 1000, .inl fun _ => 0) ∧ es 28 = .inr (3, [.ref 27, .ref 29, .ref 30, .int 0, .int 0]) ∧ es 29 = .inl (0, 32, .inl fun _ => 0) ∧ es 30 = .inl (0, 4, .inl fun _ => 0) ∧ es 31 = .inr (3, [.ref 27, .ref 32, .ref 33, .int 0, .int 0]) ∧ es 32 = .inl (0, 32, .inl fun _ => 0) ∧ es 33 = .inl (0, 4, .inl fun _ => 0)
theorem cn_court21 (he : es 21 = .inr (1, ax_df 1)) (hQ : ∀ es', cCt21 es' → (∀ j, (j < 21 ∨ 33 < j) → es' j = es j) → Q es') : ax_Mc (d + 2) 128 [.ref 21] 22 2290 34 3408 es Q := by
  have h1 : 1 ≤ d + 2 := by omega
  have df : ax_df 1 = [.int 0, .int 0, .null, .null, .null, .null, .null, .int 0, .null, .null, .null, .int 0] := rfl
  rw [df] at he
  have z6 : (6 : Int32).toNatClampNeg = 6 := rfl
  have y6 : ¬ (6 : Int32) < 0 := by decide
  have z12 : (12 : Int32).toNatClampNeg = 12 := rfl
  have y12 : ¬ (12 : Int32) < 0 := by decide
  have z1000 : (1000 : Int32).toNatClampNeg = 1000 := rfl
  have y1000 : ¬ (1000 : Int32) < 0 := by decide
  have t0 : ax_atag .int = 0 := rfl
  have t1 : ax_atag .byte = 1 := rfl
  have t2 : ax_atag .boolean = 2 := rfl
  have t3 : ax_atag .long = 3 := rfl
  have tc : ax_acon .int = .inl fun _ => 0 := rfl
  have tb : ax_acon .byte = .inl fun _ => 0 := rfl
  have tz : ax_acon .boolean = .inl fun _ => 0 := rfl
  have tl : ax_acon .long = .inr (.inl fun _ => 0) := rfl
  have nf : ax_NF = 178 := rfl
  have N3 : ax_N 3 = 5 := rfl
  refine ax_Mc_go (m := ax_m_1_0) (ls := [some (.ref 21)]) rfl ax_b_128_0 (Nat.le_of_ble_eq_true rfl) rfl ?_
  dsimp only
  generalize hr : (((1, .aload 0) : Nat × Instr) :: ((3, .new 3) : Nat × Instr) :: ((1, .dup) : Nat × Instr) :: ((1, .aload 0) : Nat × Instr) :: ((3, .getfield 290) : Nat × Instr) :: ((3, .invokeinterface 384 10) : Nat × Instr) :: ((3, .putstatic 294) : Nat × Instr) :: ((1, .aload 0) : Nat × Instr) :: ((3, .new 3) : Nat × Instr) :: ((1, .dup) : Nat × Instr) :: ((1, .aload 0) : Nat × Instr) :: ((3, .getfield 290) : Nat × Instr) :: ((3, .invokeinterface 384 10) : Nat × Instr) :: ((3, .putstatic 298) : Nat × Instr) :: ((1, .return_) : Nat × Instr) :: []) = rest
  simp only [ax_W_cons, ax_I, ax_cmp, ax_ii, ax_ll, ax_li, ax_st1, ax_st2, ax_kl, ax_k2, ax_fit, ax_rtok, List.getElem?_cons_zero, List.getElem?_cons_succ, List.length_cons, List.length_nil, List.set_cons_zero, List.set_cons_succ, Nat.reduceAdd, Nat.reduceDiv, Nat.reduceMod, Nat.reduceMul, Nat.reduceLT, Nat.reduceLeDiff, Int32.reduceOfInt, Int64.reduceOfInt, true_and, and_true, and_self, true_or, or_true, false_implies, true_implies, not_false_eq_true, not_true_eq_false, Value.category, Nat.reduceEqDiff, Option.toList, List.cons_append, List.nil_append, List.drop_succ_cons, List.drop_zero, ax_qq_eq, ax_t_128, he, ax_bi, h1, kx_cat0, z6, y6, z12, y12, z1000, y1000, t0, t1, t2, t3, tc, tb, tz, tl, nf, N3, alk, ax_up_same, ax_up_ne, ne_eq, Nat.reduceEqDiff, not_false_eq_true]
  subst hr
  have key : ∀ es1 : ax_H, es1 21 = .inr (1, [.int 0, .int 0, .ref 22, .ref 23, .ref 24, .ref 25, .ref 26, .int 0, .ref 27, .null, .null, .int 0]) → es1 22 = .inl (0, 6, .inl fun _ => 0) → es1 23 = .inl (0, 6, .inl fun _ => 0) → es1 24 = .inl (0, 6, .inl fun _ => 0) → es1 25 = .inl (3, 6, .inr (.inl fun _ => 0)) → es1 26 = .inl (0, 12, .inl fun _ => 0) → es1 27 = .inl (0, 1000, .inl fun _ => 0) → (∀ j, (j < 21 ∨ 33 < j) → es1 j = es j) → ax_W (d + 2) 34 3408 128 (((1, .aload 0) : Nat × Instr) :: ((3, .new 3) : Nat × Instr) :: ((1, .dup) : Nat × Instr) :: ((1, .aload 0) : Nat × Instr) :: ((3, .getfield 290) : Nat × Instr) :: ((3, .invokeinterface 384 10) : Nat × Instr) :: ((3, .putstatic 294) : Nat × Instr) :: ((1, .aload 0) : Nat × Instr) :: ((3, .new 3) : Nat × Instr) :: ((1, .dup) : Nat × Instr) :: ((1, .aload 0) : Nat × Instr) :: ((3, .getfield 290) : Nat × Instr) :: ((3, .invokeinterface 384 10) : Nat × Instr) :: ((3, .putstatic 298) : Nat × Instr) :: ((1, .return_) : Nat × Instr) :: []) 53 [some (.ref 21)] [] 28 3326 es1 (fun r n1 sl1 es1 => n1 = 34 ∧ sl1 = 3408 ∧ r = none ∧ Q es1) := by
    intro es1 w0 w1 w2 w3 w4 w5 w6 fr
    simp only [ax_W_cons, ax_I, ax_cmp, ax_ii, ax_ll, ax_li, ax_st1, ax_st2, ax_kl, ax_k2, ax_fit, ax_rtok, List.getElem?_cons_zero, List.getElem?_cons_succ, List.length_cons, List.length_nil, List.set_cons_zero, List.set_cons_succ, Nat.reduceAdd, Nat.reduceDiv, Nat.reduceMod, Nat.reduceMul, Nat.reduceLT, Nat.reduceLeDiff, Int32.reduceOfInt, Int64.reduceOfInt, true_and, and_true, and_self, true_or, or_true, false_implies, true_implies, not_false_eq_true, not_true_eq_false, Value.category, Nat.reduceEqDiff, Option.toList, List.cons_append, List.nil_append, List.drop_succ_cons, List.drop_zero, ax_qq_eq, ax_t_128, w0, ax_bi, h1, kx_cat0, z6, y6, z12, y12, z1000, y1000, t0, t1, t2, t3, tc, tb, tz, tl, nf, N3, alk, ax_up_same, ax_up_ne, ne_eq, Nat.reduceEqDiff, not_false_eq_true]
    refine ax_inv_c (n' := 31) (sl' := 3367) (Nat.le_of_ble_eq_true rfl) (Nat.le_of_ble_eq_true rfl) rfl trivial (by decide) (by decide) (by decide) (by decide) (cn_law (q := 28) (c := 27) (by decide) (ax_up_same ..) ?_)
    rintro es2 ⟨l1, l2, l3⟩ f2
    have v0 : es2 21 = .inr (1, [.int 0, .int 0, .ref 22, .ref 23, .ref 24, .ref 25, .ref 26, .int 0, .ref 27, .null, .null, .int 0]) := by rw [f2 21 (by decide), ax_up_ne _ _ (by decide)]; exact w0
    simp only [ax_W_cons, ax_I, ax_cmp, ax_ii, ax_ll, ax_li, ax_st1, ax_st2, ax_kl, ax_k2, ax_fit, ax_rtok, List.getElem?_cons_zero, List.getElem?_cons_succ, List.length_cons, List.length_nil, List.set_cons_zero, List.set_cons_succ, Nat.reduceAdd, Nat.reduceDiv, Nat.reduceMod, Nat.reduceMul, Nat.reduceLT, Nat.reduceLeDiff, Int32.reduceOfInt, Int64.reduceOfInt, true_and, and_true, and_self, true_or, or_true, false_implies, true_implies, not_false_eq_true, not_true_eq_false, Value.category, Nat.reduceEqDiff, Option.toList, List.cons_append, List.nil_append, List.drop_succ_cons, List.drop_zero, ax_qq_eq, ax_t_128, v0, ax_bi, h1, kx_cat0, z6, y6, z12, y12, z1000, y1000, t0, t1, t2, t3, tc, tb, tz, tl, nf, N3, alk, ax_up_same, ax_up_ne, ne_eq, Nat.reduceEqDiff, not_false_eq_true]
    refine ax_inv_c (n' := 34) (sl' := 3408) (Nat.le_of_ble_eq_true rfl) (Nat.le_of_ble_eq_true rfl) rfl trivial (by decide) (by decide) (by decide) (by decide) (cn_law (q := 31) (c := 27) (by decide) (ax_up_same ..) ?_)
    rintro es3 ⟨k1, k2, k3⟩ f3
    have g3 : ∀ j, j ≠ 21 → j < 31 ∨ 33 < j → es3 j = es2 j := fun j a b => by rw [f3 j b, ax_up_ne _ _ (by omega), ax_up_ne _ _ a]
    have g2 : ∀ j, j < 28 ∨ 30 < j → j ≠ 28 → es2 j = es1 j := fun j a b => by rw [f2 j a, ax_up_ne _ _ b]
    have u0 : es3 21 = .inr (1, [.int 0, .int 0, .ref 22, .ref 23, .ref 24, .ref 25, .ref 26, .int 0, .ref 27, .ref 28, .null, .int 0]) := by rw [f3 21 (by decide), ax_up_ne _ _ (by decide), ax_up_same]
    simp only [ax_W_cons, ax_I, ax_cmp, ax_ii, ax_ll, ax_li, ax_st1, ax_st2, ax_kl, ax_k2, ax_fit, ax_rtok, List.getElem?_cons_zero, List.getElem?_cons_succ, List.length_cons, List.length_nil, List.set_cons_zero, List.set_cons_succ, Nat.reduceAdd, Nat.reduceDiv, Nat.reduceMod, Nat.reduceMul, Nat.reduceLT, Nat.reduceLeDiff, Int32.reduceOfInt, Int64.reduceOfInt, true_and, and_true, and_self, true_or, or_true, false_implies, true_implies, not_false_eq_true, not_true_eq_false, Value.category, Nat.reduceEqDiff, Option.toList, List.cons_append, List.nil_append, List.drop_succ_cons, List.drop_zero, ax_qq_eq, ax_t_128, u0, ax_bi, h1, kx_cat0, z6, y6, z12, y12, z1000, y1000, t0, t1, t2, t3, tc, tb, tz, tl, nf, N3, alk, ax_up_same, ax_up_ne, ne_eq, Nat.reduceEqDiff, not_false_eq_true]
    have e5 : ∀ e j, j ≠ 21 → ax_up es3 21 e j = es3 j := fun e j hj => ax_up_ne _ _ hj
    exact hQ _ ⟨ax_up_same .., (e5 _ 22 (by decide)).trans ((g3 22 (by decide) (by decide)).trans ((g2 22 (by decide) (by decide)).trans w1)), (e5 _ 23 (by decide)).trans ((g3 23 (by decide) (by decide)).trans ((g2 23 (by decide) (by decide)).trans w2)), (e5 _ 24 (by decide)).trans ((g3 24 (by decide) (by decide)).trans ((g2 24 (by decide) (by decide)).trans w3)), (e5 _ 25 (by decide)).trans ((g3 25 (by decide) (by decide)).trans ((g2 25 (by decide) (by decide)).trans w4)), (e5 _ 26 (by decide)).trans ((g3 26 (by decide) (by decide)).trans ((g2 26 (by decide) (by decide)).trans w5)), (e5 _ 27 (by decide)).trans ((g3 27 (by decide) (by decide)).trans ((g2 27 (by decide) (by decide)).trans w6)), (e5 _ 28 (by decide)).trans ((g3 28 (by decide) (by decide)).trans l1), (e5 _ 29 (by decide)).trans ((g3 29 (by decide) (by decide)).trans l2), (e5 _ 30 (by decide)).trans ((g3 30 (by decide) (by decide)).trans l3), (e5 _ 31 (by decide)).trans k1, (e5 _ 32 (by decide)).trans k2, (e5 _ 33 (by decide)).trans k3⟩ (fun j hj => (e5 _ j (by omega)).trans ((g3 j (by omega) (by omega)).trans ((g2 j (by omega) (by omega)).trans (fr j hj))))
  refine key _ ?_ ?_ ?_ ?_ ?_ ?_ ?_ (fun j hj => ?_)
  · exact ax_up_same ..
  · simp only [ax_up_same, ax_up_ne, ne_eq, Nat.reduceEqDiff, not_false_eq_true]
  · simp only [ax_up_same, ax_up_ne, ne_eq, Nat.reduceEqDiff, not_false_eq_true]
  · simp only [ax_up_same, ax_up_ne, ne_eq, Nat.reduceEqDiff, not_false_eq_true]
  · simp only [ax_up_same, ax_up_ne, ne_eq, Nat.reduceEqDiff, not_false_eq_true]
  · simp only [ax_up_same, ax_up_ne, ne_eq, Nat.reduceEqDiff, not_false_eq_true]
  · simp only [ax_up_same, ax_up_ne, ne_eq, Nat.reduceEqDiff, not_false_eq_true]
  · repeat rw [ax_up_ne _ _ (by omega)]
end CC
