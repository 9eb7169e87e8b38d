/-! what the constructors make -/
def ax_Mc (d M : Nat) (args : List Value) (n sl n' sl' : Nat) (es : ax_H) (Q : ax_H → Prop) : Prop := ∃ (m : ax_M) (code : List (Nat × Instr)), ax_m M = some m ∧ ax_blk M 0 = some code ∧ (ax_ent args).length ≤ m.2.2.1 ∧ ax_W d n' sl' M code 0 (ax_pad (ax_ent args) m.2.2.1) [] n sl es (fun r n1 sl1 es1 => n1 = n' ∧ sl1 = sl' ∧ r = none ∧ Q es1)
theorem ax_Mc_go {d M : Nat} {args : List Value} {n sl n' sl' : Nat} {es : ax_H} {Q : ax_H → Prop} {m : ax_M} {code : List (Nat × Instr)} {ls : ax_L} (hm : ax_m M = some m) (hb : ax_blk M 0 = some code) (hl : (ax_ent args).length ≤ m.2.2.1) (hp : ax_pad (ax_ent args) m.2.2.1 = ls) (h : ax_W d n' sl' M code 0 ls [] n sl es (fun r n1 sl1 es1 => n1 = n' ∧ sl1 = sl' ∧ r = none ∧ Q es1)) : ax_Mc d M args n sl n' sl' es Q := ⟨m, code, hm, hb, hl, by rw [hp]; exact h⟩
theorem ax_inv_c {d nb sb M c : Nat} {st : List Value} {n sl n' sl' : Nat} {es : ax_H} {K : List Value → Nat → Nat → ax_H → Prop} (h1 : c / 4 ≤ st.length) (h2 : ax_cat (st.drop (c / 4)) ≤ 8) (h3 : c % 4 = 2) (h4 : ax_rcv2 (st.take (c / 4)).reverse) (hn : n ≤ n') (hs : sl ≤ sl') (hnb : n' ≤ nb) (hsb : sl' ≤ sb) (h : ax_Mc d M (st.take (c / 4)).reverse n sl n' sl' es (fun es' => K (st.drop (c / 4)) n' sl' es')) : ax_inv ax_W (d + 1) nb sb M c st n sl es K := by
  obtain ⟨m, code, k1, k2, k3, k4⟩ := h
  refine ⟨h1, h2, fun z => by omega, fun _ => h4, d, n', sl', _, m, code, rfl, hnb, hsb, hn, hs, k1, k2, k3, k4, ?_⟩
  rintro r n1 sl1 es' ⟨rfl, rfl, rfl, hk⟩
  exact ⟨rfl, rfl, hk⟩
theorem alk {n : Nat} (h : n ≤ 178) : ax_al n = n := by
  unfold ax_al
  rw [show ax_NF = 178 from rfl]
  omega
section CC
variable {d sl q : Nat} {es : ax_H} {Q : ax_H → Prop}
theorem cn_bowl (hq : q + 4 ≤ 178) (he : es q = .inr (0, ax_df 0)) (hQ : ∀ es', kb es' (q + 4) q 0 0 0 0 (fun _ => 0) (fun _ => 0) (fun _ => 0) → (∀ j, (j < q ∨ q + 3 < j) → es' j = es j) → Q es') : ax_Mc (d + 1) 0 [.ref q] (q + 1) sl (q + 4) (sl + 24) es Q := by
  have h1 : 1 ≤ d + 1 := by omega
  have df : ax_df 0 = [.int 0, .int 0, .int 0, .int 0, .null, .null, .null] := rfl
  rw [df] at he
  have z6 : (6 : Int32).toNatClampNeg = 6 := rfl
  have y6 : ¬ (6 : Int32) < 0 := by decide
  have z12 : (12 : Int32).toNatClampNeg = 12 := rfl
  have y12 : ¬ (12 : Int32) < 0 := by decide
  have t0 : ax_atag .int = 0 := rfl
  have t1 : ax_atag .byte = 1 := rfl
  have t2 : ax_atag .boolean = 2 := rfl
  have t3 : ax_atag .long = 3 := rfl
  have tc : ax_acon .int = .inl fun _ => 0 := rfl
  have tb : ax_acon .byte = .inl fun _ => 0 := rfl
  have tz : ax_acon .boolean = .inl fun _ => 0 := rfl
  have tl : ax_acon .long = .inr (.inl fun _ => 0) := rfl
  have nf : ax_NF = 178 := rfl
  have l1 : ax_al (q + 1) = q + 1 := alk (by omega)
  have l2 : ax_al (q + 1 + 1) = q + 1 + 1 := alk (by omega)
  have l3 : ax_al (q + 1 + 1 + 1) = q + 1 + 1 + 1 := alk (by omega)
  have l4 : ax_al (q + 1 + 1 + 1 + 1) = q + 1 + 1 + 1 + 1 := alk (by omega)
  have b1 : q + 1 + 1 ≤ 178 := by omega
  have d1 : q + 1 + 1 ≤ q + 4 := by omega
  have g1 : sl + 12 ≤ sl + 24 := by omega
  have k1 : q < q + 1 + 1 := by omega
  have m1 : ∀ es e, ax_up es (q + 1) e q = es q := fun es e => ax_up_ne es e (by omega)
  have b2 : q + 1 + 1 + 1 ≤ 178 := by omega
  have d2 : q + 1 + 1 + 1 ≤ q + 4 := by omega
  have g2 : sl + 12 + 6 ≤ sl + 24 := by omega
  have k2 : q < q + 1 + 1 + 1 := by omega
  have m2 : ∀ es e, ax_up es (q + 1 + 1) e q = es q := fun es e => ax_up_ne es e (by omega)
  have b3 : q + 1 + 1 + 1 + 1 ≤ 178 := by omega
  have d3 : q + 1 + 1 + 1 + 1 ≤ q + 4 := by omega
  have g3 : sl + 12 + 6 + 6 ≤ sl + 24 := by omega
  have k3 : q < q + 1 + 1 + 1 + 1 := by omega
  have m3 : ∀ es e, ax_up es (q + 1 + 1 + 1) e q = es q := fun es e => ax_up_ne es e (by omega)
  have e1 : q + 1 + 1 + 1 + 1 = q + 4 := by omega
  have e2 : sl + 12 + 6 + 6 = sl + 24 := by omega
  refine ax_Mc_go (m := ax_m_0_0) (ls := [some (.ref q)]) rfl ax_b_0_0 (Nat.le_of_ble_eq_true rfl) rfl ?_
  simp only [ax_W_cons, ax_I, ax_cmp, ax_ii, ax_ll, ax_li, ax_st1, ax_st2, ax_kl, ax_k2, ax_fit, ax_rtok, List.getElem?_cons_zero, List.getElem?_cons_succ, List.length_cons, List.length_nil, List.set_cons_zero, List.set_cons_succ, Nat.reduceAdd, Nat.reduceDiv, Nat.reduceMod, Nat.reduceMul, Nat.reduceLT, Nat.reduceLeDiff, Int32.reduceOfInt, Int64.reduceOfInt, true_and, and_true, and_self, true_or, or_true, false_implies, true_implies, not_false_eq_true, not_true_eq_false, Value.category, Nat.reduceEqDiff, Option.toList, List.cons_append, List.nil_append, List.drop_succ_cons, List.drop_zero, ax_qq_eq, ax_t_0, ax_bi, h1, kx_cat0, z6, y6, z12, y12, t0, t1, t2, t3, tc, tb, tz, tl, nf, l1, l2, l3, l4, b1, d1, g1, k1, m1, b2, d2, g2, k2, m2, b3, d3, g3, k3, m3, he, ax_up_same, Nat.le_refl]
  exact hQ _ ⟨by rw [alk (by omega)]; omega, ax_up_same .., by rw [ax_up_ne _ _ (by omega), ax_up_ne _ _ (by omega), ax_up_ne _ _ (by omega), ax_up_ne _ _ (by omega), ax_up_ne _ _ (by omega)]; exact ax_up_same .., by rw [ax_up_ne _ _ (by omega), ax_up_ne _ _ (by omega), ax_up_ne _ _ (by omega)]; exact ax_up_same .., by rw [ax_up_ne _ _ (by omega)]; exact ax_up_same .., kz_0 _, kz_0 _, kz_0 _⟩ (fun j hj => by rw [ax_up_ne _ _ (by omega), ax_up_ne _ _ (by omega), ax_up_ne _ _ (by omega), ax_up_ne _ _ (by omega), ax_up_ne _ _ (by omega), ax_up_ne _ _ (by omega)])
theorem cn_felt (hq : q + 4 ≤ 178) (he : es q = .inr (2, ax_df 2)) (hQ : ∀ es', kfF es' (q + 4) q (0, fun _ => 0, fun _ => 0, fun _ => 0) → (∀ j, (j < q ∨ q + 3 < j) → es' j = es j) → Q es') : ax_Mc (d + 1) 256 [.ref q] (q + 1) sl (q + 4) (sl + 24) es Q := by
  have h1 : 1 ≤ d + 1 := by omega
  have df : ax_df 2 = [.int 0, .null, .null, .null] := rfl
  rw [df] at he
  have z8 : (8 : Int32).toNatClampNeg = 8 := rfl
  have y8 : ¬ (8 : Int32) < 0 := by decide
  have t0 : ax_atag .int = 0 := rfl
  have t1 : ax_atag .byte = 1 := rfl
  have t2 : ax_atag .boolean = 2 := rfl
  have t3 : ax_atag .long = 3 := rfl
  have tc : ax_acon .int = .inl fun _ => 0 := rfl
  have tb : ax_acon .byte = .inl fun _ => 0 := rfl
  have tz : ax_acon .boolean = .inl fun _ => 0 := rfl
  have tl : ax_acon .long = .inr (.inl fun _ => 0) := rfl
  have nf : ax_NF = 178 := rfl
  have l1 : ax_al (q + 1) = q + 1 := alk (by omega)
  have l2 : ax_al (q + 1 + 1) = q + 1 + 1 := alk (by omega)
  have l3 : ax_al (q + 1 + 1 + 1) = q + 1 + 1 + 1 := alk (by omega)
  have l4 : ax_al (q + 1 + 1 + 1 + 1) = q + 1 + 1 + 1 + 1 := alk (by omega)
  have b1 : q + 1 + 1 ≤ 178 := by omega
  have d1 : q + 1 + 1 ≤ q + 4 := by omega
  have g1 : sl + 8 ≤ sl + 24 := by omega
  have k1 : q < q + 1 + 1 := by omega
  have m1 : ∀ es e, ax_up es (q + 1) e q = es q := fun es e => ax_up_ne es e (by omega)
  have b2 : q + 1 + 1 + 1 ≤ 178 := by omega
  have d2 : q + 1 + 1 + 1 ≤ q + 4 := by omega
  have g2 : sl + 8 + 8 ≤ sl + 24 := by omega
  have k2 : q < q + 1 + 1 + 1 := by omega
  have m2 : ∀ es e, ax_up es (q + 1 + 1) e q = es q := fun es e => ax_up_ne es e (by omega)
  have b3 : q + 1 + 1 + 1 + 1 ≤ 178 := by omega
  have d3 : q + 1 + 1 + 1 + 1 ≤ q + 4 := by omega
  have g3 : sl + 8 + 8 + 8 ≤ sl + 24 := by omega
  have k3 : q < q + 1 + 1 + 1 + 1 := by omega
  have m3 : ∀ es e, ax_up es (q + 1 + 1 + 1) e q = es q := fun es e => ax_up_ne es e (by omega)
  have e1 : q + 1 + 1 + 1 + 1 = q + 4 := by omega
  have e2 : sl + 8 + 8 + 8 = sl + 24 := by omega
  refine ax_Mc_go (m := ax_m_2_0) (ls := [some (.ref q)]) rfl ax_b_256_0 (Nat.le_of_ble_eq_true rfl) rfl ?_
  simp only [ax_W_cons, ax_I, ax_cmp, ax_ii, ax_ll, ax_li, ax_st1, ax_st2, ax_kl, ax_k2, ax_fit, ax_rtok, List.getElem?_cons_zero, List.getElem?_cons_succ, List.length_cons, List.length_nil, List.set_cons_zero, List.set_cons_succ, Nat.reduceAdd, Nat.reduceDiv, Nat.reduceMod, Nat.reduceMul, Nat.reduceLT, Nat.reduceLeDiff, Int32.reduceOfInt, Int64.reduceOfInt, true_and, and_true, and_self, true_or, or_true, false_implies, true_implies, not_false_eq_true, not_true_eq_false, Value.category, Nat.reduceEqDiff, Option.toList, List.cons_append, List.nil_append, List.drop_succ_cons, List.drop_zero, ax_qq_eq, ax_t_256, ax_bi, h1, kx_cat0, z8, y8, t0, t1, t2, t3, tc, tb, tz, tl, nf, l1, l2, l3, l4, b1, d1, g1, k1, m1, b2, d2, g2, k2, m2, b3, d3, g3, k3, m3, he, ax_up_same, Nat.le_refl]
  exact hQ _ ⟨by rw [alk (by omega)]; omega, ax_up_same .., by rw [ax_up_ne _ _ (by omega), ax_up_ne _ _ (by omega), ax_up_ne _ _ (by omega), ax_up_ne _ _ (by omega), ax_up_ne _ _ (by omega)]; exact ax_up_same .., by rw [ax_up_ne _ _ (by omega), ax_up_ne _ _ (by omega), ax_up_ne _ _ (by omega)]; exact ax_up_same .., by rw [ax_up_ne _ _ (by omega)]; exact ax_up_same .., kz_0 _, kz_0 _, kz_0 _⟩ (fun j hj => by rw [ax_up_ne _ _ (by omega), ax_up_ne _ _ (by omega), ax_up_ne _ _ (by omega), ax_up_ne _ _ (by omega), ax_up_ne _ _ (by omega), ax_up_ne _ _ (by omega)])
theorem cn_reign (hq : q + 4 ≤ 178) (he : es q = .inr (7, ax_df 7)) (hQ : ∀ es', es' q = .inr (7, [.int 0, .ref (q + 1), .ref (q + 2), .ref (q + 3)]) ∧ es' (q + 1) = .inl (0, 40, .inl fun _ => 0) ∧ es' (q + 2) = .inl (0, 40, .inl fun _ => 0) ∧ es' (q + 3) = .inl (0, 40, .inl fun _ => 0) → (∀ j, (j < q ∨ q + 3 < j) → es' j = es j) → Q es') : ax_Mc (d + 1) 896 [.ref q] (q + 1) sl (q + 4) (sl + 120) es Q := by
  have h1 : 1 ≤ d + 1 := by omega
  have df : ax_df 7 = [.int 0, .null, .null, .null] := rfl
  rw [df] at he
  have z40 : (40 : Int32).toNatClampNeg = 40 := rfl
  have y40 : ¬ (40 : Int32) < 0 := by decide
  have t0 : ax_atag .int = 0 := rfl
  have t1 : ax_atag .byte = 1 := rfl
  have t2 : ax_atag .boolean = 2 := rfl
  have t3 : ax_atag .long = 3 := rfl
  have tc : ax_acon .int = .inl fun _ => 0 := rfl
  have tb : ax_acon .byte = .inl fun _ => 0 := rfl
  have tz : ax_acon .boolean = .inl fun _ => 0 := rfl
  have tl : ax_acon .long = .inr (.inl fun _ => 0) := rfl
  have nf : ax_NF = 178 := rfl
  have l1 : ax_al (q + 1) = q + 1 := alk (by omega)
  have l2 : ax_al (q + 1 + 1) = q + 1 + 1 := alk (by omega)
  have l3 : ax_al (q + 1 + 1 + 1) = q + 1 + 1 + 1 := alk (by omega)
  have l4 : ax_al (q + 1 + 1 + 1 + 1) = q + 1 + 1 + 1 + 1 := alk (by omega)
  have b1 : q + 1 + 1 ≤ 178 := by omega
  have d1 : q + 1 + 1 ≤ q + 4 := by omega
  have g1 : sl + 40 ≤ sl + 120 := by omega
  have k1 : q < q + 1 + 1 := by omega
  have m1 : ∀ es e, ax_up es (q + 1) e q = es q := fun es e => ax_up_ne es e (by omega)
  have b2 : q + 1 + 1 + 1 ≤ 178 := by omega
  have d2 : q + 1 + 1 + 1 ≤ q + 4 := by omega
  have g2 : sl + 40 + 40 ≤ sl + 120 := by omega
  have k2 : q < q + 1 + 1 + 1 := by omega
  have m2 : ∀ es e, ax_up es (q + 1 + 1) e q = es q := fun es e => ax_up_ne es e (by omega)
  have b3 : q + 1 + 1 + 1 + 1 ≤ 178 := by omega
  have d3 : q + 1 + 1 + 1 + 1 ≤ q + 4 := by omega
  have g3 : sl + 40 + 40 + 40 ≤ sl + 120 := by omega
  have k3 : q < q + 1 + 1 + 1 + 1 := by omega
  have m3 : ∀ es e, ax_up es (q + 1 + 1 + 1) e q = es q := fun es e => ax_up_ne es e (by omega)
  have e1 : q + 1 + 1 + 1 + 1 = q + 4 := by omega
  have e2 : sl + 40 + 40 + 40 = sl + 120 := by omega
  refine ax_Mc_go (m := ax_m_7_0) (ls := [some (.ref q)]) rfl ax_b_896_0 (Nat.le_of_ble_eq_true rfl) rfl ?_
  simp only [ax_W_cons, ax_I, ax_cmp, ax_ii, ax_ll, ax_li, ax_st1, ax_st2, ax_kl, ax_k2, ax_fit, ax_rtok, List.getElem?_cons_zero, List.getElem?_cons_succ, List.length_cons, List.length_nil, List.set_cons_zero, List.set_cons_succ, Nat.reduceAdd, Nat.reduceDiv, Nat.reduceMod, Nat.reduceMul, Nat.reduceLT, Nat.reduceLeDiff, Int32.reduceOfInt, Int64.reduceOfInt, true_and, and_true, and_self, true_or, or_true, false_implies, true_implies, not_false_eq_true, not_true_eq_false, Value.category, Nat.reduceEqDiff, Option.toList, List.cons_append, List.nil_append, List.drop_succ_cons, List.drop_zero, ax_qq_eq, ax_t_896, ax_bi, h1, kx_cat0, z40, y40, t0, t1, t2, t3, tc, tb, tz, tl, nf, l1, l2, l3, l4, b1, d1, g1, k1, m1, b2, d2, g2, k2, m2, b3, d3, g3, k3, m3, he, ax_up_same, Nat.le_refl]
  exact hQ _ ⟨ax_up_same .., by rw [ax_up_ne _ _ (by omega), ax_up_ne _ _ (by omega), ax_up_ne _ _ (by omega), ax_up_ne _ _ (by omega), ax_up_ne _ _ (by omega)]; exact ax_up_same .., by rw [ax_up_ne _ _ (by omega), ax_up_ne _ _ (by omega), ax_up_ne _ _ (by omega)]; exact ax_up_same .., by rw [ax_up_ne _ _ (by omega)]; exact ax_up_same ..⟩ (fun j hj => by rw [ax_up_ne _ _ (by omega), ax_up_ne _ _ (by omega), ax_up_ne _ _ (by omega), ax_up_ne _ _ (by omega), ax_up_ne _ _ (by omega), ax_up_ne _ _ (by omega)])
theorem cn_law (hq : q + 3 ≤ 178) {c : Nat} (he : es q = .inr (3, ax_df 3)) (hQ : ∀ es', es' q = .inr (3, [.ref c, .ref (q + 1), .ref (q + 2), .int 0, .int 0]) ∧ es' (q + 1) = .inl (0, 32, .inl fun _ => 0) ∧ es' (q + 2) = .inl (0, 4, .inl fun _ => 0) → (∀ j, (j < q ∨ q + 2 < j) → es' j = es j) → Q es') : ax_Mc (d + 1) 384 [.ref q, .ref c] (q + 1) sl (q + 3) (sl + 36) es Q := by
  have h1 : 1 ≤ d + 1 := by omega
  have df : ax_df 3 = [.null, .null, .null, .int 0, .int 0] := rfl
  rw [df] at he
  have z4 : (4 : Int32).toNatClampNeg = 4 := rfl
  have y4 : ¬ (4 : Int32) < 0 := by decide
  have z32 : (32 : Int32).toNatClampNeg = 32 := rfl
  have y32 : ¬ (32 : Int32) < 0 := by decide
  have t0 : ax_atag .int = 0 := rfl
  have t1 : ax_atag .byte = 1 := rfl
  have t2 : ax_atag .boolean = 2 := rfl
  have t3 : ax_atag .long = 3 := rfl
  have tc : ax_acon .int = .inl fun _ => 0 := rfl
  have tb : ax_acon .byte = .inl fun _ => 0 := rfl
  have tz : ax_acon .boolean = .inl fun _ => 0 := rfl
  have tl : ax_acon .long = .inr (.inl fun _ => 0) := rfl
  have nf : ax_NF = 178 := rfl
  have l1 : ax_al (q + 1) = q + 1 := alk (by omega)
  have l2 : ax_al (q + 1 + 1) = q + 1 + 1 := alk (by omega)
  have l3 : ax_al (q + 1 + 1 + 1) = q + 1 + 1 + 1 := alk (by omega)
  have b1 : q + 1 + 1 ≤ 178 := by omega
  have d1 : q + 1 + 1 ≤ q + 3 := by omega
  have g1 : sl + 32 ≤ sl + 36 := by omega
  have k1 : q < q + 1 + 1 := by omega
  have m1 : ∀ es e, ax_up es (q + 1) e q = es q := fun es e => ax_up_ne es e (by omega)
  have b2 : q + 1 + 1 + 1 ≤ 178 := by omega
  have d2 : q + 1 + 1 + 1 ≤ q + 3 := by omega
  have g2 : sl + 32 + 4 ≤ sl + 36 := by omega
  have k2 : q < q + 1 + 1 + 1 := by omega
  have m2 : ∀ es e, ax_up es (q + 1 + 1) e q = es q := fun es e => ax_up_ne es e (by omega)
  have e1 : q + 1 + 1 + 1 = q + 3 := by omega
  have e2 : sl + 32 + 4 = sl + 36 := by omega
  refine ax_Mc_go (m := ax_m_3_0) (ls := [some (.ref q), some (.ref c)]) rfl ax_b_384_0 (Nat.le_of_ble_eq_true rfl) rfl ?_
  simp only [ax_W_cons, ax_I, ax_cmp, ax_ii, ax_ll, ax_li, ax_st1, ax_st2, ax_kl, ax_k2, ax_fit, ax_rtok, List.getElem?_cons_zero, List.getElem?_cons_succ, List.length_cons, List.length_nil, List.set_cons_zero, List.set_cons_succ, Nat.reduceAdd, Nat.reduceDiv, Nat.reduceMod, Nat.reduceMul, Nat.reduceLT, Nat.reduceLeDiff, Int32.reduceOfInt, Int64.reduceOfInt, true_and, and_true, and_self, true_or, or_true, false_implies, true_implies, not_false_eq_true, not_true_eq_false, Value.category, Nat.reduceEqDiff, Option.toList, List.cons_append, List.nil_append, List.drop_succ_cons, List.drop_zero, ax_qq_eq, ax_t_384, ax_bi, h1, kx_cat0, z4, y4, z32, y32, t0, t1, t2, t3, tc, tb, tz, tl, nf, l1, l2, l3, b1, d1, g1, k1, m1, b2, d2, g2, k2, m2, he, ax_up_same, Nat.le_refl]
  exact hQ _ ⟨ax_up_same .., by rw [ax_up_ne _ _ (by omega), ax_up_ne _ _ (by omega), ax_up_ne _ _ (by omega), ax_up_ne _ _ (by omega)]; exact ax_up_same .., by rw [ax_up_ne _ _ (by omega), ax_up_ne _ _ (by omega)]; exact ax_up_same ..⟩ (fun j hj => by rw [ax_up_ne _ _ (by omega), ax_up_ne _ _ (by omega), ax_up_ne _ _ (by omega), ax_up_ne _ _ (by omega), ax_up_ne _ _ (by omega)])
end CC
