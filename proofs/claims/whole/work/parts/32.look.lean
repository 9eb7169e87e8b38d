/-! Seer: look, reach, swap -/
/-- as ksf, but for the tally -/
def ksg (es es' : ax_H) : Prop := ∀ j, (j ≠ 11 ∧ j ≠ 12 ∧ j ≠ 14 ∧ j ≠ 15 ∧ (j < 147 ∨ 158 < j)) → es' j = es j
theorem ksf_ksg {a b : ax_H} (h : ksf a b) : ksg a b := fun j hj => h j (by omega)
theorem ksg_trans {a b c : ax_H} (h1 : ksg a b) (h2 : ksg b c) : ksg a c := fun j hj => (h2 j hj).trans (h1 j hj)
theorem kC_sg {es es' : ax_H} {k p hc : Nat} {kd pl ht hs : Nat → Int32} {F1 F2 : Int32 → Int32 → Int32 → Int32 → Int32} (h : kC es k p hc kd pl ht hs F1 F2) (hf : ksg es es') : kC es' k p hc kd pl ht hs F1 F2 := by
  obtain ⟨once, nm, code, a1, b1, a2, b2, c3, c4, c5, c6, c7, c8, c9, c10, c13, L⟩ := h
  have e : ∀ j, j ≤ 13 → j ≠ 11 → j ≠ 12 → es' j = es j := fun j a b c => hf j (by omega)
  exact ⟨once, nm, code, a1, b1, a2, b2, by rw [e 3 (by decide) (by decide) (by decide)]; exact c3, by rw [e 4 (by decide) (by decide) (by decide)]; exact c4, by rw [e 5 (by decide) (by decide) (by decide)]; exact c5, by rw [e 6 (by decide) (by decide) (by decide)]; exact c6, by rw [e 7 (by decide) (by decide) (by decide)]; exact c7, by rw [e 8 (by decide) (by decide) (by decide)]; exact c8, by rw [e 9 (by decide) (by decide) (by decide)]; exact c9, by rw [e 10 (by decide) (by decide) (by decide)]; exact c10, by rw [e 13 (by decide) (by decide) (by decide)]; exact c13, L⟩
theorem kb_sg {es es' : ax_H} {n q k p : Nat} {t cr : Int32} {sh pl dn : Nat → Int32} (hq : 15 < q ∧ q + 3 < 147) (h : kb es n q k p t cr sh pl dn) (hf : ksg es es') : kb es' n q k p t cr sh pl dn := kb_fr h (fun j hj => hf j (by omega))
theorem kf_sg {es es' : ax_H} {n u z : Nat} {fc fb fs : Nat → Int32} (hu : 15 < u ∧ u + 3 < 147) (h : kf es n u z fc fb fs) (hf : ksg es es') : kf es' n u z fc fb fs := by
  obtain ⟨h1, h2, h3, h4, h5, h6⟩ := h
  exact ⟨h1, by rw [hf u (by omega)]; exact h2, by rw [hf (u + 1) (by omega)]; exact h3, by rw [hf (u + 2) (by omega)]; exact h4, by rw [hf (u + 3) (by omega)]; exact h5, h6⟩
def kx_tal (sh ty : Nat → Int32) : Nat → (Nat → Int32)
  | 0 => ty
  | m + 1 => upd (kx_tal sh ty m) (m * 100 + (sh m).toNatClampNeg) (kx_tal sh ty m (m * 100 + (sh m).toNatClampNeg) + 1)
def kx_gt (ty : Nat → Int32) (c : Nat) : Nat → Int32
  | 0 => 0
  | m + 1 => kx_max (kx_gt ty c m) (ty (c * 100 + m))
/-- all, and the tally, over the forces -/
def kx_l1 (P : Nat → Nat → Bool) (S : Nat → Nat → Nat → Int32) (k w : Nat) (a : Int32 × (Nat → Int32)) : Nat → Int32 × (Nat → Int32)
  | 0 => a
  | m + 1 => if P w (m + 1) = true then ((kx_l1 P S k w a m).1 + 1, kx_tal (S w (m + 1)) (kx_l1 P S k w a m).2 k) else kx_l1 P S k w a m
def kx_l2 (P : Nat → Nat → Bool) (S : Nat → Nat → Nat → Int32) (k : Nat) : Nat → Int32 × (Nat → Int32)
  | 0 => (0, fun _ => 0)
  | m + 1 => kx_l1 P S k m (kx_l2 P S k m) 20
/-- least and found -/
def kx_l3 (G : Nat → Int32) (a : Int32) : Nat → Int32 × Int32
  | 0 => (a, -1)
  | m + 1 => if G m < (kx_l3 G a m).1 then (G m, nI m) else kx_l3 G a m
section KS
variable {d n sl k p hc z : Nat} {es : ax_H} {kd pl0 ht hs : Nat → Int32} {F1 F2 : Int32 → Int32 → Int32 → Int32 → Int32} {T : Nat} {cr : Int32} {sh pl dn fc fb fs : Nat → Int32}
theorem kW_sg {es' : ax_H} (h : kW es n k p hc kd pl0 ht hs F1 F2 T cr sh pl dn) (hf : ksg es es') : kW es' n k p hc kd pl0 ht hs F1 F2 T cr sh pl dn := by
  obtain ⟨h1, h2, h3, h4, h5, h6, h7, h8, h9⟩ := h
  exact ⟨h1, h2, h3, h4, h5, h6, h7, kC_sg h8 hf, kb_sg (by omega) h9 hf⟩
theorem kSe_up {ty : Nat → Int32} (h : kSe es n F1) : kSe (ax_up es 158 (.inl (0, 1200, .inl ty))) n F1 := by
  obtain ⟨⟨p0, ⟨ps1, pg1, p1, p2⟩, ⟨ps2, pg2, p3, p4⟩, ⟨pah, p5, p6⟩, pfd, p7, p8⟩, ⟨⟨dr, h1⟩, ⟨k, p, t, cr, sh, pl, dn, h2⟩, ty0, h3⟩, k', p', t', cr', sh', pl', dn', h4⟩ := h
  refine ⟨⟨?_, ⟨ps1, pg1, ?_, ?_⟩, ⟨ps2, pg2, ?_, ?_⟩, ⟨pah, ?_, p6⟩, pfd, ?_, p8⟩, ⟨⟨dr, ?_⟩, ⟨k, p, t, cr, sh, pl, dn, kb_fr h2 (fun j hj => ax_up_ne _ _ (by omega))⟩, ty, ax_up_same ..⟩, k', p', t', cr', sh', pl', dn', kb_fr h4 (fun j hj => ax_up_ne _ _ (by omega))⟩
  all_goals rw [ax_up_ne _ _ (by decide)]; assumption
theorem ck_tallyTrial (hal : ax_al n = 178) (hk : k ≤ 12) {t : Int32} {ty : Nat → Int32} (hty : es 158 = .inl (0, 1200, .inl ty)) (hS : kSe es n F1) (hsh : ks sh) (hb : kb es n 150 k p t cr sh pl dn) : ax_Mt d 1038 [.ref 149] n sl es (fun r es' => r = none ∧ es' = ax_up es 158 (.inl (0, 1200, .inl (kx_tal sh ty k)))) := by
  obtain ⟨dr, h149⟩ := hS.2.1.1
  obtain ⟨-, h0, h1, -⟩ := hb
  have g149 : ∀ x, ax_up es 158 x 149 = _ := fun x => (ax_up_ne es x (by decide)).trans h149
  have g150 : ∀ x, ax_up es 158 x 150 = _ := fun x => (ax_up_ne es x (by decide)).trans h0
  have g151 : ∀ x, ax_up es 158 x 151 = _ := fun x => (ax_up_ne es x (by decide)).trans h1
  have guu : ∀ x y, ax_up (ax_up es 158 x) 158 y = ax_up es 158 y := fun x y => by
    funext j
    unfold ax_up
    split <;> rfl
  refine ax_Mt_start (m := ax_m_8_14) (ls := [some (.ref 149), none]) rfl ax_b_1038_0 (Nat.le_of_ble_eq_true rfl) rfl ?_
  simp only [ax_W_cons, ax_I, ax_cmp, ax_ii, ax_ll, ax_li, ax_st1, ax_st2, ax_kl, ax_k2, ax_fit, ax_rtok, List.getElem?_cons_zero, List.getElem?_cons_succ, List.length_cons, List.length_nil, List.set_cons_zero, List.set_cons_succ, Nat.reduceAdd, Nat.reduceDiv, Nat.reduceMod, Nat.reduceMul, Nat.reduceLT, Nat.reduceLeDiff, Int32.reduceOfInt, Int64.reduceOfInt, true_and, and_true, and_self, true_or, or_true, false_implies, true_implies, not_false_eq_true, not_true_eq_false, Value.category, Nat.reduceEqDiff, Option.toList, List.cons_append, List.nil_append, List.drop_succ_cons, List.drop_zero, ax_t_1038]
  rw [ax_n_1038_2]
  have L := kx_loop (k := k) (I := fun c => ax_W d n sl 1038 [(1, .iload 1), (1, .aload 0), (3, .getfield 2062), (3, .getfield 0), (3, .if_icmp .ge 42), (1, .aload 0), (3, .getfield 2070), (1, .iload 1), (2, .iconst 100), (1, .imul), (1, .aload 0), (3, .getfield 2062), (3, .getfield 18), (1, .iload 1), (1, .iaload), (1, .iadd), (1, .dup2), (1, .iaload), (1, .iconst 1), (1, .iadd), (1, .iastore), (3, .iinc 1 1), (3, .goto 2)] 2 [some (.ref 149), some (.int (nI c))] [] n sl (ax_up es 158 (.inl (0, 1200, .inl (kx_tal sh ty c)))) (fun r n' sl' es' => n' = n ∧ sl' = sl ∧ r = none ∧ es' = ax_up es 158 (.inl (0, 1200, .inl (kx_tal sh ty k))))) ?_ ?_
  · have e9 : ax_up es 158 (.inl (0, 1200, .inl (kx_tal sh ty 0))) = es := by
      funext j
      unfold ax_up
      split
      · next h => rw [h]; exact hty.symm
      · rfl
    rw [e9] at L
    exact L
  · have e0 := kx_nn (k := k) (by omega)
    simp only [ax_W_cons, ax_I, ax_cmp, ax_ii, ax_ll, ax_li, ax_st1, ax_st2, ax_kl, ax_k2, ax_fit, ax_rtok, List.getElem?_cons_zero, List.getElem?_cons_succ, List.length_cons, List.length_nil, List.set_cons_zero, List.set_cons_succ, Nat.reduceAdd, Nat.reduceDiv, Nat.reduceMod, Nat.reduceMul, Nat.reduceLT, Nat.reduceLeDiff, Int32.reduceOfInt, Int64.reduceOfInt, true_and, and_true, and_self, true_or, or_true, false_implies, true_implies, not_false_eq_true, not_true_eq_false, Value.category, Nat.reduceEqDiff, Option.toList, List.cons_append, List.nil_append, List.drop_succ_cons, List.drop_zero, ax_t_1038, ax_j_1038_42, ax_n_1038_42, g149, g150, kb_o, hal, e0]
  · intro c hc2 ih
    obtain ⟨e1, e2, e3, e4⟩ := kx_ix hc2 hk (by decide)
    obtain ⟨v, hv, ev⟩ := hsh c (by omega)
    have e5 : nI c * 100 + nI v = nI (c * 100 + v) := by
      show nI c * nI 100 + nI v = _
      rw [kn_mul, kn_add]
    have e6 : vp_in (nI (c * 100 + v)) 1200 := nI_in (by omega) (by decide)
    have e7 : (nI (c * 100 + v)).toNatClampNeg = c * 100 + v := nI_clamp (by omega)
    have e8 : (nI v).toNatClampNeg = v := nI_clamp (by omega)
    rw [kx_tal, ev, e8] at ih
    simp only [ax_W_cons, ax_I, ax_cmp, ax_ii, ax_ll, ax_li, ax_st1, ax_st2, ax_kl, ax_k2, ax_fit, ax_rtok, List.getElem?_cons_zero, List.getElem?_cons_succ, List.length_cons, List.length_nil, List.set_cons_zero, List.set_cons_succ, Nat.reduceAdd, Nat.reduceDiv, Nat.reduceMod, Nat.reduceMul, Nat.reduceLT, Nat.reduceLeDiff, Int32.reduceOfInt, Int64.reduceOfInt, true_and, and_true, and_self, true_or, or_true, false_implies, true_implies, not_false_eq_true, not_true_eq_false, Value.category, Nat.reduceEqDiff, Option.toList, List.cons_append, List.nil_append, List.drop_succ_cons, List.drop_zero, ax_t_1038, g149, g150, g151, guu, kb_o, kb_a, ax_up_same, hal, e1, e2, e3, e4, ev, e5, e6, e7]
    rw [ax_j_1038_2]
    exact ih
theorem ck_greatestTally (hd : 1 ≤ d) (hal : ax_al n = 178) {ty : Nat → Int32} (hty : es 158 = .inl (0, 1200, .inl ty)) (hS : kSe es n F1) {c : Nat} (hc2 : c < 12) : ax_Mt d 1039 [.ref 149, .int (nI c)] n sl es (fun r es' => r = some (.int (kx_gt ty c 100)) ∧ es' = es) := by
  obtain ⟨d, rfl⟩ : ∃ z, d = z + 1 := ⟨d - 1, by omega⟩
  obtain ⟨dr, h149⟩ := hS.2.1.1
  refine ax_Mt_start (m := ax_m_8_15) (ls := [some (.ref 149), some (.int (nI c)), none, none]) rfl ax_b_1039_0 (Nat.le_of_ble_eq_true rfl) rfl ?_
  simp only [ax_W_cons, ax_I, ax_cmp, ax_ii, ax_ll, ax_li, ax_st1, ax_st2, ax_kl, ax_k2, ax_fit, ax_rtok, List.getElem?_cons_zero, List.getElem?_cons_succ, List.length_cons, List.length_nil, List.set_cons_zero, List.set_cons_succ, Nat.reduceAdd, Nat.reduceDiv, Nat.reduceMod, Nat.reduceMul, Nat.reduceLT, Nat.reduceLeDiff, Int32.reduceOfInt, Int64.reduceOfInt, true_and, and_true, and_self, true_or, or_true, false_implies, true_implies, not_false_eq_true, not_true_eq_false, Value.category, Nat.reduceEqDiff, Option.toList, List.cons_append, List.nil_append, List.drop_succ_cons, List.drop_zero, ax_t_1039]
  rw [ax_n_1039_4]
  refine kx_loop (k := 100) (I := fun j => ax_W (d + 1) n sl 1039 [(1, .iload 3), (2, .iconst 99), (3, .if_icmp .gt 32), (1, .iload 2), (1, .aload 0), (3, .getfield 2070), (1, .iload 1), (2, .iconst 100), (1, .imul), (1, .iload 3), (1, .iadd), (1, .iaload), (3, .invokeinterface 1665 8), (1, .istore 2), (3, .iinc 3 1), (3, .goto 4)] 4 [some (.ref 149), some (.int (nI c)), some (.int (kx_gt ty c j)), some (.int (nI j))] [] n sl es (fun r n' sl' es' => n' = n ∧ sl' = sl ∧ r = some (.int (kx_gt ty c 100)) ∧ es' = es)) ?_ ?_
  · have e1 : (99 : Int32) < nI 100 := by decide
    simp only [ax_W_cons, ax_I, ax_cmp, ax_ii, ax_ll, ax_li, ax_st1, ax_st2, ax_kl, ax_k2, ax_fit, ax_rtok, List.getElem?_cons_zero, List.getElem?_cons_succ, List.length_cons, List.length_nil, List.set_cons_zero, List.set_cons_succ, Nat.reduceAdd, Nat.reduceDiv, Nat.reduceMod, Nat.reduceMul, Nat.reduceLT, Nat.reduceLeDiff, Int32.reduceOfInt, Int64.reduceOfInt, true_and, and_true, and_self, true_or, or_true, false_implies, true_implies, not_false_eq_true, not_true_eq_false, Value.category, Nat.reduceEqDiff, Option.toList, List.cons_append, List.nil_append, List.drop_succ_cons, List.drop_zero, ax_t_1039, ax_j_1039_32, ax_n_1039_32, e1]
  · intro j hj ih
    have e1 : ¬ (99 : Int32) < nI j := nI_nlt (a := 99) (by omega) (by decide)
    have e4 : nI j + 1 = nI (j + 1) := (nI_succ j).symm
    have e5 : nI c * 100 + nI j = nI (c * 100 + j) := by
      show nI c * nI 100 + nI j = _
      rw [kn_mul, kn_add]
    have e6 : vp_in (nI (c * 100 + j)) 1200 := nI_in (by omega) (by decide)
    have e7 : (nI (c * 100 + j)).toNatClampNeg = c * 100 + j := nI_clamp (by omega)
    simp only [ax_W_cons, ax_I, ax_cmp, ax_ii, ax_ll, ax_li, ax_st1, ax_st2, ax_kl, ax_k2, ax_fit, ax_rtok, List.getElem?_cons_zero, List.getElem?_cons_succ, List.length_cons, List.length_nil, List.set_cons_zero, List.set_cons_succ, Nat.reduceAdd, Nat.reduceDiv, Nat.reduceMod, Nat.reduceMul, Nat.reduceLT, Nat.reduceLeDiff, Int32.reduceOfInt, Int64.reduceOfInt, true_and, and_true, and_self, true_or, or_true, false_implies, true_implies, not_false_eq_true, not_true_eq_false, Value.category, Nat.reduceEqDiff, Option.toList, List.cons_append, List.nil_append, List.drop_succ_cons, List.drop_zero, ax_t_1039, h149, hty, hal, e1, e5, e6, e7]
    refine ax_inv_eq (Nat.le_of_ble_eq_true rfl) (Nat.le_of_ble_eq_true rfl) (fun _ => absurd ‹_› (by decide)) (fun h => absurd h (by decide)) (Nat.le_refl _) (Nat.le_refl _) (ck_max d n sl _ (kx_gt ty c j) (ty (c * 100 + j))) ?_
    simp only [ax_W_cons, ax_I, ax_cmp, ax_ii, ax_ll, ax_li, ax_st1, ax_st2, ax_kl, ax_k2, ax_fit, ax_rtok, List.getElem?_cons_zero, List.getElem?_cons_succ, List.length_cons, List.length_nil, List.set_cons_zero, List.set_cons_succ, Nat.reduceAdd, Nat.reduceDiv, Nat.reduceMod, Nat.reduceMul, Nat.reduceLT, Nat.reduceLeDiff, Int32.reduceOfInt, Int64.reduceOfInt, true_and, and_true, and_self, true_or, or_true, false_implies, true_implies, not_false_eq_true, not_true_eq_false, Value.category, Nat.reduceEqDiff, Option.toList, List.cons_append, List.nil_append, List.drop_succ_cons, List.drop_zero, ax_t_1039, e4]
    rw [ax_j_1039_4]
    exact ih
theorem ck_bestFeel (hd : 7 ≤ d) (hS : kSe es n F1) (hW : kW es n k p hc kd pl0 ht hs F1 F2 T cr sh pl dn) (hi : kfi z fc fb) (hF : kf es n 42 z fc fb fs) {m : Nat} (hm : m ≤ 100) : ax_Mt d 1037 [.ref 149, .int (nI m)] n sl es (fun r es' => r = some (.int (kx_l3 (fun w => kx_gt (kx_l2 (kx_way F1 k cr hs hc T sh fc fb fs z) (fun w f => kx_dr F1 k cr hs hc T (kx_push sh (nI w) (nI f)) m) k k).2 w 100) (kx_l2 (kx_way F1 k cr hs hc T sh fc fb fs z) (fun w f => kx_dr F1 k cr hs hc T (kx_push sh (nI w) (nI f)) m) k k).1 k).2) ∧ kSe es' n F1 ∧ ksg es es') := by
  obtain ⟨d, rfl⟩ : ∃ z, d = z + 1 := ⟨d - 1, by omega⟩
  obtain ⟨hal, hk, hp, hhs, hsh, hpl, hT, hC, hb⟩ := id hW
  obtain ⟨dr, h149⟩ := hS.2.1.1
  obtain ⟨ty0, h158⟩ := hS.2.1.2.2
  generalize hP : kx_way F1 k cr hs hc T sh fc fb fs z = P
  generalize hQ : (fun w f => kx_dr F1 k cr hs hc T (kx_push sh (nI w) (nI f)) m) = S
  refine ax_Mt_start (m := ax_m_8_13) (ls := [some (.ref 149), some (.int (nI m)), none, none, none, none, none]) rfl ax_b_1037_0 (Nat.le_of_ble_eq_true rfl) rfl ?_
  simp only [ax_W_cons, ax_I, ax_cmp, ax_ii, ax_ll, ax_li, ax_st1, ax_st2, ax_kl, ax_k2, ax_fit, ax_rtok, List.getElem?_cons_zero, List.getElem?_cons_succ, List.length_cons, List.length_nil, List.set_cons_zero, List.set_cons_succ, Nat.reduceAdd, Nat.reduceDiv, Nat.reduceMod, Nat.reduceMul, Nat.reduceLT, Nat.reduceLeDiff, Int32.reduceOfInt, Int64.reduceOfInt, true_and, and_true, and_self, true_or, or_true, false_implies, true_implies, not_false_eq_true, not_true_eq_false, Value.category, Nat.reduceEqDiff, Option.toList, List.cons_append, List.nil_append, List.drop_succ_cons, List.drop_zero, ax_t_1037, h149, hal]
  refine ax_inv_eq (Nat.le_of_ble_eq_true rfl) (Nat.le_of_ble_eq_true rfl) (fun _ => absurd ‹_› (by decide)) (fun h => absurd h (by decide)) (Nat.le_refl _) (Nat.le_refl _) (ck_fill d n sl 158 1200 _ ty0 0 (by omega) h158 (by decide)) ?_
  simp only [ax_W_cons, ax_I, ax_cmp, ax_ii, ax_ll, ax_li, ax_st1, ax_st2, ax_kl, ax_k2, ax_fit, ax_rtok, List.getElem?_cons_zero, List.getElem?_cons_succ, List.length_cons, List.length_nil, List.set_cons_zero, List.set_cons_succ, Nat.reduceAdd, Nat.reduceDiv, Nat.reduceMod, Nat.reduceMul, Nat.reduceLT, Nat.reduceLeDiff, Int32.reduceOfInt, Int64.reduceOfInt, true_and, and_true, and_self, true_or, or_true, false_implies, true_implies, not_false_eq_true, not_true_eq_false, Value.category, Nat.reduceEqDiff, Option.toList, List.cons_append, List.nil_append, List.drop_succ_cons, List.drop_zero, ax_t_1037]
  rw [ax_n_1037_12]
  have L := kx_loop (k := k) (I := fun w => ∀ v4 es1 ty1, kSe es1 n F1 → ksg es es1 → es1 158 = .inl (0, 1200, .inl ty1) → (∀ j, j < 1200 → ty1 j = (kx_l2 P S k w).2 j) → ax_W (d + 1) n sl 1037 [(1, .iload 3), (1, .aload 0), (3, .getfield 2054), (3, .getfield 0), (3, .if_icmp .ge 81), (1, .iconst 1), (2, .istore 4)] 12 [some (.ref 149), some (.int (nI m)), some (.int (kx_l2 P S k w).1), some (.int (nI w)), v4, none, none] [] n sl es1 (fun r n' sl' es' => n' = n ∧ sl' = sl ∧ r = some (.int (kx_l3 (fun w => kx_gt (kx_l2 P S k k).2 w 100) (kx_l2 P S k k).1 k).2) ∧ kSe es' n F1 ∧ ksg es es')) ?_ ?_
  · trace_state
    sorry
  · sorry
  · sorry
end KS
