/-! Seer: look, reach, swap -/
def ax_qq (n sl : Nat) (Q : Option Value → ax_H → Prop) : ax_Q := fun r n' sl' es' => n' = n ∧ sl' = sl ∧ Q r es'
theorem ax_qq_eq (n sl : Nat) (Q : Option Value → ax_H → Prop) (r : Option Value) (es : ax_H) : ax_qq n sl Q r n sl es = Q r es := by simp [ax_qq]
theorem ax_Mt_go {d M : Nat} {args : List Value} {n sl : Nat} {es : ax_H} {Q : Option Value → ax_H → Prop} {m : ax_M} {code : List (Nat × Instr)} {ls : ax_L} (hm : ax_m M = some m) (hb : ax_blk M 0 = some code) (hl : (ax_ent args).length ≤ m.2.2.1) (hp : ax_pad (ax_ent args) m.2.2.1 = ls) (h : ax_W d n sl M code 0 ls [] n sl es (ax_qq n sl Q)) : ax_Mt d M args n sl es Q := ⟨m, code, hm, hb, hl, by rw [hp]; exact h⟩
/-- as ksf, but for the tally -/
def ksg (es es' : ax_H) : Prop := ∀ j, (j ≠ 11 ∧ j ≠ 12 ∧ j ≠ 14 ∧ j ≠ 15 ∧ (j < 147 ∨ 158 < j)) → es' j = es j
theorem ksf_ksg {a b : ax_H} (h : ksf a b) : ksg a b := fun j hj => h j (by omega)
theorem ksg_trans {a b c : ax_H} (h1 : ksg a b) (h2 : ksg b c) : ksg a c := fun j hj => (h2 j hj).trans (h1 j hj)
theorem kC_sg {es es' : ax_H} {k p hc : Nat} {kd pl ht hs : Nat → Int32} {F1 F2 : Int32 → Int32 → Int32 → Int32 → Int32} (h : kC es k p hc kd pl ht hs F1 F2) (hf : ksg es es') : kC es' k p hc kd pl ht hs F1 F2 := by
  obtain ⟨once, nm, code, a1, b1, a2, b2, c3, c4, c5, c6, c7, c8, c9, c10, c13, L⟩ := h
  have e : ∀ j, j ≤ 13 → j ≠ 11 → j ≠ 12 → es' j = es j := fun j a b c => hf j (by omega)
  exact ⟨once, nm, code, a1, b1, a2, b2, by rw [e 3 (by decide) (by decide) (by decide)]; exact c3, by rw [e 4 (by decide) (by decide) (by decide)]; exact c4, by rw [e 5 (by decide) (by decide) (by decide)]; exact c5, by rw [e 6 (by decide) (by decide) (by decide)]; exact c6, by rw [e 7 (by decide) (by decide) (by decide)]; exact c7, by rw [e 8 (by decide) (by decide) (by decide)]; exact c8, by rw [e 9 (by decide) (by decide) (by decide)]; exact c9, by rw [e 10 (by decide) (by decide) (by decide)]; exact c10, by rw [e 13 (by decide) (by decide) (by decide)]; exact c13, L⟩
theorem kb_sg {es es' : ax_H} {n q k p : Nat} {t cr : Int32} {sh pl dn : Nat → Int32} (hq : 15 < q ∧ q + 3 < 147) (h : kb es n q k p t cr sh pl dn) (hf : ksg es es') : kb es' n q k p t cr sh pl dn := kb_fr h (fun j hj => hf j (by omega))
theorem kf_sg {es es' : ax_H} {n u z : Nat} {fc fb fs : Nat → Int32} (hu : 15 < u ∧ u + 3 < 147) (h : kf es n u z fc fb fs) (hf : ksg es es') : kf es' n u z fc fb fs := by
  obtain ⟨h1, h2, h3, h4, h5, h6⟩ := h
  exact ⟨h1, by rw [hf u (by omega)]; exact h2, by rw [hf (u + 1) (by omega)]; exact h3, by rw [hf (u + 2) (by omega)]; exact h4, by rw [hf (u + 3) (by omega)]; exact h5, h6⟩
def kx_tal (sh ty : Nat → Int32) : Nat → (Nat → Int32)
  | 0 => ty
  | m + 1 => upd (kx_tal sh ty m) (m * 100 + (sh m).toNatClampNeg) (kx_tal sh ty m (m * 100 + (sh m).toNatClampNeg) + 1)
def kx_gt (ty : Nat → Int32) (c : Nat) : Nat → Int32
  | 0 => 0
  | m + 1 => kx_max (kx_gt ty c m) (ty (c * 100 + m))
/-- all, and the tally, over the forces -/
def kx_l1 (P : Nat → Nat → Bool) (S : Nat → Nat → Nat → Int32) (k w : Nat) (a : Int32 × (Nat → Int32)) : Nat → Int32 × (Nat → Int32)
  | 0 => a
  | m + 1 => if P w (m + 1) = true then ((kx_l1 P S k w a m).1 + 1, kx_tal (S w (m + 1)) (kx_l1 P S k w a m).2 k) else kx_l1 P S k w a m
def kx_l2 (P : Nat → Nat → Bool) (S : Nat → Nat → Nat → Int32) (k : Nat) : Nat → Int32 × (Nat → Int32)
  | 0 => (0, fun _ => 0)
  | m + 1 => kx_l1 P S k m (kx_l2 P S k m) 20
/-- least and found -/
def kx_l3 (G : Nat → Int32) (a : Int32) : Nat → Int32 × Int32
  | 0 => (a, -1)
  | m + 1 => if G m < (kx_l3 G a m).1 then (G m, nI m) else kx_l3 G a m
section KS
variable {d n sl k p hc z : Nat} {es : ax_H} {kd pl0 ht hs : Nat → Int32} {F1 F2 : Int32 → Int32 → Int32 → Int32 → Int32} {T : Nat} {cr : Int32} {sh pl dn fc fb fs : Nat → Int32}
theorem kW_sg {es' : ax_H} (h : kW es n k p hc kd pl0 ht hs F1 F2 T cr sh pl dn) (hf : ksg es es') : kW es' n k p hc kd pl0 ht hs F1 F2 T cr sh pl dn := by
  obtain ⟨h1, h2, h3, h4, h5, h6, h7, h8, h9⟩ := h
  exact ⟨h1, h2, h3, h4, h5, h6, h7, kC_sg h8 hf, kb_sg (by omega) h9 hf⟩
theorem kSe_up {ty : Nat → Int32} (hty : kz 1200 ty) (h : kSe es n F1) : kSe (ax_up es 158 (.inl (0, 1200, .inl ty))) n F1 := by
  obtain ⟨⟨p0, ⟨ps1, pg1, p1, p2⟩, ⟨ps2, pg2, p3, p4⟩, ⟨pah, p5, p6⟩, pfd, p7, p8⟩, ⟨⟨dr, h1⟩, ⟨k, p, t, cr, sh, pl, dn, h2⟩, ty0, h3, h5⟩, k', p', t', cr', sh', pl', dn', h4⟩ := h
  refine ⟨⟨?_, ⟨ps1, pg1, ?_, ?_⟩, ⟨ps2, pg2, ?_, ?_⟩, ⟨pah, ?_, p6⟩, pfd, ?_, p8⟩, ⟨⟨dr, ?_⟩, ⟨k, p, t, cr, sh, pl, dn, kb_fr h2 (fun j hj => ax_up_ne _ _ (by omega))⟩, ty, ax_up_same .., hty⟩, k', p', t', cr', sh', pl', dn', kb_fr h4 (fun j hj => ax_up_ne _ _ (by omega))⟩
  all_goals rw [ax_up_ne _ _ (by decide)]; assumption
theorem ck_tallyTrial (hal : ax_al n = 178) (hk : k ≤ 12) {t : Int32} {ty : Nat → Int32} (hty : es 158 = .inl (0, 1200, .inl ty)) (hS : kSe es n F1) (hsh : ks sh) (hb : kb es n 150 k p t cr sh pl dn) : ax_Mt d 1038 [.ref 149] n sl es (fun r es' => r = none ∧ es' = ax_up es 158 (.inl (0, 1200, .inl (kx_tal sh ty k)))) := by
  obtain ⟨dr, h149⟩ := hS.2.1.1
  obtain ⟨-, h0, h1, -⟩ := hb
  have g149 : ∀ x, ax_up es 158 x 149 = _ := fun x => (ax_up_ne es x (by decide)).trans h149
  have g150 : ∀ x, ax_up es 158 x 150 = _ := fun x => (ax_up_ne es x (by decide)).trans h0
  have g151 : ∀ x, ax_up es 158 x 151 = _ := fun x => (ax_up_ne es x (by decide)).trans h1
  have guu : ∀ x y, ax_up (ax_up es 158 x) 158 y = ax_up es 158 y := fun x y => by
    funext j
    unfold ax_up
    split <;> rfl
  refine ax_Mt_start (m := ax_m_8_14) (ls := [some (.ref 149), none]) rfl ax_b_1038_0 (Nat.le_of_ble_eq_true rfl) rfl ?_
  simp only [ax_W_cons, ax_I, ax_cmp, ax_ii, ax_ll, ax_li, ax_st1, ax_st2, ax_kl, ax_k2, ax_fit, ax_rtok, List.getElem?_cons_zero, List.getElem?_cons_succ, List.length_cons, List.length_nil, List.set_cons_zero, List.set_cons_succ, Nat.reduceAdd, Nat.reduceDiv, Nat.reduceMod, Nat.reduceMul, Nat.reduceLT, Nat.reduceLeDiff, Int32.reduceOfInt, Int64.reduceOfInt, true_and, and_true, and_self, true_or, or_true, false_implies, true_implies, not_false_eq_true, not_true_eq_false, Value.category, Nat.reduceEqDiff, Option.toList, List.cons_append, List.nil_append, List.drop_succ_cons, List.drop_zero, ax_qq_eq, ax_t_1038]
  rw [ax_n_1038_2]
  have L := kx_loop (k := k) (I := fun c => ax_W d n sl 1038 [(1, .iload 1), (1, .aload 0), (3, .getfield 2062), (3, .getfield 0), (3, .if_icmp .ge 42), (1, .aload 0), (3, .getfield 2070), (1, .iload 1), (2, .iconst 100), (1, .imul), (1, .aload 0), (3, .getfield 2062), (3, .getfield 18), (1, .iload 1), (1, .iaload), (1, .iadd), (1, .dup2), (1, .iaload), (1, .iconst 1), (1, .iadd), (1, .iastore), (3, .iinc 1 1), (3, .goto 2)] 2 [some (.ref 149), some (.int (nI c))] [] n sl (ax_up es 158 (.inl (0, 1200, .inl (kx_tal sh ty c)))) (fun r n' sl' es' => n' = n ∧ sl' = sl ∧ r = none ∧ es' = ax_up es 158 (.inl (0, 1200, .inl (kx_tal sh ty k))))) ?_ ?_
  · have e9 : ax_up es 158 (.inl (0, 1200, .inl (kx_tal sh ty 0))) = es := by
      funext j
      unfold ax_up
      split
      · next h => rw [h]; exact hty.symm
      · rfl
    rw [e9] at L
    exact L
  · have e0 := kx_nn (k := k) (by omega)
    simp only [ax_W_cons, ax_I, ax_cmp, ax_ii, ax_ll, ax_li, ax_st1, ax_st2, ax_kl, ax_k2, ax_fit, ax_rtok, List.getElem?_cons_zero, List.getElem?_cons_succ, List.length_cons, List.length_nil, List.set_cons_zero, List.set_cons_succ, Nat.reduceAdd, Nat.reduceDiv, Nat.reduceMod, Nat.reduceMul, Nat.reduceLT, Nat.reduceLeDiff, Int32.reduceOfInt, Int64.reduceOfInt, true_and, and_true, and_self, true_or, or_true, false_implies, true_implies, not_false_eq_true, not_true_eq_false, Value.category, Nat.reduceEqDiff, Option.toList, List.cons_append, List.nil_append, List.drop_succ_cons, List.drop_zero, ax_qq_eq, ax_t_1038, ax_j_1038_42, ax_n_1038_42, g149, g150, kb_o, hal, e0]
  · intro c hc2 ih
    obtain ⟨e1, e2, e3, e4⟩ := kx_ix hc2 hk (by decide)
    obtain ⟨v, hv, ev⟩ := hsh c (by omega)
    have e5 : nI c * 100 + nI v = nI (c * 100 + v) := by
      show nI c * nI 100 + nI v = _
      rw [kn_mul, kn_add]
    have e6 : vp_in (nI (c * 100 + v)) 1200 := nI_in (by omega) (by decide)
    have e7 : (nI (c * 100 + v)).toNatClampNeg = c * 100 + v := nI_clamp (by omega)
    have e8 : (nI v).toNatClampNeg = v := nI_clamp (by omega)
    rw [kx_tal, ev, e8] at ih
    simp only [ax_W_cons, ax_I, ax_cmp, ax_ii, ax_ll, ax_li, ax_st1, ax_st2, ax_kl, ax_k2, ax_fit, ax_rtok, List.getElem?_cons_zero, List.getElem?_cons_succ, List.length_cons, List.length_nil, List.set_cons_zero, List.set_cons_succ, Nat.reduceAdd, Nat.reduceDiv, Nat.reduceMod, Nat.reduceMul, Nat.reduceLT, Nat.reduceLeDiff, Int32.reduceOfInt, Int64.reduceOfInt, true_and, and_true, and_self, true_or, or_true, false_implies, true_implies, not_false_eq_true, not_true_eq_false, Value.category, Nat.reduceEqDiff, Option.toList, List.cons_append, List.nil_append, List.drop_succ_cons, List.drop_zero, ax_qq_eq, ax_t_1038, g149, g150, g151, guu, kb_o, kb_a, ax_up_same, hal, e1, e2, e3, e4, ev, e5, e6, e7]
    rw [ax_j_1038_2]
    exact ih
theorem ck_greatestTally (hd : 1 ≤ d) (hal : ax_al n = 178) {ty : Nat → Int32} (hty : es 158 = .inl (0, 1200, .inl ty)) (hS : kSe es n F1) {c : Nat} (hc2 : c < 12) : ax_Mt d 1039 [.ref 149, .int (nI c)] n sl es (fun r es' => r = some (.int (kx_gt ty c 100)) ∧ es' = es) := by
  obtain ⟨d, rfl⟩ : ∃ z, d = z + 1 := ⟨d - 1, by omega⟩
  obtain ⟨dr, h149⟩ := hS.2.1.1
  refine ax_Mt_start (m := ax_m_8_15) (ls := [some (.ref 149), some (.int (nI c)), none, none]) rfl ax_b_1039_0 (Nat.le_of_ble_eq_true rfl) rfl ?_
  simp only [ax_W_cons, ax_I, ax_cmp, ax_ii, ax_ll, ax_li, ax_st1, ax_st2, ax_kl, ax_k2, ax_fit, ax_rtok, List.getElem?_cons_zero, List.getElem?_cons_succ, List.length_cons, List.length_nil, List.set_cons_zero, List.set_cons_succ, Nat.reduceAdd, Nat.reduceDiv, Nat.reduceMod, Nat.reduceMul, Nat.reduceLT, Nat.reduceLeDiff, Int32.reduceOfInt, Int64.reduceOfInt, true_and, and_true, and_self, true_or, or_true, false_implies, true_implies, not_false_eq_true, not_true_eq_false, Value.category, Nat.reduceEqDiff, Option.toList, List.cons_append, List.nil_append, List.drop_succ_cons, List.drop_zero, ax_qq_eq, ax_t_1039]
  rw [ax_n_1039_4]
  refine kx_loop (k := 100) (I := fun j => ax_W (d + 1) n sl 1039 [(1, .iload 3), (2, .iconst 99), (3, .if_icmp .gt 32), (1, .iload 2), (1, .aload 0), (3, .getfield 2070), (1, .iload 1), (2, .iconst 100), (1, .imul), (1, .iload 3), (1, .iadd), (1, .iaload), (3, .invokeinterface 1665 8), (1, .istore 2), (3, .iinc 3 1), (3, .goto 4)] 4 [some (.ref 149), some (.int (nI c)), some (.int (kx_gt ty c j)), some (.int (nI j))] [] n sl es (fun r n' sl' es' => n' = n ∧ sl' = sl ∧ r = some (.int (kx_gt ty c 100)) ∧ es' = es)) ?_ ?_
  · have e1 : (99 : Int32) < nI 100 := by decide
    simp only [ax_W_cons, ax_I, ax_cmp, ax_ii, ax_ll, ax_li, ax_st1, ax_st2, ax_kl, ax_k2, ax_fit, ax_rtok, List.getElem?_cons_zero, List.getElem?_cons_succ, List.length_cons, List.length_nil, List.set_cons_zero, List.set_cons_succ, Nat.reduceAdd, Nat.reduceDiv, Nat.reduceMod, Nat.reduceMul, Nat.reduceLT, Nat.reduceLeDiff, Int32.reduceOfInt, Int64.reduceOfInt, true_and, and_true, and_self, true_or, or_true, false_implies, true_implies, not_false_eq_true, not_true_eq_false, Value.category, Nat.reduceEqDiff, Option.toList, List.cons_append, List.nil_append, List.drop_succ_cons, List.drop_zero, ax_qq_eq, ax_t_1039, ax_j_1039_32, ax_n_1039_32, e1]
  · intro j hj ih
    have e1 : ¬ (99 : Int32) < nI j := nI_nlt (a := 99) (by omega) (by decide)
    have e4 : nI j + 1 = nI (j + 1) := (nI_succ j).symm
    have e5 : nI c * 100 + nI j = nI (c * 100 + j) := by
      show nI c * nI 100 + nI j = _
      rw [kn_mul, kn_add]
    have e6 : vp_in (nI (c * 100 + j)) 1200 := nI_in (by omega) (by decide)
    have e7 : (nI (c * 100 + j)).toNatClampNeg = c * 100 + j := nI_clamp (by omega)
    simp only [ax_W_cons, ax_I, ax_cmp, ax_ii, ax_ll, ax_li, ax_st1, ax_st2, ax_kl, ax_k2, ax_fit, ax_rtok, List.getElem?_cons_zero, List.getElem?_cons_succ, List.length_cons, List.length_nil, List.set_cons_zero, List.set_cons_succ, Nat.reduceAdd, Nat.reduceDiv, Nat.reduceMod, Nat.reduceMul, Nat.reduceLT, Nat.reduceLeDiff, Int32.reduceOfInt, Int64.reduceOfInt, true_and, and_true, and_self, true_or, or_true, false_implies, true_implies, not_false_eq_true, not_true_eq_false, Value.category, Nat.reduceEqDiff, Option.toList, List.cons_append, List.nil_append, List.drop_succ_cons, List.drop_zero, ax_qq_eq, ax_t_1039, h149, hty, hal, e1, e5, e6, e7]
    refine ax_inv_eq (Nat.le_of_ble_eq_true rfl) (Nat.le_of_ble_eq_true rfl) (fun _ => absurd ‹_› (by decide)) (fun h => absurd h (by decide)) (Nat.le_refl _) (Nat.le_refl _) (ck_max d n sl _ (kx_gt ty c j) (ty (c * 100 + j))) ?_
    simp only [ax_W_cons, ax_I, ax_cmp, ax_ii, ax_ll, ax_li, ax_st1, ax_st2, ax_kl, ax_k2, ax_fit, ax_rtok, List.getElem?_cons_zero, List.getElem?_cons_succ, List.length_cons, List.length_nil, List.set_cons_zero, List.set_cons_succ, Nat.reduceAdd, Nat.reduceDiv, Nat.reduceMod, Nat.reduceMul, Nat.reduceLT, Nat.reduceLeDiff, Int32.reduceOfInt, Int64.reduceOfInt, true_and, and_true, and_self, true_or, or_true, false_implies, true_implies, not_false_eq_true, not_true_eq_false, Value.category, Nat.reduceEqDiff, Option.toList, List.cons_append, List.nil_append, List.drop_succ_cons, List.drop_zero, ax_qq_eq, ax_t_1039, e4]
    rw [ax_j_1039_4]
    exact ih
theorem kz_tal {sh ty : Nat → Int32} (hsh : ks sh) (h : kz 1200 ty) : ∀ m, m ≤ 12 → kz 1200 (kx_tal sh ty m)
  | 0, _ => h
  | m + 1, hm => by
    obtain ⟨v, hv, ev⟩ := hsh m (by omega)
    rw [kx_tal]
    refine kz_upd (kz_tal hsh h m (by omega)) ?_
    rw [ev, nI_clamp (by omega)]
    omega
theorem kz_l1 {P : Nat → Nat → Bool} {S : Nat → Nat → Nat → Int32} {k w : Nat} {a : Int32 × (Nat → Int32)} (hk : k ≤ 12) (hS : ∀ f, f ≤ 20 → ks (S w f)) (h : kz 1200 a.2) : ∀ m, m ≤ 20 → kz 1200 (kx_l1 P S k w a m).2
  | 0, _ => h
  | m + 1, hm => by
    rw [kx_l1]
    split
    · exact kz_tal (hS _ hm) (kz_l1 hk hS h m (by omega)) k hk
    · exact kz_l1 hk hS h m (by omega)
theorem kz_l2 {P : Nat → Nat → Bool} {S : Nat → Nat → Nat → Int32} {k : Nat} (hk : k ≤ 12) (hS : ∀ w f, w < 12 → f ≤ 20 → ks (S w f)) : ∀ m, m ≤ 12 → kz 1200 (kx_l2 P S k m).2
  | 0, _ => kz_0 _
  | m + 1, hm => kz_l1 hk (fun f hf => hS m f (by omega) hf) (kz_l2 hk hS m (by omega)) 20 (Nat.le_refl _)
theorem ck_bestFeel (hS : kSe es n F1) (hW : kW es n k p hc kd pl0 ht hs F1 F2 T cr sh pl dn) (hi : kfi z fc fb) (hF : kf es n 42 z fc fb fs) {m : Nat} (hm : m ≤ 100) {Q : Option Value → ax_H → Prop} (hQ : ∀ es', kSe es' n F1 → ksg es es' → Q (some (.int (kx_l3 (fun w => kx_gt (kx_l2 (kx_way F1 k cr hs hc T sh fc fb fs z) (fun w f => kx_dr F1 k cr hs hc T (kx_push sh (nI w) (nI f)) m) k k).2 w 100) (kx_l2 (kx_way F1 k cr hs hc T sh fc fb fs z) (fun w f => kx_dr F1 k cr hs hc T (kx_push sh (nI w) (nI f)) m) k k).1 k).2)) es') : ax_Mt (d + 7) 1037 [.ref 149, .int (nI m)] n sl es Q := by
  obtain ⟨hal, hk, hp, hhs, hsh, hpl, hT, hC, hb⟩ := id hW
  obtain ⟨dr, h149⟩ := hS.2.1.1
  obtain ⟨ty0, h158, hz0⟩ := hS.2.1.2.2
  have hks : ∀ w f, w < 12 → f ≤ 20 → ks (kx_dr F1 k cr hs hc T (kx_push sh (nI w) (nI f)) m) := fun w f hw hf => ks_dr hk.2 (kC_F hC) (ks_push hsh hw hf) m
  have hz := kz_l2 (P := kx_way F1 k cr hs hc T sh fc fb fs z) (S := fun w f => kx_dr F1 k cr hs hc T (kx_push sh (nI w) (nI f)) m) hk.2 hks
  have hz1 : ∀ w c, w < 12 → c ≤ 20 → kz 1200 (kx_l1 (kx_way F1 k cr hs hc T sh fc fb fs z) (fun w f => kx_dr F1 k cr hs hc T (kx_push sh (nI w) (nI f)) m) k w (kx_l2 (kx_way F1 k cr hs hc T sh fc fb fs z) (fun w f => kx_dr F1 k cr hs hc T (kx_push sh (nI w) (nI f)) m) k w) c).2 := fun w c hw hc => kz_l1 hk.2 (fun f hf => hks w f hw hf) (hz w (by omega)) c hc
  refine ax_Mt_go (m := ax_m_8_13) (ls := [some (.ref 149), some (.int (nI m)), none, none, none, none, none]) rfl ax_b_1037_0 (Nat.le_of_ble_eq_true rfl) rfl ?_
  simp only [ax_W_cons, ax_I, ax_cmp, ax_ii, ax_ll, ax_li, ax_st1, ax_st2, ax_kl, ax_k2, ax_fit, ax_rtok, List.getElem?_cons_zero, List.getElem?_cons_succ, List.length_cons, List.length_nil, List.set_cons_zero, List.set_cons_succ, Nat.reduceAdd, Nat.reduceDiv, Nat.reduceMod, Nat.reduceMul, Nat.reduceLT, Nat.reduceLeDiff, Int32.reduceOfInt, Int64.reduceOfInt, true_and, and_true, and_self, true_or, or_true, false_implies, true_implies, not_false_eq_true, not_true_eq_false, Value.category, Nat.reduceEqDiff, Option.toList, List.cons_append, List.nil_append, List.drop_succ_cons, List.drop_zero, ax_qq_eq, ax_t_1037, h149, hal]
  refine ax_inv_eq (Nat.le_of_ble_eq_true rfl) (Nat.le_of_ble_eq_true rfl) (fun _ => absurd ‹_› (by decide)) (fun h => absurd h (by decide)) (Nat.le_refl _) (Nat.le_refl _) (ck_fill (d + 6) n sl 158 1200 _ ty0 0 (by omega) h158 (by decide)) ?_
  rw [kz_fill hz0]
  simp only [ax_W_cons, ax_I, ax_cmp, ax_ii, ax_ll, ax_li, ax_st1, ax_st2, ax_kl, ax_k2, ax_fit, ax_rtok, List.getElem?_cons_zero, List.getElem?_cons_succ, List.length_cons, List.length_nil, List.set_cons_zero, List.set_cons_succ, Nat.reduceAdd, Nat.reduceDiv, Nat.reduceMod, Nat.reduceMul, Nat.reduceLT, Nat.reduceLeDiff, Int32.reduceOfInt, Int64.reduceOfInt, true_and, and_true, and_self, true_or, or_true, false_implies, true_implies, not_false_eq_true, not_true_eq_false, Value.category, Nat.reduceEqDiff, Option.toList, List.cons_append, List.nil_append, List.drop_succ_cons, List.drop_zero, ax_qq_eq, ax_t_1037]
  rw [ax_n_1037_12]
  have hS1 := kSe_up (kz_0 1200) hS
  have hg1 : ksg es (ax_up es 158 (.inl (0, 1200, .inl fun _ => 0))) := fun j hj => ax_up_ne _ _ (by omega)
  have h1 : ax_up es 158 (.inl (0, 1200, .inl fun _ => 0)) 158 = .inl (0, 1200, .inl fun _ => 0) := ax_up_same ..
  generalize ax_up es 158 (.inl (0, 1200, .inl fun _ => 0)) = es0 at hS1 hg1 h1 ⊢
  generalize hP : kx_way F1 k cr hs hc T sh fc fb fs z = P at hQ hz hz1
  generalize hQ9 : (fun w f => kx_dr F1 k cr hs hc T (kx_push sh (nI w) (nI f)) m) = S at hQ hz hz1
  have L := kx_loop (k := k) (I := fun w => ∀ v4 es1, kSe es1 n F1 → ksg es es1 → es1 158 = .inl (0, 1200, .inl (kx_l2 P S k w).2) → ax_W (d + 7) n sl 1037 [(1, .iload 3), (1, .aload 0), (3, .getfield 2054), (3, .getfield 0), (3, .if_icmp .ge 81), (1, .iconst 1), (2, .istore 4)] 12 [some (.ref 149), some (.int (nI m)), some (.int (kx_l2 P S k w).1), some (.int (nI w)), v4, none, none] [] n sl es1 (ax_qq n sl Q)) ?_ ?_
  · exact L none es0 hS1 hg1 h1
  · intro v4 es1 i1 i2 i3
    obtain ⟨dr1, w149⟩ := i1.2.1.1
    obtain ⟨-, v0, -⟩ := kb_sg (by omega) hb i2
    have e0 := kx_nn (k := k) (by omega)
    simp only [ax_W_cons, ax_I, ax_cmp, ax_ii, ax_ll, ax_li, ax_st1, ax_st2, ax_kl, ax_k2, ax_fit, ax_rtok, List.getElem?_cons_zero, List.getElem?_cons_succ, List.length_cons, List.length_nil, List.set_cons_zero, List.set_cons_succ, Nat.reduceAdd, Nat.reduceDiv, Nat.reduceMod, Nat.reduceMul, Nat.reduceLT, Nat.reduceLeDiff, Int32.reduceOfInt, Int64.reduceOfInt, true_and, and_true, and_self, true_or, or_true, false_implies, true_implies, not_false_eq_true, not_true_eq_false, Value.category, Nat.reduceEqDiff, Option.toList, List.cons_append, List.nil_append, List.drop_succ_cons, List.drop_zero, ax_qq_eq, ax_t_1037, ax_j_1037_81, ax_n_1037_81, w149, v0, kb_o, hal, e0]
    rw [ax_n_1037_89]
    have L2 := kx_loop (k := k) (I := fun w => ∀ v6, ax_W (d + 7) n sl 1037 [(2, .iload 5), (1, .aload 0), (3, .getfield 2054), (3, .getfield 0), (3, .if_icmp .ge 129), (1, .aload 0), (2, .iload 5), (3, .invokeinterface 1039 9), (2, .istore 6), (2, .iload 6), (2, .iload 4), (3, .if_icmp .ge 123), (2, .iload 6), (2, .istore 4), (2, .iload 5), (1, .istore 3)] 89 [some (.ref 149), some (.int (nI m)), some (.int (kx_l2 P S k k).1), some (.int (kx_l3 (fun w => kx_gt (kx_l2 P S k k).2 w 100) (kx_l2 P S k k).1 w).2), some (.int (kx_l3 (fun w => kx_gt (kx_l2 P S k k).2 w 100) (kx_l2 P S k k).1 w).1), some (.int (nI w)), v6] [] n sl es1 (ax_qq n sl Q)) ?_ ?_
    · exact L2 none
    · intro v6
      simp only [ax_W_cons, ax_I, ax_cmp, ax_ii, ax_ll, ax_li, ax_st1, ax_st2, ax_kl, ax_k2, ax_fit, ax_rtok, List.getElem?_cons_zero, List.getElem?_cons_succ, List.length_cons, List.length_nil, List.set_cons_zero, List.set_cons_succ, Nat.reduceAdd, Nat.reduceDiv, Nat.reduceMod, Nat.reduceMul, Nat.reduceLT, Nat.reduceLeDiff, Int32.reduceOfInt, Int64.reduceOfInt, true_and, and_true, and_self, true_or, or_true, false_implies, true_implies, not_false_eq_true, not_true_eq_false, Value.category, Nat.reduceEqDiff, Option.toList, List.cons_append, List.nil_append, List.drop_succ_cons, List.drop_zero, ax_qq_eq, ax_t_1037, ax_j_1037_129, ax_n_1037_129, w149, v0, kb_o, hal, e0]
      exact hQ es1 i1 i2
    · intro w hw ih v6
      obtain ⟨f1, f2, f3, f4⟩ := kx_ix hw hk.2 (by decide)
      simp only [ax_W_cons, ax_I, ax_cmp, ax_ii, ax_ll, ax_li, ax_st1, ax_st2, ax_kl, ax_k2, ax_fit, ax_rtok, List.getElem?_cons_zero, List.getElem?_cons_succ, List.length_cons, List.length_nil, List.set_cons_zero, List.set_cons_succ, Nat.reduceAdd, Nat.reduceDiv, Nat.reduceMod, Nat.reduceMul, Nat.reduceLT, Nat.reduceLeDiff, Int32.reduceOfInt, Int64.reduceOfInt, true_and, and_true, and_self, true_or, or_true, false_implies, true_implies, not_false_eq_true, not_true_eq_false, Value.category, Nat.reduceEqDiff, Option.toList, List.cons_append, List.nil_append, List.drop_succ_cons, List.drop_zero, ax_qq_eq, ax_t_1037, w149, v0, kb_o, hal, f1]
      refine ax_inv_eq (Nat.le_of_ble_eq_true rfl) (Nat.le_of_ble_eq_true rfl) (fun _ => ax_rcv_ok (by omega) w149) (fun h => absurd h (by decide)) (Nat.le_refl _) (Nat.le_refl _) (ck_greatestTally (by omega) hal i3 i1 (c := w) (by omega)) ?_
      simp only [ax_W_cons, ax_I, ax_cmp, ax_ii, ax_ll, ax_li, ax_st1, ax_st2, ax_kl, ax_k2, ax_fit, ax_rtok, List.getElem?_cons_zero, List.getElem?_cons_succ, List.length_cons, List.length_nil, List.set_cons_zero, List.set_cons_succ, Nat.reduceAdd, Nat.reduceDiv, Nat.reduceMod, Nat.reduceMul, Nat.reduceLT, Nat.reduceLeDiff, Int32.reduceOfInt, Int64.reduceOfInt, true_and, and_true, and_self, true_or, or_true, false_implies, true_implies, not_false_eq_true, not_true_eq_false, Value.category, Nat.reduceEqDiff, Option.toList, List.cons_append, List.nil_append, List.drop_succ_cons, List.drop_zero, ax_qq_eq, ax_t_1037, ax_j_1037_123, ax_n_1037_123, f4]
      simp only [ax_j_1037_89]
      refine ⟨fun h => ?_, fun h => ?_⟩
      · have ih := ih (some (.int (kx_gt (kx_l2 P S k k).2 w 100)))
        rw [kx_l3, if_neg (by rw [kx_nlt]; exact h)] at ih
        exact ih
      · rw [kx_nle] at h
        have ih := ih (some (.int (kx_gt (kx_l2 P S k k).2 w 100)))
        rw [kx_l3, if_pos h] at ih
        exact ih
  · intro w hw ih v4 es1 i1 i2 i3
    obtain ⟨f1, f2, f3, f4⟩ := kx_ix hw hk.2 (by decide)
    obtain ⟨dr1, w149⟩ := i1.2.1.1
    obtain ⟨-, v0, -⟩ := kb_sg (by omega) hb i2
    simp only [ax_W_cons, ax_I, ax_cmp, ax_ii, ax_ll, ax_li, ax_st1, ax_st2, ax_kl, ax_k2, ax_fit, ax_rtok, List.getElem?_cons_zero, List.getElem?_cons_succ, List.length_cons, List.length_nil, List.set_cons_zero, List.set_cons_succ, Nat.reduceAdd, Nat.reduceDiv, Nat.reduceMod, Nat.reduceMul, Nat.reduceLT, Nat.reduceLeDiff, Int32.reduceOfInt, Int64.reduceOfInt, true_and, and_true, and_self, true_or, or_true, false_implies, true_implies, not_false_eq_true, not_true_eq_false, Value.category, Nat.reduceEqDiff, Option.toList, List.cons_append, List.nil_append, List.drop_succ_cons, List.drop_zero, ax_qq_eq, ax_t_1037, w149, v0, kb_o, hal, f1]
    rw [ax_n_1037_26]
    have L2 := kx_loop (k := 20) (I := fun f => ∀ es1, kSe es1 n F1 → ksg es es1 → es1 158 = .inl (0, 1200, .inl (kx_l1 P S k w (kx_l2 P S k w) f).2) → ax_W (d + 7) n sl 1037 [(2, .iload 4), (2, .iconst 20), (3, .if_icmp .gt 75), (1, .aload 0), (1, .iload 3), (2, .iload 4), (3, .invokeinterface 1036 13), (3, .ifCond .eq 69), (3, .iinc 2 1), (1, .aload 0), (1, .iload 3), (2, .iload 4), (3, .invokeinterface 1031 13), (1, .aload 0), (3, .getfield 2050), (1, .aload 0), (3, .getfield 2062), (1, .iload 1), (3, .invokeinterface 643 13), (1, .aload 0), (3, .invokeinterface 1038 5)] 26 [some (.ref 149), some (.int (nI m)), some (.int (kx_l1 P S k w (kx_l2 P S k w) f).1), some (.int (nI w)), some (.int (nI (f + 1))), none, none] [] n sl es1 (ax_qq n sl Q)) ?_ ?_
    · exact L2 es1 i1 i2 i3
    · intro es1 i1 i2 i3
      have e1 : (20 : Int32) < nI (20 + 1) := by decide
      simp only [ax_W_cons, ax_I, ax_cmp, ax_ii, ax_ll, ax_li, ax_st1, ax_st2, ax_kl, ax_k2, ax_fit, ax_rtok, List.getElem?_cons_zero, List.getElem?_cons_succ, List.length_cons, List.length_nil, List.set_cons_zero, List.set_cons_succ, Nat.reduceAdd, Nat.reduceDiv, Nat.reduceMod, Nat.reduceMul, Nat.reduceLT, Nat.reduceLeDiff, Int32.reduceOfInt, Int64.reduceOfInt, true_and, and_true, and_self, true_or, or_true, false_implies, true_implies, not_false_eq_true, not_true_eq_false, Value.category, Nat.reduceEqDiff, Option.toList, List.cons_append, List.nil_append, List.drop_succ_cons, List.drop_zero, ax_qq_eq, ax_t_1037, ax_j_1037_75, ax_n_1037_75, e1, f4]
      rw [ax_j_1037_12]
      exact ih _ es1 i1 i2 i3
    · intro f hf ih2 es1 i1 i2 i3
      have e1 : ¬ (20 : Int32) < nI (f + 1) := nI_nlt (a := 20) (by omega) (by decide)
      have e4 : nI (f + 1) + 1 = nI (f + 1 + 1) := (nI_succ (f + 1)).symm
      obtain ⟨dr1, w149⟩ := i1.2.1.1
      rw [kx_l1] at ih2
      simp only [ax_W_cons, ax_I, ax_cmp, ax_ii, ax_ll, ax_li, ax_st1, ax_st2, ax_kl, ax_k2, ax_fit, ax_rtok, List.getElem?_cons_zero, List.getElem?_cons_succ, List.length_cons, List.length_nil, List.set_cons_zero, List.set_cons_succ, Nat.reduceAdd, Nat.reduceDiv, Nat.reduceMod, Nat.reduceMul, Nat.reduceLT, Nat.reduceLeDiff, Int32.reduceOfInt, Int64.reduceOfInt, true_and, and_true, and_self, true_or, or_true, false_implies, true_implies, not_false_eq_true, not_true_eq_false, Value.category, Nat.reduceEqDiff, Option.toList, List.cons_append, List.nil_append, List.drop_succ_cons, List.drop_zero, ax_qq_eq, ax_t_1037, e1]
      refine ax_inv_of (Nat.le_of_ble_eq_true rfl) (Nat.le_of_ble_eq_true rfl) (fun _ => ax_rcv_ok (by omega) w149) (fun h => absurd h (by decide)) (Nat.le_refl _) (Nat.le_refl _) (ax_Mt_mono (ck_isWay (by omega) i1 (kW_sg hW i2) hi (kf_sg (by omega) hF i2) (w := w) (f := f + 1) (by omega) (by omega)) ?_)
      rintro r es2 ⟨rfl, m1, m2⟩
      rw [hP]
      have i3' : es2 158 = _ := (m2 158 (by omega)).trans i3
      have i2' : ksg es es2 := ksg_trans i2 (ksf_ksg m2)
      obtain ⟨dr2, x149⟩ := m1.2.1.1
      simp only [ax_W_cons, ax_I, ax_cmp, ax_ii, ax_ll, ax_li, ax_st1, ax_st2, ax_kl, ax_k2, ax_fit, ax_rtok, List.getElem?_cons_zero, List.getElem?_cons_succ, List.length_cons, List.length_nil, List.set_cons_zero, List.set_cons_succ, Nat.reduceAdd, Nat.reduceDiv, Nat.reduceMod, Nat.reduceMul, Nat.reduceLT, Nat.reduceLeDiff, Int32.reduceOfInt, Int64.reduceOfInt, true_and, and_true, and_self, true_or, or_true, false_implies, true_implies, not_false_eq_true, not_true_eq_false, Value.category, Nat.reduceEqDiff, Option.toList, List.cons_append, List.nil_append, List.drop_succ_cons, List.drop_zero, ax_qq_eq, ax_t_1037, ax_j_1037_69, ax_n_1037_69, kx_b0, e4]
      refine ⟨fun hno => ?_, fun hyes => ?_⟩
      · rw [ax_j_1037_26]
        rw [if_neg (by rw [hno]; decide)] at ih2
        exact ih2 es2 m1 i2' i3'
      · rw [if_pos (by simpa using hyes)] at ih2
        refine ax_inv_of (Nat.le_of_ble_eq_true rfl) (Nat.le_of_ble_eq_true rfl) (fun _ => ax_rcv_ok (by omega) x149) (fun h => absurd h (by decide)) (Nat.le_refl _) (Nat.le_refl _) (ax_Mt_mono (ck_tryTouch (f := f + 1) (by omega) m1 (kW_sg hW i2') (by omega)) ?_)
        rintro r es3 ⟨rfl, m3, m4⟩
        obtain ⟨dr3, y149⟩ := m3.2.1.1
        have j2 := ksg_trans i2' (ksf_ksg m4)
        simp only [ax_W_cons, ax_I, ax_cmp, ax_ii, ax_ll, ax_li, ax_st1, ax_st2, ax_kl, ax_k2, ax_fit, ax_rtok, List.getElem?_cons_zero, List.getElem?_cons_succ, List.length_cons, List.length_nil, List.set_cons_zero, List.set_cons_succ, Nat.reduceAdd, Nat.reduceDiv, Nat.reduceMod, Nat.reduceMul, Nat.reduceLT, Nat.reduceLeDiff, Int32.reduceOfInt, Int64.reduceOfInt, true_and, and_true, and_self, true_or, or_true, false_implies, true_implies, not_false_eq_true, not_true_eq_false, Value.category, Nat.reduceEqDiff, Option.toList, List.cons_append, List.nil_append, List.drop_succ_cons, List.drop_zero, ax_qq_eq, ax_t_1037, y149, hal]
        refine ax_inv_of (Nat.le_of_ble_eq_true rfl) (Nat.le_of_ble_eq_true rfl) (fun _ => kR_rcv hal m3.1 _) (fun h => absurd h (by decide)) (Nat.le_refl _) (Nat.le_refl _) (ax_Mt_mono (cs_drift (m := m) (by omega) hal hk.2 (by omega) hhs (ks_push hsh (by omega) (by omega)) (kC_sg hC j2) m3) ?_)
        rintro r es4 ⟨rfl, m5, m6⟩
        obtain ⟨dr4, z149⟩ := m5.2.1.1
        have j3 : es4 158 = _ := (m6 158 (by omega)).trans ((m4 158 (by omega)).trans i3')
        have j4 := ksg_trans j2 (ksf_ksg m6)
        simp only [ax_W_cons, ax_I, ax_cmp, ax_ii, ax_ll, ax_li, ax_st1, ax_st2, ax_kl, ax_k2, ax_fit, ax_rtok, List.getElem?_cons_zero, List.getElem?_cons_succ, List.length_cons, List.length_nil, List.set_cons_zero, List.set_cons_succ, Nat.reduceAdd, Nat.reduceDiv, Nat.reduceMod, Nat.reduceMul, Nat.reduceLT, Nat.reduceLeDiff, Int32.reduceOfInt, Int64.reduceOfInt, true_and, and_true, and_self, true_or, or_true, false_implies, true_implies, not_false_eq_true, not_true_eq_false, Value.category, Nat.reduceEqDiff, Option.toList, List.cons_append, List.nil_append, List.drop_succ_cons, List.drop_zero, ax_qq_eq, ax_t_1037]
        refine ax_inv_eq (Nat.le_of_ble_eq_true rfl) (Nat.le_of_ble_eq_true rfl) (fun _ => ax_rcv_ok (by omega) z149) (fun h => absurd h (by decide)) (Nat.le_refl _) (Nat.le_refl _) (ck_tallyTrial hal hk.2 j3 (kT_kSe m5) (hks w (f + 1) (by omega) (by omega)) m5.2.2) ?_
        simp only [ax_W_cons, ax_I, ax_cmp, ax_ii, ax_ll, ax_li, ax_st1, ax_st2, ax_kl, ax_k2, ax_fit, ax_rtok, List.getElem?_cons_zero, List.getElem?_cons_succ, List.length_cons, List.length_nil, List.set_cons_zero, List.set_cons_succ, Nat.reduceAdd, Nat.reduceDiv, Nat.reduceMod, Nat.reduceMul, Nat.reduceLT, Nat.reduceLeDiff, Int32.reduceOfInt, Int64.reduceOfInt, true_and, and_true, and_self, true_or, or_true, false_implies, true_implies, not_false_eq_true, not_true_eq_false, Value.category, Nat.reduceEqDiff, Option.toList, List.cons_append, List.nil_append, List.drop_succ_cons, List.drop_zero, ax_qq_eq, ax_t_1037, ax_j_1037_69, ax_n_1037_69, e4]
        simp only [ax_j_1037_26]
        subst hQ9
        refine ih2 _ (kSe_up ?_ (kT_kSe m5)) (ksg_trans j4 (fun j hj => ax_up_ne _ _ (by omega))) (ax_up_same ..)
        exact kz_tal (hks w (f + 1) (by omega) (by omega)) (hz1 w f (by omega) (by omega)) k hk.2
end KS
