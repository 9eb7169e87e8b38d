/-! Felt, and which touches agree with it -/
def kf (es : ax_H) (n u z : Nat) (fc fb fs : Nat → Int32) : Prop := u + 3 < ax_al n ∧ es u = .inr (2, [.int (nI z), .ref (u + 1), .ref (u + 2), .ref (u + 3)]) ∧ es (u + 1) = .inl (0, 8, .inl fc) ∧ es (u + 2) = .inl (0, 8, .inl fb) ∧ es (u + 3) = .inl (0, 8, .inl fs) ∧ kz 8 fc ∧ kz 8 fb ∧ kz 8 fs
/-- what was felt is of cells and of few beats -/
def kfi (z : Nat) (fc fb : Nat → Int32) : Prop := z ≤ 8 ∧ ∀ i, i < z → (∃ c, c < 12 ∧ fc i = nI c) ∧ ∃ b, b ≤ 12 ∧ fb i = nI b
theorem kf_sf {es es' : ax_H} {n u z : Nat} {fc fb fs : Nat → Int32} (hu : 15 < u ∧ u + 3 < 147) (h : kf es n u z fc fb fs) (hf : ksf es es') : kf es' n u z fc fb fs := by
  obtain ⟨h1, h2, h3, h4, h5, h6⟩ := h
  exact ⟨h1, by rw [hf u (by omega)]; exact h2, by rw [hf (u + 1) (by omega)]; exact h3, by rw [hf (u + 2) (by omega)]; exact h4, by rw [hf (u + 3) (by omega)]; exact h5, h6⟩
def kx_last (fb : Nat → Int32) : Nat → Int32
  | 0 => -1
  | m + 1 => kx_max (kx_last fb m) (fb m)
def kx_agr1 (fc fb fs sh : Nat → Int32) (b : Int32) (i : Nat) : Bool := !decide (fb i = b) || decide (sh (fc i).toNatClampNeg = fs i)
def kx_allb (P : Nat → Bool) : Nat → Bool
  | 0 => true
  | m + 1 => kx_allb P m && P m
theorem kx_allb_no {P : Nat → Bool} {c : Nat} (h : P c = false) : ∀ m, c < m → kx_allb P m = false
  | 0, h => by omega
  | m + 1, hm => by
    rw [kx_allb]
    by_cases hc : c = m
    · rw [← hc, h, Bool.and_false]
    · rw [kx_allb_no h m (by omega), Bool.false_and]
theorem kx_last_in {z : Nat} {fc fb : Nat → Int32} (h : kfi z fc fb) : ∀ m, m ≤ z → ∃ B, B ≤ 13 ∧ kx_last fb m = nI B - 1
  | 0, _ => ⟨0, by omega, (show (-1 : Int32) = nI 0 - 1 by decide)⟩
  | m + 1, hm => by
    obtain ⟨B, hB, e⟩ := kx_last_in h m (by omega)
    obtain ⟨-, b, hb, eb⟩ := h.2 m (by omega)
    rw [kx_last, e, eb]
    unfold kx_max
    split
    · exact ⟨b + 1, by omega, (nI_pred b).symm⟩
    · exact ⟨B, hB, rfl⟩
section KS
variable {d n sl u z : Nat} {es : ax_H} {fc fb fs : Nat → Int32}
theorem ck_lastBeat (hd : 1 ≤ d) (hi : kfi z fc fb) (h : kf es n u z fc fb fs) : ax_Mt d 259 [.ref u] n sl es (fun r es' => r = some (.int (kx_last fb z)) ∧ es' = es) := by
  obtain ⟨d, rfl⟩ : ∃ y, d = y + 1 := ⟨d - 1, by omega⟩
  obtain ⟨hn, h0, h1, h2, h3, -⟩ := h
  have hq : u < ax_al n := by omega
  have hq2 : u + 2 < ax_al n := by omega
  refine ax_Mt_start (m := ax_m_2_3) (ls := [some (.ref u), none, none]) rfl ax_b_259_0 (Nat.le_of_ble_eq_true rfl) rfl ?_
  simp only [ax_W_cons, ax_I, ax_cmp, ax_ii, ax_ll, ax_li, ax_st1, ax_st2, ax_kl, ax_k2, ax_fit, ax_rtok, List.getElem?_cons_zero, List.getElem?_cons_succ, List.length_cons, List.length_nil, List.set_cons_zero, List.set_cons_succ, Nat.reduceAdd, Nat.reduceDiv, Nat.reduceMod, Nat.reduceMul, Nat.reduceLT, Nat.reduceLeDiff, Int32.reduceOfInt, Int64.reduceOfInt, true_and, and_true, and_self, true_or, or_true, false_implies, true_implies, not_false_eq_true, not_true_eq_false, Value.category, Nat.reduceEqDiff, Option.toList, List.cons_append, List.nil_append, List.drop_succ_cons, List.drop_zero, ax_t_259]
  rw [ax_n_259_4]
  refine kx_loop (k := z) (I := fun c => ax_W (d + 1) n sl 259 [(1, .iload 2), (1, .aload 0), (3, .getfield 512), (3, .if_icmp .ge 29), (1, .iload 1), (1, .aload 0), (3, .getfield 522), (1, .iload 2), (1, .iaload), (3, .invokeinterface 1665 8), (1, .istore 1), (3, .iinc 2 1), (3, .goto 4)] 4 [some (.ref u), some (.int (kx_last fb c)), some (.int (nI c))] [] n sl es (fun r n' sl' es' => n' = n ∧ sl' = sl ∧ r = some (.int (kx_last fb z)) ∧ es' = es)) ?_ ?_
  · have e0 := kx_nn (k := z) (by have := hi.1; omega)
    simp only [ax_W_cons, ax_I, ax_cmp, ax_ii, ax_ll, ax_li, ax_st1, ax_st2, ax_kl, ax_k2, ax_fit, ax_rtok, List.getElem?_cons_zero, List.getElem?_cons_succ, List.length_cons, List.length_nil, List.set_cons_zero, List.set_cons_succ, Nat.reduceAdd, Nat.reduceDiv, Nat.reduceMod, Nat.reduceMul, Nat.reduceLT, Nat.reduceLeDiff, Int32.reduceOfInt, Int64.reduceOfInt, true_and, and_true, and_self, true_or, or_true, false_implies, true_implies, not_false_eq_true, not_true_eq_false, Value.category, Nat.reduceEqDiff, Option.toList, List.cons_append, List.nil_append, List.drop_succ_cons, List.drop_zero, ax_t_259, ax_j_259_29, ax_n_259_29, h0, hq, e0]
  · intro c hc ih
    obtain ⟨e1, e2, e3, e4⟩ := kx_ix hc hi.1 (by decide)
    simp only [ax_W_cons, ax_I, ax_cmp, ax_ii, ax_ll, ax_li, ax_st1, ax_st2, ax_kl, ax_k2, ax_fit, ax_rtok, List.getElem?_cons_zero, List.getElem?_cons_succ, List.length_cons, List.length_nil, List.set_cons_zero, List.set_cons_succ, Nat.reduceAdd, Nat.reduceDiv, Nat.reduceMod, Nat.reduceMul, Nat.reduceLT, Nat.reduceLeDiff, Int32.reduceOfInt, Int64.reduceOfInt, true_and, and_true, and_self, true_or, or_true, false_implies, true_implies, not_false_eq_true, not_true_eq_false, Value.category, Nat.reduceEqDiff, Option.toList, List.cons_append, List.nil_append, List.drop_succ_cons, List.drop_zero, ax_t_259, h0, h2, hq, hq2, e1, e2, e3]
    refine ax_inv_eq (Nat.le_of_ble_eq_true rfl) (Nat.le_of_ble_eq_true rfl) (fun _ => absurd ‹_› (by decide)) (fun h => absurd h (by decide)) (Nat.le_refl _) (Nat.le_refl _) (ck_max d n sl _ (kx_last fb c) (fb c)) ?_
    simp only [ax_W_cons, ax_I, ax_cmp, ax_ii, ax_ll, ax_li, ax_st1, ax_st2, ax_kl, ax_k2, ax_fit, ax_rtok, List.getElem?_cons_zero, List.getElem?_cons_succ, List.length_cons, List.length_nil, List.set_cons_zero, List.set_cons_succ, Nat.reduceAdd, Nat.reduceDiv, Nat.reduceMod, Nat.reduceMul, Nat.reduceLT, Nat.reduceLeDiff, Int32.reduceOfInt, Int64.reduceOfInt, true_and, and_true, and_self, true_or, or_true, false_implies, true_implies, not_false_eq_true, not_true_eq_false, Value.category, Nat.reduceEqDiff, Option.toList, List.cons_append, List.nil_append, List.drop_succ_cons, List.drop_zero, ax_t_259, e4]
    rw [ax_j_259_4]
    exact ih
theorem ck_agrees {q k p : Nat} {t cr : Int32} {sh pl dn : Nat → Int32} (hi : kfi z fc fb) (h : kf es n u z fc fb fs) (hb : kb es n q k p t cr sh pl dn) (b : Int32) : ax_Mt d 260 [.ref u, .ref q, .int b] n sl es (fun r es' => r = some (.int (kx_b (kx_allb (kx_agr1 fc fb fs sh b) z))) ∧ es' = es) := by
  obtain ⟨hn, h0, h1, h2, h3, -⟩ := h
  obtain ⟨gn, g0, g1, -⟩ := hb
  have hq : u < ax_al n := by omega
  have hq1 : u + 1 < ax_al n := by omega
  have hq2 : u + 2 < ax_al n := by omega
  have hq3 : u + 3 < ax_al n := by omega
  have hr : q < ax_al n := by omega
  have hr1 : q + 1 < ax_al n := by omega
  refine ax_Mt_start (m := ax_m_2_4) (ls := [some (.ref u), some (.ref q), some (.int b), none]) rfl ax_b_260_0 (Nat.le_of_ble_eq_true rfl) rfl ?_
  simp only [ax_W_cons, ax_I, ax_cmp, ax_ii, ax_ll, ax_li, ax_st1, ax_st2, ax_kl, ax_k2, ax_fit, ax_rtok, List.getElem?_cons_zero, List.getElem?_cons_succ, List.length_cons, List.length_nil, List.set_cons_zero, List.set_cons_succ, Nat.reduceAdd, Nat.reduceDiv, Nat.reduceMod, Nat.reduceMul, Nat.reduceLT, Nat.reduceLeDiff, Int32.reduceOfInt, Int64.reduceOfInt, true_and, and_true, and_self, true_or, or_true, false_implies, true_implies, not_false_eq_true, not_true_eq_false, Value.category, Nat.reduceEqDiff, Option.toList, List.cons_append, List.nil_append, List.drop_succ_cons, List.drop_zero, ax_t_260]
  rw [ax_n_260_2]
  refine kx_loop (k := z) (I := fun c => kx_allb (kx_agr1 fc fb fs sh b) c = true → ax_W d n sl 260 [(1, .iload 3), (1, .aload 0), (3, .getfield 512), (3, .if_icmp .ge 48), (1, .aload 0), (3, .getfield 522), (1, .iload 3), (1, .iaload), (1, .iload 2), (3, .if_icmp .ne 42), (1, .aload 1), (3, .getfield 18), (1, .aload 0), (3, .getfield 518), (1, .iload 3), (1, .iaload), (1, .iaload), (1, .aload 0), (3, .getfield 526), (1, .iload 3), (1, .iaload), (3, .if_icmp .eq 42), (1, .iconst 0), (1, .ireturn)] 2 [some (.ref u), some (.ref q), some (.int b), some (.int (nI c))] [] n sl es (fun r n' sl' es' => n' = n ∧ sl' = sl ∧ r = some (.int (kx_b (kx_allb (kx_agr1 fc fb fs sh b) z))) ∧ es' = es)) ?_ ?_ rfl
  · intro ha
    have e0 := kx_nn (k := z) (by have := hi.1; omega)
    simp only [ax_W_cons, ax_I, ax_cmp, ax_ii, ax_ll, ax_li, ax_st1, ax_st2, ax_kl, ax_k2, ax_fit, ax_rtok, List.getElem?_cons_zero, List.getElem?_cons_succ, List.length_cons, List.length_nil, List.set_cons_zero, List.set_cons_succ, Nat.reduceAdd, Nat.reduceDiv, Nat.reduceMod, Nat.reduceMul, Nat.reduceLT, Nat.reduceLeDiff, Int32.reduceOfInt, Int64.reduceOfInt, true_and, and_true, and_self, true_or, or_true, false_implies, true_implies, not_false_eq_true, not_true_eq_false, Value.category, Nat.reduceEqDiff, Option.toList, List.cons_append, List.nil_append, List.drop_succ_cons, List.drop_zero, ax_t_260, ax_j_260_48, ax_n_260_48, h0, hq, e0]
    rw [ha]
    rfl
  · intro c hc ih ha
    obtain ⟨e1, e2, e3, e4⟩ := kx_ix hc hi.1 (by decide)
    obtain ⟨⟨c', hc', ec⟩, -⟩ := hi.2 c hc
    have f1 : vp_in (nI c') 12 := nI_in hc' (by decide)
    have f2 : (nI c').toNatClampNeg = c' := nI_clamp (by omega)
    have nxt : kx_agr1 fc fb fs sh b c = true → kx_allb (kx_agr1 fc fb fs sh b) (c + 1) = true := fun h => by rw [kx_allb, ha, h]; rfl
    simp only [ax_W_cons, ax_I, ax_cmp, ax_ii, ax_ll, ax_li, ax_st1, ax_st2, ax_kl, ax_k2, ax_fit, ax_rtok, List.getElem?_cons_zero, List.getElem?_cons_succ, List.length_cons, List.length_nil, List.set_cons_zero, List.set_cons_succ, Nat.reduceAdd, Nat.reduceDiv, Nat.reduceMod, Nat.reduceMul, Nat.reduceLT, Nat.reduceLeDiff, Int32.reduceOfInt, Int64.reduceOfInt, true_and, and_true, and_self, true_or, or_true, false_implies, true_implies, not_false_eq_true, not_true_eq_false, Value.category, Nat.reduceEqDiff, Option.toList, List.cons_append, List.nil_append, List.drop_succ_cons, List.drop_zero, ax_t_260, ax_j_260_42, ax_n_260_42, h0, h1, h2, h3, g0, g1, kb_o, kb_a, hq, hq1, hq2, hq3, hr, hr1, e1, e2, e3, e4, ec, f1, f2]
    simp only [ax_j_260_2]
    refine ⟨fun hne => ?_, fun he => ⟨fun h5 => ?_, fun h5 => ?_⟩⟩
    · exact ih (nxt (by simp [kx_agr1, hne]))
    · exact ih (nxt (by simp [kx_agr1, ec, f2, h5]))
    · simp only [Classical.not_not] at he
      rw [kx_allb_no (c := c) (by simp [kx_agr1, ec, f2, h5, he]) z hc]
      rfl
end KS
