/-! Bowl: alike, even, calm -/
def kx_pin (sh : Nat → Int32) (i : Nat) (a : Int32) : Nat → Int32
  | 0 => a
  | m + 1 => if sh i = sh (i + 1 + m) then kx_pin sh i a m + 1 else kx_pin sh i a m
def kx_pairs (k : Nat) (sh : Nat → Int32) : Nat → Int32
  | 0 => 0
  | m + 1 => kx_pin sh m (kx_pairs k sh m) (k - (m + 1))
def kx_evi (k : Nat) (cr : Int32) (sh : Nat → Int32) (i : Nat) : Bool := decide (sh i = sh (k - 1 - i)) && decide (kx_ck cr (nI i) = kx_ck cr (nI (k - 1 - i)))
def kx_even (k : Nat) (cr : Int32) (sh : Nat → Int32) : Nat → Bool
  | 0 => true
  | m + 1 => kx_even k cr sh m && kx_evi k cr sh m
/-- widest and run -/
def kx_calm (k : Nat) (sh : Nat → Int32) : Nat → Int32 × Int32
  | 0 => (0, 0)
  | m + 1 => (kx_max (kx_calm k sh m).1 (if 0 < sh (if m < k then m else m - k) then 0 else (kx_calm k sh m).2 + 1), if 0 < sh (if m < k then m else m - k) then 0 else (kx_calm k sh m).2 + 1)
section KB
variable {d n sl q k p : Nat} {es : ax_H} {t cr : Int32} {sh pl dn : Nat → Int32}
theorem ck_pairsAlike (hk : k ≤ 12) (hb : kb es n q k p t cr sh pl dn) : ax_Mt d 19 [.ref q] n sl es (fun r es' => r = some (.int (kx_pairs k sh k)) ∧ es' = es) := by
  obtain ⟨hn, h0, h1, h2, h3, z1, z2, z3⟩ := hb
  have hq : q < ax_al n := by omega
  have hq1 : q + 1 < ax_al n := by omega
  refine ax_Mt_start (m := ax_m_0_19) (ls := [some (.ref q), none, none, none]) rfl ax_b_19_0 (Nat.le_of_ble_eq_true rfl) rfl ?_
  simp only [ax_W_cons, ax_I, ax_cmp, ax_ii, ax_ll, ax_li, ax_st1, ax_st2, ax_kl, ax_k2, ax_fit, ax_rtok, List.getElem?_cons_zero, List.getElem?_cons_succ, List.length_cons, List.length_nil, List.set_cons_zero, List.set_cons_succ, Nat.reduceAdd, Nat.reduceDiv, Nat.reduceMod, Nat.reduceMul, Nat.reduceLT, Nat.reduceLeDiff, Int32.reduceOfInt, Int64.reduceOfInt, true_and, and_true, and_self, true_or, or_true, false_implies, true_implies, not_false_eq_true, not_true_eq_false, Value.category, Nat.reduceEqDiff, Option.toList, List.cons_append, List.nil_append, List.drop_succ_cons, List.drop_zero, ax_t_19]
  rw [ax_n_19_4]
  refine kx_loop (k := k) (I := fun c => ∀ v, ax_W d n sl 19 [(1, .iload 2), (1, .aload 0), (3, .getfield 0), (3, .if_icmp .ge 54), (1, .iload 2), (1, .iconst 1), (1, .iadd), (1, .istore 3)] 4 [some (.ref q), some (.int (kx_pairs k sh c)), some (.int (nI c)), v] [] n sl es (fun r n' sl' es' => n' = n ∧ sl' = sl ∧ r = some (.int (kx_pairs k sh k)) ∧ es' = es)) ?_ ?_ none
  · intro v
    have e0 := kx_nn (k := k) (by omega)
    simp only [ax_W_cons, ax_I, ax_cmp, ax_ii, ax_ll, ax_li, ax_st1, ax_st2, ax_kl, ax_k2, ax_fit, ax_rtok, List.getElem?_cons_zero, List.getElem?_cons_succ, List.length_cons, List.length_nil, List.set_cons_zero, List.set_cons_succ, Nat.reduceAdd, Nat.reduceDiv, Nat.reduceMod, Nat.reduceMul, Nat.reduceLT, Nat.reduceLeDiff, Int32.reduceOfInt, Int64.reduceOfInt, true_and, and_true, and_self, true_or, or_true, false_implies, true_implies, not_false_eq_true, not_true_eq_false, Value.category, Nat.reduceEqDiff, Option.toList, List.cons_append, List.nil_append, List.drop_succ_cons, List.drop_zero, ax_t_19, ax_j_19_54, ax_n_19_54, h0, kb_o, hq, e0]
  · intro c hc ih v
    obtain ⟨e1, e2, e3, e4⟩ := kx_ix hc hk (by decide)
    simp only [ax_W_cons, ax_I, ax_cmp, ax_ii, ax_ll, ax_li, ax_st1, ax_st2, ax_kl, ax_k2, ax_fit, ax_rtok, List.getElem?_cons_zero, List.getElem?_cons_succ, List.length_cons, List.length_nil, List.set_cons_zero, List.set_cons_succ, Nat.reduceAdd, Nat.reduceDiv, Nat.reduceMod, Nat.reduceMul, Nat.reduceLT, Nat.reduceLeDiff, Int32.reduceOfInt, Int64.reduceOfInt, true_and, and_true, and_self, true_or, or_true, false_implies, true_implies, not_false_eq_true, not_true_eq_false, Value.category, Nat.reduceEqDiff, Option.toList, List.cons_append, List.nil_append, List.drop_succ_cons, List.drop_zero, ax_t_19, h0, kb_o, hq, e1, e4]
    rw [ax_n_19_16]
    refine kx_loop (k := k - (c + 1)) (I := fun j => ax_W d n sl 19 [(1, .iload 3), (1, .aload 0), (3, .getfield 0), (3, .if_icmp .ge 48), (1, .aload 0), (3, .getfield 18), (1, .iload 2), (1, .iaload), (1, .aload 0), (3, .getfield 18), (1, .iload 3), (1, .iaload), (3, .if_icmp .ne 42), (3, .iinc 1 1)] 16 [some (.ref q), some (.int (kx_pin sh c (kx_pairs k sh c) j)), some (.int (nI c)), some (.int (nI (c + 1 + j)))] [] n sl es (fun r n' sl' es' => n' = n ∧ sl' = sl ∧ r = some (.int (kx_pairs k sh k)) ∧ es' = es)) ?_ ?_
    · have e5 : c + 1 + (k - (c + 1)) = k := by omega
      have e0 := kx_nn (k := k) (by omega)
      rw [e5]
      simp only [ax_W_cons, ax_I, ax_cmp, ax_ii, ax_ll, ax_li, ax_st1, ax_st2, ax_kl, ax_k2, ax_fit, ax_rtok, List.getElem?_cons_zero, List.getElem?_cons_succ, List.length_cons, List.length_nil, List.set_cons_zero, List.set_cons_succ, Nat.reduceAdd, Nat.reduceDiv, Nat.reduceMod, Nat.reduceMul, Nat.reduceLT, Nat.reduceLeDiff, Int32.reduceOfInt, Int64.reduceOfInt, true_and, and_true, and_self, true_or, or_true, false_implies, true_implies, not_false_eq_true, not_true_eq_false, Value.category, Nat.reduceEqDiff, Option.toList, List.cons_append, List.nil_append, List.drop_succ_cons, List.drop_zero, ax_t_19, ax_j_19_48, ax_n_19_48, h0, kb_o, hq, e0, e4]
      rw [ax_j_19_4]
      exact ih _
    · intro j hj ih2
      obtain ⟨f1, f2, f3, f4⟩ := kx_ix (c := c + 1 + j) (k := k) (by omega) hk (by decide)
      simp only [ax_W_cons, ax_I, ax_cmp, ax_ii, ax_ll, ax_li, ax_st1, ax_st2, ax_kl, ax_k2, ax_fit, ax_rtok, List.getElem?_cons_zero, List.getElem?_cons_succ, List.length_cons, List.length_nil, List.set_cons_zero, List.set_cons_succ, Nat.reduceAdd, Nat.reduceDiv, Nat.reduceMod, Nat.reduceMul, Nat.reduceLT, Nat.reduceLeDiff, Int32.reduceOfInt, Int64.reduceOfInt, true_and, and_true, and_self, true_or, or_true, false_implies, true_implies, not_false_eq_true, not_true_eq_false, Value.category, Nat.reduceEqDiff, Option.toList, List.cons_append, List.nil_append, List.drop_succ_cons, List.drop_zero, ax_t_19, ax_j_19_42, ax_n_19_42, h0, h1, kb_o, kb_a, hq, hq1, e2, e3, f1, f2, f3, f4]
      simp only [ax_j_19_16]
      refine ⟨fun h => ?_, fun h => ?_⟩
      · rw [kx_pin, if_neg h] at ih2
        exact ih2
      · rw [kx_pin, if_pos (by simpa using h)] at ih2
        exact ih2
theorem kx_even_le {k : Nat} {cr : Int32} {sh : Nat → Int32} {m : Nat} : ∀ j, kx_even k cr sh (m + j) = true → kx_even k cr sh m = true
  | 0, h => h
  | j + 1, h => kx_even_le j (by
    have h : (kx_even k cr sh (m + j) && kx_evi k cr sh (m + j)) = true := h
    simp at h
    exact h.1)
theorem ck_isEven (hd : 1 ≤ d) (hk : k ≤ 12) (hk0 : 0 < k) (hb : kb es n q k p t cr sh pl dn) : ax_Mt d 20 [.ref q] n sl es (fun r es' => r = some (.int (kx_b (kx_even k cr sh (k / 2)))) ∧ es' = es) := by
  obtain ⟨d, rfl⟩ : ∃ z, d = z + 1 := ⟨d - 1, by omega⟩
  have hb' := hb
  obtain ⟨hn, h0, h1, h2, h3, z1, z2, z3⟩ := hb'
  have hq : q < ax_al n := by omega
  have hq1 : q + 1 < ax_al n := by omega
  have ek : nI k - 1 = nI (k - 1) := by
    obtain ⟨k', rfl⟩ : ∃ z, k = z + 1 := ⟨k - 1, by omega⟩
    exact nI_pred k'
  refine ax_Mt_start (m := ax_m_0_20) (ls := [some (.ref q), none, none]) rfl ax_b_20_0 (Nat.le_of_ble_eq_true rfl) rfl ?_
  simp only [ax_W_cons, ax_I, ax_cmp, ax_ii, ax_ll, ax_li, ax_st1, ax_st2, ax_kl, ax_k2, ax_fit, ax_rtok, List.getElem?_cons_zero, List.getElem?_cons_succ, List.length_cons, List.length_nil, List.set_cons_zero, List.set_cons_succ, Nat.reduceAdd, Nat.reduceDiv, Nat.reduceMod, Nat.reduceMul, Nat.reduceLT, Nat.reduceLeDiff, Int32.reduceOfInt, Int64.reduceOfInt, true_and, and_true, and_self, true_or, or_true, false_implies, true_implies, not_false_eq_true, not_true_eq_false, Value.category, Nat.reduceEqDiff, Option.toList, List.cons_append, List.nil_append, List.drop_succ_cons, List.drop_zero, ax_t_20, h0, kb_o, hq]
  rw [ax_n_20_9, ek]
  refine kx_loop (k := k / 2) (I := fun c => kx_even k cr sh c = true → ax_W (d + 1) n sl 20 [(1, .iload 1), (1, .iload 2), (3, .if_icmp .ge 53), (1, .aload 0), (3, .getfield 18), (1, .iload 1), (1, .iaload), (1, .aload 0), (3, .getfield 18), (1, .iload 2), (1, .iaload), (3, .if_icmp .ne 42), (1, .aload 0), (1, .iload 1), (3, .invokeinterface 4 9), (1, .aload 0), (1, .iload 2), (3, .invokeinterface 4 9), (3, .if_icmp .eq 44)] 9 [some (.ref q), some (.int (nI c)), some (.int (nI (k - 1 - c)))] [] n sl es (fun r n' sl' es' => n' = n ∧ sl' = sl ∧ r = some (.int (kx_b (kx_even k cr sh (k / 2)))) ∧ es' = es)) ?_ ?_ rfl
  · intro he
    have e1 : nI (k - 1 - k / 2) ≤ nI (k / 2) := nI_le (by omega) (by omega)
    simp only [ax_W_cons, ax_I, ax_cmp, ax_ii, ax_ll, ax_li, ax_st1, ax_st2, ax_kl, ax_k2, ax_fit, ax_rtok, List.getElem?_cons_zero, List.getElem?_cons_succ, List.length_cons, List.length_nil, List.set_cons_zero, List.set_cons_succ, Nat.reduceAdd, Nat.reduceDiv, Nat.reduceMod, Nat.reduceMul, Nat.reduceLT, Nat.reduceLeDiff, Int32.reduceOfInt, Int64.reduceOfInt, true_and, and_true, and_self, true_or, or_true, false_implies, true_implies, not_false_eq_true, not_true_eq_false, Value.category, Nat.reduceEqDiff, Option.toList, List.cons_append, List.nil_append, List.drop_succ_cons, List.drop_zero, ax_t_20, ax_j_20_53, ax_n_20_53, e1]
    rw [he]
    rfl
  · intro c hc ih he
    have no : kx_evi k cr sh c = false → kx_even k cr sh (k / 2) = false := fun h9 => by
      cases h8 : kx_even k cr sh (k / 2) with
      | false => rfl
      | true =>
        have h7 := kx_even_le (m := c + 1) (k / 2 - (c + 1)) (by rw [show c + 1 + (k / 2 - (c + 1)) = k / 2 by omega]; exact h8)
        have h7 : (kx_even k cr sh c && kx_evi k cr sh c) = true := h7
        rw [h9] at h7
        simp at h7
    have e1 : ¬ nI (k - 1 - c) ≤ nI c := nI_ge (by omega) (by omega)
    have e2 : vp_in (nI c) 12 := nI_in (by omega) (by decide)
    have e3 : vp_in (nI (k - 1 - c)) 12 := nI_in (by omega) (by decide)
    have e4 : (nI c).toNatClampNeg = c := nI_clamp (by omega)
    have e5 : (nI (k - 1 - c)).toNatClampNeg = k - 1 - c := nI_clamp (by omega)
    have e6 : nI c + 1 = nI (c + 1) := (nI_succ c).symm
    have e7 : nI (k - 1 - c) + -1 = nI (k - 1 - (c + 1)) := by
      rw [show k - 1 - c = (k - 1 - (c + 1)) + 1 by omega]
      exact nI_dec _
    simp only [ax_W_cons, ax_I, ax_cmp, ax_ii, ax_ll, ax_li, ax_st1, ax_st2, ax_kl, ax_k2, ax_fit, ax_rtok, List.getElem?_cons_zero, List.getElem?_cons_succ, List.length_cons, List.length_nil, List.set_cons_zero, List.set_cons_succ, Nat.reduceAdd, Nat.reduceDiv, Nat.reduceMod, Nat.reduceMul, Nat.reduceLT, Nat.reduceLeDiff, Int32.reduceOfInt, Int64.reduceOfInt, true_and, and_true, and_self, true_or, or_true, false_implies, true_implies, not_false_eq_true, not_true_eq_false, Value.category, Nat.reduceEqDiff, Option.toList, List.cons_append, List.nil_append, List.drop_succ_cons, List.drop_zero, ax_t_20, ax_j_20_42, ax_n_20_42, h0, h1, kb_o, kb_a, hq, hq1, e1, e2, e3, e4, e5]
    refine ⟨fun h => ?_, fun h => ?_⟩
    · rw [no (by simp [kx_evi, h])]
      rfl
    · simp only [Classical.not_not] at h
      refine ax_inv_eq (Nat.le_of_ble_eq_true rfl) (Nat.le_of_ble_eq_true rfl) (fun _ => ax_rcv_ok hq h0) (fun h => absurd h (by decide)) (Nat.le_refl _) (Nat.le_refl _) (ck_isCracked hb (nI c)) ?_
      simp only [ax_W_cons, ax_I, ax_cmp, ax_ii, ax_ll, ax_li, ax_st1, ax_st2, ax_kl, ax_k2, ax_fit, ax_rtok, List.getElem?_cons_zero, List.getElem?_cons_succ, List.length_cons, List.length_nil, List.set_cons_zero, List.set_cons_succ, Nat.reduceAdd, Nat.reduceDiv, Nat.reduceMod, Nat.reduceMul, Nat.reduceLT, Nat.reduceLeDiff, Int32.reduceOfInt, Int64.reduceOfInt, true_and, and_true, and_self, true_or, or_true, false_implies, true_implies, not_false_eq_true, not_true_eq_false, Value.category, Nat.reduceEqDiff, Option.toList, List.cons_append, List.nil_append, List.drop_succ_cons, List.drop_zero, ax_t_20]
      refine ax_inv_eq (Nat.le_of_ble_eq_true rfl) (Nat.le_of_ble_eq_true rfl) (fun _ => ax_rcv_ok hq h0) (fun h => absurd h (by decide)) (Nat.le_refl _) (Nat.le_refl _) (ck_isCracked hb (nI (k - 1 - c))) ?_
      simp only [ax_W_cons, ax_I, ax_cmp, ax_ii, ax_ll, ax_li, ax_st1, ax_st2, ax_kl, ax_k2, ax_fit, ax_rtok, List.getElem?_cons_zero, List.getElem?_cons_succ, List.length_cons, List.length_nil, List.set_cons_zero, List.set_cons_succ, Nat.reduceAdd, Nat.reduceDiv, Nat.reduceMod, Nat.reduceMul, Nat.reduceLT, Nat.reduceLeDiff, Int32.reduceOfInt, Int64.reduceOfInt, true_and, and_true, and_self, true_or, or_true, false_implies, true_implies, not_false_eq_true, not_true_eq_false, Value.category, Nat.reduceEqDiff, Option.toList, List.cons_append, List.nil_append, List.drop_succ_cons, List.drop_zero, ax_t_20, ax_j_20_42, ax_n_20_42, ax_j_20_44, ax_n_20_44, e6, e7]
      rw [ax_j_20_9]
      refine ⟨fun h9 => ?_, fun h9 => ?_⟩
      · refine ih ?_
        show (kx_even k cr sh c && kx_evi k cr sh c) = true
        rw [he]
        have h9 : kx_ck cr (nI c) = kx_ck cr (nI (k - 1 - c)) := by
          cases ha : kx_ck cr (nI c) <;> cases hb9 : kx_ck cr (nI (k - 1 - c)) <;> first | rfl | (rw [ha, hb9] at h9; exact absurd h9 (by decide))
        simp [kx_evi, h, h9]
      · rw [no (by
          have h9 : ¬ kx_ck cr (nI c) = kx_ck cr (nI (k - 1 - c)) := fun z => h9 (by rw [z])
          simp [kx_evi, h9])]
        rfl
theorem ck_widestCalm (hd : 1 ≤ d) (hk : k ≤ 12) (hb : kb es n q k p t cr sh pl dn) : ax_Mt d 21 [.ref q] n sl es (fun r es' => r = some (.int (kx_min (kx_calm k sh (2 * k)).1 (nI k))) ∧ es' = es) := by
  obtain ⟨d, rfl⟩ : ∃ z, d = z + 1 := ⟨d - 1, by omega⟩
  have hb' := hb
  obtain ⟨hn, h0, h1, h2, h3, z1, z2, z3⟩ := hb'
  have hq : q < ax_al n := by omega
  have hq1 : q + 1 < ax_al n := by omega
  have e2k : (2 : Int32) * nI k = nI (2 * k) := by
    show nI 2 * nI k = nI (2 * k)
    unfold nI
    rw [Int32.ofNat_mul]
  refine ax_Mt_start (m := ax_m_0_21) (ls := [some (.ref q), none, none, none, none]) rfl ax_b_21_0 (Nat.le_of_ble_eq_true rfl) rfl ?_
  simp only [ax_W_cons, ax_I, ax_cmp, ax_ii, ax_ll, ax_li, ax_st1, ax_st2, ax_kl, ax_k2, ax_fit, ax_rtok, List.getElem?_cons_zero, List.getElem?_cons_succ, List.length_cons, List.length_nil, List.set_cons_zero, List.set_cons_succ, Nat.reduceAdd, Nat.reduceDiv, Nat.reduceMod, Nat.reduceMul, Nat.reduceLT, Nat.reduceLeDiff, Int32.reduceOfInt, Int64.reduceOfInt, true_and, and_true, and_self, true_or, or_true, false_implies, true_implies, not_false_eq_true, not_true_eq_false, Value.category, Nat.reduceEqDiff, Option.toList, List.cons_append, List.nil_append, List.drop_succ_cons, List.drop_zero, ax_t_21]
  rw [ax_n_21_6]
  refine kx_loop (k := 2 * k) (I := fun c => ∀ v, ax_W (d + 1) n sl 21 [(1, .iload 3), (1, .iconst 2), (1, .aload 0), (3, .getfield 0), (1, .imul), (3, .if_icmp .ge 66), (1, .iload 3), (1, .aload 0), (3, .getfield 0), (3, .if_icmp .ge 28), (1, .iload 3), (3, .goto 34)] 6 [some (.ref q), some (.int (kx_calm k sh c).1), some (.int (kx_calm k sh c).2), some (.int (nI c)), v] [] n sl es (fun r n' sl' es' => n' = n ∧ sl' = sl ∧ r = some (.int (kx_min (kx_calm k sh (2 * k)).1 (nI k))) ∧ es' = es)) ?_ ?_ none
  · intro v
    have e0 := kx_nn (k := 2 * k) (by omega)
    simp only [ax_W_cons, ax_I, ax_cmp, ax_ii, ax_ll, ax_li, ax_st1, ax_st2, ax_kl, ax_k2, ax_fit, ax_rtok, List.getElem?_cons_zero, List.getElem?_cons_succ, List.length_cons, List.length_nil, List.set_cons_zero, List.set_cons_succ, Nat.reduceAdd, Nat.reduceDiv, Nat.reduceMod, Nat.reduceMul, Nat.reduceLT, Nat.reduceLeDiff, Int32.reduceOfInt, Int64.reduceOfInt, true_and, and_true, and_self, true_or, or_true, false_implies, true_implies, not_false_eq_true, not_true_eq_false, Value.category, Nat.reduceEqDiff, Option.toList, List.cons_append, List.nil_append, List.drop_succ_cons, List.drop_zero, ax_t_21, ax_j_21_66, ax_n_21_66, h0, kb_o, hq, e2k, e0]
    refine ax_inv_eq (Nat.le_of_ble_eq_true rfl) (Nat.le_of_ble_eq_true rfl) (fun _ => absurd ‹_› (by decide)) (fun h => absurd h (by decide)) (Nat.le_refl _) (Nat.le_refl _) (ck_min d n sl _ (kx_calm k sh (2 * k)).1 (nI k)) ?_
    simp only [ax_W_cons, ax_I, ax_cmp, ax_ii, ax_ll, ax_li, ax_st1, ax_st2, ax_kl, ax_k2, ax_fit, ax_rtok, List.getElem?_cons_zero, List.getElem?_cons_succ, List.length_cons, List.length_nil, List.set_cons_zero, List.set_cons_succ, Nat.reduceAdd, Nat.reduceDiv, Nat.reduceMod, Nat.reduceMul, Nat.reduceLT, Nat.reduceLeDiff, Int32.reduceOfInt, Int64.reduceOfInt, true_and, and_true, and_self, true_or, or_true, false_implies, true_implies, not_false_eq_true, not_true_eq_false, Value.category, Nat.reduceEqDiff, Option.toList, List.cons_append, List.nil_append, List.drop_succ_cons, List.drop_zero, ax_t_21]
  · intro c hc ih v
    have e1 : ¬ nI (2 * k) ≤ nI c := nI_ge hc (by omega)
    have e4 : nI c + 1 = nI (c + 1) := (nI_succ c).symm
    have body : ∀ c', c' < k → (if c < k then c else c - k) = c' → ax_W (d + 1) n sl 21 [(2, .istore 4), (1, .aload 0), (3, .getfield 18), (2, .iload 4), (1, .iaload), (3, .ifCond .le 50), (1, .iconst 0), (3, .goto 53)] 34 [some (.ref q), some (.int (kx_calm k sh c).1), some (.int (kx_calm k sh c).2), some (.int (nI c)), v] [.int (nI c')] n sl es (fun r n' sl' es' => n' = n ∧ sl' = sl ∧ r = some (.int (kx_min (kx_calm k sh (2 * k)).1 (nI k))) ∧ es' = es) := by
      intro c' hc' e9
      have f2 : vp_in (nI c') 12 := nI_in (by omega) (by decide)
      have f3 : (nI c').toNatClampNeg = c' := nI_clamp (by omega)
      simp only [ax_W_cons, ax_I, ax_cmp, ax_ii, ax_ll, ax_li, ax_st1, ax_st2, ax_kl, ax_k2, ax_fit, ax_rtok, List.getElem?_cons_zero, List.getElem?_cons_succ, List.length_cons, List.length_nil, List.set_cons_zero, List.set_cons_succ, Nat.reduceAdd, Nat.reduceDiv, Nat.reduceMod, Nat.reduceMul, Nat.reduceLT, Nat.reduceLeDiff, Int32.reduceOfInt, Int64.reduceOfInt, true_and, and_true, and_self, true_or, or_true, false_implies, true_implies, not_false_eq_true, not_true_eq_false, Value.category, Nat.reduceEqDiff, Option.toList, List.cons_append, List.nil_append, List.drop_succ_cons, List.drop_zero, ax_t_21, ax_j_21_50, ax_n_21_50, ax_j_21_53, ax_n_21_53, h0, h1, kb_o, kb_a, hq, hq1, f2, f3]
      refine ⟨fun h => ?_, fun h => ?_⟩
      · refine ax_inv_eq (Nat.le_of_ble_eq_true rfl) (Nat.le_of_ble_eq_true rfl) (fun _ => absurd ‹_› (by decide)) (fun h => absurd h (by decide)) (Nat.le_refl _) (Nat.le_refl _) (ck_max d n sl _ (kx_calm k sh c).1 ((kx_calm k sh c).2 + 1)) ?_
        simp only [ax_W_cons, ax_I, ax_cmp, ax_ii, ax_ll, ax_li, ax_st1, ax_st2, ax_kl, ax_k2, ax_fit, ax_rtok, List.getElem?_cons_zero, List.getElem?_cons_succ, List.length_cons, List.length_nil, List.set_cons_zero, List.set_cons_succ, Nat.reduceAdd, Nat.reduceDiv, Nat.reduceMod, Nat.reduceMul, Nat.reduceLT, Nat.reduceLeDiff, Int32.reduceOfInt, Int64.reduceOfInt, true_and, and_true, and_self, true_or, or_true, false_implies, true_implies, not_false_eq_true, not_true_eq_false, Value.category, Nat.reduceEqDiff, Option.toList, List.cons_append, List.nil_append, List.drop_succ_cons, List.drop_zero, ax_t_21, e4]
        rw [ax_j_21_6]
        have ih := ih (some (.int (nI c')))
        rw [kx_calm, e9, if_neg (by rw [kx_nlt]; exact h)] at ih
        exact ih
      · refine ax_inv_eq (Nat.le_of_ble_eq_true rfl) (Nat.le_of_ble_eq_true rfl) (fun _ => absurd ‹_› (by decide)) (fun h => absurd h (by decide)) (Nat.le_refl _) (Nat.le_refl _) (ck_max d n sl _ (kx_calm k sh c).1 0) ?_
        simp only [ax_W_cons, ax_I, ax_cmp, ax_ii, ax_ll, ax_li, ax_st1, ax_st2, ax_kl, ax_k2, ax_fit, ax_rtok, List.getElem?_cons_zero, List.getElem?_cons_succ, List.length_cons, List.length_nil, List.set_cons_zero, List.set_cons_succ, Nat.reduceAdd, Nat.reduceDiv, Nat.reduceMod, Nat.reduceMul, Nat.reduceLT, Nat.reduceLeDiff, Int32.reduceOfInt, Int64.reduceOfInt, true_and, and_true, and_self, true_or, or_true, false_implies, true_implies, not_false_eq_true, not_true_eq_false, Value.category, Nat.reduceEqDiff, Option.toList, List.cons_append, List.nil_append, List.drop_succ_cons, List.drop_zero, ax_t_21, e4]
        rw [ax_j_21_6]
        rw [kx_nle] at h
        have ih := ih (some (.int (nI c')))
        rw [kx_calm, e9, if_pos h] at ih
        exact ih
    by_cases hck : c < k
    · have f1 : ¬ nI k ≤ nI c := nI_ge hck (by omega)
      simp only [ax_W_cons, ax_I, ax_cmp, ax_ii, ax_ll, ax_li, ax_st1, ax_st2, ax_kl, ax_k2, ax_fit, ax_rtok, List.getElem?_cons_zero, List.getElem?_cons_succ, List.length_cons, List.length_nil, List.set_cons_zero, List.set_cons_succ, Nat.reduceAdd, Nat.reduceDiv, Nat.reduceMod, Nat.reduceMul, Nat.reduceLT, Nat.reduceLeDiff, Int32.reduceOfInt, Int64.reduceOfInt, true_and, and_true, and_self, true_or, or_true, false_implies, true_implies, not_false_eq_true, not_true_eq_false, Value.category, Nat.reduceEqDiff, Option.toList, List.cons_append, List.nil_append, List.drop_succ_cons, List.drop_zero, ax_t_21, h0, kb_o, hq, e2k, e1, f1]
      rw [ax_j_21_34]
      exact body c hck (if_pos hck)
    · have f1 : nI k ≤ nI c := nI_le (by omega) (by omega)
      have f2 : nI c - nI k = nI (c - k) := by
        have e8 : nI c = nI (c - k) + nI k := by
          unfold nI
          rw [← Int32.ofNat_add]
          congr 1
          omega
        rw [e8, Int32.add_sub_cancel]
      simp only [ax_W_cons, ax_I, ax_cmp, ax_ii, ax_ll, ax_li, ax_st1, ax_st2, ax_kl, ax_k2, ax_fit, ax_rtok, List.getElem?_cons_zero, List.getElem?_cons_succ, List.length_cons, List.length_nil, List.set_cons_zero, List.set_cons_succ, Nat.reduceAdd, Nat.reduceDiv, Nat.reduceMod, Nat.reduceMul, Nat.reduceLT, Nat.reduceLeDiff, Int32.reduceOfInt, Int64.reduceOfInt, true_and, and_true, and_self, true_or, or_true, false_implies, true_implies, not_false_eq_true, not_true_eq_false, Value.category, Nat.reduceEqDiff, Option.toList, List.cons_append, List.nil_append, List.drop_succ_cons, List.drop_zero, ax_t_21, ax_j_21_28, ax_n_21_28, h0, kb_o, hq, e2k, e1, f1, f2]
      rw [ax_n_21_34]
      exact body (c - k) (by omega) (if_neg hck)
end KB
