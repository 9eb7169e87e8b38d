/-! Bowl: its loops -/
theorem kx_loop {I : Nat → Prop} {k : Nat} (hend : I k) (hstep : ∀ c, c < k → I (c + 1) → I c) : I 0 := by
  have h : ∀ m c, c + m = k → I c := by
    intro m
    induction m with
    | zero =>
      intro c hc
      rw [show c = k by omega]
      exact hend
    | succ m ih =>
      intro c hc
      exact hstep c (by omega) (ih (c + 1) (by omega))
  exact h k 0 (by omega)
theorem kx_ix {c k N : Nat} (hc : c < k) (hk : k ≤ N) (hN : N < 2 ^ 31) : ¬ nI k ≤ nI c ∧ vp_in (nI c) N ∧ (nI c).toNatClampNeg = c ∧ nI c + 1 = nI (c + 1) :=
  ⟨nI_ge hc (by omega), nI_in (by omega) hN, nI_clamp (by omega), (nI_succ c).symm⟩
theorem kx_nn {k : Nat} (hk : k < 2 ^ 31) : nI k ≤ nI k := nI_le (Nat.le_refl _) hk
def kx_sum (f : Nat → Int32) : Nat → Int32
  | 0 => 0
  | m + 1 => kx_sum f m + f m
def kx_bits (sh : Nat → Int32) : Nat → Int32
  | 0 => 0
  | m + 1 => if 0 < sh m then kx_bits sh m ||| (1 <<< (nI m &&& 31)) else kx_bits sh m
def kx_full (k : Nat) : Int32 := (1 <<< (nI k &&& 31)) - 1
def kx_allsh (k : Nat) (cr : Int32) (sh : Nat → Int32) : Bool := !decide (cr = kx_full k) && decide ((kx_bits sh k ||| cr) = kx_full k)
def kx_hush (sh : Nat → Int32) : Nat → Int32
  | 0 => 0
  | m + 1 => kx_hush sh m + (sh m + 3 - 1) / 3
/-- the most, and where it is -/
def kx_loud (sh : Nat → Int32) : Nat → Int32 × Int32
  | 0 => (0, -1)
  | m + 1 => if (kx_loud sh m).1 < sh m then (sh m, nI m) else kx_loud sh m
def kx_quiet (cr : Int32) (sh : Nat → Int32) : Nat → Int32
  | 0 => -1
  | m + 1 => if kx_ck cr (nI m) = false ∧ (kx_quiet cr sh m = -1 ∨ sh m < sh (kx_quiet cr sh m).toNatClampNeg) then nI m else kx_quiet cr sh m
def kx_ring (k : Nat) (i : Int32) : Nat → Int32
  | 0 => i
  | m + 1 => kx_behind k (kx_ring k i m)
def kx_arc (k : Nat) (sh : Nat → Int32) (i : Int32) : Nat → Int32
  | 0 => 0
  | m + 1 => kx_arc k sh i m + sh (kx_ring k i m).toNatClampNeg
def kx_range (k : Nat) (cr : Int32) (sh : Nat → Int32) : Int32 := if kx_quiet cr sh k = -1 ∨ (kx_loud sh k).2 = -1 then 0 else sh (kx_loud sh k).2.toNatClampNeg - sh (kx_quiet cr sh k).toNatClampNeg
theorem kx_loud_in (sh : Nat → Int32) : ∀ m, m ≤ 12 → (kx_loud sh m).2 = -1 ∨ ∃ c, c < m ∧ (kx_loud sh m).2 = nI c
  | 0, _ => Or.inl rfl
  | m + 1, hm => by
    rw [kx_loud]
    split
    · exact Or.inr ⟨m, by omega, rfl⟩
    · rcases kx_loud_in sh m (by omega) with h | ⟨c, h1, h2⟩
      · exact Or.inl h
      · exact Or.inr ⟨c, by omega, h2⟩
theorem kx_behind_nI {k c : Nat} (hk : k ≤ 12) (hc : c < k) : kx_behind k (nI c) = nI (if c + 1 < k then c + 1 else 0) := by
  unfold kx_behind
  rw [← nI_succ]
  by_cases h : c + 1 < k
  · rw [if_pos (nI_lt h (by omega)), if_pos h]
  · rw [if_neg (nI_nlt (by omega) (by omega)), if_neg h]
    rfl
theorem kx_ring_in {k i : Nat} (hk : k ≤ 12) (hk0 : 0 < k) (hi : i < k) : ∀ m, ∃ c, c < k ∧ kx_ring k (nI i) m = nI c
  | 0 => ⟨i, hi, rfl⟩
  | m + 1 => by
    obtain ⟨c, h1, h2⟩ := kx_ring_in hk hk0 hi m
    rw [kx_ring, h2, kx_behind_nI hk h1]
    exact ⟨_, by split <;> omega, rfl⟩
section KB
variable {d n sl q k p : Nat} {es : ax_H} {t cr : Int32} {sh pl dn : Nat → Int32}
theorem ck_allDone (hp : p ≤ 6) (hb : kb es n q k p t cr sh pl dn) : ax_Mt d 16 [.ref q] n sl es (fun r es' => r = some (.int (kx_sum dn p)) ∧ es' = es) := by
  obtain ⟨hn, h0, h1, h2, h3, z1, z2, z3⟩ := hb
  have hq : q < ax_al n := by omega
  have hq3 : q + 3 < ax_al n := by omega
  refine ax_Mt_start (m := ax_m_0_16) (ls := [some (.ref q), none, none]) rfl ax_b_16_0 (Nat.le_of_ble_eq_true rfl) rfl ?_
  simp only [ax_W_cons, ax_I, ax_cmp, ax_ii, ax_ll, ax_li, ax_st1, ax_st2, ax_kl, ax_k2, ax_fit, ax_rtok, List.getElem?_cons_zero, List.getElem?_cons_succ, List.length_cons, List.length_nil, List.set_cons_zero, List.set_cons_succ, Nat.reduceAdd, Nat.reduceDiv, Nat.reduceMod, Nat.reduceMul, Nat.reduceLT, Nat.reduceLeDiff, Int32.reduceOfInt, Int64.reduceOfInt, true_and, and_true, and_self, true_or, or_true, false_implies, true_implies, not_false_eq_true, not_true_eq_false, Value.category, Nat.reduceEqDiff, Option.toList, List.cons_append, List.nil_append, List.drop_succ_cons, List.drop_zero, ax_t_16]
  rw [ax_n_16_4]
  refine kx_loop (k := p) (I := fun c => ax_W d n sl 16 [(1, .iload 2), (1, .aload 0), (3, .getfield 4), (3, .if_icmp .ge 27), (1, .iload 1), (1, .aload 0), (3, .getfield 26), (1, .iload 2), (1, .iaload), (1, .iadd), (1, .istore 1), (3, .iinc 2 1), (3, .goto 4)] 4 [some (.ref q), some (.int (kx_sum dn c)), some (.int (nI c))] [] n sl es (fun r n' sl' es' => n' = n ∧ sl' = sl ∧ r = some (.int (kx_sum dn p)) ∧ es' = es)) ?_ ?_
  · have e0 := kx_nn (k := p) (by omega)
    simp only [ax_W_cons, ax_I, ax_cmp, ax_ii, ax_ll, ax_li, ax_st1, ax_st2, ax_kl, ax_k2, ax_fit, ax_rtok, List.getElem?_cons_zero, List.getElem?_cons_succ, List.length_cons, List.length_nil, List.set_cons_zero, List.set_cons_succ, Nat.reduceAdd, Nat.reduceDiv, Nat.reduceMod, Nat.reduceMul, Nat.reduceLT, Nat.reduceLeDiff, Int32.reduceOfInt, Int64.reduceOfInt, true_and, and_true, and_self, true_or, or_true, false_implies, true_implies, not_false_eq_true, not_true_eq_false, Value.category, Nat.reduceEqDiff, Option.toList, List.cons_append, List.nil_append, List.drop_succ_cons, List.drop_zero, ax_t_16, ax_j_16_27, ax_n_16_27, h0, kb_o, hq, e0]
  · intro c hc ih
    obtain ⟨e1, e2, e3, e4⟩ := kx_ix hc hp (by decide)
    simp only [ax_W_cons, ax_I, ax_cmp, ax_ii, ax_ll, ax_li, ax_st1, ax_st2, ax_kl, ax_k2, ax_fit, ax_rtok, List.getElem?_cons_zero, List.getElem?_cons_succ, List.length_cons, List.length_nil, List.set_cons_zero, List.set_cons_succ, Nat.reduceAdd, Nat.reduceDiv, Nat.reduceMod, Nat.reduceMul, Nat.reduceLT, Nat.reduceLeDiff, Int32.reduceOfInt, Int64.reduceOfInt, true_and, and_true, and_self, true_or, or_true, false_implies, true_implies, not_false_eq_true, not_true_eq_false, Value.category, Nat.reduceEqDiff, Option.toList, List.cons_append, List.nil_append, List.drop_succ_cons, List.drop_zero, ax_t_16, h0, h3, kb_o, kb_a, hq, hq3, e1, e2, e3, e4]
    rw [ax_j_16_4]
    exact ih
theorem ck_shakingBits (hk : k ≤ 12) (hb : kb es n q k p t cr sh pl dn) : ax_Mt d 17 [.ref q] n sl es (fun r es' => r = some (.int (kx_bits sh k)) ∧ es' = es) := by
  obtain ⟨hn, h0, h1, h2, h3, z1, z2, z3⟩ := hb
  have hq : q < ax_al n := by omega
  have hq1 : q + 1 < ax_al n := by omega
  refine ax_Mt_start (m := ax_m_0_17) (ls := [some (.ref q), none, none]) rfl ax_b_17_0 (Nat.le_of_ble_eq_true rfl) rfl ?_
  simp only [ax_W_cons, ax_I, ax_cmp, ax_ii, ax_ll, ax_li, ax_st1, ax_st2, ax_kl, ax_k2, ax_fit, ax_rtok, List.getElem?_cons_zero, List.getElem?_cons_succ, List.length_cons, List.length_nil, List.set_cons_zero, List.set_cons_succ, Nat.reduceAdd, Nat.reduceDiv, Nat.reduceMod, Nat.reduceMul, Nat.reduceLT, Nat.reduceLeDiff, Int32.reduceOfInt, Int64.reduceOfInt, true_and, and_true, and_self, true_or, or_true, false_implies, true_implies, not_false_eq_true, not_true_eq_false, Value.category, Nat.reduceEqDiff, Option.toList, List.cons_append, List.nil_append, List.drop_succ_cons, List.drop_zero, ax_t_17]
  rw [ax_n_17_4]
  refine kx_loop (k := k) (I := fun c => ax_W d n sl 17 [(1, .iload 2), (1, .aload 0), (3, .getfield 0), (3, .if_icmp .ge 33), (1, .aload 0), (3, .getfield 18), (1, .iload 2), (1, .iaload), (3, .ifCond .le 27), (1, .iload 1), (1, .iconst 1), (1, .iload 2), (1, .ishl), (1, .ior), (1, .istore 1)] 4 [some (.ref q), some (.int (kx_bits sh c)), some (.int (nI c))] [] n sl es (fun r n' sl' es' => n' = n ∧ sl' = sl ∧ r = some (.int (kx_bits sh k)) ∧ es' = es)) ?_ ?_
  · have e0 := kx_nn (k := k) (by omega)
    simp only [ax_W_cons, ax_I, ax_cmp, ax_ii, ax_ll, ax_li, ax_st1, ax_st2, ax_kl, ax_k2, ax_fit, ax_rtok, List.getElem?_cons_zero, List.getElem?_cons_succ, List.length_cons, List.length_nil, List.set_cons_zero, List.set_cons_succ, Nat.reduceAdd, Nat.reduceDiv, Nat.reduceMod, Nat.reduceMul, Nat.reduceLT, Nat.reduceLeDiff, Int32.reduceOfInt, Int64.reduceOfInt, true_and, and_true, and_self, true_or, or_true, false_implies, true_implies, not_false_eq_true, not_true_eq_false, Value.category, Nat.reduceEqDiff, Option.toList, List.cons_append, List.nil_append, List.drop_succ_cons, List.drop_zero, ax_t_17, ax_j_17_33, ax_n_17_33, h0, kb_o, hq, e0]
  · intro c hc ih
    obtain ⟨e1, e2, e3, e4⟩ := kx_ix hc hk (by decide)
    simp only [ax_W_cons, ax_I, ax_cmp, ax_ii, ax_ll, ax_li, ax_st1, ax_st2, ax_kl, ax_k2, ax_fit, ax_rtok, List.getElem?_cons_zero, List.getElem?_cons_succ, List.length_cons, List.length_nil, List.set_cons_zero, List.set_cons_succ, Nat.reduceAdd, Nat.reduceDiv, Nat.reduceMod, Nat.reduceMul, Nat.reduceLT, Nat.reduceLeDiff, Int32.reduceOfInt, Int64.reduceOfInt, true_and, and_true, and_self, true_or, or_true, false_implies, true_implies, not_false_eq_true, not_true_eq_false, Value.category, Nat.reduceEqDiff, Option.toList, List.cons_append, List.nil_append, List.drop_succ_cons, List.drop_zero, ax_t_17, ax_j_17_27, ax_n_17_27, h0, h1, kb_o, kb_a, hq, hq1, e1, e2, e3, e4]
    refine ⟨fun h => ?_, fun h => ?_⟩
    · rw [ax_j_17_4]
      rw [kx_bits, if_neg (by rw [kx_nlt]; exact h)] at ih
      exact ih
    · rw [ax_j_17_4]
      rw [kx_nle] at h
      rw [kx_bits, if_pos h] at ih
      exact ih
theorem ck_allOpenShake (hd : 1 ≤ d) (hk : k ≤ 12) (hb : kb es n q k p t cr sh pl dn) : ax_Mt d 18 [.ref q] n sl es (fun r es' => r = some (.int (kx_b (kx_allsh k cr sh))) ∧ es' = es) := by
  obtain ⟨d, rfl⟩ : ∃ z, d = z + 1 := ⟨d - 1, by omega⟩
  have hb' := hb
  obtain ⟨hn, h0, h1, h2, h3, z1, z2, z3⟩ := hb'
  have hq : q < ax_al n := by omega
  refine ax_Mt_start (m := ax_m_0_18) (ls := [some (.ref q), none]) rfl ax_b_18_0 (Nat.le_of_ble_eq_true rfl) rfl ?_
  simp only [ax_W_cons, ax_I, ax_cmp, ax_ii, ax_ll, ax_li, ax_st1, ax_st2, ax_kl, ax_k2, ax_fit, ax_rtok, List.getElem?_cons_zero, List.getElem?_cons_succ, List.length_cons, List.length_nil, List.set_cons_zero, List.set_cons_succ, Nat.reduceAdd, Nat.reduceDiv, Nat.reduceMod, Nat.reduceMul, Nat.reduceLT, Nat.reduceLeDiff, Int32.reduceOfInt, Int64.reduceOfInt, true_and, and_true, and_self, true_or, or_true, false_implies, true_implies, not_false_eq_true, not_true_eq_false, Value.category, Nat.reduceEqDiff, Option.toList, List.cons_append, List.nil_append, List.drop_succ_cons, List.drop_zero, ax_t_18, ax_j_18_34, ax_n_18_34, ax_j_18_35, ax_n_18_35, h0, kb_o, hq]
  refine ⟨fun h => ?_, fun h => ?_⟩
  · have h : cr = kx_full k := h
    simp [kx_allsh, h, kx_b]
  · refine ax_inv_eq (Nat.le_of_ble_eq_true rfl) (Nat.le_of_ble_eq_true rfl) (fun _ => ax_rcv_ok hq h0) (fun h => absurd h (by decide)) (Nat.le_refl _) (Nat.le_refl _) (ck_shakingBits hk hb) ?_
    simp only [ax_W_cons, ax_I, ax_cmp, ax_ii, ax_ll, ax_li, ax_st1, ax_st2, ax_kl, ax_k2, ax_fit, ax_rtok, List.getElem?_cons_zero, List.getElem?_cons_succ, List.length_cons, List.length_nil, List.set_cons_zero, List.set_cons_succ, Nat.reduceAdd, Nat.reduceDiv, Nat.reduceMod, Nat.reduceMul, Nat.reduceLT, Nat.reduceLeDiff, Int32.reduceOfInt, Int64.reduceOfInt, true_and, and_true, and_self, true_or, or_true, false_implies, true_implies, not_false_eq_true, not_true_eq_false, Value.category, Nat.reduceEqDiff, Option.toList, List.cons_append, List.nil_append, List.drop_succ_cons, List.drop_zero, ax_t_18, ax_j_18_34, ax_n_18_34, ax_j_18_35, ax_n_18_35, h0, kb_o, hq]
    have h : ¬ cr = kx_full k := h
    refine ⟨fun h2 => ?_, fun h2 => ?_⟩
    · have h2 : ¬ (kx_bits sh k ||| cr) = kx_full k := h2
      simp [kx_allsh, h2, kx_b]
    · simp only [Classical.not_not] at h2
      have h2 : (kx_bits sh k ||| cr) = kx_full k := h2
      simp [kx_allsh, h, h2, kx_b]
theorem ck_breathsToStill (hk : k ≤ 12) (hb : kb es n q k p t cr sh pl dn) : ax_Mt d 26 [.ref q] n sl es (fun r es' => r = some (.int (kx_hush sh k)) ∧ es' = es) := by
  obtain ⟨hn, h0, h1, h2, h3, z1, z2, z3⟩ := hb
  have hq : q < ax_al n := by omega
  have hq1 : q + 1 < ax_al n := by omega
  have h30 : ¬ (3 : Int32) = 0 := by decide
  refine ax_Mt_start (m := ax_m_0_26) (ls := [some (.ref q), none, none]) rfl ax_b_26_0 (Nat.le_of_ble_eq_true rfl) rfl ?_
  simp only [ax_W_cons, ax_I, ax_cmp, ax_ii, ax_ll, ax_li, ax_st1, ax_st2, ax_kl, ax_k2, ax_fit, ax_rtok, List.getElem?_cons_zero, List.getElem?_cons_succ, List.length_cons, List.length_nil, List.set_cons_zero, List.set_cons_succ, Nat.reduceAdd, Nat.reduceDiv, Nat.reduceMod, Nat.reduceMul, Nat.reduceLT, Nat.reduceLeDiff, Int32.reduceOfInt, Int64.reduceOfInt, true_and, and_true, and_self, true_or, or_true, false_implies, true_implies, not_false_eq_true, not_true_eq_false, Value.category, Nat.reduceEqDiff, Option.toList, List.cons_append, List.nil_append, List.drop_succ_cons, List.drop_zero, ax_t_26]
  rw [ax_n_26_4]
  refine kx_loop (k := k) (I := fun c => ax_W d n sl 26 [(1, .iload 2), (1, .aload 0), (3, .getfield 0), (3, .if_icmp .ge 33), (1, .iload 1), (1, .aload 0), (3, .getfield 18), (1, .iload 2), (1, .iaload), (1, .iconst 3), (1, .iadd), (1, .iconst 1), (1, .isub), (1, .iconst 3), (1, .idiv), (1, .iadd), (1, .istore 1), (3, .iinc 2 1), (3, .goto 4)] 4 [some (.ref q), some (.int (kx_hush sh c)), some (.int (nI c))] [] n sl es (fun r n' sl' es' => n' = n ∧ sl' = sl ∧ r = some (.int (kx_hush sh k)) ∧ es' = es)) ?_ ?_
  · have e0 := kx_nn (k := k) (by omega)
    simp only [ax_W_cons, ax_I, ax_cmp, ax_ii, ax_ll, ax_li, ax_st1, ax_st2, ax_kl, ax_k2, ax_fit, ax_rtok, List.getElem?_cons_zero, List.getElem?_cons_succ, List.length_cons, List.length_nil, List.set_cons_zero, List.set_cons_succ, Nat.reduceAdd, Nat.reduceDiv, Nat.reduceMod, Nat.reduceMul, Nat.reduceLT, Nat.reduceLeDiff, Int32.reduceOfInt, Int64.reduceOfInt, true_and, and_true, and_self, true_or, or_true, false_implies, true_implies, not_false_eq_true, not_true_eq_false, Value.category, Nat.reduceEqDiff, Option.toList, List.cons_append, List.nil_append, List.drop_succ_cons, List.drop_zero, ax_t_26, ax_j_26_33, ax_n_26_33, h0, kb_o, hq, e0]
  · intro c hc ih
    obtain ⟨e1, e2, e3, e4⟩ := kx_ix hc hk (by decide)
    simp only [ax_W_cons, ax_I, ax_cmp, ax_ii, ax_ll, ax_li, ax_st1, ax_st2, ax_kl, ax_k2, ax_fit, ax_rtok, List.getElem?_cons_zero, List.getElem?_cons_succ, List.length_cons, List.length_nil, List.set_cons_zero, List.set_cons_succ, Nat.reduceAdd, Nat.reduceDiv, Nat.reduceMod, Nat.reduceMul, Nat.reduceLT, Nat.reduceLeDiff, Int32.reduceOfInt, Int64.reduceOfInt, true_and, and_true, and_self, true_or, or_true, false_implies, true_implies, not_false_eq_true, not_true_eq_false, Value.category, Nat.reduceEqDiff, Option.toList, List.cons_append, List.nil_append, List.drop_succ_cons, List.drop_zero, ax_t_26, h0, h1, kb_o, kb_a, hq, hq1, e1, e2, e3, e4, h30]
    rw [ax_j_26_4]
    exact ih
theorem ck_loudest (hk : k ≤ 12) (hb : kb es n q k p t cr sh pl dn) : ax_Mt d 22 [.ref q] n sl es (fun r es' => r = some (.int (kx_loud sh k).2) ∧ es' = es) := by
  obtain ⟨hn, h0, h1, h2, h3, z1, z2, z3⟩ := hb
  have hq : q < ax_al n := by omega
  have hq1 : q + 1 < ax_al n := by omega
  refine ax_Mt_start (m := ax_m_0_22) (ls := [some (.ref q), none, none, none]) rfl ax_b_22_0 (Nat.le_of_ble_eq_true rfl) rfl ?_
  simp only [ax_W_cons, ax_I, ax_cmp, ax_ii, ax_ll, ax_li, ax_st1, ax_st2, ax_kl, ax_k2, ax_fit, ax_rtok, List.getElem?_cons_zero, List.getElem?_cons_succ, List.length_cons, List.length_nil, List.set_cons_zero, List.set_cons_succ, Nat.reduceAdd, Nat.reduceDiv, Nat.reduceMod, Nat.reduceMul, Nat.reduceLT, Nat.reduceLeDiff, Int32.reduceOfInt, Int64.reduceOfInt, true_and, and_true, and_self, true_or, or_true, false_implies, true_implies, not_false_eq_true, not_true_eq_false, Value.category, Nat.reduceEqDiff, Option.toList, List.cons_append, List.nil_append, List.drop_succ_cons, List.drop_zero, ax_t_22]
  rw [ax_n_22_6]
  refine kx_loop (k := k) (I := fun c => ax_W d n sl 22 [(1, .iload 3), (1, .aload 0), (3, .getfield 0), (3, .if_icmp .ge 39), (1, .aload 0), (3, .getfield 18), (1, .iload 3), (1, .iaload), (1, .iload 2), (3, .if_icmp .le 33), (1, .aload 0), (3, .getfield 18), (1, .iload 3), (1, .iaload), (1, .istore 2), (1, .iload 3), (1, .istore 1)] 6 [some (.ref q), some (.int (kx_loud sh c).2), some (.int (kx_loud sh c).1), some (.int (nI c))] [] n sl es (fun r n' sl' es' => n' = n ∧ sl' = sl ∧ r = some (.int (kx_loud sh k).2) ∧ es' = es)) ?_ ?_
  · have e0 := kx_nn (k := k) (by omega)
    simp only [ax_W_cons, ax_I, ax_cmp, ax_ii, ax_ll, ax_li, ax_st1, ax_st2, ax_kl, ax_k2, ax_fit, ax_rtok, List.getElem?_cons_zero, List.getElem?_cons_succ, List.length_cons, List.length_nil, List.set_cons_zero, List.set_cons_succ, Nat.reduceAdd, Nat.reduceDiv, Nat.reduceMod, Nat.reduceMul, Nat.reduceLT, Nat.reduceLeDiff, Int32.reduceOfInt, Int64.reduceOfInt, true_and, and_true, and_self, true_or, or_true, false_implies, true_implies, not_false_eq_true, not_true_eq_false, Value.category, Nat.reduceEqDiff, Option.toList, List.cons_append, List.nil_append, List.drop_succ_cons, List.drop_zero, ax_t_22, ax_j_22_39, ax_n_22_39, h0, kb_o, hq, e0]
  · intro c hc ih
    obtain ⟨e1, e2, e3, e4⟩ := kx_ix hc hk (by decide)
    simp only [ax_W_cons, ax_I, ax_cmp, ax_ii, ax_ll, ax_li, ax_st1, ax_st2, ax_kl, ax_k2, ax_fit, ax_rtok, List.getElem?_cons_zero, List.getElem?_cons_succ, List.length_cons, List.length_nil, List.set_cons_zero, List.set_cons_succ, Nat.reduceAdd, Nat.reduceDiv, Nat.reduceMod, Nat.reduceMul, Nat.reduceLT, Nat.reduceLeDiff, Int32.reduceOfInt, Int64.reduceOfInt, true_and, and_true, and_self, true_or, or_true, false_implies, true_implies, not_false_eq_true, not_true_eq_false, Value.category, Nat.reduceEqDiff, Option.toList, List.cons_append, List.nil_append, List.drop_succ_cons, List.drop_zero, ax_t_22, ax_j_22_33, ax_n_22_33, h0, h1, kb_o, kb_a, hq, hq1, e1, e2, e3, e4]
    refine ⟨fun h => ?_, fun h => ?_⟩
    · rw [ax_j_22_6]
      rw [kx_loud, if_neg (by rw [kx_nlt]; exact h)] at ih
      exact ih
    · rw [ax_j_22_6]
      rw [kx_nle] at h
      rw [kx_loud, if_pos h] at ih
      exact ih
theorem kx_quiet_in (cr : Int32) (sh : Nat → Int32) : ∀ m, m ≤ 12 → kx_quiet cr sh m = -1 ∨ ∃ c, c < m ∧ kx_quiet cr sh m = nI c
  | 0, _ => Or.inl rfl
  | m + 1, hm => by
    rw [kx_quiet]
    split
    · exact Or.inr ⟨m, by omega, rfl⟩
    · rcases kx_quiet_in cr sh m (by omega) with h | ⟨c, h1, h2⟩
      · exact Or.inl h
      · exact Or.inr ⟨c, by omega, h2⟩
theorem ck_quietestOpen (hd : 1 ≤ d) (hk : k ≤ 12) (hb : kb es n q k p t cr sh pl dn) : ax_Mt d 23 [.ref q] n sl es (fun r es' => r = some (.int (kx_quiet cr sh k)) ∧ es' = es) := by
  obtain ⟨d, rfl⟩ : ∃ z, d = z + 1 := ⟨d - 1, by omega⟩
  have hb' := hb
  obtain ⟨hn, h0, h1, h2, h3, z1, z2, z3⟩ := hb'
  have hq : q < ax_al n := by omega
  have hq1 : q + 1 < ax_al n := by omega
  refine ax_Mt_start (m := ax_m_0_23) (ls := [some (.ref q), none, none]) rfl ax_b_23_0 (Nat.le_of_ble_eq_true rfl) rfl ?_
  simp only [ax_W_cons, ax_I, ax_cmp, ax_ii, ax_ll, ax_li, ax_st1, ax_st2, ax_kl, ax_k2, ax_fit, ax_rtok, List.getElem?_cons_zero, List.getElem?_cons_succ, List.length_cons, List.length_nil, List.set_cons_zero, List.set_cons_succ, Nat.reduceAdd, Nat.reduceDiv, Nat.reduceMod, Nat.reduceMul, Nat.reduceLT, Nat.reduceLeDiff, Int32.reduceOfInt, Int64.reduceOfInt, true_and, and_true, and_self, true_or, or_true, false_implies, true_implies, not_false_eq_true, not_true_eq_false, Value.category, Nat.reduceEqDiff, Option.toList, List.cons_append, List.nil_append, List.drop_succ_cons, List.drop_zero, ax_t_23]
  rw [ax_n_23_4]
  refine kx_loop (k := k) (I := fun c => ax_W (d + 1) n sl 23 [(1, .iload 2), (1, .aload 0), (3, .getfield 0), (3, .if_icmp .ge 48), (1, .aload 0), (1, .iload 2), (3, .invokeinterface 4 9), (3, .ifCond .ne 42), (1, .iload 1), (1, .iconst (-1)), (3, .if_icmp .eq 40), (1, .aload 0), (3, .getfield 18), (1, .iload 2), (1, .iaload), (1, .aload 0), (3, .getfield 18), (1, .iload 1), (1, .iaload), (3, .if_icmp .ge 42)] 4 [some (.ref q), some (.int (kx_quiet cr sh c)), some (.int (nI c))] [] n sl es (fun r n' sl' es' => n' = n ∧ sl' = sl ∧ r = some (.int (kx_quiet cr sh k)) ∧ es' = es)) ?_ ?_
  · have e0 := kx_nn (k := k) (by omega)
    simp only [ax_W_cons, ax_I, ax_cmp, ax_ii, ax_ll, ax_li, ax_st1, ax_st2, ax_kl, ax_k2, ax_fit, ax_rtok, List.getElem?_cons_zero, List.getElem?_cons_succ, List.length_cons, List.length_nil, List.set_cons_zero, List.set_cons_succ, Nat.reduceAdd, Nat.reduceDiv, Nat.reduceMod, Nat.reduceMul, Nat.reduceLT, Nat.reduceLeDiff, Int32.reduceOfInt, Int64.reduceOfInt, true_and, and_true, and_self, true_or, or_true, false_implies, true_implies, not_false_eq_true, not_true_eq_false, Value.category, Nat.reduceEqDiff, Option.toList, List.cons_append, List.nil_append, List.drop_succ_cons, List.drop_zero, ax_t_23, ax_j_23_48, ax_n_23_48, h0, kb_o, hq, e0]
  · intro c hc ih
    obtain ⟨e1, e2, e3, e4⟩ := kx_ix hc hk (by decide)
    simp only [ax_W_cons, ax_I, ax_cmp, ax_ii, ax_ll, ax_li, ax_st1, ax_st2, ax_kl, ax_k2, ax_fit, ax_rtok, List.getElem?_cons_zero, List.getElem?_cons_succ, List.length_cons, List.length_nil, List.set_cons_zero, List.set_cons_succ, Nat.reduceAdd, Nat.reduceDiv, Nat.reduceMod, Nat.reduceMul, Nat.reduceLT, Nat.reduceLeDiff, Int32.reduceOfInt, Int64.reduceOfInt, true_and, and_true, and_self, true_or, or_true, false_implies, true_implies, not_false_eq_true, not_true_eq_false, Value.category, Nat.reduceEqDiff, Option.toList, List.cons_append, List.nil_append, List.drop_succ_cons, List.drop_zero, ax_t_23, h0, kb_o, hq, e1]
    refine ax_inv_eq (Nat.le_of_ble_eq_true rfl) (Nat.le_of_ble_eq_true rfl) (fun _ => ax_rcv_ok hq h0) (fun h => absurd h (by decide)) (Nat.le_refl _) (Nat.le_refl _) (ck_isCracked hb (nI c)) ?_
    simp only [ax_W_cons, ax_I, ax_cmp, ax_ii, ax_ll, ax_li, ax_st1, ax_st2, ax_kl, ax_k2, ax_fit, ax_rtok, List.getElem?_cons_zero, List.getElem?_cons_succ, List.length_cons, List.length_nil, List.set_cons_zero, List.set_cons_succ, Nat.reduceAdd, Nat.reduceDiv, Nat.reduceMod, Nat.reduceMul, Nat.reduceLT, Nat.reduceLeDiff, Int32.reduceOfInt, Int64.reduceOfInt, true_and, and_true, and_self, true_or, or_true, false_implies, true_implies, not_false_eq_true, not_true_eq_false, Value.category, Nat.reduceEqDiff, Option.toList, List.cons_append, List.nil_append, List.drop_succ_cons, List.drop_zero, ax_t_23, ax_j_23_40, ax_n_23_40, ax_j_23_42, ax_n_23_42, h0, h1, kb_o, kb_a, hq, hq1, e2, e3, e4, kx_b0]
    (try rw [ax_j_23_4])
    refine ⟨fun h => ?_, fun h => ⟨fun h2 => ?_, fun h2 => ?_⟩⟩
    · rw [kx_quiet, if_neg (fun z => h z.1)] at ih
      exact ih
    · simp only [Classical.not_not] at h
      rw [kx_quiet, if_pos ⟨h, Or.inl h2⟩] at ih
      (try rw [ax_j_23_4])
      exact ih
    · simp only [Classical.not_not] at h
      rcases kx_quiet_in cr sh c (by omega) with h9 | ⟨c', hc', h9⟩
      · exact absurd h9 h2
      · have e5 : vp_in (kx_quiet cr sh c) 12 := by rw [h9]; exact nI_in (by omega) (by decide)
        refine ⟨e5, fun h8 => ?_, fun h8 => ?_⟩
        · (try rw [ax_j_23_4])
          rw [kx_quiet, if_neg (fun z => z.2.elim h2 (fun y => absurd y (by rw [kx_nlt]; exact h8)))] at ih
          exact ih
        · (try rw [ax_j_23_4])
          rw [kx_nle] at h8
          rw [kx_quiet, if_pos ⟨h, Or.inr h8⟩] at ih
          exact ih
theorem ck_range (hd : 2 ≤ d) (hk : k ≤ 12) (hb : kb es n q k p t cr sh pl dn) : ax_Mt d 24 [.ref q] n sl es (fun r es' => r = some (.int (kx_range k cr sh)) ∧ es' = es) := by
  obtain ⟨d, rfl⟩ : ∃ z, d = z + 1 := ⟨d - 1, by omega⟩
  have hb' := hb
  obtain ⟨hn, h0, h1, h2, h3, z1, z2, z3⟩ := hb'
  have hq : q < ax_al n := by omega
  have hq1 : q + 1 < ax_al n := by omega
  refine ax_Mt_start (m := ax_m_0_24) (ls := [some (.ref q), none, none]) rfl ax_b_24_0 (Nat.le_of_ble_eq_true rfl) rfl ?_
  simp only [ax_W_cons, ax_I, ax_cmp, ax_ii, ax_ll, ax_li, ax_st1, ax_st2, ax_kl, ax_k2, ax_fit, ax_rtok, List.getElem?_cons_zero, List.getElem?_cons_succ, List.length_cons, List.length_nil, List.set_cons_zero, List.set_cons_succ, Nat.reduceAdd, Nat.reduceDiv, Nat.reduceMod, Nat.reduceMul, Nat.reduceLT, Nat.reduceLeDiff, Int32.reduceOfInt, Int64.reduceOfInt, true_and, and_true, and_self, true_or, or_true, false_implies, true_implies, not_false_eq_true, not_true_eq_false, Value.category, Nat.reduceEqDiff, Option.toList, List.cons_append, List.nil_append, List.drop_succ_cons, List.drop_zero, ax_t_24]
  refine ax_inv_eq (Nat.le_of_ble_eq_true rfl) (Nat.le_of_ble_eq_true rfl) (fun _ => ax_rcv_ok hq h0) (fun h => absurd h (by decide)) (Nat.le_refl _) (Nat.le_refl _) (ck_quietestOpen (by omega) hk hb) ?_
  simp only [ax_W_cons, ax_I, ax_cmp, ax_ii, ax_ll, ax_li, ax_st1, ax_st2, ax_kl, ax_k2, ax_fit, ax_rtok, List.getElem?_cons_zero, List.getElem?_cons_succ, List.length_cons, List.length_nil, List.set_cons_zero, List.set_cons_succ, Nat.reduceAdd, Nat.reduceDiv, Nat.reduceMod, Nat.reduceMul, Nat.reduceLT, Nat.reduceLeDiff, Int32.reduceOfInt, Int64.reduceOfInt, true_and, and_true, and_self, true_or, or_true, false_implies, true_implies, not_false_eq_true, not_true_eq_false, Value.category, Nat.reduceEqDiff, Option.toList, List.cons_append, List.nil_append, List.drop_succ_cons, List.drop_zero, ax_t_24]
  refine ax_inv_eq (Nat.le_of_ble_eq_true rfl) (Nat.le_of_ble_eq_true rfl) (fun _ => ax_rcv_ok hq h0) (fun h => absurd h (by decide)) (Nat.le_refl _) (Nat.le_refl _) (ck_loudest hk hb) ?_
  simp only [ax_W_cons, ax_I, ax_cmp, ax_ii, ax_ll, ax_li, ax_st1, ax_st2, ax_kl, ax_k2, ax_fit, ax_rtok, List.getElem?_cons_zero, List.getElem?_cons_succ, List.length_cons, List.length_nil, List.set_cons_zero, List.set_cons_succ, Nat.reduceAdd, Nat.reduceDiv, Nat.reduceMod, Nat.reduceMul, Nat.reduceLT, Nat.reduceLeDiff, Int32.reduceOfInt, Int64.reduceOfInt, true_and, and_true, and_self, true_or, or_true, false_implies, true_implies, not_false_eq_true, not_true_eq_false, Value.category, Nat.reduceEqDiff, Option.toList, List.cons_append, List.nil_append, List.drop_succ_cons, List.drop_zero, ax_t_24, ax_j_24_20, ax_n_24_20, ax_j_24_24, ax_n_24_24, ax_j_24_37, ax_n_24_37]
  refine ⟨fun h => ?_, fun h => ⟨fun h2 => ?_, fun h2 => ?_⟩⟩
  · simp [kx_range, h]
  · rcases kx_quiet_in cr sh k hk with h9 | ⟨c1, hc1, h9⟩
    · exact absurd h9 h
    rcases kx_loud_in sh k hk with h8 | ⟨c2, hc2, h8⟩
    · exact absurd h8 h2
    have e1 : vp_in (kx_quiet cr sh k) 12 := by rw [h9]; exact nI_in (by omega) (by decide)
    have e2 : vp_in (kx_loud sh k).2 12 := by rw [h8]; exact nI_in (by omega) (by decide)
    simp only [ax_W_cons, ax_I, ax_cmp, ax_ii, ax_ll, ax_li, ax_st1, ax_st2, ax_kl, ax_k2, ax_fit, ax_rtok, List.getElem?_cons_zero, List.getElem?_cons_succ, List.length_cons, List.length_nil, List.set_cons_zero, List.set_cons_succ, Nat.reduceAdd, Nat.reduceDiv, Nat.reduceMod, Nat.reduceMul, Nat.reduceLT, Nat.reduceLeDiff, Int32.reduceOfInt, Int64.reduceOfInt, true_and, and_true, and_self, true_or, or_true, false_implies, true_implies, not_false_eq_true, not_true_eq_false, Value.category, Nat.reduceEqDiff, Option.toList, List.cons_append, List.nil_append, List.drop_succ_cons, List.drop_zero, ax_t_24, h0, h1, kb_o, kb_a, hq, hq1, e1, e2]
    simp [kx_range, h, h2]
  · simp only [Classical.not_not] at h2
    simp [kx_range, h2]
theorem ck_sumFrom (hd : 1 ≤ d) (hk : k ≤ 12) (hk0 : 0 < k) (hb : kb es n q k p t cr sh pl dn) (i c0 : Nat) (hi : i < k) (hc0 : c0 ≤ 12) : ax_Mt d 25 [.ref q, .int (nI i), .int (nI c0)] n sl es (fun r es' => r = some (.int (kx_arc k sh (nI i) c0)) ∧ es' = es) := by
  obtain ⟨d, rfl⟩ : ∃ z, d = z + 1 := ⟨d - 1, by omega⟩
  have hb' := hb
  obtain ⟨hn, h0, h1, h2, h3, z1, z2, z3⟩ := hb'
  have hq : q < ax_al n := by omega
  have hq1 : q + 1 < ax_al n := by omega
  refine ax_Mt_start (m := ax_m_0_25) (ls := [some (.ref q), some (.int (nI i)), some (.int (nI c0)), none, none, none]) rfl ax_b_25_0 (Nat.le_of_ble_eq_true rfl) rfl ?_
  simp only [ax_W_cons, ax_I, ax_cmp, ax_ii, ax_ll, ax_li, ax_st1, ax_st2, ax_kl, ax_k2, ax_fit, ax_rtok, List.getElem?_cons_zero, List.getElem?_cons_succ, List.length_cons, List.length_nil, List.set_cons_zero, List.set_cons_succ, Nat.reduceAdd, Nat.reduceDiv, Nat.reduceMod, Nat.reduceMul, Nat.reduceLT, Nat.reduceLeDiff, Int32.reduceOfInt, Int64.reduceOfInt, true_and, and_true, and_self, true_or, or_true, false_implies, true_implies, not_false_eq_true, not_true_eq_false, Value.category, Nat.reduceEqDiff, Option.toList, List.cons_append, List.nil_append, List.drop_succ_cons, List.drop_zero, ax_t_25]
  rw [ax_n_25_8]
  refine kx_loop (k := c0) (I := fun c => ax_W (d + 1) n sl 25 [(2, .iload 5), (1, .iload 2), (3, .if_icmp .ge 38), (1, .iload 3), (1, .aload 0), (3, .getfield 18), (2, .iload 4), (1, .iaload), (1, .iadd), (1, .istore 3), (1, .aload 0), (2, .iload 4), (3, .invokeinterface 14 9), (2, .istore 4), (3, .iinc 5 1), (3, .goto 8)] 8 [some (.ref q), some (.int (nI i)), some (.int (nI c0)), some (.int (kx_arc k sh (nI i) c)), some (.int (kx_ring k (nI i) c)), some (.int (nI c))] [] n sl es (fun r n' sl' es' => n' = n ∧ sl' = sl ∧ r = some (.int (kx_arc k sh (nI i) c0)) ∧ es' = es)) ?_ ?_
  · have e0 := kx_nn (k := c0) (by omega)
    simp only [ax_W_cons, ax_I, ax_cmp, ax_ii, ax_ll, ax_li, ax_st1, ax_st2, ax_kl, ax_k2, ax_fit, ax_rtok, List.getElem?_cons_zero, List.getElem?_cons_succ, List.length_cons, List.length_nil, List.set_cons_zero, List.set_cons_succ, Nat.reduceAdd, Nat.reduceDiv, Nat.reduceMod, Nat.reduceMul, Nat.reduceLT, Nat.reduceLeDiff, Int32.reduceOfInt, Int64.reduceOfInt, true_and, and_true, and_self, true_or, or_true, false_implies, true_implies, not_false_eq_true, not_true_eq_false, Value.category, Nat.reduceEqDiff, Option.toList, List.cons_append, List.nil_append, List.drop_succ_cons, List.drop_zero, ax_t_25, ax_j_25_38, ax_n_25_38, e0]
  · intro c hc ih
    obtain ⟨e1, e2, e3, e4⟩ := kx_ix hc hc0 (by decide)
    obtain ⟨c', hc', h9⟩ := kx_ring_in hk hk0 hi c
    have e5 : vp_in (kx_ring k (nI i) c) 12 := by rw [h9]; exact nI_in (by omega) (by decide)
    simp only [ax_W_cons, ax_I, ax_cmp, ax_ii, ax_ll, ax_li, ax_st1, ax_st2, ax_kl, ax_k2, ax_fit, ax_rtok, List.getElem?_cons_zero, List.getElem?_cons_succ, List.length_cons, List.length_nil, List.set_cons_zero, List.set_cons_succ, Nat.reduceAdd, Nat.reduceDiv, Nat.reduceMod, Nat.reduceMul, Nat.reduceLT, Nat.reduceLeDiff, Int32.reduceOfInt, Int64.reduceOfInt, true_and, and_true, and_self, true_or, or_true, false_implies, true_implies, not_false_eq_true, not_true_eq_false, Value.category, Nat.reduceEqDiff, Option.toList, List.cons_append, List.nil_append, List.drop_succ_cons, List.drop_zero, ax_t_25, h0, h1, kb_o, kb_a, hq, hq1, e1, e5]
    refine ax_inv_eq (Nat.le_of_ble_eq_true rfl) (Nat.le_of_ble_eq_true rfl) (fun _ => ax_rcv_ok hq h0) (fun h => absurd h (by decide)) (Nat.le_refl _) (Nat.le_refl _) (ck_cellBehind hb (kx_ring k (nI i) c)) ?_
    simp only [ax_W_cons, ax_I, ax_cmp, ax_ii, ax_ll, ax_li, ax_st1, ax_st2, ax_kl, ax_k2, ax_fit, ax_rtok, List.getElem?_cons_zero, List.getElem?_cons_succ, List.length_cons, List.length_nil, List.set_cons_zero, List.set_cons_succ, Nat.reduceAdd, Nat.reduceDiv, Nat.reduceMod, Nat.reduceMul, Nat.reduceLT, Nat.reduceLeDiff, Int32.reduceOfInt, Int64.reduceOfInt, true_and, and_true, and_self, true_or, or_true, false_implies, true_implies, not_false_eq_true, not_true_eq_false, Value.category, Nat.reduceEqDiff, Option.toList, List.cons_append, List.nil_append, List.drop_succ_cons, List.drop_zero, ax_t_25, e4]
    rw [ax_j_25_8]
    exact ih
end KB
