/-! the law: its loop, its beginning -/
theorem and63 (x : Int32) : ∃ m, m < 64 ∧ x &&& 63 = nI m := by
  refine ⟨(x &&& 63).toBitVec.toNat, ?_, Int32.toBitVec_inj.1 (by
    show (x &&& 63).toBitVec = BitVec.ofNat 32 (x &&& 63).toBitVec.toNat
    simp)⟩
  have h : (x &&& 63).toBitVec.toNat = x.toBitVec.toNat &&& 63 := by
    rw [Int32.toBitVec_and, BitVec.toNat_and]
    rfl
  rw [h]
  exact Nat.lt_succ_of_le Nat.and_le_right
theorem sub7 {N : Nat} (hN : N ≤ 3584) : (nI N - 7).toInt = (N : Int) - 7 := by
  rw [Int32.toInt_sub, nI_toInt (by omega), show (7 : Int32).toInt = 7 from rfl]
  exact Int.bmod_eq_of_le (by omega) (by omega)
section LL
variable {N : Nat} {xs : Nat → Int32}
theorem lw_loop (hN : N ≤ 3584) : ∀ f j n sl es l5 l6, N - 7 * j ≤ f → 178 ≤ n → n ≤ 178 + j → sl ≤ 19555 + 6 * j → j ≤ 600 → qS es N xs → qI es n j → ax_W 1300 601024 7293034 1536 [(2, .iload 4), (1, .aload 0), (1, .arraylength), (2, .iconst 7), (1, .isub), (3, .if_icmp .gt 1504), (1, .aload 0), (2, .iload 4), (1, .iaload), (2, .iconst 63), (1, .iand), (180, .tableswitch 1498 0 40 #[220, 367, 380, 393, 418, 455, 492, 517, 542, 555, 592, 605, 618, 643, 680, 693, 718, 755, 816, 841, 854, 903, 928, 953, 990, 1003, 1016, 1029, 1042, 1055, 1092, 1129, 1154, 1167, 1192, 1205, 1230, 1279, 1371, 1420, 1473])] 23 [some (.float 0), some (.ref 0), some (.ref 159), some (.ref 177), some (.int (nI (7 * j))), l5, l6] [] n sl es (fun r _ _ _ => r = some (.int 1)) := by
  intro f
  induction f with
  | zero =>
    intro j n sl es l5 l6 hf h1 h2 h3 hj S I
    obtain ⟨S1, -⟩ := id S
    have e0 : Int32.ofNat N - 7 < nI (7 * j) := by
      show nI N - 7 < nI (7 * j)
      rw [Int32.lt_iff_toInt_lt, sub7 hN, nI_toInt (by omega)]
      omega
    have n1 : ((1 : Int32) = 0 ∨ (1 : Int32) = 1) := Or.inr rfl
    simp only [ax_W_cons, ax_I, ax_cmp, ax_ii, ax_ll, ax_li, ax_st1, ax_st2, ax_kl, ax_k2, ax_fit, ax_rtok, List.getElem?_cons_zero, List.getElem?_cons_succ, List.length_cons, List.length_nil, List.set_cons_zero, List.set_cons_succ, Nat.reduceAdd, Nat.reduceDiv, Nat.reduceMod, Nat.reduceMul, Nat.reduceLT, Nat.reduceLeDiff, Int32.reduceOfInt, Int64.reduceOfInt, true_and, and_true, and_self, true_or, or_true, false_implies, true_implies, not_false_eq_true, not_true_eq_false, Value.category, Nat.reduceEqDiff, Option.toList, List.cons_append, List.nil_append, List.drop_succ_cons, List.drop_zero, ax_qq_eq, ax_t_1536, ax_j_1536_1504, ax_n_1536_1504, S1, e0, n1]
  | succ f ih =>
    intro j n sl es l5 l6 hf h1 h2 h3 hj S I
    obtain ⟨S1, -⟩ := id S
    by_cases hi : 7 * j + 7 ≤ N
    rotate_left
    · have e0 : Int32.ofNat N - 7 < nI (7 * j) := by
        show nI N - 7 < nI (7 * j)
        rw [Int32.lt_iff_toInt_lt, sub7 hN, nI_toInt (by omega)]
        omega
      have n1 : ((1 : Int32) = 0 ∨ (1 : Int32) = 1) := Or.inr rfl
      simp only [ax_W_cons, ax_I, ax_cmp, ax_ii, ax_ll, ax_li, ax_st1, ax_st2, ax_kl, ax_k2, ax_fit, ax_rtok, List.getElem?_cons_zero, List.getElem?_cons_succ, List.length_cons, List.length_nil, List.set_cons_zero, List.set_cons_succ, Nat.reduceAdd, Nat.reduceDiv, Nat.reduceMod, Nat.reduceMul, Nat.reduceLT, Nat.reduceLeDiff, Int32.reduceOfInt, Int64.reduceOfInt, true_and, and_true, and_self, true_or, or_true, false_implies, true_implies, not_false_eq_true, not_true_eq_false, Value.category, Nat.reduceEqDiff, Option.toList, List.cons_append, List.nil_append, List.drop_succ_cons, List.drop_zero, ax_qq_eq, ax_t_1536, ax_j_1536_1504, ax_n_1536_1504, S1, e0, n1]
    have e0 : ¬ Int32.ofNat N - 7 < nI (7 * j) := by
      show ¬ nI N - 7 < nI (7 * j)
      rw [Int32.lt_iff_toInt_lt, sub7 hN, nI_toInt (by omega)]
      omega
    have hal : ax_al n = 178 := by
      unfold ax_al
      rw [show ax_NF = 178 from rfl]
      omega
    have v0 : vp_in (nI (7 * j)) N := nI_in (by omega) (by omega)
    have c0 : (nI (7 * j)).toNatClampNeg = 7 * j := nI_clamp (by omega)
    have hn : n ≤ 601024 := by omega
    have hs : sl ≤ 7293034 := by omega
    have i7 : nI (7 * j) + 7 = nI (7 * (j + 1)) := by
      rw [show 7 * (j + 1) = 7 * j + 7 by omega]
      exact kn_add _ 7
    have fin0 : ∀ n' sl' es' l5 l6, (n' = n ∧ sl' = sl ∨ n' = n + 1 ∧ sl' = sl + 6) → qS es' N xs → qI es' n' (j + 1) → ax_J ax_W 1300 601024 7293034 1536 1498 [some (.float 0), some (.ref 0), some (.ref 159), some (.ref 177), some (.int (nI (7 * j))), l5, l6] [] n' sl' es' (fun r _ _ _ => r = some (.int 1)) := by
      intro n' sl' es' l5 l6 hns S' I'
      simp only [ax_W_cons, ax_I, ax_cmp, ax_ii, ax_ll, ax_li, ax_st1, ax_st2, ax_kl, ax_k2, ax_fit, ax_rtok, List.getElem?_cons_zero, List.getElem?_cons_succ, List.length_cons, List.length_nil, List.set_cons_zero, List.set_cons_succ, Nat.reduceAdd, Nat.reduceDiv, Nat.reduceMod, Nat.reduceMul, Nat.reduceLT, Nat.reduceLeDiff, Int32.reduceOfInt, Int64.reduceOfInt, true_and, and_true, and_self, true_or, or_true, false_implies, true_implies, not_false_eq_true, not_true_eq_false, Value.category, Nat.reduceEqDiff, Option.toList, List.cons_append, List.nil_append, List.drop_succ_cons, List.drop_zero, ax_qq_eq, ax_t_1536, ax_j_1536_1498, ax_n_1536_1498, i7]
      rw [ax_j_1536_23]
      exact ih (j + 1) n' sl' es' l5 l6 (by omega) (by omega) (by omega) (by omega) (by omega) S' I'
    have fin : ∀ l5 l6 es', qS es' N xs → qI es' n (j + 1) → ax_J ax_W 1300 601024 7293034 1536 1498 [some (.float 0), some (.ref 0), some (.ref 159), some (.ref 177), some (.int (nI (7 * j))), l5, l6] [] n sl es' (fun r _ _ _ => r = some (.int 1)) := fun l5 l6 es' S' I' => fin0 n sl es' l5 l6 (Or.inl ⟨rfl, rfl⟩) S' I'
    obtain ⟨k, p, hc, kd, pm, pl0, ht, hs', F1, F2, B, Fe, un, U, mk, M, L, la, lb, lc, t, cs, st, w, X, Mh, P⟩ := id I
    obtain ⟨m, hm, em⟩ := and63 (xs (7 * j))
    have tm : (nI m).toInt = (m : Int) := nI_toInt (by omega)
    simp only [ax_W_cons, ax_I, ax_cmp, ax_ii, ax_ll, ax_li, ax_st1, ax_st2, ax_kl, ax_k2, ax_fit, ax_rtok, List.getElem?_cons_zero, List.getElem?_cons_succ, List.length_cons, List.length_nil, List.set_cons_zero, List.set_cons_succ, Nat.reduceAdd, Nat.reduceDiv, Nat.reduceMod, Nat.reduceMul, Nat.reduceLT, Nat.reduceLeDiff, Int32.reduceOfInt, Int64.reduceOfInt, true_and, and_true, and_self, true_or, or_true, false_implies, true_implies, not_false_eq_true, not_true_eq_false, Value.category, Nat.reduceEqDiff, Option.toList, List.cons_append, List.nil_append, List.drop_succ_cons, List.drop_zero, ax_qq_eq, ax_t_1536, S1, e0, v0, c0, em]
    rw [tm]
    by_cases h40 : 40 < m
    · refine ⟨fun _ => fin _ _ es S (qI_mk X Mh (qP_s P)), fun z => absurd (Or.inr (by omega)) z⟩
    refine ⟨fun z => by omega, fun _ => ?_⟩
    have hm' : m = 0 ∨ m = 1 ∨ m = 2 ∨ m = 3 ∨ m = 4 ∨ m = 5 ∨ m = 6 ∨ m = 7 ∨ m = 8 ∨ m = 9 ∨ m = 10 ∨ m = 11 ∨ m = 12 ∨ m = 13 ∨ m = 14 ∨ m = 15 ∨ m = 16 ∨ m = 17 ∨ m = 18 ∨ m = 19 ∨ m = 20 ∨ m = 21 ∨ m = 22 ∨ m = 23 ∨ m = 24 ∨ m = 25 ∨ m = 26 ∨ m = 27 ∨ m = 28 ∨ m = 29 ∨ m = 30 ∨ m = 31 ∨ m = 32 ∨ m = 33 ∨ m = 34 ∨ m = 35 ∨ m = 36 ∨ m = 37 ∨ m = 38 ∨ m = 39 ∨ m = 40 := by omega
    clear tm em hm h40
    rcases hm' with rfl | rfl | rfl | rfl | rfl | rfl | rfl | rfl | rfl | rfl | rfl | rfl | rfl | rfl | rfl | rfl | rfl | rfl | rfl | rfl | rfl | rfl | rfl | rfl | rfl | rfl | rfl | rfl | rfl | rfl | rfl | rfl | rfl | rfl | rfl | rfl | rfl | rfl | rfl | rfl | rfl
    · show ax_J ax_W _ _ _ _ 220 _ _ _ _ _ _
      exact lw_feed hal hn hs hi hN S X Mh P (fin _ _)
    · show ax_J ax_W _ _ _ _ 367 _ _ _ _ _ _
      exact lw_court hal hn hs hi hN S X Mh P (fin _ _)
    · show ax_J ax_W _ _ _ _ 380 _ _ _ _ _ _
      exact lw_reign hal hn hs hi hN S X Mh P (fin _ _)
    · show ax_J ax_W _ _ _ _ 393 _ _ _ _ _ _
      exact lw_shake hal hn hs hi hN S X Mh P (fin _ _)
    · show ax_J ax_W _ _ _ _ 418 _ _ _ _ _ _
      exact lw_courtier hal hn hs hi hN S X Mh P (fin _ _)
    · show ax_J ax_W _ _ _ _ 455 _ _ _ _ _ _
      exact lw_touch hal hn hs hi hN S X Mh P (fin _ _)
    · show ax_J ax_W _ _ _ _ 492 _ _ _ _ _ _
      exact lw_breathe hal hn hs hi hN S X Mh P (fin _ _)
    · show ax_J ax_W _ _ _ _ 517 _ _ _ _ _ _
      exact lw_fork hal hn hs hi hN S X Mh P (fin _ _)
    · show ax_J ax_W _ _ _ _ 542 _ _ _ _ _ _
      exact lw_turn hal hn hs hi hN S X Mh P (fin _ _)
    · show ax_J ax_W _ _ _ _ 555 _ _ _ _ _ _
      exact lw_change hal hn hs hi hN S X Mh P (fin _ _)
    · show ax_J ax_W _ _ _ _ 592 _ _ _ _ _ _
      exact lw_beat hal hn hs hi hN S X Mh P (fin _ _)
    · show ax_J ax_W _ _ _ _ 605 _ _ _ _ _ _
      exact lw_undo hal hn hs hi hN S X Mh P (fin _ _)
    · show ax_J ax_W _ _ _ _ 618 _ _ _ _ _ _
      exact lw_judged hal hn hs hi hN S X Mh P (fin _ _)
    · show ax_J ax_W _ _ _ _ 643 _ _ _ _ _ _
      exact lw_later hal hn hs hi hN S X Mh P (fin _ _)
    · show ax_J ax_W _ _ _ _ 680 _ _ _ _ _ _
      exact lw_still hal hn hs hi hN S X Mh P (fin _ _)
    · show ax_J ax_W _ _ _ _ 693 _ _ _ _ _ _
      exact lw_peak hal hn hs hi hN S X Mh P (fin _ _)
    · show ax_J ax_W _ _ _ _ 718 _ _ _ _ _ _
      exact lw_total hal hn hs hi hN S X Mh P (fin _ _)
    · show ax_J ax_W _ _ _ _ 755 _ _ _ _ _ _
      exact lw_nudge hal hn hs hi hN S X Mh P (fin _ _)
    · show ax_J ax_W _ _ _ _ 816 _ _ _ _ _ _
      exact lw_guard hal hn hs hi hN S X Mh P (fin _ _)
    · show ax_J ax_W _ _ _ _ 841 _ _ _ _ _ _
      exact lw_swap hal hn hs hi hN S X Mh P (fin _ _)
    · show ax_J ax_W _ _ _ _ 854 _ _ _ _ _ _
      exact lw_feel hal hn hs hi hN S X Mh P (fin _ _)
    · show ax_J ax_W _ _ _ _ 903 _ _ _ _ _ _
      exact lw_ways hal hn hs hi hN S X Mh P (fin _ _)
    · show ax_J ax_W _ _ _ _ 928 _ _ _ _ _ _
      exact lw_look hal hn hs hi hN S X Mh P (fin _ _)
    · show ax_J ax_W _ _ _ _ 953 _ _ _ _ _ _
      exact lw_share hal hn hs hi hN S X Mh P (fin _ _)
    · show ax_J ax_W _ _ _ _ 990 _ _ _ _ _ _
      exact lw_alike hal hn hs hi hN S X Mh P (fin _ _)
    · show ax_J ax_W _ _ _ _ 1003 _ _ _ _ _ _
      exact lw_even hal hn hs hi hN S X Mh P (fin _ _)
    · show ax_J ax_W _ _ _ _ 1016 _ _ _ _ _ _
      exact lw_calm hal hn hs hi hN S X Mh P (fin _ _)
    · show ax_J ax_W _ _ _ _ 1029 _ _ _ _ _ _
      exact lw_loud hal hn hs hi hN S X Mh P (fin _ _)
    · show ax_J ax_W _ _ _ _ 1042 _ _ _ _ _ _
      exact lw_spread hal hn hs hi hN S X Mh P (fin _ _)
    · show ax_J ax_W _ _ _ _ 1055 _ _ _ _ _ _
      exact lw_reach hal hn hs hi hN S X Mh P (fin _ _)
    · show ax_J ax_W _ _ _ _ 1092 _ _ _ _ _ _
      exact lw_arc hal hn hs hi hN S X Mh P (fin _ _)
    · show ax_J ax_W _ _ _ _ 1129 _ _ _ _ _ _
      exact lw_calmest hal hn hs hi hN S X Mh P (fin _ _)
    · show ax_J ax_W _ _ _ _ 1154 _ _ _ _ _ _
      exact lw_lazy hal hn hs hi hN S X Mh P (fin _ _)
    · show ax_J ax_W _ _ _ _ 1167 _ _ _ _ _ _
      exact lw_post hal hn hs hi hN S X Mh P (fin _ _)
    · show ax_J ax_W _ _ _ _ 1192 _ _ _ _ _ _
      exact lw_hush hal hn hs hi hN S X Mh P (fin _ _)
    · show ax_J ax_W _ _ _ _ 1205 _ _ _ _ _ _
      exact lw_rises hal hn hs hi hN S X Mh P (fin _ _)
    · show ax_J ax_W _ _ _ _ 1230 _ _ _ _ _ _
      exact lw_chance hal hn hs hi hN S X Mh P (fin _ _)
    · show ax_J ax_W _ _ _ _ 1279 _ _ _ _ _ _
      exact lw_rests hal hn hs hi hN S X Mh P (by omega) (by omega) h1 fin0
    · show ax_J ax_W _ _ _ _ 1371 _ _ _ _ _ _
      exact lw_years hal hn hs hi hN S X Mh P (fin _ _)
    · show ax_J ax_W _ _ _ _ 1420 _ _ _ _ _ _
      exact lw_mark hal hn hs hi hN S X Mh P (fin _ _)
    · show ax_J ax_W _ _ _ _ 1473 _ _ _ _ _ _
      exact lw_count hal hn hs hi hN S X Mh P (fin _ _)
/-- the whole run -/
theorem lw_run (hN : N ≤ 3584) (es : ax_H) (hS : es ax_scr = .inl (0, N, .inl xs)) : ∃ code0, ax_blk 1536 0 = some code0 ∧ ax_W 1300 601024 7293034 1536 code0 0 [some (.float 0), none, none, none, none, none, none] [] 0 0 es (fun r _ _ _ => r = some (.int 1)) := by
  refine ⟨_, ax_b_1536_0, ?_⟩
  have t0 : ax_atag .int = 0 := rfl
  have t1 : ax_atag .byte = 1 := rfl
  have t2 : ax_atag .boolean = 2 := rfl
  have t3 : ax_atag .long = 3 := rfl
  have tc : ax_acon .int = .inl fun _ => 0 := rfl
  have tb : ax_acon .byte = .inl fun _ => 0 := rfl
  have tz : ax_acon .boolean = .inl fun _ => 0 := rfl
  have tl : ax_acon .long = .inr (.inl fun _ => 0) := rfl
  have nf : ax_NF = 178 := rfl
  have N10 : ax_N 10 = 9 := rfl
  have N11 : ax_N 11 = 29 := rfl
  have z1 : (1 : Int32).toNatClampNeg = 1 := rfl
  have y1 : ¬ (1 : Int32) < 0 := by decide
  simp only [ax_W_cons, ax_I, ax_cmp, ax_ii, ax_ll, ax_li, ax_st1, ax_st2, ax_kl, ax_k2, ax_fit, ax_rtok, List.getElem?_cons_zero, List.getElem?_cons_succ, List.length_cons, List.length_nil, List.set_cons_zero, List.set_cons_succ, Nat.reduceAdd, Nat.reduceDiv, Nat.reduceMod, Nat.reduceMul, Nat.reduceLT, Nat.reduceLeDiff, Int32.reduceOfInt, Int64.reduceOfInt, true_and, and_true, and_self, true_or, or_true, false_implies, true_implies, not_false_eq_true, not_true_eq_false, Value.category, Nat.reduceEqDiff, Option.toList, List.cons_append, List.nil_append, List.drop_succ_cons, List.drop_zero, ax_qq_eq, ax_t_1536, t0, t1, t2, t3, tc, tb, tz, tl, nf, N10, N11, alk, ax_up_same, ax_up_ne, ne_eq, Nat.reduceEqDiff, not_false_eq_true]
  refine ax_inv_c (n' := 159) (sl' := 7237) (Nat.le_of_ble_eq_true rfl) (Nat.le_of_ble_eq_true rfl) rfl trivial (by decide) (by decide) (by decide) (by decide) (cn_shaking (d := 1283) (ax_up_same ..) ?_)
  intro es1 C1 f1
  simp only [ax_W_cons, ax_I, ax_cmp, ax_ii, ax_ll, ax_li, ax_st1, ax_st2, ax_kl, ax_k2, ax_fit, ax_rtok, List.getElem?_cons_zero, List.getElem?_cons_succ, List.length_cons, List.length_nil, List.set_cons_zero, List.set_cons_succ, Nat.reduceAdd, Nat.reduceDiv, Nat.reduceMod, Nat.reduceMul, Nat.reduceLT, Nat.reduceLeDiff, Int32.reduceOfInt, Int64.reduceOfInt, true_and, and_true, and_self, true_or, or_true, false_implies, true_implies, not_false_eq_true, not_true_eq_false, Value.category, Nat.reduceEqDiff, Option.toList, List.cons_append, List.nil_append, List.drop_succ_cons, List.drop_zero, ax_qq_eq, ax_t_1536, t0, t1, t2, t3, tc, tb, tz, tl, nf, N10, N11, alk, ax_up_same, ax_up_ne, ne_eq, Nat.reduceEqDiff, not_false_eq_true]
  refine ax_inv_c (n' := 177) (sl' := 19554) (Nat.le_of_ble_eq_true rfl) (Nat.le_of_ble_eq_true rfl) rfl trivial (by decide) (by decide) (by decide) (by decide) (cn_model (d := 1295) (ax_up_same ..) ?_)
  intro es2 C2 f2
  simp only [ax_W_cons, ax_I, ax_cmp, ax_ii, ax_ll, ax_li, ax_st1, ax_st2, ax_kl, ax_k2, ax_fit, ax_rtok, List.getElem?_cons_zero, List.getElem?_cons_succ, List.length_cons, List.length_nil, List.set_cons_zero, List.set_cons_succ, Nat.reduceAdd, Nat.reduceDiv, Nat.reduceMod, Nat.reduceMul, Nat.reduceLT, Nat.reduceLeDiff, Int32.reduceOfInt, Int64.reduceOfInt, true_and, and_true, and_self, true_or, or_true, false_implies, true_implies, not_false_eq_true, not_true_eq_false, Value.category, Nat.reduceEqDiff, Option.toList, List.cons_append, List.nil_append, List.drop_succ_cons, List.drop_zero, ax_qq_eq, ax_t_1536, z1, y1, t0, t1, t2, t3, tc, tb, tz, tl, nf, alk, ax_up_same, ax_up_ne, ne_eq, Nat.reduceEqDiff, not_false_eq_true]
  obtain ⟨es3, he3⟩ : ∃ x, x = ax_up es2 177 (.inl (3, 1, .inr (.inl fun _ => 0))) := ⟨_, rfl⟩
  have g3 : ∀ j, j ≠ 177 → es3 j = es2 j := fun j hj => by rw [he3]; exact ax_up_ne _ _ hj
  have w3 : es3 177 = .inl (3, 1, .inr (.inl fun _ => 0)) := by rw [he3]; exact ax_up_same ..
  rw [← he3, ax_n_1536_23]
  clear he3
  have g2 : ∀ j, (j < 159 ∨ 176 < j) → j ≠ 159 → es2 j = es1 j := fun j a b => by rw [f2 j a, ax_up_ne _ _ b]
  have a178 : ax_al 178 = 178 := alk (by decide)
  obtain ⟨C1x, C1t, C1r, C1d, C1s, C1n⟩ := C1
  obtain ⟨⟨w, st, C2d, C2y⟩, ln, C2l, C2l0⟩ := C2
  have hscr : es3 ax_scr = .inl (0, N, .inl xs) := (g3 _ (by decide)).trans ((g2 _ (by decide) (by decide)).trans ((f1 _ (by decide)).trans ((ax_up_ne _ _ (by decide)).trans hS)))
  obtain ⟨U, hU⟩ : ∃ U : Nat → zB, U = fun _ => (0, 0, (fun _ => 0), (fun _ => 0), (fun _ => 0)) := ⟨_, rfl⟩
  obtain ⟨M, hM⟩ : ∃ M : Nat → zB × zF, M = fun _ => ((0, 0, (fun _ => 0), (fun _ => 0), (fun _ => 0)), (0, (fun _ => 0), (fun _ => 0), (fun _ => 0))) := ⟨_, rfl⟩
  have X3 : qX es3 178 8 0 1 (fun _ => 0) (fun _ => 0) (fun _ => 0) (upd (fun _ => 0) 0 2) (zF4 [1]) (zF4 [zneg 20]) (0, 0, (fun _ => 0), (fun _ => 0), (fun _ => 0)) (0, (fun _ => 0), (fun _ => 0), (fun _ => 0)) 0 U (fun _ => false) M 0 (fun _ => 0) (fun _ => 0) (fun _ => 0) (0, (fun _ => 0)) [] := qX_fr ⟨C1x 178 U M a178, C1t, C1r, C1d, C1s, C1n, rfl⟩ (fun j hj => (g3 j (by omega)).trans (g2 j (by omega) (by omega)))
  have M3 : qM es3 178 st w 8 0 1 (fun _ => 0) (fun _ => 0) (fun _ => 0) (upd (fun _ => 0) 0 2) (zF4 [1]) (zF4 [zneg 20]) (0, 0, (fun _ => 0), (fun _ => 0), (fun _ => 0)) (0, (fun _ => 0), (fun _ => 0), (fun _ => 0)) 0 U (fun _ => false) M 0 (fun _ => 0) (fun _ => 0) (fun _ => 0) (0, (fun _ => 0)) [] := qM_fr ⟨C2d 178 U M a178, C2y, ln, C2l, C2l0, fun i hi => absurd hi (Nat.not_lt_zero i)⟩ (fun j a b => g3 j (by omega))
  have P3 : qP 0 8 0 (fun _ => 0) (fun _ => 0) (fun _ => 0) (0, 0, (fun _ => 0), (fun _ => 0), (fun _ => 0)) (0, (fun _ => 0), (fun _ => 0), (fun _ => 0)) 0 U (fun _ => false) M 0 (fun _ => 0) (fun _ => 0) (fun _ => 0) (0, (fun _ => 0)) := ⟨⟨by decide, fun i hi => absurd hi (Nat.not_lt_zero i)⟩, ⟨⟨fun i _ => ⟨0, by decide, rfl⟩, fun i hi => absurd hi (Nat.not_lt_zero i), by decide, fun c _ _ => rfl⟩, Nat.le_refl _, fun i hi => absurd hi (Nat.not_lt_zero i)⟩, ⟨by decide, fun i hi => absurd hi (Nat.not_lt_zero i)⟩, fun u hu => absurd hu (Nat.not_lt_zero u), (fun m _ hm => by cases hm), ⟨by decide, fun i hi => absurd hi (Nat.not_lt_zero i)⟩, fun i hi => absurd hi (Nat.not_lt_zero i), kz_0 _, fun i hi => absurd hi (Nat.not_lt_zero i)⟩
  exact lw_loop hN N 0 178 19555 es3 none none (by omega) (by decide) (by decide) (by decide) (by decide) ⟨hscr, _, w3⟩ (qI_mk X3 M3 P3)
end LL
