/-! the JDK's small methods; truth values as ints -/
def kx_b (b : Bool) : Int32 := if b = true then 1 else 0
theorem kx_b0 (b : Bool) : (kx_b b = 0) = (b = false) := by cases b <;> simp [kx_b]
theorem kx_b01 (b : Bool) : (kx_b b = 0 ∨ kx_b b = 1) = True := by cases b <;> simp [kx_b]
theorem kx_bt : kx_b true = 1 := rfl
theorem kx_bf : kx_b false = 0 := rfl
def kx_max (x y : Int32) : Int32 := if x < y then y else x
def kx_min (x y : Int32) : Int32 := if y < x then y else x
def kx_in (v a b : Int32) : Bool := decide (a ≤ v) && decide (v ≤ b)
theorem kx_nlt (a b : Int32) : (¬ a < b) = (b ≤ a) := propext ⟨fun h => by rw [Int32.lt_iff_toInt_lt] at h; rw [Int32.le_iff_toInt_le]; omega, fun h => by rw [Int32.lt_iff_toInt_lt]; rw [Int32.le_iff_toInt_le] at h; omega⟩
theorem kx_nle (a b : Int32) : (¬ a ≤ b) = (b < a) := propext ⟨fun h => by rw [Int32.le_iff_toInt_le] at h; rw [Int32.lt_iff_toInt_lt]; omega, fun h => by rw [Int32.le_iff_toInt_le]; rw [Int32.lt_iff_toInt_lt] at h; omega⟩
theorem kx_lt_nle {a b : Int32} (h : a < b) : ¬ b ≤ a := by rw [kx_nle]; exact h
theorem ck_max (d n sl : Nat) (es : ax_H) (x y : Int32) : ax_Mt d 1665 [.int x, .int y] n sl es (fun r es' => r = some (.int (kx_max x y)) ∧ es' = es) := by
  refine ax_Mt_start (m := ax_m_13_1) (ls := [some (.int x), some (.int y)]) rfl ax_b_1665_0 (Nat.le_of_ble_eq_true rfl) rfl ?_
  simp only [ax_W_cons, ax_I, ax_cmp, ax_ii, ax_ll, ax_li, ax_st1, ax_st2, ax_kl, ax_k2, ax_fit, ax_rtok, List.getElem?_cons_zero, List.getElem?_cons_succ, List.length_cons, List.length_nil, List.set_cons_zero, List.set_cons_succ, Nat.reduceAdd, Nat.reduceDiv, Nat.reduceMod, Nat.reduceMul, Nat.reduceLT, Nat.reduceLeDiff, Int32.reduceOfInt, Int64.reduceOfInt, true_and, and_true, and_self, true_or, or_true, false_implies, true_implies, not_false_eq_true, not_true_eq_false, Value.category, Nat.reduceEqDiff, Option.toList, List.cons_append, List.nil_append, List.drop_succ_cons, List.drop_zero, ax_t_1665, ax_j_1665_9, ax_n_1665_9, ax_j_1665_10, ax_n_1665_10]
  constructor <;> intro h <;> simp [h, kx_max]
theorem ck_min (d n sl : Nat) (es : ax_H) (x y : Int32) : ax_Mt d 1666 [.int x, .int y] n sl es (fun r es' => r = some (.int (kx_min x y)) ∧ es' = es) := by
  refine ax_Mt_start (m := ax_m_13_2) (ls := [some (.int x), some (.int y)]) rfl ax_b_1666_0 (Nat.le_of_ble_eq_true rfl) rfl ?_
  simp only [ax_W_cons, ax_I, ax_cmp, ax_ii, ax_ll, ax_li, ax_st1, ax_st2, ax_kl, ax_k2, ax_fit, ax_rtok, List.getElem?_cons_zero, List.getElem?_cons_succ, List.length_cons, List.length_nil, List.set_cons_zero, List.set_cons_succ, Nat.reduceAdd, Nat.reduceDiv, Nat.reduceMod, Nat.reduceMul, Nat.reduceLT, Nat.reduceLeDiff, Int32.reduceOfInt, Int64.reduceOfInt, true_and, and_true, and_self, true_or, or_true, false_implies, true_implies, not_false_eq_true, not_true_eq_false, Value.category, Nat.reduceEqDiff, Option.toList, List.cons_append, List.nil_append, List.drop_succ_cons, List.drop_zero, ax_t_1666, ax_j_1666_9, ax_n_1666_9, ax_j_1666_10, ax_n_1666_10]
  constructor <;> intro h <;> simp [h, kx_min]
def kx_fm (x y : Int32) : Int32 := if (x ^^^ y) < 0 then (if (x - x / y * y) = 0 then x - x / y * y else (x - x / y * y) + y) else x - x / y * y
theorem ck_floorMod (d n sl : Nat) (es : ax_H) (x y : Int32) (hy : ¬ y = 0) : ax_Mt d 1664 [.int x, .int y] n sl es (fun r es' => r = some (.int (kx_fm x y)) ∧ es' = es) := by
  refine ax_Mt_start (m := ax_m_13_0) (ls := [some (.int x), some (.int y), none]) rfl ax_b_1664_0 (Nat.le_of_ble_eq_true rfl) rfl ?_
  simp only [ax_W_cons, ax_I, ax_cmp, ax_ii, ax_ll, ax_li, ax_st1, ax_st2, ax_kl, ax_k2, ax_fit, ax_rtok, List.getElem?_cons_zero, List.getElem?_cons_succ, List.length_cons, List.length_nil, List.set_cons_zero, List.set_cons_succ, Nat.reduceAdd, Nat.reduceDiv, Nat.reduceMod, Nat.reduceMul, Nat.reduceLT, Nat.reduceLeDiff, Int32.reduceOfInt, Int64.reduceOfInt, true_and, and_true, and_self, true_or, or_true, false_implies, true_implies, not_false_eq_true, not_true_eq_false, Value.category, Nat.reduceEqDiff, Option.toList, List.cons_append, List.nil_append, List.drop_succ_cons, List.drop_zero, ax_t_1664, ax_j_1664_18, ax_n_1664_18, hy, not_false_eq_true]
  refine ⟨fun h => ?_, fun h => ⟨fun h2 => ?_, fun h2 => ?_⟩⟩
  · rw [kx_fm, if_neg (by rw [kx_nlt]; exact h)]
  · rw [kx_nle] at h
    rw [kx_fm, if_pos h, if_pos h2]
  · rw [kx_nle] at h
    rw [kx_fm, if_pos h, if_neg h2]
theorem ck_isWithin (d n sl : Nat) (es : ax_H) (v a b : Int32) : ax_Mt d 1322 [.int v, .int a, .int b] n sl es (fun r es' => r = some (.int (kx_b (kx_in v a b))) ∧ es' = es) := by
  refine ax_Mt_start (m := ax_m_10_42) (ls := [some (.int v), some (.int a), some (.int b)]) rfl ax_b_1322_0 (Nat.le_of_ble_eq_true rfl) rfl ?_
  simp only [ax_W_cons, ax_I, ax_cmp, ax_ii, ax_ll, ax_li, ax_st1, ax_st2, ax_kl, ax_k2, ax_fit, ax_rtok, List.getElem?_cons_zero, List.getElem?_cons_succ, List.length_cons, List.length_nil, List.set_cons_zero, List.set_cons_succ, Nat.reduceAdd, Nat.reduceDiv, Nat.reduceMod, Nat.reduceMul, Nat.reduceLT, Nat.reduceLeDiff, Int32.reduceOfInt, Int64.reduceOfInt, true_and, and_true, and_self, true_or, or_true, false_implies, true_implies, not_false_eq_true, not_true_eq_false, Value.category, Nat.reduceEqDiff, Option.toList, List.cons_append, List.nil_append, List.drop_succ_cons, List.drop_zero, ax_t_1322, ax_j_1322_14, ax_n_1322_14, ax_j_1322_15, ax_n_1322_15]
  refine ⟨fun h => ?_, fun h => ⟨fun h2 => ?_, fun h2 => ?_⟩⟩
  · have h := kx_lt_nle h
    simp [kx_in, h, kx_b]
  · have h2 := kx_lt_nle h2
    simp [kx_in, h2, kx_b]
  · rw [kx_nlt] at h h2
    simp [kx_in, h, h2, kx_b]
def kx_pop (x : Int32) : Int32 :=
  let a := x - (ax_iushr x 1 &&& 1431655765)
  let b := (a &&& 858993459) + (ax_iushr a 2 &&& 858993459)
  let c := (b + ax_iushr b 4) &&& 252645135
  let e := c + ax_iushr c 8
  let f := e + ax_iushr e 16
  f &&& 63
theorem ck_bitCount (d n sl : Nat) (es : ax_H) (x : Int32) : ax_Mt d 1792 [.int x] n sl es (fun r es' => r = some (.int (kx_pop x)) ∧ es' = es) := by
  refine ax_Mt_start (m := ax_m_14_0) (ls := [some (.int x)]) rfl ax_b_1792_0 (Nat.le_of_ble_eq_true rfl) rfl ?_
  simp only [ax_W_cons, ax_I, ax_cmp, ax_ii, ax_ll, ax_li, ax_st1, ax_st2, ax_kl, ax_k2, ax_fit, ax_rtok, List.getElem?_cons_zero, List.getElem?_cons_succ, List.length_cons, List.length_nil, List.set_cons_zero, List.set_cons_succ, Nat.reduceAdd, Nat.reduceDiv, Nat.reduceMod, Nat.reduceMul, Nat.reduceLT, Nat.reduceLeDiff, Int32.reduceOfInt, Int64.reduceOfInt, true_and, and_true, and_self, true_or, or_true, false_implies, true_implies, not_false_eq_true, not_true_eq_false, Value.category, Nat.reduceEqDiff, Option.toList, List.cons_append, List.nil_append, List.drop_succ_cons, List.drop_zero, ax_t_1792]
  rfl
/-- Arrays.fill -/
theorem ck_fill (d n sl q N : Nat) (es : ax_H) (f : Nat → Int32) (x : Int32) (hq : q < ax_al n) (he : es q = .inl (0, N, .inl f)) (hN : N < 2 ^ 31) : ax_Mt d 1920 [.ref q, .int x] n sl es (fun r es' => r = none ∧ es' = ax_up es q (.inl (0, N, .inl fun j => if j < N then x else f j))) := by
  have loop : ∀ (k : Nat) (es1 : ax_H), k ≤ N → es1 = ax_up es q (.inl (0, N, .inl fun j => if j < N - k then x else f j)) → ax_W d n sl 1920 [(1, .iload 2), (1, .iload 3), (3, .if_icmp .ge 20), (1, .aload 0), (1, .iload 2), (1, .iload 1), (1, .iastore), (3, .iinc 2 1), (3, .goto 5)] 5 [some (.ref q), some (.int x), some (.int (nI (N - k))), some (.int (nI N))] [] n sl es1 (fun r n' sl' es' => n' = n ∧ sl' = sl ∧ r = none ∧ es' = ax_up es q (.inl (0, N, .inl fun j => if j < N then x else f j))) := by
    intro k
    induction k with
    | zero =>
      intro es1 _ h1
      subst h1
      simp only [ax_W_cons, ax_I, ax_cmp, ax_ii, ax_ll, ax_li, ax_st1, ax_st2, ax_kl, ax_k2, ax_fit, ax_rtok, List.getElem?_cons_zero, List.getElem?_cons_succ, List.length_cons, List.length_nil, List.set_cons_zero, List.set_cons_succ, Nat.reduceAdd, Nat.reduceDiv, Nat.reduceMod, Nat.reduceMul, Nat.reduceLT, Nat.reduceLeDiff, Int32.reduceOfInt, Int64.reduceOfInt, true_and, and_true, and_self, true_or, or_true, false_implies, true_implies, not_false_eq_true, not_true_eq_false, Value.category, Nat.reduceEqDiff, Option.toList, List.cons_append, List.nil_append, List.drop_succ_cons, List.drop_zero, ax_t_1920, ax_j_1920_20, ax_n_1920_20]
      refine ⟨fun _ => ?_, fun h => absurd (nI_le (Nat.le_refl _) (by omega)) h⟩
      simp
    | succ k ih =>
      intro es1 hk h1
      subst h1
      have e1 : N - k = N - (k + 1) + 1 := by omega
      simp only [ax_W_cons, ax_I, ax_cmp, ax_ii, ax_ll, ax_li, ax_st1, ax_st2, ax_kl, ax_k2, ax_fit, ax_rtok, List.getElem?_cons_zero, List.getElem?_cons_succ, List.length_cons, List.length_nil, List.set_cons_zero, List.set_cons_succ, Nat.reduceAdd, Nat.reduceDiv, Nat.reduceMod, Nat.reduceMul, Nat.reduceLT, Nat.reduceLeDiff, Int32.reduceOfInt, Int64.reduceOfInt, true_and, and_true, and_self, true_or, or_true, false_implies, true_implies, not_false_eq_true, not_true_eq_false, Value.category, Nat.reduceEqDiff, Option.toList, List.cons_append, List.nil_append, List.drop_succ_cons, List.drop_zero, ax_t_1920, ax_j_1920_20, ax_n_1920_20, ax_up_same, hq]
      refine ⟨fun h => absurd h (nI_ge (by omega) hN), fun _ => ⟨nI_in (by omega) hN, ?_⟩⟩
      rw [ax_j_1920_5, nI_clamp (by omega), ← nI_succ, ← e1]
      refine ih _ (by omega) ?_
      funext j
      by_cases hj : j = q
      · subst hj
        rw [ax_up_same, ax_up_same]
        congr 4
        funext z
        unfold upd
        by_cases hz : z = N - (k + 1)
        · subst hz
          rw [if_pos rfl, if_pos (by omega)]
        · rw [if_neg hz]
          show (if z < N - (k + 1) then x else f z) = _
          by_cases h2 : z < N - (k + 1)
          · rw [if_pos h2, if_pos (by omega)]
          · rw [if_neg h2, if_neg (by omega)]
      · rw [ax_up_ne _ _ hj, ax_up_ne _ _ hj, ax_up_ne _ _ hj]
  refine ax_Mt_start (m := ax_m_15_0) (ls := [some (.ref q), some (.int x), none, none]) rfl ax_b_1920_0 (Nat.le_of_ble_eq_true rfl) rfl ?_
  simp only [ax_W_cons, ax_I, ax_cmp, ax_ii, ax_ll, ax_li, ax_st1, ax_st2, ax_kl, ax_k2, ax_fit, ax_rtok, List.getElem?_cons_zero, List.getElem?_cons_succ, List.length_cons, List.length_nil, List.set_cons_zero, List.set_cons_succ, Nat.reduceAdd, Nat.reduceDiv, Nat.reduceMod, Nat.reduceMul, Nat.reduceLT, Nat.reduceLeDiff, Int32.reduceOfInt, Int64.reduceOfInt, true_and, and_true, and_self, true_or, or_true, false_implies, true_implies, not_false_eq_true, not_true_eq_false, Value.category, Nat.reduceEqDiff, Option.toList, List.cons_append, List.nil_append, List.drop_succ_cons, List.drop_zero, ax_t_1920, he, hq]
  rw [ax_n_1920_5]
  have h0 := loop N es (Nat.le_refl _) (by
    funext j
    by_cases hj : j = q
    · subst hj
      rw [ax_up_same, he]
      congr 4
      funext z
      rw [if_neg (by omega)]
    · rw [ax_up_ne _ _ hj])
  rw [Nat.sub_self, nI_0] at h0
  exact h0
