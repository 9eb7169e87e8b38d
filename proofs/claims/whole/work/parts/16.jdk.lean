/-! the JDK's small methods -/
theorem ck_max (d n sl : Nat) (es : ax_H) (x y : Int32) : ax_Mt d 1665 [.int x, .int y] n sl es (fun r es' => r = some (.int (if x < y then y else x)) ∧ es' = es) := by
  refine ax_Mt_start (m := ax_m_13_1) (ls := [some (.int x), some (.int y)]) rfl ax_b_1665_0 (Nat.le_of_ble_eq_true rfl) rfl ?_
  simp only [ax_W_cons, ax_I, ax_cmp, List.getElem?_cons_zero, List.getElem?_cons_succ, ax_j_1665_9, ax_j_1665_10, ax_n_1665_10]
  sorry
theorem ck_isCracked (d n sl q : Nat) (es : ax_H) (a b c cr : Int32) (i : Int32) (f g h : Nat) (hq : q < ax_al n) (he : es q = .inr (0, [.int a, .int b, .int c, .int cr, .ref f, .ref g, .ref h])) : ax_Mt d 4 [.ref q, .int i] n sl es (fun r es' => r = some (.int (if (cr &&& (1 <<< (i &&& 31))) = 0 then 0 else 1)) ∧ es' = es) := by
  refine ax_Mt_start (m := ax_m_0_4) (ls := [some (.ref q), some (.int i)]) rfl ax_b_4_0 (Nat.le_of_ble_eq_true rfl) rfl ?_
  simp only [ax_W_cons, ax_I, ax_cmp, ax_ii, List.getElem?_cons_zero, List.getElem?_cons_succ, ax_j_4_15, ax_j_4_16, ax_n_4_16, he, hq]
  sorry
