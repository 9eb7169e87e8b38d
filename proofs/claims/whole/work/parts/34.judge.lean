/-! Seer: judged -/
def kG (es : ax_H) (L : Nat) (la lb lc : Nat → Int32) : Prop := es 16 = .inr (7, [.int (nI L), .ref 17, .ref 18, .ref 19]) ∧ es 17 = .inl (0, 40, .inl la) ∧ es 18 = .inl (0, 40, .inl lb) ∧ es 19 = .inl (0, 40, .inl lc)
theorem kG_sf {es es' : ax_H} {L : Nat} {la lb lc : Nat → Int32} (h : kG es L la lb lc) (hf : ksf es es') : kG es' L la lb lc := by
  obtain ⟨h1, h2, h3, h4⟩ := h
  exact ⟨by rw [hf 16 (by omega)]; exact h1, by rw [hf 17 (by omega)]; exact h2, by rw [hf 18 (by omega)]; exact h3, by rw [hf 19 (by omega)]; exact h4⟩
/-- told lines are as told -/
def kLn (L : Nat) (la lc : Nat → Int32) : Prop := L ≤ 40 ∧ ∀ i, i < L → la i = 7 → ∃ f, f ≤ 20 ∧ lc i = nI f
/-- beats, cracks, shakes, places, done -/
abbrev kSt : Type := Nat × Int32 × (Nat → Int32) × (Nat → Int32) × (Nat → Int32)
section KJ
variable (F1 F2 : Int32 → Int32 → Int32 → Int32 → Int32) (k p : Nat) (kd ht hs : Nat → Int32) (hc : Nat)
def kx_jb (s : kSt) : kSt := (s.1 + 1, s.2.1, kx_dr F1 k s.2.1 hs hc s.1 s.2.2.1 1, s.2.2.2.1, kx_pdn (kx_dd F1 F2 k kd ht s.2.1 hs hc s.1 s.2.2.1 s.2.2.2.1) p s.2.2.2.2 1)
def kx_jp (act a b : Int32) (s : kSt) : kSt := (s.1, (kx_perf k act a b s.2.1 s.2.2.1 s.2.2.2.1).1, (kx_perf k act a b s.2.1 s.2.2.1 s.2.2.2.1).2.1, (kx_perf k act a b s.2.1 s.2.2.1 s.2.2.2.1).2.2, s.2.2.2.2)
def kx_j1 (act a b : Int32) (s : kSt) : kSt := if act = 12 then kx_jb F1 F2 k p kd ht hs hc s else if kx_can k p s.2.1 act a b = true then kx_jp k act a b s else s
def kx_js (pl0 la lb lc : Nat → Int32) : Nat → kSt
  | 0 => (0, 0, fun _ => 0, pl0, fun _ => 0)
  | m + 1 => kx_j1 F1 F2 k p kd ht hs hc (la m) (lb m) (lc m) (kx_js pl0 la lb lc m)
def kx_jw (pl0 la lb lc : Nat → Int32) : Nat → Int32
  | 0 => -1
  | m + 1 => if ¬ la m = 12 ∧ kx_can k p (kx_js F1 F2 k p kd ht hs hc pl0 la lb lc m).2.1 (la m) (lb m) (lc m) = false ∧ kx_jw pl0 la lb lc m = -1 then nI m else kx_jw pl0 la lb lc m
def kx_jf (pl0 la lb lc : Nat → Int32) : Nat → Int32
  | 0 => -1
  | m + 1 => if kx_jf pl0 la lb lc m = -1 ∧ kx_allsh k (kx_js F1 F2 k p kd ht hs hc pl0 la lb lc (m + 1)).2.1 (kx_js F1 F2 k p kd ht hs hc pl0 la lb lc (m + 1)).2.2.1 = true then nI m else kx_jf pl0 la lb lc m
end KJ
theorem ks_soothe {sh : Nat → Int32} {w : Nat} (h : ks sh) (hw : w < 12) : ks (kx_soothe sh (nI w)) := by
  intro i hi
  unfold kx_soothe upd
  rw [nI_clamp (by omega)]
  by_cases hiw : i = w
  · rw [if_pos hiw]
    obtain ⟨v, hv, ev⟩ := h w hw
    rw [ev]
    have e2 : ∀ v : Fin 100, kx_max 0 (nI v.val - 3) = nI (v.val - 3) := by decide +kernel
    exact ⟨v - 3, by omega, e2 ⟨v, by omega⟩⟩
  · rw [if_neg hiw]
    exact h i hi
theorem ks_turn {k : Nat} {sh : Nat → Int32} (hk : k ≤ 12) (h : ks sh) : ks (kx_turn k sh) := by
  intro i hi
  unfold kx_turn
  split
  · exact h _ (by omega)
  · exact h i hi
theorem kz_turn {k : Nat} {sh : Nat → Int32} (hk : k ≤ 12) (h : kz 12 sh) : kz 12 (kx_turn k sh) := by
  intro i hi
  unfold kx_turn
  rw [if_neg (by omega)]
  exact h i hi
theorem kz_perf {k p : Nat} {act a b cr : Int32} {sh pl : Nat → Int32} (hk : k ≤ 12) (hp : p ≤ 6) (h : kz 12 sh) (h2 : kz 6 pl) (hcan : kx_can k p cr act a b = true) : kz 12 (kx_perf k act a b cr sh pl).2.1 ∧ kz 6 (kx_perf k act a b cr sh pl).2.2 := by
  unfold kx_can at hcan
  unfold kx_perf
  by_cases h7 : act = 7
  · rw [if_pos (Or.inl h7)] at hcan
    simp only [kx_op, Bool.and_eq_true] at hcan
    obtain ⟨c, hc, rfl⟩ := kx_cell_in (by omega) hcan.1
    rw [if_pos h7]
    exact ⟨kz_push h (by omega), h2⟩
  rw [if_neg h7]
  by_cases h8 : act = 8
  · rw [if_neg (by subst h8; decide), if_pos h8] at hcan
    obtain ⟨c, hc, rfl⟩ := kx_cell_in (by omega) hcan
    rw [if_pos h8]
    refine ⟨?_, h2⟩
    unfold kx_soothe
    exact kz_upd h (by rw [nI_clamp (by omega)]; omega)
  rw [if_neg h8]
  by_cases h9 : act = 9
  · rw [if_pos (Or.inr h9)] at hcan
    simp only [kx_op, Bool.and_eq_true] at hcan
    obtain ⟨c, hc, rfl⟩ := kx_cell_in (by omega) hcan.1
    rw [if_pos h9]
    exact ⟨kz_upd h (by rw [nI_clamp (by omega)]; omega), h2⟩
  rw [if_neg h9]
  by_cases h10 : act = 10
  · rw [if_pos h10]
    exact ⟨kz_turn hk h, h2⟩
  rw [if_neg h10]
  by_cases h11 : act = 11
  · rw [if_neg (by subst h11; decide), if_neg h8, if_pos h11] at hcan
    simp only [Bool.and_eq_true] at hcan
    obtain ⟨i, hi, rfl⟩ := kx_cell_in (by omega) hcan.1
    obtain ⟨j, hj, rfl⟩ := kx_cell_in (by omega) hcan.2.1
    rw [if_pos h11]
    exact ⟨h, kz_exch h2 (by omega) (by omega)⟩
  rw [if_neg h11]
  exact ⟨h, h2⟩
theorem ks_perf {k p : Nat} {act a b cr : Int32} {sh pl : Nat → Int32} (hk : k ≤ 12) (hp : p ≤ 6) (h : ks sh) (h2 : kpl k p pl) (hcan : kx_can k p cr act a b = true) (hf : act = 7 → ∃ f, f ≤ 20 ∧ b = nI f) : ks (kx_perf k act a b cr sh pl).2.1 ∧ kpl k p (kx_perf k act a b cr sh pl).2.2 := by
  unfold kx_can at hcan
  unfold kx_perf
  by_cases h7 : act = 7
  · rw [if_pos (Or.inl h7)] at hcan
    simp only [kx_op, Bool.and_eq_true] at hcan
    obtain ⟨c, hc, rfl⟩ := kx_cell_in (by omega) hcan.1
    obtain ⟨f, hf9, rfl⟩ := hf h7
    rw [if_pos h7]
    exact ⟨ks_push h (by omega) hf9, h2⟩
  rw [if_neg h7]
  by_cases h8 : act = 8
  · rw [if_neg (by subst h8; decide), if_pos h8] at hcan
    obtain ⟨c, hc, rfl⟩ := kx_cell_in (by omega) hcan
    rw [if_pos h8]
    exact ⟨ks_soothe h (by omega), h2⟩
  rw [if_neg h8]
  by_cases h9 : act = 9
  · rw [if_pos h9]
    exact ⟨ks_zero h, h2⟩
  rw [if_neg h9]
  by_cases h10 : act = 10
  · rw [if_pos h10]
    exact ⟨ks_turn hk h, h2⟩
  rw [if_neg h10]
  by_cases h11 : act = 11
  · rw [if_neg (by subst h11; decide), if_neg h8, if_pos h11] at hcan
    simp only [Bool.and_eq_true] at hcan
    obtain ⟨i, hi, rfl⟩ := kx_cell_in (by omega) hcan.1
    obtain ⟨j, hj, rfl⟩ := kx_cell_in (by omega) hcan.2.1
    rw [if_pos h11]
    exact ⟨h, kpl_exch h2 hi hj hp⟩
  rw [if_neg h11]
  exact ⟨h, h2⟩
section KS
variable {d n sl k p hc L : Nat} {es : ax_H} {kd pl0 ht hs la lb lc : Nat → Int32} {F1 F2 : Int32 → Int32 → Int32 → Int32 → Int32} {T : Nat} {cr : Int32} {sh pl dn : Nat → Int32}
theorem kx_js_ok (hk : k ≤ 12) (hp : p ≤ 6) (hF : ∀ x0 x1 x2 x3, ∃ v, v ≤ 99 ∧ F1 x0 x1 x2 x3 = nI v) (hL : kLn L la lc) (h0 : kpl k p pl0) : ∀ m, m ≤ L → (kx_js F1 F2 k p kd ht hs hc pl0 la lb lc m).1 ≤ m ∧ ks (kx_js F1 F2 k p kd ht hs hc pl0 la lb lc m).2.2.1 ∧ kpl k p (kx_js F1 F2 k p kd ht hs hc pl0 la lb lc m).2.2.2.1
  | 0, _ => ⟨Nat.le_refl _, fun i hi => ⟨0, by omega, rfl⟩, h0⟩
  | m + 1, hm => by
    obtain ⟨a1, a2, a3⟩ := kx_js_ok hk hp hF hL h0 m (by omega)
    rw [kx_js]
    unfold kx_j1
    split
    · exact ⟨Nat.succ_le_succ a1, ks_dr hk hF a2 1, a3⟩
    · split
      · next hcan =>
        have := ks_perf hk hp a2 a3 hcan (hL.2 m (by omega))
        exact ⟨Nat.le_succ_of_le a1, this.1, this.2⟩
      · exact ⟨by omega, a2, a3⟩
theorem ck_judge (hS : kSe es n F1) (hW : kW es n k p hc kd pl0 ht hs F1 F2 T cr sh pl dn) (hz0 : kz 6 pl0) (hp0 : kpl k p pl0) (hG : kG es L la lb lc) (hL : kLn L la lc) {wh : Int32} {Q : Option Value → ax_H → Prop} (hQ : ∀ es', kSe es' n F1 → ksf es es' → Q (some (.int (if wh = 2 then kx_sum (kx_js F1 F2 k p kd ht hs hc pl0 la lb lc L).2.2.2.2 p else if wh = 0 then kx_jw F1 F2 k p kd ht hs hc pl0 la lb lc L else kx_jf F1 F2 k p kd ht hs hc pl0 la lb lc L))) es') : ax_Mt (d + 6) 1025 [.ref 149, .ref 3, .ref 16, .int wh] n sl es Q := by
  obtain ⟨hal, hk, hp, hhs, hsh, hpl, hT, hC, hb⟩ := id hW
  obtain ⟨dr, h149⟩ := hS.2.1.1
  obtain ⟨once, nm, code, a1, b1, a2, b2, c3, c4, c5, -⟩ := id hC
  obtain ⟨hR, hTo, k', p', t', cr', sh', pl', dn', h150⟩ := id hS
  have hok := kx_js_ok (F1 := F1) (F2 := F2) (kd := kd) (ht := ht) (hs := hs) (hc := hc) (lb := lb) hk.2 hp (kC_F hC) hL hp0
  refine ax_Mt_go (m := ax_m_8_1) (ls := [some (.ref 149), some (.ref 3), some (.ref 16), some (.int wh), none, none, none]) rfl ax_b_1025_0 (Nat.le_of_ble_eq_true rfl) rfl ?_
  simp only [ax_W_cons, ax_I, ax_cmp, ax_ii, ax_ll, ax_li, ax_st1, ax_st2, ax_kl, ax_k2, ax_fit, ax_rtok, List.getElem?_cons_zero, List.getElem?_cons_succ, List.length_cons, List.length_nil, List.set_cons_zero, List.set_cons_succ, Nat.reduceAdd, Nat.reduceDiv, Nat.reduceMod, Nat.reduceMul, Nat.reduceLT, Nat.reduceLeDiff, Int32.reduceOfInt, Int64.reduceOfInt, true_and, and_true, and_self, true_or, or_true, false_implies, true_implies, not_false_eq_true, not_true_eq_false, Value.category, Nat.reduceEqDiff, Option.toList, List.cons_append, List.nil_append, List.drop_succ_cons, List.drop_zero, ax_qq_eq, ax_t_1025, h149, hal]
  refine ax_inv_eq (Nat.le_of_ble_eq_true rfl) (Nat.le_of_ble_eq_true rfl) (fun _ => ax_rcv_ok (by omega) h150.2.1) (fun h => absurd h (by decide)) (Nat.le_refl _) (Nat.le_refl _) (ck_begin (by omega) h150 (by omega) (v3 := 5) (by omega) c3 c5 hz0 (by omega) (by omega)) ?_
  obtain ⟨m1, m2⟩ := kT_kw (k := k) (p := p) (T := 0) (cr := 0) (sh := fun _ => 0) (pl := pl0) (dn := fun _ => 0) hal hR hTo (kz_0 _) hz0 (kz_0 _)
  have e0 : nI 0 = 0 := rfl
  rw [e0] at m1 m2
  generalize kw es 150 k p 0 0 (fun _ => 0) pl0 (fun _ => 0) = es1 at m1 m2 ⊢
  simp only [ax_W_cons, ax_I, ax_cmp, ax_ii, ax_ll, ax_li, ax_st1, ax_st2, ax_kl, ax_k2, ax_fit, ax_rtok, List.getElem?_cons_zero, List.getElem?_cons_succ, List.length_cons, List.length_nil, List.set_cons_zero, List.set_cons_succ, Nat.reduceAdd, Nat.reduceDiv, Nat.reduceMod, Nat.reduceMul, Nat.reduceLT, Nat.reduceLeDiff, Int32.reduceOfInt, Int64.reduceOfInt, true_and, and_true, and_self, true_or, or_true, false_implies, true_implies, not_false_eq_true, not_true_eq_false, Value.category, Nat.reduceEqDiff, Option.toList, List.cons_append, List.nil_append, List.drop_succ_cons, List.drop_zero, ax_qq_eq, ax_t_1025]
  rw [ax_n_1025_17]
  generalize hJ : kx_js F1 F2 k p kd ht hs hc pl0 la lb lc = J at hQ hok
  have hJ1 : ∀ m, J (m + 1) = kx_j1 F1 F2 k p kd ht hs hc (la m) (lb m) (lc m) (J m) := fun m => by rw [← hJ]; rfl
  generalize hw : kx_jw F1 F2 k p kd ht hs hc pl0 la lb lc = w at hQ
  have hw1 : ∀ m, w (m + 1) = if ¬ la m = 12 ∧ kx_can k p (J m).2.1 (la m) (lb m) (lc m) = false ∧ w m = -1 then nI m else w m := fun m => by rw [← hw, ← hJ]; rfl
  generalize hf : kx_jf F1 F2 k p kd ht hs hc pl0 la lb lc = f at hQ
  have hf1 : ∀ m, f (m + 1) = if f m = -1 ∧ kx_allsh k (J (m + 1)).2.1 (J (m + 1)).2.2.1 = true then nI m else f m := fun m => by rw [← hf, ← hJ]; rfl
  have L9 := kx_loop (k := L) (I := fun m => ∀ es1, kT es1 n F1 k p (J m).1 (J m).2.1 (J m).2.2.1 (J m).2.2.2.1 (J m).2.2.2.2 → ksf es es1 → ax_W (d + 6) n sl 1025 [(2, .iload 6), (1, .aload 2), (3, .getfield 1792), (3, .if_icmp .ge 152), (1, .aload 2), (3, .getfield 1798), (2, .iload 6), (1, .iaload), (2, .iconst 12), (3, .if_icmp .ne 54), (1, .aload 0), (3, .getfield 2050), (1, .aload 0), (3, .getfield 2062), (1, .iconst 1), (3, .invokeinterface 642 13), (1, .pop), (3, .goto 126)] 17 [some (.ref 149), some (.ref 3), some (.ref 16), some (.int wh), some (.int (w m)), some (.int (f m)), some (.int (nI m))] [] n sl es1 (ax_qq n sl Q)) ?_ ?_
  · have j0 : J 0 = (0, 0, fun _ => 0, pl0, fun _ => 0) := by rw [← hJ]; rfl
    have w0 : w 0 = -1 := by rw [← hw]; rfl
    have f0 : f 0 = -1 := by rw [← hf]; rfl
    rw [j0, w0, f0] at L9
    exact L9 es1 m1 m2
  · intro es1 i1 i2
    obtain ⟨g1, g2, g3, g4⟩ := kG_sf hG i2
    obtain ⟨dr1, w149⟩ := i1.2.1.1
    have e0 := kx_nn (k := L) (by have := hL.1; omega)
    simp only [ax_W_cons, ax_I, ax_cmp, ax_ii, ax_ll, ax_li, ax_st1, ax_st2, ax_kl, ax_k2, ax_fit, ax_rtok, List.getElem?_cons_zero, List.getElem?_cons_succ, List.length_cons, List.length_nil, List.set_cons_zero, List.set_cons_succ, Nat.reduceAdd, Nat.reduceDiv, Nat.reduceMod, Nat.reduceMul, Nat.reduceLT, Nat.reduceLeDiff, Int32.reduceOfInt, Int64.reduceOfInt, true_and, and_true, and_self, true_or, or_true, false_implies, true_implies, not_false_eq_true, not_true_eq_false, Value.category, Nat.reduceEqDiff, Option.toList, List.cons_append, List.nil_append, List.drop_succ_cons, List.drop_zero, ax_qq_eq, ax_t_1025, ax_j_1025_152, ax_n_1025_152, ax_j_1025_165, ax_n_1025_165, ax_j_1025_174, ax_n_1025_174, ax_j_1025_176, ax_n_1025_176, g1, hal, e0, w149]
    refine ⟨fun h2 => ⟨fun h0 => ?_, fun h0 => ?_⟩, fun h2 => ?_⟩
    · rw [if_neg h2, if_neg h0] at hQ
      exact hQ es1 (kT_kSe i1) i2
    · simp only [Classical.not_not] at h0
      rw [if_neg h2, if_pos h0] at hQ
      exact hQ es1 (kT_kSe i1) i2
    · simp only [Classical.not_not] at h2
      rw [if_pos h2] at hQ
      refine ax_inv_eq (Nat.le_of_ble_eq_true rfl) (Nat.le_of_ble_eq_true rfl) (fun _ => kSe_rcv hal (kT_kSe i1) _) (fun h => absurd h (by decide)) (Nat.le_refl _) (Nat.le_refl _) (ck_allDone hp i1.2.2) ?_
      simp only [ax_W_cons, ax_I, ax_cmp, ax_ii, ax_ll, ax_li, ax_st1, ax_st2, ax_kl, ax_k2, ax_fit, ax_rtok, List.getElem?_cons_zero, List.getElem?_cons_succ, List.length_cons, List.length_nil, List.set_cons_zero, List.set_cons_succ, Nat.reduceAdd, Nat.reduceDiv, Nat.reduceMod, Nat.reduceMul, Nat.reduceLT, Nat.reduceLeDiff, Int32.reduceOfInt, Int64.reduceOfInt, true_and, and_true, and_self, true_or, or_true, false_implies, true_implies, not_false_eq_true, not_true_eq_false, Value.category, Nat.reduceEqDiff, Option.toList, List.cons_append, List.nil_append, List.drop_succ_cons, List.drop_zero, ax_qq_eq, ax_t_1025]
      exact hQ es1 (kT_kSe i1) i2
  · intro m hm ih es1 i1 i2
    obtain ⟨g1, g2, g3, g4⟩ := kG_sf hG i2
    obtain ⟨dr1, w149⟩ := i1.2.1.1
    obtain ⟨f1', f2, f3, f4⟩ := kx_ix hm hL.1 (by decide)
    obtain ⟨o1, o2, o3⟩ := hok m (by omega)
    have hL1 := hL.1
    -- from the test of shaking on
    have fin : ∀ es2, kT es2 n F1 k p (J (m + 1)).1 (J (m + 1)).2.1 (J (m + 1)).2.2.1 (J (m + 1)).2.2.2.1 (J (m + 1)).2.2.2.2 → ksf es es2 → ax_W (d + 6) n sl 1025 [(2, .iload 5), (1, .iconst (-1)), (3, .if_icmp .ne 146), (1, .aload 0), (3, .getfield 2062), (3, .invokeinterface 18 5), (3, .ifCond .eq 146), (2, .iload 6), (2, .istore 5)] 126 [some (.ref 149), some (.ref 3), some (.ref 16), some (.int wh), some (.int (w (m + 1))), some (.int (f m)), some (.int (nI m))] [] n sl es2 (ax_qq n sl Q) := by
      intro es2 q1 q2
      obtain ⟨dr2, x149⟩ := q1.2.1.1
      have ih := ih es2 q1 q2
      rw [hf1] at ih
      simp only [ax_W_cons, ax_I, ax_cmp, ax_ii, ax_ll, ax_li, ax_st1, ax_st2, ax_kl, ax_k2, ax_fit, ax_rtok, List.getElem?_cons_zero, List.getElem?_cons_succ, List.length_cons, List.length_nil, List.set_cons_zero, List.set_cons_succ, Nat.reduceAdd, Nat.reduceDiv, Nat.reduceMod, Nat.reduceMul, Nat.reduceLT, Nat.reduceLeDiff, Int32.reduceOfInt, Int64.reduceOfInt, true_and, and_true, and_self, true_or, or_true, false_implies, true_implies, not_false_eq_true, not_true_eq_false, Value.category, Nat.reduceEqDiff, Option.toList, List.cons_append, List.nil_append, List.drop_succ_cons, List.drop_zero, ax_qq_eq, ax_t_1025, ax_j_1025_146, ax_n_1025_146, f4, x149, hal]
      refine ⟨fun hne => ?_, fun he => ?_⟩
      · rw [ax_j_1025_17]
        rw [if_neg (fun z => hne z.1)] at ih
        exact ih
      · simp only [Classical.not_not] at he
        refine ax_inv_eq (Nat.le_of_ble_eq_true rfl) (Nat.le_of_ble_eq_true rfl) (fun _ => kSe_rcv hal (kT_kSe q1) _) (fun h => absurd h (by decide)) (Nat.le_refl _) (Nat.le_refl _) (ck_allOpenShake (by omega) hk.2 q1.2.2) ?_
        simp only [ax_W_cons, ax_I, ax_cmp, ax_ii, ax_ll, ax_li, ax_st1, ax_st2, ax_kl, ax_k2, ax_fit, ax_rtok, List.getElem?_cons_zero, List.getElem?_cons_succ, List.length_cons, List.length_nil, List.set_cons_zero, List.set_cons_succ, Nat.reduceAdd, Nat.reduceDiv, Nat.reduceMod, Nat.reduceMul, Nat.reduceLT, Nat.reduceLeDiff, Int32.reduceOfInt, Int64.reduceOfInt, true_and, and_true, and_self, true_or, or_true, false_implies, true_implies, not_false_eq_true, not_true_eq_false, Value.category, Nat.reduceEqDiff, Option.toList, List.cons_append, List.nil_append, List.drop_succ_cons, List.drop_zero, ax_qq_eq, ax_t_1025, ax_j_1025_146, ax_n_1025_146, f4, kx_b0]
        simp only [ax_j_1025_17]
        refine ⟨fun h => ?_, fun h => ?_⟩
        · rw [if_neg (by rw [h]; simp)] at ih
          exact ih
        · rw [if_pos (by simp at h; exact ⟨he, h⟩)] at ih
          exact ih
    have hJm := hJ1 m
    have hwm := hw1 m
    simp only [ax_W_cons, ax_I, ax_cmp, ax_ii, ax_ll, ax_li, ax_st1, ax_st2, ax_kl, ax_k2, ax_fit, ax_rtok, List.getElem?_cons_zero, List.getElem?_cons_succ, List.length_cons, List.length_nil, List.set_cons_zero, List.set_cons_succ, Nat.reduceAdd, Nat.reduceDiv, Nat.reduceMod, Nat.reduceMul, Nat.reduceLT, Nat.reduceLeDiff, Int32.reduceOfInt, Int64.reduceOfInt, true_and, and_true, and_self, true_or, or_true, false_implies, true_implies, not_false_eq_true, not_true_eq_false, Value.category, Nat.reduceEqDiff, Option.toList, List.cons_append, List.nil_append, List.drop_succ_cons, List.drop_zero, ax_qq_eq, ax_t_1025, g1, g2, hal, f1', f2, f3, w149]
    refine ⟨fun hne => ?_, fun he => ?_⟩
    · simp only [ax_W_cons, ax_I, ax_cmp, ax_ii, ax_ll, ax_li, ax_st1, ax_st2, ax_kl, ax_k2, ax_fit, ax_rtok, List.getElem?_cons_zero, List.getElem?_cons_succ, List.length_cons, List.length_nil, List.set_cons_zero, List.set_cons_succ, Nat.reduceAdd, Nat.reduceDiv, Nat.reduceMod, Nat.reduceMul, Nat.reduceLT, Nat.reduceLeDiff, Int32.reduceOfInt, Int64.reduceOfInt, true_and, and_true, and_self, true_or, or_true, false_implies, true_implies, not_false_eq_true, not_true_eq_false, Value.category, Nat.reduceEqDiff, Option.toList, List.cons_append, List.nil_append, List.drop_succ_cons, List.drop_zero, ax_qq_eq, ax_t_1025, ax_j_1025_54, ax_n_1025_54, g1, g2, g3, g4, hal, f2, f3, w149]
      refine ax_inv_eq (Nat.le_of_ble_eq_true rfl) (Nat.le_of_ble_eq_true rfl) (fun _ => kSe_rcv hal (kT_kSe i1) _) (fun h => absurd h (by decide)) (Nat.le_refl _) (Nat.le_refl _) (ck_canBe (by omega) i1.2.2 (la m) (lb m) (lc m)) ?_
      simp only [ax_W_cons, ax_I, ax_cmp, ax_ii, ax_ll, ax_li, ax_st1, ax_st2, ax_kl, ax_k2, ax_fit, ax_rtok, List.getElem?_cons_zero, List.getElem?_cons_succ, List.length_cons, List.length_nil, List.set_cons_zero, List.set_cons_succ, Nat.reduceAdd, Nat.reduceDiv, Nat.reduceMod, Nat.reduceMul, Nat.reduceLT, Nat.reduceLeDiff, Int32.reduceOfInt, Int64.reduceOfInt, true_and, and_true, and_self, true_or, or_true, false_implies, true_implies, not_false_eq_true, not_true_eq_false, Value.category, Nat.reduceEqDiff, Option.toList, List.cons_append, List.nil_append, List.drop_succ_cons, List.drop_zero, ax_qq_eq, ax_t_1025, ax_j_1025_116, ax_n_1025_116, g1, g2, g3, g4, hal, f2, f3, w149, kx_b0]
      refine ⟨fun hno => ?_, fun hyes => ?_⟩
      · have hJ2 : J (m + 1) = J m := by
          rw [hJm]
          unfold kx_j1
          rw [if_neg hne, if_neg (by rw [hno]; decide)]
        rw [hJ2] at fin
        have fin := fin es1 i1 i2
        rw [hwm] at fin
        simp only [ax_j_1025_126, ax_n_1025_126]
        refine ⟨fun h => ?_, fun h => ?_⟩
        · rw [if_neg (fun z => h z.2.2)] at fin
          exact fin
        · simp only [Classical.not_not] at h
          rw [if_pos ⟨hne, hno, h⟩] at fin
          exact fin
      · have hyes : kx_can k p (J m).2.1 (la m) (lb m) (lc m) = true := by simpa using hyes
        have hJ2 : J (m + 1) = kx_jp k (la m) (lb m) (lc m) (J m) := by
          rw [hJm]
          unfold kx_j1
          rw [if_neg hne, if_pos hyes]
        refine ax_inv_eq (Nat.le_of_ble_eq_true rfl) (Nat.le_of_ble_eq_true rfl) (fun _ => kSe_rcv hal (kT_kSe i1) _) (fun h => absurd h (by decide)) (Nat.le_refl _) (Nat.le_refl _) (ck_perform (by omega) hk.2 (by omega) hp i1.2.2 (la m) (lb m) (lc m) hyes) ?_
        obtain ⟨-, -, -, -, -, z1, z2, z3⟩ := id i1.2.2
        obtain ⟨y1, y2⟩ := kz_perf hk.2 hp z1 z2 hyes
        obtain ⟨m3, m4⟩ := kT_kw (k := k) (p := p) (T := (J m).1) (cr := (kx_perf k (la m) (lb m) (lc m) (J m).2.1 (J m).2.2.1 (J m).2.2.2.1).1) (dn := (J m).2.2.2.2) hal i1.1 i1.2.1 y1 y2 z3
        simp only [ax_W_cons, ax_I, ax_cmp, ax_ii, ax_ll, ax_li, ax_st1, ax_st2, ax_kl, ax_k2, ax_fit, ax_rtok, List.getElem?_cons_zero, List.getElem?_cons_succ, List.length_cons, List.length_nil, List.set_cons_zero, List.set_cons_succ, Nat.reduceAdd, Nat.reduceDiv, Nat.reduceMod, Nat.reduceMul, Nat.reduceLT, Nat.reduceLeDiff, Int32.reduceOfInt, Int64.reduceOfInt, true_and, and_true, and_self, true_or, or_true, false_implies, true_implies, not_false_eq_true, not_true_eq_false, Value.category, Nat.reduceEqDiff, Option.toList, List.cons_append, List.nil_append, List.drop_succ_cons, List.drop_zero, ax_qq_eq, ax_t_1025]
        simp only [ax_j_1025_126]
        rw [hJ2, hwm] at fin
        rw [if_neg (fun z => by rw [hyes] at z; exact absurd z.2.1 (by decide))] at fin
        exact fin _ m3 (ksf_trans i2 m4)
    · simp only [Classical.not_not] at he
      refine ax_inv_of (Nat.le_of_ble_eq_true rfl) (Nat.le_of_ble_eq_true rfl) (fun _ => kR_rcv hal i1.1 _) (fun h => absurd h (by decide)) (Nat.le_refl _) (Nat.le_refl _) (ax_Mt_mono (cs_pass (m := 1) (by omega) hal hk.2 hp o3 (by omega) hhs o2 (kC_sf hC i2) i1) ?_)
      rintro r es2 ⟨rfl, m3, m4⟩
      simp only [ax_W_cons, ax_I, ax_cmp, ax_ii, ax_ll, ax_li, ax_st1, ax_st2, ax_kl, ax_k2, ax_fit, ax_rtok, List.getElem?_cons_zero, List.getElem?_cons_succ, List.length_cons, List.length_nil, List.set_cons_zero, List.set_cons_succ, Nat.reduceAdd, Nat.reduceDiv, Nat.reduceMod, Nat.reduceMul, Nat.reduceLT, Nat.reduceLeDiff, Int32.reduceOfInt, Int64.reduceOfInt, true_and, and_true, and_self, true_or, or_true, false_implies, true_implies, not_false_eq_true, not_true_eq_false, Value.category, Nat.reduceEqDiff, Option.toList, List.cons_append, List.nil_append, List.drop_succ_cons, List.drop_zero, ax_qq_eq, ax_t_1025]
      rw [ax_j_1025_126]
      have hJ2 : J (m + 1) = kx_jb F1 F2 k p kd ht hs hc (J m) := by
        rw [hJm]
        unfold kx_j1
        rw [if_pos he]
      rw [hJ2, hwm, if_neg (fun z => z.1 he)] at fin
      exact fin es2 m3 (ksf_trans i2 m4)
end KS
