/-! Seer: what shakes later -/
def kW (es : ax_H) (n k p hc : Nat) (kd pl0 ht hs : Nat → Int32) (F1 F2 : Int32 → Int32 → Int32 → Int32 → Int32) (T : Nat) (cr : Int32) (sh pl dn : Nat → Int32) : Prop := ax_al n = 178 ∧ (3 ≤ k ∧ k ≤ 12) ∧ p ≤ 6 ∧ khs hc hs ∧ ks sh ∧ kpl k p pl ∧ T < 1000 ∧ kC es k p hc kd pl0 ht hs F1 F2 ∧ kb es n 38 k p (nI T) cr sh pl dn
def kx_fst (P : Nat → Bool) : Nat → Nat → Int32
  | 0, _ => -1
  | f + 1, c => if P c = true then nI c else kx_fst P f (c + 1)
def kx_peak (f : Nat → Int32) : Nat → Int32 × Int32
  | 0 => (f 0, 0)
  | m + 1 => if (kx_peak f m).1 < f (m + 1) then (f (m + 1), nI (m + 1)) else kx_peak f m
def kx_idle (a b : Nat → Int32) : Nat → Int32
  | 0 => 0
  | m + 1 => if a m = b m then kx_idle a b m ||| (1 <<< (nI m &&& 31)) else kx_idle a b m
def kx_rises (f : Nat → Int32) : Nat → Int32
  | 0 => 0
  | m + 1 => if f m < f (m + 1) then kx_rises f m + 1 else kx_rises f m
theorem kx_down {I : Nat → Nat → Prop} {k : Nat} (hend : I 0 k) (hstep : ∀ f c, c + (f + 1) = k → I f (c + 1) → I (f + 1) c) : ∀ f c, c + f = k → I f c := by
  intro f
  induction f with
  | zero =>
    intro c hc
    rw [show c = k by omega]
    exact hend
  | succ f ih =>
    intro c hc
    exact hstep f c hc (ih (c + 1) (by omega))
section KS
variable {d n sl k p hc : Nat} {es : ax_H} {kd pl0 ht hs : Nat → Int32} {F1 F2 : Int32 → Int32 → Int32 → Int32 → Int32} {T : Nat} {cr : Int32} {sh pl dn : Nat → Int32}
theorem kW_sf {es' : ax_H} (h : kW es n k p hc kd pl0 ht hs F1 F2 T cr sh pl dn) (hf : ksf es es') : kW es' n k p hc kd pl0 ht hs F1 F2 T cr sh pl dn := by
  obtain ⟨h1, h2, h3, h4, h5, h6, h7, h8, h9⟩ := h
  exact ⟨h1, h2, h3, h4, h5, h6, h7, kC_sf h8 hf, kb_sf (by omega) h9 hf⟩
theorem kSe_rcv (hal : ax_al n = 178) (hS : kSe es n F1) (As : List Value) : ax_rcv n es 0 (.ref 150 :: As) := by
  obtain ⟨-, -, k', p', t', cr', sh', pl', dn', h3⟩ := hS
  exact ax_rcv_ok (by omega) h3.2.1
theorem kR_rcv (hal : ax_al n = 178) (hR : kR es F1) (As : List Value) : ax_rcv n es 5 (.ref 146 :: As) := ax_rcv_ok (by omega) hR.1
theorem cs_copyW (hd : 1 ≤ d) (hS : kSe es n F1) (h : kW es n k p hc kd pl0 ht hs F1 F2 T cr sh pl dn) : ax_Mt d 2 [.ref 150, .ref 38] n sl es (fun r es' => r = none ∧ kT es' n F1 k p T cr sh pl dn ∧ ksf es es') := by
  obtain ⟨h1, h2, h3, h4, h5, h6, h7, h8, h9⟩ := h
  exact cs_copy hd h1 hS h9
theorem ck_firstStill (hd : 5 ≤ d) (hS : kSe es n F1) (hW : kW es n k p hc kd pl0 ht hs F1 F2 T cr sh pl dn) : ax_Mt d 1027 [.ref 149] n sl es (fun r es' => r = some (.int (kx_fst (fun c => decide (kx_bits (kx_dr F1 k cr hs hc T sh c) k = 0)) 61 0)) ∧ kSe es' n F1 ∧ ksf es es') := by
  obtain ⟨d, rfl⟩ : ∃ z, d = z + 1 := ⟨d - 1, by omega⟩
  obtain ⟨hal, hk, hp, hhs, hsh, hpl, hT, hC, hb⟩ := id hW
  obtain ⟨dr, h149⟩ := hS.2.1.1
  refine ax_Mt_start (m := ax_m_8_3) (ls := [some (.ref 149), none]) rfl ax_b_1027_0 (Nat.le_of_ble_eq_true rfl) rfl ?_
  simp only [ax_W_cons, ax_I, ax_cmp, ax_ii, ax_ll, ax_li, ax_st1, ax_st2, ax_kl, ax_k2, ax_fit, ax_rtok, List.getElem?_cons_zero, List.getElem?_cons_succ, List.length_cons, List.length_nil, List.set_cons_zero, List.set_cons_succ, Nat.reduceAdd, Nat.reduceDiv, Nat.reduceMod, Nat.reduceMul, Nat.reduceLT, Nat.reduceLeDiff, Int32.reduceOfInt, Int64.reduceOfInt, true_and, and_true, and_self, true_or, or_true, false_implies, true_implies, not_false_eq_true, not_true_eq_false, Value.category, Nat.reduceEqDiff, Option.toList, List.cons_append, List.nil_append, List.drop_succ_cons, List.drop_zero, ax_t_1027, h149, hal]
  refine ax_inv_of (Nat.le_of_ble_eq_true rfl) (Nat.le_of_ble_eq_true rfl) (fun _ => kSe_rcv hal hS _) (fun h => absurd h (by decide)) (Nat.le_refl _) (Nat.le_refl _) (ax_Mt_mono (cs_copyW (by omega) hS hW) ?_)
  rintro r es2 ⟨rfl, m1, m2⟩
  simp only [ax_W_cons, ax_I, ax_cmp, ax_ii, ax_ll, ax_li, ax_st1, ax_st2, ax_kl, ax_k2, ax_fit, ax_rtok, List.getElem?_cons_zero, List.getElem?_cons_succ, List.length_cons, List.length_nil, List.set_cons_zero, List.set_cons_succ, Nat.reduceAdd, Nat.reduceDiv, Nat.reduceMod, Nat.reduceMul, Nat.reduceLT, Nat.reduceLeDiff, Int32.reduceOfInt, Int64.reduceOfInt, true_and, and_true, and_self, true_or, or_true, false_implies, true_implies, not_false_eq_true, not_true_eq_false, Value.category, Nat.reduceEqDiff, Option.toList, List.cons_append, List.nil_append, List.drop_succ_cons, List.drop_zero, ax_t_1027]
  rw [ax_n_1027_13]
  have L := kx_down (k := 61) (I := fun f c => ∀ es1, kT es1 n F1 k p (T + c) cr (kx_dr F1 k cr hs hc T sh c) pl dn → ksf es es1 → ax_W (d + 1) n sl 1027 [(1, .iload 1), (2, .iconst 60), (3, .if_icmp .gt 49), (1, .aload 0), (3, .getfield 2062), (3, .invokeinterface 17 5), (3, .ifCond .ne 31), (1, .iload 1), (1, .ireturn)] 13 [some (.ref 149), some (.int (nI c))] [] n sl es1 (fun r n' sl' es' => n' = n ∧ sl' = sl ∧ r = some (.int (kx_fst (fun c => decide (kx_bits (kx_dr F1 k cr hs hc T sh c) k = 0)) f c)) ∧ kSe es' n F1 ∧ ksf es es')) ?_ ?_ 61 0 rfl
  · exact L es2 m1 m2
  · intro es1 i1 i2
    have e1 : (60 : Int32) < nI 61 := by decide
    simp only [ax_W_cons, ax_I, ax_cmp, ax_ii, ax_ll, ax_li, ax_st1, ax_st2, ax_kl, ax_k2, ax_fit, ax_rtok, List.getElem?_cons_zero, List.getElem?_cons_succ, List.length_cons, List.length_nil, List.set_cons_zero, List.set_cons_succ, Nat.reduceAdd, Nat.reduceDiv, Nat.reduceMod, Nat.reduceMul, Nat.reduceLT, Nat.reduceLeDiff, Int32.reduceOfInt, Int64.reduceOfInt, true_and, and_true, and_self, true_or, or_true, false_implies, true_implies, not_false_eq_true, not_true_eq_false, Value.category, Nat.reduceEqDiff, Option.toList, List.cons_append, List.nil_append, List.drop_succ_cons, List.drop_zero, ax_t_1027, ax_j_1027_49, ax_n_1027_49, e1]
    exact ⟨rfl, kT_kSe i1, i2⟩
  · intro f c hc2 ih es1 i1 i2
    have e1 : ¬ (60 : Int32) < nI c := nI_nlt (a := 60) (by omega) (by decide)
    have e4 : nI c + 1 = nI (c + 1) := (nI_succ c).symm
    obtain ⟨dr1, w149⟩ := i1.2.1.1
    have hS1 := kT_kSe i1
    simp only [ax_W_cons, ax_I, ax_cmp, ax_ii, ax_ll, ax_li, ax_st1, ax_st2, ax_kl, ax_k2, ax_fit, ax_rtok, List.getElem?_cons_zero, List.getElem?_cons_succ, List.length_cons, List.length_nil, List.set_cons_zero, List.set_cons_succ, Nat.reduceAdd, Nat.reduceDiv, Nat.reduceMod, Nat.reduceMul, Nat.reduceLT, Nat.reduceLeDiff, Int32.reduceOfInt, Int64.reduceOfInt, true_and, and_true, and_self, true_or, or_true, false_implies, true_implies, not_false_eq_true, not_true_eq_false, Value.category, Nat.reduceEqDiff, Option.toList, List.cons_append, List.nil_append, List.drop_succ_cons, List.drop_zero, ax_t_1027, w149, hal, e1]
    refine ax_inv_eq (Nat.le_of_ble_eq_true rfl) (Nat.le_of_ble_eq_true rfl) (fun _ => kSe_rcv hal hS1 _) (fun h => absurd h (by decide)) (Nat.le_refl _) (Nat.le_refl _) (ck_shakingBits hk.2 i1.2.2) ?_
    simp only [ax_W_cons, ax_I, ax_cmp, ax_ii, ax_ll, ax_li, ax_st1, ax_st2, ax_kl, ax_k2, ax_fit, ax_rtok, List.getElem?_cons_zero, List.getElem?_cons_succ, List.length_cons, List.length_nil, List.set_cons_zero, List.set_cons_succ, Nat.reduceAdd, Nat.reduceDiv, Nat.reduceMod, Nat.reduceMul, Nat.reduceLT, Nat.reduceLeDiff, Int32.reduceOfInt, Int64.reduceOfInt, true_and, and_true, and_self, true_or, or_true, false_implies, true_implies, not_false_eq_true, not_true_eq_false, Value.category, Nat.reduceEqDiff, Option.toList, List.cons_append, List.nil_append, List.drop_succ_cons, List.drop_zero, ax_t_1027, ax_j_1027_31, ax_n_1027_31, w149, hal]
    refine ⟨fun hne => ?_, fun hz => ?_⟩
    · refine ax_inv_of (Nat.le_of_ble_eq_true rfl) (Nat.le_of_ble_eq_true rfl) (fun _ => kR_rcv hal i1.1 _) (fun h => absurd h (by decide)) (Nat.le_refl _) (Nat.le_refl _) (ax_Mt_mono (cs_drift (m := 1) (by omega) hal hk.2 (by omega) hhs (ks_dr hk.2 (kC_F hC) hsh c) (kC_sf hC i2) i1) ?_)
      rintro r es3 ⟨rfl, m3, m4⟩
      simp only [ax_W_cons, ax_I, ax_cmp, ax_ii, ax_ll, ax_li, ax_st1, ax_st2, ax_kl, ax_k2, ax_fit, ax_rtok, List.getElem?_cons_zero, List.getElem?_cons_succ, List.length_cons, List.length_nil, List.set_cons_zero, List.set_cons_succ, Nat.reduceAdd, Nat.reduceDiv, Nat.reduceMod, Nat.reduceMul, Nat.reduceLT, Nat.reduceLeDiff, Int32.reduceOfInt, Int64.reduceOfInt, true_and, and_true, and_self, true_or, or_true, false_implies, true_implies, not_false_eq_true, not_true_eq_false, Value.category, Nat.reduceEqDiff, Option.toList, List.cons_append, List.nil_append, List.drop_succ_cons, List.drop_zero, ax_t_1027, e4]
      rw [ax_j_1027_13]
      rw [kx_fst, if_neg (by simpa using hne)]
      exact ih es3 m3 (ksf_trans i2 m4)
    · simp only [Classical.not_not] at hz
      rw [kx_fst, if_pos (by simpa using hz)]
      exact ⟨rfl, hS1, i2⟩
theorem ck_firstPeak (hd : 5 ≤ d) (hS : kSe es n F1) (hW : kW es n k p hc kd pl0 ht hs F1 F2 T cr sh pl dn) {c : Nat} (hc2 : c < 12) : ax_Mt d 1028 [.ref 149, .int (nI c)] n sl es (fun r es' => r = some (.int (kx_peak (fun m => kx_dr F1 k cr hs hc T sh m c) 60).2) ∧ kSe es' n F1 ∧ ksf es es') := by
  obtain ⟨d, rfl⟩ : ∃ z, d = z + 1 := ⟨d - 1, by omega⟩
  obtain ⟨hal, hk, hp, hhs, hsh, hpl, hT, hC, hb⟩ := id hW
  obtain ⟨dr, h149⟩ := hS.2.1.1
  have e2 : vp_in (nI c) 12 := nI_in hc2 (by decide)
  have e3 : (nI c).toNatClampNeg = c := nI_clamp (by omega)
  refine ax_Mt_start (m := ax_m_8_4) (ls := [some (.ref 149), some (.int (nI c)), none, none, none]) rfl ax_b_1028_0 (Nat.le_of_ble_eq_true rfl) rfl ?_
  simp only [ax_W_cons, ax_I, ax_cmp, ax_ii, ax_ll, ax_li, ax_st1, ax_st2, ax_kl, ax_k2, ax_fit, ax_rtok, List.getElem?_cons_zero, List.getElem?_cons_succ, List.length_cons, List.length_nil, List.set_cons_zero, List.set_cons_succ, Nat.reduceAdd, Nat.reduceDiv, Nat.reduceMod, Nat.reduceMul, Nat.reduceLT, Nat.reduceLeDiff, Int32.reduceOfInt, Int64.reduceOfInt, true_and, and_true, and_self, true_or, or_true, false_implies, true_implies, not_false_eq_true, not_true_eq_false, Value.category, Nat.reduceEqDiff, Option.toList, List.cons_append, List.nil_append, List.drop_succ_cons, List.drop_zero, ax_t_1028, h149, hal]
  refine ax_inv_of (Nat.le_of_ble_eq_true rfl) (Nat.le_of_ble_eq_true rfl) (fun _ => kSe_rcv hal hS _) (fun h => absurd h (by decide)) (Nat.le_refl _) (Nat.le_refl _) (ax_Mt_mono (cs_copyW (by omega) hS hW) ?_)
  rintro r es2 ⟨rfl, m1, m2⟩
  obtain ⟨dr2, q149⟩ := m1.2.1.1
  have y0 := m1.2.2.2.1
  have y1 := m1.2.2.2.2.1
  simp only [ax_W_cons, ax_I, ax_cmp, ax_ii, ax_ll, ax_li, ax_st1, ax_st2, ax_kl, ax_k2, ax_fit, ax_rtok, List.getElem?_cons_zero, List.getElem?_cons_succ, List.length_cons, List.length_nil, List.set_cons_zero, List.set_cons_succ, Nat.reduceAdd, Nat.reduceDiv, Nat.reduceMod, Nat.reduceMul, Nat.reduceLT, Nat.reduceLeDiff, Int32.reduceOfInt, Int64.reduceOfInt, true_and, and_true, and_self, true_or, or_true, false_implies, true_implies, not_false_eq_true, not_true_eq_false, Value.category, Nat.reduceEqDiff, Option.toList, List.cons_append, List.nil_append, List.drop_succ_cons, List.drop_zero, ax_t_1028, q149, y0, y1, kb_o, kb_a, hal, e2, e3]
  rw [ax_n_1028_26]
  have L := kx_loop (k := 60) (I := fun j => ∀ es1, kT es1 n F1 k p (T + j) cr (kx_dr F1 k cr hs hc T sh j) pl dn → ksf es es1 → ax_W (d + 1) n sl 1028 [(2, .iload 4), (2, .iconst 60), (3, .if_icmp .gt 77), (1, .aload 0), (3, .getfield 2050), (1, .aload 0), (3, .getfield 2062), (1, .iconst 1), (3, .invokeinterface 643 13), (1, .aload 0), (3, .getfield 2062), (3, .getfield 18), (1, .iload 1), (1, .iaload), (1, .iload 3), (3, .if_icmp .le 71), (1, .aload 0), (3, .getfield 2062), (3, .getfield 18), (1, .iload 1), (1, .iaload), (1, .istore 3), (2, .iload 4), (1, .istore 2)] 26 [some (.ref 149), some (.int (nI c)), some (.int (kx_peak (fun m => kx_dr F1 k cr hs hc T sh m c) j).2), some (.int (kx_peak (fun m => kx_dr F1 k cr hs hc T sh m c) j).1), some (.int (nI (j + 1)))] [] n sl es1 (fun r n' sl' es' => n' = n ∧ sl' = sl ∧ r = some (.int (kx_peak (fun m => kx_dr F1 k cr hs hc T sh m c) 60).2) ∧ kSe es' n F1 ∧ ksf es es')) ?_ ?_
  · exact L es2 m1 m2
  · intro es1 i1 i2
    have e1 : (60 : Int32) < nI (60 + 1) := by decide
    simp only [ax_W_cons, ax_I, ax_cmp, ax_ii, ax_ll, ax_li, ax_st1, ax_st2, ax_kl, ax_k2, ax_fit, ax_rtok, List.getElem?_cons_zero, List.getElem?_cons_succ, List.length_cons, List.length_nil, List.set_cons_zero, List.set_cons_succ, Nat.reduceAdd, Nat.reduceDiv, Nat.reduceMod, Nat.reduceMul, Nat.reduceLT, Nat.reduceLeDiff, Int32.reduceOfInt, Int64.reduceOfInt, true_and, and_true, and_self, true_or, or_true, false_implies, true_implies, not_false_eq_true, not_true_eq_false, Value.category, Nat.reduceEqDiff, Option.toList, List.cons_append, List.nil_append, List.drop_succ_cons, List.drop_zero, ax_t_1028, ax_j_1028_77, ax_n_1028_77, e1]
    exact ⟨kT_kSe i1, i2⟩
  · intro j hj ih es1 i1 i2
    have e1 : ¬ (60 : Int32) < nI (j + 1) := nI_nlt (a := 60) (by omega) (by decide)
    have e4 : nI (j + 1) + 1 = nI (j + 1 + 1) := (nI_succ (j + 1)).symm
    obtain ⟨dr1, w149⟩ := i1.2.1.1
    simp only [ax_W_cons, ax_I, ax_cmp, ax_ii, ax_ll, ax_li, ax_st1, ax_st2, ax_kl, ax_k2, ax_fit, ax_rtok, List.getElem?_cons_zero, List.getElem?_cons_succ, List.length_cons, List.length_nil, List.set_cons_zero, List.set_cons_succ, Nat.reduceAdd, Nat.reduceDiv, Nat.reduceMod, Nat.reduceMul, Nat.reduceLT, Nat.reduceLeDiff, Int32.reduceOfInt, Int64.reduceOfInt, true_and, and_true, and_self, true_or, or_true, false_implies, true_implies, not_false_eq_true, not_true_eq_false, Value.category, Nat.reduceEqDiff, Option.toList, List.cons_append, List.nil_append, List.drop_succ_cons, List.drop_zero, ax_t_1028, w149, hal, e1]
    refine ax_inv_of (Nat.le_of_ble_eq_true rfl) (Nat.le_of_ble_eq_true rfl) (fun _ => kR_rcv hal i1.1 _) (fun h => absurd h (by decide)) (Nat.le_refl _) (Nat.le_refl _) (ax_Mt_mono (cs_drift (m := 1) (by omega) hal hk.2 (by omega) hhs (ks_dr hk.2 (kC_F hC) hsh j) (kC_sf hC i2) i1) ?_)
    rintro r es3 ⟨rfl, m3, m4⟩
    obtain ⟨dr3, x149⟩ := m3.2.1.1
    have x0 := m3.2.2.2.1
    have x1 := m3.2.2.2.2.1
    simp only [ax_W_cons, ax_I, ax_cmp, ax_ii, ax_ll, ax_li, ax_st1, ax_st2, ax_kl, ax_k2, ax_fit, ax_rtok, List.getElem?_cons_zero, List.getElem?_cons_succ, List.length_cons, List.length_nil, List.set_cons_zero, List.set_cons_succ, Nat.reduceAdd, Nat.reduceDiv, Nat.reduceMod, Nat.reduceMul, Nat.reduceLT, Nat.reduceLeDiff, Int32.reduceOfInt, Int64.reduceOfInt, true_and, and_true, and_self, true_or, or_true, false_implies, true_implies, not_false_eq_true, not_true_eq_false, Value.category, Nat.reduceEqDiff, Option.toList, List.cons_append, List.nil_append, List.drop_succ_cons, List.drop_zero, ax_t_1028, ax_j_1028_71, ax_n_1028_71, x149, x0, x1, kb_o, kb_a, hal, e2, e3, e4]
    simp only [ax_j_1028_26]
    refine ⟨fun hle => ?_, fun hle => ?_⟩
    · have ih := ih es3 m3 (ksf_trans i2 m4)
      rw [kx_peak, if_neg (by rw [kx_nlt]; exact hle)] at ih
      exact ih
    · rw [kx_nle] at hle
      have ih := ih es3 m3 (ksf_trans i2 m4)
      rw [kx_peak, if_pos (by exact hle)] at ih
      exact ih
theorem ck_totalOf (hd : 6 ≤ d) (hS : kSe es n F1) (hW : kW es n k p hc kd pl0 ht hs F1 F2 T cr sh pl dn) {i m : Nat} (hi : i < 6) (hm : m ≤ 100) : ax_Mt d 1029 [.ref 149, .int (nI i), .int (nI m)] n sl es (fun r es' => r = some (.int (kx_pdn (kx_dd F1 F2 k kd ht cr hs hc T sh pl) p dn m i - dn i)) ∧ kSe es' n F1 ∧ ksf es es') := by
  obtain ⟨d, rfl⟩ : ∃ z, d = z + 1 := ⟨d - 1, by omega⟩
  obtain ⟨hal, hk, hp, hhs, hsh, hpl, hT, hC, hb⟩ := id hW
  obtain ⟨dr, h149⟩ := hS.2.1.1
  have e2 : vp_in (nI i) 6 := nI_in hi (by decide)
  have e3 : (nI i).toNatClampNeg = i := nI_clamp (by omega)
  refine ax_Mt_start (m := ax_m_8_5) (ls := [some (.ref 149), some (.int (nI i)), some (.int (nI m))]) rfl ax_b_1029_0 (Nat.le_of_ble_eq_true rfl) rfl ?_
  simp only [ax_W_cons, ax_I, ax_cmp, ax_ii, ax_ll, ax_li, ax_st1, ax_st2, ax_kl, ax_k2, ax_fit, ax_rtok, List.getElem?_cons_zero, List.getElem?_cons_succ, List.length_cons, List.length_nil, List.set_cons_zero, List.set_cons_succ, Nat.reduceAdd, Nat.reduceDiv, Nat.reduceMod, Nat.reduceMul, Nat.reduceLT, Nat.reduceLeDiff, Int32.reduceOfInt, Int64.reduceOfInt, true_and, and_true, and_self, true_or, or_true, false_implies, true_implies, not_false_eq_true, not_true_eq_false, Value.category, Nat.reduceEqDiff, Option.toList, List.cons_append, List.nil_append, List.drop_succ_cons, List.drop_zero, ax_t_1029, h149, hal]
  refine ax_inv_of (Nat.le_of_ble_eq_true rfl) (Nat.le_of_ble_eq_true rfl) (fun _ => kSe_rcv hal hS _) (fun h => absurd h (by decide)) (Nat.le_refl _) (Nat.le_refl _) (ax_Mt_mono (cs_copyW (by omega) hS hW) ?_)
  rintro r es2 ⟨rfl, m1, m2⟩
  obtain ⟨dr2, q149⟩ := m1.2.1.1
  simp only [ax_W_cons, ax_I, ax_cmp, ax_ii, ax_ll, ax_li, ax_st1, ax_st2, ax_kl, ax_k2, ax_fit, ax_rtok, List.getElem?_cons_zero, List.getElem?_cons_succ, List.length_cons, List.length_nil, List.set_cons_zero, List.set_cons_succ, Nat.reduceAdd, Nat.reduceDiv, Nat.reduceMod, Nat.reduceMul, Nat.reduceLT, Nat.reduceLeDiff, Int32.reduceOfInt, Int64.reduceOfInt, true_and, and_true, and_self, true_or, or_true, false_implies, true_implies, not_false_eq_true, not_true_eq_false, Value.category, Nat.reduceEqDiff, Option.toList, List.cons_append, List.nil_append, List.drop_succ_cons, List.drop_zero, ax_t_1029, q149, hal]
  refine ax_inv_of (Nat.le_of_ble_eq_true rfl) (Nat.le_of_ble_eq_true rfl) (fun _ => kR_rcv hal m1.1 _) (fun h => absurd h (by decide)) (Nat.le_refl _) (Nat.le_refl _) (ax_Mt_mono (cs_pass (m := m) (by omega) hal hk.2 hp hpl (by omega) hhs hsh (kC_sf hC m2) m1) ?_)
  rintro r es3 ⟨rfl, m3, m4⟩
  obtain ⟨dr3, x149⟩ := m3.2.1.1
  have x0 := m3.2.2.2.1
  have x3 := m3.2.2.2.2.2.2.1
  have hf := ksf_trans m2 m4
  obtain ⟨-, v0, -, -, v3, -⟩ := kb_sf (by omega) hb hf
  simp only [ax_W_cons, ax_I, ax_cmp, ax_ii, ax_ll, ax_li, ax_st1, ax_st2, ax_kl, ax_k2, ax_fit, ax_rtok, List.getElem?_cons_zero, List.getElem?_cons_succ, List.length_cons, List.length_nil, List.set_cons_zero, List.set_cons_succ, Nat.reduceAdd, Nat.reduceDiv, Nat.reduceMod, Nat.reduceMul, Nat.reduceLT, Nat.reduceLeDiff, Int32.reduceOfInt, Int64.reduceOfInt, true_and, and_true, and_self, true_or, or_true, false_implies, true_implies, not_false_eq_true, not_true_eq_false, Value.category, Nat.reduceEqDiff, Option.toList, List.cons_append, List.nil_append, List.drop_succ_cons, List.drop_zero, ax_t_1029, x149, x0, x3, v0, v3, kb_o, kb_a, hal, e2, e3]
  exact ⟨kT_kSe m3, hf⟩
theorem ck_calmestCell (hd : 5 ≤ d) (hS : kSe es n F1) (hW : kW es n k p hc kd pl0 ht hs F1 F2 T cr sh pl dn) {m : Nat} (hm : m ≤ 100) : ax_Mt d 1041 [.ref 149, .int (nI m)] n sl es (fun r es' => r = some (.int (kx_quiet cr (kx_dr F1 k cr hs hc T sh m) k)) ∧ kSe es' n F1 ∧ ksf es es') := by
  obtain ⟨d, rfl⟩ : ∃ z, d = z + 1 := ⟨d - 1, by omega⟩
  obtain ⟨hal, hk, hp, hhs, hsh, hpl, hT, hC, hb⟩ := id hW
  obtain ⟨dr, h149⟩ := hS.2.1.1
  refine ax_Mt_start (m := ax_m_8_17) (ls := [some (.ref 149), some (.int (nI m))]) rfl ax_b_1041_0 (Nat.le_of_ble_eq_true rfl) rfl ?_
  simp only [ax_W_cons, ax_I, ax_cmp, ax_ii, ax_ll, ax_li, ax_st1, ax_st2, ax_kl, ax_k2, ax_fit, ax_rtok, List.getElem?_cons_zero, List.getElem?_cons_succ, List.length_cons, List.length_nil, List.set_cons_zero, List.set_cons_succ, Nat.reduceAdd, Nat.reduceDiv, Nat.reduceMod, Nat.reduceMul, Nat.reduceLT, Nat.reduceLeDiff, Int32.reduceOfInt, Int64.reduceOfInt, true_and, and_true, and_self, true_or, or_true, false_implies, true_implies, not_false_eq_true, not_true_eq_false, Value.category, Nat.reduceEqDiff, Option.toList, List.cons_append, List.nil_append, List.drop_succ_cons, List.drop_zero, ax_t_1041, h149, hal]
  refine ax_inv_of (Nat.le_of_ble_eq_true rfl) (Nat.le_of_ble_eq_true rfl) (fun _ => kSe_rcv hal hS _) (fun h => absurd h (by decide)) (Nat.le_refl _) (Nat.le_refl _) (ax_Mt_mono (cs_copyW (by omega) hS hW) ?_)
  rintro r es2 ⟨rfl, m1, m2⟩
  obtain ⟨dr2, q149⟩ := m1.2.1.1
  simp only [ax_W_cons, ax_I, ax_cmp, ax_ii, ax_ll, ax_li, ax_st1, ax_st2, ax_kl, ax_k2, ax_fit, ax_rtok, List.getElem?_cons_zero, List.getElem?_cons_succ, List.length_cons, List.length_nil, List.set_cons_zero, List.set_cons_succ, Nat.reduceAdd, Nat.reduceDiv, Nat.reduceMod, Nat.reduceMul, Nat.reduceLT, Nat.reduceLeDiff, Int32.reduceOfInt, Int64.reduceOfInt, true_and, and_true, and_self, true_or, or_true, false_implies, true_implies, not_false_eq_true, not_true_eq_false, Value.category, Nat.reduceEqDiff, Option.toList, List.cons_append, List.nil_append, List.drop_succ_cons, List.drop_zero, ax_t_1041, q149, hal]
  refine ax_inv_of (Nat.le_of_ble_eq_true rfl) (Nat.le_of_ble_eq_true rfl) (fun _ => kR_rcv hal m1.1 _) (fun h => absurd h (by decide)) (Nat.le_refl _) (Nat.le_refl _) (ax_Mt_mono (cs_drift (m := m) (by omega) hal hk.2 (by omega) hhs hsh (kC_sf hC m2) m1) ?_)
  rintro r es3 ⟨rfl, m3, m4⟩
  obtain ⟨dr3, x149⟩ := m3.2.1.1
  simp only [ax_W_cons, ax_I, ax_cmp, ax_ii, ax_ll, ax_li, ax_st1, ax_st2, ax_kl, ax_k2, ax_fit, ax_rtok, List.getElem?_cons_zero, List.getElem?_cons_succ, List.length_cons, List.length_nil, List.set_cons_zero, List.set_cons_succ, Nat.reduceAdd, Nat.reduceDiv, Nat.reduceMod, Nat.reduceMul, Nat.reduceLT, Nat.reduceLeDiff, Int32.reduceOfInt, Int64.reduceOfInt, true_and, and_true, and_self, true_or, or_true, false_implies, true_implies, not_false_eq_true, not_true_eq_false, Value.category, Nat.reduceEqDiff, Option.toList, List.cons_append, List.nil_append, List.drop_succ_cons, List.drop_zero, ax_t_1041, x149, hal]
  refine ax_inv_eq (Nat.le_of_ble_eq_true rfl) (Nat.le_of_ble_eq_true rfl) (fun _ => kSe_rcv hal (kT_kSe m3) _) (fun h => absurd h (by decide)) (Nat.le_refl _) (Nat.le_refl _) (ck_quietestOpen (by omega) hk.2 m3.2.2) ?_
  simp only [ax_W_cons, ax_I, ax_cmp, ax_ii, ax_ll, ax_li, ax_st1, ax_st2, ax_kl, ax_k2, ax_fit, ax_rtok, List.getElem?_cons_zero, List.getElem?_cons_succ, List.length_cons, List.length_nil, List.set_cons_zero, List.set_cons_succ, Nat.reduceAdd, Nat.reduceDiv, Nat.reduceMod, Nat.reduceMul, Nat.reduceLT, Nat.reduceLeDiff, Int32.reduceOfInt, Int64.reduceOfInt, true_and, and_true, and_self, true_or, or_true, false_implies, true_implies, not_false_eq_true, not_true_eq_false, Value.category, Nat.reduceEqDiff, Option.toList, List.cons_append, List.nil_append, List.drop_succ_cons, List.drop_zero, ax_t_1041]
  exact ⟨kT_kSe m3, ksf_trans m2 m4⟩
theorem ck_idleBits (hd : 6 ≤ d) (hS : kSe es n F1) (hW : kW es n k p hc kd pl0 ht hs F1 F2 T cr sh pl dn) : ax_Mt d 1042 [.ref 149] n sl es (fun r es' => r = some (.int (kx_idle (kx_pdn (kx_dd F1 F2 k kd ht cr hs hc T sh pl) p dn 1) dn p)) ∧ kSe es' n F1 ∧ ksf es es') := by
  obtain ⟨d, rfl⟩ : ∃ z, d = z + 1 := ⟨d - 1, by omega⟩
  obtain ⟨hal, hk, hp, hhs, hsh, hpl, hT, hC, hb⟩ := id hW
  obtain ⟨dr, h149⟩ := hS.2.1.1
  refine ax_Mt_start (m := ax_m_8_18) (ls := [some (.ref 149), none, none]) rfl ax_b_1042_0 (Nat.le_of_ble_eq_true rfl) rfl ?_
  simp only [ax_W_cons, ax_I, ax_cmp, ax_ii, ax_ll, ax_li, ax_st1, ax_st2, ax_kl, ax_k2, ax_fit, ax_rtok, List.getElem?_cons_zero, List.getElem?_cons_succ, List.length_cons, List.length_nil, List.set_cons_zero, List.set_cons_succ, Nat.reduceAdd, Nat.reduceDiv, Nat.reduceMod, Nat.reduceMul, Nat.reduceLT, Nat.reduceLeDiff, Int32.reduceOfInt, Int64.reduceOfInt, true_and, and_true, and_self, true_or, or_true, false_implies, true_implies, not_false_eq_true, not_true_eq_false, Value.category, Nat.reduceEqDiff, Option.toList, List.cons_append, List.nil_append, List.drop_succ_cons, List.drop_zero, ax_t_1042, h149, hal]
  refine ax_inv_of (Nat.le_of_ble_eq_true rfl) (Nat.le_of_ble_eq_true rfl) (fun _ => kSe_rcv hal hS _) (fun h => absurd h (by decide)) (Nat.le_refl _) (Nat.le_refl _) (ax_Mt_mono (cs_copyW (by omega) hS hW) ?_)
  rintro r es2 ⟨rfl, m1, m2⟩
  obtain ⟨dr2, q149⟩ := m1.2.1.1
  simp only [ax_W_cons, ax_I, ax_cmp, ax_ii, ax_ll, ax_li, ax_st1, ax_st2, ax_kl, ax_k2, ax_fit, ax_rtok, List.getElem?_cons_zero, List.getElem?_cons_succ, List.length_cons, List.length_nil, List.set_cons_zero, List.set_cons_succ, Nat.reduceAdd, Nat.reduceDiv, Nat.reduceMod, Nat.reduceMul, Nat.reduceLT, Nat.reduceLeDiff, Int32.reduceOfInt, Int64.reduceOfInt, true_and, and_true, and_self, true_or, or_true, false_implies, true_implies, not_false_eq_true, not_true_eq_false, Value.category, Nat.reduceEqDiff, Option.toList, List.cons_append, List.nil_append, List.drop_succ_cons, List.drop_zero, ax_t_1042, q149, hal]
  refine ax_inv_of (Nat.le_of_ble_eq_true rfl) (Nat.le_of_ble_eq_true rfl) (fun _ => kR_rcv hal m1.1 _) (fun h => absurd h (by decide)) (Nat.le_refl _) (Nat.le_refl _) (ax_Mt_mono (cs_pass (m := 1) (by omega) hal hk.2 hp hpl (by omega) hhs hsh (kC_sf hC m2) m1) ?_)
  rintro r es3 ⟨rfl, m3, m4⟩
  obtain ⟨dr3, x149⟩ := m3.2.1.1
  have x0 := m3.2.2.2.1
  have x3 := m3.2.2.2.2.2.2.1
  have hf := ksf_trans m2 m4
  obtain ⟨-, v0, -, -, v3, -⟩ := kb_sf (by omega) hb hf
  simp only [ax_W_cons, ax_I, ax_cmp, ax_ii, ax_ll, ax_li, ax_st1, ax_st2, ax_kl, ax_k2, ax_fit, ax_rtok, List.getElem?_cons_zero, List.getElem?_cons_succ, List.length_cons, List.length_nil, List.set_cons_zero, List.set_cons_succ, Nat.reduceAdd, Nat.reduceDiv, Nat.reduceMod, Nat.reduceMul, Nat.reduceLT, Nat.reduceLeDiff, Int32.reduceOfInt, Int64.reduceOfInt, true_and, and_true, and_self, true_or, or_true, false_implies, true_implies, not_false_eq_true, not_true_eq_false, Value.category, Nat.reduceEqDiff, Option.toList, List.cons_append, List.nil_append, List.drop_succ_cons, List.drop_zero, ax_t_1042]
  rw [ax_n_1042_28]
  refine kx_loop (k := p) (I := fun c => ax_W (d + 1) n sl 1042 [(1, .iload 2), (1, .aload 0), (3, .getfield 2054), (3, .getfield 4), (3, .if_icmp .ge 72), (1, .aload 0), (3, .getfield 2062), (3, .getfield 26), (1, .iload 2), (1, .iaload), (1, .aload 0), (3, .getfield 2054), (3, .getfield 26), (1, .iload 2), (1, .iaload), (3, .if_icmp .ne 66), (1, .iload 1), (1, .iconst 1), (1, .iload 2), (1, .ishl), (1, .ior), (1, .istore 1)] 28 [some (.ref 149), some (.int (kx_idle (kx_pdn (kx_dd F1 F2 k kd ht cr hs hc T sh pl) p dn 1) dn c)), some (.int (nI c))] [] n sl es3 (fun r n' sl' es' => n' = n ∧ sl' = sl ∧ r = some (.int (kx_idle (kx_pdn (kx_dd F1 F2 k kd ht cr hs hc T sh pl) p dn 1) dn p)) ∧ kSe es' n F1 ∧ ksf es es')) ?_ ?_
  · have e0 := kx_nn (k := p) (by omega)
    simp only [ax_W_cons, ax_I, ax_cmp, ax_ii, ax_ll, ax_li, ax_st1, ax_st2, ax_kl, ax_k2, ax_fit, ax_rtok, List.getElem?_cons_zero, List.getElem?_cons_succ, List.length_cons, List.length_nil, List.set_cons_zero, List.set_cons_succ, Nat.reduceAdd, Nat.reduceDiv, Nat.reduceMod, Nat.reduceMul, Nat.reduceLT, Nat.reduceLeDiff, Int32.reduceOfInt, Int64.reduceOfInt, true_and, and_true, and_self, true_or, or_true, false_implies, true_implies, not_false_eq_true, not_true_eq_false, Value.category, Nat.reduceEqDiff, Option.toList, List.cons_append, List.nil_append, List.drop_succ_cons, List.drop_zero, ax_t_1042, ax_j_1042_72, ax_n_1042_72, x149, v0, kb_o, hal, e0]
    exact ⟨kT_kSe m3, hf⟩
  · intro c hc2 ih
    obtain ⟨e1, e2, e3, e4⟩ := kx_ix hc2 hp (by decide)
    simp only [ax_W_cons, ax_I, ax_cmp, ax_ii, ax_ll, ax_li, ax_st1, ax_st2, ax_kl, ax_k2, ax_fit, ax_rtok, List.getElem?_cons_zero, List.getElem?_cons_succ, List.length_cons, List.length_nil, List.set_cons_zero, List.set_cons_succ, Nat.reduceAdd, Nat.reduceDiv, Nat.reduceMod, Nat.reduceMul, Nat.reduceLT, Nat.reduceLeDiff, Int32.reduceOfInt, Int64.reduceOfInt, true_and, and_true, and_self, true_or, or_true, false_implies, true_implies, not_false_eq_true, not_true_eq_false, Value.category, Nat.reduceEqDiff, Option.toList, List.cons_append, List.nil_append, List.drop_succ_cons, List.drop_zero, ax_t_1042, ax_j_1042_66, ax_n_1042_66, x149, x0, x3, v0, v3, kb_o, kb_a, hal, e1, e2, e3, e4]
    simp only [ax_j_1042_28]
    refine ⟨fun hne => ?_, fun hz => ?_⟩
    · rw [kx_idle, if_neg hne] at ih
      exact ih
    · simp only [Classical.not_not] at hz
      rw [kx_idle, if_pos hz] at ih
      exact ih
theorem ck_risesOf (hd : 5 ≤ d) (hS : kSe es n F1) (hW : kW es n k p hc kd pl0 ht hs F1 F2 T cr sh pl dn) {c : Nat} (hc2 : c < 12) : ax_Mt d 1043 [.ref 149, .int (nI c)] n sl es (fun r es' => r = some (.int (kx_rises (fun m => kx_dr F1 k cr hs hc T sh m c) 20)) ∧ kSe es' n F1 ∧ ksf es es') := by
  obtain ⟨d, rfl⟩ : ∃ z, d = z + 1 := ⟨d - 1, by omega⟩
  obtain ⟨hal, hk, hp, hhs, hsh, hpl, hT, hC, hb⟩ := id hW
  obtain ⟨dr, h149⟩ := hS.2.1.1
  have e2 : vp_in (nI c) 12 := nI_in hc2 (by decide)
  have e3 : (nI c).toNatClampNeg = c := nI_clamp (by omega)
  refine ax_Mt_start (m := ax_m_8_19) (ls := [some (.ref 149), some (.int (nI c)), none, none, none]) rfl ax_b_1043_0 (Nat.le_of_ble_eq_true rfl) rfl ?_
  simp only [ax_W_cons, ax_I, ax_cmp, ax_ii, ax_ll, ax_li, ax_st1, ax_st2, ax_kl, ax_k2, ax_fit, ax_rtok, List.getElem?_cons_zero, List.getElem?_cons_succ, List.length_cons, List.length_nil, List.set_cons_zero, List.set_cons_succ, Nat.reduceAdd, Nat.reduceDiv, Nat.reduceMod, Nat.reduceMul, Nat.reduceLT, Nat.reduceLeDiff, Int32.reduceOfInt, Int64.reduceOfInt, true_and, and_true, and_self, true_or, or_true, false_implies, true_implies, not_false_eq_true, not_true_eq_false, Value.category, Nat.reduceEqDiff, Option.toList, List.cons_append, List.nil_append, List.drop_succ_cons, List.drop_zero, ax_t_1043, h149, hal]
  refine ax_inv_of (Nat.le_of_ble_eq_true rfl) (Nat.le_of_ble_eq_true rfl) (fun _ => kSe_rcv hal hS _) (fun h => absurd h (by decide)) (Nat.le_refl _) (Nat.le_refl _) (ax_Mt_mono (cs_copyW (by omega) hS hW) ?_)
  rintro r es2 ⟨rfl, m1, m2⟩
  simp only [ax_W_cons, ax_I, ax_cmp, ax_ii, ax_ll, ax_li, ax_st1, ax_st2, ax_kl, ax_k2, ax_fit, ax_rtok, List.getElem?_cons_zero, List.getElem?_cons_succ, List.length_cons, List.length_nil, List.set_cons_zero, List.set_cons_succ, Nat.reduceAdd, Nat.reduceDiv, Nat.reduceMod, Nat.reduceMul, Nat.reduceLT, Nat.reduceLeDiff, Int32.reduceOfInt, Int64.reduceOfInt, true_and, and_true, and_self, true_or, or_true, false_implies, true_implies, not_false_eq_true, not_true_eq_false, Value.category, Nat.reduceEqDiff, Option.toList, List.cons_append, List.nil_append, List.drop_succ_cons, List.drop_zero, ax_t_1043]
  rw [ax_n_1043_15]
  have L := kx_loop (k := 20) (I := fun j => ∀ v es1, kT es1 n F1 k p (T + j) cr (kx_dr F1 k cr hs hc T sh j) pl dn → ksf es es1 → ax_W (d + 1) n sl 1043 [(1, .iload 3), (2, .iconst 20), (3, .if_icmp .ge 67), (1, .aload 0), (3, .getfield 2062), (3, .getfield 18), (1, .iload 1), (1, .iaload), (2, .istore 4), (1, .aload 0), (3, .getfield 2050), (1, .aload 0), (3, .getfield 2062), (1, .iconst 1), (3, .invokeinterface 643 13), (1, .aload 0), (3, .getfield 2062), (3, .getfield 18), (1, .iload 1), (1, .iaload), (2, .iload 4), (3, .if_icmp .le 61), (3, .iinc 2 1)] 15 [some (.ref 149), some (.int (nI c)), some (.int (kx_rises (fun m => kx_dr F1 k cr hs hc T sh m c) j)), some (.int (nI j)), v] [] n sl es1 (fun r n' sl' es' => n' = n ∧ sl' = sl ∧ r = some (.int (kx_rises (fun m => kx_dr F1 k cr hs hc T sh m c) 20)) ∧ kSe es' n F1 ∧ ksf es es')) ?_ ?_
  · exact L none es2 m1 m2
  · intro v es1 i1 i2
    have e1 : (20 : Int32) ≤ nI 20 := by decide
    simp only [ax_W_cons, ax_I, ax_cmp, ax_ii, ax_ll, ax_li, ax_st1, ax_st2, ax_kl, ax_k2, ax_fit, ax_rtok, List.getElem?_cons_zero, List.getElem?_cons_succ, List.length_cons, List.length_nil, List.set_cons_zero, List.set_cons_succ, Nat.reduceAdd, Nat.reduceDiv, Nat.reduceMod, Nat.reduceMul, Nat.reduceLT, Nat.reduceLeDiff, Int32.reduceOfInt, Int64.reduceOfInt, true_and, and_true, and_self, true_or, or_true, false_implies, true_implies, not_false_eq_true, not_true_eq_false, Value.category, Nat.reduceEqDiff, Option.toList, List.cons_append, List.nil_append, List.drop_succ_cons, List.drop_zero, ax_t_1043, ax_j_1043_67, ax_n_1043_67, e1]
    exact ⟨kT_kSe i1, i2⟩
  · intro j hj ih v es1 i1 i2
    have e1 : ¬ (20 : Int32) ≤ nI j := nI_ge (b := 20) (by omega) (by decide)
    have e4 : nI j + 1 = nI (j + 1) := (nI_succ j).symm
    obtain ⟨dr1, w149⟩ := i1.2.1.1
    have y0 := i1.2.2.2.1
    have y1 := i1.2.2.2.2.1
    simp only [ax_W_cons, ax_I, ax_cmp, ax_ii, ax_ll, ax_li, ax_st1, ax_st2, ax_kl, ax_k2, ax_fit, ax_rtok, List.getElem?_cons_zero, List.getElem?_cons_succ, List.length_cons, List.length_nil, List.set_cons_zero, List.set_cons_succ, Nat.reduceAdd, Nat.reduceDiv, Nat.reduceMod, Nat.reduceMul, Nat.reduceLT, Nat.reduceLeDiff, Int32.reduceOfInt, Int64.reduceOfInt, true_and, and_true, and_self, true_or, or_true, false_implies, true_implies, not_false_eq_true, not_true_eq_false, Value.category, Nat.reduceEqDiff, Option.toList, List.cons_append, List.nil_append, List.drop_succ_cons, List.drop_zero, ax_t_1043, w149, y0, y1, kb_o, kb_a, hal, e1, e2, e3]
    refine ax_inv_of (Nat.le_of_ble_eq_true rfl) (Nat.le_of_ble_eq_true rfl) (fun _ => kR_rcv hal i1.1 _) (fun h => absurd h (by decide)) (Nat.le_refl _) (Nat.le_refl _) (ax_Mt_mono (cs_drift (m := 1) (by omega) hal hk.2 (by omega) hhs (ks_dr hk.2 (kC_F hC) hsh j) (kC_sf hC i2) i1) ?_)
    rintro r es3 ⟨rfl, m3, m4⟩
    obtain ⟨dr3, x149⟩ := m3.2.1.1
    have x0 := m3.2.2.2.1
    have x1 := m3.2.2.2.2.1
    simp only [ax_W_cons, ax_I, ax_cmp, ax_ii, ax_ll, ax_li, ax_st1, ax_st2, ax_kl, ax_k2, ax_fit, ax_rtok, List.getElem?_cons_zero, List.getElem?_cons_succ, List.length_cons, List.length_nil, List.set_cons_zero, List.set_cons_succ, Nat.reduceAdd, Nat.reduceDiv, Nat.reduceMod, Nat.reduceMul, Nat.reduceLT, Nat.reduceLeDiff, Int32.reduceOfInt, Int64.reduceOfInt, true_and, and_true, and_self, true_or, or_true, false_implies, true_implies, not_false_eq_true, not_true_eq_false, Value.category, Nat.reduceEqDiff, Option.toList, List.cons_append, List.nil_append, List.drop_succ_cons, List.drop_zero, ax_t_1043, ax_j_1043_61, ax_n_1043_61, x149, x0, x1, kb_o, kb_a, hal, e2, e3, e4]
    simp only [ax_j_1043_15]
    refine ⟨fun hle => ?_, fun hle => ?_⟩
    · have ih := ih (some (.int (kx_dr F1 k cr hs hc T sh j c))) es3 m3 (ksf_trans i2 m4)
      rw [kx_rises, if_neg (by rw [kx_nlt]; exact hle)] at ih
      exact ih
    · rw [kx_nle] at hle
      have ih := ih (some (.int (kx_dr F1 k cr hs hc T sh j c))) es3 m3 (ksf_trans i2 m4)
      rw [kx_rises, if_pos (by exact hle)] at ih
      exact ih
end KS
