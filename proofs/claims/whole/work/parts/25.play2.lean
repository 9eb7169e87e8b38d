/-! Play: deeds, beats -/
def kx_deed (F : Int32 → Int32 → Int32 → Int32 → Int32) (k : Nat) (kd ht : Nat → Int32) (h t : Int32) (sh pl : Nat → Int32) (i : Nat) : Int32 :=
  if kd i = 15 ∧ 20 < sh (pl i).toNatClampNeg then 0 else
    (fun x : Int32 => if kd i = 16 ∧ 0 < sh (pl i).toNatClampNeg then x + 1 else x) (if kd i = 14 then F (sh (pl i).toNatClampNeg) h t (ht i) + F (sh (kx_nx k (pl i).toNatClampNeg)) h t (ht i) else F (sh (pl i).toNatClampNeg) h t (ht i))
/-- every courtier stands in a cell -/
def kpl (k p : Nat) (pl : Nat → Int32) : Prop := ∀ i, i < p → ∃ c, c < k ∧ pl i = nI c
section KP
variable {d n sl k p hc : Nat} {es : ax_H} {kd pl0 ht hs : Nat → Int32} {F1 F2 : Int32 → Int32 → Int32 → Int32 → Int32}
/-- the second law called, what stays -/
theorem ck_reads (hd : 1 ≤ d) (hal : ax_al n = 178) (hC : kC es k p hc kd pl0 ht hs F1 F2) (hR : kR es F1) (x0 x1 x2 x3 : Int32) : ax_Mt d 387 [.ref 13, .int x0, .int x1, .int x2, .int x3] n sl es (fun r es' => r = some (.int (F2 x0 x1 x2 x3)) ∧ kR es' F1 ∧ ∀ j, j ≠ 14 ∧ j ≠ 15 → es' j = es j) := by
  obtain ⟨once, nm, code, a1, b1, a2, b2, c3, c4, c5, c6, c7, c8, c9, c10, c13, L1, L2⟩ := hC
  obtain ⟨r0, ⟨s1, g1, r1, r2⟩, ⟨s2, g2, r3, r4⟩, ⟨ah, r5, r6⟩, fd, r7, r8⟩ := hR
  have hvw := ck_valueWithin (d := d) (n := n) (sl := sl) (w := 13) (cp := 9) hd (by omega) (by omega) (by decide) c13 r3 r4 c9 L2.1 L2.2.1 x0 x1 x2 x3
  rw [L2.2.2] at hvw
  refine ax_Mt_mono hvw ?_
  rintro r es' ⟨rfl, rfl⟩
  refine ⟨rfl, ⟨?_, ⟨s1, g1, ?_, ?_⟩, ⟨_, _, klw_1 .., klw_2 ..⟩, ⟨ah, ?_, r6⟩, fd, ?_, r8⟩, fun j hj => klw_ne _ _ _ hj⟩
  all_goals rw [klw_ne _ _ _ (by decide)]; assumption
theorem ck_deedOf (hd : 3 ≤ d) (hal : ax_al n = 178) {q : Nat} {T : Int32} {cr : Int32} {sh pl dn : Nat → Int32} {i : Nat} (hk : k ≤ 12) (hp : p ≤ 6) (hi : i < p) (hq : kap q) (hpl : kpl k p pl) (hC : kC es k p hc kd pl0 ht hs F1 F2) (hR : kR es F1) (hb : kb es n q k p T cr sh pl dn) (h : Int32) :
    ax_Mt d 648 [.ref 146, .ref q, .int (nI i), .int h] n sl es (fun r es' => r = some (.int (kx_deed F2 k kd ht h T sh pl i)) ∧ kR es' F1 ∧ ∀ j, j ≠ 14 ∧ j ≠ 15 → es' j = es j) := by
  obtain ⟨d, rfl⟩ : ∃ z, d = z + 1 := ⟨d - 1, by omega⟩
  have hC' := hC
  obtain ⟨once, nm, code, a1, b1, a2, b2, c3, c4, c5, c6, c7, c8, c9, c10, c13, L1, L2⟩ := hC'
  have r0 := hR.1
  have hb' := hb
  obtain ⟨hn, h0, h1, h2, h3, z1, z2, z3⟩ := hb'
  rw [hal] at hn
  have hq2 := hq
  obtain ⟨ha1, ha2⟩ := hq2
  have hq0 : q < 178 := by omega
  have hqq1 : q + 1 < 178 := by omega
  have hqq2 : q + 2 < 178 := by omega
  obtain ⟨c, hck, hc⟩ := hpl i hi
  have e1 : vp_in (nI i) 6 := nI_in (by omega) (by decide)
  have e2 : (nI i).toNatClampNeg = i := nI_clamp (by omega)
  have e3 : vp_in (nI c) 12 := nI_in (by omega) (by decide)
  have e4 : (nI c).toNatClampNeg = c := nI_clamp (by omega)
  refine ax_Mt_start (m := ax_m_5_8) (ls := [some (.ref 146), some (.ref q), some (.int (nI i)), some (.int h), none, none, none, none, none, none]) rfl ax_b_648_0 (Nat.le_of_ble_eq_true rfl) rfl ?_
  simp only [ax_W_cons, ax_I, ax_cmp, ax_ii, ax_ll, ax_li, ax_st1, ax_st2, ax_kl, ax_k2, ax_fit, ax_rtok, List.getElem?_cons_zero, List.getElem?_cons_succ, List.length_cons, List.length_nil, List.set_cons_zero, List.set_cons_succ, Nat.reduceAdd, Nat.reduceDiv, Nat.reduceMod, Nat.reduceMul, Nat.reduceLT, Nat.reduceLeDiff, Int32.reduceOfInt, Int64.reduceOfInt, true_and, and_true, and_self, true_or, or_true, false_implies, true_implies, not_false_eq_true, not_true_eq_false, Value.category, Nat.reduceEqDiff, Option.toList, List.cons_append, List.nil_append, List.drop_succ_cons, List.drop_zero, ax_t_648, r0, c3, c4, h0, h1, h2, kb_o, kb_a, hal, hq0, hqq1, hqq2, e1, e2, hc, e3, e4]
  have main : ¬ (kd i = 15 ∧ 20 < sh c) → ax_J ax_W (d + 1) n sl 648 44 [some (.ref 146), some (.ref q), some (.int (nI i)), some (.int h), some (.int (nI c)), some (.int (kd i)), some (.int (sh c)), none, none, none] [] n sl es (fun r n' sl' es' => n' = n ∧ sl' = sl ∧ r = some (.int (kx_deed F2 k kd ht h T sh pl i)) ∧ kR es' F1 ∧ ∀ j, j ≠ 14 ∧ j ≠ 15 → es' j = es j) := by
    intro hno
    simp only [ax_W_cons, ax_I, ax_cmp, ax_ii, ax_ll, ax_li, ax_st1, ax_st2, ax_kl, ax_k2, ax_fit, ax_rtok, List.getElem?_cons_zero, List.getElem?_cons_succ, List.length_cons, List.length_nil, List.set_cons_zero, List.set_cons_succ, Nat.reduceAdd, Nat.reduceDiv, Nat.reduceMod, Nat.reduceMul, Nat.reduceLT, Nat.reduceLeDiff, Int32.reduceOfInt, Int64.reduceOfInt, true_and, and_true, and_self, true_or, or_true, false_implies, true_implies, not_false_eq_true, not_true_eq_false, Value.category, Nat.reduceEqDiff, Option.toList, List.cons_append, List.nil_append, List.drop_succ_cons, List.drop_zero, ax_t_648, ax_j_648_44, ax_n_648_44, r0, c3, c6, h0, kb_o, hal, hq0, e1, e2]
    refine ax_inv_of (Nat.le_of_ble_eq_true rfl) (Nat.le_of_ble_eq_true rfl) (fun _ => ax_rcv_ok (by omega) c13) (fun h => absurd h (by decide)) (Nat.le_refl _) (Nat.le_refl _) (ax_Mt_mono (ck_reads (by omega) hal hC hR (sh c) h T (ht i)) ?_)
    rintro r es2 ⟨rfl, m1, m2⟩
    have fr : kfr q es es2 := fun j hj => m2 j (by omega)
    have hC2 := kC_fr hq hC fr
    have hb2 : kb es2 n q k p T cr sh pl dn := kb_fr hb (fun j hj => m2 j (by omega))
    have q0 := m1.1
    have q3 : es2 3 = _ := (m2 3 (by decide)).trans c3
    have q13 : es2 13 = _ := (m2 13 (by decide)).trans c13
    obtain ⟨-, y0, y1, -⟩ := hb2
    have tail : ∀ (x : Int32) (v9 : Option Value) (es3 : ax_H), kR es3 F1 → (∀ j, j ≠ 14 ∧ j ≠ 15 → es3 j = es j) → x = (if kd i = 14 then F2 (sh c) h T (ht i) + F2 (sh (kx_nx k c)) h T (ht i) else F2 (sh c) h T (ht i)) → ax_J ax_W (d + 1) n sl 648 120 [some (.ref 146), some (.ref q), some (.int (nI i)), some (.int h), some (.int (nI c)), some (.int (kd i)), some (.int (sh c)), some (.int (ht i)), some (.int x), v9] [] n sl es3 (fun r n' sl' es' => n' = n ∧ sl' = sl ∧ r = some (.int (kx_deed F2 k kd ht h T sh pl i)) ∧ kR es' F1 ∧ ∀ j, j ≠ 14 ∧ j ≠ 15 → es' j = es j) := by
      intro x v9 es3 t1 t2 ex
      have hde : kx_deed F2 k kd ht h T sh pl i = if kd i = 16 ∧ 0 < sh c then x + 1 else x := by
        unfold kx_deed
        rw [hc, e4, if_neg hno, ex]
      rw [hde]
      simp only [ax_W_cons, ax_I, ax_cmp, ax_ii, ax_ll, ax_li, ax_st1, ax_st2, ax_kl, ax_k2, ax_fit, ax_rtok, List.getElem?_cons_zero, List.getElem?_cons_succ, List.length_cons, List.length_nil, List.set_cons_zero, List.set_cons_succ, Nat.reduceAdd, Nat.reduceDiv, Nat.reduceMod, Nat.reduceMul, Nat.reduceLT, Nat.reduceLeDiff, Int32.reduceOfInt, Int64.reduceOfInt, true_and, and_true, and_self, true_or, or_true, false_implies, true_implies, not_false_eq_true, not_true_eq_false, Value.category, Nat.reduceEqDiff, Option.toList, List.cons_append, List.nil_append, List.drop_succ_cons, List.drop_zero, ax_t_648, ax_j_648_120, ax_n_648_120, ax_j_648_139, ax_n_648_139, ax_j_648_141, ax_n_648_141]
      refine ⟨fun h16 => ?_, fun h16 => ⟨fun hle => ?_, fun hle => ?_⟩⟩
      · rw [if_neg (fun z => h16 z.1)]
        exact ⟨rfl, t1, t2⟩
      · rw [if_neg (fun z => absurd z.2 (by rw [kx_nlt]; exact hle))]
        exact ⟨rfl, t1, t2⟩
      · simp only [Classical.not_not] at h16
        rw [kx_nle] at hle
        rw [if_pos ⟨h16, hle⟩]
        exact ⟨rfl, t1, t2⟩
    simp only [ax_W_cons, ax_I, ax_cmp, ax_ii, ax_ll, ax_li, ax_st1, ax_st2, ax_kl, ax_k2, ax_fit, ax_rtok, List.getElem?_cons_zero, List.getElem?_cons_succ, List.length_cons, List.length_nil, List.set_cons_zero, List.set_cons_succ, Nat.reduceAdd, Nat.reduceDiv, Nat.reduceMod, Nat.reduceMul, Nat.reduceLT, Nat.reduceLeDiff, Int32.reduceOfInt, Int64.reduceOfInt, true_and, and_true, and_self, true_or, or_true, false_implies, true_implies, not_false_eq_true, not_true_eq_false, Value.category, Nat.reduceEqDiff, Option.toList, List.cons_append, List.nil_append, List.drop_succ_cons, List.drop_zero, ax_t_648]
    refine ⟨fun h14 => ?_, fun h14 => ?_⟩
    · exact tail _ _ _ m1 m2 (by rw [if_neg h14])
    · simp only [Classical.not_not] at h14
      have f3 : vp_in (nI (kx_nx k c)) 12 := nI_in (by unfold kx_nx; split <;> omega) (by decide)
      have f4 : (nI (kx_nx k c)).toNatClampNeg = kx_nx k c := nI_clamp (by unfold kx_nx; split <;> omega)
      simp only [ax_W_cons, ax_I, ax_cmp, ax_ii, ax_ll, ax_li, ax_st1, ax_st2, ax_kl, ax_k2, ax_fit, ax_rtok, List.getElem?_cons_zero, List.getElem?_cons_succ, List.length_cons, List.length_nil, List.set_cons_zero, List.set_cons_succ, Nat.reduceAdd, Nat.reduceDiv, Nat.reduceMod, Nat.reduceMul, Nat.reduceLT, Nat.reduceLeDiff, Int32.reduceOfInt, Int64.reduceOfInt, true_and, and_true, and_self, true_or, or_true, false_implies, true_implies, not_false_eq_true, not_true_eq_false, Value.category, Nat.reduceEqDiff, Option.toList, List.cons_append, List.nil_append, List.drop_succ_cons, List.drop_zero, ax_t_648, y0, kb_o, hal, hq0]
      refine ax_inv_eq (Nat.le_of_ble_eq_true rfl) (Nat.le_of_ble_eq_true rfl) (fun _ => ax_rcv_ok (by omega) y0) (fun h => absurd h (by decide)) (Nat.le_refl _) (Nat.le_refl _) (ck_cellBehind (kb_fr hb (fun j hj => m2 j (by omega))) (nI c)) ?_
      rw [kx_behind_nI hk hck, show (if c + 1 < k then c + 1 else 0) = kx_nx k c from rfl]
      simp only [ax_W_cons, ax_I, ax_cmp, ax_ii, ax_ll, ax_li, ax_st1, ax_st2, ax_kl, ax_k2, ax_fit, ax_rtok, List.getElem?_cons_zero, List.getElem?_cons_succ, List.length_cons, List.length_nil, List.set_cons_zero, List.set_cons_succ, Nat.reduceAdd, Nat.reduceDiv, Nat.reduceMod, Nat.reduceMul, Nat.reduceLT, Nat.reduceLeDiff, Int32.reduceOfInt, Int64.reduceOfInt, true_and, and_true, and_self, true_or, or_true, false_implies, true_implies, not_false_eq_true, not_true_eq_false, Value.category, Nat.reduceEqDiff, Option.toList, List.cons_append, List.nil_append, List.drop_succ_cons, List.drop_zero, ax_t_648, q0, q3, y0, y1, kb_o, kb_a, hal, hq0, hqq1, f3, f4]
      refine ax_inv_of (Nat.le_of_ble_eq_true rfl) (Nat.le_of_ble_eq_true rfl) (fun _ => ax_rcv_ok (by omega) q13) (fun h => absurd h (by decide)) (Nat.le_refl _) (Nat.le_refl _) (ax_Mt_mono (ck_reads (by omega) hal hC2 m1 (sh (kx_nx k c)) h T (ht i)) ?_)
      rintro r es3 ⟨rfl, m3, m4⟩
      simp only [ax_W_cons, ax_I, ax_cmp, ax_ii, ax_ll, ax_li, ax_st1, ax_st2, ax_kl, ax_k2, ax_fit, ax_rtok, List.getElem?_cons_zero, List.getElem?_cons_succ, List.length_cons, List.length_nil, List.set_cons_zero, List.set_cons_succ, Nat.reduceAdd, Nat.reduceDiv, Nat.reduceMod, Nat.reduceMul, Nat.reduceLT, Nat.reduceLeDiff, Int32.reduceOfInt, Int64.reduceOfInt, true_and, and_true, and_self, true_or, or_true, false_implies, true_implies, not_false_eq_true, not_true_eq_false, Value.category, Nat.reduceEqDiff, Option.toList, List.cons_append, List.nil_append, List.drop_succ_cons, List.drop_zero, ax_t_648]
      rw [ax_W_nil]
      exact tail _ _ _ m3 (fun j hj => (m4 j hj).trans (m2 j hj)) (by rw [if_pos h14])
  refine ⟨fun h15 => ?_, fun h15 => ⟨fun hle => ?_, fun hle => ?_⟩⟩
  · exact main (fun z => h15 z.1)
  · exact main (fun z => absurd z.2 (by rw [kx_nlt]; exact hle))
  · simp only [Classical.not_not] at h15
    rw [kx_nle] at hle
    refine ⟨?_, hR, fun _ _ => trivial⟩
    unfold kx_deed
    rw [hc, e4, if_pos ⟨h15, hle⟩]
def kx_dns (D : Nat → Int32) (dn : Nat → Int32) (m : Nat) : Nat → Int32 := fun i => if i < m then dn i + D i else dn i
theorem ck_serve (hd : 4 ≤ d) (hal : ax_al n = 178) {q : Nat} {T : Int32} {cr : Int32} {sh pl dn : Nat → Int32} (hk : k ≤ 12) (hp : p ≤ 6) (hq : kap q) (hpl : kpl k p pl) (hC : kC es k p hc kd pl0 ht hs F1 F2) (hR : kR es F1) (hb : kb es n q k p T cr sh pl dn) (h : Int32) :
    ax_Mt d 647 [.ref 146, .ref q, .int h] n sl es (fun r es' => r = some (.int (kx_sum (kx_deed F2 k kd ht h T sh pl) p)) ∧ kR es' F1 ∧ kb es' n q k p T cr sh pl (kx_dns (kx_deed F2 k kd ht h T sh pl) dn p) ∧ kfr q es es') := by
  obtain ⟨d, rfl⟩ : ∃ z, d = z + 1 := ⟨d - 1, by omega⟩
  have hn := hb.1
  rw [hal] at hn
  have hq2 := hq
  obtain ⟨ha1, ha2⟩ := hq2
  have hq0 : q < 178 := by omega
  have hqq3 : q + 3 < 178 := by omega
  refine ax_Mt_start (m := ax_m_5_7) (ls := [some (.ref 146), some (.ref q), some (.int h), none, none, none]) rfl ax_b_647_0 (Nat.le_of_ble_eq_true rfl) rfl ?_
  simp only [ax_W_cons, ax_I, ax_cmp, ax_ii, ax_ll, ax_li, ax_st1, ax_st2, ax_kl, ax_k2, ax_fit, ax_rtok, List.getElem?_cons_zero, List.getElem?_cons_succ, List.length_cons, List.length_nil, List.set_cons_zero, List.set_cons_succ, Nat.reduceAdd, Nat.reduceDiv, Nat.reduceMod, Nat.reduceMul, Nat.reduceLT, Nat.reduceLeDiff, Int32.reduceOfInt, Int64.reduceOfInt, true_and, and_true, and_self, true_or, or_true, false_implies, true_implies, not_false_eq_true, not_true_eq_false, Value.category, Nat.reduceEqDiff, Option.toList, List.cons_append, List.nil_append, List.drop_succ_cons, List.drop_zero, ax_t_647]
  rw [ax_n_647_5]
  have L := kx_loop (k := p) (I := fun c => ∀ v5 es1, kR es1 F1 → kb es1 n q k p T cr sh pl (kx_dns (kx_deed F2 k kd ht h T sh pl) dn c) → kfr q es es1 → ax_W (d + 1) n sl 647 [(2, .iload 4), (1, .aload 1), (3, .getfield 4), (3, .if_icmp .ge 47), (1, .aload 0), (1, .aload 1), (2, .iload 4), (1, .iload 2), (3, .invokeinterface 648 17), (2, .istore 5), (1, .aload 1), (3, .getfield 26), (2, .iload 4), (1, .dup2), (1, .iaload), (2, .iload 5), (1, .iadd), (1, .iastore), (1, .iload 3), (2, .iload 5), (1, .iadd), (1, .istore 3), (3, .iinc 4 1), (3, .goto 5)] 5 [some (.ref 146), some (.ref q), some (.int h), some (.int (kx_sum (kx_deed F2 k kd ht h T sh pl) c)), some (.int (nI c)), v5] [] n sl es1 (fun r n' sl' es' => n' = n ∧ sl' = sl ∧ r = some (.int (kx_sum (kx_deed F2 k kd ht h T sh pl) p)) ∧ kR es' F1 ∧ kb es' n q k p T cr sh pl (kx_dns (kx_deed F2 k kd ht h T sh pl) dn p) ∧ kfr q es es')) ?_ ?_
  · refine L none es hR ?_ (kfr_rf q es)
    have e9 : kx_dns (kx_deed F2 k kd ht h T sh pl) dn 0 = dn := by
      funext i
      unfold kx_dns
      rw [if_neg (by omega)]
    rw [e9]
    exact hb
  · intro v5 es1 i1 i3 i4
    have e0 := kx_nn (k := p) (by omega)
    have j0 := i3.2.1
    simp only [ax_W_cons, ax_I, ax_cmp, ax_ii, ax_ll, ax_li, ax_st1, ax_st2, ax_kl, ax_k2, ax_fit, ax_rtok, List.getElem?_cons_zero, List.getElem?_cons_succ, List.length_cons, List.length_nil, List.set_cons_zero, List.set_cons_succ, Nat.reduceAdd, Nat.reduceDiv, Nat.reduceMod, Nat.reduceMul, Nat.reduceLT, Nat.reduceLeDiff, Int32.reduceOfInt, Int64.reduceOfInt, true_and, and_true, and_self, true_or, or_true, false_implies, true_implies, not_false_eq_true, not_true_eq_false, Value.category, Nat.reduceEqDiff, Option.toList, List.cons_append, List.nil_append, List.drop_succ_cons, List.drop_zero, ax_t_647, ax_j_647_47, ax_n_647_47, j0, kb_o, hal, hq0, e0]
    exact ⟨i1, i3, i4⟩
  · intro c hc2 ih v5 es1 i1 i3 i4
    obtain ⟨e1, e2, e3, e4⟩ := kx_ix hc2 hp (by decide)
    have j0 := i3.2.1
    have k0 := i1.1
    simp only [ax_W_cons, ax_I, ax_cmp, ax_ii, ax_ll, ax_li, ax_st1, ax_st2, ax_kl, ax_k2, ax_fit, ax_rtok, List.getElem?_cons_zero, List.getElem?_cons_succ, List.length_cons, List.length_nil, List.set_cons_zero, List.set_cons_succ, Nat.reduceAdd, Nat.reduceDiv, Nat.reduceMod, Nat.reduceMul, Nat.reduceLT, Nat.reduceLeDiff, Int32.reduceOfInt, Int64.reduceOfInt, true_and, and_true, and_self, true_or, or_true, false_implies, true_implies, not_false_eq_true, not_true_eq_false, Value.category, Nat.reduceEqDiff, Option.toList, List.cons_append, List.nil_append, List.drop_succ_cons, List.drop_zero, ax_t_647, j0, kb_o, hal, hq0, e1]
    refine ax_inv_of (Nat.le_of_ble_eq_true rfl) (Nat.le_of_ble_eq_true rfl) (fun _ => ax_rcv_ok (by omega) k0) (fun h => absurd h (by decide)) (Nat.le_refl _) (Nat.le_refl _) (ax_Mt_mono (ck_deedOf (by omega) hal hk hp hc2 hq hpl (kC_fr hq hC i4) i1 i3 h) ?_)
    rintro r es2 ⟨rfl, m1, m2⟩
    have i3' : kb es2 n q k p T cr sh pl (kx_dns (kx_deed F2 k kd ht h T sh pl) dn c) := kb_fr i3 (fun j hj => m2 j (by omega))
    have i4' : kfr q es es2 := kfr_trans i4 (fun j hj => m2 j (by omega))
    obtain ⟨-, y0, y1, y2, y3, x1, x2, x3⟩ := id i3'
    simp only [ax_W_cons, ax_I, ax_cmp, ax_ii, ax_ll, ax_li, ax_st1, ax_st2, ax_kl, ax_k2, ax_fit, ax_rtok, List.getElem?_cons_zero, List.getElem?_cons_succ, List.length_cons, List.length_nil, List.set_cons_zero, List.set_cons_succ, Nat.reduceAdd, Nat.reduceDiv, Nat.reduceMod, Nat.reduceMul, Nat.reduceLT, Nat.reduceLeDiff, Int32.reduceOfInt, Int64.reduceOfInt, true_and, and_true, and_self, true_or, or_true, false_implies, true_implies, not_false_eq_true, not_true_eq_false, Value.category, Nat.reduceEqDiff, Option.toList, List.cons_append, List.nil_append, List.drop_succ_cons, List.drop_zero, ax_t_647, y0, y3, kb_o, kb_a, hal, hq0, hqq3, e2, e3, e4]
    rw [ax_j_647_5]
    have e9 : upd (kx_dns (kx_deed F2 k kd ht h T sh pl) dn c) c (kx_dns (kx_deed F2 k kd ht h T sh pl) dn c c + kx_deed F2 k kd ht h T sh pl c) = kx_dns (kx_deed F2 k kd ht h T sh pl) dn (c + 1) := by
      funext i
      unfold upd kx_dns
      by_cases hi : i = c
      · subst hi
        rw [if_pos rfl, if_neg (by omega), if_pos (by omega)]
      · rw [if_neg hi]
        by_cases h8 : i < c
        · rw [if_pos h8, if_pos (by omega)]
        · rw [if_neg h8, if_neg (by omega)]
    rw [e9]
    have hup := kb_up3 i3' (kx_dns (kx_deed F2 k kd ht h T sh pl) dn (c + 1))
    unfold kb_a at hup
    rw [hup]
    obtain ⟨p0, ⟨ps1, pg1, p1, p2⟩, ⟨ps2, pg2, p3, p4⟩, ⟨pah, p5, p6⟩, pfd, p7, p8⟩ := m1
    refine ih _ _ ⟨?_, ⟨ps1, pg1, ?_, ?_⟩, ⟨ps2, pg2, ?_, ?_⟩, ⟨pah, ?_, p6⟩, pfd, ?_, p8⟩ (kw_kb (by omega) x1 x2 ?_) (kfr_trans i4' (fun j hj => kw_ne _ _ _ _ _ _ _ _ hj.2.2.2.2.2.2))
    · rw [kw_ne _ _ _ _ _ _ _ _ (by omega)]; exact p0
    · rw [kw_ne _ _ _ _ _ _ _ _ (by omega)]; exact p1
    · rw [kw_ne _ _ _ _ _ _ _ _ (by omega)]; exact p2
    · rw [kw_ne _ _ _ _ _ _ _ _ (by omega)]; exact p3
    · rw [kw_ne _ _ _ _ _ _ _ _ (by omega)]; exact p4
    · rw [kw_ne _ _ _ _ _ _ _ _ (by omega)]; exact p5
    · rw [kw_ne _ _ _ _ _ _ _ _ (by omega)]; exact p7
    · rw [← e9]; exact kz_upd x3 (by omega)
end KP
