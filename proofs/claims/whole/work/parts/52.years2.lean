/-! the reference: rests walked; draws, years -/
def mob (es es' : ax_H) : Prop := ∀ th tp sz at0 fl cd nm rm on fh un g, es 159 = .inr (11, mo_f th tp sz at0 fl cd nm rm on fh un g) → ∃ th' g', es' 159 = .inr (11, mo_f th' tp sz at0 fl cd nm rm on fh un g')
theorem mob_trans {a b c : ax_H} (h1 : mob a b) (h2 : mob b c) : mob a c := by
  intro th tp sz at0 fl cd nm rm on fh un g h
  obtain ⟨th', g', e⟩ := h1 _ _ _ _ _ _ _ _ _ _ _ _ h
  exact h2 _ _ _ _ _ _ _ _ _ _ _ _ e
def mf3 (es es' : ax_H) : Prop := (∀ j, j ≠ 159 ∧ j ≠ 171 ∧ j ≠ 172 ∧ j ≠ 173 ∧ j ≠ 175 → es' j = es j) ∧ mob es es'
theorem mf3_trans {a b c : ax_H} (h1 : mf3 a b) (h2 : mf3 b c) : mf3 a c := ⟨fun j hj => (h2.1 j hj).trans (h1.1 j hj), mob_trans h1.2 h2.2⟩
theorem mfr_3 {a b : ax_H} (h : mfr a b) : mf3 a b := ⟨fun j hj => h j hj.2, fun th tp sz at0 fl cd nm rm on fh un g e => ⟨th, g, (h 159 (by decide)).trans e⟩⟩
theorem mth_3 {a b : ax_H} (h : mth a b) : mf3 a b := ⟨fun j hj => h.1 j hj.1, h.2⟩
theorem mq_of3 {es es' : ax_H} {st st' : Nat → Int32} (hf : mf3 es es') (hX : mX es' st') (hq : mfq st st') (hA : ∃ al, es 176 = .inl (0, 1200, .inl al)) : mq es st es' := by
  obtain ⟨al, h⟩ := hA
  exact ⟨fun j hj => hf.1 j ⟨hj.1, hj.2.1, hj.2.2.1, hj.2.2.2.1, hj.2.2.2.2.1⟩, hf.2, st', hX, hq, al, (hf.1 176 (by decide)).trans h⟩
def mG (es : ax_H) (G : Nat) : Prop := ∃ th tp sz at0 fl cd nm rm on fh un, es 159 = .inr (11, mo_f th tp sz at0 fl cd nm rm on fh un (nL G))
/-- the state as the class has it, its cracks as a number -/
def zSt (k p C : Nat) (s : kSt) : Prop := s.2.1 = nI C ∧ zv k p C s.2.2.1 s.2.2.2.1
def zq_years (F1 F2 : Int32 → Int32 → Int32 → Int32 → Int32) (k p : Nat) (kd ht hs : Nat → Int32) (hc : Nat) (s : kSt) (sd b w : Int32) : Int32 := if kx_in sd 0 9999 = true ∧ kx_in b 1 99 = true ∧ kx_in w 0 2 = true then (if w = 0 then (kx_yr F1 F2 k p kd ht hs hc sd.toNatClampNeg s b.toNatClampNeg).2.2 else if w = 1 then kx_pop (kx_bits (kx_yr F1 F2 k p kd ht hs hc sd.toNatClampNeg s b.toNatClampNeg).2.1.2.2.1 k) else kx_arc k (kx_yr F1 F2 k p kd ht hs hc sd.toNatClampNeg s b.toNatClampNeg).2.1.2.2.1 (nI 0) k) else -1
section MM
variable {d n sl k p hc : Nat} {es : ax_H} {kd pm ht hs : Nat → Int32} {F1 F2 : Int32 → Int32 → Int32 → Int32 → Int32} {st : Nat → Int32} {b T C z G : Nat} {sh pl dn fc fb fs : Nat → Int32} {Q : Option Value → ax_H → Prop}
theorem mE_f3 {es' : ax_H} (h : mE es n k p hc kd pm ht hs F1 F2) (hf : mf3 es es') : mE es' n k p hc kd pm ht hs F1 F2 := by
  obtain ⟨h1, h2, h3, h4, h5, ⟨th, tp, sz, at0, fl, cd, nm, rm, on, fh, un, g, q0⟩, ct, op, ar, q1, q2, q3, q4⟩ := h
  obtain ⟨th', g', e⟩ := hf.2 _ _ _ _ _ _ _ _ _ _ _ _ q0
  exact ⟨h1, h2, h3, h4, h5, ⟨th', tp, sz, at0, fl, cd, nm, rm, on, fh, un, g', e⟩, ct, op, ar, by rw [hf.1 165 (by decide)]; exact q1, by rw [hf.1 166 (by decide)]; exact q2, by rw [hf.1 167 (by decide)]; exact q3, q4⟩
theorem mG_fr {es' : ax_H} (h : mG es G) (hf : mfr es es') : mG es' G := by
  obtain ⟨th, tp, sz, at0, fl, cd, nm, rm, on, fh, un, e⟩ := h
  exact ⟨th, tp, sz, at0, fl, cd, nm, rm, on, fh, un, (hf 159 (by decide)).trans e⟩
theorem mX_159 {e : ax_E} (h : mX es st) : mX (ax_up es 159 e) st := by
  obtain ⟨h1, ⟨fa, h2⟩, ⟨pi, h3⟩, wa, h4⟩ := h
  exact ⟨(ax_up_ne _ _ (by decide)).trans h1, ⟨fa, (ax_up_ne _ _ (by decide)).trans h2⟩, ⟨pi, (ax_up_ne _ _ (by decide)).trans h3⟩, wa, (ax_up_ne _ _ (by decide)).trans h4⟩
theorem mob_up {th tp sz at0 fl cd nm rm on fh un : Int32} {g : Int64} (h0 : es 159 = .inr (11, mo_f th tp sz at0 fl cd nm rm on fh un g)) (th' : Int32) (g' : Int64) : mf3 es (ax_up es 159 (.inr (11, mo_f th' tp sz at0 fl cd nm rm on fh un g'))) := by
  refine ⟨fun j hj => ax_up_ne _ _ hj.1, fun th1 tp1 sz1 at1 fl1 cd1 nm1 rm1 on1 fh1 un1 g1 h1 => ⟨th', g', ?_⟩⟩
  rw [ax_up_same]
  rw [h0] at h1
  simp only [mo_f, Sum.inr.injEq, Prod.mk.injEq, true_and, List.cons.injEq, Value.int.injEq, Value.long.injEq, and_true] at h1
  obtain ⟨-, rfl, rfl, rfl, rfl, rfl, rfl, rfl, rfl, rfl, rfl, rfl⟩ := h1
  rfl
theorem mk_draw (hal : ax_al n = 178) (hX : mX es st) (hG : kGo G) (h : mG es G) {m : Nat} (hm0 : 0 < m) (hm : m ≤ 20) (hQ : ∀ es', mf3 es es' → mX es' st → mG es' (kx_dw G) → Q (some (.int (nI (kx_db G m)))) es') : ax_Mt d 1513 [.ref 159, .int (nI m)] n sl es Q := by
  obtain ⟨th, tp, sz, at0, fl, cd, nm, rm, on, fh, un, h0⟩ := h
  unfold kGo at hG
  have e1 : nL G * 1103515245 = nL (G * 1103515245) := nL_mul G 1103515245
  have e2 : nL (G * 1103515245) + 12345 = nL (G * 1103515245 + 12345) := nL_add _ 12345
  have n1 : ¬ (2147483648 : Int64) = 0 := by decide
  have e3 : nL (G * 1103515245 + 12345) - nL (G * 1103515245 + 12345) / 2147483648 * 2147483648 = nL (kx_dw G) := nL_rem (b := 2147483648) (by omega) (by decide)
  have hdw : kx_dw G < 2147483648 := kx_dw_lt G
  have n2 : ¬ (65536 : Int64) = 0 := by decide
  have e4 : nL (kx_dw G) / 65536 = nL (kx_dw G / 65536) := nL_div (b := 65536) (by omega) (by decide)
  have e5 : (nI m).toInt64 = nL m := nI_64 (by omega)
  have n3 : ¬ nL m = 0 := nL_ne0 hm0 (by omega)
  have e6 : nL (kx_dw G / 65536) - nL (kx_dw G / 65536) / nL m * nL m = nL (kx_db G m) := nL_rem (by omega) (by omega)
  have hdb : kx_db G m < m := Nat.mod_lt _ hm0
  have e7 : (nL (kx_db G m)).toInt32 = nI (kx_db G m) := nL_32 (by omega)
  refine ax_Mt_go (m := ax_m_11_105) (ls := [some (.ref 159), some (.int (nI m))]) rfl ax_b_1513_0 (Nat.le_of_ble_eq_true rfl) rfl ?_
  simp only [ax_W_cons, ax_I, ax_cmp, ax_ii, ax_ll, ax_li, ax_st1, ax_st2, ax_kl, ax_k2, ax_fit, ax_rtok, List.getElem?_cons_zero, List.getElem?_cons_succ, List.length_cons, List.length_nil, List.set_cons_zero, List.set_cons_succ, Nat.reduceAdd, Nat.reduceDiv, Nat.reduceMod, Nat.reduceMul, Nat.reduceLT, Nat.reduceLeDiff, Int32.reduceOfInt, Int64.reduceOfInt, true_and, and_true, and_self, true_or, or_true, false_implies, true_implies, not_false_eq_true, not_true_eq_false, Value.category, Nat.reduceEqDiff, Option.toList, List.cons_append, List.nil_append, List.drop_succ_cons, List.drop_zero, ax_qq_eq, ax_t_1513, h0, mo_f, hal, e1, e2, e3, n1, ax_up_same, n2, e4, e5, n3, e6, e7]
  exact hQ _ (mob_up h0 th (nL (kx_dw G))) (mX_159 hX) ⟨th, tp, sz, at0, fl, cd, nm, rm, on, fh, un, ax_up_same ..⟩
theorem kx_exch_same {i : Nat} (hi : i < 2 ^ 31) : kx_exch pl (nI i) (nI i) = pl := by
  unfold kx_exch
  rw [nI_clamp hi]
  funext j
  unfold upd
  by_cases e : j = i
  · rw [if_pos e, e]
  · rw [if_neg e, if_neg e]
theorem kx_jp11 (k : Nat) (a c : Int32) (s : kSt) : kx_jp k 11 a c s = (s.1, s.2.1, s.2.2.1, kx_exch s.2.2.2.1 a c, s.2.2.2.2) := by
  unfold kx_jp kx_perf
  rw [if_neg (by decide), if_neg (by decide), if_neg (by decide), if_neg (by decide), if_pos rfl]
theorem kx_can11 {i j : Nat} (hp : p ≤ 6) (hi : i < p) (hj : j < p) (cr : Int32) : kx_can k p cr 11 (nI i) (nI j) = !decide (i = j) := by
  unfold kx_can
  rw [if_neg (by decide), if_neg (by decide), if_pos rfl, kx_cell_nI (by omega) hi, kx_cell_nI (by omega) hj, Bool.true_and, Bool.true_and]
  by_cases e : i = j
  · subst e
    simp
  · have hne : ¬ nI i = nI j := fun z => e (kn_inj (by omega) (by omega) z)
    simp [e, hne]
theorem mk_drawsDeed (E : mE es n k p hc kd pm ht hs F1 F2) {s : kSt} (hX : mX es st) (hV : mV st 1144 k p s.1 C s.2.2.1 s.2.2.2.1 s.2.2.2.2) (hz : zSt k p C s) (hG : kGo G) (h : mG es G) (hQ : ∀ es' st' C' G' (s' : kSt), kx_da k p G s = (G', s') → mf3 es es' → mfs 1144 st st' → mX es' st' → mG es' G' → mV st' 1144 k p s'.1 C' s'.2.2.1 s'.2.2.2.1 s'.2.2.2.2 → zSt k p C' s' → Q none es') : ax_Mt (d + 4) 1514 [.ref 159] n sl es Q := by
  obtain ⟨hal, hk, hp, hhs, hF, hK⟩ := id E
  obtain ⟨hcr, hzv⟩ := id hz
  have hdb8 : kx_db G 8 < 8 := Nat.mod_lt _ (by decide)
  refine ax_Mt_go (m := ax_m_11_106) (ls := [some (.ref 159), none, none, none]) rfl ax_b_1514_0 (Nat.le_of_ble_eq_true rfl) rfl ?_
  simp only [ax_W_cons, ax_I, ax_cmp, ax_ii, ax_ll, ax_li, ax_st1, ax_st2, ax_kl, ax_k2, ax_fit, ax_rtok, List.getElem?_cons_zero, List.getElem?_cons_succ, List.length_cons, List.length_nil, List.set_cons_zero, List.set_cons_succ, Nat.reduceAdd, Nat.reduceDiv, Nat.reduceMod, Nat.reduceMul, Nat.reduceLT, Nat.reduceLeDiff, Int32.reduceOfInt, Int64.reduceOfInt, true_and, and_true, and_self, true_or, or_true, false_implies, true_implies, not_false_eq_true, not_true_eq_false, Value.category, Nat.reduceEqDiff, Option.toList, List.cons_append, List.nil_append, List.drop_succ_cons, List.drop_zero, ax_qq_eq, ax_t_1514]
  refine ax_inv_of (Nat.le_of_ble_eq_true rfl) (Nat.le_of_ble_eq_true rfl) (fun _ => mE_rcv E _) (fun h => absurd h (by decide)) (Nat.le_refl _) (Nat.le_refl _) (mk_draw hal hX hG h (m := 8) (by decide) (by decide) ?_)
  intro es1 f1 x1 g1
  have E1 := mE_f3 E f1
  have hG1 : kGo (kx_dw G) := kx_dw_lt _
  have hG2 : kGo (kx_dw (kx_dw G)) := kx_dw_lt _
  unfold kx_da at hQ
  generalize kx_db G 8 = e at hdb8 hQ ⊢
  generalize kx_dw G = G1 at hG1 hG2 g1 hQ
  by_cases h3 : e ≤ 3
  · have c1 : ¬ (4 : Int32) ≤ nI (e) := nI_ge (b := 4) (by omega) (by decide)
    rw [if_pos h3] at hQ
    simp only [ax_W_cons, ax_I, ax_cmp, ax_ii, ax_ll, ax_li, ax_st1, ax_st2, ax_kl, ax_k2, ax_fit, ax_rtok, List.getElem?_cons_zero, List.getElem?_cons_succ, List.length_cons, List.length_nil, List.set_cons_zero, List.set_cons_succ, Nat.reduceAdd, Nat.reduceDiv, Nat.reduceMod, Nat.reduceMul, Nat.reduceLT, Nat.reduceLeDiff, Int32.reduceOfInt, Int64.reduceOfInt, true_and, and_true, and_self, true_or, or_true, false_implies, true_implies, not_false_eq_true, not_true_eq_false, Value.category, Nat.reduceEqDiff, Option.toList, List.cons_append, List.nil_append, List.drop_succ_cons, List.drop_zero, ax_qq_eq, ax_t_1514, c1]
    refine ax_inv_of (Nat.le_of_ble_eq_true rfl) (Nat.le_of_ble_eq_true rfl) (fun _ => mE_rcv E1 _) (fun h => absurd h (by decide)) (Nat.le_refl _) (Nat.le_refl _) (mk_cells hal E1.2.2.2.2.2 ?_)
    simp only [ax_W_cons, ax_I, ax_cmp, ax_ii, ax_ll, ax_li, ax_st1, ax_st2, ax_kl, ax_k2, ax_fit, ax_rtok, List.getElem?_cons_zero, List.getElem?_cons_succ, List.length_cons, List.length_nil, List.set_cons_zero, List.set_cons_succ, Nat.reduceAdd, Nat.reduceDiv, Nat.reduceMod, Nat.reduceMul, Nat.reduceLT, Nat.reduceLeDiff, Int32.reduceOfInt, Int64.reduceOfInt, true_and, and_true, and_self, true_or, or_true, false_implies, true_implies, not_false_eq_true, not_true_eq_false, Value.category, Nat.reduceEqDiff, Option.toList, List.cons_append, List.nil_append, List.drop_succ_cons, List.drop_zero, ax_qq_eq, ax_t_1514]
    refine ax_inv_of (Nat.le_of_ble_eq_true rfl) (Nat.le_of_ble_eq_true rfl) (fun _ => mE_rcv E1 _) (fun h => absurd h (by decide)) (Nat.le_refl _) (Nat.le_refl _) (mk_draw hal x1 hG1 g1 (m := k) (by omega) (by omega) ?_)
    intro es2 f2 x2 g2
    have E2 := mE_f3 E1 f2
    simp only [ax_W_cons, ax_I, ax_cmp, ax_ii, ax_ll, ax_li, ax_st1, ax_st2, ax_kl, ax_k2, ax_fit, ax_rtok, List.getElem?_cons_zero, List.getElem?_cons_succ, List.length_cons, List.length_nil, List.set_cons_zero, List.set_cons_succ, Nat.reduceAdd, Nat.reduceDiv, Nat.reduceMod, Nat.reduceMul, Nat.reduceLT, Nat.reduceLeDiff, Int32.reduceOfInt, Int64.reduceOfInt, true_and, and_true, and_self, true_or, or_true, false_implies, true_implies, not_false_eq_true, not_true_eq_false, Value.category, Nat.reduceEqDiff, Option.toList, List.cons_append, List.nil_append, List.drop_succ_cons, List.drop_zero, ax_qq_eq, ax_t_1514]
    refine ax_inv_of (Nat.le_of_ble_eq_true rfl) (Nat.le_of_ble_eq_true rfl) (fun _ => mE_rcv E2 _) (fun h => absurd h (by decide)) (Nat.le_refl _) (Nat.le_refl _) (mk_draw hal x2 hG2 g2 (m := 20) (by decide) (by decide) ?_)
    intro es3 f3 x3 g3
    have E3 := mE_f3 E2 f3
    have hc2 : kx_db G1 k < k := Nat.mod_lt _ (by omega)
    have hf2 : kx_db (kx_dw G1) 20 < 20 := Nat.mod_lt _ (by decide)
    generalize kx_db G1 k = c at hc2 hQ ⊢
    generalize kx_db (kx_dw G1) 20 = f at hf2 hQ ⊢
    have ef : nI f + 1 = nI (f + 1) := (nI_succ f).symm
    unfold kx_ac at hQ
    have ecan : kx_can k p s.2.1 7 (nI c) (nI (f + 1)) = kx_op k (nI C) (nI c) := by
      unfold kx_can
      rw [if_pos (Or.inl rfl), hcr]
    rw [ecan] at hQ
    simp only [ax_W_cons, ax_I, ax_cmp, ax_ii, ax_ll, ax_li, ax_st1, ax_st2, ax_kl, ax_k2, ax_fit, ax_rtok, List.getElem?_cons_zero, List.getElem?_cons_succ, List.length_cons, List.length_nil, List.set_cons_zero, List.set_cons_succ, Nat.reduceAdd, Nat.reduceDiv, Nat.reduceMod, Nat.reduceMul, Nat.reduceLT, Nat.reduceLeDiff, Int32.reduceOfInt, Int64.reduceOfInt, true_and, and_true, and_self, true_or, or_true, false_implies, true_implies, not_false_eq_true, not_true_eq_false, Value.category, Nat.reduceEqDiff, Option.toList, List.cons_append, List.nil_append, List.drop_succ_cons, List.drop_zero, ax_qq_eq, ax_t_1514, ef]
    refine ax_inv_of (Nat.le_of_ble_eq_true rfl) (Nat.le_of_ble_eq_true rfl) (fun _ => mE_rcv E3 _) (fun h => absurd h (by decide)) (Nat.le_refl _) (Nat.le_refl _) (mk_whole E3 ⟨x3, hV, hzv⟩ (b := 1144) (by omega) (nI c) ?_)
    cases hop : kx_op k (nI C) (nI c)
    · rw [if_neg (by rw [hop]; decide)] at hQ
      simp only [ax_W_cons, ax_I, ax_cmp, ax_ii, ax_ll, ax_li, ax_st1, ax_st2, ax_kl, ax_k2, ax_fit, ax_rtok, List.getElem?_cons_zero, List.getElem?_cons_succ, List.length_cons, List.length_nil, List.set_cons_zero, List.set_cons_succ, Nat.reduceAdd, Nat.reduceDiv, Nat.reduceMod, Nat.reduceMul, Nat.reduceLT, Nat.reduceLeDiff, Int32.reduceOfInt, Int64.reduceOfInt, true_and, and_true, and_self, true_or, or_true, false_implies, true_implies, not_false_eq_true, not_true_eq_false, Value.category, Nat.reduceEqDiff, Option.toList, List.cons_append, List.nil_append, List.drop_succ_cons, List.drop_zero, ax_qq_eq, ax_t_1514, ax_j_1514_50, ax_n_1514_50, ax_j_1514_132, ax_n_1514_132, kx_bf]
      exact hQ es3 st C _ _ rfl (mf3_trans f1 (mf3_trans f2 f3)) (mfs_rf _ _) x3 g3 hV hz
    · rw [if_pos hop] at hQ
      obtain ⟨c', hc', ec, hB⟩ := kx_op_nI hk.2 hop
      have ec := kn_inj (by omega) (by omega) ec
      subst ec
      have c10 : ¬ (1 : Int32) = 0 := by decide
      simp only [ax_W_cons, ax_I, ax_cmp, ax_ii, ax_ll, ax_li, ax_st1, ax_st2, ax_kl, ax_k2, ax_fit, ax_rtok, List.getElem?_cons_zero, List.getElem?_cons_succ, List.length_cons, List.length_nil, List.set_cons_zero, List.set_cons_succ, Nat.reduceAdd, Nat.reduceDiv, Nat.reduceMod, Nat.reduceMul, Nat.reduceLT, Nat.reduceLeDiff, Int32.reduceOfInt, Int64.reduceOfInt, true_and, and_true, and_self, true_or, or_true, false_implies, true_implies, not_false_eq_true, not_true_eq_false, Value.category, Nat.reduceEqDiff, Option.toList, List.cons_append, List.nil_append, List.drop_succ_cons, List.drop_zero, ax_qq_eq, ax_t_1514, kx_bt, c10]
      refine ax_inv_of (Nat.le_of_ble_eq_true rfl) (Nat.le_of_ble_eq_true rfl) (fun _ => mE_rcv E3 _) (fun h => absurd h (by decide)) (Nat.le_refl _) (Nat.le_refl _) (mk_touches hal E3.2.2.2.2.2.1 x3 hk.2 hp (b := 1144) (by omega) hV hzv.1 hc2 (f := f + 1) (by omega) ?_)
      intro es4 st4 r1 r2 r3 r4
      simp only [ax_W_cons, ax_I, ax_cmp, ax_ii, ax_ll, ax_li, ax_st1, ax_st2, ax_kl, ax_k2, ax_fit, ax_rtok, List.getElem?_cons_zero, List.getElem?_cons_succ, List.length_cons, List.length_nil, List.set_cons_zero, List.set_cons_succ, Nat.reduceAdd, Nat.reduceDiv, Nat.reduceMod, Nat.reduceMul, Nat.reduceLT, Nat.reduceLeDiff, Int32.reduceOfInt, Int64.reduceOfInt, true_and, and_true, and_self, true_or, or_true, false_implies, true_implies, not_false_eq_true, not_true_eq_false, Value.category, Nat.reduceEqDiff, Option.toList, List.cons_append, List.nil_append, List.drop_succ_cons, List.drop_zero, ax_qq_eq, ax_t_1514, ax_j_1514_50, ax_n_1514_50, ax_j_1514_132, ax_n_1514_132]
      exact hQ es4 st4 C _ _ rfl (mf3_trans f1 (mf3_trans f2 (mf3_trans f3 (mfr_3 r1)))) r3 r2 (mG_fr g3 r1) r4 ⟨hcr, zv_push hk.2 hzv hc2 hB (by omega)⟩
  · have c1 : (4 : Int32) ≤ nI (e) := nI_le (a := 4) (by omega) (by omega)
    rw [if_neg h3] at hQ
    by_cases h4 : e = 4
    · rw [if_pos h4] at hQ
      have c2 : nI (e) = 4 := by rw [h4]; rfl
      simp only [ax_W_cons, ax_I, ax_cmp, ax_ii, ax_ll, ax_li, ax_st1, ax_st2, ax_kl, ax_k2, ax_fit, ax_rtok, List.getElem?_cons_zero, List.getElem?_cons_succ, List.length_cons, List.length_nil, List.set_cons_zero, List.set_cons_succ, Nat.reduceAdd, Nat.reduceDiv, Nat.reduceMod, Nat.reduceMul, Nat.reduceLT, Nat.reduceLeDiff, Int32.reduceOfInt, Int64.reduceOfInt, true_and, and_true, and_self, true_or, or_true, false_implies, true_implies, not_false_eq_true, not_true_eq_false, Value.category, Nat.reduceEqDiff, Option.toList, List.cons_append, List.nil_append, List.drop_succ_cons, List.drop_zero, ax_qq_eq, ax_t_1514, ax_j_1514_53, ax_n_1514_53, c1, c2]
      have c3 : (4 : Int32) ≤ 4 := by decide
      (try simp only [ax_W_cons, ax_I, ax_cmp, ax_ii, ax_ll, ax_li, ax_st1, ax_st2, ax_kl, ax_k2, ax_fit, ax_rtok, List.getElem?_cons_zero, List.getElem?_cons_succ, List.length_cons, List.length_nil, List.set_cons_zero, List.set_cons_succ, Nat.reduceAdd, Nat.reduceDiv, Nat.reduceMod, Nat.reduceMul, Nat.reduceLT, Nat.reduceLeDiff, Int32.reduceOfInt, Int64.reduceOfInt, true_and, and_true, and_self, true_or, or_true, false_implies, true_implies, not_false_eq_true, not_true_eq_false, Value.category, Nat.reduceEqDiff, Option.toList, List.cons_append, List.nil_append, List.drop_succ_cons, List.drop_zero, ax_qq_eq, ax_t_1514, ax_j_1514_53, ax_n_1514_53, c3])
      refine ax_inv_of (Nat.le_of_ble_eq_true rfl) (Nat.le_of_ble_eq_true rfl) (fun _ => mE_rcv E1 _) (fun h => absurd h (by decide)) (Nat.le_refl _) (Nat.le_refl _) (mk_cells hal E1.2.2.2.2.2 ?_)
      simp only [ax_W_cons, ax_I, ax_cmp, ax_ii, ax_ll, ax_li, ax_st1, ax_st2, ax_kl, ax_k2, ax_fit, ax_rtok, List.getElem?_cons_zero, List.getElem?_cons_succ, List.length_cons, List.length_nil, List.set_cons_zero, List.set_cons_succ, Nat.reduceAdd, Nat.reduceDiv, Nat.reduceMod, Nat.reduceMul, Nat.reduceLT, Nat.reduceLeDiff, Int32.reduceOfInt, Int64.reduceOfInt, true_and, and_true, and_self, true_or, or_true, false_implies, true_implies, not_false_eq_true, not_true_eq_false, Value.category, Nat.reduceEqDiff, Option.toList, List.cons_append, List.nil_append, List.drop_succ_cons, List.drop_zero, ax_qq_eq, ax_t_1514]
      refine ax_inv_of (Nat.le_of_ble_eq_true rfl) (Nat.le_of_ble_eq_true rfl) (fun _ => mE_rcv E1 _) (fun h => absurd h (by decide)) (Nat.le_refl _) (Nat.le_refl _) (mk_draw hal x1 hG1 g1 (m := k) (by omega) (by omega) ?_)
      intro es2 f2 x2 g2
      have E2 := mE_f3 E1 f2
      have hc2 : kx_db G1 k < k := Nat.mod_lt _ (by omega)
      generalize kx_db G1 k = c at hc2 hQ ⊢
      have ecan : kx_can k p s.2.1 8 (nI c) 0 = true := by
        unfold kx_can
        rw [if_neg (by decide), if_pos rfl]
        exact kx_cell_nI (by omega) hc2
      unfold kx_ac at hQ
      rw [if_pos ecan] at hQ
      simp only [ax_W_cons, ax_I, ax_cmp, ax_ii, ax_ll, ax_li, ax_st1, ax_st2, ax_kl, ax_k2, ax_fit, ax_rtok, List.getElem?_cons_zero, List.getElem?_cons_succ, List.length_cons, List.length_nil, List.set_cons_zero, List.set_cons_succ, Nat.reduceAdd, Nat.reduceDiv, Nat.reduceMod, Nat.reduceMul, Nat.reduceLT, Nat.reduceLeDiff, Int32.reduceOfInt, Int64.reduceOfInt, true_and, and_true, and_self, true_or, or_true, false_implies, true_implies, not_false_eq_true, not_true_eq_false, Value.category, Nat.reduceEqDiff, Option.toList, List.cons_append, List.nil_append, List.drop_succ_cons, List.drop_zero, ax_qq_eq, ax_t_1514]
      refine ax_inv_of (Nat.le_of_ble_eq_true rfl) (Nat.le_of_ble_eq_true rfl) (fun _ => mE_rcv E2 _) (fun h => absurd h (by decide)) (Nat.le_refl _) (Nat.le_refl _) (mk_breathes hal E2.2.2.2.2.2.1 x2 hk.2 hp (b := 1144) (by omega) hV hzv.1 hc2 ?_)
      intro es4 st4 r1 r2 r3 r4
      simp only [ax_W_cons, ax_I, ax_cmp, ax_ii, ax_ll, ax_li, ax_st1, ax_st2, ax_kl, ax_k2, ax_fit, ax_rtok, List.getElem?_cons_zero, List.getElem?_cons_succ, List.length_cons, List.length_nil, List.set_cons_zero, List.set_cons_succ, Nat.reduceAdd, Nat.reduceDiv, Nat.reduceMod, Nat.reduceMul, Nat.reduceLT, Nat.reduceLeDiff, Int32.reduceOfInt, Int64.reduceOfInt, true_and, and_true, and_self, true_or, or_true, false_implies, true_implies, not_false_eq_true, not_true_eq_false, Value.category, Nat.reduceEqDiff, Option.toList, List.cons_append, List.nil_append, List.drop_succ_cons, List.drop_zero, ax_qq_eq, ax_t_1514, ax_j_1514_132, ax_n_1514_132]
      exact hQ es4 st4 C _ _ rfl (mf3_trans f1 (mf3_trans f2 (mfr_3 r1))) r3 r2 (mG_fr g2 r1) r4 ⟨hcr, zv_soothe hk.2 hzv hc2⟩
    · rw [if_neg h4] at hQ
      have c2 : ¬ nI (e) = 4 := fun z => h4 (kn_inj (b := 4) (by omega) (by decide) z)
      by_cases h5 : e = 5
      · rw [if_pos h5] at hQ
        have c3 : nI (e) = 5 := by rw [h5]; rfl
        have c4 : (4 : Int32) ≤ 5 := by decide
        have c5 : ¬ (5 : Int32) = 4 := by decide
        rw [c3] at c1 c2 ⊢
        have ecan : kx_can k p s.2.1 10 0 0 = true := by
          unfold kx_can
          rw [if_neg (by decide), if_neg (by decide), if_neg (by decide)]
        unfold kx_ac at hQ
        rw [if_pos ecan] at hQ
        simp only [ax_W_cons, ax_I, ax_cmp, ax_ii, ax_ll, ax_li, ax_st1, ax_st2, ax_kl, ax_k2, ax_fit, ax_rtok, List.getElem?_cons_zero, List.getElem?_cons_succ, List.length_cons, List.length_nil, List.set_cons_zero, List.set_cons_succ, Nat.reduceAdd, Nat.reduceDiv, Nat.reduceMod, Nat.reduceMul, Nat.reduceLT, Nat.reduceLeDiff, Int32.reduceOfInt, Int64.reduceOfInt, true_and, and_true, and_self, true_or, or_true, false_implies, true_implies, not_false_eq_true, not_true_eq_false, Value.category, Nat.reduceEqDiff, Option.toList, List.cons_append, List.nil_append, List.drop_succ_cons, List.drop_zero, ax_qq_eq, ax_t_1514, ax_j_1514_53, ax_n_1514_53, ax_j_1514_76, ax_n_1514_76, c4, c5]
        refine ax_inv_of (Nat.le_of_ble_eq_true rfl) (Nat.le_of_ble_eq_true rfl) (fun _ => mE_rcv E1 _) (fun h => absurd h (by decide)) (Nat.le_refl _) (Nat.le_refl _) (mk_turns hal E1.2.2.2.2.2 x1 (by omega) hk.2 hp (b := 1144) (by omega) hV hzv.2.2.1 ?_)
        intro es4 st4 r1 r2 r3 r4
        simp only [ax_W_cons, ax_I, ax_cmp, ax_ii, ax_ll, ax_li, ax_st1, ax_st2, ax_kl, ax_k2, ax_fit, ax_rtok, List.getElem?_cons_zero, List.getElem?_cons_succ, List.length_cons, List.length_nil, List.set_cons_zero, List.set_cons_succ, Nat.reduceAdd, Nat.reduceDiv, Nat.reduceMod, Nat.reduceMul, Nat.reduceLT, Nat.reduceLeDiff, Int32.reduceOfInt, Int64.reduceOfInt, true_and, and_true, and_self, true_or, or_true, false_implies, true_implies, not_false_eq_true, not_true_eq_false, Value.category, Nat.reduceEqDiff, Option.toList, List.cons_append, List.nil_append, List.drop_succ_cons, List.drop_zero, ax_qq_eq, ax_t_1514, ax_j_1514_132, ax_n_1514_132]
        refine hQ es4 st4 (kt_then k C k) _ _ rfl (mf3_trans f1 (mfr_3 r1)) r3 r2 (mG_fr g1 r1) r4 ⟨?_, zv_turn hk.2 hzv⟩
        show kx_tcr k s.2.1 k = _
        rw [hcr, kt_tcr hk.2 k (Nat.le_refl _), kt_same]
      · rw [if_neg h5] at hQ
        have c3 : ¬ nI (e) = 5 := fun z => h5 (kn_inj (b := 5) (by omega) (by decide) z)
        by_cases h6 : e = 6 ∧ 0 < p
        · rw [if_pos h6] at hQ
          have c6 : nI (e) = 6 := by rw [h6.1]; rfl
          have c7 : (4 : Int32) ≤ 6 := by decide
          have c8 : ¬ (6 : Int32) = 4 := by decide
          have c9 : ¬ (6 : Int32) = 5 := by decide
          rw [c6]
          have hp0 : ¬ nI p ≤ 0 := nI_nle h6.2 (by omega)
          simp only [ax_W_cons, ax_I, ax_cmp, ax_ii, ax_ll, ax_li, ax_st1, ax_st2, ax_kl, ax_k2, ax_fit, ax_rtok, List.getElem?_cons_zero, List.getElem?_cons_succ, List.length_cons, List.length_nil, List.set_cons_zero, List.set_cons_succ, Nat.reduceAdd, Nat.reduceDiv, Nat.reduceMod, Nat.reduceMul, Nat.reduceLT, Nat.reduceLeDiff, Int32.reduceOfInt, Int64.reduceOfInt, true_and, and_true, and_self, true_or, or_true, false_implies, true_implies, not_false_eq_true, not_true_eq_false, Value.category, Nat.reduceEqDiff, Option.toList, List.cons_append, List.nil_append, List.drop_succ_cons, List.drop_zero, ax_qq_eq, ax_t_1514, ax_j_1514_53, ax_n_1514_53, ax_j_1514_76, ax_n_1514_76, ax_j_1514_92, ax_n_1514_92, c7, c8, c9]
          refine ax_inv_of (Nat.le_of_ble_eq_true rfl) (Nat.le_of_ble_eq_true rfl) (fun _ => mE_rcv E1 _) (fun h => absurd h (by decide)) (Nat.le_refl _) (Nat.le_refl _) (mk_courtiers hal E1.2.2.2.2.2 ?_)
          simp only [ax_W_cons, ax_I, ax_cmp, ax_ii, ax_ll, ax_li, ax_st1, ax_st2, ax_kl, ax_k2, ax_fit, ax_rtok, List.getElem?_cons_zero, List.getElem?_cons_succ, List.length_cons, List.length_nil, List.set_cons_zero, List.set_cons_succ, Nat.reduceAdd, Nat.reduceDiv, Nat.reduceMod, Nat.reduceMul, Nat.reduceLT, Nat.reduceLeDiff, Int32.reduceOfInt, Int64.reduceOfInt, true_and, and_true, and_self, true_or, or_true, false_implies, true_implies, not_false_eq_true, not_true_eq_false, Value.category, Nat.reduceEqDiff, Option.toList, List.cons_append, List.nil_append, List.drop_succ_cons, List.drop_zero, ax_qq_eq, ax_t_1514, hp0]
          refine ax_inv_of (Nat.le_of_ble_eq_true rfl) (Nat.le_of_ble_eq_true rfl) (fun _ => mE_rcv E1 _) (fun h => absurd h (by decide)) (Nat.le_refl _) (Nat.le_refl _) (mk_courtiers hal E1.2.2.2.2.2 ?_)
          simp only [ax_W_cons, ax_I, ax_cmp, ax_ii, ax_ll, ax_li, ax_st1, ax_st2, ax_kl, ax_k2, ax_fit, ax_rtok, List.getElem?_cons_zero, List.getElem?_cons_succ, List.length_cons, List.length_nil, List.set_cons_zero, List.set_cons_succ, Nat.reduceAdd, Nat.reduceDiv, Nat.reduceMod, Nat.reduceMul, Nat.reduceLT, Nat.reduceLeDiff, Int32.reduceOfInt, Int64.reduceOfInt, true_and, and_true, and_self, true_or, or_true, false_implies, true_implies, not_false_eq_true, not_true_eq_false, Value.category, Nat.reduceEqDiff, Option.toList, List.cons_append, List.nil_append, List.drop_succ_cons, List.drop_zero, ax_qq_eq, ax_t_1514]
          refine ax_inv_of (Nat.le_of_ble_eq_true rfl) (Nat.le_of_ble_eq_true rfl) (fun _ => mE_rcv E1 _) (fun h => absurd h (by decide)) (Nat.le_refl _) (Nat.le_refl _) (mk_draw hal x1 hG1 g1 (m := p) (by omega) (by omega) ?_)
          intro es2 f2 x2 g2
          have E2 := mE_f3 E1 f2
          simp only [ax_W_cons, ax_I, ax_cmp, ax_ii, ax_ll, ax_li, ax_st1, ax_st2, ax_kl, ax_k2, ax_fit, ax_rtok, List.getElem?_cons_zero, List.getElem?_cons_succ, List.length_cons, List.length_nil, List.set_cons_zero, List.set_cons_succ, Nat.reduceAdd, Nat.reduceDiv, Nat.reduceMod, Nat.reduceMul, Nat.reduceLT, Nat.reduceLeDiff, Int32.reduceOfInt, Int64.reduceOfInt, true_and, and_true, and_self, true_or, or_true, false_implies, true_implies, not_false_eq_true, not_true_eq_false, Value.category, Nat.reduceEqDiff, Option.toList, List.cons_append, List.nil_append, List.drop_succ_cons, List.drop_zero, ax_qq_eq, ax_t_1514]
          refine ax_inv_of (Nat.le_of_ble_eq_true rfl) (Nat.le_of_ble_eq_true rfl) (fun _ => mE_rcv E2 _) (fun h => absurd h (by decide)) (Nat.le_refl _) (Nat.le_refl _) (mk_courtiers hal E2.2.2.2.2.2 ?_)
          simp only [ax_W_cons, ax_I, ax_cmp, ax_ii, ax_ll, ax_li, ax_st1, ax_st2, ax_kl, ax_k2, ax_fit, ax_rtok, List.getElem?_cons_zero, List.getElem?_cons_succ, List.length_cons, List.length_nil, List.set_cons_zero, List.set_cons_succ, Nat.reduceAdd, Nat.reduceDiv, Nat.reduceMod, Nat.reduceMul, Nat.reduceLT, Nat.reduceLeDiff, Int32.reduceOfInt, Int64.reduceOfInt, true_and, and_true, and_self, true_or, or_true, false_implies, true_implies, not_false_eq_true, not_true_eq_false, Value.category, Nat.reduceEqDiff, Option.toList, List.cons_append, List.nil_append, List.drop_succ_cons, List.drop_zero, ax_qq_eq, ax_t_1514]
          refine ax_inv_of (Nat.le_of_ble_eq_true rfl) (Nat.le_of_ble_eq_true rfl) (fun _ => mE_rcv E2 _) (fun h => absurd h (by decide)) (Nat.le_refl _) (Nat.le_refl _) (mk_draw hal x2 hG2 g2 (m := p) (by omega) (by omega) ?_)
          intro es3 f3 x3 g3
          have E3 := mE_f3 E2 f3
          have hi2 : kx_db G1 p < p := Nat.mod_lt _ h6.2
          have hj2 : kx_db (kx_dw G1) p < p := Nat.mod_lt _ h6.2
          generalize kx_db G1 p = i at hi2 hQ ⊢
          generalize kx_db (kx_dw G1) p = j at hj2 hQ ⊢
          simp only [ax_W_cons, ax_I, ax_cmp, ax_ii, ax_ll, ax_li, ax_st1, ax_st2, ax_kl, ax_k2, ax_fit, ax_rtok, List.getElem?_cons_zero, List.getElem?_cons_succ, List.length_cons, List.length_nil, List.set_cons_zero, List.set_cons_succ, Nat.reduceAdd, Nat.reduceDiv, Nat.reduceMod, Nat.reduceMul, Nat.reduceLT, Nat.reduceLeDiff, Int32.reduceOfInt, Int64.reduceOfInt, true_and, and_true, and_self, true_or, or_true, false_implies, true_implies, not_false_eq_true, not_true_eq_false, Value.category, Nat.reduceEqDiff, Option.toList, List.cons_append, List.nil_append, List.drop_succ_cons, List.drop_zero, ax_qq_eq, ax_t_1514]
          refine ax_inv_of (Nat.le_of_ble_eq_true rfl) (Nat.le_of_ble_eq_true rfl) (fun _ => mE_rcv E3 _) (fun h => absurd h (by decide)) (Nat.le_refl _) (Nat.le_refl _) (mk_changes hal E3.2.2.2.2.2.1 x3 hk.2 hp (b := 1144) (by omega) hV hi2 hj2 ?_)
          intro es4 st4 r1 r2 r3 r4
          simp only [ax_W_cons, ax_I, ax_cmp, ax_ii, ax_ll, ax_li, ax_st1, ax_st2, ax_kl, ax_k2, ax_fit, ax_rtok, List.getElem?_cons_zero, List.getElem?_cons_succ, List.length_cons, List.length_nil, List.set_cons_zero, List.set_cons_succ, Nat.reduceAdd, Nat.reduceDiv, Nat.reduceMod, Nat.reduceMul, Nat.reduceLT, Nat.reduceLeDiff, Int32.reduceOfInt, Int64.reduceOfInt, true_and, and_true, and_self, true_or, or_true, false_implies, true_implies, not_false_eq_true, not_true_eq_false, Value.category, Nat.reduceEqDiff, Option.toList, List.cons_append, List.nil_append, List.drop_succ_cons, List.drop_zero, ax_qq_eq, ax_t_1514, ax_j_1514_132, ax_n_1514_132]
          have ecan := kx_can11 (k := k) hp hi2 hj2 s.2.1
          unfold kx_ac at hQ
          rw [ecan] at hQ
          by_cases hij : i = j
          · rw [if_neg (by simp [hij])] at hQ
            rw [hij, kx_exch_same (by omega)] at r4
            exact hQ es4 st4 C _ _ rfl (mf3_trans f1 (mf3_trans f2 (mf3_trans f3 (mfr_3 r1)))) r3 r2 (mG_fr g3 r1) r4 hz
          · rw [if_pos (by simp [hij]), kx_jp11] at hQ
            exact hQ es4 st4 C _ _ rfl (mf3_trans f1 (mf3_trans f2 (mf3_trans f3 (mfr_3 r1)))) r3 r2 (mG_fr g3 r1) r4 ⟨hcr, zv_exch hp hzv hi2 hj2⟩
        · rw [if_neg h6] at hQ
          have hQ2 := hQ es1 st C _ _ rfl f1 (mfs_rf _ _) x1 g1 hV hz
          by_cases h7 : e = 6
          · have hp0 : p = 0 := by omega
            subst hp0
            have c6 : nI (e) = 6 := by rw [h7]; rfl
            have c7 : (4 : Int32) ≤ 6 := by decide
            have c8 : ¬ (6 : Int32) = 4 := by decide
            have c9 : ¬ (6 : Int32) = 5 := by decide
            have ca : nI 0 ≤ 0 := by decide
            rw [c6]
            simp only [ax_W_cons, ax_I, ax_cmp, ax_ii, ax_ll, ax_li, ax_st1, ax_st2, ax_kl, ax_k2, ax_fit, ax_rtok, List.getElem?_cons_zero, List.getElem?_cons_succ, List.length_cons, List.length_nil, List.set_cons_zero, List.set_cons_succ, Nat.reduceAdd, Nat.reduceDiv, Nat.reduceMod, Nat.reduceMul, Nat.reduceLT, Nat.reduceLeDiff, Int32.reduceOfInt, Int64.reduceOfInt, true_and, and_true, and_self, true_or, or_true, false_implies, true_implies, not_false_eq_true, not_true_eq_false, Value.category, Nat.reduceEqDiff, Option.toList, List.cons_append, List.nil_append, List.drop_succ_cons, List.drop_zero, ax_qq_eq, ax_t_1514, ax_j_1514_53, ax_n_1514_53, ax_j_1514_76, ax_n_1514_76, ax_j_1514_92, ax_n_1514_92, c7, c8, c9]
            refine ax_inv_of (Nat.le_of_ble_eq_true rfl) (Nat.le_of_ble_eq_true rfl) (fun _ => mE_rcv E1 _) (fun h => absurd h (by decide)) (Nat.le_refl _) (Nat.le_refl _) (mk_courtiers hal E1.2.2.2.2.2 ?_)
            simp only [ax_W_cons, ax_I, ax_cmp, ax_ii, ax_ll, ax_li, ax_st1, ax_st2, ax_kl, ax_k2, ax_fit, ax_rtok, List.getElem?_cons_zero, List.getElem?_cons_succ, List.length_cons, List.length_nil, List.set_cons_zero, List.set_cons_succ, Nat.reduceAdd, Nat.reduceDiv, Nat.reduceMod, Nat.reduceMul, Nat.reduceLT, Nat.reduceLeDiff, Int32.reduceOfInt, Int64.reduceOfInt, true_and, and_true, and_self, true_or, or_true, false_implies, true_implies, not_false_eq_true, not_true_eq_false, Value.category, Nat.reduceEqDiff, Option.toList, List.cons_append, List.nil_append, List.drop_succ_cons, List.drop_zero, ax_qq_eq, ax_t_1514, ax_j_1514_132, ax_n_1514_132, ca]
            exact hQ2
          · have c6 : ¬ nI (e) = 6 := fun z => h7 (kn_inj (b := 6) (by omega) (by decide) z)
            simp only [ax_W_cons, ax_I, ax_cmp, ax_ii, ax_ll, ax_li, ax_st1, ax_st2, ax_kl, ax_k2, ax_fit, ax_rtok, List.getElem?_cons_zero, List.getElem?_cons_succ, List.length_cons, List.length_nil, List.set_cons_zero, List.set_cons_succ, Nat.reduceAdd, Nat.reduceDiv, Nat.reduceMod, Nat.reduceMul, Nat.reduceLT, Nat.reduceLeDiff, Int32.reduceOfInt, Int64.reduceOfInt, true_and, and_true, and_self, true_or, or_true, false_implies, true_implies, not_false_eq_true, not_true_eq_false, Value.category, Nat.reduceEqDiff, Option.toList, List.cons_append, List.nil_append, List.drop_succ_cons, List.drop_zero, ax_qq_eq, ax_t_1514, ax_j_1514_53, ax_n_1514_53, ax_j_1514_76, ax_n_1514_76, ax_j_1514_92, ax_n_1514_92, ax_j_1514_132, ax_n_1514_132, c1, c2, c3, c6]
            exact hQ2
end MM
