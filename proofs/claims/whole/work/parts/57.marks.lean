/-! the reference: feel, mark, count -/
def zq_count (k p hc : Nat) (hs : Nat → Int32) (B : zB) (L z un tl : Nat) (x : Int32) : Int32 := if x = 0 then nI k else if x = 1 then nI p else if x = 2 then nI B.1 else if x = 3 then hs (B.1 % hc) else if x = 4 then kx_sum B.2.2.1 k else if x = 5 then nI B.2.1 else if x = 6 then kx_bits B.2.2.1 k else if x = 7 then kx_sum B.2.2.2.2 p else if x = 8 then nI L else if x = 9 then nI z else if x = 10 then nI un else if x = 11 then nI tl else -1
theorem mx_in12 (x : Int32) : (∃ v, v ≤ 11 ∧ x = nI v) ∨ (x.toInt < 0 ∨ 11 < x.toInt) := by
  by_cases h : x.toInt < 0 ∨ 11 < x.toInt
  · exact Or.inr h
  · left
    refine ⟨x.toInt.toNat, by omega, ?_⟩
    apply Int32.toInt_inj.mp
    rw [nI_toInt (by omega)]
    omega
theorem zq_count_no {k p hc : Nat} {hs : Nat → Int32} {B : zB} {L z un tl : Nat} {x : Int32} (h : x.toInt < 0 ∨ 11 < x.toInt) : zq_count k p hc hs B L z un tl x = -1 := by
  have e : ∀ y : Int32, (0 ≤ y.toInt ∧ y.toInt ≤ 11) → ¬ x = y := fun y hy he => by rw [he] at h; omega
  unfold zq_count
  rw [if_neg (e 0 (by decide)), if_neg (e 1 (by decide)), if_neg (e 2 (by decide)), if_neg (e 3 (by decide)), if_neg (e 4 (by decide)), if_neg (e 5 (by decide)), if_neg (e 6 (by decide)), if_neg (e 7 (by decide)), if_neg (e 8 (by decide)), if_neg (e 9 (by decide)), if_neg (e 10 (by decide)), if_neg (e 11 (by decide))]
section MM
variable {d n sl k p hc L N un : Nat} {es : ax_H} {kd pm ht hs pl0 la lb lc : Nat → Int32} {F1 F2 : Int32 → Int32 → Int32 → Int32 → Int32} {st : Nat → Int32} {B : zB} {Fe : zF} {U : Nat → zB} {mk : Nat → Bool} {M : Nat → zB × zF} {w : mW9} {Q : Option Value → ax_H → Prop}
theorem mp_feel_no (D : mD es n st w k p hc kd pm ht hs F1 F2 B Fe un U mk M) (hB : zB_ok k p N B) (hz8 : Fe.1 ≤ 8) (c m x : Int32) (h : ¬ (kx_op k (nI B.2.1) c = true ∧ kx_in m 0 12 = true ∧ kx_in x 0 99 = true ∧ Fe.1 < 8)) (hQ : ∀ es' st', mD es' n st' w k p hc kd pm ht hs F1 F2 B Fe un U mk M → mfd es es' → Q (some (.int 0)) es') : ax_Mt (d + 10) 1500 [.ref 159, .int c, .int m, .int x] n sl es Q := by
  obtain ⟨hal, hk, hp, hhs, hF, hK⟩ := id D.1
  refine ax_Mt_go (m := ax_m_11_92) (ls := [some (.ref 159), some (.int c), some (.int m), some (.int x), none]) rfl ax_b_1500_0 (Nat.le_of_ble_eq_true rfl) rfl ?_
  refine mk_thrown hal hK.1 rfl ?_
  intro es0 h0
  have D0 := mD_th D h0
  have hQ := hQ es0 st D0 (mth_d h0)
  have c10 : ¬ (1 : Int32) = 0 := by decide
  simp only [ax_W_cons, ax_I, ax_cmp, ax_ii, ax_ll, ax_li, ax_st1, ax_st2, ax_kl, ax_k2, ax_fit, ax_rtok, List.getElem?_cons_zero, List.getElem?_cons_succ, List.length_cons, List.length_nil, List.set_cons_zero, List.set_cons_succ, Nat.reduceAdd, Nat.reduceDiv, Nat.reduceMod, Nat.reduceMul, Nat.reduceLT, Nat.reduceLeDiff, Int32.reduceOfInt, Int64.reduceOfInt, true_and, and_true, and_self, true_or, or_true, false_implies, true_implies, not_false_eq_true, not_true_eq_false, Value.category, Nat.reduceEqDiff, Option.toList, List.cons_append, List.nil_append, List.drop_succ_cons, List.drop_zero, ax_qq_eq, ax_t_1500]
  refine ax_inv_of (Nat.le_of_ble_eq_true rfl) (Nat.le_of_ble_eq_true rfl) (fun _ => mE_rcv D0.1 _) (fun h => absurd h (by decide)) (Nat.le_refl _) (Nat.le_refl _) (mk_whole D0.1 ⟨D0.2.1, D0.2.2.2.2.1.1, hB.1⟩ (b := 0) (by omega) c ?_)
  cases h1 : kx_op k (nI B.2.1) c
  · simp only [ax_W_cons, ax_I, ax_cmp, ax_ii, ax_ll, ax_li, ax_st1, ax_st2, ax_kl, ax_k2, ax_fit, ax_rtok, List.getElem?_cons_zero, List.getElem?_cons_succ, List.length_cons, List.length_nil, List.set_cons_zero, List.set_cons_succ, Nat.reduceAdd, Nat.reduceDiv, Nat.reduceMod, Nat.reduceMul, Nat.reduceLT, Nat.reduceLeDiff, Int32.reduceOfInt, Int64.reduceOfInt, true_and, and_true, and_self, true_or, or_true, false_implies, true_implies, not_false_eq_true, not_true_eq_false, Value.category, Nat.reduceEqDiff, Option.toList, List.cons_append, List.nil_append, List.drop_succ_cons, List.drop_zero, ax_qq_eq, ax_t_1500, ax_j_1500_46, ax_n_1500_46, kx_bf]
    exact hQ
  simp only [ax_W_cons, ax_I, ax_cmp, ax_ii, ax_ll, ax_li, ax_st1, ax_st2, ax_kl, ax_k2, ax_fit, ax_rtok, List.getElem?_cons_zero, List.getElem?_cons_succ, List.length_cons, List.length_nil, List.set_cons_zero, List.set_cons_succ, Nat.reduceAdd, Nat.reduceDiv, Nat.reduceMod, Nat.reduceMul, Nat.reduceLT, Nat.reduceLeDiff, Int32.reduceOfInt, Int64.reduceOfInt, true_and, and_true, and_self, true_or, or_true, false_implies, true_implies, not_false_eq_true, not_true_eq_false, Value.category, Nat.reduceEqDiff, Option.toList, List.cons_append, List.nil_append, List.drop_succ_cons, List.drop_zero, ax_qq_eq, ax_t_1500, kx_bt, c10]
  refine ax_inv_of (Nat.le_of_ble_eq_true rfl) (Nat.le_of_ble_eq_true rfl) (fun _ => absurd ‹_› (by decide)) (fun h => absurd h (by decide)) (Nat.le_refl _) (Nat.le_refl _) (mk_within _ _ _ ?_)
  cases h2 : kx_in m 0 12
  · simp only [ax_W_cons, ax_I, ax_cmp, ax_ii, ax_ll, ax_li, ax_st1, ax_st2, ax_kl, ax_k2, ax_fit, ax_rtok, List.getElem?_cons_zero, List.getElem?_cons_succ, List.length_cons, List.length_nil, List.set_cons_zero, List.set_cons_succ, Nat.reduceAdd, Nat.reduceDiv, Nat.reduceMod, Nat.reduceMul, Nat.reduceLT, Nat.reduceLeDiff, Int32.reduceOfInt, Int64.reduceOfInt, true_and, and_true, and_self, true_or, or_true, false_implies, true_implies, not_false_eq_true, not_true_eq_false, Value.category, Nat.reduceEqDiff, Option.toList, List.cons_append, List.nil_append, List.drop_succ_cons, List.drop_zero, ax_qq_eq, ax_t_1500, ax_j_1500_46, ax_n_1500_46, kx_bf]
    exact hQ
  simp only [ax_W_cons, ax_I, ax_cmp, ax_ii, ax_ll, ax_li, ax_st1, ax_st2, ax_kl, ax_k2, ax_fit, ax_rtok, List.getElem?_cons_zero, List.getElem?_cons_succ, List.length_cons, List.length_nil, List.set_cons_zero, List.set_cons_succ, Nat.reduceAdd, Nat.reduceDiv, Nat.reduceMod, Nat.reduceMul, Nat.reduceLT, Nat.reduceLeDiff, Int32.reduceOfInt, Int64.reduceOfInt, true_and, and_true, and_self, true_or, or_true, false_implies, true_implies, not_false_eq_true, not_true_eq_false, Value.category, Nat.reduceEqDiff, Option.toList, List.cons_append, List.nil_append, List.drop_succ_cons, List.drop_zero, ax_qq_eq, ax_t_1500, kx_bt, c10]
  refine ax_inv_of (Nat.le_of_ble_eq_true rfl) (Nat.le_of_ble_eq_true rfl) (fun _ => absurd ‹_› (by decide)) (fun h => absurd h (by decide)) (Nat.le_refl _) (Nat.le_refl _) (mk_within _ _ _ ?_)
  cases h3 : kx_in x 0 99
  · simp only [ax_W_cons, ax_I, ax_cmp, ax_ii, ax_ll, ax_li, ax_st1, ax_st2, ax_kl, ax_k2, ax_fit, ax_rtok, List.getElem?_cons_zero, List.getElem?_cons_succ, List.length_cons, List.length_nil, List.set_cons_zero, List.set_cons_succ, Nat.reduceAdd, Nat.reduceDiv, Nat.reduceMod, Nat.reduceMul, Nat.reduceLT, Nat.reduceLeDiff, Int32.reduceOfInt, Int64.reduceOfInt, true_and, and_true, and_self, true_or, or_true, false_implies, true_implies, not_false_eq_true, not_true_eq_false, Value.category, Nat.reduceEqDiff, Option.toList, List.cons_append, List.nil_append, List.drop_succ_cons, List.drop_zero, ax_qq_eq, ax_t_1500, ax_j_1500_46, ax_n_1500_46, kx_bf]
    exact hQ
  have hz : Fe.1 = 8 := by
    by_cases e : Fe.1 < 8
    · exact absurd ⟨h1, h2, h3, e⟩ h
    · omega
  obtain ⟨th, tp, sz, at0, fl, cd, nm, rm, on, fh, un', g, w0⟩ := id D0.1.2.2.2.2.2.1
  have y1 := D0.2.1.1
  have v26 : vp_in 26 1196 := nI_in (c := 26) (by decide) (by decide)
  have m26 : (26 : Int32).toNatClampNeg = 26 := by decide
  have l1 := (mD_Fl D0).1
  rw [hz] at l1
  have l2 : st 26 = 8 := l1
  simp only [ax_W_cons, ax_I, ax_cmp, ax_ii, ax_ll, ax_li, ax_st1, ax_st2, ax_kl, ax_k2, ax_fit, ax_rtok, List.getElem?_cons_zero, List.getElem?_cons_succ, List.length_cons, List.length_nil, List.set_cons_zero, List.set_cons_succ, Nat.reduceAdd, Nat.reduceDiv, Nat.reduceMod, Nat.reduceMul, Nat.reduceLT, Nat.reduceLeDiff, Int32.reduceOfInt, Int64.reduceOfInt, true_and, and_true, and_self, true_or, or_true, false_implies, true_implies, not_false_eq_true, not_true_eq_false, Value.category, Nat.reduceEqDiff, Option.toList, List.cons_append, List.nil_append, List.drop_succ_cons, List.drop_zero, ax_qq_eq, ax_t_1500, ax_j_1500_46, ax_n_1500_46, kx_bt, c10, w0, y1, mo_f, hal, v26, m26, l2]
  exact hQ
theorem mp_feel_ok (hz : zFs Fe mk M) (D : mD es n st w k p hc kd pm ht hs F1 F2 B Fe un U mk M) (hB : zB_ok k p N B) {c m x : Nat} (hc2 : c < k) (hBit : B.2.1.testBit c = false) (hm : m ≤ 12) (hx : x ≤ 99) (hz8 : Fe.1 < 8) (hQ : ∀ es' st', mD es' n st' w k p hc kd pm ht hs F1 F2 B (Fe.1 + 1, upd Fe.2.1 Fe.1 (nI c), upd Fe.2.2.1 Fe.1 (nI m), upd Fe.2.2.2 Fe.1 (nI x)) un U mk M → mfd es es' → Q (some (.int 1)) es') : ax_Mt (d + 10) 1500 [.ref 159, .int (nI c), .int (nI m), .int (nI x)] n sl es Q := by
  obtain ⟨hal, hk, hp, hhs, hF, hK⟩ := id D.1
  refine ax_Mt_go (m := ax_m_11_92) (ls := [some (.ref 159), some (.int (nI c)), some (.int (nI m)), some (.int (nI x)), none]) rfl ax_b_1500_0 (Nat.le_of_ble_eq_true rfl) rfl ?_
  refine mk_thrown hal hK.1 rfl ?_
  intro es0 h0
  have D0 := mD_th D h0
  have c10 : ¬ (1 : Int32) = 0 := by decide
  have h1 : kx_op k (nI B.2.1) (nI c) = true := by
    rw [mx_op hk.2 hc2, kc_ck (by omega), hBit]
    rfl
  have h2 : kx_in (nI m) 0 12 = true := by
    unfold kx_in
    rw [decide_eq_true (show (0 : Int32) ≤ nI m from nI_pos' (by omega)), decide_eq_true (show nI m ≤ 12 from nI_le (b := 12) hm (by omega))]
    rfl
  have h3 : kx_in (nI x) 0 99 = true := by
    unfold kx_in
    rw [decide_eq_true (show (0 : Int32) ≤ nI x from nI_pos' (by omega)), decide_eq_true (show nI x ≤ 99 from nI_le (b := 99) hx (by omega))]
    rfl
  simp only [ax_W_cons, ax_I, ax_cmp, ax_ii, ax_ll, ax_li, ax_st1, ax_st2, ax_kl, ax_k2, ax_fit, ax_rtok, List.getElem?_cons_zero, List.getElem?_cons_succ, List.length_cons, List.length_nil, List.set_cons_zero, List.set_cons_succ, Nat.reduceAdd, Nat.reduceDiv, Nat.reduceMod, Nat.reduceMul, Nat.reduceLT, Nat.reduceLeDiff, Int32.reduceOfInt, Int64.reduceOfInt, true_and, and_true, and_self, true_or, or_true, false_implies, true_implies, not_false_eq_true, not_true_eq_false, Value.category, Nat.reduceEqDiff, Option.toList, List.cons_append, List.nil_append, List.drop_succ_cons, List.drop_zero, ax_qq_eq, ax_t_1500]
  refine ax_inv_of (Nat.le_of_ble_eq_true rfl) (Nat.le_of_ble_eq_true rfl) (fun _ => mE_rcv D0.1 _) (fun h => absurd h (by decide)) (Nat.le_refl _) (Nat.le_refl _) (mk_whole D0.1 ⟨D0.2.1, D0.2.2.2.2.1.1, hB.1⟩ (b := 0) (by omega) _ ?_)
  rw [h1]
  simp only [ax_W_cons, ax_I, ax_cmp, ax_ii, ax_ll, ax_li, ax_st1, ax_st2, ax_kl, ax_k2, ax_fit, ax_rtok, List.getElem?_cons_zero, List.getElem?_cons_succ, List.length_cons, List.length_nil, List.set_cons_zero, List.set_cons_succ, Nat.reduceAdd, Nat.reduceDiv, Nat.reduceMod, Nat.reduceMul, Nat.reduceLT, Nat.reduceLeDiff, Int32.reduceOfInt, Int64.reduceOfInt, true_and, and_true, and_self, true_or, or_true, false_implies, true_implies, not_false_eq_true, not_true_eq_false, Value.category, Nat.reduceEqDiff, Option.toList, List.cons_append, List.nil_append, List.drop_succ_cons, List.drop_zero, ax_qq_eq, ax_t_1500, kx_bt, c10]
  refine ax_inv_of (Nat.le_of_ble_eq_true rfl) (Nat.le_of_ble_eq_true rfl) (fun _ => absurd ‹_› (by decide)) (fun h => absurd h (by decide)) (Nat.le_refl _) (Nat.le_refl _) (mk_within _ _ _ ?_)
  rw [h2]
  simp only [ax_W_cons, ax_I, ax_cmp, ax_ii, ax_ll, ax_li, ax_st1, ax_st2, ax_kl, ax_k2, ax_fit, ax_rtok, List.getElem?_cons_zero, List.getElem?_cons_succ, List.length_cons, List.length_nil, List.set_cons_zero, List.set_cons_succ, Nat.reduceAdd, Nat.reduceDiv, Nat.reduceMod, Nat.reduceMul, Nat.reduceLT, Nat.reduceLeDiff, Int32.reduceOfInt, Int64.reduceOfInt, true_and, and_true, and_self, true_or, or_true, false_implies, true_implies, not_false_eq_true, not_true_eq_false, Value.category, Nat.reduceEqDiff, Option.toList, List.cons_append, List.nil_append, List.drop_succ_cons, List.drop_zero, ax_qq_eq, ax_t_1500, kx_bt, c10]
  refine ax_inv_of (Nat.le_of_ble_eq_true rfl) (Nat.le_of_ble_eq_true rfl) (fun _ => absurd ‹_› (by decide)) (fun h => absurd h (by decide)) (Nat.le_refl _) (Nat.le_refl _) (mk_within _ _ _ ?_)
  rw [h3]
  obtain ⟨E0, hX0, hO0, hun, ⟨r1, r2, r3, r4⟩, ⟨mb, m1, m2⟩, al, hA⟩ := id D0
  obtain ⟨th, tp, sz, at0, fl, cd, nm, rm, on, fh, un', g, w0⟩ := id E0.2.2.2.2.2.1
  have y1 := hX0.1
  have g0 : ∀ e, ax_up es0 173 e 159 = _ := fun e => (ax_up_ne es0 e (by decide)).trans w0
  have v26 : vp_in 26 1196 := nI_in (c := 26) (by decide) (by decide)
  have m26 : (26 : Int32).toNatClampNeg = 26 := by decide
  have hFl := mD_Fl D0
  have l1 := hFl.1
  generalize hzz : Fe.1 = z at *
  have l8 : ¬ nI z = 8 := fun q => by
    have := kn_inj (b := 8) (by omega) (by decide) q
    omega
  have a1 : (27 : Int32) + 3 * nI z = nI (27 + 3 * z) := by
    show nI 27 + nI 3 * nI z = _
    rw [kn_mul, kn_add]
  have a2 : nI (27 + 3 * z) + 1 = nI (27 + 3 * z + 1) := (nI_succ _).symm
  have a3 : nI (27 + 3 * z) + 2 = nI (27 + 3 * z + 2) := kn_add _ 2
  have b1 : vp_in (nI (27 + 3 * z)) 1196 := nI_in (by omega) (by decide)
  have b2 : vp_in (nI (27 + 3 * z + 1)) 1196 := nI_in (by omega) (by decide)
  have b3 : vp_in (nI (27 + 3 * z + 2)) 1196 := nI_in (by omega) (by decide)
  have d1 : (nI (27 + 3 * z)).toNatClampNeg = 27 + 3 * z := nI_clamp (by omega)
  have d2 : (nI (27 + 3 * z + 1)).toNatClampNeg = 27 + 3 * z + 1 := nI_clamp (by omega)
  have d3 : (nI (27 + 3 * z + 2)).toNatClampNeg = 27 + 3 * z + 2 := nI_clamp (by omega)
  have l2 : upd (upd (upd st (27 + 3 * z) (nI c)) (27 + 3 * z + 1) (nI m)) (27 + 3 * z + 2) (nI x) 26 = nI z := by
    rw [upd_ne _ _ (by omega), upd_ne _ _ (by omega), upd_ne _ _ (by omega)]
    exact l1
  have z4 : nI z + 1 = nI (z + 1) := (nI_succ z).symm
  simp only [ax_W_cons, ax_I, ax_cmp, ax_ii, ax_ll, ax_li, ax_st1, ax_st2, ax_kl, ax_k2, ax_fit, ax_rtok, List.getElem?_cons_zero, List.getElem?_cons_succ, List.length_cons, List.length_nil, List.set_cons_zero, List.set_cons_succ, Nat.reduceAdd, Nat.reduceDiv, Nat.reduceMod, Nat.reduceMul, Nat.reduceLT, Nat.reduceLeDiff, Int32.reduceOfInt, Int64.reduceOfInt, true_and, and_true, and_self, true_or, or_true, false_implies, true_implies, not_false_eq_true, not_true_eq_false, Value.category, Nat.reduceEqDiff, Option.toList, List.cons_append, List.nil_append, List.drop_succ_cons, List.drop_zero, ax_qq_eq, ax_t_1500, ax_j_1500_48, ax_n_1500_48, kx_bt, c10, w0, g0, y1, mo_f, hal, v26, m26, l1, l8, a1, a2, a3, b1, b2, b3, d1, d2, d3, ax_up_same, ax_up_up, l2, z4]
  have hf : ∀ j, j < 26 ∨ 52 ≤ j → upd (upd (upd (upd st (27 + 3 * z) (nI c)) (27 + 3 * z + 1) (nI m)) (27 + 3 * z + 2) (nI x)) 26 (nI (z + 1)) j = st j := fun j hj => by
    rw [upd_ne _ _ (by omega), upd_ne _ _ (by omega), upd_ne _ _ (by omega), upd_ne _ _ (by omega)]
  refine hQ _ _ ⟨mE_fr E0 (mfr_up es0 _), mX_up hX0, mOb_fr hO0 (ax_up_ne _ _ (by decide)), hun, ⟨mVb_q hk.2 hp r1 (fun j h5 h6 => hf j (by omega)), ⟨?_, fun i hi => ?_⟩, fun u hu => mVb_q hk.2 hp (r3 u hu) (fun j h5 h6 => hf j (by omega)), fun m hm hmk => ⟨mVb_q hk.2 hp (r4 m hm hmk).1 (fun j h5 h6 => hf j (by omega)), mFb_q (hz.2 m hm hmk) (r4 m hm hmk).2 (fun j h5 h6 => hf j (by omega))⟩⟩, ⟨mb, (ax_up_ne _ _ (by decide)).trans m1, m2⟩, al, (ax_up_ne _ _ (by decide)).trans hA⟩ (mfd_trans (mth_d h0) (mfr_d (mfr_up es0 _)))
  · exact upd_same ..
  · have hi : i < z + 1 := hi
    dsimp only
    rw [Nat.zero_add]
    by_cases e : i = z
    · subst e
      refine ⟨?_, ?_, ?_⟩
      · rw [upd_ne _ _ (by omega), upd_ne _ _ (by omega), upd_ne _ _ (by omega), upd_same, upd_same]
      · rw [upd_ne _ _ (by omega), upd_ne _ _ (by omega), upd_same, upd_same]
      · rw [upd_ne _ _ (by omega), upd_same, upd_same]
    · obtain ⟨o1, o2, o3⟩ := hFl.2 i (by omega)
      refine ⟨?_, ?_, ?_⟩
      · rw [upd_ne _ _ (by omega), upd_ne _ _ (by omega), upd_ne _ _ (by omega), upd_ne _ _ (by omega), upd_ne _ _ e]
        exact o1
      · rw [upd_ne _ _ (by omega), upd_ne _ _ (by omega), upd_ne _ _ (by omega), upd_ne _ _ (by omega), upd_ne _ _ e]
        exact o2
      · rw [upd_ne _ _ (by omega), upd_ne _ _ (by omega), upd_ne _ _ (by omega), upd_ne _ _ (by omega), upd_ne _ _ e]
        exact o3
theorem mp_mark_no (D : mD es n st w k p hc kd pm ht hs F1 F2 B Fe un U mk M) (m b : Int32) (h : ¬ (kx_in m 0 3 = true ∧ (¬ b = 0 → mk m.toNatClampNeg = true))) (hQ : ∀ es' st', mD es' n st' w k p hc kd pm ht hs F1 F2 B Fe un U mk M → mfd es es' → Q (some (.int 0)) es') : ax_Mt (d + 10) 1516 [.ref 159, .int m, .int b] n sl es Q := by
  obtain ⟨hal, hk, hp, hhs, hF, hK⟩ := id D.1
  refine ax_Mt_go (m := ax_m_11_108) (ls := [some (.ref 159), some (.int m), some (.int b)]) rfl ax_b_1516_0 (Nat.le_of_ble_eq_true rfl) rfl ?_
  refine mk_thrown hal hK.1 rfl ?_
  intro es0 h0
  have D0 := mD_th D h0
  have hQ := hQ es0 st D0 (mth_d h0)
  have c10 : ¬ (1 : Int32) = 0 := by decide
  simp only [ax_W_cons, ax_I, ax_cmp, ax_ii, ax_ll, ax_li, ax_st1, ax_st2, ax_kl, ax_k2, ax_fit, ax_rtok, List.getElem?_cons_zero, List.getElem?_cons_succ, List.length_cons, List.length_nil, List.set_cons_zero, List.set_cons_succ, Nat.reduceAdd, Nat.reduceDiv, Nat.reduceMod, Nat.reduceMul, Nat.reduceLT, Nat.reduceLeDiff, Int32.reduceOfInt, Int64.reduceOfInt, true_and, and_true, and_self, true_or, or_true, false_implies, true_implies, not_false_eq_true, not_true_eq_false, Value.category, Nat.reduceEqDiff, Option.toList, List.cons_append, List.nil_append, List.drop_succ_cons, List.drop_zero, ax_qq_eq, ax_t_1516]
  refine ax_inv_of (Nat.le_of_ble_eq_true rfl) (Nat.le_of_ble_eq_true rfl) (fun _ => absurd ‹_› (by decide)) (fun h => absurd h (by decide)) (Nat.le_refl _) (Nat.le_refl _) (mk_within _ _ _ ?_)
  cases h2 : kx_in m 0 3
  · simp only [ax_W_cons, ax_I, ax_cmp, ax_ii, ax_ll, ax_li, ax_st1, ax_st2, ax_kl, ax_k2, ax_fit, ax_rtok, List.getElem?_cons_zero, List.getElem?_cons_succ, List.length_cons, List.length_nil, List.set_cons_zero, List.set_cons_succ, Nat.reduceAdd, Nat.reduceDiv, Nat.reduceMod, Nat.reduceMul, Nat.reduceLT, Nat.reduceLeDiff, Int32.reduceOfInt, Int64.reduceOfInt, true_and, and_true, and_self, true_or, or_true, false_implies, true_implies, not_false_eq_true, not_true_eq_false, Value.category, Nat.reduceEqDiff, Option.toList, List.cons_append, List.nil_append, List.drop_succ_cons, List.drop_zero, ax_qq_eq, ax_t_1516, ax_j_1516_27, ax_n_1516_27, kx_bf]
    exact hQ
  obtain ⟨m', -, hm', rfl⟩ := kx_in_nI (a := 0) (b := 3) (by decide) (by decide) h2
  rw [nI_clamp (by omega)] at h
  have hb0 : ¬ b = 0 := fun z => h ⟨h2, fun y => absurd z y⟩
  have hmk : mk m' = false := by
    cases e : mk m'
    · rfl
    · exact absurd ⟨h2, fun _ => e⟩ h
  obtain ⟨th, tp, sz, at0, fl, cd, nm, rm, on, fh, un', g, w0⟩ := id D0.1.2.2.2.2.2.1
  obtain ⟨mb, m1, m2⟩ := D0.2.2.2.2.2.1
  have m3 := m2 m' (by omega)
  rw [hmk] at m3
  have a2 : vp_in (nI m') 4 := nI_in (by omega) (by decide)
  have a3 : (nI m').toNatClampNeg = m' := nI_clamp (by omega)
  simp only [ax_W_cons, ax_I, ax_cmp, ax_ii, ax_ll, ax_li, ax_st1, ax_st2, ax_kl, ax_k2, ax_fit, ax_rtok, List.getElem?_cons_zero, List.getElem?_cons_succ, List.length_cons, List.length_nil, List.set_cons_zero, List.set_cons_succ, Nat.reduceAdd, Nat.reduceDiv, Nat.reduceMod, Nat.reduceMul, Nat.reduceLT, Nat.reduceLeDiff, Int32.reduceOfInt, Int64.reduceOfInt, true_and, and_true, and_self, true_or, or_true, false_implies, true_implies, not_false_eq_true, not_true_eq_false, Value.category, Nat.reduceEqDiff, Option.toList, List.cons_append, List.nil_append, List.drop_succ_cons, List.drop_zero, ax_qq_eq, ax_t_1516, ax_j_1516_27, ax_n_1516_27, kx_bt, c10, hb0, w0, m1, mo_f, hal, a2, a3, m3, kx_bf]
  exact hQ
theorem mp_mark_lay (hz : zFs Fe mk M) (D : mD es n st w k p hc kd pm ht hs F1 F2 B Fe un U mk M) {m : Nat} (hm : m ≤ 3) (hQ : ∀ es' st', mD es' n st' w k p hc kd pm ht hs F1 F2 B Fe un U (fun j => if j = m then true else mk j) (fun j => if j = m then (B, Fe) else M j) → mfd es es' → Q (some (.int 1)) es') : ax_Mt (d + 10) 1516 [.ref 159, .int (nI m), .int 0] n sl es Q := by
  obtain ⟨hal, hk, hp, hhs, hF, hK⟩ := id D.1
  refine ax_Mt_go (m := ax_m_11_108) (ls := [some (.ref 159), some (.int (nI m)), some (.int 0)]) rfl ax_b_1516_0 (Nat.le_of_ble_eq_true rfl) rfl ?_
  refine mk_thrown hal hK.1 rfl ?_
  intro es0 h0
  have D0 := mD_th D h0
  have c10 : ¬ (1 : Int32) = 0 := by decide
  have h2 : kx_in (nI m) 0 3 = true := by
    unfold kx_in
    rw [decide_eq_true (show (0 : Int32) ≤ nI m from nI_pos' (by omega)), decide_eq_true (show nI m ≤ 3 from nI_le (b := 3) hm (by omega))]
    rfl
  simp only [ax_W_cons, ax_I, ax_cmp, ax_ii, ax_ll, ax_li, ax_st1, ax_st2, ax_kl, ax_k2, ax_fit, ax_rtok, List.getElem?_cons_zero, List.getElem?_cons_succ, List.length_cons, List.length_nil, List.set_cons_zero, List.set_cons_succ, Nat.reduceAdd, Nat.reduceDiv, Nat.reduceMod, Nat.reduceMul, Nat.reduceLT, Nat.reduceLeDiff, Int32.reduceOfInt, Int64.reduceOfInt, true_and, and_true, and_self, true_or, or_true, false_implies, true_implies, not_false_eq_true, not_true_eq_false, Value.category, Nat.reduceEqDiff, Option.toList, List.cons_append, List.nil_append, List.drop_succ_cons, List.drop_zero, ax_qq_eq, ax_t_1516]
  refine ax_inv_of (Nat.le_of_ble_eq_true rfl) (Nat.le_of_ble_eq_true rfl) (fun _ => absurd ‹_› (by decide)) (fun h => absurd h (by decide)) (Nat.le_refl _) (Nat.le_refl _) (mk_within _ _ _ ?_)
  rw [h2]
  obtain ⟨E0, hX0, ⟨t, g, hO0⟩, hun, ⟨r1, r2, r3, r4⟩, ⟨mb, m1, m2⟩, al, hA⟩ := id D0
  have w0 : es0 159 = _ := hO0
  have g0 : ∀ e, ax_up es0 174 e 159 = _ := fun e => (ax_up_ne es0 e (by decide)).trans w0
  have a2 : vp_in (nI m) 4 := nI_in (by omega) (by decide)
  have a3 : (nI m).toNatClampNeg = m := nI_clamp (by omega)
  have a4 : (52 : Int32) * (1 + nI m) = nI (52 * (1 + m)) := by
    show nI 52 * (nI 1 + nI m) = _
    rw [kn_add, kn_mul]
  have n1 : vp_nar .boolean 1 = 1 := by decide
  have x1 : mX (ax_up es0 174 (.inl (2, 4, .inl (upd mb m 1)))) st := by
    obtain ⟨h1, ⟨fa, h2⟩, ⟨pi, h3⟩, wa, h4⟩ := hX0
    exact ⟨(ax_up_ne _ _ (by decide)).trans h1, ⟨fa, (ax_up_ne _ _ (by decide)).trans h2⟩, ⟨pi, (ax_up_ne _ _ (by decide)).trans h3⟩, wa, (ax_up_ne _ _ (by decide)).trans h4⟩
  have o1 : mO (ax_up es0 174 (.inl (2, 4, .inl (upd mb m 1)))) := ⟨_, _, _, _, _, _, _, _, _, _, _, _, g0 _⟩
  simp only [ax_W_cons, ax_I, ax_cmp, ax_ii, ax_ll, ax_li, ax_st1, ax_st2, ax_kl, ax_k2, ax_fit, ax_rtok, List.getElem?_cons_zero, List.getElem?_cons_succ, List.length_cons, List.length_nil, List.set_cons_zero, List.set_cons_succ, Nat.reduceAdd, Nat.reduceDiv, Nat.reduceMod, Nat.reduceMul, Nat.reduceLT, Nat.reduceLeDiff, Int32.reduceOfInt, Int64.reduceOfInt, true_and, and_true, and_self, true_or, or_true, false_implies, true_implies, not_false_eq_true, not_true_eq_false, Value.category, Nat.reduceEqDiff, Option.toList, List.cons_append, List.nil_append, List.drop_succ_cons, List.drop_zero, ax_qq_eq, ax_t_1516, ax_j_1516_29, ax_n_1516_29, ax_j_1516_50, ax_n_1516_50, ax_j_1516_51, ax_n_1516_51, ax_j_1516_59, ax_n_1516_59, ax_j_1516_65, ax_n_1516_65, kx_bt, c10, w0, g0, m1, mo_f, hal, a2, a3, a4, n1]
  refine ax_inv_of (Nat.le_of_ble_eq_true rfl) (Nat.le_of_ble_eq_true rfl) (fun _ => mO_rcv hal o1 _) (fun h => absurd h (by decide)) (Nat.le_refl _) (Nat.le_refl _) (mk_copies hal o1 x1 (x := 0) (y := 52 * (1 + m)) (m := 52) (by omega) (by omega) (by omega) ?_)
  intro es2 f1 f2
  have w2 : es2 159 = _ := (f1 159 (by decide)).trans (g0 _)
  simp only [ax_W_cons, ax_I, ax_cmp, ax_ii, ax_ll, ax_li, ax_st1, ax_st2, ax_kl, ax_k2, ax_fit, ax_rtok, List.getElem?_cons_zero, List.getElem?_cons_succ, List.length_cons, List.length_nil, List.set_cons_zero, List.set_cons_succ, Nat.reduceAdd, Nat.reduceDiv, Nat.reduceMod, Nat.reduceMul, Nat.reduceLT, Nat.reduceLeDiff, Int32.reduceOfInt, Int64.reduceOfInt, true_and, and_true, and_self, true_or, or_true, false_implies, true_implies, not_false_eq_true, not_true_eq_false, Value.category, Nat.reduceEqDiff, Option.toList, List.cons_append, List.nil_append, List.drop_succ_cons, List.drop_zero, ax_qq_eq, ax_t_1516, ax_j_1516_79, ax_n_1516_79, ax_j_1516_83, ax_n_1516_83, w2, mo_f, hal]
  obtain ⟨hal, hk, hp, hhs, hF, -, ct, op, ar, q1, q2, q3, q4⟩ := id E0
  have hup : ∀ j, j ≠ 171 ∧ j ≠ 172 ∧ j ≠ 173 ∧ j ≠ 174 ∧ j ≠ 175 → ax_up es2 159 (.inr (11, mo_f t w.1 w.2.1 w.2.2.1 w.2.2.2.1 w.2.2.2.2.1 w.2.2.2.2.2.1 w.2.2.2.2.2.2.1 w.2.2.2.2.2.2.2.1 w.2.2.2.2.2.2.2.2 (nI un) g)) j = es0 j := fun j hj => by
    rw [ax_up_id w2]
    exact (f1 j ⟨hj.1, hj.2.1, hj.2.2.1, hj.2.2.2.2⟩).trans (ax_up_ne _ _ hj.2.2.2.1)
  have hup4 : ax_up es2 159 (.inr (11, mo_f t w.1 w.2.1 w.2.2.1 w.2.2.2.1 w.2.2.2.2.1 w.2.2.2.2.2.1 w.2.2.2.2.2.2.1 w.2.2.2.2.2.2.2.1 w.2.2.2.2.2.2.2.2 (nI un) g)) 174 = .inl (2, 4, .inl (upd mb m 1)) := by
    rw [ax_up_id w2]
    exact (f1 174 (by decide)).trans (ax_up_same ..)
  refine hQ _ (mo_cp st 0 (52 * (1 + m)) 52) ⟨⟨hal, hk, hp, hhs, hF, ⟨_, _, _, _, _, _, _, _, _, _, _, _, ax_up_same ..⟩, ct, op, ar, (hup 165 (by decide)).trans q1, (hup 166 (by decide)).trans q2, (hup 167 (by decide)).trans q3, q4⟩, mX_159 f2, ⟨t, g, ax_up_same ..⟩, hun, ⟨mV_mo hk.2 hp r1 (by omega), mF_mo hz.1 r2 (by omega), fun u hu => mV_mo hk.2 hp (r3 u (by omega)) (by omega), fun j hj hmk => ?_⟩, ⟨upd mb m 1, hup4, fun j hj => ?_⟩, al, (hup 176 (by decide)).trans hA⟩ (mfd_trans (mth_d h0) (fun j hj => hup j ⟨hj.2.1, hj.2.2.1, hj.2.2.2.1, hj.2.2.2.2.1, hj.2.2.2.2.2.1⟩))
  · dsimp only at hmk ⊢
    by_cases e : j = m
    · subst e
      rw [if_pos rfl]
      refine ⟨mV_cp (by omega) r1 hk.2 hp, ?_, fun i hi => ?_⟩
      · unfold mo_cp
        rw [if_pos (by omega), show 0 + (52 * (1 + j) + 26 - 52 * (1 + j)) = 0 + 26 by omega]
        exact r2.1
      · have hi : i < Fe.1 := hi
        have hz1 := hz.1
        obtain ⟨p1, p2, p3⟩ := r2.2 i hi
        unfold mo_cp
        rw [if_pos (by omega), if_pos (by omega), if_pos (by omega), show 0 + (52 * (1 + j) + 27 + 3 * i - 52 * (1 + j)) = 0 + 27 + 3 * i by omega, show 0 + (52 * (1 + j) + 27 + 3 * i + 1 - 52 * (1 + j)) = 0 + 27 + 3 * i + 1 by omega, show 0 + (52 * (1 + j) + 27 + 3 * i + 2 - 52 * (1 + j)) = 0 + 27 + 3 * i + 2 by omega]
        exact ⟨p1, p2, p3⟩
    · rw [if_neg e] at hmk ⊢
      exact ⟨mV_mo hk.2 hp (r4 j hj hmk).1 (by omega), mF_mo (hz.2 j hj hmk) (r4 j hj hmk).2 (by omega)⟩
  · dsimp only
    by_cases e : j = m
    · subst e
      rw [if_pos rfl, upd_same]
      rfl
    · rw [if_neg e, upd_ne _ _ e]
      exact m2 j hj
theorem mp_mark_go (hz : zFs Fe mk M) (D : mD es n st w k p hc kd pm ht hs F1 F2 B Fe un U mk M) {m : Nat} {b : Int32} (hb : ¬ b = 0) (hm : m ≤ 3) (hmk : mk m = true) (hQ : ∀ es' st', mD es' n st' w k p hc kd pm ht hs F1 F2 (M m).1 (M m).2 0 U mk M → mfd es es' → Q (some (.int 1)) es') : ax_Mt (d + 10) 1516 [.ref 159, .int (nI m), .int b] n sl es Q := by
  obtain ⟨hal, hk, hp, hhs, hF, hK⟩ := id D.1
  refine ax_Mt_go (m := ax_m_11_108) (ls := [some (.ref 159), some (.int (nI m)), some (.int b)]) rfl ax_b_1516_0 (Nat.le_of_ble_eq_true rfl) rfl ?_
  refine mk_thrown hal hK.1 rfl ?_
  intro es0 h0
  have D0 := mD_th D h0
  have c10 : ¬ (1 : Int32) = 0 := by decide
  have h2 : kx_in (nI m) 0 3 = true := by
    unfold kx_in
    rw [decide_eq_true (show (0 : Int32) ≤ nI m from nI_pos' (by omega)), decide_eq_true (show nI m ≤ 3 from nI_le (b := 3) hm (by omega))]
    rfl
  simp only [ax_W_cons, ax_I, ax_cmp, ax_ii, ax_ll, ax_li, ax_st1, ax_st2, ax_kl, ax_k2, ax_fit, ax_rtok, List.getElem?_cons_zero, List.getElem?_cons_succ, List.length_cons, List.length_nil, List.set_cons_zero, List.set_cons_succ, Nat.reduceAdd, Nat.reduceDiv, Nat.reduceMod, Nat.reduceMul, Nat.reduceLT, Nat.reduceLeDiff, Int32.reduceOfInt, Int64.reduceOfInt, true_and, and_true, and_self, true_or, or_true, false_implies, true_implies, not_false_eq_true, not_true_eq_false, Value.category, Nat.reduceEqDiff, Option.toList, List.cons_append, List.nil_append, List.drop_succ_cons, List.drop_zero, ax_qq_eq, ax_t_1516]
  refine ax_inv_of (Nat.le_of_ble_eq_true rfl) (Nat.le_of_ble_eq_true rfl) (fun _ => absurd ‹_› (by decide)) (fun h => absurd h (by decide)) (Nat.le_refl _) (Nat.le_refl _) (mk_within _ _ _ ?_)
  rw [h2]
  obtain ⟨E0, hX0, ⟨t, g, hO0⟩, hun, ⟨r1, r2, r3, r4⟩, ⟨mb, m1, m2⟩, al, hA⟩ := id D0
  have w0 : es0 159 = _ := hO0
  have g0 : ∀ e, ax_up es0 174 e 159 = _ := fun e => (ax_up_ne es0 e (by decide)).trans w0
  have a2 : vp_in (nI m) 4 := nI_in (by omega) (by decide)
  have a3 : (nI m).toNatClampNeg = m := nI_clamp (by omega)
  have a4 : (52 : Int32) * (1 + nI m) = nI (52 * (1 + m)) := by
    show nI 52 * (nI 1 + nI m) = _
    rw [kn_add, kn_mul]
  have n1 : vp_nar .boolean 1 = 1 := by decide
  have m3 := m2 m (by omega)
  rw [hmk] at m3
  have m3 : mb m = 1 := m3
  have x1 : mX (ax_up es0 174 (.inl (2, 4, .inl (upd mb m 1)))) st := by
    obtain ⟨h1, ⟨fa, h2⟩, ⟨pi, h3⟩, wa, h4⟩ := hX0
    exact ⟨(ax_up_ne _ _ (by decide)).trans h1, ⟨fa, (ax_up_ne _ _ (by decide)).trans h2⟩, ⟨pi, (ax_up_ne _ _ (by decide)).trans h3⟩, wa, (ax_up_ne _ _ (by decide)).trans h4⟩
  have o1 : mO (ax_up es0 174 (.inl (2, 4, .inl (upd mb m 1)))) := ⟨_, _, _, _, _, _, _, _, _, _, _, _, g0 _⟩
  simp only [ax_W_cons, ax_I, ax_cmp, ax_ii, ax_ll, ax_li, ax_st1, ax_st2, ax_kl, ax_k2, ax_fit, ax_rtok, List.getElem?_cons_zero, List.getElem?_cons_succ, List.length_cons, List.length_nil, List.set_cons_zero, List.set_cons_succ, Nat.reduceAdd, Nat.reduceDiv, Nat.reduceMod, Nat.reduceMul, Nat.reduceLT, Nat.reduceLeDiff, Int32.reduceOfInt, Int64.reduceOfInt, true_and, and_true, and_self, true_or, or_true, false_implies, true_implies, not_false_eq_true, not_true_eq_false, Value.category, Nat.reduceEqDiff, Option.toList, List.cons_append, List.nil_append, List.drop_succ_cons, List.drop_zero, ax_qq_eq, ax_t_1516, ax_j_1516_29, ax_n_1516_29, ax_j_1516_51, ax_n_1516_51, ax_j_1516_65, ax_n_1516_65, kx_bt, c10, hb, w0, g0, m1, mo_f, hal, a2, a3, a4, n1, m3]
  refine ax_inv_of (Nat.le_of_ble_eq_true rfl) (Nat.le_of_ble_eq_true rfl) (fun _ => mO_rcv hal o1 _) (fun h => absurd h (by decide)) (Nat.le_refl _) (Nat.le_refl _) (mk_copies hal o1 x1 (x := 52 * (1 + m)) (y := 0) (m := 52) (by omega) (by omega) (by omega) ?_)
  intro es2 f1 f2
  have w2 : es2 159 = _ := (f1 159 (by decide)).trans (g0 _)
  simp only [ax_W_cons, ax_I, ax_cmp, ax_ii, ax_ll, ax_li, ax_st1, ax_st2, ax_kl, ax_k2, ax_fit, ax_rtok, List.getElem?_cons_zero, List.getElem?_cons_succ, List.length_cons, List.length_nil, List.set_cons_zero, List.set_cons_succ, Nat.reduceAdd, Nat.reduceDiv, Nat.reduceMod, Nat.reduceMul, Nat.reduceLT, Nat.reduceLeDiff, Int32.reduceOfInt, Int64.reduceOfInt, true_and, and_true, and_self, true_or, or_true, false_implies, true_implies, not_false_eq_true, not_true_eq_false, Value.category, Nat.reduceEqDiff, Option.toList, List.cons_append, List.nil_append, List.drop_succ_cons, List.drop_zero, ax_qq_eq, ax_t_1516, ax_j_1516_83, ax_n_1516_83, w2, mo_f, hal, hb]
  obtain ⟨hal, hk, hp, hhs, hF, -, ct, op, ar, q1, q2, q3, q4⟩ := id E0
  have hup : ∀ e j, j ≠ 159 ∧ j ≠ 171 ∧ j ≠ 172 ∧ j ≠ 173 ∧ j ≠ 174 ∧ j ≠ 175 → ax_up es2 159 e j = es0 j := fun e j hj => (ax_up_ne _ _ hj.1).trans ((f1 j ⟨hj.2.1, hj.2.2.1, hj.2.2.2.1, hj.2.2.2.2.2⟩).trans (ax_up_ne _ _ hj.2.2.2.2.1))
  have hz1 := hz.2 m (by omega) hmk
  obtain ⟨s1, s2⟩ := r4 m (by omega) hmk
  refine hQ _ (mo_cp st (52 * (1 + m)) 0 52) ⟨⟨hal, hk, hp, hhs, hF, ⟨_, _, _, _, _, _, _, _, _, _, _, _, ax_up_same ..⟩, ct, op, ar, (hup _ 165 (by decide)).trans q1, (hup _ 166 (by decide)).trans q2, (hup _ 167 (by decide)).trans q3, q4⟩, mX_159 f2, ⟨t, g, ax_up_same ..⟩, by omega, ⟨mV_cp (by omega) s1 hk.2 hp, ⟨?_, fun i hi => ?_⟩, fun u hu => by omega, fun j hj hmk => ⟨mV_mo hk.2 hp (r4 j hj hmk).1 (by omega), mF_mo (hz.2 j hj hmk) (r4 j hj hmk).2 (by omega)⟩⟩, ⟨upd mb m 1, (ax_up_ne _ _ (by decide)).trans ((f1 174 (by decide)).trans (ax_up_same ..)), fun j hj => ?_⟩, al, (hup _ 176 (by decide)).trans hA⟩ (mfd_trans (mth_d h0) (fun j hj => hup _ j ⟨hj.1, hj.2.1, hj.2.2.1, hj.2.2.2.1, hj.2.2.2.2.1, hj.2.2.2.2.2.1⟩))
  · unfold mo_cp
    rw [if_pos (by omega)]
    exact s2.1
  · have hi : i < (M m).2.1 := hi
    obtain ⟨p1, p2, p3⟩ := s2.2 i hi
    unfold mo_cp
    rw [if_pos (by omega), if_pos (by omega), if_pos (by omega), show 52 * (1 + m) + (0 + 27 + 3 * i - 0) = 52 * (1 + m) + 27 + 3 * i by omega, show 52 * (1 + m) + (0 + 27 + 3 * i + 1 - 0) = 52 * (1 + m) + 27 + 3 * i + 1 by omega, show 52 * (1 + m) + (0 + 27 + 3 * i + 2 - 0) = 52 * (1 + m) + 27 + 3 * i + 2 by omega]
    exact ⟨p1, p2, p3⟩
  · by_cases e : j = m
    · subst e
      rw [upd_same, hmk]
      rfl
    · rw [upd_ne _ _ e]
      exact m2 j hj
end MM
