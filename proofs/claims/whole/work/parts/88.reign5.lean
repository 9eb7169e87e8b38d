/-! the class: reign() -/
theorem kx_c40 : ¬ (40 : Int32) < 0 := by decide
theorem kx_n40 : (40 : Int32).toNatClampNeg = 40 := by decide
section TT
variable {d n sl k p hc un L : Nat} {es : ax_H} {kd pl0 ht hs la lb lc : Nat → Int32} {F1 F2 : Int32 → Int32 → Int32 → Int32 → Int32} {B : zB} {Fe : zF} {U : Nat → zB} {mk : Nat → Bool} {M : Nat → zB × zF} {t : zTp} {cs : List zCr} {Q : Option Value → ax_H → Prop}
theorem ck_reignCopy (hal : ax_al n = 178) (hG : kG es L la lb lc) {L' : Int32} {la' lb' lc' : Nat → Int32} (hR : xRh es L' la' lb' lc') (hQ : ∀ es', es' 16 = .inr (7, [.int L', .ref 17, .ref 18, .ref 19]) → es' 17 = .inl (0, 40, .inl (va_cpy la' la 0 0 40)) → es' 18 = .inl (0, 40, .inl (va_cpy lb' lb 0 0 40)) → es' 19 = .inl (0, 40, .inl (va_cpy lc' lc 0 0 40)) → (∀ j, (j < 16 ∨ 19 < j) → es' j = es j) → Q none es') : ax_Mt (d + 2) 897 [.ref 16, .ref 34] n sl es Q := by
  obtain ⟨g1, g2, g3, g4⟩ := hG
  obtain ⟨r1, r2, r3, r4⟩ := hR
  have hd : 1 ≤ d + 2 := by omega
  have a1 : ∀ es e, ax_up es 16 e 34 = es 34 := fun es e => ax_up_ne es e (by decide)
  have a2 : ∀ es e, ax_up es 17 e 34 = es 34 := fun es e => ax_up_ne es e (by decide)
  have a3 : ∀ es e, ax_up es 18 e 34 = es 34 := fun es e => ax_up_ne es e (by decide)
  have a4 : ∀ es e, ax_up es 16 e 35 = es 35 := fun es e => ax_up_ne es e (by decide)
  have a5 : ∀ es e, ax_up es 16 e 36 = es 36 := fun es e => ax_up_ne es e (by decide)
  have a6 : ∀ es e, ax_up es 17 e 36 = es 36 := fun es e => ax_up_ne es e (by decide)
  have a7 : ∀ es e, ax_up es 16 e 37 = es 37 := fun es e => ax_up_ne es e (by decide)
  have a8 : ∀ es e, ax_up es 17 e 37 = es 37 := fun es e => ax_up_ne es e (by decide)
  have a9 : ∀ es e, ax_up es 18 e 37 = es 37 := fun es e => ax_up_ne es e (by decide)
  have b1 : ∀ es e, ax_up es 17 e 16 = es 16 := fun es e => ax_up_ne es e (by decide)
  have b2 : ∀ es e, ax_up es 18 e 16 = es 16 := fun es e => ax_up_ne es e (by decide)
  have b3 : ∀ es e, ax_up es 16 e 17 = es 17 := fun es e => ax_up_ne es e (by decide)
  have b4 : ∀ es e, ax_up es 16 e 18 = es 18 := fun es e => ax_up_ne es e (by decide)
  have b5 : ∀ es e, ax_up es 17 e 18 = es 18 := fun es e => ax_up_ne es e (by decide)
  have b6 : ∀ es e, ax_up es 16 e 19 = es 19 := fun es e => ax_up_ne es e (by decide)
  have b7 : ∀ es e, ax_up es 17 e 19 = es 19 := fun es e => ax_up_ne es e (by decide)
  have b8 : ∀ es e, ax_up es 18 e 19 = es 19 := fun es e => ax_up_ne es e (by decide)
  refine ax_Mt_go (m := ax_m_7_1) (ls := [some (.ref 16), some (.ref 34)]) rfl ax_b_897_0 (Nat.le_of_ble_eq_true rfl) rfl ?_
  simp only [ax_W_cons, ax_I, ax_cmp, ax_ii, ax_ll, ax_li, ax_st1, ax_st2, ax_kl, ax_k2, ax_fit, ax_rtok, List.getElem?_cons_zero, List.getElem?_cons_succ, List.length_cons, List.length_nil, List.set_cons_zero, List.set_cons_succ, Nat.reduceAdd, Nat.reduceDiv, Nat.reduceMod, Nat.reduceMul, Nat.reduceLT, Nat.reduceLeDiff, Int32.reduceOfInt, Int64.reduceOfInt, true_and, and_true, and_self, true_or, or_true, false_implies, true_implies, not_false_eq_true, not_true_eq_false, Value.category, Nat.reduceEqDiff, Option.toList, List.cons_append, List.nil_append, List.drop_succ_cons, List.drop_zero, ax_qq_eq, ax_t_897, ax_bi, g1, g2, g3, g4, r1, r2, r3, r4, a1, a2, a3, a4, a5, a6, a7, a8, a9, b1, b2, b3, b4, b5, b6, b7, b8, ax_up_same, hal, hd, kx_c0, kx_c40, kx_n0, kx_n40, kx_cat0, Nat.le_refl, Nat.zero_add]
  refine hQ _ ?_ ?_ ?_ (ax_up_same ..) (fun j hj => ?_)
  · rw [ax_up_ne _ _ (by decide), b2, b1]
    exact ax_up_same ..
  · rw [ax_up_ne _ _ (by decide), ax_up_ne _ _ (by decide)]
    exact ax_up_same ..
  · rw [ax_up_ne _ _ (by decide)]
    exact ax_up_same ..
  · rw [ax_up_ne _ _ (by omega), ax_up_ne _ _ (by omega), ax_up_ne _ _ (by omega), ax_up_ne _ _ (by omega)]
theorem xp_reign (X : xD es n k cs.length hc kd pl0 ht hs F1 F2 B Fe un U mk M L la lb lc) (hN : xNm es cs) (hT : zT_ok t) (T : xTp es t) (hR : xRd es) (hS : xRs es) (h1 : ∀ es' ls la' lb' lc', zReign t cs = .inr ls → ls.length ≤ 40 → zrc ls la' lb' lc' → xTp es' (0, t.2) → xRd es' → xRs es' → xD es' n k cs.length hc kd pl0 ht hs F1 F2 B Fe un U mk M ls.length la' lb' lc' → (∀ j, j ≠ 1 → (j < 16 ∨ 19 < j) → (j < 34 ∨ 37 < j) → es' j = es j) → Q (some (.int 0)) es') (h0 : ∀ es' x, zReign t cs = .inl x → xTp es' (0, t.2) → xRd es' → xRs es' → xD es' n k cs.length hc kd pl0 ht hs F1 F2 B Fe un U mk M L la lb lc → xfQ es es' → Q (some (.int (nI (x.1 + 16 * zpl t x.2)))) es') : ax_Mt (d + 20) 1283 [.ref 0] n sl es Q := by
  obtain ⟨x0, hal, hk, hp, hhs, hC, hb, hSe, hfe, hG, hP⟩ := id X
  unfold zXo at x0
  obtain ⟨once, nm, code, a1, b1, a2, b2, c3, -⟩ := id hC
  have hTd : xTd es cs := ⟨⟨_, _, _, _, _, c3⟩, hN⟩
  have mk' : ∀ es1 L1 la1 lb1 lc1, kG es1 L1 la1 lb1 lc1 → (∀ j, j ≠ 1 → (j < 16 ∨ 19 < j) → (j < 34 ∨ 37 < j) → es1 j = es j) → xD es1 n k cs.length hc kd pl0 ht hs F1 F2 B Fe un U mk M L1 la1 lb1 lc1 := fun es1 L1 la1 lb1 lc1 hG1 f1 => ⟨(f1 0 (by decide) (by decide) (by decide)).trans x0, hal, hk, hp, hhs, kC_frr hC (fun j hj => f1 j (by omega) (by omega) (by omega)), kb_fr hb (fun j hj => f1 j (by omega) (by omega) (by omega)), kSe_fr hSe (fun j hj => f1 j (by omega) (by omega) (by omega)), kfF_fr hfe (fun j hj => f1 j (by omega) (by omega) (by omega)), hG1, kP_fr hP (fun j hj => f1 j (by omega) (by omega) (by omega))⟩
  have gfr : ∀ es1, xfQ es es1 → kG es1 L la lb lc := fun es1 f1 => ⟨(f1 16 (by decide) (by decide)).trans hG.1, (f1 17 (by decide) (by decide)).trans hG.2.1, (f1 18 (by decide) (by decide)).trans hG.2.2.1, (f1 19 (by decide) (by decide)).trans hG.2.2.2⟩
  refine ax_Mt_go (m := ax_m_10_3) (ls := [some (.ref 0), none]) rfl ax_b_1283_0 (Nat.le_of_ble_eq_true rfl) rfl ?_
  simp only [ax_W_cons, ax_I, ax_cmp, ax_ii, ax_ll, ax_li, ax_st1, ax_st2, ax_kl, ax_k2, ax_fit, ax_rtok, List.getElem?_cons_zero, List.getElem?_cons_succ, List.length_cons, List.length_nil, List.set_cons_zero, List.set_cons_succ, Nat.reduceAdd, Nat.reduceDiv, Nat.reduceMod, Nat.reduceMul, Nat.reduceLT, Nat.reduceLeDiff, Int32.reduceOfInt, Int64.reduceOfInt, true_and, and_true, and_self, true_or, or_true, false_implies, true_implies, not_false_eq_true, not_true_eq_false, Value.category, Nat.reduceEqDiff, Option.toList, List.cons_append, List.nil_append, List.drop_succ_cons, List.drop_zero, ax_qq_eq, ax_t_1283, x0, hal]
  refine ax_inv_of (Nat.le_of_ble_eq_true rfl) (Nat.le_of_ble_eq_true rfl) (fun _ => xRd_rcv hal hR _) (fun h => absurd h (by decide)) (Nat.le_refl _) (Nat.le_refl _) (ck_readReign (d := d + 2) hal hT T hR hS hTd ?_ ?_)
  rotate_left
  · intro es1 x hx T1 R1 S1 f1
    have hne : ¬ nI (x.1 + 16 * zpl t x.2) = 0 := zflt hT (zRlines_f _ _ _ hx)
    simp only [ax_W_cons, ax_I, ax_cmp, ax_ii, ax_ll, ax_li, ax_st1, ax_st2, ax_kl, ax_k2, ax_fit, ax_rtok, List.getElem?_cons_zero, List.getElem?_cons_succ, List.length_cons, List.length_nil, List.set_cons_zero, List.set_cons_succ, Nat.reduceAdd, Nat.reduceDiv, Nat.reduceMod, Nat.reduceMul, Nat.reduceLT, Nat.reduceLeDiff, Int32.reduceOfInt, Int64.reduceOfInt, true_and, and_true, and_self, true_or, or_true, false_implies, true_implies, not_false_eq_true, not_true_eq_false, Value.category, Nat.reduceEqDiff, Option.toList, List.cons_append, List.nil_append, List.drop_succ_cons, List.drop_zero, ax_qq_eq, ax_t_1283, ax_j_1283_26, ax_n_1283_26, hne]
    exact h0 es1 x hx T1 R1 S1 (mk' es1 L la lb lc (gfr es1 f1) (fun j a b c => f1 j a c)) f1
  intro es1 ls hls T1 R1 S1 f1
  obtain ⟨l40, la1, lb1, lc1, Rh, hrc⟩ := S1
  obtain ⟨rv, rb, w20⟩ := id R1
  have y0 := (f1 0 (by decide) (by decide)).trans x0
  have G1 := gfr es1 f1
  simp only [ax_W_cons, ax_I, ax_cmp, ax_ii, ax_ll, ax_li, ax_st1, ax_st2, ax_kl, ax_k2, ax_fit, ax_rtok, List.getElem?_cons_zero, List.getElem?_cons_succ, List.length_cons, List.length_nil, List.set_cons_zero, List.set_cons_succ, Nat.reduceAdd, Nat.reduceDiv, Nat.reduceMod, Nat.reduceMul, Nat.reduceLT, Nat.reduceLeDiff, Int32.reduceOfInt, Int64.reduceOfInt, true_and, and_true, and_self, true_or, or_true, false_implies, true_implies, not_false_eq_true, not_true_eq_false, Value.category, Nat.reduceEqDiff, Option.toList, List.cons_append, List.nil_append, List.drop_succ_cons, List.drop_zero, ax_qq_eq, ax_t_1283, ax_j_1283_26, ax_n_1283_26, y0, w20, hal]
  refine ax_inv_of (Nat.le_of_ble_eq_true rfl) (Nat.le_of_ble_eq_true rfl) (fun _ => ax_rcv_ok (by omega) G1.1) (fun h => absurd h (by decide)) (Nat.le_refl _) (Nat.le_refl _) (ck_reignCopy hal G1 Rh ?_)
  intro es2 k1 k2 k3 k4 f2
  simp only [ax_W_cons, ax_I, ax_cmp, ax_ii, ax_ll, ax_li, ax_st1, ax_st2, ax_kl, ax_k2, ax_fit, ax_rtok, List.getElem?_cons_zero, List.getElem?_cons_succ, List.length_cons, List.length_nil, List.set_cons_zero, List.set_cons_succ, Nat.reduceAdd, Nat.reduceDiv, Nat.reduceMod, Nat.reduceMul, Nat.reduceLT, Nat.reduceLeDiff, Int32.reduceOfInt, Int64.reduceOfInt, true_and, and_true, and_self, true_or, or_true, false_implies, true_implies, not_false_eq_true, not_true_eq_false, Value.category, Nat.reduceEqDiff, Option.toList, List.cons_append, List.nil_append, List.drop_succ_cons, List.drop_zero, ax_qq_eq, ax_t_1283, ax_j_1283_26, ax_n_1283_26]
  refine h1 es2 ls _ _ _ hls l40 (fun i hi => ?_) ?_ ⟨rv, rb, (f2 20 (by decide)).trans w20⟩ ⟨_, la1, lb1, lc1, xRh_fr Rh (fun j a b => f2 j (by omega))⟩ (mk' es2 ls.length _ _ _ ⟨k1, k2, k3, k4⟩ (fun j a b c => (f2 j b).trans (f1 j a c))) (fun j a b c => (f2 j b).trans (f1 j a c))
  · rw [zcpy_in _ _ _ (by omega), zcpy_in _ _ _ (by omega), zcpy_in _ _ _ (by omega)]
    exact hrc i hi
  · obtain ⟨⟨kd3, nb, nm3, tk, ft, pl3, nx3, w1⟩, sg, hS1, hj⟩ := T1
    exact ⟨⟨kd3, nb, nm3, tk, ft, pl3, nx3, (f2 1 (by decide)).trans w1⟩, sg, (f2 2 (by decide)).trans hS1, hj⟩
end TT
