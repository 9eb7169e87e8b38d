/-! the reference: an E is read -/
def rE (es : ax_H) (t : zTp) (c : rC) (a : Nat) (fl : Int32) (v : rV) (op ar : Nat → Int32) : Prop := rS es t c a fl v ∧ es 166 = .inl (0, 2200, .inl op) ∧ es 167 = .inl (0, 2200, .inl ar)
def rfE (es es' : ax_H) : Prop := ∀ j, j ≠ 159 ∧ j ≠ 166 ∧ j ≠ 167 → es' j = es j
theorem rfE_trans {a b c : ax_H} (h1 : rfE a b) (h2 : rfE b c) : rfE a c := fun j hj => (h2 j hj).trans (h1 j hj)
theorem rfE_1 {a b : ax_H} (h : ∀ j, j ≠ 159 → b j = a j) : rfE a b := fun j hj => h j hj.1
def rlow (op ar op' ar' : Nat → Int32) : Prop := ∀ j, j < 1100 → op' j = op j ∧ ar' j = ar j
theorem rlow_trans {a b c e f g : Nat → Int32} (h1 : rlow a b c e) (h2 : rlow c e f g) : rlow a b f g := fun j hj => ⟨(h2 j hj).1.trans (h1 j hj).1, (h2 j hj).2.trans (h1 j hj).2⟩
theorem zapp_low {op : Nat → Int32} {m : Nat} {c : List Int32} {j : Nat} (hj : j < 1100) : zapp op (1100 + m) c j = op j := by
  unfold zapp
  rw [if_neg (by omega)]
theorem rlow_app (op ar : Nat → Int32) (m : Nat) (c c' : List Int32) : rlow op ar (zapp op (1100 + m) c) (zapp ar (1100 + m) c') := fun j hj => ⟨zapp_low hj, zapp_low hj⟩
theorem rapp (op : Nat → Int32) (F : Int32 → Int32) (m : Nat) (c c' : List Int32) : zapp (zapp op (1100 + m) (c.map F)) (1100 + (m + c.length)) (c'.map F) = zapp op (1100 + m) ((c ++ c').map F) := by
  rw [List.map_append, ← zapp_app, List.length_map, Nat.add_assoc]
theorem rapp3 (op : Nat → Int32) {F : Int32 → Int32} {z y : Int32} (hy : F z = y) (m : Nat) (c c' : List Int32) : zapp (zapp (zapp op (1100 + m) (c.map F)) (1100 + (m + c.length)) (c'.map F)) (1100 + (m + c.length + c'.length)) [y] = zapp op (1100 + m) ((c ++ (c' ++ [z])).map F) := by
  have h := rapp op F m (c ++ c') [z]
  rw [← rapp, List.length_append, List.append_assoc] at h
  rw [← h, ← hy, Nat.add_assoc m]
  rfl
theorem rapp2 (op : Nat → Int32) {F : Int32 → Int32} {z y : Int32} (hy : F z = y) (m : Nat) (c : List Int32) : zapp (zapp op (1100 + m) (c.map F)) (1100 + (m + c.length)) [y] = zapp op (1100 + m) ((c ++ [z]).map F) := by
  rw [← rapp, ← hy]
  rfl
def rCt (n sl : Nat) (t : zTp) (c : rC) (fh : Int32) (D M : Nat) (args : List Value) (P : Nat → zR) : Prop := ∀ (d : Nat) (es : ax_H) (a : Nat) (v : rV) (op ar : Nat → Int32) (Q : Option Value → ax_H → Prop), D ≤ d → rE es t c a 0 v op ar → v.1 ≤ a → v.2.2.2 = fh → (∀ r es', P a = .inr r → rE es' t c r.1 0 (v.1 + r.2.length, v.2) (zapp op (1100 + v.1) (r.2.map zop)) (zapp ar (1100 + v.1) (r.2.map zar)) → rfE es es' → Q none es') → (∀ x es' cd op' ar', P a = .inl x → rE es' t c x.2 (nI (x.1 + 16 * zpl t x.2)) (cd, v.2) op' ar' → rFl (nI (x.1 + 16 * zpl t x.2)) → cd ≤ v.1 + (x.2 - a) → rlow op ar op' ar' → rfE es es' → Q none es') → ax_Mt d M args n sl es Q
theorem zlev_3 {k : Nat} : zlev k = 3 ↔ k = 42 := by
  unfold zlev
  split
  · omega
  · split
    · omega
    · split
      · omega
      · split <;> omega
theorem zlev_2 {k : Nat} : zlev k = 2 ↔ (k = 43 ∨ k = 45) := by
  unfold zlev
  split
  · omega
  · split
    · omega
    · split
      · omega
      · split <;> omega
theorem zlev_1 {k : Nat} : zlev k = 1 ↔ (k = 60 ∨ k = 61) := by
  unfold zlev
  split
  · omega
  · split
    · omega
    · split
      · omega
      · split <;> omega
theorem zlev_0 {k : Nat} : zlev k = 0 ↔ (k = 18 ∨ k = 19) := by
  unfold zlev
  split
  · omega
  · split
    · omega
    · split
      · omega
      · split <;> omega
section TT
variable {d n sl : Nat} {es : ax_H} {t : zTp} {c : rC} {a : Nat} {fl fh : Int32} {v : rV} {op ar : Nat → Int32} {Q : Option Value → ax_H → Prop}
theorem rE_1 {es' : ax_H} {a' : Nat} {fl' : Int32} {v' : rV} (h : rE es t c a fl v op ar) (h1 : rS es' t c a' fl' v') (hf : ∀ j, j ≠ 159 → es' j = es j) : rE es' t c a' fl' v' op ar := ⟨h1, (hf 166 (by decide)).trans h.2.1, (hf 167 (by decide)).trans h.2.2⟩
theorem mk_emit (hal : ax_al n = 178) (h : rE es t c a fl v op ar) (hcd : v.1 < 1100) (x y : Int32) (hQ : ∀ es', rE es' t c a fl (v.1 + 1, v.2) (zapp op (1100 + v.1) [x]) (zapp ar (1100 + v.1) [y]) → rfE es es' → Q none es') : ax_Mt d 1438 [.ref 159, .int x, .int y] n sl es Q := by
  obtain ⟨S, w1, w2⟩ := id h
  have w0 : es 159 = _ := S.1
  have e0 : 1100 + nI v.1 = nI (1100 + v.1) := by
    show nI 1100 + nI v.1 = _
    rw [kn_add]
  have e1 : vp_in (nI (1100 + v.1)) 2200 := nI_in (by omega) (by decide)
  have e2 : (nI (1100 + v.1)).toNatClampNeg = 1100 + v.1 := nI_clamp (by omega)
  have e4 : nI v.1 + 1 = nI (v.1 + 1) := (nI_succ v.1).symm
  rw [zapp_one, zapp_one] at hQ
  refine ax_Mt_go (m := ax_m_11_30) (ls := [some (.ref 159), some (.int x), some (.int y)]) rfl ax_b_1438_0 (Nat.le_of_ble_eq_true rfl) rfl ?_
  simp only [ax_W_cons, ax_I, ax_cmp, ax_ii, ax_ll, ax_li, ax_st1, ax_st2, ax_kl, ax_k2, ax_fit, ax_rtok, List.getElem?_cons_zero, List.getElem?_cons_succ, List.length_cons, List.length_nil, List.set_cons_zero, List.set_cons_succ, Nat.reduceAdd, Nat.reduceDiv, Nat.reduceMod, Nat.reduceMul, Nat.reduceLT, Nat.reduceLeDiff, Int32.reduceOfInt, Int64.reduceOfInt, true_and, and_true, and_self, true_or, or_true, false_implies, true_implies, not_false_eq_true, not_true_eq_false, Value.category, Nat.reduceEqDiff, Option.toList, List.cons_append, List.nil_append, List.drop_succ_cons, List.drop_zero, ax_qq_eq, ax_t_1438, w0, w1, w2, mo_f, hal, e0, e1, e2, e4, ax_up_same, ax_up_ne, ne_eq]
  have f3 : ∀ (e1 e2 e3 : ax_E), rfE es (ax_up (ax_up (ax_up es 166 e1) 167 e2) 159 e3) := fun e1 e2 e3 j hj => by
    rw [ax_up_ne _ _ hj.1, ax_up_ne _ _ hj.2.2, ax_up_ne _ _ hj.2.1]
  refine hQ _ ⟨rS_up S (ax_up_same ..) (fun j hj h5 => f3 _ _ _ j ⟨hj, by omega, by omega⟩) S.2.2.2, ?_, ?_⟩ (f3 _ _ _)
  · rw [ax_up_ne _ _ (by decide), ax_up_ne _ _ (by decide), ax_up_same]
  · rw [ax_up_ne _ _ (by decide), ax_up_same]
end TT
section TT
variable {n sl : Nat} {t : zTp} {c : rC} {fh : Int32}
theorem rCt_3 {D dp : Nat} {P : Nat → zR} (hal : ax_al n = 178) (ht : zT_ok t) (hD : 3 ≤ D) (hP : zgo t P) (hC : rCt n sl t c fh D 1443 [.ref 159, .int (nI dp)] P) : rCt n sl t c fh (D + 1) 1442 [.ref 159, .int (nI dp)] (zlv t P 3 (zfu 3)) := by
  intro d es a v op ar Q hd E hcd hfh hok hfail
  obtain ⟨d, rfl⟩ : ∃ z, d = z + 4 := ⟨d - 4, by omega⟩
  have hL := ht.1
  have c10 : ¬ (1 : Int32) = 0 := by decide
  -- no more in a fault
  have stop : ∀ es2 a2 fl2 v2 op2 ar2, rE es2 t c a2 fl2 v2 op2 ar2 → rFl fl2 → Q none es2 → ax_W (d + 4) n sl 1442 [(1, .aload 0), (2, .iconst 42), (3, .invokeinterface 1421 9), (3, .ifCond .eq 29), (1, .aload 0), (1, .iload 1), (3, .invokeinterface 1443 9), (1, .aload 0), (2, .iconst 6), (1, .iconst 0), (3, .invokeinterface 1438 13), (3, .goto 5)] 5 [some (.ref 159), some (.int (nI dp))] [] n sl es2 (ax_qq n sl Q) := by
    intro es2 a2 fl2 v2 op2 ar2 E2 f2 hq
    simp only [ax_W_cons, ax_I, ax_cmp, ax_ii, ax_ll, ax_li, ax_st1, ax_st2, ax_kl, ax_k2, ax_fit, ax_rtok, List.getElem?_cons_zero, List.getElem?_cons_succ, List.length_cons, List.length_nil, List.set_cons_zero, List.set_cons_succ, Nat.reduceAdd, Nat.reduceDiv, Nat.reduceMod, Nat.reduceMul, Nat.reduceLT, Nat.reduceLeDiff, Int32.reduceOfInt, Int64.reduceOfInt, true_and, and_true, and_self, true_or, or_true, false_implies, true_implies, not_false_eq_true, not_true_eq_false, Value.category, Nat.reduceEqDiff, Option.toList, List.cons_append, List.nil_append, List.drop_succ_cons, List.drop_zero, ax_qq_eq, ax_t_1442]
    refine ax_inv_of (Nat.le_of_ble_eq_true rfl) (Nat.le_of_ble_eq_true rfl) (fun _ => rS_rcv hal E2.1 _) (fun h => absurd h (by decide)) (Nat.le_refl _) (Nat.le_refl _) (mk_hasSign (x := 42) hal ht E2.1 (by decide) (by decide) ?_ ?_)
    · intro es3 z
      exact absurd z f2.1
    · intro _
      simp only [ax_W_cons, ax_I, ax_cmp, ax_ii, ax_ll, ax_li, ax_st1, ax_st2, ax_kl, ax_k2, ax_fit, ax_rtok, List.getElem?_cons_zero, List.getElem?_cons_succ, List.length_cons, List.length_nil, List.set_cons_zero, List.set_cons_succ, Nat.reduceAdd, Nat.reduceDiv, Nat.reduceMod, Nat.reduceMul, Nat.reduceLT, Nat.reduceLeDiff, Int32.reduceOfInt, Int64.reduceOfInt, true_and, and_true, and_self, true_or, or_true, false_implies, true_implies, not_false_eq_true, not_true_eq_false, Value.category, Nat.reduceEqDiff, Option.toList, List.cons_append, List.nil_append, List.drop_succ_cons, List.drop_zero, ax_qq_eq, ax_t_1442, ax_j_1442_29, ax_n_1442_29]
      exact hq
  refine ax_Mt_go (m := ax_m_11_34) (ls := [some (.ref 159), some (.int (nI dp))]) rfl ax_b_1442_0 (Nat.le_of_ble_eq_true rfl) rfl ?_
  simp only [ax_W_cons, ax_I, ax_cmp, ax_ii, ax_ll, ax_li, ax_st1, ax_st2, ax_kl, ax_k2, ax_fit, ax_rtok, List.getElem?_cons_zero, List.getElem?_cons_succ, List.length_cons, List.length_nil, List.set_cons_zero, List.set_cons_succ, Nat.reduceAdd, Nat.reduceDiv, Nat.reduceMod, Nat.reduceMul, Nat.reduceLT, Nat.reduceLeDiff, Int32.reduceOfInt, Int64.reduceOfInt, true_and, and_true, and_self, true_or, or_true, false_implies, true_implies, not_false_eq_true, not_true_eq_false, Value.category, Nat.reduceEqDiff, Option.toList, List.cons_append, List.nil_append, List.drop_succ_cons, List.drop_zero, ax_qq_eq, ax_t_1442]
  refine ax_inv_of (Nat.le_of_ble_eq_true rfl) (Nat.le_of_ble_eq_true rfl) (fun _ => rS_rcv hal E.1 _) (fun h => absurd h (by decide)) (Nat.le_refl _) (Nat.le_refl _) (hC _ es a v op ar _ (by omega) E hcd hfh ?_ ?_)
  rotate_left
  · intro x es1 cd op' ar' hx E1 f1 hc1 hl1 g1
    simp only [ax_W_cons, ax_I, ax_cmp, ax_ii, ax_ll, ax_li, ax_st1, ax_st2, ax_kl, ax_k2, ax_fit, ax_rtok, List.getElem?_cons_zero, List.getElem?_cons_succ, List.length_cons, List.length_nil, List.set_cons_zero, List.set_cons_succ, Nat.reduceAdd, Nat.reduceDiv, Nat.reduceMod, Nat.reduceMul, Nat.reduceLT, Nat.reduceLeDiff, Int32.reduceOfInt, Int64.reduceOfInt, true_and, and_true, and_self, true_or, or_true, false_implies, true_implies, not_false_eq_true, not_true_eq_false, Value.category, Nat.reduceEqDiff, Option.toList, List.cons_append, List.nil_append, List.drop_succ_cons, List.drop_zero, ax_qq_eq, ax_t_1442]
    rw [ax_n_1442_5]
    refine stop es1 _ _ _ _ _ E1 f1 (hfail x es1 cd op' ar' ?_ E1 f1 hc1 hl1 g1)
    unfold zlv
    rw [hx]
  intro r0 es1 hr0 E1 f1
  have hzl : zlv t P 3 (zfu 3) a = zlp t P 3 1000 r0.1 r0.2 := by
    unfold zlv
    rw [hr0]
    rfl
  obtain ⟨g1, g2, g3⟩ := (hP a).1 _ hr0
  rw [hzl] at hok hfail
  have LL : ∀ f es2 a2 c2, 1001 ≤ f + a2 → a ≤ a2 → c2.length ≤ a2 - a → zlp t P 3 f a2 c2 = zlp t P 3 1000 r0.1 r0.2 → rE es2 t c a2 0 (v.1 + c2.length, v.2) (zapp op (1100 + v.1) (c2.map zop)) (zapp ar (1100 + v.1) (c2.map zar)) → rfE es es2 → ax_W (d + 4) n sl 1442 [(1, .aload 0), (2, .iconst 42), (3, .invokeinterface 1421 9), (3, .ifCond .eq 29), (1, .aload 0), (1, .iload 1), (3, .invokeinterface 1443 9), (1, .aload 0), (2, .iconst 6), (1, .iconst 0), (3, .invokeinterface 1438 13), (3, .goto 5)] 5 [some (.ref 159), some (.int (nI dp))] [] n sl es2 (ax_qq n sl Q) := by
    intro f
    induction f with
    | zero =>
      intro es2 a2 c2 h1 h2 h3 hz E2
      have := zpre_le E2.1.2.2.2
      omega
    | succ f ih =>
      intro es2 a2 c2 h1 h2 h3 hz E2 f2
      rw [zlp] at hz
      simp only [ax_W_cons, ax_I, ax_cmp, ax_ii, ax_ll, ax_li, ax_st1, ax_st2, ax_kl, ax_k2, ax_fit, ax_rtok, List.getElem?_cons_zero, List.getElem?_cons_succ, List.length_cons, List.length_nil, List.set_cons_zero, List.set_cons_succ, Nat.reduceAdd, Nat.reduceDiv, Nat.reduceMod, Nat.reduceMul, Nat.reduceLT, Nat.reduceLeDiff, Int32.reduceOfInt, Int64.reduceOfInt, true_and, and_true, and_self, true_or, or_true, false_implies, true_implies, not_false_eq_true, not_true_eq_false, Value.category, Nat.reduceEqDiff, Option.toList, List.cons_append, List.nil_append, List.drop_succ_cons, List.drop_zero, ax_qq_eq, ax_t_1442]
      refine ax_inv_of (Nat.le_of_ble_eq_true rfl) (Nat.le_of_ble_eq_true rfl) (fun _ => rS_rcv hal E2.1 _) (fun h => absurd h (by decide)) (Nat.le_refl _) (Nat.le_refl _) (mk_hasSign (x := 42) hal ht E2.1 (by decide) (by decide) ?_ ?_)
      · intro es3 _ hk S3 f3
        rw [if_pos (zlev_3.mpr hk)] at hz
        have E3 := rE_1 E2 S3 f3
        simp only [ax_W_cons, ax_I, ax_cmp, ax_ii, ax_ll, ax_li, ax_st1, ax_st2, ax_kl, ax_k2, ax_fit, ax_rtok, List.getElem?_cons_zero, List.getElem?_cons_succ, List.length_cons, List.length_nil, List.set_cons_zero, List.set_cons_succ, Nat.reduceAdd, Nat.reduceDiv, Nat.reduceMod, Nat.reduceMul, Nat.reduceLT, Nat.reduceLeDiff, Int32.reduceOfInt, Int64.reduceOfInt, true_and, and_true, and_self, true_or, or_true, false_implies, true_implies, not_false_eq_true, not_true_eq_false, Value.category, Nat.reduceEqDiff, Option.toList, List.cons_append, List.nil_append, List.drop_succ_cons, List.drop_zero, ax_qq_eq, ax_t_1442, c10]
        refine ax_inv_of (Nat.le_of_ble_eq_true rfl) (Nat.le_of_ble_eq_true rfl) (fun _ => rS_rcv hal E3.1 _) (fun h => absurd h (by decide)) (Nat.le_refl _) (Nat.le_refl _) (hC _ es3 (a2 + 1) _ _ _ _ (by omega) E3 (by dsimp only; omega) hfh ?_ ?_)
        · intro r3 es4 hr3 E4 f4
          rw [hr3] at hz
          obtain ⟨q1, q2, q3⟩ := (hP (a2 + 1)).1 _ hr3
          have hb := zpre_le E4.1.2.2.2
          simp only [ax_W_cons, ax_I, ax_cmp, ax_ii, ax_ll, ax_li, ax_st1, ax_st2, ax_kl, ax_k2, ax_fit, ax_rtok, List.getElem?_cons_zero, List.getElem?_cons_succ, List.length_cons, List.length_nil, List.set_cons_zero, List.set_cons_succ, Nat.reduceAdd, Nat.reduceDiv, Nat.reduceMod, Nat.reduceMul, Nat.reduceLT, Nat.reduceLeDiff, Int32.reduceOfInt, Int64.reduceOfInt, true_and, and_true, and_self, true_or, or_true, false_implies, true_implies, not_false_eq_true, not_true_eq_false, Value.category, Nat.reduceEqDiff, Option.toList, List.cons_append, List.nil_append, List.drop_succ_cons, List.drop_zero, ax_qq_eq, ax_t_1442]
          refine ax_inv_of (Nat.le_of_ble_eq_true rfl) (Nat.le_of_ble_eq_true rfl) (fun _ => rS_rcv hal E4.1 _) (fun h => absurd h (by decide)) (Nat.le_refl _) (Nat.le_refl _) (mk_emit hal E4 (by dsimp only; omega) _ _ ?_)
          intro es5 E5 f5
          simp only [ax_W_cons, ax_I, ax_cmp, ax_ii, ax_ll, ax_li, ax_st1, ax_st2, ax_kl, ax_k2, ax_fit, ax_rtok, List.getElem?_cons_zero, List.getElem?_cons_succ, List.length_cons, List.length_nil, List.set_cons_zero, List.set_cons_succ, Nat.reduceAdd, Nat.reduceDiv, Nat.reduceMod, Nat.reduceMul, Nat.reduceLT, Nat.reduceLeDiff, Int32.reduceOfInt, Int64.reduceOfInt, true_and, and_true, and_self, true_or, or_true, false_implies, true_implies, not_false_eq_true, not_true_eq_false, Value.category, Nat.reduceEqDiff, Option.toList, List.cons_append, List.nil_append, List.drop_succ_cons, List.drop_zero, ax_qq_eq, ax_t_1442]
          rw [ax_j_1442_5]
          have elen : (c2 ++ (r3.2 ++ [zneg (zkd t a2)])).length = c2.length + r3.2.length + 1 := by
            rw [List.length_append, List.length_append, List.length_singleton]
            omega
          refine ih es5 r3.1 (c2 ++ (r3.2 ++ [zneg (zkd t a2)])) (by omega) (by omega) (by rw [elen]; omega) hz ?_ (rfE_trans f2 (rfE_trans (rfE_1 f3) (rfE_trans f4 f5)))
          dsimp only at E5
          rw [rapp3 (z := zneg (zkd t a2)) op (by rw [hk]; decide), rapp3 (z := zneg (zkd t a2)) ar (by rw [hk]; decide)] at E5
          rw [elen, show v.1 + (c2.length + r3.2.length + 1) = v.1 + c2.length + r3.2.length + 1 by omega]
          exact E5
        · intro x es4 cd op' ar' hx E4 f4 hc4 hl4 g4
          rw [hx] at hz
          dsimp only at hc4
          have hx2 := ((hP (a2 + 1)).2 _ hx).2.1
          have hb := zpre_le E4.1.2.2.2
          simp only [ax_W_cons, ax_I, ax_cmp, ax_ii, ax_ll, ax_li, ax_st1, ax_st2, ax_kl, ax_k2, ax_fit, ax_rtok, List.getElem?_cons_zero, List.getElem?_cons_succ, List.length_cons, List.length_nil, List.set_cons_zero, List.set_cons_succ, Nat.reduceAdd, Nat.reduceDiv, Nat.reduceMod, Nat.reduceMul, Nat.reduceLT, Nat.reduceLeDiff, Int32.reduceOfInt, Int64.reduceOfInt, true_and, and_true, and_self, true_or, or_true, false_implies, true_implies, not_false_eq_true, not_true_eq_false, Value.category, Nat.reduceEqDiff, Option.toList, List.cons_append, List.nil_append, List.drop_succ_cons, List.drop_zero, ax_qq_eq, ax_t_1442]
          refine ax_inv_of (Nat.le_of_ble_eq_true rfl) (Nat.le_of_ble_eq_true rfl) (fun _ => rS_rcv hal E4.1 _) (fun h => absurd h (by decide)) (Nat.le_refl _) (Nat.le_refl _) (mk_emit hal E4 (by dsimp only; omega) _ _ ?_)
          intro es5 E5 f5
          simp only [ax_W_cons, ax_I, ax_cmp, ax_ii, ax_ll, ax_li, ax_st1, ax_st2, ax_kl, ax_k2, ax_fit, ax_rtok, List.getElem?_cons_zero, List.getElem?_cons_succ, List.length_cons, List.length_nil, List.set_cons_zero, List.set_cons_succ, Nat.reduceAdd, Nat.reduceDiv, Nat.reduceMod, Nat.reduceMul, Nat.reduceLT, Nat.reduceLeDiff, Int32.reduceOfInt, Int64.reduceOfInt, true_and, and_true, and_self, true_or, or_true, false_implies, true_implies, not_false_eq_true, not_true_eq_false, Value.category, Nat.reduceEqDiff, Option.toList, List.cons_append, List.nil_append, List.drop_succ_cons, List.drop_zero, ax_qq_eq, ax_t_1442]
          rw [ax_j_1442_5]
          exact stop es5 _ _ _ _ _ E5 f4 (hfail x es5 _ _ _ hz.symm E5 f4 (by omega) (rlow_trans (rlow_app _ _ _ _ _) (rlow_trans hl4 (rlow_app _ _ _ _ _))) (rfE_trans f2 (rfE_trans (rfE_1 f3) (rfE_trans g4 f5))))
      · intro hno
        rw [if_neg (fun z => hno ⟨rfl, zlev_3.mp z⟩)] at hz
        simp only [ax_W_cons, ax_I, ax_cmp, ax_ii, ax_ll, ax_li, ax_st1, ax_st2, ax_kl, ax_k2, ax_fit, ax_rtok, List.getElem?_cons_zero, List.getElem?_cons_succ, List.length_cons, List.length_nil, List.set_cons_zero, List.set_cons_succ, Nat.reduceAdd, Nat.reduceDiv, Nat.reduceMod, Nat.reduceMul, Nat.reduceLT, Nat.reduceLeDiff, Int32.reduceOfInt, Int64.reduceOfInt, true_and, and_true, and_self, true_or, or_true, false_implies, true_implies, not_false_eq_true, not_true_eq_false, Value.category, Nat.reduceEqDiff, Option.toList, List.cons_append, List.nil_append, List.drop_succ_cons, List.drop_zero, ax_qq_eq, ax_t_1442, ax_j_1442_29, ax_n_1442_29]
        exact hok (a2, c2) es2 hz.symm E2 f2
  simp only [ax_W_cons, ax_I, ax_cmp, ax_ii, ax_ll, ax_li, ax_st1, ax_st2, ax_kl, ax_k2, ax_fit, ax_rtok, List.getElem?_cons_zero, List.getElem?_cons_succ, List.length_cons, List.length_nil, List.set_cons_zero, List.set_cons_succ, Nat.reduceAdd, Nat.reduceDiv, Nat.reduceMod, Nat.reduceMul, Nat.reduceLT, Nat.reduceLeDiff, Int32.reduceOfInt, Int64.reduceOfInt, true_and, and_true, and_self, true_or, or_true, false_implies, true_implies, not_false_eq_true, not_true_eq_false, Value.category, Nat.reduceEqDiff, Option.toList, List.cons_append, List.nil_append, List.drop_succ_cons, List.drop_zero, ax_qq_eq, ax_t_1442]
  rw [ax_n_1442_5]
  exact LL 1000 es1 r0.1 r0.2 (by omega) (by omega) g2 rfl E1 f1
/-- sums -/
theorem rCt_2 {D dp : Nat} {P : Nat → zR} (hal : ax_al n = 178) (ht : zT_ok t) (hD : 3 ≤ D) (hP : zgo t P) (hC : rCt n sl t c fh D 1442 [.ref 159, .int (nI dp)] P) : rCt n sl t c fh (D + 1) 1441 [.ref 159, .int (nI dp)] (zlv t P 2 (zfu 2)) := by
  intro d es a v op ar Q hd E hcd hfh hok hfail
  obtain ⟨d, rfl⟩ : ∃ z, d = z + 4 := ⟨d - 4, by omega⟩
  have hL := ht.1
  have c10 : ¬ (1 : Int32) = 0 := by decide
  have stop : ∀ v2' es2 a2 fl2 v2 op2 ar2, rE es2 t c a2 fl2 v2 op2 ar2 → rFl fl2 → Q none es2 → ax_W (d + 4) n sl 1441 [(1, .aload 0), (2, .iconst 43), (3, .invokeinterface 1418 9), (3, .ifCond .ne 23), (1, .aload 0), (2, .iconst 45), (3, .invokeinterface 1418 9), (3, .ifCond .eq 62)] 5 [some (.ref 159), some (.int (nI dp)), v2'] [] n sl es2 (ax_qq n sl Q) := by
    intro v2' es2 a2 fl2 v2 op2 ar2 E2 f2 hq
    simp only [ax_W_cons, ax_I, ax_cmp, ax_ii, ax_ll, ax_li, ax_st1, ax_st2, ax_kl, ax_k2, ax_fit, ax_rtok, List.getElem?_cons_zero, List.getElem?_cons_succ, List.length_cons, List.length_nil, List.set_cons_zero, List.set_cons_succ, Nat.reduceAdd, Nat.reduceDiv, Nat.reduceMod, Nat.reduceMul, Nat.reduceLT, Nat.reduceLeDiff, Int32.reduceOfInt, Int64.reduceOfInt, true_and, and_true, and_self, true_or, or_true, false_implies, true_implies, not_false_eq_true, not_true_eq_false, Value.category, Nat.reduceEqDiff, Option.toList, List.cons_append, List.nil_append, List.drop_succ_cons, List.drop_zero, ax_qq_eq, ax_t_1441]
    refine ax_inv_of (Nat.le_of_ble_eq_true rfl) (Nat.le_of_ble_eq_true rfl) (fun _ => rS_rcv hal E2.1 _) (fun h => absurd h (by decide)) (Nat.le_refl _) (Nat.le_refl _) (mk_isSign (x := 43) hal ht E2.1 (by decide) (by decide) ?_)
    rw [decide_eq_false (fun z => f2.1 z.1)]
    simp only [ax_W_cons, ax_I, ax_cmp, ax_ii, ax_ll, ax_li, ax_st1, ax_st2, ax_kl, ax_k2, ax_fit, ax_rtok, List.getElem?_cons_zero, List.getElem?_cons_succ, List.length_cons, List.length_nil, List.set_cons_zero, List.set_cons_succ, Nat.reduceAdd, Nat.reduceDiv, Nat.reduceMod, Nat.reduceMul, Nat.reduceLT, Nat.reduceLeDiff, Int32.reduceOfInt, Int64.reduceOfInt, true_and, and_true, and_self, true_or, or_true, false_implies, true_implies, not_false_eq_true, not_true_eq_false, Value.category, Nat.reduceEqDiff, Option.toList, List.cons_append, List.nil_append, List.drop_succ_cons, List.drop_zero, ax_qq_eq, ax_t_1441, kx_bf]
    refine ax_inv_of (Nat.le_of_ble_eq_true rfl) (Nat.le_of_ble_eq_true rfl) (fun _ => rS_rcv hal E2.1 _) (fun h => absurd h (by decide)) (Nat.le_refl _) (Nat.le_refl _) (mk_isSign (x := 45) hal ht E2.1 (by decide) (by decide) ?_)
    rw [decide_eq_false (fun z => f2.1 z.1)]
    simp only [ax_W_cons, ax_I, ax_cmp, ax_ii, ax_ll, ax_li, ax_st1, ax_st2, ax_kl, ax_k2, ax_fit, ax_rtok, List.getElem?_cons_zero, List.getElem?_cons_succ, List.length_cons, List.length_nil, List.set_cons_zero, List.set_cons_succ, Nat.reduceAdd, Nat.reduceDiv, Nat.reduceMod, Nat.reduceMul, Nat.reduceLT, Nat.reduceLeDiff, Int32.reduceOfInt, Int64.reduceOfInt, true_and, and_true, and_self, true_or, or_true, false_implies, true_implies, not_false_eq_true, not_true_eq_false, Value.category, Nat.reduceEqDiff, Option.toList, List.cons_append, List.nil_append, List.drop_succ_cons, List.drop_zero, ax_qq_eq, ax_t_1441, ax_j_1441_62, ax_n_1441_62, kx_bf]
    exact hq
  refine ax_Mt_go (m := ax_m_11_33) (ls := [some (.ref 159), some (.int (nI dp)), none]) rfl ax_b_1441_0 (Nat.le_of_ble_eq_true rfl) rfl ?_
  simp only [ax_W_cons, ax_I, ax_cmp, ax_ii, ax_ll, ax_li, ax_st1, ax_st2, ax_kl, ax_k2, ax_fit, ax_rtok, List.getElem?_cons_zero, List.getElem?_cons_succ, List.length_cons, List.length_nil, List.set_cons_zero, List.set_cons_succ, Nat.reduceAdd, Nat.reduceDiv, Nat.reduceMod, Nat.reduceMul, Nat.reduceLT, Nat.reduceLeDiff, Int32.reduceOfInt, Int64.reduceOfInt, true_and, and_true, and_self, true_or, or_true, false_implies, true_implies, not_false_eq_true, not_true_eq_false, Value.category, Nat.reduceEqDiff, Option.toList, List.cons_append, List.nil_append, List.drop_succ_cons, List.drop_zero, ax_qq_eq, ax_t_1441]
  refine ax_inv_of (Nat.le_of_ble_eq_true rfl) (Nat.le_of_ble_eq_true rfl) (fun _ => rS_rcv hal E.1 _) (fun h => absurd h (by decide)) (Nat.le_refl _) (Nat.le_refl _) (hC _ es a v op ar _ (by omega) E hcd hfh ?_ ?_)
  rotate_left
  · intro x es1 cd op' ar' hx E1 f1 hc1 hl1 g1
    simp only [ax_W_cons, ax_I, ax_cmp, ax_ii, ax_ll, ax_li, ax_st1, ax_st2, ax_kl, ax_k2, ax_fit, ax_rtok, List.getElem?_cons_zero, List.getElem?_cons_succ, List.length_cons, List.length_nil, List.set_cons_zero, List.set_cons_succ, Nat.reduceAdd, Nat.reduceDiv, Nat.reduceMod, Nat.reduceMul, Nat.reduceLT, Nat.reduceLeDiff, Int32.reduceOfInt, Int64.reduceOfInt, true_and, and_true, and_self, true_or, or_true, false_implies, true_implies, not_false_eq_true, not_true_eq_false, Value.category, Nat.reduceEqDiff, Option.toList, List.cons_append, List.nil_append, List.drop_succ_cons, List.drop_zero, ax_qq_eq, ax_t_1441]
    rw [ax_n_1441_5]
    refine stop _ es1 _ _ _ _ _ E1 f1 (hfail x es1 cd op' ar' ?_ E1 f1 hc1 hl1 g1)
    unfold zlv
    rw [hx]
  intro r0 es1 hr0 E1 f1
  have hzl : zlv t P 2 (zfu 2) a = zlp t P 2 1000 r0.1 r0.2 := by
    unfold zlv
    rw [hr0]
    rfl
  obtain ⟨g1, g2, g3⟩ := (hP a).1 _ hr0
  rw [hzl] at hok hfail
  have LL : ∀ f es2 a2 c2 v2', 1001 ≤ f + a2 → a ≤ a2 → c2.length ≤ a2 - a → zlp t P 2 f a2 c2 = zlp t P 2 1000 r0.1 r0.2 → rE es2 t c a2 0 (v.1 + c2.length, v.2) (zapp op (1100 + v.1) (c2.map zop)) (zapp ar (1100 + v.1) (c2.map zar)) → rfE es es2 → ax_W (d + 4) n sl 1441 [(1, .aload 0), (2, .iconst 43), (3, .invokeinterface 1418 9), (3, .ifCond .ne 23), (1, .aload 0), (2, .iconst 45), (3, .invokeinterface 1418 9), (3, .ifCond .eq 62)] 5 [some (.ref 159), some (.int (nI dp)), v2'] [] n sl es2 (ax_qq n sl Q) := by
    intro f
    induction f with
    | zero =>
      intro es2 a2 c2 v2' h1 h2 h3 hz E2
      have := zpre_le E2.1.2.2.2
      omega
    | succ f ih =>
      intro es2 a2 c2 v2' h1 h2 h3 hz E2 f2
      rw [zlp] at hz
      have w0 : es2 159 = _ := E2.1.1
      have a4 : nI a2 + 1 = nI (a2 + 1) := (nI_succ a2).symm
      -- a sign of this kind
      have more : (zkd t a2 = 43 ∨ zkd t a2 = 45) → ax_J ax_W (d + 4) n sl 1441 23 [some (.ref 159), some (.int (nI dp)), v2'] [] n sl es2 (ax_qq n sl Q) := by
        intro hk
        rw [if_pos (zlev_2.mpr hk)] at hz
        simp only [ax_W_cons, ax_I, ax_cmp, ax_ii, ax_ll, ax_li, ax_st1, ax_st2, ax_kl, ax_k2, ax_fit, ax_rtok, List.getElem?_cons_zero, List.getElem?_cons_succ, List.length_cons, List.length_nil, List.set_cons_zero, List.set_cons_succ, Nat.reduceAdd, Nat.reduceDiv, Nat.reduceMod, Nat.reduceMul, Nat.reduceLT, Nat.reduceLeDiff, Int32.reduceOfInt, Int64.reduceOfInt, true_and, and_true, and_self, true_or, or_true, false_implies, true_implies, not_false_eq_true, not_true_eq_false, Value.category, Nat.reduceEqDiff, Option.toList, List.cons_append, List.nil_append, List.drop_succ_cons, List.drop_zero, ax_qq_eq, ax_t_1441, ax_j_1441_23, ax_n_1441_23]
        refine ax_inv_of (Nat.le_of_ble_eq_true rfl) (Nat.le_of_ble_eq_true rfl) (fun _ => rS_rcv hal E2.1 _) (fun h => absurd h (by decide)) (Nat.le_refl _) (Nat.le_refl _) (mk_isSign (x := 43) hal ht E2.1 (by decide) (by decide) ?_)
        generalize hB : decide ((0 : Int32) = 0 ∧ zkd t a2 = 43) = b
        simp only [ax_W_cons, ax_I, ax_cmp, ax_ii, ax_ll, ax_li, ax_st1, ax_st2, ax_kl, ax_k2, ax_fit, ax_rtok, List.getElem?_cons_zero, List.getElem?_cons_succ, List.length_cons, List.length_nil, List.set_cons_zero, List.set_cons_succ, Nat.reduceAdd, Nat.reduceDiv, Nat.reduceMod, Nat.reduceMul, Nat.reduceLT, Nat.reduceLeDiff, Int32.reduceOfInt, Int64.reduceOfInt, true_and, and_true, and_self, true_or, or_true, false_implies, true_implies, not_false_eq_true, not_true_eq_false, Value.category, Nat.reduceEqDiff, Option.toList, List.cons_append, List.nil_append, List.drop_succ_cons, List.drop_zero, ax_qq_eq, ax_t_1441, w0, mo_f, hal, a4]
        obtain ⟨es3, he3⟩ : ∃ x, x = ax_up es2 159 (.inr (11, mo_f 0 0 c.1 (nI (a2 + 1)) 0 (nI (v.1 + c2.length)) c.2.1 (nI v.2.1) v.2.2.1 v.2.2.2 c.2.2.1 c.2.2.2)) := ⟨_, rfl⟩
        have f3 : ∀ j, j ≠ 159 → es3 j = es2 j := fun j hj => by rw [he3]; exact ax_up_ne _ _ hj
        have E3 : rE es3 t c (a2 + 1) 0 (v.1 + c2.length, v.2) (zapp op (1100 + v.1) (c2.map zop)) (zapp ar (1100 + v.1) (c2.map zar)) := rE_1 E2 (rS_up E2.1 (by rw [he3]; exact ax_up_same ..) (fun j hj _ => f3 j hj) (zpre_s E2.1.2.2.2 (by omega))) f3
        unfold mo_f at he3
        rw [← he3]
        refine ax_inv_of (Nat.le_of_ble_eq_true rfl) (Nat.le_of_ble_eq_true rfl) (fun _ => rS_rcv hal E3.1 _) (fun h => absurd h (by decide)) (Nat.le_refl _) (Nat.le_refl _) (hC _ es3 (a2 + 1) _ _ _ _ (by omega) E3 (by dsimp only; omega) hfh ?_ ?_)
        · intro r3 es4 hr3 E4 f4
          rw [hr3] at hz
          obtain ⟨q1, q2, q3⟩ := (hP (a2 + 1)).1 _ hr3
          have hb := zpre_le E4.1.2.2.2
          have elen : (c2 ++ (r3.2 ++ [zneg (zkd t a2)])).length = c2.length + r3.2.length + 1 := by
            rw [List.length_append, List.length_append, List.length_singleton]
            omega
          have fin : ∀ (x y : Int32), zop (zneg (zkd t a2)) = x → zar (zneg (zkd t a2)) = y → ∀ es5 v3', rE es5 t c r3.1 0 (v.1 + c2.length + r3.2.length + 1, v.2) (zapp (zapp (zapp op (1100 + v.1) (c2.map zop)) (1100 + (v.1 + c2.length)) (r3.2.map zop)) (1100 + (v.1 + c2.length + r3.2.length)) [x]) (zapp (zapp (zapp ar (1100 + v.1) (c2.map zar)) (1100 + (v.1 + c2.length)) (r3.2.map zar)) (1100 + (v.1 + c2.length + r3.2.length)) [y]) → rfE es4 es5 → ax_W (d + 4) n sl 1441 [(1, .aload 0), (2, .iconst 43), (3, .invokeinterface 1418 9), (3, .ifCond .ne 23), (1, .aload 0), (2, .iconst 45), (3, .invokeinterface 1418 9), (3, .ifCond .eq 62)] 5 [some (.ref 159), some (.int (nI dp)), v3'] [] n sl es5 (ax_qq n sl Q) := by
            intro x y hx hy es5 v3' E5 f5
            refine ih es5 r3.1 (c2 ++ (r3.2 ++ [zneg (zkd t a2)])) v3' (by omega) (by omega) (by rw [elen]; omega) hz ?_ (rfE_trans f2 (rfE_trans (rfE_1 f3) (rfE_trans f4 f5)))
            rw [rapp3 (z := zneg (zkd t a2)) op hx, rapp3 (z := zneg (zkd t a2)) ar hy] at E5
            rw [elen, show v.1 + (c2.length + r3.2.length + 1) = v.1 + c2.length + r3.2.length + 1 by omega]
            exact E5
          cases b
          · have hk' : zkd t a2 = 45 := by
              rcases hk with z | z
              · exact absurd ⟨rfl, z⟩ (of_decide_eq_false hB)
              · exact z
            simp only [ax_W_cons, ax_I, ax_cmp, ax_ii, ax_ll, ax_li, ax_st1, ax_st2, ax_kl, ax_k2, ax_fit, ax_rtok, List.getElem?_cons_zero, List.getElem?_cons_succ, List.length_cons, List.length_nil, List.set_cons_zero, List.set_cons_succ, Nat.reduceAdd, Nat.reduceDiv, Nat.reduceMod, Nat.reduceMul, Nat.reduceLT, Nat.reduceLeDiff, Int32.reduceOfInt, Int64.reduceOfInt, true_and, and_true, and_self, true_or, or_true, false_implies, true_implies, not_false_eq_true, not_true_eq_false, Value.category, Nat.reduceEqDiff, Option.toList, List.cons_append, List.nil_append, List.drop_succ_cons, List.drop_zero, ax_qq_eq, ax_t_1441, ax_j_1441_54, ax_n_1441_54, ax_j_1441_55, ax_n_1441_55, kx_bf]
            refine ax_inv_of (Nat.le_of_ble_eq_true rfl) (Nat.le_of_ble_eq_true rfl) (fun _ => rS_rcv hal E4.1 _) (fun h => absurd h (by decide)) (Nat.le_refl _) (Nat.le_refl _) (mk_emit hal E4 (by dsimp only; omega) _ _ ?_)
            intro es5 E5 f5
            simp only [ax_W_cons, ax_I, ax_cmp, ax_ii, ax_ll, ax_li, ax_st1, ax_st2, ax_kl, ax_k2, ax_fit, ax_rtok, List.getElem?_cons_zero, List.getElem?_cons_succ, List.length_cons, List.length_nil, List.set_cons_zero, List.set_cons_succ, Nat.reduceAdd, Nat.reduceDiv, Nat.reduceMod, Nat.reduceMul, Nat.reduceLT, Nat.reduceLeDiff, Int32.reduceOfInt, Int64.reduceOfInt, true_and, and_true, and_self, true_or, or_true, false_implies, true_implies, not_false_eq_true, not_true_eq_false, Value.category, Nat.reduceEqDiff, Option.toList, List.cons_append, List.nil_append, List.drop_succ_cons, List.drop_zero, ax_qq_eq, ax_t_1441]
            rw [ax_j_1441_5]
            exact fin _ _ (by rw [hk']; decide) (by rw [hk']; decide) es5 _ E5 f5
          · have hk' : zkd t a2 = 43 := (of_decide_eq_true hB).2
            simp only [ax_W_cons, ax_I, ax_cmp, ax_ii, ax_ll, ax_li, ax_st1, ax_st2, ax_kl, ax_k2, ax_fit, ax_rtok, List.getElem?_cons_zero, List.getElem?_cons_succ, List.length_cons, List.length_nil, List.set_cons_zero, List.set_cons_succ, Nat.reduceAdd, Nat.reduceDiv, Nat.reduceMod, Nat.reduceMul, Nat.reduceLT, Nat.reduceLeDiff, Int32.reduceOfInt, Int64.reduceOfInt, true_and, and_true, and_self, true_or, or_true, false_implies, true_implies, not_false_eq_true, not_true_eq_false, Value.category, Nat.reduceEqDiff, Option.toList, List.cons_append, List.nil_append, List.drop_succ_cons, List.drop_zero, ax_qq_eq, ax_t_1441, ax_j_1441_55, ax_n_1441_55, kx_bt, c10]
            refine ax_inv_of (Nat.le_of_ble_eq_true rfl) (Nat.le_of_ble_eq_true rfl) (fun _ => rS_rcv hal E4.1 _) (fun h => absurd h (by decide)) (Nat.le_refl _) (Nat.le_refl _) (mk_emit hal E4 (by dsimp only; omega) _ _ ?_)
            intro es5 E5 f5
            simp only [ax_W_cons, ax_I, ax_cmp, ax_ii, ax_ll, ax_li, ax_st1, ax_st2, ax_kl, ax_k2, ax_fit, ax_rtok, List.getElem?_cons_zero, List.getElem?_cons_succ, List.length_cons, List.length_nil, List.set_cons_zero, List.set_cons_succ, Nat.reduceAdd, Nat.reduceDiv, Nat.reduceMod, Nat.reduceMul, Nat.reduceLT, Nat.reduceLeDiff, Int32.reduceOfInt, Int64.reduceOfInt, true_and, and_true, and_self, true_or, or_true, false_implies, true_implies, not_false_eq_true, not_true_eq_false, Value.category, Nat.reduceEqDiff, Option.toList, List.cons_append, List.nil_append, List.drop_succ_cons, List.drop_zero, ax_qq_eq, ax_t_1441]
            rw [ax_j_1441_5]
            exact fin _ _ (by rw [hk']; decide) (by rw [hk']; decide) es5 _ E5 f5
        · intro x es4 cd op' ar' hx E4 f4 hc4 hl4 g4
          rw [hx] at hz
          dsimp only at hc4
          have hx2 := ((hP (a2 + 1)).2 _ hx).2.1
          have hb := zpre_le E4.1.2.2.2
          have fin : ∀ (x1 x2 : Int32) es5 v3', rE es5 t c x.2 (nI (x.1 + 16 * zpl t x.2)) (cd + 1, v.2) (zapp op' (1100 + cd) [x1]) (zapp ar' (1100 + cd) [x2]) → rfE es4 es5 → ax_W (d + 4) n sl 1441 [(1, .aload 0), (2, .iconst 43), (3, .invokeinterface 1418 9), (3, .ifCond .ne 23), (1, .aload 0), (2, .iconst 45), (3, .invokeinterface 1418 9), (3, .ifCond .eq 62)] 5 [some (.ref 159), some (.int (nI dp)), v3'] [] n sl es5 (ax_qq n sl Q) := by
            intro x1 x2 es5 v3' E5 f5
            exact stop _ es5 _ _ _ _ _ E5 f4 (hfail x es5 _ _ _ hz.symm E5 f4 (by omega) (rlow_trans (rlow_app _ _ _ _ _) (rlow_trans hl4 (rlow_app _ _ _ _ _))) (rfE_trans f2 (rfE_trans (rfE_1 f3) (rfE_trans g4 f5))))
          cases b
          · simp only [ax_W_cons, ax_I, ax_cmp, ax_ii, ax_ll, ax_li, ax_st1, ax_st2, ax_kl, ax_k2, ax_fit, ax_rtok, List.getElem?_cons_zero, List.getElem?_cons_succ, List.length_cons, List.length_nil, List.set_cons_zero, List.set_cons_succ, Nat.reduceAdd, Nat.reduceDiv, Nat.reduceMod, Nat.reduceMul, Nat.reduceLT, Nat.reduceLeDiff, Int32.reduceOfInt, Int64.reduceOfInt, true_and, and_true, and_self, true_or, or_true, false_implies, true_implies, not_false_eq_true, not_true_eq_false, Value.category, Nat.reduceEqDiff, Option.toList, List.cons_append, List.nil_append, List.drop_succ_cons, List.drop_zero, ax_qq_eq, ax_t_1441, ax_j_1441_54, ax_n_1441_54, ax_j_1441_55, ax_n_1441_55, kx_bf]
            refine ax_inv_of (Nat.le_of_ble_eq_true rfl) (Nat.le_of_ble_eq_true rfl) (fun _ => rS_rcv hal E4.1 _) (fun h => absurd h (by decide)) (Nat.le_refl _) (Nat.le_refl _) (mk_emit hal E4 (by dsimp only; omega) _ _ ?_)
            intro es5 E5 f5
            simp only [ax_W_cons, ax_I, ax_cmp, ax_ii, ax_ll, ax_li, ax_st1, ax_st2, ax_kl, ax_k2, ax_fit, ax_rtok, List.getElem?_cons_zero, List.getElem?_cons_succ, List.length_cons, List.length_nil, List.set_cons_zero, List.set_cons_succ, Nat.reduceAdd, Nat.reduceDiv, Nat.reduceMod, Nat.reduceMul, Nat.reduceLT, Nat.reduceLeDiff, Int32.reduceOfInt, Int64.reduceOfInt, true_and, and_true, and_self, true_or, or_true, false_implies, true_implies, not_false_eq_true, not_true_eq_false, Value.category, Nat.reduceEqDiff, Option.toList, List.cons_append, List.nil_append, List.drop_succ_cons, List.drop_zero, ax_qq_eq, ax_t_1441]
            rw [ax_j_1441_5]
            exact fin _ _ es5 _ E5 f5
          · simp only [ax_W_cons, ax_I, ax_cmp, ax_ii, ax_ll, ax_li, ax_st1, ax_st2, ax_kl, ax_k2, ax_fit, ax_rtok, List.getElem?_cons_zero, List.getElem?_cons_succ, List.length_cons, List.length_nil, List.set_cons_zero, List.set_cons_succ, Nat.reduceAdd, Nat.reduceDiv, Nat.reduceMod, Nat.reduceMul, Nat.reduceLT, Nat.reduceLeDiff, Int32.reduceOfInt, Int64.reduceOfInt, true_and, and_true, and_self, true_or, or_true, false_implies, true_implies, not_false_eq_true, not_true_eq_false, Value.category, Nat.reduceEqDiff, Option.toList, List.cons_append, List.nil_append, List.drop_succ_cons, List.drop_zero, ax_qq_eq, ax_t_1441, ax_j_1441_55, ax_n_1441_55, kx_bt, c10]
            refine ax_inv_of (Nat.le_of_ble_eq_true rfl) (Nat.le_of_ble_eq_true rfl) (fun _ => rS_rcv hal E4.1 _) (fun h => absurd h (by decide)) (Nat.le_refl _) (Nat.le_refl _) (mk_emit hal E4 (by dsimp only; omega) _ _ ?_)
            intro es5 E5 f5
            simp only [ax_W_cons, ax_I, ax_cmp, ax_ii, ax_ll, ax_li, ax_st1, ax_st2, ax_kl, ax_k2, ax_fit, ax_rtok, List.getElem?_cons_zero, List.getElem?_cons_succ, List.length_cons, List.length_nil, List.set_cons_zero, List.set_cons_succ, Nat.reduceAdd, Nat.reduceDiv, Nat.reduceMod, Nat.reduceMul, Nat.reduceLT, Nat.reduceLeDiff, Int32.reduceOfInt, Int64.reduceOfInt, true_and, and_true, and_self, true_or, or_true, false_implies, true_implies, not_false_eq_true, not_true_eq_false, Value.category, Nat.reduceEqDiff, Option.toList, List.cons_append, List.nil_append, List.drop_succ_cons, List.drop_zero, ax_qq_eq, ax_t_1441]
            rw [ax_j_1441_5]
            exact fin _ _ es5 _ E5 f5
      simp only [ax_W_cons, ax_I, ax_cmp, ax_ii, ax_ll, ax_li, ax_st1, ax_st2, ax_kl, ax_k2, ax_fit, ax_rtok, List.getElem?_cons_zero, List.getElem?_cons_succ, List.length_cons, List.length_nil, List.set_cons_zero, List.set_cons_succ, Nat.reduceAdd, Nat.reduceDiv, Nat.reduceMod, Nat.reduceMul, Nat.reduceLT, Nat.reduceLeDiff, Int32.reduceOfInt, Int64.reduceOfInt, true_and, and_true, and_self, true_or, or_true, false_implies, true_implies, not_false_eq_true, not_true_eq_false, Value.category, Nat.reduceEqDiff, Option.toList, List.cons_append, List.nil_append, List.drop_succ_cons, List.drop_zero, ax_qq_eq, ax_t_1441]
      refine ax_inv_of (Nat.le_of_ble_eq_true rfl) (Nat.le_of_ble_eq_true rfl) (fun _ => rS_rcv hal E2.1 _) (fun h => absurd h (by decide)) (Nat.le_refl _) (Nat.le_refl _) (mk_isSign (x := 43) hal ht E2.1 (by decide) (by decide) ?_)
      by_cases h43 : zkd t a2 = 43
      · rw [decide_eq_true ⟨rfl, h43⟩]
        have more := more (Or.inl h43)
        simp only [ax_W_cons, ax_I, ax_cmp, ax_ii, ax_ll, ax_li, ax_st1, ax_st2, ax_kl, ax_k2, ax_fit, ax_rtok, List.getElem?_cons_zero, List.getElem?_cons_succ, List.length_cons, List.length_nil, List.set_cons_zero, List.set_cons_succ, Nat.reduceAdd, Nat.reduceDiv, Nat.reduceMod, Nat.reduceMul, Nat.reduceLT, Nat.reduceLeDiff, Int32.reduceOfInt, Int64.reduceOfInt, true_and, and_true, and_self, true_or, or_true, false_implies, true_implies, not_false_eq_true, not_true_eq_false, Value.category, Nat.reduceEqDiff, Option.toList, List.cons_append, List.nil_append, List.drop_succ_cons, List.drop_zero, ax_qq_eq, ax_t_1441, kx_bt, c10]
        exact more
      · rw [decide_eq_false (fun z => h43 z.2)]
        simp only [ax_W_cons, ax_I, ax_cmp, ax_ii, ax_ll, ax_li, ax_st1, ax_st2, ax_kl, ax_k2, ax_fit, ax_rtok, List.getElem?_cons_zero, List.getElem?_cons_succ, List.length_cons, List.length_nil, List.set_cons_zero, List.set_cons_succ, Nat.reduceAdd, Nat.reduceDiv, Nat.reduceMod, Nat.reduceMul, Nat.reduceLT, Nat.reduceLeDiff, Int32.reduceOfInt, Int64.reduceOfInt, true_and, and_true, and_self, true_or, or_true, false_implies, true_implies, not_false_eq_true, not_true_eq_false, Value.category, Nat.reduceEqDiff, Option.toList, List.cons_append, List.nil_append, List.drop_succ_cons, List.drop_zero, ax_qq_eq, ax_t_1441, kx_bf]
        refine ax_inv_of (Nat.le_of_ble_eq_true rfl) (Nat.le_of_ble_eq_true rfl) (fun _ => rS_rcv hal E2.1 _) (fun h => absurd h (by decide)) (Nat.le_refl _) (Nat.le_refl _) (mk_isSign (x := 45) hal ht E2.1 (by decide) (by decide) ?_)
        by_cases h45 : zkd t a2 = 45
        · rw [decide_eq_true ⟨rfl, h45⟩]
          have more := more (Or.inr h45)
          rw [ax_j_1441_23, ← ax_n_1441_23] at more
          simp only [ax_W_cons, ax_I, ax_cmp, ax_ii, ax_ll, ax_li, ax_st1, ax_st2, ax_kl, ax_k2, ax_fit, ax_rtok, List.getElem?_cons_zero, List.getElem?_cons_succ, List.length_cons, List.length_nil, List.set_cons_zero, List.set_cons_succ, Nat.reduceAdd, Nat.reduceDiv, Nat.reduceMod, Nat.reduceMul, Nat.reduceLT, Nat.reduceLeDiff, Int32.reduceOfInt, Int64.reduceOfInt, true_and, and_true, and_self, true_or, or_true, false_implies, true_implies, not_false_eq_true, not_true_eq_false, Value.category, Nat.reduceEqDiff, Option.toList, List.cons_append, List.nil_append, List.drop_succ_cons, List.drop_zero, ax_qq_eq, ax_t_1441, kx_bt, c10]
          exact more
        · rw [decide_eq_false (fun z => h45 z.2)]
          rw [if_neg (fun z => (zlev_2.mp z).elim h43 h45)] at hz
          simp only [ax_W_cons, ax_I, ax_cmp, ax_ii, ax_ll, ax_li, ax_st1, ax_st2, ax_kl, ax_k2, ax_fit, ax_rtok, List.getElem?_cons_zero, List.getElem?_cons_succ, List.length_cons, List.length_nil, List.set_cons_zero, List.set_cons_succ, Nat.reduceAdd, Nat.reduceDiv, Nat.reduceMod, Nat.reduceMul, Nat.reduceLT, Nat.reduceLeDiff, Int32.reduceOfInt, Int64.reduceOfInt, true_and, and_true, and_self, true_or, or_true, false_implies, true_implies, not_false_eq_true, not_true_eq_false, Value.category, Nat.reduceEqDiff, Option.toList, List.cons_append, List.nil_append, List.drop_succ_cons, List.drop_zero, ax_qq_eq, ax_t_1441, ax_j_1441_62, ax_n_1441_62, kx_bf]
          exact hok (a2, c2) es2 hz.symm E2 f2
  simp only [ax_W_cons, ax_I, ax_cmp, ax_ii, ax_ll, ax_li, ax_st1, ax_st2, ax_kl, ax_k2, ax_fit, ax_rtok, List.getElem?_cons_zero, List.getElem?_cons_succ, List.length_cons, List.length_nil, List.set_cons_zero, List.set_cons_succ, Nat.reduceAdd, Nat.reduceDiv, Nat.reduceMod, Nat.reduceMul, Nat.reduceLT, Nat.reduceLeDiff, Int32.reduceOfInt, Int64.reduceOfInt, true_and, and_true, and_self, true_or, or_true, false_implies, true_implies, not_false_eq_true, not_true_eq_false, Value.category, Nat.reduceEqDiff, Option.toList, List.cons_append, List.nil_append, List.drop_succ_cons, List.drop_zero, ax_qq_eq, ax_t_1441]
  rw [ax_n_1441_5]
  exact LL 1000 es1 r0.1 r0.2 _ (by omega) (by omega) g2 rfl E1 f1
end TT
