/-! the reference: the lines of a court -/
def rLw (x : Int32) (op ar : Nat → Int32) (cd : Nat) (b : Bool) (c : List Int32) : Prop := if b = true then ∃ s, x = nI s ∧ s + c.length < cd ∧ (∀ i, i < c.length → op (1100 + s + i) = zop (c.getD i 0) ∧ ar (1100 + s + i) = zar (c.getD i 0)) ∧ op (1100 + s + c.length) = 0 else x = -1
theorem rLw_mono {x : Int32} {op ar op' ar' : Nat → Int32} {cd cd' : Nat} {b : Bool} {c : List Int32} (h : rLw x op ar cd b c) (h1 : ∀ j, j < 1100 + cd → op' j = op j ∧ ar' j = ar j) (h2 : cd ≤ cd') : rLw x op' ar' cd' b c := by
  cases b
  · exact h
  · obtain ⟨s, g1, g2, g3, g4⟩ := h
    exact ⟨s, g1, by omega, fun i hi => by rw [(h1 _ (by omega)).1, (h1 _ (by omega)).2]; exact g3 i hi, by rw [(h1 _ (by omega)).1]; exact g4⟩
def rD (ct op ar : Nat → Int32) (rn : Nat → Int64) (v : rV) (d : zDf) : Prop := ct 40 = nI d.1 ∧ ct 41 = nI d.2.1.length ∧ ct 42 = nI d.2.2.1.length ∧ d.2.1.length ≤ 6 ∧ d.2.2.1.length ≤ 12 ∧ (∀ i, i < d.2.1.length → ct (45 + 3 * i) = nI ((d.2.1.getD i zC0).1 - 13) ∧ ct (45 + 3 * i + 1) = nI (d.2.1.getD i zC0).2.1 ∧ ct (45 + 3 * i + 2) = nI (d.2.1.getD i zC0).2.2.1 ∧ rn i = nL (zv37 (d.2.1.getD i zC0).2.2.2) ∧ zWd (d.2.1.getD i zC0).2.2.2) ∧ (∀ i, i < d.2.2.1.length → ct (63 + i) = nI (d.2.2.1.getD i 0)) ∧ rLw (ct 43) op ar v.1 d.2.2.2.1.2.2.1 d.2.2.2.2.1 ∧ rLw (ct 44) op ar v.1 d.2.2.2.1.2.2.2 d.2.2.2.2.2 ∧ v.2.1 = d.2.1.length ∧ v.2.2.1 = zoR d.2.2.2.1
theorem zapp_lo {op : Nat → Int32} {en : Nat} {c : List Int32} {j : Nat} (hj : j < en) : zapp op en c j = op j := by
  unfold zapp
  rw [if_neg (by omega)]
theorem zapp_in {op : Nat → Int32} {en : Nat} {c : List Int32} {i : Nat} (hi : i < c.length) : zapp op en c (en + i) = c.getD i 0 := by
  unfold zapp
  rw [if_pos (by omega), Nat.add_sub_cancel_left]
theorem zmapD (F : Int32 → Int32) {c : List Int32} {i : Nat} (hi : i < c.length) : (c.map F).getD i 0 = F (c.getD i 0) := by
  rw [List.getD_eq_getElem?_getD, List.getD_eq_getElem?_getD, List.getElem?_map, List.getElem?_eq_getElem hi]
  rfl
def rLc (n sl : Nat) (t : zTp) (c : rC) (M a : Nat) : Prop := ∀ (d : Nat) (es : ax_H) (v : rV) (ct op ar : Nat → Int32) (rn : Nat → Int64) (dr : zDf) (Q : Option Value → ax_H → Prop), rX es t c a 0 v ct op ar rn → rD ct op ar rn v dr → v.1 ≤ a → (∀ a' es' v' ct' op' ar' rn' dr', zLine t dr a = zSgn t a' 59 (.inr (a' + 1, dr')) → rX es' t c a' 0 v' ct' op' ar' rn' → rD ct' op' ar' rn' v' dr' → v'.1 ≤ a' → a < a' → rct ct ct' → rlow op ar op' ar' → rfX es es' → Q none es') → (∀ x es' v' ct' op' ar' rn', zLine t dr a = .inl x → rX es' t c x.2 (nI (x.1 + 16 * zpl t x.2)) v' ct' op' ar' rn' → rFl (nI (x.1 + 16 * zpl t x.2)) → rct ct ct' → rlow op ar op' ar' → rfX es es' → Q none es') → ax_Mt (d + 40) M [.ref 159] n sl es Q
theorem rlow_rf (op ar : Nat → Int32) : rlow op ar op ar := fun _ _ => ⟨rfl, rfl⟩
theorem rct_rf (ct : Nat → Int32) : rct ct ct := fun _ _ => rfl
section TT
variable {n sl : Nat} {t : zTp} {c : rC} {a : Nat}
theorem mk_readOnce (hal : ax_al n = 178) (ht : zT_ok t) (h1 : ¬ zkd t a = 1) : rLc n sl t c 1435 a := by
  intro d es v ct op ar rn dr Q X R hcd hok hfail
  have hL := ht.1
  obtain ⟨r1, r2, r3, r4, r5, r6, r7, r8, r9, r10, ho⟩ := id R
  have w0 : es 159 = _ := X.1.1.1
  have w1 := X.2.1
  have c10 : ¬ (1 : Int32) = 0 := by decide
  have a4 : nI a + 1 = nI (a + 1) := (nI_succ a).symm
  refine mk_onceGate (d := d + 37) hal ht X.1.1 ho (fun hno es1 S1 g1 f1 => ?_) (fun hkk hz es1 S1 g1 f1 => ?_) (fun hkk hz => ?_)
  · unfold zok at hno
    exact hfail (1, a) es1 v ct op ar rn (by rw [zLine, if_neg (by omega), if_neg h1, if_neg (by omega), if_neg (by omega), if_neg (by omega)]) (rX_1 X S1 f1) g1 (rct_rf _) (rlow_rf _ _) (rfX_1 f1)
  · refine hfail (3, a) es1 v ct op ar rn ?_ (rX_1 X S1 f1) g1 (rct_rf _) (rlow_rf _ _) (rfX_1 f1)
    unfold zLine
    rcases hkk with h | h | h | h
    · rw [h] at hz
      rw [if_pos h, zL0, if_pos hz]
    · rw [h] at hz
      rw [if_neg (by omega), if_neg (by omega), if_pos h, zL4, if_pos hz]
    · rw [h] at hz
      rw [if_neg (by omega), if_neg (by omega), if_neg (by omega), if_pos h, zL5, if_pos hz]
    · rw [h] at hz
      rw [if_neg (by omega), if_neg (by omega), if_neg (by omega), if_neg (by omega), if_pos h, zL6, if_pos hz]
  have h26 : ¬ zkd t a = 26 := by
    unfold zok at hkk
    omega
  have hp1 := zpre_s X.1.1.2.2.2 h26
  have hpb := zpre_le hp1
  rcases id hkk with hk | hk | hk | hk
  · -- cells
    have e0 : nI (zkk (zkd t a)) = 0 := by rw [hk]; rfl
    have os := zoR_os dr.2.2.2.1 hkk
    rw [e0, hk] at os
    rw [hk] at hz
    rw [e0]
    have k3 : vp_in 40 80 := nI_in (show 40 < 80 by decide) (by decide)
    have k4 : (40 : Int32).toNatClampNeg = 40 := by decide
    simp only [ax_W_cons, ax_I, ax_cmp, ax_ii, ax_ll, ax_li, ax_st1, ax_st2, ax_kl, ax_k2, ax_fit, ax_rtok, List.getElem?_cons_zero, List.getElem?_cons_succ, List.length_cons, List.length_nil, List.set_cons_zero, List.set_cons_succ, Nat.reduceAdd, Nat.reduceDiv, Nat.reduceMod, Nat.reduceMul, Nat.reduceLT, Nat.reduceLeDiff, Int32.reduceOfInt, Int64.reduceOfInt, true_and, and_true, and_self, true_or, or_true, false_implies, true_implies, not_false_eq_true, not_true_eq_false, Value.category, Nat.reduceEqDiff, Option.toList, List.cons_append, List.nil_append, List.drop_succ_cons, List.drop_zero, ax_qq_eq, ax_t_1435, ax_j_1435_66, ax_n_1435_66, w0, w1, mo_f, hal, ho, os, a4, ax_up_same, ax_up_ne, ne_eq]
    obtain ⟨es1, he1⟩ : ∃ x, x = ax_up (ax_up es 159 (.inr (11, mo_f 0 0 c.1 (nI a) 0 (nI v.1) c.2.1 (nI v.2.1) (zoR (zos dr.2.2.2.1 0)) v.2.2.2 c.2.2.1 c.2.2.2))) 159 (.inr (11, mo_f 0 0 c.1 (nI (a + 1)) 0 (nI v.1) c.2.1 (nI v.2.1) (zoR (zos dr.2.2.2.1 0)) v.2.2.2 c.2.2.1 c.2.2.2)) := ⟨_, rfl⟩
    have f1 : ∀ j, j ≠ 159 → es1 j = es j := fun j hj => by rw [he1, ax_up_ne _ _ hj, ax_up_ne _ _ hj]
    have X1 : rX es1 t c (a + 1) 0 (v.1, v.2.1, zoR (zos dr.2.2.2.1 0), v.2.2.2) ct op ar rn := rX_1 X (rS_up X.1.1 (by rw [he1]; exact ax_up_same ..) (fun j hj _ => f1 j hj) hp1) f1
    unfold mo_f at he1
    rw [← he1]
    refine ax_inv_of (Nat.le_of_ble_eq_true rfl) (Nat.le_of_ble_eq_true rfl) (fun _ => rS_rcv hal X1.1.1 _) (fun h => absurd h (by decide)) (Nat.le_refl _) (Nat.le_refl _) (mk_takeNumber0 (lo := 3) (hi := 12) hal ht X1.1.1 (by decide) (by decide) ?_ ?_)
    · intro es2 h25 hN S2 f2
      have X2 := rX_1 X1 S2 f2
      have y1 := X2.2.1
      simp only [ax_W_cons, ax_I, ax_cmp, ax_ii, ax_ll, ax_li, ax_st1, ax_st2, ax_kl, ax_k2, ax_fit, ax_rtok, List.getElem?_cons_zero, List.getElem?_cons_succ, List.length_cons, List.length_nil, List.set_cons_zero, List.set_cons_succ, Nat.reduceAdd, Nat.reduceDiv, Nat.reduceMod, Nat.reduceMul, Nat.reduceLT, Nat.reduceLeDiff, Int32.reduceOfInt, Int64.reduceOfInt, true_and, and_true, and_self, true_or, or_true, false_implies, true_implies, not_false_eq_true, not_true_eq_false, Value.category, Nat.reduceEqDiff, Option.toList, List.cons_append, List.nil_append, List.drop_succ_cons, List.drop_zero, ax_qq_eq, ax_t_1435, ax_j_1435_161, ax_n_1435_161, y1, hal, k3, k4]
      refine hok (a + 2) _ _ _ _ _ _ (znb t (a + 1), dr.2.1, dr.2.2.1, zos dr.2.2.2.1 0, dr.2.2.2.2) ?_ (rX_ct X2) ?_ (by dsimp only; omega) (by omega) (fun j hj => upd_ne _ _ (by omega)) (rlow_rf _ _) (rfX_trans (rfX_1 f1) (rfX_trans (rfX_1 f2) rfX_ct))
      · rw [zLine, if_pos hk, zL0, if_neg (by rw [hz]; decide), zNum, if_pos h25, if_pos hN]
      · refine ⟨upd_same .., by rw [upd_ne _ _ (by decide)]; exact r2, by rw [upd_ne _ _ (by decide)]; exact r3, r4, r5, fun i hi => ?_, fun i hi => ?_, by rw [upd_ne _ _ (by decide)]; exact r8, by rw [upd_ne _ _ (by decide)]; exact r9, r10, rfl⟩
        · rw [upd_ne _ _ (by omega), upd_ne _ _ (by omega), upd_ne _ _ (by omega)]
          exact r6 i hi
        · rw [upd_ne _ _ (by omega)]
          exact r7 i hi
    · intro es2 k hN _ S2 g2 f2
      have X2 := rX_1 X1 S2 f2
      have y1 := X2.2.1
      simp only [ax_W_cons, ax_I, ax_cmp, ax_ii, ax_ll, ax_li, ax_st1, ax_st2, ax_kl, ax_k2, ax_fit, ax_rtok, List.getElem?_cons_zero, List.getElem?_cons_succ, List.length_cons, List.length_nil, List.set_cons_zero, List.set_cons_succ, Nat.reduceAdd, Nat.reduceDiv, Nat.reduceMod, Nat.reduceMul, Nat.reduceLT, Nat.reduceLeDiff, Int32.reduceOfInt, Int64.reduceOfInt, true_and, and_true, and_self, true_or, or_true, false_implies, true_implies, not_false_eq_true, not_true_eq_false, Value.category, Nat.reduceEqDiff, Option.toList, List.cons_append, List.nil_append, List.drop_succ_cons, List.drop_zero, ax_qq_eq, ax_t_1435, ax_j_1435_161, ax_n_1435_161, y1, hal, k3, k4]
      exact hfail (k, a + 1) _ _ _ _ _ _ (by rw [zLine, if_pos hk, zL0, if_neg (by rw [hz]; decide), hN]) (rX_ct X2) g2 (fun j hj => upd_ne _ _ (by omega)) (rlow_rf _ _) (rfX_trans (rfX_1 f1) (rfX_trans (rfX_1 f2) rfX_ct))
  · -- heat
    have e0 : nI (zkk (zkd t a)) = 1 := by rw [hk]; rfl
    have os := zoR_os dr.2.2.2.1 hkk
    rw [e0, hk] at os
    rw [hk] at hz
    rw [e0]
    simp only [ax_W_cons, ax_I, ax_cmp, ax_ii, ax_ll, ax_li, ax_st1, ax_st2, ax_kl, ax_k2, ax_fit, ax_rtok, List.getElem?_cons_zero, List.getElem?_cons_succ, List.length_cons, List.length_nil, List.set_cons_zero, List.set_cons_succ, Nat.reduceAdd, Nat.reduceDiv, Nat.reduceMod, Nat.reduceMul, Nat.reduceLT, Nat.reduceLeDiff, Int32.reduceOfInt, Int64.reduceOfInt, true_and, and_true, and_self, true_or, or_true, false_implies, true_implies, not_false_eq_true, not_true_eq_false, Value.category, Nat.reduceEqDiff, Option.toList, List.cons_append, List.nil_append, List.drop_succ_cons, List.drop_zero, ax_qq_eq, ax_t_1435, ax_j_1435_66, ax_n_1435_66, ax_j_1435_109, ax_n_1435_109, w0, mo_f, hal, ho, os, a4, c10, ax_up_same]
    obtain ⟨es1, he1⟩ : ∃ x, x = ax_up (ax_up es 159 (.inr (11, mo_f 0 0 c.1 (nI a) 0 (nI v.1) c.2.1 (nI v.2.1) (zoR (zos dr.2.2.2.1 4)) v.2.2.2 c.2.2.1 c.2.2.2))) 159 (.inr (11, mo_f 0 0 c.1 (nI (a + 1)) 0 (nI v.1) c.2.1 (nI v.2.1) (zoR (zos dr.2.2.2.1 4)) v.2.2.2 c.2.2.1 c.2.2.2)) := ⟨_, rfl⟩
    have f1 : ∀ j, j ≠ 159 → es1 j = es j := fun j hj => by rw [he1, ax_up_ne _ _ hj, ax_up_ne _ _ hj]
    have X1 : rX es1 t c (a + 1) 0 (v.1, v.2.1, zoR (zos dr.2.2.2.1 4), v.2.2.2) ct op ar rn := rX_1 X (rS_up X.1.1 (by rw [he1]; exact ax_up_same ..) (fun j hj _ => f1 j hj) hp1) f1
    unfold mo_f at he1
    rw [← he1]
    have hln : zLine t dr a = zHl t (dr.1, dr.2.1, dr.2.2.1, zos dr.2.2.2.1 4, dr.2.2.2.2) 12 (a + 1) [] := by
      rw [zLine, if_neg (by omega), if_neg (by omega), if_pos hk, zL4, if_neg (by rw [hz]; decide)]
    refine ax_inv_of (Nat.le_of_ble_eq_true rfl) (Nat.le_of_ble_eq_true rfl) (fun _ => rS_rcv hal X1.1.1 _) (fun h => absurd h (by decide)) (Nat.le_refl _) (Nat.le_refl _) (mk_readHeat (d := d + 36) hal ht X1 (dr.1, dr.2.1, dr.2.2.1, zos dr.2.2.2.1 4, dr.2.2.2.2) ?_ ?_)
    · intro a' es2 ct' h hz2 X2 hle hl hc42 hh hj f2
      simp only [ax_W_cons, ax_I, ax_cmp, ax_ii, ax_ll, ax_li, ax_st1, ax_st2, ax_kl, ax_k2, ax_fit, ax_rtok, List.getElem?_cons_zero, List.getElem?_cons_succ, List.length_cons, List.length_nil, List.set_cons_zero, List.set_cons_succ, Nat.reduceAdd, Nat.reduceDiv, Nat.reduceMod, Nat.reduceMul, Nat.reduceLT, Nat.reduceLeDiff, Int32.reduceOfInt, Int64.reduceOfInt, true_and, and_true, and_self, true_or, or_true, false_implies, true_implies, not_false_eq_true, not_true_eq_false, Value.category, Nat.reduceEqDiff, Option.toList, List.cons_append, List.nil_append, List.drop_succ_cons, List.drop_zero, ax_qq_eq, ax_t_1435, ax_j_1435_161, ax_n_1435_161]
      refine hok a' es2 _ ct' op ar rn (dr.1, dr.2.1, h, zos dr.2.2.2.1 4, dr.2.2.2.2) (hln.trans hz2) X2 ?_ (by dsimp only; omega) (by omega) (fun j h5 => hj j (by omega) (by omega)) (rlow_rf _ _) (rfX_trans (rfX_1 f1) f2)
      refine ⟨by rw [hj 40 (by decide) (by decide)]; exact r1, by rw [hj 41 (by decide) (by decide)]; exact r2, hc42, r4, hl, fun i hi => ?_, hh, by rw [hj 43 (by decide) (by decide)]; exact r8, by rw [hj 44 (by decide) (by decide)]; exact r9, r10, rfl⟩
      have hi : i < dr.2.1.length := hi
      rw [hj _ (by omega) (by omega), hj _ (by omega) (by omega), hj _ (by omega) (by omega)]
      exact r6 i hi
    · intro x es2 ct' hx X2 g2 hj f2
      simp only [ax_W_cons, ax_I, ax_cmp, ax_ii, ax_ll, ax_li, ax_st1, ax_st2, ax_kl, ax_k2, ax_fit, ax_rtok, List.getElem?_cons_zero, List.getElem?_cons_succ, List.length_cons, List.length_nil, List.set_cons_zero, List.set_cons_succ, Nat.reduceAdd, Nat.reduceDiv, Nat.reduceMod, Nat.reduceMul, Nat.reduceLT, Nat.reduceLeDiff, Int32.reduceOfInt, Int64.reduceOfInt, true_and, and_true, and_self, true_or, or_true, false_implies, true_implies, not_false_eq_true, not_true_eq_false, Value.category, Nat.reduceEqDiff, Option.toList, List.cons_append, List.nil_append, List.drop_succ_cons, List.drop_zero, ax_qq_eq, ax_t_1435, ax_j_1435_161, ax_n_1435_161]
      exact hfail x es2 _ ct' op ar rn (hln.trans hx) X2 g2 hj (rlow_rf _ _) (rfX_trans (rfX_1 f1) f2)
  · -- fades
    have h5 : zkd t a = 5 := hk
    have e0 : nI (zkk (zkd t a)) = 2 := by rw [h5]; rfl
    have os := zoR_os dr.2.2.2.1 hkk
    rw [e0, h5] at os
    rw [h5] at hz
    rw [e0]
    have k0 : ¬ (2 : Int32) = 0 := by decide
    have k1 : ¬ (2 : Int32) = 1 := by decide
    have k2 : (43 : Int32) + 2 - 2 = 43 := by decide
    have k3 : vp_in 43 80 := nI_in (show 43 < 80 by decide) (by decide)
    have k4 : (43 : Int32).toNatClampNeg = 43 := by decide
    have k5 : True := trivial
    simp only [ax_W_cons, ax_I, ax_cmp, ax_ii, ax_ll, ax_li, ax_st1, ax_st2, ax_kl, ax_k2, ax_fit, ax_rtok, List.getElem?_cons_zero, List.getElem?_cons_succ, List.length_cons, List.length_nil, List.set_cons_zero, List.set_cons_succ, Nat.reduceAdd, Nat.reduceDiv, Nat.reduceMod, Nat.reduceMul, Nat.reduceLT, Nat.reduceLeDiff, Int32.reduceOfInt, Int64.reduceOfInt, true_and, and_true, and_self, true_or, or_true, false_implies, true_implies, not_false_eq_true, not_true_eq_false, Value.category, Nat.reduceEqDiff, Option.toList, List.cons_append, List.nil_append, List.drop_succ_cons, List.drop_zero, ax_qq_eq, ax_t_1435, ax_j_1435_66, ax_n_1435_66, ax_j_1435_109, ax_n_1435_109, ax_j_1435_121, ax_n_1435_121, ax_j_1435_147, ax_n_1435_147, w0, w1, mo_f, hal, ho, os, a4, k0, k1, k2, k3, k4, k5, ax_up_same, ax_up_ne, ne_eq]
    obtain ⟨es1, he1⟩ : ∃ x, x = ax_up (ax_up (ax_up (ax_up es 159 (.inr (11, mo_f 0 0 c.1 (nI a) 0 (nI v.1) c.2.1 (nI v.2.1) (zoR (zos dr.2.2.2.1 5)) v.2.2.2 c.2.2.1 c.2.2.2))) 159 (.inr (11, mo_f 0 0 c.1 (nI (a + 1)) 0 (nI v.1) c.2.1 (nI v.2.1) (zoR (zos dr.2.2.2.1 5)) v.2.2.2 c.2.2.1 c.2.2.2))) 165 (.inl (0, 80, .inl (upd ct 43 (nI v.1))))) 159 (.inr (11, mo_f 0 0 c.1 (nI (a + 1)) 0 (nI v.1) c.2.1 (nI v.2.1) (zoR (zos dr.2.2.2.1 5)) 3 c.2.2.1 c.2.2.2)) := ⟨_, rfl⟩
    have f1 : ∀ j, j ≠ 159 → j ≠ 165 → es1 j = es j := fun j hj h5 => by rw [he1, ax_up_ne _ _ hj, ax_up_ne _ _ h5, ax_up_ne _ _ hj, ax_up_ne _ _ hj]
    have X1 : rX es1 t c (a + 1) 0 (v.1, v.2.1, zoR (zos dr.2.2.2.1 5), 3) (upd ct 43 (nI v.1)) op ar rn := ⟨⟨rS_up X.1.1 (by rw [he1]; exact ax_up_same ..) (fun j hj h5 => f1 j hj (by omega)) hp1, (f1 166 (by decide) (by decide)).trans X.1.2.1, (f1 167 (by decide) (by decide)).trans X.1.2.2⟩, (by rw [he1, ax_up_ne _ _ (by decide), ax_up_same]), (f1 169 (by decide) (by decide)).trans X.2.2⟩
    have g1 : rfX es es1 := fun j hj => f1 j hj.1 hj.2.1
    unfold mo_f at he1
    rw [← he1]
    have hC := rCt_all (n := n) (sl := sl) (c := c) hal ht (by decide) (zP_go t false 5) (rCt_part (n := n) (sl := sl) (t := t) (c := c) (h := false) (m := 3) rfl hal ht 5 (Nat.le_refl _))
    refine ax_inv_of (Nat.le_of_ble_eq_true rfl) (Nat.le_of_ble_eq_true rfl) (fun _ => rS_rcv hal X1.1.1 _) (fun h => absurd h (by decide)) (Nat.le_refl _) (Nat.le_refl _) (hC _ es1 (a + 1) _ _ _ _ (by omega) X1.1 (by dsimp only; omega) rfl ?_ ?_)
    · intro r es2 hr E2 f2
      obtain ⟨q1, q2, q3⟩ := (zLv_go (zP_go t false 5) 4 (a + 1)).1 _ hr
      have hb := zpre_le E2.1.2.2.2
      simp only [ax_W_cons, ax_I, ax_cmp, ax_ii, ax_ll, ax_li, ax_st1, ax_st2, ax_kl, ax_k2, ax_fit, ax_rtok, List.getElem?_cons_zero, List.getElem?_cons_succ, List.length_cons, List.length_nil, List.set_cons_zero, List.set_cons_succ, Nat.reduceAdd, Nat.reduceDiv, Nat.reduceMod, Nat.reduceMul, Nat.reduceLT, Nat.reduceLeDiff, Int32.reduceOfInt, Int64.reduceOfInt, true_and, and_true, and_self, true_or, or_true, false_implies, true_implies, not_false_eq_true, not_true_eq_false, Value.category, Nat.reduceEqDiff, Option.toList, List.cons_append, List.nil_append, List.drop_succ_cons, List.drop_zero, ax_qq_eq, ax_t_1435]
      refine ax_inv_of (Nat.le_of_ble_eq_true rfl) (Nat.le_of_ble_eq_true rfl) (fun _ => rS_rcv hal E2.1 _) (fun h => absurd h (by decide)) (Nat.le_refl _) (Nat.le_refl _) (mk_emit hal E2 (by dsimp only; omega) _ _ ?_)
      intro es3 E3 f3
      simp only [ax_W_cons, ax_I, ax_cmp, ax_ii, ax_ll, ax_li, ax_st1, ax_st2, ax_kl, ax_k2, ax_fit, ax_rtok, List.getElem?_cons_zero, List.getElem?_cons_succ, List.length_cons, List.length_nil, List.set_cons_zero, List.set_cons_succ, Nat.reduceAdd, Nat.reduceDiv, Nat.reduceMod, Nat.reduceMul, Nat.reduceLT, Nat.reduceLeDiff, Int32.reduceOfInt, Int64.reduceOfInt, true_and, and_true, and_self, true_or, or_true, false_implies, true_implies, not_false_eq_true, not_true_eq_false, Value.category, Nat.reduceEqDiff, Option.toList, List.cons_append, List.nil_append, List.drop_succ_cons, List.drop_zero, ax_qq_eq, ax_t_1435, ax_j_1435_161, ax_n_1435_161]
      dsimp only at E3
      have low : ∀ j, j < 1100 + v.1 → zapp (zapp op (1100 + v.1) (r.2.map zop)) (1100 + (v.1 + r.2.length)) [0] j = op j ∧ zapp (zapp ar (1100 + v.1) (r.2.map zar)) (1100 + (v.1 + r.2.length)) [0] j = ar j := fun j hj => ⟨by rw [zapp_lo (by omega), zapp_lo hj], by rw [zapp_lo (by omega), zapp_lo hj]⟩
      refine hok r.1 es3 _ _ _ _ _ (dr.1, dr.2.1, dr.2.2.1, zos dr.2.2.2.1 5, r.2, dr.2.2.2.2.2) ?_ (rX_E (rX_E X1 E2 f2) E3 f3) ?_ (by dsimp only; omega) (by omega) (fun j hj => upd_ne _ _ (by omega)) (fun j hj => low j (by omega)) (rfX_trans g1 (rfX_trans (rfX_E f2) (rfX_E f3)))
      · rw [zLine, if_neg (by omega), if_neg (by omega), if_neg (by omega), if_pos h5, zL5, if_neg (by rw [hz]; decide), hr]
      · refine ⟨by rw [upd_ne _ _ (by decide)]; exact r1, by rw [upd_ne _ _ (by decide)]; exact r2, by rw [upd_ne _ _ (by decide)]; exact r3, r4, r5, fun i hi => ?_, fun i hi => ?_, ?_, ?_, r10, rfl⟩
        · have hi : i < dr.2.1.length := hi
          rw [upd_ne _ _ (by omega), upd_ne _ _ (by omega), upd_ne _ _ (by omega)]
          exact r6 i hi
        · rw [upd_ne _ _ (by omega)]
          exact r7 i hi
        · show rLw _ _ _ _ true r.2
          refine ⟨v.1, upd_same .., by dsimp only; omega, fun i hi => ?_, ?_⟩
          · rw [zapp_lo (by omega), zapp_in (by rw [List.length_map]; exact hi), zapp_lo (by omega), zapp_in (by rw [List.length_map]; exact hi), zmapD zop hi, zmapD zar hi]
            exact ⟨rfl, rfl⟩
          · have := zapp_in (op := zapp op (1100 + v.1) (r.2.map zop)) (en := 1100 + (v.1 + r.2.length)) (c := [0]) (i := 0) (by decide)
            rw [Nat.add_zero] at this
            rw [Nat.add_assoc, this]
            rfl
        · rw [upd_ne _ _ (by decide)]
          exact rLw_mono r9 low (by dsimp only; omega)
    · intro x es2 cd op' ar' hx E2 g2 hc2 hl2 f2
      dsimp only at hc2
      have hx2 := ((zLv_go (zP_go t false 5) 4 (a + 1)).2 _ hx).2.1
      have hb := zpre_le E2.1.2.2.2
      simp only [ax_W_cons, ax_I, ax_cmp, ax_ii, ax_ll, ax_li, ax_st1, ax_st2, ax_kl, ax_k2, ax_fit, ax_rtok, List.getElem?_cons_zero, List.getElem?_cons_succ, List.length_cons, List.length_nil, List.set_cons_zero, List.set_cons_succ, Nat.reduceAdd, Nat.reduceDiv, Nat.reduceMod, Nat.reduceMul, Nat.reduceLT, Nat.reduceLeDiff, Int32.reduceOfInt, Int64.reduceOfInt, true_and, and_true, and_self, true_or, or_true, false_implies, true_implies, not_false_eq_true, not_true_eq_false, Value.category, Nat.reduceEqDiff, Option.toList, List.cons_append, List.nil_append, List.drop_succ_cons, List.drop_zero, ax_qq_eq, ax_t_1435]
      refine ax_inv_of (Nat.le_of_ble_eq_true rfl) (Nat.le_of_ble_eq_true rfl) (fun _ => rS_rcv hal E2.1 _) (fun h => absurd h (by decide)) (Nat.le_refl _) (Nat.le_refl _) (mk_emit hal E2 (by dsimp only; omega) _ _ ?_)
      intro es3 E3 f3
      simp only [ax_W_cons, ax_I, ax_cmp, ax_ii, ax_ll, ax_li, ax_st1, ax_st2, ax_kl, ax_k2, ax_fit, ax_rtok, List.getElem?_cons_zero, List.getElem?_cons_succ, List.length_cons, List.length_nil, List.set_cons_zero, List.set_cons_succ, Nat.reduceAdd, Nat.reduceDiv, Nat.reduceMod, Nat.reduceMul, Nat.reduceLT, Nat.reduceLeDiff, Int32.reduceOfInt, Int64.reduceOfInt, true_and, and_true, and_self, true_or, or_true, false_implies, true_implies, not_false_eq_true, not_true_eq_false, Value.category, Nat.reduceEqDiff, Option.toList, List.cons_append, List.nil_append, List.drop_succ_cons, List.drop_zero, ax_qq_eq, ax_t_1435, ax_j_1435_161, ax_n_1435_161]
      exact hfail x es3 _ _ _ _ _ (by rw [zLine, if_neg (by omega), if_neg (by omega), if_neg (by omega), if_pos h5, zL5, if_neg (by rw [hz]; decide), hx]) (rX_E (rX_E X1 E2 f2) E3 f3) g2 (fun j hj => upd_ne _ _ (by omega)) (rlow_trans hl2 (rlow_app _ _ _ _ _)) (rfX_trans g1 (rfX_trans (rfX_E f2) (rfX_E f3)))
  · -- reads
    have h6 : zkd t a = 6 := hk
    have e0 : nI (zkk (zkd t a)) = 3 := by rw [h6]; rfl
    have os := zoR_os dr.2.2.2.1 hkk
    rw [e0, h6] at os
    rw [h6] at hz
    rw [e0]
    have k0 : ¬ (3 : Int32) = 0 := by decide
    have k1 : ¬ (3 : Int32) = 1 := by decide
    have k2 : (43 : Int32) + 3 - 2 = 44 := by decide
    have k3 : vp_in 44 80 := nI_in (show 44 < 80 by decide) (by decide)
    have k4 : (44 : Int32).toNatClampNeg = 44 := by decide
    have k5 : ¬ (3 : Int32) = 2 := by decide
    simp only [ax_W_cons, ax_I, ax_cmp, ax_ii, ax_ll, ax_li, ax_st1, ax_st2, ax_kl, ax_k2, ax_fit, ax_rtok, List.getElem?_cons_zero, List.getElem?_cons_succ, List.length_cons, List.length_nil, List.set_cons_zero, List.set_cons_succ, Nat.reduceAdd, Nat.reduceDiv, Nat.reduceMod, Nat.reduceMul, Nat.reduceLT, Nat.reduceLeDiff, Int32.reduceOfInt, Int64.reduceOfInt, true_and, and_true, and_self, true_or, or_true, false_implies, true_implies, not_false_eq_true, not_true_eq_false, Value.category, Nat.reduceEqDiff, Option.toList, List.cons_append, List.nil_append, List.drop_succ_cons, List.drop_zero, ax_qq_eq, ax_t_1435, ax_j_1435_66, ax_n_1435_66, ax_j_1435_109, ax_n_1435_109, ax_j_1435_121, ax_n_1435_121, ax_j_1435_146, ax_n_1435_146, ax_j_1435_147, ax_n_1435_147, w0, w1, mo_f, hal, ho, os, a4, k0, k1, k2, k3, k4, k5, ax_up_same, ax_up_ne, ne_eq]
    obtain ⟨es1, he1⟩ : ∃ x, x = ax_up (ax_up (ax_up (ax_up es 159 (.inr (11, mo_f 0 0 c.1 (nI a) 0 (nI v.1) c.2.1 (nI v.2.1) (zoR (zos dr.2.2.2.1 6)) v.2.2.2 c.2.2.1 c.2.2.2))) 159 (.inr (11, mo_f 0 0 c.1 (nI (a + 1)) 0 (nI v.1) c.2.1 (nI v.2.1) (zoR (zos dr.2.2.2.1 6)) v.2.2.2 c.2.2.1 c.2.2.2))) 165 (.inl (0, 80, .inl (upd ct 44 (nI v.1))))) 159 (.inr (11, mo_f 0 0 c.1 (nI (a + 1)) 0 (nI v.1) c.2.1 (nI v.2.1) (zoR (zos dr.2.2.2.1 6)) 4 c.2.2.1 c.2.2.2)) := ⟨_, rfl⟩
    have f1 : ∀ j, j ≠ 159 → j ≠ 165 → es1 j = es j := fun j hj h5 => by rw [he1, ax_up_ne _ _ hj, ax_up_ne _ _ h5, ax_up_ne _ _ hj, ax_up_ne _ _ hj]
    have X1 : rX es1 t c (a + 1) 0 (v.1, v.2.1, zoR (zos dr.2.2.2.1 6), 4) (upd ct 44 (nI v.1)) op ar rn := ⟨⟨rS_up X.1.1 (by rw [he1]; exact ax_up_same ..) (fun j hj h5 => f1 j hj (by omega)) hp1, (f1 166 (by decide) (by decide)).trans X.1.2.1, (f1 167 (by decide) (by decide)).trans X.1.2.2⟩, (by rw [he1, ax_up_ne _ _ (by decide), ax_up_same]), (f1 169 (by decide) (by decide)).trans X.2.2⟩
    have g1 : rfX es es1 := fun j hj => f1 j hj.1 hj.2.1
    unfold mo_f at he1
    rw [← he1]
    have hC := rCt_all (n := n) (sl := sl) (c := c) hal ht (by decide) (zP_go t true 5) (rCt_part (n := n) (sl := sl) (t := t) (c := c) (h := true) (m := 4) rfl hal ht 5 (Nat.le_refl _))
    refine ax_inv_of (Nat.le_of_ble_eq_true rfl) (Nat.le_of_ble_eq_true rfl) (fun _ => rS_rcv hal X1.1.1 _) (fun h => absurd h (by decide)) (Nat.le_refl _) (Nat.le_refl _) (hC _ es1 (a + 1) _ _ _ _ (by omega) X1.1 (by dsimp only; omega) rfl ?_ ?_)
    · intro r es2 hr E2 f2
      obtain ⟨q1, q2, q3⟩ := (zLv_go (zP_go t true 5) 4 (a + 1)).1 _ hr
      have hb := zpre_le E2.1.2.2.2
      simp only [ax_W_cons, ax_I, ax_cmp, ax_ii, ax_ll, ax_li, ax_st1, ax_st2, ax_kl, ax_k2, ax_fit, ax_rtok, List.getElem?_cons_zero, List.getElem?_cons_succ, List.length_cons, List.length_nil, List.set_cons_zero, List.set_cons_succ, Nat.reduceAdd, Nat.reduceDiv, Nat.reduceMod, Nat.reduceMul, Nat.reduceLT, Nat.reduceLeDiff, Int32.reduceOfInt, Int64.reduceOfInt, true_and, and_true, and_self, true_or, or_true, false_implies, true_implies, not_false_eq_true, not_true_eq_false, Value.category, Nat.reduceEqDiff, Option.toList, List.cons_append, List.nil_append, List.drop_succ_cons, List.drop_zero, ax_qq_eq, ax_t_1435]
      refine ax_inv_of (Nat.le_of_ble_eq_true rfl) (Nat.le_of_ble_eq_true rfl) (fun _ => rS_rcv hal E2.1 _) (fun h => absurd h (by decide)) (Nat.le_refl _) (Nat.le_refl _) (mk_emit hal E2 (by dsimp only; omega) _ _ ?_)
      intro es3 E3 f3
      simp only [ax_W_cons, ax_I, ax_cmp, ax_ii, ax_ll, ax_li, ax_st1, ax_st2, ax_kl, ax_k2, ax_fit, ax_rtok, List.getElem?_cons_zero, List.getElem?_cons_succ, List.length_cons, List.length_nil, List.set_cons_zero, List.set_cons_succ, Nat.reduceAdd, Nat.reduceDiv, Nat.reduceMod, Nat.reduceMul, Nat.reduceLT, Nat.reduceLeDiff, Int32.reduceOfInt, Int64.reduceOfInt, true_and, and_true, and_self, true_or, or_true, false_implies, true_implies, not_false_eq_true, not_true_eq_false, Value.category, Nat.reduceEqDiff, Option.toList, List.cons_append, List.nil_append, List.drop_succ_cons, List.drop_zero, ax_qq_eq, ax_t_1435, ax_j_1435_161, ax_n_1435_161]
      dsimp only at E3
      have low : ∀ j, j < 1100 + v.1 → zapp (zapp op (1100 + v.1) (r.2.map zop)) (1100 + (v.1 + r.2.length)) [0] j = op j ∧ zapp (zapp ar (1100 + v.1) (r.2.map zar)) (1100 + (v.1 + r.2.length)) [0] j = ar j := fun j hj => ⟨by rw [zapp_lo (by omega), zapp_lo hj], by rw [zapp_lo (by omega), zapp_lo hj]⟩
      refine hok r.1 es3 _ _ _ _ _ (dr.1, dr.2.1, dr.2.2.1, zos dr.2.2.2.1 6, dr.2.2.2.2.1, r.2) ?_ (rX_E (rX_E X1 E2 f2) E3 f3) ?_ (by dsimp only; omega) (by omega) (fun j hj => upd_ne _ _ (by omega)) (fun j hj => low j (by omega)) (rfX_trans g1 (rfX_trans (rfX_E f2) (rfX_E f3)))
      · rw [zLine, if_neg (by omega), if_neg (by omega), if_neg (by omega), if_neg (by omega), if_pos h6, zL6, if_neg (by rw [hz]; decide), hr]
      · refine ⟨by rw [upd_ne _ _ (by decide)]; exact r1, by rw [upd_ne _ _ (by decide)]; exact r2, by rw [upd_ne _ _ (by decide)]; exact r3, r4, r5, fun i hi => ?_, fun i hi => ?_, ?_, ?_, r10, rfl⟩
        · have hi : i < dr.2.1.length := hi
          rw [upd_ne _ _ (by omega), upd_ne _ _ (by omega), upd_ne _ _ (by omega)]
          exact r6 i hi
        · rw [upd_ne _ _ (by omega)]
          exact r7 i hi
        · rw [upd_ne _ _ (by decide)]
          exact rLw_mono r8 low (by dsimp only; omega)
        · show rLw _ _ _ _ true r.2
          refine ⟨v.1, upd_same .., by dsimp only; omega, fun i hi => ?_, ?_⟩
          · rw [zapp_lo (by omega), zapp_in (by rw [List.length_map]; exact hi), zapp_lo (by omega), zapp_in (by rw [List.length_map]; exact hi), zmapD zop hi, zmapD zar hi]
            exact ⟨rfl, rfl⟩
          · have := zapp_in (op := zapp op (1100 + v.1) (r.2.map zop)) (en := 1100 + (v.1 + r.2.length)) (c := [0]) (i := 0) (by decide)
            rw [Nat.add_zero] at this
            rw [Nat.add_assoc, this]
            rfl
    · intro x es2 cd op' ar' hx E2 g2 hc2 hl2 f2
      dsimp only at hc2
      have hx2 := ((zLv_go (zP_go t true 5) 4 (a + 1)).2 _ hx).2.1
      have hb := zpre_le E2.1.2.2.2
      simp only [ax_W_cons, ax_I, ax_cmp, ax_ii, ax_ll, ax_li, ax_st1, ax_st2, ax_kl, ax_k2, ax_fit, ax_rtok, List.getElem?_cons_zero, List.getElem?_cons_succ, List.length_cons, List.length_nil, List.set_cons_zero, List.set_cons_succ, Nat.reduceAdd, Nat.reduceDiv, Nat.reduceMod, Nat.reduceMul, Nat.reduceLT, Nat.reduceLeDiff, Int32.reduceOfInt, Int64.reduceOfInt, true_and, and_true, and_self, true_or, or_true, false_implies, true_implies, not_false_eq_true, not_true_eq_false, Value.category, Nat.reduceEqDiff, Option.toList, List.cons_append, List.nil_append, List.drop_succ_cons, List.drop_zero, ax_qq_eq, ax_t_1435]
      refine ax_inv_of (Nat.le_of_ble_eq_true rfl) (Nat.le_of_ble_eq_true rfl) (fun _ => rS_rcv hal E2.1 _) (fun h => absurd h (by decide)) (Nat.le_refl _) (Nat.le_refl _) (mk_emit hal E2 (by dsimp only; omega) _ _ ?_)
      intro es3 E3 f3
      simp only [ax_W_cons, ax_I, ax_cmp, ax_ii, ax_ll, ax_li, ax_st1, ax_st2, ax_kl, ax_k2, ax_fit, ax_rtok, List.getElem?_cons_zero, List.getElem?_cons_succ, List.length_cons, List.length_nil, List.set_cons_zero, List.set_cons_succ, Nat.reduceAdd, Nat.reduceDiv, Nat.reduceMod, Nat.reduceMul, Nat.reduceLT, Nat.reduceLeDiff, Int32.reduceOfInt, Int64.reduceOfInt, true_and, and_true, and_self, true_or, or_true, false_implies, true_implies, not_false_eq_true, not_true_eq_false, Value.category, Nat.reduceEqDiff, Option.toList, List.cons_append, List.nil_append, List.drop_succ_cons, List.drop_zero, ax_qq_eq, ax_t_1435, ax_j_1435_161, ax_n_1435_161]
      exact hfail x es3 _ _ _ _ _ (by rw [zLine, if_neg (by omega), if_neg (by omega), if_neg (by omega), if_neg (by omega), if_pos h6, zL6, if_neg (by rw [hz]; decide), hx]) (rX_E (rX_E X1 E2 f2) E3 f3) g2 (fun j hj => upd_ne _ _ (by omega)) (rlow_trans hl2 (rlow_app _ _ _ _ _)) (rfX_trans g1 (rfX_trans (rfX_E f2) (rfX_E f3)))
theorem mk_readCourtier (hal : ax_al n = 178) (ht : zT_ok t) (hk : zkd t a = 1) : rLc n sl t c 1434 a := by
  intro d es v ct op ar rn dr Q X R hcd hok hfail
  have hL := ht.1
  obtain ⟨r1, r2, r3, r4, r5, r6, r7, r8, r9, r10, ho⟩ := id R
  have w0 : es 159 = _ := X.1.1.1
  have w1 := X.2.1
  have c10 : ¬ (1 : Int32) = 0 := by decide
  have c00 : (0 : Int32) ≤ 0 := by decide
  have a4 : ∀ m, nI m + 1 = nI (m + 1) := fun m => (nI_succ m).symm
  have hln : zLine t dr a = zL1 t dr a := by rw [zLine, if_neg (by omega), if_pos hk]
  rw [hln] at hok hfail
  unfold zL1 at hok hfail
  refine ax_Mt_go (m := ax_m_11_26) (ls := [some (.ref 159), none, none, none, none, none, none]) rfl ax_b_1434_0 (Nat.le_of_ble_eq_true rfl) rfl ?_
  by_cases h6 : 6 ≤ dr.2.1.length
  · rw [if_pos h6] at hfail
    have e6 : nI v.2.1 = 6 := by rw [r10, show dr.2.1.length = 6 by omega]; rfl
    simp only [ax_W_cons, ax_I, ax_cmp, ax_ii, ax_ll, ax_li, ax_st1, ax_st2, ax_kl, ax_k2, ax_fit, ax_rtok, List.getElem?_cons_zero, List.getElem?_cons_succ, List.length_cons, List.length_nil, List.set_cons_zero, List.set_cons_succ, Nat.reduceAdd, Nat.reduceDiv, Nat.reduceMod, Nat.reduceMul, Nat.reduceLT, Nat.reduceLeDiff, Int32.reduceOfInt, Int64.reduceOfInt, true_and, and_true, and_self, true_or, or_true, false_implies, true_implies, not_false_eq_true, not_true_eq_false, Value.category, Nat.reduceEqDiff, Option.toList, List.cons_append, List.nil_append, List.drop_succ_cons, List.drop_zero, ax_qq_eq, ax_t_1434, w0, mo_f, hal, e6]
    refine ax_inv_of (Nat.le_of_ble_eq_true rfl) (Nat.le_of_ble_eq_true rfl) (fun _ => rS_rcv hal X.1.1 _) (fun h => absurd h (by decide)) (Nat.le_refl _) (Nat.le_refl _) (mk_wrong0 (k := 5) hal ht X.1.1 (by decide) (by decide) ?_)
    intro es1 S1 g1 f1
    simp only [ax_W_cons, ax_I, ax_cmp, ax_ii, ax_ll, ax_li, ax_st1, ax_st2, ax_kl, ax_k2, ax_fit, ax_rtok, List.getElem?_cons_zero, List.getElem?_cons_succ, List.length_cons, List.length_nil, List.set_cons_zero, List.set_cons_succ, Nat.reduceAdd, Nat.reduceDiv, Nat.reduceMod, Nat.reduceMul, Nat.reduceLT, Nat.reduceLeDiff, Int32.reduceOfInt, Int64.reduceOfInt, true_and, and_true, and_self, true_or, or_true, false_implies, true_implies, not_false_eq_true, not_true_eq_false, Value.category, Nat.reduceEqDiff, Option.toList, List.cons_append, List.nil_append, List.drop_succ_cons, List.drop_zero, ax_qq_eq, ax_t_1434]
    exact hfail (5, a) es1 v ct op ar rn rfl (rX_1 X S1 f1) g1 (rct_rf _) (rlow_rf _ _) (rfX_1 f1)
  rw [if_neg h6] at hok hfail
  have e6 : ¬ nI v.2.1 = 6 := fun z => by
    have := kn_inj (b := 6) (by omega) (by decide) z
    omega
  have hp1 := zpre_s X.1.1.2.2.2 (by omega)
  simp only [ax_W_cons, ax_I, ax_cmp, ax_ii, ax_ll, ax_li, ax_st1, ax_st2, ax_kl, ax_k2, ax_fit, ax_rtok, List.getElem?_cons_zero, List.getElem?_cons_succ, List.length_cons, List.length_nil, List.set_cons_zero, List.set_cons_succ, Nat.reduceAdd, Nat.reduceDiv, Nat.reduceMod, Nat.reduceMul, Nat.reduceLT, Nat.reduceLeDiff, Int32.reduceOfInt, Int64.reduceOfInt, true_and, and_true, and_self, true_or, or_true, false_implies, true_implies, not_false_eq_true, not_true_eq_false, Value.category, Nat.reduceEqDiff, Option.toList, List.cons_append, List.nil_append, List.drop_succ_cons, List.drop_zero, ax_qq_eq, ax_t_1434, ax_j_1434_15, ax_n_1434_15, w0, mo_f, hal, e6, a4]
  obtain ⟨es1, he1⟩ : ∃ x, x = ax_up es 159 (.inr (11, mo_f 0 0 c.1 (nI (a + 1)) 0 (nI v.1) c.2.1 (nI v.2.1) v.2.2.1 v.2.2.2 c.2.2.1 c.2.2.2)) := ⟨_, rfl⟩
  have f1 : ∀ j, j ≠ 159 → es1 j = es j := fun j hj => by rw [he1, ax_up_ne _ _ hj]
  have X1 : rX es1 t c (a + 1) 0 v ct op ar rn := rX_1 X (rS_up X.1.1 (by rw [he1]; exact ax_up_same ..) (fun j hj _ => f1 j hj) hp1) f1
  unfold mo_f at he1
  rw [← he1]
  refine ax_inv_of (Nat.le_of_ble_eq_true rfl) (Nat.le_of_ble_eq_true rfl) (fun _ => rS_rcv hal X1.1.1 _) (fun h => absurd h (by decide)) (Nat.le_refl _) (Nat.le_refl _) (mk_isName (d := d + 37) hal ht X1.1.1 ?_)
  by_cases hN : zName t (a + 1)
  rotate_left
  · rw [if_neg hN] at hfail
    rw [decide_eq_false (fun z => hN z.2)]
    simp only [ax_W_cons, ax_I, ax_cmp, ax_ii, ax_ll, ax_li, ax_st1, ax_st2, ax_kl, ax_k2, ax_fit, ax_rtok, List.getElem?_cons_zero, List.getElem?_cons_succ, List.length_cons, List.length_nil, List.set_cons_zero, List.set_cons_succ, Nat.reduceAdd, Nat.reduceDiv, Nat.reduceMod, Nat.reduceMul, Nat.reduceLT, Nat.reduceLeDiff, Int32.reduceOfInt, Int64.reduceOfInt, true_and, and_true, and_self, true_or, or_true, false_implies, true_implies, not_false_eq_true, not_true_eq_false, Value.category, Nat.reduceEqDiff, Option.toList, List.cons_append, List.nil_append, List.drop_succ_cons, List.drop_zero, ax_qq_eq, ax_t_1434, kx_bf]
    refine ax_inv_of (Nat.le_of_ble_eq_true rfl) (Nat.le_of_ble_eq_true rfl) (fun _ => rS_rcv hal X1.1.1 _) (fun h => absurd h (by decide)) (Nat.le_refl _) (Nat.le_refl _) (mk_wrong0 (k := 1) hal ht X1.1.1 (by decide) (by decide) ?_)
    intro es2 S2 g2 f2
    have y0 : es2 159 = _ := S2.1
    have g3 := g2.2
    simp only [ax_W_cons, ax_I, ax_cmp, ax_ii, ax_ll, ax_li, ax_st1, ax_st2, ax_kl, ax_k2, ax_fit, ax_rtok, List.getElem?_cons_zero, List.getElem?_cons_succ, List.length_cons, List.length_nil, List.set_cons_zero, List.set_cons_succ, Nat.reduceAdd, Nat.reduceDiv, Nat.reduceMod, Nat.reduceMul, Nat.reduceLT, Nat.reduceLeDiff, Int32.reduceOfInt, Int64.reduceOfInt, true_and, and_true, and_self, true_or, or_true, false_implies, true_implies, not_false_eq_true, not_true_eq_false, Value.category, Nat.reduceEqDiff, Option.toList, List.cons_append, List.nil_append, List.drop_succ_cons, List.drop_zero, ax_qq_eq, ax_t_1434, ax_j_1434_53, ax_n_1434_53, y0, mo_f, hal, g3]
    exact hfail (1, a + 1) es2 v ct op ar rn rfl (rX_1 X1 S2 f2) g2 (rct_rf _) (rlow_rf _ _) (rfX_trans (rfX_1 f1) (rfX_1 f2))
  rw [if_pos hN] at hok hfail
  rw [decide_eq_true ⟨rfl, hN⟩]
  have h24 := zName_26 hN
  simp only [ax_W_cons, ax_I, ax_cmp, ax_ii, ax_ll, ax_li, ax_st1, ax_st2, ax_kl, ax_k2, ax_fit, ax_rtok, List.getElem?_cons_zero, List.getElem?_cons_succ, List.length_cons, List.length_nil, List.set_cons_zero, List.set_cons_succ, Nat.reduceAdd, Nat.reduceDiv, Nat.reduceMod, Nat.reduceMul, Nat.reduceLT, Nat.reduceLeDiff, Int32.reduceOfInt, Int64.reduceOfInt, true_and, and_true, and_self, true_or, or_true, false_implies, true_implies, not_false_eq_true, not_true_eq_false, Value.category, Nat.reduceEqDiff, Option.toList, List.cons_append, List.nil_append, List.drop_succ_cons, List.drop_zero, ax_qq_eq, ax_t_1434, ax_j_1434_40, ax_n_1434_40, kx_bt, c10]
  refine ax_inv_of (Nat.le_of_ble_eq_true rfl) (Nat.le_of_ble_eq_true rfl) (fun _ => rS_rcv hal X1.1.1 _) (fun h => absurd h (by decide)) (Nat.le_refl _) (Nat.le_refl _) (mk_nameAt (rd := true) (cs := dr.2.1) hal ht X1.1.1 h24 X1.2.2 (by rw [if_pos rfl, r10]) r4 (fun i hi => (r6 i hi).2.2.2) ?_)
  by_cases hF : zFnd dr.2.1 (zwd t (a + 1)) 0 = none
  rotate_left
  · rw [if_neg hF] at hfail
    obtain ⟨i, hi⟩ : ∃ i, zFnd dr.2.1 (zwd t (a + 1)) 0 = some i := by
      cases hq : zFnd dr.2.1 (zwd t (a + 1)) 0 with
      | none => exact absurd hq hF
      | some i => exact ⟨i, rfl⟩
    have hlt := zFnd_lt _ _ _ _ hi
    rw [hi]
    have e1 : ¬ zFi (some i) < 0 := by
      show ¬ nI i < 0
      rw [kx_nlt]
      exact nI_le (a := 0) (Nat.zero_le _) (by omega)
    simp only [ax_W_cons, ax_I, ax_cmp, ax_ii, ax_ll, ax_li, ax_st1, ax_st2, ax_kl, ax_k2, ax_fit, ax_rtok, List.getElem?_cons_zero, List.getElem?_cons_succ, List.length_cons, List.length_nil, List.set_cons_zero, List.set_cons_succ, Nat.reduceAdd, Nat.reduceDiv, Nat.reduceMod, Nat.reduceMul, Nat.reduceLT, Nat.reduceLeDiff, Int32.reduceOfInt, Int64.reduceOfInt, true_and, and_true, and_self, true_or, or_true, false_implies, true_implies, not_false_eq_true, not_true_eq_false, Value.category, Nat.reduceEqDiff, Option.toList, List.cons_append, List.nil_append, List.drop_succ_cons, List.drop_zero, ax_qq_eq, ax_t_1434, e1]
    refine ax_inv_of (Nat.le_of_ble_eq_true rfl) (Nat.le_of_ble_eq_true rfl) (fun _ => rS_rcv hal X1.1.1 _) (fun h => absurd h (by decide)) (Nat.le_refl _) (Nat.le_refl _) (mk_wrong0 (k := 3) hal ht X1.1.1 (by decide) (by decide) ?_)
    intro es2 S2 g2 f2
    have y0 : es2 159 = _ := S2.1
    have g3 := g2.2
    simp only [ax_W_cons, ax_I, ax_cmp, ax_ii, ax_ll, ax_li, ax_st1, ax_st2, ax_kl, ax_k2, ax_fit, ax_rtok, List.getElem?_cons_zero, List.getElem?_cons_succ, List.length_cons, List.length_nil, List.set_cons_zero, List.set_cons_succ, Nat.reduceAdd, Nat.reduceDiv, Nat.reduceMod, Nat.reduceMul, Nat.reduceLT, Nat.reduceLeDiff, Int32.reduceOfInt, Int64.reduceOfInt, true_and, and_true, and_self, true_or, or_true, false_implies, true_implies, not_false_eq_true, not_true_eq_false, Value.category, Nat.reduceEqDiff, Option.toList, List.cons_append, List.nil_append, List.drop_succ_cons, List.drop_zero, ax_qq_eq, ax_t_1434, ax_j_1434_53, ax_n_1434_53, y0, mo_f, hal, g3]
    exact hfail (3, a + 1) es2 v ct op ar rn rfl (rX_1 X1 S2 f2) g2 (rct_rf _) (rlow_rf _ _) (rfX_trans (rfX_1 f1) (rfX_1 f2))
  rw [if_pos hF] at hok hfail
  rw [hF]
  have e1 : zFi none < 0 := by decide
  obtain ⟨so, pl, va, s1, s2, s3, ⟨b1, b2, b3, b4, b5⟩, q1, q2, ha⟩ := rS_get ht X1.1.1
  have y0 : es1 159 = _ := X1.1.1.1
  have hv := b3 h24
  have hwd := (zwd_ok h24).2.2.2.1
  have hp2 := zpre_s hp1 (by omega)
  simp only [ax_W_cons, ax_I, ax_cmp, ax_ii, ax_ll, ax_li, ax_st1, ax_st2, ax_kl, ax_k2, ax_fit, ax_rtok, List.getElem?_cons_zero, List.getElem?_cons_succ, List.length_cons, List.length_nil, List.set_cons_zero, List.set_cons_succ, Nat.reduceAdd, Nat.reduceDiv, Nat.reduceMod, Nat.reduceMul, Nat.reduceLT, Nat.reduceLeDiff, Int32.reduceOfInt, Int64.reduceOfInt, true_and, and_true, and_self, true_or, or_true, false_implies, true_implies, not_false_eq_true, not_true_eq_false, Value.category, Nat.reduceEqDiff, Option.toList, List.cons_append, List.nil_append, List.drop_succ_cons, List.drop_zero, ax_qq_eq, ax_t_1434, ax_j_1434_53, ax_n_1434_53, e1, y0, mo_f, hal, c00]
  rw [ax_j_1434_61]
  dsimp only
  generalize hr1 : (((1, .aload 0) : Nat × Instr) :: ((3, .getfield 2848) : Nat × Instr) :: ((3, .ifCond .ne 188) : Nat × Instr) :: ((2, .iconst 45) : Nat × Instr) :: ((1, .iconst 3) : Nat × Instr) :: ((1, .aload 0) : Nat × Instr) :: ((3, .getfield 2884) : Nat × Instr) :: ((1, .imul) : Nat × Instr) :: ((1, .iadd) : Nat × Instr) :: ((2, .istore 6) : Nat × Instr) :: ((1, .aload 0) : Nat × Instr) :: ((3, .getfield 2858) : Nat × Instr) :: ((2, .iload 6) : Nat × Instr) :: ((1, .iload 3) : Nat × Instr) :: ((1, .iastore) : Nat × Instr) :: ((1, .aload 0) : Nat × Instr) :: ((3, .getfield 2858) : Nat × Instr) :: ((2, .iload 6) : Nat × Instr) :: ((1, .iconst 1) : Nat × Instr) :: ((1, .iadd) : Nat × Instr) :: ((2, .iload 4) : Nat × Instr) :: ((1, .iastore) : Nat × Instr) :: ((1, .aload 0) : Nat × Instr) :: ((3, .getfield 2858) : Nat × Instr) :: ((2, .iload 6) : Nat × Instr) :: ((1, .iconst 2) : Nat × Instr) :: ((1, .iadd) : Nat × Instr) :: ((2, .iload 5) : Nat × Instr) :: ((1, .iastore) : Nat × Instr) :: ((1, .aload 0) : Nat × Instr) :: ((3, .getfield 2878) : Nat × Instr) :: ((1, .aload 0) : Nat × Instr) :: ((3, .getfield 2884) : Nat × Instr) :: ((1, .lload 1) : Nat × Instr) :: ((1, .lastore) : Nat × Instr) :: ((1, .aload 0) : Nat × Instr) :: ((1, .dup) : Nat × Instr) :: ((3, .getfield 2884) : Nat × Instr) :: ((1, .iconst 1) : Nat × Instr) :: ((1, .iadd) : Nat × Instr) :: ((3, .putfield 2884) : Nat × Instr) :: ((1, .aload 0) : Nat × Instr) :: ((3, .getfield 2858) : Nat × Instr) :: ((2, .iconst 41) : Nat × Instr) :: ((1, .aload 0) : Nat × Instr) :: ((3, .getfield 2884) : Nat × Instr) :: ((1, .iastore) : Nat × Instr) :: []) = rest
  simp only [ax_W_cons, ax_I, ax_cmp, ax_ii, ax_ll, ax_li, ax_st1, ax_st2, ax_kl, ax_k2, ax_fit, ax_rtok, List.getElem?_cons_zero, List.getElem?_cons_succ, List.length_cons, List.length_nil, List.set_cons_zero, List.set_cons_succ, Nat.reduceAdd, Nat.reduceDiv, Nat.reduceMod, Nat.reduceMul, Nat.reduceLT, Nat.reduceLeDiff, Int32.reduceOfInt, Int64.reduceOfInt, true_and, and_true, and_self, true_or, or_true, false_implies, true_implies, not_false_eq_true, not_true_eq_false, Value.category, Nat.reduceEqDiff, Option.toList, List.cons_append, List.nil_append, List.drop_succ_cons, List.drop_zero, ax_qq_eq, ax_t_1434, y0, s3, mo_f, hal, q1, q2, hv, a4]
  obtain ⟨es2, he2⟩ : ∃ x, x = ax_up es1 159 (.inr (11, mo_f 0 0 c.1 (nI (a + 1 + 1)) 0 (nI v.1) c.2.1 (nI v.2.1) v.2.2.1 v.2.2.2 c.2.2.1 c.2.2.2)) := ⟨_, rfl⟩
  have f2 : ∀ j, j ≠ 159 → es2 j = es1 j := fun j hj => by rw [he2, ax_up_ne _ _ hj]
  have X2 : rX es2 t c (a + 2) 0 v ct op ar rn := rX_1 X1 (rS_up X1.1.1 (by rw [he2]; exact ax_up_same ..) (fun j hj _ => f2 j hj) hp2) f2
  unfold mo_f at he2
  rw [← he2]
  -- in a fault nothing more is done
  have bad : ∀ es3 b k l3 l4 l5, rX es3 t c b (nI (k + 16 * zpl t b)) v ct op ar rn → rFl (nI (k + 16 * zpl t b)) → Q none es3 → ax_W (d + 40) n sl 1434 rest 109 [some (.ref 159), some (.long (nL (zv37 (zwd t (a + 1))))), none, l3, l4, l5, none] [] n sl es3 (ax_qq n sl Q) := by
    intro es3 b k l3 l4 l5 X3 g3 hq
    have z0 : es3 159 = _ := X3.1.1.1
    have g4 := g3.1
    subst hr1
    generalize (((2, .iconst 45) : Nat × Instr) :: ((1, .iconst 3) : Nat × Instr) :: ((1, .aload 0) : Nat × Instr) :: ((3, .getfield 2884) : Nat × Instr) :: ((1, .imul) : Nat × Instr) :: ((1, .iadd) : Nat × Instr) :: ((2, .istore 6) : Nat × Instr) :: ((1, .aload 0) : Nat × Instr) :: ((3, .getfield 2858) : Nat × Instr) :: ((2, .iload 6) : Nat × Instr) :: ((1, .iload 3) : Nat × Instr) :: ((1, .iastore) : Nat × Instr) :: ((1, .aload 0) : Nat × Instr) :: ((3, .getfield 2858) : Nat × Instr) :: ((2, .iload 6) : Nat × Instr) :: ((1, .iconst 1) : Nat × Instr) :: ((1, .iadd) : Nat × Instr) :: ((2, .iload 4) : Nat × Instr) :: ((1, .iastore) : Nat × Instr) :: ((1, .aload 0) : Nat × Instr) :: ((3, .getfield 2858) : Nat × Instr) :: ((2, .iload 6) : Nat × Instr) :: ((1, .iconst 2) : Nat × Instr) :: ((1, .iadd) : Nat × Instr) :: ((2, .iload 5) : Nat × Instr) :: ((1, .iastore) : Nat × Instr) :: ((1, .aload 0) : Nat × Instr) :: ((3, .getfield 2878) : Nat × Instr) :: ((1, .aload 0) : Nat × Instr) :: ((3, .getfield 2884) : Nat × Instr) :: ((1, .lload 1) : Nat × Instr) :: ((1, .lastore) : Nat × Instr) :: ((1, .aload 0) : Nat × Instr) :: ((1, .dup) : Nat × Instr) :: ((3, .getfield 2884) : Nat × Instr) :: ((1, .iconst 1) : Nat × Instr) :: ((1, .iadd) : Nat × Instr) :: ((3, .putfield 2884) : Nat × Instr) :: ((1, .aload 0) : Nat × Instr) :: ((3, .getfield 2858) : Nat × Instr) :: ((2, .iconst 41) : Nat × Instr) :: ((1, .aload 0) : Nat × Instr) :: ((3, .getfield 2884) : Nat × Instr) :: ((1, .iastore) : Nat × Instr) :: []) = r2
    simp only [ax_W_cons, ax_I, ax_cmp, ax_ii, ax_ll, ax_li, ax_st1, ax_st2, ax_kl, ax_k2, ax_fit, ax_rtok, List.getElem?_cons_zero, List.getElem?_cons_succ, List.length_cons, List.length_nil, List.set_cons_zero, List.set_cons_succ, Nat.reduceAdd, Nat.reduceDiv, Nat.reduceMod, Nat.reduceMul, Nat.reduceLT, Nat.reduceLeDiff, Int32.reduceOfInt, Int64.reduceOfInt, true_and, and_true, and_self, true_or, or_true, false_implies, true_implies, not_false_eq_true, not_true_eq_false, Value.category, Nat.reduceEqDiff, Option.toList, List.cons_append, List.nil_append, List.drop_succ_cons, List.drop_zero, ax_qq_eq, ax_t_1434, ax_j_1434_188, ax_n_1434_188, z0, mo_f, hal, g4]
    exact hq
  have F2 : rfX es es2 := rfX_trans (rfX_1 f1) (rfX_1 f2)
  refine ax_inv_of (Nat.le_of_ble_eq_true rfl) (Nat.le_of_ble_eq_true rfl) (fun _ => rS_rcv hal X2.1.1 _) (fun h => absurd h (by decide)) (Nat.le_refl _) (Nat.le_refl _) (mk_takeOne0 (fr := 13) (m := 4) (d := d + 37) hal ht X2.1.1 (by decide) ?_ ?_)
  rotate_left
  · intro es3 hK S3 g3 f3
    rw [if_neg (by omega)] at hfail
    have X3 := rX_1 X2 S3 f3
    simp only [ax_W_cons, ax_I, ax_cmp, ax_ii, ax_ll, ax_li, ax_st1, ax_st2, ax_kl, ax_k2, ax_fit, ax_rtok, List.getElem?_cons_zero, List.getElem?_cons_succ, List.length_cons, List.length_nil, List.set_cons_zero, List.set_cons_succ, Nat.reduceAdd, Nat.reduceDiv, Nat.reduceMod, Nat.reduceMul, Nat.reduceLT, Nat.reduceLeDiff, Int32.reduceOfInt, Int64.reduceOfInt, true_and, and_true, and_self, true_or, or_true, false_implies, true_implies, not_false_eq_true, not_true_eq_false, Value.category, Nat.reduceEqDiff, Option.toList, List.cons_append, List.nil_append, List.drop_succ_cons, List.drop_zero, ax_qq_eq, ax_t_1434]
    refine ax_inv_of (Nat.le_of_ble_eq_true rfl) (Nat.le_of_ble_eq_true rfl) (fun _ => rS_rcv hal S3 _) (fun h => absurd h (by decide)) (Nat.le_refl _) (Nat.le_refl _) (mk_takeAfter1 (x := 2) (d := d + 36) hal ht S3 g3 (by decide) _ _ ?_)
    simp only [ax_W_cons, ax_I, ax_cmp, ax_ii, ax_ll, ax_li, ax_st1, ax_st2, ax_kl, ax_k2, ax_fit, ax_rtok, List.getElem?_cons_zero, List.getElem?_cons_succ, List.length_cons, List.length_nil, List.set_cons_zero, List.set_cons_succ, Nat.reduceAdd, Nat.reduceDiv, Nat.reduceMod, Nat.reduceMul, Nat.reduceLT, Nat.reduceLeDiff, Int32.reduceOfInt, Int64.reduceOfInt, true_and, and_true, and_self, true_or, or_true, false_implies, true_implies, not_false_eq_true, not_true_eq_false, Value.category, Nat.reduceEqDiff, Option.toList, List.cons_append, List.nil_append, List.drop_succ_cons, List.drop_zero, ax_qq_eq, ax_t_1434]
    refine ax_inv_of (Nat.le_of_ble_eq_true rfl) (Nat.le_of_ble_eq_true rfl) (fun _ => rS_rcv hal S3 _) (fun h => absurd h (by decide)) (Nat.le_refl _) (Nat.le_refl _) (mk_takeAfter1 (x := 3) (d := d + 36) hal ht S3 g3 (by decide) _ _ ?_)
    simp only [ax_W_cons, ax_I, ax_cmp, ax_ii, ax_ll, ax_li, ax_st1, ax_st2, ax_kl, ax_k2, ax_fit, ax_rtok, List.getElem?_cons_zero, List.getElem?_cons_succ, List.length_cons, List.length_nil, List.set_cons_zero, List.set_cons_succ, Nat.reduceAdd, Nat.reduceDiv, Nat.reduceMod, Nat.reduceMul, Nat.reduceLT, Nat.reduceLeDiff, Int32.reduceOfInt, Int64.reduceOfInt, true_and, and_true, and_self, true_or, or_true, false_implies, true_implies, not_false_eq_true, not_true_eq_false, Value.category, Nat.reduceEqDiff, Option.toList, List.cons_append, List.nil_append, List.drop_succ_cons, List.drop_zero, ax_qq_eq, ax_t_1434]
    exact bad es3 _ _ _ _ _ X3 g3 (hfail (1, a + 2) es3 v ct op ar rn rfl X3 g3 (rct_rf _) (rlow_rf _ _) (rfX_trans F2 (rfX_1 f3)))
  intro es3 hK S3 f3
  rw [if_pos ⟨hK.1, by omega⟩] at hok hfail
  have X3 := rX_1 X2 S3 f3
  simp only [ax_W_cons, ax_I, ax_cmp, ax_ii, ax_ll, ax_li, ax_st1, ax_st2, ax_kl, ax_k2, ax_fit, ax_rtok, List.getElem?_cons_zero, List.getElem?_cons_succ, List.length_cons, List.length_nil, List.set_cons_zero, List.set_cons_succ, Nat.reduceAdd, Nat.reduceDiv, Nat.reduceMod, Nat.reduceMul, Nat.reduceLT, Nat.reduceLeDiff, Int32.reduceOfInt, Int64.reduceOfInt, true_and, and_true, and_self, true_or, or_true, false_implies, true_implies, not_false_eq_true, not_true_eq_false, Value.category, Nat.reduceEqDiff, Option.toList, List.cons_append, List.nil_append, List.drop_succ_cons, List.drop_zero, ax_qq_eq, ax_t_1434]
  refine ax_inv_of (Nat.le_of_ble_eq_true rfl) (Nat.le_of_ble_eq_true rfl) (fun _ => rS_rcv hal S3 _) (fun h => absurd h (by decide)) (Nat.le_refl _) (Nat.le_refl _) (mk_takeAfter0 (x := 2) (lo := 0) (hi := 11) (d := d + 36) hal ht S3 (by decide) (by decide) (by decide) ?_ ?_)
  rotate_left
  · intro es4 k b hz S4 g4 f4
    have X4 := rX_1 X3 S4 f4
    simp only [ax_W_cons, ax_I, ax_cmp, ax_ii, ax_ll, ax_li, ax_st1, ax_st2, ax_kl, ax_k2, ax_fit, ax_rtok, List.getElem?_cons_zero, List.getElem?_cons_succ, List.length_cons, List.length_nil, List.set_cons_zero, List.set_cons_succ, Nat.reduceAdd, Nat.reduceDiv, Nat.reduceMod, Nat.reduceMul, Nat.reduceLT, Nat.reduceLeDiff, Int32.reduceOfInt, Int64.reduceOfInt, true_and, and_true, and_self, true_or, or_true, false_implies, true_implies, not_false_eq_true, not_true_eq_false, Value.category, Nat.reduceEqDiff, Option.toList, List.cons_append, List.nil_append, List.drop_succ_cons, List.drop_zero, ax_qq_eq, ax_t_1434]
    refine ax_inv_of (Nat.le_of_ble_eq_true rfl) (Nat.le_of_ble_eq_true rfl) (fun _ => rS_rcv hal S4 _) (fun h => absurd h (by decide)) (Nat.le_refl _) (Nat.le_refl _) (mk_takeAfter1 (x := 3) (d := d + 36) hal ht S4 g4 (by decide) _ _ ?_)
    simp only [ax_W_cons, ax_I, ax_cmp, ax_ii, ax_ll, ax_li, ax_st1, ax_st2, ax_kl, ax_k2, ax_fit, ax_rtok, List.getElem?_cons_zero, List.getElem?_cons_succ, List.length_cons, List.length_nil, List.set_cons_zero, List.set_cons_succ, Nat.reduceAdd, Nat.reduceDiv, Nat.reduceMod, Nat.reduceMul, Nat.reduceLT, Nat.reduceLeDiff, Int32.reduceOfInt, Int64.reduceOfInt, true_and, and_true, and_self, true_or, or_true, false_implies, true_implies, not_false_eq_true, not_true_eq_false, Value.category, Nat.reduceEqDiff, Option.toList, List.cons_append, List.nil_append, List.drop_succ_cons, List.drop_zero, ax_qq_eq, ax_t_1434]
    exact bad es4 _ _ _ _ _ X4 g4 (hfail (k, b) es4 v ct op ar rn (hz _) X4 g4 (rct_rf _) (rlow_rf _ _) (rfX_trans F2 (rfX_trans (rfX_1 f3) (rfX_1 f4))))
  intro es4 k4 k5 hN4 S4 f4
  have k4 : zkd t (a + 3) = 2 := k4
  have k5 : zkd t (a + 4) = 25 := k5
  have hN4 : zNo t (a + 4) 0 11 := hN4
  have z4 : ∀ g, zSgn t (a + 3) 2 (zNum t (a + 4) 0 11 g) = g := fun g => by rw [zSgn, if_pos k4, zNum, if_pos k5, if_pos hN4]
  rw [z4] at hok hfail
  have X4 := rX_1 X3 S4 f4
  simp only [ax_W_cons, ax_I, ax_cmp, ax_ii, ax_ll, ax_li, ax_st1, ax_st2, ax_kl, ax_k2, ax_fit, ax_rtok, List.getElem?_cons_zero, List.getElem?_cons_succ, List.length_cons, List.length_nil, List.set_cons_zero, List.set_cons_succ, Nat.reduceAdd, Nat.reduceDiv, Nat.reduceMod, Nat.reduceMul, Nat.reduceLT, Nat.reduceLeDiff, Int32.reduceOfInt, Int64.reduceOfInt, true_and, and_true, and_self, true_or, or_true, false_implies, true_implies, not_false_eq_true, not_true_eq_false, Value.category, Nat.reduceEqDiff, Option.toList, List.cons_append, List.nil_append, List.drop_succ_cons, List.drop_zero, ax_qq_eq, ax_t_1434]
  refine ax_inv_of (Nat.le_of_ble_eq_true rfl) (Nat.le_of_ble_eq_true rfl) (fun _ => rS_rcv hal S4 _) (fun h => absurd h (by decide)) (Nat.le_refl _) (Nat.le_refl _) (mk_takeAfter0 (x := 3) (lo := 0) (hi := 9) (d := d + 36) hal ht S4 (by decide) (by decide) (by decide) ?_ ?_)
  rotate_left
  · intro es5 k b hz S5 g5 f5
    have X5 := rX_1 X4 S5 f5
    simp only [ax_W_cons, ax_I, ax_cmp, ax_ii, ax_ll, ax_li, ax_st1, ax_st2, ax_kl, ax_k2, ax_fit, ax_rtok, List.getElem?_cons_zero, List.getElem?_cons_succ, List.length_cons, List.length_nil, List.set_cons_zero, List.set_cons_succ, Nat.reduceAdd, Nat.reduceDiv, Nat.reduceMod, Nat.reduceMul, Nat.reduceLT, Nat.reduceLeDiff, Int32.reduceOfInt, Int64.reduceOfInt, true_and, and_true, and_self, true_or, or_true, false_implies, true_implies, not_false_eq_true, not_true_eq_false, Value.category, Nat.reduceEqDiff, Option.toList, List.cons_append, List.nil_append, List.drop_succ_cons, List.drop_zero, ax_qq_eq, ax_t_1434]
    exact bad es5 _ _ _ _ _ X5 g5 (hfail (k, b) es5 v ct op ar rn (hz _) X5 g5 (rct_rf _) (rlow_rf _ _) (rfX_trans F2 (rfX_trans (rfX_1 f3) (rfX_trans (rfX_1 f4) (rfX_1 f5)))))
  intro es5 k6 k7 hN6 S5 f5
  have k6 : zkd t (a + 5) = 3 := k6
  have k7 : zkd t (a + 6) = 25 := k7
  have hN6 : zNo t (a + 6) 0 9 := hN6
  have z6 : ∀ g, zSgn t (a + 5) 3 (zNum t (a + 6) 0 9 g) = g := fun g => by rw [zSgn, if_pos k6, zNum, if_pos k7, if_pos hN6]
  rw [z6] at hok
  have S5 : rS es5 t c (a + 7) 0 v := S5
  have X5 := rX_1 X4 S5 f5
  simp only [ax_W_cons, ax_I, ax_cmp, ax_ii, ax_ll, ax_li, ax_st1, ax_st2, ax_kl, ax_k2, ax_fit, ax_rtok, List.getElem?_cons_zero, List.getElem?_cons_succ, List.length_cons, List.length_nil, List.set_cons_zero, List.set_cons_succ, Nat.reduceAdd, Nat.reduceDiv, Nat.reduceMod, Nat.reduceMul, Nat.reduceLT, Nat.reduceLeDiff, Int32.reduceOfInt, Int64.reduceOfInt, true_and, and_true, and_self, true_or, or_true, false_implies, true_implies, not_false_eq_true, not_true_eq_false, Value.category, Nat.reduceEqDiff, Option.toList, List.cons_append, List.nil_append, List.drop_succ_cons, List.drop_zero, ax_qq_eq, ax_t_1434]
  subst hr1
  generalize hr2 : (((1, .aload 0) : Nat × Instr) :: ((3, .getfield 2878) : Nat × Instr) :: ((1, .aload 0) : Nat × Instr) :: ((3, .getfield 2884) : Nat × Instr) :: ((1, .lload 1) : Nat × Instr) :: ((1, .lastore) : Nat × Instr) :: ((1, .aload 0) : Nat × Instr) :: ((1, .dup) : Nat × Instr) :: ((3, .getfield 2884) : Nat × Instr) :: ((1, .iconst 1) : Nat × Instr) :: ((1, .iadd) : Nat × Instr) :: ((3, .putfield 2884) : Nat × Instr) :: ((1, .aload 0) : Nat × Instr) :: ((3, .getfield 2858) : Nat × Instr) :: ((2, .iconst 41) : Nat × Instr) :: ((1, .aload 0) : Nat × Instr) :: ((3, .getfield 2884) : Nat × Instr) :: ((1, .iastore) : Nat × Instr) :: []) = rest
  have u0 : es5 159 = _ := X5.1.1.1
  have u5 := X5.2.1
  have u9 := X5.2.2
  have h5 : dr.2.1.length ≤ 5 := by omega
  have i0 : 45 + 3 * nI v.2.1 = nI (45 + 3 * v.2.1) := by
    show nI 45 + nI 3 * nI v.2.1 = _
    rw [kn_mul, kn_add]
  have i1 : nI (45 + 3 * v.2.1) + 1 = nI (45 + 3 * v.2.1 + 1) := kn_add _ 1
  have i2 : nI (45 + 3 * v.2.1) + 2 = nI (45 + 3 * v.2.1 + 2) := kn_add _ 2
  have j0 : vp_in (nI (45 + 3 * v.2.1)) 80 := nI_in (by omega) (by decide)
  have j1 : vp_in (nI (45 + 3 * v.2.1 + 1)) 80 := nI_in (by omega) (by decide)
  have j2 : vp_in (nI (45 + 3 * v.2.1 + 2)) 80 := nI_in (by omega) (by decide)
  have l0 : (nI (45 + 3 * v.2.1)).toNatClampNeg = 45 + 3 * v.2.1 := nI_clamp (by omega)
  have l1 : (nI (45 + 3 * v.2.1 + 1)).toNatClampNeg = 45 + 3 * v.2.1 + 1 := nI_clamp (by omega)
  have l2 : (nI (45 + 3 * v.2.1 + 2)).toNatClampNeg = 45 + 3 * v.2.1 + 2 := nI_clamp (by omega)
  have t4 : a + 2 + 1 + 1 = a + 4 := rfl
  have t6 : a + 2 + 1 + 2 + 1 = a + 6 := rfl
  simp only [ax_W_cons, ax_I, ax_cmp, ax_ii, ax_ll, ax_li, ax_st1, ax_st2, ax_kl, ax_k2, ax_fit, ax_rtok, List.getElem?_cons_zero, List.getElem?_cons_succ, List.length_cons, List.length_nil, List.set_cons_zero, List.set_cons_succ, Nat.reduceAdd, Nat.reduceDiv, Nat.reduceMod, Nat.reduceMul, Nat.reduceLT, Nat.reduceLeDiff, Int32.reduceOfInt, Int64.reduceOfInt, true_and, and_true, and_self, true_or, or_true, false_implies, true_implies, not_false_eq_true, not_true_eq_false, Value.category, Nat.reduceEqDiff, Option.toList, List.cons_append, List.nil_append, List.drop_succ_cons, List.drop_zero, ax_qq_eq, ax_t_1434, t4, t6, u0, u5, mo_f, hal, i0, i1, i2, j0, j1, j2, l0, l1, l2, ax_up_same, ax_up_ne, ne_eq]
  obtain ⟨es6, he6⟩ : ∃ x, x = ax_up (ax_up (ax_up es5 165 (.inl (0, 80, .inl (upd ct (45 + 3 * v.2.1) (nI (zkd t (a + 2) - 13)))))) 165 (.inl (0, 80, .inl (upd (upd ct (45 + 3 * v.2.1) (nI (zkd t (a + 2) - 13))) (45 + 3 * v.2.1 + 1) (nI (znb t (a + 4))))))) 165 (.inl (0, 80, .inl (upd (upd (upd ct (45 + 3 * v.2.1) (nI (zkd t (a + 2) - 13))) (45 + 3 * v.2.1 + 1) (nI (znb t (a + 4)))) (45 + 3 * v.2.1 + 2) (nI (znb t (a + 6)))))) := ⟨_, rfl⟩
  have f6 : ∀ j, j ≠ 165 → es6 j = es5 j := fun j hj => by rw [he6, ax_up_ne _ _ hj, ax_up_ne _ _ hj, ax_up_ne _ _ hj]
  have v5 : es6 165 = .inl (0, 80, .inl (upd (upd (upd ct (45 + 3 * v.2.1) (nI (zkd t (a + 2) - 13))) (45 + 3 * v.2.1 + 1) (nI (znb t (a + 4)))) (45 + 3 * v.2.1 + 2) (nI (znb t (a + 6))))) := by rw [he6]; exact ax_up_same ..
  have v0 := (f6 159 (by decide)).trans u0
  have v9 := (f6 169 (by decide)).trans u9
  rw [show ax_up (ax_up (ax_up es5 165 (.inl (0, 80, .inl (upd ct (45 + 3 * v.2.1) (nI (zkd t (a + 2) - 13)))))) 165 (.inl (0, 80, .inl (upd (upd ct (45 + 3 * v.2.1) (nI (zkd t (a + 2) - 13))) (45 + 3 * v.2.1 + 1) (nI (znb t (a + 4))))))) 165 (.inl (0, 80, .inl (upd (upd (upd ct (45 + 3 * v.2.1) (nI (zkd t (a + 2) - 13))) (45 + 3 * v.2.1 + 1) (nI (znb t (a + 4)))) (45 + 3 * v.2.1 + 2) (nI (znb t (a + 6)))))) = es6 from he6.symm]
  clear he6
  subst hr2
  have m1 : vp_in (nI v.2.1) 6 := nI_in (by omega) (by decide)
  have m2 : (nI v.2.1).toNatClampNeg = v.2.1 := nI_clamp (by omega)
  have m3 : vp_in 41 80 := nI_in (show 41 < 80 by decide) (by decide)
  have m4 : (41 : Int32).toNatClampNeg = 41 := by decide
  simp only [ax_W_cons, ax_I, ax_cmp, ax_ii, ax_ll, ax_li, ax_st1, ax_st2, ax_kl, ax_k2, ax_fit, ax_rtok, List.getElem?_cons_zero, List.getElem?_cons_succ, List.length_cons, List.length_nil, List.set_cons_zero, List.set_cons_succ, Nat.reduceAdd, Nat.reduceDiv, Nat.reduceMod, Nat.reduceMul, Nat.reduceLT, Nat.reduceLeDiff, Int32.reduceOfInt, Int64.reduceOfInt, true_and, and_true, and_self, true_or, or_true, false_implies, true_implies, not_false_eq_true, not_true_eq_false, Value.category, Nat.reduceEqDiff, Option.toList, List.cons_append, List.nil_append, List.drop_succ_cons, List.drop_zero, ax_qq_eq, ax_t_1434, ax_j_1434_188, ax_n_1434_188, v0, v5, v9, mo_f, hal, a4, m1, m2, m3, m4, ax_up_same, ax_up_ne, ne_eq]
  have hlen : (dr.2.1 ++ [(zkd t (a + 2), znb t (a + 4), znb t (a + 6), zwd t (a + 1))]).length = v.2.1 + 1 := by
    rw [List.length_append, List.length_singleton, r10]
  have g7 : ∀ (e1 e2 e3 : ax_E), ∀ j, j ≠ 159 → j ≠ 165 → j ≠ 169 → ax_up (ax_up (ax_up es6 169 e1) 159 e2) 165 e3 j = es5 j := fun e1 e2 e3 j z1 z2 z3 => by
    rw [ax_up_ne _ _ z2, ax_up_ne _ _ z1, ax_up_ne _ _ z3]
    exact f6 j z2
  refine hok (a + 7) _ (v.1, v.2.1 + 1, v.2.2) _ op ar (vp_updL rn v.2.1 (nL (zv37 (zwd t (a + 1))))) _ rfl ⟨⟨rS_up S5 ?_ (fun j hj h7 => g7 _ _ _ j hj (by omega) (by omega)) S5.2.2.2, (g7 _ _ _ 166 (by decide) (by decide) (by decide)).trans X5.1.2.1, (g7 _ _ _ 167 (by decide) (by decide) (by decide)).trans X5.1.2.2⟩, ax_up_same .., ?_⟩ ⟨?_, ?_, ?_, ?_, r5, fun i hi => ?_, fun i hi => ?_, ?_, ?_, hlen.symm, ho⟩ (by dsimp only; omega) (by omega) (fun j hj => ?_) (rlow_rf _ _) (rfX_trans F2 (rfX_trans (rfX_1 f3) (rfX_trans (rfX_1 f4) (rfX_trans (rfX_1 f5) (fun j hj => g7 _ _ _ j hj.1 hj.2.1 hj.2.2.2.2)))))
  · show ax_up _ 165 _ 159 = _
    rw [ax_up_ne _ _ (by decide), ax_up_same]
    rfl
  · rw [ax_up_ne _ _ (by decide), ax_up_ne _ _ (by decide), ax_up_same]
  · rw [upd_ne _ _ (by decide), upd_ne _ _ (by omega), upd_ne _ _ (by omega), upd_ne _ _ (by omega)]
    exact r1
  · rw [upd_same]
    dsimp only
    rw [hlen]
  · rw [upd_ne _ _ (by decide), upd_ne _ _ (by omega), upd_ne _ _ (by omega), upd_ne _ _ (by omega)]
    exact r3
  · dsimp only
    omega
  · dsimp only at hi ⊢
    rw [hlen] at hi
    by_cases e : i = v.2.1
    · have hx : (dr.2.1 ++ [(zkd t (a + 2), znb t (a + 4), znb t (a + 6), zwd t (a + 1))]).getD i zC0 = (zkd t (a + 2), znb t (a + 4), znb t (a + 6), zwd t (a + 1)) := by rw [e, r10, zgetD_r]
      rw [hx]
      subst e
      exact ⟨by rw [upd_ne _ _ (by omega), upd_ne _ _ (by omega), upd_ne _ _ (by omega), upd_same], by rw [upd_ne _ _ (by omega), upd_ne _ _ (by omega), upd_same], by rw [upd_ne _ _ (by omega), upd_same], by rw [updL_same], hwd⟩
    · rw [zgetD_l _ _ _ (by omega)]
      obtain ⟨p1, p2, p3, p4, p5⟩ := r6 i (by omega)
      exact ⟨by rw [upd_ne _ _ (by omega), upd_ne _ _ (by omega), upd_ne _ _ (by omega), upd_ne _ _ (by omega)]; exact p1, by rw [upd_ne _ _ (by omega), upd_ne _ _ (by omega), upd_ne _ _ (by omega), upd_ne _ _ (by omega)]; exact p2, by rw [upd_ne _ _ (by omega), upd_ne _ _ (by omega), upd_ne _ _ (by omega), upd_ne _ _ (by omega)]; exact p3, by rw [updL_ne _ _ e]; exact p4, p5⟩
  · rw [upd_ne _ _ (by omega), upd_ne _ _ (by omega), upd_ne _ _ (by omega), upd_ne _ _ (by omega)]
    exact r7 i hi
  · rw [upd_ne _ _ (by decide), upd_ne _ _ (by omega), upd_ne _ _ (by omega), upd_ne _ _ (by omega)]
    exact r8
  · rw [upd_ne _ _ (by decide), upd_ne _ _ (by omega), upd_ne _ _ (by omega), upd_ne _ _ (by omega)]
    exact r9
  · rw [upd_ne _ _ (by omega), upd_ne _ _ (by omega), upd_ne _ _ (by omega), upd_ne _ _ (by omega)]
end TT
