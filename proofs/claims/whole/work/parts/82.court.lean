/-! the class: court() -/
def xNm (es : ax_H) (cs : List zCr) : Prop := cs.length ≤ 6 ∧ ∃ nm, es 7 = .inl (3, 6, .inr (.inl nm)) ∧ ∀ i, i < cs.length → nm i = nL (zv256 (cs.getD i zC0).2.2.2) ∧ zWd (cs.getD i zC0).2.2.2
def zCt (dr : zDf) (kd pl ht hs : Nat → Int32) : Prop := (∀ i, i < dr.2.1.length → kd i = nI (dr.2.1.getD i zC0).1 ∧ pl i = nI (dr.2.1.getD i zC0).2.1 ∧ ht i = nI (dr.2.1.getD i zC0).2.2.1) ∧ (∀ i, i < dr.2.2.1.length → hs i = nI (dr.2.2.1.getD i 0)) ∧ kz 6 pl
theorem zflt {t : zTp} (hT : zT_ok t) {x : Nat × Nat} (h : z15 x) : ¬ nI (x.1 + 16 * zpl t x.2) = 0 := by
  have h1 := zpl_le t x.2
  have h2 := hT.1
  unfold z15 at h
  exact nI_ne0 (by omega) (by omega)
section TT
variable {d n sl k p hc un L : Nat} {es : ax_H} {kd pl0 ht hs la lb lc : Nat → Int32} {F1 F2 : Int32 → Int32 → Int32 → Int32 → Int32} {B : zB} {Fe : zF} {U : Nat → zB} {mk : Nat → Bool} {M : Nat → zB × zF} {t : zTp} {Q : Option Value → ax_H → Prop}
theorem ck_forget (hal : ax_al n = 178) {fd : Nat → Int32} (h1 : es 146 = .inr (5, [.ref 3, .ref 147, .ref 148])) (h2 : es 148 = .inl (0, 1600, .inl fd)) (hQ : Q none (ax_up es 148 (.inl (0, 1600, .inl fun j => if j < 1600 then 0 else fd j)))) : ax_Mt (d + 2) 641 [.ref 146] n sl es Q := by
  refine ax_Mt_go (m := ax_m_5_1) (ls := [some (.ref 146)]) rfl ax_b_641_0 (Nat.le_of_ble_eq_true rfl) rfl ?_
  simp only [ax_W_cons, ax_I, ax_cmp, ax_ii, ax_ll, ax_li, ax_st1, ax_st2, ax_kl, ax_k2, ax_fit, ax_rtok, List.getElem?_cons_zero, List.getElem?_cons_succ, List.length_cons, List.length_nil, List.set_cons_zero, List.set_cons_succ, Nat.reduceAdd, Nat.reduceDiv, Nat.reduceMod, Nat.reduceMul, Nat.reduceLT, Nat.reduceLeDiff, Int32.reduceOfInt, Int64.reduceOfInt, true_and, and_true, and_self, true_or, or_true, false_implies, true_implies, not_false_eq_true, not_true_eq_false, Value.category, Nat.reduceEqDiff, Option.toList, List.cons_append, List.nil_append, List.drop_succ_cons, List.drop_zero, ax_qq_eq, ax_t_641, h1, hal]
  refine ax_inv_of (Nat.le_of_ble_eq_true rfl) (Nat.le_of_ble_eq_true rfl) (fun _ => absurd ‹_› (by decide)) (fun h => absurd h (by decide)) (Nat.le_refl _) (Nat.le_refl _) (ax_Mt_mono (ck_fill _ n sl 148 1600 es fd 0 (by omega) h2 (by decide)) ?_)
  rintro _ _ ⟨rfl, rfl⟩
  simp only [ax_W_cons, ax_I, ax_cmp, ax_ii, ax_ll, ax_li, ax_st1, ax_st2, ax_kl, ax_k2, ax_fit, ax_rtok, List.getElem?_cons_zero, List.getElem?_cons_succ, List.length_cons, List.length_nil, List.set_cons_zero, List.set_cons_succ, Nat.reduceAdd, Nat.reduceDiv, Nat.reduceMod, Nat.reduceMul, Nat.reduceLT, Nat.reduceLeDiff, Int32.reduceOfInt, Int64.reduceOfInt, true_and, and_true, and_self, true_or, or_true, false_implies, true_implies, not_false_eq_true, not_true_eq_false, Value.category, Nat.reduceEqDiff, Option.toList, List.cons_append, List.nil_append, List.drop_succ_cons, List.drop_zero, ax_qq_eq, ax_t_641]
  exact hQ
theorem xp_court (X : xD es n k p hc kd pl0 ht hs F1 F2 B Fe un U mk M L la lb lc) (hz : kz 6 pl0) (hT : zT_ok t) (T : xTp es t) (hR : xRd es) (hD : xDs es) (h1 : ∀ es' dr kd' pl' ht' hs' Fe', zCourt t = .inr dr → zCt dr kd' pl' ht' hs' → xNm es' dr.2.1 → xTp es' (0, t.2) → xRd es' → xDs es' → Fe'.1 = 0 → xD es' n dr.1 dr.2.1.length dr.2.2.1.length kd' pl' ht' hs' (zF4 dr.2.2.2.2.1) (zF4 dr.2.2.2.2.2) (0, 0, fun _ => 0, pl', fun _ => 0) Fe' 0 U (fun _ => false) M 0 la lb lc → (∀ j, (34 ≤ j ∧ j ≤ 37) ∨ 158 < j → es' j = es j) → Q (some (.int 0)) es') (h0 : ∀ es' x, zCourt t = .inl x → xTp es' (0, t.2) → xRd es' → xDs es' → xD es' n k p hc kd pl0 ht hs F1 F2 B Fe un U mk M L la lb lc → (∀ j, (j < 20 ∨ 33 < j) → j ≠ 1 → es' j = es j) → Q (some (.int (nI (x.1 + 16 * zpl t x.2)))) es') : ax_Mt (d + 80) 1282 [.ref 0] n sl es Q := by
  obtain ⟨x0, hal, hk, hp, hhs, hC, hb, hS, hfe, hG, hP⟩ := id X
  unfold zXo at x0
  refine ax_Mt_go (m := ax_m_10_2) (ls := [some (.ref 0), none]) rfl ax_b_1282_0 (Nat.le_of_ble_eq_true rfl) rfl ?_
  simp only [ax_W_cons, ax_I, ax_cmp, ax_ii, ax_ll, ax_li, ax_st1, ax_st2, ax_kl, ax_k2, ax_fit, ax_rtok, List.getElem?_cons_zero, List.getElem?_cons_succ, List.length_cons, List.length_nil, List.set_cons_zero, List.set_cons_succ, Nat.reduceAdd, Nat.reduceDiv, Nat.reduceMod, Nat.reduceMul, Nat.reduceLT, Nat.reduceLeDiff, Int32.reduceOfInt, Int64.reduceOfInt, true_and, and_true, and_self, true_or, or_true, false_implies, true_implies, not_false_eq_true, not_true_eq_false, Value.category, Nat.reduceEqDiff, Option.toList, List.cons_append, List.nil_append, List.drop_succ_cons, List.drop_zero, ax_qq_eq, ax_t_1282, x0, hal]
  refine ax_inv_of (Nat.le_of_ble_eq_true rfl) (Nat.le_of_ble_eq_true rfl) (fun _ => xRd_rcv hal hR _) (fun h => absurd h (by decide)) (Nat.le_refl _) (Nat.le_refl _) (ck_readCourt (d := d + 7) hal hT T hR hD ?_ ?_)
  rotate_left
  · intro es1 x hx T1 R1 D1 f1
    have hne : ¬ nI (x.1 + 16 * zpl t x.2) = 0 := zflt hT (by
      unfold zCourt at hx
      split at hx
      · next y hy =>
        cases hx
        exact zLines_f _ _ _ hy
      · cases hx)
    simp only [ax_W_cons, ax_I, ax_cmp, ax_ii, ax_ll, ax_li, ax_st1, ax_st2, ax_kl, ax_k2, ax_fit, ax_rtok, List.getElem?_cons_zero, List.getElem?_cons_succ, List.length_cons, List.length_nil, List.set_cons_zero, List.set_cons_succ, Nat.reduceAdd, Nat.reduceDiv, Nat.reduceMod, Nat.reduceMul, Nat.reduceLT, Nat.reduceLeDiff, Int32.reduceOfInt, Int64.reduceOfInt, true_and, and_true, and_self, true_or, or_true, false_implies, true_implies, not_false_eq_true, not_true_eq_false, Value.category, Nat.reduceEqDiff, Option.toList, List.cons_append, List.nil_append, List.drop_succ_cons, List.drop_zero, ax_qq_eq, ax_t_1282, ax_j_1282_67, ax_n_1282_67, hne]
    refine h0 es1 x hx T1 R1 D1 ⟨(f1 0 (by decide) (by decide)).trans x0, hal, hk, hp, hhs, kC_frr hC (fun j hj => f1 j (by omega) (by omega)), kb_fr hb (fun j hj => f1 j (by omega) (by omega)), kSe_fr hS (fun j hj => f1 j (by omega) (by omega)), kfF_fr hfe (fun j hj => f1 j (by omega) (by omega)), ?_, kP_fr hP (fun j hj => f1 j (by omega) (by omega))⟩ (fun j h1 h2 => f1 j h2 h1)
    obtain ⟨g1, g2, g3, g4⟩ := hG
    exact ⟨(f1 16 (by decide) (by decide)).trans g1, (f1 17 (by decide) (by decide)).trans g2, (f1 18 (by decide) (by decide)).trans g3, (f1 19 (by decide) (by decide)).trans g4⟩
  intro es1 dr hdr T1 R1 D1 f1
  obtain ⟨d0, hd0, hok⟩ := zCourt_ok hdr
  have hv := zSet_ok hok
  rw [← hd0] at hv
  obtain ⟨ck, cp, cl, chs, -⟩ := hok
  have dk : dr.1 = d0.1 := by rw [hd0]; rfl
  have dh : dr.2.2.1 = d0.2.2.1 := by rw [hd0]; rfl
  obtain ⟨once, nm, code, a1, b1, a2, b2, c3, c4, c5, c6, c7, c8, c9, c10, c13, -, -⟩ := id hC
  have C : xCm es1 (nI k) (nI p) (nI hc) once kd pl0 ht nm hs code (nI a1) (nI b1) (nI a2) (nI b2) := ⟨(f1 3 (by decide) (by decide)).trans c3, (f1 4 (by decide) (by decide)).trans c4, (f1 5 (by decide) (by decide)).trans c5, (f1 6 (by decide) (by decide)).trans c6, (f1 7 (by decide) (by decide)).trans c7, (f1 8 (by decide) (by decide)).trans c8, (f1 9 (by decide) (by decide)).trans c9, (f1 10 (by decide) (by decide)).trans c10, (f1 13 (by decide) (by decide)).trans c13⟩
  obtain ⟨kd1, pl1, ht1, nm1, hs1, co1, f5, f6, Dh, R⟩ := id D1
  obtain ⟨q1, q2, q3, q4, q5, q6, q7⟩ := R
  obtain ⟨rv, rb, w20⟩ := id R1
  have y0 := (f1 0 (by decide) (by decide)).trans x0
  simp only [ax_W_cons, ax_I, ax_cmp, ax_ii, ax_ll, ax_li, ax_st1, ax_st2, ax_kl, ax_k2, ax_fit, ax_rtok, List.getElem?_cons_zero, List.getElem?_cons_succ, List.length_cons, List.length_nil, List.set_cons_zero, List.set_cons_succ, Nat.reduceAdd, Nat.reduceDiv, Nat.reduceMod, Nat.reduceMul, Nat.reduceLT, Nat.reduceLeDiff, Int32.reduceOfInt, Int64.reduceOfInt, true_and, and_true, and_self, true_or, or_true, false_implies, true_implies, not_false_eq_true, not_true_eq_false, Value.category, Nat.reduceEqDiff, Option.toList, List.cons_append, List.nil_append, List.drop_succ_cons, List.drop_zero, ax_qq_eq, ax_t_1282, ax_j_1282_67, ax_n_1282_67, y0, w20, hal]
  refine ax_inv_of (Nat.le_of_ble_eq_true rfl) (Nat.le_of_ble_eq_true rfl) (fun _ => ax_rcv_ok (by omega) C.1) (fun h => absurd h (by decide)) (Nat.le_refl _) (Nat.le_refl _) (ck_courtCopy hal C Dh ?_)
  intro es2 C2 f2 e11 e12
  obtain ⟨g1, g2, g3, g4⟩ := hG
  have z0 := (f2 0 (by decide)).trans y0
  have z16 := (f2 16 (by decide)).trans ((f1 16 (by decide) (by decide)).trans g1)
  have m0 : ∀ e, ax_up es2 16 e 0 = _ := fun e => (ax_up_ne es2 e (by decide)).trans z0
  simp only [ax_W_cons, ax_I, ax_cmp, ax_ii, ax_ll, ax_li, ax_st1, ax_st2, ax_kl, ax_k2, ax_fit, ax_rtok, List.getElem?_cons_zero, List.getElem?_cons_succ, List.length_cons, List.length_nil, List.set_cons_zero, List.set_cons_succ, Nat.reduceAdd, Nat.reduceDiv, Nat.reduceMod, Nat.reduceMul, Nat.reduceLT, Nat.reduceLeDiff, Int32.reduceOfInt, Int64.reduceOfInt, true_and, and_true, and_self, true_or, or_true, false_implies, true_implies, not_false_eq_true, not_true_eq_false, Value.category, Nat.reduceEqDiff, Option.toList, List.cons_append, List.nil_append, List.drop_succ_cons, List.drop_zero, ax_qq_eq, ax_t_1282, z0, z16, m0, hal]
  obtain ⟨es3, he3⟩ : ∃ x, x = ax_up es2 16 (.inr (7, [.int 0, .ref 17, .ref 18, .ref 19])) := ⟨_, rfl⟩
  rw [← he3]
  have w3 : es3 16 = .inr (7, [.int 0, .ref 17, .ref 18, .ref 19]) := by rw [he3]; exact ax_up_same ..
  have f3 : ∀ j, j ≠ 16 → es3 j = es2 j := fun j hj => by rw [he3]; exact ax_up_ne _ _ hj
  obtain ⟨⟨r0, ⟨s1, gg1, r1, r2⟩, ⟨s2, gg2, r3, r4⟩, ⟨ah, r5, r6⟩, fd, r7, r8⟩, hTo, kk⟩ := id hS
  have u146 := (f3 146 (by decide)).trans ((f2 146 (by decide)).trans ((f1 146 (by decide) (by decide)).trans r0))
  have u148 := (f3 148 (by decide)).trans ((f2 148 (by decide)).trans ((f1 148 (by decide) (by decide)).trans r7))
  refine ax_inv_of (Nat.le_of_ble_eq_true rfl) (Nat.le_of_ble_eq_true rfl) (fun _ => ax_rcv_ok (by omega) u146) (fun h => absurd h (by decide)) (Nat.le_refl _) (Nat.le_refl _) (ck_forget hal u146 u148 ?_)
  obtain ⟨es4, he4⟩ : ∃ x, x = ax_up es3 148 (.inl (0, 1600, .inl fun j => if j < 1600 then 0 else fd j)) := ⟨_, rfl⟩
  rw [← he4]
  have w4 : es4 148 = .inl (0, 1600, .inl fun j => if j < 1600 then 0 else fd j) := by rw [he4]; exact ax_up_same ..
  have f4 : ∀ j, j ≠ 148 → es4 j = es3 j := fun j hj => by rw [he4]; exact ax_up_ne _ _ hj
  have F4 : ∀ j, j ≠ 148 → j ≠ 16 → es4 j = es2 j := fun j h1 h2 => (f4 j h1).trans (f3 j h2)
  have v0 := (F4 0 (by decide) (by decide)).trans z0
  simp only [ax_W_cons, ax_I, ax_cmp, ax_ii, ax_ll, ax_li, ax_st1, ax_st2, ax_kl, ax_k2, ax_fit, ax_rtok, List.getElem?_cons_zero, List.getElem?_cons_succ, List.length_cons, List.length_nil, List.set_cons_zero, List.set_cons_succ, Nat.reduceAdd, Nat.reduceDiv, Nat.reduceMod, Nat.reduceMul, Nat.reduceLT, Nat.reduceLeDiff, Int32.reduceOfInt, Int64.reduceOfInt, true_and, and_true, and_self, true_or, or_true, false_implies, true_implies, not_false_eq_true, not_true_eq_false, Value.category, Nat.reduceEqDiff, Option.toList, List.cons_append, List.nil_append, List.drop_succ_cons, List.drop_zero, ax_qq_eq, ax_t_1282, v0, hal]
  have hb4 : kbB es4 n 38 k p B := kb_fr hb (fun j hj => (F4 j (by omega) (by omega)).trans ((f2 j (by omega)).trans (f1 j (by omega) (by omega))))
  have c3' := (F4 3 (by decide) (by decide)).trans C2.1
  have c5' := (F4 5 (by decide) (by decide)).trans C2.2.2.1
  have hz' : kz 6 (va_cpy pl1 pl0 0 0 6) := fun j hj => (zcpy_out pl1 pl0 6 hj).trans (hz j hj)
  refine ax_inv_of (Nat.le_of_ble_eq_true rfl) (Nat.le_of_ble_eq_true rfl) (fun _ => ax_rcv_ok (by omega) hb4.2.1) (fun h => absurd h (by decide)) (Nat.le_refl _) (Nat.le_refl _) (ax_Mt_mono (ck_begin (by omega) hb4 (by omega) (by omega) c3' c5' hz' (by omega) (by omega)) ?_)
  rintro _ es5 ⟨rfl, he5⟩
  have f5' : ∀ j, (j < 38 ∨ 41 < j) → es5 j = es4 j := fun j hj => by rw [he5]; exact kw_ne _ _ _ _ _ _ _ _ (by omega)
  have hb5 : kb es5 n 38 dr.1 dr.2.1.length 0 0 (fun _ => 0) (va_cpy pl1 pl0 0 0 6) (fun _ => 0) := by
    rw [he5]
    exact kw_kb (by omega) (fun _ _ => rfl) hz' (fun _ _ => rfl)
  obtain ⟨ff1, ff2, ff3, ff4, ff5, ff6, ff7, ff8⟩ := id hfe
  have F5 : ∀ j, j ≠ 148 → j ≠ 16 → (j < 38 ∨ 41 < j) → es5 j = es2 j := fun j h1 h2 h3 => (f5' j h3).trans (F4 j h1 h2)
  have G5 : ∀ j, 33 < j → j ≠ 148 → (j < 38 ∨ 41 < j) → es5 j = es j := fun j h1 h2 h3 => (F5 j h2 (by omega) h3).trans ((f2 j (by omega)).trans (f1 j (by omega) (by omega)))
  have t0 := (F5 0 (by decide) (by decide) (by decide)).trans z0
  have t42 := (G5 42 (by decide) (by decide) (by decide)).trans ff2
  have t0' : ∀ e, ax_up es5 42 e 0 = _ := fun e => (ax_up_ne es5 e (by decide)).trans t0
  simp only [ax_W_cons, ax_I, ax_cmp, ax_ii, ax_ll, ax_li, ax_st1, ax_st2, ax_kl, ax_k2, ax_fit, ax_rtok, List.getElem?_cons_zero, List.getElem?_cons_succ, List.length_cons, List.length_nil, List.set_cons_zero, List.set_cons_succ, Nat.reduceAdd, Nat.reduceDiv, Nat.reduceMod, Nat.reduceMul, Nat.reduceLT, Nat.reduceLeDiff, Int32.reduceOfInt, Int64.reduceOfInt, true_and, and_true, and_self, true_or, or_true, false_implies, true_implies, not_false_eq_true, not_true_eq_false, Value.category, Nat.reduceEqDiff, Option.toList, List.cons_append, List.nil_append, List.drop_succ_cons, List.drop_zero, ax_qq_eq, ax_t_1282, t0, t42, t0', hal]
  obtain ⟨es6, he6⟩ : ∃ x, x = ax_up es5 42 (.inr (2, [.int 0, .ref (42 + 1), .ref (42 + 2), .ref (42 + 3)])) := ⟨_, rfl⟩
  rw [← he6]
  have w6 : es6 42 = .inr (2, [.int 0, .ref (42 + 1), .ref (42 + 2), .ref (42 + 3)]) := by rw [he6]; exact ax_up_same ..
  have f6' : ∀ j, j ≠ 42 → es6 j = es5 j := fun j hj => by rw [he6]; exact ax_up_ne _ _ hj
  have hP6 : kP es6 n k p un U mk M := kP_fr hP (fun j hj => (f6' j (by omega)).trans (G5 j (by omega) (by omega) (by omega)))
  obtain ⟨nx, la0, -, -, hPo, -⟩ := id hP6
  refine ax_inv_of (Nat.le_of_ble_eq_true rfl) (Nat.le_of_ble_eq_true rfl) (fun _ => ax_rcv_ok (by omega) hPo) (fun h => absurd h (by decide)) (Nat.le_refl _) (Nat.le_refl _) (ck_clear (k' := dr.1) (p' := dr.2.1.length) hal hP6 ?_)
  intro es7 P7 f7
  simp only [ax_W_cons, ax_I, ax_cmp, ax_ii, ax_ll, ax_li, ax_st1, ax_st2, ax_kl, ax_k2, ax_fit, ax_rtok, List.getElem?_cons_zero, List.getElem?_cons_succ, List.length_cons, List.length_nil, List.set_cons_zero, List.set_cons_succ, Nat.reduceAdd, Nat.reduceDiv, Nat.reduceMod, Nat.reduceMul, Nat.reduceLT, Nat.reduceLeDiff, Int32.reduceOfInt, Int64.reduceOfInt, true_and, and_true, and_self, true_or, or_true, false_implies, true_implies, not_false_eq_true, not_true_eq_false, Value.category, Nat.reduceEqDiff, Option.toList, List.cons_append, List.nil_append, List.drop_succ_cons, List.drop_zero, ax_qq_eq, ax_t_1282, ax_j_1282_67, ax_n_1282_67]
  have F7 : ∀ j, j ≠ 46 → j ≠ 42 → j ≠ 148 → j ≠ 16 → (j < 38 ∨ 41 < j) → es7 j = es2 j := fun j a1 a2 a3 a4 a5 => (f7 j a1).trans ((f6' j a2).trans (F5 j a3 a4 a5))
  have G7 : ∀ j, 33 < j → j ≠ 46 → j ≠ 42 → j ≠ 148 → (j < 38 ∨ 41 < j) → es7 j = es j := fun j a0 a1 a2 a3 a5 => (f7 j a1).trans ((f6' j a2).trans (G5 j a0 a3 a5))
  have H7 : ∀ j, j ≠ 16 → j < 3 ∨ (13 < j ∧ j < 38) → es7 j = es1 j := fun j a0 a1 => (F7 j (by omega) (by omega) (by omega) a0 (by omega)).trans (f2 j (by omega))
  obtain ⟨K1, K2, K3, K4, K5, K6, K7, K8, K9⟩ := C2
  have q1' : dr.2.1.length ≤ 6 := q1.1
  refine h1 es7 dr (va_cpy kd1 kd 0 0 6) (va_cpy pl1 pl0 0 0 6) (va_cpy ht1 ht 0 0 6) (va_cpy hs1 hs 0 0 12) (0, Fe.2) hdr ⟨fun i hi => ?_, fun i hi => ?_, hz'⟩ ⟨q1', _, (F7 7 (by decide) (by decide) (by decide) (by decide) (by decide)).trans K5, fun i hi => ?_⟩ ?_ ⟨rv, rb, (H7 20 (by decide) (by decide)).trans w20⟩ (xDs_fr (xDr_s D1) (fun j a b => H7 j (by omega) (by omega))) rfl ⟨?_, hal, ?_, q1', ?_, ?_, ?_, ⟨?_, ?_, ?_⟩, ?_, ?_, P7⟩ (fun j hj => ?_)
  · rw [zcpy_in _ _ _ (by omega), zcpy_in _ _ _ (by omega), zcpy_in _ _ _ (by omega)]
    exact ⟨(q2 i hi).1, (q2 i hi).2.1, (q2 i hi).2.2.1⟩
  · rw [zcpy_in _ _ _ (by have := q1.2; omega)]
    exact q3 i hi
  · rw [zcpy_in _ _ _ (by omega)]
    exact (q2 i hi).2.2.2
  · obtain ⟨⟨kd3, nb, nm3, tk, ft, pl3, nx3, w1⟩, sg, hS1, hj⟩ := T1
    exact ⟨⟨kd3, nb, nm3, tk, ft, pl3, nx3, (H7 1 (by decide) (by decide)).trans w1⟩, sg, (H7 2 (by decide) (by decide)).trans hS1, hj⟩
  · exact (H7 0 (by decide) (by decide)).trans y0
  · rw [dk]
    exact ck
  · rw [dh]
    refine ⟨chs.1, chs.2.1, fun i hi => ?_⟩
    rw [zcpy_in _ _ _ (by have := chs.2.1; omega)]
    refine ⟨d0.2.2.1.getD i 0, ?_, ?_⟩
    · rw [List.getD_eq_getElem?_getD, List.getElem?_eq_getElem hi]
      exact chs.2.2 _ (List.getElem_mem hi)
    · rw [q3 i (by rw [dh]; exact hi), dh]
  · refine ⟨_, _, _, f5, f5 + dr.2.2.2.2.1.length, f6, f6 + dr.2.2.2.2.2.length, (F7 3 (by decide) (by decide) (by decide) (by decide) (by decide)).trans K1, (F7 4 (by decide) (by decide) (by decide) (by decide) (by decide)).trans K2, (F7 5 (by decide) (by decide) (by decide) (by decide) (by decide)).trans K3, (F7 6 (by decide) (by decide) (by decide) (by decide) (by decide)).trans K4, (F7 7 (by decide) (by decide) (by decide) (by decide) (by decide)).trans K5, (F7 8 (by decide) (by decide) (by decide) (by decide) (by decide)).trans K6, (F7 9 (by decide) (by decide) (by decide) (by decide) (by decide)).trans K7, (F7 10 (by decide) (by decide) (by decide) (by decide) (by decide)).trans K8, (F7 13 (by decide) (by decide) (by decide) (by decide) (by decide)).trans K9, zF4_kl (by decide) hv.1 (fun i hi => ?_) q6, zF4_kl (by decide) hv.2 (fun i hi => ?_) q7⟩
    · rw [zcpy_in _ _ _ (by omega)]
      exact q4 i hi
    · rw [zcpy_in _ _ _ (by omega)]
      exact q5 i hi
  · exact kb_fr hb5 (fun j hj => (f7 j (by omega)).trans (f6' j (by omega)))
  · refine ⟨(G7 146 (by decide) (by decide) (by decide) (by decide) (by decide)).trans r0, ⟨s1, gg1, ?_, ?_⟩, ⟨s2, gg2, ?_, ?_⟩, ⟨ah, (G7 147 (by decide) (by decide) (by decide) (by decide) (by decide)).trans r5, r6⟩, _, (f7 148 (by decide)).trans ((f6' 148 (by decide)).trans ((f5' 148 (by decide)).trans w4)), fun j hj => Or.inl (if_pos hj)⟩
    · exact (F7 11 (by decide) (by decide) (by decide) (by decide) (by decide)).trans (e11.trans ((f1 11 (by decide) (by decide)).trans r1))
    · exact (F7 12 (by decide) (by decide) (by decide) (by decide) (by decide)).trans (e12.trans ((f1 12 (by decide) (by decide)).trans r2))
    · exact (H7 14 (by decide) (by decide)).trans ((f1 14 (by decide) (by decide)).trans r3)
    · exact (H7 15 (by decide) (by decide)).trans ((f1 15 (by decide) (by decide)).trans r4)
  · exact kTo_frr hTo (fun j hj => G7 j (by omega) (by omega) (by omega) (by omega) (by omega))
  · obtain ⟨k9, p9, t9, cr9, sh9, pl9, dn9, hk9⟩ := kk
    exact ⟨k9, p9, t9, cr9, sh9, pl9, dn9, kb_fr hk9 (fun j hj => G7 j (by omega) (by omega) (by omega) (by omega) (by omega))⟩
  · exact ⟨ff1, (f7 42 (by decide)).trans w6, (G7 43 (by decide) (by decide) (by decide) (by decide) (by decide)).trans ff3, (G7 44 (by decide) (by decide) (by decide) (by decide) (by decide)).trans ff4, (G7 45 (by decide) (by decide) (by decide) (by decide) (by decide)).trans ff5, ff6, ff7, ff8⟩
  · exact ⟨(f7 16 (by decide)).trans ((f6' 16 (by decide)).trans ((f5' 16 (by decide)).trans ((f4 16 (by decide)).trans w3))), (H7 17 (by decide) (by decide)).trans ((f1 17 (by decide) (by decide)).trans g2), (H7 18 (by decide) (by decide)).trans ((f1 18 (by decide) (by decide)).trans g3), (H7 19 (by decide) (by decide)).trans ((f1 19 (by decide) (by decide)).trans g4)⟩
  · exact G7 j (by omega) (by omega) (by omega) (by omega) (by omega)
end TT
