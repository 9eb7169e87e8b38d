/-! the reference: tokens taken -/
abbrev rC : Type := Int32 × Int32 × Int32 × Int64
abbrev rV : Type := Nat × Nat × Int32 × Int32
def rO (es : ax_H) (c : rC) (a : Nat) (fl : Int32) (v : rV) : Prop := es 159 = .inr (11, mo_f 0 0 c.1 (nI a) fl (nI v.1) c.2.1 (nI v.2.1) v.2.2.1 v.2.2.2 c.2.2.1 c.2.2.2)
def rW (es : ax_H) : Prop := ∃ ws, es 164 = .inl (3, 24, .inr (.inl ws)) ∧ ∀ i, i < 24 → ws i = nL (zv37 (zW.getD i []))
/-- reading, at the token a -/
def rS (es : ax_H) (t : zTp) (c : rC) (a : Nat) (fl : Int32) (v : rV) : Prop := rO es c a fl v ∧ rT es t ∧ rW es ∧ zpre t a
def rFl (fl : Int32) : Prop := ¬ fl = 0 ∧ ¬ fl ≤ 0
theorem rup_id {es : ax_H} {q : Nat} {e : ax_E} (h : es q = e) : ax_up es q e = es := by
  funext j
  by_cases hj : j = q
  · rw [hj, ax_up_same, h]
  · rw [ax_up_ne _ _ hj]
theorem rT_fr {es es' : ax_H} {t : zTp} (h : rT es t) (hf : ∀ j, j ≠ 159 → j < 165 → es' j = es j) : rT es' t := by
  obtain ⟨so, pl, va, h1, h2, h3, h4⟩ := h
  exact ⟨so, pl, va, (hf 161 (by decide) (by decide)).trans h1, (hf 162 (by decide) (by decide)).trans h2, (hf 163 (by decide) (by decide)).trans h3, h4⟩
theorem rW_fr {es es' : ax_H} (h : rW es) (hf : ∀ j, j ≠ 159 → j < 165 → es' j = es j) : rW es' := by
  obtain ⟨ws, h1, h2⟩ := h
  exact ⟨ws, (hf 164 (by decide) (by decide)).trans h1, h2⟩
theorem rS_up {es es' : ax_H} {t : zTp} {c c' : rC} {a a' : Nat} {fl fl' : Int32} {v v' : rV} (h : rS es t c a fl v) (hO : rO es' c' a' fl' v') (hf : ∀ j, j ≠ 159 → j < 165 → es' j = es j) (hp : zpre t a') : rS es' t c' a' fl' v' := ⟨hO, rT_fr h.2.1 hf, rW_fr h.2.2.1 hf, hp⟩
theorem rS_get {es : ax_H} {t : zTp} {c : rC} {a : Nat} {fl : Int32} {v : rV} (ht : zT_ok t) (h : rS es t c a fl v) : ∃ so pl va, es 161 = .inl (0, 1002, .inl so) ∧ es 162 = .inl (0, 1002, .inl pl) ∧ es 163 = .inl (3, 1002, .inr (.inl va)) ∧ rB so pl va t a ∧ vp_in (nI a) 1002 ∧ (nI a).toNatClampNeg = a ∧ a ≤ 1000 := by
  obtain ⟨-, ⟨so, pl, va, w1, w2, w3, hB⟩, -, hp⟩ := h
  have ha := zpre_le hp
  have hL := ht.1
  exact ⟨so, pl, va, w1, w2, w3, hB a hp, nI_in (by omega) (by decide), nI_clamp (by omega), by omega⟩
theorem zpre_s {t : zTp} {a : Nat} (h : zpre t a) (h2 : ¬ zkd t a = 26) : zpre t (a + 1) := zpre_r h (fun b h3 h4 => by rw [show b = a by omega]; exact h2)
theorem zsrt_1 {k : Nat} : (nI (zsrt k) = 1) = (k ≤ 24) := by
  unfold zsrt
  split
  · next h => exact propext ⟨fun _ => h, fun _ => rfl⟩
  · next h => split
              · exact propext ⟨fun z => absurd z (by decide), fun z => absurd z h⟩
              · split
                · exact propext ⟨fun z => absurd z (by decide), fun z => absurd z h⟩
                · split
                  · exact propext ⟨fun z => absurd z (by decide), fun z => absurd z h⟩
                  · exact propext ⟨fun z => absurd z (by decide), fun z => absurd z h⟩
theorem zsrt_2 {k : Nat} : (nI (zsrt k) = 2) = (k = 25) := by
  unfold zsrt
  split
  · next h => exact propext ⟨fun z => absurd z (by decide), fun z => by omega⟩
  · next h => split
              · next h2 => exact propext ⟨fun _ => h2, fun _ => rfl⟩
              · next h2 => split
                           · exact propext ⟨fun z => absurd z (by decide), fun z => absurd z h2⟩
                           · split
                             · exact propext ⟨fun z => absurd z (by decide), fun z => absurd z h2⟩
                             · exact propext ⟨fun z => absurd z (by decide), fun z => absurd z h2⟩
theorem zsrt_0 {k : Nat} : (nI (zsrt k) = 0) = (k = 26) := by
  unfold zsrt
  split
  · next h => exact propext ⟨fun z => absurd z (by decide), fun z => by omega⟩
  · next h => split
              · next h2 => exact propext ⟨fun z => absurd z (by decide), fun z => by omega⟩
              · next h2 => split
                           · next h3 => exact propext ⟨fun _ => h3, fun _ => rfl⟩
                           · next h3 => split
                                        · exact propext ⟨fun z => absurd z (by decide), fun z => absurd z h3⟩
                                        · exact propext ⟨fun z => absurd z (by decide), fun z => absurd z h3⟩
theorem zsrt_3 {k : Nat} : (nI (zsrt k) = 3) = (28 ≤ k) := by
  unfold zsrt
  split
  · next h => exact propext ⟨fun z => absurd z (by decide), fun z => by omega⟩
  · next h => split
              · next h2 => exact propext ⟨fun z => absurd z (by decide), fun z => by omega⟩
              · next h2 => split
                           · next h3 => exact propext ⟨fun z => absurd z (by decide), fun z => by omega⟩
                           · next h3 => split
                                        · next h4 => exact propext ⟨fun z => absurd z (by decide), fun z => by omega⟩
                                        · next h4 => exact propext ⟨fun _ => by omega, fun _ => rfl⟩
theorem zW8 : ∀ x ∈ zW, x.length ≤ 8 := by decide
theorem zv37_lt {w : List Nat} (h : zWd w) : zv37 w < 2 ^ 63 := by
  have h1 := zv37_63 h.1 h.2
  have h2 : 37 ^ w.length ≤ 37 ^ 8 := Nat.pow_le_pow_right (by decide) h.1
  have h3 : (37 : Nat) ^ 8 < 2 ^ 63 := by decide
  omega
theorem zw37 {t : zTp} {a w : Nat} (h : zkd t a ≤ 24) (hw : w < 24) : (nL (zv37 (zwd t a)) = nL (zv37 (zW.getD w []))) = (zkd t a = w) := by
  obtain ⟨-, -, -, hwd, hk⟩ := zwd_ok h
  have hl : zW.length = 24 := rfl
  have hg : zW[w]? = some (zW.getD w []) := by
    rw [List.getD_eq_getElem?_getD, List.getElem?_eq_getElem (by omega)]
    rfl
  have hm := List.mem_of_getElem? hg
  have hW : zWd (zW.getD w []) := ⟨zW8 _ hm, zW_ok _ hm⟩
  rw [hk, zwn_iff hw, hg]
  refine propext ⟨fun z => ?_, fun z => ?_⟩
  · rw [zv37_inj _ _ hwd.2 hW.2 (nL_inj (zv37_lt hwd) (zv37_lt hW) z)]
  · injection z with z
    rw [z]
theorem zclt {a b : Nat} (ha : a < 2 ^ 63) (hb : b < 2 ^ 63) : (lg_cmp (nL a) (nL b) < 0) = (a < b) := propext ((lg_cmp_lt _ _).trans (by rw [Int64.lt_iff_toInt_lt, nL_toInt ha, nL_toInt hb]; omega))
theorem zcle {a b : Nat} (ha : a < 2 ^ 63) (hb : b < 2 ^ 63) : (lg_cmp (nL a) (nL b) ≤ 0) = (a ≤ b) := propext ((lg_cmp_le _ _).trans (by rw [Int64.le_iff_toInt_le, nL_toInt ha, nL_toInt hb]; omega))
theorem rFl_ok {t : zTp} (ht : zT_ok t) {k a : Nat} (h1 : 1 ≤ k) (h2 : k ≤ 15) : rFl (nI (k + 16 * zpl t a)) := by
  have h3 := zpl_le t a
  have h4 := ht.1
  exact ⟨nI_ne0 (by omega) (by omega), nI_ge (a := 0) (by omega) (by omega)⟩
def zWh (fl : Int32) (kd fr m : Nat) : Int32 := if fl = 0 ∧ fr ≤ kd ∧ kd < fr + m then nI (kd - fr) else -1
section TT
variable {d n sl : Nat} {es : ax_H} {t : zTp} {c : rC} {a : Nat} {fl : Int32} {v : rV} {Q : Option Value → ax_H → Prop}
theorem rS_rcv (hal : ax_al n = 178) (h : rS es t c a fl v) (As : List Value) : ax_rcv n es 11 (.ref 159 :: As) := ax_rcv_ok (by omega) h.1
theorem mk_wrong0 (hal : ax_al n = 178) (ht : zT_ok t) (h : rS es t c a 0 v) {k : Nat} (h1 : 1 ≤ k) (h2 : k ≤ 15) (hQ : ∀ es', rS es' t c a (nI (k + 16 * zpl t a)) v → rFl (nI (k + 16 * zpl t a)) → (∀ j, j ≠ 159 → es' j = es j) → Q none es') : ax_Mt d 1417 [.ref 159, .int (nI k)] n sl es Q := by
  obtain ⟨so, pl, va, w1, w2, w3, ⟨b1, b2, b3, b4, b5⟩, a1, a2, ha⟩ := rS_get ht h
  have w0 : es 159 = _ := h.1
  have e1 : nI k + 16 * nI (zpl t a) = nI (k + 16 * zpl t a) := by
    show nI k + nI 16 * nI (zpl t a) = _
    rw [kn_mul, kn_add]
  refine ax_Mt_go (m := ax_m_11_9) (ls := [some (.ref 159), some (.int (nI k))]) rfl ax_b_1417_0 (Nat.le_of_ble_eq_true rfl) rfl ?_
  simp only [ax_W_cons, ax_I, ax_cmp, ax_ii, ax_ll, ax_li, ax_st1, ax_st2, ax_kl, ax_k2, ax_fit, ax_rtok, List.getElem?_cons_zero, List.getElem?_cons_succ, List.length_cons, List.length_nil, List.set_cons_zero, List.set_cons_succ, Nat.reduceAdd, Nat.reduceDiv, Nat.reduceMod, Nat.reduceMul, Nat.reduceLT, Nat.reduceLeDiff, Int32.reduceOfInt, Int64.reduceOfInt, true_and, and_true, and_self, true_or, or_true, false_implies, true_implies, not_false_eq_true, not_true_eq_false, Value.category, Nat.reduceEqDiff, Option.toList, List.cons_append, List.nil_append, List.drop_succ_cons, List.drop_zero, ax_qq_eq, ax_t_1417, ax_j_1417_25, ax_n_1417_25, w0, w2, mo_f, hal, a1, a2, b2, e1]
  exact hQ _ (rS_up h (ax_up_same ..) (fun j hj _ => ax_up_ne _ _ hj) h.2.2.2) (rFl_ok ht h1 h2) (fun j hj => ax_up_ne _ _ hj)
theorem mk_wrong1 (hal : ax_al n = 178) (h : rS es t c a fl v) (hf : rFl fl) (x : Int32) (hQ : Q none es) : ax_Mt d 1417 [.ref 159, .int x] n sl es Q := by
  have w0 : es 159 = _ := h.1
  have hf := hf.1
  refine ax_Mt_go (m := ax_m_11_9) (ls := [some (.ref 159), some (.int x)]) rfl ax_b_1417_0 (Nat.le_of_ble_eq_true rfl) rfl ?_
  simp only [ax_W_cons, ax_I, ax_cmp, ax_ii, ax_ll, ax_li, ax_st1, ax_st2, ax_kl, ax_k2, ax_fit, ax_rtok, List.getElem?_cons_zero, List.getElem?_cons_succ, List.length_cons, List.length_nil, List.set_cons_zero, List.set_cons_succ, Nat.reduceAdd, Nat.reduceDiv, Nat.reduceMod, Nat.reduceMul, Nat.reduceLT, Nat.reduceLeDiff, Int32.reduceOfInt, Int64.reduceOfInt, true_and, and_true, and_self, true_or, or_true, false_implies, true_implies, not_false_eq_true, not_true_eq_false, Value.category, Nat.reduceEqDiff, Option.toList, List.cons_append, List.nil_append, List.drop_succ_cons, List.drop_zero, ax_qq_eq, ax_t_1417, ax_j_1417_25, ax_n_1417_25, w0, mo_f, hal, hf]
  exact hQ
theorem mk_isSign (hal : ax_al n = 178) (ht : zT_ok t) (h : rS es t c a fl v) {x : Nat} (h28 : 28 ≤ x) (hx : x < 62) (hQ : Q (some (.int (kx_b (decide (fl = 0 ∧ zkd t a = x))))) es) : ax_Mt d 1418 [.ref 159, .int (nI x)] n sl es Q := by
  obtain ⟨so, pl, va, w1, w2, w3, ⟨b1, b2, b3, b4, b5⟩, a1, a2, ha⟩ := rS_get ht h
  have w0 : es 159 = _ := h.1
  have ex : (nI x).toInt64 = nL x := nI_64 (by omega)
  have hk62 := zkd_lt t a
  have n0 : ((0 : Int32) = 0 ∨ (0 : Int32) = 1) := Or.inl rfl
  have n1 : ((1 : Int32) = 0 ∨ (1 : Int32) = 1) := Or.inr rfl
  refine ax_Mt_go (m := ax_m_11_10) (ls := [some (.ref 159), some (.int (nI x))]) rfl ax_b_1418_0 (Nat.le_of_ble_eq_true rfl) rfl ?_
  by_cases hf : fl = 0
  · by_cases h3 : 28 ≤ zkd t a
    · have z3 : so a = 3 := b1.trans (by rw [zsrt_3]; exact h3)
      have hv := b5 h3
      have hc : (nL (zkd t a) = nL x) = (zkd t a = x) := propext ⟨fun z => nL_inj (by omega) (by omega) z, fun z => by rw [z]⟩
      by_cases hk : zkd t a = x
      · rw [decide_eq_true ⟨hf, hk⟩] at hQ
        have hc : nL (zkd t a) = nL x := by rw [hk]
        simp only [ax_W_cons, ax_I, ax_cmp, ax_ii, ax_ll, ax_li, ax_st1, ax_st2, ax_kl, ax_k2, ax_fit, ax_rtok, List.getElem?_cons_zero, List.getElem?_cons_succ, List.length_cons, List.length_nil, List.set_cons_zero, List.set_cons_succ, Nat.reduceAdd, Nat.reduceDiv, Nat.reduceMod, Nat.reduceMul, Nat.reduceLT, Nat.reduceLeDiff, Int32.reduceOfInt, Int64.reduceOfInt, true_and, and_true, and_self, true_or, or_true, false_implies, true_implies, not_false_eq_true, not_true_eq_false, Value.category, Nat.reduceEqDiff, Option.toList, List.cons_append, List.nil_append, List.drop_succ_cons, List.drop_zero, ax_qq_eq, ax_t_1418, ax_j_1418_40, ax_n_1418_40, w0, w1, w3, mo_f, hal, hf, a1, a2, z3, hv, ex, zcmp0, hc]
        exact hQ
      · rw [decide_eq_false (fun z => hk z.2)] at hQ
        have hc : ¬ nL (zkd t a) = nL x := by rw [hc]; exact hk
        simp only [ax_W_cons, ax_I, ax_cmp, ax_ii, ax_ll, ax_li, ax_st1, ax_st2, ax_kl, ax_k2, ax_fit, ax_rtok, List.getElem?_cons_zero, List.getElem?_cons_succ, List.length_cons, List.length_nil, List.set_cons_zero, List.set_cons_succ, Nat.reduceAdd, Nat.reduceDiv, Nat.reduceMod, Nat.reduceMul, Nat.reduceLT, Nat.reduceLeDiff, Int32.reduceOfInt, Int64.reduceOfInt, true_and, and_true, and_self, true_or, or_true, false_implies, true_implies, not_false_eq_true, not_true_eq_false, Value.category, Nat.reduceEqDiff, Option.toList, List.cons_append, List.nil_append, List.drop_succ_cons, List.drop_zero, ax_qq_eq, ax_t_1418, ax_j_1418_39, ax_n_1418_39, ax_j_1418_40, ax_n_1418_40, w0, w1, w3, mo_f, hal, hf, a1, a2, z3, hv, ex, zcmp0, hc]
        exact hQ
    · have z3 : ¬ so a = 3 := by rw [b1, zsrt_3]; exact h3
      rw [decide_eq_false (fun z => by omega)] at hQ
      simp only [ax_W_cons, ax_I, ax_cmp, ax_ii, ax_ll, ax_li, ax_st1, ax_st2, ax_kl, ax_k2, ax_fit, ax_rtok, List.getElem?_cons_zero, List.getElem?_cons_succ, List.length_cons, List.length_nil, List.set_cons_zero, List.set_cons_succ, Nat.reduceAdd, Nat.reduceDiv, Nat.reduceMod, Nat.reduceMul, Nat.reduceLT, Nat.reduceLeDiff, Int32.reduceOfInt, Int64.reduceOfInt, true_and, and_true, and_self, true_or, or_true, false_implies, true_implies, not_false_eq_true, not_true_eq_false, Value.category, Nat.reduceEqDiff, Option.toList, List.cons_append, List.nil_append, List.drop_succ_cons, List.drop_zero, ax_qq_eq, ax_t_1418, ax_j_1418_39, ax_n_1418_39, ax_j_1418_40, ax_n_1418_40, w0, w1, mo_f, hal, hf, a1, a2, z3]
      exact hQ
  · rw [decide_eq_false (fun z => hf z.1)] at hQ
    simp only [ax_W_cons, ax_I, ax_cmp, ax_ii, ax_ll, ax_li, ax_st1, ax_st2, ax_kl, ax_k2, ax_fit, ax_rtok, List.getElem?_cons_zero, List.getElem?_cons_succ, List.length_cons, List.length_nil, List.set_cons_zero, List.set_cons_succ, Nat.reduceAdd, Nat.reduceDiv, Nat.reduceMod, Nat.reduceMul, Nat.reduceLT, Nat.reduceLeDiff, Int32.reduceOfInt, Int64.reduceOfInt, true_and, and_true, and_self, true_or, or_true, false_implies, true_implies, not_false_eq_true, not_true_eq_false, Value.category, Nat.reduceEqDiff, Option.toList, List.cons_append, List.nil_append, List.drop_succ_cons, List.drop_zero, ax_qq_eq, ax_t_1418, ax_j_1418_39, ax_n_1418_39, ax_j_1418_40, ax_n_1418_40, w0, mo_f, hal, hf]
    exact hQ
theorem mk_isWord (hal : ax_al n = 178) (ht : zT_ok t) (h : rS es t c a fl v) {x : Nat} (hx : x < 24) (hQ : Q (some (.int (kx_b (decide (fl = 0 ∧ zkd t a = x))))) es) : ax_Mt d 1419 [.ref 159, .int (nI x)] n sl es Q := by
  obtain ⟨so, pl, va, w1, w2, w3, ⟨b1, b2, b3, b4, b5⟩, a1, a2, ha⟩ := rS_get ht h
  obtain ⟨ws, w4, hws⟩ := h.2.2.1
  have w0 : es 159 = _ := h.1
  have x1 : vp_in (nI x) 24 := nI_in hx (by decide)
  have x2 : (nI x).toNatClampNeg = x := nI_clamp (by omega)
  have x3 := hws x hx
  have n0 : ((0 : Int32) = 0 ∨ (0 : Int32) = 1) := Or.inl rfl
  have n1 : ((1 : Int32) = 0 ∨ (1 : Int32) = 1) := Or.inr rfl
  refine ax_Mt_go (m := ax_m_11_11) (ls := [some (.ref 159), some (.int (nI x))]) rfl ax_b_1419_0 (Nat.le_of_ble_eq_true rfl) rfl ?_
  by_cases hf : fl = 0
  · by_cases h3 : zkd t a ≤ 24
    · have z3 : so a = 1 := b1.trans (by rw [zsrt_1]; exact h3)
      have hv := b3 h3
      have hc := zw37 (t := t) (a := a) h3 hx
      by_cases hk : zkd t a = x
      · rw [decide_eq_true ⟨hf, hk⟩] at hQ
        have hc : nL (zv37 (zwd t a)) = nL (zv37 (zW.getD x [])) := by rw [hc]; exact hk
        simp only [ax_W_cons, ax_I, ax_cmp, ax_ii, ax_ll, ax_li, ax_st1, ax_st2, ax_kl, ax_k2, ax_fit, ax_rtok, List.getElem?_cons_zero, List.getElem?_cons_succ, List.length_cons, List.length_nil, List.set_cons_zero, List.set_cons_succ, Nat.reduceAdd, Nat.reduceDiv, Nat.reduceMod, Nat.reduceMul, Nat.reduceLT, Nat.reduceLeDiff, Int32.reduceOfInt, Int64.reduceOfInt, true_and, and_true, and_self, true_or, or_true, false_implies, true_implies, not_false_eq_true, not_true_eq_false, Value.category, Nat.reduceEqDiff, Option.toList, List.cons_append, List.nil_append, List.drop_succ_cons, List.drop_zero, ax_qq_eq, ax_t_1419, ax_j_1419_44, ax_n_1419_44, w0, w1, w3, w4, mo_f, hal, hf, a1, a2, x1, x2, x3, z3, hv, zcmp0, hc]
        exact hQ
      · rw [decide_eq_false (fun z => hk z.2)] at hQ
        have hc : ¬ nL (zv37 (zwd t a)) = nL (zv37 (zW.getD x [])) := by rw [hc]; exact hk
        simp only [ax_W_cons, ax_I, ax_cmp, ax_ii, ax_ll, ax_li, ax_st1, ax_st2, ax_kl, ax_k2, ax_fit, ax_rtok, List.getElem?_cons_zero, List.getElem?_cons_succ, List.length_cons, List.length_nil, List.set_cons_zero, List.set_cons_succ, Nat.reduceAdd, Nat.reduceDiv, Nat.reduceMod, Nat.reduceMul, Nat.reduceLT, Nat.reduceLeDiff, Int32.reduceOfInt, Int64.reduceOfInt, true_and, and_true, and_self, true_or, or_true, false_implies, true_implies, not_false_eq_true, not_true_eq_false, Value.category, Nat.reduceEqDiff, Option.toList, List.cons_append, List.nil_append, List.drop_succ_cons, List.drop_zero, ax_qq_eq, ax_t_1419, ax_j_1419_43, ax_n_1419_43, ax_j_1419_44, ax_n_1419_44, w0, w1, w3, w4, mo_f, hal, hf, a1, a2, x1, x2, x3, z3, hv, zcmp0, hc]
        exact hQ
    · have z3 : ¬ so a = 1 := by rw [b1, zsrt_1]; exact h3
      rw [decide_eq_false (fun z => by omega)] at hQ
      simp only [ax_W_cons, ax_I, ax_cmp, ax_ii, ax_ll, ax_li, ax_st1, ax_st2, ax_kl, ax_k2, ax_fit, ax_rtok, List.getElem?_cons_zero, List.getElem?_cons_succ, List.length_cons, List.length_nil, List.set_cons_zero, List.set_cons_succ, Nat.reduceAdd, Nat.reduceDiv, Nat.reduceMod, Nat.reduceMul, Nat.reduceLT, Nat.reduceLeDiff, Int32.reduceOfInt, Int64.reduceOfInt, true_and, and_true, and_self, true_or, or_true, false_implies, true_implies, not_false_eq_true, not_true_eq_false, Value.category, Nat.reduceEqDiff, Option.toList, List.cons_append, List.nil_append, List.drop_succ_cons, List.drop_zero, ax_qq_eq, ax_t_1419, ax_j_1419_43, ax_n_1419_43, ax_j_1419_44, ax_n_1419_44, w0, w1, mo_f, hal, hf, a1, a2, z3]
      exact hQ
  · rw [decide_eq_false (fun z => hf z.1)] at hQ
    simp only [ax_W_cons, ax_I, ax_cmp, ax_ii, ax_ll, ax_li, ax_st1, ax_st2, ax_kl, ax_k2, ax_fit, ax_rtok, List.getElem?_cons_zero, List.getElem?_cons_succ, List.length_cons, List.length_nil, List.set_cons_zero, List.set_cons_succ, Nat.reduceAdd, Nat.reduceDiv, Nat.reduceMod, Nat.reduceMul, Nat.reduceLT, Nat.reduceLeDiff, Int32.reduceOfInt, Int64.reduceOfInt, true_and, and_true, and_self, true_or, or_true, false_implies, true_implies, not_false_eq_true, not_true_eq_false, Value.category, Nat.reduceEqDiff, Option.toList, List.cons_append, List.nil_append, List.drop_succ_cons, List.drop_zero, ax_qq_eq, ax_t_1419, ax_j_1419_43, ax_n_1419_43, ax_j_1419_44, ax_n_1419_44, w0, mo_f, hal, hf]
    exact hQ
theorem mk_takeSign0 (hal : ax_al n = 178) (ht : zT_ok t) (h : rS es t c a 0 v) {x : Nat} (h28 : 28 ≤ x) (hx : x < 62) (h1 : ∀ es', zkd t a = x → rS es' t c (a + 1) 0 v → (∀ j, j ≠ 159 → es' j = es j) → Q none es') (h0 : ∀ es', ¬ zkd t a = x → rS es' t c a (nI (1 + 16 * zpl t a)) v → rFl (nI (1 + 16 * zpl t a)) → (∀ j, j ≠ 159 → es' j = es j) → Q none es') : ax_Mt (d + 1) 1420 [.ref 159, .int (nI x)] n sl es Q := by
  have w0 : es 159 = _ := h.1
  have c10 : ¬ (1 : Int32) = 0 := by decide
  have a4 : nI a + 1 = nI (a + 1) := (nI_succ a).symm
  refine ax_Mt_go (m := ax_m_11_12) (ls := [some (.ref 159), some (.int (nI x))]) rfl ax_b_1420_0 (Nat.le_of_ble_eq_true rfl) rfl ?_
  simp only [ax_W_cons, ax_I, ax_cmp, ax_ii, ax_ll, ax_li, ax_st1, ax_st2, ax_kl, ax_k2, ax_fit, ax_rtok, List.getElem?_cons_zero, List.getElem?_cons_succ, List.length_cons, List.length_nil, List.set_cons_zero, List.set_cons_succ, Nat.reduceAdd, Nat.reduceDiv, Nat.reduceMod, Nat.reduceMul, Nat.reduceLT, Nat.reduceLeDiff, Int32.reduceOfInt, Int64.reduceOfInt, true_and, and_true, and_self, true_or, or_true, false_implies, true_implies, not_false_eq_true, not_true_eq_false, Value.category, Nat.reduceEqDiff, Option.toList, List.cons_append, List.nil_append, List.drop_succ_cons, List.drop_zero, ax_qq_eq, ax_t_1420]
  refine ax_inv_of (Nat.le_of_ble_eq_true rfl) (Nat.le_of_ble_eq_true rfl) (fun _ => rS_rcv hal h _) (fun h => absurd h (by decide)) (Nat.le_refl _) (Nat.le_refl _) (mk_isSign hal ht h h28 hx ?_)
  by_cases hk : zkd t a = x
  · rw [decide_eq_true ⟨rfl, hk⟩]
    simp only [ax_W_cons, ax_I, ax_cmp, ax_ii, ax_ll, ax_li, ax_st1, ax_st2, ax_kl, ax_k2, ax_fit, ax_rtok, List.getElem?_cons_zero, List.getElem?_cons_succ, List.length_cons, List.length_nil, List.set_cons_zero, List.set_cons_succ, Nat.reduceAdd, Nat.reduceDiv, Nat.reduceMod, Nat.reduceMul, Nat.reduceLT, Nat.reduceLeDiff, Int32.reduceOfInt, Int64.reduceOfInt, true_and, and_true, and_self, true_or, or_true, false_implies, true_implies, not_false_eq_true, not_true_eq_false, Value.category, Nat.reduceEqDiff, Option.toList, List.cons_append, List.nil_append, List.drop_succ_cons, List.drop_zero, ax_qq_eq, ax_t_1420, ax_j_1420_26, ax_n_1420_26, w0, mo_f, hal, kx_bt, c10, a4]
    exact h1 _ hk (rS_up h (ax_up_same ..) (fun j hj _ => ax_up_ne _ _ hj) (zpre_s h.2.2.2 (by omega))) (fun j hj => ax_up_ne _ _ hj)
  · rw [decide_eq_false (fun z => hk z.2)]
    simp only [ax_W_cons, ax_I, ax_cmp, ax_ii, ax_ll, ax_li, ax_st1, ax_st2, ax_kl, ax_k2, ax_fit, ax_rtok, List.getElem?_cons_zero, List.getElem?_cons_succ, List.length_cons, List.length_nil, List.set_cons_zero, List.set_cons_succ, Nat.reduceAdd, Nat.reduceDiv, Nat.reduceMod, Nat.reduceMul, Nat.reduceLT, Nat.reduceLeDiff, Int32.reduceOfInt, Int64.reduceOfInt, true_and, and_true, and_self, true_or, or_true, false_implies, true_implies, not_false_eq_true, not_true_eq_false, Value.category, Nat.reduceEqDiff, Option.toList, List.cons_append, List.nil_append, List.drop_succ_cons, List.drop_zero, ax_qq_eq, ax_t_1420, ax_j_1420_21, ax_n_1420_21, kx_bf]
    refine ax_inv_of (Nat.le_of_ble_eq_true rfl) (Nat.le_of_ble_eq_true rfl) (fun _ => rS_rcv hal h _) (fun h => absurd h (by decide)) (Nat.le_refl _) (Nat.le_refl _) (mk_wrong0 (k := 1) hal ht h (by decide) (by decide) ?_)
    intro es1 S1 f1 g1
    simp only [ax_W_cons, ax_I, ax_cmp, ax_ii, ax_ll, ax_li, ax_st1, ax_st2, ax_kl, ax_k2, ax_fit, ax_rtok, List.getElem?_cons_zero, List.getElem?_cons_succ, List.length_cons, List.length_nil, List.set_cons_zero, List.set_cons_succ, Nat.reduceAdd, Nat.reduceDiv, Nat.reduceMod, Nat.reduceMul, Nat.reduceLT, Nat.reduceLeDiff, Int32.reduceOfInt, Int64.reduceOfInt, true_and, and_true, and_self, true_or, or_true, false_implies, true_implies, not_false_eq_true, not_true_eq_false, Value.category, Nat.reduceEqDiff, Option.toList, List.cons_append, List.nil_append, List.drop_succ_cons, List.drop_zero, ax_qq_eq, ax_t_1420, ax_j_1420_26, ax_n_1420_26]
    exact h0 es1 hk S1 f1 g1
theorem mk_takeSign1 (hal : ax_al n = 178) (ht : zT_ok t) (h : rS es t c a fl v) (hf : rFl fl) {x : Nat} (h28 : 28 ≤ x) (hx : x < 62) (hQ : Q none es) : ax_Mt (d + 1) 1420 [.ref 159, .int (nI x)] n sl es Q := by
  refine ax_Mt_go (m := ax_m_11_12) (ls := [some (.ref 159), some (.int (nI x))]) rfl ax_b_1420_0 (Nat.le_of_ble_eq_true rfl) rfl ?_
  simp only [ax_W_cons, ax_I, ax_cmp, ax_ii, ax_ll, ax_li, ax_st1, ax_st2, ax_kl, ax_k2, ax_fit, ax_rtok, List.getElem?_cons_zero, List.getElem?_cons_succ, List.length_cons, List.length_nil, List.set_cons_zero, List.set_cons_succ, Nat.reduceAdd, Nat.reduceDiv, Nat.reduceMod, Nat.reduceMul, Nat.reduceLT, Nat.reduceLeDiff, Int32.reduceOfInt, Int64.reduceOfInt, true_and, and_true, and_self, true_or, or_true, false_implies, true_implies, not_false_eq_true, not_true_eq_false, Value.category, Nat.reduceEqDiff, Option.toList, List.cons_append, List.nil_append, List.drop_succ_cons, List.drop_zero, ax_qq_eq, ax_t_1420]
  refine ax_inv_of (Nat.le_of_ble_eq_true rfl) (Nat.le_of_ble_eq_true rfl) (fun _ => rS_rcv hal h _) (fun h => absurd h (by decide)) (Nat.le_refl _) (Nat.le_refl _) (mk_isSign hal ht h h28 hx ?_)
  rw [decide_eq_false (fun z => hf.1 z.1)]
  simp only [ax_W_cons, ax_I, ax_cmp, ax_ii, ax_ll, ax_li, ax_st1, ax_st2, ax_kl, ax_k2, ax_fit, ax_rtok, List.getElem?_cons_zero, List.getElem?_cons_succ, List.length_cons, List.length_nil, List.set_cons_zero, List.set_cons_succ, Nat.reduceAdd, Nat.reduceDiv, Nat.reduceMod, Nat.reduceMul, Nat.reduceLT, Nat.reduceLeDiff, Int32.reduceOfInt, Int64.reduceOfInt, true_and, and_true, and_self, true_or, or_true, false_implies, true_implies, not_false_eq_true, not_true_eq_false, Value.category, Nat.reduceEqDiff, Option.toList, List.cons_append, List.nil_append, List.drop_succ_cons, List.drop_zero, ax_qq_eq, ax_t_1420, ax_j_1420_21, ax_n_1420_21, kx_bf]
  refine ax_inv_of (Nat.le_of_ble_eq_true rfl) (Nat.le_of_ble_eq_true rfl) (fun _ => rS_rcv hal h _) (fun h => absurd h (by decide)) (Nat.le_refl _) (Nat.le_refl _) (mk_wrong1 hal h hf _ ?_)
  simp only [ax_W_cons, ax_I, ax_cmp, ax_ii, ax_ll, ax_li, ax_st1, ax_st2, ax_kl, ax_k2, ax_fit, ax_rtok, List.getElem?_cons_zero, List.getElem?_cons_succ, List.length_cons, List.length_nil, List.set_cons_zero, List.set_cons_succ, Nat.reduceAdd, Nat.reduceDiv, Nat.reduceMod, Nat.reduceMul, Nat.reduceLT, Nat.reduceLeDiff, Int32.reduceOfInt, Int64.reduceOfInt, true_and, and_true, and_self, true_or, or_true, false_implies, true_implies, not_false_eq_true, not_true_eq_false, Value.category, Nat.reduceEqDiff, Option.toList, List.cons_append, List.nil_append, List.drop_succ_cons, List.drop_zero, ax_qq_eq, ax_t_1420, ax_j_1420_26, ax_n_1420_26]
  exact hQ
theorem mk_hasSign (hal : ax_al n = 178) (ht : zT_ok t) (h : rS es t c a fl v) {x : Nat} (h28 : 28 ≤ x) (hx : x < 62) (h1 : ∀ es', fl = 0 → zkd t a = x → rS es' t c (a + 1) fl v → (∀ j, j ≠ 159 → es' j = es j) → Q (some (.int 1)) es') (h0 : ¬ (fl = 0 ∧ zkd t a = x) → Q (some (.int 0)) es) : ax_Mt (d + 1) 1421 [.ref 159, .int (nI x)] n sl es Q := by
  have w0 : es 159 = _ := h.1
  have c10 : ¬ (1 : Int32) = 0 := by decide
  have n0 : ((0 : Int32) = 0 ∨ (0 : Int32) = 1) := Or.inl rfl
  have n1 : ((1 : Int32) = 0 ∨ (1 : Int32) = 1) := Or.inr rfl
  have a4 : nI a + 1 = nI (a + 1) := (nI_succ a).symm
  have a5 : nI a + 0 = nI a := Int32.add_zero _
  refine ax_Mt_go (m := ax_m_11_13) (ls := [some (.ref 159), some (.int (nI x)), none]) rfl ax_b_1421_0 (Nat.le_of_ble_eq_true rfl) rfl ?_
  simp only [ax_W_cons, ax_I, ax_cmp, ax_ii, ax_ll, ax_li, ax_st1, ax_st2, ax_kl, ax_k2, ax_fit, ax_rtok, List.getElem?_cons_zero, List.getElem?_cons_succ, List.length_cons, List.length_nil, List.set_cons_zero, List.set_cons_succ, Nat.reduceAdd, Nat.reduceDiv, Nat.reduceMod, Nat.reduceMul, Nat.reduceLT, Nat.reduceLeDiff, Int32.reduceOfInt, Int64.reduceOfInt, true_and, and_true, and_self, true_or, or_true, false_implies, true_implies, not_false_eq_true, not_true_eq_false, Value.category, Nat.reduceEqDiff, Option.toList, List.cons_append, List.nil_append, List.drop_succ_cons, List.drop_zero, ax_qq_eq, ax_t_1421]
  refine ax_inv_of (Nat.le_of_ble_eq_true rfl) (Nat.le_of_ble_eq_true rfl) (fun _ => rS_rcv hal h _) (fun h => absurd h (by decide)) (Nat.le_refl _) (Nat.le_refl _) (mk_isSign hal ht h h28 hx ?_)
  by_cases hk : fl = 0 ∧ zkd t a = x
  · rw [decide_eq_true hk]
    simp only [ax_W_cons, ax_I, ax_cmp, ax_ii, ax_ll, ax_li, ax_st1, ax_st2, ax_kl, ax_k2, ax_fit, ax_rtok, List.getElem?_cons_zero, List.getElem?_cons_succ, List.length_cons, List.length_nil, List.set_cons_zero, List.set_cons_succ, Nat.reduceAdd, Nat.reduceDiv, Nat.reduceMod, Nat.reduceMul, Nat.reduceLT, Nat.reduceLeDiff, Int32.reduceOfInt, Int64.reduceOfInt, true_and, and_true, and_self, true_or, or_true, false_implies, true_implies, not_false_eq_true, not_true_eq_false, Value.category, Nat.reduceEqDiff, Option.toList, List.cons_append, List.nil_append, List.drop_succ_cons, List.drop_zero, ax_qq_eq, ax_t_1421, ax_j_1421_20, ax_n_1421_20, w0, mo_f, hal, kx_bt, c10, a4]
    exact h1 _ hk.1 hk.2 (rS_up h (ax_up_same ..) (fun j hj _ => ax_up_ne _ _ hj) (zpre_s h.2.2.2 (by omega))) (fun j hj => ax_up_ne _ _ hj)
  · rw [decide_eq_false hk]
    have h0 := h0 hk
    rw [← rup_id w0] at h0
    simp only [ax_W_cons, ax_I, ax_cmp, ax_ii, ax_ll, ax_li, ax_st1, ax_st2, ax_kl, ax_k2, ax_fit, ax_rtok, List.getElem?_cons_zero, List.getElem?_cons_succ, List.length_cons, List.length_nil, List.set_cons_zero, List.set_cons_succ, Nat.reduceAdd, Nat.reduceDiv, Nat.reduceMod, Nat.reduceMul, Nat.reduceLT, Nat.reduceLeDiff, Int32.reduceOfInt, Int64.reduceOfInt, true_and, and_true, and_self, true_or, or_true, false_implies, true_implies, not_false_eq_true, not_true_eq_false, Value.category, Nat.reduceEqDiff, Option.toList, List.cons_append, List.nil_append, List.drop_succ_cons, List.drop_zero, ax_qq_eq, ax_t_1421, ax_j_1421_19, ax_n_1421_19, ax_j_1421_20, ax_n_1421_20, w0, mo_f, hal, kx_bf, a5]
    exact h0
theorem mk_hasWord (hal : ax_al n = 178) (ht : zT_ok t) (h : rS es t c a fl v) {x : Nat} (hx : x < 24) (h1 : ∀ es', fl = 0 → zkd t a = x → rS es' t c (a + 1) fl v → (∀ j, j ≠ 159 → es' j = es j) → Q (some (.int 1)) es') (h0 : ¬ (fl = 0 ∧ zkd t a = x) → Q (some (.int 0)) es) : ax_Mt (d + 1) 1422 [.ref 159, .int (nI x)] n sl es Q := by
  have w0 : es 159 = _ := h.1
  have c10 : ¬ (1 : Int32) = 0 := by decide
  have n0 : ((0 : Int32) = 0 ∨ (0 : Int32) = 1) := Or.inl rfl
  have n1 : ((1 : Int32) = 0 ∨ (1 : Int32) = 1) := Or.inr rfl
  have a4 : nI a + 1 = nI (a + 1) := (nI_succ a).symm
  have a5 : nI a + 0 = nI a := Int32.add_zero _
  refine ax_Mt_go (m := ax_m_11_14) (ls := [some (.ref 159), some (.int (nI x)), none]) rfl ax_b_1422_0 (Nat.le_of_ble_eq_true rfl) rfl ?_
  simp only [ax_W_cons, ax_I, ax_cmp, ax_ii, ax_ll, ax_li, ax_st1, ax_st2, ax_kl, ax_k2, ax_fit, ax_rtok, List.getElem?_cons_zero, List.getElem?_cons_succ, List.length_cons, List.length_nil, List.set_cons_zero, List.set_cons_succ, Nat.reduceAdd, Nat.reduceDiv, Nat.reduceMod, Nat.reduceMul, Nat.reduceLT, Nat.reduceLeDiff, Int32.reduceOfInt, Int64.reduceOfInt, true_and, and_true, and_self, true_or, or_true, false_implies, true_implies, not_false_eq_true, not_true_eq_false, Value.category, Nat.reduceEqDiff, Option.toList, List.cons_append, List.nil_append, List.drop_succ_cons, List.drop_zero, ax_qq_eq, ax_t_1422]
  refine ax_inv_of (Nat.le_of_ble_eq_true rfl) (Nat.le_of_ble_eq_true rfl) (fun _ => rS_rcv hal h _) (fun h => absurd h (by decide)) (Nat.le_refl _) (Nat.le_refl _) (mk_isWord hal ht h hx ?_)
  by_cases hk : fl = 0 ∧ zkd t a = x
  · rw [decide_eq_true hk]
    simp only [ax_W_cons, ax_I, ax_cmp, ax_ii, ax_ll, ax_li, ax_st1, ax_st2, ax_kl, ax_k2, ax_fit, ax_rtok, List.getElem?_cons_zero, List.getElem?_cons_succ, List.length_cons, List.length_nil, List.set_cons_zero, List.set_cons_succ, Nat.reduceAdd, Nat.reduceDiv, Nat.reduceMod, Nat.reduceMul, Nat.reduceLT, Nat.reduceLeDiff, Int32.reduceOfInt, Int64.reduceOfInt, true_and, and_true, and_self, true_or, or_true, false_implies, true_implies, not_false_eq_true, not_true_eq_false, Value.category, Nat.reduceEqDiff, Option.toList, List.cons_append, List.nil_append, List.drop_succ_cons, List.drop_zero, ax_qq_eq, ax_t_1422, ax_j_1422_20, ax_n_1422_20, w0, mo_f, hal, kx_bt, c10, a4]
    exact h1 _ hk.1 hk.2 (rS_up h (ax_up_same ..) (fun j hj _ => ax_up_ne _ _ hj) (zpre_s h.2.2.2 (by omega))) (fun j hj => ax_up_ne _ _ hj)
  · rw [decide_eq_false hk]
    have h0 := h0 hk
    rw [← rup_id w0] at h0
    simp only [ax_W_cons, ax_I, ax_cmp, ax_ii, ax_ll, ax_li, ax_st1, ax_st2, ax_kl, ax_k2, ax_fit, ax_rtok, List.getElem?_cons_zero, List.getElem?_cons_succ, List.length_cons, List.length_nil, List.set_cons_zero, List.set_cons_succ, Nat.reduceAdd, Nat.reduceDiv, Nat.reduceMod, Nat.reduceMul, Nat.reduceLT, Nat.reduceLeDiff, Int32.reduceOfInt, Int64.reduceOfInt, true_and, and_true, and_self, true_or, or_true, false_implies, true_implies, not_false_eq_true, not_true_eq_false, Value.category, Nat.reduceEqDiff, Option.toList, List.cons_append, List.nil_append, List.drop_succ_cons, List.drop_zero, ax_qq_eq, ax_t_1422, ax_j_1422_19, ax_n_1422_19, ax_j_1422_20, ax_n_1422_20, w0, mo_f, hal, kx_bf, a5]
    exact h0
theorem mk_takeWord0 (hal : ax_al n = 178) (ht : zT_ok t) (h : rS es t c a 0 v) {x : Nat} (hx : x < 24) (h1 : ∀ es', zkd t a = x → rS es' t c (a + 1) 0 v → (∀ j, j ≠ 159 → es' j = es j) → Q none es') (h0 : ∀ es', ¬ zkd t a = x → rS es' t c a (nI (1 + 16 * zpl t a)) v → rFl (nI (1 + 16 * zpl t a)) → (∀ j, j ≠ 159 → es' j = es j) → Q none es') : ax_Mt (d + 2) 1423 [.ref 159, .int (nI x)] n sl es Q := by
  have c10 : ¬ (1 : Int32) = 0 := by decide
  refine ax_Mt_go (m := ax_m_11_15) (ls := [some (.ref 159), some (.int (nI x))]) rfl ax_b_1423_0 (Nat.le_of_ble_eq_true rfl) rfl ?_
  simp only [ax_W_cons, ax_I, ax_cmp, ax_ii, ax_ll, ax_li, ax_st1, ax_st2, ax_kl, ax_k2, ax_fit, ax_rtok, List.getElem?_cons_zero, List.getElem?_cons_succ, List.length_cons, List.length_nil, List.set_cons_zero, List.set_cons_succ, Nat.reduceAdd, Nat.reduceDiv, Nat.reduceMod, Nat.reduceMul, Nat.reduceLT, Nat.reduceLeDiff, Int32.reduceOfInt, Int64.reduceOfInt, true_and, and_true, and_self, true_or, or_true, false_implies, true_implies, not_false_eq_true, not_true_eq_false, Value.category, Nat.reduceEqDiff, Option.toList, List.cons_append, List.nil_append, List.drop_succ_cons, List.drop_zero, ax_qq_eq, ax_t_1423]
  refine ax_inv_of (Nat.le_of_ble_eq_true rfl) (Nat.le_of_ble_eq_true rfl) (fun _ => rS_rcv hal h _) (fun h => absurd h (by decide)) (Nat.le_refl _) (Nat.le_refl _) (mk_hasWord hal ht h hx ?_ ?_)
  · intro es1 _ hk S1 f1
    simp only [ax_W_cons, ax_I, ax_cmp, ax_ii, ax_ll, ax_li, ax_st1, ax_st2, ax_kl, ax_k2, ax_fit, ax_rtok, List.getElem?_cons_zero, List.getElem?_cons_succ, List.length_cons, List.length_nil, List.set_cons_zero, List.set_cons_succ, Nat.reduceAdd, Nat.reduceDiv, Nat.reduceMod, Nat.reduceMul, Nat.reduceLT, Nat.reduceLeDiff, Int32.reduceOfInt, Int64.reduceOfInt, true_and, and_true, and_self, true_or, or_true, false_implies, true_implies, not_false_eq_true, not_true_eq_false, Value.category, Nat.reduceEqDiff, Option.toList, List.cons_append, List.nil_append, List.drop_succ_cons, List.drop_zero, ax_qq_eq, ax_t_1423, ax_j_1423_13, ax_n_1423_13, c10]
    exact h1 es1 hk S1 f1
  · intro hk
    simp only [ax_W_cons, ax_I, ax_cmp, ax_ii, ax_ll, ax_li, ax_st1, ax_st2, ax_kl, ax_k2, ax_fit, ax_rtok, List.getElem?_cons_zero, List.getElem?_cons_succ, List.length_cons, List.length_nil, List.set_cons_zero, List.set_cons_succ, Nat.reduceAdd, Nat.reduceDiv, Nat.reduceMod, Nat.reduceMul, Nat.reduceLT, Nat.reduceLeDiff, Int32.reduceOfInt, Int64.reduceOfInt, true_and, and_true, and_self, true_or, or_true, false_implies, true_implies, not_false_eq_true, not_true_eq_false, Value.category, Nat.reduceEqDiff, Option.toList, List.cons_append, List.nil_append, List.drop_succ_cons, List.drop_zero, ax_qq_eq, ax_t_1423]
    refine ax_inv_of (Nat.le_of_ble_eq_true rfl) (Nat.le_of_ble_eq_true rfl) (fun _ => rS_rcv hal h _) (fun h => absurd h (by decide)) (Nat.le_refl _) (Nat.le_refl _) (mk_wrong0 (k := 1) hal ht h (by decide) (by decide) ?_)
    intro es1 S1 f1 g1
    simp only [ax_W_cons, ax_I, ax_cmp, ax_ii, ax_ll, ax_li, ax_st1, ax_st2, ax_kl, ax_k2, ax_fit, ax_rtok, List.getElem?_cons_zero, List.getElem?_cons_succ, List.length_cons, List.length_nil, List.set_cons_zero, List.set_cons_succ, Nat.reduceAdd, Nat.reduceDiv, Nat.reduceMod, Nat.reduceMul, Nat.reduceLT, Nat.reduceLeDiff, Int32.reduceOfInt, Int64.reduceOfInt, true_and, and_true, and_self, true_or, or_true, false_implies, true_implies, not_false_eq_true, not_true_eq_false, Value.category, Nat.reduceEqDiff, Option.toList, List.cons_append, List.nil_append, List.drop_succ_cons, List.drop_zero, ax_qq_eq, ax_t_1423, ax_j_1423_13, ax_n_1423_13]
    exact h0 es1 (fun z => hk ⟨rfl, z⟩) S1 f1 g1
theorem mk_takeWord1 (hal : ax_al n = 178) (ht : zT_ok t) (h : rS es t c a fl v) (hf : rFl fl) {x : Nat} (hx : x < 24) (hQ : Q none es) : ax_Mt (d + 2) 1423 [.ref 159, .int (nI x)] n sl es Q := by
  refine ax_Mt_go (m := ax_m_11_15) (ls := [some (.ref 159), some (.int (nI x))]) rfl ax_b_1423_0 (Nat.le_of_ble_eq_true rfl) rfl ?_
  simp only [ax_W_cons, ax_I, ax_cmp, ax_ii, ax_ll, ax_li, ax_st1, ax_st2, ax_kl, ax_k2, ax_fit, ax_rtok, List.getElem?_cons_zero, List.getElem?_cons_succ, List.length_cons, List.length_nil, List.set_cons_zero, List.set_cons_succ, Nat.reduceAdd, Nat.reduceDiv, Nat.reduceMod, Nat.reduceMul, Nat.reduceLT, Nat.reduceLeDiff, Int32.reduceOfInt, Int64.reduceOfInt, true_and, and_true, and_self, true_or, or_true, false_implies, true_implies, not_false_eq_true, not_true_eq_false, Value.category, Nat.reduceEqDiff, Option.toList, List.cons_append, List.nil_append, List.drop_succ_cons, List.drop_zero, ax_qq_eq, ax_t_1423]
  refine ax_inv_of (Nat.le_of_ble_eq_true rfl) (Nat.le_of_ble_eq_true rfl) (fun _ => rS_rcv hal h _) (fun h => absurd h (by decide)) (Nat.le_refl _) (Nat.le_refl _) (mk_hasWord hal ht h hx ?_ ?_)
  · intro es1 z
    exact absurd z hf.1
  · intro hk
    simp only [ax_W_cons, ax_I, ax_cmp, ax_ii, ax_ll, ax_li, ax_st1, ax_st2, ax_kl, ax_k2, ax_fit, ax_rtok, List.getElem?_cons_zero, List.getElem?_cons_succ, List.length_cons, List.length_nil, List.set_cons_zero, List.set_cons_succ, Nat.reduceAdd, Nat.reduceDiv, Nat.reduceMod, Nat.reduceMul, Nat.reduceLT, Nat.reduceLeDiff, Int32.reduceOfInt, Int64.reduceOfInt, true_and, and_true, and_self, true_or, or_true, false_implies, true_implies, not_false_eq_true, not_true_eq_false, Value.category, Nat.reduceEqDiff, Option.toList, List.cons_append, List.nil_append, List.drop_succ_cons, List.drop_zero, ax_qq_eq, ax_t_1423]
    refine ax_inv_of (Nat.le_of_ble_eq_true rfl) (Nat.le_of_ble_eq_true rfl) (fun _ => rS_rcv hal h _) (fun h => absurd h (by decide)) (Nat.le_refl _) (Nat.le_refl _) (mk_wrong1 hal h hf _ ?_)
    simp only [ax_W_cons, ax_I, ax_cmp, ax_ii, ax_ll, ax_li, ax_st1, ax_st2, ax_kl, ax_k2, ax_fit, ax_rtok, List.getElem?_cons_zero, List.getElem?_cons_succ, List.length_cons, List.length_nil, List.set_cons_zero, List.set_cons_succ, Nat.reduceAdd, Nat.reduceDiv, Nat.reduceMod, Nat.reduceMul, Nat.reduceLT, Nat.reduceLeDiff, Int32.reduceOfInt, Int64.reduceOfInt, true_and, and_true, and_self, true_or, or_true, false_implies, true_implies, not_false_eq_true, not_true_eq_false, Value.category, Nat.reduceEqDiff, Option.toList, List.cons_append, List.nil_append, List.drop_succ_cons, List.drop_zero, ax_qq_eq, ax_t_1423, ax_j_1423_13, ax_n_1423_13]
    exact hQ
theorem mk_takeNumber0 (hal : ax_al n = 178) (ht : zT_ok t) (h : rS es t c a 0 v) {lo hi : Nat} (hlo : lo < 2 ^ 31) (hhi : hi < 2 ^ 31) (h1 : ∀ es', zkd t a = 25 → zNo t a lo hi → rS es' t c (a + 1) 0 v → (∀ j, j ≠ 159 → es' j = es j) → Q (some (.int (nI (znb t a)))) es') (h0 : ∀ es' k, (∀ g, zNum t a lo hi g = .inl (k, a)) → (k = 1 ∧ ¬ zkd t a = 25 ∨ k = 4 ∧ zkd t a = 25 ∧ ¬ zNo t a lo hi) → rS es' t c a (nI (k + 16 * zpl t a)) v → rFl (nI (k + 16 * zpl t a)) → (∀ j, j ≠ 159 → es' j = es j) → Q (some (.int 0)) es') : ax_Mt (d + 1) 1426 [.ref 159, .int (nI lo), .int (nI hi)] n sl es Q := by
  obtain ⟨so, pl, va, w1, w2, w3, ⟨b1, b2, b3, b4, b5⟩, a1, a2, ha⟩ := rS_get ht h
  have w0 : es 159 = _ := h.1
  have a4 : nI a + 1 = nI (a + 1) := (nI_succ a).symm
  have a5 : nI (a + 1) - 1 = nI a := kn_sub (a := a + 1) (b := 1) (by omega)
  have c00 : (0 : Int32) ≤ 0 := by decide
  refine ax_Mt_go (m := ax_m_11_18) (ls := [some (.ref 159), some (.int (nI lo)), some (.int (nI hi))]) rfl ax_b_1426_0 (Nat.le_of_ble_eq_true rfl) rfl ?_
  by_cases hk : zkd t a = 25
  · have z2 : so a = 2 := b1.trans (by rw [zsrt_2]; exact hk)
    have hv := b4 hk
    have hlt := znb_lt hk
    have el : (nI lo).toInt64 = nL lo := nI_64 (by omega)
    have eh : (nI hi).toInt64 = nL hi := nI_64 (by omega)
    have l1 := zclt (a := znb t a) (b := lo) (by omega) (by omega)
    have l2 := zcle (a := znb t a) (b := hi) (by omega) (by omega)
    have bad : ¬ zNo t a lo hi → ax_J ax_W (d + 1) n sl 1426 65 [some (.ref 159), some (.int (nI lo)), some (.int (nI hi))] [] n sl es (ax_qq n sl Q) := by
      intro hN
      simp only [ax_W_cons, ax_I, ax_cmp, ax_ii, ax_ll, ax_li, ax_st1, ax_st2, ax_kl, ax_k2, ax_fit, ax_rtok, List.getElem?_cons_zero, List.getElem?_cons_succ, List.length_cons, List.length_nil, List.set_cons_zero, List.set_cons_succ, Nat.reduceAdd, Nat.reduceDiv, Nat.reduceMod, Nat.reduceMul, Nat.reduceLT, Nat.reduceLeDiff, Int32.reduceOfInt, Int64.reduceOfInt, true_and, and_true, and_self, true_or, or_true, false_implies, true_implies, not_false_eq_true, not_true_eq_false, Value.category, Nat.reduceEqDiff, Option.toList, List.cons_append, List.nil_append, List.drop_succ_cons, List.drop_zero, ax_qq_eq, ax_t_1426, ax_j_1426_65, ax_n_1426_65]
      refine ax_inv_of (Nat.le_of_ble_eq_true rfl) (Nat.le_of_ble_eq_true rfl) (fun _ => rS_rcv hal h _) (fun h => absurd h (by decide)) (Nat.le_refl _) (Nat.le_refl _) (mk_wrong0 (k := 4) hal ht h (by decide) (by decide) ?_)
      intro es1 S1 f1 g1
      have v0 : es1 159 = _ := S1.1
      have f2 := f1.2
      simp only [ax_W_cons, ax_I, ax_cmp, ax_ii, ax_ll, ax_li, ax_st1, ax_st2, ax_kl, ax_k2, ax_fit, ax_rtok, List.getElem?_cons_zero, List.getElem?_cons_succ, List.length_cons, List.length_nil, List.set_cons_zero, List.set_cons_succ, Nat.reduceAdd, Nat.reduceDiv, Nat.reduceMod, Nat.reduceMul, Nat.reduceLT, Nat.reduceLeDiff, Int32.reduceOfInt, Int64.reduceOfInt, true_and, and_true, and_self, true_or, or_true, false_implies, true_implies, not_false_eq_true, not_true_eq_false, Value.category, Nat.reduceEqDiff, Option.toList, List.cons_append, List.nil_append, List.drop_succ_cons, List.drop_zero, ax_qq_eq, ax_t_1426, ax_j_1426_70, ax_n_1426_70, v0, mo_f, hal, f2]
      exact h0 es1 4 (fun g => by rw [zNum, if_pos hk, if_neg hN]) (Or.inr ⟨rfl, hk, hN⟩) S1 f1 g1
    by_cases hN1 : znb t a < lo
    · have l1 : lg_cmp (nL (znb t a)) (nL lo) < 0 := by rw [l1]; exact hN1
      have bad := bad (fun z => by have := z.1; omega)
      simp only [ax_W_cons, ax_I, ax_cmp, ax_ii, ax_ll, ax_li, ax_st1, ax_st2, ax_kl, ax_k2, ax_fit, ax_rtok, List.getElem?_cons_zero, List.getElem?_cons_succ, List.length_cons, List.length_nil, List.set_cons_zero, List.set_cons_succ, Nat.reduceAdd, Nat.reduceDiv, Nat.reduceMod, Nat.reduceMul, Nat.reduceLT, Nat.reduceLeDiff, Int32.reduceOfInt, Int64.reduceOfInt, true_and, and_true, and_self, true_or, or_true, false_implies, true_implies, not_false_eq_true, not_true_eq_false, Value.category, Nat.reduceEqDiff, Option.toList, List.cons_append, List.nil_append, List.drop_succ_cons, List.drop_zero, ax_qq_eq, ax_t_1426, ax_j_1426_28, ax_n_1426_28, w0, w1, w3, mo_f, hal, a1, a2, z2, hv, el, l1]
      exact bad
    · have l1 : ¬ lg_cmp (nL (znb t a)) (nL lo) < 0 := by rw [l1]; exact hN1
      by_cases hN2 : znb t a ≤ hi
      · have l2 : lg_cmp (nL (znb t a)) (nL hi) ≤ 0 := by rw [l2]; exact hN2
        have ok := h1 _ hk ⟨by omega, hN2⟩ (rS_up h (ax_up_same ..) (fun j hj _ => ax_up_ne es (.inr (11, mo_f 0 0 c.1 (nI (a + 1)) 0 (nI v.1) c.2.1 (nI v.2.1) v.2.2.1 v.2.2.2 c.2.2.1 c.2.2.2)) hj) (zpre_s h.2.2.2 (by omega))) (fun j hj => ax_up_ne _ _ hj)
        have w3' : ∀ e, ax_up es 159 e 163 = _ := fun e => (ax_up_ne es e (by decide)).trans w3
        have e32 : (nL (znb t a)).toInt32 = nI (znb t a) := nL_32 (by omega)
        simp only [ax_W_cons, ax_I, ax_cmp, ax_ii, ax_ll, ax_li, ax_st1, ax_st2, ax_kl, ax_k2, ax_fit, ax_rtok, List.getElem?_cons_zero, List.getElem?_cons_succ, List.length_cons, List.length_nil, List.set_cons_zero, List.set_cons_succ, Nat.reduceAdd, Nat.reduceDiv, Nat.reduceMod, Nat.reduceMul, Nat.reduceLT, Nat.reduceLeDiff, Int32.reduceOfInt, Int64.reduceOfInt, true_and, and_true, and_self, true_or, or_true, false_implies, true_implies, not_false_eq_true, not_true_eq_false, Value.category, Nat.reduceEqDiff, Option.toList, List.cons_append, List.nil_append, List.drop_succ_cons, List.drop_zero, ax_qq_eq, ax_t_1426, ax_j_1426_28, ax_n_1426_28, ax_j_1426_70, ax_n_1426_70, ax_j_1426_79, ax_n_1426_79, w0, w1, w3, w3', ax_up_same, mo_f, hal, a1, a2, a4, a5, z2, hv, el, eh, l1, l2, c00, e32]
        exact ok
      · have l2 : ¬ lg_cmp (nL (znb t a)) (nL hi) ≤ 0 := by rw [l2]; exact hN2
        have bad := bad (fun z => by have := z.2; omega)
        rw [ax_j_1426_65, ← ax_n_1426_65] at bad
        simp only [ax_W_cons, ax_I, ax_cmp, ax_ii, ax_ll, ax_li, ax_st1, ax_st2, ax_kl, ax_k2, ax_fit, ax_rtok, List.getElem?_cons_zero, List.getElem?_cons_succ, List.length_cons, List.length_nil, List.set_cons_zero, List.set_cons_succ, Nat.reduceAdd, Nat.reduceDiv, Nat.reduceMod, Nat.reduceMul, Nat.reduceLT, Nat.reduceLeDiff, Int32.reduceOfInt, Int64.reduceOfInt, true_and, and_true, and_self, true_or, or_true, false_implies, true_implies, not_false_eq_true, not_true_eq_false, Value.category, Nat.reduceEqDiff, Option.toList, List.cons_append, List.nil_append, List.drop_succ_cons, List.drop_zero, ax_qq_eq, ax_t_1426, ax_j_1426_28, ax_n_1426_28, w0, w1, w3, mo_f, hal, a1, a2, z2, hv, el, eh, l1, l2]
        exact bad
  · have z2 : ¬ so a = 2 := by rw [b1, zsrt_2]; exact hk
    simp only [ax_W_cons, ax_I, ax_cmp, ax_ii, ax_ll, ax_li, ax_st1, ax_st2, ax_kl, ax_k2, ax_fit, ax_rtok, List.getElem?_cons_zero, List.getElem?_cons_succ, List.length_cons, List.length_nil, List.set_cons_zero, List.set_cons_succ, Nat.reduceAdd, Nat.reduceDiv, Nat.reduceMod, Nat.reduceMul, Nat.reduceLT, Nat.reduceLeDiff, Int32.reduceOfInt, Int64.reduceOfInt, true_and, and_true, and_self, true_or, or_true, false_implies, true_implies, not_false_eq_true, not_true_eq_false, Value.category, Nat.reduceEqDiff, Option.toList, List.cons_append, List.nil_append, List.drop_succ_cons, List.drop_zero, ax_qq_eq, ax_t_1426, w0, w1, mo_f, hal, a1, a2, z2]
    refine ax_inv_of (Nat.le_of_ble_eq_true rfl) (Nat.le_of_ble_eq_true rfl) (fun _ => rS_rcv hal h _) (fun h => absurd h (by decide)) (Nat.le_refl _) (Nat.le_refl _) (mk_wrong0 (k := 1) hal ht h (by decide) (by decide) ?_)
    intro es1 S1 f1 g1
    have v0 : es1 159 = _ := S1.1
    have f2 := f1.2
    simp only [ax_W_cons, ax_I, ax_cmp, ax_ii, ax_ll, ax_li, ax_st1, ax_st2, ax_kl, ax_k2, ax_fit, ax_rtok, List.getElem?_cons_zero, List.getElem?_cons_succ, List.length_cons, List.length_nil, List.set_cons_zero, List.set_cons_succ, Nat.reduceAdd, Nat.reduceDiv, Nat.reduceMod, Nat.reduceMul, Nat.reduceLT, Nat.reduceLeDiff, Int32.reduceOfInt, Int64.reduceOfInt, true_and, and_true, and_self, true_or, or_true, false_implies, true_implies, not_false_eq_true, not_true_eq_false, Value.category, Nat.reduceEqDiff, Option.toList, List.cons_append, List.nil_append, List.drop_succ_cons, List.drop_zero, ax_qq_eq, ax_t_1426, ax_j_1426_70, ax_n_1426_70, v0, mo_f, hal, f2]
    exact h0 es1 1 (fun g => by rw [zNum, if_neg hk]) (Or.inl ⟨rfl, hk⟩) S1 f1 g1
theorem mk_takeNumber1 (hal : ax_al n = 178) (h : rS es t c a fl v) (hf : rFl fl) (x y : Int32) (hQ : Q (some (.int 0)) es) : ax_Mt (d + 1) 1426 [.ref 159, .int x, .int y] n sl es Q := by
  have w0 : es 159 = _ := h.1
  have f1 := hf.1
  have f2 := hf.2
  refine ax_Mt_go (m := ax_m_11_18) (ls := [some (.ref 159), some (.int x), some (.int y)]) rfl ax_b_1426_0 (Nat.le_of_ble_eq_true rfl) rfl ?_
  simp only [ax_W_cons, ax_I, ax_cmp, ax_ii, ax_ll, ax_li, ax_st1, ax_st2, ax_kl, ax_k2, ax_fit, ax_rtok, List.getElem?_cons_zero, List.getElem?_cons_succ, List.length_cons, List.length_nil, List.set_cons_zero, List.set_cons_succ, Nat.reduceAdd, Nat.reduceDiv, Nat.reduceMod, Nat.reduceMul, Nat.reduceLT, Nat.reduceLeDiff, Int32.reduceOfInt, Int64.reduceOfInt, true_and, and_true, and_self, true_or, or_true, false_implies, true_implies, not_false_eq_true, not_true_eq_false, Value.category, Nat.reduceEqDiff, Option.toList, List.cons_append, List.nil_append, List.drop_succ_cons, List.drop_zero, ax_qq_eq, ax_t_1426, ax_j_1426_28, ax_n_1426_28, ax_j_1426_70, ax_n_1426_70, w0, mo_f, hal, f1, f2]
  exact hQ
theorem mk_takeAfter0 (hal : ax_al n = 178) (ht : zT_ok t) (h : rS es t c a 0 v) {x lo hi : Nat} (hx : x < 24) (hlo : lo < 2 ^ 31) (hhi : hi < 2 ^ 31) (h1 : ∀ es', zkd t a = x → zkd t (a + 1) = 25 → zNo t (a + 1) lo hi → rS es' t c (a + 2) 0 v → (∀ j, j ≠ 159 → es' j = es j) → Q (some (.int (nI (znb t (a + 1))))) es') (h0 : ∀ es' k b, (∀ g, zSgn t a x (zNum t (a + 1) lo hi g) = .inl (k, b)) → rS es' t c b (nI (k + 16 * zpl t b)) v → rFl (nI (k + 16 * zpl t b)) → (∀ j, j ≠ 159 → es' j = es j) → Q (some (.int 0)) es') : ax_Mt (d + 3) 1427 [.ref 159, .int (nI x), .int (nI lo), .int (nI hi)] n sl es Q := by
  refine ax_Mt_go (m := ax_m_11_19) (ls := [some (.ref 159), some (.int (nI x)), some (.int (nI lo)), some (.int (nI hi))]) rfl ax_b_1427_0 (Nat.le_of_ble_eq_true rfl) rfl ?_
  simp only [ax_W_cons, ax_I, ax_cmp, ax_ii, ax_ll, ax_li, ax_st1, ax_st2, ax_kl, ax_k2, ax_fit, ax_rtok, List.getElem?_cons_zero, List.getElem?_cons_succ, List.length_cons, List.length_nil, List.set_cons_zero, List.set_cons_succ, Nat.reduceAdd, Nat.reduceDiv, Nat.reduceMod, Nat.reduceMul, Nat.reduceLT, Nat.reduceLeDiff, Int32.reduceOfInt, Int64.reduceOfInt, true_and, and_true, and_self, true_or, or_true, false_implies, true_implies, not_false_eq_true, not_true_eq_false, Value.category, Nat.reduceEqDiff, Option.toList, List.cons_append, List.nil_append, List.drop_succ_cons, List.drop_zero, ax_qq_eq, ax_t_1427]
  refine ax_inv_of (Nat.le_of_ble_eq_true rfl) (Nat.le_of_ble_eq_true rfl) (fun _ => rS_rcv hal h _) (fun h => absurd h (by decide)) (Nat.le_refl _) (Nat.le_refl _) (mk_takeWord0 hal ht h hx ?_ ?_)
  · intro es1 hk S1 g1
    simp only [ax_W_cons, ax_I, ax_cmp, ax_ii, ax_ll, ax_li, ax_st1, ax_st2, ax_kl, ax_k2, ax_fit, ax_rtok, List.getElem?_cons_zero, List.getElem?_cons_succ, List.length_cons, List.length_nil, List.set_cons_zero, List.set_cons_succ, Nat.reduceAdd, Nat.reduceDiv, Nat.reduceMod, Nat.reduceMul, Nat.reduceLT, Nat.reduceLeDiff, Int32.reduceOfInt, Int64.reduceOfInt, true_and, and_true, and_self, true_or, or_true, false_implies, true_implies, not_false_eq_true, not_true_eq_false, Value.category, Nat.reduceEqDiff, Option.toList, List.cons_append, List.nil_append, List.drop_succ_cons, List.drop_zero, ax_qq_eq, ax_t_1427]
    refine ax_inv_of (Nat.le_of_ble_eq_true rfl) (Nat.le_of_ble_eq_true rfl) (fun _ => rS_rcv hal S1 _) (fun h => absurd h (by decide)) (Nat.le_refl _) (Nat.le_refl _) (mk_takeNumber0 hal ht S1 hlo hhi ?_ ?_)
    · intro es2 hk2 hN S2 g2
      simp only [ax_W_cons, ax_I, ax_cmp, ax_ii, ax_ll, ax_li, ax_st1, ax_st2, ax_kl, ax_k2, ax_fit, ax_rtok, List.getElem?_cons_zero, List.getElem?_cons_succ, List.length_cons, List.length_nil, List.set_cons_zero, List.set_cons_succ, Nat.reduceAdd, Nat.reduceDiv, Nat.reduceMod, Nat.reduceMul, Nat.reduceLT, Nat.reduceLeDiff, Int32.reduceOfInt, Int64.reduceOfInt, true_and, and_true, and_self, true_or, or_true, false_implies, true_implies, not_false_eq_true, not_true_eq_false, Value.category, Nat.reduceEqDiff, Option.toList, List.cons_append, List.nil_append, List.drop_succ_cons, List.drop_zero, ax_qq_eq, ax_t_1427]
      exact h1 es2 hk hk2 hN S2 (fun j hj => (g2 j hj).trans (g1 j hj))
    · intro es2 k hz _ S2 f2 g2
      simp only [ax_W_cons, ax_I, ax_cmp, ax_ii, ax_ll, ax_li, ax_st1, ax_st2, ax_kl, ax_k2, ax_fit, ax_rtok, List.getElem?_cons_zero, List.getElem?_cons_succ, List.length_cons, List.length_nil, List.set_cons_zero, List.set_cons_succ, Nat.reduceAdd, Nat.reduceDiv, Nat.reduceMod, Nat.reduceMul, Nat.reduceLT, Nat.reduceLeDiff, Int32.reduceOfInt, Int64.reduceOfInt, true_and, and_true, and_self, true_or, or_true, false_implies, true_implies, not_false_eq_true, not_true_eq_false, Value.category, Nat.reduceEqDiff, Option.toList, List.cons_append, List.nil_append, List.drop_succ_cons, List.drop_zero, ax_qq_eq, ax_t_1427]
      exact h0 es2 k (a + 1) (fun g => by rw [zSgn, if_pos hk, hz]) S2 f2 (fun j hj => (g2 j hj).trans (g1 j hj))
  · intro es1 hk S1 f1 g1
    simp only [ax_W_cons, ax_I, ax_cmp, ax_ii, ax_ll, ax_li, ax_st1, ax_st2, ax_kl, ax_k2, ax_fit, ax_rtok, List.getElem?_cons_zero, List.getElem?_cons_succ, List.length_cons, List.length_nil, List.set_cons_zero, List.set_cons_succ, Nat.reduceAdd, Nat.reduceDiv, Nat.reduceMod, Nat.reduceMul, Nat.reduceLT, Nat.reduceLeDiff, Int32.reduceOfInt, Int64.reduceOfInt, true_and, and_true, and_self, true_or, or_true, false_implies, true_implies, not_false_eq_true, not_true_eq_false, Value.category, Nat.reduceEqDiff, Option.toList, List.cons_append, List.nil_append, List.drop_succ_cons, List.drop_zero, ax_qq_eq, ax_t_1427]
    refine ax_inv_of (Nat.le_of_ble_eq_true rfl) (Nat.le_of_ble_eq_true rfl) (fun _ => rS_rcv hal S1 _) (fun h => absurd h (by decide)) (Nat.le_refl _) (Nat.le_refl _) (mk_takeNumber1 hal S1 f1 _ _ ?_)
    simp only [ax_W_cons, ax_I, ax_cmp, ax_ii, ax_ll, ax_li, ax_st1, ax_st2, ax_kl, ax_k2, ax_fit, ax_rtok, List.getElem?_cons_zero, List.getElem?_cons_succ, List.length_cons, List.length_nil, List.set_cons_zero, List.set_cons_succ, Nat.reduceAdd, Nat.reduceDiv, Nat.reduceMod, Nat.reduceMul, Nat.reduceLT, Nat.reduceLeDiff, Int32.reduceOfInt, Int64.reduceOfInt, true_and, and_true, and_self, true_or, or_true, false_implies, true_implies, not_false_eq_true, not_true_eq_false, Value.category, Nat.reduceEqDiff, Option.toList, List.cons_append, List.nil_append, List.drop_succ_cons, List.drop_zero, ax_qq_eq, ax_t_1427]
    exact h0 es1 1 a (fun g => by rw [zSgn, if_neg hk]) S1 f1 g1
theorem mk_takeAfter1 (hal : ax_al n = 178) (ht : zT_ok t) (h : rS es t c a fl v) (hf : rFl fl) {x : Nat} (hx : x < 24) (y z : Int32) (hQ : Q (some (.int 0)) es) : ax_Mt (d + 3) 1427 [.ref 159, .int (nI x), .int y, .int z] n sl es Q := by
  refine ax_Mt_go (m := ax_m_11_19) (ls := [some (.ref 159), some (.int (nI x)), some (.int y), some (.int z)]) rfl ax_b_1427_0 (Nat.le_of_ble_eq_true rfl) rfl ?_
  simp only [ax_W_cons, ax_I, ax_cmp, ax_ii, ax_ll, ax_li, ax_st1, ax_st2, ax_kl, ax_k2, ax_fit, ax_rtok, List.getElem?_cons_zero, List.getElem?_cons_succ, List.length_cons, List.length_nil, List.set_cons_zero, List.set_cons_succ, Nat.reduceAdd, Nat.reduceDiv, Nat.reduceMod, Nat.reduceMul, Nat.reduceLT, Nat.reduceLeDiff, Int32.reduceOfInt, Int64.reduceOfInt, true_and, and_true, and_self, true_or, or_true, false_implies, true_implies, not_false_eq_true, not_true_eq_false, Value.category, Nat.reduceEqDiff, Option.toList, List.cons_append, List.nil_append, List.drop_succ_cons, List.drop_zero, ax_qq_eq, ax_t_1427]
  refine ax_inv_of (Nat.le_of_ble_eq_true rfl) (Nat.le_of_ble_eq_true rfl) (fun _ => rS_rcv hal h _) (fun h => absurd h (by decide)) (Nat.le_refl _) (Nat.le_refl _) (mk_takeWord1 hal ht h hf hx ?_)
  simp only [ax_W_cons, ax_I, ax_cmp, ax_ii, ax_ll, ax_li, ax_st1, ax_st2, ax_kl, ax_k2, ax_fit, ax_rtok, List.getElem?_cons_zero, List.getElem?_cons_succ, List.length_cons, List.length_nil, List.set_cons_zero, List.set_cons_succ, Nat.reduceAdd, Nat.reduceDiv, Nat.reduceMod, Nat.reduceMul, Nat.reduceLT, Nat.reduceLeDiff, Int32.reduceOfInt, Int64.reduceOfInt, true_and, and_true, and_self, true_or, or_true, false_implies, true_implies, not_false_eq_true, not_true_eq_false, Value.category, Nat.reduceEqDiff, Option.toList, List.cons_append, List.nil_append, List.drop_succ_cons, List.drop_zero, ax_qq_eq, ax_t_1427]
  refine ax_inv_of (Nat.le_of_ble_eq_true rfl) (Nat.le_of_ble_eq_true rfl) (fun _ => rS_rcv hal h _) (fun h => absurd h (by decide)) (Nat.le_refl _) (Nat.le_refl _) (mk_takeNumber1 hal h hf _ _ ?_)
  simp only [ax_W_cons, ax_I, ax_cmp, ax_ii, ax_ll, ax_li, ax_st1, ax_st2, ax_kl, ax_k2, ax_fit, ax_rtok, List.getElem?_cons_zero, List.getElem?_cons_succ, List.length_cons, List.length_nil, List.set_cons_zero, List.set_cons_succ, Nat.reduceAdd, Nat.reduceDiv, Nat.reduceMod, Nat.reduceMul, Nat.reduceLT, Nat.reduceLeDiff, Int32.reduceOfInt, Int64.reduceOfInt, true_and, and_true, and_self, true_or, or_true, false_implies, true_implies, not_false_eq_true, not_true_eq_false, Value.category, Nat.reduceEqDiff, Option.toList, List.cons_append, List.nil_append, List.drop_succ_cons, List.drop_zero, ax_qq_eq, ax_t_1427]
  exact hQ
theorem mk_wordHere (hal : ax_al n = 178) (ht : zT_ok t) (h : rS es t c a fl v) {fr m : Nat} (hm : fr + m ≤ 24) (hQ : Q (some (.int (zWh fl (zkd t a) fr m))) es) : ax_Mt (d + 1) 1428 [.ref 159, .int (nI fr), .int (nI m)] n sl es Q := by
  have c10 : ¬ (1 : Int32) = 0 := by decide
  refine ax_Mt_go (m := ax_m_11_20) (ls := [some (.ref 159), some (.int (nI fr)), some (.int (nI m)), none, none]) rfl ax_b_1428_0 (Nat.le_of_ble_eq_true rfl) rfl ?_
  simp only [ax_W_cons, ax_I, ax_cmp, ax_ii, ax_ll, ax_li, ax_st1, ax_st2, ax_kl, ax_k2, ax_fit, ax_rtok, List.getElem?_cons_zero, List.getElem?_cons_succ, List.length_cons, List.length_nil, List.set_cons_zero, List.set_cons_succ, Nat.reduceAdd, Nat.reduceDiv, Nat.reduceMod, Nat.reduceMul, Nat.reduceLT, Nat.reduceLeDiff, Int32.reduceOfInt, Int64.reduceOfInt, true_and, and_true, and_self, true_or, or_true, false_implies, true_implies, not_false_eq_true, not_true_eq_false, Value.category, Nat.reduceEqDiff, Option.toList, List.cons_append, List.nil_append, List.drop_succ_cons, List.drop_zero, ax_qq_eq, ax_t_1428]
  rw [ax_n_1428_5]
  have L := kx_down (k := m) (I := fun f i => ax_W (d + 1) n sl 1428 [(2, .iload 4), (1, .iload 2), (3, .if_icmp .ge 35), (1, .aload 0), (1, .iload 1), (2, .iload 4), (1, .iadd), (3, .invokeinterface 1419 9), (3, .ifCond .eq 27), (2, .iload 4), (3, .goto 28)] 5 [some (.ref 159), some (.int (nI fr)), some (.int (nI m)), some (.int (zWh fl (zkd t a) fr i)), some (.int (nI i))] [] n sl es (ax_qq n sl Q)) ?_ ?_ m 0 (by omega)
  · have e : zWh fl (zkd t a) fr 0 = -1 := by
      unfold zWh
      rw [if_neg (by omega)]
    rw [e] at L
    exact L
  · have e0 := kx_nn (k := m) (by omega)
    simp only [ax_W_cons, ax_I, ax_cmp, ax_ii, ax_ll, ax_li, ax_st1, ax_st2, ax_kl, ax_k2, ax_fit, ax_rtok, List.getElem?_cons_zero, List.getElem?_cons_succ, List.length_cons, List.length_nil, List.set_cons_zero, List.set_cons_succ, Nat.reduceAdd, Nat.reduceDiv, Nat.reduceMod, Nat.reduceMul, Nat.reduceLT, Nat.reduceLeDiff, Int32.reduceOfInt, Int64.reduceOfInt, true_and, and_true, and_self, true_or, or_true, false_implies, true_implies, not_false_eq_true, not_true_eq_false, Value.category, Nat.reduceEqDiff, Option.toList, List.cons_append, List.nil_append, List.drop_succ_cons, List.drop_zero, ax_qq_eq, ax_t_1428, ax_j_1428_35, ax_n_1428_35, e0]
    exact hQ
  · intro f i hi ih
    have e0 : ¬ nI m ≤ nI i := nI_ge (by omega) (by omega)
    have i4 : nI i + 1 = nI (i + 1) := (nI_succ i).symm
    have i5 : nI fr + nI i = nI (fr + i) := kn_add _ _
    simp only [ax_W_cons, ax_I, ax_cmp, ax_ii, ax_ll, ax_li, ax_st1, ax_st2, ax_kl, ax_k2, ax_fit, ax_rtok, List.getElem?_cons_zero, List.getElem?_cons_succ, List.length_cons, List.length_nil, List.set_cons_zero, List.set_cons_succ, Nat.reduceAdd, Nat.reduceDiv, Nat.reduceMod, Nat.reduceMul, Nat.reduceLT, Nat.reduceLeDiff, Int32.reduceOfInt, Int64.reduceOfInt, true_and, and_true, and_self, true_or, or_true, false_implies, true_implies, not_false_eq_true, not_true_eq_false, Value.category, Nat.reduceEqDiff, Option.toList, List.cons_append, List.nil_append, List.drop_succ_cons, List.drop_zero, ax_qq_eq, ax_t_1428, e0, i5]
    refine ax_inv_of (Nat.le_of_ble_eq_true rfl) (Nat.le_of_ble_eq_true rfl) (fun _ => rS_rcv hal h _) (fun h => absurd h (by decide)) (Nat.le_refl _) (Nat.le_refl _) (mk_isWord hal ht h (by omega) ?_)
    by_cases hk : fl = 0 ∧ zkd t a = fr + i
    · rw [decide_eq_true hk]
      have e : zWh fl (zkd t a) fr (i + 1) = nI i := by
        unfold zWh
        rw [if_pos ⟨hk.1, by omega, by omega⟩]
        congr 1
        omega
      rw [e] at ih
      simp only [ax_W_cons, ax_I, ax_cmp, ax_ii, ax_ll, ax_li, ax_st1, ax_st2, ax_kl, ax_k2, ax_fit, ax_rtok, List.getElem?_cons_zero, List.getElem?_cons_succ, List.length_cons, List.length_nil, List.set_cons_zero, List.set_cons_succ, Nat.reduceAdd, Nat.reduceDiv, Nat.reduceMod, Nat.reduceMul, Nat.reduceLT, Nat.reduceLeDiff, Int32.reduceOfInt, Int64.reduceOfInt, true_and, and_true, and_self, true_or, or_true, false_implies, true_implies, not_false_eq_true, not_true_eq_false, Value.category, Nat.reduceEqDiff, Option.toList, List.cons_append, List.nil_append, List.drop_succ_cons, List.drop_zero, ax_qq_eq, ax_t_1428, ax_j_1428_28, ax_n_1428_28, kx_bt, c10, i4]
      rw [ax_j_1428_5]
      exact ih
    · rw [decide_eq_false hk]
      have e : zWh fl (zkd t a) fr (i + 1) = zWh fl (zkd t a) fr i := by
        unfold zWh
        by_cases h2 : fl = 0 ∧ fr ≤ zkd t a ∧ zkd t a < fr + i
        · rw [if_pos h2, if_pos ⟨h2.1, h2.2.1, by omega⟩]
        · rw [if_neg h2, if_neg (fun z => by
            by_cases e3 : zkd t a = fr + i
            · exact hk ⟨z.1, e3⟩
            · exact h2 ⟨z.1, z.2.1, by omega⟩)]
      rw [e] at ih
      simp only [ax_W_cons, ax_I, ax_cmp, ax_ii, ax_ll, ax_li, ax_st1, ax_st2, ax_kl, ax_k2, ax_fit, ax_rtok, List.getElem?_cons_zero, List.getElem?_cons_succ, List.length_cons, List.length_nil, List.set_cons_zero, List.set_cons_succ, Nat.reduceAdd, Nat.reduceDiv, Nat.reduceMod, Nat.reduceMul, Nat.reduceLT, Nat.reduceLeDiff, Int32.reduceOfInt, Int64.reduceOfInt, true_and, and_true, and_self, true_or, or_true, false_implies, true_implies, not_false_eq_true, not_true_eq_false, Value.category, Nat.reduceEqDiff, Option.toList, List.cons_append, List.nil_append, List.drop_succ_cons, List.drop_zero, ax_qq_eq, ax_t_1428, ax_j_1428_27, ax_n_1428_27, ax_j_1428_28, ax_n_1428_28, kx_bf, i4]
      rw [ax_j_1428_5]
      exact ih
theorem zWh_in {k fr m : Nat} (h1 : fr ≤ k) (h2 : k < fr + m) : zWh 0 k fr m = nI (k - fr) := by
  unfold zWh
  rw [if_pos ⟨rfl, h1, h2⟩]
theorem zWh_out {fl : Int32} {k fr m : Nat} (h : ¬ (fl = 0 ∧ fr ≤ k ∧ k < fr + m)) : zWh fl k fr m = -1 := by
  unfold zWh
  rw [if_neg h]
theorem mk_takeOne0 (hal : ax_al n = 178) (ht : zT_ok t) (h : rS es t c a 0 v) {fr m : Nat} (hm : fr + m ≤ 24) (h1 : ∀ es', (fr ≤ zkd t a ∧ zkd t a < fr + m) → rS es' t c (a + 1) 0 v → (∀ j, j ≠ 159 → es' j = es j) → Q (some (.int (nI (zkd t a - fr)))) es') (h0 : ∀ es', ¬ (fr ≤ zkd t a ∧ zkd t a < fr + m) → rS es' t c a (nI (1 + 16 * zpl t a)) v → rFl (nI (1 + 16 * zpl t a)) → (∀ j, j ≠ 159 → es' j = es j) → Q (some (.int 0)) es') : ax_Mt (d + 2) 1429 [.ref 159, .int (nI fr), .int (nI m)] n sl es Q := by
  have w0 : es 159 = _ := h.1
  have c00 : (0 : Int32) ≤ 0 := by decide
  have a4 : nI a + 1 = nI (a + 1) := (nI_succ a).symm
  have a5 : nI a + 0 = nI a := Int32.add_zero _
  refine ax_Mt_go (m := ax_m_11_21) (ls := [some (.ref 159), some (.int (nI fr)), some (.int (nI m)), none]) rfl ax_b_1429_0 (Nat.le_of_ble_eq_true rfl) rfl ?_
  simp only [ax_W_cons, ax_I, ax_cmp, ax_ii, ax_ll, ax_li, ax_st1, ax_st2, ax_kl, ax_k2, ax_fit, ax_rtok, List.getElem?_cons_zero, List.getElem?_cons_succ, List.length_cons, List.length_nil, List.set_cons_zero, List.set_cons_succ, Nat.reduceAdd, Nat.reduceDiv, Nat.reduceMod, Nat.reduceMul, Nat.reduceLT, Nat.reduceLeDiff, Int32.reduceOfInt, Int64.reduceOfInt, true_and, and_true, and_self, true_or, or_true, false_implies, true_implies, not_false_eq_true, not_true_eq_false, Value.category, Nat.reduceEqDiff, Option.toList, List.cons_append, List.nil_append, List.drop_succ_cons, List.drop_zero, ax_qq_eq, ax_t_1429, ax_j_1429_11, ax_n_1429_11, w0, mo_f, hal, c00]
  refine ax_inv_of (Nat.le_of_ble_eq_true rfl) (Nat.le_of_ble_eq_true rfl) (fun _ => rS_rcv hal h _) (fun h => absurd h (by decide)) (Nat.le_refl _) (Nat.le_refl _) (mk_wordHere hal ht h hm ?_)
  by_cases hk : fr ≤ zkd t a ∧ zkd t a < fr + m
  · rw [zWh_in hk.1 hk.2]
    have e1 : (0 : Int32) ≤ nI (zkd t a - fr) := nI_le (a := 0) (Nat.zero_le _) (by have := zkd_lt t a; omega)
    simp only [ax_W_cons, ax_I, ax_cmp, ax_ii, ax_ll, ax_li, ax_st1, ax_st2, ax_kl, ax_k2, ax_fit, ax_rtok, List.getElem?_cons_zero, List.getElem?_cons_succ, List.length_cons, List.length_nil, List.set_cons_zero, List.set_cons_succ, Nat.reduceAdd, Nat.reduceDiv, Nat.reduceMod, Nat.reduceMul, Nat.reduceLT, Nat.reduceLeDiff, Int32.reduceOfInt, Int64.reduceOfInt, true_and, and_true, and_self, true_or, or_true, false_implies, true_implies, not_false_eq_true, not_true_eq_false, Value.category, Nat.reduceEqDiff, Option.toList, List.cons_append, List.nil_append, List.drop_succ_cons, List.drop_zero, ax_qq_eq, ax_t_1429, ax_j_1429_17, ax_n_1429_17, ax_j_1429_34, ax_n_1429_34, ax_j_1429_50, ax_n_1429_50, ax_j_1429_51, ax_n_1429_51, ax_j_1429_66, ax_n_1429_66, ax_j_1429_67, ax_n_1429_67, w0, mo_f, hal, c00, e1, a4, ax_up_same]
    exact h1 _ hk (rS_up h (ax_up_same ..) (fun j hj _ => ax_up_ne _ _ hj) (zpre_s h.2.2.2 (by omega))) (fun j hj => ax_up_ne _ _ hj)
  · rw [zWh_out (fun z => hk z.2)]
    have e1 : ¬ (0 : Int32) ≤ -1 := by decide
    simp only [ax_W_cons, ax_I, ax_cmp, ax_ii, ax_ll, ax_li, ax_st1, ax_st2, ax_kl, ax_k2, ax_fit, ax_rtok, List.getElem?_cons_zero, List.getElem?_cons_succ, List.length_cons, List.length_nil, List.set_cons_zero, List.set_cons_succ, Nat.reduceAdd, Nat.reduceDiv, Nat.reduceMod, Nat.reduceMul, Nat.reduceLT, Nat.reduceLeDiff, Int32.reduceOfInt, Int64.reduceOfInt, true_and, and_true, and_self, true_or, or_true, false_implies, true_implies, not_false_eq_true, not_true_eq_false, Value.category, Nat.reduceEqDiff, Option.toList, List.cons_append, List.nil_append, List.drop_succ_cons, List.drop_zero, ax_qq_eq, ax_t_1429, ax_j_1429_17, ax_n_1429_17, w0, mo_f, hal, e1]
    refine ax_inv_of (Nat.le_of_ble_eq_true rfl) (Nat.le_of_ble_eq_true rfl) (fun _ => rS_rcv hal h _) (fun h => absurd h (by decide)) (Nat.le_refl _) (Nat.le_refl _) (mk_wrong0 (k := 1) hal ht h (by decide) (by decide) ?_)
    intro es1 S1 f1 g1
    have v0 : es1 159 = _ := S1.1
    have f2 := f1.2
    have h0 := h0 es1 hk S1 f1 g1
    rw [← rup_id v0] at h0
    simp only [ax_W_cons, ax_I, ax_cmp, ax_ii, ax_ll, ax_li, ax_st1, ax_st2, ax_kl, ax_k2, ax_fit, ax_rtok, List.getElem?_cons_zero, List.getElem?_cons_succ, List.length_cons, List.length_nil, List.set_cons_zero, List.set_cons_succ, Nat.reduceAdd, Nat.reduceDiv, Nat.reduceMod, Nat.reduceMul, Nat.reduceLT, Nat.reduceLeDiff, Int32.reduceOfInt, Int64.reduceOfInt, true_and, and_true, and_self, true_or, or_true, false_implies, true_implies, not_false_eq_true, not_true_eq_false, Value.category, Nat.reduceEqDiff, Option.toList, List.cons_append, List.nil_append, List.drop_succ_cons, List.drop_zero, ax_qq_eq, ax_t_1429, ax_j_1429_34, ax_n_1429_34, ax_j_1429_51, ax_n_1429_51, ax_j_1429_67, ax_n_1429_67, v0, mo_f, hal, f2, a5, ax_up_same]
    exact h0
theorem mk_takeOne1 (hal : ax_al n = 178) (h : rS es t c a fl v) (hf : rFl fl) (x y : Int32) (hQ : Q (some (.int 0)) es) : ax_Mt (d + 2) 1429 [.ref 159, .int x, .int y] n sl es Q := by
  have w0 : es 159 = _ := h.1
  have f1 := hf.1
  have f2 := hf.2
  have a5 : nI a + 0 = nI a := Int32.add_zero _
  rw [← rup_id w0] at hQ
  refine ax_Mt_go (m := ax_m_11_21) (ls := [some (.ref 159), some (.int x), some (.int y), none]) rfl ax_b_1429_0 (Nat.le_of_ble_eq_true rfl) rfl ?_
  simp only [ax_W_cons, ax_I, ax_cmp, ax_ii, ax_ll, ax_li, ax_st1, ax_st2, ax_kl, ax_k2, ax_fit, ax_rtok, List.getElem?_cons_zero, List.getElem?_cons_succ, List.length_cons, List.length_nil, List.set_cons_zero, List.set_cons_succ, Nat.reduceAdd, Nat.reduceDiv, Nat.reduceMod, Nat.reduceMul, Nat.reduceLT, Nat.reduceLeDiff, Int32.reduceOfInt, Int64.reduceOfInt, true_and, and_true, and_self, true_or, or_true, false_implies, true_implies, not_false_eq_true, not_true_eq_false, Value.category, Nat.reduceEqDiff, Option.toList, List.cons_append, List.nil_append, List.drop_succ_cons, List.drop_zero, ax_qq_eq, ax_t_1429, ax_j_1429_17, ax_n_1429_17, ax_j_1429_34, ax_n_1429_34, ax_j_1429_51, ax_n_1429_51, ax_j_1429_67, ax_n_1429_67, w0, mo_f, hal, f1, f2, a5, ax_up_same]
  exact hQ
theorem mk_isName (hal : ax_al n = 178) (ht : zT_ok t) (h : rS es t c a fl v) (hQ : Q (some (.int (kx_b (decide (fl = 0 ∧ zName t a))))) es) : ax_Mt (d + 2) 1430 [.ref 159] n sl es Q := by
  obtain ⟨so, pl, va, w1, w2, w3, ⟨b1, b2, b3, b4, b5⟩, a1, a2, ha⟩ := rS_get ht h
  have w0 : es 159 = _ := h.1
  have n0 : ((0 : Int32) = 0 ∨ (0 : Int32) = 1) := Or.inl rfl
  have n1 : ((1 : Int32) = 0 ∨ (1 : Int32) = 1) := Or.inr rfl
  refine ax_Mt_go (m := ax_m_11_22) (ls := [some (.ref 159)]) rfl ax_b_1430_0 (Nat.le_of_ble_eq_true rfl) rfl ?_
  by_cases hf : fl = 0
  · by_cases h3 : zkd t a ≤ 24
    · have z3 : so a = 1 := b1.trans (by rw [zsrt_1]; exact h3)
      simp only [ax_W_cons, ax_I, ax_cmp, ax_ii, ax_ll, ax_li, ax_st1, ax_st2, ax_kl, ax_k2, ax_fit, ax_rtok, List.getElem?_cons_zero, List.getElem?_cons_succ, List.length_cons, List.length_nil, List.set_cons_zero, List.set_cons_succ, Nat.reduceAdd, Nat.reduceDiv, Nat.reduceMod, Nat.reduceMul, Nat.reduceLT, Nat.reduceLeDiff, Int32.reduceOfInt, Int64.reduceOfInt, true_and, and_true, and_self, true_or, or_true, false_implies, true_implies, not_false_eq_true, not_true_eq_false, Value.category, Nat.reduceEqDiff, Option.toList, List.cons_append, List.nil_append, List.drop_succ_cons, List.drop_zero, ax_qq_eq, ax_t_1430, w0, w1, mo_f, hal, hf, a1, a2, z3]
      refine ax_inv_of (Nat.le_of_ble_eq_true rfl) (Nat.le_of_ble_eq_true rfl) (fun _ => rS_rcv hal h _) (fun h => absurd h (by decide)) (Nat.le_refl _) (Nat.le_refl _) (mk_wordHere (fr := 0) (m := 20) hal ht h (by decide) ?_)
      by_cases hk : zkd t a < 20
      · have hN : ¬ (fl = 0 ∧ zName t a) := fun z => by
          rcases z.2 with z | z
          · omega
          · omega
        rw [decide_eq_false hN] at hQ
        rw [hf, zWh_in (Nat.zero_le _) (by omega)]
        have e1 : (0 : Int32) ≤ nI (zkd t a - 0) := nI_le (a := 0) (Nat.zero_le _) (by omega)
        simp only [ax_W_cons, ax_I, ax_cmp, ax_ii, ax_ll, ax_li, ax_st1, ax_st2, ax_kl, ax_k2, ax_fit, ax_rtok, List.getElem?_cons_zero, List.getElem?_cons_succ, List.length_cons, List.length_nil, List.set_cons_zero, List.set_cons_succ, Nat.reduceAdd, Nat.reduceDiv, Nat.reduceMod, Nat.reduceMul, Nat.reduceLT, Nat.reduceLeDiff, Int32.reduceOfInt, Int64.reduceOfInt, true_and, and_true, and_self, true_or, or_true, false_implies, true_implies, not_false_eq_true, not_true_eq_false, Value.category, Nat.reduceEqDiff, Option.toList, List.cons_append, List.nil_append, List.drop_succ_cons, List.drop_zero, ax_qq_eq, ax_t_1430, ax_j_1430_34, ax_n_1430_34, ax_j_1430_35, ax_n_1430_35, e1]
        exact hQ
      · have hN : fl = 0 ∧ zName t a := ⟨hf, by
          by_cases e : zkd t a = 24
          · exact Or.inl e
          · exact Or.inr ⟨by omega, by omega⟩⟩
        rw [decide_eq_true hN] at hQ
        rw [zWh_out (fun z => by omega)]
        have e1 : ¬ (0 : Int32) ≤ -1 := by decide
        simp only [ax_W_cons, ax_I, ax_cmp, ax_ii, ax_ll, ax_li, ax_st1, ax_st2, ax_kl, ax_k2, ax_fit, ax_rtok, List.getElem?_cons_zero, List.getElem?_cons_succ, List.length_cons, List.length_nil, List.set_cons_zero, List.set_cons_succ, Nat.reduceAdd, Nat.reduceDiv, Nat.reduceMod, Nat.reduceMul, Nat.reduceLT, Nat.reduceLeDiff, Int32.reduceOfInt, Int64.reduceOfInt, true_and, and_true, and_self, true_or, or_true, false_implies, true_implies, not_false_eq_true, not_true_eq_false, Value.category, Nat.reduceEqDiff, Option.toList, List.cons_append, List.nil_append, List.drop_succ_cons, List.drop_zero, ax_qq_eq, ax_t_1430, ax_j_1430_35, ax_n_1430_35, e1]
        exact hQ
    · have hN : ¬ (fl = 0 ∧ zName t a) := fun z => by
        rcases z.2 with z | z
        · omega
        · omega
      rw [decide_eq_false hN] at hQ
      have z3 : ¬ so a = 1 := by rw [b1, zsrt_1]; exact h3
      simp only [ax_W_cons, ax_I, ax_cmp, ax_ii, ax_ll, ax_li, ax_st1, ax_st2, ax_kl, ax_k2, ax_fit, ax_rtok, List.getElem?_cons_zero, List.getElem?_cons_succ, List.length_cons, List.length_nil, List.set_cons_zero, List.set_cons_succ, Nat.reduceAdd, Nat.reduceDiv, Nat.reduceMod, Nat.reduceMul, Nat.reduceLT, Nat.reduceLeDiff, Int32.reduceOfInt, Int64.reduceOfInt, true_and, and_true, and_self, true_or, or_true, false_implies, true_implies, not_false_eq_true, not_true_eq_false, Value.category, Nat.reduceEqDiff, Option.toList, List.cons_append, List.nil_append, List.drop_succ_cons, List.drop_zero, ax_qq_eq, ax_t_1430, ax_j_1430_34, ax_n_1430_34, ax_j_1430_35, ax_n_1430_35, w0, w1, mo_f, hal, hf, a1, a2, z3]
      exact hQ
  · rw [decide_eq_false (fun z => hf z.1)] at hQ
    simp only [ax_W_cons, ax_I, ax_cmp, ax_ii, ax_ll, ax_li, ax_st1, ax_st2, ax_kl, ax_k2, ax_fit, ax_rtok, List.getElem?_cons_zero, List.getElem?_cons_succ, List.length_cons, List.length_nil, List.set_cons_zero, List.set_cons_succ, Nat.reduceAdd, Nat.reduceDiv, Nat.reduceMod, Nat.reduceMul, Nat.reduceLT, Nat.reduceLeDiff, Int32.reduceOfInt, Int64.reduceOfInt, true_and, and_true, and_self, true_or, or_true, false_implies, true_implies, not_false_eq_true, not_true_eq_false, Value.category, Nat.reduceEqDiff, Option.toList, List.cons_append, List.nil_append, List.drop_succ_cons, List.drop_zero, ax_qq_eq, ax_t_1430, ax_j_1430_34, ax_n_1430_34, ax_j_1430_35, ax_n_1430_35, w0, mo_f, hal, hf]
    exact hQ
end TT
