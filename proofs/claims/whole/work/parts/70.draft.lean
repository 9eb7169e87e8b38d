/-! the class: the draft of a court -/
def xDh (es : ax_H) (k p hc on : Int32) (kd pl ht : Nat → Int32) (nm : Nat → Int64) (hs code : Nat → Int32) (f5 e5 f6 e6 : Int32) : Prop := es 21 = .inr (1, [.int k, .int p, .ref 22, .ref 23, .ref 24, .ref 25, .ref 26, .int hc, .ref 27, .ref 28, .ref 31, .int on]) ∧ es 22 = .inl (0, 6, .inl kd) ∧ es 23 = .inl (0, 6, .inl pl) ∧ es 24 = .inl (0, 6, .inl ht) ∧ es 25 = .inl (3, 6, .inr (.inl nm)) ∧ es 26 = .inl (0, 12, .inl hs) ∧ es 27 = .inl (0, 1000, .inl code) ∧ es 28 = .inr (3, [.ref 27, .ref 29, .ref 30, .int f5, .int e5]) ∧ es 31 = .inr (3, [.ref 27, .ref 32, .ref 33, .int f6, .int e6])
def xDs (es : ax_H) : Prop := ∃ k p hc on kd pl ht nm hs code f5 e5 f6 e6, xDh es k p hc on kd pl ht nm hs code f5 e5 f6 e6
def xRd (es : ax_H) : Prop := ∃ v h, es 20 = .inr (6, [.ref 1, .ref 3, .ref 21, .ref 34, v, .int h])
def zC0 : zCr := (0, 0, 0, [])
/-- what stands in the rows is what was read -/
def zDr (d : zDf) (kd pl ht : Nat → Int32) (nm : Nat → Int64) (hs code : Nat → Int32) (f5 f6 lim : Nat) : Prop := (d.2.1.length ≤ 6 ∧ d.2.2.1.length ≤ 12) ∧ (∀ i, i < d.2.1.length → kd i = nI (d.2.1.getD i zC0).1 ∧ pl i = nI (d.2.1.getD i zC0).2.1 ∧ ht i = nI (d.2.1.getD i zC0).2.2.1 ∧ nm i = nL (zv256 (d.2.1.getD i zC0).2.2.2) ∧ zWd (d.2.1.getD i zC0).2.2.2) ∧ (∀ i, i < d.2.2.1.length → hs i = nI (d.2.2.1.getD i 0)) ∧ (∀ i, i < d.2.2.2.2.1.length → code (f5 + i) = d.2.2.2.2.1.getD i 0) ∧ (∀ i, i < d.2.2.2.2.2.length → code (f6 + i) = d.2.2.2.2.2.getD i 0) ∧ f5 + d.2.2.2.2.1.length ≤ lim ∧ f6 + d.2.2.2.2.2.length ≤ lim
def xDr (es : ax_H) (d : zDf) (lim : Nat) : Prop := ∃ kd pl ht nm hs code f5 f6, xDh es (nI d.1) (nI d.2.1.length) (nI d.2.2.1.length) (zoI d.2.2.2.1) kd pl ht nm hs code (nI f5) (nI (f5 + d.2.2.2.2.1.length)) (nI f6) (nI (f6 + d.2.2.2.2.2.length)) ∧ zDr d kd pl ht nm hs code f5 f6 lim
theorem xDr_s {es : ax_H} {d : zDf} {lim : Nat} (h : xDr es d lim) : xDs es := by
  obtain ⟨kd, pl, ht, nm, hs, code, f5, f6, h1, -⟩ := h
  exact ⟨_, _, _, _, _, _, _, _, _, _, _, _, _, _, h1⟩
theorem xDh_fr {es es' : ax_H} {k p hc on : Int32} {kd pl ht : Nat → Int32} {nm : Nat → Int64} {hs code : Nat → Int32} {f5 e5 f6 e6 : Int32} (h : xDh es k p hc on kd pl ht nm hs code f5 e5 f6 e6) (hf : ∀ j, 21 ≤ j → j ≤ 31 → es' j = es j) : xDh es' k p hc on kd pl ht nm hs code f5 e5 f6 e6 := by
  obtain ⟨h1, h2, h3, h4, h5, h6, h7, h8, h9⟩ := h
  exact ⟨(hf 21 (by decide) (by decide)).trans h1, (hf 22 (by decide) (by decide)).trans h2, (hf 23 (by decide) (by decide)).trans h3, (hf 24 (by decide) (by decide)).trans h4, (hf 25 (by decide) (by decide)).trans h5, (hf 26 (by decide) (by decide)).trans h6, (hf 27 (by decide) (by decide)).trans h7, (hf 28 (by decide) (by decide)).trans h8, (hf 31 (by decide) (by decide)).trans h9⟩
theorem xDr_fr {es es' : ax_H} {d : zDf} {lim : Nat} (h : xDr es d lim) (hf : ∀ j, 21 ≤ j → j ≤ 31 → es' j = es j) : xDr es' d lim := by
  obtain ⟨kd, pl, ht, nm, hs, code, f5, f6, h1, h2⟩ := h
  exact ⟨kd, pl, ht, nm, hs, code, f5, f6, xDh_fr h1 hf, h2⟩
theorem zFnd_nil (w : List Nat) (i : Nat) : zFnd [] w i = none := by
  unfold zFnd
  rfl
theorem zFnd_cons (c : zCr) (cs : List zCr) (w : List Nat) (i : Nat) : zFnd (c :: cs) w i = if c.2.2.2 = w then some i else zFnd cs w (i + 1) := by
  rw [zFnd]
def zFi (o : Option Nat) : Int32 := match o with
  | none => -1
  | some i => nI i
section TT
variable {d n sl : Nat} {es : ax_H} {t : zTp} {Q : Option Value → ax_H → Prop}
/-- the name sought, in the draft or in what is told -/
theorem ck_find (hal : ax_al n = 178) {q v : Nat} {cs : List zCr} {nm : Nat → Int64} {k : Int32} {r2 r3 r4 : Value} {fs : List Value} {w : List Nat} (hq : q < 178) (hv : v < 178) (h1 : es q = .inr (1, .int k :: .int (nI cs.length) :: r2 :: r3 :: r4 :: .ref v :: fs)) (h2 : es v = .inl (3, 6, .inr (.inl nm))) (hp : cs.length ≤ 6) (hw : zWd w) (hn : ∀ i, i < cs.length → nm i = nL (zv256 (cs.getD i zC0).2.2.2) ∧ zWd (cs.getD i zC0).2.2.2) (hQ : Q (some (.int (zFi (zFnd cs w 0)))) es) : ax_Mt d 135 [.ref q, .long (nL (zv256 w))] n sl es Q := by
  refine ax_Mt_go (m := ax_m_1_7) (ls := [some (.ref q), some (.long (nL (zv256 w))), none, none]) rfl ax_b_135_0 (Nat.le_of_ble_eq_true rfl) rfl ?_
  simp only [ax_W_cons, ax_I, ax_cmp, ax_ii, ax_ll, ax_li, ax_st1, ax_st2, ax_kl, ax_k2, ax_fit, ax_rtok, List.getElem?_cons_zero, List.getElem?_cons_succ, List.length_cons, List.length_nil, List.set_cons_zero, List.set_cons_succ, Nat.reduceAdd, Nat.reduceDiv, Nat.reduceMod, Nat.reduceMul, Nat.reduceLT, Nat.reduceLeDiff, Int32.reduceOfInt, Int64.reduceOfInt, true_and, and_true, and_self, true_or, or_true, false_implies, true_implies, not_false_eq_true, not_true_eq_false, Value.category, Nat.reduceEqDiff, Option.toList, List.cons_append, List.nil_append, List.drop_succ_cons, List.drop_zero, ax_qq_eq, ax_t_135, hal]
  rw [ax_n_135_2]
  have L := kx_down (k := cs.length) (I := fun f i => zFnd (cs.drop i) w i = zFnd cs w 0 → ax_W (d) n sl 135 [(1, .iload 3), (1, .aload 0), (3, .getfield 260), (3, .if_icmp .ge 29), (1, .aload 0), (3, .getfield 278), (1, .iload 3), (1, .laload), (1, .lload 1), (1, .lcmp), (3, .ifCond .ne 23), (1, .iload 3), (1, .ireturn)] 2 [some (.ref q), some (.long (nL (zv256 w))), none, some (.int (nI i))] [] n sl es (ax_qq n sl Q)) ?_ ?_ cs.length 0 (by omega)
  · exact L rfl
  · intro hz
    have e0 := kx_nn (k := cs.length) (by omega)
    rw [List.drop_length, zFnd_nil] at hz
    rw [← hz] at hQ
    simp only [ax_W_cons, ax_I, ax_cmp, ax_ii, ax_ll, ax_li, ax_st1, ax_st2, ax_kl, ax_k2, ax_fit, ax_rtok, List.getElem?_cons_zero, List.getElem?_cons_succ, List.length_cons, List.length_nil, List.set_cons_zero, List.set_cons_succ, Nat.reduceAdd, Nat.reduceDiv, Nat.reduceMod, Nat.reduceMul, Nat.reduceLT, Nat.reduceLeDiff, Int32.reduceOfInt, Int64.reduceOfInt, true_and, and_true, and_self, true_or, or_true, false_implies, true_implies, not_false_eq_true, not_true_eq_false, Value.category, Nat.reduceEqDiff, Option.toList, List.cons_append, List.nil_append, List.drop_succ_cons, List.drop_zero, ax_qq_eq, ax_t_135, ax_j_135_29, ax_n_135_29, h1, hal, hq, e0]
    exact hQ
  · intro f i hi ih hz
    have e0 : ¬ nI cs.length ≤ nI i := nI_ge (by omega) (by omega)
    have i4 : nI i + 1 = nI (i + 1) := (nI_succ i).symm
    have i1 : vp_in (nI i) 6 := nI_in (by omega) (by decide)
    have i2 : (nI i).toNatClampNeg = i := nI_clamp (by omega)
    have hil : i < cs.length := by omega
    obtain ⟨n1, n2⟩ := hn i hil
    have hg : cs.getD i zC0 = cs[i] := by
      rw [List.getD_eq_getElem?_getD, List.getElem?_eq_getElem hil]
      rfl
    rw [List.drop_eq_getElem_cons hil, zFnd_cons, ← hg] at hz
    simp only [ax_W_cons, ax_I, ax_cmp, ax_ii, ax_ll, ax_li, ax_st1, ax_st2, ax_kl, ax_k2, ax_fit, ax_rtok, List.getElem?_cons_zero, List.getElem?_cons_succ, List.length_cons, List.length_nil, List.set_cons_zero, List.set_cons_succ, Nat.reduceAdd, Nat.reduceDiv, Nat.reduceMod, Nat.reduceMul, Nat.reduceLT, Nat.reduceLeDiff, Int32.reduceOfInt, Int64.reduceOfInt, true_and, and_true, and_self, true_or, or_true, false_implies, true_implies, not_false_eq_true, not_true_eq_false, Value.category, Nat.reduceEqDiff, Option.toList, List.cons_append, List.nil_append, List.drop_succ_cons, List.drop_zero, ax_qq_eq, ax_t_135, h1, h2, hal, hq, hv, e0, i1, i2, n1]
    have hc : (lg_cmp (nL (zv256 (cs.getD i zC0).2.2.2)) (nL (zv256 w)) = 0) = ((cs.getD i zC0).2.2.2 = w) := by
      refine propext ⟨fun z => ?_, fun z => ?_⟩
      · rw [zcmp0] at z
        exact zv256_inj _ _ n2.2 hw.2 (nL_inj (zv256_63 n2) (zv256_63 hw) z)
      · rw [zcmp0, z]
    rw [hc]
    refine ⟨fun h5 => ?_, fun h5 => ?_⟩
    · rw [if_neg h5] at hz
      simp only [ax_W_cons, ax_I, ax_cmp, ax_ii, ax_ll, ax_li, ax_st1, ax_st2, ax_kl, ax_k2, ax_fit, ax_rtok, List.getElem?_cons_zero, List.getElem?_cons_succ, List.length_cons, List.length_nil, List.set_cons_zero, List.set_cons_succ, Nat.reduceAdd, Nat.reduceDiv, Nat.reduceMod, Nat.reduceMul, Nat.reduceLT, Nat.reduceLeDiff, Int32.reduceOfInt, Int64.reduceOfInt, true_and, and_true, and_self, true_or, or_true, false_implies, true_implies, not_false_eq_true, not_true_eq_false, Value.category, Nat.reduceEqDiff, Option.toList, List.cons_append, List.nil_append, List.drop_succ_cons, List.drop_zero, ax_qq_eq, ax_t_135, ax_j_135_23, ax_n_135_23, i4]
      rw [ax_j_135_2]
      exact ih hz
    · rw [if_pos (Classical.not_not.mp h5)] at hz
      rw [← hz] at hQ
      exact hQ
theorem ck_isToldOnce (hal : ax_al n = 178) {o : zO} {k : Nat} (hk : zok k) {v0 v1 v2 v3 v4 v5 v6 v7 v8 v9 v10 : Value} (h1 : es 21 = .inr (1, [v0, v1, v2, v3, v4, v5, v6, v7, v8, v9, v10, .int (zoI o)])) (hQ : Q (some (.int (kx_b (zon o k)))) es) : ax_Mt d 130 [.ref 21, .int (nI k)] n sl es Q := by
  have e := zoI_on o hk
  refine ax_Mt_go (m := ax_m_1_2) (ls := [some (.ref 21), some (.int (nI k))]) rfl ax_b_130_0 (Nat.le_of_ble_eq_true rfl) rfl ?_
  simp only [ax_W_cons, ax_I, ax_cmp, ax_ii, ax_ll, ax_li, ax_st1, ax_st2, ax_kl, ax_k2, ax_fit, ax_rtok, List.getElem?_cons_zero, List.getElem?_cons_succ, List.length_cons, List.length_nil, List.set_cons_zero, List.set_cons_succ, Nat.reduceAdd, Nat.reduceDiv, Nat.reduceMod, Nat.reduceMul, Nat.reduceLT, Nat.reduceLeDiff, Int32.reduceOfInt, Int64.reduceOfInt, true_and, and_true, and_self, true_or, or_true, false_implies, true_implies, not_false_eq_true, not_true_eq_false, Value.category, Nat.reduceEqDiff, Option.toList, List.cons_append, List.nil_append, List.drop_succ_cons, List.drop_zero, ax_qq_eq, ax_t_130, h1, hal]
  rw [e]
  cases hz : zon o k
  · rw [hz] at hQ
    refine ⟨fun _ => ?_, fun h => absurd rfl h⟩
    simp only [ax_W_cons, ax_I, ax_cmp, ax_ii, ax_ll, ax_li, ax_st1, ax_st2, ax_kl, ax_k2, ax_fit, ax_rtok, List.getElem?_cons_zero, List.getElem?_cons_succ, List.length_cons, List.length_nil, List.set_cons_zero, List.set_cons_succ, Nat.reduceAdd, Nat.reduceDiv, Nat.reduceMod, Nat.reduceMul, Nat.reduceLT, Nat.reduceLeDiff, Int32.reduceOfInt, Int64.reduceOfInt, true_and, and_true, and_self, true_or, or_true, false_implies, true_implies, not_false_eq_true, not_true_eq_false, Value.category, Nat.reduceEqDiff, Option.toList, List.cons_append, List.nil_append, List.drop_succ_cons, List.drop_zero, ax_qq_eq, ax_t_130, ax_j_130_15, ax_n_130_15, ax_j_130_16, ax_n_130_16]
    exact hQ
  · rw [hz] at hQ
    refine ⟨fun h => Bool.noConfusion h, fun _ => ?_⟩
    simp only [ax_W_cons, ax_I, ax_cmp, ax_ii, ax_ll, ax_li, ax_st1, ax_st2, ax_kl, ax_k2, ax_fit, ax_rtok, List.getElem?_cons_zero, List.getElem?_cons_succ, List.length_cons, List.length_nil, List.set_cons_zero, List.set_cons_succ, Nat.reduceAdd, Nat.reduceDiv, Nat.reduceMod, Nat.reduceMul, Nat.reduceLT, Nat.reduceLeDiff, Int32.reduceOfInt, Int64.reduceOfInt, true_and, and_true, and_self, true_or, or_true, false_implies, true_implies, not_false_eq_true, not_true_eq_false, Value.category, Nat.reduceEqDiff, Option.toList, List.cons_append, List.nil_append, List.drop_succ_cons, List.drop_zero, ax_qq_eq, ax_t_130, ax_j_130_15, ax_n_130_15, ax_j_130_16, ax_n_130_16]
    exact hQ
theorem ck_tellOnce (hal : ax_al n = 178) {o : zO} {k : Nat} (hk : zok k) {v0 v1 v2 v3 v4 v5 v6 v7 v8 v9 v10 : Value} (h1 : es 21 = .inr (1, [v0, v1, v2, v3, v4, v5, v6, v7, v8, v9, v10, .int (zoI o)])) (hQ : Q none (ax_up es 21 (.inr (1, [v0, v1, v2, v3, v4, v5, v6, v7, v8, v9, v10, .int (zoI (zos o k))])))) : ax_Mt d 131 [.ref 21, .int (nI k)] n sl es Q := by
  have e := zoI_os o hk
  refine ax_Mt_go (m := ax_m_1_3) (ls := [some (.ref 21), some (.int (nI k))]) rfl ax_b_131_0 (Nat.le_of_ble_eq_true rfl) rfl ?_
  simp only [ax_W_cons, ax_I, ax_cmp, ax_ii, ax_ll, ax_li, ax_st1, ax_st2, ax_kl, ax_k2, ax_fit, ax_rtok, List.getElem?_cons_zero, List.getElem?_cons_succ, List.length_cons, List.length_nil, List.set_cons_zero, List.set_cons_succ, Nat.reduceAdd, Nat.reduceDiv, Nat.reduceMod, Nat.reduceMul, Nat.reduceLT, Nat.reduceLeDiff, Int32.reduceOfInt, Int64.reduceOfInt, true_and, and_true, and_self, true_or, or_true, false_implies, true_implies, not_false_eq_true, not_true_eq_false, Value.category, Nat.reduceEqDiff, Option.toList, List.cons_append, List.nil_append, List.drop_succ_cons, List.drop_zero, ax_qq_eq, ax_t_131, h1, hal, e]
  exact hQ
def zlw (k : Nat) : Nat := if k = 5 then 28 else 31
theorem ck_openLaw (hal : ax_al n = 178) {k p hc on : Int32} {kd pl ht : Nat → Int32} {nm : Nat → Int64} {hs code : Nat → Int32} {f5 f6 : Int32} {e5 e6 w : Nat} (hw : w = 5 ∨ w = 6) (h5 : e5 ≤ 1000) (h6 : e6 ≤ 1000) (h : xDh es k p hc on kd pl ht nm hs code f5 (nI e5) f6 (nI e6)) (hQ : Q (some (.ref (zlw w))) (ax_up es (zlw w) (.inr (3, [.ref 27, .ref (zlw w + 1), .ref (zlw w + 2), .int (nI (max e5 e6)), .int (nI (max e5 e6))])))) : ax_Mt (d + 1) 132 [.ref 21, .int (nI w)] n sl es Q := by
  obtain ⟨h1, -, -, -, -, -, -, h8, h9⟩ := h
  have em : kx_max (nI e5) (nI e6) = nI (max e5 e6) := by
    unfold kx_max
    by_cases e : e5 < e6
    · rw [if_pos (nI_lt e (by omega)), Nat.max_eq_right (by omega)]
    · rw [if_neg (by rw [kx_nlt]; exact nI_le (by omega) (by omega)), Nat.max_eq_left (by omega)]
  rcases hw with hw | hw <;> subst hw
  · have c : (nI 5 : Int32) = 5 := rfl
    refine ax_Mt_go (m := ax_m_1_4) (ls := [some (.ref 21), some (.int (nI 5)), none]) rfl ax_b_132_0 (Nat.le_of_ble_eq_true rfl) rfl ?_
    simp only [ax_W_cons, ax_I, ax_cmp, ax_ii, ax_ll, ax_li, ax_st1, ax_st2, ax_kl, ax_k2, ax_fit, ax_rtok, List.getElem?_cons_zero, List.getElem?_cons_succ, List.length_cons, List.length_nil, List.set_cons_zero, List.set_cons_succ, Nat.reduceAdd, Nat.reduceDiv, Nat.reduceMod, Nat.reduceMul, Nat.reduceLT, Nat.reduceLeDiff, Int32.reduceOfInt, Int64.reduceOfInt, true_and, and_true, and_self, true_or, or_true, false_implies, true_implies, not_false_eq_true, not_true_eq_false, Value.category, Nat.reduceEqDiff, Option.toList, List.cons_append, List.nil_append, List.drop_succ_cons, List.drop_zero, ax_qq_eq, ax_t_132, ax_j_132_12, ax_n_132_12, ax_j_132_16, ax_n_132_16, h1, h8, h9, hal, c]
    refine ax_inv_of (Nat.le_of_ble_eq_true rfl) (Nat.le_of_ble_eq_true rfl) (fun _ => absurd ‹_› (by decide)) (fun h => absurd h (by decide)) (Nat.le_refl _) (Nat.le_refl _) (ax_Mt_mono (ck_max _ _ _ _ _ _) ?_)
    rintro _ _ ⟨rfl, rfl⟩
    rw [em]
    simp only [ax_W_cons, ax_I, ax_cmp, ax_ii, ax_ll, ax_li, ax_st1, ax_st2, ax_kl, ax_k2, ax_fit, ax_rtok, List.getElem?_cons_zero, List.getElem?_cons_succ, List.length_cons, List.length_nil, List.set_cons_zero, List.set_cons_succ, Nat.reduceAdd, Nat.reduceDiv, Nat.reduceMod, Nat.reduceMul, Nat.reduceLT, Nat.reduceLeDiff, Int32.reduceOfInt, Int64.reduceOfInt, true_and, and_true, and_self, true_or, or_true, false_implies, true_implies, not_false_eq_true, not_true_eq_false, Value.category, Nat.reduceEqDiff, Option.toList, List.cons_append, List.nil_append, List.drop_succ_cons, List.drop_zero, ax_qq_eq, ax_t_132, h1, h8, h9, hal, ax_up_same, ax_up_up]
    exact hQ
  · have c : ¬ (nI 6 : Int32) = 5 := by decide
    refine ax_Mt_go (m := ax_m_1_4) (ls := [some (.ref 21), some (.int (nI 6)), none]) rfl ax_b_132_0 (Nat.le_of_ble_eq_true rfl) rfl ?_
    simp only [ax_W_cons, ax_I, ax_cmp, ax_ii, ax_ll, ax_li, ax_st1, ax_st2, ax_kl, ax_k2, ax_fit, ax_rtok, List.getElem?_cons_zero, List.getElem?_cons_succ, List.length_cons, List.length_nil, List.set_cons_zero, List.set_cons_succ, Nat.reduceAdd, Nat.reduceDiv, Nat.reduceMod, Nat.reduceMul, Nat.reduceLT, Nat.reduceLeDiff, Int32.reduceOfInt, Int64.reduceOfInt, true_and, and_true, and_self, true_or, or_true, false_implies, true_implies, not_false_eq_true, not_true_eq_false, Value.category, Nat.reduceEqDiff, Option.toList, List.cons_append, List.nil_append, List.drop_succ_cons, List.drop_zero, ax_qq_eq, ax_t_132, ax_j_132_12, ax_n_132_12, ax_j_132_16, ax_n_132_16, h1, h8, h9, hal, c]
    refine ax_inv_of (Nat.le_of_ble_eq_true rfl) (Nat.le_of_ble_eq_true rfl) (fun _ => absurd ‹_› (by decide)) (fun h => absurd h (by decide)) (Nat.le_refl _) (Nat.le_refl _) (ax_Mt_mono (ck_max _ _ _ _ _ _) ?_)
    rintro _ _ ⟨rfl, rfl⟩
    rw [em]
    simp only [ax_W_cons, ax_I, ax_cmp, ax_ii, ax_ll, ax_li, ax_st1, ax_st2, ax_kl, ax_k2, ax_fit, ax_rtok, List.getElem?_cons_zero, List.getElem?_cons_succ, List.length_cons, List.length_nil, List.set_cons_zero, List.set_cons_succ, Nat.reduceAdd, Nat.reduceDiv, Nat.reduceMod, Nat.reduceMul, Nat.reduceLT, Nat.reduceLeDiff, Int32.reduceOfInt, Int64.reduceOfInt, true_and, and_true, and_self, true_or, or_true, false_implies, true_implies, not_false_eq_true, not_true_eq_false, Value.category, Nat.reduceEqDiff, Option.toList, List.cons_append, List.nil_append, List.drop_succ_cons, List.drop_zero, ax_qq_eq, ax_t_132, h1, h8, h9, hal, ax_up_same, ax_up_up]
    exact hQ
end TT
