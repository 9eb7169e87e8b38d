/-! the reference: names, heats, what is told once -/
def rX (es : ax_H) (t : zTp) (c : rC) (a : Nat) (fl : Int32) (v : rV) (ct op ar : Nat → Int32) (rn : Nat → Int64) : Prop := rE es t c a fl v op ar ∧ es 165 = .inl (0, 80, .inl ct) ∧ es 169 = .inl (3, 6, .inr (.inl rn))
def rfX (es es' : ax_H) : Prop := ∀ j, j ≠ 159 ∧ j ≠ 165 ∧ j ≠ 166 ∧ j ≠ 167 ∧ j ≠ 169 → es' j = es j
theorem rfX_trans {a b c : ax_H} (h1 : rfX a b) (h2 : rfX b c) : rfX a c := fun j hj => (h2 j hj).trans (h1 j hj)
theorem rfX_1 {a b : ax_H} (h : ∀ j, j ≠ 159 → b j = a j) : rfX a b := fun j hj => h j hj.1
theorem rfX_E {a b : ax_H} (h : rfE a b) : rfX a b := fun j hj => h j ⟨hj.1, hj.2.2.1, hj.2.2.2.1⟩
def rct (ct ct' : Nat → Int32) : Prop := ∀ j, j < 40 → ct' j = ct j
def zoR (o : zO) : Int32 := nI ((if o.1 then 1 else 0) + (if o.2.1 then 2 else 0) + (if o.2.2.1 then 4 else 0) + (if o.2.2.2 then 8 else 0))
def zkk (k : Nat) : Nat := if k = 0 then 0 else k - 3
theorem zoR_on (o : zO) {k : Nat} (hk : zok k) : (zoR o >>> (nI (zkk k) &&& 31) &&& 1 = 1) = (zon o k = true) := by
  obtain ⟨a, b, c, d⟩ := o
  rcases hk with h | h | h | h <;> subst h <;> cases a <;> cases b <;> cases c <;> cases d <;> exact propext (by decide)
theorem zoR_os (o : zO) {k : Nat} (hk : zok k) : zoR o ||| (1 : Int32) <<< (nI (zkk k) &&& 31) = zoR (zos o k) := by
  obtain ⟨a, b, c, d⟩ := o
  rcases hk with h | h | h | h <;> subst h <;> cases a <;> cases b <;> cases c <;> cases d <;> decide
section TT
variable {d n sl : Nat} {es : ax_H} {t : zTp} {c : rC} {a : Nat} {fl : Int32} {v : rV} {ct op ar : Nat → Int32} {rn : Nat → Int64} {Q : Option Value → ax_H → Prop}
theorem rX_1 {es' : ax_H} {a' : Nat} {fl' : Int32} {v' : rV} (h : rX es t c a fl v ct op ar rn) (h1 : rS es' t c a' fl' v') (hf : ∀ j, j ≠ 159 → es' j = es j) : rX es' t c a' fl' v' ct op ar rn := ⟨rE_1 h.1 h1 hf, (hf 165 (by decide)).trans h.2.1, (hf 169 (by decide)).trans h.2.2⟩
theorem rX_E {es' : ax_H} {a' : Nat} {fl' : Int32} {v' : rV} {op' ar' : Nat → Int32} (h : rX es t c a fl v ct op ar rn) (h1 : rE es' t c a' fl' v' op' ar') (hf : rfE es es') : rX es' t c a' fl' v' ct op' ar' rn := ⟨h1, (hf 165 (by decide)).trans h.2.1, (hf 169 (by decide)).trans h.2.2⟩
theorem rX_ct {ct' : Nat → Int32} (h : rX es t c a fl v ct op ar rn) : rX (ax_up es 165 (.inl (0, 80, .inl ct'))) t c a fl v ct' op ar rn := by
  obtain ⟨⟨S, h1, h2⟩, h3, h4⟩ := h
  have g : ∀ j, j ≠ 165 → ax_up es 165 (.inl (0, 80, .inl ct')) j = es j := fun j hj => ax_up_ne _ _ hj
  exact ⟨⟨rS_up S ((g 159 (by decide)).trans S.1) (fun j _ h5 => g j (by omega)) S.2.2.2, (g 166 (by decide)).trans h1, (g 167 (by decide)).trans h2⟩, ax_up_same .., (g 169 (by decide)).trans h4⟩
theorem rfX_ct {e : ax_E} : rfX es (ax_up es 165 e) := fun j hj => ax_up_ne _ _ hj.2.1
theorem mk_nameAt (hal : ax_al n = 178) (ht : zT_ok t) (h : rS es t c a fl v) (hkd : zkd t a ≤ 24) {rd : Bool} {cs : List zCr} {nm : Nat → Int64} (hq : es (if rd = true then 169 else 168) = .inl (3, 6, .inr (.inl nm))) (hcnt : (if rd = true then nI v.2.1 else c.2.1) = nI cs.length) (hp : cs.length ≤ 6) (hn : ∀ i, i < cs.length → nm i = nL (zv37 (cs.getD i zC0).2.2.2) ∧ zWd (cs.getD i zC0).2.2.2) (hQ : Q (some (.int (zFi (zFnd cs (zwd t a) 0)))) es) : ax_Mt d 1431 [.ref 159, .int (kx_b rd)] n sl es Q := by
  obtain ⟨so, pl, va, w1, w2, w3, ⟨b1, b2, b3, b4, b5⟩, a1, a2, ha⟩ := rS_get ht h
  have w0 : es 159 = _ := h.1
  have c10 : ¬ (1 : Int32) = 0 := by decide
  have hv := b3 hkd
  have hw := (zwd_ok hkd).2.2.2.1
  generalize zwd t a = w at hv hw hQ
  refine ax_Mt_go (m := ax_m_11_23) (ls := [some (.ref 159), some (.int (kx_b rd)), none]) rfl ax_b_1431_0 (Nat.le_of_ble_eq_true rfl) rfl ?_
  simp only [ax_W_cons, ax_I, ax_cmp, ax_ii, ax_ll, ax_li, ax_st1, ax_st2, ax_kl, ax_k2, ax_fit, ax_rtok, List.getElem?_cons_zero, List.getElem?_cons_succ, List.length_cons, List.length_nil, List.set_cons_zero, List.set_cons_succ, Nat.reduceAdd, Nat.reduceDiv, Nat.reduceMod, Nat.reduceMul, Nat.reduceLT, Nat.reduceLeDiff, Int32.reduceOfInt, Int64.reduceOfInt, true_and, and_true, and_self, true_or, or_true, false_implies, true_implies, not_false_eq_true, not_true_eq_false, Value.category, Nat.reduceEqDiff, Option.toList, List.cons_append, List.nil_append, List.drop_succ_cons, List.drop_zero, ax_qq_eq, ax_t_1431]
  rw [ax_n_1431_2]
  have L := kx_down (k := cs.length) (I := fun f i => zFnd (cs.drop i) w i = zFnd cs w 0 → ax_W (d) n sl 1431 [(1, .iload 2), (1, .iload 1), (3, .ifCond .eq 14), (1, .aload 0), (3, .getfield 2884), (3, .goto 18)] 2 [some (.ref 159), some (.int (kx_b rd)), some (.int (nI i))] [] n sl es (ax_qq n sl Q)) ?_ ?_ cs.length 0 (by omega)
  · exact L rfl
  · intro hz
    have e0 := kx_nn (k := cs.length) (by omega)
    rw [List.drop_length, zFnd_nil] at hz
    rw [← hz] at hQ
    cases rd
    · have hcnt : c.2.1 = nI cs.length := hcnt
      simp only [ax_W_cons, ax_I, ax_cmp, ax_ii, ax_ll, ax_li, ax_st1, ax_st2, ax_kl, ax_k2, ax_fit, ax_rtok, List.getElem?_cons_zero, List.getElem?_cons_succ, List.length_cons, List.length_nil, List.set_cons_zero, List.set_cons_succ, Nat.reduceAdd, Nat.reduceDiv, Nat.reduceMod, Nat.reduceMul, Nat.reduceLT, Nat.reduceLeDiff, Int32.reduceOfInt, Int64.reduceOfInt, true_and, and_true, and_self, true_or, or_true, false_implies, true_implies, not_false_eq_true, not_true_eq_false, Value.category, Nat.reduceEqDiff, Option.toList, List.cons_append, List.nil_append, List.drop_succ_cons, List.drop_zero, ax_qq_eq, ax_t_1431, ax_j_1431_14, ax_n_1431_14, ax_j_1431_18, ax_n_1431_18, ax_j_1431_61, ax_n_1431_61, kx_bf, w0, mo_f, hal, hcnt, e0]
      exact hQ
    · have hcnt : nI v.2.1 = nI cs.length := hcnt
      simp only [ax_W_cons, ax_I, ax_cmp, ax_ii, ax_ll, ax_li, ax_st1, ax_st2, ax_kl, ax_k2, ax_fit, ax_rtok, List.getElem?_cons_zero, List.getElem?_cons_succ, List.length_cons, List.length_nil, List.set_cons_zero, List.set_cons_succ, Nat.reduceAdd, Nat.reduceDiv, Nat.reduceMod, Nat.reduceMul, Nat.reduceLT, Nat.reduceLeDiff, Int32.reduceOfInt, Int64.reduceOfInt, true_and, and_true, and_self, true_or, or_true, false_implies, true_implies, not_false_eq_true, not_true_eq_false, Value.category, Nat.reduceEqDiff, Option.toList, List.cons_append, List.nil_append, List.drop_succ_cons, List.drop_zero, ax_qq_eq, ax_t_1431, ax_j_1431_18, ax_n_1431_18, ax_j_1431_61, ax_n_1431_61, kx_bt, c10, w0, mo_f, hal, hcnt, e0]
      exact hQ
  · intro f i hi ih hz
    have e0 : ¬ nI cs.length ≤ nI i := nI_ge (by omega) (by omega)
    have i4 : nI i + 1 = nI (i + 1) := (nI_succ i).symm
    have i1 : vp_in (nI i) 6 := nI_in (by omega) (by decide)
    have i2 : (nI i).toNatClampNeg = i := nI_clamp (by omega)
    have hil : i < cs.length := by omega
    obtain ⟨n1, n2⟩ := hn i hil
    have hg : cs.getD i zC0 = cs[i] := by
      rw [List.getD_eq_getElem?_getD, List.getElem?_eq_getElem hil]
      rfl
    rw [List.drop_eq_getElem_cons hil, zFnd_cons, ← hg] at hz
    have hc : (lg_cmp (nL (zv37 (cs.getD i zC0).2.2.2)) (nL (zv37 w)) = 0) = ((cs.getD i zC0).2.2.2 = w) := by
      refine propext ⟨fun z => ?_, fun z => ?_⟩
      · rw [zcmp0] at z
        exact zv37_inj _ _ n2.2 hw.2 (nL_inj (zv37_lt n2) (zv37_lt hw) z)
      · rw [zcmp0, z]
    have fin : (¬ (cs.getD i zC0).2.2.2 = w → ax_J ax_W d n sl 1431 55 [some (.ref 159), some (.int (kx_b rd)), some (.int (nI i))] [] n sl es (ax_qq n sl Q)) ∧ ((cs.getD i zC0).2.2.2 = w → Q (some (.int (nI i))) es) := by
      refine ⟨fun h5 => ?_, fun h5 => ?_⟩
      · rw [if_neg h5] at hz
        simp only [ax_W_cons, ax_I, ax_cmp, ax_ii, ax_ll, ax_li, ax_st1, ax_st2, ax_kl, ax_k2, ax_fit, ax_rtok, List.getElem?_cons_zero, List.getElem?_cons_succ, List.length_cons, List.length_nil, List.set_cons_zero, List.set_cons_succ, Nat.reduceAdd, Nat.reduceDiv, Nat.reduceMod, Nat.reduceMul, Nat.reduceLT, Nat.reduceLeDiff, Int32.reduceOfInt, Int64.reduceOfInt, true_and, and_true, and_self, true_or, or_true, false_implies, true_implies, not_false_eq_true, not_true_eq_false, Value.category, Nat.reduceEqDiff, Option.toList, List.cons_append, List.nil_append, List.drop_succ_cons, List.drop_zero, ax_qq_eq, ax_t_1431, ax_j_1431_55, ax_n_1431_55, i4]
        rw [ax_j_1431_2]
        exact ih hz
      · rw [if_pos h5] at hz
        rw [← hz] at hQ
        exact hQ
    cases rd
    · have hcnt : c.2.1 = nI cs.length := hcnt
      have hq : es 168 = _ := hq
      simp only [ax_W_cons, ax_I, ax_cmp, ax_ii, ax_ll, ax_li, ax_st1, ax_st2, ax_kl, ax_k2, ax_fit, ax_rtok, List.getElem?_cons_zero, List.getElem?_cons_succ, List.length_cons, List.length_nil, List.set_cons_zero, List.set_cons_succ, Nat.reduceAdd, Nat.reduceDiv, Nat.reduceMod, Nat.reduceMul, Nat.reduceLT, Nat.reduceLeDiff, Int32.reduceOfInt, Int64.reduceOfInt, true_and, and_true, and_self, true_or, or_true, false_implies, true_implies, not_false_eq_true, not_true_eq_false, Value.category, Nat.reduceEqDiff, Option.toList, List.cons_append, List.nil_append, List.drop_succ_cons, List.drop_zero, ax_qq_eq, ax_t_1431, ax_j_1431_14, ax_n_1431_14, ax_j_1431_18, ax_n_1431_18, ax_j_1431_34, ax_n_1431_34, ax_j_1431_40, ax_n_1431_40, kx_bf, w0, w3, hq, mo_f, hal, hcnt, e0, i1, i2, a1, a2, n1, hv, hc, Classical.not_not]
      exact fin
    · have hcnt : nI v.2.1 = nI cs.length := hcnt
      have hq : es 169 = _ := hq
      simp only [ax_W_cons, ax_I, ax_cmp, ax_ii, ax_ll, ax_li, ax_st1, ax_st2, ax_kl, ax_k2, ax_fit, ax_rtok, List.getElem?_cons_zero, List.getElem?_cons_succ, List.length_cons, List.length_nil, List.set_cons_zero, List.set_cons_succ, Nat.reduceAdd, Nat.reduceDiv, Nat.reduceMod, Nat.reduceMul, Nat.reduceLT, Nat.reduceLeDiff, Int32.reduceOfInt, Int64.reduceOfInt, true_and, and_true, and_self, true_or, or_true, false_implies, true_implies, not_false_eq_true, not_true_eq_false, Value.category, Nat.reduceEqDiff, Option.toList, List.cons_append, List.nil_append, List.drop_succ_cons, List.drop_zero, ax_qq_eq, ax_t_1431, ax_j_1431_18, ax_n_1431_18, ax_j_1431_40, ax_n_1431_40, kx_bt, c10, w0, w3, hq, mo_f, hal, hcnt, e0, i1, i2, a1, a2, n1, hv, hc, Classical.not_not]
      exact fin
/-- as always -/
theorem mk_always (hal : ax_al n = 178) {th tp sz at0 f0 cd nm rm on fh un : Int32} {g : Int64} (hO : es 159 = .inr (11, mo_f th tp sz at0 f0 cd nm rm on fh un g)) (hct : es 165 = .inl (0, 80, .inl ct)) {b : Nat} (hb : b ≤ 40) (hQ : ∀ ct', ct' (b + 0) = 8 → ct' (b + 1) = 0 → ct' (b + 2) = 1 → ct' (b + 3) = -1 → ct' (b + 4) = -1 → ct' (b + 23) = 2 → (∀ j, (j < b ∨ b + 40 ≤ j) → ct' j = ct j) → Q none (ax_up es 165 (.inl (0, 80, .inl ct')))) : ax_Mt d 1425 [.ref 159, .int (nI b)] n sl es Q := by
  refine ax_Mt_go (m := ax_m_11_17) (ls := [some (.ref 159), some (.int (nI b)), none]) rfl ax_b_1425_0 (Nat.le_of_ble_eq_true rfl) rfl ?_
  simp only [ax_W_cons, ax_I, ax_cmp, ax_ii, ax_ll, ax_li, ax_st1, ax_st2, ax_kl, ax_k2, ax_fit, ax_rtok, List.getElem?_cons_zero, List.getElem?_cons_succ, List.length_cons, List.length_nil, List.set_cons_zero, List.set_cons_succ, Nat.reduceAdd, Nat.reduceDiv, Nat.reduceMod, Nat.reduceMul, Nat.reduceLT, Nat.reduceLeDiff, Int32.reduceOfInt, Int64.reduceOfInt, true_and, and_true, and_self, true_or, or_true, false_implies, true_implies, not_false_eq_true, not_true_eq_false, Value.category, Nat.reduceEqDiff, Option.toList, List.cons_append, List.nil_append, List.drop_succ_cons, List.drop_zero, ax_qq_eq, ax_t_1425]
  rw [ax_n_1425_2]
  have L := kx_down (k := 40) (I := fun f i => ∀ ct1 : Nat → Int32, (∀ j, b ≤ j → j < b + i → ct1 j = 0) → (∀ j, (j < b ∨ b + 40 ≤ j) → ct1 j = ct j) → ax_W (d) n sl 1425 [(1, .iload 2), (2, .iconst 40), (3, .if_icmp .ge 23), (1, .aload 0), (3, .getfield 2858), (1, .iload 1), (1, .iload 2), (1, .iadd), (1, .iconst 0), (1, .iastore), (3, .iinc 2 1), (3, .goto 2)] 2 [some (.ref 159), some (.int (nI b)), some (.int (nI i))] [] n sl (ax_up es 165 (.inl (0, 80, .inl ct1))) (ax_qq n sl Q)) ?_ ?_ 40 0 (by omega)
  · have L := L ct (fun j h1 h2 => by omega) (fun j _ => rfl)
    rw [rup_id hct] at L
    exact L
  · intro ct1 h1 h2
    have e0 : (40 : Int32) ≤ nI 40 := by decide
    have w0 : ∀ e, ax_up es 165 e 159 = _ := fun e => (ax_up_ne es e (by decide)).trans hO
    have w1 : ∀ e, ax_up es 165 e 165 = e := fun e => ax_up_same ..
    have x0 : nI b + 0 = nI (b + 0) := kn_add b 0
    have x2 : nI b + 2 = nI (b + 2) := kn_add b 2
    have x3 : nI b + 3 = nI (b + 3) := kn_add b 3
    have x4 : nI b + 4 = nI (b + 4) := kn_add b 4
    have x23 : nI b + 23 = nI (b + 23) := kn_add b 23
    have y : ∀ k, k < 40 → vp_in (nI (b + k)) 80 ∧ (nI (b + k)).toNatClampNeg = b + k := fun k hk => ⟨nI_in (by omega) (by decide), nI_clamp (by omega)⟩
    have y0 := y 0 (by decide)
    have y2 := y 2 (by decide)
    have y3 := y 3 (by decide)
    have y4 := y 4 (by decide)
    have y23 := y 23 (by decide)
    have uu : ∀ e e', ax_up (ax_up es 165 e) 165 e' = ax_up es 165 e' := fun e e' => by
      funext j
      by_cases hj : j = 165
      · rw [hj, ax_up_same, ax_up_same]
      · rw [ax_up_ne _ _ hj, ax_up_ne _ _ hj, ax_up_ne _ _ hj]
    simp only [ax_W_cons, ax_I, ax_cmp, ax_ii, ax_ll, ax_li, ax_st1, ax_st2, ax_kl, ax_k2, ax_fit, ax_rtok, List.getElem?_cons_zero, List.getElem?_cons_succ, List.length_cons, List.length_nil, List.set_cons_zero, List.set_cons_succ, Nat.reduceAdd, Nat.reduceDiv, Nat.reduceMod, Nat.reduceMul, Nat.reduceLT, Nat.reduceLeDiff, Int32.reduceOfInt, Int64.reduceOfInt, true_and, and_true, and_self, true_or, or_true, false_implies, true_implies, not_false_eq_true, not_true_eq_false, Value.category, Nat.reduceEqDiff, Option.toList, List.cons_append, List.nil_append, List.drop_succ_cons, List.drop_zero, ax_qq_eq, ax_t_1425, ax_j_1425_23, ax_n_1425_23, e0, w0, w1, uu, mo_f, hal, x0, x2, x3, x4, x23, y0.1, y0.2, y2.1, y2.2, y3.1, y3.2, y4.1, y4.2, y23.1, y23.2]
    refine hQ _ ?_ ?_ ?_ ?_ ?_ ?_ (fun j hj => ?_)
    · rw [upd_ne _ _ (by omega), upd_ne _ _ (by omega), upd_ne _ _ (by omega), upd_ne _ _ (by omega), upd_same]
    · rw [upd_ne _ _ (by omega), upd_ne _ _ (by omega), upd_ne _ _ (by omega), upd_ne _ _ (by omega), upd_ne _ _ (by omega)]
      exact h1 _ (by omega) (by omega)
    · rw [upd_ne _ _ (by omega), upd_ne _ _ (by omega), upd_ne _ _ (by omega), upd_same]
    · rw [upd_ne _ _ (by omega), upd_same]
    · rw [upd_same]
    · rw [upd_ne _ _ (by omega), upd_ne _ _ (by omega), upd_same]
    · rw [upd_ne _ _ (by omega), upd_ne _ _ (by omega), upd_ne _ _ (by omega), upd_ne _ _ (by omega), upd_ne _ _ (by omega)]
      exact h2 j hj
  · intro f i hi ih ct1 h1 h2
    have e0 : ¬ (40 : Int32) ≤ nI i := nI_ge (b := 40) (by omega) (by decide)
    have i4 : nI i + 1 = nI (i + 1) := (nI_succ i).symm
    have i5 : nI b + nI i = nI (b + i) := kn_add _ _
    have i1 : vp_in (nI (b + i)) 80 := nI_in (by omega) (by decide)
    have i2 : (nI (b + i)).toNatClampNeg = b + i := nI_clamp (by omega)
    have w0 : ∀ e, ax_up es 165 e 159 = _ := fun e => (ax_up_ne es e (by decide)).trans hO
    have w1 : ∀ e, ax_up es 165 e 165 = e := fun e => ax_up_same ..
    have uu : ∀ e e', ax_up (ax_up es 165 e) 165 e' = ax_up es 165 e' := fun e e' => by
      funext j
      by_cases hj : j = 165
      · rw [hj, ax_up_same, ax_up_same]
      · rw [ax_up_ne _ _ hj, ax_up_ne _ _ hj, ax_up_ne _ _ hj]
    simp only [ax_W_cons, ax_I, ax_cmp, ax_ii, ax_ll, ax_li, ax_st1, ax_st2, ax_kl, ax_k2, ax_fit, ax_rtok, List.getElem?_cons_zero, List.getElem?_cons_succ, List.length_cons, List.length_nil, List.set_cons_zero, List.set_cons_succ, Nat.reduceAdd, Nat.reduceDiv, Nat.reduceMod, Nat.reduceMul, Nat.reduceLT, Nat.reduceLeDiff, Int32.reduceOfInt, Int64.reduceOfInt, true_and, and_true, and_self, true_or, or_true, false_implies, true_implies, not_false_eq_true, not_true_eq_false, Value.category, Nat.reduceEqDiff, Option.toList, List.cons_append, List.nil_append, List.drop_succ_cons, List.drop_zero, ax_qq_eq, ax_t_1425, e0, w0, w1, uu, mo_f, hal, i1, i2, i4, i5]
    rw [ax_j_1425_2]
    refine ih _ (fun j h3 h4 => ?_) (fun j hj => ?_)
    · by_cases e : j = b + i
      · rw [e, upd_same]
      · rw [upd_ne _ _ e]
        exact h1 j h3 (by omega)
    · rw [upd_ne _ _ (by omega)]
      exact h2 j hj
theorem mk_readHeat (hal : ax_al n = 178) (ht : zT_ok t) (X : rX es t c a 0 v ct op ar rn) (dd : zDf) (hok : ∀ a' es' ct' h, zHl t dd 12 a [] = zSgn t a' 59 (.inr (a' + 1, (dd.1, dd.2.1, h, dd.2.2.2))) → rX es' t c a' 0 v ct' op ar rn → a ≤ a' → h.length ≤ 12 → ct' 42 = nI h.length → (∀ i, i < h.length → ct' (63 + i) = nI (h.getD i 0)) → (∀ j, j ≠ 42 → (j < 63 ∨ 75 ≤ j) → ct' j = ct j) → rfX es es' → Q none es') (hfail : ∀ x es' ct', zHl t dd 12 a [] = .inl x → rX es' t c x.2 (nI (x.1 + 16 * zpl t x.2)) v ct' op ar rn → rFl (nI (x.1 + 16 * zpl t x.2)) → rct ct ct' → rfX es es' → Q none es') : ax_Mt (d + 3) 1436 [.ref 159] n sl es Q := by
  have c10 : ¬ (1 : Int32) = 0 := by decide
  have e42 : vp_in 42 80 := nI_in (show 42 < 80 by decide) (by decide)
  have e42' : (42 : Int32).toNatClampNeg = 42 := by decide
  have flt : ∀ es1 a1 fl ct1 m v2, rX es1 t c a1 fl v ct1 op ar rn → rFl fl → Q none (ax_up es1 165 (.inl (0, 80, .inl (upd ct1 42 (nI m))))) → ax_W (d + 3) n sl 1436 [(1, .aload 0), (3, .getfield 2848), (3, .ifCond .ne 87), (1, .iload 1), (3, .ifCond .eq 26), (1, .aload 0), (3, .getfield 2834), (1, .aload 0), (3, .getfield 2844), (1, .iaload), (1, .iconst 2), (3, .if_icmp .ne 87)] 2 [some (.ref 159), some (.int (nI m)), v2] [] n sl es1 (ax_qq n sl Q) := by
    intro es1 a1 fl ct1 m v2 X1 f1 hq
    have w0 : es1 159 = _ := X1.1.1.1
    have w1 := X1.2.1
    have f2 := f1.1
    simp only [ax_W_cons, ax_I, ax_cmp, ax_ii, ax_ll, ax_li, ax_st1, ax_st2, ax_kl, ax_k2, ax_fit, ax_rtok, List.getElem?_cons_zero, List.getElem?_cons_succ, List.length_cons, List.length_nil, List.set_cons_zero, List.set_cons_succ, Nat.reduceAdd, Nat.reduceDiv, Nat.reduceMod, Nat.reduceMul, Nat.reduceLT, Nat.reduceLeDiff, Int32.reduceOfInt, Int64.reduceOfInt, true_and, and_true, and_self, true_or, or_true, false_implies, true_implies, not_false_eq_true, not_true_eq_false, Value.category, Nat.reduceEqDiff, Option.toList, List.cons_append, List.nil_append, List.drop_succ_cons, List.drop_zero, ax_qq_eq, ax_t_1436, ax_j_1436_87, ax_n_1436_87, w0, w1, mo_f, hal, f2, e42, e42']
    exact hq
  have done : ∀ es1 a1 ct1 h v2, rX es1 t c a1 0 v ct1 op ar rn → Q none (ax_up es1 165 (.inl (0, 80, .inl (upd ct1 42 (nI h))))) → ax_J ax_W (d + 3) n sl 1436 87 [some (.ref 159), some (.int (nI h)), v2] [] n sl es1 (ax_qq n sl Q) := by
    intro es1 a1 ct1 h v2 X1 hq
    have w0 : es1 159 = _ := X1.1.1.1
    have w1 := X1.2.1
    simp only [ax_W_cons, ax_I, ax_cmp, ax_ii, ax_ll, ax_li, ax_st1, ax_st2, ax_kl, ax_k2, ax_fit, ax_rtok, List.getElem?_cons_zero, List.getElem?_cons_succ, List.length_cons, List.length_nil, List.set_cons_zero, List.set_cons_succ, Nat.reduceAdd, Nat.reduceDiv, Nat.reduceMod, Nat.reduceMul, Nat.reduceLT, Nat.reduceLeDiff, Int32.reduceOfInt, Int64.reduceOfInt, true_and, and_true, and_self, true_or, or_true, false_implies, true_implies, not_false_eq_true, not_true_eq_false, Value.category, Nat.reduceEqDiff, Option.toList, List.cons_append, List.nil_append, List.drop_succ_cons, List.drop_zero, ax_qq_eq, ax_t_1436, ax_j_1436_87, ax_n_1436_87, w0, w1, mo_f, hal, e42, e42']
    exact hq
  have LL : ∀ f es1 a1 ct1 (h : List Nat) v2, h.length + f = 12 → a ≤ a1 → zHl t dd f a1 h = zHl t dd 12 a [] → rX es1 t c a1 0 v ct1 op ar rn → (∀ i, i < h.length → ct1 (63 + i) = nI (h.getD i 0)) → (∀ j, (j < 63 ∨ 75 ≤ j) → ct1 j = ct j) → rfX es es1 → ax_W (d + 3) n sl 1436 [(1, .aload 0), (3, .getfield 2848), (3, .ifCond .ne 87), (1, .iload 1), (3, .ifCond .eq 26), (1, .aload 0), (3, .getfield 2834), (1, .aload 0), (3, .getfield 2844), (1, .iaload), (1, .iconst 2), (3, .if_icmp .ne 87)] 2 [some (.ref 159), some (.int (nI h.length)), v2] [] n sl es1 (ax_qq n sl Q) := by
    intro f
    induction f with
    | zero =>
      intro es1 a1 ct1 h v2 hl ha1 hz X1 hh hj f1
      obtain ⟨so, pl, va, w1, w2, w3, ⟨b1, b2, b3, b4, b5⟩, q1, q2, ha⟩ := rS_get ht X1.1.1
      have w0 : es1 159 = _ := X1.1.1.1
      have n12 : nI h.length = 12 := by rw [show h.length = 12 by omega]; rfl
      have c120 : ¬ (12 : Int32) = 0 := by decide
      have a4 : nI (a1 + 1) - 1 = nI a1 := kn_sub (a := a1 + 1) (b := 1) (by omega)
      rw [zHl] at hz
      by_cases h25 : zkd t a1 = 25
      · rw [if_pos h25] at hz
        have z2 : so a1 = 2 := b1.trans (by rw [zsrt_2]; exact h25)
        have flt' := flt
        rw [n12]
        simp only [ax_W_cons, ax_I, ax_cmp, ax_ii, ax_ll, ax_li, ax_st1, ax_st2, ax_kl, ax_k2, ax_fit, ax_rtok, List.getElem?_cons_zero, List.getElem?_cons_succ, List.length_cons, List.length_nil, List.set_cons_zero, List.set_cons_succ, Nat.reduceAdd, Nat.reduceDiv, Nat.reduceMod, Nat.reduceMul, Nat.reduceLT, Nat.reduceLeDiff, Int32.reduceOfInt, Int64.reduceOfInt, true_and, and_true, and_self, true_or, or_true, false_implies, true_implies, not_false_eq_true, not_true_eq_false, Value.category, Nat.reduceEqDiff, Option.toList, List.cons_append, List.nil_append, List.drop_succ_cons, List.drop_zero, ax_qq_eq, ax_t_1436, ax_j_1436_26, ax_n_1436_26, w0, w1, mo_f, hal, q1, q2, z2, c120]
        refine ax_inv_of (Nat.le_of_ble_eq_true rfl) (Nat.le_of_ble_eq_true rfl) (fun _ => rS_rcv hal X1.1.1 _) (fun h => absurd h (by decide)) (Nat.le_refl _) (Nat.le_refl _) (mk_takeNumber0 (lo := 0) (hi := 5) hal ht X1.1.1 (by decide) (by decide) ?_ ?_)
        · intro es2 _ hN S2 f2
          rw [if_pos hN.2] at hz
          have X2 := rX_1 X1 S2 f2
          have v0 : es2 159 = _ := S2.1
          simp only [ax_W_cons, ax_I, ax_cmp, ax_ii, ax_ll, ax_li, ax_st1, ax_st2, ax_kl, ax_k2, ax_fit, ax_rtok, List.getElem?_cons_zero, List.getElem?_cons_succ, List.length_cons, List.length_nil, List.set_cons_zero, List.set_cons_succ, Nat.reduceAdd, Nat.reduceDiv, Nat.reduceMod, Nat.reduceMul, Nat.reduceLT, Nat.reduceLeDiff, Int32.reduceOfInt, Int64.reduceOfInt, true_and, and_true, and_self, true_or, or_true, false_implies, true_implies, not_false_eq_true, not_true_eq_false, Value.category, Nat.reduceEqDiff, Option.toList, List.cons_append, List.nil_append, List.drop_succ_cons, List.drop_zero, ax_qq_eq, ax_t_1436, v0, mo_f, hal, a4]
          obtain ⟨es3, he3⟩ : ∃ x, x = ax_up es2 159 (.inr (11, mo_f 0 0 c.1 (nI a1) 0 (nI v.1) c.2.1 (nI v.2.1) v.2.2.1 v.2.2.2 c.2.2.1 c.2.2.2)) := ⟨_, rfl⟩
          have f3 : ∀ j, j ≠ 159 → es3 j = es2 j := fun j hj => by rw [he3]; exact ax_up_ne _ _ hj
          have X3 : rX es3 t c a1 0 v ct1 op ar rn := rX_1 X2 (rS_up S2 (by rw [he3]; exact ax_up_same ..) (fun j hj _ => f3 j hj) X1.1.1.2.2.2) f3
          unfold mo_f at he3
          rw [← he3]
          refine ax_inv_of (Nat.le_of_ble_eq_true rfl) (Nat.le_of_ble_eq_true rfl) (fun _ => rS_rcv hal X3.1.1 _) (fun h => absurd h (by decide)) (Nat.le_refl _) (Nat.le_refl _) (mk_wrong0 (k := 5) hal ht X3.1.1 (by decide) (by decide) ?_)
          intro es4 S4 g4 f4
          have X4 := rX_1 X3 S4 f4
          simp only [ax_W_cons, ax_I, ax_cmp, ax_ii, ax_ll, ax_li, ax_st1, ax_st2, ax_kl, ax_k2, ax_fit, ax_rtok, List.getElem?_cons_zero, List.getElem?_cons_succ, List.length_cons, List.length_nil, List.set_cons_zero, List.set_cons_succ, Nat.reduceAdd, Nat.reduceDiv, Nat.reduceMod, Nat.reduceMul, Nat.reduceLT, Nat.reduceLeDiff, Int32.reduceOfInt, Int64.reduceOfInt, true_and, and_true, and_self, true_or, or_true, false_implies, true_implies, not_false_eq_true, not_true_eq_false, Value.category, Nat.reduceEqDiff, Option.toList, List.cons_append, List.nil_append, List.drop_succ_cons, List.drop_zero, ax_qq_eq, ax_t_1436, ax_j_1436_84, ax_n_1436_84]
          rw [ax_j_1436_2]
          have n12' : nI 12 = 12 := rfl
          rw [← n12']
          exact flt es4 _ _ ct1 12 _ X4 g4 (hfail (5, a1) _ _ hz.symm (rX_ct X4) g4 (fun j h5 => by rw [upd_ne _ _ (by omega)]; exact hj j (by omega)) (rfX_trans f1 (rfX_trans (rfX_1 f2) (rfX_trans (rfX_1 f3) (rfX_trans (rfX_1 f4) rfX_ct)))))
        · intro es2 k _ hk S2 g2 f2
          have hk4 : k = 4 ∧ ¬ znb t a1 ≤ 5 := by
            rcases hk with ⟨_, z⟩ | ⟨z1, _, z2⟩
            · exact absurd h25 z
            · exact ⟨z1, fun z3 => z2 ⟨Nat.zero_le _, z3⟩⟩
          obtain ⟨rfl, h5⟩ := hk4
          rw [if_neg h5] at hz
          have X2 := rX_1 X1 S2 f2
          have v0 : es2 159 = _ := S2.1
          have g5 := g2.1
          simp only [ax_W_cons, ax_I, ax_cmp, ax_ii, ax_ll, ax_li, ax_st1, ax_st2, ax_kl, ax_k2, ax_fit, ax_rtok, List.getElem?_cons_zero, List.getElem?_cons_succ, List.length_cons, List.length_nil, List.set_cons_zero, List.set_cons_succ, Nat.reduceAdd, Nat.reduceDiv, Nat.reduceMod, Nat.reduceMul, Nat.reduceLT, Nat.reduceLeDiff, Int32.reduceOfInt, Int64.reduceOfInt, true_and, and_true, and_self, true_or, or_true, false_implies, true_implies, not_false_eq_true, not_true_eq_false, Value.category, Nat.reduceEqDiff, Option.toList, List.cons_append, List.nil_append, List.drop_succ_cons, List.drop_zero, ax_qq_eq, ax_t_1436, ax_j_1436_64, ax_n_1436_64, ax_j_1436_84, ax_n_1436_84, v0, mo_f, hal, g5]
          rw [ax_j_1436_2]
          have n12' : nI 12 = 12 := rfl
          rw [← n12']
          exact flt es2 _ _ ct1 12 _ X2 g2 (hfail (4, a1) _ _ hz.symm (rX_ct X2) g2 (fun j h5 => by rw [upd_ne _ _ (by omega)]; exact hj j (by omega)) (rfX_trans f1 (rfX_trans (rfX_1 f2) rfX_ct)))
      · rw [if_neg h25] at hz
        have z2 : ¬ so a1 = 2 := by rw [b1, zsrt_2]; exact h25
        have dn := done es1 a1 ct1 h.length v2 X1 (hok a1 _ _ h hz.symm (rX_ct X1) ha1 (by omega) (upd_same ..) (fun i hi => by rw [upd_ne _ _ (by omega)]; exact hh i hi) (fun j h4 h5 => by rw [upd_ne _ _ h4]; exact hj j h5) (rfX_trans f1 rfX_ct))
        rw [n12] at dn ⊢
        simp only [ax_W_cons, ax_I, ax_cmp, ax_ii, ax_ll, ax_li, ax_st1, ax_st2, ax_kl, ax_k2, ax_fit, ax_rtok, List.getElem?_cons_zero, List.getElem?_cons_succ, List.length_cons, List.length_nil, List.set_cons_zero, List.set_cons_succ, Nat.reduceAdd, Nat.reduceDiv, Nat.reduceMod, Nat.reduceMul, Nat.reduceLT, Nat.reduceLeDiff, Int32.reduceOfInt, Int64.reduceOfInt, true_and, and_true, and_self, true_or, or_true, false_implies, true_implies, not_false_eq_true, not_true_eq_false, Value.category, Nat.reduceEqDiff, Option.toList, List.cons_append, List.nil_append, List.drop_succ_cons, List.drop_zero, ax_qq_eq, ax_t_1436, w0, w1, mo_f, hal, q1, q2, z2, c120]
        exact dn
    | succ f ih =>
      intro es1 a1 ct1 h v2 hl ha1 hz X1 hh hj f1
      obtain ⟨so, pl, va, w1, w2, w3, ⟨b1, b2, b3, b4, b5⟩, q1, q2, ha⟩ := rS_get ht X1.1.1
      have w0 : es1 159 = _ := X1.1.1.1
      have n12 : ¬ nI h.length = 12 := fun z => by
        have := kn_inj (b := 12) (by omega) (by decide) z
        omega
      rw [zHl] at hz
      have take : (h = [] ∨ zkd t a1 = 25) → ax_J ax_W (d + 3) n sl 1436 26 [some (.ref 159), some (.int (nI h.length)), v2] [] n sl es1 (ax_qq n sl Q) := by
        intro hor
        rw [if_pos hor] at hz
        simp only [ax_W_cons, ax_I, ax_cmp, ax_ii, ax_ll, ax_li, ax_st1, ax_st2, ax_kl, ax_k2, ax_fit, ax_rtok, List.getElem?_cons_zero, List.getElem?_cons_succ, List.length_cons, List.length_nil, List.set_cons_zero, List.set_cons_succ, Nat.reduceAdd, Nat.reduceDiv, Nat.reduceMod, Nat.reduceMul, Nat.reduceLT, Nat.reduceLeDiff, Int32.reduceOfInt, Int64.reduceOfInt, true_and, and_true, and_self, true_or, or_true, false_implies, true_implies, not_false_eq_true, not_true_eq_false, Value.category, Nat.reduceEqDiff, Option.toList, List.cons_append, List.nil_append, List.drop_succ_cons, List.drop_zero, ax_qq_eq, ax_t_1436, ax_j_1436_26, ax_n_1436_26]
        refine ax_inv_of (Nat.le_of_ble_eq_true rfl) (Nat.le_of_ble_eq_true rfl) (fun _ => rS_rcv hal X1.1.1 _) (fun h => absurd h (by decide)) (Nat.le_refl _) (Nat.le_refl _) (mk_takeNumber0 (lo := 0) (hi := 5) hal ht X1.1.1 (by decide) (by decide) ?_ ?_)
        · intro es2 h25 hN S2 f2
          unfold zNum at hz
          rw [if_pos h25, if_pos hN] at hz
          have X2 := rX_1 X1 S2 f2
          have v0 : es2 159 = _ := S2.1
          have v1 := X2.2.1
          have i0 : 63 + nI h.length = nI (63 + h.length) := by
            show nI 63 + nI h.length = _
            rw [kn_add]
          have i1 : vp_in (nI (63 + h.length)) 80 := nI_in (by omega) (by decide)
          have i2 : (nI (63 + h.length)).toNatClampNeg = 63 + h.length := nI_clamp (by omega)
          have i4 : nI h.length + 1 = nI (h.length + 1) := (nI_succ _).symm
          simp only [ax_W_cons, ax_I, ax_cmp, ax_ii, ax_ll, ax_li, ax_st1, ax_st2, ax_kl, ax_k2, ax_fit, ax_rtok, List.getElem?_cons_zero, List.getElem?_cons_succ, List.length_cons, List.length_nil, List.set_cons_zero, List.set_cons_succ, Nat.reduceAdd, Nat.reduceDiv, Nat.reduceMod, Nat.reduceMul, Nat.reduceLT, Nat.reduceLeDiff, Int32.reduceOfInt, Int64.reduceOfInt, true_and, and_true, and_self, true_or, or_true, false_implies, true_implies, not_false_eq_true, not_true_eq_false, Value.category, Nat.reduceEqDiff, Option.toList, List.cons_append, List.nil_append, List.drop_succ_cons, List.drop_zero, ax_qq_eq, ax_t_1436, ax_j_1436_64, ax_n_1436_64, ax_j_1436_84, ax_n_1436_84, v0, v1, mo_f, hal, n12, i0, i1, i2, i4]
          rw [ax_j_1436_2]
          have ih := ih (ax_up es2 165 (.inl (0, 80, .inl (upd ct1 (63 + h.length) (nI (znb t a1)))))) (a1 + 1) (upd ct1 (63 + h.length) (nI (znb t a1))) (h ++ [znb t a1]) (some (.int (nI (znb t a1)))) (by rw [List.length_append, List.length_singleton]; omega) (by omega) hz (rX_ct X2) (fun i hi => ?_) (fun j h5 => by rw [upd_ne _ _ (by omega)]; exact hj j h5) (rfX_trans f1 (rfX_trans (rfX_1 f2) rfX_ct))
          · rw [List.length_append, List.length_singleton] at ih
            exact ih
          · rw [List.length_append, List.length_singleton] at hi
            by_cases e : i = h.length
            · subst e
              rw [upd_same, zgetD_r]
            · rw [upd_ne _ _ (by omega), zgetD_l _ _ _ (by omega)]
              exact hh i (by omega)
        · intro es2 k hk _ S2 g2 f2
          rw [hk] at hz
          have X2 := rX_1 X1 S2 f2
          have v0 : es2 159 = _ := S2.1
          have g5 := g2.1
          simp only [ax_W_cons, ax_I, ax_cmp, ax_ii, ax_ll, ax_li, ax_st1, ax_st2, ax_kl, ax_k2, ax_fit, ax_rtok, List.getElem?_cons_zero, List.getElem?_cons_succ, List.length_cons, List.length_nil, List.set_cons_zero, List.set_cons_succ, Nat.reduceAdd, Nat.reduceDiv, Nat.reduceMod, Nat.reduceMul, Nat.reduceLT, Nat.reduceLeDiff, Int32.reduceOfInt, Int64.reduceOfInt, true_and, and_true, and_self, true_or, or_true, false_implies, true_implies, not_false_eq_true, not_true_eq_false, Value.category, Nat.reduceEqDiff, Option.toList, List.cons_append, List.nil_append, List.drop_succ_cons, List.drop_zero, ax_qq_eq, ax_t_1436, ax_j_1436_64, ax_n_1436_64, ax_j_1436_84, ax_n_1436_84, v0, mo_f, hal, g5]
          rw [ax_j_1436_2]
          exact flt es2 _ _ ct1 _ _ X2 g2 (hfail (k, a1) _ _ hz.symm (rX_ct X2) g2 (fun j h5 => by rw [upd_ne _ _ (by omega)]; exact hj j (by omega)) (rfX_trans f1 (rfX_trans (rfX_1 f2) rfX_ct)))
      by_cases h0 : h = []
      · have tk := take (Or.inl h0)
        have n0 : nI h.length = 0 := by rw [h0]; rfl
        rw [n0] at tk ⊢
        simp only [ax_W_cons, ax_I, ax_cmp, ax_ii, ax_ll, ax_li, ax_st1, ax_st2, ax_kl, ax_k2, ax_fit, ax_rtok, List.getElem?_cons_zero, List.getElem?_cons_succ, List.length_cons, List.length_nil, List.set_cons_zero, List.set_cons_succ, Nat.reduceAdd, Nat.reduceDiv, Nat.reduceMod, Nat.reduceMul, Nat.reduceLT, Nat.reduceLeDiff, Int32.reduceOfInt, Int64.reduceOfInt, true_and, and_true, and_self, true_or, or_true, false_implies, true_implies, not_false_eq_true, not_true_eq_false, Value.category, Nat.reduceEqDiff, Option.toList, List.cons_append, List.nil_append, List.drop_succ_cons, List.drop_zero, ax_qq_eq, ax_t_1436, w0, mo_f, hal]
        exact tk
      · have n0 : ¬ nI h.length = 0 := nI_ne0 (by
          cases h with
          | nil => exact absurd rfl h0
          | cons x l => exact Nat.succ_pos _) (by omega)
        by_cases h25 : zkd t a1 = 25
        · have tk := take (Or.inr h25)
          have z2 : so a1 = 2 := b1.trans (by rw [zsrt_2]; exact h25)
          rw [ax_j_1436_26, ← ax_n_1436_26] at tk
          simp only [ax_W_cons, ax_I, ax_cmp, ax_ii, ax_ll, ax_li, ax_st1, ax_st2, ax_kl, ax_k2, ax_fit, ax_rtok, List.getElem?_cons_zero, List.getElem?_cons_succ, List.length_cons, List.length_nil, List.set_cons_zero, List.set_cons_succ, Nat.reduceAdd, Nat.reduceDiv, Nat.reduceMod, Nat.reduceMul, Nat.reduceLT, Nat.reduceLeDiff, Int32.reduceOfInt, Int64.reduceOfInt, true_and, and_true, and_self, true_or, or_true, false_implies, true_implies, not_false_eq_true, not_true_eq_false, Value.category, Nat.reduceEqDiff, Option.toList, List.cons_append, List.nil_append, List.drop_succ_cons, List.drop_zero, ax_qq_eq, ax_t_1436, w0, w1, mo_f, hal, q1, q2, z2, n0]
          exact tk
        · have z2 : ¬ so a1 = 2 := by rw [b1, zsrt_2]; exact h25
          rw [if_neg (fun z => z.elim h0 h25)] at hz
          have dn := done es1 a1 ct1 h.length v2 X1 (hok a1 _ _ h hz.symm (rX_ct X1) ha1 (by omega) (upd_same ..) (fun i hi => by rw [upd_ne _ _ (by omega)]; exact hh i hi) (fun j h4 h5 => by rw [upd_ne _ _ h4]; exact hj j h5) (rfX_trans f1 rfX_ct))
          simp only [ax_W_cons, ax_I, ax_cmp, ax_ii, ax_ll, ax_li, ax_st1, ax_st2, ax_kl, ax_k2, ax_fit, ax_rtok, List.getElem?_cons_zero, List.getElem?_cons_succ, List.length_cons, List.length_nil, List.set_cons_zero, List.set_cons_succ, Nat.reduceAdd, Nat.reduceDiv, Nat.reduceMod, Nat.reduceMul, Nat.reduceLT, Nat.reduceLeDiff, Int32.reduceOfInt, Int64.reduceOfInt, true_and, and_true, and_self, true_or, or_true, false_implies, true_implies, not_false_eq_true, not_true_eq_false, Value.category, Nat.reduceEqDiff, Option.toList, List.cons_append, List.nil_append, List.drop_succ_cons, List.drop_zero, ax_qq_eq, ax_t_1436, w0, w1, mo_f, hal, q1, q2, z2, n0]
          exact dn
  refine ax_Mt_go (m := ax_m_11_28) (ls := [some (.ref 159), none, none]) rfl ax_b_1436_0 (Nat.le_of_ble_eq_true rfl) rfl ?_
  simp only [ax_W_cons, ax_I, ax_cmp, ax_ii, ax_ll, ax_li, ax_st1, ax_st2, ax_kl, ax_k2, ax_fit, ax_rtok, List.getElem?_cons_zero, List.getElem?_cons_succ, List.length_cons, List.length_nil, List.set_cons_zero, List.set_cons_succ, Nat.reduceAdd, Nat.reduceDiv, Nat.reduceMod, Nat.reduceMul, Nat.reduceLT, Nat.reduceLeDiff, Int32.reduceOfInt, Int64.reduceOfInt, true_and, and_true, and_self, true_or, or_true, false_implies, true_implies, not_false_eq_true, not_true_eq_false, Value.category, Nat.reduceEqDiff, Option.toList, List.cons_append, List.nil_append, List.drop_succ_cons, List.drop_zero, ax_qq_eq, ax_t_1436]
  rw [ax_n_1436_2]
  exact LL 12 es a ct [] none rfl (Nat.le_refl _) rfl X (fun i hi => absurd hi (Nat.not_lt_zero i)) (fun j _ => rfl) (fun j _ => rfl)
/-- what is told once: which, and whether it was told -/
theorem mk_onceGate (hal : ax_al n = 178) (ht : zT_ok t) (h : rS es t c a 0 v) {o : zO} (ho : v.2.2.1 = zoR o) (h1 : ¬ zok (zkd t a) → ∀ es', rS es' t c a (nI (1 + 16 * zpl t a)) v → rFl (nI (1 + 16 * zpl t a)) → (∀ j, j ≠ 159 → es' j = es j) → Q none es') (h3 : zok (zkd t a) → zon o (zkd t a) = true → ∀ es', rS es' t c a (nI (3 + 16 * zpl t a)) v → rFl (nI (3 + 16 * zpl t a)) → (∀ j, j ≠ 159 → es' j = es j) → Q none es') (hyes : zok (zkd t a) → zon o (zkd t a) = false → ax_J ax_W (d + 3) n sl 1435 66 [some (.ref 159), some (.int (nI (zkk (zkd t a))))] [] n sl es (ax_qq n sl Q)) : ax_Mt (d + 3) 1435 [.ref 159] n sl es Q := by
  have w0 : es 159 = _ := h.1
  have c10 : ¬ (1 : Int32) = 0 := by decide
  have c00 : (0 : Int32) ≤ 0 := by decide
  have told : zok (zkd t a) → ax_J ax_W (d + 3) n sl 1435 41 [some (.ref 159), some (.int (nI (zkk (zkd t a))))] [] n sl es (ax_qq n sl Q) := by
    intro hk
    have e := zoR_on o hk
    cases hz : zon o (zkd t a)
    · have e : ¬ zoR o >>> (nI (zkk (zkd t a)) &&& 31) &&& 1 = 1 := by rw [e, hz]; decide
      have hyes := hyes hk hz
      simp only [ax_W_cons, ax_I, ax_cmp, ax_ii, ax_ll, ax_li, ax_st1, ax_st2, ax_kl, ax_k2, ax_fit, ax_rtok, List.getElem?_cons_zero, List.getElem?_cons_succ, List.length_cons, List.length_nil, List.set_cons_zero, List.set_cons_succ, Nat.reduceAdd, Nat.reduceDiv, Nat.reduceMod, Nat.reduceMul, Nat.reduceLT, Nat.reduceLeDiff, Int32.reduceOfInt, Int64.reduceOfInt, true_and, and_true, and_self, true_or, or_true, false_implies, true_implies, not_false_eq_true, not_true_eq_false, Value.category, Nat.reduceEqDiff, Option.toList, List.cons_append, List.nil_append, List.drop_succ_cons, List.drop_zero, ax_qq_eq, ax_t_1435, ax_j_1435_41, ax_n_1435_41, ax_j_1435_58, ax_n_1435_58, w0, mo_f, hal, ho, e, c00]
      exact hyes
    · have e : zoR o >>> (nI (zkk (zkd t a)) &&& 31) &&& 1 = 1 := by rw [e, hz]
      simp only [ax_W_cons, ax_I, ax_cmp, ax_ii, ax_ll, ax_li, ax_st1, ax_st2, ax_kl, ax_k2, ax_fit, ax_rtok, List.getElem?_cons_zero, List.getElem?_cons_succ, List.length_cons, List.length_nil, List.set_cons_zero, List.set_cons_succ, Nat.reduceAdd, Nat.reduceDiv, Nat.reduceMod, Nat.reduceMul, Nat.reduceLT, Nat.reduceLeDiff, Int32.reduceOfInt, Int64.reduceOfInt, true_and, and_true, and_self, true_or, or_true, false_implies, true_implies, not_false_eq_true, not_true_eq_false, Value.category, Nat.reduceEqDiff, Option.toList, List.cons_append, List.nil_append, List.drop_succ_cons, List.drop_zero, ax_qq_eq, ax_t_1435, ax_j_1435_41, ax_n_1435_41, w0, mo_f, hal, ho, e]
      refine ax_inv_of (Nat.le_of_ble_eq_true rfl) (Nat.le_of_ble_eq_true rfl) (fun _ => rS_rcv hal h _) (fun h => absurd h (by decide)) (Nat.le_refl _) (Nat.le_refl _) (mk_wrong0 (k := 3) hal ht h (by decide) (by decide) ?_)
      intro es1 S1 g1 f1
      have v0 : es1 159 = _ := S1.1
      have g2 := g1.2
      simp only [ax_W_cons, ax_I, ax_cmp, ax_ii, ax_ll, ax_li, ax_st1, ax_st2, ax_kl, ax_k2, ax_fit, ax_rtok, List.getElem?_cons_zero, List.getElem?_cons_succ, List.length_cons, List.length_nil, List.set_cons_zero, List.set_cons_succ, Nat.reduceAdd, Nat.reduceDiv, Nat.reduceMod, Nat.reduceMul, Nat.reduceLT, Nat.reduceLeDiff, Int32.reduceOfInt, Int64.reduceOfInt, true_and, and_true, and_self, true_or, or_true, false_implies, true_implies, not_false_eq_true, not_true_eq_false, Value.category, Nat.reduceEqDiff, Option.toList, List.cons_append, List.nil_append, List.drop_succ_cons, List.drop_zero, ax_qq_eq, ax_t_1435, ax_j_1435_58, ax_n_1435_58, v0, mo_f, hal, g2]
      exact h3 hk hz es1 S1 g1 f1
  refine ax_Mt_go (m := ax_m_11_27) (ls := [some (.ref 159), none]) rfl ax_b_1435_0 (Nat.le_of_ble_eq_true rfl) rfl ?_
  simp only [ax_W_cons, ax_I, ax_cmp, ax_ii, ax_ll, ax_li, ax_st1, ax_st2, ax_kl, ax_k2, ax_fit, ax_rtok, List.getElem?_cons_zero, List.getElem?_cons_succ, List.length_cons, List.length_nil, List.set_cons_zero, List.set_cons_succ, Nat.reduceAdd, Nat.reduceDiv, Nat.reduceMod, Nat.reduceMul, Nat.reduceLT, Nat.reduceLeDiff, Int32.reduceOfInt, Int64.reduceOfInt, true_and, and_true, and_self, true_or, or_true, false_implies, true_implies, not_false_eq_true, not_true_eq_false, Value.category, Nat.reduceEqDiff, Option.toList, List.cons_append, List.nil_append, List.drop_succ_cons, List.drop_zero, ax_qq_eq, ax_t_1435]
  refine ax_inv_of (Nat.le_of_ble_eq_true rfl) (Nat.le_of_ble_eq_true rfl) (fun _ => rS_rcv hal h _) (fun h => absurd h (by decide)) (Nat.le_refl _) (Nat.le_refl _) (mk_isWord (x := 0) hal ht h (by decide) ?_)
  by_cases h0 : zkd t a = 0
  · rw [decide_eq_true ⟨rfl, h0⟩]
    have td := told (Or.inl h0)
    have e0 : nI (zkk (zkd t a)) = 0 := by rw [h0]; rfl
    rw [e0] at td
    simp only [ax_W_cons, ax_I, ax_cmp, ax_ii, ax_ll, ax_li, ax_st1, ax_st2, ax_kl, ax_k2, ax_fit, ax_rtok, List.getElem?_cons_zero, List.getElem?_cons_succ, List.length_cons, List.length_nil, List.set_cons_zero, List.set_cons_succ, Nat.reduceAdd, Nat.reduceDiv, Nat.reduceMod, Nat.reduceMul, Nat.reduceLT, Nat.reduceLeDiff, Int32.reduceOfInt, Int64.reduceOfInt, true_and, and_true, and_self, true_or, or_true, false_implies, true_implies, not_false_eq_true, not_true_eq_false, Value.category, Nat.reduceEqDiff, Option.toList, List.cons_append, List.nil_append, List.drop_succ_cons, List.drop_zero, ax_qq_eq, ax_t_1435, ax_j_1435_20, ax_n_1435_20, kx_bt, c10]
    refine ax_inv_of (Nat.le_of_ble_eq_true rfl) (Nat.le_of_ble_eq_true rfl) (fun _ => rS_rcv hal h _) (fun h => absurd h (by decide)) (Nat.le_refl _) (Nat.le_refl _) (mk_isWord (x := 0) hal ht h (by decide) ?_)
    rw [decide_eq_true ⟨rfl, h0⟩]
    simp only [ax_W_cons, ax_I, ax_cmp, ax_ii, ax_ll, ax_li, ax_st1, ax_st2, ax_kl, ax_k2, ax_fit, ax_rtok, List.getElem?_cons_zero, List.getElem?_cons_succ, List.length_cons, List.length_nil, List.set_cons_zero, List.set_cons_succ, Nat.reduceAdd, Nat.reduceDiv, Nat.reduceMod, Nat.reduceMul, Nat.reduceLT, Nat.reduceLeDiff, Int32.reduceOfInt, Int64.reduceOfInt, true_and, and_true, and_self, true_or, or_true, false_implies, true_implies, not_false_eq_true, not_true_eq_false, Value.category, Nat.reduceEqDiff, Option.toList, List.cons_append, List.nil_append, List.drop_succ_cons, List.drop_zero, ax_qq_eq, ax_t_1435, kx_bt, c10]
    exact td
  · rw [decide_eq_false (fun z => h0 z.2)]
    simp only [ax_W_cons, ax_I, ax_cmp, ax_ii, ax_ll, ax_li, ax_st1, ax_st2, ax_kl, ax_k2, ax_fit, ax_rtok, List.getElem?_cons_zero, List.getElem?_cons_succ, List.length_cons, List.length_nil, List.set_cons_zero, List.set_cons_succ, Nat.reduceAdd, Nat.reduceDiv, Nat.reduceMod, Nat.reduceMul, Nat.reduceLT, Nat.reduceLeDiff, Int32.reduceOfInt, Int64.reduceOfInt, true_and, and_true, and_self, true_or, or_true, false_implies, true_implies, not_false_eq_true, not_true_eq_false, Value.category, Nat.reduceEqDiff, Option.toList, List.cons_append, List.nil_append, List.drop_succ_cons, List.drop_zero, ax_qq_eq, ax_t_1435, ax_j_1435_12, ax_n_1435_12, kx_bf]
    refine ax_inv_of (Nat.le_of_ble_eq_true rfl) (Nat.le_of_ble_eq_true rfl) (fun _ => rS_rcv hal h _) (fun h => absurd h (by decide)) (Nat.le_refl _) (Nat.le_refl _) (mk_wordHere (fr := 4) (m := 3) hal ht h (by decide) ?_)
    by_cases hk : 4 ≤ zkd t a ∧ zkd t a < 7
    · rw [zWh_in hk.1 hk.2]
      have td := told (by unfold zok; omega)
      have e0 : nI (zkd t a - 4) + 1 = nI (zkk (zkd t a)) := by
        rw [← nI_succ]
        unfold zkk
        rw [if_neg h0]
        congr 1
        omega
      have e1 : ¬ nI (zkk (zkd t a)) = 0 := nI_ne0 (by unfold zkk; rw [if_neg h0]; omega) (by unfold zkk; rw [if_neg h0]; omega)
      simp only [ax_W_cons, ax_I, ax_cmp, ax_ii, ax_ll, ax_li, ax_st1, ax_st2, ax_kl, ax_k2, ax_fit, ax_rtok, List.getElem?_cons_zero, List.getElem?_cons_succ, List.length_cons, List.length_nil, List.set_cons_zero, List.set_cons_succ, Nat.reduceAdd, Nat.reduceDiv, Nat.reduceMod, Nat.reduceMul, Nat.reduceLT, Nat.reduceLeDiff, Int32.reduceOfInt, Int64.reduceOfInt, true_and, and_true, and_self, true_or, or_true, false_implies, true_implies, not_false_eq_true, not_true_eq_false, Value.category, Nat.reduceEqDiff, Option.toList, List.cons_append, List.nil_append, List.drop_succ_cons, List.drop_zero, ax_qq_eq, ax_t_1435, ax_j_1435_20, ax_n_1435_20, e0, e1]
      exact td
    · rw [zWh_out (fun z => hk z.2)]
      have e0 : (-1 : Int32) + 1 = 0 := by decide
      simp only [ax_W_cons, ax_I, ax_cmp, ax_ii, ax_ll, ax_li, ax_st1, ax_st2, ax_kl, ax_k2, ax_fit, ax_rtok, List.getElem?_cons_zero, List.getElem?_cons_succ, List.length_cons, List.length_nil, List.set_cons_zero, List.set_cons_succ, Nat.reduceAdd, Nat.reduceDiv, Nat.reduceMod, Nat.reduceMul, Nat.reduceLT, Nat.reduceLeDiff, Int32.reduceOfInt, Int64.reduceOfInt, true_and, and_true, and_self, true_or, or_true, false_implies, true_implies, not_false_eq_true, not_true_eq_false, Value.category, Nat.reduceEqDiff, Option.toList, List.cons_append, List.nil_append, List.drop_succ_cons, List.drop_zero, ax_qq_eq, ax_t_1435, ax_j_1435_20, ax_n_1435_20, e0]
      refine ax_inv_of (Nat.le_of_ble_eq_true rfl) (Nat.le_of_ble_eq_true rfl) (fun _ => rS_rcv hal h _) (fun h => absurd h (by decide)) (Nat.le_refl _) (Nat.le_refl _) (mk_isWord (x := 0) hal ht h (by decide) ?_)
      rw [decide_eq_false (fun z => h0 z.2)]
      simp only [ax_W_cons, ax_I, ax_cmp, ax_ii, ax_ll, ax_li, ax_st1, ax_st2, ax_kl, ax_k2, ax_fit, ax_rtok, List.getElem?_cons_zero, List.getElem?_cons_succ, List.length_cons, List.length_nil, List.set_cons_zero, List.set_cons_succ, Nat.reduceAdd, Nat.reduceDiv, Nat.reduceMod, Nat.reduceMul, Nat.reduceLT, Nat.reduceLeDiff, Int32.reduceOfInt, Int64.reduceOfInt, true_and, and_true, and_self, true_or, or_true, false_implies, true_implies, not_false_eq_true, not_true_eq_false, Value.category, Nat.reduceEqDiff, Option.toList, List.cons_append, List.nil_append, List.drop_succ_cons, List.drop_zero, ax_qq_eq, ax_t_1435, kx_bf]
      refine ax_inv_of (Nat.le_of_ble_eq_true rfl) (Nat.le_of_ble_eq_true rfl) (fun _ => rS_rcv hal h _) (fun h => absurd h (by decide)) (Nat.le_refl _) (Nat.le_refl _) (mk_wrong0 (k := 1) hal ht h (by decide) (by decide) ?_)
      intro es1 S1 g1 f1
      have v0 : es1 159 = _ := S1.1
      have g2 := g1.2
      simp only [ax_W_cons, ax_I, ax_cmp, ax_ii, ax_ll, ax_li, ax_st1, ax_st2, ax_kl, ax_k2, ax_fit, ax_rtok, List.getElem?_cons_zero, List.getElem?_cons_succ, List.length_cons, List.length_nil, List.set_cons_zero, List.set_cons_succ, Nat.reduceAdd, Nat.reduceDiv, Nat.reduceMod, Nat.reduceMul, Nat.reduceLT, Nat.reduceLeDiff, Int32.reduceOfInt, Int64.reduceOfInt, true_and, and_true, and_self, true_or, or_true, false_implies, true_implies, not_false_eq_true, not_true_eq_false, Value.category, Nat.reduceEqDiff, Option.toList, List.cons_append, List.nil_append, List.drop_succ_cons, List.drop_zero, ax_qq_eq, ax_t_1435, ax_j_1435_58, ax_n_1435_58, v0, mo_f, hal, g2]
      exact h1 (fun z => by unfold zok at z; omega) es1 S1 g1 f1
end TT
