/-! the reference: it begins; its court told -/
def mY (es : ax_H) (t : zTp) (cs : List zCr) (w : mW9) : Prop := w.1 = nI t.1 ∧ mTp es t ∧ rTs es ∧ rW es ∧ (∃ rn, es 169 = .inl (3, 6, .inr (.inl rn))) ∧ cs.length ≤ 6 ∧ (∃ nm, es 168 = .inl (3, 6, .inr (.inl nm)) ∧ ∀ i, i < cs.length → nm i = nL (zv37 (cs.getD i zC0).2.2.2) ∧ zWd (cs.getD i zC0).2.2.2) ∧ w.2.2.2.2.2.1 = nI cs.length
def rcpy (F : Nat → Int32) (N i : Nat) : Nat → Int32 := fun j => if j < i then F (N + j) else F j
def rcpL (F G : Nat → Int64) (i : Nat) : Nat → Int64 := fun j => if j < i then F j else G j
theorem rcpy_0 (F : Nat → Int32) (N : Nat) : rcpy F N 0 = F := by
  funext j
  unfold rcpy
  rw [if_neg (Nat.not_lt_zero j)]
theorem rcpy_s (F : Nat → Int32) (N i : Nat) : upd (rcpy F N i) i (F (N + i)) = rcpy F N (i + 1) := by
  funext j
  unfold rcpy upd
  by_cases h : j = i
  · rw [if_pos h, if_pos (by omega), h]
  · rw [if_neg h]
    dsimp only
    by_cases h2 : j < i
    · rw [if_pos h2, if_pos (by omega)]
    · rw [if_neg h2, if_neg (by omega)]
theorem rcpy_at (F : Nat → Int32) {N i : Nat} (h : i ≤ N) : rcpy F N i (N + i) = F (N + i) := by
  unfold rcpy
  rw [if_neg (by omega)]
theorem rcpy_in (F : Nat → Int32) (N : Nat) {i j : Nat} (h : j < i) : rcpy F N i j = F (N + j) := by
  unfold rcpy
  rw [if_pos h]
theorem rcpL_0 (F G : Nat → Int64) : rcpL F G 0 = G := by
  funext j
  unfold rcpL
  rw [if_neg (Nat.not_lt_zero j)]
theorem rcpL_s (F G : Nat → Int64) (i : Nat) : vp_updL (rcpL F G i) i (F i) = rcpL F G (i + 1) := by
  funext j
  by_cases h : j = i
  · rw [h, updL_same]
    unfold rcpL
    rw [if_pos (by omega)]
  · rw [updL_ne _ _ h]
    unfold rcpL
    by_cases h2 : j < i
    · rw [if_pos h2, if_pos (by omega)]
    · rw [if_neg h2, if_neg (by omega)]
theorem mo_run_c {g op ar op' ar' : Nat → Int32} {a : Nat} {s : Nat → Int32} {N : Nat} (h : ∀ j, j < N → op' j = op j ∧ ar' j = ar j) : ∀ m, a + m ≤ N → mo_run g op' ar' a s m = mo_run g op ar a s m
  | 0, _ => rfl
  | m + 1, hm => by
    rw [mo_run, mo_run, mo_run_c h m (by omega), (h (a + m) (by omega)).1, (h (a + m) (by omega)).2]
theorem ml_low {op ar op' ar' : Nat → Int32} {a : Nat} {G : (Nat → Int32) → Int32} (hl : rlow op ar op' ar') (h : ml_ok op ar a G) : ml_ok op' ar' a G := by
  obtain ⟨len, h1, h2, h3, h4⟩ := h
  refine ⟨len, h1, by rw [(hl _ h1).1]; exact h2, fun g s m hm => ?_, fun g s => ?_⟩
  · rw [mo_run_c (N := 1100) hl m (by omega), (hl _ (by omega)).1, (hl _ (by omega)).2]
    exact h3 g s m hm
  · rw [mo_run_c (N := 1100) hl len (by omega)]
    exact h4 g s
theorem mLw_low {ct ct' op ar op' ar' : Nat → Int32} {F1 F2 : Int32 → Int32 → Int32 → Int32 → Int32} (hc : rct ct ct') (hl : rlow op ar op' ar') (h : mLw ct op ar F1 F2) : mLw ct' op' ar' F1 F2 := by
  obtain ⟨h1, h2⟩ := h
  unfold mLw
  rw [hc 3 (by decide), hc 4 (by decide)]
  constructor
  · rcases h1 with h1 | ⟨a, h1, h3⟩
    · exact Or.inl h1
    · exact Or.inr ⟨a, h1, ml_low hl h3⟩
  · rcases h2 with h2 | ⟨a, h2, h3⟩
    · exact Or.inl h2
    · exact Or.inr ⟨a, h2, ml_low hl h3⟩
theorem mCt_low {ct ct' : Nat → Int32} {k p hc : Nat} {kd pm ht hs : Nat → Int32} (hp : p ≤ 6) (hh : hc ≤ 12) (hc' : rct ct ct') (h : mCt ct k p hc kd pm ht hs) : mCt ct' k p hc kd pm ht hs := by
  obtain ⟨h1, h2, h3, h4, h5⟩ := h
  refine ⟨(hc' 0 (by decide)).trans h1, (hc' 1 (by decide)).trans h2, (hc' 2 (by decide)).trans h3, fun i hi => ?_, fun i hi => (hc' _ (by omega)).trans (h5 i hi)⟩
  obtain ⟨q1, q2, q3⟩ := h4 i hi
  exact ⟨(hc' _ (by omega)).trans q1, (hc' _ (by omega)).trans q2, (hc' _ (by omega)).trans q3⟩
section MM
variable {d n sl k p hc : Nat} {es : ax_H} {kd pm ht hs pl0 : Nat → Int32} {F1 F2 : Int32 → Int32 → Int32 → Int32 → Int32} {st : Nat → Int32} {w : mW9} {Q : Option Value → ax_H → Prop}
theorem mk_begins (hal : ax_al n = 178) (hK : mK es k p hc kd pm ht hs F1 F2) (hX : mX es st) (hk0 : 0 < k) (hk : k ≤ 12) (hp : p ≤ 6) (hP : zPm k p pm pl0) {th un : Int32} {g : Int64} (hO : mOb es th w un g) {mb ln : Nat → Int32} (hM : es 174 = .inl (2, 4, .inl mb)) (hL : es 170 = .inl (0, 250, .inl ln)) (hQ : ∀ es' st' mb' ln', mOb es' th w 0 g → mX es' st' → mV st' 0 k p 0 0 (fun _ => 0) pl0 (fun _ => 0) → st' 26 = 0 → es' 174 = .inl (2, 4, .inl mb') → (∀ m, m < 4 → mb' m = 0) → es' 170 = .inl (0, 250, .inl ln') → ln' 0 = 0 → (∀ j, j ≠ 159 ∧ j ≠ 170 ∧ j ≠ 171 ∧ j ≠ 172 ∧ j ≠ 173 ∧ j ≠ 174 ∧ j ≠ 175 → es' j = es j) → Q none es') : ax_Mt (d + 2) 1448 [.ref 159] n sl es Q := by
  have hO : es 159 = _ := hO
  refine ax_Mt_go (m := ax_m_11_40) (ls := [some (.ref 159), none]) rfl ax_b_1448_0 (Nat.le_of_ble_eq_true rfl) rfl ?_
  simp only [ax_W_cons, ax_I, ax_cmp, ax_ii, ax_ll, ax_li, ax_st1, ax_st2, ax_kl, ax_k2, ax_fit, ax_rtok, List.getElem?_cons_zero, List.getElem?_cons_succ, List.length_cons, List.length_nil, List.set_cons_zero, List.set_cons_succ, Nat.reduceAdd, Nat.reduceDiv, Nat.reduceMod, Nat.reduceMul, Nat.reduceLT, Nat.reduceLeDiff, Int32.reduceOfInt, Int64.reduceOfInt, true_and, and_true, and_self, true_or, or_true, false_implies, true_implies, not_false_eq_true, not_true_eq_false, Value.category, Nat.reduceEqDiff, Option.toList, List.cons_append, List.nil_append, List.drop_succ_cons, List.drop_zero, ax_qq_eq, ax_t_1448]
  refine ax_inv_of (Nat.le_of_ble_eq_true rfl) (Nat.le_of_ble_eq_true rfl) (fun _ => ax_rcv_ok (by omega) hO) (fun h => absurd h (by decide)) (Nat.le_refl _) (Nat.le_refl _) (mk_starts (b := 0) hal hK hX hk0 hk hp (by decide) hP ?_)
  intro es1 st1 f1 X1 g1 V1
  obtain ⟨x1, ⟨fa, x2⟩, ⟨pi, x3⟩, wa, x4⟩ := id X1
  have w0 := (f1 159 (by decide)).trans hO
  have w7 := (f1 170 (by decide)).trans hL
  have w4 := (f1 174 (by decide)).trans hM
  have e26 : vp_in 26 1196 := nI_in (show 26 < 1196 by decide) (by decide)
  have e26' : (26 : Int32).toNatClampNeg = 26 := by decide
  have e00 : vp_in 0 250 := nI_in (show 0 < 250 by decide) (by decide)
  have e00' : (0 : Int32).toNatClampNeg = 0 := by decide
  simp only [ax_W_cons, ax_I, ax_cmp, ax_ii, ax_ll, ax_li, ax_st1, ax_st2, ax_kl, ax_k2, ax_fit, ax_rtok, List.getElem?_cons_zero, List.getElem?_cons_succ, List.length_cons, List.length_nil, List.set_cons_zero, List.set_cons_succ, Nat.reduceAdd, Nat.reduceDiv, Nat.reduceMod, Nat.reduceMul, Nat.reduceLT, Nat.reduceLeDiff, Int32.reduceOfInt, Int64.reduceOfInt, true_and, and_true, and_self, true_or, or_true, false_implies, true_implies, not_false_eq_true, not_true_eq_false, Value.category, Nat.reduceEqDiff, Option.toList, List.cons_append, List.nil_append, List.drop_succ_cons, List.drop_zero, ax_qq_eq, ax_t_1448, w0, w7, x1, mo_f, hal, e26, e26', e00, e00', ax_up_same, ax_up_ne, ne_eq]
  obtain ⟨es2, he2⟩ : ∃ x, x = ax_up (ax_up (ax_up es1 173 (.inl (0, 1196, .inl (upd st1 26 0)))) 170 (.inl (0, 250, .inl (upd ln 0 0)))) 159 (.inr (11, mo_f th w.1 w.2.1 w.2.2.1 w.2.2.2.1 w.2.2.2.2.1 w.2.2.2.2.2.1 w.2.2.2.2.2.2.1 w.2.2.2.2.2.2.2.1 w.2.2.2.2.2.2.2.2 0 g)) := ⟨_, rfl⟩
  have f2 : ∀ j, j ≠ 173 → j ≠ 170 → j ≠ 159 → es2 j = es1 j := fun j z1 z2 z3 => by rw [he2, ax_up_ne _ _ z3, ax_up_ne _ _ z2, ax_up_ne _ _ z1]
  have y0 : mOb es2 th w 0 g := by rw [he2]; exact ax_up_same ..
  have y3 : es2 173 = .inl (0, 1196, .inl (upd st1 26 0)) := by rw [he2, ax_up_ne _ _ (by decide), ax_up_ne _ _ (by decide), ax_up_same]
  have y7 : es2 170 = .inl (0, 250, .inl (upd ln 0 0)) := by rw [he2, ax_up_ne _ _ (by decide), ax_up_same]
  have y4 := (f2 174 (by decide) (by decide) (by decide)).trans w4
  have X2 : mX es2 (upd st1 26 0) := ⟨y3, ⟨fa, (f2 171 (by decide) (by decide) (by decide)).trans x2⟩, ⟨pi, (f2 172 (by decide) (by decide) (by decide)).trans x3⟩, wa, (f2 175 (by decide) (by decide) (by decide)).trans x4⟩
  have V2 : mV (upd st1 26 0) 0 k p 0 0 (fun _ => 0) pl0 (fun _ => 0) := by
    obtain ⟨v1, v2, v3, v4, v5⟩ := V1
    exact ⟨by rw [upd_ne _ _ (by decide)]; exact v1, by rw [upd_ne _ _ (by decide)]; exact v2, fun i hi => by rw [upd_ne _ _ (by omega)]; exact v3 i hi, fun i hi => by rw [upd_ne _ _ (by omega)]; exact v4 i hi, fun i hi => by rw [upd_ne _ _ (by omega)]; exact v5 i hi⟩
  unfold mo_f at he2
  rw [← he2, ax_n_1448_27]
  clear he2
  have n0 : vp_nar .boolean 0 = 0 := by decide
  have y0' : es2 159 = _ := y0
  have L := kx_down (k := 4) (I := fun f i => ∀ mb1 es3, es3 174 = .inl (2, 4, .inl mb1) → (∀ m, m < i → mb1 m = 0) → (∀ j, j ≠ 174 → es3 j = es2 j) → ax_W (d + 2) n sl 1448 [(1, .iload 1), (1, .iconst 4), (3, .if_icmp .ge 45), (1, .aload 0), (3, .getfield 2918), (1, .iload 1), (1, .iconst 0), (1, .bastore), (3, .iinc 1 1), (3, .goto 27)] 27 [some (.ref 159), some (.int (nI i))] [] n sl es3 (ax_qq n sl Q)) ?_ ?_ 4 0 (by omega)
  · exact L mb es2 y4 (fun m hm => by omega) (fun j _ => rfl)
  · intro mb1 es3 h1 h2 h3
    have e0 : (4 : Int32) ≤ nI 4 := by decide
    simp only [ax_W_cons, ax_I, ax_cmp, ax_ii, ax_ll, ax_li, ax_st1, ax_st2, ax_kl, ax_k2, ax_fit, ax_rtok, List.getElem?_cons_zero, List.getElem?_cons_succ, List.length_cons, List.length_nil, List.set_cons_zero, List.set_cons_succ, Nat.reduceAdd, Nat.reduceDiv, Nat.reduceMod, Nat.reduceMul, Nat.reduceLT, Nat.reduceLeDiff, Int32.reduceOfInt, Int64.reduceOfInt, true_and, and_true, and_self, true_or, or_true, false_implies, true_implies, not_false_eq_true, not_true_eq_false, Value.category, Nat.reduceEqDiff, Option.toList, List.cons_append, List.nil_append, List.drop_succ_cons, List.drop_zero, ax_qq_eq, ax_t_1448, ax_j_1448_45, ax_n_1448_45, e0]
    refine hQ es3 _ mb1 _ ((h3 159 (by decide)).trans y0) ?_ V2 (upd_same ..) h1 h2 ((h3 170 (by decide)).trans y7) (upd_same ..) (fun j hj => ?_)
    · obtain ⟨q1, ⟨fa, q2⟩, ⟨pi, q3⟩, wa, q4⟩ := X2
      exact ⟨(h3 173 (by decide)).trans q1, ⟨fa, (h3 171 (by decide)).trans q2⟩, ⟨pi, (h3 172 (by decide)).trans q3⟩, wa, (h3 175 (by decide)).trans q4⟩
    · rw [h3 j hj.2.2.2.2.2.1, f2 j hj.2.2.2.2.1 hj.2.1 hj.1]
      exact f1 j ⟨hj.2.2.1, hj.2.2.2.1, hj.2.2.2.2.1, hj.2.2.2.2.2.2⟩
  · intro f i hi ih mb1 es3 h1 h2 h3
    have e0 : ¬ (4 : Int32) ≤ nI i := nI_ge (b := 4) (by omega) (by decide)
    have i4 : nI i + 1 = nI (i + 1) := (nI_succ i).symm
    have i1 : vp_in (nI i) 4 := nI_in (by omega) (by decide)
    have i2 : (nI i).toNatClampNeg = i := nI_clamp (by omega)
    have z0 := (h3 159 (by decide)).trans y0'
    simp only [ax_W_cons, ax_I, ax_cmp, ax_ii, ax_ll, ax_li, ax_st1, ax_st2, ax_kl, ax_k2, ax_fit, ax_rtok, List.getElem?_cons_zero, List.getElem?_cons_succ, List.length_cons, List.length_nil, List.set_cons_zero, List.set_cons_succ, Nat.reduceAdd, Nat.reduceDiv, Nat.reduceMod, Nat.reduceMul, Nat.reduceLT, Nat.reduceLeDiff, Int32.reduceOfInt, Int64.reduceOfInt, true_and, and_true, and_self, true_or, or_true, false_implies, true_implies, not_false_eq_true, not_true_eq_false, Value.category, Nat.reduceEqDiff, Option.toList, List.cons_append, List.nil_append, List.drop_succ_cons, List.drop_zero, ax_qq_eq, ax_t_1448, e0, z0, h1, mo_f, hal, i1, i2, i4, n0]
    rw [ax_j_1448_27]
    refine ih _ _ (ax_up_same ..) (fun m hm => ?_) (fun j hj => by rw [ax_up_ne _ _ hj]; exact h3 j hj)
    by_cases e : m = i
    · rw [e, upd_same]
    · rw [upd_ne _ _ e]
      exact h2 m (by omega)
end MM
