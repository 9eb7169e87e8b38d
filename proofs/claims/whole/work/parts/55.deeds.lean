/-! the reference: deeds, undoing, marks -/
abbrev mW9 : Type := Int32 × Int32 × Int32 × Int32 × Int32 × Int32 × Int32 × Int32 × Int32
def mOb (es : ax_H) (t : Int32) (w : mW9) (un : Int32) (g : Int64) : Prop := es 159 = .inr (11, mo_f t w.1 w.2.1 w.2.2.1 w.2.2.2.1 w.2.2.2.2.1 w.2.2.2.2.2.1 w.2.2.2.2.2.2.1 w.2.2.2.2.2.2.2.1 w.2.2.2.2.2.2.2.2 un g)
/-- a bowl: the beat, cracks, shakes, places, done -/
abbrev zB : Type := Nat × Nat × (Nat → Int32) × (Nat → Int32) × (Nat → Int32)
/-- what was felt -/
abbrev zF : Type := Nat × (Nat → Int32) × (Nat → Int32) × (Nat → Int32)
def zB_ok (k p N : Nat) (B : zB) : Prop := zv k p B.2.1 B.2.2.1 B.2.2.2.1 ∧ B.1 ≤ N ∧ zdn p B.1 B.2.2.2.2
def zF_ok (k : Nat) (f : zF) : Prop := zfi k f.1 f.2.1 f.2.2.1 f.2.2.2
def mVb (st : Nat → Int32) (b k p : Nat) (B : zB) : Prop := mV st b k p B.1 B.2.1 B.2.2.1 B.2.2.2.1 B.2.2.2.2
def mFb (st : Nat → Int32) (b : Nat) (f : zF) : Prop := st (b + 26) = nI f.1 ∧ ∀ i, i < f.1 → st (b + 27 + 3 * i) = f.2.1 i ∧ st (b + 27 + 3 * i + 1) = f.2.2.1 i ∧ st (b + 27 + 3 * i + 2) = f.2.2.2 i
def mRow (st : Nat → Int32) (k p : Nat) (B : zB) (Fe : zF) (un : Nat) (U : Nat → zB) (mk : Nat → Bool) (M : Nat → zB × zF) : Prop := mVb st 0 k p B ∧ mFb st 0 Fe ∧ (∀ u, u < un → mVb st (52 * (5 + u)) k p (U u)) ∧ ∀ m, m < 4 → mk m = true → mVb st (52 * (1 + m)) k p (M m).1 ∧ mFb st (52 * (1 + m)) (M m).2
def zun (un : Nat) : Nat := if un = 16 then 16 else un + 1
def zpush (U : Nat → zB) (un : Nat) (B : zB) : Nat → zB := fun u => if un = 16 then (if u < 15 then U (u + 1) else B) else (if u < un then U u else B)
def mMk (es : ax_H) (mk : Nat → Bool) : Prop := ∃ mb, es 174 = .inl (2, 4, .inl mb) ∧ ∀ m, m < 4 → mb m = kx_b (mk m)
def mD (es : ax_H) (n : Nat) (st : Nat → Int32) (w : mW9) (k p hc : Nat) (kd pm ht hs : Nat → Int32) (F1 F2 : Int32 → Int32 → Int32 → Int32 → Int32) (B : zB) (Fe : zF) (un : Nat) (U : Nat → zB) (mk : Nat → Bool) (M : Nat → zB × zF) : Prop := mE es n k p hc kd pm ht hs F1 F2 ∧ mX es st ∧ (∃ t g, mOb es t w (nI un) g) ∧ un ≤ 16 ∧ mRow st k p B Fe un U mk M ∧ mMk es mk ∧ ∃ al, es 176 = .inl (0, 1200, .inl al)
/-- what a deed leaves as it is -/
def mfd (es es' : ax_H) : Prop := ∀ j, j ≠ 159 ∧ j ≠ 171 ∧ j ≠ 172 ∧ j ≠ 173 ∧ j ≠ 174 ∧ j ≠ 175 ∧ j ≠ 176 → es' j = es j
theorem mfd_trans {a b c : ax_H} (h1 : mfd a b) (h2 : mfd b c) : mfd a c := fun j hj => (h2 j hj).trans (h1 j hj)
theorem mfr_d {a b : ax_H} (h : mfr a b) : mfd a b := fun j hj => h j ⟨hj.2.1, hj.2.2.1, hj.2.2.2.1, hj.2.2.2.2.2.1⟩
theorem mth_d {a b : ax_H} (h : mth a b) : mfd a b := fun j hj => h.1 j hj.1
theorem mq_d {es es' : ax_H} {st : Nat → Int32} (h : mq es st es') : mfd es es' := fun j hj => h.1 j ⟨hj.1, hj.2.1, hj.2.2.1, hj.2.2.2.1, hj.2.2.2.2.2.1, hj.2.2.2.2.2.2⟩
section MM
variable {d n sl k p hc L N un : Nat} {es : ax_H} {kd pm ht hs pl0 la lb lc : Nat → Int32} {F1 F2 : Int32 → Int32 → Int32 → Int32 → Int32} {st : Nat → Int32} {B : zB} {Fe : zF} {U : Nat → zB} {mk : Nat → Bool} {M : Nat → zB × zF} {w : mW9} {Q : Option Value → ax_H → Prop}
theorem mOb_th {es0 : ax_H} {x : Int32} (h : ∃ t g, mOb es t w x g) (h0 : mob es es0) : ∃ t g, mOb es0 t w x g := by
  obtain ⟨t, g, h⟩ := h
  exact h0 _ _ _ _ _ _ _ _ _ _ _ _ h
theorem mOb_fr {es' : ax_H} {x : Int32} (h : ∃ t g, mOb es t w x g) (hf : es' 159 = es 159) : ∃ t g, mOb es' t w x g := by
  obtain ⟨t, g, h⟩ := h
  exact ⟨t, g, hf.trans h⟩
theorem mVb_q {st' : Nat → Int32} {b : Nat} (hk : k ≤ 12) (hp : p ≤ 6) (h : mVb st b k p B) (hf : ∀ j, b ≤ j → j < b + 26 → st' j = st j) : mVb st' b k p B := by
  obtain ⟨h1, h2, h3, h4, h5⟩ := h
  exact ⟨by rw [hf _ (by omega) (by omega)]; exact h1, by rw [hf _ (by omega) (by omega)]; exact h2, fun c hc => by rw [hf _ (by omega) (by omega)]; exact h3 c hc, fun i hi => by rw [hf _ (by omega) (by omega)]; exact h4 i hi, fun i hi => by rw [hf _ (by omega) (by omega)]; exact h5 i hi⟩
theorem mFb_q {st' : Nat → Int32} {b : Nat} (hz : Fe.1 ≤ 8) (h : mFb st b Fe) (hf : ∀ j, b + 26 ≤ j → j < b + 52 → st' j = st j) : mFb st' b Fe :=
  ⟨by rw [hf _ (by omega) (by omega)]; exact h.1, fun i hi => ⟨by rw [hf _ (by omega) (by omega)]; exact (h.2 i hi).1, by rw [hf _ (by omega) (by omega)]; exact (h.2 i hi).2.1, by rw [hf _ (by omega) (by omega)]; exact (h.2 i hi).2.2⟩⟩
/-- felt rows are few -/
def zFs (Fe : zF) (mk : Nat → Bool) (M : Nat → zB × zF) : Prop := Fe.1 ≤ 8 ∧ ∀ m, m < 4 → mk m = true → (M m).2.1 ≤ 8
theorem mRow_0 {st' : Nat → Int32} {B' : zB} (hk : k ≤ 12) (hp : p ≤ 6) (hun : un ≤ 16) (hz : zFs Fe mk M) (h : mRow st k p B Fe un U mk M) (hf : mfs 0 st st') (hV : mVb st' 0 k p B') : mRow st' k p B' Fe un U mk M := by
  obtain ⟨h1, h2, h3, h4⟩ := h
  exact ⟨hV, mFb_q hz.1 h2 (fun j h5 h6 => hf j (by omega)), fun u hu => mVb_q hk hp (h3 u hu) (fun j h5 h6 => hf j (by omega)), fun m hm hmk => ⟨mVb_q hk hp (h4 m hm hmk).1 (fun j h5 h6 => hf j (by omega)), mFb_q (hz.2 m hm hmk) (h4 m hm hmk).2 (fun j h5 h6 => hf j (by omega))⟩⟩
theorem mRow_q {st' : Nat → Int32} (hk : k ≤ 12) (hp : p ≤ 6) (hun : un ≤ 16) (hz : zFs Fe mk M) (h : mRow st k p B Fe un U mk M) (hf : mfq st st') : mRow st' k p B Fe un U mk M := by
  obtain ⟨h1, h2, h3, h4⟩ := h
  exact ⟨mVb_q hk hp h1 (fun j h5 h6 => hf j (by omega)), mFb_q hz.1 h2 (fun j h5 h6 => hf j (by omega)), fun u hu => mVb_q hk hp (h3 u hu) (fun j h5 h6 => hf j (by omega)), fun m hm hmk => ⟨mVb_q hk hp (h4 m hm hmk).1 (fun j h5 h6 => hf j (by omega)), mFb_q (hz.2 m hm hmk) (h4 m hm hmk).2 (fun j h5 h6 => hf j (by omega))⟩⟩
/-- behind an asking all stands as it did -/
theorem mD_q {es' : ax_H} (hz : zFs Fe mk M) (D : mD es n st w k p hc kd pm ht hs F1 F2 B Fe un U mk M) (h : mq es st es') : ∃ st', mD es' n st' w k p hc kd pm ht hs F1 F2 B Fe un U mk M := by
  obtain ⟨E, hX, hO, hun, hR, ⟨mb, m1, m2⟩, hA⟩ := D
  obtain ⟨h1, h2, st', h3, h4, h5⟩ := h
  obtain ⟨g1, g2, g3, g4, g5, ⟨th, tp, sz, at0, fl, cd, nm, rm, on, fh, un', g, q0⟩, ct, op, ar, q1, q2, q3, q4⟩ := id E
  obtain ⟨th', g', e⟩ := h2 _ _ _ _ _ _ _ _ _ _ _ _ q0
  refine ⟨st', ⟨g1, g2, g3, g4, g5, ⟨th', tp, sz, at0, fl, cd, nm, rm, on, fh, un', g', e⟩, ct, op, ar, by rw [h1 165 (by decide)]; exact q1, by rw [h1 166 (by decide)]; exact q2, by rw [h1 167 (by decide)]; exact q3, q4⟩, h3, mOb_th hO h2, hun, mRow_q g2.2 g3 hun hz hR h4, ⟨mb, (h1 174 (by decide)).trans m1, m2⟩, h5⟩
theorem mD_Z (D : mD es n st w k p hc kd pm ht hs F1 F2 B Fe un U mk M) (hz : zB_ok k p N B) (hN : N < 1000) : mZ es n st k p hc kd pm ht hs F1 F2 B.1 B.2.1 B.2.2.1 B.2.2.2.1 B.2.2.2.2 :=
  ⟨D.1, ⟨D.2.1, D.2.2.2.2.1.1, hz.1⟩, Nat.lt_of_le_of_lt hz.2.1 hN, hz.2.2, D.2.2.2.2.2.2⟩
theorem mD_Fl (D : mD es n st w k p hc kd pm ht hs F1 F2 B Fe un U mk M) : mFl st Fe.1 Fe.2.1 Fe.2.2.1 Fe.2.2.2 := by
  obtain ⟨h1, h2⟩ := D.2.2.2.2.1.2.1
  exact ⟨by rw [Nat.zero_add] at h1; exact h1, fun i hi => by
    have := h2 i hi
    rw [Nat.zero_add] at this
    exact this⟩
theorem mV_mo {x y m : Nat} {b : Nat} (hk : k ≤ 12) (hp : p ≤ 6) (h : mVb st b k p B) (hd : b + 26 ≤ y ∨ y + m ≤ b) : mVb (mo_cp st x y m) b k p B := mVb_q hk hp h (fun j h5 h6 => by
  unfold mo_cp
  rw [if_neg (by omega)])
theorem mF_mo {x y m : Nat} {b : Nat} (hz : Fe.1 ≤ 8) (h : mFb st b Fe) (hd : b + 52 ≤ y ∨ y + m ≤ b + 26) : mFb (mo_cp st x y m) b Fe := mFb_q hz h (fun j h5 h6 => by
  unfold mo_cp
  rw [if_neg (by omega)])
set_option maxRecDepth 20000 in
theorem mk_keeps (hal : ax_al n = 178) {t : Int32} {g : Int64} (hO : mOb es t w (nI un) g) (hX : mX es st) (hk : k ≤ 12) (hp : p ≤ 6) (hun : un ≤ 16) (hz : zFs Fe mk M) (hR : mRow st k p B Fe un U mk M) (hQ : ∀ es' st', (∀ j, j ≠ 159 ∧ j ≠ 171 ∧ j ≠ 172 ∧ j ≠ 173 ∧ j ≠ 175 → es' j = es j) → mOb es' t w (nI (zun un)) g → mX es' st' → mRow st' k p B Fe (zun un) (zpush U un B) mk M → Q none es') : ax_Mt (d + 1) 1449 [.ref 159] n sl es Q := by
  have hO1 : ∀ x e, mOb e t w x g → mO e := fun x e h => ⟨_, _, _, _, _, _, _, _, _, _, _, _, h⟩
  -- the last step: the state is kept at u
  have last : ∀ es1 st1 u (U1 : Nat → zB), u < 16 → (∀ j, j ≠ 159 ∧ j ≠ 171 ∧ j ≠ 172 ∧ j ≠ 173 ∧ j ≠ 175 → es1 j = es j) → mOb es1 t w (nI u) g → mX es1 st1 → mRow st1 k p B Fe u U1 mk M → (∀ es' st', (∀ j, j ≠ 159 ∧ j ≠ 171 ∧ j ≠ 172 ∧ j ≠ 173 ∧ j ≠ 175 → es' j = es j) → mOb es' t w (nI (u + 1)) g → mX es' st' → mRow st' k p B Fe (u + 1) (fun x => if x < u then U1 x else B) mk M → Q none es') → ∀ v1, ax_W (d + 1) n sl 1449 [(1, .aload 0), (1, .iconst 0), (2, .iconst 52), (1, .iconst 5), (1, .aload 0), (3, .getfield 2912), (1, .iadd), (1, .imul), (2, .iconst 26), (3, .invokeinterface 1446 17), (1, .aload 0), (1, .dup), (3, .getfield 2912), (1, .iconst 1), (1, .iadd), (3, .putfield 2912), (1, .return_)] 53 [some (.ref 159), v1] [] n sl es1 (ax_qq n sl Q) := by
    intro es1 st1 u U1 hu i1 i2 i3 i4 hQ v1
    have w0 : es1 159 = _ := i2
    have a1 : (52 : Int32) * (5 + nI u) = nI (52 * (5 + u)) := by
      show nI 52 * (nI 5 + nI u) = _
      rw [kn_add, kn_mul]
    simp only [ax_W_cons, ax_I, ax_cmp, ax_ii, ax_ll, ax_li, ax_st1, ax_st2, ax_kl, ax_k2, ax_fit, ax_rtok, List.getElem?_cons_zero, List.getElem?_cons_succ, List.length_cons, List.length_nil, List.set_cons_zero, List.set_cons_succ, Nat.reduceAdd, Nat.reduceDiv, Nat.reduceMod, Nat.reduceMul, Nat.reduceLT, Nat.reduceLeDiff, Int32.reduceOfInt, Int64.reduceOfInt, true_and, and_true, and_self, true_or, or_true, false_implies, true_implies, not_false_eq_true, not_true_eq_false, Value.category, Nat.reduceEqDiff, Option.toList, List.cons_append, List.nil_append, List.drop_succ_cons, List.drop_zero, ax_qq_eq, ax_t_1449, w0, mo_f, hal, a1]
    refine ax_inv_of (Nat.le_of_ble_eq_true rfl) (Nat.le_of_ble_eq_true rfl) (fun _ => mO_rcv hal (hO1 _ _ i2) _) (fun h => absurd h (by decide)) (Nat.le_refl _) (Nat.le_refl _) (mk_copies hal (hO1 _ _ i2) i3 (x := 0) (y := 52 * (5 + u)) (m := 26) (by omega) (by omega) (by omega) ?_)
    intro es2 f1 f2
    have w1 : es2 159 = _ := (f1 159 (by decide)).trans w0
    have a2 : nI u + 1 = nI (u + 1) := (nI_succ u).symm
    simp only [ax_W_cons, ax_I, ax_cmp, ax_ii, ax_ll, ax_li, ax_st1, ax_st2, ax_kl, ax_k2, ax_fit, ax_rtok, List.getElem?_cons_zero, List.getElem?_cons_succ, List.length_cons, List.length_nil, List.set_cons_zero, List.set_cons_succ, Nat.reduceAdd, Nat.reduceDiv, Nat.reduceMod, Nat.reduceMul, Nat.reduceLT, Nat.reduceLeDiff, Int32.reduceOfInt, Int64.reduceOfInt, true_and, and_true, and_self, true_or, or_true, false_implies, true_implies, not_false_eq_true, not_true_eq_false, Value.category, Nat.reduceEqDiff, Option.toList, List.cons_append, List.nil_append, List.drop_succ_cons, List.drop_zero, ax_qq_eq, ax_t_1449, w1, mo_f, hal, a2]
    obtain ⟨r1, r2, r3, r4⟩ := i4
    refine hQ _ _ (fun j hj => (ax_up_ne _ _ hj.1).trans ((f1 j hj.2).trans (i1 j hj))) (ax_up_same ..) (mX_159 f2) ⟨mV_mo hk hp r1 (by omega), mF_mo hz.1 r2 (by omega), fun x hx => ?_, fun m hm hmk => ⟨mV_mo hk hp (r4 m hm hmk).1 (by omega), mF_mo (hz.2 m hm hmk) (r4 m hm hmk).2 (by omega)⟩⟩
    dsimp only
    by_cases e : x < u
    · rw [if_pos e]
      exact mV_mo hk hp (r3 x e) (by omega)
    · have e2 : x = u := by omega
      subst e2
      rw [if_neg e]
      exact mV_cp (Nat.le_refl _) r1 hk hp
  refine ax_Mt_go (m := ax_m_11_41) (ls := [some (.ref 159), none]) rfl ax_b_1449_0 (Nat.le_of_ble_eq_true rfl) rfl ?_
  have w0 : es 159 = _ := hO
  by_cases h16 : un = 16
  · have c16 : nI un = 16 := by rw [h16]; rfl
    simp only [ax_W_cons, ax_I, ax_cmp, ax_ii, ax_ll, ax_li, ax_st1, ax_st2, ax_kl, ax_k2, ax_fit, ax_rtok, List.getElem?_cons_zero, List.getElem?_cons_succ, List.length_cons, List.length_nil, List.set_cons_zero, List.set_cons_succ, Nat.reduceAdd, Nat.reduceDiv, Nat.reduceMod, Nat.reduceMul, Nat.reduceLT, Nat.reduceLeDiff, Int32.reduceOfInt, Int64.reduceOfInt, true_and, and_true, and_self, true_or, or_true, false_implies, true_implies, not_false_eq_true, not_true_eq_false, Value.category, Nat.reduceEqDiff, Option.toList, List.cons_append, List.nil_append, List.drop_succ_cons, List.drop_zero, ax_qq_eq, ax_t_1449, w0, mo_f, hal, c16]
    rw [ax_n_1449_11]
    have L := kx_loop (k := 15) (I := fun x => ∀ es1 st1, (∀ j, j ≠ 171 ∧ j ≠ 172 ∧ j ≠ 173 ∧ j ≠ 175 → es1 j = es j) → mX es1 st1 → mRow st1 k p B Fe 16 (fun u => if u < x then U (u + 1) else U u) mk M → ax_W (d + 1) n sl 1449 [(1, .iload 1), (2, .iconst 16), (3, .if_icmp .ge 43), (1, .aload 0), (2, .iconst 52), (1, .iconst 5), (1, .iload 1), (1, .iadd), (1, .imul), (2, .iconst 52), (1, .iconst 5), (1, .iload 1), (1, .iadd), (1, .iconst 1), (1, .isub), (1, .imul), (2, .iconst 26), (3, .invokeinterface 1446 17), (3, .iinc 1 1), (3, .goto 11)] 11 [some (.ref 159), some (.int (nI (x + 1)))] [] n sl es1 (ax_qq n sl Q)) ?_ ?_
    · refine L es st (fun j hj => rfl) hX ?_
      rw [h16] at hR
      exact hR
    · intro es1 st1 i1 i2 i3
      have e9 : (16 : Int32) ≤ nI (15 + 1) := by decide
      have w1 : es1 159 = _ := (i1 159 (by decide)).trans w0
      have a2 : (16 : Int32) - 1 = nI 15 := by decide
      simp only [ax_W_cons, ax_I, ax_cmp, ax_ii, ax_ll, ax_li, ax_st1, ax_st2, ax_kl, ax_k2, ax_fit, ax_rtok, List.getElem?_cons_zero, List.getElem?_cons_succ, List.length_cons, List.length_nil, List.set_cons_zero, List.set_cons_succ, Nat.reduceAdd, Nat.reduceDiv, Nat.reduceMod, Nat.reduceMul, Nat.reduceLT, Nat.reduceLeDiff, Int32.reduceOfInt, Int64.reduceOfInt, true_and, and_true, and_self, true_or, or_true, false_implies, true_implies, not_false_eq_true, not_true_eq_false, Value.category, Nat.reduceEqDiff, Option.toList, List.cons_append, List.nil_append, List.drop_succ_cons, List.drop_zero, ax_qq_eq, ax_t_1449, ax_j_1449_43, ax_n_1449_43, e9, w1, mo_f, hal, c16, a2]
      rw [ax_n_1449_53]
      refine last _ st1 15 (fun u => if u < 15 then U (u + 1) else U u) (by omega) (fun j hj => (ax_up_ne _ _ hj.1).trans (i1 j hj.2)) (ax_up_same ..) (mX_159 i2) ⟨i3.1, i3.2.1, fun u hu => i3.2.2.1 u (by omega), i3.2.2.2⟩ (fun es' st' q1 q2 q3 q4 => ?_) _
      refine hQ es' st' q1 ?_ q3 ?_
      · rw [zun, if_pos h16]
        exact q2
      · rw [zun, if_pos h16]
        refine ⟨q4.1, q4.2.1, fun u hu => ?_, q4.2.2.2⟩
        have := q4.2.2.1 u hu
        dsimp only at this
        unfold zpush
        rw [if_pos h16]
        by_cases e : u < 15
        · rw [if_pos e]
          rw [if_pos e, if_pos e] at this
          exact this
        · rw [if_neg e]
          rw [if_neg e] at this
          exact this
    · intro x hx ih es1 st1 i1 i2 i3
      have e9 : ¬ (16 : Int32) ≤ nI (x + 1) := nI_ge (b := 16) (by omega) (by decide)
      have w1 : mOb es1 t w (nI un) g := (i1 159 (by decide)).trans hO
      have a1 : (52 : Int32) * (5 + nI (x + 1)) = nI (52 * (5 + (x + 1))) := by
        show nI 52 * (nI 5 + nI (x + 1)) = _
        rw [kn_add, kn_mul]
      have a2 : (52 : Int32) * (5 + nI (x + 1) - 1) = nI (52 * (5 + x)) := by
        show nI 52 * (nI 5 + nI (x + 1) - 1) = _
        rw [kn_add, show 5 + (x + 1) = (5 + x) + 1 by omega, nI_pred, kn_mul]
      have x4 : nI (x + 1) + 1 = nI (x + 1 + 1) := (nI_succ _).symm
      simp only [ax_W_cons, ax_I, ax_cmp, ax_ii, ax_ll, ax_li, ax_st1, ax_st2, ax_kl, ax_k2, ax_fit, ax_rtok, List.getElem?_cons_zero, List.getElem?_cons_succ, List.length_cons, List.length_nil, List.set_cons_zero, List.set_cons_succ, Nat.reduceAdd, Nat.reduceDiv, Nat.reduceMod, Nat.reduceMul, Nat.reduceLT, Nat.reduceLeDiff, Int32.reduceOfInt, Int64.reduceOfInt, true_and, and_true, and_self, true_or, or_true, false_implies, true_implies, not_false_eq_true, not_true_eq_false, Value.category, Nat.reduceEqDiff, Option.toList, List.cons_append, List.nil_append, List.drop_succ_cons, List.drop_zero, ax_qq_eq, ax_t_1449, e9, a1, a2]
      refine ax_inv_of (Nat.le_of_ble_eq_true rfl) (Nat.le_of_ble_eq_true rfl) (fun _ => mO_rcv hal (hO1 _ _ w1) _) (fun h => absurd h (by decide)) (Nat.le_refl _) (Nat.le_refl _) (mk_copies hal (hO1 _ _ w1) i2 (x := 52 * (5 + (x + 1))) (y := 52 * (5 + x)) (m := 26) (by omega) (by omega) (by omega) ?_)
      intro es2 f1 f2
      simp only [ax_W_cons, ax_I, ax_cmp, ax_ii, ax_ll, ax_li, ax_st1, ax_st2, ax_kl, ax_k2, ax_fit, ax_rtok, List.getElem?_cons_zero, List.getElem?_cons_succ, List.length_cons, List.length_nil, List.set_cons_zero, List.set_cons_succ, Nat.reduceAdd, Nat.reduceDiv, Nat.reduceMod, Nat.reduceMul, Nat.reduceLT, Nat.reduceLeDiff, Int32.reduceOfInt, Int64.reduceOfInt, true_and, and_true, and_self, true_or, or_true, false_implies, true_implies, not_false_eq_true, not_true_eq_false, Value.category, Nat.reduceEqDiff, Option.toList, List.cons_append, List.nil_append, List.drop_succ_cons, List.drop_zero, ax_qq_eq, ax_t_1449, x4]
      rw [ax_j_1449_11]
      obtain ⟨r1, r2, r3, r4⟩ := i3
      refine ih es2 _ (fun j hj => (f1 j hj).trans (i1 j hj)) f2 ⟨mV_mo hk hp r1 (by omega), mF_mo hz.1 r2 (by omega), fun u hu => ?_, fun m hm hmk => ⟨mV_mo hk hp (r4 m hm hmk).1 (by omega), mF_mo (hz.2 m hm hmk) (r4 m hm hmk).2 (by omega)⟩⟩
      have h3 := r3 u hu
      dsimp only at h3 ⊢
      by_cases e : u = x
      · subst e
        rw [if_pos (by omega)]
        have h4 := r3 (u + 1) (by omega)
        dsimp only at h4
        rw [if_neg (by omega)] at h4
        exact mV_cp (Nat.le_refl _) h4 hk hp
      · have e2 : (if u < x + 1 then U (u + 1) else U u) = if u < x then U (u + 1) else U u := by
          by_cases e3 : u < x
          · rw [if_pos e3, if_pos (by omega)]
          · rw [if_neg e3, if_neg (by omega)]
        rw [e2]
        exact mV_mo hk hp h3 (by omega)
  · have c16 : ¬ nI un = 16 := fun z => h16 (kn_inj (b := 16) (by omega) (by decide) z)
    simp only [ax_W_cons, ax_I, ax_cmp, ax_ii, ax_ll, ax_li, ax_st1, ax_st2, ax_kl, ax_k2, ax_fit, ax_rtok, List.getElem?_cons_zero, List.getElem?_cons_succ, List.length_cons, List.length_nil, List.set_cons_zero, List.set_cons_succ, Nat.reduceAdd, Nat.reduceDiv, Nat.reduceMod, Nat.reduceMul, Nat.reduceLT, Nat.reduceLeDiff, Int32.reduceOfInt, Int64.reduceOfInt, true_and, and_true, and_self, true_or, or_true, false_implies, true_implies, not_false_eq_true, not_true_eq_false, Value.category, Nat.reduceEqDiff, Option.toList, List.cons_append, List.nil_append, List.drop_succ_cons, List.drop_zero, ax_qq_eq, ax_t_1449, w0, mo_f, hal, c16]
    rw [ax_j_1449_53]
    refine last es st un U (by omega) (fun j hj => rfl) hO hX hR (fun es' st' q1 q2 q3 q4 => ?_) none
    refine hQ es' st' q1 ?_ q3 ?_
    · rw [zun, if_neg h16]
      exact q2
    · rw [zun, if_neg h16]
      have ez : zpush U un B = fun u => if u < un then U u else B := by
        funext u
        unfold zpush
        rw [if_neg h16]
      rw [ez]
      exact q4
end MM
