/-! the reference: court(), from its beginning -/
section MM
variable {d n sl k p hc un : Nat} {es : ax_H} {kd pm ht hs : Nat → Int32} {F1 F2 : Int32 → Int32 → Int32 → Int32 → Int32} {st : Nat → Int32} {B : zB} {Fe : zF} {U : Nat → zB} {mk : Nat → Bool} {M : Nat → zB × zF} {w : mW9} {t : zTp} {cs : List zCr} {Q : Option Value → ax_H → Prop}
theorem mp_court (D : mD es n st w k p hc kd pm ht hs F1 F2 B Fe un U mk M) (Y : mY es t cs w) (hT : zT_ok t) {ln : Nat → Int32} (hL : es 170 = .inl (0, 250, .inl ln)) (h1 : ∀ es' st' w' dr, zCourt t = .inr dr → mJ es' n st' w' dr → mY es' (0, t.2) dr.2.1 w' → (∃ ln, es' 170 = .inl (0, 250, .inl ln) ∧ ln 0 = 0) → (∀ j, (j < 159 ∨ 176 < j) → es' j = es j) → Q (some (.int 0)) es') (h0 : ∀ es' w' x, zCourt t = .inl x → mY es' (0, t.2) cs w' → mD es' n st w' k p hc kd pm ht hs F1 F2 B Fe un U mk M → es' 170 = es 170 → (∀ j, (j < 159 ∨ 176 < j) → es' j = es j) → Q (some (.int (nI (x.1 + 16 * zpl t x.2)))) es') : ax_Mt (d + 61) 1433 [.ref 159] n sl es Q := by
  obtain ⟨⟨hal, hk, hp, hhs, hF, hKO, ct, op, ar, q1, q2, q3, q4, q5⟩, hX, ⟨th0, g, hO⟩, hun, hR, ⟨mb, hM, hMk⟩, hA⟩ := id D
  obtain ⟨y1, ⟨tp, y2, y2'⟩, y3, y4, ⟨rn, y5⟩, y6, ⟨nm, y7, y7'⟩, y8⟩ := id Y
  have hO : es 159 = _ := hO
  have hLt := hT.1
  have c10 : ¬ (1 : Int32) = 0 := by decide
  have c00 : (0 : Int32) ≤ 0 := by decide
  refine ax_Mt_go (m := ax_m_11_25) (ls := [some (.ref 159), none]) rfl ax_b_1433_0 (Nat.le_of_ble_eq_true rfl) rfl ?_
  simp only [ax_W_cons, ax_I, ax_cmp, ax_ii, ax_ll, ax_li, ax_st1, ax_st2, ax_kl, ax_k2, ax_fit, ax_rtok, List.getElem?_cons_zero, List.getElem?_cons_succ, List.length_cons, List.length_nil, List.set_cons_zero, List.set_cons_succ, Nat.reduceAdd, Nat.reduceDiv, Nat.reduceMod, Nat.reduceMul, Nat.reduceLT, Nat.reduceLeDiff, Int32.reduceOfInt, Int64.reduceOfInt, true_and, and_true, and_self, true_or, or_true, false_implies, true_implies, not_false_eq_true, not_true_eq_false, Value.category, Nat.reduceEqDiff, Option.toList, List.cons_append, List.nil_append, List.drop_succ_cons, List.drop_zero, ax_qq_eq, ax_t_1433, hO, mo_f, hal]
  obtain ⟨es1, he1⟩ : ∃ x, x = ax_up es 159 (.inr (11, mo_f 0 w.1 w.2.1 w.2.2.1 w.2.2.2.1 w.2.2.2.2.1 w.2.2.2.2.2.1 w.2.2.2.2.2.2.1 w.2.2.2.2.2.2.2.1 w.2.2.2.2.2.2.2.2 (nI un) g)) := ⟨_, rfl⟩
  have f1 : ∀ j, j ≠ 159 → es1 j = es j := fun j hj => by rw [he1, ax_up_ne _ _ hj]
  have O1 : es1 159 = .inr (11, mo_f 0 (nI t.1) w.2.1 w.2.2.1 w.2.2.2.1 w.2.2.2.2.1 w.2.2.2.2.2.1 w.2.2.2.2.2.2.1 w.2.2.2.2.2.2.2.1 w.2.2.2.2.2.2.2.2 (nI un) g) := by rw [he1, ← y1]; exact ax_up_same ..
  unfold mo_f at he1
  rw [← he1]
  clear he1
  obtain ⟨so, pl, va, t1, t2, t3⟩ := id y3
  refine ax_inv_of (Nat.le_of_ble_eq_true rfl) (Nat.le_of_ble_eq_true rfl) (fun _ => ax_rcv_ok (by omega) O1) (fun h => absurd h (by decide)) (Nat.le_refl _) (Nat.le_refl _) (mk_cutAll (d := d + 57) hal hT O1 ⟨tp, (f1 160 (by decide)).trans y2, y2'⟩ ⟨so, pl, va, (f1 161 (by decide)).trans t1, (f1 162 (by decide)).trans t2, (f1 163 (by decide)).trans t3⟩ ?_)
  intro es2 O2 T2 f2
  simp only [ax_W_cons, ax_I, ax_cmp, ax_ii, ax_ll, ax_li, ax_st1, ax_st2, ax_kl, ax_k2, ax_fit, ax_rtok, List.getElem?_cons_zero, List.getElem?_cons_succ, List.length_cons, List.length_nil, List.set_cons_zero, List.set_cons_succ, Nat.reduceAdd, Nat.reduceDiv, Nat.reduceMod, Nat.reduceMul, Nat.reduceLT, Nat.reduceLeDiff, Int32.reduceOfInt, Int64.reduceOfInt, true_and, and_true, and_self, true_or, or_true, false_implies, true_implies, not_false_eq_true, not_true_eq_false, Value.category, Nat.reduceEqDiff, Option.toList, List.cons_append, List.nil_append, List.drop_succ_cons, List.drop_zero, ax_qq_eq, ax_t_1433, O2, mo_f, hal, ax_up_same]
  obtain ⟨c, hc'⟩ : ∃ x : rC, x = (nI t.1, w.2.2.2.2.2.1, nI un, g) := ⟨_, rfl⟩
  obtain ⟨es3, he3⟩ : ∃ x, x = ax_up (ax_up (ax_up es2 159 (.inr (11, mo_f 0 0 (nI t.1) 0 0 0 w.2.2.2.2.2.1 w.2.2.2.2.2.2.1 w.2.2.2.2.2.2.2.1 w.2.2.2.2.2.2.2.2 (nI un) g))) 159 (.inr (11, mo_f 0 0 (nI t.1) 0 0 0 w.2.2.2.2.2.1 0 w.2.2.2.2.2.2.2.1 w.2.2.2.2.2.2.2.2 (nI un) g))) 159 (.inr (11, mo_f 0 0 (nI t.1) 0 0 0 w.2.2.2.2.2.1 0 0 w.2.2.2.2.2.2.2.2 (nI un) g)) := ⟨_, rfl⟩
  have f3 : ∀ j, j ≠ 159 → es3 j = es2 j := fun j hj => by rw [he3, ax_up_ne _ _ hj, ax_up_ne _ _ hj, ax_up_ne _ _ hj]
  have O3 : rO es3 c 0 0 (0, 0, 0, w.2.2.2.2.2.2.2.2) := by rw [he3, hc']; exact ax_up_same ..
  have O3' : es3 159 = _ := O3
  unfold mo_f at he3
  rw [← he3]
  clear he3
  have F3 : ∀ j, j ≠ 159 ∧ j ≠ 161 ∧ j ≠ 162 ∧ j ≠ 163 → es3 j = es j := fun j hj => (f3 j hj.1).trans ((f2 j hj).trans (f1 j hj.1))
  refine ax_inv_of (Nat.le_of_ble_eq_true rfl) (Nat.le_of_ble_eq_true rfl) (fun _ => ax_rcv_ok (by omega) O3') (fun h => absurd h (by decide)) (Nat.le_refl _) (Nat.le_refl _) (mk_always (b := 40) hal O3' ((F3 165 (by decide)).trans q1) (by decide) ?_)
  intro ct3 k0 k1 k2 k3 k4 k23 klo
  have S3 : rS es3 t c 0 0 (0, 0, 0, w.2.2.2.2.2.2.2.2) := by
    refine ⟨O3, rT_fr T2 (fun j hj _ => f3 j hj), ?_, fun b hb => absurd hb (Nat.not_lt_zero b)⟩
    obtain ⟨ws, z1, z2⟩ := y4
    exact ⟨ws, (F3 164 (by decide)).trans z1, z2⟩
  have X3 : rX es3 t c 0 0 (0, 0, 0, w.2.2.2.2.2.2.2.2) ct op ar rn := ⟨⟨S3, (F3 166 (by decide)).trans q2, (F3 167 (by decide)).trans q3⟩, (F3 165 (by decide)).trans q1, (F3 169 (by decide)).trans y5⟩
  have X4 := rX_ct (ct' := ct3) X3
  obtain ⟨es4, he4⟩ : ∃ x, x = ax_up es3 165 (.inl (0, 80, .inl ct3)) := ⟨_, rfl⟩
  rw [← he4] at X4 ⊢
  have f4 : ∀ j, j ≠ 165 → es4 j = es3 j := fun j hj => by rw [he4, ax_up_ne _ _ hj]
  clear he4
  have R4 : rD ct3 op ar rn (0, 0, 0, w.2.2.2.2.2.2.2.2) zD0 := by
    refine ⟨k0, k1, k2, by decide, by decide, fun i hi => absurd hi (Nat.not_lt_zero i), fun i hi => ?_, k3, k4, rfl, rfl⟩
    have hi : i < 1 := hi
    rw [show i = 0 by omega]
    exact k23
  have lo4 : rct ct ct3 := fun j hj => klo j (by omega)
  simp only [ax_W_cons, ax_I, ax_cmp, ax_ii, ax_ll, ax_li, ax_st1, ax_st2, ax_kl, ax_k2, ax_fit, ax_rtok, List.getElem?_cons_zero, List.getElem?_cons_succ, List.length_cons, List.length_nil, List.set_cons_zero, List.set_cons_succ, Nat.reduceAdd, Nat.reduceDiv, Nat.reduceMod, Nat.reduceMul, Nat.reduceLT, Nat.reduceLeDiff, Int32.reduceOfInt, Int64.reduceOfInt, true_and, and_true, and_self, true_or, or_true, false_implies, true_implies, not_false_eq_true, not_true_eq_false, Value.category, Nat.reduceEqDiff, Option.toList, List.cons_append, List.nil_append, List.drop_succ_cons, List.drop_zero, ax_qq_eq, ax_t_1433]
  rw [ax_n_1433_30]
  have low : ∀ es5 (x : Nat × Nat) v5 ct5 op5 ar5 rn5, rX es5 t c x.2 (nI (x.1 + 16 * zpl t x.2)) v5 ct5 op5 ar5 rn5 → rct ct3 ct5 → rlow op ar op5 ar5 → rfX es4 es5 → zCourt t = .inl x → Q (some (.int (nI (x.1 + 16 * zpl t x.2)))) es5 := by
    intro es5 x v5 ct5 op5 ar5 rn5 X5 hct hlw f5 hz
    have F5 : ∀ j, j ≠ 159 ∧ j ≠ 161 ∧ j ≠ 162 ∧ j ≠ 163 ∧ j ≠ 165 ∧ j ≠ 166 ∧ j ≠ 167 ∧ j ≠ 169 → es5 j = es j := fun j hj => (f5 j ⟨hj.1, hj.2.2.2.2.1, hj.2.2.2.2.2.1, hj.2.2.2.2.2.2.1, hj.2.2.2.2.2.2.2⟩).trans ((f4 j hj.2.2.2.2.1).trans (F3 j ⟨hj.1, hj.2.1, hj.2.2.1, hj.2.2.2.1⟩))
    obtain ⟨⟨S5, x1, x2⟩, x3, x4⟩ := id X5
    obtain ⟨O5, ⟨so, pl, va, u1, u2, u3, -⟩, W5, -⟩ := S5
    have hct' : rct ct ct5 := fun j hj => (hct j hj).trans (lo4 j hj)
    rw [hc'] at O5
    refine h0 es5 (0, nI t.1, nI x.2, nI (x.1 + 16 * zpl t x.2), nI v5.1, w.2.2.2.2.2.1, nI v5.2.1, v5.2.2.1, v5.2.2.2) x hz ⟨rfl, ⟨tp, (F5 160 (by decide)).trans y2, fun j hj => absurd hj (Nat.not_lt_zero j)⟩, ⟨so, pl, va, u1, u2, u3⟩, W5, ⟨rn5, x4⟩, y6, ⟨nm, (F5 168 (by decide)).trans y7, y7'⟩, y8⟩ ⟨⟨hal, hk, hp, hhs, hF, ⟨_, _, _, _, _, _, _, _, _, _, _, _, O5⟩, ct5, op5, ar5, x3, x1, x2, mCt_low hp hhs.2.1 hct' q4, mLw_low hct' hlw q5⟩, ?_, ⟨0, g, O5⟩, hun, hR, ⟨mb, (F5 174 (by decide)).trans hM, hMk⟩, ?_⟩ (F5 170 (by decide)) (fun j hj => F5 j (by omega))
    · obtain ⟨a1, ⟨fa, a2⟩, ⟨pi, a3⟩, wa, a4⟩ := hX
      exact ⟨(F5 173 (by decide)).trans a1, ⟨fa, (F5 171 (by decide)).trans a2⟩, ⟨pi, (F5 172 (by decide)).trans a3⟩, wa, (F5 175 (by decide)).trans a4⟩
    · obtain ⟨al, a1⟩ := hA
      exact ⟨al, (F5 176 (by decide)).trans a1⟩
  have flt : ∀ es5 (x : Nat × Nat) v5 ct5 op5 ar5 rn5, rX es5 t c x.2 (nI (x.1 + 16 * zpl t x.2)) v5 ct5 op5 ar5 rn5 → rFl (nI (x.1 + 16 * zpl t x.2)) → rct ct3 ct5 → rlow op ar op5 ar5 → rfX es4 es5 → zCourt t = .inl x → ax_W (d + 61) n sl 1433 [(1, .aload 0), (3, .getfield 2848), (3, .ifCond .ne 77), (1, .aload 0), (3, .getfield 2834), (1, .aload 0), (3, .getfield 2844), (1, .iaload), (3, .ifCond .eq 77), (1, .aload 0), (1, .iconst 1), (3, .invokeinterface 1419 9), (3, .ifCond .eq 64), (1, .aload 0), (3, .invokeinterface 1434 5), (3, .goto 68)] 30 [some (.ref 159), none] [] n sl es5 (ax_qq n sl Q) := by
    intro es5 x v5 ct5 op5 ar5 rn5 X5 g5 hct hlw f5 hz
    have w0 : es5 159 = _ := X5.1.1.1
    have g1 := g5.1
    have g2 := g5.2
    have hq := low es5 x v5 ct5 op5 ar5 rn5 X5 hct hlw f5 hz
    simp only [ax_W_cons, ax_I, ax_cmp, ax_ii, ax_ll, ax_li, ax_st1, ax_st2, ax_kl, ax_k2, ax_fit, ax_rtok, List.getElem?_cons_zero, List.getElem?_cons_succ, List.length_cons, List.length_nil, List.set_cons_zero, List.set_cons_succ, Nat.reduceAdd, Nat.reduceDiv, Nat.reduceMod, Nat.reduceMul, Nat.reduceLT, Nat.reduceLeDiff, Int32.reduceOfInt, Int64.reduceOfInt, true_and, and_true, and_self, true_or, or_true, false_implies, true_implies, not_false_eq_true, not_true_eq_false, Value.category, Nat.reduceEqDiff, Option.toList, List.cons_append, List.nil_append, List.drop_succ_cons, List.drop_zero, ax_qq_eq, ax_t_1433, ax_j_1433_77, ax_n_1433_77, w0, mo_f, hal, g1, g2]
    exact hq
  have LL : ∀ f es5 a v5 ct5 op5 ar5 rn5 dr, 1001 ≤ f + a → zLines t f a dr = zLines t 1001 0 zD0 → zdok t dr → rX es5 t c a 0 v5 ct5 op5 ar5 rn5 → rD ct5 op5 ar5 rn5 v5 dr → v5.1 ≤ a → rct ct3 ct5 → rlow op ar op5 ar5 → rfX es4 es5 → ax_W (d + 61) n sl 1433 [(1, .aload 0), (3, .getfield 2848), (3, .ifCond .ne 77), (1, .aload 0), (3, .getfield 2834), (1, .aload 0), (3, .getfield 2844), (1, .iaload), (3, .ifCond .eq 77), (1, .aload 0), (1, .iconst 1), (3, .invokeinterface 1419 9), (3, .ifCond .eq 64), (1, .aload 0), (3, .invokeinterface 1434 5), (3, .goto 68)] 30 [some (.ref 159), none] [] n sl es5 (ax_qq n sl Q) := by
    intro f
    induction f with
    | zero =>
      intro es5 a v5 ct5 op5 ar5 rn5 dr hf hz hd X5
      have := zpre_le X5.1.1.2.2.2
      omega
    | succ f ih =>
      intro es5 a v5 ct5 op5 ar5 rn5 dr hf hz hd X5 R5 hcd hct hlw f5
      obtain ⟨so, pl, va, w1, w2, w3, ⟨b1, b2, b3, b4, b5⟩, p1, p2, ha⟩ := rS_get hT X5.1.1
      have w0 : es5 159 = _ := X5.1.1.1
      rw [zLines] at hz
      by_cases h26 : zkd t a = 26
      · rw [if_pos h26] at hz
        have z2 : so a = 0 := b1.trans (by rw [zsrt_0]; exact h26)
        have hzc : zCourt t = .inr (zSet dr) := by
          unfold zCourt
          rw [← hz]
        have F5 : ∀ j, j ≠ 159 ∧ j ≠ 161 ∧ j ≠ 162 ∧ j ≠ 163 ∧ j ≠ 165 ∧ j ≠ 166 ∧ j ≠ 167 ∧ j ≠ 169 → es5 j = es j := fun j hj => (f5 j ⟨hj.1, hj.2.2.2.2.1, hj.2.2.2.2.2.1, hj.2.2.2.2.2.2.1, hj.2.2.2.2.2.2.2⟩).trans ((f4 j hj.2.2.2.2.1).trans (F3 j ⟨hj.1, hj.2.1, hj.2.2.1, hj.2.2.2.1⟩))
        have X5' : mX es5 st := by
          obtain ⟨a1, ⟨fa, a2⟩, ⟨pi, a3⟩, wa, a4⟩ := hX
          exact ⟨(F5 173 (by decide)).trans a1, ⟨fa, (F5 171 (by decide)).trans a2⟩, ⟨pi, (F5 172 (by decide)).trans a3⟩, wa, (F5 175 (by decide)).trans a4⟩
        have A5 : ∃ al, es5 176 = .inl (0, 1200, .inl al) := by
          obtain ⟨al, a1⟩ := hA
          exact ⟨al, (F5 176 (by decide)).trans a1⟩
        have fin := mk_courtEnd (d := d + 1) (sl := sl) hal hT X5 R5 hcd hd X5' ((F5 168 (by decide)).trans y7) ((F5 174 (by decide)).trans hM) ((F5 170 (by decide)).trans hL) A5 ⟨tp, (F5 160 (by decide)).trans y2⟩ (fun es' st' w' hJ hY hl hfr => h1 es' st' w' (zSet dr) hzc hJ hY hl (fun j hj => (hfr j hj).trans (F5 j (by omega))))
        simp only [ax_W_cons, ax_I, ax_cmp, ax_ii, ax_ll, ax_li, ax_st1, ax_st2, ax_kl, ax_k2, ax_fit, ax_rtok, List.getElem?_cons_zero, List.getElem?_cons_succ, List.length_cons, List.length_nil, List.set_cons_zero, List.set_cons_succ, Nat.reduceAdd, Nat.reduceDiv, Nat.reduceMod, Nat.reduceMul, Nat.reduceLT, Nat.reduceLeDiff, Int32.reduceOfInt, Int64.reduceOfInt, true_and, and_true, and_self, true_or, or_true, false_implies, true_implies, not_false_eq_true, not_true_eq_false, Value.category, Nat.reduceEqDiff, Option.toList, List.cons_append, List.nil_append, List.drop_succ_cons, List.drop_zero, ax_qq_eq, ax_t_1433, ax_j_1433_77, ax_n_1433_77, w0, w1, mo_f, hal, p1, p2, z2, c00]
        exact fin
      · rw [if_neg h26] at hz
        have z2 : ¬ so a = 0 := by rw [b1, zsrt_0]; exact h26
        -- behind the line
        have ok : ∀ a' es6 v6 ct6 op6 ar6 rn6 dr', zLine t dr a = zSgn t a' 59 (.inr (a' + 1, dr')) → rX es6 t c a' 0 v6 ct6 op6 ar6 rn6 → rD ct6 op6 ar6 rn6 v6 dr' → v6.1 ≤ a' → a < a' → rct ct5 ct6 → rlow op5 ar5 op6 ar6 → rfX es5 es6 → ax_J ax_W (d + 61) n sl 1433 68 [some (.ref 159), none] [] n sl es6 (ax_qq n sl Q) := by
          intro a' es6 v6 ct6 op6 ar6 rn6 dr' hln X6 R6 hcd6 hlt hct6 hlw6 f6
          have hct' : rct ct3 ct6 := fun j hj => (hct6 j hj).trans (hct j hj)
          simp only [ax_W_cons, ax_I, ax_cmp, ax_ii, ax_ll, ax_li, ax_st1, ax_st2, ax_kl, ax_k2, ax_fit, ax_rtok, List.getElem?_cons_zero, List.getElem?_cons_succ, List.length_cons, List.length_nil, List.set_cons_zero, List.set_cons_succ, Nat.reduceAdd, Nat.reduceDiv, Nat.reduceMod, Nat.reduceMul, Nat.reduceLT, Nat.reduceLeDiff, Int32.reduceOfInt, Int64.reduceOfInt, true_and, and_true, and_self, true_or, or_true, false_implies, true_implies, not_false_eq_true, not_true_eq_false, Value.category, Nat.reduceEqDiff, Option.toList, List.cons_append, List.nil_append, List.drop_succ_cons, List.drop_zero, ax_qq_eq, ax_t_1433, ax_j_1433_68, ax_n_1433_68]
          refine ax_inv_of (Nat.le_of_ble_eq_true rfl) (Nat.le_of_ble_eq_true rfl) (fun _ => rS_rcv hal X6.1.1 _) (fun h => absurd h (by decide)) (Nat.le_refl _) (Nat.le_refl _) (mk_takeSign0 (x := 59) (d := d + 59) hal hT X6.1.1 (by decide) (by decide) ?_ ?_)
          · intro es7 h59 S7 f7
            have hln2 : zLine t dr a = .inr (a' + 1, dr') := by rw [hln, zSgn, if_pos h59]
            rw [hln2] at hz
            simp only [ax_W_cons, ax_I, ax_cmp, ax_ii, ax_ll, ax_li, ax_st1, ax_st2, ax_kl, ax_k2, ax_fit, ax_rtok, List.getElem?_cons_zero, List.getElem?_cons_succ, List.length_cons, List.length_nil, List.set_cons_zero, List.set_cons_succ, Nat.reduceAdd, Nat.reduceDiv, Nat.reduceMod, Nat.reduceMul, Nat.reduceLT, Nat.reduceLeDiff, Int32.reduceOfInt, Int64.reduceOfInt, true_and, and_true, and_self, true_or, or_true, false_implies, true_implies, not_false_eq_true, not_true_eq_false, Value.category, Nat.reduceEqDiff, Option.toList, List.cons_append, List.nil_append, List.drop_succ_cons, List.drop_zero, ax_qq_eq, ax_t_1433]
            rw [ax_j_1433_30]
            exact ih es7 (a' + 1) v6 ct6 op6 ar6 rn6 dr' (by omega) hz (zLine_ok hd hln2).1 (rX_1 X6 S7 f7) R6 (by omega) hct' (rlow_trans hlw hlw6) (rfX_trans f5 (rfX_trans f6 (rfX_1 f7)))
          · intro es7 h59 S7 g7 f7
            have hln2 : zLine t dr a = .inl (1, a') := by rw [hln, zSgn, if_neg h59]
            rw [hln2] at hz
            simp only [ax_W_cons, ax_I, ax_cmp, ax_ii, ax_ll, ax_li, ax_st1, ax_st2, ax_kl, ax_k2, ax_fit, ax_rtok, List.getElem?_cons_zero, List.getElem?_cons_succ, List.length_cons, List.length_nil, List.set_cons_zero, List.set_cons_succ, Nat.reduceAdd, Nat.reduceDiv, Nat.reduceMod, Nat.reduceMul, Nat.reduceLT, Nat.reduceLeDiff, Int32.reduceOfInt, Int64.reduceOfInt, true_and, and_true, and_self, true_or, or_true, false_implies, true_implies, not_false_eq_true, not_true_eq_false, Value.category, Nat.reduceEqDiff, Option.toList, List.cons_append, List.nil_append, List.drop_succ_cons, List.drop_zero, ax_qq_eq, ax_t_1433]
            rw [ax_j_1433_30]
            exact flt es7 (1, a') v6 ct6 op6 ar6 rn6 (rX_1 X6 S7 f7) g7 hct' (rlow_trans hlw hlw6) (rfX_trans f5 (rfX_trans f6 (rfX_1 f7))) (by unfold zCourt; rw [← hz])
        have bad : ∀ x es6 v6 ct6 op6 ar6 rn6, zLine t dr a = .inl x → rX es6 t c x.2 (nI (x.1 + 16 * zpl t x.2)) v6 ct6 op6 ar6 rn6 → rFl (nI (x.1 + 16 * zpl t x.2)) → rct ct5 ct6 → rlow op5 ar5 op6 ar6 → rfX es5 es6 → ax_J ax_W (d + 61) n sl 1433 68 [some (.ref 159), none] [] n sl es6 (ax_qq n sl Q) := by
          intro x es6 v6 ct6 op6 ar6 rn6 hln X6 g6 hct6 hlw6 f6
          have hct' : rct ct3 ct6 := fun j hj => (hct6 j hj).trans (hct j hj)
          rw [hln] at hz
          simp only [ax_W_cons, ax_I, ax_cmp, ax_ii, ax_ll, ax_li, ax_st1, ax_st2, ax_kl, ax_k2, ax_fit, ax_rtok, List.getElem?_cons_zero, List.getElem?_cons_succ, List.length_cons, List.length_nil, List.set_cons_zero, List.set_cons_succ, Nat.reduceAdd, Nat.reduceDiv, Nat.reduceMod, Nat.reduceMul, Nat.reduceLT, Nat.reduceLeDiff, Int32.reduceOfInt, Int64.reduceOfInt, true_and, and_true, and_self, true_or, or_true, false_implies, true_implies, not_false_eq_true, not_true_eq_false, Value.category, Nat.reduceEqDiff, Option.toList, List.cons_append, List.nil_append, List.drop_succ_cons, List.drop_zero, ax_qq_eq, ax_t_1433, ax_j_1433_68, ax_n_1433_68]
          refine ax_inv_of (Nat.le_of_ble_eq_true rfl) (Nat.le_of_ble_eq_true rfl) (fun _ => rS_rcv hal X6.1.1 _) (fun h => absurd h (by decide)) (Nat.le_refl _) (Nat.le_refl _) (mk_takeSign1 (x := 59) (d := d + 59) hal hT X6.1.1 g6 (by decide) (by decide) ?_)
          simp only [ax_W_cons, ax_I, ax_cmp, ax_ii, ax_ll, ax_li, ax_st1, ax_st2, ax_kl, ax_k2, ax_fit, ax_rtok, List.getElem?_cons_zero, List.getElem?_cons_succ, List.length_cons, List.length_nil, List.set_cons_zero, List.set_cons_succ, Nat.reduceAdd, Nat.reduceDiv, Nat.reduceMod, Nat.reduceMul, Nat.reduceLT, Nat.reduceLeDiff, Int32.reduceOfInt, Int64.reduceOfInt, true_and, and_true, and_self, true_or, or_true, false_implies, true_implies, not_false_eq_true, not_true_eq_false, Value.category, Nat.reduceEqDiff, Option.toList, List.cons_append, List.nil_append, List.drop_succ_cons, List.drop_zero, ax_qq_eq, ax_t_1433]
          rw [ax_j_1433_30]
          exact flt es6 x v6 ct6 op6 ar6 rn6 X6 g6 hct' (rlow_trans hlw hlw6) (rfX_trans f5 f6) (by unfold zCourt; rw [← hz])
        simp only [ax_W_cons, ax_I, ax_cmp, ax_ii, ax_ll, ax_li, ax_st1, ax_st2, ax_kl, ax_k2, ax_fit, ax_rtok, List.getElem?_cons_zero, List.getElem?_cons_succ, List.length_cons, List.length_nil, List.set_cons_zero, List.set_cons_succ, Nat.reduceAdd, Nat.reduceDiv, Nat.reduceMod, Nat.reduceMul, Nat.reduceLT, Nat.reduceLeDiff, Int32.reduceOfInt, Int64.reduceOfInt, true_and, and_true, and_self, true_or, or_true, false_implies, true_implies, not_false_eq_true, not_true_eq_false, Value.category, Nat.reduceEqDiff, Option.toList, List.cons_append, List.nil_append, List.drop_succ_cons, List.drop_zero, ax_qq_eq, ax_t_1433, w0, w1, mo_f, hal, p1, p2, z2]
        refine ax_inv_of (Nat.le_of_ble_eq_true rfl) (Nat.le_of_ble_eq_true rfl) (fun _ => rS_rcv hal X5.1.1 _) (fun h => absurd h (by decide)) (Nat.le_refl _) (Nat.le_refl _) (mk_isWord (x := 1) hal hT X5.1.1 (by decide) ?_)
        by_cases hk1 : zkd t a = 1
        · rw [decide_eq_true ⟨rfl, hk1⟩]
          simp only [ax_W_cons, ax_I, ax_cmp, ax_ii, ax_ll, ax_li, ax_st1, ax_st2, ax_kl, ax_k2, ax_fit, ax_rtok, List.getElem?_cons_zero, List.getElem?_cons_succ, List.length_cons, List.length_nil, List.set_cons_zero, List.set_cons_succ, Nat.reduceAdd, Nat.reduceDiv, Nat.reduceMod, Nat.reduceMul, Nat.reduceLT, Nat.reduceLeDiff, Int32.reduceOfInt, Int64.reduceOfInt, true_and, and_true, and_self, true_or, or_true, false_implies, true_implies, not_false_eq_true, not_true_eq_false, Value.category, Nat.reduceEqDiff, Option.toList, List.cons_append, List.nil_append, List.drop_succ_cons, List.drop_zero, ax_qq_eq, ax_t_1433, kx_bt, c10]
          refine ax_inv_of (Nat.le_of_ble_eq_true rfl) (Nat.le_of_ble_eq_true rfl) (fun _ => rS_rcv hal X5.1.1 _) (fun h => absurd h (by decide)) (Nat.le_refl _) (Nat.le_refl _) (mk_readCourtier hal hT hk1 (d + 20) es5 v5 ct5 op5 ar5 rn5 dr _ X5 R5 hcd ?_ ?_)
          · intro a' es6 v6 ct6 op6 ar6 rn6 dr' e1 e2 e3 e4 e5 e6 e7 e8
            have ok := ok a' es6 v6 ct6 op6 ar6 rn6 dr' e1 e2 e3 e4 e5 e6 e7 e8
            simp only [ax_W_cons, ax_I, ax_cmp, ax_ii, ax_ll, ax_li, ax_st1, ax_st2, ax_kl, ax_k2, ax_fit, ax_rtok, List.getElem?_cons_zero, List.getElem?_cons_succ, List.length_cons, List.length_nil, List.set_cons_zero, List.set_cons_succ, Nat.reduceAdd, Nat.reduceDiv, Nat.reduceMod, Nat.reduceMul, Nat.reduceLT, Nat.reduceLeDiff, Int32.reduceOfInt, Int64.reduceOfInt, true_and, and_true, and_self, true_or, or_true, false_implies, true_implies, not_false_eq_true, not_true_eq_false, Value.category, Nat.reduceEqDiff, Option.toList, List.cons_append, List.nil_append, List.drop_succ_cons, List.drop_zero, ax_qq_eq, ax_t_1433]
            exact ok
          · intro x es6 v6 ct6 op6 ar6 rn6 e1 e2 e3 e4 e5 e6
            have bad := bad x es6 v6 ct6 op6 ar6 rn6 e1 e2 e3 e4 e5 e6
            simp only [ax_W_cons, ax_I, ax_cmp, ax_ii, ax_ll, ax_li, ax_st1, ax_st2, ax_kl, ax_k2, ax_fit, ax_rtok, List.getElem?_cons_zero, List.getElem?_cons_succ, List.length_cons, List.length_nil, List.set_cons_zero, List.set_cons_succ, Nat.reduceAdd, Nat.reduceDiv, Nat.reduceMod, Nat.reduceMul, Nat.reduceLT, Nat.reduceLeDiff, Int32.reduceOfInt, Int64.reduceOfInt, true_and, and_true, and_self, true_or, or_true, false_implies, true_implies, not_false_eq_true, not_true_eq_false, Value.category, Nat.reduceEqDiff, Option.toList, List.cons_append, List.nil_append, List.drop_succ_cons, List.drop_zero, ax_qq_eq, ax_t_1433]
            exact bad
        · rw [decide_eq_false (fun z => hk1 z.2)]
          simp only [ax_W_cons, ax_I, ax_cmp, ax_ii, ax_ll, ax_li, ax_st1, ax_st2, ax_kl, ax_k2, ax_fit, ax_rtok, List.getElem?_cons_zero, List.getElem?_cons_succ, List.length_cons, List.length_nil, List.set_cons_zero, List.set_cons_succ, Nat.reduceAdd, Nat.reduceDiv, Nat.reduceMod, Nat.reduceMul, Nat.reduceLT, Nat.reduceLeDiff, Int32.reduceOfInt, Int64.reduceOfInt, true_and, and_true, and_self, true_or, or_true, false_implies, true_implies, not_false_eq_true, not_true_eq_false, Value.category, Nat.reduceEqDiff, Option.toList, List.cons_append, List.nil_append, List.drop_succ_cons, List.drop_zero, ax_qq_eq, ax_t_1433, ax_j_1433_64, ax_n_1433_64, kx_bf]
          refine ax_inv_of (Nat.le_of_ble_eq_true rfl) (Nat.le_of_ble_eq_true rfl) (fun _ => rS_rcv hal X5.1.1 _) (fun h => absurd h (by decide)) (Nat.le_refl _) (Nat.le_refl _) (mk_readOnce hal hT hk1 (d + 20) es5 v5 ct5 op5 ar5 rn5 dr _ X5 R5 hcd ?_ ?_)
          · intro a' es6 v6 ct6 op6 ar6 rn6 dr' e1 e2 e3 e4 e5 e6 e7 e8
            have ok := ok a' es6 v6 ct6 op6 ar6 rn6 dr' e1 e2 e3 e4 e5 e6 e7 e8
            rw [ax_j_1433_68, ← ax_n_1433_68] at ok
            simp only [ax_W_cons, ax_I, ax_cmp, ax_ii, ax_ll, ax_li, ax_st1, ax_st2, ax_kl, ax_k2, ax_fit, ax_rtok, List.getElem?_cons_zero, List.getElem?_cons_succ, List.length_cons, List.length_nil, List.set_cons_zero, List.set_cons_succ, Nat.reduceAdd, Nat.reduceDiv, Nat.reduceMod, Nat.reduceMul, Nat.reduceLT, Nat.reduceLeDiff, Int32.reduceOfInt, Int64.reduceOfInt, true_and, and_true, and_self, true_or, or_true, false_implies, true_implies, not_false_eq_true, not_true_eq_false, Value.category, Nat.reduceEqDiff, Option.toList, List.cons_append, List.nil_append, List.drop_succ_cons, List.drop_zero, ax_qq_eq, ax_t_1433]
            exact ok
          · intro x es6 v6 ct6 op6 ar6 rn6 e1 e2 e3 e4 e5 e6
            have bad := bad x es6 v6 ct6 op6 ar6 rn6 e1 e2 e3 e4 e5 e6
            rw [ax_j_1433_68, ← ax_n_1433_68] at bad
            simp only [ax_W_cons, ax_I, ax_cmp, ax_ii, ax_ll, ax_li, ax_st1, ax_st2, ax_kl, ax_k2, ax_fit, ax_rtok, List.getElem?_cons_zero, List.getElem?_cons_succ, List.length_cons, List.length_nil, List.set_cons_zero, List.set_cons_succ, Nat.reduceAdd, Nat.reduceDiv, Nat.reduceMod, Nat.reduceMul, Nat.reduceLT, Nat.reduceLeDiff, Int32.reduceOfInt, Int64.reduceOfInt, true_and, and_true, and_self, true_or, or_true, false_implies, true_implies, not_false_eq_true, not_true_eq_false, Value.category, Nat.reduceEqDiff, Option.toList, List.cons_append, List.nil_append, List.drop_succ_cons, List.drop_zero, ax_qq_eq, ax_t_1433]
            exact bad
  exact LL 1001 es4 0 _ ct3 op ar rn zD0 (by omega) rfl (zD0_ok t) X4 R4 (Nat.le_refl _) (fun j _ => rfl) (rlow_rf _ _) (fun j _ => rfl)
end MM
