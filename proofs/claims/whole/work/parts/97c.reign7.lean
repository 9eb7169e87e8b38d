/-! the reference: reign() -/
theorem nI_ex (x : Int32) : ∃ m, x = nI m := ⟨x.toBitVec.toNat, Int32.toBitVec_inj.1 (by
  show x.toBitVec = BitVec.ofNat 32 x.toBitVec.toNat
  simp)⟩
section MM
variable {d n sl k p hc un : Nat} {es : ax_H} {kd pm ht hs : Nat → Int32} {F1 F2 : Int32 → Int32 → Int32 → Int32 → Int32} {st : Nat → Int32} {B : zB} {Fe : zF} {U : Nat → zB} {mk : Nat → Bool} {M : Nat → zB × zF} {w : mW9} {t : zTp} {cs : List zCr} {Q : Option Value → ax_H → Prop}
theorem mp_reign (D : mD es n st w k p hc kd pm ht hs F1 F2 B Fe un U mk M) (Y : mY es t cs w) (hT : zT_ok t) {ln : Nat → Int32} (hL : es 170 = .inl (0, 250, .inl ln)) (h1 : ∀ es' w' ls, zReign t cs = .inr ls → (∀ la lb lc, zrc ls la lb lc → mLi es' ls.length la lb lc) → mY es' (0, t.2) cs w' → mD es' n st w' k p hc kd pm ht hs F1 F2 B Fe un U mk M → (∀ j, (j < 159 ∨ 176 < j) → es' j = es j) → Q (some (.int 0)) es') (h0 : ∀ es' w' x, zReign t cs = .inl x → (∀ L la lb lc, L ≤ 40 → mLi es L la lb lc → mLi es' L la lb lc) → mY es' (0, t.2) cs w' → mD es' n st w' k p hc kd pm ht hs F1 F2 B Fe un U mk M → (∀ j, (j < 159 ∨ 176 < j) → es' j = es j) → Q (some (.int (nI (x.1 + 16 * zpl t x.2)))) es') : ax_Mt (d + 6) 1437 [.ref 159] n sl es Q := by
  obtain ⟨⟨hal, hk, hp, hhs, hF, hKO, ct, op, ar, q1, q2, q3, q4, q5⟩, hX, ⟨th0, g, hO⟩, hun, hR, ⟨mb, hM, hMk⟩, hA⟩ := id D
  obtain ⟨y1, ⟨tp, y2, y2'⟩, y3, y4, ⟨rn, y5⟩, y6, ⟨nm, y7, y7'⟩, y8⟩ := id Y
  have hO : es 159 = _ := hO
  have hLt := hT.1
  have c10 : ¬ (1 : Int32) = 0 := by decide
  have c00 : (0 : Int32) ≤ 0 := by decide
  refine ax_Mt_go (m := ax_m_11_29) (ls := [some (.ref 159), none, none, none]) rfl ax_b_1437_0 (Nat.le_of_ble_eq_true rfl) rfl ?_
  simp only [ax_W_cons, ax_I, ax_cmp, ax_ii, ax_ll, ax_li, ax_st1, ax_st2, ax_kl, ax_k2, ax_fit, ax_rtok, List.getElem?_cons_zero, List.getElem?_cons_succ, List.length_cons, List.length_nil, List.set_cons_zero, List.set_cons_succ, Nat.reduceAdd, Nat.reduceDiv, Nat.reduceMod, Nat.reduceMul, Nat.reduceLT, Nat.reduceLeDiff, Int32.reduceOfInt, Int64.reduceOfInt, true_and, and_true, and_self, true_or, or_true, false_implies, true_implies, not_false_eq_true, not_true_eq_false, Value.category, Nat.reduceEqDiff, Option.toList, List.cons_append, List.nil_append, List.drop_succ_cons, List.drop_zero, ax_qq_eq, ax_t_1437, hO, mo_f, hal]
  obtain ⟨es1, he1⟩ : ∃ x, x = ax_up es 159 (.inr (11, mo_f 0 w.1 w.2.1 w.2.2.1 w.2.2.2.1 w.2.2.2.2.1 w.2.2.2.2.2.1 w.2.2.2.2.2.2.1 w.2.2.2.2.2.2.2.1 w.2.2.2.2.2.2.2.2 (nI un) g)) := ⟨_, rfl⟩
  have f1 : ∀ j, j ≠ 159 → es1 j = es j := fun j hj => by rw [he1, ax_up_ne _ _ hj]
  have O1 : es1 159 = .inr (11, mo_f 0 (nI t.1) w.2.1 w.2.2.1 w.2.2.2.1 w.2.2.2.2.1 w.2.2.2.2.2.1 w.2.2.2.2.2.2.1 w.2.2.2.2.2.2.2.1 w.2.2.2.2.2.2.2.2 (nI un) g) := by rw [he1, ← y1]; exact ax_up_same ..
  unfold mo_f at he1
  rw [← he1]
  clear he1
  obtain ⟨so, pl, va, t1, t2, t3⟩ := id y3
  refine ax_inv_of (Nat.le_of_ble_eq_true rfl) (Nat.le_of_ble_eq_true rfl) (fun _ => ax_rcv_ok (by omega) O1) (fun h => absurd h (by decide)) (Nat.le_refl _) (Nat.le_refl _) (mk_cutAll (d := d + 2) hal hT O1 ⟨tp, (f1 160 (by decide)).trans y2, y2'⟩ ⟨so, pl, va, (f1 161 (by decide)).trans t1, (f1 162 (by decide)).trans t2, (f1 163 (by decide)).trans t3⟩ ?_)
  intro es2 O2 T2 f2
  simp only [ax_W_cons, ax_I, ax_cmp, ax_ii, ax_ll, ax_li, ax_st1, ax_st2, ax_kl, ax_k2, ax_fit, ax_rtok, List.getElem?_cons_zero, List.getElem?_cons_succ, List.length_cons, List.length_nil, List.set_cons_zero, List.set_cons_succ, Nat.reduceAdd, Nat.reduceDiv, Nat.reduceMod, Nat.reduceMul, Nat.reduceLT, Nat.reduceLeDiff, Int32.reduceOfInt, Int64.reduceOfInt, true_and, and_true, and_self, true_or, or_true, false_implies, true_implies, not_false_eq_true, not_true_eq_false, Value.category, Nat.reduceEqDiff, Option.toList, List.cons_append, List.nil_append, List.drop_succ_cons, List.drop_zero, ax_qq_eq, ax_t_1437]
  rw [ax_n_1437_11]
  -- what of the object stays as it is
  obtain ⟨f0, hf0⟩ : ∃ f0 : Int32 × Int32 × Int32 × Int32, f0 = (w.2.2.2.2.1, w.2.2.2.2.2.2.1, w.2.2.2.2.2.2.2.1, w.2.2.2.2.2.2.2.2) := ⟨_, rfl⟩
  have key : ∀ (cd rm : Nat), w.2.2.2.2.1 = nI cd → w.2.2.2.2.2.2.1 = nI rm → ax_W (d + 6) n sl 1437 [(1, .aload 0), (3, .getfield 2848), (3, .ifCond .ne 181), (1, .aload 0), (3, .getfield 2834), (1, .aload 0), (3, .getfield 2844), (1, .iaload), (3, .ifCond .eq 181), (1, .aload 0), (2, .iconst 7), (2, .iconst 6), (3, .invokeinterface 1428 13), (1, .istore 2), (1, .iload 2), (3, .ifCond .ge 51), (1, .aload 0), (1, .iconst 1), (3, .invokeinterface 1417 9), (3, .goto 172)] 11 [some (.ref 159), some (.int 0), none, none] [] n sl es2 (ax_qq n sl Q) := by
    intro cd rm hcd hrm
    obtain ⟨c, hc'⟩ : ∃ x : rC, x = (nI t.1, w.2.2.2.2.2.1, nI un, g) := ⟨_, rfl⟩
    obtain ⟨v, hv'⟩ : ∃ x : rV, x = (cd, rm, w.2.2.2.2.2.2.2.1, w.2.2.2.2.2.2.2.2) := ⟨_, rfl⟩
    have O3 : rO es2 c 0 0 v := by
      rw [hc', hv']
      rw [hcd, hrm] at O2
      exact O2
    have F2' : ∀ j, j ≠ 159 ∧ j ≠ 161 ∧ j ≠ 162 ∧ j ≠ 163 → es2 j = es j := fun j hj => (f2 j hj).trans (f1 j hj.1)
    have S2 : rS es2 t c 0 0 v := by
      refine ⟨O3, T2, ?_, fun b hb => absurd hb (Nat.not_lt_zero b)⟩
      obtain ⟨ws, z1, z2⟩ := y4
      exact ⟨ws, (F2' 164 (by decide)).trans z1, z2⟩
    have G2 : rG es2 es2 t c 0 0 v ln := ⟨S2, (F2' 170 (by decide)).trans hL, fun j _ _ => rfl⟩
    have N2 : rNm es2 c cs := ⟨by rw [hc']; exact y8, y6, nm, (F2' 168 (by decide)).trans y7, y7'⟩
    -- all but the lines stands
    have keep : ∀ es5 a5 fl5 ln5, rG es5 es2 t c a5 fl5 v ln5 → ∃ w', mY es5 (0, t.2) cs w' ∧ mD es5 n st w' k p hc kd pm ht hs F1 F2 B Fe un U mk M ∧ ∀ j, (j < 159 ∨ 176 < j) → es5 j = es j := by
      intro es5 a5 fl5 ln5 G5
      have F5 : ∀ j, j ≠ 159 ∧ j ≠ 161 ∧ j ≠ 162 ∧ j ≠ 163 ∧ j ≠ 170 → es5 j = es j := fun j hj => (G5.2.2 j hj.1 hj.2.2.2.2).trans (F2' j ⟨hj.1, hj.2.1, hj.2.2.1, hj.2.2.2.1⟩)
      obtain ⟨O5, ⟨so, pl, va, u1, u2, u3, -⟩, W5, -⟩ := G5.1
      rw [hc', hv'] at O5
      refine ⟨(0, nI t.1, nI a5, fl5, nI cd, w.2.2.2.2.2.1, nI rm, w.2.2.2.2.2.2.2.1, w.2.2.2.2.2.2.2.2), ⟨rfl, ⟨tp, (F5 160 (by decide)).trans y2, fun j hj => absurd hj (Nat.not_lt_zero j)⟩, ⟨so, pl, va, u1, u2, u3⟩, W5, ⟨rn, (F5 169 (by decide)).trans y5⟩, y6, ⟨nm, (F5 168 (by decide)).trans y7, y7'⟩, y8⟩, ⟨⟨hal, hk, hp, hhs, hF, ⟨_, _, _, _, _, _, _, _, _, _, _, _, O5⟩, ct, op, ar, (F5 165 (by decide)).trans q1, (F5 166 (by decide)).trans q2, (F5 167 (by decide)).trans q3, q4, q5⟩, ?_, ⟨0, g, O5⟩, hun, hR, ⟨mb, (F5 174 (by decide)).trans hM, hMk⟩, ?_⟩, fun j hj => F5 j (by omega)⟩
      · obtain ⟨a1, ⟨fa, a2⟩, ⟨pi, a3⟩, wa, a4⟩ := hX
        exact ⟨(F5 173 (by decide)).trans a1, ⟨fa, (F5 171 (by decide)).trans a2⟩, ⟨pi, (F5 172 (by decide)).trans a3⟩, wa, (F5 175 (by decide)).trans a4⟩
      · obtain ⟨al, a1⟩ := hA
        exact ⟨al, (F5 176 (by decide)).trans a1⟩
    have flt : ∀ es5 (x : Nat × Nat) ln5 m l2 l3, rG es5 es2 t c x.2 (nI (x.1 + 16 * zpl t x.2)) v ln5 → rFl (nI (x.1 + 16 * zpl t x.2)) → rl5 ln ln5 → zReign t cs = .inl x → ax_W (d + 6) n sl 1437 [(1, .aload 0), (3, .getfield 2848), (3, .ifCond .ne 181), (1, .aload 0), (3, .getfield 2834), (1, .aload 0), (3, .getfield 2844), (1, .iaload), (3, .ifCond .eq 181), (1, .aload 0), (2, .iconst 7), (2, .iconst 6), (3, .invokeinterface 1428 13), (1, .istore 2), (1, .iload 2), (3, .ifCond .ge 51), (1, .aload 0), (1, .iconst 1), (3, .invokeinterface 1417 9), (3, .goto 172)] 11 [some (.ref 159), some (.int (nI m)), l2, l3] [] n sl es5 (ax_qq n sl Q) := by
      intro es5 x ln5 m l2 l3 G5 g5 hl5 hz
      have w0 : es5 159 = _ := G5.1.1
      have g1 := g5.1
      have g2 := g5.2
      obtain ⟨w', hY, hD, hfr⟩ := keep es5 _ _ _ G5
      have hq := h0 es5 w' x hz (fun L la lb lc hL40 hLi => by
        obtain ⟨ln', z1, z2, z3⟩ := hLi
        rw [hL] at z1
        injection z1 with z1
        injection z1 with z0 z1
        injection z1 with z0' z1
        injection z1 with z1
        subst z1
        refine ⟨ln5, G5.2.1, (hl5 0 (by decide)).trans z2, fun i hi => ?_⟩
        obtain ⟨r1, r2, r3⟩ := z3 i hi
        exact ⟨(hl5 _ (by omega)).trans r1, (hl5 _ (by omega)).trans r2, (hl5 _ (by omega)).trans r3⟩) hY hD hfr
      simp only [ax_W_cons, ax_I, ax_cmp, ax_ii, ax_ll, ax_li, ax_st1, ax_st2, ax_kl, ax_k2, ax_fit, ax_rtok, List.getElem?_cons_zero, List.getElem?_cons_succ, List.length_cons, List.length_nil, List.set_cons_zero, List.set_cons_succ, Nat.reduceAdd, Nat.reduceDiv, Nat.reduceMod, Nat.reduceMul, Nat.reduceLT, Nat.reduceLeDiff, Int32.reduceOfInt, Int64.reduceOfInt, true_and, and_true, and_self, true_or, or_true, false_implies, true_implies, not_false_eq_true, not_true_eq_false, Value.category, Nat.reduceEqDiff, Option.toList, List.cons_append, List.nil_append, List.drop_succ_cons, List.drop_zero, ax_qq_eq, ax_t_1437, ax_j_1437_181, ax_n_1437_181, w0, mo_f, hal, g1, g2]
      exact hq
    have LL : ∀ f es5 a ln5 (ls : zRl) l2 l3, 1001 ≤ f + a → zRlines t cs f a ls = zReign t cs → zrok cs.length ls → rG es5 es2 t c a 0 v ln5 → zrn ls ln5 → rl5 ln ln5 → ax_W (d + 6) n sl 1437 [(1, .aload 0), (3, .getfield 2848), (3, .ifCond .ne 181), (1, .aload 0), (3, .getfield 2834), (1, .aload 0), (3, .getfield 2844), (1, .iaload), (3, .ifCond .eq 181), (1, .aload 0), (2, .iconst 7), (2, .iconst 6), (3, .invokeinterface 1428 13), (1, .istore 2), (1, .iload 2), (3, .ifCond .ge 51), (1, .aload 0), (1, .iconst 1), (3, .invokeinterface 1417 9), (3, .goto 172)] 11 [some (.ref 159), some (.int (nI ls.length)), l2, l3] [] n sl es5 (ax_qq n sl Q) := by
      intro f
      induction f with
      | zero =>
        intro es5 a ln5 ls l2 l3 hf hz hd G5
        have := zpre_le G5.1.2.2.2
        omega
      | succ f ih =>
        intro es5 a ln5 ls l2 l3 hf hz hd G5 hr hl5
        obtain ⟨so, pl, va, w1, w2, w3, ⟨b1, b2, b3, b4, b5⟩, p1, p2, ha⟩ := rS_get hT G5.1
        have w0 : es5 159 = _ := G5.1.1
        have w7 := G5.2.1
        have hd40 : ls.length ≤ 40 := hd.1
        rw [zRlines] at hz
        by_cases h26 : zkd t a = 26
        · rw [if_pos h26] at hz
          have z2 : so a = 0 := b1.trans (by rw [zsrt_0]; exact h26)
          have e00 : vp_in 0 250 := nI_in (show 0 < 250 by decide) (by decide)
          have e00' : (0 : Int32).toNatClampNeg = 0 := by decide
          simp only [ax_W_cons, ax_I, ax_cmp, ax_ii, ax_ll, ax_li, ax_st1, ax_st2, ax_kl, ax_k2, ax_fit, ax_rtok, List.getElem?_cons_zero, List.getElem?_cons_succ, List.length_cons, List.length_nil, List.set_cons_zero, List.set_cons_succ, Nat.reduceAdd, Nat.reduceDiv, Nat.reduceMod, Nat.reduceMul, Nat.reduceLT, Nat.reduceLeDiff, Int32.reduceOfInt, Int64.reduceOfInt, true_and, and_true, and_self, true_or, or_true, false_implies, true_implies, not_false_eq_true, not_true_eq_false, Value.category, Nat.reduceEqDiff, Option.toList, List.cons_append, List.nil_append, List.drop_succ_cons, List.drop_zero, ax_qq_eq, ax_t_1437, ax_j_1437_181, ax_n_1437_181, ax_j_1437_193, ax_n_1437_193, w0, w1, w7, mo_f, hal, p1, p2, z2, c00, e00, e00']
          rw [ax_n_1437_202]
          have e3 : 3 * nI ls.length = nI (3 * ls.length) := by
            show nI 3 * nI ls.length = _
            rw [kn_mul]
          have L := kx_down (k := 3 * ls.length) (I := fun f i => ∀ es6 ln6, rG es6 es2 t c a 0 v ln6 → ln6 0 = nI ls.length → (∀ j, j < i → ln6 (1 + j) = ln5 (125 + j)) → (∀ j, 125 ≤ j → ln6 j = ln5 j) → ax_W (d + 6) n sl 1437 [(1, .iload 2), (1, .iconst 3), (1, .iload 1), (1, .imul), (3, .if_icmp .ge 232), (1, .aload 0), (3, .getfield 2898), (1, .iconst 1), (1, .iload 2), (1, .iadd), (1, .aload 0), (3, .getfield 2898), (2, .iconst 125), (1, .iload 2), (1, .iadd), (1, .iaload), (1, .iastore), (3, .iinc 2 1), (3, .goto 202)] 202 [some (.ref 159), some (.int (nI ls.length)), some (.int (nI i)), l3] [] n sl es6 (ax_qq n sl Q)) ?_ ?_ (3 * ls.length) 0 (by omega)
          · exact L _ _ (rG_ln G5) (upd_same ..) (fun j hj => absurd hj (Nat.not_lt_zero j)) (fun j hj => upd_ne _ _ (by omega))
          · intro es6 ln6 G6 e1 e2 e4
            have e0 := kx_nn (k := 3 * ls.length) (by omega)
            obtain ⟨w', hY, hD, hfr⟩ := keep es6 _ _ _ G6
            have hq := h1 es6 w' ls hz.symm (fun la lb lc hrc => ⟨ln6, G6.2.1, e1, fun i hi => by
              obtain ⟨r1, r2, r3⟩ := hr i hi
              obtain ⟨s1, s2, s3⟩ := hrc i hi
              have hx := (hd.2 _ (show ls.getD i (0, 0, 0) ∈ ls by
                rw [List.getD_eq_getElem?_getD, List.getElem?_eq_getElem hi]
                exact List.getElem_mem hi))
              refine ⟨?_, ?_, ?_⟩
              · rw [e2 (3 * i) (by omega), r1, s1]
                exact (kn_sub (b := 7) hx.1.1).symm
              · rw [show 2 + 3 * i = 1 + (3 * i + 1) by omega, e2 (3 * i + 1) (by omega), show 125 + (3 * i + 1) = 125 + 3 * i + 1 by omega, r2, s2]
              · rw [show 3 + 3 * i = 1 + (3 * i + 2) by omega, e2 (3 * i + 2) (by omega), show 125 + (3 * i + 2) = 125 + 3 * i + 2 by omega, r3, s3]⟩) hY hD hfr
            simp only [ax_W_cons, ax_I, ax_cmp, ax_ii, ax_ll, ax_li, ax_st1, ax_st2, ax_kl, ax_k2, ax_fit, ax_rtok, List.getElem?_cons_zero, List.getElem?_cons_succ, List.length_cons, List.length_nil, List.set_cons_zero, List.set_cons_succ, Nat.reduceAdd, Nat.reduceDiv, Nat.reduceMod, Nat.reduceMul, Nat.reduceLT, Nat.reduceLeDiff, Int32.reduceOfInt, Int64.reduceOfInt, true_and, and_true, and_self, true_or, or_true, false_implies, true_implies, not_false_eq_true, not_true_eq_false, Value.category, Nat.reduceEqDiff, Option.toList, List.cons_append, List.nil_append, List.drop_succ_cons, List.drop_zero, ax_qq_eq, ax_t_1437, ax_j_1437_232, ax_n_1437_232, e0, e3]
            exact hq
          · intro f' i hi ih' es6 ln6 G6 e1 e2 e4
            have e0 : ¬ nI (3 * ls.length) ≤ nI i := nI_ge (by omega) (by omega)
            have i4 : nI i + 1 = nI (i + 1) := (nI_succ i).symm
            have i5 : 1 + nI i = nI (1 + i) := by
              show nI 1 + nI i = _
              rw [kn_add]
            have i6 : 125 + nI i = nI (125 + i) := by
              show nI 125 + nI i = _
              rw [kn_add]
            have j1 : vp_in (nI (1 + i)) 250 := nI_in (by omega) (by decide)
            have j2 : (nI (1 + i)).toNatClampNeg = 1 + i := nI_clamp (by omega)
            have j3 : vp_in (nI (125 + i)) 250 := nI_in (by omega) (by decide)
            have j4 : (nI (125 + i)).toNatClampNeg = 125 + i := nI_clamp (by omega)
            have u0 : es6 159 = _ := G6.1.1
            have u7 := G6.2.1
            have e5 := e4 (125 + i) (by omega)
            simp only [ax_W_cons, ax_I, ax_cmp, ax_ii, ax_ll, ax_li, ax_st1, ax_st2, ax_kl, ax_k2, ax_fit, ax_rtok, List.getElem?_cons_zero, List.getElem?_cons_succ, List.length_cons, List.length_nil, List.set_cons_zero, List.set_cons_succ, Nat.reduceAdd, Nat.reduceDiv, Nat.reduceMod, Nat.reduceMul, Nat.reduceLT, Nat.reduceLeDiff, Int32.reduceOfInt, Int64.reduceOfInt, true_and, and_true, and_self, true_or, or_true, false_implies, true_implies, not_false_eq_true, not_true_eq_false, Value.category, Nat.reduceEqDiff, Option.toList, List.cons_append, List.nil_append, List.drop_succ_cons, List.drop_zero, ax_qq_eq, ax_t_1437, e0, e3, u0, u7, mo_f, hal, i4, i5, i6, j1, j2, j3, j4, e5]
            rw [ax_j_1437_202]
            refine ih' _ _ (rG_ln G6) (by rw [upd_ne _ _ (by omega)]; exact e1) (fun j hj => ?_) (fun j hj => by rw [upd_ne _ _ (by omega)]; exact e4 j hj)
            by_cases e : j = i
            · rw [e, upd_same]
            · rw [upd_ne _ _ (by omega)]
              exact e2 j (by omega)
        · rw [if_neg h26] at hz
          have z2 : ¬ so a = 0 := by rw [b1, zsrt_0]; exact h26
          -- behind a fault
          have bad : ∀ es6 (x : Nat × Nat) ln6 l2 l3, zRline t cs ls a = .inl x → rG es6 es2 t c x.2 (nI (x.1 + 16 * zpl t x.2)) v ln6 → rFl (nI (x.1 + 16 * zpl t x.2)) → rl5 ln5 ln6 → ∀ m, ax_J ax_W (d + 6) n sl 1437 11 [some (.ref 159), some (.int (nI m)), l2, l3] [] n sl es6 (ax_qq n sl Q) := by
            intro es6 x ln6 l2 l3 hln G6 g6 hl6 m
            rw [hln] at hz
            rw [ax_j_1437_11]
            exact flt es6 x ln6 m l2 l3 G6 g6 (fun j hj => (hl6 j hj).trans (hl5 j hj)) hz.symm
          have sgn : ∀ es6 (x : Nat × Nat) l2, zRline t cs ls a = .inl x → rG es6 es2 t c x.2 (nI (x.1 + 16 * zpl t x.2)) v ln5 → rFl (nI (x.1 + 16 * zpl t x.2)) → ax_J ax_W (d + 6) n sl 1437 172 [some (.ref 159), some (.int (nI ls.length)), l2, l3] [] n sl es6 (ax_qq n sl Q) := by
            intro es6 x l2 hln G6 g6
            have bad := bad es6 x ln5 l2 l3 hln G6 g6 (fun j _ => rfl) ls.length
            simp only [ax_W_cons, ax_I, ax_cmp, ax_ii, ax_ll, ax_li, ax_st1, ax_st2, ax_kl, ax_k2, ax_fit, ax_rtok, List.getElem?_cons_zero, List.getElem?_cons_succ, List.length_cons, List.length_nil, List.set_cons_zero, List.set_cons_succ, Nat.reduceAdd, Nat.reduceDiv, Nat.reduceMod, Nat.reduceMul, Nat.reduceLT, Nat.reduceLeDiff, Int32.reduceOfInt, Int64.reduceOfInt, true_and, and_true, and_self, true_or, or_true, false_implies, true_implies, not_false_eq_true, not_true_eq_false, Value.category, Nat.reduceEqDiff, Option.toList, List.cons_append, List.nil_append, List.drop_succ_cons, List.drop_zero, ax_qq_eq, ax_t_1437, ax_j_1437_172, ax_n_1437_172]
            refine ax_inv_of (Nat.le_of_ble_eq_true rfl) (Nat.le_of_ble_eq_true rfl) (fun _ => rS_rcv hal G6.1 _) (fun h => absurd h (by decide)) (Nat.le_refl _) (Nat.le_refl _) (mk_takeSign1 (x := 59) (d := d + 4) hal hT G6.1 g6 (by decide) (by decide) ?_)
            simp only [ax_W_cons, ax_I, ax_cmp, ax_ii, ax_ll, ax_li, ax_st1, ax_st2, ax_kl, ax_k2, ax_fit, ax_rtok, List.getElem?_cons_zero, List.getElem?_cons_succ, List.length_cons, List.length_nil, List.set_cons_zero, List.set_cons_succ, Nat.reduceAdd, Nat.reduceDiv, Nat.reduceMod, Nat.reduceMul, Nat.reduceLT, Nat.reduceLeDiff, Int32.reduceOfInt, Int64.reduceOfInt, true_and, and_true, and_self, true_or, or_true, false_implies, true_implies, not_false_eq_true, not_true_eq_false, Value.category, Nat.reduceEqDiff, Option.toList, List.cons_append, List.nil_append, List.drop_succ_cons, List.drop_zero, ax_qq_eq, ax_t_1437]
            exact bad
          simp only [ax_W_cons, ax_I, ax_cmp, ax_ii, ax_ll, ax_li, ax_st1, ax_st2, ax_kl, ax_k2, ax_fit, ax_rtok, List.getElem?_cons_zero, List.getElem?_cons_succ, List.length_cons, List.length_nil, List.set_cons_zero, List.set_cons_succ, Nat.reduceAdd, Nat.reduceDiv, Nat.reduceMod, Nat.reduceMul, Nat.reduceLT, Nat.reduceLeDiff, Int32.reduceOfInt, Int64.reduceOfInt, true_and, and_true, and_self, true_or, or_true, false_implies, true_implies, not_false_eq_true, not_true_eq_false, Value.category, Nat.reduceEqDiff, Option.toList, List.cons_append, List.nil_append, List.drop_succ_cons, List.drop_zero, ax_qq_eq, ax_t_1437, w0, w1, mo_f, hal, p1, p2, z2]
          refine ax_inv_of (Nat.le_of_ble_eq_true rfl) (Nat.le_of_ble_eq_true rfl) (fun _ => rS_rcv hal G5.1 _) (fun h => absurd h (by decide)) (Nat.le_refl _) (Nat.le_refl _) (mk_wordHere (fr := 7) (m := 6) (d := d + 4) hal hT G5.1 (by decide) ?_)
          by_cases hk7 : 7 ≤ zkd t a ∧ zkd t a < 7 + 6
          rotate_left
          · rw [zWh_out (fun z => hk7 z.2)]
            have e1 : ¬ (0 : Int32) ≤ -1 := by decide
            simp only [ax_W_cons, ax_I, ax_cmp, ax_ii, ax_ll, ax_li, ax_st1, ax_st2, ax_kl, ax_k2, ax_fit, ax_rtok, List.getElem?_cons_zero, List.getElem?_cons_succ, List.length_cons, List.length_nil, List.set_cons_zero, List.set_cons_succ, Nat.reduceAdd, Nat.reduceDiv, Nat.reduceMod, Nat.reduceMul, Nat.reduceLT, Nat.reduceLeDiff, Int32.reduceOfInt, Int64.reduceOfInt, true_and, and_true, and_self, true_or, or_true, false_implies, true_implies, not_false_eq_true, not_true_eq_false, Value.category, Nat.reduceEqDiff, Option.toList, List.cons_append, List.nil_append, List.drop_succ_cons, List.drop_zero, ax_qq_eq, ax_t_1437, e1]
            refine ax_inv_of (Nat.le_of_ble_eq_true rfl) (Nat.le_of_ble_eq_true rfl) (fun _ => rS_rcv hal G5.1 _) (fun h => absurd h (by decide)) (Nat.le_refl _) (Nat.le_refl _) (mk_wrong0 (k := 1) hal hT G5.1 (by decide) (by decide) ?_)
            intro es6 S6 g6 f6
            have sg := sgn es6 (1, a) (some (.int (-1))) (by rw [zRline, if_neg (by omega)]) (rG_1 G5 S6 f6) g6
            simp only [ax_W_cons, ax_I, ax_cmp, ax_ii, ax_ll, ax_li, ax_st1, ax_st2, ax_kl, ax_k2, ax_fit, ax_rtok, List.getElem?_cons_zero, List.getElem?_cons_succ, List.length_cons, List.length_nil, List.set_cons_zero, List.set_cons_succ, Nat.reduceAdd, Nat.reduceDiv, Nat.reduceMod, Nat.reduceMul, Nat.reduceLT, Nat.reduceLeDiff, Int32.reduceOfInt, Int64.reduceOfInt, true_and, and_true, and_self, true_or, or_true, false_implies, true_implies, not_false_eq_true, not_true_eq_false, Value.category, Nat.reduceEqDiff, Option.toList, List.cons_append, List.nil_append, List.drop_succ_cons, List.drop_zero, ax_qq_eq, ax_t_1437]
            exact sg
          rw [zWh_in hk7.1 hk7.2]
          have e1 : (0 : Int32) ≤ nI (zkd t a - 7) := nI_le (a := 0) (Nat.zero_le _) (by have := zkd_lt t a; omega)
          by_cases h40 : 40 ≤ ls.length
          · have e40 : nI ls.length = 40 := by rw [show ls.length = 40 by omega]; rfl
            rw [e40] at sgn ⊢
            simp only [ax_W_cons, ax_I, ax_cmp, ax_ii, ax_ll, ax_li, ax_st1, ax_st2, ax_kl, ax_k2, ax_fit, ax_rtok, List.getElem?_cons_zero, List.getElem?_cons_succ, List.length_cons, List.length_nil, List.set_cons_zero, List.set_cons_succ, Nat.reduceAdd, Nat.reduceDiv, Nat.reduceMod, Nat.reduceMul, Nat.reduceLT, Nat.reduceLeDiff, Int32.reduceOfInt, Int64.reduceOfInt, true_and, and_true, and_self, true_or, or_true, false_implies, true_implies, not_false_eq_true, not_true_eq_false, Value.category, Nat.reduceEqDiff, Option.toList, List.cons_append, List.nil_append, List.drop_succ_cons, List.drop_zero, ax_qq_eq, ax_t_1437, ax_j_1437_51, ax_n_1437_51, e1]
            refine ax_inv_of (Nat.le_of_ble_eq_true rfl) (Nat.le_of_ble_eq_true rfl) (fun _ => rS_rcv hal G5.1 _) (fun h => absurd h (by decide)) (Nat.le_refl _) (Nat.le_refl _) (mk_wrong0 (k := 5) hal hT G5.1 (by decide) (by decide) ?_)
            intro es6 S6 g6 f6
            have sg := sgn es6 (5, a) (some (.int (nI (zkd t a - 7)))) (by rw [zRline, if_pos ⟨by omega, by omega⟩, if_pos h40]) (rG_1 G5 S6 f6) g6
            simp only [ax_W_cons, ax_I, ax_cmp, ax_ii, ax_ll, ax_li, ax_st1, ax_st2, ax_kl, ax_k2, ax_fit, ax_rtok, List.getElem?_cons_zero, List.getElem?_cons_succ, List.length_cons, List.length_nil, List.set_cons_zero, List.set_cons_succ, Nat.reduceAdd, Nat.reduceDiv, Nat.reduceMod, Nat.reduceMul, Nat.reduceLT, Nat.reduceLeDiff, Int32.reduceOfInt, Int64.reduceOfInt, true_and, and_true, and_self, true_or, or_true, false_implies, true_implies, not_false_eq_true, not_true_eq_false, Value.category, Nat.reduceEqDiff, Option.toList, List.cons_append, List.nil_append, List.drop_succ_cons, List.drop_zero, ax_qq_eq, ax_t_1437]
            exact sg
          · have e40 : ¬ nI ls.length = 40 := fun z => by
              have := kn_inj (b := 40) (by omega) (by decide) z
              omega
            have rl := mk_rline (d := d) (sl := sl) (Q := Q) (l3 := l3) hal hT N2 (ls := ls) hk7.1 (by omega) (by omega) G5 hr (fun es6 a' ln6 ls' l2 l3 hln hlt hlen G6 hr6 hl6 => by
              rw [hln] at hz
              rw [ax_j_1437_11, ← hlen]
              exact ih es6 a' ln6 ls' l2 l3 (by omega) hz (zRline_ok y6 hd hln).1 G6 hr6 (fun j hj => (hl6 j hj).trans (hl5 j hj))) (fun es6 x ln6 l2 l3 hln G6 g6 hl6 => bad es6 x ln6 l2 l3 hln G6 g6 hl6 _)
            simp only [ax_W_cons, ax_I, ax_cmp, ax_ii, ax_ll, ax_li, ax_st1, ax_st2, ax_kl, ax_k2, ax_fit, ax_rtok, List.getElem?_cons_zero, List.getElem?_cons_succ, List.length_cons, List.length_nil, List.set_cons_zero, List.set_cons_succ, Nat.reduceAdd, Nat.reduceDiv, Nat.reduceMod, Nat.reduceMul, Nat.reduceLT, Nat.reduceLeDiff, Int32.reduceOfInt, Int64.reduceOfInt, true_and, and_true, and_self, true_or, or_true, false_implies, true_implies, not_false_eq_true, not_true_eq_false, Value.category, Nat.reduceEqDiff, Option.toList, List.cons_append, List.nil_append, List.drop_succ_cons, List.drop_zero, ax_qq_eq, ax_t_1437, ax_j_1437_51, ax_n_1437_51, e1, e40]
            exact rl
    exact LL 1001 es2 0 ln [] none none (by omega) rfl ⟨by decide, fun x hx => by cases hx⟩ G2 (fun i hi => absurd hi (Nat.not_lt_zero i)) (fun j _ => rfl)
  obtain ⟨cd, hcd⟩ := nI_ex w.2.2.2.2.1
  obtain ⟨rm, hrm⟩ := nI_ex w.2.2.2.2.2.2.1
  exact key cd rm hcd hrm
end MM
