/-! the law: feed, court, reign, rests -/
section LL
variable {j n sl k p hc L un N : Nat} {es : ax_H} {kd pm pl0 ht hs' la lb lc xs : Nat → Int32} {F1 F2 : Int32 → Int32 → Int32 → Int32 → Int32} {B : zB} {Fe : zF} {U : Nat → zB} {mk : Nat → Bool} {M : Nat → zB × zF} {t : zTp} {cs : List zCr} {st : Nat → Int32} {w : mW9} {R : ax_Q} {l5 l6 : Option Value}
theorem lw_feed (hal : ax_al n = 178) (hn : n ≤ 601024) (hs : sl ≤ 7293034) (hi : 7 * j + 7 ≤ N) (hN : N ≤ 3584) (S : qS es N xs) (X : qX es n k p hc kd pl0 ht hs' F1 F2 B Fe un U mk M L la lb lc t cs) (Mh : qM es n st w k p hc kd pm ht hs' F1 F2 B Fe un U mk M L la lb lc t cs) (P : qP j k p pm pl0 ht B Fe un U mk M L la lb lc t) (fin : ∀ es', qS es' N xs → qI es' n (j + 1) → ax_J ax_W 1300 601024 7293034 1536 1498 [some (.float 0), some (.ref 0), some (.ref 159), some (.ref 177), some (.int (nI (7 * j))), l5, l6] [] n sl es' R) : ax_J ax_W 1300 601024 7293034 1536 220 [some (.float 0), some (.ref 0), some (.ref 159), some (.ref 177), some (.int (nI (7 * j))), l5, l6] [] n sl es R := by
  obtain ⟨S1, fo, S2⟩ := id S
  obtain ⟨⟨XD, XT, XR⟩, ⟨MD, MY, MLi⟩⟩ := And.intro X Mh
  have i1 : nI (7 * j) + 1 = nI (7 * j + 1) := kn_add _ 1
  have v1 : vp_in (nI (7 * j + 1)) N := nI_in (by omega) (by omega)
  have c1 : (nI (7 * j + 1)).toNatClampNeg = 7 * j + 1 := nI_clamp (by omega)
  have i2 : nI (7 * j) + 2 = nI (7 * j + 2) := kn_add _ 2
  have v2 : vp_in (nI (7 * j + 2)) N := nI_in (by omega) (by omega)
  have c2 : (nI (7 * j + 2)).toNatClampNeg = 7 * j + 2 := nI_clamp (by omega)
  have i3 : nI (7 * j) + 3 = nI (7 * j + 3) := kn_add _ 3
  have v3 : vp_in (nI (7 * j + 3)) N := nI_in (by omega) (by omega)
  have c3 : (nI (7 * j + 3)).toNatClampNeg = 7 * j + 3 := nI_clamp (by omega)
  have i4 : nI (7 * j) + 4 = nI (7 * j + 4) := kn_add _ 4
  have v4 : vp_in (nI (7 * j + 4)) N := nI_in (by omega) (by omega)
  have c4 : (nI (7 * j + 4)).toNatClampNeg = 7 * j + 4 := nI_clamp (by omega)
  have i5 : nI (7 * j) + 5 = nI (7 * j + 5) := kn_add _ 5
  have v5 : vp_in (nI (7 * j + 5)) N := nI_in (by omega) (by omega)
  have c5 : (nI (7 * j + 5)).toNatClampNeg = 7 * j + 5 := nI_clamp (by omega)
  have i6 : nI (7 * j) + 6 = nI (7 * j + 6) := kn_add _ 6
  have v6 : vp_in (nI (7 * j + 6)) N := nI_in (by omega) (by omega)
  have c6 : (nI (7 * j + 6)).toNatClampNeg = 7 * j + 6 := nI_clamp (by omega)
  rw [ax_j_1536_220]
  dsimp only
  generalize hr1 : (((1, .aload 0) : Nat × Instr) :: ((2, .iload 4) : Nat × Instr) :: ((1, .iconst 5) : Nat × Instr) :: ((1, .iadd) : Nat × Instr) :: ((1, .iaload) : Nat × Instr) :: ((1, .i2l) : Nat × Instr) :: ((2, .iconst 32) : Nat × Instr) :: ((1, .lshl) : Nat × Instr) :: ((1, .aload 0) : Nat × Instr) :: ((2, .iload 4) : Nat × Instr) :: ((2, .iconst 6) : Nat × Instr) :: ((1, .iadd) : Nat × Instr) :: ((1, .iaload) : Nat × Instr) :: ((1, .i2l) : Nat × Instr) :: ((3, .goto_w 4294967295) : Nat × Instr) :: ((1, .land) : Nat × Instr) :: ((1, .lor) : Nat × Instr) :: ((3, .invokeinterface 1281 17) : Nat × Instr) :: ((1, .aload 2) : Nat × Instr) :: ((1, .aload 0) : Nat × Instr) :: ((2, .iload 4) : Nat × Instr) :: ((1, .iconst 1) : Nat × Instr) :: ((1, .iadd) : Nat × Instr) :: ((1, .iaload) : Nat × Instr) :: ((1, .i2l) : Nat × Instr) :: ((2, .iconst 32) : Nat × Instr) :: ((1, .lshl) : Nat × Instr) :: ((1, .aload 0) : Nat × Instr) :: ((2, .iload 4) : Nat × Instr) :: ((1, .iconst 2) : Nat × Instr) :: ((1, .iadd) : Nat × Instr) :: ((1, .iaload) : Nat × Instr) :: ((1, .i2l) : Nat × Instr) :: ((3, .goto_w 4294967295) : Nat × Instr) :: ((1, .land) : Nat × Instr) :: ((1, .lor) : Nat × Instr) :: ((1, .aload 0) : Nat × Instr) :: ((2, .iload 4) : Nat × Instr) :: ((1, .iconst 3) : Nat × Instr) :: ((1, .iadd) : Nat × Instr) :: ((1, .iaload) : Nat × Instr) :: ((1, .i2l) : Nat × Instr) :: ((2, .iconst 32) : Nat × Instr) :: ((1, .lshl) : Nat × Instr) :: ((1, .aload 0) : Nat × Instr) :: ((2, .iload 4) : Nat × Instr) :: ((1, .iconst 4) : Nat × Instr) :: ((1, .iadd) : Nat × Instr) :: ((1, .iaload) : Nat × Instr) :: ((1, .i2l) : Nat × Instr) :: ((3, .goto_w 4294967295) : Nat × Instr) :: ((1, .land) : Nat × Instr) :: ((1, .lor) : Nat × Instr) :: ((1, .aload 0) : Nat × Instr) :: ((2, .iload 4) : Nat × Instr) :: ((1, .iconst 5) : Nat × Instr) :: ((1, .iadd) : Nat × Instr) :: ((1, .iaload) : Nat × Instr) :: ((1, .i2l) : Nat × Instr) :: ((2, .iconst 32) : Nat × Instr) :: ((1, .lshl) : Nat × Instr) :: ((1, .aload 0) : Nat × Instr) :: ((2, .iload 4) : Nat × Instr) :: ((2, .iconst 6) : Nat × Instr) :: ((1, .iadd) : Nat × Instr) :: ((1, .iaload) : Nat × Instr) :: ((1, .i2l) : Nat × Instr) :: ((3, .goto_w 4294967295) : Nat × Instr) :: ((1, .land) : Nat × Instr) :: ((1, .lor) : Nat × Instr) :: ((3, .invokeinterface 1409 17) : Nat × Instr) :: ((3, .if_icmp .eq 1498) : Nat × Instr) :: ((1, .iconst 0) : Nat × Instr) :: ((1, .ireturn) : Nat × Instr) :: []) = rest1
  simp only [ax_W_cons, ax_I, ax_cmp, ax_ii, ax_ll, ax_li, ax_st1, ax_st2, ax_kl, ax_k2, ax_fit, ax_rtok, List.getElem?_cons_zero, List.getElem?_cons_succ, List.length_cons, List.length_nil, List.set_cons_zero, List.set_cons_succ, Nat.reduceAdd, Nat.reduceDiv, Nat.reduceMod, Nat.reduceMul, Nat.reduceLT, Nat.reduceLeDiff, Int32.reduceOfInt, Int64.reduceOfInt, true_and, and_true, and_self, true_or, or_true, false_implies, true_implies, not_false_eq_true, not_true_eq_false, Value.category, Nat.reduceEqDiff, Option.toList, List.cons_append, List.nil_append, List.drop_succ_cons, List.drop_zero, ax_qq_eq, ax_t_1536, S1, i1, v1, c1, i2, v2, c2, i3, v3, c3, i4, v4, c4, i5, v5, c5, i6, v6, c6]
  subst hr1
  generalize hr2 : (((1, .aload 2) : Nat × Instr) :: ((1, .aload 0) : Nat × Instr) :: ((2, .iload 4) : Nat × Instr) :: ((1, .iconst 1) : Nat × Instr) :: ((1, .iadd) : Nat × Instr) :: ((1, .iaload) : Nat × Instr) :: ((1, .i2l) : Nat × Instr) :: ((2, .iconst 32) : Nat × Instr) :: ((1, .lshl) : Nat × Instr) :: ((1, .aload 0) : Nat × Instr) :: ((2, .iload 4) : Nat × Instr) :: ((1, .iconst 2) : Nat × Instr) :: ((1, .iadd) : Nat × Instr) :: ((1, .iaload) : Nat × Instr) :: ((1, .i2l) : Nat × Instr) :: ((3, .goto_w 4294967295) : Nat × Instr) :: ((1, .land) : Nat × Instr) :: ((1, .lor) : Nat × Instr) :: ((1, .aload 0) : Nat × Instr) :: ((2, .iload 4) : Nat × Instr) :: ((1, .iconst 3) : Nat × Instr) :: ((1, .iadd) : Nat × Instr) :: ((1, .iaload) : Nat × Instr) :: ((1, .i2l) : Nat × Instr) :: ((2, .iconst 32) : Nat × Instr) :: ((1, .lshl) : Nat × Instr) :: ((1, .aload 0) : Nat × Instr) :: ((2, .iload 4) : Nat × Instr) :: ((1, .iconst 4) : Nat × Instr) :: ((1, .iadd) : Nat × Instr) :: ((1, .iaload) : Nat × Instr) :: ((1, .i2l) : Nat × Instr) :: ((3, .goto_w 4294967295) : Nat × Instr) :: ((1, .land) : Nat × Instr) :: ((1, .lor) : Nat × Instr) :: ((1, .aload 0) : Nat × Instr) :: ((2, .iload 4) : Nat × Instr) :: ((1, .iconst 5) : Nat × Instr) :: ((1, .iadd) : Nat × Instr) :: ((1, .iaload) : Nat × Instr) :: ((1, .i2l) : Nat × Instr) :: ((2, .iconst 32) : Nat × Instr) :: ((1, .lshl) : Nat × Instr) :: ((1, .aload 0) : Nat × Instr) :: ((2, .iload 4) : Nat × Instr) :: ((2, .iconst 6) : Nat × Instr) :: ((1, .iadd) : Nat × Instr) :: ((1, .iaload) : Nat × Instr) :: ((1, .i2l) : Nat × Instr) :: ((3, .goto_w 4294967295) : Nat × Instr) :: ((1, .land) : Nat × Instr) :: ((1, .lor) : Nat × Instr) :: ((3, .invokeinterface 1409 17) : Nat × Instr) :: ((3, .if_icmp .eq 1498) : Nat × Instr) :: ((1, .iconst 0) : Nat × Instr) :: ((1, .ireturn) : Nat × Instr) :: []) = rest2
  simp only [ax_W_cons, ax_I, ax_cmp, ax_ii, ax_ll, ax_li, ax_st1, ax_st2, ax_kl, ax_k2, ax_fit, ax_rtok, List.getElem?_cons_zero, List.getElem?_cons_succ, List.length_cons, List.length_nil, List.set_cons_zero, List.set_cons_succ, Nat.reduceAdd, Nat.reduceDiv, Nat.reduceMod, Nat.reduceMul, Nat.reduceLT, Nat.reduceLeDiff, Int32.reduceOfInt, Int64.reduceOfInt, true_and, and_true, and_self, true_or, or_true, false_implies, true_implies, not_false_eq_true, not_true_eq_false, Value.category, Nat.reduceEqDiff, Option.toList, List.cons_append, List.nil_append, List.drop_succ_cons, List.drop_zero, ax_qq_eq, ax_t_1536, S1, i1, v1, c1, i2, v2, c2, i3, v3, c3, i4, v4, c4, i5, v5, c5, i6, v6, c6]
  refine ax_inv_of (Nat.le_of_ble_eq_true rfl) (Nat.le_of_ble_eq_true rfl) (fun _ => x0_rcv XD _) (fun h => absurd h (by decide)) hn hs (xp_feed (d := 1289) hal XD.1 XT P.1 _ _ _ ?_)
  intro es1 T1 f1
  have SS := qS_fr S (fun j hj => f1 j (by omega)) (es' := es1)
  have U1 := SS.1
  simp only [ax_W_cons, ax_I, ax_cmp, ax_ii, ax_ll, ax_li, ax_st1, ax_st2, ax_kl, ax_k2, ax_fit, ax_rtok, List.getElem?_cons_zero, List.getElem?_cons_succ, List.length_cons, List.length_nil, List.set_cons_zero, List.set_cons_succ, Nat.reduceAdd, Nat.reduceDiv, Nat.reduceMod, Nat.reduceMul, Nat.reduceLT, Nat.reduceLeDiff, Int32.reduceOfInt, Int64.reduceOfInt, true_and, and_true, and_self, true_or, or_true, false_implies, true_implies, not_false_eq_true, not_true_eq_false, Value.category, Nat.reduceEqDiff, Option.toList, List.cons_append, List.nil_append, List.drop_succ_cons, List.drop_zero, ax_qq_eq, ax_t_1536]
  subst hr2
  generalize hr3 : (((1, .aload 0) : Nat × Instr) :: ((2, .iload 4) : Nat × Instr) :: ((1, .iconst 5) : Nat × Instr) :: ((1, .iadd) : Nat × Instr) :: ((1, .iaload) : Nat × Instr) :: ((1, .i2l) : Nat × Instr) :: ((2, .iconst 32) : Nat × Instr) :: ((1, .lshl) : Nat × Instr) :: ((1, .aload 0) : Nat × Instr) :: ((2, .iload 4) : Nat × Instr) :: ((2, .iconst 6) : Nat × Instr) :: ((1, .iadd) : Nat × Instr) :: ((1, .iaload) : Nat × Instr) :: ((1, .i2l) : Nat × Instr) :: ((3, .goto_w 4294967295) : Nat × Instr) :: ((1, .land) : Nat × Instr) :: ((1, .lor) : Nat × Instr) :: ((3, .invokeinterface 1409 17) : Nat × Instr) :: ((3, .if_icmp .eq 1498) : Nat × Instr) :: ((1, .iconst 0) : Nat × Instr) :: ((1, .ireturn) : Nat × Instr) :: []) = rest3
  simp only [ax_W_cons, ax_I, ax_cmp, ax_ii, ax_ll, ax_li, ax_st1, ax_st2, ax_kl, ax_k2, ax_fit, ax_rtok, List.getElem?_cons_zero, List.getElem?_cons_succ, List.length_cons, List.length_nil, List.set_cons_zero, List.set_cons_succ, Nat.reduceAdd, Nat.reduceDiv, Nat.reduceMod, Nat.reduceMul, Nat.reduceLT, Nat.reduceLeDiff, Int32.reduceOfInt, Int64.reduceOfInt, true_and, and_true, and_self, true_or, or_true, false_implies, true_implies, not_false_eq_true, not_true_eq_false, Value.category, Nat.reduceEqDiff, Option.toList, List.cons_append, List.nil_append, List.drop_succ_cons, List.drop_zero, ax_qq_eq, ax_t_1536, U1, i1, v1, c1, i2, v2, c2, i3, v3, c3, i4, v4, c4, i5, v5, c5, i6, v6, c6]
  subst hr3
  generalize hr4 : (((3, .if_icmp .eq 1498) : Nat × Instr) :: ((1, .iconst 0) : Nat × Instr) :: ((1, .ireturn) : Nat × Instr) :: []) = rest4
  simp only [ax_W_cons, ax_I, ax_cmp, ax_ii, ax_ll, ax_li, ax_st1, ax_st2, ax_kl, ax_k2, ax_fit, ax_rtok, List.getElem?_cons_zero, List.getElem?_cons_succ, List.length_cons, List.length_nil, List.set_cons_zero, List.set_cons_succ, Nat.reduceAdd, Nat.reduceDiv, Nat.reduceMod, Nat.reduceMul, Nat.reduceLT, Nat.reduceLeDiff, Int32.reduceOfInt, Int64.reduceOfInt, true_and, and_true, and_self, true_or, or_true, false_implies, true_implies, not_false_eq_true, not_true_eq_false, Value.category, Nat.reduceEqDiff, Option.toList, List.cons_append, List.nil_append, List.drop_succ_cons, List.drop_zero, ax_qq_eq, ax_t_1536, U1, i1, v1, c1, i2, v2, c2, i3, v3, c3, i4, v4, c4, i5, v5, c5, i6, v6, c6]
  obtain ⟨E, hX, ⟨th0, g, hO⟩, hun, hRw, ⟨mb, hM, hMk⟩, al, hA⟩ := id MD
  obtain ⟨y1, ⟨tp, y2, y2'⟩, y3⟩ := id MY
  have hO : es 159 = _ := hO
  have O1 : mOt es1 th0 (nI t.1) w.2 (nI un) g := by
    refine (f1 159 (by decide)).trans (hO.trans ?_)
    rw [y1]
  have O1' : es1 159 = _ := O1
  refine ax_inv_of (Nat.le_of_ble_eq_true rfl) (Nat.le_of_ble_eq_true rfl) (fun _ => ax_rcv_ok (by omega) O1') (fun h => absurd h (by decide)) hn hs (mp_feed (d := 1289) hal O1 ⟨tp, (f1 160 (by decide)).trans y2, y2'⟩ P.1 _ _ _ ?_)
  intro es2 O2 T2 f2
  have F : ∀ j, j ≠ 1 → j ≠ 2 → j ≠ 159 → j ≠ 160 → es2 j = es j := fun j a b c e => (f2 j ⟨c, e⟩).trans (f1 j ⟨a, b⟩)
  obtain ⟨hal', hk, hp, hhs, hF, -, ct, op, ar, q1, q2, q3, q4⟩ := id E
  obtain ⟨a1, ⟨fa, a2⟩, ⟨pi, a3⟩, wa, a4⟩ := id hX
  generalize hz : zfeed t _ _ _ = t2 at O2 T2 T1
  have ht2 : zT_ok t2 := by rw [← hz]; exact zfeed_ok P.1
  have D2 : mD es2 n st (nI t2.1, w.2) k p hc kd pm ht hs' F1 F2 B Fe un U mk M := ⟨⟨hal', hk, hp, hhs, hF, ⟨_, _, _, _, _, _, _, _, _, _, _, _, O2⟩, ct, op, ar, (F 165 (by decide) (by decide) (by decide) (by decide)).trans q1, (F 166 (by decide) (by decide) (by decide) (by decide)).trans q2, (F 167 (by decide) (by decide) (by decide) (by decide)).trans q3, q4⟩, ⟨(F 173 (by decide) (by decide) (by decide) (by decide)).trans a1, ⟨fa, (F 171 (by decide) (by decide) (by decide) (by decide)).trans a2⟩, ⟨pi, (F 172 (by decide) (by decide) (by decide) (by decide)).trans a3⟩, wa, (F 175 (by decide) (by decide) (by decide) (by decide)).trans a4⟩, ⟨0, g, O2⟩, hun, hRw, ⟨mb, (F 174 (by decide) (by decide) (by decide) (by decide)).trans hM, hMk⟩, al, (F 176 (by decide) (by decide) (by decide) (by decide)).trans hA⟩
  obtain ⟨⟨so, pl, va, b1, b2, b3⟩, ⟨ws, b4, b5⟩, ⟨rn, b6⟩, b7, ⟨nm, b8, b9⟩, b10⟩ := y3
  have Y2 : mY es2 t2 cs (nI t2.1, w.2) := ⟨rfl, T2, ⟨so, pl, va, (F 161 (by decide) (by decide) (by decide) (by decide)).trans b1, (F 162 (by decide) (by decide) (by decide) (by decide)).trans b2, (F 163 (by decide) (by decide) (by decide) (by decide)).trans b3⟩, ⟨ws, (F 164 (by decide) (by decide) (by decide) (by decide)).trans b4, b5⟩, ⟨rn, (F 169 (by decide) (by decide) (by decide) (by decide)).trans b6⟩, b7, ⟨nm, (F 168 (by decide) (by decide) (by decide) (by decide)).trans b8, b9⟩, b10⟩
  have XD2 : xD es2 n k p hc kd pl0 ht hs' F1 F2 B Fe un U mk M L la lb lc := by
    obtain ⟨x0, xal, xk, xp, xhs, hC, hb, hS, hfe, ⟨g1, g2, g3, g4⟩, hP⟩ := XD
    exact ⟨(F 0 (by decide) (by decide) (by decide) (by decide)).trans x0, xal, xk, xp, xhs, kC_frr hC (fun j hj => F j (by omega) (by omega) (by omega) (by omega)), kb_fr hb (fun j hj => F j (by omega) (by omega) (by omega) (by omega)), kSe_fr hS (fun j hj => F j (by omega) (by omega) (by omega) (by omega)), kfF_fr hfe (fun j hj => F j (by omega) (by omega) (by omega) (by omega)), ⟨(F 16 (by decide) (by decide) (by decide) (by decide)).trans g1, (F 17 (by decide) (by decide) (by decide) (by decide)).trans g2, (F 18 (by decide) (by decide) (by decide) (by decide)).trans g3, (F 19 (by decide) (by decide) (by decide) (by decide)).trans g4⟩, kP_fr hP (fun j hj => F j (by omega) (by omega) (by omega) (by omega))⟩
  have XT2 : xTp es2 t2 := by
    obtain ⟨⟨kd', nb, nm', tk, ft, pl', nx, h1⟩, sg, h2, h3⟩ := T1
    exact ⟨⟨kd', nb, nm', tk, ft, pl', nx, (f2 1 (by decide)).trans h1⟩, sg, (f2 2 (by decide)).trans h2, h3⟩
  obtain ⟨⟨v0, bb, h4⟩, h5, ⟨r0, r1, r2, r3, r4, r5, r6, r7⟩, ⟨h6, nm', h7, h8⟩, h9⟩ := XR
  have XX : qX es2 n k p hc kd pl0 ht hs' F1 F2 B Fe un U mk M L la lb lc t2 cs := ⟨XD2, XT2, ⟨v0, bb, (F 20 (by decide) (by decide) (by decide) (by decide)).trans h4⟩, xDs_fr h5 (fun j a b => F j (by omega) (by omega) (by omega) (by omega)), ⟨r0, r1, r2, r3, (F 34 (by decide) (by decide) (by decide) (by decide)).trans r4, (F 35 (by decide) (by decide) (by decide) (by decide)).trans r5, (F 36 (by decide) (by decide) (by decide) (by decide)).trans r6, (F 37 (by decide) (by decide) (by decide) (by decide)).trans r7⟩, ⟨h6, nm', (F 7 (by decide) (by decide) (by decide) (by decide)).trans h7, h8⟩, h9⟩
  have fin := fin es2 (qS_fr SS (fun j hj => f2 j ⟨by omega, by omega⟩)) (qI_mk XX ⟨D2, Y2, mLi_fr MLi (F 170 (by decide) (by decide) (by decide) (by decide))⟩ (qP_t (qP_s P) ht2))
  subst hr4
  simp only [ax_W_cons, ax_I, ax_cmp, ax_ii, ax_ll, ax_li, ax_st1, ax_st2, ax_kl, ax_k2, ax_fit, ax_rtok, List.getElem?_cons_zero, List.getElem?_cons_succ, List.length_cons, List.length_nil, List.set_cons_zero, List.set_cons_succ, Nat.reduceAdd, Nat.reduceDiv, Nat.reduceMod, Nat.reduceMul, Nat.reduceLT, Nat.reduceLeDiff, Int32.reduceOfInt, Int64.reduceOfInt, true_and, and_true, and_self, true_or, or_true, false_implies, true_implies, not_false_eq_true, not_true_eq_false, Value.category, Nat.reduceEqDiff, Option.toList, List.cons_append, List.nil_append, List.drop_succ_cons, List.drop_zero, ax_qq_eq, ax_t_1536]
  exact fin
theorem zht_of {dr : zDf} {kd' pl' ht' hs2 : Nat → Int32} (h : zCourt t = .inr dr) (hC : zCt dr kd' pl' ht' hs2) : zht dr.2.1.length ht' ∧ (3 ≤ dr.1 ∧ dr.1 ≤ 12) := by
  obtain ⟨d0, rfl, k3, k6, kc, -⟩ := zCourt_ok h
  refine ⟨fun i hi => ?_, k3⟩
  have hlen : (zSet d0).2.1.length = d0.2.1.length := List.length_map ..
  have e := (hC.1 i hi).2.2
  rw [hlen] at hi
  have gS : (zSet d0).2.1.getD i zC0 = ((d0.2.1.getD i zC0).1, min (d0.2.1.getD i zC0).2.1 (d0.1 - 1), (d0.2.1.getD i zC0).2.2) := zmapC hi
  rw [gS] at e
  have hm := kc (d0.2.1.getD i zC0) (by
    rw [List.getD_eq_getElem?_getD, List.getElem?_eq_getElem hi]
    exact List.getElem_mem hi)
  exact ⟨(d0.2.1.getD i zC0).2.2.1, hm.2.2.1, e⟩
theorem zLn_of {ls : zRl} {la' lb' lc' : Nat → Int32} (hc6 : cs.length ≤ 6) (h : zReign t cs = .inr ls) (hrc : zrc ls la' lb' lc') : zLn cs.length ls.length la' lb' lc' := by
  have hk := zRlines_ok hc6 _ _ _ (⟨by decide, fun x hx => by cases hx⟩) h
  refine ⟨hk.1, fun i hi => ?_⟩
  obtain ⟨h1, h2, h3⟩ := hrc i hi
  obtain ⟨k1, k2, k3, k4, k5⟩ := hk.2 (ls.getD i (0, 0, 0)) (by
    rw [List.getD_eq_getElem?_getD, List.getElem?_eq_getElem hi]
    exact List.getElem_mem hi)
  exact ⟨_, _, _, k1.1, k1.2, h1, h2, h3, k2, k3, k4, k5⟩
theorem qP_C {dr : zDf} {pm' kd' pl' ht' hs2 : Nat → Int32} {Fe' : zF} (h : zCourt t = .inr dr) (hC : zCt dr kd' pl' ht' hs2) (hF : Fe'.1 = 0) (hP : zPm dr.1 dr.2.1.length pm' pl') : qP (j + 1) dr.1 dr.2.1.length pm' pl' ht' (0, 0, fun _ => 0, pl', fun _ => 0) Fe' 0 U (fun _ => false) M 0 la lb lc (0, t.2) := by
  obtain ⟨z1, z2, z3⟩ := zht_of h hC
  refine ⟨⟨Nat.zero_le _, fun i hi => absurd hi (Nat.not_lt_zero i)⟩, ⟨⟨fun i _ => ⟨0, by decide, rfl⟩, kpl_of z2 hP, Nat.two_pow_pos _, fun c _ _ => rfl⟩, Nat.zero_le _, fun i _ => ⟨0, Nat.zero_le _, rfl⟩⟩, ⟨by rw [hF]; decide, fun i hi => by rw [hF] at hi; exact absurd hi (Nat.not_lt_zero i)⟩, fun u hu => absurd hu (Nat.not_lt_zero u), (fun m _ hm => by cases hm), ⟨by decide, fun i hi => absurd hi (Nat.not_lt_zero i)⟩, hP, hC.2.2, z1⟩
theorem lw_court (hal : ax_al n = 178) (hn : n ≤ 601024) (hs : sl ≤ 7293034) (hi : 7 * j + 7 ≤ N) (hN : N ≤ 3584) (S : qS es N xs) (X : qX es n k p hc kd pl0 ht hs' F1 F2 B Fe un U mk M L la lb lc t cs) (Mh : qM es n st w k p hc kd pm ht hs' F1 F2 B Fe un U mk M L la lb lc t cs) (P : qP j k p pm pl0 ht B Fe un U mk M L la lb lc t) (fin : ∀ es', qS es' N xs → qI es' n (j + 1) → ax_J ax_W 1300 601024 7293034 1536 1498 [some (.float 0), some (.ref 0), some (.ref 159), some (.ref 177), some (.int (nI (7 * j))), l5, l6] [] n sl es' R) : ax_J ax_W 1300 601024 7293034 1536 367 [some (.float 0), some (.ref 0), some (.ref 159), some (.ref 177), some (.int (nI (7 * j))), l5, l6] [] n sl es R := by
  obtain ⟨XD, XT, XR, XDs, XRs, XN, XL⟩ := id X
  obtain ⟨r0, r1, r2, r3, r4, r5, r6, r7⟩ := id XRs
  simp only [ax_W_cons, ax_I, ax_cmp, ax_ii, ax_ll, ax_li, ax_st1, ax_st2, ax_kl, ax_k2, ax_fit, ax_rtok, List.getElem?_cons_zero, List.getElem?_cons_succ, List.length_cons, List.length_nil, List.set_cons_zero, List.set_cons_succ, Nat.reduceAdd, Nat.reduceDiv, Nat.reduceMod, Nat.reduceMul, Nat.reduceLT, Nat.reduceLeDiff, Int32.reduceOfInt, Int64.reduceOfInt, true_and, and_true, and_self, true_or, or_true, false_implies, true_implies, not_false_eq_true, not_true_eq_false, Value.category, Nat.reduceEqDiff, Option.toList, List.cons_append, List.nil_append, List.drop_succ_cons, List.drop_zero, ax_qq_eq, ax_t_1536, ax_j_1536_367, ax_n_1536_367]
  refine ax_inv_of (Nat.le_of_ble_eq_true rfl) (Nat.le_of_ble_eq_true rfl) (fun _ => x0_rcv XD _) (fun h => absurd h (by decide)) hn hs (xp_court (d := 1219) XD P.2.2.2.2.2.2.2.1 P.1 XT XR XDs ?_ ?_)
  · intro es1 dr kd' pl' ht' hs2 Fe' hdr hCt hNm hTp hRd hDs hFe X1 fr
    have M1 := qM_fr Mh (fun j a b => fr j (Or.inr a))
    have SS := qS_fr S (fun j hj => fr j (Or.inr (by omega)))
    obtain ⟨ln, hl0, hl1⟩ := id M1.2.2
    simp only [ax_W_cons, ax_I, ax_cmp, ax_ii, ax_ll, ax_li, ax_st1, ax_st2, ax_kl, ax_k2, ax_fit, ax_rtok, List.getElem?_cons_zero, List.getElem?_cons_succ, List.length_cons, List.length_nil, List.set_cons_zero, List.set_cons_succ, Nat.reduceAdd, Nat.reduceDiv, Nat.reduceMod, Nat.reduceMul, Nat.reduceLT, Nat.reduceLeDiff, Int32.reduceOfInt, Int64.reduceOfInt, true_and, and_true, and_self, true_or, or_true, false_implies, true_implies, not_false_eq_true, not_true_eq_false, Value.category, Nat.reduceEqDiff, Option.toList, List.cons_append, List.nil_append, List.drop_succ_cons, List.drop_zero, ax_qq_eq, ax_t_1536]
    refine ax_inv_of (Nat.le_of_ble_eq_true rfl) (Nat.le_of_ble_eq_true rfl) (fun _ => mE_rcv M1.1.1 _) (fun h => absurd h (by decide)) hn hs (mp_court (d := 1238) M1.1 M1.2.1 P.1 hl0 ?_ ?_)
    · intro es2 st2 w2 dr2 hdr2 hJ hY hl fr2
      have e : dr2 = dr := by
        rw [hdr] at hdr2
        injection hdr2 with hdr2
        exact hdr2.symm
      subst e
      obtain ⟨pm', hP, D2⟩ := hJ kd' pl' ht' hs2 Fe' U M hCt hFe
      obtain ⟨ln2, q1, q2⟩ := hl
      have XX : qX es2 n dr2.1 dr2.2.1.length dr2.2.2.1.length kd' pl' ht' hs2 (zF4 dr2.2.2.2.2.1) (zF4 dr2.2.2.2.2.2) (0, 0, fun _ => 0, pl', fun _ => 0) Fe' 0 U (fun _ => false) M 0 la lb lc (0, t.2) dr2.2.1 := qX_fr ⟨X1, hTp, hRd, hDs, ⟨r0, r1, r2, r3, (fr 34 (by decide)).trans r4, (fr 35 (by decide)).trans r5, (fr 36 (by decide)).trans r6, (fr 37 (by decide)).trans r7⟩, hNm, rfl⟩ (fun j hj => fr2 j (Or.inl hj))
      have fin := fin es2 (qS_fr SS (fun j hj => fr2 j (Or.inr (by omega)))) (qI_mk XX ⟨D2, hY, ln2, q1, q2, fun i hi => absurd hi (Nat.not_lt_zero i)⟩ (qP_C hdr hCt hFe hP))
      simp only [ax_W_cons, ax_I, ax_cmp, ax_ii, ax_ll, ax_li, ax_st1, ax_st2, ax_kl, ax_k2, ax_fit, ax_rtok, List.getElem?_cons_zero, List.getElem?_cons_succ, List.length_cons, List.length_nil, List.set_cons_zero, List.set_cons_succ, Nat.reduceAdd, Nat.reduceDiv, Nat.reduceMod, Nat.reduceMul, Nat.reduceLT, Nat.reduceLeDiff, Int32.reduceOfInt, Int64.reduceOfInt, true_and, and_true, and_self, true_or, or_true, false_implies, true_implies, not_false_eq_true, not_true_eq_false, Value.category, Nat.reduceEqDiff, Option.toList, List.cons_append, List.nil_append, List.drop_succ_cons, List.drop_zero, ax_qq_eq, ax_t_1536]
      exact fin
    · intro es2 w2 x hx
      rw [hdr] at hx
      cases hx
  · intro es1 x hx hTp hRd hDs X1 fr
    have M1 := qM_fr Mh (fun j a b => fr j (Or.inr (by omega)) (by omega))
    have SS := qS_fr S (fun j hj => fr j (Or.inr (by omega)) (by omega))
    obtain ⟨ln, hl0, hl1⟩ := id M1.2.2
    simp only [ax_W_cons, ax_I, ax_cmp, ax_ii, ax_ll, ax_li, ax_st1, ax_st2, ax_kl, ax_k2, ax_fit, ax_rtok, List.getElem?_cons_zero, List.getElem?_cons_succ, List.length_cons, List.length_nil, List.set_cons_zero, List.set_cons_succ, Nat.reduceAdd, Nat.reduceDiv, Nat.reduceMod, Nat.reduceMul, Nat.reduceLT, Nat.reduceLeDiff, Int32.reduceOfInt, Int64.reduceOfInt, true_and, and_true, and_self, true_or, or_true, false_implies, true_implies, not_false_eq_true, not_true_eq_false, Value.category, Nat.reduceEqDiff, Option.toList, List.cons_append, List.nil_append, List.drop_succ_cons, List.drop_zero, ax_qq_eq, ax_t_1536]
    refine ax_inv_of (Nat.le_of_ble_eq_true rfl) (Nat.le_of_ble_eq_true rfl) (fun _ => mE_rcv M1.1.1 _) (fun h => absurd h (by decide)) hn hs (mp_court (d := 1238) M1.1 M1.2.1 P.1 hl0 ?_ ?_)
    · intro es2 st2 w2 dr2 hdr2
      rw [hx] at hdr2
      cases hdr2
    · intro es2 w2 x2 hx2 hY D2 f170 fr2
      have e : x2 = x := by
        rw [hx] at hx2
        injection hx2 with hx2
        exact hx2.symm
      subst e
      have hT0 : zT_ok (0, t.2) := ⟨Nat.zero_le _, fun i hi => absurd hi (Nat.not_lt_zero i)⟩
      obtain ⟨XN1, nm7, XN2, XN3⟩ := id XN
      have XX : qX es2 n k p hc kd pl0 ht hs' F1 F2 B Fe un U mk M L la lb lc (0, t.2) cs := qX_fr ⟨X1, hTp, hRd, hDs, ⟨r0, r1, r2, r3, (fr 34 (by decide) (by decide)).trans r4, (fr 35 (by decide) (by decide)).trans r5, (fr 36 (by decide) (by decide)).trans r6, (fr 37 (by decide) (by decide)).trans r7⟩, ⟨XN1, nm7, (fr 7 (by decide) (by decide)).trans XN2, XN3⟩, XL⟩ (fun j hj => fr2 j (Or.inl hj))
      have fin := fin es2 (qS_fr SS (fun j hj => fr2 j (Or.inr (by omega)))) (qI_mk XX ⟨D2, hY, mLi_fr M1.2.2 f170⟩ (qP_t (qP_s P) hT0))
      simp only [ax_W_cons, ax_I, ax_cmp, ax_ii, ax_ll, ax_li, ax_st1, ax_st2, ax_kl, ax_k2, ax_fit, ax_rtok, List.getElem?_cons_zero, List.getElem?_cons_succ, List.length_cons, List.length_nil, List.set_cons_zero, List.set_cons_succ, Nat.reduceAdd, Nat.reduceDiv, Nat.reduceMod, Nat.reduceMul, Nat.reduceLT, Nat.reduceLeDiff, Int32.reduceOfInt, Int64.reduceOfInt, true_and, and_true, and_self, true_or, or_true, false_implies, true_implies, not_false_eq_true, not_true_eq_false, Value.category, Nat.reduceEqDiff, Option.toList, List.cons_append, List.nil_append, List.drop_succ_cons, List.drop_zero, ax_qq_eq, ax_t_1536]
      exact fin
theorem lw_reign (hal : ax_al n = 178) (hn : n ≤ 601024) (hs : sl ≤ 7293034) (hi : 7 * j + 7 ≤ N) (hN : N ≤ 3584) (S : qS es N xs) (X : qX es n k p hc kd pl0 ht hs' F1 F2 B Fe un U mk M L la lb lc t cs) (Mh : qM es n st w k p hc kd pm ht hs' F1 F2 B Fe un U mk M L la lb lc t cs) (P : qP j k p pm pl0 ht B Fe un U mk M L la lb lc t) (fin : ∀ es', qS es' N xs → qI es' n (j + 1) → ax_J ax_W 1300 601024 7293034 1536 1498 [some (.float 0), some (.ref 0), some (.ref 159), some (.ref 177), some (.int (nI (7 * j))), l5, l6] [] n sl es' R) : ax_J ax_W 1300 601024 7293034 1536 380 [some (.float 0), some (.ref 0), some (.ref 159), some (.ref 177), some (.int (nI (7 * j))), l5, l6] [] n sl es R := by
  obtain ⟨XD, XT, XR, XDs, XRs, XN, XL⟩ := id X
  subst XL
  have hT0 : zT_ok (0, t.2) := ⟨Nat.zero_le _, fun i hi => absurd hi (Nat.not_lt_zero i)⟩
  obtain ⟨XN1, nm7, XN2, XN3⟩ := id XN
  simp only [ax_W_cons, ax_I, ax_cmp, ax_ii, ax_ll, ax_li, ax_st1, ax_st2, ax_kl, ax_k2, ax_fit, ax_rtok, List.getElem?_cons_zero, List.getElem?_cons_succ, List.length_cons, List.length_nil, List.set_cons_zero, List.set_cons_succ, Nat.reduceAdd, Nat.reduceDiv, Nat.reduceMod, Nat.reduceMul, Nat.reduceLT, Nat.reduceLeDiff, Int32.reduceOfInt, Int64.reduceOfInt, true_and, and_true, and_self, true_or, or_true, false_implies, true_implies, not_false_eq_true, not_true_eq_false, Value.category, Nat.reduceEqDiff, Option.toList, List.cons_append, List.nil_append, List.drop_succ_cons, List.drop_zero, ax_qq_eq, ax_t_1536, ax_j_1536_380, ax_n_1536_380]
  refine ax_inv_of (Nat.le_of_ble_eq_true rfl) (Nat.le_of_ble_eq_true rfl) (fun _ => x0_rcv XD _) (fun h => absurd h (by decide)) hn hs (xp_reign (d := 1279) XD XN P.1 XT XR XRs ?_ ?_)
  · intro es1 ls la' lb' lc' hls hlen hrc hTp hRd hRs X1 fr
    have M1 := qM_fr Mh (fun j a b => fr j (by omega) (by omega) (by omega))
    have SS := qS_fr S (fun j hj => fr j (by omega) (by omega) (by omega))
    obtain ⟨ln, hl0, hl1⟩ := id M1.2.2
    simp only [ax_W_cons, ax_I, ax_cmp, ax_ii, ax_ll, ax_li, ax_st1, ax_st2, ax_kl, ax_k2, ax_fit, ax_rtok, List.getElem?_cons_zero, List.getElem?_cons_succ, List.length_cons, List.length_nil, List.set_cons_zero, List.set_cons_succ, Nat.reduceAdd, Nat.reduceDiv, Nat.reduceMod, Nat.reduceMul, Nat.reduceLT, Nat.reduceLeDiff, Int32.reduceOfInt, Int64.reduceOfInt, true_and, and_true, and_self, true_or, or_true, false_implies, true_implies, not_false_eq_true, not_true_eq_false, Value.category, Nat.reduceEqDiff, Option.toList, List.cons_append, List.nil_append, List.drop_succ_cons, List.drop_zero, ax_qq_eq, ax_t_1536]
    refine ax_inv_of (Nat.le_of_ble_eq_true rfl) (Nat.le_of_ble_eq_true rfl) (fun _ => mE_rcv M1.1.1 _) (fun h => absurd h (by decide)) hn hs (mp_reign (d := 1293) M1.1 M1.2.1 P.1 hl0 ?_ ?_)
    · intro es2 w2 ls2 hls2 hLi hY D2 fr2
      have e : ls2 = ls := by
        rw [hls] at hls2
        injection hls2 with hls2
        exact hls2.symm
      subst e
      obtain ⟨p1, p2, p3, p4, p5, p6, p7⟩ := qP_s P
      have XX : qX es2 n k cs.length hc kd pl0 ht hs' F1 F2 B Fe un U mk M ls2.length la' lb' lc' (0, t.2) cs := qX_fr ⟨X1, hTp, hRd, xDs_fr XDs (fun j a b => fr j (by omega) (by omega) (by omega)), hRs, ⟨XN1, nm7, (fr 7 (by decide) (by decide) (by decide)).trans XN2, XN3⟩, rfl⟩ (fun j hj => fr2 j (Or.inl hj))
      have fin := fin es2 (qS_fr SS (fun j hj => fr2 j (Or.inr (by omega)))) (qI_mk XX ⟨D2, hY, hLi la' lb' lc' hrc⟩ ⟨hT0, p2, p3, p4, p5, zLn_of XN1 hls hrc, p7⟩)
      simp only [ax_W_cons, ax_I, ax_cmp, ax_ii, ax_ll, ax_li, ax_st1, ax_st2, ax_kl, ax_k2, ax_fit, ax_rtok, List.getElem?_cons_zero, List.getElem?_cons_succ, List.length_cons, List.length_nil, List.set_cons_zero, List.set_cons_succ, Nat.reduceAdd, Nat.reduceDiv, Nat.reduceMod, Nat.reduceMul, Nat.reduceLT, Nat.reduceLeDiff, Int32.reduceOfInt, Int64.reduceOfInt, true_and, and_true, and_self, true_or, or_true, false_implies, true_implies, not_false_eq_true, not_true_eq_false, Value.category, Nat.reduceEqDiff, Option.toList, List.cons_append, List.nil_append, List.drop_succ_cons, List.drop_zero, ax_qq_eq, ax_t_1536]
      exact fin
    · intro es2 w2 x hx
      rw [hls] at hx
      cases hx
  · intro es1 x hx hTp hRd hRs X1 fr
    have M1 := qM_fr Mh (fun j a b => fr j (by omega) (by omega))
    have SS := qS_fr S (fun j hj => fr j (by omega) (by omega))
    obtain ⟨ln, hl0, hl1⟩ := id M1.2.2
    simp only [ax_W_cons, ax_I, ax_cmp, ax_ii, ax_ll, ax_li, ax_st1, ax_st2, ax_kl, ax_k2, ax_fit, ax_rtok, List.getElem?_cons_zero, List.getElem?_cons_succ, List.length_cons, List.length_nil, List.set_cons_zero, List.set_cons_succ, Nat.reduceAdd, Nat.reduceDiv, Nat.reduceMod, Nat.reduceMul, Nat.reduceLT, Nat.reduceLeDiff, Int32.reduceOfInt, Int64.reduceOfInt, true_and, and_true, and_self, true_or, or_true, false_implies, true_implies, not_false_eq_true, not_true_eq_false, Value.category, Nat.reduceEqDiff, Option.toList, List.cons_append, List.nil_append, List.drop_succ_cons, List.drop_zero, ax_qq_eq, ax_t_1536]
    refine ax_inv_of (Nat.le_of_ble_eq_true rfl) (Nat.le_of_ble_eq_true rfl) (fun _ => mE_rcv M1.1.1 _) (fun h => absurd h (by decide)) hn hs (mp_reign (d := 1293) M1.1 M1.2.1 P.1 hl0 ?_ ?_)
    · intro es2 w2 ls2 hls2
      rw [hx] at hls2
      cases hls2
    · intro es2 w2 x2 hx2 hLi hY D2 fr2
      have e : x2 = x := by
        rw [hx] at hx2
        injection hx2 with hx2
        exact hx2.symm
      subst e
      have XX : qX es2 n k cs.length hc kd pl0 ht hs' F1 F2 B Fe un U mk M L la lb lc (0, t.2) cs := qX_fr ⟨X1, hTp, hRd, xDs_fr XDs (fun j a b => fr j (by omega) (by omega)), hRs, ⟨XN1, nm7, (fr 7 (by decide) (by decide)).trans XN2, XN3⟩, rfl⟩ (fun j hj => fr2 j (Or.inl hj))
      have fin := fin es2 (qS_fr SS (fun j hj => fr2 j (Or.inr (by omega)))) (qI_mk XX ⟨D2, hY, hLi L la lb lc P.2.2.2.2.2.1.1 M1.2.2⟩ (qP_t (qP_s P) hT0))
      simp only [ax_W_cons, ax_I, ax_cmp, ax_ii, ax_ll, ax_li, ax_st1, ax_st2, ax_kl, ax_k2, ax_fit, ax_rtok, List.getElem?_cons_zero, List.getElem?_cons_succ, List.length_cons, List.length_nil, List.set_cons_zero, List.set_cons_succ, Nat.reduceAdd, Nat.reduceDiv, Nat.reduceMod, Nat.reduceMul, Nat.reduceLT, Nat.reduceLeDiff, Int32.reduceOfInt, Int64.reduceOfInt, true_and, and_true, and_self, true_or, or_true, false_implies, true_implies, not_false_eq_true, not_true_eq_false, Value.category, Nat.reduceEqDiff, Option.toList, List.cons_append, List.nil_append, List.drop_succ_cons, List.drop_zero, ax_qq_eq, ax_t_1536]
      exact fin
theorem lw_rests (hal : ax_al n = 178) (hn : n ≤ 601024) (hs : sl ≤ 7293034) (hi : 7 * j + 7 ≤ N) (hN : N ≤ 3584) (S : qS es N xs) (X : qX es n k p hc kd pl0 ht hs' F1 F2 B Fe un U mk M L la lb lc t cs) (Mh : qM es n st w k p hc kd pm ht hs' F1 F2 B Fe un U mk M L la lb lc t cs) (P : qP j k p pm pl0 ht B Fe un U mk M L la lb lc t) (hn2 : n + 1 ≤ 601024) (hs2 : sl + 6 ≤ 7293034) (h178 : 178 ≤ n) (fin : ∀ n' sl' es' l5 l6, (n' = n ∧ sl' = sl ∨ n' = n + 1 ∧ sl' = sl + 6) → qS es' N xs → qI es' n' (j + 1) → ax_J ax_W 1300 601024 7293034 1536 1498 [some (.float 0), some (.ref 0), some (.ref 159), some (.ref 177), some (.int (nI (7 * j))), l5, l6] [] n' sl' es' R) : ax_J ax_W 1300 601024 7293034 1536 1279 [some (.float 0), some (.ref 0), some (.ref 159), some (.ref 177), some (.int (nI (7 * j))), l5, l6] [] n sl es R := by
  obtain ⟨S1, fo, S2⟩ := id S
  have hB := P.2.1
  have hj : j < 1000 := by omega
  have h12 : 12 ≤ 1300 := by decide
  have o177 : 177 < 178 := by decide
  have x0 := X.1.1
  unfold zXo at x0
  have i1 : nI (7 * j) + 1 = nI (7 * j + 1) := kn_add _ 1
  have v1 : vp_in (nI (7 * j + 1)) N := nI_in (by omega) (by omega)
  have c1 : (nI (7 * j + 1)).toNatClampNeg = 7 * j + 1 := nI_clamp (by omega)
  have i2 : nI (7 * j) + 2 = nI (7 * j + 2) := kn_add _ 2
  have v2 : vp_in (nI (7 * j + 2)) N := nI_in (by omega) (by omega)
  have c2 : (nI (7 * j + 2)).toNatClampNeg = 7 * j + 2 := nI_clamp (by omega)
  have i3 : nI (7 * j) + 3 = nI (7 * j + 3) := kn_add _ 3
  have v3 : vp_in (nI (7 * j + 3)) N := nI_in (by omega) (by omega)
  have c3 : (nI (7 * j + 3)).toNatClampNeg = 7 * j + 3 := nI_clamp (by omega)
  have i4 : nI (7 * j) + 4 = nI (7 * j + 4) := kn_add _ 4
  have v4 : vp_in (nI (7 * j + 4)) N := nI_in (by omega) (by omega)
  have c4 : (nI (7 * j + 4)).toNatClampNeg = 7 * j + 4 := nI_clamp (by omega)
  generalize hA : ax_rests (xs (7 * j + 1)) (xs (7 * j + 2)) (xs (7 * j + 3)) (xs (7 * j + 4)) = A
  -- the reference, and what comes of it
  have rest : ∀ n' sl' es1 k', ax_al n' = 178 → n' ≤ 601024 → sl' ≤ 7293034 → (n' = n ∧ sl' = sl ∨ n' = n + 1 ∧ sl' = sl + 6) → es1 ax_scr = .inl (0, N, .inl xs) → (∃ f, es1 177 = .inl (3, 1, .inr (.inl f)) ∧ ∀ v, A = some v → f 0 = v.toInt64) → (∀ j, j < 177 → es1 j = es j) → k' = (if A.isSome = true then 0 else 1) → ax_W 1300 601024 7293034 1536 (((2, .istore 5) : Nat × Instr) :: ((1, .aload 2) : Nat × Instr) :: ((1, .aload 0) : Nat × Instr) :: ((2, .iload 4) : Nat × Instr) :: ((1, .iconst 1) : Nat × Instr) :: ((1, .iadd) : Nat × Instr) :: ((1, .iaload) : Nat × Instr) :: ((1, .aload 0) : Nat × Instr) :: ((2, .iload 4) : Nat × Instr) :: ((1, .iconst 2) : Nat × Instr) :: ((1, .iadd) : Nat × Instr) :: ((1, .iaload) : Nat × Instr) :: ((1, .aload 0) : Nat × Instr) :: ((2, .iload 4) : Nat × Instr) :: ((1, .iconst 3) : Nat × Instr) :: ((1, .iadd) : Nat × Instr) :: ((1, .iaload) : Nat × Instr) :: ((1, .aload 0) : Nat × Instr) :: ((2, .iload 4) : Nat × Instr) :: ((1, .iconst 4) : Nat × Instr) :: ((1, .iadd) : Nat × Instr) :: ((1, .iaload) : Nat × Instr) :: ((3, .invokeinterface 1512 21) : Nat × Instr) :: ((2, .istore 6) : Nat × Instr) :: ((1, .aload 2) : Nat × Instr) :: ((3, .invokeinterface 1408 5) : Nat × Instr) :: ((2, .iload 5) : Nat × Instr) :: ((3, .if_icmp .eq 1351) : Nat × Instr) :: ((1, .iconst 0) : Nat × Instr) :: ((1, .ireturn) : Nat × Instr) :: []) 1308 [some (.float 0), some (.ref 0), some (.ref 159), some (.ref 177), some (.int (nI (7 * j))), l5, l6] [.int k'] n' sl' es1 R := by
    intro n' sl' es1 k' hal' hn hs hns U1 hU fr hk'
    have X1 := qX_n hal' (qX_fr X (fun j hj => fr j (by omega)))
    have M1 := qM_n hal' (qM_fr Mh (fun j a b => fr j (by omega)))
    have Z1 := mD_Z M1.1 hB hj
    obtain ⟨f, U2, U3⟩ := hU
    simp only [ax_W_cons, ax_I, ax_cmp, ax_ii, ax_ll, ax_li, ax_st1, ax_st2, ax_kl, ax_k2, ax_fit, ax_rtok, List.getElem?_cons_zero, List.getElem?_cons_succ, List.length_cons, List.length_nil, List.set_cons_zero, List.set_cons_succ, Nat.reduceAdd, Nat.reduceDiv, Nat.reduceMod, Nat.reduceMul, Nat.reduceLT, Nat.reduceLeDiff, Int32.reduceOfInt, Int64.reduceOfInt, true_and, and_true, and_self, true_or, or_true, false_implies, true_implies, not_false_eq_true, not_true_eq_false, Value.category, Nat.reduceEqDiff, Option.toList, List.cons_append, List.nil_append, List.drop_succ_cons, List.drop_zero, ax_qq_eq, ax_t_1536, U1, i1, v1, c1, i2, v2, c2, i3, v3, c3, i4, v4, c4]
    refine ax_inv_of (Nat.le_of_ble_eq_true rfl) (Nat.le_of_ble_eq_true rfl) (fun _ => mE_rcv M1.1.1 _) (fun h => absurd h (by decide)) hn hs (mp_rests (d := 1289) Z1 _ _ _ _ ?_)
    intro es2 q2 hthr
    rw [hA] at hthr ⊢
    have F2 := mq_d q2
    have V2 := (F2 177 (by decide)).trans U2
    have I2 := qI_q X1 M1 P q2
    have SS : qS es2 N xs := ⟨(F2 ax_scr (by decide)).trans U1, f, V2⟩
    obtain ⟨t0, hO2⟩ : ∃ t, mThr es2 t := ⟨_, hthr⟩
    obtain ⟨b1, b2, b3, b4, b5, b6, b7, b8, b9, b10, b11, w0⟩ := id hthr
    simp only [ax_W_cons, ax_I, ax_cmp, ax_ii, ax_ll, ax_li, ax_st1, ax_st2, ax_kl, ax_k2, ax_fit, ax_rtok, List.getElem?_cons_zero, List.getElem?_cons_succ, List.length_cons, List.length_nil, List.set_cons_zero, List.set_cons_succ, Nat.reduceAdd, Nat.reduceDiv, Nat.reduceMod, Nat.reduceMul, Nat.reduceLT, Nat.reduceLeDiff, Int32.reduceOfInt, Int64.reduceOfInt, true_and, and_true, and_self, true_or, or_true, false_implies, true_implies, not_false_eq_true, not_true_eq_false, Value.category, Nat.reduceEqDiff, Option.toList, List.cons_append, List.nil_append, List.drop_succ_cons, List.drop_zero, ax_qq_eq, ax_t_1536]
    refine ax_inv_of (Nat.le_of_ble_eq_true rfl) (Nat.le_of_ble_eq_true rfl) (fun _ => ax_rcv_ok (by omega) w0) (fun h => absurd h (by decide)) hn hs (mp_thrown (d := 1299) hal' hthr ?_)
    have z1 : vp_in 0 1 := nI_in (show 0 < 1 by decide) (by decide)
    have z2 : (0 : Int32).toNatClampNeg = 0 := rfl
    have c10 : ¬ (1 : Int32) = 0 := by decide
    cases A with
    | none =>
      have e : k' = 1 := hk'
      subst e
      have fin := fin n' sl' es2 (some (.int 1)) (some (.int 0)) hns SS I2
      have g : (if (none : Option Int32).isSome = true then (0 : Int32) else 1) = 1 := rfl
      have g2 : (none : Option Int32).getD 0 = 0 := rfl
      rw [g, g2]
      simp only [ax_W_cons, ax_I, ax_cmp, ax_ii, ax_ll, ax_li, ax_st1, ax_st2, ax_kl, ax_k2, ax_fit, ax_rtok, List.getElem?_cons_zero, List.getElem?_cons_succ, List.length_cons, List.length_nil, List.set_cons_zero, List.set_cons_succ, Nat.reduceAdd, Nat.reduceDiv, Nat.reduceMod, Nat.reduceMul, Nat.reduceLT, Nat.reduceLeDiff, Int32.reduceOfInt, Int64.reduceOfInt, true_and, and_true, and_self, true_or, or_true, false_implies, true_implies, not_false_eq_true, not_true_eq_false, Value.category, Nat.reduceEqDiff, Option.toList, List.cons_append, List.nil_append, List.drop_succ_cons, List.drop_zero, ax_qq_eq, ax_t_1536, ax_j_1536_1351, ax_n_1536_1351, ax_j_1536_1368, ax_n_1536_1368, c10]
      exact fin
    | some v =>
      have e : k' = 0 := hk'
      subst e
      have fin := fin n' sl' es2 (some (.int 0)) (some (.int v)) hns SS I2
      have g : (if (some v).isSome = true then (0 : Int32) else 1) = 0 := rfl
      have g2 : (some v).getD 0 = v := rfl
      have u0 := U3 v rfl
      rw [g, g2]
      simp only [ax_W_cons, ax_I, ax_cmp, ax_ii, ax_ll, ax_li, ax_st1, ax_st2, ax_kl, ax_k2, ax_fit, ax_rtok, List.getElem?_cons_zero, List.getElem?_cons_succ, List.length_cons, List.length_nil, List.set_cons_zero, List.set_cons_succ, Nat.reduceAdd, Nat.reduceDiv, Nat.reduceMod, Nat.reduceMul, Nat.reduceLT, Nat.reduceLeDiff, Int32.reduceOfInt, Int64.reduceOfInt, true_and, and_true, and_self, true_or, or_true, false_implies, true_implies, not_false_eq_true, not_true_eq_false, Value.category, Nat.reduceEqDiff, Option.toList, List.cons_append, List.nil_append, List.drop_succ_cons, List.drop_zero, ax_qq_eq, ax_t_1536, ax_j_1536_1351, ax_n_1536_1351, ax_j_1536_1368, ax_n_1536_1368, V2, hal', o177, z1, z2, u0, zcmp0]
      exact fin
  rw [ax_j_1536_1279]
  dsimp only
  generalize hr : (((2, .istore 5) : Nat × Instr) :: ((1, .aload 2) : Nat × Instr) :: ((1, .aload 0) : Nat × Instr) :: ((2, .iload 4) : Nat × Instr) :: ((1, .iconst 1) : Nat × Instr) :: ((1, .iadd) : Nat × Instr) :: ((1, .iaload) : Nat × Instr) :: ((1, .aload 0) : Nat × Instr) :: ((2, .iload 4) : Nat × Instr) :: ((1, .iconst 2) : Nat × Instr) :: ((1, .iadd) : Nat × Instr) :: ((1, .iaload) : Nat × Instr) :: ((1, .aload 0) : Nat × Instr) :: ((2, .iload 4) : Nat × Instr) :: ((1, .iconst 3) : Nat × Instr) :: ((1, .iadd) : Nat × Instr) :: ((1, .iaload) : Nat × Instr) :: ((1, .aload 0) : Nat × Instr) :: ((2, .iload 4) : Nat × Instr) :: ((1, .iconst 4) : Nat × Instr) :: ((1, .iadd) : Nat × Instr) :: ((1, .iaload) : Nat × Instr) :: ((3, .invokeinterface 1512 21) : Nat × Instr) :: ((2, .istore 6) : Nat × Instr) :: ((1, .aload 2) : Nat × Instr) :: ((3, .invokeinterface 1408 5) : Nat × Instr) :: ((2, .iload 5) : Nat × Instr) :: ((3, .if_icmp .eq 1351) : Nat × Instr) :: ((1, .iconst 0) : Nat × Instr) :: ((1, .ireturn) : Nat × Instr) :: []) = rst at rest
  simp only [ax_W_cons, ax_I, ax_cmp, ax_ii, ax_ll, ax_li, ax_st1, ax_st2, ax_kl, ax_k2, ax_fit, ax_rtok, List.getElem?_cons_zero, List.getElem?_cons_succ, List.length_cons, List.length_nil, List.set_cons_zero, List.set_cons_succ, Nat.reduceAdd, Nat.reduceDiv, Nat.reduceMod, Nat.reduceMul, Nat.reduceLT, Nat.reduceLeDiff, Int32.reduceOfInt, Int64.reduceOfInt, true_and, and_true, and_self, true_or, or_true, false_implies, true_implies, not_false_eq_true, not_true_eq_false, Value.category, Nat.reduceEqDiff, Option.toList, List.cons_append, List.nil_append, List.drop_succ_cons, List.drop_zero, ax_qq_eq, ax_t_1536, S1, i1, v1, c1, i2, v2, c2, i3, v3, c3, i4, v4, c4, ax_bi, h12, kx_cat0, hal, o177, x0, S2, hA]
  cases A with
  | none =>
    have h178' : ax_NF ≤ n := h178
    refine ⟨h178', by omega, by omega, ?_⟩
    exact rest (n + 1) (sl + 6) es 1 (by unfold ax_al at hal ⊢; rw [show ax_NF = 178 from rfl] at hal ⊢; omega) hn2 hs2 (Or.inr ⟨rfl, rfl⟩) S1 ⟨fo, S2, fun v hv => by cases hv⟩ (fun j _ => rfl) rfl
  | some v =>
    exact rest n sl _ 0 hal hn hs (Or.inl ⟨rfl, rfl⟩) ((ax_up_ne _ _ (by decide)).trans S1) ⟨_, ax_up_same .., fun v' hv => by
      injection hv with hv
      rw [updL_same, hv]⟩ (fun j hj => ax_up_ne _ _ (by omega)) rfl
end LL
