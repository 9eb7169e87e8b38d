/-! the reference: beats -/
theorem kx_ediv2 {a b : Nat} (ha : a ≤ 99) (hb : b ≤ 99) : (nI a + nI b) / 2 = nI ((a + b) / 2) := by
  rw [kn_add]
  exact pk_div (d := 2) (by omega) (by decide) (by decide)
theorem kx_pv_mod {k c : Nat} (hc : c < k) : (c + k - 1) % k = kx_pv k c := by
  unfold kx_pv
  split
  · rw [show c + k - 1 = (c - 1) + k by omega, Nat.add_mod_right, Nat.mod_eq_of_lt (by omega)]
  · rw [show c + k - 1 = k - 1 by omega, Nat.mod_eq_of_lt (by omega)]
theorem kx_nx_mod {k c : Nat} (hc : c < k) : (c + 1) % k = kx_nx k c := by
  unfold kx_nx
  split
  · rw [Nat.mod_eq_of_lt (by omega)]
  · rw [show c + 1 = k by omega, Nat.mod_self]
theorem mx_kd {x : Int32} (y z : Int32) (h : y + 13 = z) : (x - 13 = y) = (x = z) := by
  apply propext
  constructor
  · intro e
    rw [← h, ← e, Int32.sub_add_cancel]
  · intro e
    rw [e, ← h, Int32.add_sub_cancel]
theorem mfr_of {es es' : ax_H} (h : ∀ j, j ≠ 171 ∧ j ≠ 172 ∧ j ≠ 173 ∧ j ≠ 175 → es' j = es j) : mfr es es' := h
section MM
variable {d n sl k p hc : Nat} {es : ax_H} {kd pm ht hs : Nat → Int32} {F1 F2 : Int32 → Int32 → Int32 → Int32 → Int32} {st : Nat → Int32} {b T C : Nat} {sh pl dn : Nat → Int32} {Q : Option Value → ax_H → Prop}
/-- the second law read -/
theorem mk_readOf (hal : ax_al n = 178) (hK : mK es k p hc kd pm ht hs F1 F2) (hX : mX es st) (hk : k ≤ 12) (hp : p ≤ 6) (hb : b + 52 ≤ 1196) (hV : mV st b k p T C sh pl dn) {i c : Nat} (hi : i < p) (hc2 : c < k) (h : Int32) (hQ : ∀ es', mfr es es' → mX es' st → Q (some (.int (F2 (sh c) h (nI T) (ht i)))) es') : ax_Mt (d + 2) 1464 [.ref 159, .int (nI b), .int (nI i), .int (nI c), .int h] n sl es Q := by
  obtain ⟨⟨th, tp, sz, at0, fl, cd, nm, rm, on, fh, un, g, h0⟩, ct, op, ar, h1, h2, h3, hct, hL⟩ := id hK
  obtain ⟨x1, ⟨fa, x2⟩, ⟨pi, x3⟩, wa, x4⟩ := id hX
  have e1 : nI b + 2 + nI c = nI (b + 2 + c) := by
    show nI b + nI 2 + nI c = _
    rw [kn_add, kn_add]
  have v1 : vp_in (nI (b + 2 + c)) 1196 := nI_in (by omega) (by decide)
  have e2 : (nI (b + 2 + c)).toNatClampNeg = b + 2 + c := nI_clamp (by omega)
  have e3 := hV.2.2.1 c hc2
  have a1 : nI b + 0 = nI b := by rw [← nI_0, kn_add]; rfl
  have a2 : vp_in (nI b) 1196 := nI_in (by omega) (by decide)
  have a3 : (nI b).toNatClampNeg = b := nI_clamp (by omega)
  have a4 := hV.1
  have g0 : ∀ e, ax_up es 171 e 159 = _ := fun e => (ax_up_ne es e (by decide)).trans h0
  have g1 : ∀ e, ax_up es 171 e 173 = _ := fun e => (ax_up_ne es e (by decide)).trans x1
  have g2 : ∀ e, ax_up es 171 e 165 = _ := fun e => (ax_up_ne es e (by decide)).trans h1
  have f0 : ∀ e, mfr es (ax_up es 171 e) := fun e j hj => ax_up_ne _ _ hj.1
  have v4 : vp_in 4 80 := nI_in (c := 4) (by decide) (by decide)
  have m4 : (4 : Int32).toNatClampNeg = 4 := by decide
  refine ax_Mt_go (m := ax_m_11_56) (ls := [some (.ref 159), some (.int (nI b)), some (.int (nI i)), some (.int (nI c)), some (.int h)]) rfl ax_b_1464_0 (Nat.le_of_ble_eq_true rfl) rfl ?_
  simp only [ax_W_cons, ax_I, ax_cmp, ax_ii, ax_ll, ax_li, ax_st1, ax_st2, ax_kl, ax_k2, ax_fit, ax_rtok, List.getElem?_cons_zero, List.getElem?_cons_succ, List.length_cons, List.length_nil, List.set_cons_zero, List.set_cons_succ, Nat.reduceAdd, Nat.reduceDiv, Nat.reduceMod, Nat.reduceMul, Nat.reduceLT, Nat.reduceLeDiff, Int32.reduceOfInt, Int64.reduceOfInt, true_and, and_true, and_self, true_or, or_true, false_implies, true_implies, not_false_eq_true, not_true_eq_false, Value.category, Nat.reduceEqDiff, Option.toList, List.cons_append, List.nil_append, List.drop_succ_cons, List.drop_zero, ax_qq_eq, ax_t_1464, h0, g0, g1, x1, x2, mo_f, hal, e1, v1, e2, e3, a1, a2, a3, a4, kx_v0, kx_v1, kx_v2, kx_n0, kx_m1, kx_m2, ax_up_same, ax_up_up]
  refine ax_inv_of (Nat.le_of_ble_eq_true rfl) (Nat.le_of_ble_eq_true rfl) (fun _ => mO_rcv hal (mK_fr hK (f0 _)).1 _) (fun h => absurd h (by decide)) (Nat.le_refl _) (Nat.le_refl _) (mk_courtierOf hal (mK_fr hK (f0 _)) hp hi (w := 2) (by decide) ?_)
  rw [if_neg (by decide), if_neg (by decide)]
  simp only [ax_W_cons, ax_I, ax_cmp, ax_ii, ax_ll, ax_li, ax_st1, ax_st2, ax_kl, ax_k2, ax_fit, ax_rtok, List.getElem?_cons_zero, List.getElem?_cons_succ, List.length_cons, List.length_nil, List.set_cons_zero, List.set_cons_succ, Nat.reduceAdd, Nat.reduceDiv, Nat.reduceMod, Nat.reduceMul, Nat.reduceLT, Nat.reduceLeDiff, Int32.reduceOfInt, Int64.reduceOfInt, true_and, and_true, and_self, true_or, or_true, false_implies, true_implies, not_false_eq_true, not_true_eq_false, Value.category, Nat.reduceEqDiff, Option.toList, List.cons_append, List.nil_append, List.drop_succ_cons, List.drop_zero, ax_qq_eq, ax_t_1464, g0, g2, mo_f, hal, kx_v3, kx_m3, ax_up_same, ax_up_up, v4, m4]
  generalize hfa : upd (upd (upd (upd fa 0 (sh c)) 1 h) 2 (nI T)) 3 (ht i) = fb
  have b0 : fb 0 = sh c := by rw [← hfa]; simp [upd]
  have b1 : fb 1 = h := by rw [← hfa]; simp [upd]
  have b2 : fb 2 = nI T := by rw [← hfa]; simp [upd]
  have b3 : fb 3 = ht i := by rw [← hfa]; simp [upd]
  have hX1 : mX (ax_up es 171 (.inl (0, 4, .inl fb))) st := ⟨g1 _, ⟨fb, ax_up_same ..⟩, ⟨pi, (ax_up_ne _ _ (by decide)).trans x3⟩, wa, (ax_up_ne _ _ (by decide)).trans x4⟩
  rcases hL.2 with ⟨l1, l2⟩ | ⟨a, l1, len, l2, l3, l4, l5⟩
  · have l3 : ¬ (0 : Int32) ≤ -1 := by decide
    simp only [ax_W_cons, ax_I, ax_cmp, ax_ii, ax_ll, ax_li, ax_st1, ax_st2, ax_kl, ax_k2, ax_fit, ax_rtok, List.getElem?_cons_zero, List.getElem?_cons_succ, List.length_cons, List.length_nil, List.set_cons_zero, List.set_cons_succ, Nat.reduceAdd, Nat.reduceDiv, Nat.reduceMod, Nat.reduceMul, Nat.reduceLT, Nat.reduceLeDiff, Int32.reduceOfInt, Int64.reduceOfInt, true_and, and_true, and_self, true_or, or_true, false_implies, true_implies, not_false_eq_true, not_true_eq_false, Value.category, Nat.reduceEqDiff, Option.toList, List.cons_append, List.nil_append, List.drop_succ_cons, List.drop_zero, ax_qq_eq, ax_t_1464, g0, g2, mo_f, hal, l1, l3, ax_up_same, kx_v0, kx_n0, b0]
    rw [ax_j_1464_78]
    simp only [ax_W_cons, ax_I, ax_cmp, ax_ii, ax_ll, ax_li, ax_st1, ax_st2, ax_kl, ax_k2, ax_fit, ax_rtok, List.getElem?_cons_zero, List.getElem?_cons_succ, List.length_cons, List.length_nil, List.set_cons_zero, List.set_cons_succ, Nat.reduceAdd, Nat.reduceDiv, Nat.reduceMod, Nat.reduceMul, Nat.reduceLT, Nat.reduceLeDiff, Int32.reduceOfInt, Int64.reduceOfInt, true_and, and_true, and_self, true_or, or_true, false_implies, true_implies, not_false_eq_true, not_true_eq_false, Value.category, Nat.reduceEqDiff, Option.toList, List.cons_append, List.nil_append, List.drop_succ_cons, List.drop_zero, ax_qq_eq, ax_t_1464]
    refine ax_inv_of (Nat.le_of_ble_eq_true rfl) (Nat.le_of_ble_eq_true rfl) (fun _ => absurd ‹_› (by decide)) (fun h => absurd h (by decide)) (Nat.le_refl _) (Nat.le_refl _) (mk_kept _ ?_)
    simp only [ax_W_cons, ax_I, ax_cmp, ax_ii, ax_ll, ax_li, ax_st1, ax_st2, ax_kl, ax_k2, ax_fit, ax_rtok, List.getElem?_cons_zero, List.getElem?_cons_succ, List.length_cons, List.length_nil, List.set_cons_zero, List.set_cons_succ, Nat.reduceAdd, Nat.reduceDiv, Nat.reduceMod, Nat.reduceMul, Nat.reduceLT, Nat.reduceLeDiff, Int32.reduceOfInt, Int64.reduceOfInt, true_and, and_true, and_self, true_or, or_true, false_implies, true_implies, not_false_eq_true, not_true_eq_false, Value.category, Nat.reduceEqDiff, Option.toList, List.cons_append, List.nil_append, List.drop_succ_cons, List.drop_zero, ax_qq_eq, ax_t_1464]
    rw [l2] at hQ
    exact hQ _ (f0 _) hX1
  · have l6 : (0 : Int32) ≤ nI a := nI_pos' (by omega)
    simp only [ax_W_cons, ax_I, ax_cmp, ax_ii, ax_ll, ax_li, ax_st1, ax_st2, ax_kl, ax_k2, ax_fit, ax_rtok, List.getElem?_cons_zero, List.getElem?_cons_succ, List.length_cons, List.length_nil, List.set_cons_zero, List.set_cons_succ, Nat.reduceAdd, Nat.reduceDiv, Nat.reduceMod, Nat.reduceMul, Nat.reduceLT, Nat.reduceLeDiff, Int32.reduceOfInt, Int64.reduceOfInt, true_and, and_true, and_self, true_or, or_true, false_implies, true_implies, not_false_eq_true, not_true_eq_false, Value.category, Nat.reduceEqDiff, Option.toList, List.cons_append, List.nil_append, List.drop_succ_cons, List.drop_zero, ax_qq_eq, ax_t_1464, ax_j_1464_68, ax_n_1464_68, g0, g2, mo_f, hal, l1, l6, v4, m4]
    refine ax_inv_of (Nat.le_of_ble_eq_true rfl) (Nat.le_of_ble_eq_true rfl) (fun _ => mO_rcv hal (mK_fr hK (f0 _)).1 _) (fun h => absurd h (by decide)) (Nat.le_refl _) (Nat.le_refl _) (mk_worthAt hal (mK_fr hK (f0 _)).1 ((ax_up_ne _ _ (by decide)).trans h2) ((ax_up_ne _ _ (by decide)).trans h3) (ax_up_same ..) ((ax_up_ne _ _ (by decide)).trans x3) l2 l3 (l4 fb pi) ?_)
    simp only [ax_W_cons, ax_I, ax_cmp, ax_ii, ax_ll, ax_li, ax_st1, ax_st2, ax_kl, ax_k2, ax_fit, ax_rtok, List.getElem?_cons_zero, List.getElem?_cons_succ, List.length_cons, List.length_nil, List.set_cons_zero, List.set_cons_succ, Nat.reduceAdd, Nat.reduceDiv, Nat.reduceMod, Nat.reduceMul, Nat.reduceLT, Nat.reduceLeDiff, Int32.reduceOfInt, Int64.reduceOfInt, true_and, and_true, and_self, true_or, or_true, false_implies, true_implies, not_false_eq_true, not_true_eq_false, Value.category, Nat.reduceEqDiff, Option.toList, List.cons_append, List.nil_append, List.drop_succ_cons, List.drop_zero, ax_qq_eq, ax_t_1464, ax_j_1464_78, ax_n_1464_78]
    refine ax_inv_of (Nat.le_of_ble_eq_true rfl) (Nat.le_of_ble_eq_true rfl) (fun _ => absurd ‹_› (by decide)) (fun h => absurd h (by decide)) (Nat.le_refl _) (Nat.le_refl _) (mk_kept _ ?_)
    simp only [ax_W_cons, ax_I, ax_cmp, ax_ii, ax_ll, ax_li, ax_st1, ax_st2, ax_kl, ax_k2, ax_fit, ax_rtok, List.getElem?_cons_zero, List.getElem?_cons_succ, List.length_cons, List.length_nil, List.set_cons_zero, List.set_cons_succ, Nat.reduceAdd, Nat.reduceDiv, Nat.reduceMod, Nat.reduceMul, Nat.reduceLT, Nat.reduceLeDiff, Int32.reduceOfInt, Int64.reduceOfInt, true_and, and_true, and_self, true_or, or_true, false_implies, true_implies, not_false_eq_true, not_true_eq_false, Value.category, Nat.reduceEqDiff, Option.toList, List.cons_append, List.nil_append, List.drop_succ_cons, List.drop_zero, ax_qq_eq, ax_t_1464]
    rw [l5 fb pi]
    simp only [b0, b1, b2, b3]
    refine hQ _ (fun j hj => (ax_up_ne _ _ hj.2.1).trans (ax_up_ne _ _ hj.1)) ⟨(ax_up_ne _ _ (by decide)).trans hX1.1, ⟨fb, (ax_up_ne _ _ (by decide)).trans (ax_up_same ..)⟩, ⟨_, ax_up_same ..⟩, wa, (ax_up_ne _ _ (by decide)).trans ((ax_up_ne _ _ (by decide)).trans x4)⟩
theorem mk_doesBy (hal : ax_al n = 178) (hK : mK es k p hc kd pm ht hs F1 F2) (hX : mX es st) (hk0 : 0 < k) (hk : k ≤ 12) (hp : p ≤ 6) (hb : b + 52 ≤ 1196) (hV : mV st b k p T C sh pl dn) (hpl : kpl k p pl) {i : Nat} (hi : i < p) (h : Int32) (hQ : ∀ es', mfr es es' → mX es' st → Q (some (.int (kx_deed F2 k kd ht h (nI T) sh pl i))) es') : ax_Mt (d + 3) 1465 [.ref 159, .int (nI b), .int (nI i), .int h] n sl es Q := by
  obtain ⟨th, tp, sz, at0, fl, cd, nm, rm, on, fh, un, g, h0⟩ := id hK.1
  have x1 := hX.1
  obtain ⟨c, hc2, ec⟩ := hpl i hi
  have e1 : nI b + 2 + nI c = nI (b + 2 + c) := by
    show nI b + nI 2 + nI c = _
    rw [kn_add, kn_add]
  have v1 : vp_in (nI (b + 2 + c)) 1196 := nI_in (by omega) (by decide)
  have e2 : (nI (b + 2 + c)).toNatClampNeg = b + 2 + c := nI_clamp (by omega)
  have e3 := hV.2.2.1 c hc2
  have a1 : nI b + 14 + nI i = nI (b + 14 + i) := by
    show nI b + nI 14 + nI i = _
    rw [kn_add, kn_add]
  have a2 : vp_in (nI (b + 14 + i)) 1196 := nI_in (by omega) (by decide)
  have a3 : (nI (b + 14 + i)).toNatClampNeg = b + 14 + i := nI_clamp (by omega)
  have a4 := hV.2.2.2.1 i hi
  rw [ec] at a4
  have k15 : (kd i - 13 = 2) = (kd i = 15) := mx_kd 2 15 (by decide)
  have k14 : (kd i - 13 = 1) = (kd i = 14) := mx_kd 1 14 (by decide)
  have k16 : (kd i - 13 = 3) = (kd i = 16) := mx_kd 3 16 (by decide)
  unfold kx_deed at hQ
  rw [ec, nI_clamp (by omega)] at hQ
  dsimp only at hQ
  refine ax_Mt_go (m := ax_m_11_57) (ls := [some (.ref 159), some (.int (nI b)), some (.int (nI i)), some (.int h), none, none, none, none]) rfl ax_b_1465_0 (Nat.le_of_ble_eq_true rfl) rfl ?_
  simp only [ax_W_cons, ax_I, ax_cmp, ax_ii, ax_ll, ax_li, ax_st1, ax_st2, ax_kl, ax_k2, ax_fit, ax_rtok, List.getElem?_cons_zero, List.getElem?_cons_succ, List.length_cons, List.length_nil, List.set_cons_zero, List.set_cons_succ, Nat.reduceAdd, Nat.reduceDiv, Nat.reduceMod, Nat.reduceMul, Nat.reduceLT, Nat.reduceLeDiff, Int32.reduceOfInt, Int64.reduceOfInt, true_and, and_true, and_self, true_or, or_true, false_implies, true_implies, not_false_eq_true, not_true_eq_false, Value.category, Nat.reduceEqDiff, Option.toList, List.cons_append, List.nil_append, List.drop_succ_cons, List.drop_zero, ax_qq_eq, ax_t_1465]
  refine ax_inv_of (Nat.le_of_ble_eq_true rfl) (Nat.le_of_ble_eq_true rfl) (fun _ => mO_rcv hal hK.1 _) (fun h => absurd h (by decide)) (Nat.le_refl _) (Nat.le_refl _) (mk_courtierOf hal hK hp hi (w := 0) (by decide) ?_)
  rw [if_pos rfl]
  -- the end of it
  have fin : ∀ es1 (v : Int32) v7, mfr es es1 → mX es1 st → (kd i = 16 ∧ 0 < sh c → Q (some (.int (v + 1))) es1) → (¬ (kd i = 16 ∧ 0 < sh c) → Q (some (.int v)) es1) → ax_W (d + 3) n sl 1465 [(2, .istore 7), (2, .iload 7), (2, .iload 4), (1, .iconst 3), (3, .if_icmp .ne 110), (2, .iload 6), (3, .ifCond .le 110), (1, .iconst 1), (3, .goto 111)] 91 [some (.ref 159), some (.int (nI b)), some (.int (nI i)), some (.int h), some (.int (kd i - 13)), some (.int (nI c)), some (.int (sh c)), v7] [.int v] n sl es1 (ax_qq n sl Q) := by
    intro es1 v v7 j1 j2 q1 q2
    simp only [ax_W_cons, ax_I, ax_cmp, ax_ii, ax_ll, ax_li, ax_st1, ax_st2, ax_kl, ax_k2, ax_fit, ax_rtok, List.getElem?_cons_zero, List.getElem?_cons_succ, List.length_cons, List.length_nil, List.set_cons_zero, List.set_cons_succ, Nat.reduceAdd, Nat.reduceDiv, Nat.reduceMod, Nat.reduceMul, Nat.reduceLT, Nat.reduceLeDiff, Int32.reduceOfInt, Int64.reduceOfInt, true_and, and_true, and_self, true_or, or_true, false_implies, true_implies, not_false_eq_true, not_true_eq_false, Value.category, Nat.reduceEqDiff, Option.toList, List.cons_append, List.nil_append, List.drop_succ_cons, List.drop_zero, ax_qq_eq, ax_t_1465, ax_j_1465_110, ax_n_1465_110, ax_j_1465_111, ax_n_1465_111, k16]
    refine ⟨fun h1 => ?_, fun h1 => ⟨fun h2 => ?_, fun h2 => ?_⟩⟩
    · have := q2 (fun z => h1 z.1)
      rw [Int32.add_zero]
      exact this
    · have := q2 (fun z => absurd z.2 (by rw [kx_nlt]; exact h2))
      rw [Int32.add_zero]
      exact this
    · simp only [Classical.not_not] at h1
      rw [kx_nle] at h2
      exact q1 ⟨h1, h2⟩
  have mid : ∀ es1 (v : Int32), mfr es es1 → mX es1 st → kd i = 15 ∧ 20 < sh c ∧ v = 0 ∨ ¬ (kd i = 15 ∧ 20 < sh c) ∧ v = F2 (sh c) h (nI T) (ht i) → ax_W (d + 3) n sl 1465 [(2, .istore 7), (2, .iload 7), (2, .iload 4), (1, .iconst 1), (3, .if_icmp .ne 89), (1, .aload 0), (1, .iload 1), (1, .iload 2), (2, .iload 5), (1, .iconst 1), (1, .iadd), (1, .aload 0), (3, .invokeinterface 1450 5), (1, .irem), (1, .iload 3), (3, .invokeinterface 1464 21), (3, .goto 90)] 60 [some (.ref 159), some (.int (nI b)), some (.int (nI i)), some (.int h), some (.int (kd i - 13)), some (.int (nI c)), some (.int (sh c)), none] [.int v] n sl es1 (ax_qq n sl Q) := by
    intro es1 v j1 j2 hv
    have hK1 := mK_fr hK j1
    simp only [ax_W_cons, ax_I, ax_cmp, ax_ii, ax_ll, ax_li, ax_st1, ax_st2, ax_kl, ax_k2, ax_fit, ax_rtok, List.getElem?_cons_zero, List.getElem?_cons_succ, List.length_cons, List.length_nil, List.set_cons_zero, List.set_cons_succ, Nat.reduceAdd, Nat.reduceDiv, Nat.reduceMod, Nat.reduceMul, Nat.reduceLT, Nat.reduceLeDiff, Int32.reduceOfInt, Int64.reduceOfInt, true_and, and_true, and_self, true_or, or_true, false_implies, true_implies, not_false_eq_true, not_true_eq_false, Value.category, Nat.reduceEqDiff, Option.toList, List.cons_append, List.nil_append, List.drop_succ_cons, List.drop_zero, ax_qq_eq, ax_t_1465, ax_j_1465_89, ax_n_1465_89, ax_j_1465_90, ax_n_1465_90, k14]
    refine ⟨fun h1 => ?_, fun h1 => ?_⟩
    · rw [Int32.add_zero]
      have hQ := hQ es1 j1 j2
      have fin := fin es1 v (some (.int v)) j1 j2
      simp only [ax_W_cons, ax_I, ax_cmp, ax_ii, ax_ll, ax_li, ax_st1, ax_st2, ax_kl, ax_k2, ax_fit, ax_rtok, List.getElem?_cons_zero, List.getElem?_cons_succ, List.length_cons, List.length_nil, List.set_cons_zero, List.set_cons_succ, Nat.reduceAdd, Nat.reduceDiv, Nat.reduceMod, Nat.reduceMul, Nat.reduceLT, Nat.reduceLeDiff, Int32.reduceOfInt, Int64.reduceOfInt, true_and, and_true, and_self, true_or, or_true, false_implies, true_implies, not_false_eq_true, not_true_eq_false, Value.category, Nat.reduceEqDiff, Option.toList, List.cons_append, List.nil_append, List.drop_succ_cons, List.drop_zero, ax_qq_eq, ax_t_1465] at fin
      refine fin (fun z => ?_) (fun z => ?_)
      · rcases hv with ⟨y1, y2, y3⟩ | ⟨y1, y2⟩
        · rw [y1] at z
          exact absurd z.1 (by decide)
        · rw [if_neg y1, if_neg h1, if_pos z, ← y2] at hQ
          exact hQ
      · rcases hv with ⟨y1, y2, y3⟩ | ⟨y1, y2⟩
        · rw [if_pos ⟨y1, y2⟩, ← y3] at hQ
          exact hQ
        · rw [if_neg y1, if_neg h1, if_neg z, ← y2] at hQ
          exact hQ
    · simp only [Classical.not_not] at h1
      refine ax_inv_of (Nat.le_of_ble_eq_true rfl) (Nat.le_of_ble_eq_true rfl) (fun _ => mO_rcv hal hK1.1 _) (fun h => absurd h (by decide)) (Nat.le_refl _) (Nat.le_refl _) (mk_cells hal hK1 ?_)
      have r1 : ¬ nI k = 0 := nI_ne0 hk0 (by omega)
      have r2 : nI c + 1 - (nI c + 1) / nI k * nI k = nI (kx_nx k c) := by
        rw [← nI_succ, pk_rem (by omega) hk0 (by omega), kx_nx_mod hc2]
      have r3 : kx_nx k c < k := by
        rw [← kx_nx_mod hc2]
        exact Nat.mod_lt _ hk0
      simp only [ax_W_cons, ax_I, ax_cmp, ax_ii, ax_ll, ax_li, ax_st1, ax_st2, ax_kl, ax_k2, ax_fit, ax_rtok, List.getElem?_cons_zero, List.getElem?_cons_succ, List.length_cons, List.length_nil, List.set_cons_zero, List.set_cons_succ, Nat.reduceAdd, Nat.reduceDiv, Nat.reduceMod, Nat.reduceMul, Nat.reduceLT, Nat.reduceLeDiff, Int32.reduceOfInt, Int64.reduceOfInt, true_and, and_true, and_self, true_or, or_true, false_implies, true_implies, not_false_eq_true, not_true_eq_false, Value.category, Nat.reduceEqDiff, Option.toList, List.cons_append, List.nil_append, List.drop_succ_cons, List.drop_zero, ax_qq_eq, ax_t_1465, r1, r2]
      refine ax_inv_of (Nat.le_of_ble_eq_true rfl) (Nat.le_of_ble_eq_true rfl) (fun _ => mO_rcv hal hK1.1 _) (fun h => absurd h (by decide)) (Nat.le_refl _) (Nat.le_refl _) (mk_readOf hal hK1 j2 hk hp hb hV hi r3 h ?_)
      intro es2 m1 m2
      have hQ := hQ es2 (mfr_trans j1 m1) m2
      have fin := fin es2 (v + F2 (sh (kx_nx k c)) h (nI T) (ht i)) (some (.int v)) (mfr_trans j1 m1) m2
      simp only [ax_W_cons, ax_I, ax_cmp, ax_ii, ax_ll, ax_li, ax_st1, ax_st2, ax_kl, ax_k2, ax_fit, ax_rtok, List.getElem?_cons_zero, List.getElem?_cons_succ, List.length_cons, List.length_nil, List.set_cons_zero, List.set_cons_succ, Nat.reduceAdd, Nat.reduceDiv, Nat.reduceMod, Nat.reduceMul, Nat.reduceLT, Nat.reduceLeDiff, Int32.reduceOfInt, Int64.reduceOfInt, true_and, and_true, and_self, true_or, or_true, false_implies, true_implies, not_false_eq_true, not_true_eq_false, Value.category, Nat.reduceEqDiff, Option.toList, List.cons_append, List.nil_append, List.drop_succ_cons, List.drop_zero, ax_qq_eq, ax_t_1465, ax_j_1465_90, ax_n_1465_90]
      simp only [ax_W_cons, ax_I, ax_cmp, ax_ii, ax_ll, ax_li, ax_st1, ax_st2, ax_kl, ax_k2, ax_fit, ax_rtok, List.getElem?_cons_zero, List.getElem?_cons_succ, List.length_cons, List.length_nil, List.set_cons_zero, List.set_cons_succ, Nat.reduceAdd, Nat.reduceDiv, Nat.reduceMod, Nat.reduceMul, Nat.reduceLT, Nat.reduceLeDiff, Int32.reduceOfInt, Int64.reduceOfInt, true_and, and_true, and_self, true_or, or_true, false_implies, true_implies, not_false_eq_true, not_true_eq_false, Value.category, Nat.reduceEqDiff, Option.toList, List.cons_append, List.nil_append, List.drop_succ_cons, List.drop_zero, ax_qq_eq, ax_t_1465] at fin
      refine fin (fun z => ?_) (fun z => ?_)
      · rw [h1] at z
        exact absurd z.1 (by decide)
      · rcases hv with ⟨y1, y2, y3⟩ | ⟨y1, y2⟩
        · rw [y1] at h1
          exact absurd h1 (by decide)
        · rw [if_neg y1, if_pos h1, if_neg z, ← y2] at hQ
          exact hQ
  simp only [ax_W_cons, ax_I, ax_cmp, ax_ii, ax_ll, ax_li, ax_st1, ax_st2, ax_kl, ax_k2, ax_fit, ax_rtok, List.getElem?_cons_zero, List.getElem?_cons_succ, List.length_cons, List.length_nil, List.set_cons_zero, List.set_cons_succ, Nat.reduceAdd, Nat.reduceDiv, Nat.reduceMod, Nat.reduceMul, Nat.reduceLT, Nat.reduceLeDiff, Int32.reduceOfInt, Int64.reduceOfInt, true_and, and_true, and_self, true_or, or_true, false_implies, true_implies, not_false_eq_true, not_true_eq_false, Value.category, Nat.reduceEqDiff, Option.toList, List.cons_append, List.nil_append, List.drop_succ_cons, List.drop_zero, ax_qq_eq, ax_t_1465, h0, x1, mo_f, hal, a1, a2, a3, a4, e1, v1, e2, e3, k15]
  have go51 : ¬ (kd i = 15 ∧ 20 < sh c) → ax_J ax_W (d + 3) n sl 1465 51 [some (.ref 159), some (.int (nI b)), some (.int (nI i)), some (.int h), some (.int (kd i - 13)), some (.int (nI c)), some (.int (sh c)), none] [] n sl es (ax_qq n sl Q) := by
    intro hno
    simp only [ax_W_cons, ax_I, ax_cmp, ax_ii, ax_ll, ax_li, ax_st1, ax_st2, ax_kl, ax_k2, ax_fit, ax_rtok, List.getElem?_cons_zero, List.getElem?_cons_succ, List.length_cons, List.length_nil, List.set_cons_zero, List.set_cons_succ, Nat.reduceAdd, Nat.reduceDiv, Nat.reduceMod, Nat.reduceMul, Nat.reduceLT, Nat.reduceLeDiff, Int32.reduceOfInt, Int64.reduceOfInt, true_and, and_true, and_self, true_or, or_true, false_implies, true_implies, not_false_eq_true, not_true_eq_false, Value.category, Nat.reduceEqDiff, Option.toList, List.cons_append, List.nil_append, List.drop_succ_cons, List.drop_zero, ax_qq_eq, ax_t_1465, ax_j_1465_51, ax_n_1465_51]
    refine ax_inv_of (Nat.le_of_ble_eq_true rfl) (Nat.le_of_ble_eq_true rfl) (fun _ => mO_rcv hal hK.1 _) (fun h => absurd h (by decide)) (Nat.le_refl _) (Nat.le_refl _) (mk_readOf hal hK hX hk hp hb hV hi hc2 h ?_)
    intro es1 m1 m2
    have mid := mid es1 _ m1 m2 (Or.inr ⟨hno, rfl⟩)
    rw [ax_n_1465_60]
    exact mid
  refine ⟨fun h1 => go51 (fun z => h1 z.1), fun h1 => ⟨fun h2 => go51 (fun z => absurd z.2 (by rw [kx_nlt]; exact h2)), fun h2 => ?_⟩⟩
  simp only [Classical.not_not] at h1
  rw [kx_nle] at h2
  rw [ax_j_1465_60]
  exact mid es 0 (mfr_rf es) hX (Or.inl ⟨h1, h2, rfl⟩)
end MM
