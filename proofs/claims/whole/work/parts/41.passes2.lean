/-! the reference: a beat goes by -/
/-- cracked cells do not shake -/
def kcz (k C : Nat) (sh : Nat → Int32) : Prop := ∀ c, c < k → C.testBit c = true → sh c = 0
section MM
variable {d n sl k p hc : Nat} {es : ax_H} {kd pm ht hs : Nat → Int32} {F1 F2 : Int32 → Int32 → Int32 → Int32 → Int32} {st : Nat → Int32} {b T C : Nat} {sh pl dn : Nat → Int32} {Q : Option Value → ax_H → Prop}
theorem mx_rip {R : Nat → Int32} {hh : Int32} {t : Int32} (hk : k ≤ 12) (hF : ∀ x0 x1 x2 x3, ∃ v, v ≤ 99 ∧ F1 x0 x1 x2 x3 = nI v) (hsh : ks sh) (hz : kcz k C sh) {c : Nat} (hc : c < k) : (if C.testBit c = true then (0 : Int32) else kx_max 0 (kx_min 99 (kx_wv k sh c - F1 (kx_wv k sh c) hh t 0))) = kx_rip F1 k (nI C) hh t sh k c := by
  unfold kx_rip
  rw [kc_ck (by omega)]
  cases hB : C.testBit c
  · rw [if_neg (by decide), if_pos ⟨hc, rfl⟩]
    obtain ⟨w, hw, ew⟩ := kx_wv_in hk hc hsh
    obtain ⟨v, hv, ev⟩ := hF (nI w) hh t 0
    rw [ew, ev]
    unfold kx_rv
    rw [ev]
    exact kx_kp3 (by omega) hv
  · rw [if_pos rfl, if_neg (by intro z; exact absurd z.2 (by decide))]
    exact (hz c hc hB).symm
theorem mV_shf {sh' : Nat → Int32} (h : mV st b k p T C sh pl dn) (he : ∀ c, c < k → sh c = sh' c) : mV st b k p T C sh' pl dn := ⟨h.1, h.2.1, fun c hc => (h.2.2.1 c hc).trans (he c hc), h.2.2.2⟩
theorem mV_dnf {dn' : Nat → Int32} (h : mV st b k p T C sh pl dn) (he : ∀ c, c < p → dn c = dn' c) : mV st b k p T C sh pl dn' := ⟨h.1, h.2.1, h.2.2.1, h.2.2.2.1, fun c hc => (h.2.2.2.2 c hc).trans (he c hc)⟩
theorem mV_plf {pl' : Nat → Int32} (h : mV st b k p T C sh pl dn) (he : ∀ c, c < p → pl c = pl' c) : mV st b k p T C sh pl' dn := ⟨h.1, h.2.1, h.2.2.1, fun c hc => (h.2.2.2.1 c hc).trans (he c hc), h.2.2.2.2⟩
set_option maxRecDepth 20000 in
theorem mk_passes2 (hal : ax_al n = 178) (hK : mK es k p hc kd pm ht hs F1 F2) (hX : mX es st) (hk0 : 0 < k) (hk : k ≤ 12) (hp : p ≤ 6) (hb : b + 52 ≤ 1196) (hF : ∀ x0 x1 x2 x3, ∃ v, v ≤ 99 ∧ F1 x0 x1 x2 x3 = nI v) (hV : mV st b k p T C sh pl dn) (hC : C < 2 ^ 12) (hpl : kpl k p pl) (hsh : ks sh) (hz : kcz k C sh) (h : Int32) (hQ : ∀ es' st', mfr es es' → mX es' st' → mfs b st st' → mV st' b k p (T + 1) C (kx_rip F1 k (nI C) h (nI T) sh k) pl (kx_dns (kx_deed F2 k kd ht h (nI T) (kx_rip F1 k (nI C) h (nI T) sh k) pl) dn p) → Q (some (.int (kx_sum (kx_deed F2 k kd ht h (nI T) (kx_rip F1 k (nI C) h (nI T) sh k) pl) p))) es') : ax_Mt (d + 4) 1466 [.ref 159, .int (nI b), .int h] n sl es Q := by
  obtain ⟨⟨th, tp, sz, at0, fl, cd, nm, rm, on, fh, un, g, h0⟩, ct, op, ar, h1, h2, h3, hct, hL⟩ := id hK
  obtain ⟨x1, ⟨fa, x2⟩, ⟨pi, x3⟩, wa, x4⟩ := id hX
  have r1 : ¬ nI k = 0 := nI_ne0 hk0 (by omega)
  have a1 : nI b + 0 = nI b := by rw [← nI_0, kn_add]; rfl
  have a2 : vp_in (nI b) 1196 := nI_in (by omega) (by decide)
  have a3 : (nI b).toNatClampNeg = b := nI_clamp (by omega)
  have a4 := hV.1
  have vb : ∀ c, c < 12 → nI b + 2 + nI c = nI (b + 2 + c) ∧ vp_in (nI (b + 2 + c)) 1196 ∧ (nI (b + 2 + c)).toNatClampNeg = b + 2 + c := fun c hc => ⟨by
    show nI b + nI 2 + nI c = _
    rw [kn_add, kn_add], nI_in (by omega) (by decide), nI_clamp (by omega)⟩
  have v3 : vp_in 3 80 := nI_in (c := 3) (by decide) (by decide)
  have c20 : ¬ (2 : Int32) = 0 := by decide
  generalize hR : kx_rip F1 k (nI C) h (nI T) sh k = R at hQ
  refine ax_Mt_go (m := ax_m_11_58) (ls := [some (.ref 159), some (.int (nI b)), some (.int h), none, none, none, none]) rfl ax_b_1466_0 (Nat.le_of_ble_eq_true rfl) rfl ?_
  simp only [ax_W_cons, ax_I, ax_cmp, ax_ii, ax_ll, ax_li, ax_st1, ax_st2, ax_kl, ax_k2, ax_fit, ax_rtok, List.getElem?_cons_zero, List.getElem?_cons_succ, List.length_cons, List.length_nil, List.set_cons_zero, List.set_cons_succ, Nat.reduceAdd, Nat.reduceDiv, Nat.reduceMod, Nat.reduceMul, Nat.reduceLT, Nat.reduceLeDiff, Int32.reduceOfInt, Int64.reduceOfInt, true_and, and_true, and_self, true_or, or_true, false_implies, true_implies, not_false_eq_true, not_true_eq_false, Value.category, Nat.reduceEqDiff, Option.toList, List.cons_append, List.nil_append, List.drop_succ_cons, List.drop_zero, ax_qq_eq, ax_t_1466]
  refine ax_inv_of (Nat.le_of_ble_eq_true rfl) (Nat.le_of_ble_eq_true rfl) (fun _ => mO_rcv hal hK.1 _) (fun h => absurd h (by decide)) (Nat.le_refl _) (Nat.le_refl _) (mk_cells hal hK ?_)
  simp only [ax_W_cons, ax_I, ax_cmp, ax_ii, ax_ll, ax_li, ax_st1, ax_st2, ax_kl, ax_k2, ax_fit, ax_rtok, List.getElem?_cons_zero, List.getElem?_cons_succ, List.length_cons, List.length_nil, List.set_cons_zero, List.set_cons_succ, Nat.reduceAdd, Nat.reduceDiv, Nat.reduceMod, Nat.reduceMul, Nat.reduceLT, Nat.reduceLeDiff, Int32.reduceOfInt, Int64.reduceOfInt, true_and, and_true, and_self, true_or, or_true, false_implies, true_implies, not_false_eq_true, not_true_eq_false, Value.category, Nat.reduceEqDiff, Option.toList, List.cons_append, List.nil_append, List.drop_succ_cons, List.drop_zero, ax_qq_eq, ax_t_1466]
  rw [ax_n_1466_8]
  have L := kx_loop (k := k) (I := fun m => ∀ v5 v6 es1 wa1, mfr es es1 → mX es1 st → es1 175 = .inl (0, 12, .inl wa1) → (∀ c, c < m → wa1 c = R c) → ax_W (d + 4) n sl 1466 [(2, .iload 4), (1, .iload 3), (3, .if_icmp .ge 143), (1, .aload 0), (3, .getfield 2910), (1, .iload 1), (1, .iconst 2), (1, .iadd), (2, .iload 4), (1, .iload 3), (1, .iadd), (1, .iconst 1), (1, .isub), (1, .iload 3), (1, .irem), (1, .iadd), (1, .iaload), (1, .aload 0), (3, .getfield 2910), (1, .iload 1), (1, .iconst 2), (1, .iadd), (2, .iload 4), (1, .iconst 1), (1, .iadd), (1, .iload 3), (1, .irem), (1, .iadd), (1, .iaload), (1, .iadd), (1, .iconst 2), (1, .idiv), (2, .istore 5), (1, .aload 0), (3, .getfield 2902), (1, .iconst 0), (2, .iload 5), (1, .iastore), (1, .aload 0), (3, .getfield 2902), (1, .iconst 1), (1, .iload 2), (1, .iastore), (1, .aload 0), (3, .getfield 2902), (1, .iconst 2), (1, .aload 0), (3, .getfield 2910), (1, .iload 1), (1, .iconst 0), (1, .iadd), (1, .iaload), (1, .iastore), (1, .aload 0), (3, .getfield 2858), (1, .iconst 3), (1, .iaload), (3, .ifCond .ge 93), (1, .iconst 1), (3, .goto 106)] 8 [some (.ref 159), some (.int (nI b)), some (.int h), some (.int (nI k)), some (.int (nI m)), v5, v6] [] n sl es1 (ax_qq n sl Q)) ?_ ?_
  · exact L none none es wa (mfr_rf es) hX x4 (fun c hc => by omega)
  · intro v5 v6 es1 wa1 i1 i2 i3 i4
    have w0 := (i1 159 (by decide)).trans h0
    have e9 := kx_nn (k := k) (by omega)
    simp only [ax_W_cons, ax_I, ax_cmp, ax_ii, ax_ll, ax_li, ax_st1, ax_st2, ax_kl, ax_k2, ax_fit, ax_rtok, List.getElem?_cons_zero, List.getElem?_cons_succ, List.length_cons, List.length_nil, List.set_cons_zero, List.set_cons_succ, Nat.reduceAdd, Nat.reduceDiv, Nat.reduceMod, Nat.reduceMul, Nat.reduceLT, Nat.reduceLeDiff, Int32.reduceOfInt, Int64.reduceOfInt, true_and, and_true, and_self, true_or, or_true, false_implies, true_implies, not_false_eq_true, not_true_eq_false, Value.category, Nat.reduceEqDiff, Option.toList, List.cons_append, List.nil_append, List.drop_succ_cons, List.drop_zero, ax_qq_eq, ax_t_1466, ax_j_1466_143, ax_n_1466_143, e9]
    rw [ax_n_1466_146]
    have L2 := kx_loop (k := k) (I := fun m => ∀ es1 st1, mfr es es1 → mX es1 st1 → es1 175 = .inl (0, 12, .inl wa1) → mfs b st st1 → mV st1 b k p T C (fun c => if c < m then R c else sh c) pl dn → ax_W (d + 4) n sl 1466 [(2, .iload 4), (1, .iload 3), (3, .if_icmp .ge 176), (1, .aload 0), (3, .getfield 2910), (1, .iload 1), (1, .iconst 2), (1, .iadd), (2, .iload 4), (1, .iadd), (1, .aload 0), (3, .getfield 2922), (2, .iload 4), (1, .iaload), (1, .iastore), (3, .iinc 4 1), (3, .goto 146)] 146 [some (.ref 159), some (.int (nI b)), some (.int h), some (.int (nI k)), some (.int (nI m)), v5, v6] [] n sl es1 (ax_qq n sl Q)) ?_ ?_
    · exact L2 es1 st i1 i2 i3 (mfs_rf b st) (mV_shf hV (fun c hc => by simp))
    · intro es1 st1 i1 i2 i3 i5 i6
      have i6 := mV_shf (sh' := R) i6 (fun c hc => if_pos hc)
      simp only [ax_W_cons, ax_I, ax_cmp, ax_ii, ax_ll, ax_li, ax_st1, ax_st2, ax_kl, ax_k2, ax_fit, ax_rtok, List.getElem?_cons_zero, List.getElem?_cons_succ, List.length_cons, List.length_nil, List.set_cons_zero, List.set_cons_succ, Nat.reduceAdd, Nat.reduceDiv, Nat.reduceMod, Nat.reduceMul, Nat.reduceLT, Nat.reduceLeDiff, Int32.reduceOfInt, Int64.reduceOfInt, true_and, and_true, and_self, true_or, or_true, false_implies, true_implies, not_false_eq_true, not_true_eq_false, Value.category, Nat.reduceEqDiff, Option.toList, List.cons_append, List.nil_append, List.drop_succ_cons, List.drop_zero, ax_qq_eq, ax_t_1466, ax_j_1466_176, ax_n_1466_176, e9]
      rw [ax_n_1466_182]
      have L3 := kx_loop (k := p) (I := fun m => ∀ v6 es1 st1, mfr es es1 → mX es1 st1 → mfs b st st1 → mV st1 b k p T C R pl (kx_dns (kx_deed F2 k kd ht h (nI T) R pl) dn m) → ax_W (d + 4) n sl 1466 [(2, .iload 5), (1, .aload 0), (3, .invokeinterface 1451 5), (3, .if_icmp .ge 231), (1, .aload 0), (1, .iload 1), (2, .iload 5), (1, .iload 2), (3, .invokeinterface 1465 17), (2, .istore 6), (1, .aload 0), (3, .getfield 2910), (1, .iload 1), (2, .iconst 20), (1, .iadd), (2, .iload 5), (1, .iadd), (1, .dup2), (1, .iaload), (2, .iload 6), (1, .iadd), (1, .iastore), (2, .iload 4), (2, .iload 6), (1, .iadd), (2, .istore 4), (3, .iinc 5 1), (3, .goto 182)] 182 [some (.ref 159), some (.int (nI b)), some (.int h), some (.int (nI k)), some (.int (kx_sum (kx_deed F2 k kd ht h (nI T) R pl) m)), some (.int (nI m)), v6] [] n sl es1 (ax_qq n sl Q)) ?_ ?_
      · refine L3 _ es1 st1 i1 i2 i5 ?_
        refine mV_dnf i6 (fun c hc => ?_)
        unfold kx_dns
        rw [if_neg (by omega)]
      · intro v6 es1 st1 i1 i2 i3 i4
        have hK1 := mK_fr hK i1
        have w0 := (i1 159 (by decide)).trans h0
        have y1 := i2.1
        have e8 := kx_nn (k := p) (by omega)
        have a4 := i4.1
        have a5 : nI T + 1 = nI (T + 1) := (nI_succ T).symm
        simp only [ax_W_cons, ax_I, ax_cmp, ax_ii, ax_ll, ax_li, ax_st1, ax_st2, ax_kl, ax_k2, ax_fit, ax_rtok, List.getElem?_cons_zero, List.getElem?_cons_succ, List.length_cons, List.length_nil, List.set_cons_zero, List.set_cons_succ, Nat.reduceAdd, Nat.reduceDiv, Nat.reduceMod, Nat.reduceMul, Nat.reduceLT, Nat.reduceLeDiff, Int32.reduceOfInt, Int64.reduceOfInt, true_and, and_true, and_self, true_or, or_true, false_implies, true_implies, not_false_eq_true, not_true_eq_false, Value.category, Nat.reduceEqDiff, Option.toList, List.cons_append, List.nil_append, List.drop_succ_cons, List.drop_zero, ax_qq_eq, ax_t_1466]
        refine ax_inv_of (Nat.le_of_ble_eq_true rfl) (Nat.le_of_ble_eq_true rfl) (fun _ => mO_rcv hal hK1.1 _) (fun h => absurd h (by decide)) (Nat.le_refl _) (Nat.le_refl _) (mk_courtiers hal hK1 ?_)
        simp only [ax_W_cons, ax_I, ax_cmp, ax_ii, ax_ll, ax_li, ax_st1, ax_st2, ax_kl, ax_k2, ax_fit, ax_rtok, List.getElem?_cons_zero, List.getElem?_cons_succ, List.length_cons, List.length_nil, List.set_cons_zero, List.set_cons_succ, Nat.reduceAdd, Nat.reduceDiv, Nat.reduceMod, Nat.reduceMul, Nat.reduceLT, Nat.reduceLeDiff, Int32.reduceOfInt, Int64.reduceOfInt, true_and, and_true, and_self, true_or, or_true, false_implies, true_implies, not_false_eq_true, not_true_eq_false, Value.category, Nat.reduceEqDiff, Option.toList, List.cons_append, List.nil_append, List.drop_succ_cons, List.drop_zero, ax_qq_eq, ax_t_1466, ax_j_1466_231, ax_n_1466_231, e8, w0, y1, mo_f, hal, a1, a2, a3, a4, a5]
        exact hQ _ _ (mfr_trans i1 (mfr_up es1 _)) (mX_up i2) (mfs_trans i3 (mfs_up st1 _ (by omega))) (mV_T i4 _)
      · intro m hm ih v6 es1 st1 i1 i2 i3 i4
        have hK1 := mK_fr hK i1
        obtain ⟨f1, -, -, f4⟩ := kx_ix hm hp (by decide)
        simp only [ax_W_cons, ax_I, ax_cmp, ax_ii, ax_ll, ax_li, ax_st1, ax_st2, ax_kl, ax_k2, ax_fit, ax_rtok, List.getElem?_cons_zero, List.getElem?_cons_succ, List.length_cons, List.length_nil, List.set_cons_zero, List.set_cons_succ, Nat.reduceAdd, Nat.reduceDiv, Nat.reduceMod, Nat.reduceMul, Nat.reduceLT, Nat.reduceLeDiff, Int32.reduceOfInt, Int64.reduceOfInt, true_and, and_true, and_self, true_or, or_true, false_implies, true_implies, not_false_eq_true, not_true_eq_false, Value.category, Nat.reduceEqDiff, Option.toList, List.cons_append, List.nil_append, List.drop_succ_cons, List.drop_zero, ax_qq_eq, ax_t_1466]
        refine ax_inv_of (Nat.le_of_ble_eq_true rfl) (Nat.le_of_ble_eq_true rfl) (fun _ => mO_rcv hal hK1.1 _) (fun h => absurd h (by decide)) (Nat.le_refl _) (Nat.le_refl _) (mk_courtiers hal hK1 ?_)
        simp only [ax_W_cons, ax_I, ax_cmp, ax_ii, ax_ll, ax_li, ax_st1, ax_st2, ax_kl, ax_k2, ax_fit, ax_rtok, List.getElem?_cons_zero, List.getElem?_cons_succ, List.length_cons, List.length_nil, List.set_cons_zero, List.set_cons_succ, Nat.reduceAdd, Nat.reduceDiv, Nat.reduceMod, Nat.reduceMul, Nat.reduceLT, Nat.reduceLeDiff, Int32.reduceOfInt, Int64.reduceOfInt, true_and, and_true, and_self, true_or, or_true, false_implies, true_implies, not_false_eq_true, not_true_eq_false, Value.category, Nat.reduceEqDiff, Option.toList, List.cons_append, List.nil_append, List.drop_succ_cons, List.drop_zero, ax_qq_eq, ax_t_1466, f1]
        refine ax_inv_of (Nat.le_of_ble_eq_true rfl) (Nat.le_of_ble_eq_true rfl) (fun _ => mO_rcv hal hK1.1 _) (fun h => absurd h (by decide)) (Nat.le_refl _) (Nat.le_refl _) (mk_doesBy hal hK1 i2 hk0 hk hp hb i4 hpl hm h ?_)
        intro es2 m1 m2
        have w0 := ((mfr_trans i1 m1) 159 (by decide)).trans h0
        have y1 := m2.1
        have b1 : nI b + 20 + nI m = nI (b + 20 + m) := by
          show nI b + nI 20 + nI m = _
          rw [kn_add, kn_add]
        have b2 : vp_in (nI (b + 20 + m)) 1196 := nI_in (by omega) (by decide)
        have b3 : (nI (b + 20 + m)).toNatClampNeg = b + 20 + m := nI_clamp (by omega)
        have b4 := i4.2.2.2.2 m hm
        have b5 : kx_dns (kx_deed F2 k kd ht h (nI T) R pl) dn m m = dn m := by
          unfold kx_dns
          rw [if_neg (by omega)]
        rw [b5] at b4
        simp only [ax_W_cons, ax_I, ax_cmp, ax_ii, ax_ll, ax_li, ax_st1, ax_st2, ax_kl, ax_k2, ax_fit, ax_rtok, List.getElem?_cons_zero, List.getElem?_cons_succ, List.length_cons, List.length_nil, List.set_cons_zero, List.set_cons_succ, Nat.reduceAdd, Nat.reduceDiv, Nat.reduceMod, Nat.reduceMul, Nat.reduceLT, Nat.reduceLeDiff, Int32.reduceOfInt, Int64.reduceOfInt, true_and, and_true, and_self, true_or, or_true, false_implies, true_implies, not_false_eq_true, not_true_eq_false, Value.category, Nat.reduceEqDiff, Option.toList, List.cons_append, List.nil_append, List.drop_succ_cons, List.drop_zero, ax_qq_eq, ax_t_1466, w0, y1, mo_f, hal, b1, b2, b3, b4, f4]
        rw [ax_j_1466_182]
        refine ih _ _ _ (mfr_trans (mfr_trans i1 m1) (mfr_up es2 _)) (mX_up m2) (mfs_trans i3 (mfs_up st1 _ (by omega))) (mV_dnf (mV_dn hk hp i4 hm _) (fun c hc => ?_))
        unfold upd kx_dns
        by_cases e : c = m
        · subst e
          rw [if_pos rfl, if_pos (by omega)]
        · rw [if_neg e]
          by_cases e2 : c < m
          · rw [if_pos e2, if_pos (by omega)]
          · rw [if_neg e2, if_neg (by omega)]
    · intro m hm ih es1 st1 i1 i2 i3 i5 i6
      have w0 := (i1 159 (by decide)).trans h0
      have y1 := i2.1
      obtain ⟨f1, f2, f3, f4⟩ := kx_ix hm hk (by decide)
      obtain ⟨b1, b2, b3⟩ := vb m (by omega)
      have b4 := i4 m hm
      simp only [ax_W_cons, ax_I, ax_cmp, ax_ii, ax_ll, ax_li, ax_st1, ax_st2, ax_kl, ax_k2, ax_fit, ax_rtok, List.getElem?_cons_zero, List.getElem?_cons_succ, List.length_cons, List.length_nil, List.set_cons_zero, List.set_cons_succ, Nat.reduceAdd, Nat.reduceDiv, Nat.reduceMod, Nat.reduceMul, Nat.reduceLT, Nat.reduceLeDiff, Int32.reduceOfInt, Int64.reduceOfInt, true_and, and_true, and_self, true_or, or_true, false_implies, true_implies, not_false_eq_true, not_true_eq_false, Value.category, Nat.reduceEqDiff, Option.toList, List.cons_append, List.nil_append, List.drop_succ_cons, List.drop_zero, ax_qq_eq, ax_t_1466, w0, y1, i3, mo_f, hal, b1, b2, b3, f1, f2, f3, f4, b4]
      rw [ax_j_1466_146]
      refine ih _ _ (mfr_trans i1 (mfr_up es1 _)) (mX_up i2) ((ax_up_ne _ _ (by decide)).trans i3) (mfs_trans i5 (mfs_up st1 _ (by omega))) (mV_shf (mV_sh hk hp i6 hm _) (fun c hc => ?_))
      unfold upd
      by_cases e : c = m
      · subst e
        rw [if_pos rfl, if_pos (by omega)]
      · rw [if_neg e]
        show (if c < m then R c else sh c) = _
        by_cases e2 : c < m
        · rw [if_pos e2, if_pos (by omega)]
        · rw [if_neg e2, if_neg (by omega)]
  · intro m hm ih v5 v6 es1 wa1 i1 i2 i3 i4
    have w0 := (i1 159 (by decide)).trans h0
    have w1 := (i1 165 (by decide)).trans h1
    have w2 := (i1 166 (by decide)).trans h2
    have w3 := (i1 167 (by decide)).trans h3
    obtain ⟨y1, ⟨fa1, y2⟩, ⟨pi1, y3⟩, -⟩ := id i2
    obtain ⟨f1, f2, f3, f4⟩ := kx_ix hm hk (by decide)
    have hpv : kx_pv k m < k := by
      unfold kx_pv
      split <;> omega
    have hnx : kx_nx k m < k := by
      unfold kx_nx
      split <;> omega
    obtain ⟨b1, b2, b3⟩ := vb (kx_pv k m) (by omega)
    obtain ⟨c1, c2, c3⟩ := vb (kx_nx k m) (by omega)
    have b4 := hV.2.2.1 _ hpv
    have c4 := hV.2.2.1 _ hnx
    have b5 : nI m + nI k - 1 - (nI m + nI k - 1) / nI k * nI k = nI (kx_pv k m) := by
      have e8 : nI m + nI k - 1 = nI (m + k - 1) := by
        rw [kn_add, show m + k = (m + k - 1) + 1 by omega, nI_pred]
        rfl
      rw [e8, pk_rem (by omega) hk0 (by omega), kx_pv_mod hm]
    have c5 : nI m + 1 - (nI m + 1) / nI k * nI k = nI (kx_nx k m) := by
      rw [← nI_succ, pk_rem (by omega) hk0 (by omega), kx_nx_mod hm]
    have g0 : ∀ e, ax_up es1 171 e 159 = _ := fun e => (ax_up_ne es1 e (by decide)).trans w0
    have g1 : ∀ e, ax_up es1 171 e 173 = _ := fun e => (ax_up_ne es1 e (by decide)).trans y1
    have g2 : ∀ e, ax_up es1 171 e 165 = _ := fun e => (ax_up_ne es1 e (by decide)).trans w1
    have f0 : ∀ e, mfr es (ax_up es1 171 e) := fun e j hj => (ax_up_ne _ _ hj.1).trans (i1 j hj)
    have m3 : (3 : Int32).toNatClampNeg = 3 := by decide
    have hwv : (sh (kx_pv k m) + sh (kx_nx k m)) / 2 = kx_wv k sh m := rfl
    have hRm := mx_rip (F1 := F1) (hh := h) (t := nI T) (R := R) hk hF hsh hz hm
    rw [hR] at hRm
    -- the end of it
    have fin : ∀ es2 (v7 : Int32), mfr es es2 → mX es2 st → es2 175 = .inl (0, 12, .inl wa1) → v7 = F1 (kx_wv k sh m) h (nI T) 0 → ax_W (d + 4) n sl 1466 [(2, .istore 6), (1, .aload 0), (3, .getfield 2922), (2, .iload 4), (1, .aload 0), (1, .iload 1), (2, .iload 4), (3, .invokeinterface 1455 13), (3, .ifCond .eq 128), (1, .iconst 0), (3, .goto 136)] 106 [some (.ref 159), some (.int (nI b)), some (.int h), some (.int (nI k)), some (.int (nI m)), some (.int (kx_wv k sh m)), v6] [.int v7] n sl es2 (ax_qq n sl Q) := by
      intro es2 v7 j1 j2 j3 hv7
      have u0 := (j1 159 (by decide)).trans h0
      have hK2 := mK_fr hK j1
      simp only [ax_W_cons, ax_I, ax_cmp, ax_ii, ax_ll, ax_li, ax_st1, ax_st2, ax_kl, ax_k2, ax_fit, ax_rtok, List.getElem?_cons_zero, List.getElem?_cons_succ, List.length_cons, List.length_nil, List.set_cons_zero, List.set_cons_succ, Nat.reduceAdd, Nat.reduceDiv, Nat.reduceMod, Nat.reduceMul, Nat.reduceLT, Nat.reduceLeDiff, Int32.reduceOfInt, Int64.reduceOfInt, true_and, and_true, and_self, true_or, or_true, false_implies, true_implies, not_false_eq_true, not_true_eq_false, Value.category, Nat.reduceEqDiff, Option.toList, List.cons_append, List.nil_append, List.drop_succ_cons, List.drop_zero, ax_qq_eq, ax_t_1466, u0, mo_f, hal]
      refine ax_inv_of (Nat.le_of_ble_eq_true rfl) (Nat.le_of_ble_eq_true rfl) (fun _ => mO_rcv hal hK2.1 _) (fun h => absurd h (by decide)) (Nat.le_refl _) (Nat.le_refl _) (mk_isCracked hal hK2.1 j2 hb hV.2.1 hC (c := m) (by omega) ?_)
      have nxt : ∀ x, x = R m → ax_W (d + 4) n sl 1466 [(1, .iastore), (3, .iinc 4 1), (3, .goto 8)] 136 [some (.ref 159), some (.int (nI b)), some (.int h), some (.int (nI k)), some (.int (nI m)), some (.int (kx_wv k sh m)), some (.int v7)] [.int x, .int (nI m), .ref 175] n sl es2 (ax_qq n sl Q) := by
        intro x hx
        simp only [ax_W_cons, ax_I, ax_cmp, ax_ii, ax_ll, ax_li, ax_st1, ax_st2, ax_kl, ax_k2, ax_fit, ax_rtok, List.getElem?_cons_zero, List.getElem?_cons_succ, List.length_cons, List.length_nil, List.set_cons_zero, List.set_cons_succ, Nat.reduceAdd, Nat.reduceDiv, Nat.reduceMod, Nat.reduceMul, Nat.reduceLT, Nat.reduceLeDiff, Int32.reduceOfInt, Int64.reduceOfInt, true_and, and_true, and_self, true_or, or_true, false_implies, true_implies, not_false_eq_true, not_true_eq_false, Value.category, Nat.reduceEqDiff, Option.toList, List.cons_append, List.nil_append, List.drop_succ_cons, List.drop_zero, ax_qq_eq, ax_t_1466, j3, hal, f2, f3, f4]
        rw [ax_j_1466_8]
        refine ih _ _ _ (upd wa1 m x) (fun j hj => (ax_up_ne _ _ hj.2.2.2).trans (j1 j hj)) ?_ (ax_up_same ..) (fun c hc => ?_)
        · obtain ⟨z1, ⟨zf, z2⟩, ⟨zp, z3⟩, -⟩ := j2
          exact ⟨(ax_up_ne _ _ (by decide)).trans z1, ⟨zf, (ax_up_ne _ _ (by decide)).trans z2⟩, ⟨zp, (ax_up_ne _ _ (by decide)).trans z3⟩, _, ax_up_same ..⟩
        · unfold upd
          by_cases e : c = m
          · subst e
            rw [if_pos rfl]
            exact hx
          · rw [if_neg e]
            exact i4 c (by omega)
      simp only [ax_W_cons, ax_I, ax_cmp, ax_ii, ax_ll, ax_li, ax_st1, ax_st2, ax_kl, ax_k2, ax_fit, ax_rtok, List.getElem?_cons_zero, List.getElem?_cons_succ, List.length_cons, List.length_nil, List.set_cons_zero, List.set_cons_succ, Nat.reduceAdd, Nat.reduceDiv, Nat.reduceMod, Nat.reduceMul, Nat.reduceLT, Nat.reduceLeDiff, Int32.reduceOfInt, Int64.reduceOfInt, true_and, and_true, and_self, true_or, or_true, false_implies, true_implies, not_false_eq_true, not_true_eq_false, Value.category, Nat.reduceEqDiff, Option.toList, List.cons_append, List.nil_append, List.drop_succ_cons, List.drop_zero, ax_qq_eq, ax_t_1466, kx_b0]
      refine ⟨fun hB => ?_, fun hB => ?_⟩
      · simp only [ax_W_cons, ax_I, ax_cmp, ax_ii, ax_ll, ax_li, ax_st1, ax_st2, ax_kl, ax_k2, ax_fit, ax_rtok, List.getElem?_cons_zero, List.getElem?_cons_succ, List.length_cons, List.length_nil, List.set_cons_zero, List.set_cons_succ, Nat.reduceAdd, Nat.reduceDiv, Nat.reduceMod, Nat.reduceMul, Nat.reduceLT, Nat.reduceLeDiff, Int32.reduceOfInt, Int64.reduceOfInt, true_and, and_true, and_self, true_or, or_true, false_implies, true_implies, not_false_eq_true, not_true_eq_false, Value.category, Nat.reduceEqDiff, Option.toList, List.cons_append, List.nil_append, List.drop_succ_cons, List.drop_zero, ax_qq_eq, ax_t_1466, ax_j_1466_128, ax_n_1466_128]
        refine ax_inv_of (Nat.le_of_ble_eq_true rfl) (Nat.le_of_ble_eq_true rfl) (fun _ => absurd ‹_› (by decide)) (fun h => absurd h (by decide)) (Nat.le_refl _) (Nat.le_refl _) (mk_kept _ ?_)
        rw [hB, if_neg (by decide)] at hRm
        rw [hv7]
        have nxt := nxt _ hRm
        rw [hv7] at nxt
        simp only [ax_W_cons, ax_I, ax_cmp, ax_ii, ax_ll, ax_li, ax_st1, ax_st2, ax_kl, ax_k2, ax_fit, ax_rtok, List.getElem?_cons_zero, List.getElem?_cons_succ, List.length_cons, List.length_nil, List.set_cons_zero, List.set_cons_succ, Nat.reduceAdd, Nat.reduceDiv, Nat.reduceMod, Nat.reduceMul, Nat.reduceLT, Nat.reduceLeDiff, Int32.reduceOfInt, Int64.reduceOfInt, true_and, and_true, and_self, true_or, or_true, false_implies, true_implies, not_false_eq_true, not_true_eq_false, Value.category, Nat.reduceEqDiff, Option.toList, List.cons_append, List.nil_append, List.drop_succ_cons, List.drop_zero, ax_qq_eq, ax_t_1466]
        rw [ax_n_1466_136]
        exact nxt
      · have hB : C.testBit m = true := by simpa using hB
        rw [hB, if_pos rfl] at hRm
        rw [ax_j_1466_136]
        exact nxt 0 hRm
    simp only [ax_W_cons, ax_I, ax_cmp, ax_ii, ax_ll, ax_li, ax_st1, ax_st2, ax_kl, ax_k2, ax_fit, ax_rtok, List.getElem?_cons_zero, List.getElem?_cons_succ, List.length_cons, List.length_nil, List.set_cons_zero, List.set_cons_succ, Nat.reduceAdd, Nat.reduceDiv, Nat.reduceMod, Nat.reduceMul, Nat.reduceLT, Nat.reduceLeDiff, Int32.reduceOfInt, Int64.reduceOfInt, true_and, and_true, and_self, true_or, or_true, false_implies, true_implies, not_false_eq_true, not_true_eq_false, Value.category, Nat.reduceEqDiff, Option.toList, List.cons_append, List.nil_append, List.drop_succ_cons, List.drop_zero, ax_qq_eq, ax_t_1466, w0, y1, mo_f, hal, f1, r1, b5, c5, b1, b2, b3, b4, c1, c2, c3, c4, c20, hwv, y2, g0, g1, g2, kx_v0, kx_v1, kx_v2, kx_n0, kx_m1, kx_m2, a1, a2, a3, a4, ax_up_same, ax_up_up, v3, m3]
    generalize hfa : upd (upd (upd fa1 0 (kx_wv k sh m)) 1 h) 2 (nI T) = fb
    have q0 : fb 0 = kx_wv k sh m := by rw [← hfa]; simp [upd]
    have q1 : fb 1 = h := by rw [← hfa]; simp [upd]
    have q2 : fb 2 = nI T := by rw [← hfa]; simp [upd]
    have hX1 : mX (ax_up es1 171 (.inl (0, 4, .inl fb))) st := ⟨g1 _, ⟨fb, ax_up_same ..⟩, ⟨pi1, (ax_up_ne _ _ (by decide)).trans y3⟩, wa1, (ax_up_ne _ _ (by decide)).trans i3⟩
    rcases hL.1 with ⟨l1, l2⟩ | ⟨a, l1, len, l2, l3, l4, l5⟩
    · have l3 : ¬ (0 : Int32) ≤ -1 := by decide
      simp only [ax_W_cons, ax_I, ax_cmp, ax_ii, ax_ll, ax_li, ax_st1, ax_st2, ax_kl, ax_k2, ax_fit, ax_rtok, List.getElem?_cons_zero, List.getElem?_cons_succ, List.length_cons, List.length_nil, List.set_cons_zero, List.set_cons_succ, Nat.reduceAdd, Nat.reduceDiv, Nat.reduceMod, Nat.reduceMul, Nat.reduceLT, Nat.reduceLeDiff, Int32.reduceOfInt, Int64.reduceOfInt, true_and, and_true, and_self, true_or, or_true, false_implies, true_implies, not_false_eq_true, not_true_eq_false, Value.category, Nat.reduceEqDiff, Option.toList, List.cons_append, List.nil_append, List.drop_succ_cons, List.drop_zero, ax_qq_eq, ax_t_1466, l1, l3]
      rw [ax_j_1466_106]
      exact fin _ 1 (f0 _) hX1 ((ax_up_ne _ _ (by decide)).trans i3) (l2 _ _ _ _).symm
    · have l6 : (0 : Int32) ≤ nI a := nI_pos' (by omega)
      simp only [ax_W_cons, ax_I, ax_cmp, ax_ii, ax_ll, ax_li, ax_st1, ax_st2, ax_kl, ax_k2, ax_fit, ax_rtok, List.getElem?_cons_zero, List.getElem?_cons_succ, List.length_cons, List.length_nil, List.set_cons_zero, List.set_cons_succ, Nat.reduceAdd, Nat.reduceDiv, Nat.reduceMod, Nat.reduceMul, Nat.reduceLT, Nat.reduceLeDiff, Int32.reduceOfInt, Int64.reduceOfInt, true_and, and_true, and_self, true_or, or_true, false_implies, true_implies, not_false_eq_true, not_true_eq_false, Value.category, Nat.reduceEqDiff, Option.toList, List.cons_append, List.nil_append, List.drop_succ_cons, List.drop_zero, ax_qq_eq, ax_t_1466, ax_j_1466_93, ax_n_1466_93, g0, g2, mo_f, hal, l1, l6, v3, m3]
      refine ax_inv_of (Nat.le_of_ble_eq_true rfl) (Nat.le_of_ble_eq_true rfl) (fun _ => mO_rcv hal (mK_fr hK (f0 _)).1 _) (fun h => absurd h (by decide)) (Nat.le_refl _) (Nat.le_refl _) (mk_worthAt hal (mK_fr hK (f0 _)).1 ((ax_up_ne _ _ (by decide)).trans w2) ((ax_up_ne _ _ (by decide)).trans w3) (ax_up_same ..) ((ax_up_ne _ _ (by decide)).trans y3) l2 l3 (l4 fb pi1) ?_)
      simp only [ax_W_cons, ax_I, ax_cmp, ax_ii, ax_ll, ax_li, ax_st1, ax_st2, ax_kl, ax_k2, ax_fit, ax_rtok, List.getElem?_cons_zero, List.getElem?_cons_succ, List.length_cons, List.length_nil, List.set_cons_zero, List.set_cons_succ, Nat.reduceAdd, Nat.reduceDiv, Nat.reduceMod, Nat.reduceMul, Nat.reduceLT, Nat.reduceLeDiff, Int32.reduceOfInt, Int64.reduceOfInt, true_and, and_true, and_self, true_or, or_true, false_implies, true_implies, not_false_eq_true, not_true_eq_false, Value.category, Nat.reduceEqDiff, Option.toList, List.cons_append, List.nil_append, List.drop_succ_cons, List.drop_zero, ax_qq_eq, ax_t_1466]
      refine ax_inv_of (Nat.le_of_ble_eq_true rfl) (Nat.le_of_ble_eq_true rfl) (fun _ => absurd ‹_› (by decide)) (fun h => absurd h (by decide)) (Nat.le_refl _) (Nat.le_refl _) (mk_kept _ ?_)
      rw [l5 fb pi1]
      simp only [q0, q1, q2]
      have fin := fin (ax_up (ax_up es1 171 (.inl (0, 4, .inl fb))) 172 (.inl (0, 1100, .inl (mo_run fb op ar a pi1 len).2))) _ (fun j hj => (ax_up_ne _ _ hj.2.1).trans (f0 _ j hj)) ⟨(ax_up_ne _ _ (by decide)).trans hX1.1, ⟨fb, (ax_up_ne _ _ (by decide)).trans (ax_up_same ..)⟩, ⟨_, ax_up_same ..⟩, wa1, (ax_up_ne _ _ (by decide)).trans ((ax_up_ne _ _ (by decide)).trans i3)⟩ ((ax_up_ne _ _ (by decide)).trans ((ax_up_ne _ _ (by decide)).trans i3)) rfl
      rw [← ax_n_1466_106] at fin
      exact fin
end MM
