/-! Seer: reach, swap -/
theorem kap154 : kap 154 := ⟨by decide, Or.inr (by decide)⟩
section KS
variable {d n sl k p hc z : Nat} {es : ax_H} {kd pl0 ht hs : Nat → Int32} {F1 F2 : Int32 → Int32 → Int32 → Int32 → Int32} {T : Nat} {cr : Int32} {sh pl dn fc fb fs : Nat → Int32}
theorem kx_reach_no {f g : Nat → Int32} {c : Nat} : f c = g c → (fun c => !decide (f c = g c)) c = false := fun h => by simp [h]
theorem ck_firstReach (hS : kSe es n F1) (hW : kW es n k p hc kd pl0 ht hs F1 F2 T cr sh pl dn) {c o : Nat} (hc2 : c < 12) (ho : o < 12) {Q : Option Value → ax_H → Prop} (hQ : ∀ es', kSe es' n F1 → ksf es es' → Q (some (.int (kx_fst (fun m => !decide (kx_dr F1 k cr hs hc T (kx_push sh (nI o) (nI 20)) m c = kx_dr F1 k cr hs hc T sh m c)) 21 0))) es') : ax_Mt (d + 6) 1040 [.ref 149, .int (nI c), .int (nI o)] n sl es Q := by
  obtain ⟨hal, hk, hp, hhs, hsh, hpl, hT, hC, hb⟩ := id hW
  obtain ⟨hR, ⟨⟨dr, h149⟩, ⟨k', p', t', cr', sh', pl', dn', hu⟩, ty, h158, hz⟩, htr⟩ := id hS
  have e2 : vp_in (nI c) 12 := nI_in hc2 (by decide)
  have e3 : (nI c).toNatClampNeg = c := nI_clamp (by omega)
  have hsh2 : ks (kx_push sh (nI o) (nI 20)) := ks_push hsh ho (by omega)
  obtain ⟨-, -, -, -, -, z1, z2, z3⟩ := id hb
  refine ax_Mt_go (m := ax_m_8_16) (ls := [some (.ref 149), some (.int (nI c)), some (.int (nI o)), none]) rfl ax_b_1040_0 (Nat.le_of_ble_eq_true rfl) rfl ?_
  simp only [ax_W_cons, ax_I, ax_cmp, ax_ii, ax_ll, ax_li, ax_st1, ax_st2, ax_kl, ax_k2, ax_fit, ax_rtok, List.getElem?_cons_zero, List.getElem?_cons_succ, List.length_cons, List.length_nil, List.set_cons_zero, List.set_cons_succ, Nat.reduceAdd, Nat.reduceDiv, Nat.reduceMod, Nat.reduceMul, Nat.reduceLT, Nat.reduceLeDiff, Int32.reduceOfInt, Int64.reduceOfInt, true_and, and_true, and_self, true_or, or_true, false_implies, true_implies, not_false_eq_true, not_true_eq_false, Value.category, Nat.reduceEqDiff, Option.toList, List.cons_append, List.nil_append, List.drop_succ_cons, List.drop_zero, ax_qq_eq, ax_t_1040, h149, hal]
  refine ax_inv_eq (Nat.le_of_ble_eq_true rfl) (Nat.le_of_ble_eq_true rfl) (fun _ => ax_rcv_ok (by omega) hu.2.1) (fun h => absurd h (by decide)) (Nat.le_refl _) (Nat.le_refl _) (ck_copy (q := 154) (by omega) hu hb (by omega)) ?_
  have hS1 : kSe (kw es 154 k p (nI T) cr sh pl dn) n F1 := by
    obtain ⟨a1, a2, a3, a4, a5, a6, a7, a8⟩ := htr
    exact ⟨kR_kw kap154 hR, ⟨⟨dr, by rw [kw_ne _ _ _ _ _ _ _ _ (by omega)]; exact h149⟩, ⟨_, _, _, _, _, _, _, kw_kb (by omega) z1 z2 z3⟩, ty, by rw [kw_ne _ _ _ _ _ _ _ _ (by omega)]; exact h158, hz⟩, _, _, _, _, _, _, _, kb_fr a8 (fun j hj => kw_ne _ _ _ _ _ _ _ _ (by omega))⟩
  have hu1 : kb (kw es 154 k p (nI T) cr sh pl dn) n 154 k p (nI T) cr sh pl dn := kw_kb (by omega) z1 z2 z3
  have hf1 : ksf es (kw es 154 k p (nI T) cr sh pl dn) := fun j hj => kw_ne _ _ _ _ _ _ _ _ (by omega)
  generalize kw es 154 k p (nI T) cr sh pl dn = es1 at hS1 hu1 hf1 ⊢
  obtain ⟨dr1, w149⟩ := hS1.2.1.1
  have hb1 := kb_sf (by omega) hb hf1
  -- the touch, by hand, so that the untouched one stays known
  simp only [ax_W_cons, ax_I, ax_cmp, ax_ii, ax_ll, ax_li, ax_st1, ax_st2, ax_kl, ax_k2, ax_fit, ax_rtok, List.getElem?_cons_zero, List.getElem?_cons_succ, List.length_cons, List.length_nil, List.set_cons_zero, List.set_cons_succ, Nat.reduceAdd, Nat.reduceDiv, Nat.reduceMod, Nat.reduceMul, Nat.reduceLT, Nat.reduceLeDiff, Int32.reduceOfInt, Int64.reduceOfInt, true_and, and_true, and_self, true_or, or_true, false_implies, true_implies, not_false_eq_true, not_true_eq_false, Value.category, Nat.reduceEqDiff, Option.toList, List.cons_append, List.nil_append, List.drop_succ_cons, List.drop_zero, ax_qq_eq, ax_t_1040]
  obtain ⟨hR1, -, k2, p2, t2, cr2, sh2, pl2, dn2, h150⟩ := id hS1
  have T1 : ax_Mt (d + 5) 1031 [.ref 149, .int (nI o), .int (nI 20)] n sl es1 (fun r es' => r = none ∧ es' = kw es1 150 k p (nI T) cr (kx_push sh (nI o) (nI 20)) pl dn) := by
    have e4 : vp_in (nI o) 12 := nI_in ho (by decide)
    refine ax_Mt_start (m := ax_m_8_7) (ls := [some (.ref 149), some (.int (nI o)), some (.int (nI 20))]) rfl ax_b_1031_0 (Nat.le_of_ble_eq_true rfl) rfl ?_
    simp only [ax_W_cons, ax_I, ax_cmp, ax_ii, ax_ll, ax_li, ax_st1, ax_st2, ax_kl, ax_k2, ax_fit, ax_rtok, List.getElem?_cons_zero, List.getElem?_cons_succ, List.length_cons, List.length_nil, List.set_cons_zero, List.set_cons_succ, Nat.reduceAdd, Nat.reduceDiv, Nat.reduceMod, Nat.reduceMul, Nat.reduceLT, Nat.reduceLeDiff, Int32.reduceOfInt, Int64.reduceOfInt, true_and, and_true, and_self, true_or, or_true, false_implies, true_implies, not_false_eq_true, not_true_eq_false, Value.category, Nat.reduceEqDiff, Option.toList, List.cons_append, List.nil_append, List.drop_succ_cons, List.drop_zero, ax_qq_eq, ax_t_1031, w149, hal]
    refine ax_inv_eq (Nat.le_of_ble_eq_true rfl) (Nat.le_of_ble_eq_true rfl) (fun _ => ax_rcv_ok (by omega) h150.2.1) (fun h => absurd h (by decide)) (Nat.le_refl _) (Nat.le_refl _) (ck_copy (q := 150) (by omega) h150 hb1 (by omega)) ?_
    have g149 : kw es1 150 k p (nI T) cr sh pl dn 149 = es1 149 := kw_ne _ _ _ _ _ _ _ _ (by omega)
    have g150 : kb (kw es1 150 k p (nI T) cr sh pl dn) n 150 k p (nI T) cr sh pl dn := kw_kb (by omega) z1 z2 z3
    simp only [ax_W_cons, ax_I, ax_cmp, ax_ii, ax_ll, ax_li, ax_st1, ax_st2, ax_kl, ax_k2, ax_fit, ax_rtok, List.getElem?_cons_zero, List.getElem?_cons_succ, List.length_cons, List.length_nil, List.set_cons_zero, List.set_cons_succ, Nat.reduceAdd, Nat.reduceDiv, Nat.reduceMod, Nat.reduceMul, Nat.reduceLT, Nat.reduceLeDiff, Int32.reduceOfInt, Int64.reduceOfInt, true_and, and_true, and_self, true_or, or_true, false_implies, true_implies, not_false_eq_true, not_true_eq_false, Value.category, Nat.reduceEqDiff, Option.toList, List.cons_append, List.nil_append, List.drop_succ_cons, List.drop_zero, ax_qq_eq, ax_t_1031, g149, w149, hal]
    refine ax_inv_eq (Nat.le_of_ble_eq_true rfl) (Nat.le_of_ble_eq_true rfl) (fun _ => ax_rcv_ok (by omega) g150.2.1) (fun h => absurd h (by decide)) (Nat.le_refl _) (Nat.le_refl _) (ck_push (by omega) g150 (nI o) (nI 20) e4) ?_
    simp only [ax_W_cons, ax_I, ax_cmp, ax_ii, ax_ll, ax_li, ax_st1, ax_st2, ax_kl, ax_k2, ax_fit, ax_rtok, List.getElem?_cons_zero, List.getElem?_cons_succ, List.length_cons, List.length_nil, List.set_cons_zero, List.set_cons_succ, Nat.reduceAdd, Nat.reduceDiv, Nat.reduceMod, Nat.reduceMul, Nat.reduceLT, Nat.reduceLeDiff, Int32.reduceOfInt, Int64.reduceOfInt, true_and, and_true, and_self, true_or, or_true, false_implies, true_implies, not_false_eq_true, not_true_eq_false, Value.category, Nat.reduceEqDiff, Option.toList, List.cons_append, List.nil_append, List.drop_succ_cons, List.drop_zero, ax_qq_eq, ax_t_1031, kw_kw]
  refine ax_inv_eq (Nat.le_of_ble_eq_true rfl) (Nat.le_of_ble_eq_true rfl) (fun _ => ax_rcv_ok (by omega) w149) (fun h => absurd h (by decide)) (Nat.le_refl _) (Nat.le_refl _) (T1) ?_
  have hu2 : kb (kw es1 150 k p (nI T) cr (kx_push sh (nI o) (nI 20)) pl dn) n 154 k p (nI T) cr sh pl dn := kb_fr hu1 (fun j hj => kw_ne _ _ _ _ _ _ _ _ (by omega))
  obtain ⟨m1, m2⟩ := kT_kw (k := k) (p := p) (T := T) (cr := cr) (sh := kx_push sh (nI o) (nI 20)) (pl := pl) (dn := dn) hal hR1 hS1.2.1 (kz_push z1 ho) z2 z3
  have hf2 := ksf_trans hf1 m2
  generalize kw es1 150 k p (nI T) cr (kx_push sh (nI o) (nI 20)) pl dn = es2 at m1 hf2 hu2 ⊢
  simp only [ax_W_cons, ax_I, ax_cmp, ax_ii, ax_ll, ax_li, ax_st1, ax_st2, ax_kl, ax_k2, ax_fit, ax_rtok, List.getElem?_cons_zero, List.getElem?_cons_succ, List.length_cons, List.length_nil, List.set_cons_zero, List.set_cons_succ, Nat.reduceAdd, Nat.reduceDiv, Nat.reduceMod, Nat.reduceMul, Nat.reduceLT, Nat.reduceLeDiff, Int32.reduceOfInt, Int64.reduceOfInt, true_and, and_true, and_self, true_or, or_true, false_implies, true_implies, not_false_eq_true, not_true_eq_false, Value.category, Nat.reduceEqDiff, Option.toList, List.cons_append, List.nil_append, List.drop_succ_cons, List.drop_zero, ax_qq_eq, ax_t_1040]
  rw [ax_n_1040_20]
  have L := kx_down (k := 21) (I := fun f m => (kx_fst (fun m => !decide (kx_dr F1 k cr hs hc T (kx_push sh (nI o) (nI 20)) m c = kx_dr F1 k cr hs hc T sh m c)) 21 0 = kx_fst (fun m => !decide (kx_dr F1 k cr hs hc T (kx_push sh (nI o) (nI 20)) m c = kx_dr F1 k cr hs hc T sh m c)) f m) → ∀ es1, kT es1 n F1 k p (T + m) cr (kx_dr F1 k cr hs hc T (kx_push sh (nI o) (nI 20)) m) pl dn → kb es1 n 154 k p (nI (T + m)) cr (kx_dr F1 k cr hs hc T sh m) pl dn → ksf es es1 → ax_W (d + 6) n sl 1040 [(1, .iload 3), (2, .iconst 20), (3, .if_icmp .gt 79), (1, .aload 0), (3, .getfield 2062), (3, .getfield 18), (1, .iload 1), (1, .iaload), (1, .aload 0), (3, .getfield 2066), (3, .getfield 18), (1, .iload 1), (1, .iaload), (3, .if_icmp .eq 49), (1, .iload 3), (1, .ireturn)] 20 [some (.ref 149), some (.int (nI c)), some (.int (nI o)), some (.int (nI m))] [] n sl es1 (ax_qq n sl Q)) ?_ ?_ 21 0 rfl rfl
  · exact L es2 m1 hu2 hf2
  · intro hv es1 i1 i3 i2
    have e1 : (20 : Int32) < nI 21 := by decide
    simp only [ax_W_cons, ax_I, ax_cmp, ax_ii, ax_ll, ax_li, ax_st1, ax_st2, ax_kl, ax_k2, ax_fit, ax_rtok, List.getElem?_cons_zero, List.getElem?_cons_succ, List.length_cons, List.length_nil, List.set_cons_zero, List.set_cons_succ, Nat.reduceAdd, Nat.reduceDiv, Nat.reduceMod, Nat.reduceMul, Nat.reduceLT, Nat.reduceLeDiff, Int32.reduceOfInt, Int64.reduceOfInt, true_and, and_true, and_self, true_or, or_true, false_implies, true_implies, not_false_eq_true, not_true_eq_false, Value.category, Nat.reduceEqDiff, Option.toList, List.cons_append, List.nil_append, List.drop_succ_cons, List.drop_zero, ax_qq_eq, ax_t_1040, ax_j_1040_79, ax_n_1040_79, e1]
    rw [hv] at hQ
    exact hQ es1 (kT_kSe i1) i2
  · intro f m hfm ih hv es1 i1 i3 i2
    have e1 : ¬ (20 : Int32) < nI m := nI_nlt (a := 20) (by omega) (by decide)
    have e4 : nI m + 1 = nI (m + 1) := (nI_succ m).symm
    obtain ⟨dr1, w149⟩ := i1.2.1.1
    have y0 := i1.2.2.2.1
    have y1 := i1.2.2.2.2.1
    have u0 := i3.2.1
    have u1 := i3.2.2.1
    simp only [ax_W_cons, ax_I, ax_cmp, ax_ii, ax_ll, ax_li, ax_st1, ax_st2, ax_kl, ax_k2, ax_fit, ax_rtok, List.getElem?_cons_zero, List.getElem?_cons_succ, List.length_cons, List.length_nil, List.set_cons_zero, List.set_cons_succ, Nat.reduceAdd, Nat.reduceDiv, Nat.reduceMod, Nat.reduceMul, Nat.reduceLT, Nat.reduceLeDiff, Int32.reduceOfInt, Int64.reduceOfInt, true_and, and_true, and_self, true_or, or_true, false_implies, true_implies, not_false_eq_true, not_true_eq_false, Value.category, Nat.reduceEqDiff, Option.toList, List.cons_append, List.nil_append, List.drop_succ_cons, List.drop_zero, ax_qq_eq, ax_t_1040, ax_j_1040_49, ax_n_1040_49, w149, y0, y1, u0, u1, kb_o, kb_a, hal, e1, e2, e3]
    refine ⟨fun he => ?_, fun hne => ?_⟩
    · obtain ⟨hR1, hTo1, h3⟩ := id i1
      refine ax_inv_of (Nat.le_of_ble_eq_true rfl) (Nat.le_of_ble_eq_true rfl) (fun _ => kR_rcv hal hR1 _) (fun h => absurd h (by decide)) (Nat.le_refl _) (Nat.le_refl _) (ax_Mt_mono (ck_drift (q := 150) (m := 1) (by omega) hal hk.2 kap150 (by omega) hhs (ks_dr hk.2 (kC_F hC) hsh2 m) (kC_sf hC i2) hR1 h3) ?_)
      rintro r es3 ⟨rfl, n1, n2, n3⟩
      have j1 : es3 149 = _ := (n3 149 (by omega)).trans w149
      have i3' : kb es3 n 154 k p (nI (T + m)) cr (kx_dr F1 k cr hs hc T sh m) pl dn := kb_fr i3 (fun j hj => n3 j (by omega))
      have i2' : ksf es es3 := ksf_trans i2 (kfr_ksf (Or.inl rfl) n3)
      simp only [ax_W_cons, ax_I, ax_cmp, ax_ii, ax_ll, ax_li, ax_st1, ax_st2, ax_kl, ax_k2, ax_fit, ax_rtok, List.getElem?_cons_zero, List.getElem?_cons_succ, List.length_cons, List.length_nil, List.set_cons_zero, List.set_cons_succ, Nat.reduceAdd, Nat.reduceDiv, Nat.reduceMod, Nat.reduceMul, Nat.reduceLT, Nat.reduceLeDiff, Int32.reduceOfInt, Int64.reduceOfInt, true_and, and_true, and_self, true_or, or_true, false_implies, true_implies, not_false_eq_true, not_true_eq_false, Value.category, Nat.reduceEqDiff, Option.toList, List.cons_append, List.nil_append, List.drop_succ_cons, List.drop_zero, ax_qq_eq, ax_t_1040, j1, hal]
      refine ax_inv_of (Nat.le_of_ble_eq_true rfl) (Nat.le_of_ble_eq_true rfl) (fun _ => kR_rcv hal n1 _) (fun h => absurd h (by decide)) (Nat.le_refl _) (Nat.le_refl _) (ax_Mt_mono (ck_drift (q := 154) (m := 1) (by omega) hal hk.2 kap154 (by omega) hhs (ks_dr hk.2 (kC_F hC) hsh m) (kC_sf hC i2') n1 i3') ?_)
      rintro r es4 ⟨rfl, n4, n5, n6⟩
      simp only [ax_W_cons, ax_I, ax_cmp, ax_ii, ax_ll, ax_li, ax_st1, ax_st2, ax_kl, ax_k2, ax_fit, ax_rtok, List.getElem?_cons_zero, List.getElem?_cons_succ, List.length_cons, List.length_nil, List.set_cons_zero, List.set_cons_succ, Nat.reduceAdd, Nat.reduceDiv, Nat.reduceMod, Nat.reduceMul, Nat.reduceLT, Nat.reduceLeDiff, Int32.reduceOfInt, Int64.reduceOfInt, true_and, and_true, and_self, true_or, or_true, false_implies, true_implies, not_false_eq_true, not_true_eq_false, Value.category, Nat.reduceEqDiff, Option.toList, List.cons_append, List.nil_append, List.drop_succ_cons, List.drop_zero, ax_qq_eq, ax_t_1040, e4]
      rw [ax_j_1040_20]
      have n2' : kb es4 n 150 k p (nI (T + (m + 1))) cr (kx_dr F1 k cr hs hc T (kx_push sh (nI o) (nI 20)) (m + 1)) pl dn := kb_fr n2 (fun j hj => n6 j (by omega))
      refine ih ?_ es4 ⟨n4, ⟨⟨dr1, (n6 149 (by omega)).trans j1⟩, ⟨_, _, _, _, _, _, _, n5⟩, ?_⟩, n2'⟩ n5 (ksf_trans i2' (kfr_ksf (Or.inr rfl) n6))
      · rw [hv, kx_fst, if_neg (by simp [he])]
      · obtain ⟨ty1, t1, t2⟩ := hTo1.2.2
        exact ⟨ty1, (n6 158 (by omega)).trans ((n3 158 (by omega)).trans t1), t2⟩
    · rw [hv, kx_fst, if_pos (by simp [hne])] at hQ
      exact hQ es1 (kT_kSe i1) i2
theorem kpl_exch {i j : Nat} (h : kpl k p pl) (hi : i < p) (hj : j < p) (hp : p ≤ 6) : kpl k p (kx_exch pl (nI i) (nI j)) := by
  intro x hx
  unfold kx_exch upd
  rw [nI_clamp (by omega), nI_clamp (by omega)]
  split
  · exact h i hi
  · split
    · exact h j hj
    · exact h x hx
theorem kz_exch {i j : Nat} (h : kz 6 pl) (hi : i < 6) (hj : j < 6) : kz 6 (kx_exch pl (nI i) (nI j)) := by
  unfold kx_exch
  rw [nI_clamp (by omega), nI_clamp (by omega)]
  exact kz_upd (kz_upd h hi) hj
theorem ck_bestChange (hS : kSe es n F1) (hW : kW es n k p hc kd pl0 ht hs F1 F2 T cr sh pl dn) {Q : Option Value → ax_H → Prop} (hQ : ∀ es', kSe es' n F1 → ksf es es' → Q (some (.int (kx_bc (fun i j => kx_all (kx_dd F1 F2 k kd ht cr hs hc T sh (kx_exch pl (nI i) (nI j))) p 20) p (kx_all (kx_dd F1 F2 k kd ht cr hs hc T sh pl) p 20) p).2)) es') : ax_Mt (d + 6) 1033 [.ref 149] n sl es Q := by
  obtain ⟨hal, hk, hp, hhs, hsh, hpl, hT, hC, hb⟩ := id hW
  obtain ⟨dr, h149⟩ := hS.2.1.1
  refine ax_Mt_go (m := ax_m_8_9) (ls := [some (.ref 149), none, none, none, none, none]) rfl ax_b_1033_0 (Nat.le_of_ble_eq_true rfl) rfl ?_
  simp only [ax_W_cons, ax_I, ax_cmp, ax_ii, ax_ll, ax_li, ax_st1, ax_st2, ax_kl, ax_k2, ax_fit, ax_rtok, List.getElem?_cons_zero, List.getElem?_cons_succ, List.length_cons, List.length_nil, List.set_cons_zero, List.set_cons_succ, Nat.reduceAdd, Nat.reduceDiv, Nat.reduceMod, Nat.reduceMul, Nat.reduceLT, Nat.reduceLeDiff, Int32.reduceOfInt, Int64.reduceOfInt, true_and, and_true, and_self, true_or, or_true, false_implies, true_implies, not_false_eq_true, not_true_eq_false, Value.category, Nat.reduceEqDiff, Option.toList, List.cons_append, List.nil_append, List.drop_succ_cons, List.drop_zero, ax_qq_eq, ax_t_1033, h149, hal]
  refine ax_inv_of (Nat.le_of_ble_eq_true rfl) (Nat.le_of_ble_eq_true rfl) (fun _ => kSe_rcv hal hS _) (fun h => absurd h (by decide)) (Nat.le_refl _) (Nat.le_refl _) (ax_Mt_mono (cs_copyW (by omega) hS hW) ?_)
  rintro r es1 ⟨rfl, m1, m2⟩
  obtain ⟨dr1, w149⟩ := m1.2.1.1
  simp only [ax_W_cons, ax_I, ax_cmp, ax_ii, ax_ll, ax_li, ax_st1, ax_st2, ax_kl, ax_k2, ax_fit, ax_rtok, List.getElem?_cons_zero, List.getElem?_cons_succ, List.length_cons, List.length_nil, List.set_cons_zero, List.set_cons_succ, Nat.reduceAdd, Nat.reduceDiv, Nat.reduceMod, Nat.reduceMul, Nat.reduceLT, Nat.reduceLeDiff, Int32.reduceOfInt, Int64.reduceOfInt, true_and, and_true, and_self, true_or, or_true, false_implies, true_implies, not_false_eq_true, not_true_eq_false, Value.category, Nat.reduceEqDiff, Option.toList, List.cons_append, List.nil_append, List.drop_succ_cons, List.drop_zero, ax_qq_eq, ax_t_1033, w149, hal]
  refine ax_inv_of (Nat.le_of_ble_eq_true rfl) (Nat.le_of_ble_eq_true rfl) (fun _ => kR_rcv hal m1.1 _) (fun h => absurd h (by decide)) (Nat.le_refl _) (Nat.le_refl _) (ax_Mt_mono (cs_pass (m := 20) (by omega) hal hk.2 hp hpl (by omega) hhs hsh (kC_sf hC m2) m1) ?_)
  rintro r es2 ⟨rfl, m3, m4⟩
  have i0 := ksf_trans m2 m4
  simp only [ax_W_cons, ax_I, ax_cmp, ax_ii, ax_ll, ax_li, ax_st1, ax_st2, ax_kl, ax_k2, ax_fit, ax_rtok, List.getElem?_cons_zero, List.getElem?_cons_succ, List.length_cons, List.length_nil, List.set_cons_zero, List.set_cons_succ, Nat.reduceAdd, Nat.reduceDiv, Nat.reduceMod, Nat.reduceMul, Nat.reduceLT, Nat.reduceLeDiff, Int32.reduceOfInt, Int64.reduceOfInt, true_and, and_true, and_self, true_or, or_true, false_implies, true_implies, not_false_eq_true, not_true_eq_false, Value.category, Nat.reduceEqDiff, Option.toList, List.cons_append, List.nil_append, List.drop_succ_cons, List.drop_zero, ax_qq_eq, ax_t_1033]
  rw [ax_n_1033_29]
  generalize hV : (fun i j => kx_all (kx_dd F1 F2 k kd ht cr hs hc T sh (kx_exch pl (nI i) (nI j))) p 20) = V at hQ
  generalize kx_all (kx_dd F1 F2 k kd ht cr hs hc T sh pl) p 20 = A at hQ
  have L := kx_loop (k := p) (I := fun i => ∀ v4 v5 es1, kSe es1 n F1 → ksf es es1 → ax_W (d + 6) n sl 1033 [(1, .iload 3), (1, .aload 0), (3, .getfield 2054), (3, .getfield 4), (3, .if_icmp .ge 122), (1, .iload 3), (1, .iconst 1), (1, .iadd), (2, .istore 4)] 29 [some (.ref 149), some (.int (kx_bc V p A i).1), some (.int (kx_bc V p A i).2), some (.int (nI i)), v4, v5] [] n sl es1 (ax_qq n sl Q)) ?_ ?_
  · exact L none none es2 (kT_kSe m3) i0
  · intro v4 v5 es1 i1 i2
    obtain ⟨dr1, w149⟩ := i1.2.1.1
    obtain ⟨-, v0, -⟩ := kb_sf (by omega) hb i2
    have e0 := kx_nn (k := p) (by omega)
    simp only [ax_W_cons, ax_I, ax_cmp, ax_ii, ax_ll, ax_li, ax_st1, ax_st2, ax_kl, ax_k2, ax_fit, ax_rtok, List.getElem?_cons_zero, List.getElem?_cons_succ, List.length_cons, List.length_nil, List.set_cons_zero, List.set_cons_succ, Nat.reduceAdd, Nat.reduceDiv, Nat.reduceMod, Nat.reduceMul, Nat.reduceLT, Nat.reduceLeDiff, Int32.reduceOfInt, Int64.reduceOfInt, true_and, and_true, and_self, true_or, or_true, false_implies, true_implies, not_false_eq_true, not_true_eq_false, Value.category, Nat.reduceEqDiff, Option.toList, List.cons_append, List.nil_append, List.drop_succ_cons, List.drop_zero, ax_qq_eq, ax_t_1033, ax_j_1033_122, ax_n_1033_122, w149, v0, kb_o, hal, e0]
    exact hQ es1 i1 i2
  · intro i hi ih v4 v5 es1 i1 i2
    obtain ⟨f1, f2, f3, f4⟩ := kx_ix hi hp (by decide)
    obtain ⟨dr1, w149⟩ := i1.2.1.1
    obtain ⟨-, v0, -⟩ := kb_sf (by omega) hb i2
    simp only [ax_W_cons, ax_I, ax_cmp, ax_ii, ax_ll, ax_li, ax_st1, ax_st2, ax_kl, ax_k2, ax_fit, ax_rtok, List.getElem?_cons_zero, List.getElem?_cons_succ, List.length_cons, List.length_nil, List.set_cons_zero, List.set_cons_succ, Nat.reduceAdd, Nat.reduceDiv, Nat.reduceMod, Nat.reduceMul, Nat.reduceLT, Nat.reduceLeDiff, Int32.reduceOfInt, Int64.reduceOfInt, true_and, and_true, and_self, true_or, or_true, false_implies, true_implies, not_false_eq_true, not_true_eq_false, Value.category, Nat.reduceEqDiff, Option.toList, List.cons_append, List.nil_append, List.drop_succ_cons, List.drop_zero, ax_qq_eq, ax_t_1033, w149, v0, kb_o, hal, f1, f4]
    rw [ax_n_1033_45]
    have L2 := kx_loop (k := p - (i + 1)) (I := fun j => ∀ v5 es1, kSe es1 n F1 → ksf es es1 → ax_W (d + 6) n sl 1033 [(2, .iload 4), (1, .aload 0), (3, .getfield 2054), (3, .getfield 4), (3, .if_icmp .ge 116), (1, .aload 0), (3, .getfield 2062), (1, .aload 0), (3, .getfield 2054), (3, .invokeinterface 2 9), (1, .aload 0), (3, .getfield 2062), (1, .iload 3), (2, .iload 4), (3, .invokeinterface 13 13), (1, .aload 0), (3, .getfield 2050), (1, .aload 0), (3, .getfield 2062), (2, .iconst 20), (3, .invokeinterface 642 13), (2, .istore 5), (2, .iload 5), (1, .iload 1), (3, .if_icmp .le 110), (2, .iload 5), (1, .istore 1), (2, .iconst 8), (1, .iload 3), (1, .imul), (2, .iload 4), (1, .iadd), (1, .istore 2)] 45 [some (.ref 149), some (.int (kx_bc1 V i (kx_bc V p A i) j).1), some (.int (kx_bc1 V i (kx_bc V p A i) j).2), some (.int (nI i)), some (.int (nI (i + 1 + j))), v5] [] n sl es1 (ax_qq n sl Q)) ?_ ?_
    · exact L2 v5 es1 i1 i2
    · intro v5 es1 i1 i2
      obtain ⟨dr1, w149⟩ := i1.2.1.1
      obtain ⟨-, v0, -⟩ := kb_sf (by omega) hb i2
      have e0 := kx_nn (k := p) (by omega)
      rw [show i + 1 + (p - (i + 1)) = p by omega]
      simp only [ax_W_cons, ax_I, ax_cmp, ax_ii, ax_ll, ax_li, ax_st1, ax_st2, ax_kl, ax_k2, ax_fit, ax_rtok, List.getElem?_cons_zero, List.getElem?_cons_succ, List.length_cons, List.length_nil, List.set_cons_zero, List.set_cons_succ, Nat.reduceAdd, Nat.reduceDiv, Nat.reduceMod, Nat.reduceMul, Nat.reduceLT, Nat.reduceLeDiff, Int32.reduceOfInt, Int64.reduceOfInt, true_and, and_true, and_self, true_or, or_true, false_implies, true_implies, not_false_eq_true, not_true_eq_false, Value.category, Nat.reduceEqDiff, Option.toList, List.cons_append, List.nil_append, List.drop_succ_cons, List.drop_zero, ax_qq_eq, ax_t_1033, ax_j_1033_116, ax_n_1033_116, w149, v0, kb_o, hal, e0, f4]
      rw [ax_j_1033_29]
      exact ih _ _ es1 i1 i2
    · intro j hj ih2 v5 es1 i1 i2
      obtain ⟨g1, g2, g3, g4⟩ := kx_ix (c := i + 1 + j) (k := p) (by omega) hp (by decide)
      obtain ⟨dr1, w149⟩ := i1.2.1.1
      obtain ⟨-, v0, -⟩ := kb_sf (by omega) hb i2
      simp only [ax_W_cons, ax_I, ax_cmp, ax_ii, ax_ll, ax_li, ax_st1, ax_st2, ax_kl, ax_k2, ax_fit, ax_rtok, List.getElem?_cons_zero, List.getElem?_cons_succ, List.length_cons, List.length_nil, List.set_cons_zero, List.set_cons_succ, Nat.reduceAdd, Nat.reduceDiv, Nat.reduceMod, Nat.reduceMul, Nat.reduceLT, Nat.reduceLeDiff, Int32.reduceOfInt, Int64.reduceOfInt, true_and, and_true, and_self, true_or, or_true, false_implies, true_implies, not_false_eq_true, not_true_eq_false, Value.category, Nat.reduceEqDiff, Option.toList, List.cons_append, List.nil_append, List.drop_succ_cons, List.drop_zero, ax_qq_eq, ax_t_1033, w149, v0, kb_o, hal, g1]
      refine ax_inv_of (Nat.le_of_ble_eq_true rfl) (Nat.le_of_ble_eq_true rfl) (fun _ => kSe_rcv hal i1 _) (fun h => absurd h (by decide)) (Nat.le_refl _) (Nat.le_refl _) (ax_Mt_mono (cs_copyW (by omega) i1 (kW_sf hW i2)) ?_)
      rintro r es4 ⟨rfl, m1, m2⟩
      obtain ⟨dr4, x149⟩ := m1.2.1.1
      obtain ⟨-, -, -, -, -, z1, z2, z3⟩ := id m1.2.2
      simp only [ax_W_cons, ax_I, ax_cmp, ax_ii, ax_ll, ax_li, ax_st1, ax_st2, ax_kl, ax_k2, ax_fit, ax_rtok, List.getElem?_cons_zero, List.getElem?_cons_succ, List.length_cons, List.length_nil, List.set_cons_zero, List.set_cons_succ, Nat.reduceAdd, Nat.reduceDiv, Nat.reduceMod, Nat.reduceMul, Nat.reduceLT, Nat.reduceLeDiff, Int32.reduceOfInt, Int64.reduceOfInt, true_and, and_true, and_self, true_or, or_true, false_implies, true_implies, not_false_eq_true, not_true_eq_false, Value.category, Nat.reduceEqDiff, Option.toList, List.cons_append, List.nil_append, List.drop_succ_cons, List.drop_zero, ax_qq_eq, ax_t_1033, x149, hal]
      refine ax_inv_eq (Nat.le_of_ble_eq_true rfl) (Nat.le_of_ble_eq_true rfl) (fun _ => kSe_rcv hal (kT_kSe m1) _) (fun h => absurd h (by decide)) (Nat.le_refl _) (Nat.le_refl _) (ck_exchange m1.2.2 (nI i) (nI (i + 1 + j)) f2 g2) ?_
      obtain ⟨m3, m4⟩ := kT_kw (k := k) (p := p) (T := T) (cr := cr) (sh := sh) (pl := kx_exch pl (nI i) (nI (i + 1 + j))) (dn := dn) hal m1.1 m1.2.1 z1 (kz_exch z2 (by omega) (by omega)) z3
      generalize kw es4 150 k p (nI T) cr sh (kx_exch pl (nI i) (nI (i + 1 + j))) dn = es5 at m3 m4 ⊢
      obtain ⟨dr5, y149⟩ := m3.2.1.1
      have i5 := ksf_trans (ksf_trans i2 m2) m4
      simp only [ax_W_cons, ax_I, ax_cmp, ax_ii, ax_ll, ax_li, ax_st1, ax_st2, ax_kl, ax_k2, ax_fit, ax_rtok, List.getElem?_cons_zero, List.getElem?_cons_succ, List.length_cons, List.length_nil, List.set_cons_zero, List.set_cons_succ, Nat.reduceAdd, Nat.reduceDiv, Nat.reduceMod, Nat.reduceMul, Nat.reduceLT, Nat.reduceLeDiff, Int32.reduceOfInt, Int64.reduceOfInt, true_and, and_true, and_self, true_or, or_true, false_implies, true_implies, not_false_eq_true, not_true_eq_false, Value.category, Nat.reduceEqDiff, Option.toList, List.cons_append, List.nil_append, List.drop_succ_cons, List.drop_zero, ax_qq_eq, ax_t_1033, y149, hal]
      refine ax_inv_of (Nat.le_of_ble_eq_true rfl) (Nat.le_of_ble_eq_true rfl) (fun _ => kR_rcv hal m3.1 _) (fun h => absurd h (by decide)) (Nat.le_refl _) (Nat.le_refl _) (ax_Mt_mono (cs_pass (m := 20) (by omega) hal hk.2 hp (kpl_exch hpl hi (by omega) hp) (by omega) hhs hsh (kC_sf hC i5) m3) ?_)
      rintro r es6 ⟨rfl, m5, m6⟩
      have hVe : kx_all (kx_dd F1 F2 k kd ht cr hs hc T sh (kx_exch pl (nI i) (nI (i + 1 + j)))) p 20 = V i (i + 1 + j) := by rw [← hV]
      rw [hVe]
      have ih2 := ih2 (some (.int (V i (i + 1 + j)))) es6 (kT_kSe m5) (ksf_trans i5 m6)
      rw [kx_bc1] at ih2
      simp only [ax_W_cons, ax_I, ax_cmp, ax_ii, ax_ll, ax_li, ax_st1, ax_st2, ax_kl, ax_k2, ax_fit, ax_rtok, List.getElem?_cons_zero, List.getElem?_cons_succ, List.length_cons, List.length_nil, List.set_cons_zero, List.set_cons_succ, Nat.reduceAdd, Nat.reduceDiv, Nat.reduceMod, Nat.reduceMul, Nat.reduceLT, Nat.reduceLeDiff, Int32.reduceOfInt, Int64.reduceOfInt, true_and, and_true, and_self, true_or, or_true, false_implies, true_implies, not_false_eq_true, not_true_eq_false, Value.category, Nat.reduceEqDiff, Option.toList, List.cons_append, List.nil_append, List.drop_succ_cons, List.drop_zero, ax_qq_eq, ax_t_1033, ax_j_1033_110, ax_n_1033_110, g4]
      simp only [ax_j_1033_45]
      refine ⟨fun h => ?_, fun h => ?_⟩
      · rw [if_neg (by rw [kx_nlt]; exact h)] at ih2
        exact ih2
      · rw [kx_nle] at h
        rw [if_pos h] at ih2
        exact ih2
end KS
