/-! the reference: rests and years walked, judged -/
def mo_cnt (B : Nat) : Nat → Nat
  | 0 => 0
  | m + 1 => mo_cnt B m + (B.testBit m).toNat
theorem mo_cnt_eq {B : Nat} (hB : B < 4096) : kx_pop (nI B) = nI (mo_cnt B 30) := by
  have : ∀ a b : Fin 64, kx_pop (nI (64 * a.val + b.val)) = nI (mo_cnt (64 * a.val + b.val) 30) := by decide +kernel
  have h := this ⟨B / 64, by omega⟩ ⟨B % 64, by omega⟩
  dsimp only at h
  rw [show 64 * (B / 64) + B % 64 = B by omega] at h
  exact h
theorem kx_arc_sum {k : Nat} {sh : Nat → Int32} (hk : k ≤ 12) (hk0 : 0 < k) : ∀ m, m ≤ k → kx_arc k sh (nI 0) m = kx_sum sh m
  | 0, _ => rfl
  | m + 1, hm => by
    rw [kx_arc, kx_sum, kx_arc_sum hk hk0 m (by omega), kx_ring_mod hk hk0 m, Nat.zero_add, Nat.mod_eq_of_lt (by omega), nI_clamp (by omega)]
theorem kx_da_dn (k p G : Nat) (s : kSt) : (kx_da k p G s).2.2.2.2.2 = s.2.2.2.2 := by
  have key : ∀ act a b, (kx_ac k p act a b s).2.2.2.2 = s.2.2.2.2 := fun act a b => by
    unfold kx_ac
    split <;> rfl
  unfold kx_da
  split
  · exact key _ _ _
  · split
    · exact key _ _ _
    · split
      · exact key _ _ _
      · split
        · exact key _ _ _
        · rfl
theorem kx_yr_sum {F1 F2 : Int32 → Int32 → Int32 → Int32 → Int32} {k p : Nat} {kd ht hs : Nat → Int32} {hc G : Nat} {s : kSt} : ∀ m, kx_sum (kx_yr F1 F2 k p kd ht hs hc G s m).2.1.2.2.2.2 p = kx_sum s.2.2.2.2 p + (kx_yr F1 F2 k p kd ht hs hc G s m).2.2
  | 0 => by
    show kx_sum s.2.2.2.2 p = kx_sum s.2.2.2.2 p + 0
    rw [Int32.add_zero]
  | m + 1 => by
    have ih := kx_yr_sum (F1 := F1) (F2 := F2) (k := k) (p := p) (kd := kd) (ht := ht) (hs := hs) (hc := hc) (G := G) (s := s) m
    rw [kx_yr]
    unfold kx_y1 kx_jb
    dsimp only
    rw [kx_sum_pdn, kx_da_dn, ih, Int32.add_assoc]
def zPm (k p : Nat) (pm pl0 : Nat → Int32) : Prop := ∀ i, i < p → ∃ v, v ≤ 11 ∧ pm i = nI v ∧ pl0 i = nI (min v (k - 1))
def mLi (es : ax_H) (L : Nat) (la lb lc : Nat → Int32) : Prop := ∃ ln, es 170 = .inl (0, 250, .inl ln) ∧ ln 0 = nI L ∧ ∀ i, i < L → ln (1 + 3 * i) = la i - 7 ∧ ln (2 + 3 * i) = lb i ∧ ln (3 + 3 * i) = lc i
def zLn (p L : Nat) (la lb lc : Nat → Int32) : Prop := L ≤ 40 ∧ ∀ i, i < L → ∃ act a b, 7 ≤ act ∧ act ≤ 12 ∧ la i = nI act ∧ lb i = nI a ∧ lc i = nI b ∧ a ≤ 11 ∧ b ≤ 20 ∧ (act = 7 → 1 ≤ b) ∧ (act = 11 → a < p ∧ b < p ∧ ¬ a = b)
def zq_judged (F1 F2 : Int32 → Int32 → Int32 → Int32 → Int32) (k p : Nat) (kd ht hs : Nat → Int32) (hc : Nat) (pl0 la lb lc : Nat → Int32) (L : Nat) (w : Int32) : Int32 := if kx_in w 0 2 = true then (if w = 2 then kx_sum (kx_js F1 F2 k p kd ht hs hc pl0 la lb lc L).2.2.2.2 p else if w = 0 then kx_jw F1 F2 k p kd ht hs hc pl0 la lb lc L else kx_jf F1 F2 k p kd ht hs hc pl0 la lb lc L) else -2
section MM
variable {d n sl k p hc : Nat} {es : ax_H} {kd pm ht hs : Nat → Int32} {F1 F2 : Int32 → Int32 → Int32 → Int32 → Int32} {st : Nat → Int32} {b T C z G : Nat} {sh pl dn fc fb fs : Nat → Int32} {Q : Option Value → ax_H → Prop}
theorem mk_bits {B : Nat} (hB : B < 4096) (hQ : Q (some (.int (kx_pop (nI B)))) es) : ax_Mt d 1471 [.int (nI B)] n sl es Q := by
  rw [mo_cnt_eq hB] at hQ
  refine ax_Mt_go (m := ax_m_11_63) (ls := [some (.int (nI B)), none, none]) rfl ax_b_1471_0 (Nat.le_of_ble_eq_true rfl) rfl ?_
  simp only [ax_W_cons, ax_I, ax_cmp, ax_ii, ax_ll, ax_li, ax_st1, ax_st2, ax_kl, ax_k2, ax_fit, ax_rtok, List.getElem?_cons_zero, List.getElem?_cons_succ, List.length_cons, List.length_nil, List.set_cons_zero, List.set_cons_succ, Nat.reduceAdd, Nat.reduceDiv, Nat.reduceMod, Nat.reduceMul, Nat.reduceLT, Nat.reduceLeDiff, Int32.reduceOfInt, Int64.reduceOfInt, true_and, and_true, and_self, true_or, or_true, false_implies, true_implies, not_false_eq_true, not_true_eq_false, Value.category, Nat.reduceEqDiff, Option.toList, List.cons_append, List.nil_append, List.drop_succ_cons, List.drop_zero, ax_qq_eq, ax_t_1471]
  rw [ax_n_1471_4]
  refine kx_loop (k := 30) (I := fun x => ax_W (d) n sl 1471 [(1, .iload 2), (2, .iconst 30), (3, .if_icmp .ge 24), (1, .iload 1), (1, .iload 0), (1, .iload 2), (1, .ishr), (1, .iconst 1), (1, .iand), (1, .iadd), (1, .istore 1), (3, .iinc 2 1), (3, .goto 4)] 4 [some (.int (nI B)), some (.int (nI (mo_cnt B x))), some (.int (nI x))] [] n sl es (ax_qq n sl Q)) ?_ ?_
  · have e9 : (30 : Int32) ≤ nI 30 := by decide
    simp only [ax_W_cons, ax_I, ax_cmp, ax_ii, ax_ll, ax_li, ax_st1, ax_st2, ax_kl, ax_k2, ax_fit, ax_rtok, List.getElem?_cons_zero, List.getElem?_cons_succ, List.length_cons, List.length_nil, List.set_cons_zero, List.set_cons_succ, Nat.reduceAdd, Nat.reduceDiv, Nat.reduceMod, Nat.reduceMul, Nat.reduceLT, Nat.reduceLeDiff, Int32.reduceOfInt, Int64.reduceOfInt, true_and, and_true, and_self, true_or, or_true, false_implies, true_implies, not_false_eq_true, not_true_eq_false, Value.category, Nat.reduceEqDiff, Option.toList, List.cons_append, List.nil_append, List.drop_succ_cons, List.drop_zero, ax_qq_eq, ax_t_1471, ax_j_1471_24, ax_n_1471_24, e9]
    exact hQ
  · intro x hx ih
    have e9 : ¬ (30 : Int32) ≤ nI x := nI_ge (b := 30) hx (by decide)
    have e5 := kc_bit (C := B) (i := x) (by omega) (by omega)
    have x4 : nI x + 1 = nI (x + 1) := (nI_succ x).symm
    have e6 : nI (mo_cnt B x) + nI (B.testBit x).toNat = nI (mo_cnt B (x + 1)) := kn_add _ _
    simp only [ax_W_cons, ax_I, ax_cmp, ax_ii, ax_ll, ax_li, ax_st1, ax_st2, ax_kl, ax_k2, ax_fit, ax_rtok, List.getElem?_cons_zero, List.getElem?_cons_succ, List.length_cons, List.length_nil, List.set_cons_zero, List.set_cons_succ, Nat.reduceAdd, Nat.reduceDiv, Nat.reduceMod, Nat.reduceMul, Nat.reduceLT, Nat.reduceLeDiff, Int32.reduceOfInt, Int64.reduceOfInt, true_and, and_true, and_self, true_or, or_true, false_implies, true_implies, not_false_eq_true, not_true_eq_false, Value.category, Nat.reduceEqDiff, Option.toList, List.cons_append, List.nil_append, List.drop_succ_cons, List.drop_zero, ax_qq_eq, ax_t_1471, e9, e5, e6, x4]
    rw [ax_j_1471_4]
    exact ih
set_option maxRecDepth 20000 in
theorem mp_years (Z : mZ es n st k p hc kd pm ht hs F1 F2 T C sh pl dn) (sd m w : Int32) (hQ : ∀ es', mq es st es' → Q (some (.int (zq_years F1 F2 k p kd ht hs hc (T, nI C, sh, pl, dn) sd m w))) es') : ax_Mt (d + 10) 1515 [.ref 159, .int sd, .int m, .int w] n sl es Q := by
  obtain ⟨E, S, hT, hdn, hA⟩ := Z
  obtain ⟨hal, hk, hp, hhs, hF, hK⟩ := id E
  unfold zq_years at hQ
  refine ax_Mt_go (m := ax_m_11_107) (ls := [some (.ref 159), some (.int sd), some (.int m), some (.int w), none]) rfl ax_b_1515_0 (Nat.le_of_ble_eq_true rfl) rfl ?_
  refine mk_thrown hal hK.1 rfl ?_
  intro es0 h0
  have E0 := mE_th E h0
  have S0 := mS_th S h0
  have c10 : ¬ (1 : Int32) = 0 := by decide
  simp only [ax_W_cons, ax_I, ax_cmp, ax_ii, ax_ll, ax_li, ax_st1, ax_st2, ax_kl, ax_k2, ax_fit, ax_rtok, List.getElem?_cons_zero, List.getElem?_cons_succ, List.length_cons, List.length_nil, List.set_cons_zero, List.set_cons_succ, Nat.reduceAdd, Nat.reduceDiv, Nat.reduceMod, Nat.reduceMul, Nat.reduceLT, Nat.reduceLeDiff, Int32.reduceOfInt, Int64.reduceOfInt, true_and, and_true, and_self, true_or, or_true, false_implies, true_implies, not_false_eq_true, not_true_eq_false, Value.category, Nat.reduceEqDiff, Option.toList, List.cons_append, List.nil_append, List.drop_succ_cons, List.drop_zero, ax_qq_eq, ax_t_1515]
  refine ax_inv_of (Nat.le_of_ble_eq_true rfl) (Nat.le_of_ble_eq_true rfl) (fun _ => absurd ‹_› (by decide)) (fun h => absurd h (by decide)) (Nat.le_refl _) (Nat.le_refl _) (mk_within _ _ _ ?_)
  cases h1 : kx_in sd 0 9999
  · rw [if_neg (fun z => by rw [h1] at z; exact absurd z.1 (by decide))] at hQ
    simp only [ax_W_cons, ax_I, ax_cmp, ax_ii, ax_ll, ax_li, ax_st1, ax_st2, ax_kl, ax_k2, ax_fit, ax_rtok, List.getElem?_cons_zero, List.getElem?_cons_succ, List.length_cons, List.length_nil, List.set_cons_zero, List.set_cons_succ, Nat.reduceAdd, Nat.reduceDiv, Nat.reduceMod, Nat.reduceMul, Nat.reduceLT, Nat.reduceLeDiff, Int32.reduceOfInt, Int64.reduceOfInt, true_and, and_true, and_self, true_or, or_true, false_implies, true_implies, not_false_eq_true, not_true_eq_false, Value.category, Nat.reduceEqDiff, Option.toList, List.cons_append, List.nil_append, List.drop_succ_cons, List.drop_zero, ax_qq_eq, ax_t_1515, ax_j_1515_35, ax_n_1515_35, kx_bf]
    exact hQ _ (mq_of h0 (mfr_rf _) S0.1 (mfq_rf _) hA)
  simp only [ax_W_cons, ax_I, ax_cmp, ax_ii, ax_ll, ax_li, ax_st1, ax_st2, ax_kl, ax_k2, ax_fit, ax_rtok, List.getElem?_cons_zero, List.getElem?_cons_succ, List.length_cons, List.length_nil, List.set_cons_zero, List.set_cons_succ, Nat.reduceAdd, Nat.reduceDiv, Nat.reduceMod, Nat.reduceMul, Nat.reduceLT, Nat.reduceLeDiff, Int32.reduceOfInt, Int64.reduceOfInt, true_and, and_true, and_self, true_or, or_true, false_implies, true_implies, not_false_eq_true, not_true_eq_false, Value.category, Nat.reduceEqDiff, Option.toList, List.cons_append, List.nil_append, List.drop_succ_cons, List.drop_zero, ax_qq_eq, ax_t_1515, kx_bt, c10]
  refine ax_inv_of (Nat.le_of_ble_eq_true rfl) (Nat.le_of_ble_eq_true rfl) (fun _ => absurd ‹_› (by decide)) (fun h => absurd h (by decide)) (Nat.le_refl _) (Nat.le_refl _) (mk_within _ _ _ ?_)
  cases h2 : kx_in m 1 99
  · rw [if_neg (fun z => by rw [h2] at z; exact absurd z.2.1 (by decide))] at hQ
    simp only [ax_W_cons, ax_I, ax_cmp, ax_ii, ax_ll, ax_li, ax_st1, ax_st2, ax_kl, ax_k2, ax_fit, ax_rtok, List.getElem?_cons_zero, List.getElem?_cons_succ, List.length_cons, List.length_nil, List.set_cons_zero, List.set_cons_succ, Nat.reduceAdd, Nat.reduceDiv, Nat.reduceMod, Nat.reduceMul, Nat.reduceLT, Nat.reduceLeDiff, Int32.reduceOfInt, Int64.reduceOfInt, true_and, and_true, and_self, true_or, or_true, false_implies, true_implies, not_false_eq_true, not_true_eq_false, Value.category, Nat.reduceEqDiff, Option.toList, List.cons_append, List.nil_append, List.drop_succ_cons, List.drop_zero, ax_qq_eq, ax_t_1515, ax_j_1515_35, ax_n_1515_35, kx_bf]
    exact hQ _ (mq_of h0 (mfr_rf _) S0.1 (mfq_rf _) hA)
  simp only [ax_W_cons, ax_I, ax_cmp, ax_ii, ax_ll, ax_li, ax_st1, ax_st2, ax_kl, ax_k2, ax_fit, ax_rtok, List.getElem?_cons_zero, List.getElem?_cons_succ, List.length_cons, List.length_nil, List.set_cons_zero, List.set_cons_succ, Nat.reduceAdd, Nat.reduceDiv, Nat.reduceMod, Nat.reduceMul, Nat.reduceLT, Nat.reduceLeDiff, Int32.reduceOfInt, Int64.reduceOfInt, true_and, and_true, and_self, true_or, or_true, false_implies, true_implies, not_false_eq_true, not_true_eq_false, Value.category, Nat.reduceEqDiff, Option.toList, List.cons_append, List.nil_append, List.drop_succ_cons, List.drop_zero, ax_qq_eq, ax_t_1515, kx_bt, c10]
  refine ax_inv_of (Nat.le_of_ble_eq_true rfl) (Nat.le_of_ble_eq_true rfl) (fun _ => absurd ‹_› (by decide)) (fun h => absurd h (by decide)) (Nat.le_refl _) (Nat.le_refl _) (mk_within _ _ _ ?_)
  cases h3 : kx_in w 0 2
  · rw [if_neg (fun z => by rw [h3] at z; exact absurd z.2.2 (by decide))] at hQ
    simp only [ax_W_cons, ax_I, ax_cmp, ax_ii, ax_ll, ax_li, ax_st1, ax_st2, ax_kl, ax_k2, ax_fit, ax_rtok, List.getElem?_cons_zero, List.getElem?_cons_succ, List.length_cons, List.length_nil, List.set_cons_zero, List.set_cons_succ, Nat.reduceAdd, Nat.reduceDiv, Nat.reduceMod, Nat.reduceMul, Nat.reduceLT, Nat.reduceLeDiff, Int32.reduceOfInt, Int64.reduceOfInt, true_and, and_true, and_self, true_or, or_true, false_implies, true_implies, not_false_eq_true, not_true_eq_false, Value.category, Nat.reduceEqDiff, Option.toList, List.cons_append, List.nil_append, List.drop_succ_cons, List.drop_zero, ax_qq_eq, ax_t_1515, ax_j_1515_35, ax_n_1515_35, kx_bf]
    exact hQ _ (mq_of h0 (mfr_rf _) S0.1 (mfq_rf _) hA)
  rw [if_pos ⟨h1, h2, h3⟩] at hQ
  obtain ⟨sd', -, hsd', rfl⟩ := kx_in_nI (a := 0) (b := 9999) (by decide) (by decide) h1
  obtain ⟨m', hm1, hm', rfl⟩ := kx_in_nI (a := 1) (b := 99) (by decide) (by decide) h2
  rw [nI_clamp (by omega), nI_clamp (by omega)] at hQ
  simp only [ax_W_cons, ax_I, ax_cmp, ax_ii, ax_ll, ax_li, ax_st1, ax_st2, ax_kl, ax_k2, ax_fit, ax_rtok, List.getElem?_cons_zero, List.getElem?_cons_succ, List.length_cons, List.length_nil, List.set_cons_zero, List.set_cons_succ, Nat.reduceAdd, Nat.reduceDiv, Nat.reduceMod, Nat.reduceMul, Nat.reduceLT, Nat.reduceLeDiff, Int32.reduceOfInt, Int64.reduceOfInt, true_and, and_true, and_self, true_or, or_true, false_implies, true_implies, not_false_eq_true, not_true_eq_false, Value.category, Nat.reduceEqDiff, Option.toList, List.cons_append, List.nil_append, List.drop_succ_cons, List.drop_zero, ax_qq_eq, ax_t_1515, ax_j_1515_37, ax_n_1515_37, kx_bt, c10]
  refine ax_inv_of (Nat.le_of_ble_eq_true rfl) (Nat.le_of_ble_eq_true rfl) (fun _ => mE_rcv E0 _) (fun h => absurd h (by decide)) (Nat.le_refl _) (Nat.le_refl _) (mk_copies hal E0.2.2.2.2.2.1 S0.1 (x := 0) (y := 1144) (m := 26) (by omega) (by omega) (by omega) ?_)
  intro es1 f1 x1
  have E1 := mE_fr E0 f1
  obtain ⟨th, tp, sz, at0, fl, cd, nm, rm, on, fh, un, g, w0⟩ := id E1.2.2.2.2.2.1
  have e5 : (nI sd').toInt64 = nL sd' := nI_64 (by omega)
  simp only [ax_W_cons, ax_I, ax_cmp, ax_ii, ax_ll, ax_li, ax_st1, ax_st2, ax_kl, ax_k2, ax_fit, ax_rtok, List.getElem?_cons_zero, List.getElem?_cons_succ, List.length_cons, List.length_nil, List.set_cons_zero, List.set_cons_succ, Nat.reduceAdd, Nat.reduceDiv, Nat.reduceMod, Nat.reduceMul, Nat.reduceLT, Nat.reduceLeDiff, Int32.reduceOfInt, Int64.reduceOfInt, true_and, and_true, and_self, true_or, or_true, false_implies, true_implies, not_false_eq_true, not_true_eq_false, Value.category, Nat.reduceEqDiff, Option.toList, List.cons_append, List.nil_append, List.drop_succ_cons, List.drop_zero, ax_qq_eq, ax_t_1515, w0, mo_f, hal, e5]
  have u1 := mob_up w0 th (nL sd')
  have u2 : mX (ax_up es1 159 (.inr (11, mo_f th tp sz at0 fl cd nm rm on fh un (nL sd')))) (mo_cp st 0 1144 26) := mX_159 x1
  have u3 : mG (ax_up es1 159 (.inr (11, mo_f th tp sz at0 fl cd nm rm on fh un (nL sd')))) sd' := ⟨th, tp, sz, at0, fl, cd, nm, rm, on, fh, un, ax_up_same ..⟩
  have hzs : kSv k p (T, nI C, sh, pl, dn) := ⟨S.2.2.1, S.2.2.2.1⟩
  have hok := kx_yr_ok (F1 := F1) (F2 := F2) (kd := kd) (ht := ht) (hs := hs) (hc := hc) (G := sd') hk.2 hp hF (show kGo sd' from (show sd' < 2147483648 by omega)) hzs
  have hsum := kx_yr_sum (F1 := F1) (F2 := F2) (k := k) (p := p) (kd := kd) (ht := ht) (hs := hs) (hc := hc) (G := sd') (s := (T, nI C, sh, pl, dn)) m'
  rw [ax_n_1515_56]
  have L := kx_loop (k := m') (I := fun x => ∀ es2 st2 C2, mf3 es es2 → mfq st st2 → mX es2 st2 → mG es2 (kx_yr F1 F2 k p kd ht hs hc sd' (T, nI C, sh, pl, dn) x).1 → mV st2 1144 k p (kx_yr F1 F2 k p kd ht hs hc sd' (T, nI C, sh, pl, dn) x).2.1.1 C2 (kx_yr F1 F2 k p kd ht hs hc sd' (T, nI C, sh, pl, dn) x).2.1.2.2.1 (kx_yr F1 F2 k p kd ht hs hc sd' (T, nI C, sh, pl, dn) x).2.1.2.2.2.1 (kx_yr F1 F2 k p kd ht hs hc sd' (T, nI C, sh, pl, dn) x).2.1.2.2.2.2 → zSt k p C2 (kx_yr F1 F2 k p kd ht hs hc sd' (T, nI C, sh, pl, dn) x).2.1 → ax_W (d + 10) n sl 1515 [(2, .iload 4), (1, .iload 2), (3, .if_icmp .ge 80), (1, .aload 0), (3, .invokeinterface 1514 5), (1, .aload 0), (3, .iconst 1144), (3, .invokeinterface 1467 9), (1, .pop), (3, .iinc 4 1), (3, .goto 56)] 56 [some (.ref 159), some (.int (nI sd')), some (.int (nI m')), some (.int w), some (.int (nI x))] [] n sl es2 (ax_qq n sl Q)) ?_ ?_
  · exact L _ _ C (mf3_trans (mth_3 h0) (mf3_trans (mfr_3 f1) u1)) (mfs_q (by omega) (mfs_cp 0 1144)) u2 u3 (mV_cp (Nat.le_refl _) S.2.1 hk.2 hp) ⟨rfl, S.2.2⟩
  · intro es2 st2 C2 i1 i2 i3 i4 i5 i6
    have E2 := mE_f3 E i1
    have S2 := mS_q E S i2 i3
    have e9 := kx_nn (k := m') (by omega)
    have hQ2 := hQ es2 (mq_of3 i1 i3 i2 hA)
    generalize kx_yr F1 F2 k p kd ht hs hc sd' (T, nI C, sh, pl, dn) m' = Y at hQ2 hsum i5 i6
    by_cases hw0 : w = 0
    · rw [if_pos hw0] at hQ2
      subst hw0
      simp only [ax_W_cons, ax_I, ax_cmp, ax_ii, ax_ll, ax_li, ax_st1, ax_st2, ax_kl, ax_k2, ax_fit, ax_rtok, List.getElem?_cons_zero, List.getElem?_cons_succ, List.length_cons, List.length_nil, List.set_cons_zero, List.set_cons_succ, Nat.reduceAdd, Nat.reduceDiv, Nat.reduceMod, Nat.reduceMul, Nat.reduceLT, Nat.reduceLeDiff, Int32.reduceOfInt, Int64.reduceOfInt, true_and, and_true, and_self, true_or, or_true, false_implies, true_implies, not_false_eq_true, not_true_eq_false, Value.category, Nat.reduceEqDiff, Option.toList, List.cons_append, List.nil_append, List.drop_succ_cons, List.drop_zero, ax_qq_eq, ax_t_1515, ax_j_1515_80, ax_n_1515_80, e9]
      refine ax_inv_of (Nat.le_of_ble_eq_true rfl) (Nat.le_of_ble_eq_true rfl) (fun _ => mE_rcv E2 _) (fun h => absurd h (by decide)) (Nat.le_refl _) (Nat.le_refl _) (mk_doneOf hal E2.2.2.2.2.2 i3 hp (b := 1144) (by omega) i5 ?_)
      simp only [ax_W_cons, ax_I, ax_cmp, ax_ii, ax_ll, ax_li, ax_st1, ax_st2, ax_kl, ax_k2, ax_fit, ax_rtok, List.getElem?_cons_zero, List.getElem?_cons_succ, List.length_cons, List.length_nil, List.set_cons_zero, List.set_cons_succ, Nat.reduceAdd, Nat.reduceDiv, Nat.reduceMod, Nat.reduceMul, Nat.reduceLT, Nat.reduceLeDiff, Int32.reduceOfInt, Int64.reduceOfInt, true_and, and_true, and_self, true_or, or_true, false_implies, true_implies, not_false_eq_true, not_true_eq_false, Value.category, Nat.reduceEqDiff, Option.toList, List.cons_append, List.nil_append, List.drop_succ_cons, List.drop_zero, ax_qq_eq, ax_t_1515]
      refine ax_inv_of (Nat.le_of_ble_eq_true rfl) (Nat.le_of_ble_eq_true rfl) (fun _ => mE_rcv E2 _) (fun h => absurd h (by decide)) (Nat.le_refl _) (Nat.le_refl _) (mk_doneOf hal E2.2.2.2.2.2 i3 hp (b := 0) (by omega) S2.2.1 ?_)
      have e7 : kx_sum Y.2.1.2.2.2.2 p - kx_sum dn p = Y.2.2 := by
        rw [hsum, Int32.add_comm, Int32.add_sub_cancel]
      simp only [ax_W_cons, ax_I, ax_cmp, ax_ii, ax_ll, ax_li, ax_st1, ax_st2, ax_kl, ax_k2, ax_fit, ax_rtok, List.getElem?_cons_zero, List.getElem?_cons_succ, List.length_cons, List.length_nil, List.set_cons_zero, List.set_cons_succ, Nat.reduceAdd, Nat.reduceDiv, Nat.reduceMod, Nat.reduceMul, Nat.reduceLT, Nat.reduceLeDiff, Int32.reduceOfInt, Int64.reduceOfInt, true_and, and_true, and_self, true_or, or_true, false_implies, true_implies, not_false_eq_true, not_true_eq_false, Value.category, Nat.reduceEqDiff, Option.toList, List.cons_append, List.nil_append, List.drop_succ_cons, List.drop_zero, ax_qq_eq, ax_t_1515, ax_j_1515_129, ax_n_1515_129, e7]
      exact hQ2
    · rw [if_neg hw0] at hQ2
      by_cases hw1 : w = 1
      · rw [if_pos hw1] at hQ2
        subst hw1
        simp only [ax_W_cons, ax_I, ax_cmp, ax_ii, ax_ll, ax_li, ax_st1, ax_st2, ax_kl, ax_k2, ax_fit, ax_rtok, List.getElem?_cons_zero, List.getElem?_cons_succ, List.length_cons, List.length_nil, List.set_cons_zero, List.set_cons_succ, Nat.reduceAdd, Nat.reduceDiv, Nat.reduceMod, Nat.reduceMul, Nat.reduceLT, Nat.reduceLeDiff, Int32.reduceOfInt, Int64.reduceOfInt, true_and, and_true, and_self, true_or, or_true, false_implies, true_implies, not_false_eq_true, not_true_eq_false, Value.category, Nat.reduceEqDiff, Option.toList, List.cons_append, List.nil_append, List.drop_succ_cons, List.drop_zero, ax_qq_eq, ax_t_1515, ax_j_1515_80, ax_n_1515_80, ax_j_1515_100, ax_n_1515_100, e9, c10]
        refine ax_inv_of (Nat.le_of_ble_eq_true rfl) (Nat.le_of_ble_eq_true rfl) (fun _ => mE_rcv E2 _) (fun h => absurd h (by decide)) (Nat.le_refl _) (Nat.le_refl _) (mk_shaking hal E2.2.2.2.2.2 i3 hk.2 (b := 1144) (by omega) i5 ?_)
        simp only [ax_W_cons, ax_I, ax_cmp, ax_ii, ax_ll, ax_li, ax_st1, ax_st2, ax_kl, ax_k2, ax_fit, ax_rtok, List.getElem?_cons_zero, List.getElem?_cons_succ, List.length_cons, List.length_nil, List.set_cons_zero, List.set_cons_succ, Nat.reduceAdd, Nat.reduceDiv, Nat.reduceMod, Nat.reduceMul, Nat.reduceLT, Nat.reduceLeDiff, Int32.reduceOfInt, Int64.reduceOfInt, true_and, and_true, and_self, true_or, or_true, false_implies, true_implies, not_false_eq_true, not_true_eq_false, Value.category, Nat.reduceEqDiff, Option.toList, List.cons_append, List.nil_append, List.drop_succ_cons, List.drop_zero, ax_qq_eq, ax_t_1515]
        rw [kt_bits_eq k (by omega)] at hQ2 ⊢
        have hlt : kt_bits Y.2.1.2.2.1 k < 4096 := Nat.lt_of_lt_of_le (kt_bits_lt k) (show 2 ^ k ≤ 2 ^ 12 from Nat.pow_le_pow_right (by decide) hk.2)
        refine ax_inv_of (Nat.le_of_ble_eq_true rfl) (Nat.le_of_ble_eq_true rfl) (fun _ => absurd ‹_› (by decide)) (fun h => absurd h (by decide)) (Nat.le_refl _) (Nat.le_refl _) (mk_bits hlt ?_)
        simp only [ax_W_cons, ax_I, ax_cmp, ax_ii, ax_ll, ax_li, ax_st1, ax_st2, ax_kl, ax_k2, ax_fit, ax_rtok, List.getElem?_cons_zero, List.getElem?_cons_succ, List.length_cons, List.length_nil, List.set_cons_zero, List.set_cons_succ, Nat.reduceAdd, Nat.reduceDiv, Nat.reduceMod, Nat.reduceMul, Nat.reduceLT, Nat.reduceLeDiff, Int32.reduceOfInt, Int64.reduceOfInt, true_and, and_true, and_self, true_or, or_true, false_implies, true_implies, not_false_eq_true, not_true_eq_false, Value.category, Nat.reduceEqDiff, Option.toList, List.cons_append, List.nil_append, List.drop_succ_cons, List.drop_zero, ax_qq_eq, ax_t_1515, ax_j_1515_129, ax_n_1515_129]
        exact hQ2
      · rw [if_neg hw1, kx_arc_sum hk.2 (by omega) k (Nat.le_refl _)] at hQ2
        have e7 : kx_sum (fun j => st2 (1146 + j)) k = kx_sum Y.2.1.2.2.1 k := kx_sum_congr k (fun i hi => i5.2.2.1 i hi)
        simp only [ax_W_cons, ax_I, ax_cmp, ax_ii, ax_ll, ax_li, ax_st1, ax_st2, ax_kl, ax_k2, ax_fit, ax_rtok, List.getElem?_cons_zero, List.getElem?_cons_succ, List.length_cons, List.length_nil, List.set_cons_zero, List.set_cons_succ, Nat.reduceAdd, Nat.reduceDiv, Nat.reduceMod, Nat.reduceMul, Nat.reduceLT, Nat.reduceLeDiff, Int32.reduceOfInt, Int64.reduceOfInt, true_and, and_true, and_self, true_or, or_true, false_implies, true_implies, not_false_eq_true, not_true_eq_false, Value.category, Nat.reduceEqDiff, Option.toList, List.cons_append, List.nil_append, List.drop_succ_cons, List.drop_zero, ax_qq_eq, ax_t_1515, ax_j_1515_80, ax_n_1515_80, ax_j_1515_100, ax_n_1515_100, ax_j_1515_118, ax_n_1515_118, e9, hw0, hw1]
        refine ax_inv_of (Nat.le_of_ble_eq_true rfl) (Nat.le_of_ble_eq_true rfl) (fun _ => mE_rcv E2 _) (fun h => absurd h (by decide)) (Nat.le_refl _) (Nat.le_refl _) (mk_cells hal E2.2.2.2.2.2 ?_)
        simp only [ax_W_cons, ax_I, ax_cmp, ax_ii, ax_ll, ax_li, ax_st1, ax_st2, ax_kl, ax_k2, ax_fit, ax_rtok, List.getElem?_cons_zero, List.getElem?_cons_succ, List.length_cons, List.length_nil, List.set_cons_zero, List.set_cons_succ, Nat.reduceAdd, Nat.reduceDiv, Nat.reduceMod, Nat.reduceMul, Nat.reduceLT, Nat.reduceLeDiff, Int32.reduceOfInt, Int64.reduceOfInt, true_and, and_true, and_self, true_or, or_true, false_implies, true_implies, not_false_eq_true, not_true_eq_false, Value.category, Nat.reduceEqDiff, Option.toList, List.cons_append, List.nil_append, List.drop_succ_cons, List.drop_zero, ax_qq_eq, ax_t_1515]
        refine ax_inv_of (Nat.le_of_ble_eq_true rfl) (Nat.le_of_ble_eq_true rfl) (fun _ => mE_rcv E2 _) (fun h => absurd h (by decide)) (Nat.le_refl _) (Nat.le_refl _) (mk_sumOf hal E2.2.2.2.2.2.1 i3 (w := 1146) (m := k) (by omega) ?_)
        rw [e7]
        simp only [ax_W_cons, ax_I, ax_cmp, ax_ii, ax_ll, ax_li, ax_st1, ax_st2, ax_kl, ax_k2, ax_fit, ax_rtok, List.getElem?_cons_zero, List.getElem?_cons_succ, List.length_cons, List.length_nil, List.set_cons_zero, List.set_cons_succ, Nat.reduceAdd, Nat.reduceDiv, Nat.reduceMod, Nat.reduceMul, Nat.reduceLT, Nat.reduceLeDiff, Int32.reduceOfInt, Int64.reduceOfInt, true_and, and_true, and_self, true_or, or_true, false_implies, true_implies, not_false_eq_true, not_true_eq_false, Value.category, Nat.reduceEqDiff, Option.toList, List.cons_append, List.nil_append, List.drop_succ_cons, List.drop_zero, ax_qq_eq, ax_t_1515, ax_j_1515_129, ax_n_1515_129]
        exact hQ2
  · intro x hx ih es2 st2 C2 i1 i2 i3 i4 i5 i6
    have E2 := mE_f3 E i1
    have e9 : ¬ nI m' ≤ nI x := nI_ge hx (by omega)
    have x4 : nI x + 1 = nI (x + 1) := (nI_succ x).symm
    obtain ⟨o1, o2, o3⟩ := hok x
    rw [kx_yr] at ih
    generalize kx_yr F1 F2 k p kd ht hs hc sd' (T, nI C, sh, pl, dn) x = Y at ih i4 i5 i6 o1 o2 o3
    simp only [ax_W_cons, ax_I, ax_cmp, ax_ii, ax_ll, ax_li, ax_st1, ax_st2, ax_kl, ax_k2, ax_fit, ax_rtok, List.getElem?_cons_zero, List.getElem?_cons_succ, List.length_cons, List.length_nil, List.set_cons_zero, List.set_cons_succ, Nat.reduceAdd, Nat.reduceDiv, Nat.reduceMod, Nat.reduceMul, Nat.reduceLT, Nat.reduceLeDiff, Int32.reduceOfInt, Int64.reduceOfInt, true_and, and_true, and_self, true_or, or_true, false_implies, true_implies, not_false_eq_true, not_true_eq_false, Value.category, Nat.reduceEqDiff, Option.toList, List.cons_append, List.nil_append, List.drop_succ_cons, List.drop_zero, ax_qq_eq, ax_t_1515, e9]
    refine ax_inv_of (Nat.le_of_ble_eq_true rfl) (Nat.le_of_ble_eq_true rfl) (fun _ => mE_rcv E2 _) (fun h => absurd h (by decide)) (Nat.le_refl _) (Nat.le_refl _) (mk_drawsDeed E2 (s := Y.2.1) i3 i5 i6 o1 i4 ?_)
    intro es3 st3 C3 G3 s3 hda r1 r2 r3 r4 r5 r6
    have E3 := mE_f3 E2 r1
    have hT3 := kx_da_T k p Y.1 Y.2.1
    rw [hda] at hT3 ih
    have hT3 : s3.1 = Y.2.1.1 := hT3
    unfold kx_y1 kx_jb at ih
    have hD1 : s3.1 = T + x := by rw [hT3, o3]
    simp only [ax_W_cons, ax_I, ax_cmp, ax_ii, ax_ll, ax_li, ax_st1, ax_st2, ax_kl, ax_k2, ax_fit, ax_rtok, List.getElem?_cons_zero, List.getElem?_cons_succ, List.length_cons, List.length_nil, List.set_cons_zero, List.set_cons_succ, Nat.reduceAdd, Nat.reduceDiv, Nat.reduceMod, Nat.reduceMul, Nat.reduceLT, Nat.reduceLeDiff, Int32.reduceOfInt, Int64.reduceOfInt, true_and, and_true, and_self, true_or, or_true, false_implies, true_implies, not_false_eq_true, not_true_eq_false, Value.category, Nat.reduceEqDiff, Option.toList, List.cons_append, List.nil_append, List.drop_succ_cons, List.drop_zero, ax_qq_eq, ax_t_1515]
    refine ax_inv_of (Nat.le_of_ble_eq_true rfl) (Nat.le_of_ble_eq_true rfl) (fun _ => mE_rcv E3 _) (fun h => absurd h (by decide)) (Nat.le_refl _) (Nat.le_refl _) (mk_passes E3 ⟨r3, r5, r6.2⟩ (b := 1144) (by omega) (by rw [hD1]; omega) ?_)
    intro es4 st4 t1 t2 t3
    simp only [ax_W_cons, ax_I, ax_cmp, ax_ii, ax_ll, ax_li, ax_st1, ax_st2, ax_kl, ax_k2, ax_fit, ax_rtok, List.getElem?_cons_zero, List.getElem?_cons_succ, List.length_cons, List.length_nil, List.set_cons_zero, List.set_cons_succ, Nat.reduceAdd, Nat.reduceDiv, Nat.reduceMod, Nat.reduceMul, Nat.reduceLT, Nat.reduceLeDiff, Int32.reduceOfInt, Int64.reduceOfInt, true_and, and_true, and_self, true_or, or_true, false_implies, true_implies, not_false_eq_true, not_true_eq_false, Value.category, Nat.reduceEqDiff, Option.toList, List.cons_append, List.nil_append, List.drop_succ_cons, List.drop_zero, ax_qq_eq, ax_t_1515, x4]
    rw [ax_j_1515_56]
    dsimp only at ih
    rw [r6.1] at ih
    refine ih es4 st4 C3 (mf3_trans i1 (mf3_trans r1 (mfr_3 t1))) (mfq_trans i2 (mfq_trans (mfs_q (by omega) r2) (mfs_q (by omega) t2))) t3.1 (mG_fr r4 t1) t3.2.1 ⟨rfl, t3.2.2⟩
theorem mp_rests (Z : mZ es n st k p hc kd pm ht hs F1 F2 T C sh pl dn) (x l g w : Int32) (hQ : ∀ es', mq es st es' → mThr es' (if (ax_rests x l g w).isSome = true then 0 else 1) → Q (some (.int ((ax_rests x l g w).getD 0))) es') : ax_Mt (d + 10) 1512 [.ref 159, .int x, .int l, .int g, .int w] n sl es Q := by
  obtain ⟨E, S, hT, hdn, hA⟩ := Z
  obtain ⟨hal, hk, hp, hhs, hF, hK⟩ := id E
  obtain ⟨th, tp, sz, at0, fl, cd, nm, rm, on, fh, un, gg, w0⟩ := id hK.1
  have c10 : ¬ (1 : Int32) = 0 := by decide
  have c1l : ¬ (1 : Int32) ≤ 0 := by decide
  have c0l : (0 : Int32) ≤ 0 := by decide
  have hend : ∀ t, mq es st (ax_up es 159 (.inr (11, mo_f t tp sz at0 fl cd nm rm on fh un gg))) ∧ mThr (ax_up es 159 (.inr (11, mo_f t tp sz at0 fl cd nm rm on fh un gg))) t := fun t => ⟨mq_of3 (mob_up w0 t gg) (mX_159 S.1) (mfq_rf _) hA, tp, sz, at0, fl, cd, nm, rm, on, fh, un, gg, ax_up_same ..⟩
  -- not as told
  have no : ax_rests x l g w = none → ax_J ax_W (d + 10) n sl 1512 40 [some (.ref 159), some (.int x), some (.int l), some (.int g), some (.int w), none, none, none, none, none, none, none] [] n sl es (ax_qq n sl Q) := by
    intro hn
    have hQ := hQ _ (hend 1).1
    rw [hn] at hQ
    have hQ := hQ (hend 1).2
    have c40 : ¬ (4 : Int32) ≤ 0 := by decide
    simp only [ax_W_cons, ax_I, ax_cmp, ax_ii, ax_ll, ax_li, ax_st1, ax_st2, ax_kl, ax_k2, ax_fit, ax_rtok, List.getElem?_cons_zero, List.getElem?_cons_succ, List.length_cons, List.length_nil, List.set_cons_zero, List.set_cons_succ, Nat.reduceAdd, Nat.reduceDiv, Nat.reduceMod, Nat.reduceMul, Nat.reduceLT, Nat.reduceLeDiff, Int32.reduceOfInt, Int64.reduceOfInt, true_and, and_true, and_self, true_or, or_true, false_implies, true_implies, not_false_eq_true, not_true_eq_false, Value.category, Nat.reduceEqDiff, Option.toList, List.cons_append, List.nil_append, List.drop_succ_cons, List.drop_zero, ax_qq_eq, ax_t_1512, ax_j_1512_40, ax_n_1512_40, ax_j_1512_41, ax_n_1512_41, ax_j_1512_52, ax_n_1512_52, ax_j_1512_174, ax_n_1512_174, ax_j_1512_194, ax_n_1512_194, ax_j_1512_195, ax_n_1512_195, c40, w0, mo_f, hal, ax_up_same, c1l]
    simp only [ax_W_cons, ax_I, ax_cmp, ax_ii, ax_ll, ax_li, ax_st1, ax_st2, ax_kl, ax_k2, ax_fit, ax_rtok, List.getElem?_cons_zero, List.getElem?_cons_succ, List.length_cons, List.length_nil, List.set_cons_zero, List.set_cons_succ, Nat.reduceAdd, Nat.reduceDiv, Nat.reduceMod, Nat.reduceMul, Nat.reduceLT, Nat.reduceLeDiff, Int32.reduceOfInt, Int64.reduceOfInt, true_and, and_true, and_self, true_or, or_true, false_implies, true_implies, not_false_eq_true, not_true_eq_false, Value.category, Nat.reduceEqDiff, Option.toList, List.cons_append, List.nil_append, List.drop_succ_cons, List.drop_zero, ax_qq_eq, ax_t_1512, ax_j_1512_221, ax_n_1512_221]
    exact hQ
  have hno : ¬ (kx_in x 0 9 = true ∧ kx_in l 0 9 = true ∧ kx_in g 0 9 = true ∧ ¬ w < -1) → ax_rests x l g w = none := by
    intro h
    unfold ax_rests
    unfold kx_in at h
    simp only [Bool.and_eq_true, decide_eq_true_eq] at h
    rw [if_neg h]
  refine ax_Mt_go (m := ax_m_11_104) (ls := [some (.ref 159), some (.int x), some (.int l), some (.int g), some (.int w), none, none, none, none, none, none, none]) rfl ax_b_1512_0 (Nat.le_of_ble_eq_true rfl) rfl ?_
  simp only [ax_W_cons, ax_I, ax_cmp, ax_ii, ax_ll, ax_li, ax_st1, ax_st2, ax_kl, ax_k2, ax_fit, ax_rtok, List.getElem?_cons_zero, List.getElem?_cons_succ, List.length_cons, List.length_nil, List.set_cons_zero, List.set_cons_succ, Nat.reduceAdd, Nat.reduceDiv, Nat.reduceMod, Nat.reduceMul, Nat.reduceLT, Nat.reduceLeDiff, Int32.reduceOfInt, Int64.reduceOfInt, true_and, and_true, and_self, true_or, or_true, false_implies, true_implies, not_false_eq_true, not_true_eq_false, Value.category, Nat.reduceEqDiff, Option.toList, List.cons_append, List.nil_append, List.drop_succ_cons, List.drop_zero, ax_qq_eq, ax_t_1512]
  refine ax_inv_of (Nat.le_of_ble_eq_true rfl) (Nat.le_of_ble_eq_true rfl) (fun _ => absurd ‹_› (by decide)) (fun h => absurd h (by decide)) (Nat.le_refl _) (Nat.le_refl _) (mk_within _ _ _ ?_)
  cases h1 : kx_in x 0 9
  · simp only [ax_W_cons, ax_I, ax_cmp, ax_ii, ax_ll, ax_li, ax_st1, ax_st2, ax_kl, ax_k2, ax_fit, ax_rtok, List.getElem?_cons_zero, List.getElem?_cons_succ, List.length_cons, List.length_nil, List.set_cons_zero, List.set_cons_succ, Nat.reduceAdd, Nat.reduceDiv, Nat.reduceMod, Nat.reduceMul, Nat.reduceLT, Nat.reduceLeDiff, Int32.reduceOfInt, Int64.reduceOfInt, true_and, and_true, and_self, true_or, or_true, false_implies, true_implies, not_false_eq_true, not_true_eq_false, Value.category, Nat.reduceEqDiff, Option.toList, List.cons_append, List.nil_append, List.drop_succ_cons, List.drop_zero, ax_qq_eq, ax_t_1512, kx_bf]
    exact no (hno (fun z => by rw [h1] at z; exact absurd z.1 (by decide)))
  simp only [ax_W_cons, ax_I, ax_cmp, ax_ii, ax_ll, ax_li, ax_st1, ax_st2, ax_kl, ax_k2, ax_fit, ax_rtok, List.getElem?_cons_zero, List.getElem?_cons_succ, List.length_cons, List.length_nil, List.set_cons_zero, List.set_cons_succ, Nat.reduceAdd, Nat.reduceDiv, Nat.reduceMod, Nat.reduceMul, Nat.reduceLT, Nat.reduceLeDiff, Int32.reduceOfInt, Int64.reduceOfInt, true_and, and_true, and_self, true_or, or_true, false_implies, true_implies, not_false_eq_true, not_true_eq_false, Value.category, Nat.reduceEqDiff, Option.toList, List.cons_append, List.nil_append, List.drop_succ_cons, List.drop_zero, ax_qq_eq, ax_t_1512, kx_bt, c10]
  refine ax_inv_of (Nat.le_of_ble_eq_true rfl) (Nat.le_of_ble_eq_true rfl) (fun _ => absurd ‹_› (by decide)) (fun h => absurd h (by decide)) (Nat.le_refl _) (Nat.le_refl _) (mk_within _ _ _ ?_)
  cases h2 : kx_in l 0 9
  · simp only [ax_W_cons, ax_I, ax_cmp, ax_ii, ax_ll, ax_li, ax_st1, ax_st2, ax_kl, ax_k2, ax_fit, ax_rtok, List.getElem?_cons_zero, List.getElem?_cons_succ, List.length_cons, List.length_nil, List.set_cons_zero, List.set_cons_succ, Nat.reduceAdd, Nat.reduceDiv, Nat.reduceMod, Nat.reduceMul, Nat.reduceLT, Nat.reduceLeDiff, Int32.reduceOfInt, Int64.reduceOfInt, true_and, and_true, and_self, true_or, or_true, false_implies, true_implies, not_false_eq_true, not_true_eq_false, Value.category, Nat.reduceEqDiff, Option.toList, List.cons_append, List.nil_append, List.drop_succ_cons, List.drop_zero, ax_qq_eq, ax_t_1512, kx_bf]
    exact no (hno (fun z => by rw [h2] at z; exact absurd z.2.1 (by decide)))
  simp only [ax_W_cons, ax_I, ax_cmp, ax_ii, ax_ll, ax_li, ax_st1, ax_st2, ax_kl, ax_k2, ax_fit, ax_rtok, List.getElem?_cons_zero, List.getElem?_cons_succ, List.length_cons, List.length_nil, List.set_cons_zero, List.set_cons_succ, Nat.reduceAdd, Nat.reduceDiv, Nat.reduceMod, Nat.reduceMul, Nat.reduceLT, Nat.reduceLeDiff, Int32.reduceOfInt, Int64.reduceOfInt, true_and, and_true, and_self, true_or, or_true, false_implies, true_implies, not_false_eq_true, not_true_eq_false, Value.category, Nat.reduceEqDiff, Option.toList, List.cons_append, List.nil_append, List.drop_succ_cons, List.drop_zero, ax_qq_eq, ax_t_1512, kx_bt, c10]
  refine ax_inv_of (Nat.le_of_ble_eq_true rfl) (Nat.le_of_ble_eq_true rfl) (fun _ => absurd ‹_› (by decide)) (fun h => absurd h (by decide)) (Nat.le_refl _) (Nat.le_refl _) (mk_within _ _ _ ?_)
  cases h3 : kx_in g 0 9
  · simp only [ax_W_cons, ax_I, ax_cmp, ax_ii, ax_ll, ax_li, ax_st1, ax_st2, ax_kl, ax_k2, ax_fit, ax_rtok, List.getElem?_cons_zero, List.getElem?_cons_succ, List.length_cons, List.length_nil, List.set_cons_zero, List.set_cons_succ, Nat.reduceAdd, Nat.reduceDiv, Nat.reduceMod, Nat.reduceMul, Nat.reduceLT, Nat.reduceLeDiff, Int32.reduceOfInt, Int64.reduceOfInt, true_and, and_true, and_self, true_or, or_true, false_implies, true_implies, not_false_eq_true, not_true_eq_false, Value.category, Nat.reduceEqDiff, Option.toList, List.cons_append, List.nil_append, List.drop_succ_cons, List.drop_zero, ax_qq_eq, ax_t_1512, kx_bf]
    exact no (hno (fun z => by rw [h3] at z; exact absurd z.2.2.1 (by decide)))
  by_cases h4 : w < -1
  · simp only [ax_W_cons, ax_I, ax_cmp, ax_ii, ax_ll, ax_li, ax_st1, ax_st2, ax_kl, ax_k2, ax_fit, ax_rtok, List.getElem?_cons_zero, List.getElem?_cons_succ, List.length_cons, List.length_nil, List.set_cons_zero, List.set_cons_succ, Nat.reduceAdd, Nat.reduceDiv, Nat.reduceMod, Nat.reduceMul, Nat.reduceLT, Nat.reduceLeDiff, Int32.reduceOfInt, Int64.reduceOfInt, true_and, and_true, and_self, true_or, or_true, false_implies, true_implies, not_false_eq_true, not_true_eq_false, Value.category, Nat.reduceEqDiff, Option.toList, List.cons_append, List.nil_append, List.drop_succ_cons, List.drop_zero, ax_qq_eq, ax_t_1512, kx_bt, c10, h4]
    exact no (hno (fun z => z.2.2.2 h4))
  have hme := mo_rests h1 h2 h3 h4
  simp only [ax_W_cons, ax_I, ax_cmp, ax_ii, ax_ll, ax_li, ax_st1, ax_st2, ax_kl, ax_k2, ax_fit, ax_rtok, List.getElem?_cons_zero, List.getElem?_cons_succ, List.length_cons, List.length_nil, List.set_cons_zero, List.set_cons_succ, Nat.reduceAdd, Nat.reduceDiv, Nat.reduceMod, Nat.reduceMul, Nat.reduceLT, Nat.reduceLeDiff, Int32.reduceOfInt, Int64.reduceOfInt, true_and, and_true, and_self, true_or, or_true, false_implies, true_implies, not_false_eq_true, not_true_eq_false, Value.category, Nat.reduceEqDiff, Option.toList, List.cons_append, List.nil_append, List.drop_succ_cons, List.drop_zero, ax_qq_eq, ax_t_1512, ax_j_1512_41, ax_n_1512_41, kx_bt, c10, h4]
  rw [ax_n_1512_52]
  have c20 : ¬ (2 : Int32) = 0 := by decide
  refine kx_loop (k := 4) (I := fun m => ∀ v9 v10 v11, ax_W (d + 10) n sl 1512 [(2, .iload 8), (1, .iconst 4), (3, .if_icmp .ge 174), (2, .iload 5), (3, .ifCond .eq 174), (2, .iload 8), (1, .iconst 2), (1, .idiv), (2, .istore 9), (2, .iload 8), (1, .iconst 2), (1, .irem), (2, .istore 10), (1, .iconst 1), (2, .iload 9), (1, .isub), (2, .iload 10), (1, .iload 1), (1, .iload 2), (1, .iload 3), (3, .invokeinterface 1511 20), (2, .iload 9), (2, .iload 10), (1, .iload 1), (1, .iload 2), (1, .iload 3), (3, .invokeinterface 1511 20), (3, .if_icmp .gt 129), (1, .iconst 1), (2, .iload 10), (1, .isub), (2, .iload 9), (1, .iload 1), (1, .iload 2), (1, .iload 3), (3, .invokeinterface 1511 20), (2, .iload 10), (2, .iload 9), (1, .iload 1), (1, .iload 2), (1, .iload 3), (3, .invokeinterface 1511 20), (3, .if_icmp .gt 129), (1, .iconst 1), (3, .goto 130)] 52 [some (.ref 159), some (.int x), some (.int l), some (.int g), some (.int w), some (.int 1), some (.int (mo_rl (mo_r x l g) w m).1), some (.int (mo_rl (mo_r x l g) w m).2), some (.int (nI m)), v9, v10, v11] [] n sl es (ax_qq n sl Q)) ?_ ?_ none none none
  · intro v9 v10 v11
    have e9 : (4 : Int32) ≤ nI 4 := by decide
    obtain ⟨hin, -⟩ := mo_rl_in (r := mo_r x l g) (w := w) 4 (Nat.le_refl _)
    generalize mo_rl (mo_r x l g) w 4 = B at hme hin
    by_cases hw0 : w < 0
    · have hQ := hQ _ (hend 0).1
      rw [if_pos (Or.inl hw0), if_pos hw0] at hme
      rw [hme] at hQ
      have hQ := hQ (hend 0).2
      have hw1 : ¬ (0 : Int32) ≤ w := kx_lt_nle hw0
      simp only [ax_W_cons, ax_I, ax_cmp, ax_ii, ax_ll, ax_li, ax_st1, ax_st2, ax_kl, ax_k2, ax_fit, ax_rtok, List.getElem?_cons_zero, List.getElem?_cons_succ, List.length_cons, List.length_nil, List.set_cons_zero, List.set_cons_succ, Nat.reduceAdd, Nat.reduceDiv, Nat.reduceMod, Nat.reduceMul, Nat.reduceLT, Nat.reduceLeDiff, Int32.reduceOfInt, Int64.reduceOfInt, true_and, and_true, and_self, true_or, or_true, false_implies, true_implies, not_false_eq_true, not_true_eq_false, Value.category, Nat.reduceEqDiff, Option.toList, List.cons_append, List.nil_append, List.drop_succ_cons, List.drop_zero, ax_qq_eq, ax_t_1512, ax_j_1512_174, ax_n_1512_174, ax_j_1512_190, ax_n_1512_190, ax_j_1512_195, ax_n_1512_195, ax_j_1512_209, ax_n_1512_209, e9, c10, hw0, w0, mo_f, hal, ax_up_same, c0l, hw1]
      simp only [ax_W_cons, ax_I, ax_cmp, ax_ii, ax_ll, ax_li, ax_st1, ax_st2, ax_kl, ax_k2, ax_fit, ax_rtok, List.getElem?_cons_zero, List.getElem?_cons_succ, List.length_cons, List.length_nil, List.set_cons_zero, List.set_cons_succ, Nat.reduceAdd, Nat.reduceDiv, Nat.reduceMod, Nat.reduceMul, Nat.reduceLT, Nat.reduceLeDiff, Int32.reduceOfInt, Int64.reduceOfInt, true_and, and_true, and_self, true_or, or_true, false_implies, true_implies, not_false_eq_true, not_true_eq_false, Value.category, Nat.reduceEqDiff, Option.toList, List.cons_append, List.nil_append, List.drop_succ_cons, List.drop_zero, ax_qq_eq, ax_t_1512, ax_j_1512_221, ax_n_1512_221]
      exact hQ
    · have hw1 : (0 : Int32) ≤ w := by rw [← kx_nlt]; exact hw0
      by_cases hf0 : B.2 < 0
      · have hf1 : ¬ (0 : Int32) ≤ B.2 := kx_lt_nle hf0
        have hQ := hQ _ (hend 1).1
        rw [if_neg (fun z => z.elim hw0 hf1)] at hme
        rw [hme] at hQ
        have hQ := hQ (hend 1).2
        simp only [ax_W_cons, ax_I, ax_cmp, ax_ii, ax_ll, ax_li, ax_st1, ax_st2, ax_kl, ax_k2, ax_fit, ax_rtok, List.getElem?_cons_zero, List.getElem?_cons_succ, List.length_cons, List.length_nil, List.set_cons_zero, List.set_cons_succ, Nat.reduceAdd, Nat.reduceDiv, Nat.reduceMod, Nat.reduceMul, Nat.reduceLT, Nat.reduceLeDiff, Int32.reduceOfInt, Int64.reduceOfInt, true_and, and_true, and_self, true_or, or_true, false_implies, true_implies, not_false_eq_true, not_true_eq_false, Value.category, Nat.reduceEqDiff, Option.toList, List.cons_append, List.nil_append, List.drop_succ_cons, List.drop_zero, ax_qq_eq, ax_t_1512, ax_j_1512_174, ax_n_1512_174, ax_j_1512_194, ax_n_1512_194, ax_j_1512_195, ax_n_1512_195, e9, c10, hw0, hf0, w0, mo_f, hal, ax_up_same, c1l]
        simp only [ax_W_cons, ax_I, ax_cmp, ax_ii, ax_ll, ax_li, ax_st1, ax_st2, ax_kl, ax_k2, ax_fit, ax_rtok, List.getElem?_cons_zero, List.getElem?_cons_succ, List.length_cons, List.length_nil, List.set_cons_zero, List.set_cons_succ, Nat.reduceAdd, Nat.reduceDiv, Nat.reduceMod, Nat.reduceMul, Nat.reduceLT, Nat.reduceLeDiff, Int32.reduceOfInt, Int64.reduceOfInt, true_and, and_true, and_self, true_or, or_true, false_implies, true_implies, not_false_eq_true, not_true_eq_false, Value.category, Nat.reduceEqDiff, Option.toList, List.cons_append, List.nil_append, List.drop_succ_cons, List.drop_zero, ax_qq_eq, ax_t_1512, ax_j_1512_221, ax_n_1512_221]
        exact hQ
      · have hf1 : (0 : Int32) ≤ B.2 := by rw [← kx_nlt]; exact hf0
        have hQ := hQ _ (hend 0).1
        rw [if_pos (Or.inr hf1), if_neg hw0] at hme
        rw [hme] at hQ
        have hQ := hQ (hend 0).2
        simp only [ax_W_cons, ax_I, ax_cmp, ax_ii, ax_ll, ax_li, ax_st1, ax_st2, ax_kl, ax_k2, ax_fit, ax_rtok, List.getElem?_cons_zero, List.getElem?_cons_succ, List.length_cons, List.length_nil, List.set_cons_zero, List.set_cons_succ, Nat.reduceAdd, Nat.reduceDiv, Nat.reduceMod, Nat.reduceMul, Nat.reduceLT, Nat.reduceLeDiff, Int32.reduceOfInt, Int64.reduceOfInt, true_and, and_true, and_self, true_or, or_true, false_implies, true_implies, not_false_eq_true, not_true_eq_false, Value.category, Nat.reduceEqDiff, Option.toList, List.cons_append, List.nil_append, List.drop_succ_cons, List.drop_zero, ax_qq_eq, ax_t_1512, ax_j_1512_174, ax_n_1512_174, ax_j_1512_190, ax_n_1512_190, ax_j_1512_195, ax_n_1512_195, ax_j_1512_209, ax_n_1512_209, ax_j_1512_219, ax_n_1512_219, e9, c10, hw0, hf0, w0, mo_f, hal, ax_up_same, c0l, hw1]
        simp only [ax_W_cons, ax_I, ax_cmp, ax_ii, ax_ll, ax_li, ax_st1, ax_st2, ax_kl, ax_k2, ax_fit, ax_rtok, List.getElem?_cons_zero, List.getElem?_cons_succ, List.length_cons, List.length_nil, List.set_cons_zero, List.set_cons_succ, Nat.reduceAdd, Nat.reduceDiv, Nat.reduceMod, Nat.reduceMul, Nat.reduceLT, Nat.reduceLeDiff, Int32.reduceOfInt, Int64.reduceOfInt, true_and, and_true, and_self, true_or, or_true, false_implies, true_implies, not_false_eq_true, not_true_eq_false, Value.category, Nat.reduceEqDiff, Option.toList, List.cons_append, List.nil_append, List.drop_succ_cons, List.drop_zero, ax_qq_eq, ax_t_1512, ax_j_1512_221, ax_n_1512_221]
        exact hQ
  · intro m hm ih v9 v10 v11
    have e9 : ¬ (4 : Int32) ≤ nI m := nI_ge (b := 4) hm (by decide)
    have m4 : nI m + 1 = nI (m + 1) := (nI_succ m).symm
    have d1 : nI m / 2 = nI (m / 2) := pk_div (d := 2) (by omega) (by decide) (by decide)
    have d2 : nI m - nI (m / 2) * 2 = nI (m % 2) := by
      have := pk_rem (a := m) (d := 2) (by omega) (by decide) (by decide)
      rw [← this, ← d1]
      rfl
    have hr : mo_r x l g m = (decide (ax_pay (1 - nI (m / 2)) (nI (m % 2)) x l g ≤ ax_pay (nI (m / 2)) (nI (m % 2)) x l g) && decide (ax_pay (1 - nI (m % 2)) (nI (m / 2)) x l g ≤ ax_pay (nI (m % 2)) (nI (m / 2)) x l g)) := rfl
    -- the end of it
    have fin : ∀ (is : Bool), mo_r x l g m = is → ax_W (d + 10) n sl 1512 [(2, .istore 11), (2, .iload 11), (3, .ifCond .eq 149), (2, .iload 6), (2, .iload 4), (3, .if_icmp .ne 149), (2, .iload 8), (3, .goto 151)] 130 [some (.ref 159), some (.int x), some (.int l), some (.int g), some (.int w), some (.int 1), some (.int (mo_rl (mo_r x l g) w m).1), some (.int (mo_rl (mo_r x l g) w m).2), some (.int (nI m)), some (.int (nI (m / 2))), some (.int (nI (m % 2))), v11] [.int (kx_b is)] n sl es (ax_qq n sl Q) := by
      intro is his
      rw [mo_rl, his] at ih
      generalize mo_rl (mo_r x l g) w m = B at ih ⊢
      cases is
      · simp only [Bool.false_eq_true, if_false, false_and] at ih
        simp only [ax_W_cons, ax_I, ax_cmp, ax_ii, ax_ll, ax_li, ax_st1, ax_st2, ax_kl, ax_k2, ax_fit, ax_rtok, List.getElem?_cons_zero, List.getElem?_cons_succ, List.length_cons, List.length_nil, List.set_cons_zero, List.set_cons_succ, Nat.reduceAdd, Nat.reduceDiv, Nat.reduceMod, Nat.reduceMul, Nat.reduceLT, Nat.reduceLeDiff, Int32.reduceOfInt, Int64.reduceOfInt, true_and, and_true, and_self, true_or, or_true, false_implies, true_implies, not_false_eq_true, not_true_eq_false, Value.category, Nat.reduceEqDiff, Option.toList, List.cons_append, List.nil_append, List.drop_succ_cons, List.drop_zero, ax_qq_eq, ax_t_1512, ax_j_1512_149, ax_n_1512_149, ax_j_1512_151, ax_n_1512_151, ax_j_1512_164, ax_n_1512_164, ax_j_1512_165, ax_n_1512_165, kx_bf, Int32.add_zero, m4]
        rw [ax_j_1512_52]
        exact ih _ _ _
      · simp only [if_true, true_and] at ih
        by_cases hB : B.1 = w
        · rw [if_pos hB] at ih
          simp only [ax_W_cons, ax_I, ax_cmp, ax_ii, ax_ll, ax_li, ax_st1, ax_st2, ax_kl, ax_k2, ax_fit, ax_rtok, List.getElem?_cons_zero, List.getElem?_cons_succ, List.length_cons, List.length_nil, List.set_cons_zero, List.set_cons_succ, Nat.reduceAdd, Nat.reduceDiv, Nat.reduceMod, Nat.reduceMul, Nat.reduceLT, Nat.reduceLeDiff, Int32.reduceOfInt, Int64.reduceOfInt, true_and, and_true, and_self, true_or, or_true, false_implies, true_implies, not_false_eq_true, not_true_eq_false, Value.category, Nat.reduceEqDiff, Option.toList, List.cons_append, List.nil_append, List.drop_succ_cons, List.drop_zero, ax_qq_eq, ax_t_1512, ax_j_1512_151, ax_n_1512_151, ax_j_1512_165, ax_n_1512_165, kx_bt, c10, hB, m4]
          rw [ax_j_1512_52]
          rw [hB] at ih
          exact ih _ _ _
        · rw [if_neg hB] at ih
          simp only [ax_W_cons, ax_I, ax_cmp, ax_ii, ax_ll, ax_li, ax_st1, ax_st2, ax_kl, ax_k2, ax_fit, ax_rtok, List.getElem?_cons_zero, List.getElem?_cons_succ, List.length_cons, List.length_nil, List.set_cons_zero, List.set_cons_succ, Nat.reduceAdd, Nat.reduceDiv, Nat.reduceMod, Nat.reduceMul, Nat.reduceLT, Nat.reduceLeDiff, Int32.reduceOfInt, Int64.reduceOfInt, true_and, and_true, and_self, true_or, or_true, false_implies, true_implies, not_false_eq_true, not_true_eq_false, Value.category, Nat.reduceEqDiff, Option.toList, List.cons_append, List.nil_append, List.drop_succ_cons, List.drop_zero, ax_qq_eq, ax_t_1512, ax_j_1512_149, ax_n_1512_149, ax_j_1512_151, ax_n_1512_151, ax_j_1512_165, ax_n_1512_165, kx_bt, c10, hB, m4]
          rw [ax_j_1512_52]
          exact ih _ _ _
    simp only [ax_W_cons, ax_I, ax_cmp, ax_ii, ax_ll, ax_li, ax_st1, ax_st2, ax_kl, ax_k2, ax_fit, ax_rtok, List.getElem?_cons_zero, List.getElem?_cons_succ, List.length_cons, List.length_nil, List.set_cons_zero, List.set_cons_succ, Nat.reduceAdd, Nat.reduceDiv, Nat.reduceMod, Nat.reduceMul, Nat.reduceLT, Nat.reduceLeDiff, Int32.reduceOfInt, Int64.reduceOfInt, true_and, and_true, and_self, true_or, or_true, false_implies, true_implies, not_false_eq_true, not_true_eq_false, Value.category, Nat.reduceEqDiff, Option.toList, List.cons_append, List.nil_append, List.drop_succ_cons, List.drop_zero, ax_qq_eq, ax_t_1512, e9, c10, c20, d1, d2]
    refine ax_inv_of (Nat.le_of_ble_eq_true rfl) (Nat.le_of_ble_eq_true rfl) (fun _ => absurd ‹_› (by decide)) (fun h => absurd h (by decide)) (Nat.le_refl _) (Nat.le_refl _) (mk_getsBy _ _ _ _ _ ?_)
    simp only [ax_W_cons, ax_I, ax_cmp, ax_ii, ax_ll, ax_li, ax_st1, ax_st2, ax_kl, ax_k2, ax_fit, ax_rtok, List.getElem?_cons_zero, List.getElem?_cons_succ, List.length_cons, List.length_nil, List.set_cons_zero, List.set_cons_succ, Nat.reduceAdd, Nat.reduceDiv, Nat.reduceMod, Nat.reduceMul, Nat.reduceLT, Nat.reduceLeDiff, Int32.reduceOfInt, Int64.reduceOfInt, true_and, and_true, and_self, true_or, or_true, false_implies, true_implies, not_false_eq_true, not_true_eq_false, Value.category, Nat.reduceEqDiff, Option.toList, List.cons_append, List.nil_append, List.drop_succ_cons, List.drop_zero, ax_qq_eq, ax_t_1512]
    refine ax_inv_of (Nat.le_of_ble_eq_true rfl) (Nat.le_of_ble_eq_true rfl) (fun _ => absurd ‹_› (by decide)) (fun h => absurd h (by decide)) (Nat.le_refl _) (Nat.le_refl _) (mk_getsBy _ _ _ _ _ ?_)
    simp only [ax_W_cons, ax_I, ax_cmp, ax_ii, ax_ll, ax_li, ax_st1, ax_st2, ax_kl, ax_k2, ax_fit, ax_rtok, List.getElem?_cons_zero, List.getElem?_cons_succ, List.length_cons, List.length_nil, List.set_cons_zero, List.set_cons_succ, Nat.reduceAdd, Nat.reduceDiv, Nat.reduceMod, Nat.reduceMul, Nat.reduceLT, Nat.reduceLeDiff, Int32.reduceOfInt, Int64.reduceOfInt, true_and, and_true, and_self, true_or, or_true, false_implies, true_implies, not_false_eq_true, not_true_eq_false, Value.category, Nat.reduceEqDiff, Option.toList, List.cons_append, List.nil_append, List.drop_succ_cons, List.drop_zero, ax_qq_eq, ax_t_1512]
    refine ⟨fun h5 => ?_, fun h5 => ?_⟩
    · have fin := fin false (by rw [hr, decide_eq_false (kx_lt_nle h5)]; rfl)
      simp only [ax_W_cons, ax_I, ax_cmp, ax_ii, ax_ll, ax_li, ax_st1, ax_st2, ax_kl, ax_k2, ax_fit, ax_rtok, List.getElem?_cons_zero, List.getElem?_cons_succ, List.length_cons, List.length_nil, List.set_cons_zero, List.set_cons_succ, Nat.reduceAdd, Nat.reduceDiv, Nat.reduceMod, Nat.reduceMul, Nat.reduceLT, Nat.reduceLeDiff, Int32.reduceOfInt, Int64.reduceOfInt, true_and, and_true, and_self, true_or, or_true, false_implies, true_implies, not_false_eq_true, not_true_eq_false, Value.category, Nat.reduceEqDiff, Option.toList, List.cons_append, List.nil_append, List.drop_succ_cons, List.drop_zero, ax_qq_eq, ax_t_1512, ax_j_1512_129, ax_n_1512_129]
      rw [ax_n_1512_130]
      exact fin
    · rw [kx_nlt] at h5
      refine ax_inv_of (Nat.le_of_ble_eq_true rfl) (Nat.le_of_ble_eq_true rfl) (fun _ => absurd ‹_› (by decide)) (fun h => absurd h (by decide)) (Nat.le_refl _) (Nat.le_refl _) (mk_getsBy _ _ _ _ _ ?_)
      simp only [ax_W_cons, ax_I, ax_cmp, ax_ii, ax_ll, ax_li, ax_st1, ax_st2, ax_kl, ax_k2, ax_fit, ax_rtok, List.getElem?_cons_zero, List.getElem?_cons_succ, List.length_cons, List.length_nil, List.set_cons_zero, List.set_cons_succ, Nat.reduceAdd, Nat.reduceDiv, Nat.reduceMod, Nat.reduceMul, Nat.reduceLT, Nat.reduceLeDiff, Int32.reduceOfInt, Int64.reduceOfInt, true_and, and_true, and_self, true_or, or_true, false_implies, true_implies, not_false_eq_true, not_true_eq_false, Value.category, Nat.reduceEqDiff, Option.toList, List.cons_append, List.nil_append, List.drop_succ_cons, List.drop_zero, ax_qq_eq, ax_t_1512]
      refine ax_inv_of (Nat.le_of_ble_eq_true rfl) (Nat.le_of_ble_eq_true rfl) (fun _ => absurd ‹_› (by decide)) (fun h => absurd h (by decide)) (Nat.le_refl _) (Nat.le_refl _) (mk_getsBy _ _ _ _ _ ?_)
      simp only [ax_W_cons, ax_I, ax_cmp, ax_ii, ax_ll, ax_li, ax_st1, ax_st2, ax_kl, ax_k2, ax_fit, ax_rtok, List.getElem?_cons_zero, List.getElem?_cons_succ, List.length_cons, List.length_nil, List.set_cons_zero, List.set_cons_succ, Nat.reduceAdd, Nat.reduceDiv, Nat.reduceMod, Nat.reduceMul, Nat.reduceLT, Nat.reduceLeDiff, Int32.reduceOfInt, Int64.reduceOfInt, true_and, and_true, and_self, true_or, or_true, false_implies, true_implies, not_false_eq_true, not_true_eq_false, Value.category, Nat.reduceEqDiff, Option.toList, List.cons_append, List.nil_append, List.drop_succ_cons, List.drop_zero, ax_qq_eq, ax_t_1512]
      refine ⟨fun h6 => ?_, fun h6 => ?_⟩
      · have fin := fin false (by rw [hr, decide_eq_false (kx_lt_nle h6), Bool.and_false])
        simp only [ax_W_cons, ax_I, ax_cmp, ax_ii, ax_ll, ax_li, ax_st1, ax_st2, ax_kl, ax_k2, ax_fit, ax_rtok, List.getElem?_cons_zero, List.getElem?_cons_succ, List.length_cons, List.length_nil, List.set_cons_zero, List.set_cons_succ, Nat.reduceAdd, Nat.reduceDiv, Nat.reduceMod, Nat.reduceMul, Nat.reduceLT, Nat.reduceLeDiff, Int32.reduceOfInt, Int64.reduceOfInt, true_and, and_true, and_self, true_or, or_true, false_implies, true_implies, not_false_eq_true, not_true_eq_false, Value.category, Nat.reduceEqDiff, Option.toList, List.cons_append, List.nil_append, List.drop_succ_cons, List.drop_zero, ax_qq_eq, ax_t_1512, ax_j_1512_129, ax_n_1512_129]
        rw [ax_n_1512_130]
        exact fin
      · rw [kx_nlt] at h6
        have fin := fin true (by rw [hr, decide_eq_true h5, decide_eq_true h6]; rfl)
        rw [ax_j_1512_130]
        exact fin
theorem mp_thrown (hal : ax_al n = 178) {t : Int32} (h : mThr es t) (hQ : Q (some (.int t)) es) : ax_Mt d 1408 [.ref 159] n sl es Q := by
  obtain ⟨tp, sz, at0, fl, cd, nm, rm, on, fh, un, g, h0⟩ := h
  refine ax_Mt_go (m := ax_m_11_0) (ls := [some (.ref 159)]) rfl ax_b_1408_0 (Nat.le_of_ble_eq_true rfl) rfl ?_
  simp only [ax_W_cons, ax_I, ax_cmp, ax_ii, ax_ll, ax_li, ax_st1, ax_st2, ax_kl, ax_k2, ax_fit, ax_rtok, List.getElem?_cons_zero, List.getElem?_cons_succ, List.length_cons, List.length_nil, List.set_cons_zero, List.set_cons_succ, Nat.reduceAdd, Nat.reduceDiv, Nat.reduceMod, Nat.reduceMul, Nat.reduceLT, Nat.reduceLeDiff, Int32.reduceOfInt, Int64.reduceOfInt, true_and, and_true, and_self, true_or, or_true, false_implies, true_implies, not_false_eq_true, not_true_eq_false, Value.category, Nat.reduceEqDiff, Option.toList, List.cons_append, List.nil_append, List.drop_succ_cons, List.drop_zero, ax_qq_eq, ax_t_1408, h0, mo_f, hal]
  exact hQ
end MM
