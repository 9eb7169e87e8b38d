/-! the reference: tries -/
def zq_nudge (F1 : Int32 → Int32 → Int32 → Int32 → Int32) (k : Nat) (cr : Int32) (hs : Nat → Int32) (hc T : Nat) (sh : Nat → Int32) (c b x what : Int32) : Int32 := if kx_op k cr c = true ∧ kx_in b 0 12 = true ∧ kx_in x 1 99 = true ∧ kx_in what 0 1 = true then kx_nud (kx_find2 k (fun f w => !kx_ck cr (nI w) && decide (x ≤ kx_dr F1 k cr hs hc T (kx_push sh (nI w) (nI f)) b.toNatClampNeg c.toNatClampNeg)) 20 1) what else -1
def zq_guard (F1 F2 : Int32 → Int32 → Int32 → Int32 → Int32) (k p : Nat) (kd ht : Nat → Int32) (cr : Int32) (hs : Nat → Int32) (hc T : Nat) (sh pl dn : Nat → Int32) (i : Int32) : Int32 := if kx_cell p i = true then (kx_bfk (fun w => !kx_ck cr (nI w)) (fun w => kx_pdn (kx_dd F1 F2 k kd ht (kx_crack cr (nI w)) hs hc T (upd sh w 0) pl) p dn 20 i.toNatClampNeg) k).1 else -1
def zq_post (F1 F2 : Int32 → Int32 → Int32 → Int32 → Int32) (k p : Nat) (kd ht : Nat → Int32) (cr : Int32) (hs : Nat → Int32) (hc T : Nat) (sh pl dn : Nat → Int32) (i : Int32) : Int32 := if kx_cell p i = true then (kx_bp (fun w => kx_pdn (kx_dd F1 F2 k kd ht cr hs hc T sh (upd pl i.toNatClampNeg (nI w))) p dn 20 i.toNatClampNeg) k).1 else -1
def zq_reach (F1 : Int32 → Int32 → Int32 → Int32 → Int32) (k : Nat) (cr : Int32) (hs : Nat → Int32) (hc T : Nat) (sh : Nat → Int32) (c o : Int32) : Int32 := if kx_op k cr c = true ∧ kx_op k cr o = true then kx_fst (fun m => !decide (kx_dr F1 k cr hs hc T (kx_push sh o (nI 20)) m c.toNatClampNeg = kx_dr F1 k cr hs hc T sh m c.toNatClampNeg)) 21 0 else -1
theorem mx_n1 {c : Nat} (hc : c < 2 ^ 31) : ¬ nI c = -1 := fun z => by
  have := congrArg Int32.toInt z
  rw [nI_toInt hc] at this
  have e : (-1 : Int32).toInt = -1 := rfl
  omega
theorem mx_n1lt {c : Nat} (hc : c < 2 ^ 31) : -1 < nI c := by
  rw [Int32.lt_iff_toInt_lt, nI_toInt hc]
  have e : (-1 : Int32).toInt = -1 := rfl
  omega
section MM
variable {d n sl k p hc : Nat} {es : ax_H} {kd pm ht hs : Nat → Int32} {F1 F2 : Int32 → Int32 → Int32 → Int32 → Int32} {st : Nat → Int32} {b T C : Nat} {sh pl dn : Nat → Int32} {Q : Option Value → ax_H → Prop}
theorem mK_F2 (hK : mK es k p hc kd pm ht hs F1 F2) : ∀ x0 x1 x2 x3, ∃ v, v ≤ 99 ∧ F2 x0 x1 x2 x3 = nI v := by
  obtain ⟨-, ct, op, ar, -, -, -, -, -, hL⟩ := hK
  have key : ∀ y : Int32, ∃ v, v ≤ 99 ∧ kx_max 0 (kx_min 99 y) = nI v := fun y => by
    have := kl_val_in (1, fun _ => y)
    exact this
  intro x0 x1 x2 x3
  rcases hL with ⟨-, h⟩ | ⟨a, -, len, -, -, -, h⟩
  · rw [h]
    exact key x0
  · have := h (fun j => if j = 0 then x0 else if j = 1 then x1 else if j = 2 then x2 else x3) (fun _ => 0)
    have this : _ = F2 x0 x1 x2 x3 := this
    rw [← this]
    exact key _
theorem kx_deed_in (hF2 : ∀ x0 x1 x2 x3, ∃ v, v ≤ 99 ∧ F2 x0 x1 x2 x3 = nI v) (h t : Int32) (i : Nat) : ∃ v, v ≤ 198 ∧ kx_deed F2 k kd ht h t sh pl i = nI v := by
  unfold kx_deed
  dsimp only
  obtain ⟨a, ha, ea⟩ := hF2 (sh (pl i).toNatClampNeg) h t (ht i)
  obtain ⟨b, hb, eb⟩ := hF2 (sh (kx_nx k (pl i).toNatClampNeg)) h t (ht i)
  rw [ea, eb]
  by_cases h1 : kd i = 15 ∧ 20 < sh (pl i).toNatClampNeg
  · rw [if_pos h1]
    exact ⟨0, by omega, rfl⟩
  · rw [if_neg h1]
    by_cases h2 : kd i = 14
    · have h3 : ¬ (kd i = 16 ∧ 0 < sh (pl i).toNatClampNeg) := fun z => by rw [h2] at z; exact absurd z.1 (by decide)
      rw [if_neg h3, if_pos h2, kn_add]
      exact ⟨a + b, by omega, rfl⟩
    · rw [if_neg h2]
      split
      · exact ⟨a + 1, by omega, (nI_succ a).symm⟩
      · exact ⟨a, by omega, rfl⟩
theorem zdn_dns {D : Nat → Int32} (h : zdn p T dn) (hD : ∀ i, ∃ v, v ≤ 198 ∧ D i = nI v) : zdn p (T + 1) (kx_dns D dn p) := by
  intro i hi
  obtain ⟨a, ha, ea⟩ := h i hi
  obtain ⟨b, hb, eb⟩ := hD i
  refine ⟨a + b, by omega, ?_⟩
  unfold kx_dns
  rw [if_pos hi, ea, eb, kn_add]
theorem zdn_pdn (hF2 : ∀ x0 x1 x2 x3, ∃ v, v ≤ 99 ∧ F2 x0 x1 x2 x3 = nI v) {cr : Int32} (h : zdn p T dn) : ∀ m, zdn p (T + m) (kx_pdn (kx_dd F1 F2 k kd ht cr hs hc b sh pl) p dn m)
  | 0 => h
  | m + 1 => zdn_dns (zdn_pdn hF2 h m) (fun i => kx_deed_in hF2 _ _ i)
theorem kx_sum_pdn (D : Nat → Nat → Int32) : ∀ m, kx_sum (kx_pdn D p dn m) p = kx_sum dn p + kx_all D p m
  | 0 => by
    show kx_sum dn p = kx_sum dn p + 0
    rw [Int32.add_zero]
  | m + 1 => by
    have key : ∀ (f g : Nat → Int32) j, j ≤ p → kx_sum (kx_dns g f p) j = kx_sum f j + kx_sum g j := by
      intro f g j
      induction j with
      | zero =>
        intro _
        show (0 : Int32) = 0 + 0
        rfl
      | succ j ih =>
        intro hj
        rw [kx_sum, kx_sum, kx_sum, ih (by omega)]
        unfold kx_dns
        rw [if_pos (by omega)]
        simp only [Int32.add_assoc]
        rw [← Int32.add_assoc (kx_sum g j) (f j) (g j), Int32.add_comm (kx_sum g j) (f j), Int32.add_assoc]
    rw [kx_pdn, key _ _ p (Nat.le_refl _), kx_sum_pdn D m, kx_all, Int32.add_assoc]
theorem kx_sum_in {f : Nat → Int32} {B : Nat} (hf : ∀ i, i < p → ∃ v, v ≤ B ∧ f i = nI v) : ∀ m, m ≤ p → ∃ v, v ≤ B * m ∧ kx_sum f m = nI v
  | 0, _ => ⟨0, by omega, rfl⟩
  | m + 1, hm => by
    obtain ⟨a, ha, ea⟩ := kx_sum_in hf m (by omega)
    obtain ⟨b, hb, eb⟩ := hf m (by omega)
    refine ⟨a + b, by rw [Nat.mul_add]; omega, ?_⟩
    rw [kx_sum, ea, eb, kn_add]
theorem kx_all_in (hF2 : ∀ x0 x1 x2 x3, ∃ v, v ≤ 99 ∧ F2 x0 x1 x2 x3 = nI v) {cr : Int32} (hp : p ≤ 6) : ∀ m, ∃ v, v ≤ 1200 * m ∧ kx_all (kx_dd F1 F2 k kd ht cr hs hc b sh pl) p m = nI v
  | 0 => ⟨0, by omega, rfl⟩
  | m + 1 => by
    obtain ⟨a, ha, ea⟩ := kx_all_in hF2 hp m
    obtain ⟨v, hv, ev⟩ := kx_sum_in (p := p) (f := kx_dd F1 F2 k kd ht cr hs hc b sh pl m) (B := 198) (fun i _ => kx_deed_in hF2 _ _ i) p (Nat.le_refl _)
    have : 198 * p ≤ 198 * 6 := Nat.mul_le_mul_left _ hp
    exact ⟨a + v, by omega, by rw [kx_all, ea, ev, kn_add]⟩
/-- one being touched now -/
theorem mk_shakesBy (E : mE es n k p hc kd pm ht hs F1 F2) (S : mS es st 0 k p T C sh pl dn) (hT : T < 1000) {w f c m : Nat} (hw : w < k) (hB : C.testBit w = false) (hf : f ≤ 20) (hc2 : c < k) (hm : m ≤ 100) (hQ : ∀ es' st', mfr es es' → mfq st st' → mS es' st' 1092 k p (T + m) C (kx_dr F1 k (nI C) hs hc T (kx_push sh (nI w) (nI f)) m) pl (kx_pdn (kx_dd F1 F2 k kd ht (nI C) hs hc T (kx_push sh (nI w) (nI f)) pl) p dn m) → Q (some (.int (kx_dr F1 k (nI C) hs hc T (kx_push sh (nI w) (nI f)) m c))) es') : ax_Mt (d + 7) 1489 [.ref 159, .int (nI w), .int (nI f), .int (nI c), .int (nI m)] n sl es Q := by
  obtain ⟨hal, hk, hp, hhs, hF, hK⟩ := id E
  obtain ⟨e1, v1, e2⟩ := mx_1094 (c := c) (by omega)
  refine ax_Mt_go (m := ax_m_11_81) (ls := [some (.ref 159), some (.int (nI w)), some (.int (nI f)), some (.int (nI c)), some (.int (nI m))]) rfl ax_b_1489_0 (Nat.le_of_ble_eq_true rfl) rfl ?_
  simp only [ax_W_cons, ax_I, ax_cmp, ax_ii, ax_ll, ax_li, ax_st1, ax_st2, ax_kl, ax_k2, ax_fit, ax_rtok, List.getElem?_cons_zero, List.getElem?_cons_succ, List.length_cons, List.length_nil, List.set_cons_zero, List.set_cons_succ, Nat.reduceAdd, Nat.reduceDiv, Nat.reduceMod, Nat.reduceMul, Nat.reduceLT, Nat.reduceLeDiff, Int32.reduceOfInt, Int64.reduceOfInt, true_and, and_true, and_self, true_or, or_true, false_implies, true_implies, not_false_eq_true, not_true_eq_false, Value.category, Nat.reduceEqDiff, Option.toList, List.cons_append, List.nil_append, List.drop_succ_cons, List.drop_zero, ax_qq_eq, ax_t_1489]
  refine ax_inv_of (Nat.le_of_ble_eq_true rfl) (Nat.le_of_ble_eq_true rfl) (fun _ => mE_rcv E _) (fun h => absurd h (by decide)) (Nat.le_refl _) (Nat.le_refl _) (mk_tries E S ?_)
  intro es1 st1 f1 f2 f3 f4
  have E1 := mE_fr E f1
  simp only [ax_W_cons, ax_I, ax_cmp, ax_ii, ax_ll, ax_li, ax_st1, ax_st2, ax_kl, ax_k2, ax_fit, ax_rtok, List.getElem?_cons_zero, List.getElem?_cons_succ, List.length_cons, List.length_nil, List.set_cons_zero, List.set_cons_succ, Nat.reduceAdd, Nat.reduceDiv, Nat.reduceMod, Nat.reduceMul, Nat.reduceLT, Nat.reduceLeDiff, Int32.reduceOfInt, Int64.reduceOfInt, true_and, and_true, and_self, true_or, or_true, false_implies, true_implies, not_false_eq_true, not_true_eq_false, Value.category, Nat.reduceEqDiff, Option.toList, List.cons_append, List.nil_append, List.drop_succ_cons, List.drop_zero, ax_qq_eq, ax_t_1489]
  refine ax_inv_of (Nat.le_of_ble_eq_true rfl) (Nat.le_of_ble_eq_true rfl) (fun _ => mE_rcv E1 _) (fun h => absurd h (by decide)) (Nat.le_refl _) (Nat.le_refl _) (mk_touches hal E1.2.2.2.2.2.1 f3.1 hk.2 hp (b := 1092) (by omega) f3.2.1 f3.2.2.1 hw hf ?_)
  intro es2 st2 g1 g2 g3 g4
  have E2 := mE_fr E1 g1
  simp only [ax_W_cons, ax_I, ax_cmp, ax_ii, ax_ll, ax_li, ax_st1, ax_st2, ax_kl, ax_k2, ax_fit, ax_rtok, List.getElem?_cons_zero, List.getElem?_cons_succ, List.length_cons, List.length_nil, List.set_cons_zero, List.set_cons_succ, Nat.reduceAdd, Nat.reduceDiv, Nat.reduceMod, Nat.reduceMul, Nat.reduceLT, Nat.reduceLeDiff, Int32.reduceOfInt, Int64.reduceOfInt, true_and, and_true, and_self, true_or, or_true, false_implies, true_implies, not_false_eq_true, not_true_eq_false, Value.category, Nat.reduceEqDiff, Option.toList, List.cons_append, List.nil_append, List.drop_succ_cons, List.drop_zero, ax_qq_eq, ax_t_1489]
  refine ax_inv_of (Nat.le_of_ble_eq_true rfl) (Nat.le_of_ble_eq_true rfl) (fun _ => mE_rcv E2 _) (fun h => absurd h (by decide)) (Nat.le_refl _) (Nat.le_refl _) (mk_runs E2 ⟨g2, g4, zv_push hk.2 S.2.2 hw hB hf⟩ (m := m) (by omega) ?_)
  intro es3 st3 r1 r2 r3
  obtain ⟨th, tp, sz, at0, fl, cd, nm, rm, on, fh, un, g, w0⟩ := (mE_fr E2 r1).2.2.2.2.2.1
  have y1 := r3.1.1
  have e3 := r3.2.1.2.2.1 c hc2
  simp only [ax_W_cons, ax_I, ax_cmp, ax_ii, ax_ll, ax_li, ax_st1, ax_st2, ax_kl, ax_k2, ax_fit, ax_rtok, List.getElem?_cons_zero, List.getElem?_cons_succ, List.length_cons, List.length_nil, List.set_cons_zero, List.set_cons_succ, Nat.reduceAdd, Nat.reduceDiv, Nat.reduceMod, Nat.reduceMul, Nat.reduceLT, Nat.reduceLeDiff, Int32.reduceOfInt, Int64.reduceOfInt, true_and, and_true, and_self, true_or, or_true, false_implies, true_implies, not_false_eq_true, not_true_eq_false, Value.category, Nat.reduceEqDiff, Option.toList, List.cons_append, List.nil_append, List.drop_succ_cons, List.drop_zero, ax_qq_eq, ax_t_1489, w0, y1, mo_f, hal, e1, v1, e2, e3]
  exact hQ _ st3 (mfr_trans (mfr_trans f1 g1) r1) (mfq_trans (mfs_q (by omega) f2) (mfq_trans (mfs_q (by omega) g3) (mfs_q (by omega) r2))) r3
theorem mx_op (hk : k ≤ 12) {w : Nat} (hw : w < k) : kx_op k (nI C) (nI w) = !kx_ck (nI C) (nI w) := by
  unfold kx_op
  rw [kx_cell_nI (by omega) hw, Bool.true_and]
theorem mp_nudge (Z : mZ es n st k p hc kd pm ht hs F1 F2 T C sh pl dn) (c m x what : Int32) (hQ : ∀ es', mq es st es' → Q (some (.int (zq_nudge F1 k (nI C) hs hc T sh c m x what))) es') : ax_Mt (d + 10) 1490 [.ref 159, .int c, .int m, .int x, .int what] n sl es Q := by
  obtain ⟨E, S, hT, hdn, hA⟩ := Z
  obtain ⟨hal, hk, hp, hhs, hF, hK⟩ := id E
  unfold zq_nudge at hQ
  refine ax_Mt_go (m := ax_m_11_82) (ls := [some (.ref 159), some (.int c), some (.int m), some (.int x), some (.int what), none, none]) rfl ax_b_1490_0 (Nat.le_of_ble_eq_true rfl) rfl ?_
  refine mk_thrown hal hK.1 rfl ?_
  intro es0 h0
  have E0 := mE_th E h0
  have S0 := mS_th S h0
  have no : ¬ (kx_op k (nI C) c = true ∧ kx_in m 0 12 = true ∧ kx_in x 1 99 = true ∧ kx_in what 0 1 = true) → ax_J ax_W (d + 10) n sl 1490 44 [some (.ref 159), some (.int c), some (.int m), some (.int x), some (.int what), none, none] [] n sl es0 (ax_qq n sl Q) := by
    intro h
    rw [if_neg h] at hQ
    simp only [ax_W_cons, ax_I, ax_cmp, ax_ii, ax_ll, ax_li, ax_st1, ax_st2, ax_kl, ax_k2, ax_fit, ax_rtok, List.getElem?_cons_zero, List.getElem?_cons_succ, List.length_cons, List.length_nil, List.set_cons_zero, List.set_cons_succ, Nat.reduceAdd, Nat.reduceDiv, Nat.reduceMod, Nat.reduceMul, Nat.reduceLT, Nat.reduceLeDiff, Int32.reduceOfInt, Int64.reduceOfInt, true_and, and_true, and_self, true_or, or_true, false_implies, true_implies, not_false_eq_true, not_true_eq_false, Value.category, Nat.reduceEqDiff, Option.toList, List.cons_append, List.nil_append, List.drop_succ_cons, List.drop_zero, ax_qq_eq, ax_t_1490, ax_j_1490_44, ax_n_1490_44]
    exact hQ _ (mq_of h0 (mfr_rf _) S0.1 (mfq_rf _) hA)
  simp only [ax_W_cons, ax_I, ax_cmp, ax_ii, ax_ll, ax_li, ax_st1, ax_st2, ax_kl, ax_k2, ax_fit, ax_rtok, List.getElem?_cons_zero, List.getElem?_cons_succ, List.length_cons, List.length_nil, List.set_cons_zero, List.set_cons_succ, Nat.reduceAdd, Nat.reduceDiv, Nat.reduceMod, Nat.reduceMul, Nat.reduceLT, Nat.reduceLeDiff, Int32.reduceOfInt, Int64.reduceOfInt, true_and, and_true, and_self, true_or, or_true, false_implies, true_implies, not_false_eq_true, not_true_eq_false, Value.category, Nat.reduceEqDiff, Option.toList, List.cons_append, List.nil_append, List.drop_succ_cons, List.drop_zero, ax_qq_eq, ax_t_1490]
  refine ax_inv_of (Nat.le_of_ble_eq_true rfl) (Nat.le_of_ble_eq_true rfl) (fun _ => mE_rcv E0 _) (fun h => absurd h (by decide)) (Nat.le_refl _) (Nat.le_refl _) (mk_whole E0 S0 (b := 0) (by omega) c ?_)
  simp only [ax_W_cons, ax_I, ax_cmp, ax_ii, ax_ll, ax_li, ax_st1, ax_st2, ax_kl, ax_k2, ax_fit, ax_rtok, List.getElem?_cons_zero, List.getElem?_cons_succ, List.length_cons, List.length_nil, List.set_cons_zero, List.set_cons_succ, Nat.reduceAdd, Nat.reduceDiv, Nat.reduceMod, Nat.reduceMul, Nat.reduceLT, Nat.reduceLeDiff, Int32.reduceOfInt, Int64.reduceOfInt, true_and, and_true, and_self, true_or, or_true, false_implies, true_implies, not_false_eq_true, not_true_eq_false, Value.category, Nat.reduceEqDiff, Option.toList, List.cons_append, List.nil_append, List.drop_succ_cons, List.drop_zero, ax_qq_eq, ax_t_1490, kx_b0]
  refine ⟨fun h => no (fun z => by rw [h] at z; exact absurd z.1 (by decide)), fun h => ?_⟩
  refine ax_inv_of (Nat.le_of_ble_eq_true rfl) (Nat.le_of_ble_eq_true rfl) (fun _ => absurd ‹_› (by decide)) (fun h => absurd h (by decide)) (Nat.le_refl _) (Nat.le_refl _) (mk_within _ _ _ ?_)
  simp only [ax_W_cons, ax_I, ax_cmp, ax_ii, ax_ll, ax_li, ax_st1, ax_st2, ax_kl, ax_k2, ax_fit, ax_rtok, List.getElem?_cons_zero, List.getElem?_cons_succ, List.length_cons, List.length_nil, List.set_cons_zero, List.set_cons_succ, Nat.reduceAdd, Nat.reduceDiv, Nat.reduceMod, Nat.reduceMul, Nat.reduceLT, Nat.reduceLeDiff, Int32.reduceOfInt, Int64.reduceOfInt, true_and, and_true, and_self, true_or, or_true, false_implies, true_implies, not_false_eq_true, not_true_eq_false, Value.category, Nat.reduceEqDiff, Option.toList, List.cons_append, List.nil_append, List.drop_succ_cons, List.drop_zero, ax_qq_eq, ax_t_1490, kx_b0]
  refine ⟨fun h2 => no (fun z => by rw [h2] at z; exact absurd z.2.1 (by decide)), fun h2 => ?_⟩
  refine ax_inv_of (Nat.le_of_ble_eq_true rfl) (Nat.le_of_ble_eq_true rfl) (fun _ => absurd ‹_› (by decide)) (fun h => absurd h (by decide)) (Nat.le_refl _) (Nat.le_refl _) (mk_within _ _ _ ?_)
  simp only [ax_W_cons, ax_I, ax_cmp, ax_ii, ax_ll, ax_li, ax_st1, ax_st2, ax_kl, ax_k2, ax_fit, ax_rtok, List.getElem?_cons_zero, List.getElem?_cons_succ, List.length_cons, List.length_nil, List.set_cons_zero, List.set_cons_succ, Nat.reduceAdd, Nat.reduceDiv, Nat.reduceMod, Nat.reduceMul, Nat.reduceLT, Nat.reduceLeDiff, Int32.reduceOfInt, Int64.reduceOfInt, true_and, and_true, and_self, true_or, or_true, false_implies, true_implies, not_false_eq_true, not_true_eq_false, Value.category, Nat.reduceEqDiff, Option.toList, List.cons_append, List.nil_append, List.drop_succ_cons, List.drop_zero, ax_qq_eq, ax_t_1490, kx_b0]
  refine ⟨fun h3 => no (fun z => by rw [h3] at z; exact absurd z.2.2.1 (by decide)), fun h3 => ?_⟩
  refine ax_inv_of (Nat.le_of_ble_eq_true rfl) (Nat.le_of_ble_eq_true rfl) (fun _ => absurd ‹_› (by decide)) (fun h => absurd h (by decide)) (Nat.le_refl _) (Nat.le_refl _) (mk_within _ _ _ ?_)
  simp only [ax_W_cons, ax_I, ax_cmp, ax_ii, ax_ll, ax_li, ax_st1, ax_st2, ax_kl, ax_k2, ax_fit, ax_rtok, List.getElem?_cons_zero, List.getElem?_cons_succ, List.length_cons, List.length_nil, List.set_cons_zero, List.set_cons_succ, Nat.reduceAdd, Nat.reduceDiv, Nat.reduceMod, Nat.reduceMul, Nat.reduceLT, Nat.reduceLeDiff, Int32.reduceOfInt, Int64.reduceOfInt, true_and, and_true, and_self, true_or, or_true, false_implies, true_implies, not_false_eq_true, not_true_eq_false, Value.category, Nat.reduceEqDiff, Option.toList, List.cons_append, List.nil_append, List.drop_succ_cons, List.drop_zero, ax_qq_eq, ax_t_1490, kx_b0]
  refine ⟨fun h4 => ?_, fun h4 => ?_⟩
  · have h : kx_op k (nI C) c = true := by simpa using h
    have h2 : kx_in m 0 12 = true := by simpa using h2
    have h3 : kx_in x 1 99 = true := by simpa using h3
    have h4 : kx_in what 0 1 = true := by simpa using h4
    rw [if_pos ⟨h, h2, h3, h4⟩] at hQ
    obtain ⟨c', hc', rfl, hB⟩ := kx_op_nI hk.2 h
    obtain ⟨m', -, hm', rfl⟩ := kx_in_nI (a := 0) (b := 12) (by decide) (by decide) h2
    rw [nI_clamp (by omega), nI_clamp (by omega)] at hQ
    generalize hP : (fun (f w : Nat) => !kx_ck (nI C) (nI w) && decide (x ≤ kx_dr F1 k (nI C) hs hc T (kx_push sh (nI w) (nI f)) m' c')) = P at hQ
    have hP : ∀ f w, P f w = (!kx_ck (nI C) (nI w) && decide (x ≤ kx_dr F1 k (nI C) hs hc T (kx_push sh (nI w) (nI f)) m' c')) := fun f w => by rw [← hP]
    simp only [ax_W_cons, ax_I, ax_cmp, ax_ii, ax_ll, ax_li, ax_st1, ax_st2, ax_kl, ax_k2, ax_fit, ax_rtok, List.getElem?_cons_zero, List.getElem?_cons_succ, List.length_cons, List.length_nil, List.set_cons_zero, List.set_cons_succ, Nat.reduceAdd, Nat.reduceDiv, Nat.reduceMod, Nat.reduceMul, Nat.reduceLT, Nat.reduceLeDiff, Int32.reduceOfInt, Int64.reduceOfInt, true_and, and_true, and_self, true_or, or_true, false_implies, true_implies, not_false_eq_true, not_true_eq_false, Value.category, Nat.reduceEqDiff, Option.toList, List.cons_append, List.nil_append, List.drop_succ_cons, List.drop_zero, ax_qq_eq, ax_t_1490, ax_j_1490_46, ax_n_1490_46]
    rw [ax_n_1490_49]
    have L := kx_down (k := 21) (I := fun g f => (∀ es', mq es st es' → Q (some (.int (kx_nud (kx_find2 k P g f) what))) es') → ∀ v6 es1 st1, mfr es0 es1 → mfq st st1 → mX es1 st1 → 1 ≤ f → ax_W (d + 10) n sl 1490 [(2, .iload 5), (2, .iconst 20), (3, .if_icmp .gt 117), (1, .iconst 0), (2, .istore 6)] 49 [some (.ref 159), some (.int (nI c')), some (.int (nI m')), some (.int x), some (.int what), some (.int (nI f)), v6] [] n sl es1 (ax_qq n sl Q)) ?_ ?_ 20 1 rfl
    · exact L hQ none es0 st (mfr_rf _) (mfq_rf _) S0.1 (by omega)
    · intro hQ v6 es1 st1 i1 i2 i3 _
      have e9 : (20 : Int32) < nI 21 := by decide
      simp only [ax_W_cons, ax_I, ax_cmp, ax_ii, ax_ll, ax_li, ax_st1, ax_st2, ax_kl, ax_k2, ax_fit, ax_rtok, List.getElem?_cons_zero, List.getElem?_cons_succ, List.length_cons, List.length_nil, List.set_cons_zero, List.set_cons_succ, Nat.reduceAdd, Nat.reduceDiv, Nat.reduceMod, Nat.reduceMul, Nat.reduceLT, Nat.reduceLeDiff, Int32.reduceOfInt, Int64.reduceOfInt, true_and, and_true, and_self, true_or, or_true, false_implies, true_implies, not_false_eq_true, not_true_eq_false, Value.category, Nat.reduceEqDiff, Option.toList, List.cons_append, List.nil_append, List.drop_succ_cons, List.drop_zero, ax_qq_eq, ax_t_1490, ax_j_1490_117, ax_n_1490_117, e9]
      exact hQ _ (mq_of h0 i1 i3 i2 hA)
    · intro g f hf ih hQ v6 es1 st1 i1 i2 i3 hf1
      have e9 : ¬ (20 : Int32) < nI f := nI_nlt (a := 20) (by omega) (by decide)
      have f4 : nI f + 1 = nI (f + 1) := (nI_succ f).symm
      rw [kx_find2] at hQ
      simp only [ax_W_cons, ax_I, ax_cmp, ax_ii, ax_ll, ax_li, ax_st1, ax_st2, ax_kl, ax_k2, ax_fit, ax_rtok, List.getElem?_cons_zero, List.getElem?_cons_succ, List.length_cons, List.length_nil, List.set_cons_zero, List.set_cons_succ, Nat.reduceAdd, Nat.reduceDiv, Nat.reduceMod, Nat.reduceMul, Nat.reduceLT, Nat.reduceLeDiff, Int32.reduceOfInt, Int64.reduceOfInt, true_and, and_true, and_self, true_or, or_true, false_implies, true_implies, not_false_eq_true, not_true_eq_false, Value.category, Nat.reduceEqDiff, Option.toList, List.cons_append, List.nil_append, List.drop_succ_cons, List.drop_zero, ax_qq_eq, ax_t_1490, e9]
      rw [ax_n_1490_59]
      have L2 := kx_down (k := k) (I := fun u w => (∀ es', mq es st es' → Q (some (.int (kx_nud (match kx_find (P f) u w with
        | some w => some (f, w)
        | none => kx_find2 k P g (f + 1)) what))) es') → ∀ es1 st1, mfr es0 es1 → mfq st st1 → mX es1 st1 → ax_W (d + 10) n sl 1490 [(2, .iload 6), (1, .aload 0), (3, .invokeinterface 1450 5), (3, .if_icmp .ge 111), (1, .aload 0), (1, .iconst 0), (2, .iload 6), (3, .invokeinterface 1456 13), (3, .ifCond .eq 105), (1, .aload 0), (2, .iload 6), (2, .iload 5), (1, .iload 1), (1, .iload 2), (3, .invokeinterface 1489 21), (1, .iload 3), (3, .if_icmp .lt 105), (2, .iload 4), (3, .ifCond .ne 102), (2, .iload 5), (3, .goto 104)] 59 [some (.ref 159), some (.int (nI c')), some (.int (nI m')), some (.int x), some (.int what), some (.int (nI f)), some (.int (nI w))] [] n sl es1 (ax_qq n sl Q)) ?_ ?_ k 0 (by omega)
      · exact L2 hQ es1 st1 i1 i2 i3
      · intro hQ es1 st1 i1 i2 i3
        have e0 := kx_nn (k := k) (by omega)
        have E1 := mE_fr E0 i1
        simp only [ax_W_cons, ax_I, ax_cmp, ax_ii, ax_ll, ax_li, ax_st1, ax_st2, ax_kl, ax_k2, ax_fit, ax_rtok, List.getElem?_cons_zero, List.getElem?_cons_succ, List.length_cons, List.length_nil, List.set_cons_zero, List.set_cons_succ, Nat.reduceAdd, Nat.reduceDiv, Nat.reduceMod, Nat.reduceMul, Nat.reduceLT, Nat.reduceLeDiff, Int32.reduceOfInt, Int64.reduceOfInt, true_and, and_true, and_self, true_or, or_true, false_implies, true_implies, not_false_eq_true, not_true_eq_false, Value.category, Nat.reduceEqDiff, Option.toList, List.cons_append, List.nil_append, List.drop_succ_cons, List.drop_zero, ax_qq_eq, ax_t_1490]
        refine ax_inv_of (Nat.le_of_ble_eq_true rfl) (Nat.le_of_ble_eq_true rfl) (fun _ => mE_rcv E1 _) (fun h => absurd h (by decide)) (Nat.le_refl _) (Nat.le_refl _) (mk_cells hal E1.2.2.2.2.2 ?_)
        simp only [ax_W_cons, ax_I, ax_cmp, ax_ii, ax_ll, ax_li, ax_st1, ax_st2, ax_kl, ax_k2, ax_fit, ax_rtok, List.getElem?_cons_zero, List.getElem?_cons_succ, List.length_cons, List.length_nil, List.set_cons_zero, List.set_cons_succ, Nat.reduceAdd, Nat.reduceDiv, Nat.reduceMod, Nat.reduceMul, Nat.reduceLT, Nat.reduceLeDiff, Int32.reduceOfInt, Int64.reduceOfInt, true_and, and_true, and_self, true_or, or_true, false_implies, true_implies, not_false_eq_true, not_true_eq_false, Value.category, Nat.reduceEqDiff, Option.toList, List.cons_append, List.nil_append, List.drop_succ_cons, List.drop_zero, ax_qq_eq, ax_t_1490, ax_j_1490_111, ax_n_1490_111, e0, f4]
        rw [ax_j_1490_49]
        exact ih hQ _ es1 st1 i1 i2 i3 (by omega)
      · intro u w hw ih2 hQ es1 st1 i1 i2 i3
        obtain ⟨q1, -, -, q4⟩ := kx_ix (c := w) (k := k) (by omega) hk.2 (by decide)
        have E1 := mE_fr E0 i1
        have S1 := mS_q E S i2 i3
        rw [kx_find] at hQ
        have nx : P f w = false → ∀ es1 st1, mfr es0 es1 → mfq st st1 → mX es1 st1 → ax_J ax_W (d + 10) n sl 1490 105 [some (.ref 159), some (.int (nI c')), some (.int (nI m')), some (.int x), some (.int what), some (.int (nI f)), some (.int (nI w))] [] n sl es1 (ax_qq n sl Q) := by
          intro hz es1 st1 i1 i2 i3
          rw [if_neg (by rw [hz]; decide)] at hQ
          simp only [ax_W_cons, ax_I, ax_cmp, ax_ii, ax_ll, ax_li, ax_st1, ax_st2, ax_kl, ax_k2, ax_fit, ax_rtok, List.getElem?_cons_zero, List.getElem?_cons_succ, List.length_cons, List.length_nil, List.set_cons_zero, List.set_cons_succ, Nat.reduceAdd, Nat.reduceDiv, Nat.reduceMod, Nat.reduceMul, Nat.reduceLT, Nat.reduceLeDiff, Int32.reduceOfInt, Int64.reduceOfInt, true_and, and_true, and_self, true_or, or_true, false_implies, true_implies, not_false_eq_true, not_true_eq_false, Value.category, Nat.reduceEqDiff, Option.toList, List.cons_append, List.nil_append, List.drop_succ_cons, List.drop_zero, ax_qq_eq, ax_t_1490, ax_j_1490_105, ax_n_1490_105, q4]
          rw [ax_j_1490_59]
          exact ih2 hQ es1 st1 i1 i2 i3
        simp only [ax_W_cons, ax_I, ax_cmp, ax_ii, ax_ll, ax_li, ax_st1, ax_st2, ax_kl, ax_k2, ax_fit, ax_rtok, List.getElem?_cons_zero, List.getElem?_cons_succ, List.length_cons, List.length_nil, List.set_cons_zero, List.set_cons_succ, Nat.reduceAdd, Nat.reduceDiv, Nat.reduceMod, Nat.reduceMul, Nat.reduceLT, Nat.reduceLeDiff, Int32.reduceOfInt, Int64.reduceOfInt, true_and, and_true, and_self, true_or, or_true, false_implies, true_implies, not_false_eq_true, not_true_eq_false, Value.category, Nat.reduceEqDiff, Option.toList, List.cons_append, List.nil_append, List.drop_succ_cons, List.drop_zero, ax_qq_eq, ax_t_1490]
        refine ax_inv_of (Nat.le_of_ble_eq_true rfl) (Nat.le_of_ble_eq_true rfl) (fun _ => mE_rcv E1 _) (fun h => absurd h (by decide)) (Nat.le_refl _) (Nat.le_refl _) (mk_cells hal E1.2.2.2.2.2 ?_)
        simp only [ax_W_cons, ax_I, ax_cmp, ax_ii, ax_ll, ax_li, ax_st1, ax_st2, ax_kl, ax_k2, ax_fit, ax_rtok, List.getElem?_cons_zero, List.getElem?_cons_succ, List.length_cons, List.length_nil, List.set_cons_zero, List.set_cons_succ, Nat.reduceAdd, Nat.reduceDiv, Nat.reduceMod, Nat.reduceMul, Nat.reduceLT, Nat.reduceLeDiff, Int32.reduceOfInt, Int64.reduceOfInt, true_and, and_true, and_self, true_or, or_true, false_implies, true_implies, not_false_eq_true, not_true_eq_false, Value.category, Nat.reduceEqDiff, Option.toList, List.cons_append, List.nil_append, List.drop_succ_cons, List.drop_zero, ax_qq_eq, ax_t_1490, q1]
        refine ax_inv_of (Nat.le_of_ble_eq_true rfl) (Nat.le_of_ble_eq_true rfl) (fun _ => mE_rcv E1 _) (fun h => absurd h (by decide)) (Nat.le_refl _) (Nat.le_refl _) (mk_whole E1 S1 (b := 0) (by omega) (nI w) ?_)
        rw [mx_op hk.2 (by omega)]
        simp only [ax_W_cons, ax_I, ax_cmp, ax_ii, ax_ll, ax_li, ax_st1, ax_st2, ax_kl, ax_k2, ax_fit, ax_rtok, List.getElem?_cons_zero, List.getElem?_cons_succ, List.length_cons, List.length_nil, List.set_cons_zero, List.set_cons_succ, Nat.reduceAdd, Nat.reduceDiv, Nat.reduceMod, Nat.reduceMul, Nat.reduceLT, Nat.reduceLeDiff, Int32.reduceOfInt, Int64.reduceOfInt, true_and, and_true, and_self, true_or, or_true, false_implies, true_implies, not_false_eq_true, not_true_eq_false, Value.category, Nat.reduceEqDiff, Option.toList, List.cons_append, List.nil_append, List.drop_succ_cons, List.drop_zero, ax_qq_eq, ax_t_1490, kx_b0]
        refine ⟨fun hw0 => nx (by rw [hP, hw0]; rfl) es1 st1 i1 i2 i3, fun hw0 => ?_⟩
        have hw1 : (!kx_ck (nI C) (nI w)) = true := by simpa using hw0
        have hwB : C.testBit w = false := by rw [← kc_ck (C := C) (i := w) (by omega)]; simpa using hw1
        refine ax_inv_of (Nat.le_of_ble_eq_true rfl) (Nat.le_of_ble_eq_true rfl) (fun _ => mE_rcv E1 _) (fun h => absurd h (by decide)) (Nat.le_refl _) (Nat.le_refl _) (mk_shakesBy E1 S1 hT (w := w) (by omega) hwB (by omega) hc' (m := m') (by omega) ?_)
        intro es2 st2 r1 r2 r3
        simp only [ax_W_cons, ax_I, ax_cmp, ax_ii, ax_ll, ax_li, ax_st1, ax_st2, ax_kl, ax_k2, ax_fit, ax_rtok, List.getElem?_cons_zero, List.getElem?_cons_succ, List.length_cons, List.length_nil, List.set_cons_zero, List.set_cons_succ, Nat.reduceAdd, Nat.reduceDiv, Nat.reduceMod, Nat.reduceMul, Nat.reduceLT, Nat.reduceLeDiff, Int32.reduceOfInt, Int64.reduceOfInt, true_and, and_true, and_self, true_or, or_true, false_implies, true_implies, not_false_eq_true, not_true_eq_false, Value.category, Nat.reduceEqDiff, Option.toList, List.cons_append, List.nil_append, List.drop_succ_cons, List.drop_zero, ax_qq_eq, ax_t_1490]
        refine ⟨fun hlt => nx (by rw [hP, hw1]; simp [kx_lt_nle hlt]) es2 st2 (mfr_trans i1 r1) (mfq_trans i2 r2) r3.1, fun hlt => ?_⟩
        rw [kx_nlt] at hlt
        rw [if_pos (by rw [hP, hw1]; simp [hlt])] at hQ
        have hQ := hQ _ (mq_of h0 (mfr_trans i1 r1) r3.1 (mfq_trans i2 r2) hA)
        unfold kx_nud at hQ
        dsimp only at hQ
        refine ⟨fun h5 => ?_, fun h5 => ?_⟩
        · rw [if_neg h5] at hQ
          simp only [ax_W_cons, ax_I, ax_cmp, ax_ii, ax_ll, ax_li, ax_st1, ax_st2, ax_kl, ax_k2, ax_fit, ax_rtok, List.getElem?_cons_zero, List.getElem?_cons_succ, List.length_cons, List.length_nil, List.set_cons_zero, List.set_cons_succ, Nat.reduceAdd, Nat.reduceDiv, Nat.reduceMod, Nat.reduceMul, Nat.reduceLT, Nat.reduceLeDiff, Int32.reduceOfInt, Int64.reduceOfInt, true_and, and_true, and_self, true_or, or_true, false_implies, true_implies, not_false_eq_true, not_true_eq_false, Value.category, Nat.reduceEqDiff, Option.toList, List.cons_append, List.nil_append, List.drop_succ_cons, List.drop_zero, ax_qq_eq, ax_t_1490, ax_j_1490_102, ax_n_1490_102, ax_j_1490_104, ax_n_1490_104]
          exact hQ
        · simp only [Classical.not_not] at h5
          rw [if_pos h5] at hQ
          simp only [ax_W_cons, ax_I, ax_cmp, ax_ii, ax_ll, ax_li, ax_st1, ax_st2, ax_kl, ax_k2, ax_fit, ax_rtok, List.getElem?_cons_zero, List.getElem?_cons_succ, List.length_cons, List.length_nil, List.set_cons_zero, List.set_cons_succ, Nat.reduceAdd, Nat.reduceDiv, Nat.reduceMod, Nat.reduceMul, Nat.reduceLT, Nat.reduceLeDiff, Int32.reduceOfInt, Int64.reduceOfInt, true_and, and_true, and_self, true_or, or_true, false_implies, true_implies, not_false_eq_true, not_true_eq_false, Value.category, Nat.reduceEqDiff, Option.toList, List.cons_append, List.nil_append, List.drop_succ_cons, List.drop_zero, ax_qq_eq, ax_t_1490, ax_j_1490_104, ax_n_1490_104]
          exact hQ
  · have h4 : kx_in what 0 1 = false := by simpa using h4
    have no := no (fun z => by rw [h4] at z; exact absurd z.2.2.2 (by decide))
    rw [ax_n_1490_44, ← ax_j_1490_44]
    exact no
theorem mp_guard (Z : mZ es n st k p hc kd pm ht hs F1 F2 T C sh pl dn) (i : Int32) (hQ : ∀ es', mq es st es' → Q (some (.int (zq_guard F1 F2 k p kd ht (nI C) hs hc T sh pl dn i))) es') : ax_Mt (d + 10) 1491 [.ref 159, .int i] n sl es Q := by
  obtain ⟨E, S, hT, hdn, hA⟩ := Z
  obtain ⟨hal, hk, hp, hhs, hF, hK⟩ := id E
  unfold zq_guard at hQ
  refine ax_Mt_go (m := ax_m_11_83) (ls := [some (.ref 159), some (.int i), none, none, none, none, none]) rfl ax_b_1491_0 (Nat.le_of_ble_eq_true rfl) rfl ?_
  refine mk_thrown hal hK.1 rfl ?_
  intro es0 h0
  have E0 := mE_th E h0
  have S0 := mS_th S h0
  simp only [ax_W_cons, ax_I, ax_cmp, ax_ii, ax_ll, ax_li, ax_st1, ax_st2, ax_kl, ax_k2, ax_fit, ax_rtok, List.getElem?_cons_zero, List.getElem?_cons_succ, List.length_cons, List.length_nil, List.set_cons_zero, List.set_cons_succ, Nat.reduceAdd, Nat.reduceDiv, Nat.reduceMod, Nat.reduceMul, Nat.reduceLT, Nat.reduceLeDiff, Int32.reduceOfInt, Int64.reduceOfInt, true_and, and_true, and_self, true_or, or_true, false_implies, true_implies, not_false_eq_true, not_true_eq_false, Value.category, Nat.reduceEqDiff, Option.toList, List.cons_append, List.nil_append, List.drop_succ_cons, List.drop_zero, ax_qq_eq, ax_t_1491]
  rw [ax_n_1491_12]
  by_cases hi : kx_cell p i = true
  · rw [if_pos hi] at hQ
    obtain ⟨i', hi', rfl⟩ := kx_cell_in (by omega) hi
    rw [nI_clamp (by omega)] at hQ
    generalize hV : (fun w => kx_pdn (kx_dd F1 F2 k kd ht (kx_crack (nI C) (nI w)) hs hc T (upd sh w 0) pl) p dn 20 i') = V at hQ
    have hV : ∀ w, V w = kx_pdn (kx_dd F1 F2 k kd ht (kx_crack (nI C) (nI w)) hs hc T (upd sh w 0) pl) p dn 20 i' := fun w => by rw [← hV]
    have hin : ∀ m, m ≤ 12 → (kx_bfk (fun w => !kx_ck (nI C) (nI w)) V m).1 = -1 ∨ ∃ c, c < m ∧ (kx_bfk (fun w => !kx_ck (nI C) (nI w)) V m).1 = nI c := by
      intro m
      induction m with
      | zero => intro _; exact Or.inl rfl
      | succ m ih =>
        intro hm
        rw [kx_bfk]
        split
        · exact Or.inr ⟨m, by omega, rfl⟩
        · rcases ih (by omega) with h | ⟨c, h1, h2⟩
          · exact Or.inl h
          · exact Or.inr ⟨c, by omega, h2⟩
    have L := kx_loop (k := k) (I := fun c => ∀ v5 v6 es1 st1, mfr es0 es1 → mfq st st1 → mX es1 st1 → ax_W (d + 10) n sl 1491 [(2, .iload 4), (1, .aload 0), (3, .invokeinterface 1450 5), (3, .if_icmp .ge 117), (1, .aload 0), (1, .iload 1), (3, .invokeinterface 1454 9), (3, .ifCond .eq 117), (1, .aload 0), (1, .iconst 0), (2, .iload 4), (3, .invokeinterface 1456 13), (3, .ifCond .eq 111), (1, .aload 0), (3, .invokeinterface 1483 5), (1, .aload 0), (3, .iconst 1092), (2, .iload 4), (3, .invokeinterface 1461 13), (1, .aload 0), (2, .iconst 20), (3, .invokeinterface 1484 9), (1, .aload 0), (3, .getfield 2910), (3, .iconst 1112), (1, .iload 1), (1, .iadd), (1, .iaload), (2, .istore 5), (1, .iload 2), (3, .ifCond .lt 80), (2, .iload 5), (1, .iload 3), (3, .if_icmp .ge 84)] 12 [some (.ref 159), some (.int (nI i')), some (.int (kx_bfk (fun w => !kx_ck (nI C) (nI w)) V c).1), some (.int (kx_bfk (fun w => !kx_ck (nI C) (nI w)) V c).2), some (.int (nI c)), v5, v6] [] n sl es1 (ax_qq n sl Q)) ?_ ?_
    · exact L none none es0 st (mfr_rf _) (mfq_rf _) S0.1
    · intro v5 v6 es1 st1 i1 i2 i3
      have e0 := kx_nn (k := k) (by omega)
      have E1 := mE_fr E0 i1
      simp only [ax_W_cons, ax_I, ax_cmp, ax_ii, ax_ll, ax_li, ax_st1, ax_st2, ax_kl, ax_k2, ax_fit, ax_rtok, List.getElem?_cons_zero, List.getElem?_cons_succ, List.length_cons, List.length_nil, List.set_cons_zero, List.set_cons_succ, Nat.reduceAdd, Nat.reduceDiv, Nat.reduceMod, Nat.reduceMul, Nat.reduceLT, Nat.reduceLeDiff, Int32.reduceOfInt, Int64.reduceOfInt, true_and, and_true, and_self, true_or, or_true, false_implies, true_implies, not_false_eq_true, not_true_eq_false, Value.category, Nat.reduceEqDiff, Option.toList, List.cons_append, List.nil_append, List.drop_succ_cons, List.drop_zero, ax_qq_eq, ax_t_1491]
      refine ax_inv_of (Nat.le_of_ble_eq_true rfl) (Nat.le_of_ble_eq_true rfl) (fun _ => mE_rcv E1 _) (fun h => absurd h (by decide)) (Nat.le_refl _) (Nat.le_refl _) (mk_cells hal E1.2.2.2.2.2 ?_)
      simp only [ax_W_cons, ax_I, ax_cmp, ax_ii, ax_ll, ax_li, ax_st1, ax_st2, ax_kl, ax_k2, ax_fit, ax_rtok, List.getElem?_cons_zero, List.getElem?_cons_succ, List.length_cons, List.length_nil, List.set_cons_zero, List.set_cons_succ, Nat.reduceAdd, Nat.reduceDiv, Nat.reduceMod, Nat.reduceMul, Nat.reduceLT, Nat.reduceLeDiff, Int32.reduceOfInt, Int64.reduceOfInt, true_and, and_true, and_self, true_or, or_true, false_implies, true_implies, not_false_eq_true, not_true_eq_false, Value.category, Nat.reduceEqDiff, Option.toList, List.cons_append, List.nil_append, List.drop_succ_cons, List.drop_zero, ax_qq_eq, ax_t_1491, ax_j_1491_117, ax_n_1491_117, e0]
      exact hQ _ (mq_of h0 i1 i3 i2 hA)
    · intro c hc2 ih v5 v6 es1 st1 i1 i2 i3
      obtain ⟨q1, -, -, q4⟩ := kx_ix hc2 hk.2 (by decide)
      have E1 := mE_fr E0 i1
      have S1 := mS_q E S i2 i3
      have hin := hin c (by omega)
      rw [kx_bfk] at ih
      generalize kx_bfk (fun w => !kx_ck (nI C) (nI w)) V c = B at ih hin ⊢
      simp only [ax_W_cons, ax_I, ax_cmp, ax_ii, ax_ll, ax_li, ax_st1, ax_st2, ax_kl, ax_k2, ax_fit, ax_rtok, List.getElem?_cons_zero, List.getElem?_cons_succ, List.length_cons, List.length_nil, List.set_cons_zero, List.set_cons_succ, Nat.reduceAdd, Nat.reduceDiv, Nat.reduceMod, Nat.reduceMul, Nat.reduceLT, Nat.reduceLeDiff, Int32.reduceOfInt, Int64.reduceOfInt, true_and, and_true, and_self, true_or, or_true, false_implies, true_implies, not_false_eq_true, not_true_eq_false, Value.category, Nat.reduceEqDiff, Option.toList, List.cons_append, List.nil_append, List.drop_succ_cons, List.drop_zero, ax_qq_eq, ax_t_1491]
      refine ax_inv_of (Nat.le_of_ble_eq_true rfl) (Nat.le_of_ble_eq_true rfl) (fun _ => mE_rcv E1 _) (fun h => absurd h (by decide)) (Nat.le_refl _) (Nat.le_refl _) (mk_cells hal E1.2.2.2.2.2 ?_)
      simp only [ax_W_cons, ax_I, ax_cmp, ax_ii, ax_ll, ax_li, ax_st1, ax_st2, ax_kl, ax_k2, ax_fit, ax_rtok, List.getElem?_cons_zero, List.getElem?_cons_succ, List.length_cons, List.length_nil, List.set_cons_zero, List.set_cons_succ, Nat.reduceAdd, Nat.reduceDiv, Nat.reduceMod, Nat.reduceMul, Nat.reduceLT, Nat.reduceLeDiff, Int32.reduceOfInt, Int64.reduceOfInt, true_and, and_true, and_self, true_or, or_true, false_implies, true_implies, not_false_eq_true, not_true_eq_false, Value.category, Nat.reduceEqDiff, Option.toList, List.cons_append, List.nil_append, List.drop_succ_cons, List.drop_zero, ax_qq_eq, ax_t_1491, q1]
      refine ax_inv_of (Nat.le_of_ble_eq_true rfl) (Nat.le_of_ble_eq_true rfl) (fun _ => mE_rcv E1 _) (fun h => absurd h (by decide)) (Nat.le_refl _) (Nat.le_refl _) (mk_isCourtier hal hp E1.2.2.2.2.2 _ ?_)
      rw [hi]
      have b1 : ¬ kx_b true = 0 := by decide
      simp only [ax_W_cons, ax_I, ax_cmp, ax_ii, ax_ll, ax_li, ax_st1, ax_st2, ax_kl, ax_k2, ax_fit, ax_rtok, List.getElem?_cons_zero, List.getElem?_cons_succ, List.length_cons, List.length_nil, List.set_cons_zero, List.set_cons_succ, Nat.reduceAdd, Nat.reduceDiv, Nat.reduceMod, Nat.reduceMul, Nat.reduceLT, Nat.reduceLeDiff, Int32.reduceOfInt, Int64.reduceOfInt, true_and, and_true, and_self, true_or, or_true, false_implies, true_implies, not_false_eq_true, not_true_eq_false, Value.category, Nat.reduceEqDiff, Option.toList, List.cons_append, List.nil_append, List.drop_succ_cons, List.drop_zero, ax_qq_eq, ax_t_1491, b1]
      refine ax_inv_of (Nat.le_of_ble_eq_true rfl) (Nat.le_of_ble_eq_true rfl) (fun _ => mE_rcv E1 _) (fun h => absurd h (by decide)) (Nat.le_refl _) (Nat.le_refl _) (mk_whole E1 S1 (b := 0) (by omega) (nI c) ?_)
      rw [mx_op hk.2 hc2]
      simp only [ax_W_cons, ax_I, ax_cmp, ax_ii, ax_ll, ax_li, ax_st1, ax_st2, ax_kl, ax_k2, ax_fit, ax_rtok, List.getElem?_cons_zero, List.getElem?_cons_succ, List.length_cons, List.length_nil, List.set_cons_zero, List.set_cons_succ, Nat.reduceAdd, Nat.reduceDiv, Nat.reduceMod, Nat.reduceMul, Nat.reduceLT, Nat.reduceLeDiff, Int32.reduceOfInt, Int64.reduceOfInt, true_and, and_true, and_self, true_or, or_true, false_implies, true_implies, not_false_eq_true, not_true_eq_false, Value.category, Nat.reduceEqDiff, Option.toList, List.cons_append, List.nil_append, List.drop_succ_cons, List.drop_zero, ax_qq_eq, ax_t_1491, ax_j_1491_111, ax_n_1491_111, kx_b0, q4]
      simp only [ax_j_1491_12]
      refine ⟨fun hw0 => ?_, fun hw0 => ?_⟩
      · rw [if_neg (fun z => by rw [hw0] at z; exact absurd z.1 (by decide))] at ih
        exact ih _ _ es1 st1 i1 i2 i3
      · have hw1 : (!kx_ck (nI C) (nI c)) = true := by simpa using hw0
        refine ax_inv_of (Nat.le_of_ble_eq_true rfl) (Nat.le_of_ble_eq_true rfl) (fun _ => mE_rcv E1 _) (fun h => absurd h (by decide)) (Nat.le_refl _) (Nat.le_refl _) (mk_tries E1 S1 ?_)
        intro es2 st2 f1 f2 f3 f4
        have E2 := mE_fr E1 f1
        simp only [ax_W_cons, ax_I, ax_cmp, ax_ii, ax_ll, ax_li, ax_st1, ax_st2, ax_kl, ax_k2, ax_fit, ax_rtok, List.getElem?_cons_zero, List.getElem?_cons_succ, List.length_cons, List.length_nil, List.set_cons_zero, List.set_cons_succ, Nat.reduceAdd, Nat.reduceDiv, Nat.reduceMod, Nat.reduceMul, Nat.reduceLT, Nat.reduceLeDiff, Int32.reduceOfInt, Int64.reduceOfInt, true_and, and_true, and_self, true_or, or_true, false_implies, true_implies, not_false_eq_true, not_true_eq_false, Value.category, Nat.reduceEqDiff, Option.toList, List.cons_append, List.nil_append, List.drop_succ_cons, List.drop_zero, ax_qq_eq, ax_t_1491]
        refine ax_inv_of (Nat.le_of_ble_eq_true rfl) (Nat.le_of_ble_eq_true rfl) (fun _ => mE_rcv E2 _) (fun h => absurd h (by decide)) (Nat.le_refl _) (Nat.le_refl _) (mk_forks hal E2.2.2.2.2.2.1 f3.1 hk.2 hp (b := 1092) (by omega) f3.2.1 hc2 ?_)
        intro es3 st3 g1 g2 g3 g4
        have E3 := mE_fr E2 g1
        simp only [ax_W_cons, ax_I, ax_cmp, ax_ii, ax_ll, ax_li, ax_st1, ax_st2, ax_kl, ax_k2, ax_fit, ax_rtok, List.getElem?_cons_zero, List.getElem?_cons_succ, List.length_cons, List.length_nil, List.set_cons_zero, List.set_cons_succ, Nat.reduceAdd, Nat.reduceDiv, Nat.reduceMod, Nat.reduceMul, Nat.reduceLT, Nat.reduceLeDiff, Int32.reduceOfInt, Int64.reduceOfInt, true_and, and_true, and_self, true_or, or_true, false_implies, true_implies, not_false_eq_true, not_true_eq_false, Value.category, Nat.reduceEqDiff, Option.toList, List.cons_append, List.nil_append, List.drop_succ_cons, List.drop_zero, ax_qq_eq, ax_t_1491]
        refine ax_inv_of (Nat.le_of_ble_eq_true rfl) (Nat.le_of_ble_eq_true rfl) (fun _ => mE_rcv E3 _) (fun h => absurd h (by decide)) (Nat.le_refl _) (Nat.le_refl _) (mk_runs E3 ⟨g2, g4, zv_crack S.2.2 hc2⟩ (m := 20) (by omega) ?_)
        intro es4 st4 r1 r2 r3
        obtain ⟨th, tp, sz, at0, fl, cd, nm, rm, on, fh, un, g, w0⟩ := (mE_fr E3 r1).2.2.2.2.2.1
        have y1 := r3.1.1
        obtain ⟨e1, v1, e2⟩ := mx_1112 (c := i') (by omega)
        have e3 := r3.2.1.2.2.2.2 i' hi'
        rw [← kc_crack (C := C) (i := c) (by omega), ← hV c] at e3
        have ih := fun v5 v6 => ih v5 v6 es4 st4 (mfr_trans i1 (mfr_trans f1 (mfr_trans g1 r1))) (mfq_trans i2 (mfq_trans (mfs_q (by omega) f2) (mfq_trans (mfs_q (by omega) g3) (mfs_q (by omega) r2)))) r3.1
        have c10 : ¬ (1 : Int32) = 0 := by decide
        rcases hin with h9 | ⟨c', hc', h9⟩
        · have hlt : B.1 < 0 := by rw [h9]; decide
          rw [if_pos ⟨hw1, Or.inl h9⟩] at ih
          simp only [ax_W_cons, ax_I, ax_cmp, ax_ii, ax_ll, ax_li, ax_st1, ax_st2, ax_kl, ax_k2, ax_fit, ax_rtok, List.getElem?_cons_zero, List.getElem?_cons_succ, List.length_cons, List.length_nil, List.set_cons_zero, List.set_cons_succ, Nat.reduceAdd, Nat.reduceDiv, Nat.reduceMod, Nat.reduceMul, Nat.reduceLT, Nat.reduceLeDiff, Int32.reduceOfInt, Int64.reduceOfInt, true_and, and_true, and_self, true_or, or_true, false_implies, true_implies, not_false_eq_true, not_true_eq_false, Value.category, Nat.reduceEqDiff, Option.toList, List.cons_append, List.nil_append, List.drop_succ_cons, List.drop_zero, ax_qq_eq, ax_t_1491, ax_j_1491_80, ax_n_1491_80, ax_j_1491_85, ax_n_1491_85, ax_j_1491_98, ax_n_1491_98, ax_j_1491_110, ax_n_1491_110, ax_j_1491_111, ax_n_1491_111, w0, y1, mo_f, hal, e1, v1, e2, e3, hlt, c10, q4]
          rw [ax_j_1491_12]
          exact ih _ _
        · have hlt : ¬ B.1 < 0 := by rw [h9]; exact nI_pos (by omega)
          have hne : ¬ B.1 = -1 := by rw [h9]; exact mx_n1 (by omega)
          by_cases h8 : V c < B.2
          · have h7 : ¬ B.2 ≤ V c := kx_lt_nle h8
            rw [if_pos ⟨hw1, Or.inr h8⟩] at ih
            simp only [ax_W_cons, ax_I, ax_cmp, ax_ii, ax_ll, ax_li, ax_st1, ax_st2, ax_kl, ax_k2, ax_fit, ax_rtok, List.getElem?_cons_zero, List.getElem?_cons_succ, List.length_cons, List.length_nil, List.set_cons_zero, List.set_cons_succ, Nat.reduceAdd, Nat.reduceDiv, Nat.reduceMod, Nat.reduceMul, Nat.reduceLT, Nat.reduceLeDiff, Int32.reduceOfInt, Int64.reduceOfInt, true_and, and_true, and_self, true_or, or_true, false_implies, true_implies, not_false_eq_true, not_true_eq_false, Value.category, Nat.reduceEqDiff, Option.toList, List.cons_append, List.nil_append, List.drop_succ_cons, List.drop_zero, ax_qq_eq, ax_t_1491, ax_j_1491_80, ax_n_1491_80, ax_j_1491_85, ax_n_1491_85, ax_j_1491_98, ax_n_1491_98, ax_j_1491_110, ax_n_1491_110, ax_j_1491_111, ax_n_1491_111, w0, y1, mo_f, hal, e1, v1, e2, e3, hlt, h7, c10, q4]
            rw [ax_j_1491_12]
            exact ih _ _
          · have h7 : B.2 ≤ V c := by rw [← kx_nlt]; exact h8
            rw [if_neg (fun z => z.2.elim hne h8)] at ih
            simp only [ax_W_cons, ax_I, ax_cmp, ax_ii, ax_ll, ax_li, ax_st1, ax_st2, ax_kl, ax_k2, ax_fit, ax_rtok, List.getElem?_cons_zero, List.getElem?_cons_succ, List.length_cons, List.length_nil, List.set_cons_zero, List.set_cons_succ, Nat.reduceAdd, Nat.reduceDiv, Nat.reduceMod, Nat.reduceMul, Nat.reduceLT, Nat.reduceLeDiff, Int32.reduceOfInt, Int64.reduceOfInt, true_and, and_true, and_self, true_or, or_true, false_implies, true_implies, not_false_eq_true, not_true_eq_false, Value.category, Nat.reduceEqDiff, Option.toList, List.cons_append, List.nil_append, List.drop_succ_cons, List.drop_zero, ax_qq_eq, ax_t_1491, ax_j_1491_84, ax_n_1491_84, ax_j_1491_85, ax_n_1491_85, ax_j_1491_97, ax_n_1491_97, ax_j_1491_98, ax_n_1491_98, ax_j_1491_109, ax_n_1491_109, ax_j_1491_110, ax_n_1491_110, ax_j_1491_111, ax_n_1491_111, w0, y1, mo_f, hal, e1, v1, e2, e3, hlt, h7, q4]
            rw [ax_j_1491_12]
            exact ih _ _
  · have hi : kx_cell p i = false := by simpa using hi
    rw [if_neg (by rw [hi]; decide)] at hQ
    have q1 : ¬ nI k ≤ 0 := nI_nle (by omega) (by omega)
    simp only [ax_W_cons, ax_I, ax_cmp, ax_ii, ax_ll, ax_li, ax_st1, ax_st2, ax_kl, ax_k2, ax_fit, ax_rtok, List.getElem?_cons_zero, List.getElem?_cons_succ, List.length_cons, List.length_nil, List.set_cons_zero, List.set_cons_succ, Nat.reduceAdd, Nat.reduceDiv, Nat.reduceMod, Nat.reduceMul, Nat.reduceLT, Nat.reduceLeDiff, Int32.reduceOfInt, Int64.reduceOfInt, true_and, and_true, and_self, true_or, or_true, false_implies, true_implies, not_false_eq_true, not_true_eq_false, Value.category, Nat.reduceEqDiff, Option.toList, List.cons_append, List.nil_append, List.drop_succ_cons, List.drop_zero, ax_qq_eq, ax_t_1491]
    refine ax_inv_of (Nat.le_of_ble_eq_true rfl) (Nat.le_of_ble_eq_true rfl) (fun _ => mE_rcv E0 _) (fun h => absurd h (by decide)) (Nat.le_refl _) (Nat.le_refl _) (mk_cells hal E0.2.2.2.2.2 ?_)
    simp only [ax_W_cons, ax_I, ax_cmp, ax_ii, ax_ll, ax_li, ax_st1, ax_st2, ax_kl, ax_k2, ax_fit, ax_rtok, List.getElem?_cons_zero, List.getElem?_cons_succ, List.length_cons, List.length_nil, List.set_cons_zero, List.set_cons_succ, Nat.reduceAdd, Nat.reduceDiv, Nat.reduceMod, Nat.reduceMul, Nat.reduceLT, Nat.reduceLeDiff, Int32.reduceOfInt, Int64.reduceOfInt, true_and, and_true, and_self, true_or, or_true, false_implies, true_implies, not_false_eq_true, not_true_eq_false, Value.category, Nat.reduceEqDiff, Option.toList, List.cons_append, List.nil_append, List.drop_succ_cons, List.drop_zero, ax_qq_eq, ax_t_1491, q1]
    refine ax_inv_of (Nat.le_of_ble_eq_true rfl) (Nat.le_of_ble_eq_true rfl) (fun _ => mE_rcv E0 _) (fun h => absurd h (by decide)) (Nat.le_refl _) (Nat.le_refl _) (mk_isCourtier hal hp E0.2.2.2.2.2 _ ?_)
    rw [hi]
    have b1 : kx_b false = 0 := by decide
    simp only [ax_W_cons, ax_I, ax_cmp, ax_ii, ax_ll, ax_li, ax_st1, ax_st2, ax_kl, ax_k2, ax_fit, ax_rtok, List.getElem?_cons_zero, List.getElem?_cons_succ, List.length_cons, List.length_nil, List.set_cons_zero, List.set_cons_succ, Nat.reduceAdd, Nat.reduceDiv, Nat.reduceMod, Nat.reduceMul, Nat.reduceLT, Nat.reduceLeDiff, Int32.reduceOfInt, Int64.reduceOfInt, true_and, and_true, and_self, true_or, or_true, false_implies, true_implies, not_false_eq_true, not_true_eq_false, Value.category, Nat.reduceEqDiff, Option.toList, List.cons_append, List.nil_append, List.drop_succ_cons, List.drop_zero, ax_qq_eq, ax_t_1491, ax_j_1491_117, ax_n_1491_117, b1]
    exact hQ _ (mq_of h0 (mfr_rf _) S0.1 (mfq_rf _) hA)
end MM
