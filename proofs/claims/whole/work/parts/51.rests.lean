/-! the reference: share, shake, courtier, rests -/
def mThr (es : ax_H) (t : Int32) : Prop := ∃ tp sz at0 fl cd nm rm on fh un g, es 159 = .inr (11, mo_f t tp sz at0 fl cd nm rm on fh un g)
/-- n and found, as the reference counts -/
def mo_rl (r : Nat → Bool) (w : Int32) : Nat → Int32 × Int32
  | 0 => (0, -1)
  | m + 1 => (if r m = true then (mo_rl r w m).1 + 1 else (mo_rl r w m).1, if r m = true ∧ (mo_rl r w m).1 = w then nI m else (mo_rl r w m).2)
def mo_r (b l g : Int32) (m : Nat) : Bool := ax_isRest (nI (m / 2)) (nI (m % 2)) b l g
theorem mo_rl_in {r : Nat → Bool} {w : Int32} : ∀ m, m ≤ 4 → ((mo_rl r w m).2 = -1 ∨ ∃ c, c < m ∧ (mo_rl r w m).2 = nI c) ∧ ∃ v, v ≤ m ∧ (mo_rl r w m).1 = nI v
  | 0, _ => ⟨Or.inl rfl, 0, Nat.le_refl _, rfl⟩
  | m + 1, hm => by
    obtain ⟨h1, v, hv, ev⟩ := mo_rl_in (r := r) (w := w) m (by omega)
    rw [mo_rl]
    dsimp only
    refine ⟨?_, ?_⟩
    · split
      · exact Or.inr ⟨m, by omega, rfl⟩
      · rcases h1 with h1 | ⟨c, hc, h1⟩
        · exact Or.inl h1
        · exact Or.inr ⟨c, by omega, h1⟩
    · split
      · exact ⟨v + 1, by omega, by rw [ev]; exact (nI_succ v).symm⟩
      · exact ⟨v, by omega, ev⟩
theorem mo_rests {b l g w : Int32} (hb : kx_in b 0 9 = true) (hl : kx_in l 0 9 = true) (hg : kx_in g 0 9 = true) (hw : ¬ w < -1) : ax_rests b l g w = if w < 0 ∨ 0 ≤ (mo_rl (mo_r b l g) w 4).2 then some (if w < 0 then (mo_rl (mo_r b l g) w 4).1 else (mo_rl (mo_r b l g) w 4).2) else none := by
  unfold kx_in at hb hl hg
  simp only [Bool.and_eq_true, decide_eq_true_eq] at hb hl hg
  unfold ax_rests
  rw [if_pos ⟨hb, hl, hg, hw⟩]
  have r0 : mo_r b l g 0 = ax_isRest 0 0 b l g := rfl
  have r1 : mo_r b l g 1 = ax_isRest 0 1 b l g := rfl
  have r2 : mo_r b l g 2 = ax_isRest 1 0 b l g := rfl
  have r3 : mo_r b l g 3 = ax_isRest 1 1 b l g := rfl
  simp only [ax_rfind, mo_rl, r0, r1, r2, r3]
  generalize ax_isRest 0 0 b l g = x0
  generalize ax_isRest 0 1 b l g = x1
  generalize ax_isRest 1 0 b l g = x2
  generalize ax_isRest 1 1 b l g = x3
  have n0 : nI 0 = 0 := rfl
  have n1 : nI 1 = 1 := rfl
  have n2 : nI 2 = 2 := rfl
  have n3 : nI 3 = 3 := rfl
  have a1 : (0 : Int32) + 1 = 1 := by decide
  have a2 : (1 : Int32) + 1 = 2 := by decide
  have a3 : (2 : Int32) + 1 = 3 := by decide
  have a4 : (3 : Int32) + 1 = 4 := by decide
  simp only [n0, n1, n2, n3, a1, a2, a3, a4]
  by_cases wn : w = -1
  · subst wn
    revert x0 x1 x2 x3
    decide
  by_cases w0 : w = 0
  · subst w0
    revert x0 x1 x2 x3
    decide
  by_cases w1 : w = 1
  · subst w1
    revert x0 x1 x2 x3
    decide
  by_cases w2 : w = 2
  · subst w2
    revert x0 x1 x2 x3
    decide
  by_cases w3 : w = 3
  · subst w3
    revert x0 x1 x2 x3
    decide
  have q0 : ¬ (0 : Int32) = w := fun z => w0 z.symm
  have q1 : ¬ (1 : Int32) = w := fun z => w1 z.symm
  have q2 : ¬ (2 : Int32) = w := fun z => w2 z.symm
  have q3 : ¬ (3 : Int32) = w := fun z => w3 z.symm
  have wp : ¬ w < 0 := fun z => by
    rw [Int32.lt_iff_toInt_lt] at z hw
    have e0 : (0 : Int32).toInt = 0 := rfl
    have e1 : (-1 : Int32).toInt = -1 := rfl
    apply wn
    apply Int32.toInt_inj.mp
    omega
  have nn : ¬ (0 : Int32) ≤ -1 := by decide
  cases x0 <;> cases x1 <;> cases x2 <;> cases x3 <;> simp [q0, q1, q2, q3, wp, wn, nn, a1, a2, a3, a4]
section MM
variable {d n sl k p hc : Nat} {es : ax_H} {kd pm ht hs : Nat → Int32} {F1 F2 : Int32 → Int32 → Int32 → Int32 → Int32} {st : Nat → Int32} {b T C z : Nat} {sh pl dn fc fb fs : Nat → Int32} {Q : Option Value → ax_H → Prop}
theorem mp_shake (Z : mZ es n st k p hc kd pm ht hs F1 F2 T C sh pl dn) (c : Int32) (hQ : ∀ es', mq es st es' → Q (some (.int (zq_shake k (nI C) sh c))) es') : ax_Mt (d + 10) 1472 [.ref 159, .int c] n sl es Q := by
  obtain ⟨E, S, hT, hdn, hA⟩ := Z
  obtain ⟨hal, hk, hp, hhs, hF, hK⟩ := id E
  unfold zq_shake at hQ
  refine ax_Mt_go (m := ax_m_11_64) (ls := [some (.ref 159), some (.int c)]) rfl ax_b_1472_0 (Nat.le_of_ble_eq_true rfl) rfl ?_
  refine mk_thrown hal hK.1 rfl ?_
  intro es0 h0
  have E0 := mE_th E h0
  have S0 := mS_th S h0
  have hQ := hQ es0 (mq_of h0 (mfr_rf _) S0.1 (mfq_rf _) hA)
  obtain ⟨th, tp, sz, at0, fl, cd, nm, rm, on, fh, un, g, w0⟩ := id E0.2.2.2.2.2.1
  have y1 := S0.1.1
  simp only [ax_W_cons, ax_I, ax_cmp, ax_ii, ax_ll, ax_li, ax_st1, ax_st2, ax_kl, ax_k2, ax_fit, ax_rtok, List.getElem?_cons_zero, List.getElem?_cons_succ, List.length_cons, List.length_nil, List.set_cons_zero, List.set_cons_succ, Nat.reduceAdd, Nat.reduceDiv, Nat.reduceMod, Nat.reduceMul, Nat.reduceLT, Nat.reduceLeDiff, Int32.reduceOfInt, Int64.reduceOfInt, true_and, and_true, and_self, true_or, or_true, false_implies, true_implies, not_false_eq_true, not_true_eq_false, Value.category, Nat.reduceEqDiff, Option.toList, List.cons_append, List.nil_append, List.drop_succ_cons, List.drop_zero, ax_qq_eq, ax_t_1472]
  refine ax_inv_of (Nat.le_of_ble_eq_true rfl) (Nat.le_of_ble_eq_true rfl) (fun _ => mE_rcv E0 _) (fun h => absurd h (by decide)) (Nat.le_refl _) (Nat.le_refl _) (mk_whole E0 S0 (b := 0) (by omega) c ?_)
  cases h : kx_op k (nI C) c
  · rw [if_neg (by rw [h]; decide)] at hQ
    simp only [ax_W_cons, ax_I, ax_cmp, ax_ii, ax_ll, ax_li, ax_st1, ax_st2, ax_kl, ax_k2, ax_fit, ax_rtok, List.getElem?_cons_zero, List.getElem?_cons_succ, List.length_cons, List.length_nil, List.set_cons_zero, List.set_cons_succ, Nat.reduceAdd, Nat.reduceDiv, Nat.reduceMod, Nat.reduceMul, Nat.reduceLT, Nat.reduceLeDiff, Int32.reduceOfInt, Int64.reduceOfInt, true_and, and_true, and_self, true_or, or_true, false_implies, true_implies, not_false_eq_true, not_true_eq_false, Value.category, Nat.reduceEqDiff, Option.toList, List.cons_append, List.nil_append, List.drop_succ_cons, List.drop_zero, ax_qq_eq, ax_t_1472, ax_j_1472_25, ax_n_1472_25, ax_j_1472_26, ax_n_1472_26, kx_bf]
    exact hQ
  · rw [if_pos h] at hQ
    obtain ⟨c', hc', rfl, hB⟩ := kx_op_nI hk.2 h
    rw [nI_clamp (by omega)] at hQ
    obtain ⟨e1, v1, e2⟩ := mx_2 (c := c') (by omega)
    have e3 := S0.2.1.2.2.1 c' hc'
    have c10 : ¬ (1 : Int32) = 0 := by decide
    simp only [ax_W_cons, ax_I, ax_cmp, ax_ii, ax_ll, ax_li, ax_st1, ax_st2, ax_kl, ax_k2, ax_fit, ax_rtok, List.getElem?_cons_zero, List.getElem?_cons_succ, List.length_cons, List.length_nil, List.set_cons_zero, List.set_cons_succ, Nat.reduceAdd, Nat.reduceDiv, Nat.reduceMod, Nat.reduceMul, Nat.reduceLT, Nat.reduceLeDiff, Int32.reduceOfInt, Int64.reduceOfInt, true_and, and_true, and_self, true_or, or_true, false_implies, true_implies, not_false_eq_true, not_true_eq_false, Value.category, Nat.reduceEqDiff, Option.toList, List.cons_append, List.nil_append, List.drop_succ_cons, List.drop_zero, ax_qq_eq, ax_t_1472, ax_j_1472_26, ax_n_1472_26, kx_bt, c10, w0, y1, mo_f, hal, e1, v1, e2, e3]
    exact hQ
theorem mp_courtier (Z : mZ es n st k p hc kd pm ht hs F1 F2 T C sh pl dn) (c w : Int32) (hQ : ∀ es', mq es st es' → Q (some (.int (zq_court p kd ht pl dn c w))) es') : ax_Mt (d + 10) 1473 [.ref 159, .int c, .int w] n sl es Q := by
  obtain ⟨E, S, hT, hdn, hA⟩ := Z
  obtain ⟨hal, hk, hp, hhs, hF, hK⟩ := id E
  unfold zq_court at hQ
  refine ax_Mt_go (m := ax_m_11_65) (ls := [some (.ref 159), some (.int c), some (.int w)]) rfl ax_b_1473_0 (Nat.le_of_ble_eq_true rfl) rfl ?_
  refine mk_thrown hal hK.1 rfl ?_
  intro es0 h0
  have E0 := mE_th E h0
  have S0 := mS_th S h0
  have hQ := hQ es0 (mq_of h0 (mfr_rf _) S0.1 (mfq_rf _) hA)
  obtain ⟨th, tp, sz, at0, fl, cd, nm, rm, on, fh, un, g, w0⟩ := id E0.2.2.2.2.2.1
  have y1 := S0.1.1
  have c10 : ¬ (1 : Int32) = 0 := by decide
  simp only [ax_W_cons, ax_I, ax_cmp, ax_ii, ax_ll, ax_li, ax_st1, ax_st2, ax_kl, ax_k2, ax_fit, ax_rtok, List.getElem?_cons_zero, List.getElem?_cons_succ, List.length_cons, List.length_nil, List.set_cons_zero, List.set_cons_succ, Nat.reduceAdd, Nat.reduceDiv, Nat.reduceMod, Nat.reduceMul, Nat.reduceLT, Nat.reduceLeDiff, Int32.reduceOfInt, Int64.reduceOfInt, true_and, and_true, and_self, true_or, or_true, false_implies, true_implies, not_false_eq_true, not_true_eq_false, Value.category, Nat.reduceEqDiff, Option.toList, List.cons_append, List.nil_append, List.drop_succ_cons, List.drop_zero, ax_qq_eq, ax_t_1473]
  refine ax_inv_of (Nat.le_of_ble_eq_true rfl) (Nat.le_of_ble_eq_true rfl) (fun _ => mE_rcv E0 _) (fun h => absurd h (by decide)) (Nat.le_refl _) (Nat.le_refl _) (mk_isCourtier hal hp E0.2.2.2.2.2 c ?_)
  cases h : kx_cell p c
  · rw [if_neg (fun z => by rw [h] at z; exact absurd z.1 (by decide))] at hQ
    simp only [ax_W_cons, ax_I, ax_cmp, ax_ii, ax_ll, ax_li, ax_st1, ax_st2, ax_kl, ax_k2, ax_fit, ax_rtok, List.getElem?_cons_zero, List.getElem?_cons_succ, List.length_cons, List.length_nil, List.set_cons_zero, List.set_cons_succ, Nat.reduceAdd, Nat.reduceDiv, Nat.reduceMod, Nat.reduceMul, Nat.reduceLT, Nat.reduceLeDiff, Int32.reduceOfInt, Int64.reduceOfInt, true_and, and_true, and_self, true_or, or_true, false_implies, true_implies, not_false_eq_true, not_true_eq_false, Value.category, Nat.reduceEqDiff, Option.toList, List.cons_append, List.nil_append, List.drop_succ_cons, List.drop_zero, ax_qq_eq, ax_t_1473, ax_j_1473_22, ax_n_1473_22, kx_bf]
    exact hQ
  · simp only [ax_W_cons, ax_I, ax_cmp, ax_ii, ax_ll, ax_li, ax_st1, ax_st2, ax_kl, ax_k2, ax_fit, ax_rtok, List.getElem?_cons_zero, List.getElem?_cons_succ, List.length_cons, List.length_nil, List.set_cons_zero, List.set_cons_succ, Nat.reduceAdd, Nat.reduceDiv, Nat.reduceMod, Nat.reduceMul, Nat.reduceLT, Nat.reduceLeDiff, Int32.reduceOfInt, Int64.reduceOfInt, true_and, and_true, and_self, true_or, or_true, false_implies, true_implies, not_false_eq_true, not_true_eq_false, Value.category, Nat.reduceEqDiff, Option.toList, List.cons_append, List.nil_append, List.drop_succ_cons, List.drop_zero, ax_qq_eq, ax_t_1473, kx_bt, c10]
    refine ax_inv_of (Nat.le_of_ble_eq_true rfl) (Nat.le_of_ble_eq_true rfl) (fun _ => absurd ‹_› (by decide)) (fun h => absurd h (by decide)) (Nat.le_refl _) (Nat.le_refl _) (mk_within _ _ _ ?_)
    cases h2 : kx_in w 0 3
    · rw [if_neg (fun z => by rw [h2] at z; exact absurd z.2 (by decide))] at hQ
      simp only [ax_W_cons, ax_I, ax_cmp, ax_ii, ax_ll, ax_li, ax_st1, ax_st2, ax_kl, ax_k2, ax_fit, ax_rtok, List.getElem?_cons_zero, List.getElem?_cons_succ, List.length_cons, List.length_nil, List.set_cons_zero, List.set_cons_succ, Nat.reduceAdd, Nat.reduceDiv, Nat.reduceMod, Nat.reduceMul, Nat.reduceLT, Nat.reduceLeDiff, Int32.reduceOfInt, Int64.reduceOfInt, true_and, and_true, and_self, true_or, or_true, false_implies, true_implies, not_false_eq_true, not_true_eq_false, Value.category, Nat.reduceEqDiff, Option.toList, List.cons_append, List.nil_append, List.drop_succ_cons, List.drop_zero, ax_qq_eq, ax_t_1473, ax_j_1473_22, ax_n_1473_22, kx_bf]
      exact hQ
    · rw [if_pos ⟨h, h2⟩] at hQ
      obtain ⟨c', hc', rfl⟩ := kx_cell_in (by omega) h
      obtain ⟨w', -, hw', rfl⟩ := kx_in_nI (a := 0) (b := 3) (by decide) (by decide) h2
      rw [nI_clamp (by omega)] at hQ
      have h4 : w' = 0 ∨ w' = 1 ∨ w' = 2 ∨ w' = 3 := by omega
      rcases h4 with rfl | rfl | rfl | rfl
      · have z0 : nI 0 = 0 := rfl
        rw [if_pos z0] at hQ
        simp only [ax_W_cons, ax_I, ax_cmp, ax_ii, ax_ll, ax_li, ax_st1, ax_st2, ax_kl, ax_k2, ax_fit, ax_rtok, List.getElem?_cons_zero, List.getElem?_cons_succ, List.length_cons, List.length_nil, List.set_cons_zero, List.set_cons_succ, Nat.reduceAdd, Nat.reduceDiv, Nat.reduceMod, Nat.reduceMul, Nat.reduceLT, Nat.reduceLeDiff, Int32.reduceOfInt, Int64.reduceOfInt, true_and, and_true, and_self, true_or, or_true, false_implies, true_implies, not_false_eq_true, not_true_eq_false, Value.category, Nat.reduceEqDiff, Option.toList, List.cons_append, List.nil_append, List.drop_succ_cons, List.drop_zero, ax_qq_eq, ax_t_1473, ax_j_1473_25, ax_n_1473_25, kx_bt, c10, z0]
        refine ax_inv_of (Nat.le_of_ble_eq_true rfl) (Nat.le_of_ble_eq_true rfl) (fun _ => mE_rcv E0 _) (fun h => absurd h (by decide)) (Nat.le_refl _) (Nat.le_refl _) (mk_courtierOf hal E0.2.2.2.2.2 hp hc' (w := 0) (by decide) ?_)
        simp only [ax_W_cons, ax_I, ax_cmp, ax_ii, ax_ll, ax_li, ax_st1, ax_st2, ax_kl, ax_k2, ax_fit, ax_rtok, List.getElem?_cons_zero, List.getElem?_cons_succ, List.length_cons, List.length_nil, List.set_cons_zero, List.set_cons_succ, Nat.reduceAdd, Nat.reduceDiv, Nat.reduceMod, Nat.reduceMul, Nat.reduceLT, Nat.reduceLeDiff, Int32.reduceOfInt, Int64.reduceOfInt, true_and, and_true, and_self, true_or, or_true, false_implies, true_implies, not_false_eq_true, not_true_eq_false, Value.category, Nat.reduceEqDiff, Option.toList, List.cons_append, List.nil_append, List.drop_succ_cons, List.drop_zero, ax_qq_eq, ax_t_1473, ax_j_1473_78, ax_n_1473_78]
        exact hQ
      · have z0 : ¬ nI 1 = 0 := by decide
        have z1 : nI 1 = 1 := rfl
        rw [if_neg z0, if_pos z1] at hQ
        have a1 : (14 : Int32) + nI c' = nI (0 + 14 + c') := (kn_add 14 c').trans (by rw [Nat.zero_add])
        have a2 : vp_in (nI (0 + 14 + c')) 1196 := nI_in (by omega) (by decide)
        have a3 : (nI (0 + 14 + c')).toNatClampNeg = 0 + 14 + c' := nI_clamp (by omega)
        have a4 := S0.2.1.2.2.2.1 c' hc'
        rw [z1]
        simp only [ax_W_cons, ax_I, ax_cmp, ax_ii, ax_ll, ax_li, ax_st1, ax_st2, ax_kl, ax_k2, ax_fit, ax_rtok, List.getElem?_cons_zero, List.getElem?_cons_succ, List.length_cons, List.length_nil, List.set_cons_zero, List.set_cons_succ, Nat.reduceAdd, Nat.reduceDiv, Nat.reduceMod, Nat.reduceMul, Nat.reduceLT, Nat.reduceLeDiff, Int32.reduceOfInt, Int64.reduceOfInt, true_and, and_true, and_self, true_or, or_true, false_implies, true_implies, not_false_eq_true, not_true_eq_false, Value.category, Nat.reduceEqDiff, Option.toList, List.cons_append, List.nil_append, List.drop_succ_cons, List.drop_zero, ax_qq_eq, ax_t_1473, ax_j_1473_25, ax_n_1473_25, ax_j_1473_38, ax_n_1473_38, ax_j_1473_78, ax_n_1473_78, kx_bt, c10, w0, y1, mo_f, hal, a1, a2, a3, a4]
        exact hQ
      · have z0 : ¬ nI 2 = 0 := by decide
        have z1 : ¬ nI 2 = 1 := by decide
        have z2 : nI 2 = 2 := rfl
        rw [if_neg z0, if_neg z1, if_pos z2] at hQ
        rw [z2] at z0 z1 ⊢
        simp only [ax_W_cons, ax_I, ax_cmp, ax_ii, ax_ll, ax_li, ax_st1, ax_st2, ax_kl, ax_k2, ax_fit, ax_rtok, List.getElem?_cons_zero, List.getElem?_cons_succ, List.length_cons, List.length_nil, List.set_cons_zero, List.set_cons_succ, Nat.reduceAdd, Nat.reduceDiv, Nat.reduceMod, Nat.reduceMul, Nat.reduceLT, Nat.reduceLeDiff, Int32.reduceOfInt, Int64.reduceOfInt, true_and, and_true, and_self, true_or, or_true, false_implies, true_implies, not_false_eq_true, not_true_eq_false, Value.category, Nat.reduceEqDiff, Option.toList, List.cons_append, List.nil_append, List.drop_succ_cons, List.drop_zero, ax_qq_eq, ax_t_1473, ax_j_1473_25, ax_n_1473_25, ax_j_1473_38, ax_n_1473_38, ax_j_1473_55, ax_n_1473_55, kx_bt, c10, z0, z1]
        refine ax_inv_of (Nat.le_of_ble_eq_true rfl) (Nat.le_of_ble_eq_true rfl) (fun _ => mE_rcv E0 _) (fun h => absurd h (by decide)) (Nat.le_refl _) (Nat.le_refl _) (mk_courtierOf hal E0.2.2.2.2.2 hp hc' (w := 2) (by decide) ?_)
        simp only [ax_W_cons, ax_I, ax_cmp, ax_ii, ax_ll, ax_li, ax_st1, ax_st2, ax_kl, ax_k2, ax_fit, ax_rtok, List.getElem?_cons_zero, List.getElem?_cons_succ, List.length_cons, List.length_nil, List.set_cons_zero, List.set_cons_succ, Nat.reduceAdd, Nat.reduceDiv, Nat.reduceMod, Nat.reduceMul, Nat.reduceLT, Nat.reduceLeDiff, Int32.reduceOfInt, Int64.reduceOfInt, true_and, and_true, and_self, true_or, or_true, false_implies, true_implies, not_false_eq_true, not_true_eq_false, Value.category, Nat.reduceEqDiff, Option.toList, List.cons_append, List.nil_append, List.drop_succ_cons, List.drop_zero, ax_qq_eq, ax_t_1473, ax_j_1473_78, ax_n_1473_78]
        exact hQ
      · have z0 : ¬ nI 3 = 0 := by decide
        have z1 : ¬ nI 3 = 1 := by decide
        have z2 : ¬ nI 3 = 2 := by decide
        have z3 : nI 3 = 3 := rfl
        rw [if_neg z0, if_neg z1, if_neg z2] at hQ
        rw [z3] at z0 z1 z2 ⊢
        obtain ⟨a1, a2, a3⟩ := mx_20 (c := c') (by omega)
        have a4 := S0.2.1.2.2.2.2 c' hc'
        simp only [ax_W_cons, ax_I, ax_cmp, ax_ii, ax_ll, ax_li, ax_st1, ax_st2, ax_kl, ax_k2, ax_fit, ax_rtok, List.getElem?_cons_zero, List.getElem?_cons_succ, List.length_cons, List.length_nil, List.set_cons_zero, List.set_cons_succ, Nat.reduceAdd, Nat.reduceDiv, Nat.reduceMod, Nat.reduceMul, Nat.reduceLT, Nat.reduceLeDiff, Int32.reduceOfInt, Int64.reduceOfInt, true_and, and_true, and_self, true_or, or_true, false_implies, true_implies, not_false_eq_true, not_true_eq_false, Value.category, Nat.reduceEqDiff, Option.toList, List.cons_append, List.nil_append, List.drop_succ_cons, List.drop_zero, ax_qq_eq, ax_t_1473, ax_j_1473_25, ax_n_1473_25, ax_j_1473_38, ax_n_1473_38, ax_j_1473_55, ax_n_1473_55, ax_j_1473_69, ax_n_1473_69, ax_j_1473_78, ax_n_1473_78, kx_bt, c10, z0, z1, z2, w0, y1, mo_f, hal, a1, a2, a3, a4]
        exact hQ
theorem mp_share (Z : mZ es n st k p hc kd pm ht hs F1 F2 T C sh pl dn) (hht : zht p ht) (c m : Int32) (hQ : ∀ es', mq es st es' → Q (some (.int (zq_share p ht c m))) es') : ax_Mt (d + 10) 1504 [.ref 159, .int c, .int m] n sl es Q := by
  obtain ⟨E, S, hT, hdn, hA⟩ := Z
  obtain ⟨hal, hk, hp, hhs, hF, hK⟩ := id E
  unfold zq_share at hQ
  refine ax_Mt_go (m := ax_m_11_96) (ls := [some (.ref 159), some (.int c), some (.int m), none, none, none]) rfl ax_b_1504_0 (Nat.le_of_ble_eq_true rfl) rfl ?_
  refine mk_thrown hal hK.1 rfl ?_
  intro es0 h0
  have E0 := mE_th E h0
  have S0 := mS_th S h0
  have hQ := hQ es0 (mq_of h0 (mfr_rf _) S0.1 (mfq_rf _) hA)
  have c10 : ¬ (1 : Int32) = 0 := by decide
  simp only [ax_W_cons, ax_I, ax_cmp, ax_ii, ax_ll, ax_li, ax_st1, ax_st2, ax_kl, ax_k2, ax_fit, ax_rtok, List.getElem?_cons_zero, List.getElem?_cons_succ, List.length_cons, List.length_nil, List.set_cons_zero, List.set_cons_succ, Nat.reduceAdd, Nat.reduceDiv, Nat.reduceMod, Nat.reduceMul, Nat.reduceLT, Nat.reduceLeDiff, Int32.reduceOfInt, Int64.reduceOfInt, true_and, and_true, and_self, true_or, or_true, false_implies, true_implies, not_false_eq_true, not_true_eq_false, Value.category, Nat.reduceEqDiff, Option.toList, List.cons_append, List.nil_append, List.drop_succ_cons, List.drop_zero, ax_qq_eq, ax_t_1504]
  refine ax_inv_of (Nat.le_of_ble_eq_true rfl) (Nat.le_of_ble_eq_true rfl) (fun _ => mE_rcv E0 _) (fun h => absurd h (by decide)) (Nat.le_refl _) (Nat.le_refl _) (mk_isCourtier hal hp E0.2.2.2.2.2 c ?_)
  cases h : kx_cell p c
  · rw [if_neg (fun z => by rw [h] at z; exact absurd z.1 (by decide))] at hQ
    simp only [ax_W_cons, ax_I, ax_cmp, ax_ii, ax_ll, ax_li, ax_st1, ax_st2, ax_kl, ax_k2, ax_fit, ax_rtok, List.getElem?_cons_zero, List.getElem?_cons_succ, List.length_cons, List.length_nil, List.set_cons_zero, List.set_cons_succ, Nat.reduceAdd, Nat.reduceDiv, Nat.reduceMod, Nat.reduceMul, Nat.reduceLT, Nat.reduceLeDiff, Int32.reduceOfInt, Int64.reduceOfInt, true_and, and_true, and_self, true_or, or_true, false_implies, true_implies, not_false_eq_true, not_true_eq_false, Value.category, Nat.reduceEqDiff, Option.toList, List.cons_append, List.nil_append, List.drop_succ_cons, List.drop_zero, ax_qq_eq, ax_t_1504, ax_j_1504_23, ax_n_1504_23, kx_bf]
    exact hQ
  · simp only [ax_W_cons, ax_I, ax_cmp, ax_ii, ax_ll, ax_li, ax_st1, ax_st2, ax_kl, ax_k2, ax_fit, ax_rtok, List.getElem?_cons_zero, List.getElem?_cons_succ, List.length_cons, List.length_nil, List.set_cons_zero, List.set_cons_succ, Nat.reduceAdd, Nat.reduceDiv, Nat.reduceMod, Nat.reduceMul, Nat.reduceLT, Nat.reduceLeDiff, Int32.reduceOfInt, Int64.reduceOfInt, true_and, and_true, and_self, true_or, or_true, false_implies, true_implies, not_false_eq_true, not_true_eq_false, Value.category, Nat.reduceEqDiff, Option.toList, List.cons_append, List.nil_append, List.drop_succ_cons, List.drop_zero, ax_qq_eq, ax_t_1504, kx_bt, c10]
    refine ax_inv_of (Nat.le_of_ble_eq_true rfl) (Nat.le_of_ble_eq_true rfl) (fun _ => absurd ‹_› (by decide)) (fun h => absurd h (by decide)) (Nat.le_refl _) (Nat.le_refl _) (mk_within _ _ _ ?_)
    cases h2 : kx_in m 1 99
    · rw [if_neg (fun z => by rw [h2] at z; exact absurd z.2 (by decide))] at hQ
      simp only [ax_W_cons, ax_I, ax_cmp, ax_ii, ax_ll, ax_li, ax_st1, ax_st2, ax_kl, ax_k2, ax_fit, ax_rtok, List.getElem?_cons_zero, List.getElem?_cons_succ, List.length_cons, List.length_nil, List.set_cons_zero, List.set_cons_succ, Nat.reduceAdd, Nat.reduceDiv, Nat.reduceMod, Nat.reduceMul, Nat.reduceLT, Nat.reduceLeDiff, Int32.reduceOfInt, Int64.reduceOfInt, true_and, and_true, and_self, true_or, or_true, false_implies, true_implies, not_false_eq_true, not_true_eq_false, Value.category, Nat.reduceEqDiff, Option.toList, List.cons_append, List.nil_append, List.drop_succ_cons, List.drop_zero, ax_qq_eq, ax_t_1504, ax_j_1504_23, ax_n_1504_23, kx_bf]
      exact hQ
    · rw [if_pos ⟨h, h2⟩] at hQ
      obtain ⟨c', hc', rfl⟩ := kx_cell_in (by omega) h
      rw [nI_clamp (by omega)] at hQ
      have hp0 : ¬ nI p = 0 := nI_ne0 (by omega) (by omega)
      simp only [ax_W_cons, ax_I, ax_cmp, ax_ii, ax_ll, ax_li, ax_st1, ax_st2, ax_kl, ax_k2, ax_fit, ax_rtok, List.getElem?_cons_zero, List.getElem?_cons_succ, List.length_cons, List.length_nil, List.set_cons_zero, List.set_cons_succ, Nat.reduceAdd, Nat.reduceDiv, Nat.reduceMod, Nat.reduceMul, Nat.reduceLT, Nat.reduceLeDiff, Int32.reduceOfInt, Int64.reduceOfInt, true_and, and_true, and_self, true_or, or_true, false_implies, true_implies, not_false_eq_true, not_true_eq_false, Value.category, Nat.reduceEqDiff, Option.toList, List.cons_append, List.nil_append, List.drop_succ_cons, List.drop_zero, ax_qq_eq, ax_t_1504, ax_j_1504_25, ax_n_1504_25, kx_bt, c10]
      rw [ax_n_1504_30]
      refine kx_loop (k := p) (I := fun x => ax_W (d + 10) n sl 1504 [(2, .iload 4), (1, .aload 0), (3, .invokeinterface 1451 5), (3, .if_icmp .ge 55), (1, .iload 3), (1, .aload 0), (2, .iload 4), (1, .iconst 2), (3, .invokeinterface 1452 13), (1, .iadd), (1, .istore 3), (3, .iinc 4 1), (3, .goto 30)] 30 [some (.ref 159), some (.int (nI c')), some (.int m), some (.int (kx_sum ht x)), some (.int (nI x)), none] [] n sl es0 (ax_qq n sl Q)) ?_ ?_
      · have e0 := kx_nn (k := p) (by omega)
        obtain ⟨s, hs1, es1⟩ := kx_sum_in (p := p) (f := ht) (B := 9) hht p (Nat.le_refl _)
        have hs2 : s ≤ 54 := by omega
        have hpart : ∀ i, kx_part ht m (kx_sum ht p) i = if kx_sum ht p = 0 then 0 else m * ht i / kx_sum ht p := fun i => by
          unfold kx_part
          rw [es1]
          by_cases h9 : s = 0
          · rw [h9, if_neg (by decide), if_pos (by decide)]
          · rw [if_pos (show (0 : Int32) < nI s from nI_lt (a := 0) (by omega) (by omega)), if_neg (nI_ne0 (by omega) (by omega))]
        generalize hA9 : kx_sum ht p = A at hQ hpart ⊢
        simp only [ax_W_cons, ax_I, ax_cmp, ax_ii, ax_ll, ax_li, ax_st1, ax_st2, ax_kl, ax_k2, ax_fit, ax_rtok, List.getElem?_cons_zero, List.getElem?_cons_succ, List.length_cons, List.length_nil, List.set_cons_zero, List.set_cons_succ, Nat.reduceAdd, Nat.reduceDiv, Nat.reduceMod, Nat.reduceMul, Nat.reduceLT, Nat.reduceLeDiff, Int32.reduceOfInt, Int64.reduceOfInt, true_and, and_true, and_self, true_or, or_true, false_implies, true_implies, not_false_eq_true, not_true_eq_false, Value.category, Nat.reduceEqDiff, Option.toList, List.cons_append, List.nil_append, List.drop_succ_cons, List.drop_zero, ax_qq_eq, ax_t_1504]
        refine ax_inv_of (Nat.le_of_ble_eq_true rfl) (Nat.le_of_ble_eq_true rfl) (fun _ => mE_rcv E0 _) (fun h => absurd h (by decide)) (Nat.le_refl _) (Nat.le_refl _) (mk_courtiers hal E0.2.2.2.2.2 ?_)
        simp only [ax_W_cons, ax_I, ax_cmp, ax_ii, ax_ll, ax_li, ax_st1, ax_st2, ax_kl, ax_k2, ax_fit, ax_rtok, List.getElem?_cons_zero, List.getElem?_cons_succ, List.length_cons, List.length_nil, List.set_cons_zero, List.set_cons_succ, Nat.reduceAdd, Nat.reduceDiv, Nat.reduceMod, Nat.reduceMul, Nat.reduceLT, Nat.reduceLeDiff, Int32.reduceOfInt, Int64.reduceOfInt, true_and, and_true, and_self, true_or, or_true, false_implies, true_implies, not_false_eq_true, not_true_eq_false, Value.category, Nat.reduceEqDiff, Option.toList, List.cons_append, List.nil_append, List.drop_succ_cons, List.drop_zero, ax_qq_eq, ax_t_1504, ax_j_1504_55, ax_n_1504_55, e0]
        rw [ax_n_1504_61]
        refine kx_loop (k := p) (I := fun x => ax_W (d + 10) n sl 1504 [(2, .iload 5), (1, .aload 0), (3, .invokeinterface 1451 5), (3, .if_icmp .ge 100), (2, .iload 4), (1, .iload 3), (3, .ifCond .ne 80), (1, .iconst 0), (3, .goto 91)] 61 [some (.ref 159), some (.int (nI c')), some (.int m), some (.int A), some (.int (kx_left ht m A x)), some (.int (nI x))] [] n sl es0 (ax_qq n sl Q)) ?_ ?_
        · rw [hpart] at hQ
          generalize kx_left ht m A p = Lf at hQ ⊢
          simp only [ax_W_cons, ax_I, ax_cmp, ax_ii, ax_ll, ax_li, ax_st1, ax_st2, ax_kl, ax_k2, ax_fit, ax_rtok, List.getElem?_cons_zero, List.getElem?_cons_succ, List.length_cons, List.length_nil, List.set_cons_zero, List.set_cons_succ, Nat.reduceAdd, Nat.reduceDiv, Nat.reduceMod, Nat.reduceMul, Nat.reduceLT, Nat.reduceLeDiff, Int32.reduceOfInt, Int64.reduceOfInt, true_and, and_true, and_self, true_or, or_true, false_implies, true_implies, not_false_eq_true, not_true_eq_false, Value.category, Nat.reduceEqDiff, Option.toList, List.cons_append, List.nil_append, List.drop_succ_cons, List.drop_zero, ax_qq_eq, ax_t_1504]
          refine ax_inv_of (Nat.le_of_ble_eq_true rfl) (Nat.le_of_ble_eq_true rfl) (fun _ => mE_rcv E0 _) (fun h => absurd h (by decide)) (Nat.le_refl _) (Nat.le_refl _) (mk_courtiers hal E0.2.2.2.2.2 ?_)
          by_cases hA0 : A = 0
          · rw [if_pos hA0] at hQ
            simp only [ax_W_cons, ax_I, ax_cmp, ax_ii, ax_ll, ax_li, ax_st1, ax_st2, ax_kl, ax_k2, ax_fit, ax_rtok, List.getElem?_cons_zero, List.getElem?_cons_succ, List.length_cons, List.length_nil, List.set_cons_zero, List.set_cons_succ, Nat.reduceAdd, Nat.reduceDiv, Nat.reduceMod, Nat.reduceMul, Nat.reduceLT, Nat.reduceLeDiff, Int32.reduceOfInt, Int64.reduceOfInt, true_and, and_true, and_self, true_or, or_true, false_implies, true_implies, not_false_eq_true, not_true_eq_false, Value.category, Nat.reduceEqDiff, Option.toList, List.cons_append, List.nil_append, List.drop_succ_cons, List.drop_zero, ax_qq_eq, ax_t_1504, ax_j_1504_100, ax_n_1504_100, ax_j_1504_118, ax_n_1504_118, e0, hA0]
            refine ax_inv_of (Nat.le_of_ble_eq_true rfl) (Nat.le_of_ble_eq_true rfl) (fun _ => mE_rcv E0 _) (fun h => absurd h (by decide)) (Nat.le_refl _) (Nat.le_refl _) (mk_courtiers hal E0.2.2.2.2.2 ?_)
            simp only [ax_W_cons, ax_I, ax_cmp, ax_ii, ax_ll, ax_li, ax_st1, ax_st2, ax_kl, ax_k2, ax_fit, ax_rtok, List.getElem?_cons_zero, List.getElem?_cons_succ, List.length_cons, List.length_nil, List.set_cons_zero, List.set_cons_succ, Nat.reduceAdd, Nat.reduceDiv, Nat.reduceMod, Nat.reduceMul, Nat.reduceLT, Nat.reduceLeDiff, Int32.reduceOfInt, Int64.reduceOfInt, true_and, and_true, and_self, true_or, or_true, false_implies, true_implies, not_false_eq_true, not_true_eq_false, Value.category, Nat.reduceEqDiff, Option.toList, List.cons_append, List.nil_append, List.drop_succ_cons, List.drop_zero, ax_qq_eq, ax_t_1504, hp0]
            refine ax_inv_of (Nat.le_of_ble_eq_true rfl) (Nat.le_of_ble_eq_true rfl) (fun _ => mE_rcv E0 _) (fun h => absurd h (by decide)) (Nat.le_refl _) (Nat.le_refl _) (mk_courtiers hal E0.2.2.2.2.2 ?_)
            simp only [ax_W_cons, ax_I, ax_cmp, ax_ii, ax_ll, ax_li, ax_st1, ax_st2, ax_kl, ax_k2, ax_fit, ax_rtok, List.getElem?_cons_zero, List.getElem?_cons_succ, List.length_cons, List.length_nil, List.set_cons_zero, List.set_cons_succ, Nat.reduceAdd, Nat.reduceDiv, Nat.reduceMod, Nat.reduceMul, Nat.reduceLT, Nat.reduceLeDiff, Int32.reduceOfInt, Int64.reduceOfInt, true_and, and_true, and_self, true_or, or_true, false_implies, true_implies, not_false_eq_true, not_true_eq_false, Value.category, Nat.reduceEqDiff, Option.toList, List.cons_append, List.nil_append, List.drop_succ_cons, List.drop_zero, ax_qq_eq, ax_t_1504, ax_j_1504_145, ax_n_1504_145, ax_j_1504_146, ax_n_1504_146, hp0]
            refine ⟨fun h8 => ?_, fun h8 => ?_⟩
            · rw [if_neg (by rw [kx_nlt]; exact h8)] at hQ
              exact hQ
            · rw [kx_nle] at h8
              rw [if_pos h8] at hQ
              exact hQ
          · rw [if_neg hA0] at hQ
            simp only [ax_W_cons, ax_I, ax_cmp, ax_ii, ax_ll, ax_li, ax_st1, ax_st2, ax_kl, ax_k2, ax_fit, ax_rtok, List.getElem?_cons_zero, List.getElem?_cons_succ, List.length_cons, List.length_nil, List.set_cons_zero, List.set_cons_succ, Nat.reduceAdd, Nat.reduceDiv, Nat.reduceMod, Nat.reduceMul, Nat.reduceLT, Nat.reduceLeDiff, Int32.reduceOfInt, Int64.reduceOfInt, true_and, and_true, and_self, true_or, or_true, false_implies, true_implies, not_false_eq_true, not_true_eq_false, Value.category, Nat.reduceEqDiff, Option.toList, List.cons_append, List.nil_append, List.drop_succ_cons, List.drop_zero, ax_qq_eq, ax_t_1504, ax_j_1504_100, ax_n_1504_100, ax_j_1504_108, ax_n_1504_108, e0, hA0]
            refine ax_inv_of (Nat.le_of_ble_eq_true rfl) (Nat.le_of_ble_eq_true rfl) (fun _ => mE_rcv E0 _) (fun h => absurd h (by decide)) (Nat.le_refl _) (Nat.le_refl _) (mk_courtierOf hal E0.2.2.2.2.2 hp hc' (w := 2) (by decide) ?_)
            simp only [ax_W_cons, ax_I, ax_cmp, ax_ii, ax_ll, ax_li, ax_st1, ax_st2, ax_kl, ax_k2, ax_fit, ax_rtok, List.getElem?_cons_zero, List.getElem?_cons_succ, List.length_cons, List.length_nil, List.set_cons_zero, List.set_cons_succ, Nat.reduceAdd, Nat.reduceDiv, Nat.reduceMod, Nat.reduceMul, Nat.reduceLT, Nat.reduceLeDiff, Int32.reduceOfInt, Int64.reduceOfInt, true_and, and_true, and_self, true_or, or_true, false_implies, true_implies, not_false_eq_true, not_true_eq_false, Value.category, Nat.reduceEqDiff, Option.toList, List.cons_append, List.nil_append, List.drop_succ_cons, List.drop_zero, ax_qq_eq, ax_t_1504, ax_j_1504_118, ax_n_1504_118, hA0]
            refine ax_inv_of (Nat.le_of_ble_eq_true rfl) (Nat.le_of_ble_eq_true rfl) (fun _ => mE_rcv E0 _) (fun h => absurd h (by decide)) (Nat.le_refl _) (Nat.le_refl _) (mk_courtiers hal E0.2.2.2.2.2 ?_)
            simp only [ax_W_cons, ax_I, ax_cmp, ax_ii, ax_ll, ax_li, ax_st1, ax_st2, ax_kl, ax_k2, ax_fit, ax_rtok, List.getElem?_cons_zero, List.getElem?_cons_succ, List.length_cons, List.length_nil, List.set_cons_zero, List.set_cons_succ, Nat.reduceAdd, Nat.reduceDiv, Nat.reduceMod, Nat.reduceMul, Nat.reduceLT, Nat.reduceLeDiff, Int32.reduceOfInt, Int64.reduceOfInt, true_and, and_true, and_self, true_or, or_true, false_implies, true_implies, not_false_eq_true, not_true_eq_false, Value.category, Nat.reduceEqDiff, Option.toList, List.cons_append, List.nil_append, List.drop_succ_cons, List.drop_zero, ax_qq_eq, ax_t_1504, hp0]
            refine ax_inv_of (Nat.le_of_ble_eq_true rfl) (Nat.le_of_ble_eq_true rfl) (fun _ => mE_rcv E0 _) (fun h => absurd h (by decide)) (Nat.le_refl _) (Nat.le_refl _) (mk_courtiers hal E0.2.2.2.2.2 ?_)
            simp only [ax_W_cons, ax_I, ax_cmp, ax_ii, ax_ll, ax_li, ax_st1, ax_st2, ax_kl, ax_k2, ax_fit, ax_rtok, List.getElem?_cons_zero, List.getElem?_cons_succ, List.length_cons, List.length_nil, List.set_cons_zero, List.set_cons_succ, Nat.reduceAdd, Nat.reduceDiv, Nat.reduceMod, Nat.reduceMul, Nat.reduceLT, Nat.reduceLeDiff, Int32.reduceOfInt, Int64.reduceOfInt, true_and, and_true, and_self, true_or, or_true, false_implies, true_implies, not_false_eq_true, not_true_eq_false, Value.category, Nat.reduceEqDiff, Option.toList, List.cons_append, List.nil_append, List.drop_succ_cons, List.drop_zero, ax_qq_eq, ax_t_1504, ax_j_1504_145, ax_n_1504_145, ax_j_1504_146, ax_n_1504_146, hp0]
            refine ⟨fun h8 => ?_, fun h8 => ?_⟩
            · rw [if_neg (by rw [kx_nlt]; exact h8)] at hQ
              exact hQ
            · rw [kx_nle] at h8
              rw [if_pos h8] at hQ
              exact hQ
        · intro x hx ih
          obtain ⟨q1, -, -, q4⟩ := kx_ix hx hp (by decide)
          rw [kx_left, hpart] at ih
          simp only [ax_W_cons, ax_I, ax_cmp, ax_ii, ax_ll, ax_li, ax_st1, ax_st2, ax_kl, ax_k2, ax_fit, ax_rtok, List.getElem?_cons_zero, List.getElem?_cons_succ, List.length_cons, List.length_nil, List.set_cons_zero, List.set_cons_succ, Nat.reduceAdd, Nat.reduceDiv, Nat.reduceMod, Nat.reduceMul, Nat.reduceLT, Nat.reduceLeDiff, Int32.reduceOfInt, Int64.reduceOfInt, true_and, and_true, and_self, true_or, or_true, false_implies, true_implies, not_false_eq_true, not_true_eq_false, Value.category, Nat.reduceEqDiff, Option.toList, List.cons_append, List.nil_append, List.drop_succ_cons, List.drop_zero, ax_qq_eq, ax_t_1504]
          refine ax_inv_of (Nat.le_of_ble_eq_true rfl) (Nat.le_of_ble_eq_true rfl) (fun _ => mE_rcv E0 _) (fun h => absurd h (by decide)) (Nat.le_refl _) (Nat.le_refl _) (mk_courtiers hal E0.2.2.2.2.2 ?_)
          by_cases hA0 : A = 0
          · rw [if_pos hA0] at ih
            simp only [ax_W_cons, ax_I, ax_cmp, ax_ii, ax_ll, ax_li, ax_st1, ax_st2, ax_kl, ax_k2, ax_fit, ax_rtok, List.getElem?_cons_zero, List.getElem?_cons_succ, List.length_cons, List.length_nil, List.set_cons_zero, List.set_cons_succ, Nat.reduceAdd, Nat.reduceDiv, Nat.reduceMod, Nat.reduceMul, Nat.reduceLT, Nat.reduceLeDiff, Int32.reduceOfInt, Int64.reduceOfInt, true_and, and_true, and_self, true_or, or_true, false_implies, true_implies, not_false_eq_true, not_true_eq_false, Value.category, Nat.reduceEqDiff, Option.toList, List.cons_append, List.nil_append, List.drop_succ_cons, List.drop_zero, ax_qq_eq, ax_t_1504, ax_j_1504_91, ax_n_1504_91, q1, hA0, q4]
            rw [ax_j_1504_61]
            rw [hA0] at ih
            exact ih
          · rw [if_neg hA0] at ih
            simp only [ax_W_cons, ax_I, ax_cmp, ax_ii, ax_ll, ax_li, ax_st1, ax_st2, ax_kl, ax_k2, ax_fit, ax_rtok, List.getElem?_cons_zero, List.getElem?_cons_succ, List.length_cons, List.length_nil, List.set_cons_zero, List.set_cons_succ, Nat.reduceAdd, Nat.reduceDiv, Nat.reduceMod, Nat.reduceMul, Nat.reduceLT, Nat.reduceLeDiff, Int32.reduceOfInt, Int64.reduceOfInt, true_and, and_true, and_self, true_or, or_true, false_implies, true_implies, not_false_eq_true, not_true_eq_false, Value.category, Nat.reduceEqDiff, Option.toList, List.cons_append, List.nil_append, List.drop_succ_cons, List.drop_zero, ax_qq_eq, ax_t_1504, ax_j_1504_80, ax_n_1504_80, q1, hA0]
            refine ax_inv_of (Nat.le_of_ble_eq_true rfl) (Nat.le_of_ble_eq_true rfl) (fun _ => mE_rcv E0 _) (fun h => absurd h (by decide)) (Nat.le_refl _) (Nat.le_refl _) (mk_courtierOf hal E0.2.2.2.2.2 hp hx (w := 2) (by decide) ?_)
            simp only [ax_W_cons, ax_I, ax_cmp, ax_ii, ax_ll, ax_li, ax_st1, ax_st2, ax_kl, ax_k2, ax_fit, ax_rtok, List.getElem?_cons_zero, List.getElem?_cons_succ, List.length_cons, List.length_nil, List.set_cons_zero, List.set_cons_succ, Nat.reduceAdd, Nat.reduceDiv, Nat.reduceMod, Nat.reduceMul, Nat.reduceLT, Nat.reduceLeDiff, Int32.reduceOfInt, Int64.reduceOfInt, true_and, and_true, and_self, true_or, or_true, false_implies, true_implies, not_false_eq_true, not_true_eq_false, Value.category, Nat.reduceEqDiff, Option.toList, List.cons_append, List.nil_append, List.drop_succ_cons, List.drop_zero, ax_qq_eq, ax_t_1504, ax_j_1504_91, ax_n_1504_91, hA0, q4]
            rw [ax_j_1504_61]
            exact ih
      · intro x hx ih
        obtain ⟨q1, -, -, q4⟩ := kx_ix hx hp (by decide)
        simp only [ax_W_cons, ax_I, ax_cmp, ax_ii, ax_ll, ax_li, ax_st1, ax_st2, ax_kl, ax_k2, ax_fit, ax_rtok, List.getElem?_cons_zero, List.getElem?_cons_succ, List.length_cons, List.length_nil, List.set_cons_zero, List.set_cons_succ, Nat.reduceAdd, Nat.reduceDiv, Nat.reduceMod, Nat.reduceMul, Nat.reduceLT, Nat.reduceLeDiff, Int32.reduceOfInt, Int64.reduceOfInt, true_and, and_true, and_self, true_or, or_true, false_implies, true_implies, not_false_eq_true, not_true_eq_false, Value.category, Nat.reduceEqDiff, Option.toList, List.cons_append, List.nil_append, List.drop_succ_cons, List.drop_zero, ax_qq_eq, ax_t_1504]
        refine ax_inv_of (Nat.le_of_ble_eq_true rfl) (Nat.le_of_ble_eq_true rfl) (fun _ => mE_rcv E0 _) (fun h => absurd h (by decide)) (Nat.le_refl _) (Nat.le_refl _) (mk_courtiers hal E0.2.2.2.2.2 ?_)
        simp only [ax_W_cons, ax_I, ax_cmp, ax_ii, ax_ll, ax_li, ax_st1, ax_st2, ax_kl, ax_k2, ax_fit, ax_rtok, List.getElem?_cons_zero, List.getElem?_cons_succ, List.length_cons, List.length_nil, List.set_cons_zero, List.set_cons_succ, Nat.reduceAdd, Nat.reduceDiv, Nat.reduceMod, Nat.reduceMul, Nat.reduceLT, Nat.reduceLeDiff, Int32.reduceOfInt, Int64.reduceOfInt, true_and, and_true, and_self, true_or, or_true, false_implies, true_implies, not_false_eq_true, not_true_eq_false, Value.category, Nat.reduceEqDiff, Option.toList, List.cons_append, List.nil_append, List.drop_succ_cons, List.drop_zero, ax_qq_eq, ax_t_1504, q1]
        refine ax_inv_of (Nat.le_of_ble_eq_true rfl) (Nat.le_of_ble_eq_true rfl) (fun _ => mE_rcv E0 _) (fun h => absurd h (by decide)) (Nat.le_refl _) (Nat.le_refl _) (mk_courtierOf hal E0.2.2.2.2.2 hp hx (w := 2) (by decide) ?_)
        simp only [ax_W_cons, ax_I, ax_cmp, ax_ii, ax_ll, ax_li, ax_st1, ax_st2, ax_kl, ax_k2, ax_fit, ax_rtok, List.getElem?_cons_zero, List.getElem?_cons_succ, List.length_cons, List.length_nil, List.set_cons_zero, List.set_cons_succ, Nat.reduceAdd, Nat.reduceDiv, Nat.reduceMod, Nat.reduceMul, Nat.reduceLT, Nat.reduceLeDiff, Int32.reduceOfInt, Int64.reduceOfInt, true_and, and_true, and_self, true_or, or_true, false_implies, true_implies, not_false_eq_true, not_true_eq_false, Value.category, Nat.reduceEqDiff, Option.toList, List.cons_append, List.nil_append, List.drop_succ_cons, List.drop_zero, ax_qq_eq, ax_t_1504, q4]
        rw [ax_j_1504_30]
        exact ih
theorem mk_getsBy (a c x l g : Int32) (hQ : Q (some (.int (ax_pay a c x l g))) es) : ax_Mt d 1511 [.int a, .int c, .int x, .int l, .int g] n sl es Q := by
  unfold ax_pay at hQ
  refine ax_Mt_go (m := ax_m_11_103) (ls := [some (.int a), some (.int c), some (.int x), some (.int l), some (.int g)]) rfl ax_b_1511_0 (Nat.le_of_ble_eq_true rfl) rfl ?_
  simp only [ax_W_cons, ax_I, ax_cmp, ax_ii, ax_ll, ax_li, ax_st1, ax_st2, ax_kl, ax_k2, ax_fit, ax_rtok, List.getElem?_cons_zero, List.getElem?_cons_succ, List.length_cons, List.length_nil, List.set_cons_zero, List.set_cons_succ, Nat.reduceAdd, Nat.reduceDiv, Nat.reduceMod, Nat.reduceMul, Nat.reduceLT, Nat.reduceLeDiff, Int32.reduceOfInt, Int64.reduceOfInt, true_and, and_true, and_self, true_or, or_true, false_implies, true_implies, not_false_eq_true, not_true_eq_false, Value.category, Nat.reduceEqDiff, Option.toList, List.cons_append, List.nil_append, List.drop_succ_cons, List.drop_zero, ax_qq_eq, ax_t_1511, ax_j_1511_14, ax_n_1511_14, ax_j_1511_19, ax_n_1511_19, ax_j_1511_29, ax_n_1511_29, ax_j_1511_30, ax_n_1511_30]
  refine ⟨fun h1 => ⟨fun h2 => ?_, fun h2 => ?_⟩, fun h1 => ⟨fun h2 => ?_, fun h2 => ?_⟩⟩
  · rw [if_neg h1, if_neg h2] at hQ
    exact hQ
  · simp only [Classical.not_not] at h2
    rw [if_neg h1, if_pos h2] at hQ
    exact hQ
  · simp only [Classical.not_not] at h1
    rw [if_pos h1, if_neg h2] at hQ
    exact hQ
  · simp only [Classical.not_not] at h1 h2
    rw [if_pos h1, if_pos h2] at hQ
    exact hQ
end MM
