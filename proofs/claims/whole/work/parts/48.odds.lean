/-! the reference: chance -/
def zq_chance (F1 : Int32 → Int32 → Int32 → Int32 → Int32) (k : Nat) (cr : Int32) (T : Nat) (sh : Nat → Int32) (c b o : Int32) : Int32 := if kx_op k cr c = true ∧ kx_in b 1 6 = true ∧ kx_in o 0 10 = true then kx_ten (kx_ml (fun x => kx_wt (kx_bit (nI x)) o b.toNatClampNeg) (fun x => decide (0 < kx_dh F1 k cr (kx_bit (nI x)) T sh b.toNatClampNeg c.toNatClampNeg)) (2 ^ b.toNatClampNeg)) (6 - b.toNatClampNeg) else -1
def mo_wt (H : Nat → Bool) (o : Nat) : Nat → Nat
  | 0 => 1
  | m + 1 => mo_wt H o m * (if H m = true then o else 10 - o)
theorem mx_10 {o : Nat} (ho : o ≤ 10) : (10 : Int32) - nI o = nI (10 - o) := by
  have : ∀ o : Fin 11, (10 : Int32) - nI o.val = nI (10 - o.val) := by decide +kernel
  exact this ⟨o, by omega⟩
theorem mo_wt_eq {H : Nat → Bool} {o : Nat} (ho : o ≤ 10) : ∀ m, kx_wt H (nI o) m = nI (mo_wt H o m)
  | 0 => rfl
  | m + 1 => by
    rw [kx_wt, mo_wt, mo_wt_eq ho m, mx_10 ho]
    split <;> exact kn_mul _ _
theorem mo_wt_le {H : Nat → Bool} {o : Nat} (ho : o ≤ 10) : ∀ m, mo_wt H o m ≤ 10 ^ m
  | 0 => Nat.le_refl _
  | m + 1 => by
    rw [mo_wt, Nat.pow_succ]
    exact Nat.mul_le_mul (mo_wt_le ho m) (by split <;> omega)
def mo_ml (W : Nat → Nat) (S : Nat → Bool) : Nat → Nat
  | 0 => 0
  | m + 1 => if S m = true then mo_ml W S m + W m else mo_ml W S m
theorem mo_ml_eq {W : Nat → Nat} {S : Nat → Bool} (hW : ∀ x, W x < 2 ^ 31) : ∀ m, kx_ml (fun x => nI (W x)) S m = nI (mo_ml W S m)
  | 0 => rfl
  | m + 1 => by
    rw [kx_ml, mo_ml, mo_ml_eq hW m]
    by_cases hS : S m = true
    · rw [if_pos hS]
      by_cases h0 : 0 < W m
      · rw [if_pos ⟨show (0 : Int32) < nI (W m) from nI_lt (a := 0) h0 (hW m), hS⟩, kn_add]
      · have e : W m = 0 := by omega
        rw [if_neg (fun z => by rw [e] at z; exact absurd z.1 (by decide)), e]
        rfl
    · rw [if_neg hS, if_neg (fun z => hS z.2)]
theorem mo_ml_le {W : Nat → Nat} {S : Nat → Bool} {B : Nat} (hW : ∀ x, W x ≤ B) : ∀ m, mo_ml W S m ≤ B * m
  | 0 => Nat.zero_le _
  | m + 1 => by
    have ih := mo_ml_le (S := S) hW m
    have := hW m
    rw [mo_ml, Nat.mul_add]
    split <;> omega
theorem kx_ten_eq (s : Nat) : ∀ m, kx_ten (nI s) m = nI (s * 10 ^ m)
  | 0 => by
    rw [kx_ten, Nat.pow_zero, Nat.mul_one]
  | m + 1 => by
    rw [kx_ten, kx_ten_eq s m, Nat.pow_succ, ← Nat.mul_assoc]
    exact kn_mul _ 10
theorem kx_bit_eq {x i : Nat} (hi : i < 31) : kx_bit (nI x) i = x.testBit i := kc_ck (C := x) hi
section MM
variable {d n sl k p hc : Nat} {es : ax_H} {kd pm ht hs : Nat → Int32} {F1 F2 : Int32 → Int32 → Int32 → Int32 → Int32} {st : Nat → Int32} {b T C z : Nat} {sh pl dn fc fb fs : Nat → Int32} {Q : Option Value → ax_H → Prop}
set_option maxRecDepth 20000 in
theorem mp_chance (Z : mZ es n st k p hc kd pm ht hs F1 F2 T C sh pl dn) (c m o : Int32) (hQ : ∀ es', mq es st es' → Q (some (.int (zq_chance F1 k (nI C) T sh c m o))) es') : ax_Mt (d + 10) 1510 [.ref 159, .int c, .int m, .int o] n sl es Q := by
  obtain ⟨E, S, hT, hdn, hA⟩ := Z
  obtain ⟨hal, hk, hp, hhs, hF, hK⟩ := id E
  unfold zq_chance at hQ
  refine ax_Mt_go (m := ax_m_11_102) (ls := [some (.ref 159), some (.int c), some (.int m), some (.int o), none, none, none, none, none, none, none, none, none]) rfl ax_b_1510_0 (Nat.le_of_ble_eq_true rfl) rfl ?_
  refine mk_thrown hal hK.1 rfl ?_
  intro es0 h0
  have E0 := mE_th E h0
  have S0 := mS_th S h0
  have no : ¬ (kx_op k (nI C) c = true ∧ kx_in m 1 6 = true ∧ kx_in o 0 10 = true) → ax_J ax_W (d + 10) n sl 1510 34 [some (.ref 159), some (.int c), some (.int m), some (.int o), none, none, none, none, none, none, none, none, none] [] n sl es0 (ax_qq n sl Q) := by
    intro h
    rw [if_neg h] at hQ
    simp only [ax_W_cons, ax_I, ax_cmp, ax_ii, ax_ll, ax_li, ax_st1, ax_st2, ax_kl, ax_k2, ax_fit, ax_rtok, List.getElem?_cons_zero, List.getElem?_cons_succ, List.length_cons, List.length_nil, List.set_cons_zero, List.set_cons_succ, Nat.reduceAdd, Nat.reduceDiv, Nat.reduceMod, Nat.reduceMul, Nat.reduceLT, Nat.reduceLeDiff, Int32.reduceOfInt, Int64.reduceOfInt, true_and, and_true, and_self, true_or, or_true, false_implies, true_implies, not_false_eq_true, not_true_eq_false, Value.category, Nat.reduceEqDiff, Option.toList, List.cons_append, List.nil_append, List.drop_succ_cons, List.drop_zero, ax_qq_eq, ax_t_1510, ax_j_1510_34, ax_n_1510_34]
    exact hQ _ (mq_of h0 (mfr_rf _) S0.1 (mfq_rf _) hA)
  simp only [ax_W_cons, ax_I, ax_cmp, ax_ii, ax_ll, ax_li, ax_st1, ax_st2, ax_kl, ax_k2, ax_fit, ax_rtok, List.getElem?_cons_zero, List.getElem?_cons_succ, List.length_cons, List.length_nil, List.set_cons_zero, List.set_cons_succ, Nat.reduceAdd, Nat.reduceDiv, Nat.reduceMod, Nat.reduceMul, Nat.reduceLT, Nat.reduceLeDiff, Int32.reduceOfInt, Int64.reduceOfInt, true_and, and_true, and_self, true_or, or_true, false_implies, true_implies, not_false_eq_true, not_true_eq_false, Value.category, Nat.reduceEqDiff, Option.toList, List.cons_append, List.nil_append, List.drop_succ_cons, List.drop_zero, ax_qq_eq, ax_t_1510]
  refine ax_inv_of (Nat.le_of_ble_eq_true rfl) (Nat.le_of_ble_eq_true rfl) (fun _ => mE_rcv E0 _) (fun h => absurd h (by decide)) (Nat.le_refl _) (Nat.le_refl _) (mk_whole E0 S0 (b := 0) (by omega) c ?_)
  simp only [ax_W_cons, ax_I, ax_cmp, ax_ii, ax_ll, ax_li, ax_st1, ax_st2, ax_kl, ax_k2, ax_fit, ax_rtok, List.getElem?_cons_zero, List.getElem?_cons_succ, List.length_cons, List.length_nil, List.set_cons_zero, List.set_cons_succ, Nat.reduceAdd, Nat.reduceDiv, Nat.reduceMod, Nat.reduceMul, Nat.reduceLT, Nat.reduceLeDiff, Int32.reduceOfInt, Int64.reduceOfInt, true_and, and_true, and_self, true_or, or_true, false_implies, true_implies, not_false_eq_true, not_true_eq_false, Value.category, Nat.reduceEqDiff, Option.toList, List.cons_append, List.nil_append, List.drop_succ_cons, List.drop_zero, ax_qq_eq, ax_t_1510, kx_b0]
  refine ⟨fun h => no (fun z => by rw [h] at z; exact absurd z.1 (by decide)), fun h => ?_⟩
  refine ax_inv_of (Nat.le_of_ble_eq_true rfl) (Nat.le_of_ble_eq_true rfl) (fun _ => absurd ‹_› (by decide)) (fun h => absurd h (by decide)) (Nat.le_refl _) (Nat.le_refl _) (mk_within _ _ _ ?_)
  simp only [ax_W_cons, ax_I, ax_cmp, ax_ii, ax_ll, ax_li, ax_st1, ax_st2, ax_kl, ax_k2, ax_fit, ax_rtok, List.getElem?_cons_zero, List.getElem?_cons_succ, List.length_cons, List.length_nil, List.set_cons_zero, List.set_cons_succ, Nat.reduceAdd, Nat.reduceDiv, Nat.reduceMod, Nat.reduceMul, Nat.reduceLT, Nat.reduceLeDiff, Int32.reduceOfInt, Int64.reduceOfInt, true_and, and_true, and_self, true_or, or_true, false_implies, true_implies, not_false_eq_true, not_true_eq_false, Value.category, Nat.reduceEqDiff, Option.toList, List.cons_append, List.nil_append, List.drop_succ_cons, List.drop_zero, ax_qq_eq, ax_t_1510, kx_b0]
  refine ⟨fun h2 => no (fun z => by rw [h2] at z; exact absurd z.2.1 (by decide)), fun h2 => ?_⟩
  refine ax_inv_of (Nat.le_of_ble_eq_true rfl) (Nat.le_of_ble_eq_true rfl) (fun _ => absurd ‹_› (by decide)) (fun h => absurd h (by decide)) (Nat.le_refl _) (Nat.le_refl _) (mk_within _ _ _ ?_)
  simp only [ax_W_cons, ax_I, ax_cmp, ax_ii, ax_ll, ax_li, ax_st1, ax_st2, ax_kl, ax_k2, ax_fit, ax_rtok, List.getElem?_cons_zero, List.getElem?_cons_succ, List.length_cons, List.length_nil, List.set_cons_zero, List.set_cons_succ, Nat.reduceAdd, Nat.reduceDiv, Nat.reduceMod, Nat.reduceMul, Nat.reduceLT, Nat.reduceLeDiff, Int32.reduceOfInt, Int64.reduceOfInt, true_and, and_true, and_self, true_or, or_true, false_implies, true_implies, not_false_eq_true, not_true_eq_false, Value.category, Nat.reduceEqDiff, Option.toList, List.cons_append, List.nil_append, List.drop_succ_cons, List.drop_zero, ax_qq_eq, ax_t_1510, kx_b0]
  refine ⟨fun h3 => ?_, fun h3 => ?_⟩
  · have h : kx_op k (nI C) c = true := by simpa using h
    have h2 : kx_in m 1 6 = true := by simpa using h2
    have h3 : kx_in o 0 10 = true := by simpa using h3
    rw [if_pos ⟨h, h2, h3⟩] at hQ
    obtain ⟨c', hc', rfl, hB⟩ := kx_op_nI hk.2 h
    obtain ⟨m', hm1, hm', rfl⟩ := kx_in_nI (a := 1) (b := 6) (by decide) (by decide) h2
    obtain ⟨o', -, ho', rfl⟩ := kx_in_nI (a := 0) (b := 10) (by decide) (by decide) h3
    rw [nI_clamp (by omega), nI_clamp (by omega)] at hQ
    have hp6 : (10 : Nat) ^ m' ≤ 10 ^ 6 := Nat.pow_le_pow_right (by decide) hm'
    have hq6 : (2 : Nat) ^ m' ≤ 2 ^ 6 := Nat.pow_le_pow_right (by decide) hm'
    generalize hSd : (fun x => decide (0 < kx_dh F1 k (nI C) (kx_bit (nI x)) T sh m' c')) = SB at hQ
    have hSd : ∀ x, SB x = decide (0 < kx_dh F1 k (nI C) (kx_bit (nI x)) T sh m' c') := fun x => by rw [← hSd]
    have hWe : (fun x => kx_wt (kx_bit (nI x)) (nI o') m') = fun x => nI (mo_wt (kx_bit (nI x)) o' m') := by
      funext x
      exact mo_wt_eq ho' m'
    have hWl : ∀ x, mo_wt (kx_bit (nI x)) o' m' ≤ 10 ^ 6 := fun x => Nat.le_trans (mo_wt_le ho' m') hp6
    rw [hWe, mo_ml_eq (fun x => by have := hWl x; omega), kx_ten_eq] at hQ
    simp only [ax_W_cons, ax_I, ax_cmp, ax_ii, ax_ll, ax_li, ax_st1, ax_st2, ax_kl, ax_k2, ax_fit, ax_rtok, List.getElem?_cons_zero, List.getElem?_cons_succ, List.length_cons, List.length_nil, List.set_cons_zero, List.set_cons_succ, Nat.reduceAdd, Nat.reduceDiv, Nat.reduceMod, Nat.reduceMul, Nat.reduceLT, Nat.reduceLeDiff, Int32.reduceOfInt, Int64.reduceOfInt, true_and, and_true, and_self, true_or, or_true, false_implies, true_implies, not_false_eq_true, not_true_eq_false, Value.category, Nat.reduceEqDiff, Option.toList, List.cons_append, List.nil_append, List.drop_succ_cons, List.drop_zero, ax_qq_eq, ax_t_1510, ax_j_1510_36, ax_n_1510_36]
    rw [ax_n_1510_45]
    have L := kx_loop (k := m') (I := fun x => ax_W (d + 10) n sl 1510 [(2, .iload 8), (1, .iload 2), (3, .if_icmp .ge 65), (2, .lload 4), (3, .goto_w 10), (1, .lmul), (2, .lstore 4), (3, .iinc 8 1), (3, .goto 45)] 45 [some (.ref 159), some (.int (nI c')), some (.int (nI m')), some (.int (nI o')), some (.long (nL (10 ^ x))), none, some (.long (nL 0)), none, some (.int (nI x)), none, none, none, none] [] n sl es0 (ax_qq n sl Q)) ?_ ?_
    · exact L
    · have e0 := kx_nn (k := m') (by omega)
      simp only [ax_W_cons, ax_I, ax_cmp, ax_ii, ax_ll, ax_li, ax_st1, ax_st2, ax_kl, ax_k2, ax_fit, ax_rtok, List.getElem?_cons_zero, List.getElem?_cons_succ, List.length_cons, List.length_nil, List.set_cons_zero, List.set_cons_succ, Nat.reduceAdd, Nat.reduceDiv, Nat.reduceMod, Nat.reduceMul, Nat.reduceLT, Nat.reduceLeDiff, Int32.reduceOfInt, Int64.reduceOfInt, true_and, and_true, and_self, true_or, or_true, false_implies, true_implies, not_false_eq_true, not_true_eq_false, Value.category, Nat.reduceEqDiff, Option.toList, List.cons_append, List.nil_append, List.drop_succ_cons, List.drop_zero, ax_qq_eq, ax_t_1510, ax_j_1510_65, ax_n_1510_65, e0]
      rw [ax_n_1510_68]
      have L2 := kx_loop (k := 2 ^ m') (I := fun x => ∀ v9 v10 v11 v12 es1 st1, mfr es0 es1 → mfq st st1 → mX es1 st1 → ax_W (d + 10) n sl 1510 [(2, .iload 8), (1, .iconst 1), (1, .iload 2), (1, .ishl), (3, .if_icmp .ge 184), (1, .aload 0), (3, .invokeinterface 1483 5), (1, .goto_w 1), (2, .lstore 9), (1, .iconst 0), (2, .istore 11)] 68 [some (.ref 159), some (.int (nI c')), some (.int (nI m')), some (.int (nI o')), some (.long (nL (10 ^ m'))), none, some (.long (nL (mo_ml (fun x => mo_wt (kx_bit (nI x)) o' m') SB x))), none, some (.int (nI x)), v9, v10, v11, v12] [] n sl es1 (ax_qq n sl Q)) ?_ ?_
      · exact L2 none none none none es0 st (mfr_rf _) (mfq_rf _) S0.1
      · intro v9 v10 v11 v12 es1 st1 i1 i2 i3
        have e1 : (1 : Int32) <<< (nI m' &&& 31) = nI (2 ^ m') := kc_shl (by omega)
        have e2 := kx_nn (k := 2 ^ m') (by omega)
        have hml := mo_ml_le (W := fun x => mo_wt (kx_bit (nI x)) o' m') (S := SB) hWl (2 ^ m')
        generalize hs0 : mo_ml (fun x => mo_wt (kx_bit (nI x)) o' m') SB (2 ^ m') = s0 at hQ hml ⊢
        have hml2 : s0 ≤ 64000000 := Nat.le_trans hml (by
          have : 10 ^ 6 * 2 ^ m' ≤ 10 ^ 6 * 2 ^ 6 := Nat.mul_le_mul_left _ hq6
          exact this)
        have n1 : ¬ nL (10 ^ m') = 0 := nL_ne0 (Nat.pow_pos (by decide)) (by omega)
        have n2 : nL s0 * 1000000 = nL (s0 * 1000000) := nL_mul s0 1000000
        have n3 : nL (s0 * 1000000) / nL (10 ^ m') = nL (s0 * 10 ^ (6 - m')) := by
          rw [nL_div (by omega) (by omega)]
          congr 1
          have e : 1000000 = 10 ^ (6 - m') * 10 ^ m' := by
            rw [← Nat.pow_add, show 6 - m' + m' = 6 by omega]
          rw [e, ← Nat.mul_assoc, Nat.mul_div_cancel _ (Nat.pow_pos (by decide))]
        have n4 : (nL (s0 * 10 ^ (6 - m'))).toInt32 = nI (s0 * 10 ^ (6 - m')) := Int64.toInt32_ofNat'
        simp only [ax_W_cons, ax_I, ax_cmp, ax_ii, ax_ll, ax_li, ax_st1, ax_st2, ax_kl, ax_k2, ax_fit, ax_rtok, List.getElem?_cons_zero, List.getElem?_cons_succ, List.length_cons, List.length_nil, List.set_cons_zero, List.set_cons_succ, Nat.reduceAdd, Nat.reduceDiv, Nat.reduceMod, Nat.reduceMul, Nat.reduceLT, Nat.reduceLeDiff, Int32.reduceOfInt, Int64.reduceOfInt, true_and, and_true, and_self, true_or, or_true, false_implies, true_implies, not_false_eq_true, not_true_eq_false, Value.category, Nat.reduceEqDiff, Option.toList, List.cons_append, List.nil_append, List.drop_succ_cons, List.drop_zero, ax_qq_eq, ax_t_1510, ax_j_1510_184, ax_n_1510_184, e1, e2, n1, n2, n3, n4]
        exact hQ _ (mq_of h0 i1 i3 i2 hA)
      · intro x hx ih v9 v10 v11 v12 es1 st1 i1 i2 i3
        have e1 : (1 : Int32) <<< (nI m' &&& 31) = nI (2 ^ m') := kc_shl (by omega)
        have e2 : ¬ nI (2 ^ m') ≤ nI x := nI_ge hx (by omega)
        have x4 : nI x + 1 = nI (x + 1) := (nI_succ x).symm
        have E1 := mE_fr E0 i1
        have S1 := mS_q E S i2 i3
        rw [mo_ml] at ih
        generalize hs0 : mo_ml (fun x => mo_wt (kx_bit (nI x)) o' m') SB x = s0 at ih ⊢
        simp only [ax_W_cons, ax_I, ax_cmp, ax_ii, ax_ll, ax_li, ax_st1, ax_st2, ax_kl, ax_k2, ax_fit, ax_rtok, List.getElem?_cons_zero, List.getElem?_cons_succ, List.length_cons, List.length_nil, List.set_cons_zero, List.set_cons_succ, Nat.reduceAdd, Nat.reduceDiv, Nat.reduceMod, Nat.reduceMul, Nat.reduceLT, Nat.reduceLeDiff, Int32.reduceOfInt, Int64.reduceOfInt, true_and, and_true, and_self, true_or, or_true, false_implies, true_implies, not_false_eq_true, not_true_eq_false, Value.category, Nat.reduceEqDiff, Option.toList, List.cons_append, List.nil_append, List.drop_succ_cons, List.drop_zero, ax_qq_eq, ax_t_1510, e1, e2]
        refine ax_inv_of (Nat.le_of_ble_eq_true rfl) (Nat.le_of_ble_eq_true rfl) (fun _ => mE_rcv E1 _) (fun h => absurd h (by decide)) (Nat.le_refl _) (Nat.le_refl _) (mk_tries E1 S1 ?_)
        intro es2 st2 f1 f2 f3 f4
        simp only [ax_W_cons, ax_I, ax_cmp, ax_ii, ax_ll, ax_li, ax_st1, ax_st2, ax_kl, ax_k2, ax_fit, ax_rtok, List.getElem?_cons_zero, List.getElem?_cons_succ, List.length_cons, List.length_nil, List.set_cons_zero, List.set_cons_succ, Nat.reduceAdd, Nat.reduceDiv, Nat.reduceMod, Nat.reduceMul, Nat.reduceLT, Nat.reduceLeDiff, Int32.reduceOfInt, Int64.reduceOfInt, true_and, and_true, and_self, true_or, or_true, false_implies, true_implies, not_false_eq_true, not_true_eq_false, Value.category, Nat.reduceEqDiff, Option.toList, List.cons_append, List.nil_append, List.drop_succ_cons, List.drop_zero, ax_qq_eq, ax_t_1510]
        rw [ax_n_1510_86]
        have L3 := kx_loop (k := m') (I := fun y => ∀ v12 es3 st3 dn3, mfr es0 es3 → mfq st st3 → mS es3 st3 1092 k p (T + y) C (kx_dh F1 k (nI C) (kx_bit (nI x)) T sh y) pl dn3 → ax_W (d + 10) n sl 1510 [(2, .iload 11), (1, .iload 2), (3, .if_icmp .ge 154), (2, .iload 8), (2, .iload 11), (1, .ishr), (1, .iconst 1), (1, .iand), (1, .iconst 1), (3, .if_icmp .ne 107), (1, .iconst 1), (3, .goto 108)] 86 [some (.ref 159), some (.int (nI c')), some (.int (nI m')), some (.int (nI o')), some (.long (nL (10 ^ m'))), none, some (.long (nL s0)), none, some (.int (nI x)), some (.long (nL (mo_wt (kx_bit (nI x)) o' y))), none, some (.int (nI y)), v12] [] n sl es3 (ax_qq n sl Q)) ?_ ?_
        · exact L3 _ es2 st2 dn (mfr_trans i1 f1) (mfq_trans i2 (mfs_q (by omega) f2)) f3
        · intro v12 es3 st3 dn3 j1 j2 j3
          have E3 := mE_fr E0 j1
          obtain ⟨th, tp, sz, at0, fl, cd, nm, rm, on, fh, un, g, w0⟩ := id E3.2.2.2.2.2.1
          have y1 := j3.1.1
          obtain ⟨a1, a2, a3⟩ := mx_1094 (c := c') (by omega)
          have a4 := j3.2.1.2.2.1 c' hc'
          have e9 := kx_nn (k := m') (by omega)
          have hSx := hSd x
          by_cases h8 : 0 < kx_dh F1 k (nI C) (kx_bit (nI x)) T sh m' c'
          · have h7 : ¬ kx_dh F1 k (nI C) (kx_bit (nI x)) T sh m' c' ≤ 0 := kx_lt_nle h8
            rw [decide_eq_true h8] at hSx
            rw [if_pos hSx] at ih
            have n5 : nL s0 + nL (mo_wt (kx_bit (nI x)) o' m') = nL (s0 + mo_wt (kx_bit (nI x)) o' m') := nL_add _ _
            simp only [ax_W_cons, ax_I, ax_cmp, ax_ii, ax_ll, ax_li, ax_st1, ax_st2, ax_kl, ax_k2, ax_fit, ax_rtok, List.getElem?_cons_zero, List.getElem?_cons_succ, List.length_cons, List.length_nil, List.set_cons_zero, List.set_cons_succ, Nat.reduceAdd, Nat.reduceDiv, Nat.reduceMod, Nat.reduceMul, Nat.reduceLT, Nat.reduceLeDiff, Int32.reduceOfInt, Int64.reduceOfInt, true_and, and_true, and_self, true_or, or_true, false_implies, true_implies, not_false_eq_true, not_true_eq_false, Value.category, Nat.reduceEqDiff, Option.toList, List.cons_append, List.nil_append, List.drop_succ_cons, List.drop_zero, ax_qq_eq, ax_t_1510, ax_j_1510_154, ax_n_1510_154, ax_j_1510_175, ax_n_1510_175, w0, y1, mo_f, hal, e9, a1, a2, a3, a4, h7, n5, x4]
            rw [ax_j_1510_68]
            exact ih _ _ _ _ es3 st3 j1 j2 j3.1
          · have h7 : kx_dh F1 k (nI C) (kx_bit (nI x)) T sh m' c' ≤ 0 := by rw [← kx_nlt]; exact h8
            rw [decide_eq_false h8] at hSx
            rw [if_neg (by rw [hSx]; decide)] at ih
            have n5 : nL s0 + 0 = nL s0 := Int64.add_zero _
            simp only [ax_W_cons, ax_I, ax_cmp, ax_ii, ax_ll, ax_li, ax_st1, ax_st2, ax_kl, ax_k2, ax_fit, ax_rtok, List.getElem?_cons_zero, List.getElem?_cons_succ, List.length_cons, List.length_nil, List.set_cons_zero, List.set_cons_succ, Nat.reduceAdd, Nat.reduceDiv, Nat.reduceMod, Nat.reduceMul, Nat.reduceLT, Nat.reduceLeDiff, Int32.reduceOfInt, Int64.reduceOfInt, true_and, and_true, and_self, true_or, or_true, false_implies, true_implies, not_false_eq_true, not_true_eq_false, Value.category, Nat.reduceEqDiff, Option.toList, List.cons_append, List.nil_append, List.drop_succ_cons, List.drop_zero, ax_qq_eq, ax_t_1510, ax_j_1510_154, ax_n_1510_154, ax_j_1510_174, ax_n_1510_174, ax_j_1510_175, ax_n_1510_175, w0, y1, mo_f, hal, e9, a1, a2, a3, a4, h7, n5, x4]
            rw [ax_j_1510_68]
            exact ih _ _ _ _ es3 st3 j1 j2 j3.1
        · intro y hy ih3 v12 es3 st3 dn3 j1 j2 j3
          have E3 := mE_fr E0 j1
          have e9 : ¬ nI m' ≤ nI y := nI_ge hy (by omega)
          have y4 : nI y + 1 = nI (y + 1) := (nI_succ y).symm
          have e5 := kc_bit (C := x) (i := y) (by omega) (by omega)
          have hbe := kx_bit_eq (x := x) (i := y) (by omega)
          rw [mo_wt] at ih3
          have hdh : kx_dh F1 k (nI C) (kx_bit (nI x)) T sh (y + 1) = kx_rip F1 k (nI C) (if kx_bit (nI x) y = true then 5 else 0) (nI (T + y)) (kx_dh F1 k (nI C) (kx_bit (nI x)) T sh y) k := rfl
          rw [hdh] at ih3
          rw [hbe] at ih3
          generalize mo_wt (kx_bit (nI x)) o' y = u0 at ih3 ⊢
          cases hB : x.testBit y
          · rw [hB] at ih3 e5
            simp only [Bool.false_eq_true, if_false] at ih3
            have b1 : ¬ nI (Bool.toNat false) = 1 := by decide
            have b2 : (10 : Int32) - nI o' = nI (10 - o') := mx_10 ho'
            have b3 : (nI (10 - o')).toInt64 = nL (10 - o') := nI_64 (by omega)
            have b4 : nL u0 * nL (10 - o') = nL (u0 * (10 - o')) := nL_mul _ _
            simp only [ax_W_cons, ax_I, ax_cmp, ax_ii, ax_ll, ax_li, ax_st1, ax_st2, ax_kl, ax_k2, ax_fit, ax_rtok, List.getElem?_cons_zero, List.getElem?_cons_succ, List.length_cons, List.length_nil, List.set_cons_zero, List.set_cons_succ, Nat.reduceAdd, Nat.reduceDiv, Nat.reduceMod, Nat.reduceMul, Nat.reduceLT, Nat.reduceLeDiff, Int32.reduceOfInt, Int64.reduceOfInt, true_and, and_true, and_self, true_or, or_true, false_implies, true_implies, not_false_eq_true, not_true_eq_false, Value.category, Nat.reduceEqDiff, Option.toList, List.cons_append, List.nil_append, List.drop_succ_cons, List.drop_zero, ax_qq_eq, ax_t_1510, ax_j_1510_107, ax_n_1510_107, ax_j_1510_108, ax_n_1510_108, ax_j_1510_122, ax_n_1510_122, ax_j_1510_127, ax_n_1510_127, ax_j_1510_143, ax_n_1510_143, ax_j_1510_144, ax_n_1510_144, e9, e5, b1, b2, b3, b4]
            refine ax_inv_of (Nat.le_of_ble_eq_true rfl) (Nat.le_of_ble_eq_true rfl) (fun _ => mE_rcv E3 _) (fun h => absurd h (by decide)) (Nat.le_refl _) (Nat.le_refl _) (mk_passesH E3 j3 (b := 1092) (by omega) 0 ?_)
            intro es4 st4 g1 g2 g3
            simp only [ax_W_cons, ax_I, ax_cmp, ax_ii, ax_ll, ax_li, ax_st1, ax_st2, ax_kl, ax_k2, ax_fit, ax_rtok, List.getElem?_cons_zero, List.getElem?_cons_succ, List.length_cons, List.length_nil, List.set_cons_zero, List.set_cons_succ, Nat.reduceAdd, Nat.reduceDiv, Nat.reduceMod, Nat.reduceMul, Nat.reduceLT, Nat.reduceLeDiff, Int32.reduceOfInt, Int64.reduceOfInt, true_and, and_true, and_self, true_or, or_true, false_implies, true_implies, not_false_eq_true, not_true_eq_false, Value.category, Nat.reduceEqDiff, Option.toList, List.cons_append, List.nil_append, List.drop_succ_cons, List.drop_zero, ax_qq_eq, ax_t_1510, y4]
            rw [ax_j_1510_86]
            exact ih3 _ es4 st4 _ (mfr_trans j1 g1) (mfq_trans j2 (mfs_q (by omega) g2)) g3
          · rw [hB] at ih3 e5
            simp only [if_true] at ih3
            have b1 : nI (Bool.toNat true) = 1 := by decide
            have b0 : ¬ (1 : Int32) = 0 := by decide
            have b3 : (nI o').toInt64 = nL o' := nI_64 (by omega)
            have b4 : nL u0 * nL o' = nL (u0 * o') := nL_mul _ _
            simp only [ax_W_cons, ax_I, ax_cmp, ax_ii, ax_ll, ax_li, ax_st1, ax_st2, ax_kl, ax_k2, ax_fit, ax_rtok, List.getElem?_cons_zero, List.getElem?_cons_succ, List.length_cons, List.length_nil, List.set_cons_zero, List.set_cons_succ, Nat.reduceAdd, Nat.reduceDiv, Nat.reduceMod, Nat.reduceMul, Nat.reduceLT, Nat.reduceLeDiff, Int32.reduceOfInt, Int64.reduceOfInt, true_and, and_true, and_self, true_or, or_true, false_implies, true_implies, not_false_eq_true, not_true_eq_false, Value.category, Nat.reduceEqDiff, Option.toList, List.cons_append, List.nil_append, List.drop_succ_cons, List.drop_zero, ax_qq_eq, ax_t_1510, ax_j_1510_108, ax_n_1510_108, ax_j_1510_127, ax_n_1510_127, ax_j_1510_144, ax_n_1510_144, e9, e5, b1, b0, b3, b4]
            refine ax_inv_of (Nat.le_of_ble_eq_true rfl) (Nat.le_of_ble_eq_true rfl) (fun _ => mE_rcv E3 _) (fun h => absurd h (by decide)) (Nat.le_refl _) (Nat.le_refl _) (mk_passesH E3 j3 (b := 1092) (by omega) 5 ?_)
            intro es4 st4 g1 g2 g3
            simp only [ax_W_cons, ax_I, ax_cmp, ax_ii, ax_ll, ax_li, ax_st1, ax_st2, ax_kl, ax_k2, ax_fit, ax_rtok, List.getElem?_cons_zero, List.getElem?_cons_succ, List.length_cons, List.length_nil, List.set_cons_zero, List.set_cons_succ, Nat.reduceAdd, Nat.reduceDiv, Nat.reduceMod, Nat.reduceMul, Nat.reduceLT, Nat.reduceLeDiff, Int32.reduceOfInt, Int64.reduceOfInt, true_and, and_true, and_self, true_or, or_true, false_implies, true_implies, not_false_eq_true, not_true_eq_false, Value.category, Nat.reduceEqDiff, Option.toList, List.cons_append, List.nil_append, List.drop_succ_cons, List.drop_zero, ax_qq_eq, ax_t_1510, y4]
            rw [ax_j_1510_86]
            exact ih3 _ es4 st4 _ (mfr_trans j1 g1) (mfq_trans j2 (mfs_q (by omega) g2)) g3
    · intro x hx ih
      have e0 : ¬ nI m' ≤ nI x := nI_ge hx (by omega)
      have x4 : nI x + 1 = nI (x + 1) := (nI_succ x).symm
      have n1 : nL (10 ^ x) * 10 = nL (10 ^ (x + 1)) := by
        rw [Nat.pow_succ]
        exact nL_mul (10 ^ x) 10
      simp only [ax_W_cons, ax_I, ax_cmp, ax_ii, ax_ll, ax_li, ax_st1, ax_st2, ax_kl, ax_k2, ax_fit, ax_rtok, List.getElem?_cons_zero, List.getElem?_cons_succ, List.length_cons, List.length_nil, List.set_cons_zero, List.set_cons_succ, Nat.reduceAdd, Nat.reduceDiv, Nat.reduceMod, Nat.reduceMul, Nat.reduceLT, Nat.reduceLeDiff, Int32.reduceOfInt, Int64.reduceOfInt, true_and, and_true, and_self, true_or, or_true, false_implies, true_implies, not_false_eq_true, not_true_eq_false, Value.category, Nat.reduceEqDiff, Option.toList, List.cons_append, List.nil_append, List.drop_succ_cons, List.drop_zero, ax_qq_eq, ax_t_1510, e0, x4, n1]
      rw [ax_j_1510_45]
      exact ih
  · have h3 : kx_in o 0 10 = false := by simpa using h3
    have no := no (fun z => by rw [h3] at z; exact absurd z.2.2 (by decide))
    rw [ax_n_1510_34, ← ax_j_1510_34]
    exact no
end MM
