/-! the reference: what was felt; ways, look -/
def zfi (k z : Nat) (fc fb fs : Nat → Int32) : Prop := z ≤ 8 ∧ ∀ i, i < z → (∃ c, c < k ∧ fc i = nI c) ∧ (∃ b, b ≤ 12 ∧ fb i = nI b) ∧ ∃ s, s ≤ 99 ∧ fs i = nI s
def mFl (st : Nat → Int32) (z : Nat) (fc fb fs : Nat → Int32) : Prop := st 26 = nI z ∧ ∀ i, i < z → st (27 + 3 * i) = fc i ∧ st (27 + 3 * i + 1) = fb i ∧ st (27 + 3 * i + 2) = fs i
theorem mFl_q {st st' : Nat → Int32} {z : Nat} {fc fb fs : Nat → Int32} (hz : z ≤ 8) (h : mFl st z fc fb fs) (hf : mfq st st') : mFl st' z fc fb fs :=
  ⟨by rw [hf _ (by omega)]; exact h.1, fun i hi => ⟨by rw [hf _ (by omega)]; exact (h.2 i hi).1, by rw [hf _ (by omega)]; exact (h.2 i hi).2.1, by rw [hf _ (by omega)]; exact (h.2 i hi).2.2⟩⟩
theorem zfi_kfi {k z : Nat} {fc fb fs : Nat → Int32} (hk : k ≤ 12) (h : zfi k z fc fb fs) : kfi z fc fb := ⟨h.1, fun i hi => by
  obtain ⟨⟨c, hc, ec⟩, hb, -⟩ := h.2 i hi
  exact ⟨⟨c, by omega, ec⟩, hb⟩⟩
theorem kx_allb_iff {P : Nat → Bool} : ∀ m, (kx_allb P m = true ↔ ∀ i, i < m → P i = true)
  | 0 => ⟨fun _ i hi => by omega, fun _ => rfl⟩
  | m + 1 => by
    rw [kx_allb, Bool.and_eq_true, kx_allb_iff m]
    constructor
    · rintro ⟨h1, h2⟩ i hi
      by_cases e : i = m
      · rw [e]; exact h2
      · exact h1 i (by omega)
    · intro h
      exact ⟨fun i hi => h i (by omega), h m (by omega)⟩
theorem kx_last_ge {z : Nat} {fc fb : Nat → Int32} (h : kfi z fc fb) : ∀ m, m ≤ z → ∃ B, B ≤ 13 ∧ kx_last fb m = nI B - 1 ∧ ∀ i b, i < m → fb i = nI b → b ≤ 12 → b < B
  | 0, _ => ⟨0, by omega, (show (-1 : Int32) = nI 0 - 1 by decide), fun i b hi => by omega⟩
  | m + 1, hm => by
    obtain ⟨B, hB, e, hall⟩ := kx_last_ge h m (by omega)
    obtain ⟨-, b, hb, eb⟩ := h.2 m (by omega)
    rw [kx_last, e, eb]
    unfold kx_max
    have key : ∀ (B : Fin 14) (b : Fin 13), (nI B.val - 1 < nI b.val) = (B.val ≤ b.val) := by decide +kernel
    have key := key ⟨B, by omega⟩ ⟨b, by omega⟩
    dsimp only at key
    by_cases hle : B ≤ b
    · rw [if_pos (by rw [key]; exact hle)]
      refine ⟨b + 1, by omega, (nI_pred b).symm, fun i b' hi hb' hb12 => ?_⟩
      by_cases e2 : i = m
      · subst e2
        rw [eb] at hb'
        have := kn_inj (by omega) (by omega) hb'
        omega
      · have := hall i b' (by omega) hb' hb12
        omega
    · rw [if_neg (by rw [key]; exact hle)]
      refine ⟨B, hB, rfl, fun i b' hi hb' hb12 => ?_⟩
      by_cases e2 : i = m
      · subst e2
        rw [eb] at hb'
        have := kn_inj (by omega) (by omega) hb'
        omega
      · exact hall i b' (by omega) hb' hb12
theorem kx_lB_ge {z : Nat} {fc fb : Nat → Int32} (h : kfi z fc fb) {i b : Nat} (hi : i < z) (hb : fb i = nI b) (hb12 : b ≤ 12) : b < kx_lB fb z := by
  obtain ⟨B, hB, e, hall⟩ := kx_last_ge h z (Nat.le_refl _)
  have := hall i b hi hb hb12
  unfold kx_lB
  rw [e, Int32.sub_add_cancel, nI_clamp (by omega)]
  exact this
theorem mx_way {F : Int32 → Int32 → Int32 → Int32 → Int32} {k : Nat} {cr : Int32} {hs : Nat → Int32} {hc T : Nat} {sh fc fb fs : Nat → Int32} {z w f : Nat} (hk : k ≤ 12) (hi : zfi k z fc fb fs) : kx_way F k cr hs hc T sh fc fb fs z w f = (!kx_ck cr (nI w) && kx_allb (fun i => decide (kx_dr F k cr hs hc T (kx_push sh (nI w) (nI f)) (fb i).toNatClampNeg (fc i).toNatClampNeg = fs i)) z) := by
  unfold kx_way
  congr 1
  have hk2 := zfi_kfi hk hi
  rw [Bool.eq_iff_iff, kx_allb_iff, kx_allb_iff]
  constructor
  · intro h i hiz
    obtain ⟨-, ⟨b, hb, eb⟩, -⟩ := hi.2 i hiz
    have h1 := (kx_allb_iff z).mp (h b (kx_lB_ge hk2 hiz eb hb)) i hiz
    unfold kx_agr1 at h1
    rw [eb] at h1 ⊢
    rw [nI_clamp (by omega)]
    simpa using h1
  · intro h b hb
    rw [kx_allb_iff]
    intro i hiz
    have h1 := h i hiz
    unfold kx_agr1
    by_cases e : fb i = nI b
    · have hb31 : b < 2 ^ 31 := by
        obtain ⟨B, hB, e2, -⟩ := kx_last_ge hk2 z (Nat.le_refl _)
        unfold kx_lB at hb
        rw [e2, Int32.sub_add_cancel, nI_clamp (by omega)] at hb
        omega
      rw [e, nI_clamp hb31] at h1
      simpa [e] using h1
    · simp [e]
def mf2 (es es' : ax_H) : Prop := ∀ j, j ≠ 171 ∧ j ≠ 172 ∧ j ≠ 173 ∧ j ≠ 175 ∧ j ≠ 176 → es' j = es j
theorem mf2_rf (es : ax_H) : mf2 es es := fun _ _ => rfl
theorem mf2_trans {a b c : ax_H} (h1 : mf2 a b) (h2 : mf2 b c) : mf2 a c := fun j hj => (h2 j hj).trans (h1 j hj)
theorem mfr_2 {a b : ax_H} (h : mfr a b) : mf2 a b := fun j hj => h j ⟨hj.1, hj.2.1, hj.2.2.1, hj.2.2.2.1⟩
theorem mq_of2 {es es0 es' : ax_H} {st st' : Nat → Int32} (h0 : mth es es0) (hf : mf2 es0 es') (hX : mX es' st') (hq : mfq st st') (hA : ∃ al, es' 176 = .inl (0, 1200, .inl al)) : mq es st es' := by
  refine ⟨fun j hj => (hf j hj.2).trans (h0.1 j hj.1), ?_, st', hX, hq, hA⟩
  intro th tp sz at0 fl cd nm rm on fh un g h
  obtain ⟨th', g', e⟩ := h0.2 th tp sz at0 fl cd nm rm on fh un g h
  exact ⟨th', g', (hf 159 (by decide)).trans e⟩
def zq_ways (F1 : Int32 → Int32 → Int32 → Int32 → Int32) (k : Nat) (cr : Int32) (hs : Nat → Int32) (hc T : Nat) (sh fc fb fs : Nat → Int32) (z : Nat) (wh : Int32) : Int32 := if kx_in wh 0 3 = true then (if wh = 0 then (kx_w (kx_way F1 k cr hs hc T sh fc fb fs z) k 20).1 else if wh = 1 then (kx_w (kx_way F1 k cr hs hc T sh fc fb fs z) k 20).2.1 else if wh = 2 then (kx_w (kx_way F1 k cr hs hc T sh fc fb fs z) k 20).2.2.1 else (kx_w (kx_way F1 k cr hs hc T sh fc fb fs z) k 20).2.2.2) else -1
def zq_look (F1 : Int32 → Int32 → Int32 → Int32 → Int32) (k : Nat) (cr : Int32) (hs : Nat → Int32) (hc T : Nat) (sh fc fb fs : Nat → Int32) (z : Nat) (m : Int32) : Int32 := if kx_in m 0 12 = true then (kx_l3 (fun w => kx_gt (kx_l2 (kx_way F1 k cr hs hc T sh fc fb fs z) (fun w f => kx_dr F1 k cr hs hc T (kx_push sh (nI w) (nI f)) m.toNatClampNeg) k k).2 w 100) (kx_l2 (kx_way F1 k cr hs hc T sh fc fb fs z) (fun w f => kx_dr F1 k cr hs hc T (kx_push sh (nI w) (nI f)) m.toNatClampNeg) k k).1 k).2 else -1
def mo_lk (P : Nat → Nat → Bool) (S : Nat → Nat → Nat → Int32) (k j : Nat) : Int32 × (Nat → Int32) := kx_l1 P S k (j / 20) (kx_l2 P S k (j / 20)) (j % 20)
theorem mo_lk_0 (P : Nat → Nat → Bool) (S : Nat → Nat → Nat → Int32) (k : Nat) : mo_lk P S k 0 = (0, fun _ => 0) := rfl
theorem mo_lk_s (P : Nat → Nat → Bool) (S : Nat → Nat → Nat → Int32) (k j : Nat) : mo_lk P S k (j + 1) = if P (j / 20) (j % 20 + 1) = true then ((mo_lk P S k j).1 + 1, kx_tal (S (j / 20) (j % 20 + 1)) (mo_lk P S k j).2 k) else mo_lk P S k j := by
  have key : mo_lk P S k (j + 1) = kx_l1 P S k (j / 20) (kx_l2 P S k (j / 20)) (j % 20 + 1) := by
    unfold mo_lk
    by_cases h : j % 20 = 19
    · have e1 : (j + 1) / 20 = j / 20 + 1 := by omega
      have e2 : (j + 1) % 20 = 0 := by omega
      rw [e1, e2, h]
      rfl
    · have e1 : (j + 1) / 20 = j / 20 := by omega
      have e2 : (j + 1) % 20 = j % 20 + 1 := by omega
      rw [e1, e2]
  rw [key, kx_l1]
  rfl
theorem mo_lk_end (P : Nat → Nat → Bool) (S : Nat → Nat → Nat → Int32) (k m : Nat) : mo_lk P S k (20 * m) = kx_l2 P S k m := by
  unfold mo_lk
  have e1 : 20 * m / 20 = m := by omega
  have e2 : 20 * m % 20 = 0 := by omega
  rw [e1, e2]
  rfl
section MM
variable {d n sl k p hc : Nat} {es : ax_H} {kd pm ht hs : Nat → Int32} {F1 F2 : Int32 → Int32 → Int32 → Int32 → Int32} {st : Nat → Int32} {b T C z : Nat} {sh pl dn fc fb fs : Nat → Int32} {Q : Option Value → ax_H → Prop}
theorem mE_f2 {es' : ax_H} (h : mE es n k p hc kd pm ht hs F1 F2) (hf : mf2 es es') : mE es' n k p hc kd pm ht hs F1 F2 := by
  obtain ⟨h1, h2, h3, h4, h5, ⟨th, tp, sz, at0, fl, cd, nm, rm, on, fh, un, g, q0⟩, ct, op, ar, q1, q2, q3, q4⟩ := h
  exact ⟨h1, h2, h3, h4, h5, ⟨th, tp, sz, at0, fl, cd, nm, rm, on, fh, un, g, by rw [hf 159 (by decide)]; exact q0⟩, ct, op, ar, by rw [hf 165 (by decide)]; exact q1, by rw [hf 166 (by decide)]; exact q2, by rw [hf 167 (by decide)]; exact q3, q4⟩
theorem mk_isFelt (E : mE es n k p hc kd pm ht hs F1 F2) (S : mS es st 0 k p T C sh pl dn) (hT : T < 1000) (hi : zfi k z fc fb fs) (hL : mFl st z fc fb fs) {w f : Nat} (hw : w < k) (hf : f ≤ 20) (hQ : ∀ es' st', mfr es es' → mfq st st' → mX es' st' → Q (some (.int (kx_b (kx_way F1 k (nI C) hs hc T sh fc fb fs z w f)))) es') : ax_Mt (d + 8) 1501 [.ref 159, .int (nI w), .int (nI f)] n sl es Q := by
  obtain ⟨hal, hk, hp, hhs, hF, hK⟩ := id E
  rw [mx_way hk.2 hi] at hQ
  generalize hP : (fun i => decide (kx_dr F1 k (nI C) hs hc T (kx_push sh (nI w) (nI f)) (fb i).toNatClampNeg (fc i).toNatClampNeg = fs i)) = P at hQ
  have hP : ∀ i, P i = decide (kx_dr F1 k (nI C) hs hc T (kx_push sh (nI w) (nI f)) (fb i).toNatClampNeg (fc i).toNatClampNeg = fs i) := fun i => by rw [← hP]
  refine ax_Mt_go (m := ax_m_11_93) (ls := [some (.ref 159), some (.int (nI w)), some (.int (nI f)), none, none, none]) rfl ax_b_1501_0 (Nat.le_of_ble_eq_true rfl) rfl ?_
  simp only [ax_W_cons, ax_I, ax_cmp, ax_ii, ax_ll, ax_li, ax_st1, ax_st2, ax_kl, ax_k2, ax_fit, ax_rtok, List.getElem?_cons_zero, List.getElem?_cons_succ, List.length_cons, List.length_nil, List.set_cons_zero, List.set_cons_succ, Nat.reduceAdd, Nat.reduceDiv, Nat.reduceMod, Nat.reduceMul, Nat.reduceLT, Nat.reduceLeDiff, Int32.reduceOfInt, Int64.reduceOfInt, true_and, and_true, and_self, true_or, or_true, false_implies, true_implies, not_false_eq_true, not_true_eq_false, Value.category, Nat.reduceEqDiff, Option.toList, List.cons_append, List.nil_append, List.drop_succ_cons, List.drop_zero, ax_qq_eq, ax_t_1501]
  refine ax_inv_of (Nat.le_of_ble_eq_true rfl) (Nat.le_of_ble_eq_true rfl) (fun _ => mE_rcv E _) (fun h => absurd h (by decide)) (Nat.le_refl _) (Nat.le_refl _) (mk_whole E S (b := 0) (by omega) (nI w) ?_)
  rw [mx_op hk.2 hw]
  simp only [ax_W_cons, ax_I, ax_cmp, ax_ii, ax_ll, ax_li, ax_st1, ax_st2, ax_kl, ax_k2, ax_fit, ax_rtok, List.getElem?_cons_zero, List.getElem?_cons_succ, List.length_cons, List.length_nil, List.set_cons_zero, List.set_cons_succ, Nat.reduceAdd, Nat.reduceDiv, Nat.reduceMod, Nat.reduceMul, Nat.reduceLT, Nat.reduceLeDiff, Int32.reduceOfInt, Int64.reduceOfInt, true_and, and_true, and_self, true_or, or_true, false_implies, true_implies, not_false_eq_true, not_true_eq_false, Value.category, Nat.reduceEqDiff, Option.toList, List.cons_append, List.nil_append, List.drop_succ_cons, List.drop_zero, ax_qq_eq, ax_t_1501]
  rw [ax_n_1501_10]
  have v26 : vp_in 26 1196 := nI_in (c := 26) (by decide) (by decide)
  have m26 : (26 : Int32).toNatClampNeg = 26 := by decide
  cases hck : kx_ck (nI C) (nI w)
  · rw [hck] at hQ
    have hB : C.testBit w = false := by rw [← kc_ck (C := C) (i := w) (by omega)]; exact hck
    have L := kx_loop (k := z) (I := fun c => ∀ v5 es1 st1, mfr es es1 → mfq st st1 → mX es1 st1 → ax_W (d + 8) n sl 1501 [(2, .iload 4), (1, .aload 0), (3, .getfield 2910), (2, .iconst 26), (1, .iaload), (3, .if_icmp .ge 81), (1, .iload 3), (3, .ifCond .eq 81), (2, .iconst 27), (1, .iconst 3), (2, .iload 4), (1, .imul), (1, .iadd), (2, .istore 5), (1, .aload 0), (1, .iload 1), (1, .iload 2), (1, .aload 0), (3, .getfield 2910), (2, .iload 5), (1, .iaload), (1, .aload 0), (3, .getfield 2910), (2, .iload 5), (1, .iconst 1), (1, .iadd), (1, .iaload), (3, .invokeinterface 1489 21), (1, .aload 0), (3, .getfield 2910), (2, .iload 5), (1, .iconst 2), (1, .iadd), (1, .iaload), (3, .if_icmp .ne 73), (1, .iconst 1), (3, .goto 74)] 10 [some (.ref 159), some (.int (nI w)), some (.int (nI f)), some (.int (kx_b (kx_allb P c))), some (.int (nI c)), v5] [] n sl es1 (ax_qq n sl Q)) ?_ ?_
    · exact L none es st (mfr_rf _) (mfq_rf _) S.1
    · intro v5 es1 st1 i1 i2 i3
      have E1 := mE_fr E i1
      obtain ⟨th, tp, sz, at0, fl, cd, nm, rm, on, fh, un, g, w0⟩ := id E1.2.2.2.2.2.1
      have y1 := i3.1
      have e0 := kx_nn (k := z) (by have := hi.1; omega)
      have l1 := (mFl_q hi.1 hL i2).1
      simp only [ax_W_cons, ax_I, ax_cmp, ax_ii, ax_ll, ax_li, ax_st1, ax_st2, ax_kl, ax_k2, ax_fit, ax_rtok, List.getElem?_cons_zero, List.getElem?_cons_succ, List.length_cons, List.length_nil, List.set_cons_zero, List.set_cons_succ, Nat.reduceAdd, Nat.reduceDiv, Nat.reduceMod, Nat.reduceMul, Nat.reduceLT, Nat.reduceLeDiff, Int32.reduceOfInt, Int64.reduceOfInt, true_and, and_true, and_self, true_or, or_true, false_implies, true_implies, not_false_eq_true, not_true_eq_false, Value.category, Nat.reduceEqDiff, Option.toList, List.cons_append, List.nil_append, List.drop_succ_cons, List.drop_zero, ax_qq_eq, ax_t_1501, ax_j_1501_81, ax_n_1501_81, w0, y1, mo_f, hal, v26, m26, l1, e0, kx_b01]
      exact hQ es1 st1 i1 i2 i3
    · intro c hc2 ih v5 es1 st1 i1 i2 i3
      have E1 := mE_fr E i1
      have S1 := mS_q E S i2 i3
      obtain ⟨th, tp, sz, at0, fl, cd, nm, rm, on, fh, un, g, w0⟩ := id E1.2.2.2.2.2.1
      have y1 := i3.1
      have hz8 := hi.1
      obtain ⟨q1, -, -, q4⟩ := kx_ix hc2 hz8 (by decide)
      have L1 := mFl_q hi.1 hL i2
      have l1 := L1.1
      obtain ⟨l2, l3, l4⟩ := L1.2 c hc2
      obtain ⟨⟨c', hc', ec⟩, ⟨b', hb', eb⟩, s', hs', es'⟩ := hi.2 c hc2
      have hPc := hP c
      rw [ec, eb, es', nI_clamp (by omega), nI_clamp (by omega)] at hPc
      rw [ec] at l2
      rw [eb] at l3
      rw [es'] at l4
      have a1 : (27 : Int32) + 3 * nI c = nI (27 + 3 * c) := by
        show nI 27 + nI 3 * nI c = _
        rw [kn_mul, kn_add]
      have a2 : nI (27 + 3 * c) + 1 = nI (27 + 3 * c + 1) := (nI_succ _).symm
      have a3 : nI (27 + 3 * c) + 2 = nI (27 + 3 * c + 2) := kn_add _ 2
      have b1 : vp_in (nI (27 + 3 * c)) 1196 := nI_in (by omega) (by decide)
      have b2 : vp_in (nI (27 + 3 * c + 1)) 1196 := nI_in (by omega) (by decide)
      have b3 : vp_in (nI (27 + 3 * c + 2)) 1196 := nI_in (by omega) (by decide)
      have d1 : (nI (27 + 3 * c)).toNatClampNeg = 27 + 3 * c := nI_clamp (by omega)
      have d2 : (nI (27 + 3 * c + 1)).toNatClampNeg = 27 + 3 * c + 1 := nI_clamp (by omega)
      have d3 : (nI (27 + 3 * c + 2)).toNatClampNeg = 27 + 3 * c + 2 := nI_clamp (by omega)
      cases hall : kx_allb P c
      · have hz : kx_allb P z = false := by
          cases h9 : kx_allb P z
          · rfl
          · have := (kx_allb_iff z).mp h9
            have h8 : kx_allb P c = true := (kx_allb_iff c).mpr (fun i hi2 => this i (by omega))
            rw [hall] at h8
            exact absurd h8 (by decide)
        rw [hz] at hQ
        have n0 : kx_b false = 0 := rfl
        have n1 : ((0 : Int32) = 0 ∨ (0 : Int32) = 1) := Or.inl rfl
        simp only [ax_W_cons, ax_I, ax_cmp, ax_ii, ax_ll, ax_li, ax_st1, ax_st2, ax_kl, ax_k2, ax_fit, ax_rtok, List.getElem?_cons_zero, List.getElem?_cons_succ, List.length_cons, List.length_nil, List.set_cons_zero, List.set_cons_succ, Nat.reduceAdd, Nat.reduceDiv, Nat.reduceMod, Nat.reduceMul, Nat.reduceLT, Nat.reduceLeDiff, Int32.reduceOfInt, Int64.reduceOfInt, true_and, and_true, and_self, true_or, or_true, false_implies, true_implies, not_false_eq_true, not_true_eq_false, Value.category, Nat.reduceEqDiff, Option.toList, List.cons_append, List.nil_append, List.drop_succ_cons, List.drop_zero, ax_qq_eq, ax_t_1501, ax_j_1501_81, ax_n_1501_81, w0, y1, mo_f, hal, v26, m26, l1, q1, n0, n1]
        exact hQ es1 st1 i1 i2 i3
      · have n0 : ¬ kx_b true = 0 := by decide
        rw [kx_allb, hall, hPc] at ih
        simp only [ax_W_cons, ax_I, ax_cmp, ax_ii, ax_ll, ax_li, ax_st1, ax_st2, ax_kl, ax_k2, ax_fit, ax_rtok, List.getElem?_cons_zero, List.getElem?_cons_succ, List.length_cons, List.length_nil, List.set_cons_zero, List.set_cons_succ, Nat.reduceAdd, Nat.reduceDiv, Nat.reduceMod, Nat.reduceMul, Nat.reduceLT, Nat.reduceLeDiff, Int32.reduceOfInt, Int64.reduceOfInt, true_and, and_true, and_self, true_or, or_true, false_implies, true_implies, not_false_eq_true, not_true_eq_false, Value.category, Nat.reduceEqDiff, Option.toList, List.cons_append, List.nil_append, List.drop_succ_cons, List.drop_zero, ax_qq_eq, ax_t_1501, w0, y1, mo_f, hal, v26, m26, l1, q1, n0, a1, a2, b1, b2, d1, d2, l2, l3]
        refine ax_inv_of (Nat.le_of_ble_eq_true rfl) (Nat.le_of_ble_eq_true rfl) (fun _ => mE_rcv E1 _) (fun h => absurd h (by decide)) (Nat.le_refl _) (Nat.le_refl _) (mk_shakesBy E1 S1 hT hw hB hf hc' (m := b') (by omega) ?_)
        intro es2 st2 r1 r2 r3
        have E2 := mE_fr E1 r1
        obtain ⟨th, tp, sz, at0, fl, cd, nm, rm, on, fh, un, g, w0⟩ := id E2.2.2.2.2.2.1
        have y1 := r3.1.1
        have l4 := (r2 _ (by omega)).trans l4
        have ih := fun v5 => ih v5 es2 st2 (mfr_trans i1 r1) (mfq_trans i2 r2) r3.1
        by_cases h8 : kx_dr F1 k (nI C) hs hc T (kx_push sh (nI w) (nI f)) b' c' = nI s'
        · rw [decide_eq_true h8] at ih
          simp only [ax_W_cons, ax_I, ax_cmp, ax_ii, ax_ll, ax_li, ax_st1, ax_st2, ax_kl, ax_k2, ax_fit, ax_rtok, List.getElem?_cons_zero, List.getElem?_cons_succ, List.length_cons, List.length_nil, List.set_cons_zero, List.set_cons_succ, Nat.reduceAdd, Nat.reduceDiv, Nat.reduceMod, Nat.reduceMul, Nat.reduceLT, Nat.reduceLeDiff, Int32.reduceOfInt, Int64.reduceOfInt, true_and, and_true, and_self, true_or, or_true, false_implies, true_implies, not_false_eq_true, not_true_eq_false, Value.category, Nat.reduceEqDiff, Option.toList, List.cons_append, List.nil_append, List.drop_succ_cons, List.drop_zero, ax_qq_eq, ax_t_1501, ax_j_1501_74, ax_n_1501_74, w0, y1, mo_f, hal, a3, b3, d3, l4, h8, q4]
          rw [ax_j_1501_10]
          exact ih _
        · rw [decide_eq_false h8] at ih
          simp only [ax_W_cons, ax_I, ax_cmp, ax_ii, ax_ll, ax_li, ax_st1, ax_st2, ax_kl, ax_k2, ax_fit, ax_rtok, List.getElem?_cons_zero, List.getElem?_cons_succ, List.length_cons, List.length_nil, List.set_cons_zero, List.set_cons_succ, Nat.reduceAdd, Nat.reduceDiv, Nat.reduceMod, Nat.reduceMul, Nat.reduceLT, Nat.reduceLeDiff, Int32.reduceOfInt, Int64.reduceOfInt, true_and, and_true, and_self, true_or, or_true, false_implies, true_implies, not_false_eq_true, not_true_eq_false, Value.category, Nat.reduceEqDiff, Option.toList, List.cons_append, List.nil_append, List.drop_succ_cons, List.drop_zero, ax_qq_eq, ax_t_1501, ax_j_1501_73, ax_n_1501_73, ax_j_1501_74, ax_n_1501_74, w0, y1, mo_f, hal, a3, b3, d3, l4, h8, q4]
          rw [ax_j_1501_10]
          exact ih _
  · rw [hck] at hQ
    obtain ⟨th, tp, sz, at0, fl, cd, nm, rm, on, fh, un, g, w0⟩ := id E.2.2.2.2.2.1
    have y1 := S.1.1
    have l1 := hL.1
    have n0 : kx_b (!true) = 0 := rfl
    have n1 : ((0 : Int32) = 0 ∨ (0 : Int32) = 1) := Or.inl rfl
    simp only [ax_W_cons, ax_I, ax_cmp, ax_ii, ax_ll, ax_li, ax_st1, ax_st2, ax_kl, ax_k2, ax_fit, ax_rtok, List.getElem?_cons_zero, List.getElem?_cons_succ, List.length_cons, List.length_nil, List.set_cons_zero, List.set_cons_succ, Nat.reduceAdd, Nat.reduceDiv, Nat.reduceMod, Nat.reduceMul, Nat.reduceLT, Nat.reduceLeDiff, Int32.reduceOfInt, Int64.reduceOfInt, true_and, and_true, and_self, true_or, or_true, false_implies, true_implies, not_false_eq_true, not_true_eq_false, Value.category, Nat.reduceEqDiff, Option.toList, List.cons_append, List.nil_append, List.drop_succ_cons, List.drop_zero, ax_qq_eq, ax_t_1501, ax_j_1501_81, ax_n_1501_81, w0, y1, mo_f, hal, v26, m26, l1, n0, n1]
    exact ⟨fun _ => hQ es st (mfr_rf _) (mfq_rf _) S.1, fun _ => hQ es st (mfr_rf _) (mfq_rf _) S.1⟩
theorem kx_w1_in {P : Nat → Nat → Bool} {f : Nat} {a : Int32 × Int32 × Int32 × Int32} (hf : f ≤ 20) (ha : a.2.2.1 = -1 ∨ ∃ v, v ≤ 20 ∧ a.2.2.1 = nI v) : ∀ m, (kx_w1 P f a m).2.2.1 = -1 ∨ ∃ v, v ≤ 20 ∧ (kx_w1 P f a m).2.2.1 = nI v
  | 0 => ha
  | m + 1 => by
    have ih := kx_w1_in (P := P) hf ha m
    rw [kx_w1]
    split
    · dsimp only
      split
      · exact Or.inr ⟨f, hf, rfl⟩
      · exact ih
    · exact ih
theorem kx_w_in {P : Nat → Nat → Bool} : ∀ m, m ≤ 20 → (kx_w P k m).2.2.1 = -1 ∨ ∃ v, v ≤ 20 ∧ (kx_w P k m).2.2.1 = nI v
  | 0, _ => Or.inl rfl
  | m + 1, hm => kx_w1_in hm (kx_w_in m (by omega)) k
theorem mp_ways (Z : mZ es n st k p hc kd pm ht hs F1 F2 T C sh pl dn) (hi : zfi k z fc fb fs) (hL : mFl st z fc fb fs) (wh : Int32) (hQ : ∀ es', mq es st es' → Q (some (.int (zq_ways F1 k (nI C) hs hc T sh fc fb fs z wh))) es') : ax_Mt (d + 10) 1502 [.ref 159, .int wh] n sl es Q := by
  obtain ⟨E, S, hT, hdn, hA⟩ := Z
  obtain ⟨hal, hk, hp, hhs, hF, hK⟩ := id E
  unfold zq_ways at hQ
  generalize hPw : kx_way F1 k (nI C) hs hc T sh fc fb fs z = P at hQ
  refine ax_Mt_go (m := ax_m_11_94) (ls := [some (.ref 159), some (.int wh), none, none, none, none, none, none]) rfl ax_b_1502_0 (Nat.le_of_ble_eq_true rfl) rfl ?_
  refine mk_thrown hal hK.1 rfl ?_
  intro es0 h0
  have E0 := mE_th E h0
  have S0 := mS_th S h0
  simp only [ax_W_cons, ax_I, ax_cmp, ax_ii, ax_ll, ax_li, ax_st1, ax_st2, ax_kl, ax_k2, ax_fit, ax_rtok, List.getElem?_cons_zero, List.getElem?_cons_succ, List.length_cons, List.length_nil, List.set_cons_zero, List.set_cons_succ, Nat.reduceAdd, Nat.reduceDiv, Nat.reduceMod, Nat.reduceMul, Nat.reduceLT, Nat.reduceLeDiff, Int32.reduceOfInt, Int64.reduceOfInt, true_and, and_true, and_self, true_or, or_true, false_implies, true_implies, not_false_eq_true, not_true_eq_false, Value.category, Nat.reduceEqDiff, Option.toList, List.cons_append, List.nil_append, List.drop_succ_cons, List.drop_zero, ax_qq_eq, ax_t_1502]
  refine ax_inv_of (Nat.le_of_ble_eq_true rfl) (Nat.le_of_ble_eq_true rfl) (fun _ => absurd ‹_› (by decide)) (fun h => absurd h (by decide)) (Nat.le_refl _) (Nat.le_refl _) (mk_within _ _ _ ?_)
  simp only [ax_W_cons, ax_I, ax_cmp, ax_ii, ax_ll, ax_li, ax_st1, ax_st2, ax_kl, ax_k2, ax_fit, ax_rtok, List.getElem?_cons_zero, List.getElem?_cons_succ, List.length_cons, List.length_nil, List.set_cons_zero, List.set_cons_succ, Nat.reduceAdd, Nat.reduceDiv, Nat.reduceMod, Nat.reduceMul, Nat.reduceLT, Nat.reduceLeDiff, Int32.reduceOfInt, Int64.reduceOfInt, true_and, and_true, and_self, true_or, or_true, false_implies, true_implies, not_false_eq_true, not_true_eq_false, Value.category, Nat.reduceEqDiff, Option.toList, List.cons_append, List.nil_append, List.drop_succ_cons, List.drop_zero, ax_qq_eq, ax_t_1502, ax_j_1502_16, ax_n_1502_16, kx_b0]
  refine ⟨fun h2 => ?_, fun h2 => ?_⟩
  · have h2 : kx_in wh 0 3 = true := by simpa using h2
    rw [if_pos h2] at hQ
    rw [ax_n_1502_29]
    have L := kx_loop (k := 20) (I := fun f => ∀ v7 es1 st1, mfr es0 es1 → mfq st st1 → mX es1 st1 → ax_W (d + 10) n sl 1502 [(2, .iload 6), (2, .iconst 20), (3, .if_icmp .gt 99), (1, .iconst 0), (2, .istore 7)] 29 [some (.ref 159), some (.int wh), some (.int (kx_w P k f).1), some (.int (kx_w P k f).2.1), some (.int (kx_w P k f).2.2.1), some (.int (kx_w P k f).2.2.2), some (.int (nI (f + 1))), v7] [] n sl es1 (ax_qq n sl Q)) ?_ ?_
    · exact L none es0 st (mfr_rf _) (mfq_rf _) S0.1
    · intro v7 es1 st1 i1 i2 i3
      have e9 : (20 : Int32) < nI (20 + 1) := by decide
      have hQ := hQ _ (mq_of h0 i1 i3 i2 hA)
      simp only [ax_W_cons, ax_I, ax_cmp, ax_ii, ax_ll, ax_li, ax_st1, ax_st2, ax_kl, ax_k2, ax_fit, ax_rtok, List.getElem?_cons_zero, List.getElem?_cons_succ, List.length_cons, List.length_nil, List.set_cons_zero, List.set_cons_succ, Nat.reduceAdd, Nat.reduceDiv, Nat.reduceMod, Nat.reduceMul, Nat.reduceLT, Nat.reduceLeDiff, Int32.reduceOfInt, Int64.reduceOfInt, true_and, and_true, and_self, true_or, or_true, false_implies, true_implies, not_false_eq_true, not_true_eq_false, Value.category, Nat.reduceEqDiff, Option.toList, List.cons_append, List.nil_append, List.drop_succ_cons, List.drop_zero, ax_qq_eq, ax_t_1502, ax_j_1502_99, ax_n_1502_99, ax_j_1502_107, ax_n_1502_107, ax_j_1502_116, ax_n_1502_116, ax_j_1502_126, ax_n_1502_126, ax_j_1502_128, ax_n_1502_128, e9]
      refine ⟨fun c0 => ⟨fun c1 => ⟨fun c2 => ?_, fun c2 => ?_⟩, fun c1 => ?_⟩, fun c0 => ?_⟩
      · rw [if_neg c0, if_neg c1, if_neg c2] at hQ
        exact hQ
      · simp only [Classical.not_not] at c2
        rw [if_neg c0, if_neg c1, if_pos c2] at hQ
        exact hQ
      · simp only [Classical.not_not] at c1
        rw [if_neg c0, if_pos c1] at hQ
        exact hQ
      · simp only [Classical.not_not] at c0
        rw [if_pos c0] at hQ
        exact hQ
    · intro f hf ih v7 es1 st1 i1 i2 i3
      have e9 : ¬ (20 : Int32) < nI (f + 1) := nI_nlt (a := 20) (by omega) (by decide)
      have f4 : nI (f + 1) + 1 = nI (f + 1 + 1) := (nI_succ _).symm
      have hin := kx_w_in (k := k) (P := P) f (by omega)
      rw [kx_w] at ih
      generalize kx_w P k f = A at ih hin ⊢
      simp only [ax_W_cons, ax_I, ax_cmp, ax_ii, ax_ll, ax_li, ax_st1, ax_st2, ax_kl, ax_k2, ax_fit, ax_rtok, List.getElem?_cons_zero, List.getElem?_cons_succ, List.length_cons, List.length_nil, List.set_cons_zero, List.set_cons_succ, Nat.reduceAdd, Nat.reduceDiv, Nat.reduceMod, Nat.reduceMul, Nat.reduceLT, Nat.reduceLeDiff, Int32.reduceOfInt, Int64.reduceOfInt, true_and, and_true, and_self, true_or, or_true, false_implies, true_implies, not_false_eq_true, not_true_eq_false, Value.category, Nat.reduceEqDiff, Option.toList, List.cons_append, List.nil_append, List.drop_succ_cons, List.drop_zero, ax_qq_eq, ax_t_1502, e9]
      rw [ax_n_1502_39]
      have L2 := kx_loop (k := k) (I := fun w => ∀ es1 st1, mfr es0 es1 → mfq st st1 → mX es1 st1 → ax_W (d + 10) n sl 1502 [(2, .iload 7), (1, .aload 0), (3, .invokeinterface 1450 5), (3, .if_icmp .ge 93), (1, .aload 0), (2, .iload 7), (2, .iload 6), (3, .invokeinterface 1501 13), (3, .ifCond .eq 87), (3, .iinc 2 1), (1, .iload 3), (1, .iconst 1), (2, .iload 7), (1, .ishl), (1, .ior), (1, .istore 3), (2, .iload 4), (3, .ifCond .ge 79), (2, .iload 6), (3, .goto 81)] 39 [some (.ref 159), some (.int wh), some (.int (kx_w1 P (f + 1) A w).1), some (.int (kx_w1 P (f + 1) A w).2.1), some (.int (kx_w1 P (f + 1) A w).2.2.1), some (.int (kx_w1 P (f + 1) A w).2.2.2), some (.int (nI (f + 1))), some (.int (nI w))] [] n sl es1 (ax_qq n sl Q)) ?_ ?_
      · exact L2 es1 st1 i1 i2 i3
      · intro es1 st1 i1 i2 i3
        have e0 := kx_nn (k := k) (by omega)
        have E1 := mE_fr E0 i1
        simp only [ax_W_cons, ax_I, ax_cmp, ax_ii, ax_ll, ax_li, ax_st1, ax_st2, ax_kl, ax_k2, ax_fit, ax_rtok, List.getElem?_cons_zero, List.getElem?_cons_succ, List.length_cons, List.length_nil, List.set_cons_zero, List.set_cons_succ, Nat.reduceAdd, Nat.reduceDiv, Nat.reduceMod, Nat.reduceMul, Nat.reduceLT, Nat.reduceLeDiff, Int32.reduceOfInt, Int64.reduceOfInt, true_and, and_true, and_self, true_or, or_true, false_implies, true_implies, not_false_eq_true, not_true_eq_false, Value.category, Nat.reduceEqDiff, Option.toList, List.cons_append, List.nil_append, List.drop_succ_cons, List.drop_zero, ax_qq_eq, ax_t_1502]
        refine ax_inv_of (Nat.le_of_ble_eq_true rfl) (Nat.le_of_ble_eq_true rfl) (fun _ => mE_rcv E1 _) (fun h => absurd h (by decide)) (Nat.le_refl _) (Nat.le_refl _) (mk_cells hal E1.2.2.2.2.2 ?_)
        simp only [ax_W_cons, ax_I, ax_cmp, ax_ii, ax_ll, ax_li, ax_st1, ax_st2, ax_kl, ax_k2, ax_fit, ax_rtok, List.getElem?_cons_zero, List.getElem?_cons_succ, List.length_cons, List.length_nil, List.set_cons_zero, List.set_cons_succ, Nat.reduceAdd, Nat.reduceDiv, Nat.reduceMod, Nat.reduceMul, Nat.reduceLT, Nat.reduceLeDiff, Int32.reduceOfInt, Int64.reduceOfInt, true_and, and_true, and_self, true_or, or_true, false_implies, true_implies, not_false_eq_true, not_true_eq_false, Value.category, Nat.reduceEqDiff, Option.toList, List.cons_append, List.nil_append, List.drop_succ_cons, List.drop_zero, ax_qq_eq, ax_t_1502, ax_j_1502_93, ax_n_1502_93, e0, f4]
        rw [ax_j_1502_29]
        exact ih _ es1 st1 i1 i2 i3
      · intro w hw ih2 es1 st1 i1 i2 i3
        obtain ⟨q1, -, -, q4⟩ := kx_ix hw hk.2 (by decide)
        have E1 := mE_fr E0 i1
        have S1 := mS_q E S i2 i3
        have hin1 := kx_w1_in (P := P) (f := f + 1) (a := A) (by omega) hin w
        rw [kx_w1] at ih2
        generalize kx_w1 P (f + 1) A w = B at ih2 hin1 ⊢
        simp only [ax_W_cons, ax_I, ax_cmp, ax_ii, ax_ll, ax_li, ax_st1, ax_st2, ax_kl, ax_k2, ax_fit, ax_rtok, List.getElem?_cons_zero, List.getElem?_cons_succ, List.length_cons, List.length_nil, List.set_cons_zero, List.set_cons_succ, Nat.reduceAdd, Nat.reduceDiv, Nat.reduceMod, Nat.reduceMul, Nat.reduceLT, Nat.reduceLeDiff, Int32.reduceOfInt, Int64.reduceOfInt, true_and, and_true, and_self, true_or, or_true, false_implies, true_implies, not_false_eq_true, not_true_eq_false, Value.category, Nat.reduceEqDiff, Option.toList, List.cons_append, List.nil_append, List.drop_succ_cons, List.drop_zero, ax_qq_eq, ax_t_1502]
        refine ax_inv_of (Nat.le_of_ble_eq_true rfl) (Nat.le_of_ble_eq_true rfl) (fun _ => mE_rcv E1 _) (fun h => absurd h (by decide)) (Nat.le_refl _) (Nat.le_refl _) (mk_cells hal E1.2.2.2.2.2 ?_)
        simp only [ax_W_cons, ax_I, ax_cmp, ax_ii, ax_ll, ax_li, ax_st1, ax_st2, ax_kl, ax_k2, ax_fit, ax_rtok, List.getElem?_cons_zero, List.getElem?_cons_succ, List.length_cons, List.length_nil, List.set_cons_zero, List.set_cons_succ, Nat.reduceAdd, Nat.reduceDiv, Nat.reduceMod, Nat.reduceMul, Nat.reduceLT, Nat.reduceLeDiff, Int32.reduceOfInt, Int64.reduceOfInt, true_and, and_true, and_self, true_or, or_true, false_implies, true_implies, not_false_eq_true, not_true_eq_false, Value.category, Nat.reduceEqDiff, Option.toList, List.cons_append, List.nil_append, List.drop_succ_cons, List.drop_zero, ax_qq_eq, ax_t_1502, q1]
        refine ax_inv_of (Nat.le_of_ble_eq_true rfl) (Nat.le_of_ble_eq_true rfl) (fun _ => mE_rcv E1 _) (fun h => absurd h (by decide)) (Nat.le_refl _) (Nat.le_refl _) (mk_isFelt E1 S1 hT hi (mFl_q hi.1 hL i2) hw (f := f + 1) (by omega) ?_)
        rw [hPw]
        intro es2 st2 r1 r2 r3
        have ih2 := ih2 es2 st2 (mfr_trans i1 r1) (mfq_trans i2 r2) r3
        simp only [ax_W_cons, ax_I, ax_cmp, ax_ii, ax_ll, ax_li, ax_st1, ax_st2, ax_kl, ax_k2, ax_fit, ax_rtok, List.getElem?_cons_zero, List.getElem?_cons_succ, List.length_cons, List.length_nil, List.set_cons_zero, List.set_cons_succ, Nat.reduceAdd, Nat.reduceDiv, Nat.reduceMod, Nat.reduceMul, Nat.reduceLT, Nat.reduceLeDiff, Int32.reduceOfInt, Int64.reduceOfInt, true_and, and_true, and_self, true_or, or_true, false_implies, true_implies, not_false_eq_true, not_true_eq_false, Value.category, Nat.reduceEqDiff, Option.toList, List.cons_append, List.nil_append, List.drop_succ_cons, List.drop_zero, ax_qq_eq, ax_t_1502, ax_j_1502_87, ax_n_1502_87, kx_b0, q4]
        simp only [ax_j_1502_39]
        refine ⟨fun h5 => ?_, fun h5 => ?_⟩
        · rw [if_neg (by rw [h5]; decide)] at ih2
          exact ih2
        · rw [if_pos (by simpa using h5)] at ih2
          dsimp only at ih2
          rcases hin1 with h9 | ⟨v, hv, h9⟩
          · have hlt : ¬ (0 : Int32) ≤ B.2.2.1 := by rw [h9]; decide
            rw [if_pos h9] at ih2
            simp only [ax_W_cons, ax_I, ax_cmp, ax_ii, ax_ll, ax_li, ax_st1, ax_st2, ax_kl, ax_k2, ax_fit, ax_rtok, List.getElem?_cons_zero, List.getElem?_cons_succ, List.length_cons, List.length_nil, List.set_cons_zero, List.set_cons_succ, Nat.reduceAdd, Nat.reduceDiv, Nat.reduceMod, Nat.reduceMul, Nat.reduceLT, Nat.reduceLeDiff, Int32.reduceOfInt, Int64.reduceOfInt, true_and, and_true, and_self, true_or, or_true, false_implies, true_implies, not_false_eq_true, not_true_eq_false, Value.category, Nat.reduceEqDiff, Option.toList, List.cons_append, List.nil_append, List.drop_succ_cons, List.drop_zero, ax_qq_eq, ax_t_1502, ax_j_1502_81, ax_n_1502_81, ax_j_1502_87, ax_n_1502_87, hlt, q4]
            rw [ax_j_1502_39]
            exact ih2
          · have hlt : (0 : Int32) ≤ B.2.2.1 := by rw [h9]; exact nI_pos' (by omega)
            have hne : ¬ B.2.2.1 = -1 := by rw [h9]; exact mx_n1 (by omega)
            rw [if_neg hne] at ih2
            simp only [ax_W_cons, ax_I, ax_cmp, ax_ii, ax_ll, ax_li, ax_st1, ax_st2, ax_kl, ax_k2, ax_fit, ax_rtok, List.getElem?_cons_zero, List.getElem?_cons_succ, List.length_cons, List.length_nil, List.set_cons_zero, List.set_cons_succ, Nat.reduceAdd, Nat.reduceDiv, Nat.reduceMod, Nat.reduceMul, Nat.reduceLT, Nat.reduceLeDiff, Int32.reduceOfInt, Int64.reduceOfInt, true_and, and_true, and_self, true_or, or_true, false_implies, true_implies, not_false_eq_true, not_true_eq_false, Value.category, Nat.reduceEqDiff, Option.toList, List.cons_append, List.nil_append, List.drop_succ_cons, List.drop_zero, ax_qq_eq, ax_t_1502, ax_j_1502_79, ax_n_1502_79, ax_j_1502_81, ax_n_1502_81, ax_j_1502_87, ax_n_1502_87, hlt, q4]
            rw [ax_j_1502_39]
            exact ih2
  · simp only [Classical.not_not] at h2
    rw [if_neg (by rw [h2]; decide)] at hQ
    exact hQ _ (mq_of h0 (mfr_rf _) S0.1 (mfq_rf _) hA)
end MM
