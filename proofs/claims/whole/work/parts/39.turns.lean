/-! the reference: turning out -/
def kt_rev (k C : Nat) : Nat → Nat
  | 0 => 0
  | m + 1 => if C.testBit m = true then kt_rev k C m ||| 2 ^ (k - 1 - m) else kt_rev k C m
def kt_then (k C : Nat) : Nat → Nat
  | 0 => 0
  | m + 1 => if C.testBit (k - 1 - m) = true then kt_then k C m ||| 2 ^ m else kt_then k C m
def kt_is (k : Nat) (sh : Nat → Int32) : Nat → Bool
  | 0 => false
  | m + 1 => kt_is k sh m || (decide (m < k - 1 - m) && !decide (sh m = sh (k - 1 - m)))
theorem kt_tcr {k C : Nat} (hk : k ≤ 12) : ∀ m, m ≤ k → kx_tcr k (nI C) m = nI (kt_rev k C m)
  | 0, _ => rfl
  | m + 1, hm => by
    rw [kx_tcr, kt_rev, kt_tcr hk m (by omega), kc_ck (by omega)]
    have e : nI k - 1 - nI m = nI (k - 1 - m) := by
      have e8 : nI k = nI (k - 1 - m) + nI m + 1 := by
        rw [kn_add, ← nI_succ]
        congr 1
        omega
      rw [e8, Int32.add_sub_cancel, Int32.add_sub_cancel]
    rw [e, kc_shl (by omega), fa_or]
    split <;> rfl
theorem kt_rev_bit {k C : Nat} (j : Nat) : ∀ m, m ≤ k → (kt_rev k C m).testBit j = (decide (k - m ≤ j ∧ j < k) && C.testBit (k - 1 - j))
  | 0, _ => by
    rw [kt_rev, Nat.zero_testBit]
    simp
    intro h
    omega
  | m + 1, hm => by
    have ih := kt_rev_bit (k := k) (C := C) j m (by omega)
    rw [kt_rev]
    by_cases hB : C.testBit m = true
    · rw [if_pos hB, Nat.testBit_or, ih, Nat.testBit_two_pow]
      by_cases hj : k - 1 - m = j
      · have e1 : k - 1 - j = m := by omega
        rw [e1, hB]
        simp [hj]
        omega
      · simp only [hj, decide_false, Bool.or_false]
        congr 1
        simp only [decide_eq_decide]
        omega
    · rw [if_neg hB, ih]
      by_cases hj : k - 1 - m = j
      · have e1 : k - 1 - j = m := by omega
        have hB : C.testBit m = false := by simpa using hB
        rw [e1, hB]
        simp
      · congr 1
        simp only [decide_eq_decide]
        omega
theorem kt_then_bit {k C : Nat} (j : Nat) : ∀ m, m ≤ k → (kt_then k C m).testBit j = (decide (j < m) && C.testBit (k - 1 - j))
  | 0, _ => by
    rw [kt_then, Nat.zero_testBit]
    simp
  | m + 1, hm => by
    have ih := kt_then_bit (k := k) (C := C) j m (by omega)
    rw [kt_then]
    by_cases hB : C.testBit (k - 1 - m) = true
    · rw [if_pos hB, Nat.testBit_or, ih, Nat.testBit_two_pow]
      by_cases hj : m = j
      · subst hj
        simp [hB]
      · simp only [hj, decide_false, Bool.or_false]
        congr 1
        simp only [decide_eq_decide]
        omega
    · rw [if_neg hB, ih]
      by_cases hj : m = j
      · subst hj
        have hB : C.testBit (k - 1 - m) = false := by simpa using hB
        simp [hB]
      · congr 1
        simp only [decide_eq_decide]
        omega
theorem kt_same (k C : Nat) : kt_rev k C k = kt_then k C k := by
  apply Nat.eq_of_testBit_eq
  intro j
  rw [kt_rev_bit j k (Nat.le_refl _), kt_then_bit j k (Nat.le_refl _)]
  congr 1
  simp only [decide_eq_decide]
  omega
theorem kt_then_lt {k C : Nat} : kt_then k C k < 2 ^ k := by
  apply Nat.lt_pow_two_of_testBit
  intro i hi
  rw [kt_then_bit i k (Nat.le_refl _)]
  simp
  intro h
  omega
theorem kt_bit_lt {k C i : Nat} (hC : C < 2 ^ k) (h : C.testBit i = true) : i < k := by
  by_cases hi : i < k
  · exact hi
  · exfalso
    have : C < 2 ^ i := Nat.lt_of_lt_of_le hC (Nat.pow_le_pow_right (by decide) (by omega))
    rw [Nat.testBit_lt_two_pow this] at h
    exact absurd h (by decide)
theorem kt_even_iff {k : Nat} {cr : Int32} {sh : Nat → Int32} : ∀ m, (kx_even k cr sh m = true ↔ ∀ c, c < m → kx_evi k cr sh c = true)
  | 0 => ⟨fun _ c hc => by omega, fun _ => rfl⟩
  | m + 1 => by
    rw [kx_even, Bool.and_eq_true, kt_even_iff m]
    constructor
    · rintro ⟨h1, h2⟩ c hc
      by_cases e : c = m
      · subst e
        exact h2
      · exact h1 c (by omega)
    · intro h
      exact ⟨fun c hc => h c (by omega), h m (by omega)⟩
theorem kt_is_iff {k : Nat} {sh : Nat → Int32} : ∀ m, (kt_is k sh m = false ↔ ∀ c, c < m → c < k - 1 - c → sh c = sh (k - 1 - c))
  | 0 => ⟨fun _ c hc => by omega, fun _ => rfl⟩
  | m + 1 => by
    rw [kt_is, Bool.or_eq_false_iff, kt_is_iff m]
    constructor
    · rintro ⟨h1, h2⟩ c hc h3
      by_cases e : c = m
      · subst e
        simp [h3] at h2
        exact h2
      · exact h1 c (by omega) h3
    · intro h
      refine ⟨fun c hc => h c (by omega), ?_⟩
      by_cases h3 : m < k - 1 - m
      · simp [h m (by omega) h3]
      · simp [h3]
/-- whether any cell is another way then -/
theorem kt_turn {k C : Nat} {sh : Nat → Int32} (hk : k ≤ 12) (hC : C < 2 ^ k) : (kt_is k sh k || !decide (C = kt_then k C k)) = !kx_even k (nI C) sh (k / 2) := by
  by_cases he : kx_even k (nI C) sh (k / 2) = true
  · rw [he]
    have h := (kt_even_iff (k / 2)).mp he
    have h1 : kt_is k sh k = false := (kt_is_iff k).mpr fun c hc h3 => by
      have h9 := h c (by omega)
      unfold kx_evi at h9
      simp at h9
      exact h9.1
    have h2 : C = kt_then k C k := by
      apply Nat.eq_of_testBit_eq
      intro j
      rw [kt_then_bit j k (Nat.le_refl _)]
      by_cases hj : j < k
      · simp only [hj, decide_true, Bool.true_and]
        have key : ∀ c, c < k / 2 → C.testBit c = C.testBit (k - 1 - c) := fun c hc => by
          have h9 := h c hc
          unfold kx_evi at h9
          rw [kc_ck (by omega), kc_ck (by omega)] at h9
          simp at h9
          exact h9.2
        by_cases h5 : j < k / 2
        · exact key j h5
        · by_cases h6 : k - 1 - j < k / 2
          · have := key (k - 1 - j) h6
            rw [show k - 1 - (k - 1 - j) = j by omega] at this
            exact this.symm
          · rw [show k - 1 - j = j by omega]
      · simp only [hj, decide_false, Bool.false_and]
        cases h7 : C.testBit j with
        | false => rfl
        | true => exact absurd (kt_bit_lt hC h7) hj
    rw [h1, ← h2]
    simp
  · have he' : kx_even k (nI C) sh (k / 2) = false := by simpa using he
    rw [he']
    simp only [Bool.not_false, Bool.or_eq_true]
    by_cases h1 : kt_is k sh k = true
    · exact Or.inl h1
    · right
      have h1 : kt_is k sh k = false := by simpa using h1
      have h2 := (kt_is_iff k).mp h1
      simp only [Bool.not_eq_true', decide_eq_false_iff_not]
      intro hCt
      apply he
      rw [kt_even_iff]
      intro c hc
      unfold kx_evi
      rw [kc_ck (by omega), kc_ck (by omega)]
      simp only [Bool.and_eq_true, decide_eq_true_eq]
      refine ⟨h2 c (by omega) (by omega), ?_⟩
      have : Nat.testBit C c = Nat.testBit (kt_then k C k) c := congrArg (fun x => Nat.testBit x c) hCt
      rw [kt_then_bit c k (Nat.le_refl _)] at this
      simpa [show c < k by omega] using this
section MM
variable {d n sl k p hc : Nat} {es : ax_H} {kd pm ht hs : Nat → Int32} {F1 F2 : Int32 → Int32 → Int32 → Int32 → Int32} {st : Nat → Int32} {b T C : Nat} {sh pl dn : Nat → Int32} {Q : Option Value → ax_H → Prop}
theorem kx_tsh_lo {m x : Nat} (h1 : m ≤ x) (h2 : x ≤ k - 1 - m) : kx_tsh k sh m x = sh x := by
  unfold kx_tsh
  rw [if_neg (by omega)]
theorem mk_turns (hal : ax_al n = 178) (hK : mK es k p hc kd pm ht hs F1 F2) (hX : mX es st) (hk0 : 0 < k) (hk : k ≤ 12) (hp : p ≤ 6) (hb : b + 52 ≤ 1196) (hV : mV st b k p T C sh pl dn) (hC : C < 2 ^ k) (hQ : ∀ es' st', mfr es es' → mX es' st' → mfs b st st' → mV st' b k p T (kt_then k C k) (kx_turn k sh) pl dn → Q (some (.int (kx_b (!kx_even k (nI C) sh (k / 2))))) es') : ax_Mt (d + 1) 1462 [.ref 159, .int (nI b)] n sl es Q := by
  rw [← kt_turn hk hC] at hQ
  obtain ⟨th, tp, sz, at0, fl, cd, nm, rm, on, fh, un, g, h0⟩ := id hK.1
  have x1 := hX.1
  have hC2 : C < 2 ^ 31 := Nat.lt_of_lt_of_le hC (Nat.pow_le_pow_right (by decide) (by omega))
  have e0 : nI b + 1 = nI (b + 1) := (nI_succ b).symm
  have v0 : vp_in (nI (b + 1)) 1196 := nI_in (by omega) (by decide)
  have f0 : (nI (b + 1)).toNatClampNeg = b + 1 := nI_clamp (by omega)
  have e3 := hV.2.1
  refine ax_Mt_go (m := ax_m_11_54) (ls := [some (.ref 159), some (.int (nI b)), none, none, none, none, none, none]) rfl ax_b_1462_0 (Nat.le_of_ble_eq_true rfl) rfl ?_
  simp only [ax_W_cons, ax_I, ax_cmp, ax_ii, ax_ll, ax_li, ax_st1, ax_st2, ax_kl, ax_k2, ax_fit, ax_rtok, List.getElem?_cons_zero, List.getElem?_cons_succ, List.length_cons, List.length_nil, List.set_cons_zero, List.set_cons_succ, Nat.reduceAdd, Nat.reduceDiv, Nat.reduceMod, Nat.reduceMul, Nat.reduceLT, Nat.reduceLeDiff, Int32.reduceOfInt, Int64.reduceOfInt, true_and, and_true, and_self, true_or, or_true, false_implies, true_implies, not_false_eq_true, not_true_eq_false, Value.category, Nat.reduceEqDiff, Option.toList, List.cons_append, List.nil_append, List.drop_succ_cons, List.drop_zero, ax_qq_eq, ax_t_1462, h0, x1, mo_f, hal, e0, v0, f0, e3]
  rw [ax_n_1462_17]
  have L := kx_loop (k := k) (I := fun m => ∀ v6 v7 es1 st1, mfr es es1 → mX es1 st1 → mfs b st st1 → mV st1 b k p T C (kx_tsh k sh (min m (k / 2))) pl dn → ax_W (d + 1) n sl 1462 [(2, .iload 5), (1, .aload 0), (3, .invokeinterface 1450 5), (3, .if_icmp .ge 138), (1, .aload 0), (3, .invokeinterface 1450 5), (1, .iconst 1), (1, .isub), (2, .iload 5), (1, .isub), (2, .istore 6), (1, .iload 3), (1, .iload 2), (2, .iload 6), (1, .ishr), (1, .iconst 1), (1, .iand), (2, .iload 5), (1, .ishl), (1, .ior), (1, .istore 3), (2, .iload 5), (2, .iload 6), (3, .if_icmp .ge 132), (1, .aload 0), (3, .getfield 2910), (1, .iload 1), (1, .iconst 2), (1, .iadd), (2, .iload 5), (1, .iadd), (1, .iaload), (2, .istore 7), (2, .iload 4), (3, .ifCond .ne 90), (2, .iload 7), (1, .aload 0), (3, .getfield 2910), (1, .iload 1), (1, .iconst 2), (1, .iadd), (2, .iload 6), (1, .iadd), (1, .iaload), (3, .if_icmp .eq 94)] 17 [some (.ref 159), some (.int (nI b)), some (.int (nI C)), some (.int (nI (kt_then k C m))), some (.int (kx_b (kt_is k sh m))), some (.int (nI m)), v6, v7] [] n sl es1 (ax_qq n sl Q)) ?_ ?_
  · have L := L none none es st (mfr_rf es) hX (mfs_rf b st)
    rw [Nat.zero_min, kx_tsh_0 hk0] at L
    exact L hV
  · intro v6 v7 es1 st1 i1 i2 i3 i4
    have hK1 := mK_fr hK i1
    have w0 := (i1 159 (by decide)).trans h0
    have y1 := i2.1
    have e9 := kx_nn (k := k) (by omega)
    simp only [ax_W_cons, ax_I, ax_cmp, ax_ii, ax_ll, ax_li, ax_st1, ax_st2, ax_kl, ax_k2, ax_fit, ax_rtok, List.getElem?_cons_zero, List.getElem?_cons_succ, List.length_cons, List.length_nil, List.set_cons_zero, List.set_cons_succ, Nat.reduceAdd, Nat.reduceDiv, Nat.reduceMod, Nat.reduceMul, Nat.reduceLT, Nat.reduceLeDiff, Int32.reduceOfInt, Int64.reduceOfInt, true_and, and_true, and_self, true_or, or_true, false_implies, true_implies, not_false_eq_true, not_true_eq_false, Value.category, Nat.reduceEqDiff, Option.toList, List.cons_append, List.nil_append, List.drop_succ_cons, List.drop_zero, ax_qq_eq, ax_t_1462]
    refine ax_inv_of (Nat.le_of_ble_eq_true rfl) (Nat.le_of_ble_eq_true rfl) (fun _ => mO_rcv hal hK1.1 _) (fun h => absurd h (by decide)) (Nat.le_refl _) (Nat.le_refl _) (mk_cells hal hK1 ?_)
    rw [show min k (k / 2) = k / 2 by omega, kx_tsh_end] at i4
    have hQ := hQ _ _ (mfr_trans i1 (mfr_up es1 _)) (mX_up i2) (mfs_trans i3 (mfs_up st1 (nI (kt_then k C k)) (j := b + 1) (by omega))) (mV_cr i4 _)
    simp only [ax_W_cons, ax_I, ax_cmp, ax_ii, ax_ll, ax_li, ax_st1, ax_st2, ax_kl, ax_k2, ax_fit, ax_rtok, List.getElem?_cons_zero, List.getElem?_cons_succ, List.length_cons, List.length_nil, List.set_cons_zero, List.set_cons_succ, Nat.reduceAdd, Nat.reduceDiv, Nat.reduceMod, Nat.reduceMul, Nat.reduceLT, Nat.reduceLeDiff, Int32.reduceOfInt, Int64.reduceOfInt, true_and, and_true, and_self, true_or, or_true, false_implies, true_implies, not_false_eq_true, not_true_eq_false, Value.category, Nat.reduceEqDiff, Option.toList, List.cons_append, List.nil_append, List.drop_succ_cons, List.drop_zero, ax_qq_eq, ax_t_1462, ax_j_1462_138, ax_n_1462_138, ax_j_1462_157, ax_n_1462_157, ax_j_1462_161, ax_n_1462_161, ax_j_1462_162, ax_n_1462_162, w0, y1, mo_f, hal, e9, e0, v0, f0, kx_b0]
    refine ⟨fun h => ?_, fun h => ⟨fun h2 => ?_, fun h2 => ?_⟩⟩
    · have h : kt_is k sh k = true := by simpa using h
      rw [h] at hQ
      exact hQ
    · simp only [Classical.not_not] at h
      have h2 := kn_inj hC2 (Nat.lt_of_lt_of_le kt_then_lt (Nat.pow_le_pow_right (by decide) (by omega))) h2
      rw [h, ← h2] at hQ
      simp only [decide_true, Bool.not_true, Bool.or_false] at hQ
      rw [← h2]
      exact hQ
    · simp only [Classical.not_not] at h
      have h2 : ¬ C = kt_then k C k := fun z => h2 (by rw [← z])
      rw [h] at hQ
      simp only [h2, decide_false, Bool.not_false, Bool.or_true] at hQ
      exact hQ
  · intro m hm ih v6 v7 es1 st1 i1 i2 i3 i4
    have hK1 := mK_fr hK i1
    have w0 := (i1 159 (by decide)).trans h0
    have g0 : ∀ e, ax_up es1 173 e 159 = _ := fun e => (ax_up_ne es1 e (by decide)).trans w0
    have y1 := i2.1
    obtain ⟨f1, -, -, f4⟩ := kx_ix hm hk (by decide)
    have e4 : nI k - 1 - nI m = nI (k - 1 - m) := by
      have e8 : nI k = nI (k - 1 - m) + nI m + 1 := by
        rw [kn_add, ← nI_succ]
        congr 1
        omega
      rw [e8, Int32.add_sub_cancel, Int32.add_sub_cancel]
    have e5 := kc_bit (C := C) (i := k - 1 - m) hC2 (by omega)
    have e6 : nI (kt_then k C m) ||| (nI (C.testBit (k - 1 - m)).toNat <<< (nI m &&& 31)) = nI (kt_then k C (m + 1)) := by
      rw [kt_then]
      cases C.testBit (k - 1 - m)
      · have : nI (Bool.toNat false) <<< (nI m &&& 31) = 0 := by
          have : ∀ m : Fin 12, nI (Bool.toNat false) <<< (nI m.val &&& 31) = 0 := by decide +kernel
          exact this ⟨m, by omega⟩
        rw [this, Int32.or_zero]
        rfl
      · have : nI (Bool.toNat true) <<< (nI m &&& 31) = nI (2 ^ m) := kc_shl (by omega)
        rw [this, fa_or, if_pos rfl]
    simp only [ax_W_cons, ax_I, ax_cmp, ax_ii, ax_ll, ax_li, ax_st1, ax_st2, ax_kl, ax_k2, ax_fit, ax_rtok, List.getElem?_cons_zero, List.getElem?_cons_succ, List.length_cons, List.length_nil, List.set_cons_zero, List.set_cons_succ, Nat.reduceAdd, Nat.reduceDiv, Nat.reduceMod, Nat.reduceMul, Nat.reduceLT, Nat.reduceLeDiff, Int32.reduceOfInt, Int64.reduceOfInt, true_and, and_true, and_self, true_or, or_true, false_implies, true_implies, not_false_eq_true, not_true_eq_false, Value.category, Nat.reduceEqDiff, Option.toList, List.cons_append, List.nil_append, List.drop_succ_cons, List.drop_zero, ax_qq_eq, ax_t_1462]
    refine ax_inv_of (Nat.le_of_ble_eq_true rfl) (Nat.le_of_ble_eq_true rfl) (fun _ => mO_rcv hal hK1.1 _) (fun h => absurd h (by decide)) (Nat.le_refl _) (Nat.le_refl _) (mk_cells hal hK1 ?_)
    simp only [ax_W_cons, ax_I, ax_cmp, ax_ii, ax_ll, ax_li, ax_st1, ax_st2, ax_kl, ax_k2, ax_fit, ax_rtok, List.getElem?_cons_zero, List.getElem?_cons_succ, List.length_cons, List.length_nil, List.set_cons_zero, List.set_cons_succ, Nat.reduceAdd, Nat.reduceDiv, Nat.reduceMod, Nat.reduceMul, Nat.reduceLT, Nat.reduceLeDiff, Int32.reduceOfInt, Int64.reduceOfInt, true_and, and_true, and_self, true_or, or_true, false_implies, true_implies, not_false_eq_true, not_true_eq_false, Value.category, Nat.reduceEqDiff, Option.toList, List.cons_append, List.nil_append, List.drop_succ_cons, List.drop_zero, ax_qq_eq, ax_t_1462, f1]
    refine ax_inv_of (Nat.le_of_ble_eq_true rfl) (Nat.le_of_ble_eq_true rfl) (fun _ => mO_rcv hal hK1.1 _) (fun h => absurd h (by decide)) (Nat.le_refl _) (Nat.le_refl _) (mk_cells hal hK1 ?_)
    by_cases hlt : m < k - 1 - m
    · have c1 : ¬ nI (k - 1 - m) ≤ nI m := nI_ge hlt (by omega)
      have a1 : nI b + 2 + nI m = nI (b + 2 + m) := by
        show nI b + nI 2 + nI m = _
        rw [kn_add, kn_add]
      have a2 : vp_in (nI (b + 2 + m)) 1196 := nI_in (by omega) (by decide)
      have a3 : (nI (b + 2 + m)).toNatClampNeg = b + 2 + m := nI_clamp (by omega)
      have b1 : nI b + 2 + nI (k - 1 - m) = nI (b + 2 + (k - 1 - m)) := by
        show nI b + nI 2 + nI (k - 1 - m) = _
        rw [kn_add, kn_add]
      have b2 : vp_in (nI (b + 2 + (k - 1 - m))) 1196 := nI_in (by omega) (by decide)
      have b3 : (nI (b + 2 + (k - 1 - m))).toNatClampNeg = b + 2 + (k - 1 - m) := nI_clamp (by omega)
      have hmin : min m (k / 2) = m := by omega
      have hmin2 : min (m + 1) (k / 2) = m + 1 := by omega
      rw [hmin] at i4
      rw [hmin2] at ih
      have d1 := i4.2.2.1 m (by omega)
      have d2 := i4.2.2.1 (k - 1 - m) (by omega)
      have d3 : kx_tsh k sh m m = sh m := kx_tsh_lo (Nat.le_refl _) (by omega)
      have d4 : kx_tsh k sh m (k - 1 - m) = sh (k - 1 - m) := kx_tsh_lo (by omega) (Nat.le_refl _)
      rw [d3] at d1
      rw [d4] at d2
      have i5 := mV_sh hk hp (mV_sh hk hp i4 (c := m) (by omega) (sh (k - 1 - m))) (c := k - 1 - m) (by omega) (sh m)
      have e7 := kx_tsh_step (k := k) (m := m) sh (by omega)
      rw [d3, d4] at e7
      rw [e7] at i5
      have ih := fun v6 v7 => ih v6 v7 _ _ (mfr_trans i1 (mfr_up es1 _)) (mX_up i2) (mfs_trans i3 (mfs_trans (mfs_up st1 (sh (k - 1 - m)) (j := b + 2 + m) (by omega)) (mfs_up _ (sh m) (j := b + 2 + (k - 1 - m)) (by omega)))) i5
      have ei : kt_is k sh (m + 1) = (kt_is k sh m || !decide (sh m = sh (k - 1 - m))) := by
        rw [kt_is]
        simp [hlt]
      rw [ei] at ih
      simp only [ax_W_cons, ax_I, ax_cmp, ax_ii, ax_ll, ax_li, ax_st1, ax_st2, ax_kl, ax_k2, ax_fit, ax_rtok, List.getElem?_cons_zero, List.getElem?_cons_succ, List.length_cons, List.length_nil, List.set_cons_zero, List.set_cons_succ, Nat.reduceAdd, Nat.reduceDiv, Nat.reduceMod, Nat.reduceMul, Nat.reduceLT, Nat.reduceLeDiff, Int32.reduceOfInt, Int64.reduceOfInt, true_and, and_true, and_self, true_or, or_true, false_implies, true_implies, not_false_eq_true, not_true_eq_false, Value.category, Nat.reduceEqDiff, Option.toList, List.cons_append, List.nil_append, List.drop_succ_cons, List.drop_zero, ax_qq_eq, ax_t_1462, ax_j_1462_90, ax_n_1462_90, ax_j_1462_94, ax_n_1462_94, ax_j_1462_95, ax_n_1462_95, ax_j_1462_132, ax_n_1462_132, w0, g0, y1, mo_f, hal, e4, e5, e6, c1, a1, a2, a3, b1, b2, b3, d1, d2, f4, ax_up_same, ax_up_up, kx_b0]
      simp only [ax_j_1462_17]
      refine ⟨fun h => ?_, fun h => ⟨fun h2 => ?_, fun h2 => ?_⟩⟩
      · have h : kt_is k sh m = true := by simpa using h
        rw [h] at ih
        exact ih _ _
      · simp only [Classical.not_not] at h
        rw [h] at ih
        simp only [h2, decide_true, Bool.not_true, Bool.or_false] at ih
        rw [h2]
        exact ih _ _
      · simp only [Classical.not_not] at h
        rw [h] at ih
        simp only [h2, decide_false, Bool.not_false, Bool.or_true] at ih
        exact ih _ _
    · have c1 : nI (k - 1 - m) ≤ nI m := nI_le (by omega) (by omega)
      have hmin : min (m + 1) (k / 2) = min m (k / 2) := by omega
      rw [hmin] at ih
      have ei : kt_is k sh (m + 1) = kt_is k sh m := by
        rw [kt_is]
        simp [hlt]
      rw [ei] at ih
      simp only [ax_W_cons, ax_I, ax_cmp, ax_ii, ax_ll, ax_li, ax_st1, ax_st2, ax_kl, ax_k2, ax_fit, ax_rtok, List.getElem?_cons_zero, List.getElem?_cons_succ, List.length_cons, List.length_nil, List.set_cons_zero, List.set_cons_succ, Nat.reduceAdd, Nat.reduceDiv, Nat.reduceMod, Nat.reduceMul, Nat.reduceLT, Nat.reduceLeDiff, Int32.reduceOfInt, Int64.reduceOfInt, true_and, and_true, and_self, true_or, or_true, false_implies, true_implies, not_false_eq_true, not_true_eq_false, Value.category, Nat.reduceEqDiff, Option.toList, List.cons_append, List.nil_append, List.drop_succ_cons, List.drop_zero, ax_qq_eq, ax_t_1462, ax_j_1462_132, ax_n_1462_132, e4, e5, e6, c1, f4]
      rw [ax_j_1462_17]
      exact ih _ _ es1 st1 i1 i2 i3 i4
end MM
theorem kx_kp3 {w v : Nat} (hw : w ≤ 99) (hv : v ≤ 99) : kx_max 0 (kx_min 99 (nI w - nI v)) = if nI w = 0 then 0 else kx_max 0 (nI w - nI v) := by
  have : ∀ w v : Fin 100, kx_max 0 (kx_min 99 (nI w.val - nI v.val)) = if nI w.val = 0 then 0 else kx_max 0 (nI w.val - nI v.val) := by decide +kernel
  exact this ⟨w, by omega⟩ ⟨v, by omega⟩
